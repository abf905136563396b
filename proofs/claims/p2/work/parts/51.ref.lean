theorem i_mulr {a b : Int32} {k : Int} (hb : b.toInt = k) (h1 : -2147483648 ≤ a.toInt * k) (h2 : a.toInt * k < 2147483648) : (a * b).toInt = a.toInt * k := by
  rw [← hb] at h1 h2 ⊢
  exact i_mul h1 h2
theorem t_X8_signed (p0 : Int32) {B F : Int} {σ0 σ : zS} (h0 : yR8 B F σ0 σ) : yT (f_X8_signed p0 σ) (fun r τ => τ = σ ∧ (-32768 ≤ r.toInt ∧ r.toInt ≤ 32767)) := by
 unfold f_X8_signed
 have l_1 : (65535 : Int32).toInt = 65535 := rfl
 have a_2 := i_65535 p0
 refine q_lv (fun y_4 v_3 => ?_)
 have l_5 : (32768 : Int32).toInt = 32768 := rfl
 refine q_lt (fun h_6 => ?_) (fun h_6 => ?_)
 ·
  exact q_some ⟨rfl, by first | trivial | omega⟩
 ·
  have l_7 : (65536 : Int32).toInt = 65536 := rfl
  try have a_8 : (y_4 - (65536 : Int32)).toInt = y_4.toInt - (65536 : Int32).toInt := i_sub (by omega) (by omega)
  exact q_some ⟨rfl, by first | trivial | omega⟩
theorem lg_le (a b c : Int32) : (lg_cmp (a.toInt64 + b.toInt64) c.toInt64 ≤ 0) ↔ a.toInt + b.toInt ≤ c.toInt := by
  have a1 := i_lo a
  have a2 := i_hi a
  have b1 := i_lo b
  have b2 := i_hi b
  rw [lg_cmp_le, Int64.le_iff_toInt_le, Int64.toInt_add, Int32.toInt_toInt64, Int32.toInt_toInt64, Int32.toInt_toInt64]
  rw [Int.bmod_eq_of_le (by simp only [Nat.reducePow, Nat.reduceDiv]; omega) (by simp only [Nat.reducePow, Nat.reduceAdd, Nat.reduceDiv]; omega)]
theorem t_X8_isThere (p0 p1 : Int32) {B F : Int} {σ0 σ : zS} (h0 : yR8 B F σ0 σ) : yT (f_X8_isThere p0 p1 σ) (fun r τ => yR8 B F σ0 τ ∧ ((r.toInt = 0 ∧ (τ 45 12).toInt = 2) ∨ (r.toInt = 1 ∧ 0 ≤ p0.toInt ∧ p0.toInt + p1.toInt ≤ (σ 45 2).toInt ∧ (σ 45 2).toInt ≤ 2000 ∧ (τ 45 12).toInt = (σ 45 12).toInt))) := by
  unfold f_X8_isThere
  have l2 : (2 : Int32).toInt = 2 := rfl
  have l0 : (0 : Int32).toInt = 0 := rfl
  have l1 : (1 : Int32).toInt = 1 := rfl
  have g := e_sz h0
  refine q_lt (fun h1 => ?_) (fun h1 => ?_)
  · refine q_zu8 h0 s_45_12 (fun s R E F => ?_)
    exact q_some ⟨R, Or.inl ⟨rfl, by omega⟩⟩
  · by_cases q : lg_cmp (p0.toInt64 + p1.toInt64) (σ 45 2).toInt64 ≤ 0
    · rw [if_pos q]
      rw [lg_le] at q
      exact q_some ⟨h0, Or.inr ⟨rfl, by omega, q, by omega, rfl⟩⟩
    · rw [if_neg q]
      refine q_zu8 h0 s_45_12 (fun s R E F => ?_)
      exact q_some ⟨R, Or.inl ⟨rfl, by omega⟩⟩
theorem t_X8_read (p0 : Int32) (p1 : Int32) {B F : Int} {σ0 σ : zS} (h0 : yR8 B F σ0 σ) : yT (f_X8_read p0 p1 σ) (fun r τ => yR8 B F σ0 τ ∧ (0 ≤ r.toInt ∧ r.toInt ≤ 65535)) := by
 unfold f_X8_read
 have l_1 : (0 : Int32).toInt = 0 := rfl
 refine q_eq (fun h_2 => ?_) (fun h_2 => ?_)
 ·
  have l_3 : (1 : Int32).toInt = 1 := rfl
  refine q_bindR (t_X8_isThere p0 (1 : Int32) h0) (fun r_4 s_5 R_6 p_7 => ?_)
  refine q_eq (fun h_8 => ?_) (fun h_8 => ?_)
  ·
   exact q_some ⟨R_6, by first | trivial | omega⟩
  ·
   refine q_eq (fun h_9 => ?_) (fun h_9 => ?_)
   ·
    refine q_c (by omega) (by omega) ?_
    have c_10 : p0.toNatClampNeg = p0.toInt.toNat := rfl
    have g_11 := c_46 R_6 p0.toNatClampNeg
    exact q_some ⟨R_6, by first | trivial | omega⟩
   ·
    refine q_c (by omega) (by omega) ?_
    try have a_12 : (p0 + (1 : Int32)).toInt = p0.toInt + (1 : Int32).toInt := i_add (by omega) (by omega)
    refine q_c (by omega) (by omega) ?_
    have c_13 : p0.toNatClampNeg = p0.toInt.toNat := rfl
    have g_14 := c_46 R_6 p0.toNatClampNeg
    have l_15 : (256 : Int32).toInt = 256 := rfl
    try have a_16 : ((s_5 46 p0.toNatClampNeg) * (256 : Int32)).toInt = (s_5 46 p0.toNatClampNeg).toInt * 256 := i_mulr rfl (by omega) (by omega)
    have c_17 : (p0 + (1 : Int32)).toNatClampNeg = (p0 + (1 : Int32)).toInt.toNat := rfl
    have g_18 := c_46 R_6 (p0 + (1 : Int32)).toNatClampNeg
    try have a_19 : (((s_5 46 p0.toNatClampNeg) * (256 : Int32)) + (s_5 46 (p0 + (1 : Int32)).toNatClampNeg)).toInt = ((s_5 46 p0.toNatClampNeg) * (256 : Int32)).toInt + (s_5 46 (p0 + (1 : Int32)).toNatClampNeg).toInt := i_add (by omega) (by omega)
    exact q_some ⟨R_6, by first | trivial | omega⟩
 ·
  have l_20 : (2 : Int32).toInt = 2 := rfl
  refine q_bindR (t_X8_isThere p0 (2 : Int32) h0) (fun r_21 s_22 R_23 p_24 => ?_)
  refine q_eq (fun h_25 => ?_) (fun h_25 => ?_)
  ·
   exact q_some ⟨R_23, by first | trivial | omega⟩
  ·
   refine q_eq (fun h_26 => ?_) (fun h_26 => ?_)
   ·
    refine q_c (by omega) (by omega) ?_
    have c_27 : p0.toNatClampNeg = p0.toInt.toNat := rfl
    have g_28 := c_46 R_23 p0.toNatClampNeg
    exact q_some ⟨R_23, by first | trivial | omega⟩
   ·
    refine q_c (by omega) (by omega) ?_
    have l_29 : (1 : Int32).toInt = 1 := rfl
    try have a_30 : (p0 + (1 : Int32)).toInt = p0.toInt + (1 : Int32).toInt := i_add (by omega) (by omega)
    refine q_c (by omega) (by omega) ?_
    have c_31 : p0.toNatClampNeg = p0.toInt.toNat := rfl
    have g_32 := c_46 R_23 p0.toNatClampNeg
    have l_33 : (256 : Int32).toInt = 256 := rfl
    try have a_34 : ((s_22 46 p0.toNatClampNeg) * (256 : Int32)).toInt = (s_22 46 p0.toNatClampNeg).toInt * 256 := i_mulr rfl (by omega) (by omega)
    have c_35 : (p0 + (1 : Int32)).toNatClampNeg = (p0 + (1 : Int32)).toInt.toNat := rfl
    have g_36 := c_46 R_23 (p0 + (1 : Int32)).toNatClampNeg
    try have a_37 : (((s_22 46 p0.toNatClampNeg) * (256 : Int32)) + (s_22 46 (p0 + (1 : Int32)).toNatClampNeg)).toInt = ((s_22 46 p0.toNatClampNeg) * (256 : Int32)).toInt + (s_22 46 (p0 + (1 : Int32)).toNatClampNeg).toInt := i_add (by omega) (by omega)
    exact q_some ⟨R_23, by first | trivial | omega⟩
set_option maxHeartbeats 4000000 in
set_option maxRecDepth 20000 in
theorem t_X8_write (p0 : Int32) (p1 : Int32) (p2 : Int32) (p3 : Int32) {B F : Int} {σ0 σ : zS} (h0 : yR8 B F σ0 σ) : yT (f_X8_write p0 p1 p2 p3 σ) (fun r τ => yR8 B F σ0 τ ∧ (True)) := by
 unfold f_X8_write
 have l_1 : (0 : Int32).toInt = 0 := rfl
 refine q_eq (fun h_2 => ?_) (fun h_2 => ?_)
 ·
  have l_3 : (1 : Int32).toInt = 1 := rfl
  refine q_bindR (t_X8_isThere p0 (1 : Int32) h0) (fun r_4 s_5 R_6 p_7 => ?_)
  refine q_eq (fun h_8 => ?_) (fun h_8 => ?_)
  ·
   exact q_some ⟨R_6, by first | trivial | omega⟩
  ·
   refine q_eq (fun h_9 => ?_) (fun h_9 => ?_)
   ·
    refine q_eq (fun h_10 => ?_) (fun h_10 => ?_)
    ·
     try have a_11 : (p0 + (0 : Int32)).toInt = p0.toInt + (0 : Int32).toInt := i_add (by omega) (by omega)
     have g_12 := e_sz R_6
     refine q_lt (fun h_13 => ?_) (fun h_13 => ?_)
     ·
      refine q_eq (fun h_14 => ?_) (fun h_14 => ?_)
      ·
       refine q_c (by omega) (by omega) ?_
       have c_19 : p0.toNatClampNeg = p0.toInt.toNat := rfl
       have l_20 : (255 : Int32).toInt = 255 := rfl
       have a_21 := i_255 p1
       refine q_zu8 R_6 (s_46 (by omega)) (fun s_15 R_16 E_17 F_18 => ?_)
       exact q_some ⟨R_16, by first | trivial | omega⟩
      ·
       refine q_c (by omega) (by omega) ?_
       have c_26 : p0.toNatClampNeg = p0.toInt.toNat := rfl
       have l_27 : (8 : Int32).toInt = 8 := rfl
       have l_28 : (31 : Int32).toInt = 31 := rfl
       have l_29 : (255 : Int32).toInt = 255 := rfl
       have a_30 := i_255 (p1 >>> ((8 : Int32) &&& (31 : Int32)))
       refine q_zu8 R_6 (s_46 (by omega)) (fun s_22 R_23 E_24 F_25 => ?_)
       try have a_31 : (p0 + (1 : Int32)).toInt = p0.toInt + (1 : Int32).toInt := i_add (by omega) (by omega)
       refine q_c (by omega) (by omega) ?_
       have c_36 : (p0 + (1 : Int32)).toNatClampNeg = (p0 + (1 : Int32)).toInt.toNat := rfl
       have a_37 := i_255 p1
       refine q_zu8 R_23 (s_46 (by omega)) (fun s_32 R_33 E_34 F_35 => ?_)
       exact q_some ⟨R_33, by first | trivial | omega⟩
     ·
      refine q_zu8 R_6 s_45_12 (fun s_38 R_39 E_40 F_41 => ?_)
      exact q_some ⟨R_39, by first | trivial | omega⟩
    ·
     try have a_42 : (p0 + (1 : Int32)).toInt = p0.toInt + (1 : Int32).toInt := i_add (by omega) (by omega)
     have g_43 := e_sz R_6
     refine q_lt (fun h_44 => ?_) (fun h_44 => ?_)
     ·
      refine q_eq (fun h_45 => ?_) (fun h_45 => ?_)
      ·
       refine q_c (by omega) (by omega) ?_
       have c_50 : p0.toNatClampNeg = p0.toInt.toNat := rfl
       have l_51 : (255 : Int32).toInt = 255 := rfl
       have a_52 := i_255 p1
       refine q_zu8 R_6 (s_46 (by omega)) (fun s_46 R_47 E_48 F_49 => ?_)
       exact q_some ⟨R_47, by first | trivial | omega⟩
      ·
       refine q_c (by omega) (by omega) ?_
       have c_57 : p0.toNatClampNeg = p0.toInt.toNat := rfl
       have l_58 : (8 : Int32).toInt = 8 := rfl
       have l_59 : (31 : Int32).toInt = 31 := rfl
       have l_60 : (255 : Int32).toInt = 255 := rfl
       have a_61 := i_255 (p1 >>> ((8 : Int32) &&& (31 : Int32)))
       refine q_zu8 R_6 (s_46 (by omega)) (fun s_53 R_54 E_55 F_56 => ?_)
       refine q_c (by omega) (by omega) ?_
       have c_66 : (p0 + (1 : Int32)).toNatClampNeg = (p0 + (1 : Int32)).toInt.toNat := rfl
       have a_67 := i_255 p1
       refine q_zu8 R_54 (s_46 (by omega)) (fun s_62 R_63 E_64 F_65 => ?_)
       exact q_some ⟨R_63, by first | trivial | omega⟩
     ·
      refine q_zu8 R_6 s_45_12 (fun s_68 R_69 E_70 F_71 => ?_)
      exact q_some ⟨R_69, by first | trivial | omega⟩
   ·
    refine q_eq (fun h_72 => ?_) (fun h_72 => ?_)
    ·
     refine q_c (by omega) (by omega) ?_
     have c_77 : p0.toNatClampNeg = p0.toInt.toNat := rfl
     have l_78 : (255 : Int32).toInt = 255 := rfl
     have a_79 := i_255 p1
     refine q_zu8 R_6 (s_46 (by omega)) (fun s_73 R_74 E_75 F_76 => ?_)
     exact q_some ⟨R_74, by first | trivial | omega⟩
    ·
     refine q_c (by omega) (by omega) ?_
     have c_84 : p0.toNatClampNeg = p0.toInt.toNat := rfl
     have l_85 : (8 : Int32).toInt = 8 := rfl
     have l_86 : (31 : Int32).toInt = 31 := rfl
     have l_87 : (255 : Int32).toInt = 255 := rfl
     have a_88 := i_255 (p1 >>> ((8 : Int32) &&& (31 : Int32)))
     refine q_zu8 R_6 (s_46 (by omega)) (fun s_80 R_81 E_82 F_83 => ?_)
     try have a_89 : (p0 + (1 : Int32)).toInt = p0.toInt + (1 : Int32).toInt := i_add (by omega) (by omega)
     refine q_c (by omega) (by omega) ?_
     have c_94 : (p0 + (1 : Int32)).toNatClampNeg = (p0 + (1 : Int32)).toInt.toNat := rfl
     have a_95 := i_255 p1
     refine q_zu8 R_81 (s_46 (by omega)) (fun s_90 R_91 E_92 F_93 => ?_)
     exact q_some ⟨R_91, by first | trivial | omega⟩
 ·
  have l_96 : (2 : Int32).toInt = 2 := rfl
  refine q_bindR (t_X8_isThere p0 (2 : Int32) h0) (fun r_97 s_98 R_99 p_100 => ?_)
  refine q_eq (fun h_101 => ?_) (fun h_101 => ?_)
  ·
   exact q_some ⟨R_99, by first | trivial | omega⟩
  ·
   refine q_eq (fun h_102 => ?_) (fun h_102 => ?_)
   ·
    refine q_eq (fun h_103 => ?_) (fun h_103 => ?_)
    ·
     try have a_104 : (p0 + (0 : Int32)).toInt = p0.toInt + (0 : Int32).toInt := i_add (by omega) (by omega)
     have g_105 := e_sz R_99
     refine q_lt (fun h_106 => ?_) (fun h_106 => ?_)
     ·
      refine q_eq (fun h_107 => ?_) (fun h_107 => ?_)
      ·
       refine q_c (by omega) (by omega) ?_
       have c_112 : p0.toNatClampNeg = p0.toInt.toNat := rfl
       have l_113 : (255 : Int32).toInt = 255 := rfl
       have a_114 := i_255 p1
       refine q_zu8 R_99 (s_46 (by omega)) (fun s_108 R_109 E_110 F_111 => ?_)
       exact q_some ⟨R_109, by first | trivial | omega⟩
      ·
       refine q_c (by omega) (by omega) ?_
       have c_119 : p0.toNatClampNeg = p0.toInt.toNat := rfl
       have l_120 : (8 : Int32).toInt = 8 := rfl
       have l_121 : (31 : Int32).toInt = 31 := rfl
       have l_122 : (255 : Int32).toInt = 255 := rfl
       have a_123 := i_255 (p1 >>> ((8 : Int32) &&& (31 : Int32)))
       refine q_zu8 R_99 (s_46 (by omega)) (fun s_115 R_116 E_117 F_118 => ?_)
       have l_124 : (1 : Int32).toInt = 1 := rfl
       try have a_125 : (p0 + (1 : Int32)).toInt = p0.toInt + (1 : Int32).toInt := i_add (by omega) (by omega)
       refine q_c (by omega) (by omega) ?_
       have c_130 : (p0 + (1 : Int32)).toNatClampNeg = (p0 + (1 : Int32)).toInt.toNat := rfl
       have a_131 := i_255 p1
       refine q_zu8 R_116 (s_46 (by omega)) (fun s_126 R_127 E_128 F_129 => ?_)
       exact q_some ⟨R_127, by first | trivial | omega⟩
     ·
      refine q_zu8 R_99 s_45_12 (fun s_132 R_133 E_134 F_135 => ?_)
      exact q_some ⟨R_133, by first | trivial | omega⟩
    ·
     have l_136 : (1 : Int32).toInt = 1 := rfl
     try have a_137 : (p0 + (1 : Int32)).toInt = p0.toInt + (1 : Int32).toInt := i_add (by omega) (by omega)
     have g_138 := e_sz R_99
     refine q_lt (fun h_139 => ?_) (fun h_139 => ?_)
     ·
      refine q_eq (fun h_140 => ?_) (fun h_140 => ?_)
      ·
       refine q_c (by omega) (by omega) ?_
       have c_145 : p0.toNatClampNeg = p0.toInt.toNat := rfl
       have l_146 : (255 : Int32).toInt = 255 := rfl
       have a_147 := i_255 p1
       refine q_zu8 R_99 (s_46 (by omega)) (fun s_141 R_142 E_143 F_144 => ?_)
       exact q_some ⟨R_142, by first | trivial | omega⟩
      ·
       refine q_c (by omega) (by omega) ?_
       have c_152 : p0.toNatClampNeg = p0.toInt.toNat := rfl
       have l_153 : (8 : Int32).toInt = 8 := rfl
       have l_154 : (31 : Int32).toInt = 31 := rfl
       have l_155 : (255 : Int32).toInt = 255 := rfl
       have a_156 := i_255 (p1 >>> ((8 : Int32) &&& (31 : Int32)))
       refine q_zu8 R_99 (s_46 (by omega)) (fun s_148 R_149 E_150 F_151 => ?_)
       refine q_c (by omega) (by omega) ?_
       have c_161 : (p0 + (1 : Int32)).toNatClampNeg = (p0 + (1 : Int32)).toInt.toNat := rfl
       have a_162 := i_255 p1
       refine q_zu8 R_149 (s_46 (by omega)) (fun s_157 R_158 E_159 F_160 => ?_)
       exact q_some ⟨R_158, by first | trivial | omega⟩
     ·
      refine q_zu8 R_99 s_45_12 (fun s_163 R_164 E_165 F_166 => ?_)
      exact q_some ⟨R_164, by first | trivial | omega⟩
   ·
    refine q_eq (fun h_167 => ?_) (fun h_167 => ?_)
    ·
     refine q_c (by omega) (by omega) ?_
     have c_172 : p0.toNatClampNeg = p0.toInt.toNat := rfl
     have l_173 : (255 : Int32).toInt = 255 := rfl
     have a_174 := i_255 p1
     refine q_zu8 R_99 (s_46 (by omega)) (fun s_168 R_169 E_170 F_171 => ?_)
     exact q_some ⟨R_169, by first | trivial | omega⟩
    ·
     refine q_c (by omega) (by omega) ?_
     have c_179 : p0.toNatClampNeg = p0.toInt.toNat := rfl
     have l_180 : (8 : Int32).toInt = 8 := rfl
     have l_181 : (31 : Int32).toInt = 31 := rfl
     have l_182 : (255 : Int32).toInt = 255 := rfl
     have a_183 := i_255 (p1 >>> ((8 : Int32) &&& (31 : Int32)))
     refine q_zu8 R_99 (s_46 (by omega)) (fun s_175 R_176 E_177 F_178 => ?_)
     have l_184 : (1 : Int32).toInt = 1 := rfl
     try have a_185 : (p0 + (1 : Int32)).toInt = p0.toInt + (1 : Int32).toInt := i_add (by omega) (by omega)
     refine q_c (by omega) (by omega) ?_
     have c_190 : (p0 + (1 : Int32)).toNatClampNeg = (p0 + (1 : Int32)).toInt.toNat := rfl
     have a_191 := i_255 p1
     refine q_zu8 R_176 (s_46 (by omega)) (fun s_186 R_187 E_188 F_189 => ?_)
     exact q_some ⟨R_187, by first | trivial | omega⟩
theorem t_X8_shifted_L43 {B F : Int} {σ0 : zS} : ∀ (n : Nat) (x0 x1 x2 x3 x4 x5 : Int32) (σ : zS), (x3.toInt - x5.toInt).toNat < n → (0 ≤ x5.toInt) → yR8 B F σ0 σ → yT (f_X8_shifted_L43 n x0 x1 x2 x3 x4 x5 σ) (fun r τ => τ = σ ∧ (True)) := by
 intro n
 induction n with
 | zero => intro x0 x1 x2 x3 x4 x5 σ hm; omega
 | succ n ih =>
  intro x0 x1 x2 x3 x4 x5 σ hm hv h0
  rw [f_X8_shifted_L43]
  have bx3 := i_hi x3
  have bx5 := i_hi x5
  refine q_le (fun h_1 => ?_) (fun h_1 => ?_)
  ·
   refine q_bindp (t_X8_signed x4 h0) (fun r_2 p_3 => ?_)
   exact q_some ⟨rfl, by first | trivial | omega⟩
  ·
   have l_4 : (0 : Int32).toInt = 0 := rfl
   refine q_le (fun h_5 => ?_) (fun h_5 => ?_)
   ·
    have l_6 : (1 : Int32).toInt = 1 := rfl
    have l_7 : (31 : Int32).toInt = 31 := rfl
    refine q_lv (fun y_9 v_8 => ?_)
    try have a_10 : (x5 + (1 : Int32)).toInt = x5.toInt + (1 : Int32).toInt := i_add (by omega) (by omega)
    exact ih x0 x1 x2 x3 y_9 (x5 + (1 : Int32)) σ (by omega) (by omega) h0
   ·
    have l_11 : (2 : Int32).toInt = 2 := rfl
    try have a_12 : (x4 * (2 : Int32)).toInt = x4.toInt * 2 := i_mulr rfl (by omega) (by omega)
    refine q_lv (fun y_14 v_13 => ?_)
    have l_15 : (1 : Int32).toInt = 1 := rfl
    try have a_16 : (x5 + (1 : Int32)).toInt = x5.toInt + (1 : Int32).toInt := i_add (by omega) (by omega)
    exact ih x0 x1 x2 x3 y_14 (x5 + (1 : Int32)) σ (by omega) (by omega) h0
theorem t_X8_shifted (p0 : Int32) (p1 : Int32) (p2 : Int32) {B F : Int} {σ0 σ : zS} (h0 : yR8 B F σ0 σ) : yT (f_X8_shifted p0 p1 p2 σ) (fun r τ => τ = σ ∧ (True)) := by
 unfold f_X8_shifted
 have l_1 : (0 : Int32).toInt = 0 := rfl
 refine q_le (fun h_2 => ?_) (fun h_2 => ?_)
 ·
  have l_3 : (15 : Int32).toInt = 15 := rfl
  refine q_le (fun h_4 => ?_) (fun h_4 => ?_)
  ·
   refine q_eq (fun h_5 => ?_) (fun h_5 => ?_)
   ·
    have l_6 : (65535 : Int32).toInt = 65535 := rfl
    have a_7 := i_65535 p1
    refine q_lv (fun y_9 v_8 => ?_)
    refine q_w (t_X8_shifted_L43  zF p0 p1 p2 p2 y_9 (0 : Int32) σ (by rw [zF_eq]; omega) (by omega) h0) (fun _ _ h => h)
   ·
    refine q_w (t_X8_shifted_L43  zF p0 p1 p2 p2 p1 (0 : Int32) σ (by rw [zF_eq]; omega) (by omega) h0) (fun _ _ h => h)
  ·
   refine q_eq (fun h_10 => ?_) (fun h_10 => ?_)
   ·
    exact q_some ⟨rfl, by first | trivial | omega⟩
   ·
    refine q_eq (fun h_11 => ?_) (fun h_11 => ?_)
    ·
     have l_12 : (65535 : Int32).toInt = 65535 := rfl
     have a_13 := i_65535 p1
     refine q_lv (fun y_15 v_14 => ?_)
     refine q_w (t_X8_shifted_L43  zF p0 p1 p2 (15 : Int32) y_15 (0 : Int32) σ (by rw [zF_eq]; omega) (by omega) h0) (fun _ _ h => h)
    ·
     refine q_w (t_X8_shifted_L43  zF p0 p1 p2 (15 : Int32) p1 (0 : Int32) σ (by rw [zF_eq]; omega) (by omega) h0) (fun _ _ h => h)
 ·
  try have a_16 : (-p2).toInt = - p2.toInt := i_neg (by omega)
  have l_17 : (15 : Int32).toInt = 15 := rfl
  refine q_le (fun h_18 => ?_) (fun h_18 => ?_)
  ·
   refine q_eq (fun h_19 => ?_) (fun h_19 => ?_)
   ·
    have l_20 : (65535 : Int32).toInt = 65535 := rfl
    have a_21 := i_65535 p1
    refine q_lv (fun y_23 v_22 => ?_)
    refine q_w (t_X8_shifted_L43  zF p0 p1 p2 (-p2) y_23 (0 : Int32) σ (by rw [zF_eq]; omega) (by omega) h0) (fun _ _ h => h)
   ·
    refine q_w (t_X8_shifted_L43  zF p0 p1 p2 (-p2) p1 (0 : Int32) σ (by rw [zF_eq]; omega) (by omega) h0) (fun _ _ h => h)
  ·
   refine q_eq (fun h_24 => ?_) (fun h_24 => ?_)
   ·
    exact q_some ⟨rfl, by first | trivial | omega⟩
   ·
    refine q_eq (fun h_25 => ?_) (fun h_25 => ?_)
    ·
     have l_26 : (65535 : Int32).toInt = 65535 := rfl
     have a_27 := i_65535 p1
     refine q_lv (fun y_29 v_28 => ?_)
     refine q_w (t_X8_shifted_L43  zF p0 p1 p2 (15 : Int32) y_29 (0 : Int32) σ (by rw [zF_eq]; omega) (by omega) h0) (fun _ _ h => h)
    ·
     refine q_w (t_X8_shifted_L43  zF p0 p1 p2 (15 : Int32) p1 (0 : Int32) σ (by rw [zF_eq]; omega) (by omega) h0) (fun _ _ h => h)
theorem t_X8_worked (p0 : Int32) (p1 : Int32) (p2 : Int32) {B F : Int} {σ0 σ : zS} (h0 : yR8 B F σ0 σ) : yT (f_X8_worked p0 p1 p2 σ) (fun r τ => yR8 B F σ0 τ ∧ (True)) := by
 unfold f_X8_worked
 have l_1 : (0 : Int32).toInt = 0 := rfl
 refine q_eq (fun h_2 => ?_) (fun h_2 => ?_)
 ·
  refine q_bindp (t_X8_signed (p1 + p2) h0) (fun r_3 p_4 => ?_)
  exact q_some ⟨h0, by first | trivial | omega⟩
 ·
  have l_5 : (1 : Int32).toInt = 1 := rfl
  refine q_eq (fun h_6 => ?_) (fun h_6 => ?_)
  ·
   refine q_bindp (t_X8_signed (p1 - p2) h0) (fun r_7 p_8 => ?_)
   exact q_some ⟨h0, by first | trivial | omega⟩
  ·
   have l_9 : (2 : Int32).toInt = 2 := rfl
   refine q_eq (fun h_10 => ?_) (fun h_10 => ?_)
   ·
    refine q_bindp (t_X8_signed (p1 * p2) h0) (fun r_11 p_12 => ?_)
    exact q_some ⟨h0, by first | trivial | omega⟩
   ·
    have l_13 : (3 : Int32).toInt = 3 := rfl
    refine q_eq (fun h_14 => ?_) (fun h_14 => ?_)
    ·
     refine q_eq (fun h_15 => ?_) (fun h_15 => ?_)
     ·
      refine q_zu8 h0 s_45_12 (fun s_16 R_17 E_18 F_19 => ?_)
      exact q_some ⟨R_17, by first | trivial | omega⟩
     ·
      refine q_eq (fun h_20 => ?_) (fun h_20 => ?_)
      ·
       refine q_d (by omega) ?_
       refine q_bindp (t_X8_signed (p1 / p2) h0) (fun r_21 p_22 => ?_)
       exact q_some ⟨h0, by first | trivial | omega⟩
      ·
       refine q_d (by omega) ?_
       refine q_bindp (t_X8_signed (p1 - ((p1 / p2) * p2)) h0) (fun r_23 p_24 => ?_)
       exact q_some ⟨h0, by first | trivial | omega⟩
    ·
     have l_25 : (4 : Int32).toInt = 4 := rfl
     refine q_eq (fun h_26 => ?_) (fun h_26 => ?_)
     ·
      refine q_eq (fun h_27 => ?_) (fun h_27 => ?_)
      ·
       refine q_zu8 h0 s_45_12 (fun s_28 R_29 E_30 F_31 => ?_)
       exact q_some ⟨R_29, by first | trivial | omega⟩
      ·
       refine q_eq (fun h_32 => ?_) (fun h_32 => ?_)
       ·
        refine q_d (by omega) ?_
        refine q_bindp (t_X8_signed (p1 / p2) h0) (fun r_33 p_34 => ?_)
        exact q_some ⟨h0, by first | trivial | omega⟩
       ·
        refine q_d (by omega) ?_
        refine q_bindp (t_X8_signed (p1 - ((p1 / p2) * p2)) h0) (fun r_35 p_36 => ?_)
        exact q_some ⟨h0, by first | trivial | omega⟩
     ·
      have l_37 : (5 : Int32).toInt = 5 := rfl
      refine q_eq (fun h_38 => ?_) (fun h_38 => ?_)
      ·
       exact q_some ⟨h0, by first | trivial | omega⟩
      ·
       have l_39 : (6 : Int32).toInt = 6 := rfl
       refine q_eq (fun h_40 => ?_) (fun h_40 => ?_)
       ·
        exact q_some ⟨h0, by first | trivial | omega⟩
       ·
        have l_41 : (7 : Int32).toInt = 7 := rfl
        refine q_eq (fun h_42 => ?_) (fun h_42 => ?_)
        ·
         exact q_some ⟨h0, by first | trivial | omega⟩
        ·
         have l_43 : (8 : Int32).toInt = 8 := rfl
         refine q_eq (fun h_44 => ?_) (fun h_44 => ?_)
         ·
          refine q_bindp (t_X8_shifted (1 : Int32) p1 p2 h0) (fun r_45 p_46 => ?_)
          exact q_some ⟨h0, by first | trivial | omega⟩
         ·
          refine q_bindp (t_X8_shifted (0 : Int32) p1 p2 h0) (fun r_47 p_48 => ?_)
          exact q_some ⟨h0, by first | trivial | omega⟩
theorem t_X8_copied_L218 {B F : Int} {σ0 : zS} : ∀ (n : Nat) (x1 x2 x3 x4 x5 : Int32) (σ : zS), (x4.toInt - x5.toInt).toNat < n → (0 ≤ x5.toInt ∧ ((σ 45 12).toInt ≠ 0 ∨ (0 ≤ x2.toInt ∧ x2.toInt + x4.toInt ≤ 2000 ∧ x4.toInt ≤ 2000))) → yR8 B F σ0 σ → yT (f_X8_copied_L218 n x1 x2 x3 x4 x5 σ) (fun r τ => yR8 B F σ0 τ ∧ (True)) := by
 intro n
 induction n with
 | zero => intro x1 x2 x3 x4 x5 σ hm; omega
 | succ n ih =>
  intro x1 x2 x3 x4 x5 σ hm hv h0
  rw [f_X8_copied_L218]
  have bx4 := i_hi x4
  have bx5 := i_hi x5
  refine q_le (fun h_1 => ?_) (fun h_1 => ?_)
  ·
   exact q_some ⟨h0, by first | trivial | omega⟩
  ·
   have l_2 : (0 : Int32).toInt = 0 := rfl
   refine q_eq (fun h_3 => ?_) (fun h_3 => ?_)
   ·
    refine q_c (by omega) (by omega) ?_
    try have a_4 : (x2 + x5).toInt = x2.toInt + x5.toInt := i_add (by omega) (by omega)
    refine q_c (by omega) (by omega) ?_
    have c_9 : (x2 + x5).toNatClampNeg = (x2 + x5).toInt.toNat := rfl
    have c_10 : x5.toNatClampNeg = x5.toInt.toNat := rfl
    have g_11 := c_48 h0 x5.toNatClampNeg
    refine q_zu8 h0 (s_46 (by omega)) (fun s_5 R_6 E_7 F_8 => ?_)
    have l_12 : (1 : Int32).toInt = 1 := rfl
    try have a_13 : (x5 + (1 : Int32)).toInt = x5.toInt + (1 : Int32).toInt := i_add (by omega) (by omega)
    have e_14 : (s_5 45 12).toInt = (σ 45 12).toInt := congrArg Int32.toInt (F_8 _ _ (by omega))
    exact ih x1 x2 x3 x4 (x5 + (1 : Int32)) s_5 (by omega) (by omega) R_6
   ·
    exact q_some ⟨h0, by first | trivial | omega⟩
theorem t_X8_copied_L179 {B F : Int} {σ0 : zS} : ∀ (n : Nat) (x1 x2 x3 x4 x5 : Int32) (σ : zS), (x4.toInt - x5.toInt).toNat < n → (0 ≤ x5.toInt ∧ x4.toInt < 100000 ∧ ((σ 45 12).toInt ≠ 0 ∨ (0 ≤ x2.toInt ∧ x2.toInt + x4.toInt ≤ 2000 ∧ x4.toInt ≤ 2000 ∧ 0 ≤ x1.toInt ∧ x1.toInt + x4.toInt ≤ 2000))) → yR8 B F σ0 σ → yT (f_X8_copied_L179 n x1 x2 x3 x4 x5 σ) (fun r τ => yR8 B F σ0 τ ∧ (True)) := by
 intro n
 induction n with
 | zero => intro x1 x2 x3 x4 x5 σ hm; omega
 | succ n ih =>
  intro x1 x2 x3 x4 x5 σ hm hv h0
  rw [f_X8_copied_L179]
  have bx4 := i_hi x4
  have bx5 := i_hi x5
  refine q_le (fun h_1 => ?_) (fun h_1 => ?_)
  ·
   have l_2 : (0 : Int32).toInt = 0 := rfl
   refine q_w (t_X8_copied_L218  zF x1 x2 x3 x4 (0 : Int32) σ (by rw [zF_eq]; omega) (by omega) h0) (fun _ _ h => h)
  ·
   have l_3 : (0 : Int32).toInt = 0 := rfl
   refine q_eq (fun h_4 => ?_) (fun h_4 => ?_)
   ·
    try have a_5 : (x1 + x5).toInt = x1.toInt + x5.toInt := i_add (by omega) (by omega)
    refine q_c (by omega) (by omega) ?_
    refine q_c (by omega) (by omega) ?_
    have c_10 : x5.toNatClampNeg = x5.toInt.toNat := rfl
    have c_11 : (x1 + x5).toNatClampNeg = (x1 + x5).toInt.toNat := rfl
    have g_12 := c_46 h0 (x1 + x5).toNatClampNeg
    refine q_zu8 h0 (s_48 (by omega)) (fun s_6 R_7 E_8 F_9 => ?_)
    have l_13 : (1 : Int32).toInt = 1 := rfl
    try have a_14 : (x5 + (1 : Int32)).toInt = x5.toInt + (1 : Int32).toInt := i_add (by omega) (by omega)
    have e_15 : (s_6 45 12).toInt = (σ 45 12).toInt := congrArg Int32.toInt (F_9 _ _ (by omega))
    exact ih x1 x2 x3 x4 (x5 + (1 : Int32)) s_6 (by omega) (by omega) R_7
   ·
    refine q_w (t_X8_copied_L218  zF x1 x2 x3 x4 (0 : Int32) σ (by rw [zF_eq]; omega) (by omega) h0) (fun _ _ h => h)
theorem t_X8_copied_L89 {B F : Int} {σ0 : zS} : ∀ (n : Nat) (x1 x2 x3 x4 x5 : Int32) (σ : zS), (x4.toInt - x5.toInt).toNat < n → (0 ≤ x5.toInt) → yR8 B F σ0 σ → yT (f_X8_copied_L89 n x1 x2 x3 x4 x5 σ) (fun r τ => yR8 B F σ0 τ ∧ (True)) := by
 intro n
 induction n with
 | zero => intro x1 x2 x3 x4 x5 σ hm; omega
 | succ n ih =>
  intro x1 x2 x3 x4 x5 σ hm hv h0
  rw [f_X8_copied_L89]
  have bx4 := i_hi x4
  have bx5 := i_hi x5
  refine q_le (fun h_1 => ?_) (fun h_1 => ?_)
  ·
   exact q_some ⟨h0, by first | trivial | omega⟩
  ·
   have l_2 : (0 : Int32).toInt = 0 := rfl
   refine q_eq (fun h_3 => ?_) (fun h_3 => ?_)
   ·
    refine q_bindR (t_X8_read (x1 + x5) (0 : Int32) h0) (fun r_4 s_5 R_6 p_7 => ?_)
    refine q_eq (fun h_8 => ?_) (fun h_8 => ?_)
    ·
     refine q_bindR (t_X8_write (x2 + x5) r_4 (0 : Int32) (0 : Int32) R_6) (fun r_9 s_10 R_11 p_12 => ?_)
     have l_13 : (1 : Int32).toInt = 1 := rfl
     try have a_14 : (x5 + (1 : Int32)).toInt = x5.toInt + (1 : Int32).toInt := i_add (by omega) (by omega)
     exact ih x1 x2 x3 x4 (x5 + (1 : Int32)) s_10 (by omega) (by omega) R_11
    ·
     have l_15 : (1 : Int32).toInt = 1 := rfl
     try have a_16 : (x5 + (1 : Int32)).toInt = x5.toInt + (1 : Int32).toInt := i_add (by omega) (by omega)
     exact ih x1 x2 x3 x4 (x5 + (1 : Int32)) s_5 (by omega) (by omega) R_6
   ·
    exact q_some ⟨h0, by first | trivial | omega⟩
theorem t_X8_copied_L51 {B F : Int} {σ0 : zS} : ∀ (n : Nat) (x1 x2 x3 x4 x5 : Int32) (σ : zS), (x4.toInt - x5.toInt).toNat < n → (0 ≤ x5.toInt ∧ ((σ 45 12).toInt ≠ 0 ∨ (0 ≤ x1.toInt ∧ x1.toInt + x4.toInt ≤ 2000))) → yR8 B F σ0 σ → yT (f_X8_copied_L51 n x1 x2 x3 x4 x5 σ) (fun r τ => yR8 B F σ0 τ ∧ (True)) := by
 intro n
 induction n with
 | zero => intro x1 x2 x3 x4 x5 σ hm; omega
 | succ n ih =>
  intro x1 x2 x3 x4 x5 σ hm hv h0
  rw [f_X8_copied_L51]
  have bx4 := i_hi x4
  have bx5 := i_hi x5
  refine q_le (fun h_1 => ?_) (fun h_1 => ?_)
  ·
   exact q_some ⟨h0, by first | trivial | omega⟩
  ·
   have l_2 : (0 : Int32).toInt = 0 := rfl
   refine q_eq (fun h_3 => ?_) (fun h_3 => ?_)
   ·
    try have a_4 : (x1 + x5).toInt = x1.toInt + x5.toInt := i_add (by omega) (by omega)
    refine q_c (by omega) (by omega) ?_
    have c_9 : (x1 + x5).toNatClampNeg = (x1 + x5).toInt.toNat := rfl
    refine q_zu8 h0 (s_46 (by omega)) (fun s_5 R_6 E_7 F_8 => ?_)
    have l_10 : (1 : Int32).toInt = 1 := rfl
    try have a_11 : (x5 + (1 : Int32)).toInt = x5.toInt + (1 : Int32).toInt := i_add (by omega) (by omega)
    have e_12 : (s_5 45 12).toInt = (σ 45 12).toInt := congrArg Int32.toInt (F_8 _ _ (by omega))
    exact ih x1 x2 x3 x4 (x5 + (1 : Int32)) s_5 (by omega) (by omega) R_6
   ·
    exact q_some ⟨h0, by first | trivial | omega⟩
theorem t_X8_copied (p0 : Int32) (p1 : Int32) (p2 : Int32) {B F : Int} {σ0 σ : zS} (h0 : yR8 B F σ0 σ) (hp : -100000 < p2.toInt ∧ p2.toInt < 100000) : yT (f_X8_copied p0 p1 p2 σ) (fun r τ => yR8 B F σ0 τ ∧ (True)) := by
 unfold f_X8_copied
 have l_1 : (0 : Int32).toInt = 0 := rfl
 refine q_le (fun h_2 => ?_) (fun h_2 => ?_)
 ·
  refine q_eq (fun h_3 => ?_) (fun h_3 => ?_)
  ·
   exact q_some ⟨h0, by first | trivial | omega⟩
  ·
   refine q_eq (fun h_4 => ?_) (fun h_4 => ?_)
   ·
    refine q_bindR (t_X8_isThere p0 p2 h0) (fun r_5 s_6 R_7 p_8 => ?_)
    refine q_eq (fun h_9 => ?_) (fun h_9 => ?_)
    ·
     refine q_w (t_X8_copied_L51  zF p0 p1 p2 p2 (0 : Int32) s_6 (by rw [zF_eq]; omega) (by omega) R_7) (fun _ _ h => h)
    ·
     try have a_10 : (p0 + p2).toInt = p0.toInt + p2.toInt := i_add (by omega) (by omega)
     have g_11 := e_sz R_7
     refine q_le (fun h_12 => ?_) (fun h_12 => ?_)
     ·
      refine q_w (t_X8_copied_L51  zF p0 p1 p2 p2 (0 : Int32) s_6 (by rw [zF_eq]; omega) (by omega) R_7) (fun _ _ h => h)
     ·
      refine q_zu8 R_7 s_45_12 (fun s_13 R_14 E_15 F_16 => ?_)
      have e_17 := E_15
      refine q_w (t_X8_copied_L51  zF p0 p1 p2 p2 (0 : Int32) s_13 (by rw [zF_eq]; omega) (by omega) R_14) (fun _ _ h => h)
   ·
    refine q_le (fun h_18 => ?_) (fun h_18 => ?_)
    ·
     refine q_bindR (t_X8_isThere p0 p2 h0) (fun r_19 s_20 R_21 p_22 => ?_)
     refine q_eq (fun h_23 => ?_) (fun h_23 => ?_)
     ·
      refine q_w (t_X8_copied_L179  zF p0 p1 p2 p2 (0 : Int32) s_20 (by rw [zF_eq]; omega) (by omega) R_21) (fun _ _ h => h)
     ·
      refine q_bindR (t_X8_isThere p1 p2 R_21) (fun r_24 s_25 R_26 p_27 => ?_)
      refine q_eq (fun h_28 => ?_) (fun h_28 => ?_)
      ·
       refine q_w (t_X8_copied_L179  zF p0 p1 p2 p2 (0 : Int32) s_25 (by rw [zF_eq]; omega) (by omega) R_26) (fun _ _ h => h)
      ·
       try have a_29 : (p1 + p2).toInt = p1.toInt + p2.toInt := i_add (by omega) (by omega)
       have g_30 := e_sz R_26
       refine q_le (fun h_31 => ?_) (fun h_31 => ?_)
       ·
        refine q_w (t_X8_copied_L179  zF p0 p1 p2 p2 (0 : Int32) s_25 (by rw [zF_eq]; omega) (by omega) R_26) (fun _ _ h => h)
       ·
        refine q_zu8 R_26 s_45_12 (fun s_32 R_33 E_34 F_35 => ?_)
        have e_36 := E_34
        refine q_w (t_X8_copied_L179  zF p0 p1 p2 p2 (0 : Int32) s_32 (by rw [zF_eq]; omega) (by omega) R_33) (fun _ _ h => h)
    ·
     refine q_w (t_X8_copied_L89  zF p0 p1 p2 p2 (0 : Int32) σ (by rw [zF_eq]; omega) (by omega) h0) (fun _ _ h => h)
 ·
  try have a_37 : (-p2).toInt = - p2.toInt := i_neg (by omega)
  refine q_eq (fun h_38 => ?_) (fun h_38 => ?_)
  ·
   exact q_some ⟨h0, by first | trivial | omega⟩
  ·
   refine q_eq (fun h_39 => ?_) (fun h_39 => ?_)
   ·
    refine q_bindR (t_X8_isThere p0 (-p2) h0) (fun r_40 s_41 R_42 p_43 => ?_)
    refine q_eq (fun h_44 => ?_) (fun h_44 => ?_)
    ·
     refine q_w (t_X8_copied_L51  zF p0 p1 p2 (-p2) (0 : Int32) s_41 (by rw [zF_eq]; omega) (by omega) R_42) (fun _ _ h => h)
    ·
     try have a_45 : (p0 + (-p2)).toInt = p0.toInt + (-p2).toInt := i_add (by omega) (by omega)
     have g_46 := e_sz R_42
     refine q_le (fun h_47 => ?_) (fun h_47 => ?_)
     ·
      refine q_w (t_X8_copied_L51  zF p0 p1 p2 (-p2) (0 : Int32) s_41 (by rw [zF_eq]; omega) (by omega) R_42) (fun _ _ h => h)
     ·
      refine q_zu8 R_42 s_45_12 (fun s_48 R_49 E_50 F_51 => ?_)
      have e_52 := E_50
      refine q_w (t_X8_copied_L51  zF p0 p1 p2 (-p2) (0 : Int32) s_48 (by rw [zF_eq]; omega) (by omega) R_49) (fun _ _ h => h)
   ·
    refine q_le (fun h_53 => ?_) (fun h_53 => ?_)
    ·
     refine q_bindR (t_X8_isThere p0 (-p2) h0) (fun r_54 s_55 R_56 p_57 => ?_)
     refine q_eq (fun h_58 => ?_) (fun h_58 => ?_)
     ·
      refine q_w (t_X8_copied_L179  zF p0 p1 p2 (-p2) (0 : Int32) s_55 (by rw [zF_eq]; omega) (by omega) R_56) (fun _ _ h => h)
     ·
      refine q_bindR (t_X8_isThere p1 (-p2) R_56) (fun r_59 s_60 R_61 p_62 => ?_)
      refine q_eq (fun h_63 => ?_) (fun h_63 => ?_)
      ·
       refine q_w (t_X8_copied_L179  zF p0 p1 p2 (-p2) (0 : Int32) s_60 (by rw [zF_eq]; omega) (by omega) R_61) (fun _ _ h => h)
      ·
       try have a_64 : (p1 + (-p2)).toInt = p1.toInt + (-p2).toInt := i_add (by omega) (by omega)
       have g_65 := e_sz R_61
       refine q_le (fun h_66 => ?_) (fun h_66 => ?_)
       ·
        refine q_w (t_X8_copied_L179  zF p0 p1 p2 (-p2) (0 : Int32) s_60 (by rw [zF_eq]; omega) (by omega) R_61) (fun _ _ h => h)
       ·
        refine q_zu8 R_61 s_45_12 (fun s_67 R_68 E_69 F_70 => ?_)
        have e_71 := E_69
        refine q_w (t_X8_copied_L179  zF p0 p1 p2 (-p2) (0 : Int32) s_67 (by rw [zF_eq]; omega) (by omega) R_68) (fun _ _ h => h)
    ·
     refine q_w (t_X8_copied_L89  zF p0 p1 p2 (-p2) (0 : Int32) σ (by rw [zF_eq]; omega) (by omega) h0) (fun _ _ h => h)
theorem t_X8_looked_L13 {B F : Int} {σ0 : zS} : ∀ (n : Nat) (x1 x2 x3 x4 x5 x6 x7 : Int32) (σ : zS), (x3.toInt - x7.toInt).toNat < n → (0 ≤ x7.toInt) → yR8 B F σ0 σ → yT (f_X8_looked_L13 n x1 x2 x3 x4 x5 x6 x7 σ) (fun r τ => yR8 B F σ0 τ ∧ (True)) := by
 intro n
 induction n with
 | zero => intro x1 x2 x3 x4 x5 x6 x7 σ hm; omega
 | succ n ih =>
  intro x1 x2 x3 x4 x5 x6 x7 σ hm hv h0
  rw [f_X8_looked_L13]
  have bx3 := i_hi x3
  have bx7 := i_hi x7
  refine q_le (fun h_1 => ?_) (fun h_1 => ?_)
  ·
   exact q_some ⟨h0, by first | trivial | omega⟩
  ·
   have l_2 : (128 : Int32).toInt = 128 := rfl
   refine q_lt (fun h_3 => ?_) (fun h_3 => ?_)
   ·
    refine q_bindR (t_X8_read x6 (0 : Int32) h0) (fun r_4 s_5 R_6 p_7 => ?_)
    have l_8 : (0 : Int32).toInt = 0 := rfl
    refine q_eq (fun h_9 => ?_) (fun h_9 => ?_)
    ·
     refine q_eq (fun h_10 => ?_) (fun h_10 => ?_)
     ·
      exact q_some ⟨R_6, by first | trivial | omega⟩
     ·
      try have a_11 : (x6 + x5).toInt = x6.toInt + x5.toInt := i_add (by omega) (by omega)
      have l_12 : (1 : Int32).toInt = 1 := rfl
      try have a_13 : (x7 + (1 : Int32)).toInt = x7.toInt + (1 : Int32).toInt := i_add (by omega) (by omega)
      exact ih x1 x2 x3 x4 x5 (x6 + x5) (x7 + (1 : Int32)) s_5 (by omega) (by omega) R_6
    ·
     exact q_some ⟨R_6, by first | trivial | omega⟩
   ·
    refine q_bindR (t_X8_read x6 (1 : Int32) h0) (fun r_14 s_15 R_16 p_17 => ?_)
    have l_18 : (0 : Int32).toInt = 0 := rfl
    refine q_eq (fun h_19 => ?_) (fun h_19 => ?_)
    ·
     refine q_eq (fun h_20 => ?_) (fun h_20 => ?_)
     ·
      exact q_some ⟨R_16, by first | trivial | omega⟩
     ·
      try have a_21 : (x6 + x5).toInt = x6.toInt + x5.toInt := i_add (by omega) (by omega)
      have l_22 : (1 : Int32).toInt = 1 := rfl
      try have a_23 : (x7 + (1 : Int32)).toInt = x7.toInt + (1 : Int32).toInt := i_add (by omega) (by omega)
      exact ih x1 x2 x3 x4 x5 (x6 + x5) (x7 + (1 : Int32)) s_15 (by omega) (by omega) R_16
    ·
     exact q_some ⟨R_16, by first | trivial | omega⟩
theorem t_X8_looked (p0 : Int32) (p1 : Int32) (p2 : Int32) (p3 : Int32) {B F : Int} {σ0 σ : zS} (h0 : yR8 B F σ0 σ) (hp : p2.toInt < 100000) : yT (f_X8_looked p0 p1 p2 p3 σ) (fun r τ => yR8 B F σ0 τ ∧ (True)) := by
 unfold f_X8_looked
 have l_1 : (127 : Int32).toInt = 127 := rfl
 have a_2 := i_127 p3
 refine q_lv (fun y_4 v_3 => ?_)
 have l_5 : (0 : Int32).toInt = 0 := rfl
 refine q_w (t_X8_looked_L13  zF p0 p1 p2 p3 y_4 p1 (0 : Int32) σ (by rw [zF_eq]; omega) (by omega) h0) (fun _ _ h => h)
theorem t_X8_drawn_L84 {B F : Int} {σ0 : zS} : ∀ (n : Nat) (x1 x2 x3 : Int32) (σ : zS), (50 - x3.toInt).toNat < n → (0 ≤ x3.toInt ∧ x1.toInt ≠ 0 ∧ (σ 45 11).toInt ≤ 49) → yR8 B F σ0 σ → yT (f_X8_drawn_L84 n x1 x2 x3 σ) (fun r τ => yR8 B F σ0 τ ∧ (True)) := by
 intro n
 induction n with
 | zero => intro x1 x2 x3 σ hm; omega
 | succ n ih =>
  intro x1 x2 x3 σ hm hv h0
  rw [f_X8_drawn_L84]
  have bx3 := i_hi x3
  have g_1 := e_11 h0
  refine q_le (fun h_2 => ?_) (fun h_2 => ?_)
  ·
   refine q_d (by omega) ?_
   exact q_some ⟨h0, by first | trivial | omega⟩
  ·
   have l_3 : (1 : Int32).toInt = 1 := rfl
   try have a_4 : (x3 + (1 : Int32)).toInt = x3.toInt + (1 : Int32).toInt := i_add (by omega) (by omega)
   refine q_c (by omega) (by omega) ?_
   refine q_c (by omega) (by omega) ?_
   have c_9 : x3.toNatClampNeg = x3.toInt.toNat := rfl
   refine q_zu8 h0 s_47 (fun s_5 R_6 E_7 F_8 => ?_)
   have g_10 := e_11 R_6
   have e_11 : (s_5 45 11).toInt = (σ 45 11).toInt := congrArg Int32.toInt (F_8 _ _ (by omega))
   exact ih x1 x2 (x3 + (1 : Int32)) s_5 (by omega) (by omega) R_6
theorem t_X8_drawn (p0 : Int32) {B F : Int} {σ0 σ : zS} (h0 : yR8 B F σ0 σ) : yT (f_X8_drawn p0 σ) (fun r τ => yR8 B F σ0 τ ∧ (True)) := by
 unfold f_X8_drawn
 have l_1 : (0 : Int32).toInt = 0 := rfl
 refine q_le (fun h_2 => ?_) (fun h_2 => ?_)
 ·
  refine q_eq (fun h_3 => ?_) (fun h_3 => ?_)
  ·
   refine q_zu8 h0 s_45_6 (fun s_4 R_5 E_6 F_7 => ?_)
   exact q_some ⟨R_5, by first | trivial | omega⟩
  ·
   have l_8 : (1000 : Int32).toInt = 1000 := rfl
   try have a_9 : (-p0).toInt = - p0.toInt := i_neg (by omega)
   refine q_le (fun h_10 => ?_) (fun h_10 => ?_)
   ·
    refine q_zu8 h0 s_45_6 (fun s_11 R_12 E_13 F_14 => ?_)
    refine q_zu8 R_12 s_45_7 (fun s_15 R_16 E_17 F_18 => ?_)
    exact q_some ⟨R_16, by first | trivial | omega⟩
   ·
    refine q_zu8 h0 s_45_6 (fun s_19 R_20 E_21 F_22 => ?_)
    refine q_zu8 R_20 s_45_8 (fun s_23 R_24 E_25 F_26 => ?_)
    refine q_zu8 R_24 s_45_9 (fun s_27 R_28 E_29 F_30 => ?_)
    exact q_some ⟨R_28, by first | trivial | omega⟩
 ·
  have l_31 : (1 : Int32).toInt = 1 := rfl
  refine q_eq (fun h_32 => ?_) (fun h_32 => ?_)
  ·
   refine q_d (by omega) ?_
   try have a_33 : ((σ 45 9) - (1 : Int32)).toInt = (σ 45 9).toInt - (1 : Int32).toInt := i_sub (by omega) (by omega)
   try have a_34 : (((σ 45 9) - (1 : Int32)) - ((((σ 45 9) - (1 : Int32)) / p0) * p0)).toInt = ((σ 45 9) - (1 : Int32)).toInt - ((((σ 45 9) - (1 : Int32)) / p0) * p0).toInt := i_sub (by omega) (by omega)
   try have a_35 : ((((σ 45 9) - (1 : Int32)) - ((((σ 45 9) - (1 : Int32)) / p0) * p0)) + (1 : Int32)).toInt = (((σ 45 9) - (1 : Int32)) - ((((σ 45 9) - (1 : Int32)) / p0) * p0)).toInt + (1 : Int32).toInt := i_add (by omega) (by omega)
   refine q_lv (fun y_37 v_36 => ?_)
   refine q_eq (fun h_38 => ?_) (fun h_38 => ?_)
   ·
    refine q_zu8 h0 s_45_9 (fun s_39 R_40 E_41 F_42 => ?_)
    exact q_some ⟨R_40, by first | trivial | omega⟩
   ·
    refine q_zu8 h0 s_45_9 (fun s_43 R_44 E_45 F_46 => ?_)
    exact q_some ⟨R_44, by first | trivial | omega⟩
  ·
   have l_47 : (2 : Int32).toInt = 2 := rfl
   refine q_eq (fun h_48 => ?_) (fun h_48 => ?_)
   ·
    have g_49 := e_11 h0
    refine q_le (fun h_50 => ?_) (fun h_50 => ?_)
    ·
     refine q_zu8 h0 s_45_7 (fun s_51 R_52 E_53 F_54 => ?_)
     refine q_d (by omega) ?_
     exact q_some ⟨R_52, by first | trivial | omega⟩
    ·
     refine q_c (by omega) (by omega) ?_
     have c_55 : (0 : Int32).toNatClampNeg = (0 : Int32).toInt.toNat := rfl
     refine q_lv (fun y_57 v_56 => ?_)
     try have a_62 : ((σ 45 11) - (1 : Int32)).toInt = (σ 45 11).toInt - (1 : Int32).toInt := i_sub (by omega) (by omega)
     refine q_zu8 h0 (s_45_11 (by omega)) (fun s_58 R_59 E_60 F_61 => ?_)
     have g_63 := e_11 R_59
     have e_64 := E_60
     refine q_w (t_X8_drawn_L84  zF p0 y_57 (0 : Int32) s_58 (by rw [zF_eq]; omega) (by omega) R_59) (fun _ _ h => h)
   ·
    refine q_zu8 h0 s_45_7 (fun s_65 R_66 E_67 F_68 => ?_)
    refine q_d (by omega) ?_
    exact q_some ⟨R_66, by first | trivial | omega⟩
theorem t_X8_top  {B F : Int} {σ0 σ : zS} (h0 : yR8 B F σ0 σ) : yT (f_X8_top  σ) (fun r τ => τ = σ ∧ (r.toInt = F - 1 ∧ F ≤ 12)) := by
 unfold f_X8_top
 have g_1 := e_22 h0
 have l_2 : (1 : Int32).toInt = 1 := rfl
 try have a_3 : ((σ 45 22) - (1 : Int32)).toInt = (σ 45 22).toInt - (1 : Int32).toInt := i_sub (by omega) (by omega)
 exact q_some ⟨rfl, by first | trivial | omega⟩
theorem t_X8_pop {B F : Int} {σ0 σ : zS} (h0 : yR8 B F σ0 σ) (hp : 1 ≤ F) : yT (f_X8_pop σ) (fun r τ => yR8 B F σ0 τ ∧ (0 ≤ r.toInt ∧ r.toInt ≤ 65535)) := by
  unfold f_X8_pop
  refine q_bindp (t_X8_top h0) (fun v hv => ?_)
  have g := e_22 h0
  refine q_c (by omega) (by omega) ?_
  have c : v.toNatClampNeg = v.toInt.toNat := rfl
  have g9 := e_59 h0 v.toNatClampNeg
  have g29 := e_29 h0
  refine q_eq (fun h1 => ?_) (fun h1 => ?_)
  · refine q_zu8 h0 s_45_12 (fun s R E F => ?_)
    exact q_some ⟨R, by decide, by decide⟩
  · have hb : (σ 59 v.toNatClampNeg).toInt ≤ (σ 45 29).toInt := g9.2.2 (by omega)
    have e : ((σ 45 29) - (1 : Int32)).toInt = (σ 45 29).toInt - 1 := i_m1 (by omega)
    have hm : ∀ j : Nat, (j : Int) < F → (σ 59 j).toInt ≤ ((σ 45 29) - (1 : Int32)).toInt := by
      intro j hj
      have q := (h0.2.2.2.1 j v.toNatClampNeg (by omega) (by omega)).1
      omega
    have R := R8_hi h0 (v := (σ 45 29) - (1 : Int32)) (by omega) hm
    show yT (zc (zu σ 45 29 ((σ 45 29) - (1 : Int32)) 45 29) 100 _) _
    have e2 : zu σ 45 29 ((σ 45 29) - (1 : Int32)) 45 29 = (σ 45 29) - (1 : Int32) := by rw [zu_rd, if_pos ⟨rfl, rfl⟩]
    refine q_c (by rw [e2]; omega) (by rw [e2]; omega) ?_
    exact q_some ⟨R, c_61 R _⟩
theorem t_X8_push (p0 : Int32) {B F : Int} {σ0 σ : zS} (h0 : yR8 B F σ0 σ) : yT (f_X8_push p0 σ) (fun _ τ => yR8 B F σ0 τ ∧ True) := by
  unfold f_X8_push
  have l : (100 : Int32).toInt = 100 := rfl
  have g29 := e_29 h0
  refine q_eq (fun h1 => ?_) (fun h1 => ?_)
  · refine q_zu8 h0 s_45_12 (fun s R E F => ?_)
    exact q_some ⟨R, trivial⟩
  · refine q_c (by omega) (by omega) ?_
    have hb := i_65535 p0
    refine q_zu8 h0 (s_61 (by omega)) (fun s R E Fr => ?_)
    have g := e_29 R
    have e0 : (s 45 29) = (σ 45 29) := Fr _ _ (by omega)
    have e : ((s 45 29) + (1 : Int32)).toInt = (s 45 29).toInt + 1 := i_1 (by omega)
    have hm : ∀ j : Nat, (j : Int) < F → (s 59 j).toInt ≤ ((s 45 29) + (1 : Int32)).toInt := by
      intro j hj
      have q := (e_59 R j).2.2 hj
      omega
    exact q_some ⟨R8_hi R (by rw [e, e0]; omega) hm, trivial⟩
theorem t_X8_isLocal (p0 : Int32) {B F : Int} {σ0 σ : zS} (h0 : yR8 B F σ0 σ) (hp : 1 ≤ F) : yT (f_X8_isLocal p0 σ) (fun r τ => yR8 B F σ0 τ ∧ (r.toInt = 0 ∨ (r.toInt = 1 ∧ p0.toInt ≤ 15))) := by
 unfold f_X8_isLocal
 refine q_bindp (t_X8_top  h0) (fun r_1 p_2 => ?_)
 refine q_c (by omega) (by omega) ?_
 have c_3 : r_1.toNatClampNeg = r_1.toInt.toNat := rfl
 have g_4 := c_56 h0 r_1.toNatClampNeg
 refine q_c (by omega) (by omega) ?_
 have c_5 : (σ 56 r_1.toNatClampNeg).toNatClampNeg = (σ 56 r_1.toNatClampNeg).toInt.toNat := rfl
 have g_6 := c_54 h0 (σ 56 r_1.toNatClampNeg).toNatClampNeg
 refine q_le (fun h_7 => ?_) (fun h_7 => ?_)
 ·
  have l_8 : (1 : Int32).toInt = 1 := rfl
  exact q_some ⟨h0, by first | trivial | omega⟩
 ·
  refine q_zu8 h0 s_45_12 (fun s_9 R_10 E_11 F_12 => ?_)
  have l_13 : (0 : Int32).toInt = 0 := rfl
  exact q_some ⟨R_10, by first | trivial | omega⟩
theorem t_X8_ask (p0 : Int32) {B F : Int} {σ0 σ : zS} (h0 : yR8 B F σ0 σ) (hp : 1 ≤ F ∧ 0 ≤ p0.toInt) : yT (f_X8_ask p0 σ) (fun r τ => yR8 B F σ0 τ ∧ (0 ≤ r.toInt ∧ r.toInt ≤ 65535)) := by
 unfold f_X8_ask
 have l_1 : (0 : Int32).toInt = 0 := rfl
 refine q_eq (fun h_2 => ?_) (fun h_2 => ?_)
 ·
  refine q_bindR (t_X8_pop  h0 (by omega)) (fun r_3 s_4 R_5 p_6 => ?_)
  exact q_some ⟨R_5, by first | trivial | omega⟩
 ·
  have l_7 : (16 : Int32).toInt = 16 := rfl
  refine q_le (fun h_8 => ?_) (fun h_8 => ?_)
  ·
   refine q_bindR (t_X8_read ((σ 45 4) + ((2 : Int32) * (p0 - (16 : Int32)))) (1 : Int32) h0) (fun r_9 s_10 R_11 p_12 => ?_)
   exact q_some ⟨R_11, by first | trivial | omega⟩
  ·
   refine q_bindR (t_X8_isLocal p0 h0 (by omega)) (fun r_13 s_14 R_15 p_16 => ?_)
   refine q_eq (fun h_17 => ?_) (fun h_17 => ?_)
   ·
    exact q_some ⟨R_15, by first | trivial | omega⟩
   ·
    refine q_bindp (t_X8_top  R_15) (fun r_18 p_19 => ?_)
    have l_20 : (15 : Int32).toInt = 15 := rfl
    try have a_21 : ((15 : Int32) * r_18).toInt = 15 * r_18.toInt := i_mulk rfl (by omega) (by omega)
    try have a_22 : (((15 : Int32) * r_18) + p0).toInt = ((15 : Int32) * r_18).toInt + p0.toInt := i_add (by omega) (by omega)
    have l_23 : (1 : Int32).toInt = 1 := rfl
    try have a_24 : ((((15 : Int32) * r_18) + p0) - (1 : Int32)).toInt = (((15 : Int32) * r_18) + p0).toInt - (1 : Int32).toInt := i_sub (by omega) (by omega)
    refine q_c (by omega) (by omega) ?_
    have c_25 : ((((15 : Int32) * r_18) + p0) - (1 : Int32)).toNatClampNeg = ((((15 : Int32) * r_18) + p0) - (1 : Int32)).toInt.toNat := rfl
    have g_26 := c_60 R_15 ((((15 : Int32) * r_18) + p0) - (1 : Int32)).toNatClampNeg
    exact q_some ⟨R_15, by first | trivial | omega⟩
theorem t_X8_set (p0 : Int32) (p1 : Int32) {B F : Int} {σ0 σ : zS} (h0 : yR8 B F σ0 σ) (hp : 1 ≤ F ∧ 0 ≤ p0.toInt) : yT (f_X8_set p0 p1 σ) (fun r τ => yR8 B F σ0 τ ∧ (True)) := by
 unfold f_X8_set
 have l_1 : (0 : Int32).toInt = 0 := rfl
 refine q_eq (fun h_2 => ?_) (fun h_2 => ?_)
 ·
  refine q_bindR (t_X8_push p1 h0) (fun r_3 s_4 R_5 p_6 => ?_)
  exact q_some ⟨R_5, by first | trivial | omega⟩
 ·
  have l_7 : (16 : Int32).toInt = 16 := rfl
  refine q_le (fun h_8 => ?_) (fun h_8 => ?_)
  ·
   refine q_bindR (t_X8_write ((σ 45 4) + ((2 : Int32) * (p0 - (16 : Int32)))) p1 (1 : Int32) (0 : Int32) h0) (fun r_9 s_10 R_11 p_12 => ?_)
   exact q_some ⟨R_11, by first | trivial | omega⟩
  ·
   refine q_bindR (t_X8_isLocal p0 h0 (by omega)) (fun r_13 s_14 R_15 p_16 => ?_)
   refine q_eq (fun h_17 => ?_) (fun h_17 => ?_)
   ·
    exact q_some ⟨R_15, by first | trivial | omega⟩
   ·
    refine q_bindp (t_X8_top  R_15) (fun r_18 p_19 => ?_)
    have l_20 : (15 : Int32).toInt = 15 := rfl
    try have a_21 : ((15 : Int32) * r_18).toInt = 15 * r_18.toInt := i_mulk rfl (by omega) (by omega)
    try have a_22 : (((15 : Int32) * r_18) + p0).toInt = ((15 : Int32) * r_18).toInt + p0.toInt := i_add (by omega) (by omega)
    have l_23 : (1 : Int32).toInt = 1 := rfl
    try have a_24 : ((((15 : Int32) * r_18) + p0) - (1 : Int32)).toInt = (((15 : Int32) * r_18) + p0).toInt - (1 : Int32).toInt := i_sub (by omega) (by omega)
    refine q_c (by omega) (by omega) ?_
    have c_29 : ((((15 : Int32) * r_18) + p0) - (1 : Int32)).toNatClampNeg = ((((15 : Int32) * r_18) + p0) - (1 : Int32)).toInt.toNat := rfl
    have l_30 : (65535 : Int32).toInt = 65535 := rfl
    have a_31 := i_65535 p1
    refine q_zu8 R_15 (s_60 (by omega)) (fun s_25 R_26 E_27 F_28 => ?_)
    exact q_some ⟨R_26, by first | trivial | omega⟩
theorem t_X8_more (p0 : Int32) (p1 : Int32) {B F : Int} {σ0 σ : zS} (h0 : yR8 B F σ0 σ) (hp : 1 ≤ F ∧ 0 ≤ p0.toInt) : yT (f_X8_more p0 p1 σ) (fun r τ => yR8 B F σ0 τ ∧ (True)) := by
 unfold f_X8_more
 have l_1 : (0 : Int32).toInt = 0 := rfl
 refine q_eq (fun h_2 => ?_) (fun h_2 => ?_)
 ·
  refine q_bindp (t_X8_top  h0) (fun r_3 p_4 => ?_)
  refine q_c (by omega) (by omega) ?_
  have g_5 := e_29 h0
  have c_6 : r_3.toNatClampNeg = r_3.toInt.toNat := rfl
  have g_7 := e_59 h0 r_3.toNatClampNeg
  refine q_eq (fun h_8 => ?_) (fun h_8 => ?_)
  ·
   refine q_zu8 h0 s_45_12 (fun s_9 R_10 E_11 F_12 => ?_)
   exact q_some ⟨R_10, by first | trivial | omega⟩
  ·
   have l_13 : (1 : Int32).toInt = 1 := rfl
   try have a_14 : ((σ 45 29) - (1 : Int32)).toInt = (σ 45 29).toInt - (1 : Int32).toInt := i_sub (by omega) (by omega)
   refine q_c (by omega) (by omega) ?_
   refine q_c (by omega) (by omega) ?_
   have c_19 : ((σ 45 29) - (1 : Int32)).toNatClampNeg = ((σ 45 29) - (1 : Int32)).toInt.toNat := rfl
   have g_20 := c_61 h0 ((σ 45 29) - (1 : Int32)).toNatClampNeg
   try have a_21 : ((σ 61 ((σ 45 29) - (1 : Int32)).toNatClampNeg) + p1).toInt = (σ 61 ((σ 45 29) - (1 : Int32)).toNatClampNeg).toInt + p1.toInt := i_add (by omega) (by omega)
   have l_22 : (65535 : Int32).toInt = 65535 := rfl
   have a_23 := i_65535 ((σ 61 ((σ 45 29) - (1 : Int32)).toNatClampNeg) + p1)
   refine q_zu8 h0 (s_61 (by omega)) (fun s_15 R_16 E_17 F_18 => ?_)
   exact q_some ⟨R_16, by first | trivial | omega⟩
 ·
  refine q_bindR (t_X8_ask p0 h0 (by omega)) (fun r_24 s_25 R_26 p_27 => ?_)
  refine q_eq (fun h_28 => ?_) (fun h_28 => ?_)
  ·
   try have a_29 : (r_24 + p1).toInt = r_24.toInt + p1.toInt := i_add (by omega) (by omega)
   refine q_bindR (t_X8_set p0 (r_24 + p1) R_26 (by omega)) (fun r_30 s_31 R_32 p_33 => ?_)
   exact q_some ⟨R_32, by first | trivial | omega⟩
  ·
   exact q_some ⟨R_26, by first | trivial | omega⟩
set_option maxHeartbeats 4000000 in
set_option maxRecDepth 20000 in
theorem t_X8_wants (p0 : Int32) {B F : Int} {σ0 σ : zS} (h0 : yR8 B F σ0 σ) : yT (f_X8_wants p0 σ) (fun r τ => τ = σ ∧ (0 ≤ r.toInt ∧ r.toInt ≤ 3)) := by
 unfold f_X8_wants
 have l_1 : (7 : Int32).toInt = 7 := rfl
 refine q_eq (fun h_2 => ?_) (fun h_2 => ?_)
 ·
  have l_3 : (1 : Int32).toInt = 1 := rfl
  exact q_some ⟨rfl, by first | trivial | omega⟩
 ·
  have l_4 : (8 : Int32).toInt = 8 := rfl
  refine q_eq (fun h_5 => ?_) (fun h_5 => ?_)
  ·
   have l_6 : (2 : Int32).toInt = 2 := rfl
   exact q_some ⟨rfl, by first | trivial | omega⟩
  ·
   have l_7 : (9 : Int32).toInt = 9 := rfl
   refine q_eq (fun h_8 => ?_) (fun h_8 => ?_)
   ·
    have l_9 : (2 : Int32).toInt = 2 := rfl
    exact q_some ⟨rfl, by first | trivial | omega⟩
   ·
    have l_10 : (10 : Int32).toInt = 10 := rfl
    refine q_eq (fun h_11 => ?_) (fun h_11 => ?_)
    ·
     have l_12 : (3 : Int32).toInt = 3 := rfl
     exact q_some ⟨rfl, by first | trivial | omega⟩
    ·
     have l_13 : (11 : Int32).toInt = 11 := rfl
     refine q_eq (fun h_14 => ?_) (fun h_14 => ?_)
     ·
      have l_15 : (3 : Int32).toInt = 3 := rfl
      exact q_some ⟨rfl, by first | trivial | omega⟩
     ·
      have l_16 : (12 : Int32).toInt = 12 := rfl
      refine q_eq (fun h_17 => ?_) (fun h_17 => ?_)
      ·
       have l_18 : (3 : Int32).toInt = 3 := rfl
       exact q_some ⟨rfl, by first | trivial | omega⟩
      ·
       have l_19 : (13 : Int32).toInt = 13 := rfl
       refine q_eq (fun h_20 => ?_) (fun h_20 => ?_)
       ·
        have l_21 : (1 : Int32).toInt = 1 := rfl
        exact q_some ⟨rfl, by first | trivial | omega⟩
       ·
        have l_22 : (14 : Int32).toInt = 14 := rfl
        refine q_eq (fun h_23 => ?_) (fun h_23 => ?_)
        ·
         have l_24 : (1 : Int32).toInt = 1 := rfl
         exact q_some ⟨rfl, by first | trivial | omega⟩
        ·
         have l_25 : (15 : Int32).toInt = 15 := rfl
         refine q_eq (fun h_26 => ?_) (fun h_26 => ?_)
         ·
          have l_27 : (1 : Int32).toInt = 1 := rfl
          exact q_some ⟨rfl, by first | trivial | omega⟩
         ·
          have l_28 : (16 : Int32).toInt = 16 := rfl
          refine q_eq (fun h_29 => ?_) (fun h_29 => ?_)
          ·
           have l_30 : (2 : Int32).toInt = 2 := rfl
           exact q_some ⟨rfl, by first | trivial | omega⟩
          ·
           have l_31 : (17 : Int32).toInt = 17 := rfl
           refine q_eq (fun h_32 => ?_) (fun h_32 => ?_)
           ·
            have l_33 : (2 : Int32).toInt = 2 := rfl
            exact q_some ⟨rfl, by first | trivial | omega⟩
           ·
            have l_34 : (18 : Int32).toInt = 18 := rfl
            refine q_eq (fun h_35 => ?_) (fun h_35 => ?_)
            ·
             have l_36 : (3 : Int32).toInt = 3 := rfl
             exact q_some ⟨rfl, by first | trivial | omega⟩
            ·
             have l_37 : (19 : Int32).toInt = 19 := rfl
             refine q_eq (fun h_38 => ?_) (fun h_38 => ?_)
             ·
              have l_39 : (3 : Int32).toInt = 3 := rfl
              exact q_some ⟨rfl, by first | trivial | omega⟩
             ·
              have l_40 : (20 : Int32).toInt = 20 := rfl
              refine q_eq (fun h_41 => ?_) (fun h_41 => ?_)
              ·
               have l_42 : (3 : Int32).toInt = 3 := rfl
               exact q_some ⟨rfl, by first | trivial | omega⟩
              ·
               have l_43 : (21 : Int32).toInt = 21 := rfl
               refine q_eq (fun h_44 => ?_) (fun h_44 => ?_)
               ·
                have l_45 : (1 : Int32).toInt = 1 := rfl
                exact q_some ⟨rfl, by first | trivial | omega⟩
               ·
                have l_46 : (22 : Int32).toInt = 22 := rfl
                refine q_eq (fun h_47 => ?_) (fun h_47 => ?_)
                ·
                 have l_48 : (1 : Int32).toInt = 1 := rfl
                 exact q_some ⟨rfl, by first | trivial | omega⟩
                ·
                 have l_49 : (23 : Int32).toInt = 23 := rfl
                 refine q_eq (fun h_50 => ?_) (fun h_50 => ?_)
                 ·
                  have l_51 : (1 : Int32).toInt = 1 := rfl
                  exact q_some ⟨rfl, by first | trivial | omega⟩
                 ·
                  have l_52 : (24 : Int32).toInt = 24 := rfl
                  refine q_eq (fun h_53 => ?_) (fun h_53 => ?_)
                  ·
                   have l_54 : (0 : Int32).toInt = 0 := rfl
                   exact q_some ⟨rfl, by first | trivial | omega⟩
                  ·
                   have l_55 : (25 : Int32).toInt = 25 := rfl
                   refine q_eq (fun h_56 => ?_) (fun h_56 => ?_)
                   ·
                    have l_57 : (2 : Int32).toInt = 2 := rfl
                    exact q_some ⟨rfl, by first | trivial | omega⟩
                   ·
                    have l_58 : (26 : Int32).toInt = 26 := rfl
                    refine q_eq (fun h_59 => ?_) (fun h_59 => ?_)
                    ·
                     have l_60 : (3 : Int32).toInt = 3 := rfl
                     exact q_some ⟨rfl, by first | trivial | omega⟩
                    ·
                     have l_61 : (27 : Int32).toInt = 27 := rfl
                     refine q_eq (fun h_62 => ?_) (fun h_62 => ?_)
                     ·
                      have l_63 : (3 : Int32).toInt = 3 := rfl
                      exact q_some ⟨rfl, by first | trivial | omega⟩
                     ·
                      have l_64 : (28 : Int32).toInt = 28 := rfl
                      refine q_eq (fun h_65 => ?_) (fun h_65 => ?_)
                      ·
                       have l_66 : (1 : Int32).toInt = 1 := rfl
                       exact q_some ⟨rfl, by first | trivial | omega⟩
                      ·
                       have l_67 : (29 : Int32).toInt = 29 := rfl
                       refine q_eq (fun h_68 => ?_) (fun h_68 => ?_)
                       ·
                        have l_69 : (1 : Int32).toInt = 1 := rfl
                        exact q_some ⟨rfl, by first | trivial | omega⟩
                       ·
                        have l_70 : (30 : Int32).toInt = 30 := rfl
                        refine q_eq (fun h_71 => ?_) (fun h_71 => ?_)
                        ·
                         have l_72 : (1 : Int32).toInt = 1 := rfl
                         exact q_some ⟨rfl, by first | trivial | omega⟩
                        ·
                         have l_73 : (31 : Int32).toInt = 31 := rfl
                         refine q_eq (fun h_74 => ?_) (fun h_74 => ?_)
                         ·
                          have l_75 : (3 : Int32).toInt = 3 := rfl
                          exact q_some ⟨rfl, by first | trivial | omega⟩
                         ·
                          have l_76 : (32 : Int32).toInt = 32 := rfl
                          refine q_eq (fun h_77 => ?_) (fun h_77 => ?_)
                          ·
                           have l_78 : (0 : Int32).toInt = 0 := rfl
                           exact q_some ⟨rfl, by first | trivial | omega⟩
                          ·
                           have l_79 : (2 : Int32).toInt = 2 := rfl
                           exact q_some ⟨rfl, by first | trivial | omega⟩
theorem t_X8_print (p0 : Int32) {B F : Int} {σ0 σ : zS} (h0 : yR8 B F σ0 σ) : yT (f_X8_print p0 σ) (fun r τ => yR8 B F σ0 τ ∧ (True)) := by
 unfold f_X8_print
 have g_1 := e_31 h0
 have l_2 : (120 : Int32).toInt = 120 := rfl
 refine q_eq (fun h_3 => ?_) (fun h_3 => ?_)
 ·
  refine q_zu8 h0 s_45_12 (fun s_4 R_5 E_6 F_7 => ?_)
  exact q_some ⟨R_5, by first | trivial | omega⟩
 ·
  refine q_c (by omega) (by omega) ?_
  have c_12 : (σ 45 31).toNatClampNeg = (σ 45 31).toInt.toNat := rfl
  refine q_zu8 h0 s_62 (fun s_8 R_9 E_10 F_11 => ?_)
  have g_17 := e_31 R_9
  have e_18 : (s_8 45 31).toInt = (σ 45 31).toInt := congrArg Int32.toInt (F_11 _ _ (by omega))
  have l_19 : (1 : Int32).toInt = 1 := rfl
  try have a_20 : ((s_8 45 31) + (1 : Int32)).toInt = (s_8 45 31).toInt + (1 : Int32).toInt := i_add (by omega) (by omega)
  refine q_zu8 R_9 (s_45_31 (by omega)) (fun s_13 R_14 E_15 F_16 => ?_)
  exact q_some ⟨R_14, by first | trivial | omega⟩
theorem t_X8_printNumber_L39 {B F : Int} {σ0 : zS} : ∀ (n : Nat) (x1 x2 x3 : Int32) (σ : zS), x3.toInt.toNat < n → (0 ≤ x3.toInt ∧ x3.toInt ≤ 40000) → yR8 B F σ0 σ → yT (f_X8_printNumber_L39 n x1 x2 x3 σ) (fun r τ => yR8 B F σ0 τ ∧ (True)) := by
 intro n
 induction n with
 | zero => intro x1 x2 x3 σ hm; omega
 | succ n ih =>
  intro x1 x2 x3 σ hm hv h0
  rw [f_X8_printNumber_L39]
  have bx3 := i_hi x3
  have l_1 : (0 : Int32).toInt = 0 := rfl
  refine q_le (fun h_2 => ?_) (fun h_2 => ?_)
  ·
   exact q_some ⟨h0, by first | trivial | omega⟩
  ·
   refine q_eq (fun h_3 => ?_) (fun h_3 => ?_)
   ·
    refine q_d (by omega) ?_
    have l_4 : (10 : Int32).toInt = 10 := rfl
    refine q_d (by omega) ?_
    refine q_bindR (t_X8_print ((48 : Int32) + ((x2 / x3) - (((x2 / x3) / (10 : Int32)) * (10 : Int32)))) h0) (fun r_5 s_6 R_7 p_8 => ?_)
    refine q_d (by omega) ?_
    try have a_9 := i_div (a := x3) (b := (10 : Int32)) (m := 10) rfl (by omega) (by omega)
    refine q_lv (fun y_11 v_10 => ?_)
    exact ih x1 x2 y_11 s_6 (by omega) (by omega) R_7
   ·
    exact q_some ⟨h0, by first | trivial | omega⟩
theorem i_dv {a b : Int32} (h0 : 0 ≤ a.toInt) (hb : 0 < b.toInt) : (a / b).toInt = a.toInt / b.toInt := i_div rfl h0 hb
theorem t_X8_printNumber_L23 {B F : Int} {σ0 : zS} : ∀ (n : Nat) (x1 x2 x3 : Int32) (σ : zS), (100000 - x3.toInt).toNat < n → (1 ≤ x3.toInt ∧ 0 ≤ x2.toInt ∧ x2.toInt ≤ 40000 ∧ x3.toInt ≤ 40000) → yR8 B F σ0 σ → yT (f_X8_printNumber_L23 n x1 x2 x3 σ) (fun _ τ => yR8 B F σ0 τ ∧ True) := by
  intro n
  induction n with
  | zero => intro x1 x2 x3 σ hm; omega
  | succ n ih =>
    intro x1 x2 x3 σ hm hv h0
    rw [f_X8_printNumber_L23]
    refine q_d (by omega) ?_
    have l : (10 : Int32).toInt = 10 := rfl
    have e := i_dv (a := x2) (b := x3) (by omega) (by omega)
    refine q_lt (fun h1 => ?_) (fun h1 => ?_)
    · exact t_X8_printNumber_L39 zF x1 x2 x3 σ (by rw [zF_eq]; omega) (by omega) h0
    · rw [e, l] at h1
      have h2 : 10 * x3.toInt ≤ x2.toInt := (Int.le_ediv_iff_mul_le (by omega)).mp h1
      have e2 : (x3 * (10 : Int32)).toInt = x3.toInt * 10 := i_mulr rfl (by omega) (by omega)
      exact ih x1 x2 (x3 * (10 : Int32)) σ (by omega) (by omega) h0
theorem t_X8_printNumber (p0 : Int32) {B F : Int} {σ0 σ : zS} (h0 : yR8 B F σ0 σ) (hp : -40000 < p0.toInt ∧ p0.toInt < 40000) : yT (f_X8_printNumber p0 σ) (fun r τ => yR8 B F σ0 τ ∧ (True)) := by
 unfold f_X8_printNumber
 have l_1 : (0 : Int32).toInt = 0 := rfl
 refine q_le (fun h_2 => ?_) (fun h_2 => ?_)
 ·
  refine q_le (fun h_3 => ?_) (fun h_3 => ?_)
  ·
   have l_4 : (1 : Int32).toInt = 1 := rfl
   refine q_w (t_X8_printNumber_L23  zF p0 p0 (1 : Int32) σ (by rw [zF_eq]; omega) (by omega) h0) (fun _ _ h => h)
  ·
   try have a_5 : (-p0).toInt = - p0.toInt := i_neg (by omega)
   have l_6 : (1 : Int32).toInt = 1 := rfl
   refine q_w (t_X8_printNumber_L23  zF p0 (-p0) (1 : Int32) σ (by rw [zF_eq]; omega) (by omega) h0) (fun _ _ h => h)
 ·
  refine q_bindR (t_X8_print (45 : Int32) h0) (fun r_7 s_8 R_9 p_10 => ?_)
  refine q_le (fun h_11 => ?_) (fun h_11 => ?_)
  ·
   have l_12 : (1 : Int32).toInt = 1 := rfl
   refine q_w (t_X8_printNumber_L23  zF p0 p0 (1 : Int32) s_8 (by rw [zF_eq]; omega) (by omega) R_9) (fun _ _ h => h)
  ·
   try have a_13 : (-p0).toInt = - p0.toInt := i_neg (by omega)
   have l_14 : (1 : Int32).toInt = 1 := rfl
   refine q_w (t_X8_printNumber_L23  zF p0 (-p0) (1 : Int32) s_8 (by rw [zF_eq]; omega) (by omega) R_9) (fun _ _ h => h)
theorem t_X8_printRows_L34 {B F : Int} {σ0 : zS} (x1 x2 x3 x4 : Int32) {K : Int32 → Int32 → Int32 → Int32 → Int32 → zS → Option (Unit × zS)} (kK : ∀ (y5 : Int32) (σ : zS), yR8 B F σ0 σ → yT (K x1 x2 x3 x4 y5 σ) (fun _ τ => yR8 B F σ0 τ ∧ True)) : ∀ (n : Nat) (x5 : Int32) (σ : zS), (x2.toInt - x5.toInt).toNat < n → 0 ≤ x5.toInt → yR8 B F σ0 σ → yT (f_X8_printRows_L34 n x1 x2 x3 x4 x5 σ K) (fun _ τ => yR8 B F σ0 τ ∧ True) := by
  intro n
  induction n with
  | zero => intro x5 σ hm; omega
  | succ n ih =>
    intro x5 σ hm hi R0
    rw [f_X8_printRows_L34]
    refine q_le (fun h => ?_) (fun h => ?_)
    · exact kK _ _ R0
    · have e : (x5 + (1 : Int32)).toInt = x5.toInt + 1 := i_1 (by have := i_hi x2; omega)
      refine q_eq (fun h1 => ?_) (fun h1 => ?_)
      · refine q_bindR (t_X8_read _ _ R0) (fun v1 s1 R1 _ => ?_)
        refine q_eq (fun h2 => ?_) (fun h2 => ?_)
        · refine q_bindR (t_X8_print _ R1) (fun v2 s2 R2 _ => ?_)
          exact ih _ _ (by omega) (by omega) R2
        · exact ih _ _ (by omega) (by omega) R1
      · exact kK _ _ R0
theorem t_X8_printRows_L3 {B F : Int} {σ0 : zS} (x1 x2 x3 : Int32) (hx2 : x2.toInt < 100000) : ∀ (n : Nat) (x4 : Int32) (σ : zS), (x3.toInt - x4.toInt).toNat < n → 0 ≤ x4.toInt → yR8 B F σ0 σ → yT (f_X8_printRows_L3 n x1 x2 x3 x4 σ) (fun _ τ => yR8 B F σ0 τ ∧ True) := by
  intro n
  induction n with
  | zero => intro x4 σ hm; omega
  | succ n ih =>
    intro x4 σ hm hi R0
    rw [f_X8_printRows_L3]
    refine q_le (fun h => ?_) (fun h => ?_)
    · exact q_some ⟨R0, trivial⟩
    · have e : (x4 + (1 : Int32)).toInt = x4.toInt + 1 := i_1 (by have := i_hi x3; omega)
      have k0 : ∀ (y5 : Int32) (σ : zS), yR8 B F σ0 σ → yT (f_X8_printRows_L3 n x1 x2 x3 (x4 + (1 : Int32)) σ) (fun _ τ => yR8 B F σ0 τ ∧ True) := fun y5 s R => ih _ _ (by omega) (by omega) R
      have m0 : (x2.toInt - (0 : Int32).toInt).toNat < zF := by rw [zF_eq, t_0]; omega
      refine q_lt (fun h0 => ?_) (fun h0 => ?_)
      · exact q_some ⟨R0, trivial⟩
      · refine q_eq (fun h3 => ?_) (fun h3 => ?_)
        · refine q_le (fun h1 => ?_) (fun h1 => ?_)
          · exact t_X8_printRows_L34 x1 x2 x3 x4 (K := fun v2 v3 v4 v5 _ s3 => f_X8_printRows_L3 n v2 v3 v4 (v5 + (1 : Int32)) s3) k0 zF _ _ m0 (by rw [t_0]; omega) R0
          · refine q_bindR (t_X8_print _ R0) (fun v2 s2 R2 _ => ?_)
            exact t_X8_printRows_L34 x1 x2 x3 x4 (K := fun v2 v3 v4 v5 _ s3 => f_X8_printRows_L3 n v2 v3 v4 (v5 + (1 : Int32)) s3) k0 zF _ _ m0 (by rw [t_0]; omega) R2
        · exact q_some ⟨R0, trivial⟩
theorem t_X8_printRows (p0 p1 p2 : Int32) {B F : Int} {σ0 σ : zS} (h0 : yR8 B F σ0 σ) (hp : p1.toInt < 100000 ∧ p2.toInt < 100000 - 1) : yT (f_X8_printRows p0 p1 p2 σ) (fun _ τ => yR8 B F σ0 τ ∧ True) :=
  t_X8_printRows_L3 p0 p1 p2 hp.1 zF _ _ (by rw [zF_eq, t_0]; omega) (by rw [t_0]; omega) h0
