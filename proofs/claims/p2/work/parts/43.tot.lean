set_option maxHeartbeats 4000000 in
set_option maxRecDepth 20000 in
theorem t_X6_carryOut (p0 : Int32) (p1 : Int32) (p2 : Int32) (p3 : Int32) (p4 : Int32) {σ0 σ : zS} (h0 : yR σ0 σ) : yT (f_X6_carryOut p0 p1 p2 p3 p4 σ) (fun r τ => yR σ0 τ ∧ (True)) := by
 unfold f_X6_carryOut
 have l_1 : (9 : Int32).toInt = 9 := rfl
 refine q_lt (fun h_2 => ?_) (fun h_2 => ?_)
 ·
  have l_3 : (10 : Int32).toInt = 10 := rfl
  refine q_eq (fun h_4 => ?_) (fun h_4 => ?_)
  ·
   refine q_eq (fun h_5 => ?_) (fun h_5 => ?_)
   ·
    refine q_binds (t_X6_goOnIf (1 : Int32) p4 h0) (fun r_6 s_7 R_8 p_9 => ?_)
    exact q_some ⟨R_8, by first | trivial | omega⟩
   ·
    refine q_binds (t_X6_goOnIf (0 : Int32) p4 h0) (fun r_10 s_11 R_12 p_13 => ?_)
    exact q_some ⟨R_12, by first | trivial | omega⟩
  ·
   have l_14 : (11 : Int32).toInt = 11 := rfl
   refine q_eq (fun h_15 => ?_) (fun h_15 => ?_)
   ·
    refine q_bindp (t_X7_number p2 h0) (fun r_16 p_17 => ?_)
    refine q_bindp (t_X7_number p3 h0) (fun r_18 p_19 => ?_)
    refine q_le (fun h_20 => ?_) (fun h_20 => ?_)
    ·
     refine q_binds (t_X6_goOnIf (0 : Int32) p4 h0) (fun r_21 s_22 R_23 p_24 => ?_)
     exact q_some ⟨R_23, by first | trivial | omega⟩
    ·
     refine q_binds (t_X6_goOnIf (1 : Int32) p4 h0) (fun r_25 s_26 R_27 p_28 => ?_)
     exact q_some ⟨R_27, by first | trivial | omega⟩
   ·
    have l_29 : (12 : Int32).toInt = 12 := rfl
    refine q_eq (fun h_30 => ?_) (fun h_30 => ?_)
    ·
     refine q_bindp (t_X7_number p2 h0) (fun r_31 p_32 => ?_)
     refine q_bindp (t_X7_number p3 h0) (fun r_33 p_34 => ?_)
     refine q_le (fun h_35 => ?_) (fun h_35 => ?_)
     ·
      refine q_binds (t_X6_goOnIf (0 : Int32) p4 h0) (fun r_36 s_37 R_38 p_39 => ?_)
      exact q_some ⟨R_38, by first | trivial | omega⟩
     ·
      refine q_binds (t_X6_goOnIf (1 : Int32) p4 h0) (fun r_40 s_41 R_42 p_43 => ?_)
      exact q_some ⟨R_42, by first | trivial | omega⟩
    ·
     have l_44 : (13 : Int32).toInt = 13 := rfl
     refine q_eq (fun h_45 => ?_) (fun h_45 => ?_)
     ·
      refine q_binds (t_X6_goOnIf (1 : Int32) p2 h0) (fun r_46 s_47 R_48 p_49 => ?_)
      exact q_some ⟨R_48, by first | trivial | omega⟩
     ·
      have l_50 : (14 : Int32).toInt = 14 := rfl
      refine q_eq (fun h_51 => ?_) (fun h_51 => ?_)
      ·
       refine q_binds (t_X6_change (p2 &&& (255 : Int32)) (1 : Int32) h0) (fun r_52 s_53 R_54 p_55 => ?_)
       exact q_some ⟨R_54, by first | trivial | omega⟩
      ·
       have l_56 : (15 : Int32).toInt = 15 := rfl
       refine q_eq (fun h_57 => ?_) (fun h_57 => ?_)
       ·
        refine q_binds (t_X6_change (p2 &&& (255 : Int32)) (-1 : Int32) h0) (fun r_58 s_59 R_60 p_61 => ?_)
        exact q_some ⟨R_60, by first | trivial | omega⟩
       ·
        have l_62 : (16 : Int32).toInt = 16 := rfl
        refine q_eq (fun h_63 => ?_) (fun h_63 => ?_)
        ·
         refine q_bindp (t_X7_number p3 h0) (fun r_64 p_65 => ?_)
         refine q_bindp (t_X3_wordAt (p2 + ((2 : Int32) * r_64)) h0) (fun r_66 p_67 => ?_)
         refine q_binds (t_X6_tell p1 r_66 h0) (fun r_68 s_69 R_70 p_71 => ?_)
         exact q_some ⟨R_70, by first | trivial | omega⟩
        ·
         have l_72 : (17 : Int32).toInt = 17 := rfl
         refine q_eq (fun h_73 => ?_) (fun h_73 => ?_)
         ·
          refine q_bindp (t_X7_number p3 h0) (fun r_74 p_75 => ?_)
          refine q_bindp (t_X3_byteAt (p2 + r_74) h0) (fun r_76 p_77 => ?_)
          refine q_binds (t_X6_tell p1 r_76 h0) (fun r_78 s_79 R_80 p_81 => ?_)
          exact q_some ⟨R_80, by first | trivial | omega⟩
         ·
          have l_82 : (18 : Int32).toInt = 18 := rfl
          refine q_eq (fun h_83 => ?_) (fun h_83 => ?_)
          ·
           refine q_bindp (t_X7_number p3 h0) (fun r_84 p_85 => ?_)
           refine q_binds (t_X3_setWord (p2 + ((2 : Int32) * r_84)) p4 (0 : Int32) h0) (fun r_86 s_87 R_88 p_89 => ?_)
           exact q_some ⟨R_88, by first | trivial | omega⟩
          ·
           have l_90 : (19 : Int32).toInt = 19 := rfl
           refine q_eq (fun h_91 => ?_) (fun h_91 => ?_)
           ·
            refine q_bindp (t_X7_number p3 h0) (fun r_92 p_93 => ?_)
            refine q_binds (t_X3_setByte (p2 + r_92) p4 (0 : Int32) h0) (fun r_94 s_95 R_96 p_97 => ?_)
            exact q_some ⟨R_96, by first | trivial | omega⟩
           ·
            have l_98 : (20 : Int32).toInt = 20 := rfl
            refine q_eq (fun h_99 => ?_) (fun h_99 => ?_)
            ·
             refine q_binds (t_X6_enter p2 p3 p4 p1 h0) (fun r_100 s_101 R_102 p_103 => ?_)
             exact q_some ⟨R_102, by first | trivial | omega⟩
            ·
             have l_104 : (21 : Int32).toInt = 21 := rfl
             refine q_eq (fun h_105 => ?_) (fun h_105 => ?_)
             ·
              refine q_binds (t_X6_giveBack p2 h0) (fun r_106 s_107 R_108 p_109 => ?_)
              exact q_some ⟨R_108, by first | trivial | omega⟩
             ·
              have l_110 : (22 : Int32).toInt = 22 := rfl
              refine q_eq (fun h_111 => ?_) (fun h_111 => ?_)
              ·
               refine q_binds (t_X2_push p2 h0) (fun r_112 s_113 R_114 p_115 => ?_)
               exact q_some ⟨R_114, by first | trivial | omega⟩
              ·
               have l_116 : (23 : Int32).toInt = 23 := rfl
               refine q_eq (fun h_117 => ?_) (fun h_117 => ?_)
               ·
                refine q_binds (t_X2_pop  h0) (fun r_118 s_119 R_120 p_121 => ?_)
                refine q_binds (t_X6_tell (p2 &&& (255 : Int32)) r_118 R_120) (fun r_122 s_123 R_124 p_125 => ?_)
                exact q_some ⟨R_124, by first | trivial | omega⟩
               ·
                have l_126 : (24 : Int32).toInt = 24 := rfl
                refine q_eq (fun h_127 => ?_) (fun h_127 => ?_)
                ·
                 refine q_binds (t_X6_tell p1 ((σ 14 3) - (1 : Int32)) h0) (fun r_128 s_129 R_130 p_131 => ?_)
                 exact q_some ⟨R_130, by first | trivial | omega⟩
                ·
                 have l_132 : (25 : Int32).toInt = 25 := rfl
                 refine q_eq (fun h_133 => ?_) (fun h_133 => ?_)
                 ·
                  refine q_binds (t_X6_throwTo p3 p2 h0) (fun r_134 s_135 R_136 p_137 => ?_)
                  exact q_some ⟨R_136, by first | trivial | omega⟩
                 ·
                  have l_138 : (26 : Int32).toInt = 26 := rfl
                  refine q_eq (fun h_139 => ?_) (fun h_139 => ?_)
                  ·
                   refine q_bindp (t_X7_number p4 h0) (fun r_140 p_141 => ?_)
                   refine q_binds (t_X3_copyTable p2 p3 r_140 h0 (by omega)) (fun r_142 s_143 R_144 p_145 => ?_)
                   exact q_some ⟨R_144, by first | trivial | omega⟩
                  ·
                   have l_146 : (27 : Int32).toInt = 27 := rfl
                   refine q_eq (fun h_147 => ?_) (fun h_147 => ?_)
                   ·
                    refine q_bindp (t_X7_number p4 h0) (fun r_148 p_149 => ?_)
                    refine q_bindp (t_X3_find p2 p3 r_148 (σ 13 8) h0) (fun r_150 p_151 => ?_)
                    refine q_binds (t_X6_tell p1 r_150 h0) (fun r_152 s_153 R_154 p_155 => ?_)
                    exact q_some ⟨R_154, by first | trivial | omega⟩
                   ·
                    have l_156 : (28 : Int32).toInt = 28 := rfl
                    refine q_eq (fun h_157 => ?_) (fun h_157 => ?_)
                    ·
                     refine q_bindp (t_X7_number p2 h0) (fun r_158 p_159 => ?_)
                     refine q_binds (t_X0_draw r_158 h0) (fun r_160 s_161 R_162 p_163 => ?_)
                     refine q_binds (t_X6_tell p1 r_160 R_162) (fun r_164 s_165 R_166 p_167 => ?_)
                     exact q_some ⟨R_166, by first | trivial | omega⟩
                    ·
                     have l_168 : (29 : Int32).toInt = 29 := rfl
                     refine q_eq (fun h_169 => ?_) (fun h_169 => ?_)
                     ·
                      refine q_bindp (t_X7_number p2 h0) (fun r_170 p_171 => ?_)
                      refine q_binds (t_X4_printNumber r_170 h0) (fun r_172 s_173 R_174 p_175 => ?_)
                      exact q_some ⟨R_174, by first | trivial | omega⟩
                     ·
                      have l_176 : (30 : Int32).toInt = 30 := rfl
                      refine q_eq (fun h_177 => ?_) (fun h_177 => ?_)
                      ·
                       refine q_binds (t_X4_print p2 h0) (fun r_178 s_179 R_180 p_181 => ?_)
                       exact q_some ⟨R_180, by first | trivial | omega⟩
                      ·
                       have l_182 : (31 : Int32).toInt = 31 := rfl
                       refine q_eq (fun h_183 => ?_) (fun h_183 => ?_)
                       ·
                        refine q_bindp (t_X7_number p3 h0) (fun r_184 p_185 => ?_)
                        refine q_bindp (t_X7_number p4 h0) (fun r_186 p_187 => ?_)
                        refine q_binds (t_X6_printRows p2 r_184 r_186 h0 (by omega)) (fun r_188 s_189 R_190 p_191 => ?_)
                        exact q_some ⟨R_190, by first | trivial | omega⟩
                       ·
                        have l_192 : (32 : Int32).toInt = 32 := rfl
                        refine q_eq (fun h_193 => ?_) (fun h_193 => ?_)
                        ·
                         refine q_binds (t_X6_end (1 : Int32) h0) (fun r_194 s_195 R_196 p_197 => ?_)
                         exact q_some ⟨R_196, by first | trivial | omega⟩
                        ·
                         exact q_some ⟨h0, by first | trivial | omega⟩
 ·
  refine q_bindp (t_X7_number p2 h0) (fun r_198 p_199 => ?_)
  refine q_bindp (t_X7_number p3 h0) (fun r_200 p_201 => ?_)
  refine q_bindp (t_X7_arithmetic p0 r_198 r_200 h0) (fun r_202 p_203 => ?_)
  refine q_binds (t_X6_tell p1 r_202 h0) (fun r_204 s_205 R_206 p_207 => ?_)
  exact q_some ⟨R_206, by first | trivial | omega⟩
theorem t_X6_step_L52 {σ0 : zS} : ∀ (n : Nat) (x1 x2 x3 : Int32) (σ : zS), (3 - x3.toInt).toNat < n → (0 ≤ x1.toInt ∧ x1.toInt < 100 ∧ 0 ≤ x2.toInt ∧ x2.toInt < 33 ∧ 0 ≤ x3.toInt ∧ x3.toInt ≤ 3) → yR σ0 σ → yT (f_X6_step_L52 n x1 x2 x3 σ) (fun r τ => yR σ0 τ ∧ (True)) := by
 intro n
 induction n with
 | zero => intro x1 x2 x3 σ hm; omega
 | succ n ih =>
  intro x1 x2 x3 σ hm hv h0
  rw [f_X6_step_L52]
  have bx3 := i_hi x3
  refine q_c (by omega) (by omega) ?_
  have c_1 : x2.toNatClampNeg = x2.toInt.toNat := rfl
  have t_2 := tb_0_b x2.toNatClampNeg
  refine q_le (fun h_3 => ?_) (fun h_3 => ?_)
  ·
   refine q_bindr (t_X2_top  h0) (fun i_4 hi_5 => ?_)
   refine q_op hi_5 ?_
   refine q_zu h0 (ySt_f (by omega) ⟨fun q => absurd q (by decide), fun q => absurd q (by decide), fun q => absurd q (by decide)⟩) (fun s_6 R_7 E_8 F_9 => ?_)
   refine q_c (by omega) (by omega) ?_
   have l_10 : (0 : Int32).toInt = 0 := rfl
   refine q_c (by omega) (by omega) ?_
   have l_11 : (1 : Int32).toInt = 1 := rfl
   refine q_c (by omega) (by omega) ?_
   have l_12 : (2 : Int32).toInt = 2 := rfl
   refine q_c (by omega) (by omega) ?_
   refine q_binds (t_X6_carryOut x2 (s_6 8 x1.toNatClampNeg) (s_6 44 (0 : Int32).toNatClampNeg) (s_6 44 (1 : Int32).toNatClampNeg) (s_6 44 (2 : Int32).toNatClampNeg) R_7) (fun r_13 s_14 R_15 p_16 => ?_)
   exact q_some ⟨R_15, by first | trivial | omega⟩
  ·
   have l_17 : (3 : Int32).toInt = 3 := rfl
   try have a_18 : ((3 : Int32) * x1).toInt = 3 * x1.toInt := i_mulk rfl (by omega) (by omega)
   try have a_19 : (((3 : Int32) * x1) + x3).toInt = ((3 : Int32) * x1).toInt + x3.toInt := i_add (by omega) (by omega)
   refine q_c (by omega) (by omega) ?_
   have c_20 : (((3 : Int32) * x1) + x3).toNatClampNeg = (((3 : Int32) * x1) + x3).toInt.toNat := rfl
   refine q_lv (fun y_22 v_21 => ?_)
   have l_23 : (0 : Int32).toInt = 0 := rfl
   refine q_le (fun h_24 => ?_) (fun h_24 => ?_)
   ·
    refine q_le (fun h_25 => ?_) (fun h_25 => ?_)
    ·
     refine q_c (by omega) (by omega) ?_
     have c_30 : x3.toNatClampNeg = x3.toInt.toNat := rfl
     refine q_zu h0 (ySt_free (by unfold yKp; omega) (by omega)) (fun s_26 R_27 E_28 F_29 => ?_)
     have l_31 : (1 : Int32).toInt = 1 := rfl
     try have a_32 : (x3 + (1 : Int32)).toInt = x3.toInt + (1 : Int32).toInt := i_add (by omega) (by omega)
     exact ih x1 x2 (x3 + (1 : Int32)) s_26 (by omega) (by omega) R_27
    ·
     exact q_some ⟨h0, by first | trivial | omega⟩
   ·
    refine q_binds (t_X6_ask ((-1 : Int32) - y_22) h0) (fun r_33 s_34 R_35 p_36 => ?_)
    refine q_le (fun h_37 => ?_) (fun h_37 => ?_)
    ·
     refine q_c (by omega) (by omega) ?_
     have c_42 : x3.toNatClampNeg = x3.toInt.toNat := rfl
     refine q_zu R_35 (ySt_free (by unfold yKp; omega) (by omega)) (fun s_38 R_39 E_40 F_41 => ?_)
     have l_43 : (1 : Int32).toInt = 1 := rfl
     try have a_44 : (x3 + (1 : Int32)).toInt = x3.toInt + (1 : Int32).toInt := i_add (by omega) (by omega)
     exact ih x1 x2 (x3 + (1 : Int32)) s_38 (by omega) (by omega) R_39
    ·
     exact q_some ⟨R_35, by first | trivial | omega⟩
theorem t_X6_step  {σ0 σ : zS} (h0 : yR σ0 σ) : yT (f_X6_step  σ) (fun r τ => yR σ0 τ ∧ (True)) := by
 unfold f_X6_step
 refine q_zu h0 (ySt_free (by unfold yKp; omega) (by omega)) (fun s_1 R_2 E_3 F_4 => ?_)
 refine q_zu R_2 (ySt_free (by unfold yKp; omega) (by omega)) (fun s_5 R_6 E_7 F_8 => ?_)
 refine q_bindr (t_X2_top  R_6) (fun i_9 hi_10 => ?_)
 refine q_op hi_10 ?_
 have e_11 : (s_5 (16 + (2 * i_9)) 3).toInt = (s_1 (16 + (2 * i_9)) 3).toInt := congrArg Int32.toInt (F_8 _ _ (by omega))
 have e_12 : (s_1 (16 + (2 * i_9)) 3).toInt = (σ (16 + (2 * i_9)) 3).toInt := congrArg Int32.toInt (F_4 _ _ (by omega))
 refine q_lv (fun y_14 v_13 => ?_)
 refine q_bindp (t_X5_opAt y_14 R_6) (fun r_15 p_16 => ?_)
 have l_17 : (0 : Int32).toInt = 0 := rfl
 refine q_lt (fun h_18 => ?_) (fun h_18 => ?_)
 ·
  exact q_some ⟨R_6, by first | trivial | omega⟩
 ·
  have l_19 : (33 : Int32).toInt = 33 := rfl
  refine q_lt (fun h_20 => ?_) (fun h_20 => ?_)
  ·
   refine q_w (t_X6_step_L52  zF y_14 r_15 (0 : Int32) s_5 (by rw [zF_eq]; omega) (by omega) R_6) (fun _ _ h => h)
  ·
   exact q_some ⟨R_6, by first | trivial | omega⟩
theorem t_X6_set (p0 : Int32) (p1 : Int32) {σ0 σ : zS} (h0 : yR σ0 σ) : yT (f_X6_set p0 p1 σ) (fun r τ => yR σ0 τ ∧ (True)) := by
 unfold f_X6_set
 have l_1 : (0 : Int32).toInt = 0 := rfl
 refine q_eq (fun h_2 => ?_) (fun h_2 => ?_)
 ·
  refine q_binds (t_X2_push p1 h0) (fun r_3 s_4 R_5 p_6 => ?_)
  exact q_some ⟨R_5, by first | trivial | omega⟩
 ·
  have l_7 : (16 : Int32).toInt = 16 := rfl
  refine q_le (fun h_8 => ?_) (fun h_8 => ?_)
  ·
   refine q_bindp (t_X6_placeOfGlobal p0 h0) (fun r_9 p_10 => ?_)
   refine q_binds (t_X3_setWord r_9 p1 (0 : Int32) h0) (fun r_11 s_12 R_13 p_14 => ?_)
   exact q_some ⟨R_13, by first | trivial | omega⟩
  ·
   refine q_bindr (t_X2_top  h0) (fun i_15 hi_16 => ?_)
   refine q_op hi_16 ?_
   refine q_binds (t_X1_setLocal i_15 (by omega) p0 p1 h0) (fun r_17 s_18 R_19 p_20 => ?_)
   exact q_some ⟨R_19, by first | trivial | omega⟩
theorem t_X6_keep (p0 : Int32) {σ0 σ : zS} (h0 : yR σ0 σ) : yT (f_X6_keep p0 σ) (fun r τ => yR σ0 τ ∧ (True)) := by
 unfold f_X6_keep
 have l_1 : (0 : Int32).toInt = 0 := rfl
 refine q_lt (fun h_2 => ?_) (fun h_2 => ?_)
 ·
  exact q_some ⟨h0, by first | trivial | omega⟩
 ·
  have l_3 : (-1 : Int32).toInt = -1 := rfl
  refine q_eq (fun h_4 => ?_) (fun h_4 => ?_)
  ·
   exact q_some ⟨h0, by first | trivial | omega⟩
  ·
   refine q_binds (t_X6_set (σ 13 16) p0 h0) (fun r_5 s_6 R_7 p_8 => ?_)
   exact q_some ⟨R_7, by first | trivial | omega⟩
theorem t_X6_raise_L33 {σ0 : zS} : ∀ (n : Nat) (x1 x2 : Int32) (σ : zS), x2.toInt.toNat < n → ((0 : Nat) = 0) → yR σ0 σ → yT (f_X6_raise_L33 n x1 x2 σ) (fun r τ => yR σ0 τ ∧ (True)) := by
 intro n
 induction n with
 | zero => intro x1 x2 σ hm; omega
 | succ n ih =>
  intro x1 x2 σ hm hv h0
  rw [f_X6_raise_L33]
  have bx2 := i_hi x2
  have l_1 : (0 : Int32).toInt = 0 := rfl
  refine q_le (fun h_2 => ?_) (fun h_2 => ?_)
  ·
   have g_3 := g_14_3 h0
   refine q_eq (fun h_4 => ?_) (fun h_4 => ?_)
   ·
    refine q_zu h0 (ySt_free (by unfold yKp; omega) (by omega)) (fun s_5 R_6 E_7 F_8 => ?_)
    refine q_binds (t_X6_end (2 : Int32) R_6) (fun r_9 s_10 R_11 p_12 => ?_)
    exact q_some ⟨R_11, by first | trivial | omega⟩
   ·
    refine q_zu h0 (ySt_free (by unfold yKp; omega) (by omega)) (fun s_13 R_14 E_15 F_16 => ?_)
    refine q_binds (t_X6_giveBack ((-10 : Int32) - x1) R_14) (fun r_17 s_18 R_19 p_20 => ?_)
    exact q_some ⟨R_19, by first | trivial | omega⟩
  ·
   refine q_bindr (t_X2_top  h0) (fun i_21 hi_22 => ?_)
   refine q_op hi_22 ?_
   have g_23 := g_f h0 i_21 (by omega)
   refine q_c (by omega) (by omega) ?_
   have c_24 : (σ (16 + (2 * i_21)) 2).toNatClampNeg = (σ (16 + (2 * i_21)) 2).toInt.toNat := rfl
   refine q_eq (fun h_25 => ?_) (fun h_25 => ?_)
   ·
    refine q_binds (t_X6_leaveDownTo (x2 - (1 : Int32)) h0) (fun r_26 s_27 R_28 p_29 => ?_)
    have l_30 : (-1 : Int32).toInt = -1 := rfl
    try have a_31 : (x2 + (-1 : Int32)).toInt = x2.toInt + (-1 : Int32).toInt := i_add (by omega) (by omega)
    exact ih x1 (x2 + (-1 : Int32)) s_27 (by generalize (x2 + (-1 : Int32)).toInt = q at *; omega) (by generalize (x2 + (-1 : Int32)).toInt = q at *; omega) R_28
   ·
    have g_32 := g_14_3 h0
    refine q_eq (fun h_33 => ?_) (fun h_33 => ?_)
    ·
     refine q_zu h0 (ySt_free (by unfold yKp; omega) (by omega)) (fun s_34 R_35 E_36 F_37 => ?_)
     refine q_binds (t_X6_end (2 : Int32) R_35) (fun r_38 s_39 R_40 p_41 => ?_)
     exact q_some ⟨R_40, by first | trivial | omega⟩
    ·
     refine q_zu h0 (ySt_free (by unfold yKp; omega) (by omega)) (fun s_42 R_43 E_44 F_45 => ?_)
     refine q_binds (t_X6_giveBack ((-10 : Int32) - x1) R_43) (fun r_46 s_47 R_48 p_49 => ?_)
     exact q_some ⟨R_48, by first | trivial | omega⟩
theorem t_X6_raise (p0 : Int32) {σ0 σ : zS} (h0 : yR σ0 σ) : yT (f_X6_raise p0 σ) (fun r τ => yR σ0 τ ∧ (True)) := by
 unfold f_X6_raise
 have l_1 : (12 : Int32).toInt = 12 := rfl
 refine q_lt (fun h_2 => ?_) (fun h_2 => ?_)
 ·
  refine q_zu h0 (ySt_free (by unfold yKp; omega) (by omega)) (fun s_3 R_4 E_5 F_6 => ?_)
  have g_7 := g_14_3 R_4
  have e_8 : (s_3 14 3).toInt = (σ 14 3).toInt := congrArg Int32.toInt (F_6 _ _ (by omega))
  have g_9 := g_14_3 h0
  refine q_w (t_X6_raise_L33  zF p0 (s_3 14 3) s_3 (by rw [zF_eq]; omega) (by omega) R_4) (fun _ _ h => h)
 ·
  refine q_binds (t_X6_end (3 : Int32) h0) (fun r_10 s_11 R_12 p_13 => ?_)
  exact q_some ⟨R_12, by first | trivial | omega⟩
theorem t_X6_settle_L8 {σ0 : zS} : ∀ (n : Nat) (x1 x2 x3 : Int32) (σ : zS), (12 - x3.toInt).toNat < n → (0 ≤ x3.toInt) → yR σ0 σ → yT (f_X6_settle_L8 n x1 x2 x3 σ) (fun r τ => yR σ0 τ ∧ (True)) := by
 intro n
 induction n with
 | zero => intro x1 x2 x3 σ hm; omega
 | succ n ih =>
  intro x1 x2 x3 σ hm hv h0
  rw [f_X6_settle_L8]
  have bx3 := i_hi x3
  have l_1 : (12 : Int32).toInt = 12 := rfl
  refine q_le (fun h_2 => ?_) (fun h_2 => ?_)
  ·
   exact q_some ⟨h0, by first | trivial | omega⟩
  ·
   have l_3 : (0 : Int32).toInt = 0 := rfl
   refine q_le (fun h_4 => ?_) (fun h_4 => ?_)
   ·
    exact q_some ⟨h0, by first | trivial | omega⟩
   ·
    refine q_binds (t_X6_raise x2 h0) (fun r_5 s_6 R_7 p_8 => ?_)
    refine q_binds (t_X6_keep r_5 R_7) (fun r_9 s_10 R_11 p_12 => ?_)
    have l_13 : (1 : Int32).toInt = 1 := rfl
    try have a_14 : (x3 + (1 : Int32)).toInt = x3.toInt + (1 : Int32).toInt := i_add (by omega) (by omega)
    exact ih x1 r_9 (x3 + (1 : Int32)) s_10 (by omega) (by omega) R_11
theorem t_X6_settle (p0 : Int32) {σ0 σ : zS} (h0 : yR σ0 σ) : yT (f_X6_settle p0 σ) (fun r τ => yR σ0 τ ∧ (True)) := by
 unfold f_X6_settle
 refine q_binds (t_X6_keep p0 h0) (fun r_1 s_2 R_3 p_4 => ?_)
 have l_5 : (0 : Int32).toInt = 0 := rfl
 refine q_w (t_X6_settle_L8  zF p0 r_1 (0 : Int32) s_2 (by rw [zF_eq]; omega) (by omega) R_3) (fun _ _ h => h)
theorem t_X7_get (p0 : Int32) (p1 : Int32) {σ0 σ : zS} (h0 : yR σ0 σ) : yT (f_X7_get p0 p1 σ) (fun r τ => τ = σ ∧ (True)) := by
 unfold f_X7_get
 have l_1 : (0 : Int32).toInt = 0 := rfl
 refine q_eq (fun h_2 => ?_) (fun h_2 => ?_)
 ·
  refine q_bindp (t_X3_byteAt p0 h0) (fun r_3 p_4 => ?_)
  exact q_some ⟨rfl, by first | trivial | omega⟩
 ·
  refine q_bindp (t_X3_wordAt p0 h0) (fun r_5 p_6 => ?_)
  exact q_some ⟨rfl, by first | trivial | omega⟩
theorem t_X7_put (p0 : Int32) (p1 : Int32) (p2 : Int32) (p3 : Int32) {σ0 σ : zS} (h0 : yR σ0 σ) : yT (f_X7_put p0 p1 p2 p3 σ) (fun r τ => yR σ0 τ ∧ (True)) := by
 unfold f_X7_put
 have l_1 : (0 : Int32).toInt = 0 := rfl
 refine q_eq (fun h_2 => ?_) (fun h_2 => ?_)
 ·
  refine q_binds (t_X3_setByte p0 p1 p3 h0) (fun r_3 s_4 R_5 p_6 => ?_)
  exact q_some ⟨R_5, by first | trivial | omega⟩
 ·
  refine q_binds (t_X3_setWord p0 p1 p3 h0) (fun r_7 s_8 R_9 p_10 => ?_)
  exact q_some ⟨R_9, by first | trivial | omega⟩
theorem t_X7_copy (p0 : Int32) (p1 : Int32) (p2 : Int32) {σ0 σ : zS} (h0 : yR σ0 σ) : yT (f_X7_copy p0 p1 p2 σ) (fun r τ => yR σ0 τ ∧ (True)) := by
 unfold f_X7_copy
 refine q_bindp (t_X7_word p0 h0) (fun r_1 p_2 => ?_)
 refine q_bindp (t_X7_word p1 h0) (fun r_3 p_4 => ?_)
 refine q_bindp (t_X7_number p2 h0) (fun r_5 p_6 => ?_)
 refine q_binds (t_X3_copyTable r_1 r_3 r_5 h0 (by omega)) (fun r_7 s_8 R_9 p_10 => ?_)
 exact q_some ⟨R_9, by first | trivial | omega⟩
theorem t_X7_look (p0 : Int32) (p1 : Int32) (p2 : Int32) (p3 : Int32) {σ0 σ : zS} (h0 : yR σ0 σ) : yT (f_X7_look p0 p1 p2 p3 σ) (fun r τ => τ = σ ∧ (True)) := by
 unfold f_X7_look
 have l_1 : (255 : Int32).toInt = 255 := rfl
 refine q_bindp (t_X7_isWithin p3 (255 : Int32) h0) (fun r_2 p_3 => ?_)
 have l_4 : (0 : Int32).toInt = 0 := rfl
 refine q_eq (fun h_5 => ?_) (fun h_5 => ?_)
 ·
  exact q_some ⟨rfl, by first | trivial | omega⟩
 ·
  refine q_bindp (t_X3_find p0 p1 p2 p3 h0) (fun r_6 p_7 => ?_)
  exact q_some ⟨rfl, by first | trivial | omega⟩
theorem t_X7_random (p0 : Int32) {σ0 σ : zS} (h0 : yR σ0 σ) : yT (f_X7_random p0 σ) (fun r τ => yR σ0 τ ∧ (True)) := by
 unfold f_X7_random
 refine q_bindp (t_X7_number p0 h0) (fun r_1 p_2 => ?_)
 refine q_binds (t_X0_draw r_1 h0) (fun r_3 s_4 R_5 p_6 => ?_)
 exact q_some ⟨R_5, by first | trivial | omega⟩
theorem t_X7_tape (p0 : Int32) {σ0 σ : zS} (h0 : yR σ0 σ) : yT (f_X7_tape p0 σ) (fun r τ => yR σ0 τ ∧ (True)) := by
 unfold f_X7_tape
 have l_1 : (65535 : Int32).toInt = 65535 := rfl
 refine q_bindp (t_X7_isWithin p0 (65535 : Int32) h0) (fun r_2 p_3 => ?_)
 have l_4 : (0 : Int32).toInt = 0 := rfl
 refine q_eq (fun h_5 => ?_) (fun h_5 => ?_)
 ·
  exact q_some ⟨h0, by first | trivial | omega⟩
 ·
  refine q_binds (t_X0_record p0 h0) (fun r_6 s_7 R_8 p_9 => ?_)
  exact q_some ⟨R_8, by first | trivial | omega⟩
theorem t_X7_run_L32 {σ0 : zS} : ∀ (n : Nat) (x1 x2 x3 x4 : Int32) (σ : zS), (300 - x4.toInt).toNat < n → (0 ≤ x4.toInt) → yR σ0 σ → yT (f_X7_run_L32 n x1 x2 x3 x4 σ) (fun r τ => yR σ0 τ ∧ (True)) := by
 intro n
 induction n with
 | zero => intro x1 x2 x3 x4 σ hm; omega
 | succ n ih =>
  intro x1 x2 x3 x4 σ hm hv h0
  rw [f_X7_run_L32]
  have bx4 := i_hi x4
  have l_1 : (300 : Int32).toInt = 300 := rfl
  refine q_le (fun h_2 => ?_) (fun h_2 => ?_)
  ·
   refine q_binds (t_X6_finish  h0) (fun r_3 s_4 R_5 p_6 => ?_)
   exact q_some ⟨R_5, by first | trivial | omega⟩
  ·
   refine q_bindp (t_X6_isGoing  h0) (fun r_7 p_8 => ?_)
   have l_9 : (0 : Int32).toInt = 0 := rfl
   refine q_eq (fun h_10 => ?_) (fun h_10 => ?_)
   ·
    refine q_binds (t_X6_finish  h0) (fun r_11 s_12 R_13 p_14 => ?_)
    exact q_some ⟨R_13, by first | trivial | omega⟩
   ·
    refine q_binds (t_X6_step  h0) (fun r_15 s_16 R_17 p_18 => ?_)
    refine q_binds (t_X6_settle r_15 R_17) (fun r_19 s_20 R_21 p_22 => ?_)
    have l_23 : (1 : Int32).toInt = 1 := rfl
    try have a_24 : (x4 + (1 : Int32)).toInt = x4.toInt + (1 : Int32).toInt := i_add (by omega) (by omega)
    exact ih x1 x2 x3 (x4 + (1 : Int32)) s_20 (by omega) (by omega) R_21
theorem t_X7_run (p0 : Int32) (p1 : Int32) (p2 : Int32) {σ0 σ : zS} (h0 : yR σ0 σ) : yT (f_X7_run p0 p1 p2 σ) (fun r τ => yR σ0 τ ∧ (True)) := by
 unfold f_X7_run
 refine q_bindp (t_X5_hasRoutine p0 h0) (fun r_1 p_2 => ?_)
 have l_3 : (0 : Int32).toInt = 0 := rfl
 refine q_eq (fun h_4 => ?_) (fun h_4 => ?_)
 ·
  exact q_some ⟨h0, by first | trivial | omega⟩
 ·
  refine q_bindp (t_X7_word p1 h0) (fun r_5 p_6 => ?_)
  refine q_bindp (t_X7_word p2 h0) (fun r_7 p_8 => ?_)
  refine q_binds (t_X6_begin p0 r_5 r_7 h0) (fun r_9 s_10 R_11 p_12 => ?_)
  refine q_w (t_X7_run_L32  zF p0 p1 p2 (0 : Int32) s_10 (by rw [zF_eq]; omega) (by omega) R_11) (fun _ _ h => h)
theorem t_X7_told (p0 : Int32) {σ0 σ : zS} (h0 : yR σ0 σ) : yT (f_X7_told p0 σ) (fun r τ => τ = σ ∧ (True)) := by
 unfold f_X7_told
 have l_1 : (0 : Int32).toInt = 0 := rfl
 refine q_eq (fun h_2 => ?_) (fun h_2 => ?_)
 ·
  exact q_some ⟨rfl, by first | trivial | omega⟩
 ·
  have l_3 : (1 : Int32).toInt = 1 := rfl
  refine q_eq (fun h_4 => ?_) (fun h_4 => ?_)
  ·
   refine q_bindp (t_X7_number (σ 13 12) h0) (fun r_5 p_6 => ?_)
   exact q_some ⟨rfl, by first | trivial | omega⟩
  ·
   have l_7 : (2 : Int32).toInt = 2 := rfl
   refine q_eq (fun h_8 => ?_) (fun h_8 => ?_)
   ·
    exact q_some ⟨rfl, by first | trivial | omega⟩
   ·
    have l_9 : (3 : Int32).toInt = 3 := rfl
    refine q_eq (fun h_10 => ?_) (fun h_10 => ?_)
    ·
     exact q_some ⟨rfl, by first | trivial | omega⟩
    ·
     have l_11 : (4 : Int32).toInt = 4 := rfl
     refine q_eq (fun h_12 => ?_) (fun h_12 => ?_)
     ·
      exact q_some ⟨rfl, by first | trivial | omega⟩
     ·
      have l_13 : (5 : Int32).toInt = 5 := rfl
      refine q_eq (fun h_14 => ?_) (fun h_14 => ?_)
      ·
       exact q_some ⟨rfl, by first | trivial | omega⟩
      ·
       have l_15 : (6 : Int32).toInt = 6 := rfl
       refine q_eq (fun h_16 => ?_) (fun h_16 => ?_)
       ·
        exact q_some ⟨rfl, by first | trivial | omega⟩
       ·
        have l_17 : (7 : Int32).toInt = 7 := rfl
        refine q_eq (fun h_18 => ?_) (fun h_18 => ?_)
        ·
         exact q_some ⟨rfl, by first | trivial | omega⟩
        ·
         have l_19 : (8 : Int32).toInt = 8 := rfl
         refine q_eq (fun h_20 => ?_) (fun h_20 => ?_)
         ·
          exact q_some ⟨rfl, by first | trivial | omega⟩
         ·
          exact q_some ⟨rfl, by first | trivial | omega⟩
theorem t_X7_left (p0 : Int32) {σ0 σ : zS} (h0 : yR σ0 σ) : yT (f_X7_left p0 σ) (fun r τ => τ = σ ∧ (True)) := by
 unfold f_X7_left
 have l_1 : (7 : Int32).toInt = 7 := rfl
 refine q_bindp (t_X7_isWithin p0 (7 : Int32) h0) (fun r_2 p_3 => ?_)
 have l_4 : (0 : Int32).toInt = 0 := rfl
 refine q_eq (fun h_5 => ?_) (fun h_5 => ?_)
 ·
  exact q_some ⟨rfl, by first | trivial | omega⟩
 ·
  refine q_c (by omega) (by omega) ?_
  exact q_some ⟨rfl, by first | trivial | omega⟩
