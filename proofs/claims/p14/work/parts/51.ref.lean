theorem i_mulr {a b : Int32} {k : Int} (hb : b.toInt = k) (h1 : -2147483648 ≤ a.toInt * k) (h2 : a.toInt * k < 2147483648) : (a * b).toInt = a.toInt * k := by
  rw [← hb] at h1 h2 ⊢
  exact i_mul h1 h2
theorem t_X8_signed (p0 : Int32) {B F : Int} {σ0 σ : zS} (h0 : yR8 B F σ0 σ) : yT (f_X8_signed p0 σ) (fun r τ => τ = σ ∧ (-32768 ≤ r.toInt ∧ r.toInt ≤ 32767)) := by
 unfold f_X8_signed
 have lq1 : (65535 : Int32).toInt = 65535 := rfl
 have aq2 := i_65535 p0
 refine q_lv (fun yq4 vq3 => ?_)
 have lq5 : (32768 : Int32).toInt = 32768 := rfl
 refine q_lt (fun hq6 => ?_) (fun hq6 => ?_)
 ·
  exact q_some ⟨rfl, by first | trivial | omega⟩
 ·
  have lq7 : (65536 : Int32).toInt = 65536 := rfl
  try have aq8 : (yq4 - (65536 : Int32)).toInt = yq4.toInt - (65536 : Int32).toInt := i_sub (by omega) (by omega)
  exact q_some ⟨rfl, by first | trivial | omega⟩
theorem lg_le (a b c : Int32) : (lg_cmp (a.toInt64 + b.toInt64) c.toInt64 ≤ 0) ↔ a.toInt + b.toInt ≤ c.toInt := by
  have a1 := i_lo a
  have a2 := i_hi a
  have b1 := i_lo b
  have b2 := i_hi b
  rw [lg_cmp_le, Int64.le_iff_toInt_le, Int64.toInt_add, Int32.toInt_toInt64, Int32.toInt_toInt64, Int32.toInt_toInt64]
  rw [Int.bmod_eq_of_le (by simp only [Nat.reducePow, Nat.reduceDiv]; omega) (by simp only [Nat.reducePow, Nat.reduceAdd, Nat.reduceDiv]; omega)]
theorem t_X8_isThere (p0 p1 : Int32) {B F : Int} {σ0 σ : zS} (h0 : yR8 B F σ0 σ) : yT (f_X8_isThere p0 p1 σ) (fun r τ => yR8 B F σ0 τ ∧ ((r.toInt = 0 ∧ (τ 45 12).toInt = 2) ∨ (r.toInt = 1 ∧ 0 ≤ p0.toInt ∧ p0.toInt + p1.toInt ≤ (σ 45 2).toInt ∧ (σ 45 2).toInt ≤ 2000 ∧ (τ 45 12).toInt = (σ 45 12).toInt))) := by
  unfold f_X8_isThere
  have l2 : (2 : Int32).toInt = 2 := rfl
  have l0 : (0 : Int32).toInt = 0 := rfl
  have l1 : (1 : Int32).toInt = 1 := rfl
  have g := e_sz h0
  refine q_lt (fun h1 => ?_) (fun h1 => ?_)
  · refine q_zu8 h0 s_45_12 (fun s R E F => ?_)
    exact q_some ⟨R, Or.inl ⟨rfl, by omega⟩⟩
  · by_cases q : lg_cmp (p0.toInt64 + p1.toInt64) (σ 45 2).toInt64 ≤ 0
    · rw [if_pos q]
      rw [lg_le] at q
      exact q_some ⟨h0, Or.inr ⟨rfl, by omega, q, by omega, rfl⟩⟩
    · rw [if_neg q]
      refine q_zu8 h0 s_45_12 (fun s R E F => ?_)
      exact q_some ⟨R, Or.inl ⟨rfl, by omega⟩⟩
theorem t_X8_size_L40 {B F : Int} {σ0 : zS} : ∀ (n : Nat) (x1 x2 x3 : Int32) (σ : zS), (2000 - x3.toInt).toNat < n → (0 ≤ x3.toInt) → yR8 B F σ0 σ → yT (f_X8_size_L40 n x1 x2 x3 σ) (fun r τ => yR8 B F σ0 τ ∧ (r.toInt = 1)) := by
 intro n
 induction n with
 | zero => intro x1 x2 x3 σ hm; omega
 | succ n ih =>
  intro x1 x2 x3 σ hm hv h0
  rw [f_X8_size_L40]
  have bx3 := i_hi x3
  have lq1 : (2000 : Int32).toInt = 2000 := rfl
  refine q_le (fun hq2 => ?_) (fun hq2 => ?_)
  ·
   have lq3 : (1 : Int32).toInt = 1 := rfl
   exact q_some ⟨h0, by first | trivial | omega⟩
  ·
   refine q_c (by omega) (by omega) ?_
   have cq8 : x3.toNatClampNeg = x3.toInt.toNat := rfl
   have lq9 : (0 : Int32).toInt = 0 := rfl
   refine q_zu8 h0 (s_46 (by omega)) (fun sq4 Rq5 Eq6 Fq7 => ?_)
   have lq10 : (1 : Int32).toInt = 1 := rfl
   try have aq11 : (x3 + (1 : Int32)).toInt = x3.toInt + (1 : Int32).toInt := i_add (by omega) (by omega)
   exact ih x1 x2 (x3 + (1 : Int32)) sq4 (by omega) (by omega) Rq5
theorem t_X8_read (p0 : Int32) (p1 : Int32) {B F : Int} {σ0 σ : zS} (h0 : yR8 B F σ0 σ) : yT (f_X8_read p0 p1 σ) (fun r τ => yR8 B F σ0 τ ∧ (0 ≤ r.toInt ∧ r.toInt ≤ 65535)) := by
 unfold f_X8_read
 have lq1 : (0 : Int32).toInt = 0 := rfl
 refine q_eq (fun hq2 => ?_) (fun hq2 => ?_)
 ·
  have lq3 : (1 : Int32).toInt = 1 := rfl
  refine q_bindR (t_X8_isThere p0 (1 : Int32) h0) (fun rq4 sq5 Rq6 pq7 => ?_)
  refine q_eq (fun hq8 => ?_) (fun hq8 => ?_)
  ·
   exact q_some ⟨Rq6, by first | trivial | omega⟩
  ·
   refine q_eq (fun hq9 => ?_) (fun hq9 => ?_)
   ·
    refine q_c (by omega) (by omega) ?_
    have cq10 : p0.toNatClampNeg = p0.toInt.toNat := rfl
    have gq11 := c_46 Rq6 p0.toNatClampNeg
    exact q_some ⟨Rq6, by first | trivial | omega⟩
   ·
    refine q_c (by omega) (by omega) ?_
    try have aq12 : (p0 + (1 : Int32)).toInt = p0.toInt + (1 : Int32).toInt := i_add (by omega) (by omega)
    refine q_c (by omega) (by omega) ?_
    have cq13 : p0.toNatClampNeg = p0.toInt.toNat := rfl
    have gq14 := c_46 Rq6 p0.toNatClampNeg
    have lq15 : (256 : Int32).toInt = 256 := rfl
    try have aq16 : ((sq5 46 p0.toNatClampNeg) * (256 : Int32)).toInt = (sq5 46 p0.toNatClampNeg).toInt * 256 := i_mulr rfl (by omega) (by omega)
    have cq17 : (p0 + (1 : Int32)).toNatClampNeg = (p0 + (1 : Int32)).toInt.toNat := rfl
    have gq18 := c_46 Rq6 (p0 + (1 : Int32)).toNatClampNeg
    try have aq19 : (((sq5 46 p0.toNatClampNeg) * (256 : Int32)) + (sq5 46 (p0 + (1 : Int32)).toNatClampNeg)).toInt = ((sq5 46 p0.toNatClampNeg) * (256 : Int32)).toInt + (sq5 46 (p0 + (1 : Int32)).toNatClampNeg).toInt := i_add (by omega) (by omega)
    exact q_some ⟨Rq6, by first | trivial | omega⟩
 ·
  have lq20 : (2 : Int32).toInt = 2 := rfl
  refine q_bindR (t_X8_isThere p0 (2 : Int32) h0) (fun rq21 sq22 Rq23 pq24 => ?_)
  refine q_eq (fun hq25 => ?_) (fun hq25 => ?_)
  ·
   exact q_some ⟨Rq23, by first | trivial | omega⟩
  ·
   refine q_eq (fun hq26 => ?_) (fun hq26 => ?_)
   ·
    refine q_c (by omega) (by omega) ?_
    have cq27 : p0.toNatClampNeg = p0.toInt.toNat := rfl
    have gq28 := c_46 Rq23 p0.toNatClampNeg
    exact q_some ⟨Rq23, by first | trivial | omega⟩
   ·
    refine q_c (by omega) (by omega) ?_
    have lq29 : (1 : Int32).toInt = 1 := rfl
    try have aq30 : (p0 + (1 : Int32)).toInt = p0.toInt + (1 : Int32).toInt := i_add (by omega) (by omega)
    refine q_c (by omega) (by omega) ?_
    have cq31 : p0.toNatClampNeg = p0.toInt.toNat := rfl
    have gq32 := c_46 Rq23 p0.toNatClampNeg
    have lq33 : (256 : Int32).toInt = 256 := rfl
    try have aq34 : ((sq22 46 p0.toNatClampNeg) * (256 : Int32)).toInt = (sq22 46 p0.toNatClampNeg).toInt * 256 := i_mulr rfl (by omega) (by omega)
    have cq35 : (p0 + (1 : Int32)).toNatClampNeg = (p0 + (1 : Int32)).toInt.toNat := rfl
    have gq36 := c_46 Rq23 (p0 + (1 : Int32)).toNatClampNeg
    try have aq37 : (((sq22 46 p0.toNatClampNeg) * (256 : Int32)) + (sq22 46 (p0 + (1 : Int32)).toNatClampNeg)).toInt = ((sq22 46 p0.toNatClampNeg) * (256 : Int32)).toInt + (sq22 46 (p0 + (1 : Int32)).toNatClampNeg).toInt := i_add (by omega) (by omega)
    exact q_some ⟨Rq23, by first | trivial | omega⟩
set_option maxHeartbeats 4000000 in
set_option maxRecDepth 20000 in
theorem t_X8_write (p0 : Int32) (p1 : Int32) (p2 : Int32) (p3 : Int32) {B F : Int} {σ0 σ : zS} (h0 : yR8 B F σ0 σ) : yT (f_X8_write p0 p1 p2 p3 σ) (fun r τ => yR8 B F σ0 τ ∧ (True)) := by
 unfold f_X8_write
 have lq1 : (0 : Int32).toInt = 0 := rfl
 refine q_eq (fun hq2 => ?_) (fun hq2 => ?_)
 ·
  have lq3 : (1 : Int32).toInt = 1 := rfl
  refine q_bindR (t_X8_isThere p0 (1 : Int32) h0) (fun rq4 sq5 Rq6 pq7 => ?_)
  refine q_eq (fun hq8 => ?_) (fun hq8 => ?_)
  ·
   exact q_some ⟨Rq6, by first | trivial | omega⟩
  ·
   refine q_eq (fun hq9 => ?_) (fun hq9 => ?_)
   ·
    refine q_eq (fun hq10 => ?_) (fun hq10 => ?_)
    ·
     try have aq11 : (p0 + (0 : Int32)).toInt = p0.toInt + (0 : Int32).toInt := i_add (by omega) (by omega)
     have gq12 := e_sz Rq6
     refine q_lt (fun hq13 => ?_) (fun hq13 => ?_)
     ·
      refine q_eq (fun hq14 => ?_) (fun hq14 => ?_)
      ·
       refine q_c (by omega) (by omega) ?_
       have cq19 : p0.toNatClampNeg = p0.toInt.toNat := rfl
       have lq20 : (255 : Int32).toInt = 255 := rfl
       have aq21 := i_255 p1
       refine q_zu8 Rq6 (s_46 (by omega)) (fun sq15 Rq16 Eq17 Fq18 => ?_)
       exact q_some ⟨Rq16, by first | trivial | omega⟩
      ·
       refine q_c (by omega) (by omega) ?_
       have cq26 : p0.toNatClampNeg = p0.toInt.toNat := rfl
       have lq27 : (8 : Int32).toInt = 8 := rfl
       have lq28 : (31 : Int32).toInt = 31 := rfl
       have lq29 : (255 : Int32).toInt = 255 := rfl
       have aq30 := i_255 (p1 >>> ((8 : Int32) &&& (31 : Int32)))
       refine q_zu8 Rq6 (s_46 (by omega)) (fun sq22 Rq23 Eq24 Fq25 => ?_)
       try have aq31 : (p0 + (1 : Int32)).toInt = p0.toInt + (1 : Int32).toInt := i_add (by omega) (by omega)
       refine q_c (by omega) (by omega) ?_
       have cq36 : (p0 + (1 : Int32)).toNatClampNeg = (p0 + (1 : Int32)).toInt.toNat := rfl
       have aq37 := i_255 p1
       refine q_zu8 Rq23 (s_46 (by omega)) (fun sq32 Rq33 Eq34 Fq35 => ?_)
       exact q_some ⟨Rq33, by first | trivial | omega⟩
     ·
      refine q_zu8 Rq6 s_45_12 (fun sq38 Rq39 Eq40 Fq41 => ?_)
      exact q_some ⟨Rq39, by first | trivial | omega⟩
    ·
     try have aq42 : (p0 + (1 : Int32)).toInt = p0.toInt + (1 : Int32).toInt := i_add (by omega) (by omega)
     have gq43 := e_sz Rq6
     refine q_lt (fun hq44 => ?_) (fun hq44 => ?_)
     ·
      refine q_eq (fun hq45 => ?_) (fun hq45 => ?_)
      ·
       refine q_c (by omega) (by omega) ?_
       have cq50 : p0.toNatClampNeg = p0.toInt.toNat := rfl
       have lq51 : (255 : Int32).toInt = 255 := rfl
       have aq52 := i_255 p1
       refine q_zu8 Rq6 (s_46 (by omega)) (fun sq46 Rq47 Eq48 Fq49 => ?_)
       exact q_some ⟨Rq47, by first | trivial | omega⟩
      ·
       refine q_c (by omega) (by omega) ?_
       have cq57 : p0.toNatClampNeg = p0.toInt.toNat := rfl
       have lq58 : (8 : Int32).toInt = 8 := rfl
       have lq59 : (31 : Int32).toInt = 31 := rfl
       have lq60 : (255 : Int32).toInt = 255 := rfl
       have aq61 := i_255 (p1 >>> ((8 : Int32) &&& (31 : Int32)))
       refine q_zu8 Rq6 (s_46 (by omega)) (fun sq53 Rq54 Eq55 Fq56 => ?_)
       refine q_c (by omega) (by omega) ?_
       have cq66 : (p0 + (1 : Int32)).toNatClampNeg = (p0 + (1 : Int32)).toInt.toNat := rfl
       have aq67 := i_255 p1
       refine q_zu8 Rq54 (s_46 (by omega)) (fun sq62 Rq63 Eq64 Fq65 => ?_)
       exact q_some ⟨Rq63, by first | trivial | omega⟩
     ·
      refine q_zu8 Rq6 s_45_12 (fun sq68 Rq69 Eq70 Fq71 => ?_)
      exact q_some ⟨Rq69, by first | trivial | omega⟩
   ·
    refine q_eq (fun hq72 => ?_) (fun hq72 => ?_)
    ·
     refine q_c (by omega) (by omega) ?_
     have cq77 : p0.toNatClampNeg = p0.toInt.toNat := rfl
     have lq78 : (255 : Int32).toInt = 255 := rfl
     have aq79 := i_255 p1
     refine q_zu8 Rq6 (s_46 (by omega)) (fun sq73 Rq74 Eq75 Fq76 => ?_)
     exact q_some ⟨Rq74, by first | trivial | omega⟩
    ·
     refine q_c (by omega) (by omega) ?_
     have cq84 : p0.toNatClampNeg = p0.toInt.toNat := rfl
     have lq85 : (8 : Int32).toInt = 8 := rfl
     have lq86 : (31 : Int32).toInt = 31 := rfl
     have lq87 : (255 : Int32).toInt = 255 := rfl
     have aq88 := i_255 (p1 >>> ((8 : Int32) &&& (31 : Int32)))
     refine q_zu8 Rq6 (s_46 (by omega)) (fun sq80 Rq81 Eq82 Fq83 => ?_)
     try have aq89 : (p0 + (1 : Int32)).toInt = p0.toInt + (1 : Int32).toInt := i_add (by omega) (by omega)
     refine q_c (by omega) (by omega) ?_
     have cq94 : (p0 + (1 : Int32)).toNatClampNeg = (p0 + (1 : Int32)).toInt.toNat := rfl
     have aq95 := i_255 p1
     refine q_zu8 Rq81 (s_46 (by omega)) (fun sq90 Rq91 Eq92 Fq93 => ?_)
     exact q_some ⟨Rq91, by first | trivial | omega⟩
 ·
  have lq96 : (2 : Int32).toInt = 2 := rfl
  refine q_bindR (t_X8_isThere p0 (2 : Int32) h0) (fun rq97 sq98 Rq99 pq100 => ?_)
  refine q_eq (fun hq101 => ?_) (fun hq101 => ?_)
  ·
   exact q_some ⟨Rq99, by first | trivial | omega⟩
  ·
   refine q_eq (fun hq102 => ?_) (fun hq102 => ?_)
   ·
    refine q_eq (fun hq103 => ?_) (fun hq103 => ?_)
    ·
     try have aq104 : (p0 + (0 : Int32)).toInt = p0.toInt + (0 : Int32).toInt := i_add (by omega) (by omega)
     have gq105 := e_sz Rq99
     refine q_lt (fun hq106 => ?_) (fun hq106 => ?_)
     ·
      refine q_eq (fun hq107 => ?_) (fun hq107 => ?_)
      ·
       refine q_c (by omega) (by omega) ?_
       have cq112 : p0.toNatClampNeg = p0.toInt.toNat := rfl
       have lq113 : (255 : Int32).toInt = 255 := rfl
       have aq114 := i_255 p1
       refine q_zu8 Rq99 (s_46 (by omega)) (fun sq108 Rq109 Eq110 Fq111 => ?_)
       exact q_some ⟨Rq109, by first | trivial | omega⟩
      ·
       refine q_c (by omega) (by omega) ?_
       have cq119 : p0.toNatClampNeg = p0.toInt.toNat := rfl
       have lq120 : (8 : Int32).toInt = 8 := rfl
       have lq121 : (31 : Int32).toInt = 31 := rfl
       have lq122 : (255 : Int32).toInt = 255 := rfl
       have aq123 := i_255 (p1 >>> ((8 : Int32) &&& (31 : Int32)))
       refine q_zu8 Rq99 (s_46 (by omega)) (fun sq115 Rq116 Eq117 Fq118 => ?_)
       have lq124 : (1 : Int32).toInt = 1 := rfl
       try have aq125 : (p0 + (1 : Int32)).toInt = p0.toInt + (1 : Int32).toInt := i_add (by omega) (by omega)
       refine q_c (by omega) (by omega) ?_
       have cq130 : (p0 + (1 : Int32)).toNatClampNeg = (p0 + (1 : Int32)).toInt.toNat := rfl
       have aq131 := i_255 p1
       refine q_zu8 Rq116 (s_46 (by omega)) (fun sq126 Rq127 Eq128 Fq129 => ?_)
       exact q_some ⟨Rq127, by first | trivial | omega⟩
     ·
      refine q_zu8 Rq99 s_45_12 (fun sq132 Rq133 Eq134 Fq135 => ?_)
      exact q_some ⟨Rq133, by first | trivial | omega⟩
    ·
     have lq136 : (1 : Int32).toInt = 1 := rfl
     try have aq137 : (p0 + (1 : Int32)).toInt = p0.toInt + (1 : Int32).toInt := i_add (by omega) (by omega)
     have gq138 := e_sz Rq99
     refine q_lt (fun hq139 => ?_) (fun hq139 => ?_)
     ·
      refine q_eq (fun hq140 => ?_) (fun hq140 => ?_)
      ·
       refine q_c (by omega) (by omega) ?_
       have cq145 : p0.toNatClampNeg = p0.toInt.toNat := rfl
       have lq146 : (255 : Int32).toInt = 255 := rfl
       have aq147 := i_255 p1
       refine q_zu8 Rq99 (s_46 (by omega)) (fun sq141 Rq142 Eq143 Fq144 => ?_)
       exact q_some ⟨Rq142, by first | trivial | omega⟩
      ·
       refine q_c (by omega) (by omega) ?_
       have cq152 : p0.toNatClampNeg = p0.toInt.toNat := rfl
       have lq153 : (8 : Int32).toInt = 8 := rfl
       have lq154 : (31 : Int32).toInt = 31 := rfl
       have lq155 : (255 : Int32).toInt = 255 := rfl
       have aq156 := i_255 (p1 >>> ((8 : Int32) &&& (31 : Int32)))
       refine q_zu8 Rq99 (s_46 (by omega)) (fun sq148 Rq149 Eq150 Fq151 => ?_)
       refine q_c (by omega) (by omega) ?_
       have cq161 : (p0 + (1 : Int32)).toNatClampNeg = (p0 + (1 : Int32)).toInt.toNat := rfl
       have aq162 := i_255 p1
       refine q_zu8 Rq149 (s_46 (by omega)) (fun sq157 Rq158 Eq159 Fq160 => ?_)
       exact q_some ⟨Rq158, by first | trivial | omega⟩
     ·
      refine q_zu8 Rq99 s_45_12 (fun sq163 Rq164 Eq165 Fq166 => ?_)
      exact q_some ⟨Rq164, by first | trivial | omega⟩
   ·
    refine q_eq (fun hq167 => ?_) (fun hq167 => ?_)
    ·
     refine q_c (by omega) (by omega) ?_
     have cq172 : p0.toNatClampNeg = p0.toInt.toNat := rfl
     have lq173 : (255 : Int32).toInt = 255 := rfl
     have aq174 := i_255 p1
     refine q_zu8 Rq99 (s_46 (by omega)) (fun sq168 Rq169 Eq170 Fq171 => ?_)
     exact q_some ⟨Rq169, by first | trivial | omega⟩
    ·
     refine q_c (by omega) (by omega) ?_
     have cq179 : p0.toNatClampNeg = p0.toInt.toNat := rfl
     have lq180 : (8 : Int32).toInt = 8 := rfl
     have lq181 : (31 : Int32).toInt = 31 := rfl
     have lq182 : (255 : Int32).toInt = 255 := rfl
     have aq183 := i_255 (p1 >>> ((8 : Int32) &&& (31 : Int32)))
     refine q_zu8 Rq99 (s_46 (by omega)) (fun sq175 Rq176 Eq177 Fq178 => ?_)
     have lq184 : (1 : Int32).toInt = 1 := rfl
     try have aq185 : (p0 + (1 : Int32)).toInt = p0.toInt + (1 : Int32).toInt := i_add (by omega) (by omega)
     refine q_c (by omega) (by omega) ?_
     have cq190 : (p0 + (1 : Int32)).toNatClampNeg = (p0 + (1 : Int32)).toInt.toNat := rfl
     have aq191 := i_255 p1
     refine q_zu8 Rq176 (s_46 (by omega)) (fun sq186 Rq187 Eq188 Fq189 => ?_)
     exact q_some ⟨Rq187, by first | trivial | omega⟩
theorem t_X8_shifted_L43 {B F : Int} {σ0 : zS} : ∀ (n : Nat) (x0 x1 x2 x3 x4 x5 : Int32) (σ : zS), (x3.toInt - x5.toInt).toNat < n → (0 ≤ x5.toInt) → yR8 B F σ0 σ → yT (f_X8_shifted_L43 n x0 x1 x2 x3 x4 x5 σ) (fun r τ => τ = σ ∧ (True)) := by
 intro n
 induction n with
 | zero => intro x0 x1 x2 x3 x4 x5 σ hm; omega
 | succ n ih =>
  intro x0 x1 x2 x3 x4 x5 σ hm hv h0
  rw [f_X8_shifted_L43]
  have bx3 := i_hi x3
  have bx5 := i_hi x5
  refine q_le (fun hq1 => ?_) (fun hq1 => ?_)
  ·
   refine q_bindp (t_X8_signed x4 h0) (fun rq2 pq3 => ?_)
   exact q_some ⟨rfl, by first | trivial | omega⟩
  ·
   have lq4 : (0 : Int32).toInt = 0 := rfl
   refine q_le (fun hq5 => ?_) (fun hq5 => ?_)
   ·
    have lq6 : (1 : Int32).toInt = 1 := rfl
    have lq7 : (31 : Int32).toInt = 31 := rfl
    refine q_lv (fun yq9 vq8 => ?_)
    try have aq10 : (x5 + (1 : Int32)).toInt = x5.toInt + (1 : Int32).toInt := i_add (by omega) (by omega)
    exact ih x0 x1 x2 x3 yq9 (x5 + (1 : Int32)) σ (by omega) (by omega) h0
   ·
    have lq11 : (2 : Int32).toInt = 2 := rfl
    try have aq12 : (x4 * (2 : Int32)).toInt = x4.toInt * 2 := i_mulr rfl (by omega) (by omega)
    refine q_lv (fun yq14 vq13 => ?_)
    have lq15 : (1 : Int32).toInt = 1 := rfl
    try have aq16 : (x5 + (1 : Int32)).toInt = x5.toInt + (1 : Int32).toInt := i_add (by omega) (by omega)
    exact ih x0 x1 x2 x3 yq14 (x5 + (1 : Int32)) σ (by omega) (by omega) h0
theorem t_X8_shifted (p0 : Int32) (p1 : Int32) (p2 : Int32) {B F : Int} {σ0 σ : zS} (h0 : yR8 B F σ0 σ) : yT (f_X8_shifted p0 p1 p2 σ) (fun r τ => τ = σ ∧ (True)) := by
 unfold f_X8_shifted
 have lq1 : (0 : Int32).toInt = 0 := rfl
 refine q_le (fun hq2 => ?_) (fun hq2 => ?_)
 ·
  have lq3 : (15 : Int32).toInt = 15 := rfl
  refine q_le (fun hq4 => ?_) (fun hq4 => ?_)
  ·
   refine q_eq (fun hq5 => ?_) (fun hq5 => ?_)
   ·
    have lq6 : (65535 : Int32).toInt = 65535 := rfl
    have aq7 := i_65535 p1
    refine q_lv (fun yq9 vq8 => ?_)
    refine q_w (t_X8_shifted_L43  zF p0 p1 p2 p2 yq9 (0 : Int32) σ (by rw [zF_eq]; omega) (by omega) h0) (fun _ _ h => h)
   ·
    refine q_w (t_X8_shifted_L43  zF p0 p1 p2 p2 p1 (0 : Int32) σ (by rw [zF_eq]; omega) (by omega) h0) (fun _ _ h => h)
  ·
   refine q_eq (fun hq10 => ?_) (fun hq10 => ?_)
   ·
    exact q_some ⟨rfl, by first | trivial | omega⟩
   ·
    refine q_eq (fun hq11 => ?_) (fun hq11 => ?_)
    ·
     have lq12 : (65535 : Int32).toInt = 65535 := rfl
     have aq13 := i_65535 p1
     refine q_lv (fun yq15 vq14 => ?_)
     refine q_w (t_X8_shifted_L43  zF p0 p1 p2 (15 : Int32) yq15 (0 : Int32) σ (by rw [zF_eq]; omega) (by omega) h0) (fun _ _ h => h)
    ·
     refine q_w (t_X8_shifted_L43  zF p0 p1 p2 (15 : Int32) p1 (0 : Int32) σ (by rw [zF_eq]; omega) (by omega) h0) (fun _ _ h => h)
 ·
  try have aq16 : (-p2).toInt = - p2.toInt := i_neg (by omega)
  have lq17 : (15 : Int32).toInt = 15 := rfl
  refine q_le (fun hq18 => ?_) (fun hq18 => ?_)
  ·
   refine q_eq (fun hq19 => ?_) (fun hq19 => ?_)
   ·
    have lq20 : (65535 : Int32).toInt = 65535 := rfl
    have aq21 := i_65535 p1
    refine q_lv (fun yq23 vq22 => ?_)
    refine q_w (t_X8_shifted_L43  zF p0 p1 p2 (-p2) yq23 (0 : Int32) σ (by rw [zF_eq]; omega) (by omega) h0) (fun _ _ h => h)
   ·
    refine q_w (t_X8_shifted_L43  zF p0 p1 p2 (-p2) p1 (0 : Int32) σ (by rw [zF_eq]; omega) (by omega) h0) (fun _ _ h => h)
  ·
   refine q_eq (fun hq24 => ?_) (fun hq24 => ?_)
   ·
    exact q_some ⟨rfl, by first | trivial | omega⟩
   ·
    refine q_eq (fun hq25 => ?_) (fun hq25 => ?_)
    ·
     have lq26 : (65535 : Int32).toInt = 65535 := rfl
     have aq27 := i_65535 p1
     refine q_lv (fun yq29 vq28 => ?_)
     refine q_w (t_X8_shifted_L43  zF p0 p1 p2 (15 : Int32) yq29 (0 : Int32) σ (by rw [zF_eq]; omega) (by omega) h0) (fun _ _ h => h)
    ·
     refine q_w (t_X8_shifted_L43  zF p0 p1 p2 (15 : Int32) p1 (0 : Int32) σ (by rw [zF_eq]; omega) (by omega) h0) (fun _ _ h => h)
theorem t_X8_worked (p0 : Int32) (p1 : Int32) (p2 : Int32) {B F : Int} {σ0 σ : zS} (h0 : yR8 B F σ0 σ) : yT (f_X8_worked p0 p1 p2 σ) (fun r τ => yR8 B F σ0 τ ∧ (True)) := by
 unfold f_X8_worked
 have lq1 : (0 : Int32).toInt = 0 := rfl
 refine q_eq (fun hq2 => ?_) (fun hq2 => ?_)
 ·
  refine q_bindp (t_X8_signed (p1 + p2) h0) (fun rq3 pq4 => ?_)
  exact q_some ⟨h0, by first | trivial | omega⟩
 ·
  have lq5 : (1 : Int32).toInt = 1 := rfl
  refine q_eq (fun hq6 => ?_) (fun hq6 => ?_)
  ·
   refine q_bindp (t_X8_signed (p1 - p2) h0) (fun rq7 pq8 => ?_)
   exact q_some ⟨h0, by first | trivial | omega⟩
  ·
   have lq9 : (2 : Int32).toInt = 2 := rfl
   refine q_eq (fun hq10 => ?_) (fun hq10 => ?_)
   ·
    refine q_bindp (t_X8_signed (p1 * p2) h0) (fun rq11 pq12 => ?_)
    exact q_some ⟨h0, by first | trivial | omega⟩
   ·
    have lq13 : (3 : Int32).toInt = 3 := rfl
    refine q_eq (fun hq14 => ?_) (fun hq14 => ?_)
    ·
     refine q_eq (fun hq15 => ?_) (fun hq15 => ?_)
     ·
      refine q_zu8 h0 s_45_12 (fun sq16 Rq17 Eq18 Fq19 => ?_)
      exact q_some ⟨Rq17, by first | trivial | omega⟩
     ·
      refine q_eq (fun hq20 => ?_) (fun hq20 => ?_)
      ·
       refine q_d (by omega) ?_
       refine q_bindp (t_X8_signed (p1 / p2) h0) (fun rq21 pq22 => ?_)
       exact q_some ⟨h0, by first | trivial | omega⟩
      ·
       refine q_d (by omega) ?_
       refine q_bindp (t_X8_signed (p1 - ((p1 / p2) * p2)) h0) (fun rq23 pq24 => ?_)
       exact q_some ⟨h0, by first | trivial | omega⟩
    ·
     have lq25 : (4 : Int32).toInt = 4 := rfl
     refine q_eq (fun hq26 => ?_) (fun hq26 => ?_)
     ·
      refine q_eq (fun hq27 => ?_) (fun hq27 => ?_)
      ·
       refine q_zu8 h0 s_45_12 (fun sq28 Rq29 Eq30 Fq31 => ?_)
       exact q_some ⟨Rq29, by first | trivial | omega⟩
      ·
       refine q_eq (fun hq32 => ?_) (fun hq32 => ?_)
       ·
        refine q_d (by omega) ?_
        refine q_bindp (t_X8_signed (p1 / p2) h0) (fun rq33 pq34 => ?_)
        exact q_some ⟨h0, by first | trivial | omega⟩
       ·
        refine q_d (by omega) ?_
        refine q_bindp (t_X8_signed (p1 - ((p1 / p2) * p2)) h0) (fun rq35 pq36 => ?_)
        exact q_some ⟨h0, by first | trivial | omega⟩
     ·
      have lq37 : (5 : Int32).toInt = 5 := rfl
      refine q_eq (fun hq38 => ?_) (fun hq38 => ?_)
      ·
       exact q_some ⟨h0, by first | trivial | omega⟩
      ·
       have lq39 : (6 : Int32).toInt = 6 := rfl
       refine q_eq (fun hq40 => ?_) (fun hq40 => ?_)
       ·
        exact q_some ⟨h0, by first | trivial | omega⟩
       ·
        have lq41 : (7 : Int32).toInt = 7 := rfl
        refine q_eq (fun hq42 => ?_) (fun hq42 => ?_)
        ·
         exact q_some ⟨h0, by first | trivial | omega⟩
        ·
         have lq43 : (8 : Int32).toInt = 8 := rfl
         refine q_eq (fun hq44 => ?_) (fun hq44 => ?_)
         ·
          refine q_bindp (t_X8_shifted (1 : Int32) p1 p2 h0) (fun rq45 pq46 => ?_)
          exact q_some ⟨h0, by first | trivial | omega⟩
         ·
          refine q_bindp (t_X8_shifted (0 : Int32) p1 p2 h0) (fun rq47 pq48 => ?_)
          exact q_some ⟨h0, by first | trivial | omega⟩
theorem t_X8_copied_L218 {B F : Int} {σ0 : zS} : ∀ (n : Nat) (x1 x2 x3 x4 x5 : Int32) (σ : zS), (x4.toInt - x5.toInt).toNat < n → (0 ≤ x5.toInt ∧ ((σ 45 12).toInt ≠ 0 ∨ (0 ≤ x2.toInt ∧ x2.toInt + x4.toInt ≤ 2000 ∧ x4.toInt ≤ 2000))) → yR8 B F σ0 σ → yT (f_X8_copied_L218 n x1 x2 x3 x4 x5 σ) (fun r τ => yR8 B F σ0 τ ∧ (True)) := by
 intro n
 induction n with
 | zero => intro x1 x2 x3 x4 x5 σ hm; omega
 | succ n ih =>
  intro x1 x2 x3 x4 x5 σ hm hv h0
  rw [f_X8_copied_L218]
  have bx4 := i_hi x4
  have bx5 := i_hi x5
  refine q_le (fun hq1 => ?_) (fun hq1 => ?_)
  ·
   exact q_some ⟨h0, by first | trivial | omega⟩
  ·
   have lq2 : (0 : Int32).toInt = 0 := rfl
   refine q_eq (fun hq3 => ?_) (fun hq3 => ?_)
   ·
    refine q_c (by omega) (by omega) ?_
    try have aq4 : (x2 + x5).toInt = x2.toInt + x5.toInt := i_add (by omega) (by omega)
    refine q_c (by omega) (by omega) ?_
    have cq9 : (x2 + x5).toNatClampNeg = (x2 + x5).toInt.toNat := rfl
    have cq10 : x5.toNatClampNeg = x5.toInt.toNat := rfl
    have gq11 := c_48 h0 x5.toNatClampNeg
    refine q_zu8 h0 (s_46 (by omega)) (fun sq5 Rq6 Eq7 Fq8 => ?_)
    have lq12 : (1 : Int32).toInt = 1 := rfl
    try have aq13 : (x5 + (1 : Int32)).toInt = x5.toInt + (1 : Int32).toInt := i_add (by omega) (by omega)
    have eq14 : (sq5 45 12).toInt = (σ 45 12).toInt := congrArg Int32.toInt (Fq8 _ _ (by omega))
    exact ih x1 x2 x3 x4 (x5 + (1 : Int32)) sq5 (by omega) (by omega) Rq6
   ·
    exact q_some ⟨h0, by first | trivial | omega⟩
theorem t_X8_copied_L179 {B F : Int} {σ0 : zS} : ∀ (n : Nat) (x1 x2 x3 x4 x5 : Int32) (σ : zS), (x4.toInt - x5.toInt).toNat < n → (0 ≤ x5.toInt ∧ x4.toInt < 100000 ∧ ((σ 45 12).toInt ≠ 0 ∨ (0 ≤ x2.toInt ∧ x2.toInt + x4.toInt ≤ 2000 ∧ x4.toInt ≤ 2000 ∧ 0 ≤ x1.toInt ∧ x1.toInt + x4.toInt ≤ 2000))) → yR8 B F σ0 σ → yT (f_X8_copied_L179 n x1 x2 x3 x4 x5 σ) (fun r τ => yR8 B F σ0 τ ∧ (True)) := by
 intro n
 induction n with
 | zero => intro x1 x2 x3 x4 x5 σ hm; omega
 | succ n ih =>
  intro x1 x2 x3 x4 x5 σ hm hv h0
  rw [f_X8_copied_L179]
  have bx4 := i_hi x4
  have bx5 := i_hi x5
  refine q_le (fun hq1 => ?_) (fun hq1 => ?_)
  ·
   have lq2 : (0 : Int32).toInt = 0 := rfl
   refine q_w (t_X8_copied_L218  zF x1 x2 x3 x4 (0 : Int32) σ (by rw [zF_eq]; omega) (by omega) h0) (fun _ _ h => h)
  ·
   have lq3 : (0 : Int32).toInt = 0 := rfl
   refine q_eq (fun hq4 => ?_) (fun hq4 => ?_)
   ·
    try have aq5 : (x1 + x5).toInt = x1.toInt + x5.toInt := i_add (by omega) (by omega)
    refine q_c (by omega) (by omega) ?_
    refine q_c (by omega) (by omega) ?_
    have cq10 : x5.toNatClampNeg = x5.toInt.toNat := rfl
    have cq11 : (x1 + x5).toNatClampNeg = (x1 + x5).toInt.toNat := rfl
    have gq12 := c_46 h0 (x1 + x5).toNatClampNeg
    refine q_zu8 h0 (s_48 (by omega)) (fun sq6 Rq7 Eq8 Fq9 => ?_)
    have lq13 : (1 : Int32).toInt = 1 := rfl
    try have aq14 : (x5 + (1 : Int32)).toInt = x5.toInt + (1 : Int32).toInt := i_add (by omega) (by omega)
    have eq15 : (sq6 45 12).toInt = (σ 45 12).toInt := congrArg Int32.toInt (Fq9 _ _ (by omega))
    exact ih x1 x2 x3 x4 (x5 + (1 : Int32)) sq6 (by omega) (by omega) Rq7
   ·
    refine q_w (t_X8_copied_L218  zF x1 x2 x3 x4 (0 : Int32) σ (by rw [zF_eq]; omega) (by omega) h0) (fun _ _ h => h)
theorem t_X8_copied_L89 {B F : Int} {σ0 : zS} : ∀ (n : Nat) (x1 x2 x3 x4 x5 : Int32) (σ : zS), (x4.toInt - x5.toInt).toNat < n → (0 ≤ x5.toInt) → yR8 B F σ0 σ → yT (f_X8_copied_L89 n x1 x2 x3 x4 x5 σ) (fun r τ => yR8 B F σ0 τ ∧ (True)) := by
 intro n
 induction n with
 | zero => intro x1 x2 x3 x4 x5 σ hm; omega
 | succ n ih =>
  intro x1 x2 x3 x4 x5 σ hm hv h0
  rw [f_X8_copied_L89]
  have bx4 := i_hi x4
  have bx5 := i_hi x5
  refine q_le (fun hq1 => ?_) (fun hq1 => ?_)
  ·
   exact q_some ⟨h0, by first | trivial | omega⟩
  ·
   have lq2 : (0 : Int32).toInt = 0 := rfl
   refine q_eq (fun hq3 => ?_) (fun hq3 => ?_)
   ·
    refine q_bindR (t_X8_read (x1 + x5) (0 : Int32) h0) (fun rq4 sq5 Rq6 pq7 => ?_)
    refine q_eq (fun hq8 => ?_) (fun hq8 => ?_)
    ·
     refine q_bindR (t_X8_write (x2 + x5) rq4 (0 : Int32) (0 : Int32) Rq6) (fun rq9 sq10 Rq11 pq12 => ?_)
     have lq13 : (1 : Int32).toInt = 1 := rfl
     try have aq14 : (x5 + (1 : Int32)).toInt = x5.toInt + (1 : Int32).toInt := i_add (by omega) (by omega)
     exact ih x1 x2 x3 x4 (x5 + (1 : Int32)) sq10 (by omega) (by omega) Rq11
    ·
     have lq15 : (1 : Int32).toInt = 1 := rfl
     try have aq16 : (x5 + (1 : Int32)).toInt = x5.toInt + (1 : Int32).toInt := i_add (by omega) (by omega)
     exact ih x1 x2 x3 x4 (x5 + (1 : Int32)) sq5 (by omega) (by omega) Rq6
   ·
    exact q_some ⟨h0, by first | trivial | omega⟩
theorem t_X8_copied_L51 {B F : Int} {σ0 : zS} : ∀ (n : Nat) (x1 x2 x3 x4 x5 : Int32) (σ : zS), (x4.toInt - x5.toInt).toNat < n → (0 ≤ x5.toInt ∧ ((σ 45 12).toInt ≠ 0 ∨ (0 ≤ x1.toInt ∧ x1.toInt + x4.toInt ≤ 2000))) → yR8 B F σ0 σ → yT (f_X8_copied_L51 n x1 x2 x3 x4 x5 σ) (fun r τ => yR8 B F σ0 τ ∧ (True)) := by
 intro n
 induction n with
 | zero => intro x1 x2 x3 x4 x5 σ hm; omega
 | succ n ih =>
  intro x1 x2 x3 x4 x5 σ hm hv h0
  rw [f_X8_copied_L51]
  have bx4 := i_hi x4
  have bx5 := i_hi x5
  refine q_le (fun hq1 => ?_) (fun hq1 => ?_)
  ·
   exact q_some ⟨h0, by first | trivial | omega⟩
  ·
   have lq2 : (0 : Int32).toInt = 0 := rfl
   refine q_eq (fun hq3 => ?_) (fun hq3 => ?_)
   ·
    try have aq4 : (x1 + x5).toInt = x1.toInt + x5.toInt := i_add (by omega) (by omega)
    refine q_c (by omega) (by omega) ?_
    have cq9 : (x1 + x5).toNatClampNeg = (x1 + x5).toInt.toNat := rfl
    refine q_zu8 h0 (s_46 (by omega)) (fun sq5 Rq6 Eq7 Fq8 => ?_)
    have lq10 : (1 : Int32).toInt = 1 := rfl
    try have aq11 : (x5 + (1 : Int32)).toInt = x5.toInt + (1 : Int32).toInt := i_add (by omega) (by omega)
    have eq12 : (sq5 45 12).toInt = (σ 45 12).toInt := congrArg Int32.toInt (Fq8 _ _ (by omega))
    exact ih x1 x2 x3 x4 (x5 + (1 : Int32)) sq5 (by omega) (by omega) Rq6
   ·
    exact q_some ⟨h0, by first | trivial | omega⟩
theorem t_X8_copied (p0 : Int32) (p1 : Int32) (p2 : Int32) {B F : Int} {σ0 σ : zS} (h0 : yR8 B F σ0 σ) (hp : -100000 < p2.toInt ∧ p2.toInt < 100000) : yT (f_X8_copied p0 p1 p2 σ) (fun r τ => yR8 B F σ0 τ ∧ (True)) := by
 unfold f_X8_copied
 have lq1 : (0 : Int32).toInt = 0 := rfl
 refine q_le (fun hq2 => ?_) (fun hq2 => ?_)
 ·
  refine q_eq (fun hq3 => ?_) (fun hq3 => ?_)
  ·
   exact q_some ⟨h0, by first | trivial | omega⟩
  ·
   refine q_eq (fun hq4 => ?_) (fun hq4 => ?_)
   ·
    refine q_bindR (t_X8_isThere p0 p2 h0) (fun rq5 sq6 Rq7 pq8 => ?_)
    refine q_eq (fun hq9 => ?_) (fun hq9 => ?_)
    ·
     refine q_w (t_X8_copied_L51  zF p0 p1 p2 p2 (0 : Int32) sq6 (by rw [zF_eq]; omega) (by omega) Rq7) (fun _ _ h => h)
    ·
     try have aq10 : (p0 + p2).toInt = p0.toInt + p2.toInt := i_add (by omega) (by omega)
     have gq11 := e_sz Rq7
     refine q_le (fun hq12 => ?_) (fun hq12 => ?_)
     ·
      refine q_w (t_X8_copied_L51  zF p0 p1 p2 p2 (0 : Int32) sq6 (by rw [zF_eq]; omega) (by omega) Rq7) (fun _ _ h => h)
     ·
      refine q_zu8 Rq7 s_45_12 (fun sq13 Rq14 Eq15 Fq16 => ?_)
      have eq17 := Eq15
      refine q_w (t_X8_copied_L51  zF p0 p1 p2 p2 (0 : Int32) sq13 (by rw [zF_eq]; omega) (by omega) Rq14) (fun _ _ h => h)
   ·
    refine q_le (fun hq18 => ?_) (fun hq18 => ?_)
    ·
     refine q_bindR (t_X8_isThere p0 p2 h0) (fun rq19 sq20 Rq21 pq22 => ?_)
     refine q_eq (fun hq23 => ?_) (fun hq23 => ?_)
     ·
      refine q_w (t_X8_copied_L179  zF p0 p1 p2 p2 (0 : Int32) sq20 (by rw [zF_eq]; omega) (by omega) Rq21) (fun _ _ h => h)
     ·
      refine q_bindR (t_X8_isThere p1 p2 Rq21) (fun rq24 sq25 Rq26 pq27 => ?_)
      refine q_eq (fun hq28 => ?_) (fun hq28 => ?_)
      ·
       refine q_w (t_X8_copied_L179  zF p0 p1 p2 p2 (0 : Int32) sq25 (by rw [zF_eq]; omega) (by omega) Rq26) (fun _ _ h => h)
      ·
       try have aq29 : (p1 + p2).toInt = p1.toInt + p2.toInt := i_add (by omega) (by omega)
       have gq30 := e_sz Rq26
       refine q_le (fun hq31 => ?_) (fun hq31 => ?_)
       ·
        refine q_w (t_X8_copied_L179  zF p0 p1 p2 p2 (0 : Int32) sq25 (by rw [zF_eq]; omega) (by omega) Rq26) (fun _ _ h => h)
       ·
        refine q_zu8 Rq26 s_45_12 (fun sq32 Rq33 Eq34 Fq35 => ?_)
        have eq36 := Eq34
        refine q_w (t_X8_copied_L179  zF p0 p1 p2 p2 (0 : Int32) sq32 (by rw [zF_eq]; omega) (by omega) Rq33) (fun _ _ h => h)
    ·
     refine q_w (t_X8_copied_L89  zF p0 p1 p2 p2 (0 : Int32) σ (by rw [zF_eq]; omega) (by omega) h0) (fun _ _ h => h)
 ·
  try have aq37 : (-p2).toInt = - p2.toInt := i_neg (by omega)
  refine q_eq (fun hq38 => ?_) (fun hq38 => ?_)
  ·
   exact q_some ⟨h0, by first | trivial | omega⟩
  ·
   refine q_eq (fun hq39 => ?_) (fun hq39 => ?_)
   ·
    refine q_bindR (t_X8_isThere p0 (-p2) h0) (fun rq40 sq41 Rq42 pq43 => ?_)
    refine q_eq (fun hq44 => ?_) (fun hq44 => ?_)
    ·
     refine q_w (t_X8_copied_L51  zF p0 p1 p2 (-p2) (0 : Int32) sq41 (by rw [zF_eq]; omega) (by omega) Rq42) (fun _ _ h => h)
    ·
     try have aq45 : (p0 + (-p2)).toInt = p0.toInt + (-p2).toInt := i_add (by omega) (by omega)
     have gq46 := e_sz Rq42
     refine q_le (fun hq47 => ?_) (fun hq47 => ?_)
     ·
      refine q_w (t_X8_copied_L51  zF p0 p1 p2 (-p2) (0 : Int32) sq41 (by rw [zF_eq]; omega) (by omega) Rq42) (fun _ _ h => h)
     ·
      refine q_zu8 Rq42 s_45_12 (fun sq48 Rq49 Eq50 Fq51 => ?_)
      have eq52 := Eq50
      refine q_w (t_X8_copied_L51  zF p0 p1 p2 (-p2) (0 : Int32) sq48 (by rw [zF_eq]; omega) (by omega) Rq49) (fun _ _ h => h)
   ·
    refine q_le (fun hq53 => ?_) (fun hq53 => ?_)
    ·
     refine q_bindR (t_X8_isThere p0 (-p2) h0) (fun rq54 sq55 Rq56 pq57 => ?_)
     refine q_eq (fun hq58 => ?_) (fun hq58 => ?_)
     ·
      refine q_w (t_X8_copied_L179  zF p0 p1 p2 (-p2) (0 : Int32) sq55 (by rw [zF_eq]; omega) (by omega) Rq56) (fun _ _ h => h)
     ·
      refine q_bindR (t_X8_isThere p1 (-p2) Rq56) (fun rq59 sq60 Rq61 pq62 => ?_)
      refine q_eq (fun hq63 => ?_) (fun hq63 => ?_)
      ·
       refine q_w (t_X8_copied_L179  zF p0 p1 p2 (-p2) (0 : Int32) sq60 (by rw [zF_eq]; omega) (by omega) Rq61) (fun _ _ h => h)
      ·
       try have aq64 : (p1 + (-p2)).toInt = p1.toInt + (-p2).toInt := i_add (by omega) (by omega)
       have gq65 := e_sz Rq61
       refine q_le (fun hq66 => ?_) (fun hq66 => ?_)
       ·
        refine q_w (t_X8_copied_L179  zF p0 p1 p2 (-p2) (0 : Int32) sq60 (by rw [zF_eq]; omega) (by omega) Rq61) (fun _ _ h => h)
       ·
        refine q_zu8 Rq61 s_45_12 (fun sq67 Rq68 Eq69 Fq70 => ?_)
        have eq71 := Eq69
        refine q_w (t_X8_copied_L179  zF p0 p1 p2 (-p2) (0 : Int32) sq67 (by rw [zF_eq]; omega) (by omega) Rq68) (fun _ _ h => h)
    ·
     refine q_w (t_X8_copied_L89  zF p0 p1 p2 (-p2) (0 : Int32) σ (by rw [zF_eq]; omega) (by omega) h0) (fun _ _ h => h)
theorem t_X8_looked_L13 {B F : Int} {σ0 : zS} : ∀ (n : Nat) (x1 x2 x3 x4 x5 x6 x7 : Int32) (σ : zS), (x3.toInt - x7.toInt).toNat < n → (0 ≤ x7.toInt) → yR8 B F σ0 σ → yT (f_X8_looked_L13 n x1 x2 x3 x4 x5 x6 x7 σ) (fun r τ => yR8 B F σ0 τ ∧ (True)) := by
 intro n
 induction n with
 | zero => intro x1 x2 x3 x4 x5 x6 x7 σ hm; omega
 | succ n ih =>
  intro x1 x2 x3 x4 x5 x6 x7 σ hm hv h0
  rw [f_X8_looked_L13]
  have bx3 := i_hi x3
  have bx7 := i_hi x7
  refine q_le (fun hq1 => ?_) (fun hq1 => ?_)
  ·
   exact q_some ⟨h0, by first | trivial | omega⟩
  ·
   have lq2 : (128 : Int32).toInt = 128 := rfl
   refine q_lt (fun hq3 => ?_) (fun hq3 => ?_)
   ·
    refine q_bindR (t_X8_read x6 (0 : Int32) h0) (fun rq4 sq5 Rq6 pq7 => ?_)
    have lq8 : (0 : Int32).toInt = 0 := rfl
    refine q_eq (fun hq9 => ?_) (fun hq9 => ?_)
    ·
     refine q_eq (fun hq10 => ?_) (fun hq10 => ?_)
     ·
      exact q_some ⟨Rq6, by first | trivial | omega⟩
     ·
      try have aq11 : (x6 + x5).toInt = x6.toInt + x5.toInt := i_add (by omega) (by omega)
      have lq12 : (1 : Int32).toInt = 1 := rfl
      try have aq13 : (x7 + (1 : Int32)).toInt = x7.toInt + (1 : Int32).toInt := i_add (by omega) (by omega)
      exact ih x1 x2 x3 x4 x5 (x6 + x5) (x7 + (1 : Int32)) sq5 (by omega) (by omega) Rq6
    ·
     exact q_some ⟨Rq6, by first | trivial | omega⟩
   ·
    refine q_bindR (t_X8_read x6 (1 : Int32) h0) (fun rq14 sq15 Rq16 pq17 => ?_)
    have lq18 : (0 : Int32).toInt = 0 := rfl
    refine q_eq (fun hq19 => ?_) (fun hq19 => ?_)
    ·
     refine q_eq (fun hq20 => ?_) (fun hq20 => ?_)
     ·
      exact q_some ⟨Rq16, by first | trivial | omega⟩
     ·
      try have aq21 : (x6 + x5).toInt = x6.toInt + x5.toInt := i_add (by omega) (by omega)
      have lq22 : (1 : Int32).toInt = 1 := rfl
      try have aq23 : (x7 + (1 : Int32)).toInt = x7.toInt + (1 : Int32).toInt := i_add (by omega) (by omega)
      exact ih x1 x2 x3 x4 x5 (x6 + x5) (x7 + (1 : Int32)) sq15 (by omega) (by omega) Rq16
    ·
     exact q_some ⟨Rq16, by first | trivial | omega⟩
theorem t_X8_looked (p0 : Int32) (p1 : Int32) (p2 : Int32) (p3 : Int32) {B F : Int} {σ0 σ : zS} (h0 : yR8 B F σ0 σ) (hp : p2.toInt < 100000) : yT (f_X8_looked p0 p1 p2 p3 σ) (fun r τ => yR8 B F σ0 τ ∧ (True)) := by
 unfold f_X8_looked
 have lq1 : (127 : Int32).toInt = 127 := rfl
 have aq2 := i_127 p3
 refine q_lv (fun yq4 vq3 => ?_)
 have lq5 : (0 : Int32).toInt = 0 := rfl
 refine q_w (t_X8_looked_L13  zF p0 p1 p2 p3 yq4 p1 (0 : Int32) σ (by rw [zF_eq]; omega) (by omega) h0) (fun _ _ h => h)
theorem t_X8_drawn_L84 {B F : Int} {σ0 : zS} : ∀ (n : Nat) (x1 x2 x3 : Int32) (σ : zS), (50 - x3.toInt).toNat < n → (0 ≤ x3.toInt ∧ x1.toInt ≠ 0 ∧ (σ 45 11).toInt ≤ 49) → yR8 B F σ0 σ → yT (f_X8_drawn_L84 n x1 x2 x3 σ) (fun r τ => yR8 B F σ0 τ ∧ (True)) := by
 intro n
 induction n with
 | zero => intro x1 x2 x3 σ hm; omega
 | succ n ih =>
  intro x1 x2 x3 σ hm hv h0
  rw [f_X8_drawn_L84]
  have bx3 := i_hi x3
  have gq1 := e_11 h0
  refine q_le (fun hq2 => ?_) (fun hq2 => ?_)
  ·
   refine q_d (by omega) ?_
   exact q_some ⟨h0, by first | trivial | omega⟩
  ·
   have lq3 : (1 : Int32).toInt = 1 := rfl
   try have aq4 : (x3 + (1 : Int32)).toInt = x3.toInt + (1 : Int32).toInt := i_add (by omega) (by omega)
   refine q_c (by omega) (by omega) ?_
   refine q_c (by omega) (by omega) ?_
   have cq9 : x3.toNatClampNeg = x3.toInt.toNat := rfl
   refine q_zu8 h0 s_47 (fun sq5 Rq6 Eq7 Fq8 => ?_)
   have gq10 := e_11 Rq6
   have eq11 : (sq5 45 11).toInt = (σ 45 11).toInt := congrArg Int32.toInt (Fq8 _ _ (by omega))
   exact ih x1 x2 (x3 + (1 : Int32)) sq5 (by omega) (by omega) Rq6
theorem t_X8_drawn (p0 : Int32) {B F : Int} {σ0 σ : zS} (h0 : yR8 B F σ0 σ) : yT (f_X8_drawn p0 σ) (fun r τ => yR8 B F σ0 τ ∧ (True)) := by
 unfold f_X8_drawn
 have lq1 : (0 : Int32).toInt = 0 := rfl
 refine q_le (fun hq2 => ?_) (fun hq2 => ?_)
 ·
  refine q_eq (fun hq3 => ?_) (fun hq3 => ?_)
  ·
   refine q_zu8 h0 s_45_6 (fun sq4 Rq5 Eq6 Fq7 => ?_)
   exact q_some ⟨Rq5, by first | trivial | omega⟩
  ·
   have lq8 : (1000 : Int32).toInt = 1000 := rfl
   try have aq9 : (-p0).toInt = - p0.toInt := i_neg (by omega)
   refine q_le (fun hq10 => ?_) (fun hq10 => ?_)
   ·
    refine q_zu8 h0 s_45_6 (fun sq11 Rq12 Eq13 Fq14 => ?_)
    refine q_zu8 Rq12 s_45_7 (fun sq15 Rq16 Eq17 Fq18 => ?_)
    exact q_some ⟨Rq16, by first | trivial | omega⟩
   ·
    refine q_zu8 h0 s_45_6 (fun sq19 Rq20 Eq21 Fq22 => ?_)
    refine q_zu8 Rq20 s_45_8 (fun sq23 Rq24 Eq25 Fq26 => ?_)
    refine q_zu8 Rq24 s_45_9 (fun sq27 Rq28 Eq29 Fq30 => ?_)
    exact q_some ⟨Rq28, by first | trivial | omega⟩
 ·
  have lq31 : (1 : Int32).toInt = 1 := rfl
  refine q_eq (fun hq32 => ?_) (fun hq32 => ?_)
  ·
   refine q_d (by omega) ?_
   try have aq33 : ((σ 45 9) - (1 : Int32)).toInt = (σ 45 9).toInt - (1 : Int32).toInt := i_sub (by omega) (by omega)
   try have aq34 : (((σ 45 9) - (1 : Int32)) - ((((σ 45 9) - (1 : Int32)) / p0) * p0)).toInt = ((σ 45 9) - (1 : Int32)).toInt - ((((σ 45 9) - (1 : Int32)) / p0) * p0).toInt := i_sub (by omega) (by omega)
   try have aq35 : ((((σ 45 9) - (1 : Int32)) - ((((σ 45 9) - (1 : Int32)) / p0) * p0)) + (1 : Int32)).toInt = (((σ 45 9) - (1 : Int32)) - ((((σ 45 9) - (1 : Int32)) / p0) * p0)).toInt + (1 : Int32).toInt := i_add (by omega) (by omega)
   refine q_lv (fun yq37 vq36 => ?_)
   refine q_eq (fun hq38 => ?_) (fun hq38 => ?_)
   ·
    refine q_zu8 h0 s_45_9 (fun sq39 Rq40 Eq41 Fq42 => ?_)
    exact q_some ⟨Rq40, by first | trivial | omega⟩
   ·
    refine q_zu8 h0 s_45_9 (fun sq43 Rq44 Eq45 Fq46 => ?_)
    exact q_some ⟨Rq44, by first | trivial | omega⟩
  ·
   have lq47 : (2 : Int32).toInt = 2 := rfl
   refine q_eq (fun hq48 => ?_) (fun hq48 => ?_)
   ·
    have gq49 := e_11 h0
    refine q_le (fun hq50 => ?_) (fun hq50 => ?_)
    ·
     refine q_zu8 h0 s_45_7 (fun sq51 Rq52 Eq53 Fq54 => ?_)
     refine q_d (by omega) ?_
     exact q_some ⟨Rq52, by first | trivial | omega⟩
    ·
     refine q_c (by omega) (by omega) ?_
     have cq55 : (0 : Int32).toNatClampNeg = (0 : Int32).toInt.toNat := rfl
     refine q_lv (fun yq57 vq56 => ?_)
     try have aq62 : ((σ 45 11) - (1 : Int32)).toInt = (σ 45 11).toInt - (1 : Int32).toInt := i_sub (by omega) (by omega)
     refine q_zu8 h0 (s_45_11 (by omega)) (fun sq58 Rq59 Eq60 Fq61 => ?_)
     have gq63 := e_11 Rq59
     have eq64 := Eq60
     refine q_w (t_X8_drawn_L84  zF p0 yq57 (0 : Int32) sq58 (by rw [zF_eq]; omega) (by omega) Rq59) (fun _ _ h => h)
   ·
    refine q_zu8 h0 s_45_7 (fun sq65 Rq66 Eq67 Fq68 => ?_)
    refine q_d (by omega) ?_
    exact q_some ⟨Rq66, by first | trivial | omega⟩
theorem t_X8_top  {B F : Int} {σ0 σ : zS} (h0 : yR8 B F σ0 σ) : yT (f_X8_top  σ) (fun r τ => τ = σ ∧ (r.toInt = F - 1 ∧ F ≤ 12)) := by
 unfold f_X8_top
 have gq1 := e_22 h0
 have lq2 : (1 : Int32).toInt = 1 := rfl
 try have aq3 : ((σ 45 22) - (1 : Int32)).toInt = (σ 45 22).toInt - (1 : Int32).toInt := i_sub (by omega) (by omega)
 exact q_some ⟨rfl, by first | trivial | omega⟩
theorem t_X8_pop {B F : Int} {σ0 σ : zS} (h0 : yR8 B F σ0 σ) (hp : 1 ≤ F) : yT (f_X8_pop σ) (fun r τ => yR8 B F σ0 τ ∧ (0 ≤ r.toInt ∧ r.toInt ≤ 65535)) := by
  unfold f_X8_pop
  refine q_bindp (t_X8_top h0) (fun v hv => ?_)
  have g := e_22 h0
  refine q_c (by omega) (by omega) ?_
  have c : v.toNatClampNeg = v.toInt.toNat := rfl
  have g9 := e_59 h0 v.toNatClampNeg
  have g29 := e_29 h0
  refine q_eq (fun h1 => ?_) (fun h1 => ?_)
  · refine q_zu8 h0 s_45_12 (fun s R E F => ?_)
    exact q_some ⟨R, by decide, by decide⟩
  · have hb : (σ 59 v.toNatClampNeg).toInt ≤ (σ 45 29).toInt := g9.2.2 (by omega)
    have e : ((σ 45 29) - (1 : Int32)).toInt = (σ 45 29).toInt - 1 := i_m1 (by omega)
    have hm : ∀ j : Nat, (j : Int) < F → (σ 59 j).toInt ≤ ((σ 45 29) - (1 : Int32)).toInt := by
      intro j hj
      have q := (h0.2.2.2.1 j v.toNatClampNeg (by omega) (by omega)).1
      omega
    have R := R8_hi h0 (v := (σ 45 29) - (1 : Int32)) (by omega) hm
    show yT (zc (zu σ 45 29 ((σ 45 29) - (1 : Int32)) 45 29) 100 _) _
    have e2 : zu σ 45 29 ((σ 45 29) - (1 : Int32)) 45 29 = (σ 45 29) - (1 : Int32) := by rw [zu_rd, if_pos ⟨rfl, rfl⟩]
    refine q_c (by rw [e2]; omega) (by rw [e2]; omega) ?_
    exact q_some ⟨R, c_61 R _⟩
theorem t_X8_push (p0 : Int32) {B F : Int} {σ0 σ : zS} (h0 : yR8 B F σ0 σ) : yT (f_X8_push p0 σ) (fun _ τ => yR8 B F σ0 τ ∧ True) := by
  unfold f_X8_push
  have l : (100 : Int32).toInt = 100 := rfl
  have g29 := e_29 h0
  refine q_eq (fun h1 => ?_) (fun h1 => ?_)
  · refine q_zu8 h0 s_45_12 (fun s R E F => ?_)
    exact q_some ⟨R, trivial⟩
  · refine q_c (by omega) (by omega) ?_
    have hb := i_65535 p0
    refine q_zu8 h0 (s_61 (by omega)) (fun s R E Fr => ?_)
    have g := e_29 R
    have e0 : (s 45 29) = (σ 45 29) := Fr _ _ (by omega)
    have e : ((s 45 29) + (1 : Int32)).toInt = (s 45 29).toInt + 1 := i_1 (by omega)
    have hm : ∀ j : Nat, (j : Int) < F → (s 59 j).toInt ≤ ((s 45 29) + (1 : Int32)).toInt := by
      intro j hj
      have q := (e_59 R j).2.2 hj
      omega
    exact q_some ⟨R8_hi R (by rw [e, e0]; omega) hm, trivial⟩
theorem t_X8_isLocal (p0 : Int32) {B F : Int} {σ0 σ : zS} (h0 : yR8 B F σ0 σ) (hp : 1 ≤ F) : yT (f_X8_isLocal p0 σ) (fun r τ => yR8 B F σ0 τ ∧ (r.toInt = 0 ∨ (r.toInt = 1 ∧ p0.toInt ≤ 15))) := by
 unfold f_X8_isLocal
 refine q_bindp (t_X8_top  h0) (fun rq1 pq2 => ?_)
 refine q_c (by omega) (by omega) ?_
 have cq3 : rq1.toNatClampNeg = rq1.toInt.toNat := rfl
 have gq4 := c_56 h0 rq1.toNatClampNeg
 refine q_c (by omega) (by omega) ?_
 have cq5 : (σ 56 rq1.toNatClampNeg).toNatClampNeg = (σ 56 rq1.toNatClampNeg).toInt.toNat := rfl
 have gq6 := c_54 h0 (σ 56 rq1.toNatClampNeg).toNatClampNeg
 refine q_le (fun hq7 => ?_) (fun hq7 => ?_)
 ·
  have lq8 : (1 : Int32).toInt = 1 := rfl
  exact q_some ⟨h0, by first | trivial | omega⟩
 ·
  refine q_zu8 h0 s_45_12 (fun sq9 Rq10 Eq11 Fq12 => ?_)
  have lq13 : (0 : Int32).toInt = 0 := rfl
  exact q_some ⟨Rq10, by first | trivial | omega⟩
theorem t_X8_ask (p0 : Int32) {B F : Int} {σ0 σ : zS} (h0 : yR8 B F σ0 σ) (hp : 1 ≤ F ∧ 0 ≤ p0.toInt) : yT (f_X8_ask p0 σ) (fun r τ => yR8 B F σ0 τ ∧ (0 ≤ r.toInt ∧ r.toInt ≤ 65535)) := by
 unfold f_X8_ask
 have lq1 : (0 : Int32).toInt = 0 := rfl
 refine q_eq (fun hq2 => ?_) (fun hq2 => ?_)
 ·
  refine q_bindR (t_X8_pop  h0 (by omega)) (fun rq3 sq4 Rq5 pq6 => ?_)
  exact q_some ⟨Rq5, by first | trivial | omega⟩
 ·
  have lq7 : (16 : Int32).toInt = 16 := rfl
  refine q_le (fun hq8 => ?_) (fun hq8 => ?_)
  ·
   refine q_bindR (t_X8_read ((σ 45 4) + ((2 : Int32) * (p0 - (16 : Int32)))) (1 : Int32) h0) (fun rq9 sq10 Rq11 pq12 => ?_)
   exact q_some ⟨Rq11, by first | trivial | omega⟩
  ·
   refine q_bindR (t_X8_isLocal p0 h0 (by omega)) (fun rq13 sq14 Rq15 pq16 => ?_)
   refine q_eq (fun hq17 => ?_) (fun hq17 => ?_)
   ·
    exact q_some ⟨Rq15, by first | trivial | omega⟩
   ·
    refine q_bindp (t_X8_top  Rq15) (fun rq18 pq19 => ?_)
    have lq20 : (15 : Int32).toInt = 15 := rfl
    try have aq21 : ((15 : Int32) * rq18).toInt = 15 * rq18.toInt := i_mulk rfl (by omega) (by omega)
    try have aq22 : (((15 : Int32) * rq18) + p0).toInt = ((15 : Int32) * rq18).toInt + p0.toInt := i_add (by omega) (by omega)
    have lq23 : (1 : Int32).toInt = 1 := rfl
    try have aq24 : ((((15 : Int32) * rq18) + p0) - (1 : Int32)).toInt = (((15 : Int32) * rq18) + p0).toInt - (1 : Int32).toInt := i_sub (by omega) (by omega)
    refine q_c (by omega) (by omega) ?_
    have cq25 : ((((15 : Int32) * rq18) + p0) - (1 : Int32)).toNatClampNeg = ((((15 : Int32) * rq18) + p0) - (1 : Int32)).toInt.toNat := rfl
    have gq26 := c_60 Rq15 ((((15 : Int32) * rq18) + p0) - (1 : Int32)).toNatClampNeg
    exact q_some ⟨Rq15, by first | trivial | omega⟩
theorem t_X8_set (p0 : Int32) (p1 : Int32) {B F : Int} {σ0 σ : zS} (h0 : yR8 B F σ0 σ) (hp : 1 ≤ F ∧ 0 ≤ p0.toInt) : yT (f_X8_set p0 p1 σ) (fun r τ => yR8 B F σ0 τ ∧ (True)) := by
 unfold f_X8_set
 have lq1 : (0 : Int32).toInt = 0 := rfl
 refine q_eq (fun hq2 => ?_) (fun hq2 => ?_)
 ·
  refine q_bindR (t_X8_push p1 h0) (fun rq3 sq4 Rq5 pq6 => ?_)
  exact q_some ⟨Rq5, by first | trivial | omega⟩
 ·
  have lq7 : (16 : Int32).toInt = 16 := rfl
  refine q_le (fun hq8 => ?_) (fun hq8 => ?_)
  ·
   refine q_bindR (t_X8_write ((σ 45 4) + ((2 : Int32) * (p0 - (16 : Int32)))) p1 (1 : Int32) (0 : Int32) h0) (fun rq9 sq10 Rq11 pq12 => ?_)
   exact q_some ⟨Rq11, by first | trivial | omega⟩
  ·
   refine q_bindR (t_X8_isLocal p0 h0 (by omega)) (fun rq13 sq14 Rq15 pq16 => ?_)
   refine q_eq (fun hq17 => ?_) (fun hq17 => ?_)
   ·
    exact q_some ⟨Rq15, by first | trivial | omega⟩
   ·
    refine q_bindp (t_X8_top  Rq15) (fun rq18 pq19 => ?_)
    have lq20 : (15 : Int32).toInt = 15 := rfl
    try have aq21 : ((15 : Int32) * rq18).toInt = 15 * rq18.toInt := i_mulk rfl (by omega) (by omega)
    try have aq22 : (((15 : Int32) * rq18) + p0).toInt = ((15 : Int32) * rq18).toInt + p0.toInt := i_add (by omega) (by omega)
    have lq23 : (1 : Int32).toInt = 1 := rfl
    try have aq24 : ((((15 : Int32) * rq18) + p0) - (1 : Int32)).toInt = (((15 : Int32) * rq18) + p0).toInt - (1 : Int32).toInt := i_sub (by omega) (by omega)
    refine q_c (by omega) (by omega) ?_
    have cq29 : ((((15 : Int32) * rq18) + p0) - (1 : Int32)).toNatClampNeg = ((((15 : Int32) * rq18) + p0) - (1 : Int32)).toInt.toNat := rfl
    have lq30 : (65535 : Int32).toInt = 65535 := rfl
    have aq31 := i_65535 p1
    refine q_zu8 Rq15 (s_60 (by omega)) (fun sq25 Rq26 Eq27 Fq28 => ?_)
    exact q_some ⟨Rq26, by first | trivial | omega⟩
theorem t_X8_more (p0 : Int32) (p1 : Int32) {B F : Int} {σ0 σ : zS} (h0 : yR8 B F σ0 σ) (hp : 1 ≤ F ∧ 0 ≤ p0.toInt) : yT (f_X8_more p0 p1 σ) (fun r τ => yR8 B F σ0 τ ∧ (True)) := by
 unfold f_X8_more
 have lq1 : (0 : Int32).toInt = 0 := rfl
 refine q_eq (fun hq2 => ?_) (fun hq2 => ?_)
 ·
  refine q_bindp (t_X8_top  h0) (fun rq3 pq4 => ?_)
  refine q_c (by omega) (by omega) ?_
  have gq5 := e_29 h0
  have cq6 : rq3.toNatClampNeg = rq3.toInt.toNat := rfl
  have gq7 := e_59 h0 rq3.toNatClampNeg
  refine q_eq (fun hq8 => ?_) (fun hq8 => ?_)
  ·
   refine q_zu8 h0 s_45_12 (fun sq9 Rq10 Eq11 Fq12 => ?_)
   exact q_some ⟨Rq10, by first | trivial | omega⟩
  ·
   have lq13 : (1 : Int32).toInt = 1 := rfl
   try have aq14 : ((σ 45 29) - (1 : Int32)).toInt = (σ 45 29).toInt - (1 : Int32).toInt := i_sub (by omega) (by omega)
   refine q_c (by omega) (by omega) ?_
   refine q_c (by omega) (by omega) ?_
   have cq19 : ((σ 45 29) - (1 : Int32)).toNatClampNeg = ((σ 45 29) - (1 : Int32)).toInt.toNat := rfl
   have gq20 := c_61 h0 ((σ 45 29) - (1 : Int32)).toNatClampNeg
   try have aq21 : ((σ 61 ((σ 45 29) - (1 : Int32)).toNatClampNeg) + p1).toInt = (σ 61 ((σ 45 29) - (1 : Int32)).toNatClampNeg).toInt + p1.toInt := i_add (by omega) (by omega)
   have lq22 : (65535 : Int32).toInt = 65535 := rfl
   have aq23 := i_65535 ((σ 61 ((σ 45 29) - (1 : Int32)).toNatClampNeg) + p1)
   refine q_zu8 h0 (s_61 (by omega)) (fun sq15 Rq16 Eq17 Fq18 => ?_)
   exact q_some ⟨Rq16, by first | trivial | omega⟩
 ·
  refine q_bindR (t_X8_ask p0 h0 (by omega)) (fun rq24 sq25 Rq26 pq27 => ?_)
  refine q_eq (fun hq28 => ?_) (fun hq28 => ?_)
  ·
   try have aq29 : (rq24 + p1).toInt = rq24.toInt + p1.toInt := i_add (by omega) (by omega)
   refine q_bindR (t_X8_set p0 (rq24 + p1) Rq26 (by omega)) (fun rq30 sq31 Rq32 pq33 => ?_)
   exact q_some ⟨Rq32, by first | trivial | omega⟩
  ·
   exact q_some ⟨Rq26, by first | trivial | omega⟩
set_option maxHeartbeats 4000000 in
set_option maxRecDepth 20000 in
theorem t_X8_wants (p0 : Int32) {B F : Int} {σ0 σ : zS} (h0 : yR8 B F σ0 σ) : yT (f_X8_wants p0 σ) (fun r τ => τ = σ ∧ (0 ≤ r.toInt ∧ r.toInt ≤ 3)) := by
 unfold f_X8_wants
 have lq1 : (7 : Int32).toInt = 7 := rfl
 refine q_eq (fun hq2 => ?_) (fun hq2 => ?_)
 ·
  have lq3 : (1 : Int32).toInt = 1 := rfl
  exact q_some ⟨rfl, by first | trivial | omega⟩
 ·
  have lq4 : (8 : Int32).toInt = 8 := rfl
  refine q_eq (fun hq5 => ?_) (fun hq5 => ?_)
  ·
   have lq6 : (2 : Int32).toInt = 2 := rfl
   exact q_some ⟨rfl, by first | trivial | omega⟩
  ·
   have lq7 : (9 : Int32).toInt = 9 := rfl
   refine q_eq (fun hq8 => ?_) (fun hq8 => ?_)
   ·
    have lq9 : (2 : Int32).toInt = 2 := rfl
    exact q_some ⟨rfl, by first | trivial | omega⟩
   ·
    have lq10 : (10 : Int32).toInt = 10 := rfl
    refine q_eq (fun hq11 => ?_) (fun hq11 => ?_)
    ·
     have lq12 : (3 : Int32).toInt = 3 := rfl
     exact q_some ⟨rfl, by first | trivial | omega⟩
    ·
     have lq13 : (11 : Int32).toInt = 11 := rfl
     refine q_eq (fun hq14 => ?_) (fun hq14 => ?_)
     ·
      have lq15 : (3 : Int32).toInt = 3 := rfl
      exact q_some ⟨rfl, by first | trivial | omega⟩
     ·
      have lq16 : (12 : Int32).toInt = 12 := rfl
      refine q_eq (fun hq17 => ?_) (fun hq17 => ?_)
      ·
       have lq18 : (3 : Int32).toInt = 3 := rfl
       exact q_some ⟨rfl, by first | trivial | omega⟩
      ·
       have lq19 : (13 : Int32).toInt = 13 := rfl
       refine q_eq (fun hq20 => ?_) (fun hq20 => ?_)
       ·
        have lq21 : (1 : Int32).toInt = 1 := rfl
        exact q_some ⟨rfl, by first | trivial | omega⟩
       ·
        have lq22 : (14 : Int32).toInt = 14 := rfl
        refine q_eq (fun hq23 => ?_) (fun hq23 => ?_)
        ·
         have lq24 : (1 : Int32).toInt = 1 := rfl
         exact q_some ⟨rfl, by first | trivial | omega⟩
        ·
         have lq25 : (15 : Int32).toInt = 15 := rfl
         refine q_eq (fun hq26 => ?_) (fun hq26 => ?_)
         ·
          have lq27 : (1 : Int32).toInt = 1 := rfl
          exact q_some ⟨rfl, by first | trivial | omega⟩
         ·
          have lq28 : (16 : Int32).toInt = 16 := rfl
          refine q_eq (fun hq29 => ?_) (fun hq29 => ?_)
          ·
           have lq30 : (2 : Int32).toInt = 2 := rfl
           exact q_some ⟨rfl, by first | trivial | omega⟩
          ·
           have lq31 : (17 : Int32).toInt = 17 := rfl
           refine q_eq (fun hq32 => ?_) (fun hq32 => ?_)
           ·
            have lq33 : (2 : Int32).toInt = 2 := rfl
            exact q_some ⟨rfl, by first | trivial | omega⟩
           ·
            have lq34 : (18 : Int32).toInt = 18 := rfl
            refine q_eq (fun hq35 => ?_) (fun hq35 => ?_)
            ·
             have lq36 : (3 : Int32).toInt = 3 := rfl
             exact q_some ⟨rfl, by first | trivial | omega⟩
            ·
             have lq37 : (19 : Int32).toInt = 19 := rfl
             refine q_eq (fun hq38 => ?_) (fun hq38 => ?_)
             ·
              have lq39 : (3 : Int32).toInt = 3 := rfl
              exact q_some ⟨rfl, by first | trivial | omega⟩
             ·
              have lq40 : (20 : Int32).toInt = 20 := rfl
              refine q_eq (fun hq41 => ?_) (fun hq41 => ?_)
              ·
               have lq42 : (3 : Int32).toInt = 3 := rfl
               exact q_some ⟨rfl, by first | trivial | omega⟩
              ·
               have lq43 : (21 : Int32).toInt = 21 := rfl
               refine q_eq (fun hq44 => ?_) (fun hq44 => ?_)
               ·
                have lq45 : (1 : Int32).toInt = 1 := rfl
                exact q_some ⟨rfl, by first | trivial | omega⟩
               ·
                have lq46 : (22 : Int32).toInt = 22 := rfl
                refine q_eq (fun hq47 => ?_) (fun hq47 => ?_)
                ·
                 have lq48 : (1 : Int32).toInt = 1 := rfl
                 exact q_some ⟨rfl, by first | trivial | omega⟩
                ·
                 have lq49 : (23 : Int32).toInt = 23 := rfl
                 refine q_eq (fun hq50 => ?_) (fun hq50 => ?_)
                 ·
                  have lq51 : (1 : Int32).toInt = 1 := rfl
                  exact q_some ⟨rfl, by first | trivial | omega⟩
                 ·
                  have lq52 : (24 : Int32).toInt = 24 := rfl
                  refine q_eq (fun hq53 => ?_) (fun hq53 => ?_)
                  ·
                   have lq54 : (0 : Int32).toInt = 0 := rfl
                   exact q_some ⟨rfl, by first | trivial | omega⟩
                  ·
                   have lq55 : (25 : Int32).toInt = 25 := rfl
                   refine q_eq (fun hq56 => ?_) (fun hq56 => ?_)
                   ·
                    have lq57 : (2 : Int32).toInt = 2 := rfl
                    exact q_some ⟨rfl, by first | trivial | omega⟩
                   ·
                    have lq58 : (26 : Int32).toInt = 26 := rfl
                    refine q_eq (fun hq59 => ?_) (fun hq59 => ?_)
                    ·
                     have lq60 : (3 : Int32).toInt = 3 := rfl
                     exact q_some ⟨rfl, by first | trivial | omega⟩
                    ·
                     have lq61 : (27 : Int32).toInt = 27 := rfl
                     refine q_eq (fun hq62 => ?_) (fun hq62 => ?_)
                     ·
                      have lq63 : (3 : Int32).toInt = 3 := rfl
                      exact q_some ⟨rfl, by first | trivial | omega⟩
                     ·
                      have lq64 : (28 : Int32).toInt = 28 := rfl
                      refine q_eq (fun hq65 => ?_) (fun hq65 => ?_)
                      ·
                       have lq66 : (1 : Int32).toInt = 1 := rfl
                       exact q_some ⟨rfl, by first | trivial | omega⟩
                      ·
                       have lq67 : (29 : Int32).toInt = 29 := rfl
                       refine q_eq (fun hq68 => ?_) (fun hq68 => ?_)
                       ·
                        have lq69 : (1 : Int32).toInt = 1 := rfl
                        exact q_some ⟨rfl, by first | trivial | omega⟩
                       ·
                        have lq70 : (30 : Int32).toInt = 30 := rfl
                        refine q_eq (fun hq71 => ?_) (fun hq71 => ?_)
                        ·
                         have lq72 : (1 : Int32).toInt = 1 := rfl
                         exact q_some ⟨rfl, by first | trivial | omega⟩
                        ·
                         have lq73 : (31 : Int32).toInt = 31 := rfl
                         refine q_eq (fun hq74 => ?_) (fun hq74 => ?_)
                         ·
                          have lq75 : (3 : Int32).toInt = 3 := rfl
                          exact q_some ⟨rfl, by first | trivial | omega⟩
                         ·
                          have lq76 : (32 : Int32).toInt = 32 := rfl
                          refine q_eq (fun hq77 => ?_) (fun hq77 => ?_)
                          ·
                           have lq78 : (0 : Int32).toInt = 0 := rfl
                           exact q_some ⟨rfl, by first | trivial | omega⟩
                          ·
                           have lq79 : (2 : Int32).toInt = 2 := rfl
                           exact q_some ⟨rfl, by first | trivial | omega⟩
theorem t_X8_print (p0 : Int32) {B F : Int} {σ0 σ : zS} (h0 : yR8 B F σ0 σ) : yT (f_X8_print p0 σ) (fun r τ => yR8 B F σ0 τ ∧ (True)) := by
 unfold f_X8_print
 have gq1 := e_31 h0
 have lq2 : (120 : Int32).toInt = 120 := rfl
 refine q_eq (fun hq3 => ?_) (fun hq3 => ?_)
 ·
  refine q_zu8 h0 s_45_12 (fun sq4 Rq5 Eq6 Fq7 => ?_)
  exact q_some ⟨Rq5, by first | trivial | omega⟩
 ·
  refine q_c (by omega) (by omega) ?_
  have cq12 : (σ 45 31).toNatClampNeg = (σ 45 31).toInt.toNat := rfl
  refine q_zu8 h0 s_62 (fun sq8 Rq9 Eq10 Fq11 => ?_)
  have gq17 := e_31 Rq9
  have eq18 : (sq8 45 31).toInt = (σ 45 31).toInt := congrArg Int32.toInt (Fq11 _ _ (by omega))
  have lq19 : (1 : Int32).toInt = 1 := rfl
  try have aq20 : ((sq8 45 31) + (1 : Int32)).toInt = (sq8 45 31).toInt + (1 : Int32).toInt := i_add (by omega) (by omega)
  refine q_zu8 Rq9 (s_45_31 (by omega)) (fun sq13 Rq14 Eq15 Fq16 => ?_)
  exact q_some ⟨Rq14, by first | trivial | omega⟩
theorem t_X8_printNumber_L39 {B F : Int} {σ0 : zS} : ∀ (n : Nat) (x1 x2 x3 : Int32) (σ : zS), x3.toInt.toNat < n → (0 ≤ x3.toInt ∧ x3.toInt ≤ 40000) → yR8 B F σ0 σ → yT (f_X8_printNumber_L39 n x1 x2 x3 σ) (fun r τ => yR8 B F σ0 τ ∧ (True)) := by
 intro n
 induction n with
 | zero => intro x1 x2 x3 σ hm; omega
 | succ n ih =>
  intro x1 x2 x3 σ hm hv h0
  rw [f_X8_printNumber_L39]
  have bx3 := i_hi x3
  have lq1 : (0 : Int32).toInt = 0 := rfl
  refine q_le (fun hq2 => ?_) (fun hq2 => ?_)
  ·
   exact q_some ⟨h0, by first | trivial | omega⟩
  ·
   refine q_eq (fun hq3 => ?_) (fun hq3 => ?_)
   ·
    refine q_d (by omega) ?_
    have lq4 : (10 : Int32).toInt = 10 := rfl
    refine q_d (by omega) ?_
    refine q_bindR (t_X8_print ((48 : Int32) + ((x2 / x3) - (((x2 / x3) / (10 : Int32)) * (10 : Int32)))) h0) (fun rq5 sq6 Rq7 pq8 => ?_)
    refine q_d (by omega) ?_
    try have aq9 := i_div (a := x3) (b := (10 : Int32)) (m := 10) rfl (by omega) (by omega)
    refine q_lv (fun yq11 vq10 => ?_)
    exact ih x1 x2 yq11 sq6 (by omega) (by omega) Rq7
   ·
    exact q_some ⟨h0, by first | trivial | omega⟩
theorem i_dv {a b : Int32} (h0 : 0 ≤ a.toInt) (hb : 0 < b.toInt) : (a / b).toInt = a.toInt / b.toInt := i_div rfl h0 hb
theorem t_X8_printNumber_L23 {B F : Int} {σ0 : zS} : ∀ (n : Nat) (x1 x2 x3 : Int32) (σ : zS), (100000 - x3.toInt).toNat < n → (1 ≤ x3.toInt ∧ 0 ≤ x2.toInt ∧ x2.toInt ≤ 40000 ∧ x3.toInt ≤ 40000) → yR8 B F σ0 σ → yT (f_X8_printNumber_L23 n x1 x2 x3 σ) (fun _ τ => yR8 B F σ0 τ ∧ True) := by
  intro n
  induction n with
  | zero => intro x1 x2 x3 σ hm; omega
  | succ n ih =>
    intro x1 x2 x3 σ hm hv h0
    rw [f_X8_printNumber_L23]
    refine q_d (by omega) ?_
    have l : (10 : Int32).toInt = 10 := rfl
    have e := i_dv (a := x2) (b := x3) (by omega) (by omega)
    refine q_lt (fun h1 => ?_) (fun h1 => ?_)
    · exact t_X8_printNumber_L39 zF x1 x2 x3 σ (by rw [zF_eq]; omega) (by omega) h0
    · rw [e, l] at h1
      have h2 : 10 * x3.toInt ≤ x2.toInt := (Int.le_ediv_iff_mul_le (by omega)).mp h1
      have e2 : (x3 * (10 : Int32)).toInt = x3.toInt * 10 := i_mulr rfl (by omega) (by omega)
      exact ih x1 x2 (x3 * (10 : Int32)) σ (by omega) (by omega) h0
theorem t_X8_printNumber (p0 : Int32) {B F : Int} {σ0 σ : zS} (h0 : yR8 B F σ0 σ) (hp : -40000 < p0.toInt ∧ p0.toInt < 40000) : yT (f_X8_printNumber p0 σ) (fun r τ => yR8 B F σ0 τ ∧ (True)) := by
 unfold f_X8_printNumber
 have lq1 : (0 : Int32).toInt = 0 := rfl
 refine q_le (fun hq2 => ?_) (fun hq2 => ?_)
 ·
  refine q_le (fun hq3 => ?_) (fun hq3 => ?_)
  ·
   have lq4 : (1 : Int32).toInt = 1 := rfl
   refine q_w (t_X8_printNumber_L23  zF p0 p0 (1 : Int32) σ (by rw [zF_eq]; omega) (by omega) h0) (fun _ _ h => h)
  ·
   try have aq5 : (-p0).toInt = - p0.toInt := i_neg (by omega)
   have lq6 : (1 : Int32).toInt = 1 := rfl
   refine q_w (t_X8_printNumber_L23  zF p0 (-p0) (1 : Int32) σ (by rw [zF_eq]; omega) (by omega) h0) (fun _ _ h => h)
 ·
  refine q_bindR (t_X8_print (45 : Int32) h0) (fun rq7 sq8 Rq9 pq10 => ?_)
  refine q_le (fun hq11 => ?_) (fun hq11 => ?_)
  ·
   have lq12 : (1 : Int32).toInt = 1 := rfl
   refine q_w (t_X8_printNumber_L23  zF p0 p0 (1 : Int32) sq8 (by rw [zF_eq]; omega) (by omega) Rq9) (fun _ _ h => h)
  ·
   try have aq13 : (-p0).toInt = - p0.toInt := i_neg (by omega)
   have lq14 : (1 : Int32).toInt = 1 := rfl
   refine q_w (t_X8_printNumber_L23  zF p0 (-p0) (1 : Int32) sq8 (by rw [zF_eq]; omega) (by omega) Rq9) (fun _ _ h => h)
theorem t_X8_printRows_L34 {B F : Int} {σ0 : zS} (x1 x2 x3 x4 : Int32) {K : Int32 → Int32 → Int32 → Int32 → Int32 → zS → Option (Unit × zS)} (kK : ∀ (y5 : Int32) (σ : zS), yR8 B F σ0 σ → yT (K x1 x2 x3 x4 y5 σ) (fun _ τ => yR8 B F σ0 τ ∧ True)) : ∀ (n : Nat) (x5 : Int32) (σ : zS), (x2.toInt - x5.toInt).toNat < n → 0 ≤ x5.toInt → yR8 B F σ0 σ → yT (f_X8_printRows_L34 n x1 x2 x3 x4 x5 σ K) (fun _ τ => yR8 B F σ0 τ ∧ True) := by
  intro n
  induction n with
  | zero => intro x5 σ hm; omega
  | succ n ih =>
    intro x5 σ hm hi R0
    rw [f_X8_printRows_L34]
    refine q_le (fun h => ?_) (fun h => ?_)
    · exact kK _ _ R0
    · have e : (x5 + (1 : Int32)).toInt = x5.toInt + 1 := i_1 (by have := i_hi x2; omega)
      refine q_eq (fun h1 => ?_) (fun h1 => ?_)
      · refine q_bindR (t_X8_read _ _ R0) (fun v1 s1 R1 _ => ?_)
        refine q_eq (fun h2 => ?_) (fun h2 => ?_)
        · refine q_bindR (t_X8_print _ R1) (fun v2 s2 R2 _ => ?_)
          exact ih _ _ (by omega) (by omega) R2
        · exact ih _ _ (by omega) (by omega) R1
      · exact kK _ _ R0
theorem t_X8_printRows_L3 {B F : Int} {σ0 : zS} (x1 x2 x3 : Int32) (hx2 : x2.toInt < 100000) : ∀ (n : Nat) (x4 : Int32) (σ : zS), (x3.toInt - x4.toInt).toNat < n → 0 ≤ x4.toInt → yR8 B F σ0 σ → yT (f_X8_printRows_L3 n x1 x2 x3 x4 σ) (fun _ τ => yR8 B F σ0 τ ∧ True) := by
  intro n
  induction n with
  | zero => intro x4 σ hm; omega
  | succ n ih =>
    intro x4 σ hm hi R0
    rw [f_X8_printRows_L3]
    refine q_le (fun h => ?_) (fun h => ?_)
    · exact q_some ⟨R0, trivial⟩
    · have e : (x4 + (1 : Int32)).toInt = x4.toInt + 1 := i_1 (by have := i_hi x3; omega)
      have k0 : ∀ (y5 : Int32) (σ : zS), yR8 B F σ0 σ → yT (f_X8_printRows_L3 n x1 x2 x3 (x4 + (1 : Int32)) σ) (fun _ τ => yR8 B F σ0 τ ∧ True) := fun y5 s R => ih _ _ (by omega) (by omega) R
      have m0 : (x2.toInt - (0 : Int32).toInt).toNat < zF := by rw [zF_eq, t_0]; omega
      refine q_lt (fun h0 => ?_) (fun h0 => ?_)
      · exact q_some ⟨R0, trivial⟩
      · refine q_eq (fun h3 => ?_) (fun h3 => ?_)
        · refine q_le (fun h1 => ?_) (fun h1 => ?_)
          · exact t_X8_printRows_L34 x1 x2 x3 x4 (K := fun v2 v3 v4 v5 _ s3 => f_X8_printRows_L3 n v2 v3 v4 (v5 + (1 : Int32)) s3) k0 zF _ _ m0 (by rw [t_0]; omega) R0
          · refine q_bindR (t_X8_print _ R0) (fun v2 s2 R2 _ => ?_)
            exact t_X8_printRows_L34 x1 x2 x3 x4 (K := fun v2 v3 v4 v5 _ s3 => f_X8_printRows_L3 n v2 v3 v4 (v5 + (1 : Int32)) s3) k0 zF _ _ m0 (by rw [t_0]; omega) R2
        · exact q_some ⟨R0, trivial⟩
theorem t_X8_printRows (p0 p1 p2 : Int32) {B F : Int} {σ0 σ : zS} (h0 : yR8 B F σ0 σ) (hp : p1.toInt < 100000 ∧ p2.toInt < 100000 - 1) : yT (f_X8_printRows p0 p1 p2 σ) (fun _ τ => yR8 B F σ0 τ ∧ True) :=
  t_X8_printRows_L3 p0 p1 p2 hp.1 zF _ _ (by rw [zF_eq, t_0]; omega) (by rw [t_0]; omega) h0
