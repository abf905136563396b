set_option maxHeartbeats 4000000 in
set_option maxRecDepth 20000 in
theorem t_X6_carryOut (p0 : Int32) (p1 : Int32) (p2 : Int32) (p3 : Int32) (p4 : Int32) {σ0 σ : zS} (h0 : yR σ0 σ) : yT (f_X6_carryOut p0 p1 p2 p3 p4 σ) (fun r τ => yR σ0 τ ∧ (True)) := by
 unfold f_X6_carryOut
 have lq1 : (9 : Int32).toInt = 9 := rfl
 refine q_lt (fun hq2 => ?_) (fun hq2 => ?_)
 ·
  have lq3 : (10 : Int32).toInt = 10 := rfl
  refine q_eq (fun hq4 => ?_) (fun hq4 => ?_)
  ·
   refine q_eq (fun hq5 => ?_) (fun hq5 => ?_)
   ·
    refine q_binds (t_X6_goOnIf (1 : Int32) p4 h0) (fun rq6 sq7 Rq8 pq9 => ?_)
    exact q_some ⟨Rq8, by first | trivial | omega⟩
   ·
    refine q_binds (t_X6_goOnIf (0 : Int32) p4 h0) (fun rq10 sq11 Rq12 pq13 => ?_)
    exact q_some ⟨Rq12, by first | trivial | omega⟩
  ·
   have lq14 : (11 : Int32).toInt = 11 := rfl
   refine q_eq (fun hq15 => ?_) (fun hq15 => ?_)
   ·
    refine q_bindp (t_X7_number p2 h0) (fun rq16 pq17 => ?_)
    refine q_bindp (t_X7_number p3 h0) (fun rq18 pq19 => ?_)
    refine q_le (fun hq20 => ?_) (fun hq20 => ?_)
    ·
     refine q_binds (t_X6_goOnIf (0 : Int32) p4 h0) (fun rq21 sq22 Rq23 pq24 => ?_)
     exact q_some ⟨Rq23, by first | trivial | omega⟩
    ·
     refine q_binds (t_X6_goOnIf (1 : Int32) p4 h0) (fun rq25 sq26 Rq27 pq28 => ?_)
     exact q_some ⟨Rq27, by first | trivial | omega⟩
   ·
    have lq29 : (12 : Int32).toInt = 12 := rfl
    refine q_eq (fun hq30 => ?_) (fun hq30 => ?_)
    ·
     refine q_bindp (t_X7_number p2 h0) (fun rq31 pq32 => ?_)
     refine q_bindp (t_X7_number p3 h0) (fun rq33 pq34 => ?_)
     refine q_le (fun hq35 => ?_) (fun hq35 => ?_)
     ·
      refine q_binds (t_X6_goOnIf (0 : Int32) p4 h0) (fun rq36 sq37 Rq38 pq39 => ?_)
      exact q_some ⟨Rq38, by first | trivial | omega⟩
     ·
      refine q_binds (t_X6_goOnIf (1 : Int32) p4 h0) (fun rq40 sq41 Rq42 pq43 => ?_)
      exact q_some ⟨Rq42, by first | trivial | omega⟩
    ·
     have lq44 : (13 : Int32).toInt = 13 := rfl
     refine q_eq (fun hq45 => ?_) (fun hq45 => ?_)
     ·
      refine q_binds (t_X6_goOnIf (1 : Int32) p2 h0) (fun rq46 sq47 Rq48 pq49 => ?_)
      exact q_some ⟨Rq48, by first | trivial | omega⟩
     ·
      have lq50 : (14 : Int32).toInt = 14 := rfl
      refine q_eq (fun hq51 => ?_) (fun hq51 => ?_)
      ·
       refine q_binds (t_X6_change (p2 &&& (255 : Int32)) (1 : Int32) h0) (fun rq52 sq53 Rq54 pq55 => ?_)
       exact q_some ⟨Rq54, by first | trivial | omega⟩
      ·
       have lq56 : (15 : Int32).toInt = 15 := rfl
       refine q_eq (fun hq57 => ?_) (fun hq57 => ?_)
       ·
        refine q_binds (t_X6_change (p2 &&& (255 : Int32)) (-1 : Int32) h0) (fun rq58 sq59 Rq60 pq61 => ?_)
        exact q_some ⟨Rq60, by first | trivial | omega⟩
       ·
        have lq62 : (16 : Int32).toInt = 16 := rfl
        refine q_eq (fun hq63 => ?_) (fun hq63 => ?_)
        ·
         refine q_bindp (t_X7_number p3 h0) (fun rq64 pq65 => ?_)
         refine q_bindp (t_X3_wordAt (p2 + ((2 : Int32) * rq64)) h0) (fun rq66 pq67 => ?_)
         refine q_binds (t_X6_tell p1 rq66 h0) (fun rq68 sq69 Rq70 pq71 => ?_)
         exact q_some ⟨Rq70, by first | trivial | omega⟩
        ·
         have lq72 : (17 : Int32).toInt = 17 := rfl
         refine q_eq (fun hq73 => ?_) (fun hq73 => ?_)
         ·
          refine q_bindp (t_X7_number p3 h0) (fun rq74 pq75 => ?_)
          refine q_bindp (t_X3_byteAt (p2 + rq74) h0) (fun rq76 pq77 => ?_)
          refine q_binds (t_X6_tell p1 rq76 h0) (fun rq78 sq79 Rq80 pq81 => ?_)
          exact q_some ⟨Rq80, by first | trivial | omega⟩
         ·
          have lq82 : (18 : Int32).toInt = 18 := rfl
          refine q_eq (fun hq83 => ?_) (fun hq83 => ?_)
          ·
           refine q_bindp (t_X7_number p3 h0) (fun rq84 pq85 => ?_)
           refine q_binds (t_X3_setWord (p2 + ((2 : Int32) * rq84)) p4 (0 : Int32) h0) (fun rq86 sq87 Rq88 pq89 => ?_)
           exact q_some ⟨Rq88, by first | trivial | omega⟩
          ·
           have lq90 : (19 : Int32).toInt = 19 := rfl
           refine q_eq (fun hq91 => ?_) (fun hq91 => ?_)
           ·
            refine q_bindp (t_X7_number p3 h0) (fun rq92 pq93 => ?_)
            refine q_binds (t_X3_setByte (p2 + rq92) p4 (0 : Int32) h0) (fun rq94 sq95 Rq96 pq97 => ?_)
            exact q_some ⟨Rq96, by first | trivial | omega⟩
           ·
            have lq98 : (20 : Int32).toInt = 20 := rfl
            refine q_eq (fun hq99 => ?_) (fun hq99 => ?_)
            ·
             refine q_binds (t_X6_enter p2 p3 p4 p1 h0) (fun rq100 sq101 Rq102 pq103 => ?_)
             exact q_some ⟨Rq102, by first | trivial | omega⟩
            ·
             have lq104 : (21 : Int32).toInt = 21 := rfl
             refine q_eq (fun hq105 => ?_) (fun hq105 => ?_)
             ·
              refine q_binds (t_X6_giveBack p2 h0) (fun rq106 sq107 Rq108 pq109 => ?_)
              exact q_some ⟨Rq108, by first | trivial | omega⟩
             ·
              have lq110 : (22 : Int32).toInt = 22 := rfl
              refine q_eq (fun hq111 => ?_) (fun hq111 => ?_)
              ·
               refine q_binds (t_X2_push p2 h0) (fun rq112 sq113 Rq114 pq115 => ?_)
               exact q_some ⟨Rq114, by first | trivial | omega⟩
              ·
               have lq116 : (23 : Int32).toInt = 23 := rfl
               refine q_eq (fun hq117 => ?_) (fun hq117 => ?_)
               ·
                refine q_binds (t_X2_pop  h0) (fun rq118 sq119 Rq120 pq121 => ?_)
                refine q_binds (t_X6_tell (p2 &&& (255 : Int32)) rq118 Rq120) (fun rq122 sq123 Rq124 pq125 => ?_)
                exact q_some ⟨Rq124, by first | trivial | omega⟩
               ·
                have lq126 : (24 : Int32).toInt = 24 := rfl
                refine q_eq (fun hq127 => ?_) (fun hq127 => ?_)
                ·
                 refine q_binds (t_X6_tell p1 ((σ 14 3) - (1 : Int32)) h0) (fun rq128 sq129 Rq130 pq131 => ?_)
                 exact q_some ⟨Rq130, by first | trivial | omega⟩
                ·
                 have lq132 : (25 : Int32).toInt = 25 := rfl
                 refine q_eq (fun hq133 => ?_) (fun hq133 => ?_)
                 ·
                  refine q_binds (t_X6_throwTo p3 p2 h0) (fun rq134 sq135 Rq136 pq137 => ?_)
                  exact q_some ⟨Rq136, by first | trivial | omega⟩
                 ·
                  have lq138 : (26 : Int32).toInt = 26 := rfl
                  refine q_eq (fun hq139 => ?_) (fun hq139 => ?_)
                  ·
                   refine q_bindp (t_X7_number p4 h0) (fun rq140 pq141 => ?_)
                   refine q_binds (t_X3_copyTable p2 p3 rq140 h0 (by omega)) (fun rq142 sq143 Rq144 pq145 => ?_)
                   exact q_some ⟨Rq144, by first | trivial | omega⟩
                  ·
                   have lq146 : (27 : Int32).toInt = 27 := rfl
                   refine q_eq (fun hq147 => ?_) (fun hq147 => ?_)
                   ·
                    refine q_bindp (t_X3_find p2 p3 p4 (σ 13 8) h0) (fun rq148 pq149 => ?_)
                    refine q_binds (t_X6_tell p1 rq148 h0) (fun rq150 sq151 Rq152 pq153 => ?_)
                    exact q_some ⟨Rq152, by first | trivial | omega⟩
                   ·
                    have lq154 : (28 : Int32).toInt = 28 := rfl
                    refine q_eq (fun hq155 => ?_) (fun hq155 => ?_)
                    ·
                     refine q_bindp (t_X7_number p2 h0) (fun rq156 pq157 => ?_)
                     refine q_binds (t_X0_draw rq156 h0) (fun rq158 sq159 Rq160 pq161 => ?_)
                     refine q_binds (t_X6_tell p1 rq158 Rq160) (fun rq162 sq163 Rq164 pq165 => ?_)
                     exact q_some ⟨Rq164, by first | trivial | omega⟩
                    ·
                     have lq166 : (29 : Int32).toInt = 29 := rfl
                     refine q_eq (fun hq167 => ?_) (fun hq167 => ?_)
                     ·
                      refine q_bindp (t_X7_number p2 h0) (fun rq168 pq169 => ?_)
                      refine q_binds (t_X4_printNumber rq168 h0) (fun rq170 sq171 Rq172 pq173 => ?_)
                      exact q_some ⟨Rq172, by first | trivial | omega⟩
                     ·
                      have lq174 : (30 : Int32).toInt = 30 := rfl
                      refine q_eq (fun hq175 => ?_) (fun hq175 => ?_)
                      ·
                       refine q_binds (t_X4_print p2 h0) (fun rq176 sq177 Rq178 pq179 => ?_)
                       exact q_some ⟨Rq178, by first | trivial | omega⟩
                      ·
                       have lq180 : (31 : Int32).toInt = 31 := rfl
                       refine q_eq (fun hq181 => ?_) (fun hq181 => ?_)
                       ·
                        refine q_bindp (t_X7_number p3 h0) (fun rq182 pq183 => ?_)
                        refine q_bindp (t_X7_number p4 h0) (fun rq184 pq185 => ?_)
                        refine q_binds (t_X6_printRows p2 rq182 rq184 h0 (by omega)) (fun rq186 sq187 Rq188 pq189 => ?_)
                        exact q_some ⟨Rq188, by first | trivial | omega⟩
                       ·
                        have lq190 : (32 : Int32).toInt = 32 := rfl
                        refine q_eq (fun hq191 => ?_) (fun hq191 => ?_)
                        ·
                         refine q_binds (t_X6_end (1 : Int32) h0) (fun rq192 sq193 Rq194 pq195 => ?_)
                         exact q_some ⟨Rq194, by first | trivial | omega⟩
                        ·
                         exact q_some ⟨h0, by first | trivial | omega⟩
 ·
  refine q_bindp (t_X7_number p2 h0) (fun rq196 pq197 => ?_)
  refine q_bindp (t_X7_number p3 h0) (fun rq198 pq199 => ?_)
  refine q_bindp (t_X7_arithmetic p0 rq196 rq198 h0) (fun rq200 pq201 => ?_)
  refine q_binds (t_X6_tell p1 rq200 h0) (fun rq202 sq203 Rq204 pq205 => ?_)
  exact q_some ⟨Rq204, by first | trivial | omega⟩
theorem t_X6_step_L52 {σ0 : zS} : ∀ (n : Nat) (x1 x2 x3 : Int32) (σ : zS), (3 - x3.toInt).toNat < n → (0 ≤ x1.toInt ∧ x1.toInt < 100 ∧ 0 ≤ x2.toInt ∧ x2.toInt < 33 ∧ 0 ≤ x3.toInt ∧ x3.toInt ≤ 3) → yR σ0 σ → yT (f_X6_step_L52 n x1 x2 x3 σ) (fun r τ => yR σ0 τ ∧ (True)) := by
 intro n
 induction n with
 | zero => intro x1 x2 x3 σ hm; omega
 | succ n ih =>
  intro x1 x2 x3 σ hm hv h0
  rw [f_X6_step_L52]
  have bx3 := i_hi x3
  refine q_c (by omega) (by omega) ?_
  have cq1 : x2.toNatClampNeg = x2.toInt.toNat := rfl
  have tq2 := tb_0_b x2.toNatClampNeg
  refine q_le (fun hq3 => ?_) (fun hq3 => ?_)
  ·
   refine q_bindr (t_X2_top  h0) (fun iq4 hiq5 => ?_)
   refine q_op hiq5 ?_
   refine q_zu h0 (ySt_f (by omega) ⟨fun q => absurd q (by decide), fun q => absurd q (by decide), fun q => absurd q (by decide)⟩) (fun sq6 Rq7 Eq8 Fq9 => ?_)
   refine q_c (by omega) (by omega) ?_
   have lq10 : (0 : Int32).toInt = 0 := rfl
   refine q_c (by omega) (by omega) ?_
   have lq11 : (1 : Int32).toInt = 1 := rfl
   refine q_c (by omega) (by omega) ?_
   have lq12 : (2 : Int32).toInt = 2 := rfl
   refine q_c (by omega) (by omega) ?_
   refine q_binds (t_X6_carryOut x2 (sq6 8 x1.toNatClampNeg) (sq6 44 (0 : Int32).toNatClampNeg) (sq6 44 (1 : Int32).toNatClampNeg) (sq6 44 (2 : Int32).toNatClampNeg) Rq7) (fun rq13 sq14 Rq15 pq16 => ?_)
   exact q_some ⟨Rq15, by first | trivial | omega⟩
  ·
   have lq17 : (3 : Int32).toInt = 3 := rfl
   try have aq18 : ((3 : Int32) * x1).toInt = 3 * x1.toInt := i_mulk rfl (by omega) (by omega)
   try have aq19 : (((3 : Int32) * x1) + x3).toInt = ((3 : Int32) * x1).toInt + x3.toInt := i_add (by omega) (by omega)
   refine q_c (by omega) (by omega) ?_
   have cq20 : (((3 : Int32) * x1) + x3).toNatClampNeg = (((3 : Int32) * x1) + x3).toInt.toNat := rfl
   refine q_lv (fun yq22 vq21 => ?_)
   have lq23 : (0 : Int32).toInt = 0 := rfl
   refine q_le (fun hq24 => ?_) (fun hq24 => ?_)
   ·
    refine q_le (fun hq25 => ?_) (fun hq25 => ?_)
    ·
     refine q_c (by omega) (by omega) ?_
     have cq30 : x3.toNatClampNeg = x3.toInt.toNat := rfl
     refine q_zu h0 (ySt_free (by unfold yKp; omega) (by omega)) (fun sq26 Rq27 Eq28 Fq29 => ?_)
     have lq31 : (1 : Int32).toInt = 1 := rfl
     try have aq32 : (x3 + (1 : Int32)).toInt = x3.toInt + (1 : Int32).toInt := i_add (by omega) (by omega)
     exact ih x1 x2 (x3 + (1 : Int32)) sq26 (by omega) (by omega) Rq27
    ·
     exact q_some ⟨h0, by first | trivial | omega⟩
   ·
    refine q_binds (t_X6_ask ((-1 : Int32) - yq22) h0) (fun rq33 sq34 Rq35 pq36 => ?_)
    refine q_le (fun hq37 => ?_) (fun hq37 => ?_)
    ·
     refine q_c (by omega) (by omega) ?_
     have cq42 : x3.toNatClampNeg = x3.toInt.toNat := rfl
     refine q_zu Rq35 (ySt_free (by unfold yKp; omega) (by omega)) (fun sq38 Rq39 Eq40 Fq41 => ?_)
     have lq43 : (1 : Int32).toInt = 1 := rfl
     try have aq44 : (x3 + (1 : Int32)).toInt = x3.toInt + (1 : Int32).toInt := i_add (by omega) (by omega)
     exact ih x1 x2 (x3 + (1 : Int32)) sq38 (by omega) (by omega) Rq39
    ·
     exact q_some ⟨Rq35, by first | trivial | omega⟩
theorem t_X6_step  {σ0 σ : zS} (h0 : yR σ0 σ) : yT (f_X6_step  σ) (fun r τ => yR σ0 τ ∧ (True)) := by
 unfold f_X6_step
 refine q_zu h0 (ySt_free (by unfold yKp; omega) (by omega)) (fun sq1 Rq2 Eq3 Fq4 => ?_)
 refine q_zu Rq2 (ySt_free (by unfold yKp; omega) (by omega)) (fun sq5 Rq6 Eq7 Fq8 => ?_)
 refine q_bindr (t_X2_top  Rq6) (fun iq9 hiq10 => ?_)
 refine q_op hiq10 ?_
 have eq11 : (sq5 (16 + (2 * iq9)) 3).toInt = (sq1 (16 + (2 * iq9)) 3).toInt := congrArg Int32.toInt (Fq8 _ _ (by omega))
 have eq12 : (sq1 (16 + (2 * iq9)) 3).toInt = (σ (16 + (2 * iq9)) 3).toInt := congrArg Int32.toInt (Fq4 _ _ (by omega))
 refine q_lv (fun yq14 vq13 => ?_)
 refine q_bindp (t_X5_opAt yq14 Rq6) (fun rq15 pq16 => ?_)
 have lq17 : (0 : Int32).toInt = 0 := rfl
 refine q_lt (fun hq18 => ?_) (fun hq18 => ?_)
 ·
  exact q_some ⟨Rq6, by first | trivial | omega⟩
 ·
  have lq19 : (33 : Int32).toInt = 33 := rfl
  refine q_lt (fun hq20 => ?_) (fun hq20 => ?_)
  ·
   refine q_w (t_X6_step_L52  zF yq14 rq15 (0 : Int32) sq5 (by rw [zF_eq]; omega) (by omega) Rq6) (fun _ _ h => h)
  ·
   exact q_some ⟨Rq6, by first | trivial | omega⟩
theorem t_X6_set (p0 : Int32) (p1 : Int32) {σ0 σ : zS} (h0 : yR σ0 σ) : yT (f_X6_set p0 p1 σ) (fun r τ => yR σ0 τ ∧ (True)) := by
 unfold f_X6_set
 have lq1 : (0 : Int32).toInt = 0 := rfl
 refine q_eq (fun hq2 => ?_) (fun hq2 => ?_)
 ·
  refine q_binds (t_X2_push p1 h0) (fun rq3 sq4 Rq5 pq6 => ?_)
  exact q_some ⟨Rq5, by first | trivial | omega⟩
 ·
  have lq7 : (16 : Int32).toInt = 16 := rfl
  refine q_le (fun hq8 => ?_) (fun hq8 => ?_)
  ·
   refine q_bindp (t_X6_placeOfGlobal p0 h0) (fun rq9 pq10 => ?_)
   refine q_binds (t_X3_setWord rq9 p1 (0 : Int32) h0) (fun rq11 sq12 Rq13 pq14 => ?_)
   exact q_some ⟨Rq13, by first | trivial | omega⟩
  ·
   refine q_bindr (t_X2_top  h0) (fun iq15 hiq16 => ?_)
   refine q_op hiq16 ?_
   refine q_binds (t_X1_setLocal iq15 (by omega) p0 p1 h0) (fun rq17 sq18 Rq19 pq20 => ?_)
   exact q_some ⟨Rq19, by first | trivial | omega⟩
theorem t_X6_keep (p0 : Int32) {σ0 σ : zS} (h0 : yR σ0 σ) : yT (f_X6_keep p0 σ) (fun r τ => yR σ0 τ ∧ (True)) := by
 unfold f_X6_keep
 have lq1 : (0 : Int32).toInt = 0 := rfl
 refine q_lt (fun hq2 => ?_) (fun hq2 => ?_)
 ·
  exact q_some ⟨h0, by first | trivial | omega⟩
 ·
  have lq3 : (-1 : Int32).toInt = -1 := rfl
  refine q_eq (fun hq4 => ?_) (fun hq4 => ?_)
  ·
   exact q_some ⟨h0, by first | trivial | omega⟩
  ·
   refine q_binds (t_X6_set (σ 13 16) p0 h0) (fun rq5 sq6 Rq7 pq8 => ?_)
   exact q_some ⟨Rq7, by first | trivial | omega⟩
theorem t_X6_raise_L33 {σ0 : zS} : ∀ (n : Nat) (x1 x2 : Int32) (σ : zS), x2.toInt.toNat < n → ((0 : Nat) = 0) → yR σ0 σ → yT (f_X6_raise_L33 n x1 x2 σ) (fun r τ => yR σ0 τ ∧ (True)) := by
 intro n
 induction n with
 | zero => intro x1 x2 σ hm; omega
 | succ n ih =>
  intro x1 x2 σ hm hv h0
  rw [f_X6_raise_L33]
  have bx2 := i_hi x2
  have lq1 : (0 : Int32).toInt = 0 := rfl
  refine q_le (fun hq2 => ?_) (fun hq2 => ?_)
  ·
   have gq3 := g_14_3 h0
   refine q_eq (fun hq4 => ?_) (fun hq4 => ?_)
   ·
    refine q_zu h0 (ySt_free (by unfold yKp; omega) (by omega)) (fun sq5 Rq6 Eq7 Fq8 => ?_)
    refine q_binds (t_X6_end (2 : Int32) Rq6) (fun rq9 sq10 Rq11 pq12 => ?_)
    exact q_some ⟨Rq11, by first | trivial | omega⟩
   ·
    refine q_zu h0 (ySt_free (by unfold yKp; omega) (by omega)) (fun sq13 Rq14 Eq15 Fq16 => ?_)
    refine q_binds (t_X6_giveBack ((-10 : Int32) - x1) Rq14) (fun rq17 sq18 Rq19 pq20 => ?_)
    exact q_some ⟨Rq19, by first | trivial | omega⟩
  ·
   refine q_bindr (t_X2_top  h0) (fun iq21 hiq22 => ?_)
   refine q_op hiq22 ?_
   have gq23 := g_f h0 iq21 (by omega)
   refine q_c (by omega) (by omega) ?_
   have cq24 : (σ (16 + (2 * iq21)) 2).toNatClampNeg = (σ (16 + (2 * iq21)) 2).toInt.toNat := rfl
   refine q_eq (fun hq25 => ?_) (fun hq25 => ?_)
   ·
    refine q_binds (t_X6_leaveDownTo (x2 - (1 : Int32)) h0) (fun rq26 sq27 Rq28 pq29 => ?_)
    have lq30 : (-1 : Int32).toInt = -1 := rfl
    try have aq31 : (x2 + (-1 : Int32)).toInt = x2.toInt + (-1 : Int32).toInt := i_add (by omega) (by omega)
    exact ih x1 (x2 + (-1 : Int32)) sq27 (by generalize (x2 + (-1 : Int32)).toInt = q at *; omega) (by generalize (x2 + (-1 : Int32)).toInt = q at *; omega) Rq28
   ·
    have gq32 := g_14_3 h0
    refine q_eq (fun hq33 => ?_) (fun hq33 => ?_)
    ·
     refine q_zu h0 (ySt_free (by unfold yKp; omega) (by omega)) (fun sq34 Rq35 Eq36 Fq37 => ?_)
     refine q_binds (t_X6_end (2 : Int32) Rq35) (fun rq38 sq39 Rq40 pq41 => ?_)
     exact q_some ⟨Rq40, by first | trivial | omega⟩
    ·
     refine q_zu h0 (ySt_free (by unfold yKp; omega) (by omega)) (fun sq42 Rq43 Eq44 Fq45 => ?_)
     refine q_binds (t_X6_giveBack ((-10 : Int32) - x1) Rq43) (fun rq46 sq47 Rq48 pq49 => ?_)
     exact q_some ⟨Rq48, by first | trivial | omega⟩
theorem t_X6_raise (p0 : Int32) {σ0 σ : zS} (h0 : yR σ0 σ) : yT (f_X6_raise p0 σ) (fun r τ => yR σ0 τ ∧ (True)) := by
 unfold f_X6_raise
 have lq1 : (12 : Int32).toInt = 12 := rfl
 refine q_lt (fun hq2 => ?_) (fun hq2 => ?_)
 ·
  refine q_zu h0 (ySt_free (by unfold yKp; omega) (by omega)) (fun sq3 Rq4 Eq5 Fq6 => ?_)
  have gq7 := g_14_3 Rq4
  have eq8 : (sq3 14 3).toInt = (σ 14 3).toInt := congrArg Int32.toInt (Fq6 _ _ (by omega))
  have gq9 := g_14_3 h0
  refine q_w (t_X6_raise_L33  zF p0 (sq3 14 3) sq3 (by rw [zF_eq]; omega) (by omega) Rq4) (fun _ _ h => h)
 ·
  refine q_binds (t_X6_end (3 : Int32) h0) (fun rq10 sq11 Rq12 pq13 => ?_)
  exact q_some ⟨Rq12, by first | trivial | omega⟩
theorem t_X6_settle_L8 {σ0 : zS} : ∀ (n : Nat) (x1 x2 x3 : Int32) (σ : zS), (12 - x3.toInt).toNat < n → (0 ≤ x3.toInt) → yR σ0 σ → yT (f_X6_settle_L8 n x1 x2 x3 σ) (fun r τ => yR σ0 τ ∧ (True)) := by
 intro n
 induction n with
 | zero => intro x1 x2 x3 σ hm; omega
 | succ n ih =>
  intro x1 x2 x3 σ hm hv h0
  rw [f_X6_settle_L8]
  have bx3 := i_hi x3
  have lq1 : (12 : Int32).toInt = 12 := rfl
  refine q_le (fun hq2 => ?_) (fun hq2 => ?_)
  ·
   exact q_some ⟨h0, by first | trivial | omega⟩
  ·
   have lq3 : (0 : Int32).toInt = 0 := rfl
   refine q_le (fun hq4 => ?_) (fun hq4 => ?_)
   ·
    exact q_some ⟨h0, by first | trivial | omega⟩
   ·
    refine q_binds (t_X6_raise x2 h0) (fun rq5 sq6 Rq7 pq8 => ?_)
    refine q_binds (t_X6_keep rq5 Rq7) (fun rq9 sq10 Rq11 pq12 => ?_)
    have lq13 : (1 : Int32).toInt = 1 := rfl
    try have aq14 : (x3 + (1 : Int32)).toInt = x3.toInt + (1 : Int32).toInt := i_add (by omega) (by omega)
    exact ih x1 rq9 (x3 + (1 : Int32)) sq10 (by omega) (by omega) Rq11
theorem t_X6_settle (p0 : Int32) {σ0 σ : zS} (h0 : yR σ0 σ) : yT (f_X6_settle p0 σ) (fun r τ => yR σ0 τ ∧ (True)) := by
 unfold f_X6_settle
 refine q_binds (t_X6_keep p0 h0) (fun rq1 sq2 Rq3 pq4 => ?_)
 have lq5 : (0 : Int32).toInt = 0 := rfl
 refine q_w (t_X6_settle_L8  zF p0 rq1 (0 : Int32) sq2 (by rw [zF_eq]; omega) (by omega) Rq3) (fun _ _ h => h)
theorem t_X7_get (p0 : Int32) (p1 : Int32) {σ0 σ : zS} (h0 : yR σ0 σ) : yT (f_X7_get p0 p1 σ) (fun r τ => τ = σ ∧ (True)) := by
 unfold f_X7_get
 have lq1 : (0 : Int32).toInt = 0 := rfl
 refine q_eq (fun hq2 => ?_) (fun hq2 => ?_)
 ·
  refine q_bindp (t_X3_byteAt p0 h0) (fun rq3 pq4 => ?_)
  exact q_some ⟨rfl, by first | trivial | omega⟩
 ·
  refine q_bindp (t_X3_wordAt p0 h0) (fun rq5 pq6 => ?_)
  exact q_some ⟨rfl, by first | trivial | omega⟩
theorem t_X7_put (p0 : Int32) (p1 : Int32) (p2 : Int32) (p3 : Int32) {σ0 σ : zS} (h0 : yR σ0 σ) : yT (f_X7_put p0 p1 p2 p3 σ) (fun r τ => yR σ0 τ ∧ (True)) := by
 unfold f_X7_put
 have lq1 : (0 : Int32).toInt = 0 := rfl
 refine q_eq (fun hq2 => ?_) (fun hq2 => ?_)
 ·
  refine q_binds (t_X3_setByte p0 p1 p3 h0) (fun rq3 sq4 Rq5 pq6 => ?_)
  exact q_some ⟨Rq5, by first | trivial | omega⟩
 ·
  refine q_binds (t_X3_setWord p0 p1 p3 h0) (fun rq7 sq8 Rq9 pq10 => ?_)
  exact q_some ⟨Rq9, by first | trivial | omega⟩
theorem t_X7_copy (p0 : Int32) (p1 : Int32) (p2 : Int32) {σ0 σ : zS} (h0 : yR σ0 σ) : yT (f_X7_copy p0 p1 p2 σ) (fun r τ => yR σ0 τ ∧ (True)) := by
 unfold f_X7_copy
 refine q_bindp (t_X7_word p0 h0) (fun rq1 pq2 => ?_)
 refine q_bindp (t_X7_word p1 h0) (fun rq3 pq4 => ?_)
 refine q_bindp (t_X7_number p2 h0) (fun rq5 pq6 => ?_)
 refine q_binds (t_X3_copyTable rq1 rq3 rq5 h0 (by omega)) (fun rq7 sq8 Rq9 pq10 => ?_)
 exact q_some ⟨Rq9, by first | trivial | omega⟩
theorem t_X7_look (p0 : Int32) (p1 : Int32) (p2 : Int32) (p3 : Int32) {σ0 σ : zS} (h0 : yR σ0 σ) : yT (f_X7_look p0 p1 p2 p3 σ) (fun r τ => τ = σ ∧ (True)) := by
 unfold f_X7_look
 have lq1 : (255 : Int32).toInt = 255 := rfl
 refine q_bindp (t_X7_isWithin p3 (255 : Int32) h0) (fun rq2 pq3 => ?_)
 have lq4 : (0 : Int32).toInt = 0 := rfl
 refine q_eq (fun hq5 => ?_) (fun hq5 => ?_)
 ·
  exact q_some ⟨rfl, by first | trivial | omega⟩
 ·
  refine q_bindp (t_X3_find p0 p1 p2 p3 h0) (fun rq6 pq7 => ?_)
  exact q_some ⟨rfl, by first | trivial | omega⟩
theorem t_X7_random (p0 : Int32) {σ0 σ : zS} (h0 : yR σ0 σ) : yT (f_X7_random p0 σ) (fun r τ => yR σ0 τ ∧ (True)) := by
 unfold f_X7_random
 refine q_bindp (t_X7_number p0 h0) (fun rq1 pq2 => ?_)
 refine q_binds (t_X0_draw rq1 h0) (fun rq3 sq4 Rq5 pq6 => ?_)
 exact q_some ⟨Rq5, by first | trivial | omega⟩
theorem t_X7_tape (p0 : Int32) {σ0 σ : zS} (h0 : yR σ0 σ) : yT (f_X7_tape p0 σ) (fun r τ => yR σ0 τ ∧ (True)) := by
 unfold f_X7_tape
 have lq1 : (65535 : Int32).toInt = 65535 := rfl
 refine q_bindp (t_X7_isWithin p0 (65535 : Int32) h0) (fun rq2 pq3 => ?_)
 have lq4 : (0 : Int32).toInt = 0 := rfl
 refine q_eq (fun hq5 => ?_) (fun hq5 => ?_)
 ·
  exact q_some ⟨h0, by first | trivial | omega⟩
 ·
  refine q_binds (t_X0_record p0 h0) (fun rq6 sq7 Rq8 pq9 => ?_)
  exact q_some ⟨Rq8, by first | trivial | omega⟩
theorem t_X7_run_L32 {σ0 : zS} : ∀ (n : Nat) (x1 x2 x3 x4 : Int32) (σ : zS), (300 - x4.toInt).toNat < n → (0 ≤ x4.toInt) → yR σ0 σ → yT (f_X7_run_L32 n x1 x2 x3 x4 σ) (fun r τ => yR σ0 τ ∧ (True)) := by
 intro n
 induction n with
 | zero => intro x1 x2 x3 x4 σ hm; omega
 | succ n ih =>
  intro x1 x2 x3 x4 σ hm hv h0
  rw [f_X7_run_L32]
  have bx4 := i_hi x4
  have lq1 : (300 : Int32).toInt = 300 := rfl
  refine q_le (fun hq2 => ?_) (fun hq2 => ?_)
  ·
   refine q_binds (t_X6_finish  h0) (fun rq3 sq4 Rq5 pq6 => ?_)
   exact q_some ⟨Rq5, by first | trivial | omega⟩
  ·
   refine q_bindp (t_X6_isGoing  h0) (fun rq7 pq8 => ?_)
   have lq9 : (0 : Int32).toInt = 0 := rfl
   refine q_eq (fun hq10 => ?_) (fun hq10 => ?_)
   ·
    refine q_binds (t_X6_finish  h0) (fun rq11 sq12 Rq13 pq14 => ?_)
    exact q_some ⟨Rq13, by first | trivial | omega⟩
   ·
    refine q_binds (t_X6_step  h0) (fun rq15 sq16 Rq17 pq18 => ?_)
    refine q_binds (t_X6_settle rq15 Rq17) (fun rq19 sq20 Rq21 pq22 => ?_)
    have lq23 : (1 : Int32).toInt = 1 := rfl
    try have aq24 : (x4 + (1 : Int32)).toInt = x4.toInt + (1 : Int32).toInt := i_add (by omega) (by omega)
    exact ih x1 x2 x3 (x4 + (1 : Int32)) sq20 (by omega) (by omega) Rq21
theorem t_X7_run (p0 : Int32) (p1 : Int32) (p2 : Int32) {σ0 σ : zS} (h0 : yR σ0 σ) : yT (f_X7_run p0 p1 p2 σ) (fun r τ => yR σ0 τ ∧ (True)) := by
 unfold f_X7_run
 refine q_bindp (t_X5_hasRoutine p0 h0) (fun rq1 pq2 => ?_)
 have lq3 : (0 : Int32).toInt = 0 := rfl
 refine q_eq (fun hq4 => ?_) (fun hq4 => ?_)
 ·
  exact q_some ⟨h0, by first | trivial | omega⟩
 ·
  refine q_bindp (t_X7_word p1 h0) (fun rq5 pq6 => ?_)
  refine q_bindp (t_X7_word p2 h0) (fun rq7 pq8 => ?_)
  refine q_binds (t_X6_begin p0 rq5 rq7 h0) (fun rq9 sq10 Rq11 pq12 => ?_)
  refine q_w (t_X7_run_L32  zF p0 p1 p2 (0 : Int32) sq10 (by rw [zF_eq]; omega) (by omega) Rq11) (fun _ _ h => h)
theorem t_X7_told (p0 : Int32) {σ0 σ : zS} (h0 : yR σ0 σ) : yT (f_X7_told p0 σ) (fun r τ => τ = σ ∧ (True)) := by
 unfold f_X7_told
 have lq1 : (0 : Int32).toInt = 0 := rfl
 refine q_eq (fun hq2 => ?_) (fun hq2 => ?_)
 ·
  exact q_some ⟨rfl, by first | trivial | omega⟩
 ·
  have lq3 : (1 : Int32).toInt = 1 := rfl
  refine q_eq (fun hq4 => ?_) (fun hq4 => ?_)
  ·
   refine q_bindp (t_X7_number (σ 13 12) h0) (fun rq5 pq6 => ?_)
   exact q_some ⟨rfl, by first | trivial | omega⟩
  ·
   have lq7 : (2 : Int32).toInt = 2 := rfl
   refine q_eq (fun hq8 => ?_) (fun hq8 => ?_)
   ·
    exact q_some ⟨rfl, by first | trivial | omega⟩
   ·
    have lq9 : (3 : Int32).toInt = 3 := rfl
    refine q_eq (fun hq10 => ?_) (fun hq10 => ?_)
    ·
     exact q_some ⟨rfl, by first | trivial | omega⟩
    ·
     have lq11 : (4 : Int32).toInt = 4 := rfl
     refine q_eq (fun hq12 => ?_) (fun hq12 => ?_)
     ·
      exact q_some ⟨rfl, by first | trivial | omega⟩
     ·
      have lq13 : (5 : Int32).toInt = 5 := rfl
      refine q_eq (fun hq14 => ?_) (fun hq14 => ?_)
      ·
       exact q_some ⟨rfl, by first | trivial | omega⟩
      ·
       have lq15 : (6 : Int32).toInt = 6 := rfl
       refine q_eq (fun hq16 => ?_) (fun hq16 => ?_)
       ·
        exact q_some ⟨rfl, by first | trivial | omega⟩
       ·
        have lq17 : (7 : Int32).toInt = 7 := rfl
        refine q_eq (fun hq18 => ?_) (fun hq18 => ?_)
        ·
         exact q_some ⟨rfl, by first | trivial | omega⟩
        ·
         have lq19 : (8 : Int32).toInt = 8 := rfl
         refine q_eq (fun hq20 => ?_) (fun hq20 => ?_)
         ·
          exact q_some ⟨rfl, by first | trivial | omega⟩
         ·
          exact q_some ⟨rfl, by first | trivial | omega⟩
theorem t_X7_left (p0 : Int32) {σ0 σ : zS} (h0 : yR σ0 σ) : yT (f_X7_left p0 σ) (fun r τ => τ = σ ∧ (True)) := by
 unfold f_X7_left
 have lq1 : (7 : Int32).toInt = 7 := rfl
 refine q_bindp (t_X7_isWithin p0 (7 : Int32) h0) (fun rq2 pq3 => ?_)
 have lq4 : (0 : Int32).toInt = 0 := rfl
 refine q_eq (fun hq5 => ?_) (fun hq5 => ?_)
 ·
  exact q_some ⟨rfl, by first | trivial | omega⟩
 ·
  refine q_c (by omega) (by omega) ?_
  exact q_some ⟨rfl, by first | trivial | omega⟩
