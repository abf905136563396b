theorem t_X0_record (p0 : Int32) {σ0 σ : zS} (h0 : yR σ0 σ) : yT (f_X0_record p0 σ) (fun r τ => yR σ0 τ ∧ (True)) := by
 unfold f_X0_record
 have gq1 := g_3_2 h0
 have lq2 : (50 : Int32).toInt = 50 := rfl
 refine q_lt (fun hq3 => ?_) (fun hq3 => ?_)
 ·
  refine q_d (by omega) ?_
  have gq4 := g_3_1 h0
  try have aq5 : ((σ 3 1) + (σ 3 2)).toInt = (σ 3 1).toInt + (σ 3 2).toInt := i_add (by omega) (by omega)
  try have aq6 := i_mod (a := ((σ 3 1) + (σ 3 2))) (b := (50 : Int32)) (m := 50) rfl (by omega) (by omega)
  refine q_c (by omega) (by omega) ?_
  have cq11 : (((σ 3 1) + (σ 3 2)) - ((((σ 3 1) + (σ 3 2)) / (50 : Int32)) * (50 : Int32))).toNatClampNeg = (((σ 3 1) + (σ 3 2)) - ((((σ 3 1) + (σ 3 2)) / (50 : Int32)) * (50 : Int32))).toInt.toNat := rfl
  refine q_zu h0 (ySt_free (by unfold yKp; omega) (by omega)) (fun sq7 Rq8 Eq9 Fq10 => ?_)
  have gq16 := g_3_2 Rq8
  have eq17 : (sq7 3 2).toInt = (σ 3 2).toInt := congrArg Int32.toInt (Fq10 _ _ (by omega))
  have lq18 : (1 : Int32).toInt = 1 := rfl
  try have aq19 : ((sq7 3 2) + (1 : Int32)).toInt = (sq7 3 2).toInt + (1 : Int32).toInt := i_add (by omega) (by omega)
  refine q_zu Rq8 (ySt_3_2 (by omega)) (fun sq12 Rq13 Eq14 Fq15 => ?_)
  exact q_some ⟨Rq13, by first | trivial | omega⟩
 ·
  exact q_some ⟨h0, by first | trivial | omega⟩
theorem t_X0_nextOfSeed  {σ0 σ : zS} (h0 : yR σ0 σ) : yT (f_X0_nextOfSeed  σ) (fun r τ => yR σ0 τ ∧ (True)) := by
 unfold f_X0_nextOfSeed
 refine q_zu h0 ySt_3_4 (fun sq1 Rq2 Eq3 Fq4 => ?_)
 exact q_some ⟨Rq2, by first | trivial | omega⟩
theorem t_X0_nextOfTape  {σ0 σ : zS} (h0 : yR σ0 σ) (hp : 0 < (σ 3 2).toInt) : yT (f_X0_nextOfTape  σ) (fun r τ => yR σ0 τ ∧ (True)) := by
 unfold f_X0_nextOfTape
 have gq1 := g_3_1 h0
 refine q_c (by omega) (by omega) ?_
 have cq2 : (σ 3 1).toNatClampNeg = (σ 3 1).toInt.toNat := rfl
 refine q_lv (fun yq4 vq3 => ?_)
 have lq5 : (50 : Int32).toInt = 50 := rfl
 refine q_d (by omega) ?_
 have lq10 : (1 : Int32).toInt = 1 := rfl
 try have aq11 : ((σ 3 1) + (1 : Int32)).toInt = (σ 3 1).toInt + (1 : Int32).toInt := i_add (by omega) (by omega)
 try have aq12 := i_mod (a := ((σ 3 1) + (1 : Int32))) (b := (50 : Int32)) (m := 50) rfl (by omega) (by omega)
 refine q_zu h0 (ySt_3_1 (by omega)) (fun sq6 Rq7 Eq8 Fq9 => ?_)
 have gq17 := g_3_2 Rq7
 have eq18 : (sq6 3 2).toInt = (σ 3 2).toInt := congrArg Int32.toInt (Fq9 _ _ (by omega))
 have gq19 := g_3_2 h0
 try have aq20 : ((sq6 3 2) - (1 : Int32)).toInt = (sq6 3 2).toInt - (1 : Int32).toInt := i_sub (by omega) (by omega)
 refine q_zu Rq7 (ySt_3_2 (by omega)) (fun sq13 Rq14 Eq15 Fq16 => ?_)
 exact q_some ⟨Rq14, by first | trivial | omega⟩
theorem t_X0_nextOfCount  {σ0 σ : zS} (h0 : yR σ0 σ) : yT (f_X0_nextOfCount  σ) (fun r τ => yR σ0 τ ∧ (True)) := by
 unfold f_X0_nextOfCount
 have lq1 : (1 : Int32).toInt = 1 := rfl
 try have aq2 : ((σ 3 5) + (1 : Int32)).toInt = (σ 3 5).toInt + (1 : Int32).toInt := i_add (by omega) (by omega)
 refine q_le (fun hq3 => ?_) (fun hq3 => ?_)
 ·
  refine q_zu h0 ySt_3_5 (fun sq4 Rq5 Eq6 Fq7 => ?_)
  exact q_some ⟨Rq5, by first | trivial | omega⟩
 ·
  refine q_zu h0 ySt_3_5 (fun sq8 Rq9 Eq10 Fq11 => ?_)
  exact q_some ⟨Rq9, by first | trivial | omega⟩
theorem t_X0_next  {σ0 σ : zS} (h0 : yR σ0 σ) : yT (f_X0_next  σ) (fun r τ => yR σ0 τ ∧ (True)) := by
 unfold f_X0_next
 have lq1 : (1 : Int32).toInt = 1 := rfl
 refine q_eq (fun hq2 => ?_) (fun hq2 => ?_)
 ·
  refine q_binds (t_X0_nextOfCount  h0) (fun rq3 sq4 Rq5 pq6 => ?_)
  exact q_some ⟨Rq5, by first | trivial | omega⟩
 ·
  have lq7 : (2 : Int32).toInt = 2 := rfl
  refine q_eq (fun hq8 => ?_) (fun hq8 => ?_)
  ·
   have gq9 := g_3_2 h0
   have lq10 : (0 : Int32).toInt = 0 := rfl
   refine q_le (fun hq11 => ?_) (fun hq11 => ?_)
   ·
    refine q_binds (t_X0_nextOfSeed  h0) (fun rq12 sq13 Rq14 pq15 => ?_)
    exact q_some ⟨Rq14, by first | trivial | omega⟩
   ·
    refine q_binds (t_X0_nextOfTape  h0 (by omega)) (fun rq16 sq17 Rq18 pq19 => ?_)
    exact q_some ⟨Rq18, by first | trivial | omega⟩
  ·
   refine q_binds (t_X0_nextOfSeed  h0) (fun rq20 sq21 Rq22 pq23 => ?_)
   exact q_some ⟨Rq22, by first | trivial | omega⟩
theorem t_X0_draw (p0 : Int32) {σ0 σ : zS} (h0 : yR σ0 σ) : yT (f_X0_draw p0 σ) (fun r τ => yR σ0 τ ∧ (True)) := by
 unfold f_X0_draw
 have lq1 : (0 : Int32).toInt = 0 := rfl
 refine q_le (fun hq2 => ?_) (fun hq2 => ?_)
 ·
  refine q_eq (fun hq3 => ?_) (fun hq3 => ?_)
  ·
   refine q_zu h0 ySt_3_3 (fun sq4 Rq5 Eq6 Fq7 => ?_)
   exact q_some ⟨Rq5, by first | trivial | omega⟩
  ·
   have lq8 : (1000 : Int32).toInt = 1000 := rfl
   try have aq9 : (-p0).toInt = - p0.toInt := i_neg (by omega)
   refine q_le (fun hq10 => ?_) (fun hq10 => ?_)
   ·
    refine q_zu h0 ySt_3_3 (fun sq11 Rq12 Eq13 Fq14 => ?_)
    refine q_zu Rq12 ySt_3_4 (fun sq15 Rq16 Eq17 Fq18 => ?_)
    exact q_some ⟨Rq16, by first | trivial | omega⟩
   ·
    refine q_zu h0 ySt_3_3 (fun sq19 Rq20 Eq21 Fq22 => ?_)
    refine q_zu Rq20 ySt_3_6 (fun sq23 Rq24 Eq25 Fq26 => ?_)
    refine q_zu Rq24 ySt_3_5 (fun sq27 Rq28 Eq29 Fq30 => ?_)
    exact q_some ⟨Rq28, by first | trivial | omega⟩
 ·
  refine q_binds (t_X0_next  h0) (fun rq31 sq32 Rq33 pq34 => ?_)
  refine q_d (by omega) ?_
  exact q_some ⟨Rq33, by first | trivial | omega⟩
theorem t_X1_hasLocal (i : Nat) (hi : i < 12) (p0 : Int32) {σ0 σ : zS} (h0 : yR σ0 σ) : yT (f_X1_hasLocal i p0 σ) (fun r τ => τ = σ ∧ (r.toInt = 0 ∨ (r.toInt = 1 ∧ 1 ≤ p0.toInt ∧ p0.toInt ≤ 15))) := by
 unfold f_X1_hasLocal
 have lq1 : (1 : Int32).toInt = 1 := rfl
 refine q_lt (fun hq2 => ?_) (fun hq2 => ?_)
 ·
  have lq3 : (0 : Int32).toInt = 0 := rfl
  exact q_some ⟨rfl, by first | trivial | omega⟩
 ·
  have gq4 := g_f h0 i (by omega)
  refine q_lt (fun hq5 => ?_) (fun hq5 => ?_)
  ·
   have lq6 : (0 : Int32).toInt = 0 := rfl
   exact q_some ⟨rfl, by first | trivial | omega⟩
  ·
   exact q_some ⟨rfl, by first | trivial | omega⟩
theorem t_X1_local (i : Nat) (hi : i < 12) (p0 : Int32) {σ0 σ : zS} (h0 : yR σ0 σ) : yT (f_X1_local i p0 σ) (fun r τ => τ = σ ∧ (True)) := by
 unfold f_X1_local
 refine q_bindp (t_X1_hasLocal i (by omega) p0 h0) (fun rq1 pq2 => ?_)
 have lq3 : (0 : Int32).toInt = 0 := rfl
 refine q_eq (fun hq4 => ?_) (fun hq4 => ?_)
 ·
  exact q_some ⟨rfl, by first | trivial | omega⟩
 ·
  have lq5 : (1 : Int32).toInt = 1 := rfl
  try have aq6 : (p0 - (1 : Int32)).toInt = p0.toInt - (1 : Int32).toInt := i_sub (by omega) (by omega)
  refine q_c (by omega) (by omega) ?_
  exact q_some ⟨rfl, by first | trivial | omega⟩
theorem t_X1_setLocal (i : Nat) (hi : i < 12) (p0 : Int32) (p1 : Int32) {σ0 σ : zS} (h0 : yR σ0 σ) : yT (f_X1_setLocal i p0 p1 σ) (fun r τ => yR σ0 τ ∧ (True)) := by
 unfold f_X1_setLocal
 refine q_bindp (t_X1_hasLocal i (by omega) p0 h0) (fun rq1 pq2 => ?_)
 have lq3 : (0 : Int32).toInt = 0 := rfl
 refine q_eq (fun hq4 => ?_) (fun hq4 => ?_)
 ·
  exact q_some ⟨h0, by first | trivial | omega⟩
 ·
  have lq5 : (1 : Int32).toInt = 1 := rfl
  try have aq6 : (p0 - (1 : Int32)).toInt = p0.toInt - (1 : Int32).toInt := i_sub (by omega) (by omega)
  refine q_c (by omega) (by omega) ?_
  have cq11 : (p0 - (1 : Int32)).toNatClampNeg = (p0 - (1 : Int32)).toInt.toNat := rfl
  refine q_zu h0 (ySt_free (by unfold yKp; omega) (by omega)) (fun sq7 Rq8 Eq9 Fq10 => ?_)
  exact q_some ⟨Rq8, by first | trivial | omega⟩
theorem t_X2_begin  {σ0 σ : zS} (h0 : yR σ0 σ) : yT (f_X2_begin  σ) (fun r τ => yR σ0 τ ∧ (True)) := by
 unfold f_X2_begin
 have lq5 : (0 : Int32).toInt = 0 := rfl
 refine q_zu h0 (ySt_14_2 (by omega)) (fun sq1 Rq2 Eq3 Fq4 => ?_)
 refine q_zu Rq2 (ySt_14_3 (by omega)) (fun sq6 Rq7 Eq8 Fq9 => ?_)
 refine q_zu Rq7 ySt_14_4 (fun sq10 Rq11 Eq12 Fq13 => ?_)
 exact q_some ⟨Rq11, by first | trivial | omega⟩
theorem t_X2_top {σ0 σ : zS} (h0 : yR σ0 σ) : ∃ i, i < 12 ∧ f_X2_top σ = some (some i, σ) := by
  unfold f_X2_top
  have g := g_14_3 h0
  by_cases h : (σ 14 3) ≤ 0
  · rw [if_pos h, zc_ok (by decide) (by decide)]
    exact ⟨_, by decide, rfl⟩
  · rw [if_neg h]
    rw [i_le, t_0] at h
    have e : ((σ 14 3) - (1 : Int32)).toInt = (σ 14 3).toInt - 1 := i_m1 (by omega)
    rw [zc_ok (by omega) (by omega)]
    refine ⟨((σ 14 3) - (1 : Int32)).toNatClampNeg, ?_, rfl⟩
    rw [i_cl]; omega
theorem t_X2_enter  {σ0 σ : zS} (h0 : yR σ0 σ) : yT (f_X2_enter  σ) (fun r τ => yR σ0 τ ∧ (∀ i, r = some i → i < 12)) := by
 unfold f_X2_enter
 have gq1 := g_14_3 h0
 have lq2 : (12 : Int32).toInt = 12 := rfl
 refine q_lt (fun hq3 => ?_) (fun hq3 => ?_)
 ·
  refine q_c (by omega) (by omega) ?_
  have cq4 : (σ 14 3).toNatClampNeg = (σ 14 3).toInt.toNat := rfl
  refine q_zr h0 (fun j => ySt_free (by unfold yKp; omega) (by omega)) (fun sq5 Rq6 Fq8 => ?_)
  have gq13 := g_14_2 Rq6
  have eq14 : (sq5 14 2).toInt = (σ 14 2).toInt := congrArg Int32.toInt (Fq8 _ _ (by omega))
  have gq15 := g_14_2 h0
  refine q_zu Rq6 (ySt_f (by omega) ⟨fun q => absurd q (by decide), fun q => absurd q (by decide), fun _ => by omega⟩) (fun sq9 Rq10 Eq11 Fq12 => ?_)
  have gq20 := g_14_3 Rq10
  have eq21 : (sq9 14 3).toInt = (sq5 14 3).toInt := congrArg Int32.toInt (Fq12 _ _ (by omega))
  have gq22 := g_14_3 Rq6
  have eq23 : (sq5 14 3).toInt = (σ 14 3).toInt := congrArg Int32.toInt (Fq8 _ _ (by omega))
  have lq24 : (1 : Int32).toInt = 1 := rfl
  try have aq25 : ((sq9 14 3) + (1 : Int32)).toInt = (sq9 14 3).toInt + (1 : Int32).toInt := i_add (by omega) (by omega)
  refine q_zu Rq10 (ySt_14_3 (by omega)) (fun sq16 Rq17 Eq18 Fq19 => ?_)
  refine q_zu Rq17 ySt_14_4 (fun sq26 Rq27 Eq28 Fq29 => ?_)
  exact q_some ⟨Rq27, fun _ h => by cases h; omega⟩
 ·
  exact q_some ⟨h0, fun _ h => by cases h⟩
theorem t_X2_leave  {σ0 σ : zS} (h0 : yR σ0 σ) : yT (f_X2_leave  σ) (fun r τ => yR σ0 τ ∧ (True)) := by
 unfold f_X2_leave
 have gq1 := g_14_3 h0
 have lq2 : (0 : Int32).toInt = 0 := rfl
 refine q_le (fun hq3 => ?_) (fun hq3 => ?_)
 ·
  exact q_some ⟨h0, by first | trivial | omega⟩
 ·
  have lq8 : (1 : Int32).toInt = 1 := rfl
  try have aq9 : ((σ 14 3) - (1 : Int32)).toInt = (σ 14 3).toInt - (1 : Int32).toInt := i_sub (by omega) (by omega)
  refine q_zu h0 (ySt_14_3 (by omega)) (fun sq4 Rq5 Eq6 Fq7 => ?_)
  have gq10 := g_14_3 Rq5
  have eq11 := Eq6
  refine q_c (by omega) (by omega) ?_
  have cq16 : (sq4 14 3).toNatClampNeg = (sq4 14 3).toInt.toNat := rfl
  have gq17 := g_f Rq5 (sq4 14 3).toNatClampNeg (by omega)
  have eq18 : (sq4 (16 + (2 * (sq4 14 3).toNatClampNeg)) 5).toInt = (σ (16 + (2 * (sq4 14 3).toNatClampNeg)) 5).toInt := congrArg Int32.toInt (Fq7 _ _ (by omega))
  have gq19 := g_f h0 (sq4 14 3).toNatClampNeg (by omega)
  refine q_zu Rq5 (ySt_14_2 (by omega)) (fun sq12 Rq13 Eq14 Fq15 => ?_)
  exact q_some ⟨Rq13, by first | trivial | omega⟩
theorem t_X2_pop  {σ0 σ : zS} (h0 : yR σ0 σ) : yT (f_X2_pop  σ) (fun r τ => yR σ0 τ ∧ (True)) := by
 unfold f_X2_pop
 refine q_bindr (t_X2_top  h0) (fun iq1 hiq2 => ?_)
 refine q_op hiq2 ?_
 have gq3 := g_f h0 iq1 (by omega)
 have gq4 := g_14_2 h0
 refine q_lt (fun hq5 => ?_) (fun hq5 => ?_)
 ·
  have lq10 : (1 : Int32).toInt = 1 := rfl
  try have aq11 : ((σ 14 2) - (1 : Int32)).toInt = (σ 14 2).toInt - (1 : Int32).toInt := i_sub (by omega) (by omega)
  refine q_zu h0 (ySt_14_2 (by omega)) (fun sq6 Rq7 Eq8 Fq9 => ?_)
  have gq12 := g_14_2 Rq7
  have eq13 := Eq8
  refine q_c (by omega) (by omega) ?_
  exact q_some ⟨Rq7, by first | trivial | omega⟩
 ·
  exact q_some ⟨h0, by first | trivial | omega⟩
theorem t_X2_push (p0 : Int32) {σ0 σ : zS} (h0 : yR σ0 σ) : yT (f_X2_push p0 σ) (fun r τ => yR σ0 τ ∧ (True)) := by
 unfold f_X2_push
 have gq1 := g_14_2 h0
 have lq2 : (100 : Int32).toInt = 100 := rfl
 refine q_lt (fun hq3 => ?_) (fun hq3 => ?_)
 ·
  refine q_c (by omega) (by omega) ?_
  have cq8 : (σ 14 2).toNatClampNeg = (σ 14 2).toInt.toNat := rfl
  refine q_zu h0 (ySt_free (by unfold yKp; omega) (by omega)) (fun sq4 Rq5 Eq6 Fq7 => ?_)
  have gq13 := g_14_2 Rq5
  have eq14 : (sq4 14 2).toInt = (σ 14 2).toInt := congrArg Int32.toInt (Fq7 _ _ (by omega))
  have lq15 : (1 : Int32).toInt = 1 := rfl
  try have aq16 : ((sq4 14 2) + (1 : Int32)).toInt = (sq4 14 2).toInt + (1 : Int32).toInt := i_add (by omega) (by omega)
  refine q_zu Rq5 (ySt_14_2 (by omega)) (fun sq9 Rq10 Eq11 Fq12 => ?_)
  exact q_some ⟨Rq10, by first | trivial | omega⟩
 ·
  exact q_some ⟨h0, by first | trivial | omega⟩
theorem t_X3_isOutside (p0 : Int32) {σ0 σ : zS} (h0 : yR σ0 σ) : yT (f_X3_isOutside p0 σ) (fun r τ => τ = σ ∧ ((r.toInt = 0 ∧ 0 ≤ p0.toInt ∧ p0.toInt < (σ 1 1).toInt ∧ (σ 1 1).toInt ≤ 2000) ∨ r.toInt = 1)) := by
 unfold f_X3_isOutside
 have lq1 : (0 : Int32).toInt = 0 := rfl
 refine q_lt (fun hq2 => ?_) (fun hq2 => ?_)
 ·
  have lq3 : (1 : Int32).toInt = 1 := rfl
  exact q_some ⟨rfl, by first | trivial | omega⟩
 ·
  have gq4 := g_1_1 h0
  refine q_lt (fun hq5 => ?_) (fun hq5 => ?_)
  ·
   exact q_some ⟨rfl, by first | trivial | omega⟩
  ·
   have lq6 : (1 : Int32).toInt = 1 := rfl
   exact q_some ⟨rfl, by first | trivial | omega⟩
theorem t_X3_byteAt (p0 : Int32) {σ0 σ : zS} (h0 : yR σ0 σ) : yT (f_X3_byteAt p0 σ) (fun r τ => τ = σ ∧ (True)) := by
 unfold f_X3_byteAt
 refine q_bindp (t_X3_isOutside p0 h0) (fun rq1 pq2 => ?_)
 have lq3 : (0 : Int32).toInt = 0 := rfl
 refine q_eq (fun hq4 => ?_) (fun hq4 => ?_)
 ·
  refine q_c (by omega) (by omega) ?_
  exact q_some ⟨rfl, by first | trivial | omega⟩
 ·
  exact q_some ⟨rfl, by first | trivial | omega⟩
theorem t_X3_wordAt (p0 : Int32) {σ0 σ : zS} (h0 : yR σ0 σ) : yT (f_X3_wordAt p0 σ) (fun r τ => τ = σ ∧ (True)) := by
 unfold f_X3_wordAt
 refine q_bindp (t_X3_isOutside p0 h0) (fun rq1 pq2 => ?_)
 have lq3 : (0 : Int32).toInt = 0 := rfl
 refine q_eq (fun hq4 => ?_) (fun hq4 => ?_)
 ·
  have lq5 : (1 : Int32).toInt = 1 := rfl
  try have aq6 : (p0 + (1 : Int32)).toInt = p0.toInt + (1 : Int32).toInt := i_add (by omega) (by omega)
  refine q_bindp (t_X3_isOutside (p0 + (1 : Int32)) h0) (fun rq7 pq8 => ?_)
  refine q_eq (fun hq9 => ?_) (fun hq9 => ?_)
  ·
   refine q_c (by omega) (by omega) ?_
   refine q_c (by omega) (by omega) ?_
   exact q_some ⟨rfl, by first | trivial | omega⟩
  ·
   exact q_some ⟨rfl, by first | trivial | omega⟩
 ·
  exact q_some ⟨rfl, by first | trivial | omega⟩
theorem t_X3_setByte (p0 : Int32) (p1 : Int32) (p2 : Int32) {σ0 σ : zS} (h0 : yR σ0 σ) : yT (f_X3_setByte p0 p1 p2 σ) (fun r τ => yR σ0 τ ∧ (True)) := by
 unfold f_X3_setByte
 refine q_bindp (t_X3_isOutside p0 h0) (fun rq1 pq2 => ?_)
 have lq3 : (0 : Int32).toInt = 0 := rfl
 refine q_eq (fun hq4 => ?_) (fun hq4 => ?_)
 ·
  refine q_eq (fun hq5 => ?_) (fun hq5 => ?_)
  ·
   have gq6 := g_1_1 h0
   refine q_lt (fun hq7 => ?_) (fun hq7 => ?_)
   ·
    refine q_c (by omega) (by omega) ?_
    have cq12 : p0.toNatClampNeg = p0.toInt.toNat := rfl
    have lq13 : (255 : Int32).toInt = 255 := rfl
    have aq14 := i_255 p1
    refine q_zu h0 (ySt_2 (by omega)) (fun sq8 Rq9 Eq10 Fq11 => ?_)
    exact q_some ⟨Rq9, by first | trivial | omega⟩
   ·
    exact q_some ⟨h0, by first | trivial | omega⟩
  ·
   refine q_c (by omega) (by omega) ?_
   have cq19 : p0.toNatClampNeg = p0.toInt.toNat := rfl
   have lq20 : (255 : Int32).toInt = 255 := rfl
   have aq21 := i_255 p1
   refine q_zu h0 (ySt_2 (by omega)) (fun sq15 Rq16 Eq17 Fq18 => ?_)
   exact q_some ⟨Rq16, by first | trivial | omega⟩
 ·
  exact q_some ⟨h0, by first | trivial | omega⟩
theorem t_X3_setWord (p0 : Int32) (p1 : Int32) (p2 : Int32) {σ0 σ : zS} (h0 : yR σ0 σ) : yT (f_X3_setWord p0 p1 p2 σ) (fun r τ => yR σ0 τ ∧ (True)) := by
 unfold f_X3_setWord
 refine q_bindp (t_X3_isOutside p0 h0) (fun rq1 pq2 => ?_)
 have lq3 : (0 : Int32).toInt = 0 := rfl
 refine q_eq (fun hq4 => ?_) (fun hq4 => ?_)
 ·
  have lq5 : (1 : Int32).toInt = 1 := rfl
  try have aq6 : (p0 + (1 : Int32)).toInt = p0.toInt + (1 : Int32).toInt := i_add (by omega) (by omega)
  refine q_bindp (t_X3_isOutside (p0 + (1 : Int32)) h0) (fun rq7 pq8 => ?_)
  refine q_eq (fun hq9 => ?_) (fun hq9 => ?_)
  ·
   refine q_eq (fun hq10 => ?_) (fun hq10 => ?_)
   ·
    have gq11 := g_1_1 h0
    refine q_lt (fun hq12 => ?_) (fun hq12 => ?_)
    ·
     refine q_c (by omega) (by omega) ?_
     have cq17 : p0.toNatClampNeg = p0.toInt.toNat := rfl
     have lq18 : (8 : Int32).toInt = 8 := rfl
     have lq19 : (31 : Int32).toInt = 31 := rfl
     have lq20 : (255 : Int32).toInt = 255 := rfl
     have aq21 := i_255 (p1 >>> ((8 : Int32) &&& (31 : Int32)))
     refine q_zu h0 (ySt_2 (by omega)) (fun sq13 Rq14 Eq15 Fq16 => ?_)
     refine q_c (by omega) (by omega) ?_
     have cq26 : (p0 + (1 : Int32)).toNatClampNeg = (p0 + (1 : Int32)).toInt.toNat := rfl
     have aq27 := i_255 p1
     refine q_zu Rq14 (ySt_2 (by omega)) (fun sq22 Rq23 Eq24 Fq25 => ?_)
     exact q_some ⟨Rq23, by first | trivial | omega⟩
    ·
     exact q_some ⟨h0, by first | trivial | omega⟩
   ·
    refine q_c (by omega) (by omega) ?_
    have cq32 : p0.toNatClampNeg = p0.toInt.toNat := rfl
    have lq33 : (8 : Int32).toInt = 8 := rfl
    have lq34 : (31 : Int32).toInt = 31 := rfl
    have lq35 : (255 : Int32).toInt = 255 := rfl
    have aq36 := i_255 (p1 >>> ((8 : Int32) &&& (31 : Int32)))
    refine q_zu h0 (ySt_2 (by omega)) (fun sq28 Rq29 Eq30 Fq31 => ?_)
    refine q_c (by omega) (by omega) ?_
    have cq41 : (p0 + (1 : Int32)).toNatClampNeg = (p0 + (1 : Int32)).toInt.toNat := rfl
    have aq42 := i_255 p1
    refine q_zu Rq29 (ySt_2 (by omega)) (fun sq37 Rq38 Eq39 Fq40 => ?_)
    exact q_some ⟨Rq38, by first | trivial | omega⟩
  ·
   exact q_some ⟨h0, by first | trivial | omega⟩
 ·
  exact q_some ⟨h0, by first | trivial | omega⟩
theorem t_X3_copyInTurn_L3 {σ0 : zS} : ∀ (n : Nat) (x1 x2 x3 x4 : Int32) (σ : zS), (x3.toInt - x4.toInt).toNat < n → (0 ≤ x4.toInt) → yR σ0 σ → yT (f_X3_copyInTurn_L3 n x1 x2 x3 x4 σ) (fun r τ => yR σ0 τ ∧ (True)) := by
 intro n
 induction n with
 | zero => intro x1 x2 x3 x4 σ hm; omega
 | succ n ih =>
  intro x1 x2 x3 x4 σ hm hv h0
  rw [f_X3_copyInTurn_L3]
  have bx3 := i_hi x3
  have bx4 := i_hi x4
  refine q_le (fun hq1 => ?_) (fun hq1 => ?_)
  ·
   exact q_some ⟨h0, by first | trivial | omega⟩
  ·
   refine q_bindp (t_X3_byteAt (x1 + x4) h0) (fun rq2 pq3 => ?_)
   have lq4 : (0 : Int32).toInt = 0 := rfl
   refine q_le (fun hq5 => ?_) (fun hq5 => ?_)
   ·
    refine q_binds (t_X3_setByte (x2 + x4) rq2 (0 : Int32) h0) (fun rq6 sq7 Rq8 pq9 => ?_)
    refine q_le (fun hq10 => ?_) (fun hq10 => ?_)
    ·
     have lq11 : (1 : Int32).toInt = 1 := rfl
     try have aq12 : (x4 + (1 : Int32)).toInt = x4.toInt + (1 : Int32).toInt := i_add (by omega) (by omega)
     exact ih x1 x2 x3 (x4 + (1 : Int32)) sq7 (by omega) (by omega) Rq8
    ·
     exact q_some ⟨Rq8, by first | trivial | omega⟩
   ·
    exact q_some ⟨h0, by first | trivial | omega⟩
theorem t_X3_copyInTurn (p0 : Int32) (p1 : Int32) (p2 : Int32) {σ0 σ : zS} (h0 : yR σ0 σ) (hp : p2.toInt < 100000) : yT (f_X3_copyInTurn p0 p1 p2 σ) (fun r τ => yR σ0 τ ∧ (True)) := by
 unfold f_X3_copyInTurn
 have lq1 : (0 : Int32).toInt = 0 := rfl
 refine q_w (t_X3_copyInTurn_L3  zF p0 p1 p2 (0 : Int32) σ (by rw [zF_eq]; omega) (by omega) h0) (fun _ _ h => h)
theorem t_X3_copyAtOnce (p0 : Int32) (p1 : Int32) (p2 : Int32) {σ0 σ : zS} (h0 : yR σ0 σ) (hp : 0 < p2.toInt ∧ p2.toInt < 100000) : yT (f_X3_copyAtOnce p0 p1 p2 σ) (fun r τ => yR σ0 τ ∧ (True)) := by
 unfold f_X3_copyAtOnce
 refine q_bindp (t_X3_isOutside p0 h0) (fun rq1 pq2 => ?_)
 have lq3 : (0 : Int32).toInt = 0 := rfl
 refine q_eq (fun hq4 => ?_) (fun hq4 => ?_)
 ·
  try have aq5 : (p0 + p2).toInt = p0.toInt + p2.toInt := i_add (by omega) (by omega)
  have lq6 : (1 : Int32).toInt = 1 := rfl
  try have aq7 : ((p0 + p2) - (1 : Int32)).toInt = (p0 + p2).toInt - (1 : Int32).toInt := i_sub (by omega) (by omega)
  refine q_bindp (t_X3_isOutside ((p0 + p2) - (1 : Int32)) h0) (fun rq8 pq9 => ?_)
  refine q_eq (fun hq10 => ?_) (fun hq10 => ?_)
  ·
   refine q_bindp (t_X3_isOutside p1 h0) (fun rq11 pq12 => ?_)
   refine q_eq (fun hq13 => ?_) (fun hq13 => ?_)
   ·
    try have aq14 : (p1 + p2).toInt = p1.toInt + p2.toInt := i_add (by omega) (by omega)
    try have aq15 : ((p1 + p2) - (1 : Int32)).toInt = (p1 + p2).toInt - (1 : Int32).toInt := i_sub (by omega) (by omega)
    refine q_bindp (t_X3_isOutside ((p1 + p2) - (1 : Int32)) h0) (fun rq16 pq17 => ?_)
    refine q_eq (fun hq18 => ?_) (fun hq18 => ?_)
    ·
     have gq19 := g_1_1 h0
     refine q_le (fun hq20 => ?_) (fun hq20 => ?_)
     ·
      refine q_cp (by omega) (by omega) (by omega) (by omega) (by omega) ?_
      refine q_zr h0 (fun j => ySt_cpy h0 _ _ _ j) (fun sq21 Rq22 Fq24 => ?_)
      exact q_some ⟨Rq22, by first | trivial | omega⟩
     ·
      exact q_some ⟨h0, by first | trivial | omega⟩
    ·
     exact q_some ⟨h0, by first | trivial | omega⟩
   ·
    exact q_some ⟨h0, by first | trivial | omega⟩
  ·
   exact q_some ⟨h0, by first | trivial | omega⟩
 ·
  exact q_some ⟨h0, by first | trivial | omega⟩
theorem t_X3_wipe_L38 {σ0 : zS} : ∀ (n : Nat) (x1 x2 x3 : Int32) (σ : zS), (x2.toInt - x3.toInt).toNat < n → (0 ≤ x3.toInt ∧ 0 ≤ x1.toInt ∧ x1.toInt + x2.toInt ≤ 2000) → yR σ0 σ → yT (f_X3_wipe_L38 n x1 x2 x3 σ) (fun r τ => yR σ0 τ ∧ (True)) := by
 intro n
 induction n with
 | zero => intro x1 x2 x3 σ hm; omega
 | succ n ih =>
  intro x1 x2 x3 σ hm hv h0
  rw [f_X3_wipe_L38]
  have bx2 := i_hi x2
  have bx3 := i_hi x3
  refine q_le (fun hq1 => ?_) (fun hq1 => ?_)
  ·
   exact q_some ⟨h0, by first | trivial | omega⟩
  ·
   try have aq2 : (x1 + x3).toInt = x1.toInt + x3.toInt := i_add (by omega) (by omega)
   refine q_c (by omega) (by omega) ?_
   have cq7 : (x1 + x3).toNatClampNeg = (x1 + x3).toInt.toNat := rfl
   have lq8 : (0 : Int32).toInt = 0 := rfl
   refine q_zu h0 (ySt_2 (by omega)) (fun sq3 Rq4 Eq5 Fq6 => ?_)
   have lq9 : (1 : Int32).toInt = 1 := rfl
   try have aq10 : (x3 + (1 : Int32)).toInt = x3.toInt + (1 : Int32).toInt := i_add (by omega) (by omega)
   exact ih x1 x2 (x3 + (1 : Int32)) sq3 (by omega) (by omega) Rq4
theorem t_X3_wipe (p0 : Int32) (p1 : Int32) {σ0 σ : zS} (h0 : yR σ0 σ) (hp : 0 < p1.toInt ∧ p1.toInt < 100000) : yT (f_X3_wipe p0 p1 σ) (fun r τ => yR σ0 τ ∧ (True)) := by
 unfold f_X3_wipe
 refine q_bindp (t_X3_isOutside p0 h0) (fun rq1 pq2 => ?_)
 have lq3 : (0 : Int32).toInt = 0 := rfl
 refine q_eq (fun hq4 => ?_) (fun hq4 => ?_)
 ·
  try have aq5 : (p0 + p1).toInt = p0.toInt + p1.toInt := i_add (by omega) (by omega)
  have lq6 : (1 : Int32).toInt = 1 := rfl
  try have aq7 : ((p0 + p1) - (1 : Int32)).toInt = (p0 + p1).toInt - (1 : Int32).toInt := i_sub (by omega) (by omega)
  refine q_bindp (t_X3_isOutside ((p0 + p1) - (1 : Int32)) h0) (fun rq8 pq9 => ?_)
  refine q_eq (fun hq10 => ?_) (fun hq10 => ?_)
  ·
   have gq11 := g_1_1 h0
   refine q_le (fun hq12 => ?_) (fun hq12 => ?_)
   ·
    refine q_w (t_X3_wipe_L38  zF p0 p1 (0 : Int32) σ (by rw [zF_eq]; omega) (by omega) h0) (fun _ _ h => h)
   ·
    exact q_some ⟨h0, by first | trivial | omega⟩
  ·
   exact q_some ⟨h0, by first | trivial | omega⟩
 ·
  exact q_some ⟨h0, by first | trivial | omega⟩
theorem t_X3_copyTable (p0 : Int32) (p1 : Int32) (p2 : Int32) {σ0 σ : zS} (h0 : yR σ0 σ) (hp : -100000 < p2.toInt ∧ p2.toInt < 100000) : yT (f_X3_copyTable p0 p1 p2 σ) (fun r τ => yR σ0 τ ∧ (True)) := by
 unfold f_X3_copyTable
 have lq1 : (0 : Int32).toInt = 0 := rfl
 refine q_eq (fun hq2 => ?_) (fun hq2 => ?_)
 ·
  exact q_some ⟨h0, by first | trivial | omega⟩
 ·
  refine q_eq (fun hq3 => ?_) (fun hq3 => ?_)
  ·
   have bq4 := i_lo p2
   try have aq5 : ((0 : Int32) - p2).toInt = (0 : Int32).toInt - p2.toInt := i_sub (by omega) (by omega)
   have aq6 := i_itee (0 : Int32) p2 p2 ((0 : Int32) - p2)
   refine q_binds (t_X3_wipe p0 (if (0 : Int32) ≤ p2 then p2 else ((0 : Int32) - p2)) h0 (by omega)) (fun rq7 sq8 Rq9 pq10 => ?_)
   exact q_some ⟨Rq9, by first | trivial | omega⟩
  ·
   refine q_le (fun hq11 => ?_) (fun hq11 => ?_)
   ·
    try have aq12 : (-p2).toInt = - p2.toInt := i_neg (by omega)
    refine q_binds (t_X3_copyInTurn p0 p1 (-p2) h0 (by omega)) (fun rq13 sq14 Rq15 pq16 => ?_)
    exact q_some ⟨Rq15, by first | trivial | omega⟩
   ·
    refine q_binds (t_X3_copyAtOnce p0 p1 p2 h0 (by omega)) (fun rq17 sq18 Rq19 pq20 => ?_)
    exact q_some ⟨Rq19, by first | trivial | omega⟩
theorem t_X3_find_L28 {σ0 : zS} : ∀ (n : Nat) (x1 x2 x3 x4 x5 x6 x7 : Int32) (σ : zS), (x6.toInt - x7.toInt).toNat < n → (0 ≤ x7.toInt) → yR σ0 σ → yT (f_X3_find_L28 n x1 x2 x3 x4 x5 x6 x7 σ) (fun r τ => τ = σ ∧ (True)) := by
 intro n
 induction n with
 | zero => intro x1 x2 x3 x4 x5 x6 x7 σ hm; omega
 | succ n ih =>
  intro x1 x2 x3 x4 x5 x6 x7 σ hm hv h0
  rw [f_X3_find_L28]
  have bx6 := i_hi x6
  have bx7 := i_hi x7
  refine q_le (fun hq1 => ?_) (fun hq1 => ?_)
  ·
   exact q_some ⟨rfl, by first | trivial | omega⟩
  ·
   try have aq2 : (x2 + (x7 * x5)).toInt = x2.toInt + (x7 * x5).toInt := i_add (by omega) (by omega)
   refine q_lv (fun yq4 vq3 => ?_)
   have lq5 : (127 : Int32).toInt = 127 := rfl
   refine q_le (fun hq6 => ?_) (fun hq6 => ?_)
   ·
    refine q_bindp (t_X3_byteAt yq4 h0) (fun rq7 pq8 => ?_)
    have lq9 : (0 : Int32).toInt = 0 := rfl
    refine q_le (fun hq10 => ?_) (fun hq10 => ?_)
    ·
     refine q_eq (fun hq11 => ?_) (fun hq11 => ?_)
     ·
      exact q_some ⟨rfl, by first | trivial | omega⟩
     ·
      have lq12 : (1 : Int32).toInt = 1 := rfl
      try have aq13 : (x7 + (1 : Int32)).toInt = x7.toInt + (1 : Int32).toInt := i_add (by omega) (by omega)
      exact ih x1 x2 x3 x4 x5 x6 (x7 + (1 : Int32)) σ (by omega) (by omega) h0
    ·
     exact q_some ⟨rfl, by first | trivial | omega⟩
   ·
    refine q_bindp (t_X3_wordAt yq4 h0) (fun rq14 pq15 => ?_)
    have lq16 : (0 : Int32).toInt = 0 := rfl
    refine q_le (fun hq17 => ?_) (fun hq17 => ?_)
    ·
     refine q_eq (fun hq18 => ?_) (fun hq18 => ?_)
     ·
      exact q_some ⟨rfl, by first | trivial | omega⟩
     ·
      have lq19 : (1 : Int32).toInt = 1 := rfl
      try have aq20 : (x7 + (1 : Int32)).toInt = x7.toInt + (1 : Int32).toInt := i_add (by omega) (by omega)
      exact ih x1 x2 x3 x4 x5 x6 (x7 + (1 : Int32)) σ (by omega) (by omega) h0
    ·
     exact q_some ⟨rfl, by first | trivial | omega⟩
theorem t_X3_find (p0 : Int32) (p1 : Int32) (p2 : Int32) (p3 : Int32) {σ0 σ : zS} (h0 : yR σ0 σ) : yT (f_X3_find p0 p1 p2 p3 σ) (fun r τ => τ = σ ∧ (True)) := by
 unfold f_X3_find
 have lq1 : (127 : Int32).toInt = 127 := rfl
 have aq2 := i_127 p3
 refine q_lv (fun yq4 vq3 => ?_)
 have lq5 : (0 : Int32).toInt = 0 := rfl
 refine q_eq (fun hq6 => ?_) (fun hq6 => ?_)
 ·
  have lq7 : (1 : Int32).toInt = 1 := rfl
  have aq8 := i_itel (1 : Int32) p2 (1 : Int32) p2
  refine q_lv (fun yq10 vq9 => ?_)
  refine q_w (t_X3_find_L28  zF p0 p1 p2 p3 yq4 yq10 (0 : Int32) σ (by rw [zF_eq]; omega) (by omega) h0) (fun _ _ h => h)
 ·
  have lq11 : (2001 : Int32).toInt = 2001 := rfl
  have aq12 := i_itel (2001 : Int32) p2 (2001 : Int32) p2
  refine q_lv (fun yq14 vq13 => ?_)
  refine q_w (t_X3_find_L28  zF p0 p1 p2 p3 yq4 yq14 (0 : Int32) σ (by rw [zF_eq]; omega) (by omega) h0) (fun _ _ h => h)
theorem t_X4_characterAt (p0 : Int32) {σ0 σ : zS} (h0 : yR σ0 σ) : yT (f_X4_characterAt p0 σ) (fun r τ => τ = σ ∧ (True)) := by
 unfold f_X4_characterAt
 have lq1 : (0 : Int32).toInt = 0 := rfl
 refine q_lt (fun hq2 => ?_) (fun hq2 => ?_)
 ·
  exact q_some ⟨rfl, by first | trivial | omega⟩
 ·
  have gq3 := g_41_1 h0
  refine q_le (fun hq4 => ?_) (fun hq4 => ?_)
  ·
   exact q_some ⟨rfl, by first | trivial | omega⟩
  ·
   refine q_c (by omega) (by omega) ?_
   exact q_some ⟨rfl, by first | trivial | omega⟩
theorem t_X4_print (p0 : Int32) {σ0 σ : zS} (h0 : yR σ0 σ) : yT (f_X4_print p0 σ) (fun r τ => yR σ0 τ ∧ (True)) := by
 unfold f_X4_print
 have gq1 := g_41_1 h0
 have lq2 : (120 : Int32).toInt = 120 := rfl
 refine q_lt (fun hq3 => ?_) (fun hq3 => ?_)
 ·
  refine q_c (by omega) (by omega) ?_
  have cq8 : (σ 41 1).toNatClampNeg = (σ 41 1).toInt.toNat := rfl
  refine q_zu h0 (ySt_free (by unfold yKp; omega) (by omega)) (fun sq4 Rq5 Eq6 Fq7 => ?_)
  have gq13 := g_41_1 Rq5
  have eq14 : (sq4 41 1).toInt = (σ 41 1).toInt := congrArg Int32.toInt (Fq7 _ _ (by omega))
  have lq15 : (1 : Int32).toInt = 1 := rfl
  try have aq16 : ((sq4 41 1) + (1 : Int32)).toInt = (sq4 41 1).toInt + (1 : Int32).toInt := i_add (by omega) (by omega)
  refine q_zu Rq5 (ySt_41_1 (by omega)) (fun sq9 Rq10 Eq11 Fq12 => ?_)
  exact q_some ⟨Rq10, by first | trivial | omega⟩
 ·
  exact q_some ⟨h0, by first | trivial | omega⟩
theorem t_X4_printNumber_L25 {σ0 : zS} : ∀ (n : Nat) (x1 x2 x3 x4 : Int32) (σ : zS), x4.toInt.toNat < n → (0 ≤ x4.toInt) → yR σ0 σ → yT (f_X4_printNumber_L25 n x1 x2 x3 x4 σ) (fun r τ => yR σ0 τ ∧ (True)) := by
 intro n
 induction n with
 | zero => intro x1 x2 x3 x4 σ hm; omega
 | succ n ih =>
  intro x1 x2 x3 x4 σ hm hv h0
  rw [f_X4_printNumber_L25]
  have bx4 := i_hi x4
  have lq1 : (0 : Int32).toInt = 0 := rfl
  refine q_le (fun hq2 => ?_) (fun hq2 => ?_)
  ·
   exact q_some ⟨h0, by first | trivial | omega⟩
  ·
   refine q_lt (fun hq3 => ?_) (fun hq3 => ?_)
   ·
    exact q_some ⟨h0, by first | trivial | omega⟩
   ·
    refine q_le (fun hq4 => ?_) (fun hq4 => ?_)
    ·
     refine q_d (by omega) ?_
     have lq5 : (10 : Int32).toInt = 10 := rfl
     refine q_d (by omega) ?_
     refine q_binds (t_X4_print ((48 : Int32) + ((x3 / x4) - (((x3 / x4) / (10 : Int32)) * (10 : Int32)))) h0) (fun rq6 sq7 Rq8 pq9 => ?_)
     refine q_d (by omega) ?_
     try have aq10 := i_div (a := x4) (b := (10 : Int32)) (m := 10) rfl (by omega) (by omega)
     refine q_lv (fun yq12 vq11 => ?_)
     exact ih x1 rq6 x3 yq12 sq7 (by omega) (by omega) Rq8
    ·
     have lq13 : (1 : Int32).toInt = 1 := rfl
     refine q_eq (fun hq14 => ?_) (fun hq14 => ?_)
     ·
      refine q_d (by omega) ?_
      have lq15 : (10 : Int32).toInt = 10 := rfl
      refine q_d (by omega) ?_
      refine q_binds (t_X4_print ((48 : Int32) + ((x3 / x4) - (((x3 / x4) / (10 : Int32)) * (10 : Int32)))) h0) (fun rq16 sq17 Rq18 pq19 => ?_)
      refine q_d (by omega) ?_
      try have aq20 := i_div (a := x4) (b := (10 : Int32)) (m := 10) rfl (by omega) (by omega)
      refine q_lv (fun yq22 vq21 => ?_)
      exact ih x1 rq16 x3 yq22 sq17 (by omega) (by omega) Rq18
     ·
      have lq23 : (10 : Int32).toInt = 10 := rfl
      refine q_d (by omega) ?_
      try have aq24 := i_div (a := x4) (b := (10 : Int32)) (m := 10) rfl (by omega) (by omega)
      refine q_lv (fun yq26 vq25 => ?_)
      exact ih x1 x2 x3 yq26 σ (by omega) (by omega) h0
theorem t_X4_printNumber (p0 : Int32) {σ0 σ : zS} (h0 : yR σ0 σ) : yT (f_X4_printNumber p0 σ) (fun r τ => yR σ0 τ ∧ (True)) := by
 unfold f_X4_printNumber
 have lq1 : (0 : Int32).toInt = 0 := rfl
 refine q_le (fun hq2 => ?_) (fun hq2 => ?_)
 ·
  have bq3 := i_lo p0
  try have aq4 : ((0 : Int32) - p0).toInt = (0 : Int32).toInt - p0.toInt := i_sub (by omega) (by omega)
  have aq5 := i_itee (0 : Int32) p0 p0 ((0 : Int32) - p0)
  refine q_lv (fun yq7 vq6 => ?_)
  have lq8 : (1 : Int32).toInt = 1 := rfl
  have lq9 : (10000 : Int32).toInt = 10000 := rfl
  refine q_w (t_X4_printNumber_L25  zF p0 (1 : Int32) yq7 (10000 : Int32) σ (by rw [zF_eq]; omega) (by omega) h0) (fun _ _ h => h)
 ·
  refine q_binds (t_X4_print (45 : Int32) h0) (fun rq10 sq11 Rq12 pq13 => ?_)
  have bq14 := i_lo p0
  try have aq15 : ((0 : Int32) - p0).toInt = (0 : Int32).toInt - p0.toInt := i_sub (by omega) (by omega)
  have aq16 := i_itee (0 : Int32) p0 p0 ((0 : Int32) - p0)
  refine q_lv (fun yq18 vq17 => ?_)
  have lq19 : (10000 : Int32).toInt = 10000 := rfl
  refine q_w (t_X4_printNumber_L25  zF p0 rq10 yq18 (10000 : Int32) sq11 (by rw [zF_eq]; omega) (by omega) Rq12) (fun _ _ h => h)
theorem t_X5_opAt (p0 : Int32) {σ0 σ : zS} (h0 : yR σ0 σ) : yT (f_X5_opAt p0 σ) (fun r τ => τ = σ ∧ (r.toInt = -1 ∨ (0 ≤ p0.toInt ∧ p0.toInt < 100))) := by
 unfold f_X5_opAt
 have lq1 : (0 : Int32).toInt = 0 := rfl
 refine q_lt (fun hq2 => ?_) (fun hq2 => ?_)
 ·
  have lq3 : (-1 : Int32).toInt = -1 := rfl
  exact q_some ⟨rfl, by first | trivial | omega⟩
 ·
  have gq4 := g_5_3 h0
  refine q_le (fun hq5 => ?_) (fun hq5 => ?_)
  ·
   have lq6 : (-1 : Int32).toInt = -1 := rfl
   exact q_some ⟨rfl, by first | trivial | omega⟩
  ·
   refine q_c (by omega) (by omega) ?_
   have cq7 : p0.toNatClampNeg = p0.toInt.toNat := rfl
   exact q_some ⟨rfl, by first | trivial | omega⟩
theorem t_X7_isWithin (p0 : Int32) (p1 : Int32) {σ0 σ : zS} (h0 : yR σ0 σ) : yT (f_X7_isWithin p0 p1 σ) (fun r τ => τ = σ ∧ ((r.toInt = 0 ∧ (p0.toInt < 0 ∨ p1.toInt < p0.toInt)) ∨ (r.toInt = 1 ∧ 0 ≤ p0.toInt ∧ p0.toInt ≤ p1.toInt))) := by
 unfold f_X7_isWithin
 have lq1 : (0 : Int32).toInt = 0 := rfl
 refine q_lt (fun hq2 => ?_) (fun hq2 => ?_)
 ·
  exact q_some ⟨rfl, by first | trivial | omega⟩
 ·
  refine q_lt (fun hq3 => ?_) (fun hq3 => ?_)
  ·
   exact q_some ⟨rfl, by first | trivial | omega⟩
  ·
   have lq4 : (1 : Int32).toInt = 1 := rfl
   exact q_some ⟨rfl, by first | trivial | omega⟩
theorem t_X5_hasRoutine (p0 : Int32) {σ0 σ : zS} (h0 : yR σ0 σ) : yT (f_X5_hasRoutine p0 σ) (fun r τ => τ = σ ∧ (r.toInt = 0 ∨ (0 ≤ p0.toInt ∧ p0.toInt < 8))) := by
 unfold f_X5_hasRoutine
 have lq1 : (7 : Int32).toInt = 7 := rfl
 refine q_bindp (t_X7_isWithin p0 (7 : Int32) h0) (fun rq2 pq3 => ?_)
 have lq4 : (0 : Int32).toInt = 0 := rfl
 refine q_eq (fun hq5 => ?_) (fun hq5 => ?_)
 ·
  exact q_some ⟨rfl, by first | trivial | omega⟩
 ·
  refine q_c (by omega) (by omega) ?_
  have cq6 : p0.toNatClampNeg = p0.toInt.toNat := rfl
  refine q_eq (fun hq7 => ?_) (fun hq7 => ?_)
  ·
   exact q_some ⟨rfl, by first | trivial | omega⟩
  ·
   have lq8 : (1 : Int32).toInt = 1 := rfl
   exact q_some ⟨rfl, by first | trivial | omega⟩
