theorem t_X0_record (p0 : Int32) {σ0 σ : zS} (h0 : yR σ0 σ) : yT (f_X0_record p0 σ) (fun r τ => yR σ0 τ ∧ (True)) := by
 unfold f_X0_record
 have g_1 := g_3_2 h0
 have l_2 : (50 : Int32).toInt = 50 := rfl
 refine q_lt (fun h_3 => ?_) (fun h_3 => ?_)
 ·
  refine q_d (by omega) ?_
  have g_4 := g_3_1 h0
  try have a_5 : ((σ 3 1) + (σ 3 2)).toInt = (σ 3 1).toInt + (σ 3 2).toInt := i_add (by omega) (by omega)
  try have a_6 := i_mod (a := ((σ 3 1) + (σ 3 2))) (b := (50 : Int32)) (m := 50) rfl (by omega) (by omega)
  refine q_c (by omega) (by omega) ?_
  have c_11 : (((σ 3 1) + (σ 3 2)) - ((((σ 3 1) + (σ 3 2)) / (50 : Int32)) * (50 : Int32))).toNatClampNeg = (((σ 3 1) + (σ 3 2)) - ((((σ 3 1) + (σ 3 2)) / (50 : Int32)) * (50 : Int32))).toInt.toNat := rfl
  refine q_zu h0 (ySt_free (by unfold yKp; omega) (by omega)) (fun s_7 R_8 E_9 F_10 => ?_)
  have g_16 := g_3_2 R_8
  have e_17 : (s_7 3 2).toInt = (σ 3 2).toInt := congrArg Int32.toInt (F_10 _ _ (by omega))
  have l_18 : (1 : Int32).toInt = 1 := rfl
  try have a_19 : ((s_7 3 2) + (1 : Int32)).toInt = (s_7 3 2).toInt + (1 : Int32).toInt := i_add (by omega) (by omega)
  refine q_zu R_8 (ySt_3_2 (by omega)) (fun s_12 R_13 E_14 F_15 => ?_)
  exact q_some ⟨R_13, by first | trivial | omega⟩
 ·
  exact q_some ⟨h0, by first | trivial | omega⟩
theorem t_X0_nextOfSeed  {σ0 σ : zS} (h0 : yR σ0 σ) : yT (f_X0_nextOfSeed  σ) (fun r τ => yR σ0 τ ∧ (True)) := by
 unfold f_X0_nextOfSeed
 refine q_zu h0 ySt_3_4 (fun s_1 R_2 E_3 F_4 => ?_)
 exact q_some ⟨R_2, by first | trivial | omega⟩
theorem t_X0_nextOfTape  {σ0 σ : zS} (h0 : yR σ0 σ) (hp : 0 < (σ 3 2).toInt) : yT (f_X0_nextOfTape  σ) (fun r τ => yR σ0 τ ∧ (True)) := by
 unfold f_X0_nextOfTape
 have g_1 := g_3_1 h0
 refine q_c (by omega) (by omega) ?_
 have c_2 : (σ 3 1).toNatClampNeg = (σ 3 1).toInt.toNat := rfl
 refine q_lv (fun y_4 v_3 => ?_)
 have l_5 : (50 : Int32).toInt = 50 := rfl
 refine q_d (by omega) ?_
 have l_10 : (1 : Int32).toInt = 1 := rfl
 try have a_11 : ((σ 3 1) + (1 : Int32)).toInt = (σ 3 1).toInt + (1 : Int32).toInt := i_add (by omega) (by omega)
 try have a_12 := i_mod (a := ((σ 3 1) + (1 : Int32))) (b := (50 : Int32)) (m := 50) rfl (by omega) (by omega)
 refine q_zu h0 (ySt_3_1 (by omega)) (fun s_6 R_7 E_8 F_9 => ?_)
 have g_17 := g_3_2 R_7
 have e_18 : (s_6 3 2).toInt = (σ 3 2).toInt := congrArg Int32.toInt (F_9 _ _ (by omega))
 have g_19 := g_3_2 h0
 try have a_20 : ((s_6 3 2) - (1 : Int32)).toInt = (s_6 3 2).toInt - (1 : Int32).toInt := i_sub (by omega) (by omega)
 refine q_zu R_7 (ySt_3_2 (by omega)) (fun s_13 R_14 E_15 F_16 => ?_)
 exact q_some ⟨R_14, by first | trivial | omega⟩
theorem t_X0_nextOfCount  {σ0 σ : zS} (h0 : yR σ0 σ) : yT (f_X0_nextOfCount  σ) (fun r τ => yR σ0 τ ∧ (True)) := by
 unfold f_X0_nextOfCount
 have l_1 : (1 : Int32).toInt = 1 := rfl
 try have a_2 : ((σ 3 5) + (1 : Int32)).toInt = (σ 3 5).toInt + (1 : Int32).toInt := i_add (by omega) (by omega)
 refine q_le (fun h_3 => ?_) (fun h_3 => ?_)
 ·
  refine q_zu h0 ySt_3_5 (fun s_4 R_5 E_6 F_7 => ?_)
  exact q_some ⟨R_5, by first | trivial | omega⟩
 ·
  refine q_zu h0 ySt_3_5 (fun s_8 R_9 E_10 F_11 => ?_)
  exact q_some ⟨R_9, by first | trivial | omega⟩
theorem t_X0_next  {σ0 σ : zS} (h0 : yR σ0 σ) : yT (f_X0_next  σ) (fun r τ => yR σ0 τ ∧ (True)) := by
 unfold f_X0_next
 have l_1 : (1 : Int32).toInt = 1 := rfl
 refine q_eq (fun h_2 => ?_) (fun h_2 => ?_)
 ·
  refine q_binds (t_X0_nextOfCount  h0) (fun r_3 s_4 R_5 p_6 => ?_)
  exact q_some ⟨R_5, by first | trivial | omega⟩
 ·
  have l_7 : (2 : Int32).toInt = 2 := rfl
  refine q_eq (fun h_8 => ?_) (fun h_8 => ?_)
  ·
   have g_9 := g_3_2 h0
   have l_10 : (0 : Int32).toInt = 0 := rfl
   refine q_le (fun h_11 => ?_) (fun h_11 => ?_)
   ·
    refine q_binds (t_X0_nextOfSeed  h0) (fun r_12 s_13 R_14 p_15 => ?_)
    exact q_some ⟨R_14, by first | trivial | omega⟩
   ·
    refine q_binds (t_X0_nextOfTape  h0 (by omega)) (fun r_16 s_17 R_18 p_19 => ?_)
    exact q_some ⟨R_18, by first | trivial | omega⟩
  ·
   refine q_binds (t_X0_nextOfSeed  h0) (fun r_20 s_21 R_22 p_23 => ?_)
   exact q_some ⟨R_22, by first | trivial | omega⟩
theorem t_X0_draw (p0 : Int32) {σ0 σ : zS} (h0 : yR σ0 σ) : yT (f_X0_draw p0 σ) (fun r τ => yR σ0 τ ∧ (True)) := by
 unfold f_X0_draw
 have l_1 : (0 : Int32).toInt = 0 := rfl
 refine q_le (fun h_2 => ?_) (fun h_2 => ?_)
 ·
  refine q_eq (fun h_3 => ?_) (fun h_3 => ?_)
  ·
   refine q_zu h0 ySt_3_3 (fun s_4 R_5 E_6 F_7 => ?_)
   exact q_some ⟨R_5, by first | trivial | omega⟩
  ·
   have l_8 : (1000 : Int32).toInt = 1000 := rfl
   try have a_9 : (-p0).toInt = - p0.toInt := i_neg (by omega)
   refine q_le (fun h_10 => ?_) (fun h_10 => ?_)
   ·
    refine q_zu h0 ySt_3_3 (fun s_11 R_12 E_13 F_14 => ?_)
    refine q_zu R_12 ySt_3_4 (fun s_15 R_16 E_17 F_18 => ?_)
    exact q_some ⟨R_16, by first | trivial | omega⟩
   ·
    refine q_zu h0 ySt_3_3 (fun s_19 R_20 E_21 F_22 => ?_)
    refine q_zu R_20 ySt_3_6 (fun s_23 R_24 E_25 F_26 => ?_)
    refine q_zu R_24 ySt_3_5 (fun s_27 R_28 E_29 F_30 => ?_)
    exact q_some ⟨R_28, by first | trivial | omega⟩
 ·
  refine q_binds (t_X0_next  h0) (fun r_31 s_32 R_33 p_34 => ?_)
  refine q_d (by omega) ?_
  exact q_some ⟨R_33, by first | trivial | omega⟩
theorem t_X1_hasLocal (i : Nat) (hi : i < 12) (p0 : Int32) {σ0 σ : zS} (h0 : yR σ0 σ) : yT (f_X1_hasLocal i p0 σ) (fun r τ => τ = σ ∧ (r.toInt = 0 ∨ (r.toInt = 1 ∧ 1 ≤ p0.toInt ∧ p0.toInt ≤ 15))) := by
 unfold f_X1_hasLocal
 have l_1 : (1 : Int32).toInt = 1 := rfl
 refine q_lt (fun h_2 => ?_) (fun h_2 => ?_)
 ·
  have l_3 : (0 : Int32).toInt = 0 := rfl
  exact q_some ⟨rfl, by first | trivial | omega⟩
 ·
  have g_4 := g_f h0 i (by omega)
  refine q_lt (fun h_5 => ?_) (fun h_5 => ?_)
  ·
   have l_6 : (0 : Int32).toInt = 0 := rfl
   exact q_some ⟨rfl, by first | trivial | omega⟩
  ·
   exact q_some ⟨rfl, by first | trivial | omega⟩
theorem t_X1_local (i : Nat) (hi : i < 12) (p0 : Int32) {σ0 σ : zS} (h0 : yR σ0 σ) : yT (f_X1_local i p0 σ) (fun r τ => τ = σ ∧ (True)) := by
 unfold f_X1_local
 refine q_bindp (t_X1_hasLocal i (by omega) p0 h0) (fun r_1 p_2 => ?_)
 have l_3 : (0 : Int32).toInt = 0 := rfl
 refine q_eq (fun h_4 => ?_) (fun h_4 => ?_)
 ·
  exact q_some ⟨rfl, by first | trivial | omega⟩
 ·
  have l_5 : (1 : Int32).toInt = 1 := rfl
  try have a_6 : (p0 - (1 : Int32)).toInt = p0.toInt - (1 : Int32).toInt := i_sub (by omega) (by omega)
  refine q_c (by omega) (by omega) ?_
  exact q_some ⟨rfl, by first | trivial | omega⟩
theorem t_X1_setLocal (i : Nat) (hi : i < 12) (p0 : Int32) (p1 : Int32) {σ0 σ : zS} (h0 : yR σ0 σ) : yT (f_X1_setLocal i p0 p1 σ) (fun r τ => yR σ0 τ ∧ (True)) := by
 unfold f_X1_setLocal
 refine q_bindp (t_X1_hasLocal i (by omega) p0 h0) (fun r_1 p_2 => ?_)
 have l_3 : (0 : Int32).toInt = 0 := rfl
 refine q_eq (fun h_4 => ?_) (fun h_4 => ?_)
 ·
  exact q_some ⟨h0, by first | trivial | omega⟩
 ·
  have l_5 : (1 : Int32).toInt = 1 := rfl
  try have a_6 : (p0 - (1 : Int32)).toInt = p0.toInt - (1 : Int32).toInt := i_sub (by omega) (by omega)
  refine q_c (by omega) (by omega) ?_
  have c_11 : (p0 - (1 : Int32)).toNatClampNeg = (p0 - (1 : Int32)).toInt.toNat := rfl
  refine q_zu h0 (ySt_free (by unfold yKp; omega) (by omega)) (fun s_7 R_8 E_9 F_10 => ?_)
  exact q_some ⟨R_8, by first | trivial | omega⟩
theorem t_X2_begin  {σ0 σ : zS} (h0 : yR σ0 σ) : yT (f_X2_begin  σ) (fun r τ => yR σ0 τ ∧ (True)) := by
 unfold f_X2_begin
 have l_5 : (0 : Int32).toInt = 0 := rfl
 refine q_zu h0 (ySt_14_2 (by omega)) (fun s_1 R_2 E_3 F_4 => ?_)
 refine q_zu R_2 (ySt_14_3 (by omega)) (fun s_6 R_7 E_8 F_9 => ?_)
 refine q_zu R_7 ySt_14_4 (fun s_10 R_11 E_12 F_13 => ?_)
 exact q_some ⟨R_11, by first | trivial | omega⟩
theorem t_X2_top {σ0 σ : zS} (h0 : yR σ0 σ) : ∃ i, i < 12 ∧ f_X2_top σ = some (some i, σ) := by
  unfold f_X2_top
  have g := g_14_3 h0
  by_cases h : (σ 14 3) ≤ 0
  · rw [if_pos h, zc_ok (by decide) (by decide)]
    exact ⟨_, by decide, rfl⟩
  · rw [if_neg h]
    rw [i_le, t_0] at h
    have e : ((σ 14 3) - (1 : Int32)).toInt = (σ 14 3).toInt - 1 := i_m1 (by omega)
    rw [zc_ok (by omega) (by omega)]
    refine ⟨((σ 14 3) - (1 : Int32)).toNatClampNeg, ?_, rfl⟩
    rw [i_cl]; omega
theorem t_X2_enter  {σ0 σ : zS} (h0 : yR σ0 σ) : yT (f_X2_enter  σ) (fun r τ => yR σ0 τ ∧ (∀ i, r = some i → i < 12)) := by
 unfold f_X2_enter
 have g_1 := g_14_3 h0
 have l_2 : (12 : Int32).toInt = 12 := rfl
 refine q_lt (fun h_3 => ?_) (fun h_3 => ?_)
 ·
  refine q_c (by omega) (by omega) ?_
  have c_4 : (σ 14 3).toNatClampNeg = (σ 14 3).toInt.toNat := rfl
  refine q_zr h0 (fun j => ySt_free (by unfold yKp; omega) (by omega)) (fun s_5 R_6 F_8 => ?_)
  have g_13 := g_14_2 R_6
  have e_14 : (s_5 14 2).toInt = (σ 14 2).toInt := congrArg Int32.toInt (F_8 _ _ (by omega))
  have g_15 := g_14_2 h0
  refine q_zu R_6 (ySt_f (by omega) ⟨fun q => absurd q (by decide), fun q => absurd q (by decide), fun _ => by omega⟩) (fun s_9 R_10 E_11 F_12 => ?_)
  have g_20 := g_14_3 R_10
  have e_21 : (s_9 14 3).toInt = (s_5 14 3).toInt := congrArg Int32.toInt (F_12 _ _ (by omega))
  have g_22 := g_14_3 R_6
  have e_23 : (s_5 14 3).toInt = (σ 14 3).toInt := congrArg Int32.toInt (F_8 _ _ (by omega))
  have l_24 : (1 : Int32).toInt = 1 := rfl
  try have a_25 : ((s_9 14 3) + (1 : Int32)).toInt = (s_9 14 3).toInt + (1 : Int32).toInt := i_add (by omega) (by omega)
  refine q_zu R_10 (ySt_14_3 (by omega)) (fun s_16 R_17 E_18 F_19 => ?_)
  refine q_zu R_17 ySt_14_4 (fun s_26 R_27 E_28 F_29 => ?_)
  exact q_some ⟨R_27, fun _ h => by cases h; omega⟩
 ·
  exact q_some ⟨h0, fun _ h => by cases h⟩
theorem t_X2_leave  {σ0 σ : zS} (h0 : yR σ0 σ) : yT (f_X2_leave  σ) (fun r τ => yR σ0 τ ∧ (True)) := by
 unfold f_X2_leave
 have g_1 := g_14_3 h0
 have l_2 : (0 : Int32).toInt = 0 := rfl
 refine q_le (fun h_3 => ?_) (fun h_3 => ?_)
 ·
  exact q_some ⟨h0, by first | trivial | omega⟩
 ·
  have l_8 : (1 : Int32).toInt = 1 := rfl
  try have a_9 : ((σ 14 3) - (1 : Int32)).toInt = (σ 14 3).toInt - (1 : Int32).toInt := i_sub (by omega) (by omega)
  refine q_zu h0 (ySt_14_3 (by omega)) (fun s_4 R_5 E_6 F_7 => ?_)
  have g_10 := g_14_3 R_5
  have e_11 := E_6
  refine q_c (by omega) (by omega) ?_
  have c_16 : (s_4 14 3).toNatClampNeg = (s_4 14 3).toInt.toNat := rfl
  have g_17 := g_f R_5 (s_4 14 3).toNatClampNeg (by omega)
  have e_18 : (s_4 (16 + (2 * (s_4 14 3).toNatClampNeg)) 5).toInt = (σ (16 + (2 * (s_4 14 3).toNatClampNeg)) 5).toInt := congrArg Int32.toInt (F_7 _ _ (by omega))
  have g_19 := g_f h0 (s_4 14 3).toNatClampNeg (by omega)
  refine q_zu R_5 (ySt_14_2 (by omega)) (fun s_12 R_13 E_14 F_15 => ?_)
  exact q_some ⟨R_13, by first | trivial | omega⟩
theorem t_X2_pop  {σ0 σ : zS} (h0 : yR σ0 σ) : yT (f_X2_pop  σ) (fun r τ => yR σ0 τ ∧ (True)) := by
 unfold f_X2_pop
 refine q_bindr (t_X2_top  h0) (fun i_1 hi_2 => ?_)
 refine q_op hi_2 ?_
 have g_3 := g_f h0 i_1 (by omega)
 have g_4 := g_14_2 h0
 refine q_lt (fun h_5 => ?_) (fun h_5 => ?_)
 ·
  have l_10 : (1 : Int32).toInt = 1 := rfl
  try have a_11 : ((σ 14 2) - (1 : Int32)).toInt = (σ 14 2).toInt - (1 : Int32).toInt := i_sub (by omega) (by omega)
  refine q_zu h0 (ySt_14_2 (by omega)) (fun s_6 R_7 E_8 F_9 => ?_)
  have g_12 := g_14_2 R_7
  have e_13 := E_8
  refine q_c (by omega) (by omega) ?_
  exact q_some ⟨R_7, by first | trivial | omega⟩
 ·
  exact q_some ⟨h0, by first | trivial | omega⟩
theorem t_X2_push (p0 : Int32) {σ0 σ : zS} (h0 : yR σ0 σ) : yT (f_X2_push p0 σ) (fun r τ => yR σ0 τ ∧ (True)) := by
 unfold f_X2_push
 have g_1 := g_14_2 h0
 have l_2 : (100 : Int32).toInt = 100 := rfl
 refine q_lt (fun h_3 => ?_) (fun h_3 => ?_)
 ·
  refine q_c (by omega) (by omega) ?_
  have c_8 : (σ 14 2).toNatClampNeg = (σ 14 2).toInt.toNat := rfl
  refine q_zu h0 (ySt_free (by unfold yKp; omega) (by omega)) (fun s_4 R_5 E_6 F_7 => ?_)
  have g_13 := g_14_2 R_5
  have e_14 : (s_4 14 2).toInt = (σ 14 2).toInt := congrArg Int32.toInt (F_7 _ _ (by omega))
  have l_15 : (1 : Int32).toInt = 1 := rfl
  try have a_16 : ((s_4 14 2) + (1 : Int32)).toInt = (s_4 14 2).toInt + (1 : Int32).toInt := i_add (by omega) (by omega)
  refine q_zu R_5 (ySt_14_2 (by omega)) (fun s_9 R_10 E_11 F_12 => ?_)
  exact q_some ⟨R_10, by first | trivial | omega⟩
 ·
  exact q_some ⟨h0, by first | trivial | omega⟩
theorem t_X3_isOutside (p0 : Int32) {σ0 σ : zS} (h0 : yR σ0 σ) : yT (f_X3_isOutside p0 σ) (fun r τ => τ = σ ∧ ((r.toInt = 0 ∧ 0 ≤ p0.toInt ∧ p0.toInt < (σ 1 1).toInt ∧ (σ 1 1).toInt ≤ 2000) ∨ r.toInt = 1)) := by
 unfold f_X3_isOutside
 have l_1 : (0 : Int32).toInt = 0 := rfl
 refine q_lt (fun h_2 => ?_) (fun h_2 => ?_)
 ·
  have l_3 : (1 : Int32).toInt = 1 := rfl
  exact q_some ⟨rfl, by first | trivial | omega⟩
 ·
  have g_4 := g_1_1 h0
  refine q_lt (fun h_5 => ?_) (fun h_5 => ?_)
  ·
   exact q_some ⟨rfl, by first | trivial | omega⟩
  ·
   have l_6 : (1 : Int32).toInt = 1 := rfl
   exact q_some ⟨rfl, by first | trivial | omega⟩
theorem t_X3_byteAt (p0 : Int32) {σ0 σ : zS} (h0 : yR σ0 σ) : yT (f_X3_byteAt p0 σ) (fun r τ => τ = σ ∧ (True)) := by
 unfold f_X3_byteAt
 refine q_bindp (t_X3_isOutside p0 h0) (fun r_1 p_2 => ?_)
 have l_3 : (0 : Int32).toInt = 0 := rfl
 refine q_eq (fun h_4 => ?_) (fun h_4 => ?_)
 ·
  refine q_c (by omega) (by omega) ?_
  exact q_some ⟨rfl, by first | trivial | omega⟩
 ·
  exact q_some ⟨rfl, by first | trivial | omega⟩
theorem t_X3_wordAt (p0 : Int32) {σ0 σ : zS} (h0 : yR σ0 σ) : yT (f_X3_wordAt p0 σ) (fun r τ => τ = σ ∧ (True)) := by
 unfold f_X3_wordAt
 refine q_bindp (t_X3_isOutside p0 h0) (fun r_1 p_2 => ?_)
 have l_3 : (0 : Int32).toInt = 0 := rfl
 refine q_eq (fun h_4 => ?_) (fun h_4 => ?_)
 ·
  have l_5 : (1 : Int32).toInt = 1 := rfl
  try have a_6 : (p0 + (1 : Int32)).toInt = p0.toInt + (1 : Int32).toInt := i_add (by omega) (by omega)
  refine q_bindp (t_X3_isOutside (p0 + (1 : Int32)) h0) (fun r_7 p_8 => ?_)
  refine q_eq (fun h_9 => ?_) (fun h_9 => ?_)
  ·
   refine q_c (by omega) (by omega) ?_
   refine q_c (by omega) (by omega) ?_
   exact q_some ⟨rfl, by first | trivial | omega⟩
  ·
   exact q_some ⟨rfl, by first | trivial | omega⟩
 ·
  exact q_some ⟨rfl, by first | trivial | omega⟩
theorem t_X3_setByte (p0 : Int32) (p1 : Int32) (p2 : Int32) {σ0 σ : zS} (h0 : yR σ0 σ) : yT (f_X3_setByte p0 p1 p2 σ) (fun r τ => yR σ0 τ ∧ (True)) := by
 unfold f_X3_setByte
 refine q_bindp (t_X3_isOutside p0 h0) (fun r_1 p_2 => ?_)
 have l_3 : (0 : Int32).toInt = 0 := rfl
 refine q_eq (fun h_4 => ?_) (fun h_4 => ?_)
 ·
  refine q_eq (fun h_5 => ?_) (fun h_5 => ?_)
  ·
   have g_6 := g_1_1 h0
   refine q_lt (fun h_7 => ?_) (fun h_7 => ?_)
   ·
    refine q_c (by omega) (by omega) ?_
    have c_12 : p0.toNatClampNeg = p0.toInt.toNat := rfl
    have l_13 : (255 : Int32).toInt = 255 := rfl
    have a_14 := i_255 p1
    refine q_zu h0 (ySt_2 (by omega)) (fun s_8 R_9 E_10 F_11 => ?_)
    exact q_some ⟨R_9, by first | trivial | omega⟩
   ·
    exact q_some ⟨h0, by first | trivial | omega⟩
  ·
   refine q_c (by omega) (by omega) ?_
   have c_19 : p0.toNatClampNeg = p0.toInt.toNat := rfl
   have l_20 : (255 : Int32).toInt = 255 := rfl
   have a_21 := i_255 p1
   refine q_zu h0 (ySt_2 (by omega)) (fun s_15 R_16 E_17 F_18 => ?_)
   exact q_some ⟨R_16, by first | trivial | omega⟩
 ·
  exact q_some ⟨h0, by first | trivial | omega⟩
theorem t_X3_setWord (p0 : Int32) (p1 : Int32) (p2 : Int32) {σ0 σ : zS} (h0 : yR σ0 σ) : yT (f_X3_setWord p0 p1 p2 σ) (fun r τ => yR σ0 τ ∧ (True)) := by
 unfold f_X3_setWord
 refine q_bindp (t_X3_isOutside p0 h0) (fun r_1 p_2 => ?_)
 have l_3 : (0 : Int32).toInt = 0 := rfl
 refine q_eq (fun h_4 => ?_) (fun h_4 => ?_)
 ·
  have l_5 : (1 : Int32).toInt = 1 := rfl
  try have a_6 : (p0 + (1 : Int32)).toInt = p0.toInt + (1 : Int32).toInt := i_add (by omega) (by omega)
  refine q_bindp (t_X3_isOutside (p0 + (1 : Int32)) h0) (fun r_7 p_8 => ?_)
  refine q_eq (fun h_9 => ?_) (fun h_9 => ?_)
  ·
   refine q_eq (fun h_10 => ?_) (fun h_10 => ?_)
   ·
    have g_11 := g_1_1 h0
    refine q_lt (fun h_12 => ?_) (fun h_12 => ?_)
    ·
     refine q_c (by omega) (by omega) ?_
     have c_17 : p0.toNatClampNeg = p0.toInt.toNat := rfl
     have l_18 : (8 : Int32).toInt = 8 := rfl
     have l_19 : (31 : Int32).toInt = 31 := rfl
     have l_20 : (255 : Int32).toInt = 255 := rfl
     have a_21 := i_255 (p1 >>> ((8 : Int32) &&& (31 : Int32)))
     refine q_zu h0 (ySt_2 (by omega)) (fun s_13 R_14 E_15 F_16 => ?_)
     refine q_c (by omega) (by omega) ?_
     have c_26 : (p0 + (1 : Int32)).toNatClampNeg = (p0 + (1 : Int32)).toInt.toNat := rfl
     have a_27 := i_255 p1
     refine q_zu R_14 (ySt_2 (by omega)) (fun s_22 R_23 E_24 F_25 => ?_)
     exact q_some ⟨R_23, by first | trivial | omega⟩
    ·
     exact q_some ⟨h0, by first | trivial | omega⟩
   ·
    refine q_c (by omega) (by omega) ?_
    have c_32 : p0.toNatClampNeg = p0.toInt.toNat := rfl
    have l_33 : (8 : Int32).toInt = 8 := rfl
    have l_34 : (31 : Int32).toInt = 31 := rfl
    have l_35 : (255 : Int32).toInt = 255 := rfl
    have a_36 := i_255 (p1 >>> ((8 : Int32) &&& (31 : Int32)))
    refine q_zu h0 (ySt_2 (by omega)) (fun s_28 R_29 E_30 F_31 => ?_)
    refine q_c (by omega) (by omega) ?_
    have c_41 : (p0 + (1 : Int32)).toNatClampNeg = (p0 + (1 : Int32)).toInt.toNat := rfl
    have a_42 := i_255 p1
    refine q_zu R_29 (ySt_2 (by omega)) (fun s_37 R_38 E_39 F_40 => ?_)
    exact q_some ⟨R_38, by first | trivial | omega⟩
  ·
   exact q_some ⟨h0, by first | trivial | omega⟩
 ·
  exact q_some ⟨h0, by first | trivial | omega⟩
theorem t_X3_copyInTurn_L3 {σ0 : zS} : ∀ (n : Nat) (x1 x2 x3 x4 : Int32) (σ : zS), (x3.toInt - x4.toInt).toNat < n → (0 ≤ x4.toInt) → yR σ0 σ → yT (f_X3_copyInTurn_L3 n x1 x2 x3 x4 σ) (fun r τ => yR σ0 τ ∧ (True)) := by
 intro n
 induction n with
 | zero => intro x1 x2 x3 x4 σ hm; omega
 | succ n ih =>
  intro x1 x2 x3 x4 σ hm hv h0
  rw [f_X3_copyInTurn_L3]
  have bx3 := i_hi x3
  have bx4 := i_hi x4
  refine q_le (fun h_1 => ?_) (fun h_1 => ?_)
  ·
   exact q_some ⟨h0, by first | trivial | omega⟩
  ·
   refine q_bindp (t_X3_byteAt (x1 + x4) h0) (fun r_2 p_3 => ?_)
   have l_4 : (0 : Int32).toInt = 0 := rfl
   refine q_le (fun h_5 => ?_) (fun h_5 => ?_)
   ·
    refine q_binds (t_X3_setByte (x2 + x4) r_2 (0 : Int32) h0) (fun r_6 s_7 R_8 p_9 => ?_)
    refine q_le (fun h_10 => ?_) (fun h_10 => ?_)
    ·
     have l_11 : (1 : Int32).toInt = 1 := rfl
     try have a_12 : (x4 + (1 : Int32)).toInt = x4.toInt + (1 : Int32).toInt := i_add (by omega) (by omega)
     exact ih x1 x2 x3 (x4 + (1 : Int32)) s_7 (by omega) (by omega) R_8
    ·
     exact q_some ⟨R_8, by first | trivial | omega⟩
   ·
    exact q_some ⟨h0, by first | trivial | omega⟩
theorem t_X3_copyInTurn (p0 : Int32) (p1 : Int32) (p2 : Int32) {σ0 σ : zS} (h0 : yR σ0 σ) (hp : p2.toInt < 100000) : yT (f_X3_copyInTurn p0 p1 p2 σ) (fun r τ => yR σ0 τ ∧ (True)) := by
 unfold f_X3_copyInTurn
 have l_1 : (0 : Int32).toInt = 0 := rfl
 refine q_w (t_X3_copyInTurn_L3  zF p0 p1 p2 (0 : Int32) σ (by rw [zF_eq]; omega) (by omega) h0) (fun _ _ h => h)
theorem t_X3_copyAtOnce (p0 : Int32) (p1 : Int32) (p2 : Int32) {σ0 σ : zS} (h0 : yR σ0 σ) (hp : 0 < p2.toInt ∧ p2.toInt < 100000) : yT (f_X3_copyAtOnce p0 p1 p2 σ) (fun r τ => yR σ0 τ ∧ (True)) := by
 unfold f_X3_copyAtOnce
 refine q_bindp (t_X3_isOutside p0 h0) (fun r_1 p_2 => ?_)
 have l_3 : (0 : Int32).toInt = 0 := rfl
 refine q_eq (fun h_4 => ?_) (fun h_4 => ?_)
 ·
  try have a_5 : (p0 + p2).toInt = p0.toInt + p2.toInt := i_add (by omega) (by omega)
  have l_6 : (1 : Int32).toInt = 1 := rfl
  try have a_7 : ((p0 + p2) - (1 : Int32)).toInt = (p0 + p2).toInt - (1 : Int32).toInt := i_sub (by omega) (by omega)
  refine q_bindp (t_X3_isOutside ((p0 + p2) - (1 : Int32)) h0) (fun r_8 p_9 => ?_)
  refine q_eq (fun h_10 => ?_) (fun h_10 => ?_)
  ·
   refine q_bindp (t_X3_isOutside p1 h0) (fun r_11 p_12 => ?_)
   refine q_eq (fun h_13 => ?_) (fun h_13 => ?_)
   ·
    try have a_14 : (p1 + p2).toInt = p1.toInt + p2.toInt := i_add (by omega) (by omega)
    try have a_15 : ((p1 + p2) - (1 : Int32)).toInt = (p1 + p2).toInt - (1 : Int32).toInt := i_sub (by omega) (by omega)
    refine q_bindp (t_X3_isOutside ((p1 + p2) - (1 : Int32)) h0) (fun r_16 p_17 => ?_)
    refine q_eq (fun h_18 => ?_) (fun h_18 => ?_)
    ·
     have g_19 := g_1_1 h0
     refine q_le (fun h_20 => ?_) (fun h_20 => ?_)
     ·
      refine q_cp (by omega) (by omega) (by omega) (by omega) (by omega) ?_
      refine q_zr h0 (fun j => ySt_cpy h0 _ _ _ j) (fun s_21 R_22 F_24 => ?_)
      exact q_some ⟨R_22, by first | trivial | omega⟩
     ·
      exact q_some ⟨h0, by first | trivial | omega⟩
    ·
     exact q_some ⟨h0, by first | trivial | omega⟩
   ·
    exact q_some ⟨h0, by first | trivial | omega⟩
  ·
   exact q_some ⟨h0, by first | trivial | omega⟩
 ·
  exact q_some ⟨h0, by first | trivial | omega⟩
theorem t_X3_wipe_L38 {σ0 : zS} : ∀ (n : Nat) (x1 x2 x3 : Int32) (σ : zS), (x2.toInt - x3.toInt).toNat < n → (0 ≤ x3.toInt ∧ 0 ≤ x1.toInt ∧ x1.toInt + x2.toInt ≤ 2000) → yR σ0 σ → yT (f_X3_wipe_L38 n x1 x2 x3 σ) (fun r τ => yR σ0 τ ∧ (True)) := by
 intro n
 induction n with
 | zero => intro x1 x2 x3 σ hm; omega
 | succ n ih =>
  intro x1 x2 x3 σ hm hv h0
  rw [f_X3_wipe_L38]
  have bx2 := i_hi x2
  have bx3 := i_hi x3
  refine q_le (fun h_1 => ?_) (fun h_1 => ?_)
  ·
   exact q_some ⟨h0, by first | trivial | omega⟩
  ·
   try have a_2 : (x1 + x3).toInt = x1.toInt + x3.toInt := i_add (by omega) (by omega)
   refine q_c (by omega) (by omega) ?_
   have c_7 : (x1 + x3).toNatClampNeg = (x1 + x3).toInt.toNat := rfl
   have l_8 : (0 : Int32).toInt = 0 := rfl
   refine q_zu h0 (ySt_2 (by omega)) (fun s_3 R_4 E_5 F_6 => ?_)
   have l_9 : (1 : Int32).toInt = 1 := rfl
   try have a_10 : (x3 + (1 : Int32)).toInt = x3.toInt + (1 : Int32).toInt := i_add (by omega) (by omega)
   exact ih x1 x2 (x3 + (1 : Int32)) s_3 (by omega) (by omega) R_4
theorem t_X3_wipe (p0 : Int32) (p1 : Int32) {σ0 σ : zS} (h0 : yR σ0 σ) (hp : 0 < p1.toInt ∧ p1.toInt < 100000) : yT (f_X3_wipe p0 p1 σ) (fun r τ => yR σ0 τ ∧ (True)) := by
 unfold f_X3_wipe
 refine q_bindp (t_X3_isOutside p0 h0) (fun r_1 p_2 => ?_)
 have l_3 : (0 : Int32).toInt = 0 := rfl
 refine q_eq (fun h_4 => ?_) (fun h_4 => ?_)
 ·
  try have a_5 : (p0 + p1).toInt = p0.toInt + p1.toInt := i_add (by omega) (by omega)
  have l_6 : (1 : Int32).toInt = 1 := rfl
  try have a_7 : ((p0 + p1) - (1 : Int32)).toInt = (p0 + p1).toInt - (1 : Int32).toInt := i_sub (by omega) (by omega)
  refine q_bindp (t_X3_isOutside ((p0 + p1) - (1 : Int32)) h0) (fun r_8 p_9 => ?_)
  refine q_eq (fun h_10 => ?_) (fun h_10 => ?_)
  ·
   have g_11 := g_1_1 h0
   refine q_le (fun h_12 => ?_) (fun h_12 => ?_)
   ·
    refine q_w (t_X3_wipe_L38  zF p0 p1 (0 : Int32) σ (by rw [zF_eq]; omega) (by omega) h0) (fun _ _ h => h)
   ·
    exact q_some ⟨h0, by first | trivial | omega⟩
  ·
   exact q_some ⟨h0, by first | trivial | omega⟩
 ·
  exact q_some ⟨h0, by first | trivial | omega⟩
theorem t_X3_copyTable (p0 : Int32) (p1 : Int32) (p2 : Int32) {σ0 σ : zS} (h0 : yR σ0 σ) (hp : -100000 < p2.toInt ∧ p2.toInt < 100000) : yT (f_X3_copyTable p0 p1 p2 σ) (fun r τ => yR σ0 τ ∧ (True)) := by
 unfold f_X3_copyTable
 have l_1 : (0 : Int32).toInt = 0 := rfl
 refine q_eq (fun h_2 => ?_) (fun h_2 => ?_)
 ·
  exact q_some ⟨h0, by first | trivial | omega⟩
 ·
  refine q_eq (fun h_3 => ?_) (fun h_3 => ?_)
  ·
   have b_4 := i_lo p2
   try have a_5 : ((0 : Int32) - p2).toInt = (0 : Int32).toInt - p2.toInt := i_sub (by omega) (by omega)
   have a_6 := i_itee (0 : Int32) p2 p2 ((0 : Int32) - p2)
   refine q_binds (t_X3_wipe p0 (if (0 : Int32) ≤ p2 then p2 else ((0 : Int32) - p2)) h0 (by omega)) (fun r_7 s_8 R_9 p_10 => ?_)
   exact q_some ⟨R_9, by first | trivial | omega⟩
  ·
   refine q_le (fun h_11 => ?_) (fun h_11 => ?_)
   ·
    try have a_12 : (-p2).toInt = - p2.toInt := i_neg (by omega)
    refine q_binds (t_X3_copyInTurn p0 p1 (-p2) h0 (by omega)) (fun r_13 s_14 R_15 p_16 => ?_)
    exact q_some ⟨R_15, by first | trivial | omega⟩
   ·
    refine q_binds (t_X3_copyAtOnce p0 p1 p2 h0 (by omega)) (fun r_17 s_18 R_19 p_20 => ?_)
    exact q_some ⟨R_19, by first | trivial | omega⟩
theorem t_X3_find_L28 {σ0 : zS} : ∀ (n : Nat) (x1 x2 x3 x4 x5 x6 x7 : Int32) (σ : zS), (x6.toInt - x7.toInt).toNat < n → (0 ≤ x7.toInt) → yR σ0 σ → yT (f_X3_find_L28 n x1 x2 x3 x4 x5 x6 x7 σ) (fun r τ => τ = σ ∧ (True)) := by
 intro n
 induction n with
 | zero => intro x1 x2 x3 x4 x5 x6 x7 σ hm; omega
 | succ n ih =>
  intro x1 x2 x3 x4 x5 x6 x7 σ hm hv h0
  rw [f_X3_find_L28]
  have bx6 := i_hi x6
  have bx7 := i_hi x7
  refine q_le (fun h_1 => ?_) (fun h_1 => ?_)
  ·
   exact q_some ⟨rfl, by first | trivial | omega⟩
  ·
   try have a_2 : (x2 + (x7 * x5)).toInt = x2.toInt + (x7 * x5).toInt := i_add (by omega) (by omega)
   refine q_lv (fun y_4 v_3 => ?_)
   have l_5 : (127 : Int32).toInt = 127 := rfl
   refine q_le (fun h_6 => ?_) (fun h_6 => ?_)
   ·
    refine q_bindp (t_X3_byteAt y_4 h0) (fun r_7 p_8 => ?_)
    have l_9 : (0 : Int32).toInt = 0 := rfl
    refine q_le (fun h_10 => ?_) (fun h_10 => ?_)
    ·
     refine q_eq (fun h_11 => ?_) (fun h_11 => ?_)
     ·
      exact q_some ⟨rfl, by first | trivial | omega⟩
     ·
      have l_12 : (1 : Int32).toInt = 1 := rfl
      try have a_13 : (x7 + (1 : Int32)).toInt = x7.toInt + (1 : Int32).toInt := i_add (by omega) (by omega)
      exact ih x1 x2 x3 x4 x5 x6 (x7 + (1 : Int32)) σ (by omega) (by omega) h0
    ·
     exact q_some ⟨rfl, by first | trivial | omega⟩
   ·
    refine q_bindp (t_X3_wordAt y_4 h0) (fun r_14 p_15 => ?_)
    have l_16 : (0 : Int32).toInt = 0 := rfl
    refine q_le (fun h_17 => ?_) (fun h_17 => ?_)
    ·
     refine q_eq (fun h_18 => ?_) (fun h_18 => ?_)
     ·
      exact q_some ⟨rfl, by first | trivial | omega⟩
     ·
      have l_19 : (1 : Int32).toInt = 1 := rfl
      try have a_20 : (x7 + (1 : Int32)).toInt = x7.toInt + (1 : Int32).toInt := i_add (by omega) (by omega)
      exact ih x1 x2 x3 x4 x5 x6 (x7 + (1 : Int32)) σ (by omega) (by omega) h0
    ·
     exact q_some ⟨rfl, by first | trivial | omega⟩
theorem t_X3_find (p0 : Int32) (p1 : Int32) (p2 : Int32) (p3 : Int32) {σ0 σ : zS} (h0 : yR σ0 σ) : yT (f_X3_find p0 p1 p2 p3 σ) (fun r τ => τ = σ ∧ (True)) := by
 unfold f_X3_find
 have l_1 : (127 : Int32).toInt = 127 := rfl
 have a_2 := i_127 p3
 refine q_lv (fun y_4 v_3 => ?_)
 have l_5 : (0 : Int32).toInt = 0 := rfl
 refine q_eq (fun h_6 => ?_) (fun h_6 => ?_)
 ·
  have l_7 : (1 : Int32).toInt = 1 := rfl
  have a_8 := i_itel (1 : Int32) p2 (1 : Int32) p2
  refine q_lv (fun y_10 v_9 => ?_)
  refine q_w (t_X3_find_L28  zF p0 p1 p2 p3 y_4 y_10 (0 : Int32) σ (by rw [zF_eq]; omega) (by omega) h0) (fun _ _ h => h)
 ·
  have l_11 : (2001 : Int32).toInt = 2001 := rfl
  have a_12 := i_itel (2001 : Int32) p2 (2001 : Int32) p2
  refine q_lv (fun y_14 v_13 => ?_)
  refine q_w (t_X3_find_L28  zF p0 p1 p2 p3 y_4 y_14 (0 : Int32) σ (by rw [zF_eq]; omega) (by omega) h0) (fun _ _ h => h)
theorem t_X4_characterAt (p0 : Int32) {σ0 σ : zS} (h0 : yR σ0 σ) : yT (f_X4_characterAt p0 σ) (fun r τ => τ = σ ∧ (True)) := by
 unfold f_X4_characterAt
 have l_1 : (0 : Int32).toInt = 0 := rfl
 refine q_lt (fun h_2 => ?_) (fun h_2 => ?_)
 ·
  exact q_some ⟨rfl, by first | trivial | omega⟩
 ·
  have g_3 := g_41_1 h0
  refine q_le (fun h_4 => ?_) (fun h_4 => ?_)
  ·
   exact q_some ⟨rfl, by first | trivial | omega⟩
  ·
   refine q_c (by omega) (by omega) ?_
   exact q_some ⟨rfl, by first | trivial | omega⟩
theorem t_X4_print (p0 : Int32) {σ0 σ : zS} (h0 : yR σ0 σ) : yT (f_X4_print p0 σ) (fun r τ => yR σ0 τ ∧ (True)) := by
 unfold f_X4_print
 have g_1 := g_41_1 h0
 have l_2 : (120 : Int32).toInt = 120 := rfl
 refine q_lt (fun h_3 => ?_) (fun h_3 => ?_)
 ·
  refine q_c (by omega) (by omega) ?_
  have c_8 : (σ 41 1).toNatClampNeg = (σ 41 1).toInt.toNat := rfl
  refine q_zu h0 (ySt_free (by unfold yKp; omega) (by omega)) (fun s_4 R_5 E_6 F_7 => ?_)
  have g_13 := g_41_1 R_5
  have e_14 : (s_4 41 1).toInt = (σ 41 1).toInt := congrArg Int32.toInt (F_7 _ _ (by omega))
  have l_15 : (1 : Int32).toInt = 1 := rfl
  try have a_16 : ((s_4 41 1) + (1 : Int32)).toInt = (s_4 41 1).toInt + (1 : Int32).toInt := i_add (by omega) (by omega)
  refine q_zu R_5 (ySt_41_1 (by omega)) (fun s_9 R_10 E_11 F_12 => ?_)
  exact q_some ⟨R_10, by first | trivial | omega⟩
 ·
  exact q_some ⟨h0, by first | trivial | omega⟩
theorem t_X4_printNumber_L25 {σ0 : zS} : ∀ (n : Nat) (x1 x2 x3 x4 : Int32) (σ : zS), x4.toInt.toNat < n → (0 ≤ x4.toInt) → yR σ0 σ → yT (f_X4_printNumber_L25 n x1 x2 x3 x4 σ) (fun r τ => yR σ0 τ ∧ (True)) := by
 intro n
 induction n with
 | zero => intro x1 x2 x3 x4 σ hm; omega
 | succ n ih =>
  intro x1 x2 x3 x4 σ hm hv h0
  rw [f_X4_printNumber_L25]
  have bx4 := i_hi x4
  have l_1 : (0 : Int32).toInt = 0 := rfl
  refine q_le (fun h_2 => ?_) (fun h_2 => ?_)
  ·
   exact q_some ⟨h0, by first | trivial | omega⟩
  ·
   refine q_lt (fun h_3 => ?_) (fun h_3 => ?_)
   ·
    exact q_some ⟨h0, by first | trivial | omega⟩
   ·
    refine q_le (fun h_4 => ?_) (fun h_4 => ?_)
    ·
     refine q_d (by omega) ?_
     have l_5 : (10 : Int32).toInt = 10 := rfl
     refine q_d (by omega) ?_
     refine q_binds (t_X4_print ((48 : Int32) + ((x3 / x4) - (((x3 / x4) / (10 : Int32)) * (10 : Int32)))) h0) (fun r_6 s_7 R_8 p_9 => ?_)
     refine q_d (by omega) ?_
     try have a_10 := i_div (a := x4) (b := (10 : Int32)) (m := 10) rfl (by omega) (by omega)
     refine q_lv (fun y_12 v_11 => ?_)
     exact ih x1 r_6 x3 y_12 s_7 (by omega) (by omega) R_8
    ·
     have l_13 : (1 : Int32).toInt = 1 := rfl
     refine q_eq (fun h_14 => ?_) (fun h_14 => ?_)
     ·
      refine q_d (by omega) ?_
      have l_15 : (10 : Int32).toInt = 10 := rfl
      refine q_d (by omega) ?_
      refine q_binds (t_X4_print ((48 : Int32) + ((x3 / x4) - (((x3 / x4) / (10 : Int32)) * (10 : Int32)))) h0) (fun r_16 s_17 R_18 p_19 => ?_)
      refine q_d (by omega) ?_
      try have a_20 := i_div (a := x4) (b := (10 : Int32)) (m := 10) rfl (by omega) (by omega)
      refine q_lv (fun y_22 v_21 => ?_)
      exact ih x1 r_16 x3 y_22 s_17 (by omega) (by omega) R_18
     ·
      have l_23 : (10 : Int32).toInt = 10 := rfl
      refine q_d (by omega) ?_
      try have a_24 := i_div (a := x4) (b := (10 : Int32)) (m := 10) rfl (by omega) (by omega)
      refine q_lv (fun y_26 v_25 => ?_)
      exact ih x1 x2 x3 y_26 σ (by omega) (by omega) h0
theorem t_X4_printNumber (p0 : Int32) {σ0 σ : zS} (h0 : yR σ0 σ) : yT (f_X4_printNumber p0 σ) (fun r τ => yR σ0 τ ∧ (True)) := by
 unfold f_X4_printNumber
 have l_1 : (0 : Int32).toInt = 0 := rfl
 refine q_le (fun h_2 => ?_) (fun h_2 => ?_)
 ·
  have b_3 := i_lo p0
  try have a_4 : ((0 : Int32) - p0).toInt = (0 : Int32).toInt - p0.toInt := i_sub (by omega) (by omega)
  have a_5 := i_itee (0 : Int32) p0 p0 ((0 : Int32) - p0)
  refine q_lv (fun y_7 v_6 => ?_)
  have l_8 : (1 : Int32).toInt = 1 := rfl
  have l_9 : (10000 : Int32).toInt = 10000 := rfl
  refine q_w (t_X4_printNumber_L25  zF p0 (1 : Int32) y_7 (10000 : Int32) σ (by rw [zF_eq]; omega) (by omega) h0) (fun _ _ h => h)
 ·
  refine q_binds (t_X4_print (45 : Int32) h0) (fun r_10 s_11 R_12 p_13 => ?_)
  have b_14 := i_lo p0
  try have a_15 : ((0 : Int32) - p0).toInt = (0 : Int32).toInt - p0.toInt := i_sub (by omega) (by omega)
  have a_16 := i_itee (0 : Int32) p0 p0 ((0 : Int32) - p0)
  refine q_lv (fun y_18 v_17 => ?_)
  have l_19 : (10000 : Int32).toInt = 10000 := rfl
  refine q_w (t_X4_printNumber_L25  zF p0 r_10 y_18 (10000 : Int32) s_11 (by rw [zF_eq]; omega) (by omega) R_12) (fun _ _ h => h)
theorem t_X5_opAt (p0 : Int32) {σ0 σ : zS} (h0 : yR σ0 σ) : yT (f_X5_opAt p0 σ) (fun r τ => τ = σ ∧ (r.toInt = -1 ∨ (0 ≤ p0.toInt ∧ p0.toInt < 100))) := by
 unfold f_X5_opAt
 have l_1 : (0 : Int32).toInt = 0 := rfl
 refine q_lt (fun h_2 => ?_) (fun h_2 => ?_)
 ·
  have l_3 : (-1 : Int32).toInt = -1 := rfl
  exact q_some ⟨rfl, by first | trivial | omega⟩
 ·
  have g_4 := g_5_3 h0
  refine q_le (fun h_5 => ?_) (fun h_5 => ?_)
  ·
   have l_6 : (-1 : Int32).toInt = -1 := rfl
   exact q_some ⟨rfl, by first | trivial | omega⟩
  ·
   refine q_c (by omega) (by omega) ?_
   have c_7 : p0.toNatClampNeg = p0.toInt.toNat := rfl
   exact q_some ⟨rfl, by first | trivial | omega⟩
theorem t_X7_isWithin (p0 : Int32) (p1 : Int32) {σ0 σ : zS} (h0 : yR σ0 σ) : yT (f_X7_isWithin p0 p1 σ) (fun r τ => τ = σ ∧ (r.toInt = 0 ∨ (r.toInt = 1 ∧ 0 ≤ p0.toInt ∧ p0.toInt ≤ p1.toInt))) := by
 unfold f_X7_isWithin
 have l_1 : (0 : Int32).toInt = 0 := rfl
 refine q_lt (fun h_2 => ?_) (fun h_2 => ?_)
 ·
  exact q_some ⟨rfl, by first | trivial | omega⟩
 ·
  refine q_lt (fun h_3 => ?_) (fun h_3 => ?_)
  ·
   exact q_some ⟨rfl, by first | trivial | omega⟩
  ·
   have l_4 : (1 : Int32).toInt = 1 := rfl
   exact q_some ⟨rfl, by first | trivial | omega⟩
theorem t_X5_hasRoutine (p0 : Int32) {σ0 σ : zS} (h0 : yR σ0 σ) : yT (f_X5_hasRoutine p0 σ) (fun r τ => τ = σ ∧ (r.toInt = 0 ∨ (0 ≤ p0.toInt ∧ p0.toInt < 8))) := by
 unfold f_X5_hasRoutine
 have l_1 : (7 : Int32).toInt = 7 := rfl
 refine q_bindp (t_X7_isWithin p0 (7 : Int32) h0) (fun r_2 p_3 => ?_)
 have l_4 : (0 : Int32).toInt = 0 := rfl
 refine q_eq (fun h_5 => ?_) (fun h_5 => ?_)
 ·
  exact q_some ⟨rfl, by first | trivial | omega⟩
 ·
  refine q_c (by omega) (by omega) ?_
  have c_6 : p0.toNatClampNeg = p0.toInt.toNat := rfl
  refine q_eq (fun h_7 => ?_) (fun h_7 => ?_)
  ·
   exact q_some ⟨rfl, by first | trivial | omega⟩
  ·
   have l_8 : (1 : Int32).toInt = 1 := rfl
   exact q_some ⟨rfl, by first | trivial | omega⟩
