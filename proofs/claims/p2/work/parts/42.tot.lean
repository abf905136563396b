theorem t_X6_enter (p0 : Int32) (p1 : Int32) (p2 : Int32) (p3 : Int32) {σ0 σ : zS} (h0 : yR σ0 σ) : yT (f_X6_enter p0 p1 p2 p3 σ) (fun r τ => yR σ0 τ ∧ (True)) := by
 unfold f_X6_enter
 refine q_bindp (t_X5_hasRoutine p0 h0) (fun r_1 p_2 => ?_)
 have l_3 : (0 : Int32).toInt = 0 := rfl
 refine q_eq (fun h_4 => ?_) (fun h_4 => ?_)
 ·
  exact q_some ⟨h0, by first | trivial | omega⟩
 ·
  refine q_binds (t_X2_enter  h0) (fun r_5 s_6 R_7 p_8 => ?_)
  refine q_ops p_8 (fun _ => ?_) (fun i_9 hi_10 => ?_)
  ·
   exact q_some ⟨R_7, by first | trivial | omega⟩
  ·
   refine q_zu R_7 (ySt_f (by omega) ⟨fun q => absurd q (by decide), fun _ => by omega, fun q => absurd q (by decide)⟩) (fun s_11 R_12 E_13 F_14 => ?_)
   refine q_c (by omega) (by omega) ?_
   refine q_zu R_12 (ySt_f (by omega) ⟨fun q => absurd q (by decide), fun q => absurd q (by decide), fun q => absurd q (by decide)⟩) (fun s_15 R_16 E_17 F_18 => ?_)
   refine q_c (by omega) (by omega) ?_
   have c_23 : p0.toNatClampNeg = p0.toInt.toNat := rfl
   have g_24 := g_11 R_16 p0.toNatClampNeg
   have e_25 : (s_15 11 p0.toNatClampNeg).toInt = (s_11 11 p0.toNatClampNeg).toInt := congrArg Int32.toInt (F_18 _ _ (by omega))
   have g_26 := g_11 R_12 p0.toNatClampNeg
   have e_27 : (s_11 11 p0.toNatClampNeg).toInt = (s_6 11 p0.toNatClampNeg).toInt := congrArg Int32.toInt (F_14 _ _ (by omega))
   have g_28 := g_11 R_7 p0.toNatClampNeg
   refine q_zu R_16 (ySt_f (by omega) ⟨fun _ => by omega, fun q => absurd q (by decide), fun q => absurd q (by decide)⟩) (fun s_19 R_20 E_21 F_22 => ?_)
   refine q_zu R_20 (ySt_f (by omega) ⟨fun q => absurd q (by decide), fun q => absurd q (by decide), fun q => absurd q (by decide)⟩) (fun s_29 R_30 E_31 F_32 => ?_)
   refine q_binds (t_X1_setLocal i_9 (by omega) (1 : Int32) p1 R_30) (fun r_33 s_34 R_35 p_36 => ?_)
   refine q_binds (t_X1_setLocal i_9 (by omega) (2 : Int32) p2 R_35) (fun r_37 s_38 R_39 p_40 => ?_)
   exact q_some ⟨R_39, by first | trivial | omega⟩
theorem t_X6_begin (p0 : Int32) (p1 : Int32) (p2 : Int32) {σ0 σ : zS} (h0 : yR σ0 σ) : yT (f_X6_begin p0 p1 p2 σ) (fun r τ => yR σ0 τ ∧ (True)) := by
 unfold f_X6_begin
 refine q_binds (t_X2_begin  h0) (fun r_1 s_2 R_3 p_4 => ?_)
 have l_9 : (0 : Int32).toInt = 0 := rfl
 refine q_zu R_3 (ySt_41_1 (by omega)) (fun s_5 R_6 E_7 F_8 => ?_)
 refine q_zr R_6 (fun j => ySt_free (by unfold yKp; omega) (by omega)) (fun s_10 R_11 F_13 => ?_)
 refine q_zu R_11 (ySt_free (by unfold yKp; omega) (by omega)) (fun s_14 R_15 E_16 F_17 => ?_)
 refine q_zu R_15 (ySt_free (by unfold yKp; omega) (by omega)) (fun s_18 R_19 E_20 F_21 => ?_)
 refine q_zu R_19 (ySt_free (by unfold yKp; omega) (by omega)) (fun s_22 R_23 E_24 F_25 => ?_)
 refine q_zu R_23 (ySt_free (by unfold yKp; omega) (by omega)) (fun s_26 R_27 E_28 F_29 => ?_)
 refine q_zu R_27 (ySt_free (by unfold yKp; omega) (by omega)) (fun s_30 R_31 E_32 F_33 => ?_)
 refine q_zu R_31 (ySt_free (by unfold yKp; omega) (by omega)) (fun s_34 R_35 E_36 F_37 => ?_)
 refine q_zu R_35 (ySt_free (by unfold yKp; omega) (by omega)) (fun s_38 R_39 E_40 F_41 => ?_)
 refine q_binds (t_X6_enter p0 p1 p2 (-1 : Int32) R_39) (fun r_42 s_43 R_44 p_45 => ?_)
 exact q_some ⟨R_44, by first | trivial | omega⟩
theorem t_X6_isGoing  {σ0 σ : zS} (h0 : yR σ0 σ) : yT (f_X6_isGoing  σ) (fun r τ => τ = σ ∧ (True)) := by
 unfold f_X6_isGoing
 have l_1 : (-1 : Int32).toInt = -1 := rfl
 refine q_eq (fun h_2 => ?_) (fun h_2 => ?_)
 ·
  exact q_some ⟨rfl, by first | trivial | omega⟩
 ·
  exact q_some ⟨rfl, by first | trivial | omega⟩
theorem t_X6_leaveDownTo_L8 {σ0 : zS} : ∀ (n : Nat) (x1 x2 : Int32) (σ : zS), x2.toInt.toNat < n → ((0 : Nat) = 0) → yR σ0 σ → yT (f_X6_leaveDownTo_L8 n x1 x2 σ) (fun r τ => yR σ0 τ ∧ (True)) := by
 intro n
 induction n with
 | zero => intro x1 x2 σ hm; omega
 | succ n ih =>
  intro x1 x2 σ hm hv h0
  rw [f_X6_leaveDownTo_L8]
  have bx2 := i_hi x2
  refine q_le (fun h_1 => ?_) (fun h_1 => ?_)
  ·
   exact q_some ⟨h0, by first | trivial | omega⟩
  ·
   have l_2 : (0 : Int32).toInt = 0 := rfl
   refine q_le (fun h_3 => ?_) (fun h_3 => ?_)
   ·
    exact q_some ⟨h0, by first | trivial | omega⟩
   ·
    refine q_bindr (t_X2_top  h0) (fun i_4 hi_5 => ?_)
    refine q_op hi_5 ?_
    have g_6 := g_f h0 i_4 (by omega)
    refine q_c (by omega) (by omega) ?_
    refine q_c (by omega) (by omega) ?_
    have c_11 : (σ (16 + (2 * i_4)) 2).toNatClampNeg = (σ (16 + (2 * i_4)) 2).toInt.toNat := rfl
    refine q_zu h0 (ySt_free (by unfold yKp; omega) (by omega)) (fun s_7 R_8 E_9 F_10 => ?_)
    refine q_binds (t_X2_leave  R_8) (fun r_12 s_13 R_14 p_15 => ?_)
    have l_16 : (-1 : Int32).toInt = -1 := rfl
    try have a_17 : (x2 + (-1 : Int32)).toInt = x2.toInt + (-1 : Int32).toInt := i_add (by omega) (by omega)
    exact ih x1 (x2 + (-1 : Int32)) s_13 (by generalize (x2 + (-1 : Int32)).toInt = q at *; omega) (by generalize (x2 + (-1 : Int32)).toInt = q at *; omega) R_14
theorem t_X6_leaveDownTo (p0 : Int32) {σ0 σ : zS} (h0 : yR σ0 σ) : yT (f_X6_leaveDownTo p0 σ) (fun r τ => yR σ0 τ ∧ (True)) := by
 unfold f_X6_leaveDownTo
 have g_1 := g_14_3 h0
 refine q_w (t_X6_leaveDownTo_L8  zF p0 (σ 14 3) σ (by rw [zF_eq]; omega) (by omega) h0) (fun _ _ h => h)
theorem t_X6_finish  {σ0 σ : zS} (h0 : yR σ0 σ) : yT (f_X6_finish  σ) (fun r τ => yR σ0 τ ∧ (True)) := by
 unfold f_X6_finish
 have l_1 : (-1 : Int32).toInt = -1 := rfl
 refine q_eq (fun h_2 => ?_) (fun h_2 => ?_)
 ·
  refine q_zu h0 (ySt_free (by unfold yKp; omega) (by omega)) (fun s_3 R_4 E_5 F_6 => ?_)
  refine q_binds (t_X6_leaveDownTo (0 : Int32) R_4) (fun r_7 s_8 R_9 p_10 => ?_)
  exact q_some ⟨R_9, by first | trivial | omega⟩
 ·
  refine q_binds (t_X6_leaveDownTo (0 : Int32) h0) (fun r_11 s_12 R_13 p_14 => ?_)
  exact q_some ⟨R_13, by first | trivial | omega⟩
theorem t_X6_goOnIf (p0 : Int32) (p1 : Int32) {σ0 σ : zS} (h0 : yR σ0 σ) : yT (f_X6_goOnIf p0 p1 σ) (fun r τ => yR σ0 τ ∧ (True)) := by
 unfold f_X6_goOnIf
 have l_1 : (0 : Int32).toInt = 0 := rfl
 refine q_eq (fun h_2 => ?_) (fun h_2 => ?_)
 ·
  exact q_some ⟨h0, by first | trivial | omega⟩
 ·
  refine q_bindr (t_X2_top  h0) (fun i_3 hi_4 => ?_)
  refine q_op hi_4 ?_
  refine q_zu h0 (ySt_f (by omega) ⟨fun q => absurd q (by decide), fun q => absurd q (by decide), fun q => absurd q (by decide)⟩) (fun s_5 R_6 E_7 F_8 => ?_)
  exact q_some ⟨R_6, by first | trivial | omega⟩
theorem t_X7_number (p0 : Int32) {σ0 σ : zS} (h0 : yR σ0 σ) : yT (f_X7_number p0 σ) (fun r τ => τ = σ ∧ (-32768 ≤ r.toInt ∧ r.toInt < 32768)) := by
 unfold f_X7_number
 have a_1 := i_short p0
 exact q_some ⟨rfl, by first | trivial | omega⟩
theorem t_X6_placeOfGlobal (p0 : Int32) {σ0 σ : zS} (h0 : yR σ0 σ) : yT (f_X6_placeOfGlobal p0 σ) (fun r τ => τ = σ ∧ (True)) := by
 unfold f_X6_placeOfGlobal
 exact q_some ⟨rfl, by first | trivial | omega⟩
theorem t_X6_ask (p0 : Int32) {σ0 σ : zS} (h0 : yR σ0 σ) : yT (f_X6_ask p0 σ) (fun r τ => yR σ0 τ ∧ (True)) := by
 unfold f_X6_ask
 have l_1 : (0 : Int32).toInt = 0 := rfl
 refine q_eq (fun h_2 => ?_) (fun h_2 => ?_)
 ·
  refine q_binds (t_X2_pop  h0) (fun r_3 s_4 R_5 p_6 => ?_)
  exact q_some ⟨R_5, by first | trivial | omega⟩
 ·
  have l_7 : (16 : Int32).toInt = 16 := rfl
  refine q_le (fun h_8 => ?_) (fun h_8 => ?_)
  ·
   refine q_bindp (t_X6_placeOfGlobal p0 h0) (fun r_9 p_10 => ?_)
   refine q_bindp (t_X3_wordAt r_9 h0) (fun r_11 p_12 => ?_)
   exact q_some ⟨h0, by first | trivial | omega⟩
  ·
   refine q_bindr (t_X2_top  h0) (fun i_13 hi_14 => ?_)
   refine q_op hi_14 ?_
   refine q_bindp (t_X1_local i_13 (by omega) p0 h0) (fun r_15 p_16 => ?_)
   exact q_some ⟨h0, by first | trivial | omega⟩
theorem t_X7_word (p0 : Int32) {σ0 σ : zS} (h0 : yR σ0 σ) : yT (f_X7_word p0 σ) (fun r τ => τ = σ ∧ (0 ≤ r.toInt ∧ r.toInt < 65536)) := by
 unfold f_X7_word
 have l_1 : (65535 : Int32).toInt = 65535 := rfl
 have a_2 := i_65535 p0
 exact q_some ⟨rfl, by first | trivial | omega⟩
theorem t_X6_tell (p0 : Int32) (p1 : Int32) {σ0 σ : zS} (h0 : yR σ0 σ) : yT (f_X6_tell p0 p1 σ) (fun r τ => yR σ0 τ ∧ (True)) := by
 unfold f_X6_tell
 refine q_zu h0 (ySt_free (by unfold yKp; omega) (by omega)) (fun s_1 R_2 E_3 F_4 => ?_)
 exact q_some ⟨R_2, by first | trivial | omega⟩
theorem t_X6_change (p0 : Int32) (p1 : Int32) {σ0 σ : zS} (h0 : yR σ0 σ) : yT (f_X6_change p0 p1 σ) (fun r τ => yR σ0 τ ∧ (True)) := by
 unfold f_X6_change
 refine q_binds (t_X6_ask p0 h0) (fun r_1 s_2 R_3 p_4 => ?_)
 have l_5 : (0 : Int32).toInt = 0 := rfl
 refine q_le (fun h_6 => ?_) (fun h_6 => ?_)
 ·
  refine q_bindp (t_X7_word (r_1 + p1) R_3) (fun r_7 p_8 => ?_)
  refine q_binds (t_X6_tell p0 r_7 R_3) (fun r_9 s_10 R_11 p_12 => ?_)
  exact q_some ⟨R_11, by first | trivial | omega⟩
 ·
  exact q_some ⟨R_3, by first | trivial | omega⟩
theorem t_X6_end (p0 : Int32) {σ0 σ : zS} (h0 : yR σ0 σ) : yT (f_X6_end p0 σ) (fun r τ => yR σ0 τ ∧ (True)) := by
 unfold f_X6_end
 refine q_zu h0 (ySt_free (by unfold yKp; omega) (by omega)) (fun s_1 R_2 E_3 F_4 => ?_)
 refine q_binds (t_X6_tell (-1 : Int32) (1 : Int32) R_2) (fun r_5 s_6 R_7 p_8 => ?_)
 exact q_some ⟨R_7, by first | trivial | omega⟩
theorem t_X6_giveBack (p0 : Int32) {σ0 σ : zS} (h0 : yR σ0 σ) : yT (f_X6_giveBack p0 σ) (fun r τ => yR σ0 τ ∧ (True)) := by
 unfold f_X6_giveBack
 refine q_bindr (t_X2_top  h0) (fun i_1 hi_2 => ?_)
 refine q_op hi_2 ?_
 refine q_lv (fun y_4 v_3 => ?_)
 refine q_binds (t_X6_leaveDownTo ((σ 14 3) - (1 : Int32)) h0) (fun r_5 s_6 R_7 p_8 => ?_)
 have g_9 := g_14_3 R_7
 have l_10 : (0 : Int32).toInt = 0 := rfl
 refine q_eq (fun h_11 => ?_) (fun h_11 => ?_)
 ·
  refine q_zu R_7 (ySt_free (by unfold yKp; omega) (by omega)) (fun s_12 R_13 E_14 F_15 => ?_)
  refine q_binds (t_X6_end (0 : Int32) R_13) (fun r_16 s_17 R_18 p_19 => ?_)
  exact q_some ⟨R_18, by first | trivial | omega⟩
 ·
  refine q_binds (t_X6_tell y_4 p0 R_7) (fun r_20 s_21 R_22 p_23 => ?_)
  exact q_some ⟨R_22, by first | trivial | omega⟩
theorem t_X6_throwTo (p0 : Int32) (p1 : Int32) {σ0 σ : zS} (h0 : yR σ0 σ) : yT (f_X6_throwTo p0 p1 σ) (fun r τ => yR σ0 τ ∧ (True)) := by
 unfold f_X6_throwTo
 have g_1 := g_14_3 h0
 refine q_lt (fun h_2 => ?_) (fun h_2 => ?_)
 ·
  have l_3 : (12 : Int32).toInt = 12 := rfl
  refine q_lt (fun h_4 => ?_) (fun h_4 => ?_)
  ·
   refine q_zu h0 (ySt_free (by unfold yKp; omega) (by omega)) (fun s_5 R_6 E_7 F_8 => ?_)
   refine q_zu R_6 (ySt_free (by unfold yKp; omega) (by omega)) (fun s_9 R_10 E_11 F_12 => ?_)
   refine q_binds (t_X6_leaveDownTo (p0 + (1 : Int32)) R_10) (fun r_13 s_14 R_15 p_16 => ?_)
   refine q_binds (t_X6_giveBack p1 R_15) (fun r_17 s_18 R_19 p_20 => ?_)
   exact q_some ⟨R_19, by first | trivial | omega⟩
  ·
   refine q_binds (t_X6_end (3 : Int32) h0) (fun r_21 s_22 R_23 p_24 => ?_)
   exact q_some ⟨R_23, by first | trivial | omega⟩
 ·
  exact q_some ⟨h0, by first | trivial | omega⟩
theorem t_X6_printRows_L35 {σ0 : zS} (x1 x2 x3 x5 : Int32) {K : Int32 → Int32 → Int32 → Int32 → Int32 → Int32 → zS → Option (Int32 × zS)} (kK : ∀ (y4 y6 : Int32) (σ : zS), yR σ0 σ → yT (K x1 x2 x3 y4 x5 y6 σ) (fun _ τ => yR σ0 τ ∧ True)) : ∀ (n : Nat) (x4 x6 : Int32) (σ : zS), (x2.toInt - x6.toInt).toNat < n → 0 ≤ x6.toInt → yR σ0 σ → yT (f_X6_printRows_L35 n x1 x2 x3 x4 x5 x6 σ K) (fun _ τ => yR σ0 τ ∧ True) := by
  intro n
  induction n with
  | zero => intro x4 x6 σ hm; omega
  | succ n ih =>
    intro x4 x6 σ hm hi R0
    rw [f_X6_printRows_L35]
    refine q_le (fun h => ?_) (fun h => ?_)
    · exact kK _ _ _ R0
    · have e : (x6 + (1 : Int32)).toInt = x6.toInt + 1 := i_1 (by have := i_hi x2; omega)
      refine q_bindp (t_X3_byteAt _ R0) (fun v1 _ => ?_)
      refine q_le (fun h1 => ?_) (fun h1 => ?_)
      · refine q_binds (t_X4_print _ R0) (fun v2 s2 R2 _ => ?_)
        refine q_le (fun h2 => ?_) (fun h2 => ?_)
        · exact ih _ _ _ (by omega) (by omega) R2
        · exact q_some ⟨R2, trivial⟩
      · refine q_le (fun h2 => ?_) (fun h2 => ?_)
        · exact ih _ _ _ (by omega) (by omega) R0
        · exact q_some ⟨R0, trivial⟩
theorem t_X6_printRows_L6 {σ0 : zS} (x1 x2 x3 : Int32) (hx2 : x2.toInt < 100000) : ∀ (n : Nat) (x4 x5 : Int32) (σ : zS), (x3.toInt - x5.toInt).toNat < n → 0 ≤ x5.toInt → yR σ0 σ → yT (f_X6_printRows_L6 n x1 x2 x3 x4 x5 σ) (fun _ τ => yR σ0 τ ∧ True) := by
  intro n
  induction n with
  | zero => intro x4 x5 σ hm; omega
  | succ n ih =>
    intro x4 x5 σ hm hi R0
    rw [f_X6_printRows_L6]
    refine q_le (fun h => ?_) (fun h => ?_)
    · exact q_some ⟨R0, trivial⟩
    · have e : (x5 + (1 : Int32)).toInt = x5.toInt + 1 := i_1 (by have := i_hi x3; omega)
      have k0 : ∀ (y4 y6 : Int32) (σ : zS), yR σ0 σ → yT (f_X6_printRows_L6 n x1 x2 x3 y4 (x5 + (1 : Int32)) σ) (fun _ τ => yR σ0 τ ∧ True) := fun y4 y6 s R => ih _ _ _ (by omega) (by omega) R
      have m0 : (x2.toInt - (0 : Int32).toInt).toNat < zF := by rw [zF_eq, t_0]; omega
      refine q_le (fun h1 => ?_) (fun h1 => ?_)
      · exact t_X6_printRows_L35 x1 x2 x3 x5 (K := fun v3 v4 v5 v6 v7 _ s3 => f_X6_printRows_L6 n v3 v4 v5 v6 (v7 + (1 : Int32)) s3) k0 zF _ _ _ m0 (by rw [t_0]; omega) R0
      · refine q_binds (t_X4_print _ R0) (fun v2 s2 R2 _ => ?_)
        refine q_le (fun h2 => ?_) (fun h2 => ?_)
        · exact t_X6_printRows_L35 x1 x2 x3 x5 (K := fun v3 v4 v5 v6 v7 _ s3 => f_X6_printRows_L6 n v3 v4 v5 v6 (v7 + (1 : Int32)) s3) k0 zF _ _ _ m0 (by rw [t_0]; omega) R2
        · exact q_some ⟨R2, trivial⟩
theorem t_X6_printRows (p0 p1 p2 : Int32) {σ0 σ : zS} (h0 : yR σ0 σ) (hp : p1.toInt < 100000 ∧ p2.toInt < 100000 - 1) : yT (f_X6_printRows p0 p1 p2 σ) (fun _ τ => yR σ0 τ ∧ True) :=
  t_X6_printRows_L6 p0 p1 p2 hp.1 zF _ _ _ (by rw [zF_eq, t_0]; omega) (by rw [t_0]; omega) h0
theorem t_X7_shiftNumber (p0 : Int32) (p1 : Int32) {σ0 σ : zS} (h0 : yR σ0 σ) : yT (f_X7_shiftNumber p0 p1 σ) (fun r τ => τ = σ ∧ (True)) := by
 unfold f_X7_shiftNumber
 have l_1 : (0 : Int32).toInt = 0 := rfl
 refine q_le (fun h_2 => ?_) (fun h_2 => ?_)
 ·
  refine q_bindp (t_X7_word (p0 >>> ((if (15 : Int32) < (-p1) then (15 : Int32) else (-p1)) &&& (31 : Int32))) h0) (fun r_3 p_4 => ?_)
  exact q_some ⟨rfl, by first | trivial | omega⟩
 ·
  refine q_bindp (t_X7_word (p0 <<< ((if (15 : Int32) < p1 then (15 : Int32) else p1) &&& (31 : Int32))) h0) (fun r_5 p_6 => ?_)
  exact q_some ⟨rfl, by first | trivial | omega⟩
theorem t_X7_shiftBits (p0 : Int32) (p1 : Int32) {σ0 σ : zS} (h0 : yR σ0 σ) : yT (f_X7_shiftBits p0 p1 σ) (fun r τ => τ = σ ∧ (True)) := by
 unfold f_X7_shiftBits
 have l_1 : (15 : Int32).toInt = 15 := rfl
 refine q_lt (fun h_2 => ?_) (fun h_2 => ?_)
 ·
  exact q_some ⟨rfl, by first | trivial | omega⟩
 ·
  have l_3 : (-15 : Int32).toInt = -15 := rfl
  refine q_le (fun h_4 => ?_) (fun h_4 => ?_)
  ·
   have l_5 : (0 : Int32).toInt = 0 := rfl
   refine q_le (fun h_6 => ?_) (fun h_6 => ?_)
   ·
    exact q_some ⟨rfl, by first | trivial | omega⟩
   ·
    refine q_bindp (t_X7_word (p0 <<< (p1 &&& (31 : Int32))) h0) (fun r_7 p_8 => ?_)
    exact q_some ⟨rfl, by first | trivial | omega⟩
  ·
   exact q_some ⟨rfl, by first | trivial | omega⟩
theorem t_X7_arithmetic (p0 : Int32) (p1 : Int32) (p2 : Int32) {σ0 σ : zS} (h0 : yR σ0 σ) : yT (f_X7_arithmetic p0 p1 p2 σ) (fun r τ => τ = σ ∧ (True)) := by
 unfold f_X7_arithmetic
 have l_1 : (0 : Int32).toInt = 0 := rfl
 refine q_eq (fun h_2 => ?_) (fun h_2 => ?_)
 ·
  refine q_bindp (t_X7_word (p1 + p2) h0) (fun r_3 p_4 => ?_)
  exact q_some ⟨rfl, by first | trivial | omega⟩
 ·
  have l_5 : (1 : Int32).toInt = 1 := rfl
  refine q_eq (fun h_6 => ?_) (fun h_6 => ?_)
  ·
   refine q_bindp (t_X7_word (p1 - p2) h0) (fun r_7 p_8 => ?_)
   exact q_some ⟨rfl, by first | trivial | omega⟩
  ·
   have l_9 : (2 : Int32).toInt = 2 := rfl
   refine q_eq (fun h_10 => ?_) (fun h_10 => ?_)
   ·
    refine q_bindp (t_X7_word (p1 * p2) h0) (fun r_11 p_12 => ?_)
    exact q_some ⟨rfl, by first | trivial | omega⟩
   ·
    have l_13 : (3 : Int32).toInt = 3 := rfl
    refine q_eq (fun h_14 => ?_) (fun h_14 => ?_)
    ·
     refine q_eq (fun h_15 => ?_) (fun h_15 => ?_)
     ·
      exact q_some ⟨rfl, by first | trivial | omega⟩
     ·
      refine q_d (by omega) ?_
      refine q_bindp (t_X7_word (p1 / p2) h0) (fun r_16 p_17 => ?_)
      exact q_some ⟨rfl, by first | trivial | omega⟩
    ·
     have l_18 : (4 : Int32).toInt = 4 := rfl
     refine q_eq (fun h_19 => ?_) (fun h_19 => ?_)
     ·
      refine q_eq (fun h_20 => ?_) (fun h_20 => ?_)
      ·
       exact q_some ⟨rfl, by first | trivial | omega⟩
      ·
       refine q_d (by omega) ?_
       refine q_bindp (t_X7_word (p1 - ((p1 / p2) * p2)) h0) (fun r_21 p_22 => ?_)
       exact q_some ⟨rfl, by first | trivial | omega⟩
     ·
      have l_23 : (5 : Int32).toInt = 5 := rfl
      refine q_eq (fun h_24 => ?_) (fun h_24 => ?_)
      ·
       refine q_bindp (t_X7_word (p1 &&& p2) h0) (fun r_25 p_26 => ?_)
       exact q_some ⟨rfl, by first | trivial | omega⟩
      ·
       have l_27 : (6 : Int32).toInt = 6 := rfl
       refine q_eq (fun h_28 => ?_) (fun h_28 => ?_)
       ·
        refine q_bindp (t_X7_word (p1 ||| p2) h0) (fun r_29 p_30 => ?_)
        exact q_some ⟨rfl, by first | trivial | omega⟩
       ·
        have l_31 : (7 : Int32).toInt = 7 := rfl
        refine q_eq (fun h_32 => ?_) (fun h_32 => ?_)
        ·
         refine q_bindp (t_X7_word (p1 ^^^ (-1 : Int32)) h0) (fun r_33 p_34 => ?_)
         exact q_some ⟨rfl, by first | trivial | omega⟩
        ·
         have l_35 : (8 : Int32).toInt = 8 := rfl
         refine q_eq (fun h_36 => ?_) (fun h_36 => ?_)
         ·
          refine q_bindp (t_X7_shiftNumber p1 p2 h0) (fun r_37 p_38 => ?_)
          exact q_some ⟨rfl, by first | trivial | omega⟩
         ·
          have l_39 : (9 : Int32).toInt = 9 := rfl
          refine q_eq (fun h_40 => ?_) (fun h_40 => ?_)
          ·
           refine q_bindp (t_X7_word p1 h0) (fun r_41 p_42 => ?_)
           refine q_bindp (t_X7_shiftBits r_41 p2 h0) (fun r_43 p_44 => ?_)
           exact q_some ⟨rfl, by first | trivial | omega⟩
          ·
           exact q_some ⟨rfl, by first | trivial | omega⟩
