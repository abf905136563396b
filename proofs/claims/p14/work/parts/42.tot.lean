theorem t_X6_enter (p0 : Int32) (p1 : Int32) (p2 : Int32) (p3 : Int32) {σ0 σ : zS} (h0 : yR σ0 σ) : yT (f_X6_enter p0 p1 p2 p3 σ) (fun r τ => yR σ0 τ ∧ (True)) := by
 unfold f_X6_enter
 refine q_bindp (t_X5_hasRoutine p0 h0) (fun rq1 pq2 => ?_)
 have lq3 : (0 : Int32).toInt = 0 := rfl
 refine q_eq (fun hq4 => ?_) (fun hq4 => ?_)
 ·
  exact q_some ⟨h0, by first | trivial | omega⟩
 ·
  refine q_binds (t_X2_enter  h0) (fun rq5 sq6 Rq7 pq8 => ?_)
  refine q_ops pq8 (fun _ => ?_) (fun iq9 hiq10 => ?_)
  ·
   exact q_some ⟨Rq7, by first | trivial | omega⟩
  ·
   refine q_zu Rq7 (ySt_f (by omega) ⟨fun q => absurd q (by decide), fun _ => by omega, fun q => absurd q (by decide)⟩) (fun sq11 Rq12 Eq13 Fq14 => ?_)
   refine q_c (by omega) (by omega) ?_
   refine q_zu Rq12 (ySt_f (by omega) ⟨fun q => absurd q (by decide), fun q => absurd q (by decide), fun q => absurd q (by decide)⟩) (fun sq15 Rq16 Eq17 Fq18 => ?_)
   refine q_c (by omega) (by omega) ?_
   have cq23 : p0.toNatClampNeg = p0.toInt.toNat := rfl
   have gq24 := g_11 Rq16 p0.toNatClampNeg
   have eq25 : (sq15 11 p0.toNatClampNeg).toInt = (sq11 11 p0.toNatClampNeg).toInt := congrArg Int32.toInt (Fq18 _ _ (by omega))
   have gq26 := g_11 Rq12 p0.toNatClampNeg
   have eq27 : (sq11 11 p0.toNatClampNeg).toInt = (sq6 11 p0.toNatClampNeg).toInt := congrArg Int32.toInt (Fq14 _ _ (by omega))
   have gq28 := g_11 Rq7 p0.toNatClampNeg
   refine q_zu Rq16 (ySt_f (by omega) ⟨fun _ => by omega, fun q => absurd q (by decide), fun q => absurd q (by decide)⟩) (fun sq19 Rq20 Eq21 Fq22 => ?_)
   refine q_zu Rq20 (ySt_f (by omega) ⟨fun q => absurd q (by decide), fun q => absurd q (by decide), fun q => absurd q (by decide)⟩) (fun sq29 Rq30 Eq31 Fq32 => ?_)
   refine q_binds (t_X1_setLocal iq9 (by omega) (1 : Int32) p1 Rq30) (fun rq33 sq34 Rq35 pq36 => ?_)
   refine q_binds (t_X1_setLocal iq9 (by omega) (2 : Int32) p2 Rq35) (fun rq37 sq38 Rq39 pq40 => ?_)
   exact q_some ⟨Rq39, by first | trivial | omega⟩
theorem t_X6_begin (p0 : Int32) (p1 : Int32) (p2 : Int32) {σ0 σ : zS} (h0 : yR σ0 σ) : yT (f_X6_begin p0 p1 p2 σ) (fun r τ => yR σ0 τ ∧ (True)) := by
 unfold f_X6_begin
 refine q_binds (t_X2_begin  h0) (fun rq1 sq2 Rq3 pq4 => ?_)
 have lq9 : (0 : Int32).toInt = 0 := rfl
 refine q_zu Rq3 (ySt_41_1 (by omega)) (fun sq5 Rq6 Eq7 Fq8 => ?_)
 refine q_zr Rq6 (fun j => ySt_free (by unfold yKp; omega) (by omega)) (fun sq10 Rq11 Fq13 => ?_)
 refine q_zu Rq11 (ySt_free (by unfold yKp; omega) (by omega)) (fun sq14 Rq15 Eq16 Fq17 => ?_)
 refine q_zu Rq15 (ySt_free (by unfold yKp; omega) (by omega)) (fun sq18 Rq19 Eq20 Fq21 => ?_)
 refine q_zu Rq19 (ySt_free (by unfold yKp; omega) (by omega)) (fun sq22 Rq23 Eq24 Fq25 => ?_)
 refine q_zu Rq23 (ySt_free (by unfold yKp; omega) (by omega)) (fun sq26 Rq27 Eq28 Fq29 => ?_)
 refine q_zu Rq27 (ySt_free (by unfold yKp; omega) (by omega)) (fun sq30 Rq31 Eq32 Fq33 => ?_)
 refine q_zu Rq31 (ySt_free (by unfold yKp; omega) (by omega)) (fun sq34 Rq35 Eq36 Fq37 => ?_)
 refine q_zu Rq35 (ySt_free (by unfold yKp; omega) (by omega)) (fun sq38 Rq39 Eq40 Fq41 => ?_)
 refine q_binds (t_X6_enter p0 p1 p2 (-1 : Int32) Rq39) (fun rq42 sq43 Rq44 pq45 => ?_)
 exact q_some ⟨Rq44, by first | trivial | omega⟩
theorem t_X6_isGoing  {σ0 σ : zS} (h0 : yR σ0 σ) : yT (f_X6_isGoing  σ) (fun r τ => τ = σ ∧ (True)) := by
 unfold f_X6_isGoing
 have lq1 : (-1 : Int32).toInt = -1 := rfl
 refine q_eq (fun hq2 => ?_) (fun hq2 => ?_)
 ·
  exact q_some ⟨rfl, by first | trivial | omega⟩
 ·
  exact q_some ⟨rfl, by first | trivial | omega⟩
theorem t_X6_leaveDownTo_L8 {σ0 : zS} : ∀ (n : Nat) (x1 x2 : Int32) (σ : zS), x2.toInt.toNat < n → ((0 : Nat) = 0) → yR σ0 σ → yT (f_X6_leaveDownTo_L8 n x1 x2 σ) (fun r τ => yR σ0 τ ∧ (True)) := by
 intro n
 induction n with
 | zero => intro x1 x2 σ hm; omega
 | succ n ih =>
  intro x1 x2 σ hm hv h0
  rw [f_X6_leaveDownTo_L8]
  have bx2 := i_hi x2
  refine q_le (fun hq1 => ?_) (fun hq1 => ?_)
  ·
   exact q_some ⟨h0, by first | trivial | omega⟩
  ·
   have lq2 : (0 : Int32).toInt = 0 := rfl
   refine q_le (fun hq3 => ?_) (fun hq3 => ?_)
   ·
    exact q_some ⟨h0, by first | trivial | omega⟩
   ·
    refine q_bindr (t_X2_top  h0) (fun iq4 hiq5 => ?_)
    refine q_op hiq5 ?_
    have gq6 := g_f h0 iq4 (by omega)
    refine q_c (by omega) (by omega) ?_
    refine q_c (by omega) (by omega) ?_
    have cq11 : (σ (16 + (2 * iq4)) 2).toNatClampNeg = (σ (16 + (2 * iq4)) 2).toInt.toNat := rfl
    refine q_zu h0 (ySt_free (by unfold yKp; omega) (by omega)) (fun sq7 Rq8 Eq9 Fq10 => ?_)
    refine q_binds (t_X2_leave  Rq8) (fun rq12 sq13 Rq14 pq15 => ?_)
    have lq16 : (-1 : Int32).toInt = -1 := rfl
    try have aq17 : (x2 + (-1 : Int32)).toInt = x2.toInt + (-1 : Int32).toInt := i_add (by omega) (by omega)
    exact ih x1 (x2 + (-1 : Int32)) sq13 (by generalize (x2 + (-1 : Int32)).toInt = q at *; omega) (by generalize (x2 + (-1 : Int32)).toInt = q at *; omega) Rq14
theorem t_X6_leaveDownTo (p0 : Int32) {σ0 σ : zS} (h0 : yR σ0 σ) : yT (f_X6_leaveDownTo p0 σ) (fun r τ => yR σ0 τ ∧ (True)) := by
 unfold f_X6_leaveDownTo
 have gq1 := g_14_3 h0
 refine q_w (t_X6_leaveDownTo_L8  zF p0 (σ 14 3) σ (by rw [zF_eq]; omega) (by omega) h0) (fun _ _ h => h)
theorem t_X6_finish  {σ0 σ : zS} (h0 : yR σ0 σ) : yT (f_X6_finish  σ) (fun r τ => yR σ0 τ ∧ (True)) := by
 unfold f_X6_finish
 have lq1 : (-1 : Int32).toInt = -1 := rfl
 refine q_eq (fun hq2 => ?_) (fun hq2 => ?_)
 ·
  refine q_zu h0 (ySt_free (by unfold yKp; omega) (by omega)) (fun sq3 Rq4 Eq5 Fq6 => ?_)
  refine q_binds (t_X6_leaveDownTo (0 : Int32) Rq4) (fun rq7 sq8 Rq9 pq10 => ?_)
  exact q_some ⟨Rq9, by first | trivial | omega⟩
 ·
  refine q_binds (t_X6_leaveDownTo (0 : Int32) h0) (fun rq11 sq12 Rq13 pq14 => ?_)
  exact q_some ⟨Rq13, by first | trivial | omega⟩
theorem t_X6_goOnIf (p0 : Int32) (p1 : Int32) {σ0 σ : zS} (h0 : yR σ0 σ) : yT (f_X6_goOnIf p0 p1 σ) (fun r τ => yR σ0 τ ∧ (True)) := by
 unfold f_X6_goOnIf
 have lq1 : (0 : Int32).toInt = 0 := rfl
 refine q_eq (fun hq2 => ?_) (fun hq2 => ?_)
 ·
  exact q_some ⟨h0, by first | trivial | omega⟩
 ·
  refine q_bindr (t_X2_top  h0) (fun iq3 hiq4 => ?_)
  refine q_op hiq4 ?_
  refine q_zu h0 (ySt_f (by omega) ⟨fun q => absurd q (by decide), fun q => absurd q (by decide), fun q => absurd q (by decide)⟩) (fun sq5 Rq6 Eq7 Fq8 => ?_)
  exact q_some ⟨Rq6, by first | trivial | omega⟩
theorem t_X7_number (p0 : Int32) {σ0 σ : zS} (h0 : yR σ0 σ) : yT (f_X7_number p0 σ) (fun r τ => τ = σ ∧ (-32768 ≤ r.toInt ∧ r.toInt < 32768)) := by
 unfold f_X7_number
 have aq1 := i_short p0
 exact q_some ⟨rfl, by first | trivial | omega⟩
theorem t_X6_placeOfGlobal (p0 : Int32) {σ0 σ : zS} (h0 : yR σ0 σ) : yT (f_X6_placeOfGlobal p0 σ) (fun r τ => τ = σ ∧ (True)) := by
 unfold f_X6_placeOfGlobal
 exact q_some ⟨rfl, by first | trivial | omega⟩
theorem t_X6_ask (p0 : Int32) {σ0 σ : zS} (h0 : yR σ0 σ) : yT (f_X6_ask p0 σ) (fun r τ => yR σ0 τ ∧ (True)) := by
 unfold f_X6_ask
 have lq1 : (0 : Int32).toInt = 0 := rfl
 refine q_eq (fun hq2 => ?_) (fun hq2 => ?_)
 ·
  refine q_binds (t_X2_pop  h0) (fun rq3 sq4 Rq5 pq6 => ?_)
  exact q_some ⟨Rq5, by first | trivial | omega⟩
 ·
  have lq7 : (16 : Int32).toInt = 16 := rfl
  refine q_le (fun hq8 => ?_) (fun hq8 => ?_)
  ·
   refine q_bindp (t_X6_placeOfGlobal p0 h0) (fun rq9 pq10 => ?_)
   refine q_bindp (t_X3_wordAt rq9 h0) (fun rq11 pq12 => ?_)
   exact q_some ⟨h0, by first | trivial | omega⟩
  ·
   refine q_bindr (t_X2_top  h0) (fun iq13 hiq14 => ?_)
   refine q_op hiq14 ?_
   refine q_bindp (t_X1_local iq13 (by omega) p0 h0) (fun rq15 pq16 => ?_)
   exact q_some ⟨h0, by first | trivial | omega⟩
theorem t_X7_word (p0 : Int32) {σ0 σ : zS} (h0 : yR σ0 σ) : yT (f_X7_word p0 σ) (fun r τ => τ = σ ∧ (0 ≤ r.toInt ∧ r.toInt < 65536)) := by
 unfold f_X7_word
 have lq1 : (65535 : Int32).toInt = 65535 := rfl
 have aq2 := i_65535 p0
 exact q_some ⟨rfl, by first | trivial | omega⟩
theorem t_X6_tell (p0 : Int32) (p1 : Int32) {σ0 σ : zS} (h0 : yR σ0 σ) : yT (f_X6_tell p0 p1 σ) (fun r τ => yR σ0 τ ∧ (True)) := by
 unfold f_X6_tell
 refine q_zu h0 (ySt_free (by unfold yKp; omega) (by omega)) (fun sq1 Rq2 Eq3 Fq4 => ?_)
 exact q_some ⟨Rq2, by first | trivial | omega⟩
theorem t_X6_change (p0 : Int32) (p1 : Int32) {σ0 σ : zS} (h0 : yR σ0 σ) : yT (f_X6_change p0 p1 σ) (fun r τ => yR σ0 τ ∧ (True)) := by
 unfold f_X6_change
 refine q_binds (t_X6_ask p0 h0) (fun rq1 sq2 Rq3 pq4 => ?_)
 have lq5 : (0 : Int32).toInt = 0 := rfl
 refine q_le (fun hq6 => ?_) (fun hq6 => ?_)
 ·
  refine q_bindp (t_X7_word (rq1 + p1) Rq3) (fun rq7 pq8 => ?_)
  refine q_binds (t_X6_tell p0 rq7 Rq3) (fun rq9 sq10 Rq11 pq12 => ?_)
  exact q_some ⟨Rq11, by first | trivial | omega⟩
 ·
  exact q_some ⟨Rq3, by first | trivial | omega⟩
theorem t_X6_end (p0 : Int32) {σ0 σ : zS} (h0 : yR σ0 σ) : yT (f_X6_end p0 σ) (fun r τ => yR σ0 τ ∧ (True)) := by
 unfold f_X6_end
 refine q_zu h0 (ySt_free (by unfold yKp; omega) (by omega)) (fun sq1 Rq2 Eq3 Fq4 => ?_)
 refine q_binds (t_X6_tell (-1 : Int32) (1 : Int32) Rq2) (fun rq5 sq6 Rq7 pq8 => ?_)
 exact q_some ⟨Rq7, by first | trivial | omega⟩
theorem t_X6_giveBack (p0 : Int32) {σ0 σ : zS} (h0 : yR σ0 σ) : yT (f_X6_giveBack p0 σ) (fun r τ => yR σ0 τ ∧ (True)) := by
 unfold f_X6_giveBack
 refine q_bindr (t_X2_top  h0) (fun iq1 hiq2 => ?_)
 refine q_op hiq2 ?_
 refine q_lv (fun yq4 vq3 => ?_)
 refine q_binds (t_X6_leaveDownTo ((σ 14 3) - (1 : Int32)) h0) (fun rq5 sq6 Rq7 pq8 => ?_)
 have gq9 := g_14_3 Rq7
 have lq10 : (0 : Int32).toInt = 0 := rfl
 refine q_eq (fun hq11 => ?_) (fun hq11 => ?_)
 ·
  refine q_zu Rq7 (ySt_free (by unfold yKp; omega) (by omega)) (fun sq12 Rq13 Eq14 Fq15 => ?_)
  refine q_binds (t_X6_end (0 : Int32) Rq13) (fun rq16 sq17 Rq18 pq19 => ?_)
  exact q_some ⟨Rq18, by first | trivial | omega⟩
 ·
  refine q_binds (t_X6_tell yq4 p0 Rq7) (fun rq20 sq21 Rq22 pq23 => ?_)
  exact q_some ⟨Rq22, by first | trivial | omega⟩
theorem t_X6_throwTo (p0 : Int32) (p1 : Int32) {σ0 σ : zS} (h0 : yR σ0 σ) : yT (f_X6_throwTo p0 p1 σ) (fun r τ => yR σ0 τ ∧ (True)) := by
 unfold f_X6_throwTo
 have gq1 := g_14_3 h0
 refine q_lt (fun hq2 => ?_) (fun hq2 => ?_)
 ·
  have lq3 : (12 : Int32).toInt = 12 := rfl
  refine q_lt (fun hq4 => ?_) (fun hq4 => ?_)
  ·
   refine q_zu h0 (ySt_free (by unfold yKp; omega) (by omega)) (fun sq5 Rq6 Eq7 Fq8 => ?_)
   refine q_zu Rq6 (ySt_free (by unfold yKp; omega) (by omega)) (fun sq9 Rq10 Eq11 Fq12 => ?_)
   refine q_binds (t_X6_leaveDownTo (p0 + (1 : Int32)) Rq10) (fun rq13 sq14 Rq15 pq16 => ?_)
   refine q_binds (t_X6_giveBack p1 Rq15) (fun rq17 sq18 Rq19 pq20 => ?_)
   exact q_some ⟨Rq19, by first | trivial | omega⟩
  ·
   refine q_binds (t_X6_end (3 : Int32) h0) (fun rq21 sq22 Rq23 pq24 => ?_)
   exact q_some ⟨Rq23, by first | trivial | omega⟩
 ·
  exact q_some ⟨h0, by first | trivial | omega⟩
theorem t_X6_printRows_L35 {σ0 : zS} (x1 x2 x3 x5 : Int32) {K : Int32 → Int32 → Int32 → Int32 → Int32 → Int32 → zS → Option (Int32 × zS)} (kK : ∀ (y4 y6 : Int32) (σ : zS), yR σ0 σ → yT (K x1 x2 x3 y4 x5 y6 σ) (fun _ τ => yR σ0 τ ∧ True)) : ∀ (n : Nat) (x4 x6 : Int32) (σ : zS), (x2.toInt - x6.toInt).toNat < n → 0 ≤ x6.toInt → yR σ0 σ → yT (f_X6_printRows_L35 n x1 x2 x3 x4 x5 x6 σ K) (fun _ τ => yR σ0 τ ∧ True) := by
  intro n
  induction n with
  | zero => intro x4 x6 σ hm; omega
  | succ n ih =>
    intro x4 x6 σ hm hi R0
    rw [f_X6_printRows_L35]
    refine q_le (fun h => ?_) (fun h => ?_)
    · exact kK _ _ _ R0
    · have e : (x6 + (1 : Int32)).toInt = x6.toInt + 1 := i_1 (by have := i_hi x2; omega)
      refine q_bindp (t_X3_byteAt _ R0) (fun v1 _ => ?_)
      refine q_le (fun h1 => ?_) (fun h1 => ?_)
      · refine q_binds (t_X4_print _ R0) (fun v2 s2 R2 _ => ?_)
        refine q_le (fun h2 => ?_) (fun h2 => ?_)
        · exact ih _ _ _ (by omega) (by omega) R2
        · exact q_some ⟨R2, trivial⟩
      · refine q_le (fun h2 => ?_) (fun h2 => ?_)
        · exact ih _ _ _ (by omega) (by omega) R0
        · exact q_some ⟨R0, trivial⟩
theorem t_X6_printRows_L6 {σ0 : zS} (x1 x2 x3 : Int32) (hx2 : x2.toInt < 100000) : ∀ (n : Nat) (x4 x5 : Int32) (σ : zS), (x3.toInt - x5.toInt).toNat < n → 0 ≤ x5.toInt → yR σ0 σ → yT (f_X6_printRows_L6 n x1 x2 x3 x4 x5 σ) (fun _ τ => yR σ0 τ ∧ True) := by
  intro n
  induction n with
  | zero => intro x4 x5 σ hm; omega
  | succ n ih =>
    intro x4 x5 σ hm hi R0
    rw [f_X6_printRows_L6]
    refine q_le (fun h => ?_) (fun h => ?_)
    · exact q_some ⟨R0, trivial⟩
    · have e : (x5 + (1 : Int32)).toInt = x5.toInt + 1 := i_1 (by have := i_hi x3; omega)
      have k0 : ∀ (y4 y6 : Int32) (σ : zS), yR σ0 σ → yT (f_X6_printRows_L6 n x1 x2 x3 y4 (x5 + (1 : Int32)) σ) (fun _ τ => yR σ0 τ ∧ True) := fun y4 y6 s R => ih _ _ _ (by omega) (by omega) R
      have m0 : (x2.toInt - (0 : Int32).toInt).toNat < zF := by rw [zF_eq, t_0]; omega
      refine q_le (fun h1 => ?_) (fun h1 => ?_)
      · exact t_X6_printRows_L35 x1 x2 x3 x5 (K := fun v3 v4 v5 v6 v7 _ s3 => f_X6_printRows_L6 n v3 v4 v5 v6 (v7 + (1 : Int32)) s3) k0 zF _ _ _ m0 (by rw [t_0]; omega) R0
      · refine q_binds (t_X4_print _ R0) (fun v2 s2 R2 _ => ?_)
        refine q_le (fun h2 => ?_) (fun h2 => ?_)
        · exact t_X6_printRows_L35 x1 x2 x3 x5 (K := fun v3 v4 v5 v6 v7 _ s3 => f_X6_printRows_L6 n v3 v4 v5 v6 (v7 + (1 : Int32)) s3) k0 zF _ _ _ m0 (by rw [t_0]; omega) R2
        · exact q_some ⟨R2, trivial⟩
theorem t_X6_printRows (p0 p1 p2 : Int32) {σ0 σ : zS} (h0 : yR σ0 σ) (hp : p1.toInt < 100000 ∧ p2.toInt < 100000 - 1) : yT (f_X6_printRows p0 p1 p2 σ) (fun _ τ => yR σ0 τ ∧ True) :=
  t_X6_printRows_L6 p0 p1 p2 hp.1 zF _ _ _ (by rw [zF_eq, t_0]; omega) (by rw [t_0]; omega) h0
theorem t_X7_shiftNumber (p0 : Int32) (p1 : Int32) {σ0 σ : zS} (h0 : yR σ0 σ) : yT (f_X7_shiftNumber p0 p1 σ) (fun r τ => τ = σ ∧ (True)) := by
 unfold f_X7_shiftNumber
 have lq1 : (0 : Int32).toInt = 0 := rfl
 refine q_le (fun hq2 => ?_) (fun hq2 => ?_)
 ·
  refine q_bindp (t_X7_word (p0 >>> ((if (15 : Int32) < (-p1) then (15 : Int32) else (-p1)) &&& (31 : Int32))) h0) (fun rq3 pq4 => ?_)
  exact q_some ⟨rfl, by first | trivial | omega⟩
 ·
  refine q_bindp (t_X7_word (p0 <<< ((if (15 : Int32) < p1 then (15 : Int32) else p1) &&& (31 : Int32))) h0) (fun rq5 pq6 => ?_)
  exact q_some ⟨rfl, by first | trivial | omega⟩
theorem t_X7_shiftBits (p0 : Int32) (p1 : Int32) {σ0 σ : zS} (h0 : yR σ0 σ) : yT (f_X7_shiftBits p0 p1 σ) (fun r τ => τ = σ ∧ (True)) := by
 unfold f_X7_shiftBits
 have lq1 : (15 : Int32).toInt = 15 := rfl
 refine q_lt (fun hq2 => ?_) (fun hq2 => ?_)
 ·
  exact q_some ⟨rfl, by first | trivial | omega⟩
 ·
  have lq3 : (-15 : Int32).toInt = -15 := rfl
  refine q_le (fun hq4 => ?_) (fun hq4 => ?_)
  ·
   have lq5 : (0 : Int32).toInt = 0 := rfl
   refine q_le (fun hq6 => ?_) (fun hq6 => ?_)
   ·
    exact q_some ⟨rfl, by first | trivial | omega⟩
   ·
    refine q_bindp (t_X7_word (p0 <<< (p1 &&& (31 : Int32))) h0) (fun rq7 pq8 => ?_)
    exact q_some ⟨rfl, by first | trivial | omega⟩
  ·
   exact q_some ⟨rfl, by first | trivial | omega⟩
theorem t_X7_arithmetic (p0 : Int32) (p1 : Int32) (p2 : Int32) {σ0 σ : zS} (h0 : yR σ0 σ) : yT (f_X7_arithmetic p0 p1 p2 σ) (fun r τ => τ = σ ∧ (True)) := by
 unfold f_X7_arithmetic
 have lq1 : (0 : Int32).toInt = 0 := rfl
 refine q_eq (fun hq2 => ?_) (fun hq2 => ?_)
 ·
  refine q_bindp (t_X7_word (p1 + p2) h0) (fun rq3 pq4 => ?_)
  exact q_some ⟨rfl, by first | trivial | omega⟩
 ·
  have lq5 : (1 : Int32).toInt = 1 := rfl
  refine q_eq (fun hq6 => ?_) (fun hq6 => ?_)
  ·
   refine q_bindp (t_X7_word (p1 - p2) h0) (fun rq7 pq8 => ?_)
   exact q_some ⟨rfl, by first | trivial | omega⟩
  ·
   have lq9 : (2 : Int32).toInt = 2 := rfl
   refine q_eq (fun hq10 => ?_) (fun hq10 => ?_)
   ·
    refine q_bindp (t_X7_word (p1 * p2) h0) (fun rq11 pq12 => ?_)
    exact q_some ⟨rfl, by first | trivial | omega⟩
   ·
    have lq13 : (3 : Int32).toInt = 3 := rfl
    refine q_eq (fun hq14 => ?_) (fun hq14 => ?_)
    ·
     refine q_eq (fun hq15 => ?_) (fun hq15 => ?_)
     ·
      exact q_some ⟨rfl, by first | trivial | omega⟩
     ·
      refine q_d (by omega) ?_
      refine q_bindp (t_X7_word (p1 / p2) h0) (fun rq16 pq17 => ?_)
      exact q_some ⟨rfl, by first | trivial | omega⟩
    ·
     have lq18 : (4 : Int32).toInt = 4 := rfl
     refine q_eq (fun hq19 => ?_) (fun hq19 => ?_)
     ·
      refine q_eq (fun hq20 => ?_) (fun hq20 => ?_)
      ·
       exact q_some ⟨rfl, by first | trivial | omega⟩
      ·
       refine q_d (by omega) ?_
       refine q_bindp (t_X7_word (p1 - ((p1 / p2) * p2)) h0) (fun rq21 pq22 => ?_)
       exact q_some ⟨rfl, by first | trivial | omega⟩
     ·
      have lq23 : (5 : Int32).toInt = 5 := rfl
      refine q_eq (fun hq24 => ?_) (fun hq24 => ?_)
      ·
       refine q_bindp (t_X7_word (p1 &&& p2) h0) (fun rq25 pq26 => ?_)
       exact q_some ⟨rfl, by first | trivial | omega⟩
      ·
       have lq27 : (6 : Int32).toInt = 6 := rfl
       refine q_eq (fun hq28 => ?_) (fun hq28 => ?_)
       ·
        refine q_bindp (t_X7_word (p1 ||| p2) h0) (fun rq29 pq30 => ?_)
        exact q_some ⟨rfl, by first | trivial | omega⟩
       ·
        have lq31 : (7 : Int32).toInt = 7 := rfl
        refine q_eq (fun hq32 => ?_) (fun hq32 => ?_)
        ·
         refine q_bindp (t_X7_word (p1 ^^^ (-1 : Int32)) h0) (fun rq33 pq34 => ?_)
         exact q_some ⟨rfl, by first | trivial | omega⟩
        ·
         have lq35 : (8 : Int32).toInt = 8 := rfl
         refine q_eq (fun hq36 => ?_) (fun hq36 => ?_)
         ·
          refine q_bindp (t_X7_shiftNumber p1 p2 h0) (fun rq37 pq38 => ?_)
          exact q_some ⟨rfl, by first | trivial | omega⟩
         ·
          have lq39 : (9 : Int32).toInt = 9 := rfl
          refine q_eq (fun hq40 => ?_) (fun hq40 => ?_)
          ·
           refine q_bindp (t_X7_word p1 h0) (fun rq41 pq42 => ?_)
           refine q_bindp (t_X7_shiftBits rq41 p2 h0) (fun rq43 pq44 => ?_)
           exact q_some ⟨rfl, by first | trivial | omega⟩
          ·
           exact q_some ⟨rfl, by first | trivial | omega⟩
