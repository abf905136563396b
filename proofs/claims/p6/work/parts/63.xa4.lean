/-! what put answers -/
theorem yT_det {ρ : Type} {P : Option (ρ × zS)} {Q : ρ → zS → Prop} {a : ρ} {s : zS} (h : yT P Q) (e : P = some (a, s)) : Q a s := by
  obtain ⟨r, τ, e2, q⟩ := h
  rw [e] at e2
  cases e2
  exact q
theorem yR_IM {σ0 σ : zS} (h : yR σ0 σ) : zIM σ := ⟨(g_1_1 h).2.2.1, (g_1_1 h).2.2.2, (g_1_1 h).2.1, fun j => g_2 h j⟩
def yA (sz dy a w sh : Int) : Int := if 0 ≤ a ∧ a + w ≤ sz then (if sh = 0 ∧ dy < a + w then -13 else 1) else -12
theorem yA_no {sz dy a w sh : Int} (h : ¬ (0 ≤ a ∧ a + w ≤ sz)) : yA sz dy a w sh = -12 := if_neg h
theorem yA_st {sz dy a w sh : Int} (h : 0 ≤ a ∧ a + w ≤ sz) (h2 : sh = 0 ∧ dy < a + w) : yA sz dy a w sh = -13 := by unfold yA; rw [if_pos h, if_pos h2]
theorem yA_ok {sz dy a w sh : Int} (h : 0 ≤ a ∧ a + w ≤ sz) (h2 : ¬ (sh = 0 ∧ dy < a + w)) : yA sz dy a w sh = 1 := by unfold yA; rw [if_pos h, if_neg h2]
theorem a_X7_put (p0 p1 p2 p3 : Int32) {σ0 σ s : zS} {r : Int32} (h : yR σ0 σ) (e : f_X7_put p0 p1 p2 p3 σ = some (r, s)) : r.toInt = yA (σ 1 1).toInt (σ 1 2).toInt p0.toInt (if p2 = 0 then 1 else 2) p3.toInt := by
  have I := yR_IM h
  have hp3 : p3 = 0 ↔ p3.toInt = 0 := by rw [i_eq, t_0]
  unfold f_X7_put at e
  by_cases q : p2 = 0
  · rw [if_pos q] at e
    rw [if_pos q]
    by_cases hin : zin1 σ p0
    · have hi : 0 ≤ p0.toInt ∧ p0.toInt + 1 ≤ (σ 1 1).toInt := ⟨hin.1, by have := hin.2; omega⟩
      by_cases hst : p3 = 0 ∧ (σ 1 2).toInt ≤ p0.toInt
      · rw [((p_setByte (v := p1) (u := p3) I).2 hin).1 hst, zbind_some] at e
        cases e
        rw [yA_st hi ⟨hp3.mp hst.1, by have := hst.2; omega⟩]; rfl
      · rw [((p_setByte (v := p1) (u := p3) I).2 hin).2 hst, zbind_some] at e
        cases e
        rw [yA_ok hi (fun z => hst ⟨hp3.mpr z.1, by have := z.2; omega⟩)]; rfl
    · rw [(p_setByte (v := p1) (u := p3) I).1 hin, zbind_some] at e
      cases e
      rw [yA_no (fun z => hin ⟨z.1, by have := z.2; omega⟩)]; rfl
  · rw [if_neg q] at e
    rw [if_neg q]
    by_cases hin : zin2 σ p0
    · have hi : 0 ≤ p0.toInt ∧ p0.toInt + 2 ≤ (σ 1 1).toInt := ⟨hin.1, by have := hin.2; omega⟩
      by_cases hst : p3 = 0 ∧ (σ 1 2).toInt ≤ p0.toInt + 1
      · rw [((p_setWord (v := p1) (u := p3) I).2 hin).1 hst, zbind_some] at e
        cases e
        rw [yA_st hi ⟨hp3.mp hst.1, by have := hst.2; omega⟩]; rfl
      · rw [((p_setWord (v := p1) (u := p3) I).2 hin).2 hst, zbind_some] at e
        cases e
        rw [yA_ok hi (fun z => hst ⟨hp3.mpr z.1, by have := z.2; omega⟩)]; rfl
    · rw [(p_setWord (v := p1) (u := p3) I).1 hin, zbind_some] at e
      cases e
      rw [yA_no (fun z => hin ⟨z.1, by have := z.2; omega⟩)]; rfl
/-- the reference: is it there -/
theorem p8_there (p0 p1 : Int32) (σ : zS) : (0 ≤ p0.toInt ∧ p0.toInt + p1.toInt ≤ (σ 45 2).toInt → f_X8_isThere p0 p1 σ = some (1, σ)) ∧ (¬ (0 ≤ p0.toInt ∧ p0.toInt + p1.toInt ≤ (σ 45 2).toInt) → f_X8_isThere p0 p1 σ = some (0, zu σ 45 12 2)) := by
  unfold f_X8_isThere
  refine ⟨fun h => ?_, fun h => ?_⟩
  · rw [if_neg (by rw [i_lt, t_0]; omega), if_pos ((lg_le _ _ _).mpr h.2)]
  · by_cases q : p0 < 0
    · rw [if_pos q]; rfl
    · rw [if_neg q, if_neg]
      · rfl
      · rw [lg_le]
        rw [i_lt, t_0] at q
        omega
theorem l8_1 : (1 : Int32).toInt = 1 := rfl
theorem l8_2 : (2 : Int32).toInt = 2 := rfl
/-- the reference writes -/
theorem p8_write (p0 p1 p2 p3 : Int32) {B F : Int} {σ0 σ : zS} (h : yR8 B F σ0 σ) : ∃ τ, f_X8_write p0 p1 p2 p3 σ = some ((), τ) ∧
    (¬ (0 ≤ p0.toInt ∧ p0.toInt + (if p2 = 0 then 1 else 2) ≤ (σ 45 2).toInt) → τ = zu σ 45 12 2) ∧
    (0 ≤ p0.toInt ∧ p0.toInt + (if p2 = 0 then 1 else 2) ≤ (σ 45 2).toInt → (p3.toInt = 0 ∧ (σ 45 3).toInt < p0.toInt + (if p2 = 0 then 1 else 2) → τ = zu σ 45 12 3) ∧ (¬ (p3.toInt = 0 ∧ (σ 45 3).toInt < p0.toInt + (if p2 = 0 then 1 else 2)) → ∀ j, τ 45 j = σ 45 j)) := by
  have hp3 : p3 = 0 ↔ p3.toInt = 0 := by rw [i_eq, t_0]
  have g := e_sz h
  have n46 : ∀ (s : zS) (i j : Nat) (v : Int32), zu s 46 i v 45 j = s 45 j := fun s i j v => by rw [zu_rd, if_neg (by omega)]
  unfold f_X8_write
  by_cases q : p2 = 0
  · simp only [if_pos q]
    by_cases hin : 0 ≤ p0.toInt ∧ p0.toInt + 1 ≤ (σ 45 2).toInt
    · rw [(p8_there p0 1 σ).1 (by rw [l8_1]; exact hin), zbind_some, if_neg (by decide)]
      have z1 : ∀ P : Option (Unit × zS), zc p0 2000 P = P := fun P => zc_ok hin.1 (by omega)
      have e0 : (p0 + (0 : Int32)).toInt = p0.toInt := by rw [i_add (by rw [t_0]; omega) (by rw [t_0]; omega), t_0]; omega
      by_cases q3 : p3 = 0
      · rw [if_pos q3]
        by_cases hd : p0.toInt < (σ 45 3).toInt
        · rw [if_pos (by rw [i_lt, e0]; exact hd), z1]
          exact ⟨_, rfl, fun n => absurd hin n, fun _ => ⟨fun z => by have := z.2; omega, fun _ j => n46 _ _ _ _⟩⟩
        · rw [if_neg (by rw [i_lt, e0]; exact hd)]
          exact ⟨_, rfl, fun n => absurd hin n, fun _ => ⟨fun _ => rfl, fun z => absurd ⟨hp3.mp q3, by omega⟩ z⟩⟩
      · rw [if_neg q3, z1]
        exact ⟨_, rfl, fun n => absurd hin n, fun _ => ⟨fun z => absurd (hp3.mpr z.1) q3, fun _ j => n46 _ _ _ _⟩⟩
    · rw [(p8_there p0 1 σ).2 (by rw [l8_1]; exact hin), zbind_some, if_pos rfl]
      exact ⟨_, rfl, fun _ => rfl, fun n => absurd n hin⟩
  · simp only [if_neg q]
    by_cases hin : 0 ≤ p0.toInt ∧ p0.toInt + 2 ≤ (σ 45 2).toInt
    · rw [(p8_there p0 2 σ).1 (by rw [l8_2]; exact hin), zbind_some, if_neg (by decide)]
      have e1 : (p0 + (1 : Int32)).toInt = p0.toInt + 1 := i_1 (by omega)
      have z1 : ∀ P : Option (Unit × zS), zc p0 2000 P = P := fun P => zc_ok hin.1 (by omega)
      have z2 : ∀ P : Option (Unit × zS), zc (p0 + (1 : Int32)) 2000 P = P := fun P => zc_ok (by omega) (by omega)
      have w : ∀ v1 v2 : Int32, zc p0 2000 (zlet (zu σ 46 p0.toNatClampNeg v1) fun s3 => zc (p0 + (1 : Int32)) 2000 (zlet (zu s3 46 (p0 + (1 : Int32)).toNatClampNeg v2) fun s4 => some ((), s4))) = some ((), zu (zu σ 46 p0.toNatClampNeg v1) 46 (p0 + (1 : Int32)).toNatClampNeg v2) := by
        intro v1 v2
        rw [z1]
        show zc (p0 + (1 : Int32)) 2000 _ = _
        rw [z2]
        rfl
      by_cases q3 : p3 = 0
      · rw [if_pos q3]
        by_cases hd : p0.toInt + 1 < (σ 45 3).toInt
        · rw [if_pos (by rw [i_lt, e1]; exact hd), w]
          exact ⟨_, rfl, fun n => absurd hin n, fun _ => ⟨fun z => by have := z.2; omega, fun _ j => by rw [n46, n46]⟩⟩
        · rw [if_neg (by rw [i_lt, e1]; exact hd)]
          exact ⟨_, rfl, fun n => absurd hin n, fun _ => ⟨fun _ => rfl, fun z => absurd ⟨hp3.mp q3, by omega⟩ z⟩⟩
      · rw [if_neg q3, w]
        exact ⟨_, rfl, fun n => absurd hin n, fun _ => ⟨fun z => absurd (hp3.mpr z.1) q3, fun _ j => by rw [n46, n46]⟩⟩
    · rw [(p8_there p0 2 σ).2 (by rw [l8_2]; exact hin), zbind_some, if_pos rfl]
      exact ⟨_, rfl, fun _ => rfl, fun n => absurd n hin⟩
/-- the answer by the FAULT -/
def y8ans (τ : zS) : Int32 := if τ 45 12 = 0 then 1 else (-10 : Int32) - τ 45 12
theorem y8ans_2 (σ : zS) : y8ans (zu σ 45 12 2) = -12 := by
  have e : zu σ 45 12 2 45 12 = 2 := by rw [zu_rd, if_pos ⟨rfl, rfl⟩]
  unfold y8ans; rw [e]; rfl
theorem y8ans_3 (σ : zS) : y8ans (zu σ 45 12 3) = -13 := by
  have e : zu σ 45 12 3 45 12 = 3 := by rw [zu_rd, if_pos ⟨rfl, rfl⟩]
  unfold y8ans; rw [e]; rfl
theorem y8ans_0 {τ : zS} (h : τ 45 12 = 0) : y8ans τ = 1 := by unfold y8ans; rw [if_pos h]
theorem y8ans_if (τ : zS) : (if τ 45 12 = 0 then some ((1 : Int32), τ) else some (((-10 : Int32) - τ 45 12), τ)) = some (y8ans τ, τ) := by
  unfold y8ans
  by_cases h : τ 45 12 = 0
  · rw [if_pos h, if_pos h]
  · rw [if_neg h, if_neg h]
def y8s (σ : zS) : zS := zu (zu σ 45 0 0) 45 12 0
theorem y8s_R {B F : Int} {σ0 σ : zS} (h : yR8 B F σ0 σ) : yR8 B F (y8s σ) (y8s σ) := R8_self (R8_self h (by omega) (fr8 rfl rfl)) (by omega) (fr8 rfl rfl)
theorem y8s_f (σ : zS) : y8s σ 45 12 = 0 := by unfold y8s; rw [zu_rd, if_pos ⟨rfl, rfl⟩]
theorem y8s_k (σ : zS) (k j : Nat) (h : ¬ (k = 45 ∧ (j = 0 ∨ j = 12))) : y8s σ k j = σ k j := by unfold y8s; rw [zu_rd, if_neg (by omega), zu_rd, if_neg (by omega)]
theorem a_X8_put (p0 p1 p2 p3 : Int32) {B F : Int} {σ0 σ s : zS} {r : Int32} (h : yR8 B F σ0 σ) (e : f_X8_put p0 p1 p2 p3 σ = some (r, s)) : r.toInt = yA (σ 45 2).toInt (σ 45 3).toInt p0.toInt (if p2 = 0 then 1 else 2) p3.toInt := by
  obtain ⟨τ, e1, w1, w2⟩ := p8_write p0 p1 p2 p3 (y8s_R h)
  have e2 : f_X8_put p0 p1 p2 p3 σ = some (y8ans τ, τ) := by
    unfold f_X8_put
    show zbind (f_X8_write p0 p1 p2 p3 (y8s σ)) _ = _
    rw [e1, zbind_some]
    exact y8ans_if τ
  rw [e2] at e
  cases e
  rw [y8s_k σ 45 2 (by omega), y8s_k σ 45 3 (by omega)] at w2
  rw [y8s_k σ 45 2 (by omega)] at w1
  by_cases hin : 0 ≤ p0.toInt ∧ p0.toInt + (if p2 = 0 then 1 else 2) ≤ (σ 45 2).toInt
  · by_cases hst : p3.toInt = 0 ∧ (σ 45 3).toInt < p0.toInt + (if p2 = 0 then 1 else 2)
    · rw [yA_st hin hst, (w2 hin).1 hst, y8ans_3]; rfl
    · rw [yA_ok hin hst, y8ans_0 (by rw [(w2 hin).2 hst 12, y8s_f])]; rfl
  · rw [yA_no hin, w1 hin, y8ans_2]; rfl
theorem pairA_put (p0 p1 p2 p3 : Int32) {B B1 : Int} {σ : zS} (h : yL B σ) (hB : B ≤ B1) (hB1 : B1 ≤ 1000000) : ∃ a s b τ, f_X7_put p0 p1 p2 p3 σ = some (a, s) ∧ f_X8_put p0 p1 p2 p3 s = some (b, τ) ∧ yL B1 τ ∧ a = b := by
  obtain ⟨a, s, b, τ, e1, e2, hL, -, -⟩ := pair_put p0 p1 p2 p3 h hB hB1
  have c : yR σ s := (yT_det (t_X7_put p0 p1 p2 p3 h.1) e1).1
  obtain ⟨F, R⟩ := yL_8 h (yC_st c)
  refine ⟨a, s, b, τ, e1, e2, hL, ?_⟩
  rw [i_eq, a_X7_put p0 p1 p2 p3 h.1 e1, a_X8_put p0 p1 p2 p3 R e2, c.2.2 45 2 (by unfold yKp; omega), c.2.2 45 3 (by unfold yKp; omega), ← h.2.2.1, ← h.2.2.2.1]
