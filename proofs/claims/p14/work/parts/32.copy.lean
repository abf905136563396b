/-! the class' copying: closed forms -/
def zrg (f : Nat → Int32) (a b : Nat) (v : Int32) : Nat → Int32 := fun j => if a ≤ j ∧ j < b then v else f j
theorem zrg_nil (f : Nat → Int32) {a b : Nat} (v : Int32) (h : b ≤ a) : zrg f a b v = f := by
  funext j; unfold zrg; rw [if_neg (by omega)]
theorem zrg_cons (f : Nat → Int32) {a b : Nat} (v : Int32) (h : a < b) : zrg (upd f a v) (a + 1) b v = zrg f a b v := by
  funext j
  unfold zrg upd
  by_cases h1 : j = a
  · rw [if_neg (by omega), if_pos h1, if_pos (by omega)]
  · rw [if_neg h1]
    by_cases h2 : a + 1 ≤ j ∧ j < b
    · rw [if_pos h2, if_pos (by omega)]
    · rw [if_neg h2, if_neg (by omega)]
theorem p_wipe_L {x n : Int32} (hx : 0 ≤ x.toInt) (hxn : x.toInt + n.toInt ≤ 2000) : ∀ (d k : Nat) (i : Int32) (σ : zS), d < k → i.toInt + d = n.toInt → 0 ≤ i.toInt →
    f_X3_wipe_L38 k x n i σ = some (1, zr σ 2 (zrg (σ 2) (x.toInt + i.toInt).toNat (x.toInt + n.toInt).toNat 0)) := by
  intro d
  induction d with
  | zero =>
    intro k i σ hk hd h0
    obtain ⟨k, rfl⟩ : ∃ k2, k = k2 + 1 := ⟨k - 1, by omega⟩
    rw [f_X3_wipe_L38, if_pos (by rw [i_le]; omega), zrg_nil _ _ (by omega), zr_self]
  | succ d ih =>
    intro k i σ hk hd h0
    obtain ⟨k, rfl⟩ : ∃ k2, k = k2 + 1 := ⟨k - 1, by omega⟩
    have e1 : (x + i).toInt = x.toInt + i.toInt := i_add (by omega) (by omega)
    have e2 : (i + 1).toInt = i.toInt + 1 := i_1 (by omega)
    rw [f_X3_wipe_L38, if_neg (by rw [i_le]; omega), zc_ok (by omega) (by omega)]
    show f_X3_wipe_L38 k x n (i + 1) (zu σ 2 (x + i).toNatClampNeg 0) = _
    rw [ih k (i + 1) _ (by omega) (by omega) (by omega), i_cl, e1, e2]
    have e3 : (x.toInt + (i.toInt + 1)).toNat = (x.toInt + i.toInt).toNat + 1 := by omega
    rw [e3]
    unfold zu
    rw [zr_at, zrg_cons _ _ (by omega), zr_zr]
theorem zF_eq : zF = 100000 := rfl
/-- n bytes from x on, n above 0 -/
def zinN (σ : zS) (x n : Int32) : Prop := 0 ≤ x.toInt ∧ x.toInt + n.toInt ≤ (σ 1 1).toInt
theorem zinN_1 {σ : zS} {x n : Int32} (I : zIM σ) (hn : 0 < n.toInt) (hx : x.toInt < 100000) (hn2 : n.toInt < 100000) (hx0 : 0 ≤ x.toInt) : (x + n).toInt = x.toInt + n.toInt ∧ (x + n - 1).toInt = x.toInt + n.toInt - 1 ∧ (zinN σ x n ↔ zin1 σ x ∧ zin1 σ (x + n - 1)) := by
  obtain ⟨I1, I2, I3, I4⟩ := I
  have e1 : (x + n).toInt = x.toInt + n.toInt := i_add (by omega) (by omega)
  have e2 : (x + n - 1).toInt = x.toInt + n.toInt - 1 := by rw [i_m1 (by omega), e1]
  refine ⟨e1, e2, fun h => ⟨⟨h.1, by have := h.2; omega⟩, ⟨by omega, by have := h.2; omega⟩⟩, fun h => ⟨h.1.1, by have := h.2.2; omega⟩⟩
theorem p_wipe {x n : Int32} {σ : zS} (I : zIM σ) (hn : 0 < n.toInt) (hn2 : n.toInt < 100000) (hx0 : 0 ≤ x.toInt) (hx : x.toInt < 100000) :
    (¬ zinN σ x n → f_X3_wipe x n σ = some (-12, σ)) ∧ (zinN σ x n → ((σ 1 2).toInt < x.toInt + n.toInt → f_X3_wipe x n σ = some (-13, σ)) ∧ (x.toInt + n.toInt ≤ (σ 1 2).toInt → f_X3_wipe x n σ = some (1, zr σ 2 (zrg (σ 2) x.toInt.toNat (x.toInt + n.toInt).toNat 0)))) := by
  obtain ⟨e1, e2, hiff⟩ := zinN_1 I hn hx hn2 hx0
  have I0 := I
  obtain ⟨I1, I2, I3, I4⟩ := I
  unfold f_X3_wipe
  refine ⟨fun h => ?_, fun h => ?_⟩
  · by_cases q1 : zin1 σ x
    · have q2 : ¬ zin1 σ (x + n - 1) := fun q => h (hiff.mpr ⟨q1, q⟩)
      rw [(p_isOutside x σ).1 q1, zbind_some, if_pos rfl, (p_isOutside _ σ).2 q2, zbind_some, if_neg (by decide)]
    · rw [(p_isOutside x σ).2 q1, zbind_some, if_neg (by decide)]
  · obtain ⟨q1, q2⟩ := hiff.mp h
    rw [(p_isOutside x σ).1 q1, zbind_some, if_pos rfl, (p_isOutside _ σ).1 q2, zbind_some, if_pos rfl]
    refine ⟨fun hs => ?_, fun hs => ?_⟩
    · rw [if_neg (by rw [i_le]; omega)]
    · rw [if_pos (by rw [i_le]; omega), p_wipe_L hx0 (by have := h.2; omega) n.toInt.toNat zF 0 σ (by rw [zF_eq]; omega) (by rw [t_0]; omega) (by rw [t_0]; omega), t_0, Int.add_zero]
theorem zcp_ok {ρ : Type} {sp dp n : Int32} {n0 n1 : Nat} {P : Option ρ} (h1 : 0 ≤ sp.toInt) (h2 : 0 ≤ dp.toInt) (h3 : 0 ≤ n.toInt) (h4 : sp.toInt + n.toInt ≤ n0) (h5 : dp.toInt + n.toInt ≤ n1) : zcp sp dp n n0 n1 P = P := by
  unfold zcp
  rw [if_neg]
  rw [i_lt, i_lt, i_lt, t_0, i_cl, i_cl, i_cl]
  omega
theorem p_copyAtOnce {x y n : Int32} {σ : zS} (I : zIM σ) (hn : 0 < n.toInt) (hn2 : n.toInt < 100000) (hx0 : 0 ≤ x.toInt) (hx : x.toInt < 100000) (hy0 : 0 ≤ y.toInt) (hy : y.toInt < 100000) :
    (¬ (zinN σ x n ∧ zinN σ y n) → f_X3_copyAtOnce x y n σ = some (-12, σ)) ∧ (zinN σ x n ∧ zinN σ y n → ((σ 1 2).toInt < y.toInt + n.toInt → f_X3_copyAtOnce x y n σ = some (-13, σ)) ∧ (y.toInt + n.toInt ≤ (σ 1 2).toInt → f_X3_copyAtOnce x y n σ = some (1, zr σ 2 (va_cpy (σ 2) (σ 2) x.toInt.toNat y.toInt.toNat n.toInt.toNat)))) := by
  obtain ⟨ex1, ex2, hxf⟩ := zinN_1 I hn hx hn2 hx0
  obtain ⟨ey1, ey2, hyf⟩ := zinN_1 I hn hy hn2 hy0
  have I0 := I
  obtain ⟨I1, I2, I3, I4⟩ := I
  unfold f_X3_copyAtOnce
  refine ⟨fun h => ?_, fun h => ?_⟩
  · by_cases q1 : zin1 σ x
    · rw [(p_isOutside x σ).1 q1, zbind_some, if_pos rfl]
      by_cases q2 : zin1 σ (x + n - 1)
      · rw [(p_isOutside _ σ).1 q2, zbind_some, if_pos rfl]
        by_cases q3 : zin1 σ y
        · rw [(p_isOutside y σ).1 q3, zbind_some, if_pos rfl]
          have q4 : ¬ zin1 σ (y + n - 1) := fun q => h ⟨hxf.mpr ⟨q1, q2⟩, hyf.mpr ⟨q3, q⟩⟩
          rw [(p_isOutside _ σ).2 q4, zbind_some, if_neg (by decide)]
        · rw [(p_isOutside y σ).2 q3, zbind_some, if_neg (by decide)]
      · rw [(p_isOutside _ σ).2 q2, zbind_some, if_neg (by decide)]
    · rw [(p_isOutside x σ).2 q1, zbind_some, if_neg (by decide)]
  · obtain ⟨q1, q2⟩ := hxf.mp h.1
    obtain ⟨q3, q4⟩ := hyf.mp h.2
    rw [(p_isOutside x σ).1 q1, zbind_some, if_pos rfl, (p_isOutside _ σ).1 q2, zbind_some, if_pos rfl, (p_isOutside y σ).1 q3, zbind_some, if_pos rfl, (p_isOutside _ σ).1 q4, zbind_some, if_pos rfl]
    refine ⟨fun hs => ?_, fun hs => ?_⟩
    · rw [if_neg (by rw [i_le]; omega)]
    · have w1 := h.1.2
      have w2 := h.2.2
      rw [if_pos (by rw [i_le]; omega), zcp_ok hx0 hy0 (by omega) (by omega) (by omega)]
      rfl
