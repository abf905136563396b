/-! a program comes to an end, and Q holds of what it gives -/
def yT {ρ : Type} (P : Option (ρ × zS)) (Q : ρ → zS → Prop) : Prop := ∃ r τ, P = some (r, τ) ∧ Q r τ
/-- ranges of what the class holds -/
def yRg (k j : Nat) (x : Int) : Prop := (k = 1 → j = 1 → x ≤ 2000) ∧ (k = 1 → j = 2 → 0 ≤ x) ∧ (k = 2 → 0 ≤ x ∧ x < 256) ∧ (k = 3 → j = 1 → 0 ≤ x ∧ x < 50) ∧ (k = 3 → j = 2 → 0 ≤ x ∧ x ≤ 50) ∧ (k = 5 → j = 3 → 0 ≤ x ∧ x ≤ 100) ∧ (k = 11 → x ≤ 15) ∧ (k = 14 → j = 2 → 0 ≤ x ∧ x ≤ 100) ∧ (k = 14 → j = 3 → 0 ≤ x ∧ x ≤ 12) ∧ (16 ≤ k → k < 40 → k % 2 = 0 → (j = 1 → x ≤ 15) ∧ (j = 2 → 0 ≤ x ∧ x < 8) ∧ (j = 5 → 0 ≤ x ∧ x ≤ 100)) ∧ (k = 41 → j = 1 → 0 ≤ x ∧ x ≤ 120)
/-- what a run keeps -/
def yKp (k j : Nat) : Prop := k = 0 ∨ k = 1 ∨ (5 ≤ k ∧ k ≤ 12) ∨ k = 15 ∨ 45 ≤ k ∨ (k = 13 ∧ (j = 7 ∨ j = 8))
def yR (σ0 σ : zS) : Prop := (∀ k j, yRg k j (σ k j).toInt) ∧ (σ 1 2).toInt ≤ (σ 1 1).toInt ∧ ∀ k j, yKp k j → σ k j = σ0 k j
def ySt (k j : Nat) (v : Int32) : Prop := ¬ yKp k j ∧ yRg k j v.toInt
theorem zu_rd (σ : zS) (k j : Nat) (v : Int32) (k2 j2 : Nat) : zu σ k j v k2 j2 = if k2 = k ∧ j2 = j then v else σ k2 j2 := by
  by_cases hk : k2 = k
  · subst hk
    rw [zu_at]
    by_cases hj : j2 = j
    · subst hj; rw [upd_at, if_pos ⟨rfl, rfl⟩]
    · rw [upd_ne _ _ hj, if_neg (fun q => hj q.2)]
  · rw [zu_ne _ _ _ hk, if_neg (fun q => hk q.1)]
theorem R_zu {σ0 σ : zS} {k j : Nat} {v : Int32} (h : yR σ0 σ) (hs : ySt k j v) : yR σ0 (zu σ k j v) := by
  obtain ⟨h1, h2, h3⟩ := h
  obtain ⟨s1, s2⟩ := hs
  have hk1 : k ≠ 1 := fun q => s1 (Or.inr (Or.inl q))
  refine ⟨fun k2 j2 => ?_, ?_, fun k2 j2 hk => ?_⟩
  · rw [zu_rd]
    by_cases q : k2 = k ∧ j2 = j
    · rw [if_pos q, q.1, q.2]; exact s2
    · rw [if_neg q]; exact h1 k2 j2
  · rw [zu_rd, zu_rd, if_neg (by omega), if_neg (by omega)]; exact h2
  · rw [zu_rd, if_neg (fun q => s1 (by rw [← q.1, ← q.2]; exact hk))]
    exact h3 k2 j2 hk
theorem R_zr {σ0 σ : zS} {k : Nat} {f : Nat → Int32} (h : yR σ0 σ) (hs : ∀ j, ySt k j (f j)) : yR σ0 (zr σ k f) := by
  obtain ⟨h1, h2, h3⟩ := h
  have hk1 : k ≠ 1 := fun q => (hs 0).1 (Or.inr (Or.inl q))
  refine ⟨fun k2 j2 => ?_, ?_, fun k2 j2 hk => ?_⟩
  · by_cases q : k2 = k
    · rw [q, zr_at]; exact (hs j2).2
    · rw [zr_ne _ _ q]; exact h1 k2 j2
  · rw [zr_ne _ _ (Ne.symm hk1)]; exact h2
  · rw [zr_ne _ _ (fun q => (hs j2).1 (by rw [← q]; exact hk))]
    exact h3 k2 j2 hk
section yTs
variable {ρ : Type} {Q : ρ → zS → Prop} {σ0 σ : zS}
theorem q_some {r : ρ} {τ : zS} (h : Q r τ) : yT (some (r, τ)) Q := ⟨r, τ, rfl, h⟩
theorem q_lt {a b : Int32} {P1 P2 : Option (ρ × zS)} (h1 : a.toInt < b.toInt → yT P1 Q) (h2 : b.toInt ≤ a.toInt → yT P2 Q) : yT (if a < b then P1 else P2) Q := by
  by_cases h : a < b
  · rw [if_pos h]; exact h1 ((i_lt a b).mp h)
  · rw [if_neg h]; exact h2 (by rw [i_lt] at h; omega)
theorem q_le {a b : Int32} {P1 P2 : Option (ρ × zS)} (h1 : a.toInt ≤ b.toInt → yT P1 Q) (h2 : b.toInt < a.toInt → yT P2 Q) : yT (if a ≤ b then P1 else P2) Q := by
  by_cases h : a ≤ b
  · rw [if_pos h]; exact h1 ((i_le a b).mp h)
  · rw [if_neg h]; exact h2 (by rw [i_le] at h; omega)
theorem q_eq {a b : Int32} {P1 P2 : Option (ρ × zS)} (h1 : a.toInt = b.toInt → yT P1 Q) (h2 : ¬ a.toInt = b.toInt → yT P2 Q) : yT (if a = b then P1 else P2) Q := by
  by_cases h : a = b
  · rw [if_pos h]; exact h1 ((i_eq a b).mp h)
  · rw [if_neg h]; exact h2 (by rw [i_eq] at h; exact h)
theorem q_c {i : Int32} {n : Nat} {P : Option (ρ × zS)} (h0 : 0 ≤ i.toInt) (h1 : i.toInt < n) (h : yT P Q) : yT (zc i n P) Q := by
  rw [zc_ok h0 h1]; exact h
theorem q_d {y : Int32} {P : Option (ρ × zS)} (h0 : y.toInt ≠ 0) (h : yT P Q) : yT (zd y P) Q := by
  rw [zd_ok h0]; exact h
theorem q_cp {a b c : Int32} {n m : Nat} {P : Option (ρ × zS)} (h1 : 0 ≤ a.toInt) (h2 : 0 ≤ b.toInt) (h3 : 0 ≤ c.toInt) (h4 : a.toInt + c.toInt ≤ n) (h5 : b.toInt + c.toInt ≤ m) (h : yT P Q) : yT (zcp a b c n m P) Q := by
  rw [zcp_ok h1 h2 h3 h4 h5]; exact h
theorem q_lv {a : Int32} {K : Int32 → Option (ρ × zS)} (k : ∀ v : Int32, v.toInt = a.toInt → yT (K v) Q) : yT (zlet a K) Q := k a rfl
theorem q_zu {k j : Nat} {v : Int32} {K : zS → Option (ρ × zS)} (h : yR σ0 σ) (hs : ySt k j v) (kk : ∀ τ, yR σ0 τ → (τ k j).toInt = v.toInt → (∀ k2 j2, k2 ≠ k ∨ j2 ≠ j → τ k2 j2 = σ k2 j2) → yT (K τ) Q) : yT (zlet (zu σ k j v) K) Q := by
  refine kk _ (R_zu h hs) ?_ (fun k2 j2 hk => ?_)
  · rw [zu_rd, if_pos ⟨rfl, rfl⟩]
  · rw [zu_rd, if_neg (by omega)]
theorem q_zr {k : Nat} {f : Nat → Int32} {K : zS → Option (ρ × zS)} (h : yR σ0 σ) (hs : ∀ j, ySt k j (f j)) (kk : ∀ τ, yR σ0 τ → (∀ k2 j2, k2 ≠ k → τ k2 j2 = σ k2 j2) → yT (K τ) Q) : yT (zlet (zr σ k f) K) Q :=
  kk _ (R_zr h hs) (fun k2 j2 hk => by rw [zr_ne _ _ hk])
theorem q_bindp {α : Type} {q : Option (α × zS)} {K : α → zS → Option (ρ × zS)} {R : α → Prop} (h : yT q (fun r τ => τ = σ ∧ R r)) (k : ∀ r, R r → yT (K r σ) Q) : yT (zbind q K) Q := by
  obtain ⟨r, τ, e, e2, hr⟩ := h
  rw [e]; subst e2; exact k r hr
theorem q_binds {α : Type} {q : Option (α × zS)} {K : α → zS → Option (ρ × zS)} {R : α → zS → Prop} (h : yT q (fun r τ => yR σ0 τ ∧ R r τ)) (k : ∀ r τ, yR σ0 τ → R r τ → yT (K r τ) Q) : yT (zbind q K) Q := by
  obtain ⟨r, τ, e, e2, hr⟩ := h
  rw [e]; exact k r τ e2 hr
theorem q_bindr {q : Option (Option Nat × zS)} {K : Option Nat → zS → Option (ρ × zS)} {N : Nat} (h : ∃ i, i < N ∧ q = some (some i, σ)) (k : ∀ i, i < N → yT (K (some i) σ) Q) : yT (zbind q K) Q := by
  obtain ⟨i, hi, e⟩ := h
  rw [e]; exact k i hi
theorem q_op {i N : Nat} {P : Option (ρ × zS)} {K : Nat → Option (ρ × zS)} (h : i < N) (k : yT (K i) Q) : yT (zop (some i) N P K) Q := by
  show yT (if i < N then K i else none) Q
  rw [if_pos h]; exact k
theorem q_ops {r : Option Nat} {N : Nat} {P : Option (ρ × zS)} {K : Nat → Option (ρ × zS)} (h : ∀ i, r = some i → i < N) (h1 : r = none → yT P Q) (k : ∀ i, i < N → yT (K i) Q) : yT (zop r N P K) Q := by
  cases r with
  | none => exact h1 rfl
  | some i => exact q_op (h i rfl) (k i (h i rfl))
theorem q_w {P : Option (ρ × zS)} {R : ρ → zS → Prop} (h : yT P R) (k : ∀ r τ, R r τ → Q r τ) : yT P Q := by
  obtain ⟨r, τ, e, hr⟩ := h
  exact ⟨r, τ, e, k r τ hr⟩
end yTs
/-! numbers again -/
theorem i_mulk {a b : Int32} {k : Int} (ha : a.toInt = k) (h1 : -2147483648 ≤ k * b.toInt) (h2 : k * b.toInt < 2147483648) : (a * b).toInt = k * b.toInt := by
  rw [← ha] at h1 h2 ⊢
  exact i_mul h1 h2
theorem i_div {a b : Int32} {m : Int} (hb : b.toInt = m) (h0 : 0 ≤ a.toInt) (hm : 0 < m) : (a / b).toInt = a.toInt / m := by
  have h1 := i_hi a
  have h2 := i_hi b
  have h3 : a.toInt / m ≤ a.toInt := Int.ediv_le_self _ h0
  have h4 : 0 ≤ a.toInt / m := Int.ediv_nonneg h0 (by omega)
  rw [Int32.toInt_div, hb, Int.tdiv_eq_ediv_of_nonneg h0]
  exact i_bm (by omega) (by omega)
theorem i_mod {a b : Int32} {m : Int} (hb : b.toInt = m) (h0 : 0 ≤ a.toInt) (hm : 0 < m) : 0 ≤ (a - a / b * b).toInt ∧ (a - a / b * b).toInt < m ∧ (a - a / b * b).toInt = a.toInt % m := by
  have h1 := i_hi a
  have h2 := i_div hb h0 hm
  have h3 : a.toInt / m * m + a.toInt % m = a.toInt := Int.ediv_mul_add_emod _ _
  have h4 : 0 ≤ a.toInt % m := Int.emod_nonneg _ (by omega)
  have h5 : a.toInt % m < m := Int.emod_lt_of_pos _ hm
  have h6 : 0 ≤ a.toInt / m * m := Int.mul_nonneg (Int.ediv_nonneg h0 (by omega)) (by omega)
  have e1 : (a / b * b).toInt = a.toInt / m * m := by
    rw [i_mul (by rw [h2, hb]; omega) (by rw [h2, hb]; omega), h2, hb]
  have e2 : (a - a / b * b).toInt = a.toInt % m := by
    rw [i_sub (by rw [e1]; omega) (by rw [e1]; omega), e1]; omega
  rw [e2]
  exact ⟨h4, h5, rfl⟩
theorem i_127 (x : Int32) : 0 ≤ (x &&& 127).toInt ∧ (x &&& 127).toInt < 128 := by
  rw [i_and x 7 (by decide) (by omega)]
  omega
theorem i_itel (a b x y : Int32) : (a.toInt < b.toInt ∧ (if a < b then x else y).toInt = x.toInt) ∨ (b.toInt ≤ a.toInt ∧ (if a < b then x else y).toInt = y.toInt) := by
  by_cases h : a < b
  · rw [if_pos h]; exact Or.inl ⟨(i_lt a b).mp h, rfl⟩
  · rw [if_neg h]; rw [i_lt] at h; exact Or.inr ⟨by omega, rfl⟩
theorem i_itee (a b x y : Int32) : (a.toInt ≤ b.toInt ∧ (if a ≤ b then x else y).toInt = x.toInt) ∨ (b.toInt < a.toInt ∧ (if a ≤ b then x else y).toInt = y.toInt) := by
  by_cases h : a ≤ b
  · rw [if_pos h]; exact Or.inl ⟨(i_le a b).mp h, rfl⟩
  · rw [if_neg h]; rw [i_le] at h; exact Or.inr ⟨by omega, rfl⟩
theorem i_iteq (a b x y : Int32) : (a.toInt = b.toInt ∧ (if a = b then x else y).toInt = x.toInt) ∨ (a.toInt ≠ b.toInt ∧ (if a = b then x else y).toInt = y.toInt) := by
  by_cases h : a = b
  · rw [if_pos h]; exact Or.inl ⟨(i_eq a b).mp h, rfl⟩
  · rw [if_neg h]; rw [i_eq] at h; exact Or.inr ⟨h, rfl⟩
/-! the ranges one by one -/
section yAcc
variable {σ0 σ : zS}
theorem g_1_1 (h : yR σ0 σ) : 0 ≤ (σ 1 1).toInt ∧ (σ 1 1).toInt ≤ 2000 ∧ 0 ≤ (σ 1 2).toInt ∧ (σ 1 2).toInt ≤ (σ 1 1).toInt := by
  have a := (h.1 1 1).1 rfl rfl
  have b := (h.1 1 2).2.1 rfl rfl
  have c := h.2.1
  omega
theorem g_2 (h : yR σ0 σ) (j : Nat) : 0 ≤ (σ 2 j).toInt ∧ (σ 2 j).toInt < 256 := (h.1 2 j).2.2.1 rfl
theorem g_3_1 (h : yR σ0 σ) : 0 ≤ (σ 3 1).toInt ∧ (σ 3 1).toInt < 50 := (h.1 3 1).2.2.2.1 rfl rfl
theorem g_3_2 (h : yR σ0 σ) : 0 ≤ (σ 3 2).toInt ∧ (σ 3 2).toInt ≤ 50 := (h.1 3 2).2.2.2.2.1 rfl rfl
theorem g_5_3 (h : yR σ0 σ) : 0 ≤ (σ 5 3).toInt ∧ (σ 5 3).toInt ≤ 100 := (h.1 5 3).2.2.2.2.2.1 rfl rfl
theorem g_11 (h : yR σ0 σ) (j : Nat) : (σ 11 j).toInt ≤ 15 := (h.1 11 j).2.2.2.2.2.2.1 rfl
theorem g_14_2 (h : yR σ0 σ) : 0 ≤ (σ 14 2).toInt ∧ (σ 14 2).toInt ≤ 100 := (h.1 14 2).2.2.2.2.2.2.2.1 rfl rfl
theorem g_14_3 (h : yR σ0 σ) : 0 ≤ (σ 14 3).toInt ∧ (σ 14 3).toInt ≤ 12 := (h.1 14 3).2.2.2.2.2.2.2.2.1 rfl rfl
theorem g_f (h : yR σ0 σ) (i : Nat) (hi : i < 12) : (σ (16 + 2 * i) 1).toInt ≤ 15 ∧ 0 ≤ (σ (16 + 2 * i) 2).toInt ∧ (σ (16 + 2 * i) 2).toInt < 8 ∧ 0 ≤ (σ (16 + 2 * i) 5).toInt ∧ (σ (16 + 2 * i) 5).toInt ≤ 100 := by
  have q := fun j => (h.1 (16 + 2 * i) j).2.2.2.2.2.2.2.2.2.1 (by omega) (by omega) (by omega)
  exact ⟨(q 1).1 rfl, ((q 2).2.1 rfl).1, ((q 2).2.1 rfl).2, ((q 5).2.2 rfl).1, ((q 5).2.2 rfl).2⟩
theorem g_41_1 (h : yR σ0 σ) : 0 ≤ (σ 41 1).toInt ∧ (σ 41 1).toInt ≤ 120 := (h.1 41 1).2.2.2.2.2.2.2.2.2.2 rfl rfl
theorem ySt_free {k j : Nat} {v : Int32} (h1 : ¬ yKp k j) (h2 : k ≠ 2 ∧ k ≠ 3 ∧ k ≠ 14 ∧ ¬ (16 ≤ k ∧ k < 40 ∧ k % 2 = 0) ∧ k ≠ 41) : ySt k j v := by
  have k1 : k ≠ 1 := fun q => h1 (Or.inr (Or.inl q))
  have k5 : ¬ (5 ≤ k ∧ k ≤ 12) := fun q => h1 (Or.inr (Or.inr (Or.inl q)))
  obtain ⟨a2, a3, a14, a16, a41⟩ := h2
  exact ⟨h1, fun q => absurd q k1, fun q => absurd q k1, fun q => absurd q a2, fun q => absurd q a3, fun q => absurd q a3, fun q => absurd ⟨by rw [q]; decide, by rw [q]; decide⟩ k5, fun q => absurd ⟨by rw [q]; decide, by rw [q]; decide⟩ k5, fun q => absurd q a14, fun q => absurd q a14, fun q q2 q3 => absurd ⟨q, q2, q3⟩ a16, fun q => absurd q a41⟩
theorem ySt_2 {j : Nat} {v : Int32} (h : 0 ≤ v.toInt ∧ v.toInt < 256) : ySt 2 j v := by
  refine ⟨by unfold yKp; omega, fun q => ?_, fun q => ?_, fun _ => h, fun q => ?_, fun q => ?_, fun q => ?_, fun q => ?_, fun q => ?_, fun q => ?_, fun q => ?_, fun q => ?_⟩ <;> exact absurd q (by decide)
theorem ySt_3_1 {v : Int32} (h : 0 ≤ v.toInt ∧ v.toInt < 50) : ySt 3 1 v := ⟨by unfold yKp; omega, fun q => absurd q (by decide), fun q => absurd q (by decide), fun q => absurd q (by decide), fun _ _ => h, fun _ q => absurd q (by decide), fun q => absurd q (by decide), fun q => absurd q (by decide), fun q => absurd q (by decide), fun q => absurd q (by decide), fun q => absurd q (by decide), fun q => absurd q (by decide)⟩
theorem ySt_3_2 {v : Int32} (h : 0 ≤ v.toInt ∧ v.toInt ≤ 50) : ySt 3 2 v := ⟨by unfold yKp; omega, fun q => absurd q (by decide), fun q => absurd q (by decide), fun q => absurd q (by decide), fun _ q => absurd q (by decide), fun _ _ => h, fun q => absurd q (by decide), fun q => absurd q (by decide), fun q => absurd q (by decide), fun q => absurd q (by decide), fun q => absurd q (by decide), fun q => absurd q (by decide)⟩
theorem ySt_3_3 {v : Int32} : ySt 3 3 v := ⟨by unfold yKp; omega, fun q => absurd q (by decide), fun q => absurd q (by decide), fun q => absurd q (by decide), fun _ q => absurd q (by decide), fun _ q => absurd q (by decide), fun q => absurd q (by decide), fun q => absurd q (by decide), fun q => absurd q (by decide), fun q => absurd q (by decide), fun q => absurd q (by decide), fun q => absurd q (by decide)⟩
theorem ySt_3_4 {v : Int32} : ySt 3 4 v := ⟨by unfold yKp; omega, fun q => absurd q (by decide), fun q => absurd q (by decide), fun q => absurd q (by decide), fun _ q => absurd q (by decide), fun _ q => absurd q (by decide), fun q => absurd q (by decide), fun q => absurd q (by decide), fun q => absurd q (by decide), fun q => absurd q (by decide), fun q => absurd q (by decide), fun q => absurd q (by decide)⟩
theorem ySt_3_5 {v : Int32} : ySt 3 5 v := ⟨by unfold yKp; omega, fun q => absurd q (by decide), fun q => absurd q (by decide), fun q => absurd q (by decide), fun _ q => absurd q (by decide), fun _ q => absurd q (by decide), fun q => absurd q (by decide), fun q => absurd q (by decide), fun q => absurd q (by decide), fun q => absurd q (by decide), fun q => absurd q (by decide), fun q => absurd q (by decide)⟩
theorem ySt_3_6 {v : Int32} : ySt 3 6 v := ⟨by unfold yKp; omega, fun q => absurd q (by decide), fun q => absurd q (by decide), fun q => absurd q (by decide), fun _ q => absurd q (by decide), fun _ q => absurd q (by decide), fun q => absurd q (by decide), fun q => absurd q (by decide), fun q => absurd q (by decide), fun q => absurd q (by decide), fun q => absurd q (by decide), fun q => absurd q (by decide)⟩
theorem ySt_14_2 {v : Int32} (h : 0 ≤ v.toInt ∧ v.toInt ≤ 100) : ySt 14 2 v := ⟨by unfold yKp; omega, fun q => absurd q (by decide), fun q => absurd q (by decide), fun q => absurd q (by decide), fun q => absurd q (by decide), fun q => absurd q (by decide), fun q => absurd q (by decide), fun q => absurd q (by decide), fun _ _ => h, fun _ q => absurd q (by decide), fun q => absurd q (by decide), fun q => absurd q (by decide)⟩
theorem ySt_14_3 {v : Int32} (h : 0 ≤ v.toInt ∧ v.toInt ≤ 12) : ySt 14 3 v := ⟨by unfold yKp; omega, fun q => absurd q (by decide), fun q => absurd q (by decide), fun q => absurd q (by decide), fun q => absurd q (by decide), fun q => absurd q (by decide), fun q => absurd q (by decide), fun q => absurd q (by decide), fun _ q => absurd q (by decide), fun _ _ => h, fun q => absurd q (by decide), fun q => absurd q (by decide)⟩
theorem ySt_14_4 {v : Int32} : ySt 14 4 v := ⟨by unfold yKp; omega, fun q => absurd q (by decide), fun q => absurd q (by decide), fun q => absurd q (by decide), fun q => absurd q (by decide), fun q => absurd q (by decide), fun q => absurd q (by decide), fun q => absurd q (by decide), fun _ q => absurd q (by decide), fun _ q => absurd q (by decide), fun q => absurd q (by decide), fun q => absurd q (by decide)⟩
theorem ySt_41_1 {v : Int32} (h : 0 ≤ v.toInt ∧ v.toInt ≤ 120) : ySt 41 1 v := ⟨by unfold yKp; omega, fun q => absurd q (by decide), fun q => absurd q (by decide), fun q => absurd q (by decide), fun q => absurd q (by decide), fun q => absurd q (by decide), fun q => absurd q (by decide), fun q => absurd q (by decide), fun q => absurd q (by decide), fun q => absurd q (by decide), fun _ q => absurd q (by decide), fun _ _ => h⟩
theorem ySt_f {i j : Nat} {v : Int32} (hi : i < 12) (h : (j = 1 → v.toInt ≤ 15) ∧ (j = 2 → 0 ≤ v.toInt ∧ v.toInt < 8) ∧ (j = 5 → 0 ≤ v.toInt ∧ v.toInt ≤ 100)) : ySt (16 + 2 * i) j v := by
  refine ⟨by unfold yKp; omega, fun q => absurd q (by omega), fun q => absurd q (by omega), fun q => absurd q (by omega), fun q => absurd q (by omega), fun q => absurd q (by omega), fun q => absurd q (by omega), fun q => absurd q (by omega), fun q => absurd q (by omega), fun q => absurd q (by omega), fun _ _ _ => h, fun q => absurd q (by omega)⟩
theorem ySt_cpy (h : yR σ0 σ) (a b n j : Nat) : ySt 2 j (va_cpy (σ 2) (σ 2) a b n j) := by
  have hb : 0 ≤ (va_cpy (σ 2) (σ 2) a b n j).toInt ∧ (va_cpy (σ 2) (σ 2) a b n j).toInt < 256 := by
    unfold va_cpy
    split
    · exact g_2 h _
    · exact g_2 h _
  exact ySt_2 hb
theorem gd_b (m : Int) (hm : 0 ≤ m) : ∀ (l : List Int32), (∀ x ∈ l, 0 ≤ x.toInt ∧ x.toInt ≤ m) → ∀ n, 0 ≤ (l.getD n 0).toInt ∧ (l.getD n 0).toInt ≤ m := by
  intro l
  induction l with
  | nil => intro _ n; exact ⟨Int.le_refl _, hm⟩
  | cons a l ih =>
    intro h n
    cases n with
    | zero => exact h a List.mem_cons_self
    | succ n => exact ih (fun x hx => h x (List.mem_cons_of_mem _ hx)) n
theorem tb_0_b (n : Nat) : 0 ≤ (tb_0 n).toInt ∧ (tb_0 n).toInt ≤ 3 := gd_b 3 (by decide) _ (by decide) n
end yAcc
