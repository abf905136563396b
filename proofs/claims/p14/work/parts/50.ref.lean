/-! the reference: ranges, what a run keeps, and that its frames' bases rise -/
def y8lo (k j : Nat) : Int := if k = 45 then (if j = 2 then 0 else if j = 3 then 0 else if j = 11 then 0 else if j = 14 then 0 else if j = 22 then 0 else if j = 29 then 0 else if j = 31 then 0 else if j = 33 then 0 else if j = 39 then 0 else -2147483648) else if k = 46 then 0 else if k = 48 then 0 else if k = 53 then 0 else if k = 56 then 0 else if k = 57 then 0 else if k = 59 then 0 else if k = 60 then 0 else if k = 61 then 0 else -2147483648
def y8hi (B : Int) (k j : Nat) : Int := if k = 45 then (if j = 2 then 2000 else if j = 3 then 2000 else if j = 11 then 50 else if j = 14 then 100 else if j = 22 then 12 else if j = 29 then 100 else if j = 31 then 120 else if j = 33 then 300 else if j = 39 then 12 else 2147483647) else if k = 46 then 255 else if k = 48 then 255 else if k = 50 then 65535 else if k = 53 then 99 else if k = 54 then 15 else if k = 56 then 7 else if k = 57 then B else if k = 59 then 100 else if k = 60 then 65535 else if k = 61 then 65535 else 2147483647
def y8L (k j : Nat) : Prop := k < 45 ∨ 64 ≤ k ∨ (49 ≤ k ∧ k ≤ 55) ∨ (k = 45 ∧ (j = 0 ∨ j = 2 ∨ j = 3 ∨ j = 4 ∨ j = 5 ∨ j = 14 ∨ j = 33))
def y8K (k j : Nat) : Prop := k < 45 ∨ 64 ≤ k ∨ (49 ≤ k ∧ k ≤ 55) ∨ (k = 45 ∧ (j = 0 ∨ j = 2 ∨ j = 3 ∨ j = 4 ∨ j = 5 ∨ j = 14 ∨ j = 33 ∨ j = 39 ∨ j = 40))
def y8M (σ : zS) : Prop := ∀ i j : Nat, i ≤ j → (j : Int) < (σ 45 22).toInt → (σ 59 i).toInt ≤ (σ 59 j).toInt ∧ (σ 59 j).toInt ≤ (σ 45 29).toInt
def yR8 (B F : Int) (σ0 σ : zS) : Prop := (∀ k j, y8lo k j ≤ (σ k j).toInt ∧ (σ k j).toInt ≤ y8hi B k j) ∧ (σ 45 3).toInt ≤ (σ 45 2).toInt ∧ (∀ k j, y8K k j → σ k j = σ0 k j) ∧ y8M σ ∧ (σ 45 22).toInt = F ∧ 65536 ≤ B ∧ B ≤ 1000000
def y8St (B : Int) (k j : Nat) (v : Int32) : Prop := (¬ y8K k j) ∧ (k ≠ 59 ∧ ¬ (k = 45 ∧ (j = 22 ∨ j = 29))) ∧ y8lo k j ≤ v.toInt ∧ v.toInt ≤ y8hi B k j
section yRef
variable {B F : Int} {σ0 σ : zS}
theorem R8_rg {k j : Nat} {v : Int32} (h : ∀ k j, y8lo k j ≤ (σ k j).toInt ∧ (σ k j).toInt ≤ y8hi B k j) (hv : y8lo k j ≤ v.toInt ∧ v.toInt ≤ y8hi B k j) : ∀ k2 j2, y8lo k2 j2 ≤ (zu σ k j v k2 j2).toInt ∧ (zu σ k j v k2 j2).toInt ≤ y8hi B k2 j2 := by
  intro k2 j2
  rw [zu_rd]
  by_cases q : k2 = k ∧ j2 = j
  · rw [if_pos q, q.1, q.2]; exact hv
  · rw [if_neg q]; exact h k2 j2
theorem R8_kp {k j : Nat} {v : Int32} (h : ∀ k j, y8K k j → σ k j = σ0 k j) (hk : ¬ y8K k j) : ∀ k2 j2, y8K k2 j2 → zu σ k j v k2 j2 = σ0 k2 j2 := by
  intro k2 j2 q
  rw [zu_rd, if_neg (fun e => hk (by rw [← e.1, ← e.2]; exact q))]
  exact h k2 j2 q
theorem R8_sz {k j : Nat} {v : Int32} (h : (σ 45 3).toInt ≤ (σ 45 2).toInt) (hk : ¬ y8K k j) : (zu σ k j v 45 3).toInt ≤ (zu σ k j v 45 2).toInt := by
  rw [zu_rd, zu_rd, if_neg (fun e => hk (by unfold y8K; omega)), if_neg (fun e => hk (by unfold y8K; omega))]
  exact h
theorem R8_zu {k j : Nat} {v : Int32} (h : yR8 B F σ0 σ) (hs : y8St B k j v) : yR8 B F σ0 (zu σ k j v) := by
  obtain ⟨h1, h2, h3, h4, h5, h6⟩ := h
  obtain ⟨s1, s2, s3⟩ := hs
  refine ⟨R8_rg h1 s3, R8_sz h2 s1, R8_kp h3 s1, ?_, ?_, h6⟩
  · intro i i2 hi hj
    rw [zu_rd, if_neg (by omega)] at hj
    rw [zu_rd, zu_rd, zu_rd, if_neg (by omega), if_neg (by omega), if_neg (by omega)]
    exact h4 i i2 hi hj
  · rw [zu_rd, if_neg (by omega)]; exact h5
/-- how high the stack is -/
theorem R8_hi {v : Int32} (h : yR8 B F σ0 σ) (hv : 0 ≤ v.toInt ∧ v.toInt ≤ 100) (hm : ∀ j : Nat, (j : Int) < F → (σ 59 j).toInt ≤ v.toInt) : yR8 B F σ0 (zu σ 45 29 v) := by
  obtain ⟨h1, h2, h3, h4, h5, h6⟩ := h
  refine ⟨R8_rg h1 hv, R8_sz h2 (by unfold y8K; omega), R8_kp h3 (by unfold y8K; omega), ?_, ?_, h6⟩
  · intro i i2 hi hj
    rw [zu_rd, if_neg (by omega)] at hj
    rw [zu_rd, zu_rd, zu_rd, if_neg (by omega), if_neg (by omega), if_pos ⟨rfl, rfl⟩]
    exact ⟨(h4 i i2 hi hj).1, hm i2 (by omega)⟩
  · rw [zu_rd, if_neg (by omega)]; exact h5
/-- a frame less -/
theorem R8_fr {v : Int32} (h : yR8 B F σ0 σ) (hv : 0 ≤ v.toInt ∧ v.toInt ≤ F) : yR8 B v.toInt σ0 (zu σ 45 22 v) := by
  obtain ⟨h1, h2, h3, h4, h5, h6⟩ := h
  have h7 : (σ 45 22).toInt ≤ 12 := (h1 45 22).2
  refine ⟨R8_rg h1 (show 0 ≤ v.toInt ∧ v.toInt ≤ 12 by omega), R8_sz h2 (by unfold y8K; omega), R8_kp h3 (by unfold y8K; omega), ?_, ?_, h6⟩
  · intro i i2 hi hj
    rw [zu_rd, if_pos ⟨rfl, rfl⟩] at hj
    rw [zu_rd, zu_rd, zu_rd, if_neg (by omega), if_neg (by omega), if_neg (by omega)]
    exact h4 i i2 hi (by omega)
  · rw [zu_rd, if_pos ⟨rfl, rfl⟩]
/-- a frame more -/
theorem R8_up {v : Int32} (h : yR8 B F σ0 σ) (e : (σ 59 F.toNat).toInt = (σ 45 29).toInt) (hF : F < 12) (hv : v.toInt = F + 1) : yR8 B (F + 1) σ0 (zu σ 45 22 v) := by
  obtain ⟨h1, h2, h3, h4, h5, h6⟩ := h
  have h7 : 0 ≤ (σ 45 22).toInt := (h1 45 22).1
  refine ⟨R8_rg h1 (show 0 ≤ v.toInt ∧ v.toInt ≤ 12 by omega), R8_sz h2 (by unfold y8K; omega), R8_kp h3 (by unfold y8K; omega), ?_, ?_, h6⟩
  · intro i i2 hi hj
    rw [zu_rd, if_pos ⟨rfl, rfl⟩] at hj
    rw [zu_rd, zu_rd, zu_rd, if_neg (by omega), if_neg (by omega), if_neg (by omega)]
    by_cases q : (i2 : Int) < F
    · exact h4 i i2 hi (by omega)
    · have q2 : i2 = F.toNat := by omega
      by_cases q3 : i = i2
      · subst q3; rw [q2]; exact ⟨Int.le_refl _, by omega⟩
      · have q4 := (h4 i i (Nat.le_refl _) (by omega)).2
        rw [q2]; exact ⟨by omega, by omega⟩
  · rw [zu_rd, if_pos ⟨rfl, rfl⟩]; exact hv
/-- the base of a frame that is to be -/
theorem R8_59 {j : Nat} {v : Int32} (h : yR8 B F σ0 σ) (hj : F ≤ (j : Int)) (hv : 0 ≤ v.toInt ∧ v.toInt ≤ 100) : yR8 B F σ0 (zu σ 59 j v) := by
  obtain ⟨h1, h2, h3, h4, h5, h6⟩ := h
  refine ⟨R8_rg h1 hv, R8_sz h2 (by unfold y8K; omega), R8_kp h3 (by unfold y8K; omega), ?_, ?_, h6⟩
  · intro i i2 hi hj2
    rw [zu_rd, if_neg (by omega)] at hj2
    rw [zu_rd, zu_rd, zu_rd, if_neg (by omega), if_neg (by omega), if_neg (by omega)]
    exact h4 i i2 hi hj2
  · rw [zu_rd, if_neg (by omega)]; exact h5
theorem R8_B {B2 : Int} (h : yR8 B F σ0 σ) (hB : B ≤ B2) (hB2 : B2 ≤ 1000000) : yR8 B2 F σ0 σ := by
  obtain ⟨h1, h2, h3, h4, h5, h6⟩ := h
  refine ⟨fun k j => ⟨(h1 k j).1, Int.le_trans (h1 k j).2 ?_⟩, h2, h3, h4, h5, by omega⟩
  by_cases q : k = 57
  · subst q
    exact hB
  · exact Int.le_of_eq (by unfold y8hi; simp only [if_neg q])
theorem q_zu8 {ρ : Type} {Q : ρ → zS → Prop} {k j : Nat} {v : Int32} {K : zS → Option (ρ × zS)} (h : yR8 B F σ0 σ) (hs : y8St B k j v) (kk : ∀ τ, yR8 B F σ0 τ → (τ k j).toInt = v.toInt → (∀ k2 j2, k2 ≠ k ∨ j2 ≠ j → τ k2 j2 = σ k2 j2) → yT (K τ) Q) : yT (zlet (zu σ k j v) K) Q := by
  refine kk _ (R8_zu h hs) ?_ (fun k2 j2 hk => ?_)
  · rw [zu_rd, if_pos ⟨rfl, rfl⟩]
  · rw [zu_rd, if_neg (by omega)]
theorem q_bindR {ρ : Type} {Q : ρ → zS → Prop} {α : Type} {q : Option (α × zS)} {K : α → zS → Option (ρ × zS)} {Rl : zS → Prop} {R : α → zS → Prop} (h : yT q (fun r τ => Rl τ ∧ R r τ)) (k : ∀ r τ, Rl τ → R r τ → yT (K r τ) Q) : yT (zbind q K) Q := by
  obtain ⟨r, τ, e, e2, hr⟩ := h
  rw [e]; exact k r τ e2 hr
theorem e_sz (h : yR8 B F σ0 σ) : 0 ≤ (σ 45 2).toInt ∧ (σ 45 2).toInt ≤ 2000 ∧ 0 ≤ (σ 45 3).toInt ∧ (σ 45 3).toInt ≤ (σ 45 2).toInt := ⟨(h.1 45 2).1, (h.1 45 2).2, (h.1 45 3).1, h.2.1⟩
theorem e_22 (h : yR8 B F σ0 σ) : 0 ≤ (σ 45 22).toInt ∧ (σ 45 22).toInt ≤ 12 ∧ (σ 45 22).toInt = F := ⟨(h.1 45 22).1, (h.1 45 22).2, h.2.2.2.2.1⟩
theorem e_59 (h : yR8 B F σ0 σ) (j : Nat) : 0 ≤ (σ 59 j).toInt ∧ (σ 59 j).toInt ≤ 100 ∧ ((j : Int) < F → (σ 59 j).toInt ≤ (σ 45 29).toInt) := ⟨(h.1 59 j).1, (h.1 59 j).2, fun q => (h.2.2.2.1 j j (Nat.le_refl _) (by rw [h.2.2.2.2.1]; exact q)).2⟩
theorem e_57 (h : yR8 B F σ0 σ) (j : Nat) : 0 ≤ (σ 57 j).toInt ∧ (σ 57 j).toInt ≤ B ∧ 65536 ≤ B ∧ B ≤ 1000000 := ⟨(h.1 57 j).1, (h.1 57 j).2, h.2.2.2.2.2⟩
theorem e_11 (h : yR8 B F σ0 σ) : 0 ≤ (σ 45 11).toInt ∧ (σ 45 11).toInt ≤ 50 := h.1 45 11
theorem e_14 (h : yR8 B F σ0 σ) : 0 ≤ (σ 45 14).toInt ∧ (σ 45 14).toInt ≤ 100 := h.1 45 14
theorem e_29 (h : yR8 B F σ0 σ) : 0 ≤ (σ 45 29).toInt ∧ (σ 45 29).toInt ≤ 100 := h.1 45 29
theorem e_31 (h : yR8 B F σ0 σ) : 0 ≤ (σ 45 31).toInt ∧ (σ 45 31).toInt ≤ 120 := h.1 45 31
theorem e_33 (h : yR8 B F σ0 σ) : 0 ≤ (σ 45 33).toInt ∧ (σ 45 33).toInt ≤ 300 := h.1 45 33
theorem e_39 (h : yR8 B F σ0 σ) : 0 ≤ (σ 45 39).toInt ∧ (σ 45 39).toInt ≤ 12 := h.1 45 39
theorem c_46 (h : yR8 B F σ0 σ) (j : Nat) : 0 ≤ (σ 46 j).toInt ∧ (σ 46 j).toInt ≤ 255 := h.1 46 j
theorem c_48 (h : yR8 B F σ0 σ) (j : Nat) : 0 ≤ (σ 48 j).toInt ∧ (σ 48 j).toInt ≤ 255 := h.1 48 j
theorem c_50 (h : yR8 B F σ0 σ) (j : Nat) : (σ 50 j).toInt ≤ 65535 := (h.1 50 j).2
theorem c_53 (h : yR8 B F σ0 σ) (j : Nat) : 0 ≤ (σ 53 j).toInt ∧ (σ 53 j).toInt ≤ 99 := h.1 53 j
theorem c_54 (h : yR8 B F σ0 σ) (j : Nat) : (σ 54 j).toInt ≤ 15 := (h.1 54 j).2
theorem c_56 (h : yR8 B F σ0 σ) (j : Nat) : 0 ≤ (σ 56 j).toInt ∧ (σ 56 j).toInt ≤ 7 := h.1 56 j
theorem c_60 (h : yR8 B F σ0 σ) (j : Nat) : 0 ≤ (σ 60 j).toInt ∧ (σ 60 j).toInt ≤ 65535 := h.1 60 j
theorem c_61 (h : yR8 B F σ0 σ) (j : Nat) : 0 ≤ (σ 61 j).toInt ∧ (σ 61 j).toInt ≤ 65535 := h.1 61 j
theorem s_45_11 {v : Int32} (h : 0 ≤ v.toInt ∧ v.toInt ≤ 50) : y8St B 45 11 v := ⟨by unfold y8K; omega, by omega, h⟩
theorem s_45_31 {v : Int32} (h : 0 ≤ v.toInt ∧ v.toInt ≤ 120) : y8St B 45 31 v := ⟨by unfold y8K; omega, by omega, h⟩
theorem s_46 {j : Nat} {v : Int32} (h : 0 ≤ v.toInt ∧ v.toInt ≤ 255) : y8St B 46 j v := ⟨by unfold y8K; omega, by omega, h⟩
theorem s_48 {j : Nat} {v : Int32} (h : 0 ≤ v.toInt ∧ v.toInt ≤ 255) : y8St B 48 j v := ⟨by unfold y8K; omega, by omega, h⟩
theorem s_56 {j : Nat} {v : Int32} (h : 0 ≤ v.toInt ∧ v.toInt ≤ 7) : y8St B 56 j v := ⟨by unfold y8K; omega, by omega, h⟩
theorem s_57 {j : Nat} {v : Int32} (h : 0 ≤ v.toInt ∧ v.toInt ≤ B) : y8St B 57 j v := ⟨by unfold y8K; omega, by omega, h⟩
theorem s_60 {j : Nat} {v : Int32} (h : 0 ≤ v.toInt ∧ v.toInt ≤ 65535) : y8St B 60 j v := ⟨by unfold y8K; omega, by omega, h⟩
theorem s_61 {j : Nat} {v : Int32} (h : 0 ≤ v.toInt ∧ v.toInt ≤ 65535) : y8St B 61 j v := ⟨by unfold y8K; omega, by omega, h⟩
theorem s_45_6 {v : Int32} : y8St B 45 6 v := ⟨by unfold y8K; omega, by omega, i_lo v, Int.le_of_lt_add_one (i_hi v)⟩
theorem s_45_7 {v : Int32} : y8St B 45 7 v := ⟨by unfold y8K; omega, by omega, i_lo v, Int.le_of_lt_add_one (i_hi v)⟩
theorem s_45_8 {v : Int32} : y8St B 45 8 v := ⟨by unfold y8K; omega, by omega, i_lo v, Int.le_of_lt_add_one (i_hi v)⟩
theorem s_45_9 {v : Int32} : y8St B 45 9 v := ⟨by unfold y8K; omega, by omega, i_lo v, Int.le_of_lt_add_one (i_hi v)⟩
theorem s_45_12 {v : Int32} : y8St B 45 12 v := ⟨by unfold y8K; omega, by omega, i_lo v, Int.le_of_lt_add_one (i_hi v)⟩
theorem s_45_34 {v : Int32} : y8St B 45 34 v := ⟨by unfold y8K; omega, by omega, i_lo v, Int.le_of_lt_add_one (i_hi v)⟩
theorem s_45_35 {v : Int32} : y8St B 45 35 v := ⟨by unfold y8K; omega, by omega, i_lo v, Int.le_of_lt_add_one (i_hi v)⟩
theorem s_45_36 {v : Int32} : y8St B 45 36 v := ⟨by unfold y8K; omega, by omega, i_lo v, Int.le_of_lt_add_one (i_hi v)⟩
theorem s_45_37 {v : Int32} : y8St B 45 37 v := ⟨by unfold y8K; omega, by omega, i_lo v, Int.le_of_lt_add_one (i_hi v)⟩
theorem s_45_38 {v : Int32} : y8St B 45 38 v := ⟨by unfold y8K; omega, by omega, i_lo v, Int.le_of_lt_add_one (i_hi v)⟩
theorem s_47 {j : Nat} {v : Int32} : y8St B 47 j v := ⟨by unfold y8K; omega, by omega, i_lo v, Int.le_of_lt_add_one (i_hi v)⟩
theorem s_58 {j : Nat} {v : Int32} : y8St B 58 j v := ⟨by unfold y8K; omega, by omega, i_lo v, Int.le_of_lt_add_one (i_hi v)⟩
theorem s_62 {j : Nat} {v : Int32} : y8St B 62 j v := ⟨by unfold y8K; omega, by omega, i_lo v, Int.le_of_lt_add_one (i_hi v)⟩
theorem s_63 {j : Nat} {v : Int32} : y8St B 63 j v := ⟨by unfold y8K; omega, by omega, i_lo v, Int.le_of_lt_add_one (i_hi v)⟩
/-- a field that rests on nothing: the state is its own measure again -/
theorem R8_self {j : Nat} {v : Int32} (h : yR8 B F σ0 σ) (hj : j ≠ 2 ∧ j ≠ 3 ∧ j ≠ 22 ∧ j ≠ 29) (hv : y8lo 45 j ≤ v.toInt ∧ v.toInt ≤ y8hi B 45 j) : yR8 B F (zu σ 45 j v) (zu σ 45 j v) := by
  obtain ⟨h1, h2, h3, h4, h5, h6⟩ := h
  refine ⟨R8_rg h1 hv, ?_, fun _ _ _ => rfl, ?_, ?_, h6⟩
  · rw [zu_rd, zu_rd, if_neg (by omega), if_neg (by omega)]; exact h2
  · intro i i2 hi hj2
    rw [zu_rd, if_neg (by omega)] at hj2
    rw [zu_rd, zu_rd, zu_rd, if_neg (by omega), if_neg (by omega), if_neg (by omega)]
    exact h4 i i2 hi hj2
  · rw [zu_rd, if_neg (by omega)]; exact h5
theorem R8_own (h : yR8 B F σ0 σ) : yR8 B F σ σ := ⟨h.1, h.2.1, fun _ _ _ => rfl, h.2.2.2⟩
theorem y8_LK {k j : Nat} (h : y8L k j) : y8K k j := by unfold y8L at h; unfold y8K; omega
/-- what comes of an INSTRUCTION: a frame is there, or the run has ended -/
def yE (B : Int) (σ0 τ : zS) : Prop := (∃ F, yR8 B F τ τ ∧ ((τ 45 40).toInt < 0 → 1 ≤ F)) ∧ ∀ k j, y8L k j → τ k j = σ0 k j
theorem yE_k {τ : zS} (h : yR8 B F σ0 τ) (hF : 1 ≤ F) : yE B σ0 τ := ⟨⟨F, R8_own h, fun _ => hF⟩, fun k j q => h.2.2.1 k j (y8_LK q)⟩
theorem yE_tr {τ : zS} (h : yR8 B F σ0 σ) (e : yE B σ τ) : yE B σ0 τ := ⟨e.1, fun k j q => (e.2 k j q).trans (h.2.2.1 k j (y8_LK q))⟩
theorem yE_tr2 {σ1 τ : zS} (h : ∀ k j, y8L k j → σ1 k j = σ0 k j) (e : yE B σ1 τ) : yE B σ0 τ := ⟨e.1, fun k j q => (e.2 k j q).trans (h k j q)⟩
theorem yE_end {v : Int32} (h : yR8 B F σ0 σ) (hv : 0 ≤ v.toInt) : yE B σ0 (zu σ 45 40 v) := by
  refine ⟨⟨F, R8_self h (by omega) ⟨i_lo v, Int.le_of_lt_add_one (i_hi v)⟩, fun q => ?_⟩, fun k j q => ?_⟩
  · rw [zu_rd, if_pos ⟨rfl, rfl⟩] at q; omega
  · rw [zu_rd, if_neg (by unfold y8L at q; omega)]; exact h.2.2.1 k j (y8_LK q)
theorem q_es {ρ : Type} {Q : ρ → zS → Prop} {s : zS} {K : zS → Option (ρ × zS)} (k : ∀ τ, τ = s → yT (K τ) Q) : yT (zlet s K) Q := k s rfl
end yRef
