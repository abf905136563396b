/-! class and reference beside each other -/
theorem yR_of {σ0 σ τ : zS} (h : yR σ0 σ) (hk : ∀ k j, k < 45 → τ k j = σ k j) : yR τ τ := by
  refine ⟨fun k j => ?_, ?_, fun _ _ _ => rfl⟩
  · by_cases q : k < 45
    · rw [hk k j q]; exact h.1 k j
    · exact R_free (by omega)
  · rw [hk 1 2 (by omega), hk 1 1 (by omega)]; exact h.2.1
theorem y8lo_out {k j : Nat} (h : ¬ (45 ≤ k ∧ k < 64)) : y8lo k j = -2147483648 := by
  unfold y8lo
  rw [if_neg (by omega), if_neg (by omega), if_neg (by omega), if_neg (by omega), if_neg (by omega), if_neg (by omega), if_neg (by omega), if_neg (by omega), if_neg (by omega)]
theorem y8hi_out {B : Int} {k j : Nat} (h : ¬ (45 ≤ k ∧ k < 64)) : y8hi B k j = 2147483647 := by
  unfold y8hi
  rw [if_neg (by omega), if_neg (by omega), if_neg (by omega), if_neg (by omega), if_neg (by omega), if_neg (by omega), if_neg (by omega), if_neg (by omega), if_neg (by omega), if_neg (by omega), if_neg (by omega)]
theorem yR8_of {B F : Int} {σ0 σ τ : zS} (h : yR8 B F σ0 σ) (hk : ∀ k j, 45 ≤ k → k < 64 → τ k j = σ k j) : yR8 B F τ τ := by
  obtain ⟨h1, h2, h3, h4, h5, h6⟩ := h
  refine ⟨fun k j => ?_, ?_, fun _ _ _ => rfl, ?_, ?_, h6⟩
  · by_cases q : 45 ≤ k ∧ k < 64
    · rw [hk k j q.1 q.2]; exact h1 k j
    · exact fr8 (y8lo_out q) (y8hi_out q)
  · rw [hk 45 3 (by omega) (by omega), hk 45 2 (by omega) (by omega)]; exact h2
  · intro i i2 hi hj
    rw [hk 45 22 (by omega) (by omega)] at hj
    rw [hk 59 i (by omega) (by omega), hk 59 i2 (by omega) (by omega), hk 45 29 (by omega) (by omega)]
    exact h4 i i2 hi hj
  · rw [hk 45 22 (by omega) (by omega)]; exact h5
/-- what stands between two calls -/
def yL (B : Int) (σ : zS) : Prop := yR σ σ ∧ (∃ F, yR8 B F σ σ) ∧ σ 1 1 = σ 45 2 ∧ σ 1 2 = σ 45 3 ∧ σ 13 7 = σ 45 4 ∧ σ 13 8 = σ 45 5 ∧ σ 5 3 = σ 45 14
def yC (σ s : zS) : Prop := yR s s ∧ ∀ k j, (k = 1 ∨ k = 5 ∨ (k = 13 ∧ (j = 7 ∨ j = 8)) ∨ (45 ≤ k ∧ k < 64)) → s k j = σ k j
def y8P (B1 : Int) (s τ : zS) : Prop := (∃ F, yR8 B1 F τ τ) ∧ ∀ k j, y8N k j → τ k j = s k j
theorem yC_st {σ s : zS} (h : yR σ s) : yC σ s := ⟨R_own h, fun k j q => h.2.2 k j (by unfold yKp; omega)⟩
theorem yC_rf {σ : zS} (h : yR σ σ) : yC σ σ := ⟨h, fun _ _ _ => rfl⟩
theorem yL_8 {B : Int} {σ s : zS} (h : yL B σ) (h7 : yC σ s) : ∃ F, yR8 B F s s := by
  obtain ⟨-, ⟨F, hF⟩, -⟩ := h
  exact ⟨F, yR8_of hF (fun k j q1 q2 => h7.2 k j (Or.inr (Or.inr (Or.inr ⟨q1, q2⟩))))⟩
theorem yL_keep {B B1 : Int} {σ s τ : zS} (h : yL B σ) (h7 : yC σ s) (h8 : y8P B1 s τ) : yL B1 τ := by
  obtain ⟨hR, -, e1, e2, e3, e4, e5⟩ := h
  have k8 : ∀ k j, k < 45 → τ k j = s k j := fun k j q => h8.2 k j (Or.inl q)
  refine ⟨yR_of h7.1 k8, h8.1, ?_, ?_, ?_, ?_, ?_⟩
  · rw [k8 1 1 (by omega), h8.2 45 2 (by unfold y8N; omega), h7.2 1 1 (by omega), h7.2 45 2 (by omega)]; exact e1
  · rw [k8 1 2 (by omega), h8.2 45 3 (by unfold y8N; omega), h7.2 1 2 (by omega), h7.2 45 3 (by omega)]; exact e2
  · rw [k8 13 7 (by omega), h8.2 45 4 (by unfold y8N; omega), h7.2 13 7 (by omega), h7.2 45 4 (by omega)]; exact e3
  · rw [k8 13 8 (by omega), h8.2 45 5 (by unfold y8N; omega), h7.2 13 8 (by omega), h7.2 45 5 (by omega)]; exact e4
  · rw [k8 5 3 (by omega), h8.2 45 14 (by unfold y8N; omega), h7.2 5 3 (by omega), h7.2 45 14 (by omega)]; exact e5
theorem pairK {α β : Type} {P : Option (α × zS)} {K8 : zS → Option (β × zS)} {B B1 : Int} {σ : zS} {A : α → zS → Prop} {C : β → zS → zS → Prop} (h : yL B σ) (h7 : yT P (fun a s => yC σ s ∧ A a s)) (h8 : ∀ s F, yC σ s → yR8 B F s s → yT (K8 s) (fun b τ => y8P B1 s τ ∧ C b s τ)) : ∃ a s b τ, P = some (a, s) ∧ K8 s = some (b, τ) ∧ yL B1 τ ∧ A a s ∧ C b s τ := by
  obtain ⟨a, s, e1, c, ha⟩ := h7
  obtain ⟨F, R⟩ := yL_8 h c
  obtain ⟨b, τ, e2, p, hc⟩ := h8 s F c R
  exact ⟨a, s, b, τ, e1, e2, yL_keep h c p, ha, hc⟩
theorem y8P_of {B B1 F : Int} {s τ : zS} (h : yV8 B F y8N s τ) (hB : B ≤ B1) (hB1 : B1 ≤ 1000000) : y8P B1 s τ := ⟨⟨F, R8_B h.1 hB hB1⟩, h.2⟩
theorem q_p2 {ρ α β : Type} {Q : ρ → zS → Prop} {P : Option (α × zS)} {K8 : zS → Option (β × zS)} {K : α → zS → Option (ρ × zS)} {Z : α → zS → β → zS → Prop} (h : ∃ a s b τ, P = some (a, s) ∧ K8 s = some (b, τ) ∧ Z a s b τ) (k : ∀ a s b τ, P = some (a, s) → K8 s = some (b, τ) → Z a s b τ → yT (zbind P K) Q) : yT (zbind P K) Q := by
  obtain ⟨a, s, b, τ, e1, e2, z⟩ := h
  exact k a s b τ e1 e2 z
theorem q_b2 {ρ α : Type} {Q : ρ → zS → Prop} {P : Option (α × zS)} {K : α → zS → Option (ρ × zS)} {a : α} {s : zS} (e : P = some (a, s)) (k : yT (K a s) Q) : yT (zbind P K) Q := by
  rw [e]; exact k
/-! the calls one by one -/
section yPairs
variable {B B1 : Int} {σ : zS}
theorem w_st {α : Type} {P : Option (α × zS)} {A : α → zS → Prop} (h : yT P (fun r τ => yR σ τ ∧ A r τ)) : yT P (fun r τ => yC σ τ ∧ A r τ) := q_w h (fun _ _ q => ⟨yC_st q.1, q.2⟩)
theorem w_pu {α : Type} {P : Option (α × zS)} {A : α → Prop} (hR : yR σ σ) (h : yT P (fun r τ => τ = σ ∧ A r)) : yT P (fun r τ => yC σ τ ∧ A r) := q_w h (fun _ _ q => ⟨by rw [q.1]; exact yC_rf hR, q.2⟩)
theorem w_8 {β : Type} {P : Option (β × zS)} {F : Int} {s : zS} {C : β → zS → Prop} (hB : B ≤ B1) (hB1 : B1 ≤ 1000000) (h : yT P (fun r τ => yV8 B F y8N s τ ∧ C r τ)) : yT P (fun r τ => y8P B1 s τ ∧ C r τ) := q_w h (fun _ _ q => ⟨y8P_of q.1 hB hB1, q.2⟩)
theorem pair_get (p0 p1 : Int32) (h : yL B σ) (hB : B ≤ B1) (hB1 : B1 ≤ 1000000) : ∃ a s b τ, f_X7_get p0 p1 σ = some (a, s) ∧ f_X8_get p0 p1 s = some (b, τ) ∧ yL B1 τ ∧ True ∧ True := pairK (A := fun _ _ => True) (C := fun _ _ _ => True) h (w_pu h.1 (t_X7_get p0 p1 h.1)) (fun s F _ R => w_8 hB hB1 (t_X8_get p0 p1 R))
theorem pair_put (p0 p1 p2 p3 : Int32) (h : yL B σ) (hB : B ≤ B1) (hB1 : B1 ≤ 1000000) : ∃ a s b τ, f_X7_put p0 p1 p2 p3 σ = some (a, s) ∧ f_X8_put p0 p1 p2 p3 s = some (b, τ) ∧ yL B1 τ ∧ True ∧ True := pairK (A := fun _ _ => True) (C := fun _ _ _ => True) h (w_st (t_X7_put p0 p1 p2 p3 h.1)) (fun s F _ R => w_8 hB hB1 (t_X8_put p0 p1 p2 p3 R))
theorem pair_copy (p0 p1 p2 : Int32) (h : yL B σ) (hB : B ≤ B1) (hB1 : B1 ≤ 1000000) : ∃ a s b τ, f_X7_copy p0 p1 p2 σ = some (a, s) ∧ f_X8_copy p0 p1 p2 s = some (b, τ) ∧ yL B1 τ ∧ True ∧ True := pairK (A := fun _ _ => True) (C := fun _ _ _ => True) h (w_st (t_X7_copy p0 p1 p2 h.1)) (fun s F _ R => w_8 hB hB1 (t_X8_copy p0 p1 p2 R))
theorem pair_look (p0 p1 p2 p3 : Int32) (h : yL B σ) (hB : B ≤ B1) (hB1 : B1 ≤ 1000000) : ∃ a s b τ, f_X7_look p0 p1 p2 p3 σ = some (a, s) ∧ f_X8_look p0 p1 p2 p3 s = some (b, τ) ∧ yL B1 τ ∧ True ∧ True := pairK (A := fun _ _ => True) (C := fun _ _ _ => True) h (w_pu h.1 (t_X7_look p0 p1 p2 p3 h.1)) (fun s F _ R => w_8 hB hB1 (t_X8_look p0 p1 p2 p3 R))
theorem pair_random (p0 : Int32) (h : yL B σ) (hB : B ≤ B1) (hB1 : B1 ≤ 1000000) : ∃ a s b τ, f_X7_random p0 σ = some (a, s) ∧ f_X8_random p0 s = some (b, τ) ∧ yL B1 τ ∧ True ∧ True := pairK (A := fun _ _ => True) (C := fun _ _ _ => True) h (w_st (t_X7_random p0 h.1)) (fun s F _ R => w_8 hB hB1 (t_X8_random p0 R))
theorem pair_tape (p0 : Int32) (h : yL B σ) (hB : B ≤ B1) (hB1 : B1 ≤ 1000000) : ∃ a s b τ, f_X7_tape p0 σ = some (a, s) ∧ f_X8_tape p0 s = some (b, τ) ∧ yL B1 τ ∧ True ∧ True := pairK (A := fun _ _ => True) (C := fun _ _ _ => True) h (w_st (t_X7_tape p0 h.1)) (fun s F _ R => w_8 hB hB1 (t_X8_tape p0 R))
theorem pair_told (p0 : Int32) (h : yL B σ) (hB : B ≤ B1) (hB1 : B1 ≤ 1000000) : ∃ a s b τ, f_X7_told p0 σ = some (a, s) ∧ f_X8_told p0 s = some (b, τ) ∧ yL B1 τ ∧ True ∧ True := pairK (A := fun _ _ => True) (C := fun _ _ _ => True) h (w_pu h.1 (t_X7_told p0 h.1)) (fun s F _ R => w_8 hB hB1 (t_X8_told p0 R))
theorem pair_left (p0 : Int32) (h : yL B σ) (hB : B ≤ B1) (hB1 : B1 ≤ 1000000) : ∃ a s b τ, f_X7_left p0 σ = some (a, s) ∧ f_X8_left p0 s = some (b, τ) ∧ yL B1 τ ∧ True ∧ True := pairK (A := fun _ _ => True) (C := fun _ _ _ => True) h (w_pu h.1 (t_X7_left p0 h.1)) (fun s F _ R => w_8 hB hB1 (t_X8_left p0 R))
theorem pair_run (p0 p1 p2 : Int32) (h : yL B σ) (hB : B + 300 ≤ B1) (hB1 : B1 ≤ 1000000) : ∃ a s b τ, f_X7_run p0 p1 p2 σ = some (a, s) ∧ f_X8_run p0 p1 p2 s = some (b, τ) ∧ yL B1 τ ∧ True ∧ True := pairK (A := fun _ _ => True) (C := fun _ _ _ => True) h (w_st (t_X7_run p0 p1 p2 h.1)) (fun s F _ R => q_w (t_X8_run p0 p1 p2 R hB hB1) (fun _ τ q => by obtain ⟨F2, R2, k2⟩ := q; exact ⟨⟨⟨F2, R2⟩, k2⟩, trivial⟩))
/-- the law's own cell -/
theorem yC_64 {s : zS} {j : Nat} {v : Int32} (h : yC σ s) : yC σ (zu s 64 j v) := by
  refine ⟨R_self h.1 (by decide) (R_free (by omega)), fun k i q => ?_⟩
  rw [zu_rd, if_neg (by omega)]; exact h.2 k i q
theorem t_X7_work (p0 p1 p2 : Int32) (h0 : yR σ σ) : yT (f_X7_work p0 p1 p2 σ) (fun r τ => τ = σ ∧ (r = .inr 0 ∨ r = .inr 1 ∨ ∃ v, r = .inl v)) := by
  unfold f_X7_work
  refine q_lt (fun _ => q_some ⟨rfl, Or.inl rfl⟩) (fun _ => ?_)
  refine q_le (fun _ => ?_) (fun _ => q_some ⟨rfl, Or.inl rfl⟩)
  refine q_bindp (t_X7_number p1 h0) (fun v1 _ => ?_)
  refine q_bindp (t_X7_number p2 h0) (fun v2 _ => ?_)
  refine q_bindp (t_X7_arithmetic p0 v1 v2 h0) (fun v3 _ => ?_)
  refine q_le (fun _ => ?_) (fun _ => q_some ⟨rfl, Or.inr (Or.inl rfl)⟩)
  refine q_bindp (t_X7_number v3 h0) (fun v4 _ => ?_)
  exact q_some ⟨rfl, Or.inr (Or.inr ⟨v4, rfl⟩)⟩
theorem t_L_work (p0 p1 p2 : Int32) (h0 : yR σ σ) : yT (f_L_work p0 p1 p2 σ) (fun _ s => yC σ s ∧ True) := by
  obtain ⟨r, τ, e, rfl, hr⟩ := t_X7_work p0 p1 p2 h0
  unfold f_L_work
  rw [e]
  rcases hr with rfl | rfl | ⟨v, rfl⟩
  · exact q_some ⟨yC_rf h0, trivial⟩
  · exact q_some ⟨yC_rf h0, trivial⟩
  · show yT (zc (0 : Int32) 1 _) _
    refine q_c (by decide) (by decide) ?_
    exact q_some ⟨yC_64 (yC_rf h0), trivial⟩
theorem t_L_printed (p0 : Int32) (h0 : yR σ σ) : yT (f_L_printed p0 σ) (fun _ s => yC σ s ∧ True) := by
  obtain ⟨r, τ, e, rfl, hr⟩ := t_X4_characterAt p0 h0
  unfold f_L_printed f_X7_printed
  rw [e]
  by_cases q : 0 ≤ r
  · show yT (zbx (if 0 ≤ r then _ else _) _ _) _
    rw [if_pos q]
    show yT (zc (0 : Int32) 1 _) _
    refine q_c (by decide) (by decide) ?_
    exact q_some ⟨yC_64 (yC_rf h0), trivial⟩
  · show yT (zbx (if 0 ≤ r then _ else _) _ _) _
    rw [if_neg q]
    exact q_some ⟨yC_rf h0, trivial⟩
theorem pair_work (p0 p1 p2 : Int32) (h : yL B σ) (hB : B ≤ B1) (hB1 : B1 ≤ 1000000) : ∃ a s b τ, f_L_work p0 p1 p2 σ = some (a, s) ∧ f_X8_work p0 p1 p2 s = some (b, τ) ∧ yL B1 τ ∧ True ∧ True := pairK (A := fun _ _ => True) (C := fun _ _ _ => True) h (t_L_work p0 p1 p2 h.1) (fun s F _ R => w_8 hB hB1 (t_X8_work p0 p1 p2 R))
theorem pair_printed (p0 : Int32) (h : yL B σ) (hB : B ≤ B1) (hB1 : B1 ≤ 1000000) : ∃ a s b τ, f_L_printed p0 σ = some (a, s) ∧ f_X8_printed p0 s = some (b, τ) ∧ yL B1 τ ∧ True ∧ True := pairK (A := fun _ _ => True) (C := fun _ _ _ => True) h (t_L_printed p0 h.1) (fun s F _ R => w_8 hB hB1 (t_X8_printed p0 R))
theorem pair_globe (p0 : Int32) (h : yL B σ) (hB : B ≤ B1) (hB1 : B1 ≤ 1000000) : ∃ a s b τ, f_X7_globe p0 σ = some (a, s) ∧ f_X8_globe p0 s = some (b, τ) ∧ yL B1 τ ∧ a = b := by
  obtain ⟨hR, ⟨F, hF⟩, q1, q2, q3, q4, q5⟩ := h
  obtain ⟨a, s, e1, V1, P1⟩ := t_X7_globe p0 hR
  have R8 : yR8 B F s s := yR8_of hF (fun k j i1 i2 => V1.2 k j (by unfold yKg; omega))
  obtain ⟨b, τ, e2, V2, P2⟩ := t_X8_globe p0 R8
  have k8 : ∀ k j, k < 45 → τ k j = s k j := fun k j i => V2.2 k j (by unfold y8Kg y8N; omega)
  have c2 : s 45 4 = σ 45 4 := V1.2 45 4 (by unfold yKg; omega)
  have d2 := k8 13 7 (by omega)
  rw [c2] at P2
  have qq2 : (σ 13 7).toInt = (σ 45 4).toInt := by rw [q3]
  refine ⟨a, s, b, τ, e1, e2, ⟨yR_of V1.1 k8, ⟨F, R8_B V2.1 hB hB1⟩, ?_, ?_, ?_, ?_, ?_⟩, ?_⟩
  · rw [k8 1 1 (by omega), V2.2 45 2 (by unfold y8Kg y8N; omega), V1.2 1 1 (by unfold yKg; omega), V1.2 45 2 (by unfold yKg; omega)]; exact q1
  · rw [k8 1 2 (by omega), V2.2 45 3 (by unfold y8Kg y8N; omega), V1.2 1 2 (by unfold yKg; omega), V1.2 45 3 (by unfold yKg; omega)]; exact q2
  · rw [d2, i_eq]; omega
  · rw [k8 13 8 (by omega), V2.2 45 5 (by unfold y8Kg y8N; omega), V1.2 13 8 (by unfold yKg; omega), V1.2 45 5 (by unfold yKg; omega)]; exact q4
  · rw [k8 5 3 (by omega), V2.2 45 14 (by unfold y8Kg y8N; omega), V1.2 5 3 (by unfold yKg; omega), V1.2 45 14 (by unfold yKg; omega)]; exact q5
  · rw [i_eq]; omega
theorem pair_form (p0 : Int32) (h : yL B σ) (hB : B ≤ B1) (hB1 : B1 ≤ 1000000) : ∃ a s b τ, f_X7_form p0 σ = some (a, s) ∧ f_X8_form p0 s = some (b, τ) ∧ yL B1 τ ∧ a = b := by
  obtain ⟨hR, ⟨F, hF⟩, q1, q2, q3, q4, q5⟩ := h
  obtain ⟨a, s, e1, V1, P1⟩ := t_X7_form p0 hR
  have R8 : yR8 B F s s := yR8_of hF (fun k j i1 i2 => V1.2 k j (by unfold yKf; omega))
  obtain ⟨b, τ, e2, V2, P2⟩ := t_X8_form p0 R8
  have k8 : ∀ k j, k < 45 → τ k j = s k j := fun k j i => V2.2 k j (by unfold y8Kf y8N; omega)
  have c3 : s 45 5 = σ 45 5 := V1.2 45 5 (by unfold yKf; omega)
  have d3 := k8 13 8 (by omega)
  rw [c3] at P2
  have qq3 : (σ 13 8).toInt = (σ 45 5).toInt := by rw [q4]
  refine ⟨a, s, b, τ, e1, e2, ⟨yR_of V1.1 k8, ⟨F, R8_B V2.1 hB hB1⟩, ?_, ?_, ?_, ?_, ?_⟩, ?_⟩
  · rw [k8 1 1 (by omega), V2.2 45 2 (by unfold y8Kf y8N; omega), V1.2 1 1 (by unfold yKf; omega), V1.2 45 2 (by unfold yKf; omega)]; exact q1
  · rw [k8 1 2 (by omega), V2.2 45 3 (by unfold y8Kf y8N; omega), V1.2 1 2 (by unfold yKf; omega), V1.2 45 3 (by unfold yKf; omega)]; exact q2
  · rw [k8 13 7 (by omega), V2.2 45 4 (by unfold y8Kf y8N; omega), V1.2 13 7 (by unfold yKf; omega), V1.2 45 4 (by unfold yKf; omega)]; exact q3
  · rw [d3, i_eq]; omega
  · rw [k8 5 3 (by omega), V2.2 45 14 (by unfold y8Kf y8N; omega), V1.2 5 3 (by unfold yKf; omega), V1.2 45 14 (by unfold yKf; omega)]; exact q5
  · rw [i_eq]; omega
theorem pair_instruction (p0 p1 p2 p3 p4 : Int32) (h : yL B σ) (hB : B ≤ B1) (hB1 : B1 ≤ 1000000) : ∃ a s b τ, f_X7_instruction p0 p1 p2 p3 p4 σ = some (a, s) ∧ f_X8_instruction p0 p1 p2 p3 p4 s = some (b, τ) ∧ yL B1 τ ∧ a = b := by
  obtain ⟨hR, ⟨F, hF⟩, q1, q2, q3, q4, q5⟩ := h
  obtain ⟨a, s, e1, V1, P1⟩ := t_X7_instruction p0 p1 p2 p3 p4 hR
  have R8 : yR8 B F s s := yR8_of hF (fun k j i1 i2 => V1.2 k j (by unfold yKi; omega))
  obtain ⟨b, τ, e2, V2, P2⟩ := t_X8_instruction p0 p1 p2 p3 p4 R8
  have k8 : ∀ k j, k < 45 → τ k j = s k j := fun k j i => V2.2 k j (by unfold y8Ki y8N; omega)
  have c4 : s 45 14 = σ 45 14 := V1.2 45 14 (by unfold yKi; omega)
  have d4 := k8 5 3 (by omega)
  rw [c4] at P2
  have qq4 : (σ 5 3).toInt = (σ 45 14).toInt := by rw [q5]
  refine ⟨a, s, b, τ, e1, e2, ⟨yR_of V1.1 k8, ⟨F, R8_B V2.1 hB hB1⟩, ?_, ?_, ?_, ?_, ?_⟩, ?_⟩
  · rw [k8 1 1 (by omega), V2.2 45 2 (by unfold y8Ki y8N; omega), V1.2 1 1 (by unfold yKi; omega), V1.2 45 2 (by unfold yKi; omega)]; exact q1
  · rw [k8 1 2 (by omega), V2.2 45 3 (by unfold y8Ki y8N; omega), V1.2 1 2 (by unfold yKi; omega), V1.2 45 3 (by unfold yKi; omega)]; exact q2
  · rw [k8 13 7 (by omega), V2.2 45 4 (by unfold y8Ki y8N; omega), V1.2 13 7 (by unfold yKi; omega), V1.2 45 4 (by unfold yKi; omega)]; exact q3
  · rw [k8 13 8 (by omega), V2.2 45 5 (by unfold y8Ki y8N; omega), V1.2 13 8 (by unfold yKi; omega), V1.2 45 5 (by unfold yKi; omega)]; exact q4
  · rw [d4, i_eq]; omega
  · rw [i_eq]; omega
theorem pair_routine (p0 p1 p2 p3 : Int32) (h : yL B σ) (hB : B ≤ B1) (hB1 : B1 ≤ 1000000) : ∃ a s b τ, f_X7_routine p0 p1 p2 p3 σ = some (a, s) ∧ f_X8_routine p0 p1 p2 p3 s = some (b, τ) ∧ yL B1 τ ∧ a = b := by
  obtain ⟨hR, ⟨F, hF⟩, q1, q2, q3, q4, q5⟩ := h
  obtain ⟨a, s, e1, V1, P1⟩ := t_X7_routine p0 p1 p2 p3 hR
  have R8 : yR8 B F s s := yR8_of hF (fun k j i1 i2 => V1.2 k j (by unfold yKr; omega))
  obtain ⟨b, τ, e2, V2, P2⟩ := t_X8_routine p0 p1 p2 p3 R8
  have k8 : ∀ k j, k < 45 → τ k j = s k j := fun k j i => V2.2 k j (by unfold y8Kr y8N; omega)
  refine ⟨a, s, b, τ, e1, e2, ⟨yR_of V1.1 k8, ⟨F, R8_B V2.1 hB hB1⟩, ?_, ?_, ?_, ?_, ?_⟩, ?_⟩
  · rw [k8 1 1 (by omega), V2.2 45 2 (by unfold y8Kr y8N; omega), V1.2 1 1 (by unfold yKr; omega), V1.2 45 2 (by unfold yKr; omega)]; exact q1
  · rw [k8 1 2 (by omega), V2.2 45 3 (by unfold y8Kr y8N; omega), V1.2 1 2 (by unfold yKr; omega), V1.2 45 3 (by unfold yKr; omega)]; exact q2
  · rw [k8 13 7 (by omega), V2.2 45 4 (by unfold y8Kr y8N; omega), V1.2 13 7 (by unfold yKr; omega), V1.2 45 4 (by unfold yKr; omega)]; exact q3
  · rw [k8 13 8 (by omega), V2.2 45 5 (by unfold y8Kr y8N; omega), V1.2 13 8 (by unfold yKr; omega), V1.2 45 5 (by unfold yKr; omega)]; exact q4
  · rw [k8 5 3 (by omega), V2.2 45 14 (by unfold y8Kr y8N; omega), V1.2 5 3 (by unfold yKr; omega), V1.2 45 14 (by unfold yKr; omega)]; exact q5
  · rw [i_eq]; omega
theorem pair_clear (h : yL B σ) (hB : B ≤ B1) (hB1 : B1 ≤ 1000000) : ∃ a s b τ, f_X7_clear  σ = some (a, s) ∧ f_X8_clear  s = some (b, τ) ∧ yL B1 τ ∧ a = b := by
  obtain ⟨hR, ⟨F, hF⟩, q1, q2, q3, q4, q5⟩ := h
  obtain ⟨a, s, e1, V1, P1⟩ := t_X7_clear  hR
  have R8 : yR8 B F s s := yR8_of hF (fun k j i1 i2 => V1.2 k j (by unfold yKc; omega))
  obtain ⟨b, τ, e2, V2, P2⟩ := t_X8_clear  R8
  have k8 : ∀ k j, k < 45 → τ k j = s k j := fun k j i => V2.2 k j (by unfold y8Kc y8N; omega)
  have c4 : s 45 14 = σ 45 14 := V1.2 45 14 (by unfold yKc; omega)
  have d4 := k8 5 3 (by omega)
  rw [c4] at P2
  have qq4 : (σ 5 3).toInt = (σ 45 14).toInt := by rw [q5]
  refine ⟨a, s, b, τ, e1, e2, ⟨yR_of V1.1 k8, ⟨F, R8_B V2.1 hB hB1⟩, ?_, ?_, ?_, ?_, ?_⟩, ?_⟩
  · rw [k8 1 1 (by omega), V2.2 45 2 (by unfold y8Kc y8N; omega), V1.2 1 1 (by unfold yKc; omega), V1.2 45 2 (by unfold yKc; omega)]; exact q1
  · rw [k8 1 2 (by omega), V2.2 45 3 (by unfold y8Kc y8N; omega), V1.2 1 2 (by unfold yKc; omega), V1.2 45 3 (by unfold yKc; omega)]; exact q2
  · rw [k8 13 7 (by omega), V2.2 45 4 (by unfold y8Kc y8N; omega), V1.2 13 7 (by unfold yKc; omega), V1.2 45 4 (by unfold yKc; omega)]; exact q3
  · rw [k8 13 8 (by omega), V2.2 45 5 (by unfold y8Kc y8N; omega), V1.2 13 8 (by unfold yKc; omega), V1.2 45 5 (by unfold yKc; omega)]; exact q4
  · rw [d4, i_eq]; omega
  · rw [i_eq]; omega
end yPairs
