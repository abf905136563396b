/-! the face: a state that is its own measure, and what a call keeps -/
def yV (KP : Nat → Nat → Prop) (σ0 σ : zS) : Prop := yR σ σ ∧ ∀ k j, KP k j → σ k j = σ0 k j
def yV8 (B F : Int) (KP : Nat → Nat → Prop) (σ0 σ : zS) : Prop := yR8 B F σ σ ∧ ∀ k j, KP k j → σ k j = σ0 k j
theorem R_own {σ0 σ : zS} (h : yR σ0 σ) : yR σ σ := ⟨h.1, h.2.1, fun _ _ _ => rfl⟩
theorem R_self {σ0 σ : zS} {k j : Nat} {v : Int32} (h : yR σ0 σ) (hk : k ≠ 1) (hv : yRg k j v.toInt) : yR (zu σ k j v) (zu σ k j v) := by
  obtain ⟨h1, h2, h3⟩ := h
  refine ⟨fun k2 j2 => ?_, ?_, fun _ _ _ => rfl⟩
  · rw [zu_rd]
    by_cases q : k2 = k ∧ j2 = j
    · rw [if_pos q, q.1, q.2]; exact hv
    · rw [if_neg q]; exact h1 k2 j2
  · rw [zu_rd, zu_rd, if_neg (by omega), if_neg (by omega)]; exact h2
theorem R8_selfk {B F : Int} {σ0 σ : zS} {k j : Nat} {v : Int32} (h : yR8 B F σ0 σ) (hk : k ≠ 59 ∧ ¬ (k = 45 ∧ (j = 2 ∨ j = 3 ∨ j = 22 ∨ j = 29))) (hv : y8lo k j ≤ v.toInt ∧ v.toInt ≤ y8hi B k j) : yR8 B F (zu σ k j v) (zu σ k j v) := by
  obtain ⟨h1, h2, h3, h4, h5, h6⟩ := h
  refine ⟨R8_rg h1 hv, ?_, fun _ _ _ => rfl, ?_, ?_, h6⟩
  · rw [zu_rd, zu_rd, if_neg (by omega), if_neg (by omega)]; exact h2
  · intro i i2 hi hj2
    rw [zu_rd, if_neg (by omega)] at hj2
    rw [zu_rd, zu_rd, zu_rd, if_neg (by omega), if_neg (by omega), if_neg (by omega)]
    exact h4 i i2 hi hj2
  · rw [zu_rd, if_neg (by omega)]; exact h5
theorem R_free {k j : Nat} {x : Int} (h : k ≠ 1 ∧ k ≠ 2 ∧ k ≠ 3 ∧ k ≠ 5 ∧ k ≠ 11 ∧ k ≠ 14 ∧ ¬ (16 ≤ k ∧ k < 40) ∧ k ≠ 41) : yRg k j x := by
  obtain ⟨a1, a2, a3, a5, a11, a14, a16, a41⟩ := h
  exact ⟨fun q => absurd q a1, fun q => absurd q a1, fun q => absurd q a2, fun q => absurd q a3, fun q => absurd q a3, fun q => absurd q a5, fun q => absurd q a11, fun q => absurd q a14, fun q => absurd q a14, fun q q2 _ => absurd ⟨q, q2⟩ a16, fun q => absurd q a41⟩
theorem R_5_3 {x : Int} (h : 0 ≤ x ∧ x ≤ 100) : yRg 5 3 x := ⟨fun q => absurd q (by decide), fun q => absurd q (by decide), fun q => absurd q (by decide), fun q => absurd q (by decide), fun q => absurd q (by decide), fun _ _ => h, fun q => absurd q (by decide), fun q => absurd q (by decide), fun q => absurd q (by decide), fun q => absurd q (by decide), fun q => absurd q (by decide)⟩
theorem R_11 {j : Nat} {x : Int} (h : x ≤ 15) : yRg 11 j x := ⟨fun q => absurd q (by decide), fun q => absurd q (by decide), fun q => absurd q (by decide), fun q => absurd q (by decide), fun q => absurd q (by decide), fun q => absurd q (by decide), fun _ => h, fun q => absurd q (by decide), fun q => absurd q (by decide), fun q => absurd q (by decide), fun q => absurd q (by decide)⟩
theorem fr8 {B : Int} {k j : Nat} {v : Int32} (h1 : y8lo k j = -2147483648) (h2 : y8hi B k j = 2147483647) : y8lo k j ≤ v.toInt ∧ v.toInt ≤ y8hi B k j := by
  have a := i_lo v
  have b := i_hi v
  rw [h1, h2]; omega
section yFace
variable {ρ : Type} {Q : ρ → zS → Prop} {σ0 σ : zS} {KP : Nat → Nat → Prop} {B F : Int}
theorem q_zV {k j : Nat} {v : Int32} {K : zS → Option (ρ × zS)} (h : yV KP σ0 σ) (hs : k ≠ 1 ∧ yRg k j v.toInt) (hn : ¬ KP k j) (kk : ∀ τ, yV KP σ0 τ → (τ k j).toInt = v.toInt → (∀ k2 j2, k2 ≠ k ∨ j2 ≠ j → τ k2 j2 = σ k2 j2) → yT (K τ) Q) : yT (zlet (zu σ k j v) K) Q := by
  refine kk _ ⟨R_self h.1 hs.1 hs.2, fun k2 j2 q => ?_⟩ ?_ (fun k2 j2 hk => ?_)
  · rw [zu_rd, if_neg (fun e => hn (by rw [← e.1, ← e.2]; exact q))]; exact h.2 k2 j2 q
  · rw [zu_rd, if_pos ⟨rfl, rfl⟩]
  · rw [zu_rd, if_neg (by omega)]
theorem q_zV8 {k j : Nat} {v : Int32} {K : zS → Option (ρ × zS)} (h : yV8 B F KP σ0 σ) (hs : (k ≠ 59 ∧ ¬ (k = 45 ∧ (j = 2 ∨ j = 3 ∨ j = 22 ∨ j = 29))) ∧ y8lo k j ≤ v.toInt ∧ v.toInt ≤ y8hi B k j) (hn : ¬ KP k j) (kk : ∀ τ, yV8 B F KP σ0 τ → (τ k j).toInt = v.toInt → (∀ k2 j2, k2 ≠ k ∨ j2 ≠ j → τ k2 j2 = σ k2 j2) → yT (K τ) Q) : yT (zlet (zu σ k j v) K) Q := by
  refine kk _ ⟨R8_selfk h.1 hs.1 hs.2, fun k2 j2 q => ?_⟩ ?_ (fun k2 j2 hk => ?_)
  · rw [zu_rd, if_neg (fun e => hn (by rw [← e.1, ← e.2]; exact q))]; exact h.2 k2 j2 q
  · rw [zu_rd, if_pos ⟨rfl, rfl⟩]
  · rw [zu_rd, if_neg (by omega)]
theorem q_bV {α : Type} {q : Option (α × zS)} {K : α → zS → Option (ρ × zS)} {R : α → zS → Prop} (h : yV KP σ0 σ) (c : yT q (fun r τ => yV KP σ τ ∧ R r τ)) (k : ∀ r τ, yV KP σ0 τ → R r τ → yT (K r τ) Q) : yT (zbind q K) Q := by
  obtain ⟨r, τ, e, e2, hr⟩ := c
  rw [e]; exact k r τ ⟨e2.1, fun a b q => (e2.2 a b q).trans (h.2 a b q)⟩ hr
theorem q_b8 {α : Type} {q : Option (α × zS)} {K : α → zS → Option (ρ × zS)} {R : α → zS → Prop} (h : yV8 B F KP σ0 σ) (hk : ∀ a b, KP a b → y8K a b) (c : yT q (fun r τ => yR8 B F σ τ ∧ R r τ)) (k : ∀ r τ, yV8 B F KP σ0 τ → R r τ → yT (K r τ) Q) : yT (zbind q K) Q := by
  obtain ⟨r, τ, e, e2, hr⟩ := c
  rw [e]; exact k r τ ⟨R8_own e2, fun a b q => (e2.2.2.1 a b (hk a b q)).trans (h.2 a b q)⟩ hr
end yFace
def yKg (k j : Nat) : Prop := k ≠ 13 ∨ j ≠ 7
def yKf (k j : Nat) : Prop := k ≠ 13 ∨ j ≠ 8
def yKi (k j : Nat) : Prop := ¬ (5 ≤ k ∧ k ≤ 8)
def yKr (k j : Nat) : Prop := ¬ (9 ≤ k ∧ k ≤ 12)
def yKc (k j : Nat) : Prop := k ≠ 5 ∧ k ≠ 9
def y8Kg (k j : Nat) : Prop := y8N k j ∧ ¬ (k = 45 ∧ j = 4)
def y8Kf (k j : Nat) : Prop := y8N k j ∧ ¬ (k = 45 ∧ j = 5)
def y8Ki (k j : Nat) : Prop := y8N k j ∧ ¬ (k = 45 ∧ j = 14) ∧ ¬ (49 ≤ k ∧ k ≤ 51)
def y8Kr (k j : Nat) : Prop := y8N k j ∧ ¬ (52 ≤ k ∧ k ≤ 55)
def y8Kc (k j : Nat) : Prop := y8N k j ∧ ¬ (k = 45 ∧ j = 14) ∧ k ≠ 52
theorem t_X7_isOperand (p0 : Int32) {σ0 σ : zS} (h0 : yR σ0 σ) : yT (f_X7_isOperand p0 σ) (fun r τ => τ = σ ∧ ((r.toInt = 0 ∧ (p0.toInt < -256 ∨ 65535 < p0.toInt)) ∨ (r.toInt = 1 ∧ -256 ≤ p0.toInt ∧ p0.toInt ≤ 65535))) := by
  unfold f_X7_isOperand
  have l0 : (0 : Int32).toInt = 0 := rfl
  have l1 : (1 : Int32).toInt = 1 := rfl
  have l2 : (-256 : Int32).toInt = -256 := rfl
  have l3 : (65535 : Int32).toInt = 65535 := rfl
  refine q_lt (fun h1 => q_some ⟨rfl, by omega⟩) (fun h1 => ?_)
  exact q_lt (fun h2 => q_some ⟨rfl, by omega⟩) (fun h2 => q_some ⟨rfl, by omega⟩)
theorem t_X5_append (p0 : Int32) (p1 : Int32) (p2 : Int32) (p3 : Int32) (p4 : Int32) {σ : zS} (h00 : yR σ σ) : yT (f_X5_append p0 p1 p2 p3 p4 σ) (fun r τ => yV yKi σ τ ∧ (((σ 5 3).toInt = 100 ∧ r.toInt = -3 ∧ (τ 5 3).toInt = (σ 5 3).toInt) ∨ ((σ 5 3).toInt < 100 ∧ r.toInt = (σ 5 3).toInt ∧ (τ 5 3).toInt = (σ 5 3).toInt + 1))) := by
 have h0 : yV yKi σ σ := ⟨h00, fun _ _ _ => rfl⟩
 unfold f_X5_append
 have gq1 := g_5_3 (h0).1
 have lq2 : (100 : Int32).toInt = 100 := rfl
 refine q_lt (fun hq3 => ?_) (fun hq3 => ?_)
 ·
  refine q_c (by omega) (by omega) ?_
  have cq4 : (σ 5 3).toNatClampNeg = (σ 5 3).toInt.toNat := rfl
  refine q_zV h0 ⟨by decide, R_free (by omega)⟩ (by unfold yKi; omega) (fun sq5 Rq6 Eq7 Fq8 => ?_)
  have lq9 : (3 : Int32).toInt = 3 := rfl
  try have aq10 : ((3 : Int32) * (σ 5 3)).toInt = 3 * (σ 5 3).toInt := i_mulk rfl (by omega) (by omega)
  refine q_c (by omega) (by omega) ?_
  have cq11 : ((3 : Int32) * (σ 5 3)).toNatClampNeg = ((3 : Int32) * (σ 5 3)).toInt.toNat := rfl
  refine q_zV Rq6 ⟨by decide, R_free (by omega)⟩ (by unfold yKi; omega) (fun sq12 Rq13 Eq14 Fq15 => ?_)
  have lq16 : (1 : Int32).toInt = 1 := rfl
  try have aq17 : (((3 : Int32) * (σ 5 3)) + (1 : Int32)).toInt = ((3 : Int32) * (σ 5 3)).toInt + (1 : Int32).toInt := i_add (by omega) (by omega)
  refine q_c (by omega) (by omega) ?_
  have cq18 : (((3 : Int32) * (σ 5 3)) + (1 : Int32)).toNatClampNeg = (((3 : Int32) * (σ 5 3)) + (1 : Int32)).toInt.toNat := rfl
  refine q_zV Rq13 ⟨by decide, R_free (by omega)⟩ (by unfold yKi; omega) (fun sq19 Rq20 Eq21 Fq22 => ?_)
  have lq23 : (2 : Int32).toInt = 2 := rfl
  try have aq24 : (((3 : Int32) * (σ 5 3)) + (2 : Int32)).toInt = ((3 : Int32) * (σ 5 3)).toInt + (2 : Int32).toInt := i_add (by omega) (by omega)
  refine q_c (by omega) (by omega) ?_
  have cq25 : (((3 : Int32) * (σ 5 3)) + (2 : Int32)).toNatClampNeg = (((3 : Int32) * (σ 5 3)) + (2 : Int32)).toInt.toNat := rfl
  refine q_zV Rq20 ⟨by decide, R_free (by omega)⟩ (by unfold yKi; omega) (fun sq26 Rq27 Eq28 Fq29 => ?_)
  refine q_c (by omega) (by omega) ?_
  refine q_zV Rq27 ⟨by decide, R_free (by omega)⟩ (by unfold yKi; omega) (fun sq30 Rq31 Eq32 Fq33 => ?_)
  have gq38 := g_5_3 (Rq31).1
  have eq39 : (sq30 5 3).toInt = (sq26 5 3).toInt := congrArg Int32.toInt (Fq33 _ _ (by omega))
  have gq40 := g_5_3 (Rq27).1
  have eq41 : (sq26 5 3).toInt = (sq19 5 3).toInt := congrArg Int32.toInt (Fq29 _ _ (by omega))
  have gq42 := g_5_3 (Rq20).1
  have eq43 : (sq19 5 3).toInt = (sq12 5 3).toInt := congrArg Int32.toInt (Fq22 _ _ (by omega))
  have gq44 := g_5_3 (Rq13).1
  have eq45 : (sq12 5 3).toInt = (sq5 5 3).toInt := congrArg Int32.toInt (Fq15 _ _ (by omega))
  have gq46 := g_5_3 (Rq6).1
  have eq47 : (sq5 5 3).toInt = (σ 5 3).toInt := congrArg Int32.toInt (Fq8 _ _ (by omega))
  try have aq48 : ((sq30 5 3) + (1 : Int32)).toInt = (sq30 5 3).toInt + (1 : Int32).toInt := i_add (by omega) (by omega)
  refine q_zV Rq31 ⟨by decide, R_5_3 (by omega)⟩ (by unfold yKi; omega) (fun sq34 Rq35 Eq36 Fq37 => ?_)
  have gq49 := g_5_3 (Rq35).1
  have eq50 := Eq36
  exact q_some ⟨Rq35, by first | trivial | omega⟩
 ·
  have lq51 : (-3 : Int32).toInt = -3 := rfl
  exact q_some ⟨h0, by first | trivial | omega⟩
theorem t_X5_define (p0 : Int32) (p1 : Int32) (p2 : Int32) (p3 : Int32) {σ : zS} (h00 : yR σ σ) (hp : 0 ≤ p0.toInt ∧ p0.toInt < 8 ∧ p2.toInt ≤ 15) : yT (f_X5_define p0 p1 p2 p3 σ) (fun r τ => yV yKr σ τ ∧ (True)) := by
 have h0 : yV yKr σ σ := ⟨h00, fun _ _ _ => rfl⟩
 unfold f_X5_define
 refine q_c (by omega) (by omega) ?_
 have cq1 : p0.toNatClampNeg = p0.toInt.toNat := rfl
 refine q_zV h0 ⟨by decide, R_free (by omega)⟩ (by unfold yKr; omega) (fun sq2 Rq3 Eq4 Fq5 => ?_)
 refine q_c (by omega) (by omega) ?_
 refine q_zV Rq3 ⟨by decide, R_free (by omega)⟩ (by unfold yKr; omega) (fun sq6 Rq7 Eq8 Fq9 => ?_)
 refine q_c (by omega) (by omega) ?_
 refine q_zV Rq7 ⟨by decide, R_11 (by omega)⟩ (by unfold yKr; omega) (fun sq10 Rq11 Eq12 Fq13 => ?_)
 refine q_c (by omega) (by omega) ?_
 refine q_zV Rq11 ⟨by decide, R_free (by omega)⟩ (by unfold yKr; omega) (fun sq14 Rq15 Eq16 Fq17 => ?_)
 exact q_some ⟨Rq15, by first | trivial | omega⟩
theorem t_X5_forget_L12 {σ0 : zS} : ∀ (n : Nat) (x1 x2 : Int32) (σ : zS), (8 - x2.toInt).toNat < n → (0 ≤ x2.toInt) → yV yKc σ0 σ → yT (f_X5_forget_L12 n x1 x2 σ) (fun r τ => yV yKc σ0 τ ∧ (r.toInt = x1.toInt ∧ (τ 5 3).toInt = (σ 5 3).toInt)) := by
 intro n
 induction n with
 | zero => intro x1 x2 σ hm; omega
 | succ n ih =>
  intro x1 x2 σ hm hv h0
  rw [f_X5_forget_L12]
  have bx2 := i_hi x2
  have lq1 : (8 : Int32).toInt = 8 := rfl
  refine q_le (fun hq2 => ?_) (fun hq2 => ?_)
  ·
   have gq3 := g_5_3 (h0).1
   exact q_some ⟨h0, by first | trivial | omega⟩
  ·
   refine q_c (by omega) (by omega) ?_
   have cq4 : x2.toNatClampNeg = x2.toInt.toNat := rfl
   refine q_zV h0 ⟨by decide, R_free (by omega)⟩ (by unfold yKc; omega) (fun sq5 Rq6 Eq7 Fq8 => ?_)
   have lq9 : (1 : Int32).toInt = 1 := rfl
   try have aq10 : (x2 + (1 : Int32)).toInt = x2.toInt + (1 : Int32).toInt := i_add (by omega) (by omega)
   have gq11 := g_5_3 (Rq6).1
   have eq12 : (sq5 5 3).toInt = (σ 5 3).toInt := congrArg Int32.toInt (Fq8 _ _ (by omega))
   have gq13 := g_5_3 (h0).1
   refine q_w (ih x1 (x2 + (1 : Int32)) sq5 (by omega) (by omega) Rq6) (fun _ _ h => ⟨h.1, by omega⟩)
theorem t_X5_forget  {σ : zS} (h00 : yR σ σ) : yT (f_X5_forget  σ) (fun r τ => yV yKc σ τ ∧ (r.toInt = (σ 5 3).toInt ∧ (τ 5 3).toInt = 0)) := by
 have h0 : yV yKc σ σ := ⟨h00, fun _ _ _ => rfl⟩
 unfold f_X5_forget
 have lq5 : (0 : Int32).toInt = 0 := rfl
 refine q_zV h0 ⟨by decide, R_5_3 (by omega)⟩ (by unfold yKc; omega) (fun sq1 Rq2 Eq3 Fq4 => ?_)
 have gq6 := g_5_3 (h0).1
 have gq7 := g_5_3 (Rq2).1
 have eq8 := Eq3
 refine q_w (t_X5_forget_L12 zF (σ 5 3) (0 : Int32) sq1 (by rw [zF_eq]; omega) (by omega) Rq2) (fun _ _ h => ⟨h.1, by omega⟩)
theorem t_X7_globe (p0 : Int32) {σ : zS} (h00 : yR σ σ) : yT (f_X7_globe p0 σ) (fun r τ => yV yKg σ τ ∧ (((p0.toInt < 0 ∨ 65535 < p0.toInt) ∧ r.toInt = -2 ∧ (τ 13 7).toInt = (σ 13 7).toInt) ∨ (0 ≤ p0.toInt ∧ p0.toInt ≤ 65535 ∧ r.toInt = (σ 13 7).toInt ∧ (τ 13 7).toInt = p0.toInt))) := by
 have h0 : yV yKg σ σ := ⟨h00, fun _ _ _ => rfl⟩
 unfold f_X7_globe
 have lq1 : (65535 : Int32).toInt = 65535 := rfl
 refine q_bindp (t_X7_isWithin p0 (65535 : Int32) h0.1) (fun rq2 pq3 => ?_)
 have lq4 : (0 : Int32).toInt = 0 := rfl
 refine q_eq (fun hq5 => ?_) (fun hq5 => ?_)
 ·
  have lq6 : (-2 : Int32).toInt = -2 := rfl
  exact q_some ⟨h0, by first | trivial | omega⟩
 ·
  refine q_zV h0 ⟨by decide, R_free (by omega)⟩ (by unfold yKg; omega) (fun sq7 Rq8 Eq9 Fq10 => ?_)
  have eq11 := Eq9
  exact q_some ⟨Rq8, by first | trivial | omega⟩
theorem t_X7_form (p0 : Int32) {σ : zS} (h00 : yR σ σ) : yT (f_X7_form p0 σ) (fun r τ => yV yKf σ τ ∧ (((p0.toInt < 0 ∨ 255 < p0.toInt) ∧ r.toInt = -2 ∧ (τ 13 8).toInt = (σ 13 8).toInt) ∨ (0 ≤ p0.toInt ∧ p0.toInt ≤ 255 ∧ r.toInt = (σ 13 8).toInt ∧ (τ 13 8).toInt = p0.toInt))) := by
 have h0 : yV yKf σ σ := ⟨h00, fun _ _ _ => rfl⟩
 unfold f_X7_form
 have lq1 : (255 : Int32).toInt = 255 := rfl
 refine q_bindp (t_X7_isWithin p0 (255 : Int32) h0.1) (fun rq2 pq3 => ?_)
 have lq4 : (0 : Int32).toInt = 0 := rfl
 refine q_eq (fun hq5 => ?_) (fun hq5 => ?_)
 ·
  have lq6 : (-2 : Int32).toInt = -2 := rfl
  exact q_some ⟨h0, by first | trivial | omega⟩
 ·
  refine q_zV h0 ⟨by decide, R_free (by omega)⟩ (by unfold yKf; omega) (fun sq7 Rq8 Eq9 Fq10 => ?_)
  have eq11 := Eq9
  exact q_some ⟨Rq8, by first | trivial | omega⟩
theorem t_X7_instruction (p0 : Int32) (p1 : Int32) (p2 : Int32) (p3 : Int32) (p4 : Int32) {σ : zS} (h00 : yR σ σ) : yT (f_X7_instruction p0 p1 p2 p3 p4 σ) (fun r τ => yV yKi σ τ ∧ (((p1.toInt < -256 ∨ 65535 < p1.toInt ∨ p2.toInt < -256 ∨ 65535 < p2.toInt ∨ p3.toInt < -256 ∨ 65535 < p3.toInt ∨ p4.toInt < -1 ∨ 255 < p4.toInt) ∧ r.toInt = -2 ∧ (τ 5 3).toInt = (σ 5 3).toInt) ∨ (¬ (p1.toInt < -256 ∨ 65535 < p1.toInt ∨ p2.toInt < -256 ∨ 65535 < p2.toInt ∨ p3.toInt < -256 ∨ 65535 < p3.toInt ∨ p4.toInt < -1 ∨ 255 < p4.toInt) ∧ (σ 5 3).toInt = 100 ∧ r.toInt = -3 ∧ (τ 5 3).toInt = (σ 5 3).toInt) ∨ (¬ (p1.toInt < -256 ∨ 65535 < p1.toInt ∨ p2.toInt < -256 ∨ 65535 < p2.toInt ∨ p3.toInt < -256 ∨ 65535 < p3.toInt ∨ p4.toInt < -1 ∨ 255 < p4.toInt) ∧ (σ 5 3).toInt < 100 ∧ r.toInt = (σ 5 3).toInt ∧ (τ 5 3).toInt = (σ 5 3).toInt + 1))) := by
 have h0 : yV yKi σ σ := ⟨h00, fun _ _ _ => rfl⟩
 unfold f_X7_instruction
 refine q_bindp (t_X7_isOperand p1 h0.1) (fun rq1 pq2 => ?_)
 have lq3 : (0 : Int32).toInt = 0 := rfl
 refine q_eq (fun hq4 => ?_) (fun hq4 => ?_)
 ·
  have lq5 : (-2 : Int32).toInt = -2 := rfl
  have gq6 := g_5_3 (h0).1
  exact q_some ⟨h0, by first | trivial | omega⟩
 ·
  refine q_bindp (t_X7_isOperand p2 h0.1) (fun rq7 pq8 => ?_)
  refine q_eq (fun hq9 => ?_) (fun hq9 => ?_)
  ·
   have lq10 : (-2 : Int32).toInt = -2 := rfl
   have gq11 := g_5_3 (h0).1
   exact q_some ⟨h0, by first | trivial | omega⟩
  ·
   refine q_bindp (t_X7_isOperand p3 h0.1) (fun rq12 pq13 => ?_)
   refine q_eq (fun hq14 => ?_) (fun hq14 => ?_)
   ·
    have lq15 : (-2 : Int32).toInt = -2 := rfl
    have gq16 := g_5_3 (h0).1
    exact q_some ⟨h0, by first | trivial | omega⟩
   ·
    have lq17 : (-1 : Int32).toInt = -1 := rfl
    refine q_lt (fun hq18 => ?_) (fun hq18 => ?_)
    ·
     have lq19 : (-2 : Int32).toInt = -2 := rfl
     have gq20 := g_5_3 (h0).1
     exact q_some ⟨h0, by first | trivial | omega⟩
    ·
     have lq21 : (255 : Int32).toInt = 255 := rfl
     refine q_le (fun hq22 => ?_) (fun hq22 => ?_)
     ·
      refine q_bV h0 (t_X5_append p0 p1 p2 p3 p4 h00) (fun rq23 sq25 Rq26 pq24 => ?_)
      have gq27 := g_5_3 (Rq26).1
      exact q_some ⟨Rq26, by first | trivial | omega⟩
     ·
      have lq28 : (-2 : Int32).toInt = -2 := rfl
      have gq29 := g_5_3 (h0).1
      exact q_some ⟨h0, by first | trivial | omega⟩
theorem t_X7_routine (p0 : Int32) (p1 : Int32) (p2 : Int32) (p3 : Int32) {σ : zS} (h00 : yR σ σ) : yT (f_X7_routine p0 p1 p2 p3 σ) (fun r τ => yV yKr σ τ ∧ (((p0.toInt < 0 ∨ 7 < p0.toInt) ∧ r.toInt = -1) ∨ (0 ≤ p0.toInt ∧ p0.toInt ≤ 7 ∧ (p1.toInt < 0 ∨ 99 < p1.toInt ∨ p2.toInt < 0 ∨ 15 < p2.toInt) ∧ r.toInt = -2) ∨ (0 ≤ p0.toInt ∧ p0.toInt ≤ 7 ∧ ¬ (p1.toInt < 0 ∨ 99 < p1.toInt ∨ p2.toInt < 0 ∨ 15 < p2.toInt) ∧ r.toInt = 1))) := by
 have h0 : yV yKr σ σ := ⟨h00, fun _ _ _ => rfl⟩
 unfold f_X7_routine
 have lq1 : (7 : Int32).toInt = 7 := rfl
 refine q_bindp (t_X7_isWithin p0 (7 : Int32) h0.1) (fun rq2 pq3 => ?_)
 have lq4 : (0 : Int32).toInt = 0 := rfl
 refine q_eq (fun hq5 => ?_) (fun hq5 => ?_)
 ·
  have lq6 : (-1 : Int32).toInt = -1 := rfl
  exact q_some ⟨h0, by first | trivial | omega⟩
 ·
  have lq7 : (99 : Int32).toInt = 99 := rfl
  refine q_bindp (t_X7_isWithin p1 (99 : Int32) h0.1) (fun rq8 pq9 => ?_)
  refine q_eq (fun hq10 => ?_) (fun hq10 => ?_)
  ·
   have lq11 : (-2 : Int32).toInt = -2 := rfl
   exact q_some ⟨h0, by first | trivial | omega⟩
  ·
   have lq12 : (15 : Int32).toInt = 15 := rfl
   refine q_bindp (t_X7_isWithin p2 (15 : Int32) h0.1) (fun rq13 pq14 => ?_)
   refine q_eq (fun hq15 => ?_) (fun hq15 => ?_)
   ·
    have lq16 : (-2 : Int32).toInt = -2 := rfl
    exact q_some ⟨h0, by first | trivial | omega⟩
   ·
    refine q_bV h0 (t_X5_define p0 p1 p2 p3 h00 (by omega)) (fun rq17 sq19 Rq20 pq18 => ?_)
    have lq21 : (1 : Int32).toInt = 1 := rfl
    exact q_some ⟨Rq20, by first | trivial | omega⟩
theorem t_X7_clear  {σ : zS} (h00 : yR σ σ) : yT (f_X7_clear  σ) (fun r τ => yV yKc σ τ ∧ (r.toInt = (σ 5 3).toInt ∧ (τ 5 3).toInt = 0)) := by
 have h0 : yV yKc σ σ := ⟨h00, fun _ _ _ => rfl⟩
 unfold f_X7_clear
 refine q_bV h0 (t_X5_forget  h00) (fun rq1 sq3 Rq4 pq2 => ?_)
 exact q_some ⟨Rq4, by first | trivial | omega⟩
