/-! size, and where all begins -/
def yBad (p0 p1 : Int32) : Prop := p0.toInt < 0 ∨ 2000 < p0.toInt ∨ p1.toInt < 0 ∨ p0.toInt < p1.toInt
theorem t_X7_size (p0 p1 : Int32) {σ : zS} (h0 : yR σ σ) : yT (f_X7_size p0 p1 σ) (fun r τ => (yR τ τ ∧ ∀ k j, k ≠ 1 → k ≠ 2 → τ k j = σ k j) ∧ ((yBad p0 p1 ∧ r.toInt = -2 ∧ τ 1 1 = σ 1 1 ∧ τ 1 2 = σ 1 2) ∨ (¬ yBad p0 p1 ∧ r.toInt = 1 ∧ τ 1 1 = p0 ∧ τ 1 2 = p1))) := by
  unfold f_X7_size
  have l0 : (0 : Int32).toInt = 0 := rfl
  have l2 : (2000 : Int32).toInt = 2000 := rfl
  have bad : yBad p0 p1 → yT (some ((-2 : Int32), σ)) (fun r τ => (yR τ τ ∧ ∀ k j, k ≠ 1 → k ≠ 2 → τ k j = σ k j) ∧ ((yBad p0 p1 ∧ r.toInt = -2 ∧ τ 1 1 = σ 1 1 ∧ τ 1 2 = σ 1 2) ∨ (¬ yBad p0 p1 ∧ r.toInt = 1 ∧ τ 1 1 = p0 ∧ τ 1 2 = p1))) := fun hb => q_some ⟨⟨h0, fun _ _ _ _ => rfl⟩, Or.inl ⟨hb, rfl, rfl, rfl⟩⟩
  refine q_lt (fun h1 => bad (by unfold yBad; omega)) (fun h1 => ?_)
  refine q_lt (fun h2 => bad (by unfold yBad; omega)) (fun h2 => ?_)
  refine q_lt (fun h3 => bad (by unfold yBad; omega)) (fun h3 => ?_)
  refine q_le (fun h4 => ?_) (fun h4 => bad (by unfold yBad; omega))
  show yT (some ((1 : Int32), zu (zu (zr σ 2 (zfill (σ 2) 2000 (0 : Int32))) 1 1 p0) 1 2 p1)) _
  refine q_some ⟨⟨⟨fun k j => ?_, ?_, fun _ _ _ => rfl⟩, fun k j i1 i2 => ?_⟩, Or.inr ⟨by unfold yBad; omega, rfl, ?_, ?_⟩⟩
  · rw [zu_rd, zu_rd]
    by_cases a : k = 1 ∧ j = 2
    · rw [if_pos a, a.1, a.2]
      exact ⟨fun _ q => absurd q (by decide), fun _ _ => by omega, fun q => absurd q (by decide), fun q => absurd q (by decide), fun q => absurd q (by decide), fun q => absurd q (by decide), fun q => absurd q (by decide), fun q => absurd q (by decide), fun q => absurd q (by decide), fun q => absurd q (by decide), fun q => absurd q (by decide)⟩
    · rw [if_neg a]
      by_cases b : k = 1 ∧ j = 1
      · rw [if_pos b, b.1, b.2]
        exact ⟨fun _ _ => by omega, fun _ q => absurd q (by decide), fun q => absurd q (by decide), fun q => absurd q (by decide), fun q => absurd q (by decide), fun q => absurd q (by decide), fun q => absurd q (by decide), fun q => absurd q (by decide), fun q => absurd q (by decide), fun q => absurd q (by decide), fun q => absurd q (by decide)⟩
      · rw [if_neg b]
        by_cases c : k = 2
        · subst c
          rw [zr_at]
          have hb : 0 ≤ (zfill (σ 2) 2000 (0 : Int32) j).toInt ∧ (zfill (σ 2) 2000 (0 : Int32) j).toInt < 256 := by
            unfold zfill
            by_cases d : j < 2000
            · rw [if_pos d]; decide
            · rw [if_neg d]; exact g_2 h0 j
          exact (ySt_2 hb).2
        · rw [zr_ne _ _ c]; exact h0.1 k j
  · rw [zu_rd, if_pos ⟨rfl, rfl⟩, zu_rd, if_neg (by omega), zu_rd, if_pos ⟨rfl, rfl⟩]; omega
  · rw [zu_rd, if_neg (by omega), zu_rd, if_neg (by omega), zr_ne _ _ i2]
  · rw [zu_rd, if_neg (by omega), zu_rd, if_pos ⟨rfl, rfl⟩]
  · rw [zu_rd, if_pos ⟨rfl, rfl⟩]
theorem R8_size {B F : Int} {σ0 σ : zS} {p0 p1 : Int32} (h : yR8 B F σ0 σ) (hv : 0 ≤ p1.toInt ∧ p1.toInt ≤ p0.toInt ∧ p0.toInt ≤ 2000) : yR8 B F (zu (zu σ 45 2 p0) 45 3 p1) (zu (zu σ 45 2 p0) 45 3 p1) := by
  obtain ⟨h1, h2, h3, h4, h5, h6⟩ := h
  refine ⟨R8_rg (R8_rg h1 (show 0 ≤ p0.toInt ∧ p0.toInt ≤ 2000 by omega)) (show 0 ≤ p1.toInt ∧ p1.toInt ≤ 2000 by omega), ?_, fun _ _ _ => rfl, ?_, ?_, h6⟩
  · rw [zu_rd, if_pos ⟨rfl, rfl⟩, zu_rd, if_neg (by omega), zu_rd, if_pos ⟨rfl, rfl⟩]; omega
  · intro i i2 hi hj
    rw [zu_rd, if_neg (by omega), zu_rd, if_neg (by omega)] at hj
    rw [zu_rd, if_neg (by omega), zu_rd, if_neg (by omega), zu_rd, if_neg (by omega), zu_rd, if_neg (by omega), zu_rd, if_neg (by omega), zu_rd, if_neg (by omega)]
    exact h4 i i2 hi hj
  · rw [zu_rd, if_neg (by omega), zu_rd, if_neg (by omega)]; exact h5
theorem t_X8_size (p0 p1 : Int32) {B F : Int} {σ : zS} (h0 : yR8 B F σ σ) : yT (f_X8_size p0 p1 σ) (fun r τ => (yR8 B F τ τ ∧ ∀ k j, y8N k j → ¬ (k = 45 ∧ (j = 2 ∨ j = 3)) → τ k j = σ k j) ∧ ((yBad p0 p1 ∧ r.toInt = -2 ∧ τ 45 2 = σ 45 2 ∧ τ 45 3 = σ 45 3) ∨ (¬ yBad p0 p1 ∧ r.toInt = 1 ∧ τ 45 2 = p0 ∧ τ 45 3 = p1))) := by
  unfold f_X8_size
  have l0 : (0 : Int32).toInt = 0 := rfl
  have l2 : (2000 : Int32).toInt = 2000 := rfl
  refine q_es (fun s1 hs1 => ?_)
  have R1 : yR8 B F s1 s1 := by rw [hs1]; exact R8_self h0 (by omega) (fr8 rfl rfl)
  have k1 : ∀ k j, y8N k j → s1 k j = σ k j := fun k j q => by rw [hs1, zu_rd, if_neg (by unfold y8N at q; omega)]
  have bad : yBad p0 p1 → yT (some ((-2 : Int32), s1)) (fun r τ => (yR8 B F τ τ ∧ ∀ k j, y8N k j → ¬ (k = 45 ∧ (j = 2 ∨ j = 3)) → τ k j = σ k j) ∧ ((yBad p0 p1 ∧ r.toInt = -2 ∧ τ 45 2 = σ 45 2 ∧ τ 45 3 = σ 45 3) ∨ (¬ yBad p0 p1 ∧ r.toInt = 1 ∧ τ 45 2 = p0 ∧ τ 45 3 = p1))) := fun hb => q_some ⟨⟨R1, fun k j q _ => k1 k j q⟩, Or.inl ⟨hb, rfl, k1 _ _ (by unfold y8N; omega), k1 _ _ (by unfold y8N; omega)⟩⟩
  refine q_lt (fun h1 => bad (by unfold yBad; omega)) (fun h1 => ?_)
  refine q_lt (fun h2 => bad (by unfold yBad; omega)) (fun h2 => ?_)
  refine q_lt (fun h3 => bad (by unfold yBad; omega)) (fun h3 => ?_)
  refine q_le (fun h4 => ?_) (fun h4 => bad (by unfold yBad; omega))
  refine q_es (fun s2 hs2 => ?_)
  refine q_es (fun s3 hs3 => ?_)
  have R3 : yR8 B F s3 s3 := by rw [hs3, hs2]; exact R8_size R1 (by omega)
  have k3 : ∀ k j, ¬ (k = 45 ∧ (j = 2 ∨ j = 3)) → s3 k j = s1 k j := fun k j q => by rw [hs3, zu_rd, if_neg (by omega), hs2, zu_rd, if_neg (by omega)]
  have e2 : s3 45 2 = p0 := by rw [hs3, zu_rd, if_neg (by omega), hs2, zu_rd, if_pos ⟨rfl, rfl⟩]
  have e3 : s3 45 3 = p1 := by rw [hs3, zu_rd, if_pos ⟨rfl, rfl⟩]
  refine q_w (t_X8_size_L40 zF p0 p1 (0 : Int32) s3 (by rw [zF_eq, l0]; omega) (by omega) R3) (fun r τ h => ?_)
  have kk : ∀ k j, y8N k j → τ k j = s3 k j := fun k j q => h.1.2.2.1 k j (y8_LK (y8_NL q))
  refine ⟨⟨R8_own h.1, fun k j q q2 => ?_⟩, Or.inr ⟨by unfold yBad; omega, h.2, ?_, ?_⟩⟩
  · rw [kk k j q, k3 k j q2, k1 k j q]
  · rw [kk _ _ (by unfold y8N; omega), e2]
  · rw [kk _ _ (by unfold y8N; omega), e3]
theorem pair_size (p0 p1 : Int32) {B B1 : Int} {σ : zS} (h : yL B σ) (hB : B ≤ B1) (hB1 : B1 ≤ 1000000) : ∃ a s b τ, f_X7_size p0 p1 σ = some (a, s) ∧ f_X8_size p0 p1 s = some (b, τ) ∧ yL B1 τ ∧ a = b := by
  obtain ⟨hR, ⟨F, hF⟩, q1, q2, q3, q4, q5⟩ := h
  obtain ⟨a, s, e1, V1, P1⟩ := t_X7_size p0 p1 hR
  have R8 : yR8 B F s s := yR8_of hF (fun k j i1 i2 => V1.2 k j (by omega) (by omega))
  obtain ⟨b, τ, e2, V2, P2⟩ := t_X8_size p0 p1 R8
  have k8 : ∀ k j, k < 45 → τ k j = s k j := fun k j i => V2.2 k j (Or.inl i) (by omega)
  have c2 : s 45 2 = σ 45 2 := V1.2 _ _ (by omega) (by omega)
  have c3 : s 45 3 = σ 45 3 := V1.2 _ _ (by omega) (by omega)
  have key : τ 1 1 = τ 45 2 ∧ τ 1 2 = τ 45 3 ∧ a = b := by
    rw [k8 1 1 (by omega), k8 1 2 (by omega)]
    rcases P1 with ⟨hb, r1, a1, a2⟩ | ⟨hb, r1, a1, a2⟩
    · rcases P2 with ⟨_, r2, b1, b2⟩ | ⟨hb2, _⟩
      · rw [a1, a2, b1, b2, c2, c3]
        exact ⟨q1, q2, by rw [i_eq]; omega⟩
      · exact absurd hb hb2
    · rcases P2 with ⟨hb2, _⟩ | ⟨_, r2, b1, b2⟩
      · exact absurd hb2 hb
      · rw [a1, a2, b1, b2]
        exact ⟨rfl, rfl, by rw [i_eq]; omega⟩
  refine ⟨a, s, b, τ, e1, e2, ⟨yR_of V1.1 k8, ⟨F, R8_B V2.1 hB hB1⟩, key.1, key.2.1, ?_, ?_, ?_⟩, key.2.2⟩
  · rw [k8 13 7 (by omega), V2.2 45 4 (by unfold y8N; omega) (by omega), V1.2 13 7 (by omega) (by omega), V1.2 45 4 (by omega) (by omega)]; exact q3
  · rw [k8 13 8 (by omega), V2.2 45 5 (by unfold y8N; omega) (by omega), V1.2 13 8 (by omega) (by omega), V1.2 45 5 (by omega) (by omega)]; exact q4
  · rw [k8 5 3 (by omega), V2.2 45 14 (by unfold y8N; omega) (by omega), V1.2 5 3 (by omega) (by omega), V1.2 45 14 (by omega) (by omega)]; exact q5
def yz : zS := fun _ _ => 0
theorem yR_z : yR yz yz := by
  refine ⟨fun k j => ?_, by decide, fun _ _ _ => rfl⟩
  show yRg k j 0
  exact ⟨fun _ _ => by decide, fun _ _ => by decide, fun _ => by decide, fun _ _ => by decide, fun _ _ => by decide, fun _ _ => by decide, fun _ => by decide, fun _ _ => by decide, fun _ _ => by decide, fun _ _ _ => ⟨fun _ => by decide, fun _ => by decide, fun _ => by decide⟩, fun _ _ => by decide⟩
theorem y8lo_z (k j : Nat) : y8lo k j ≤ 0 := by
  unfold y8lo
  repeat' split
  all_goals decide
theorem y8hi_z (k j : Nat) : 0 ≤ y8hi 65536 k j := by
  unfold y8hi
  repeat' split
  all_goals decide
theorem yR8_z : yR8 65536 0 yz yz := ⟨fun k j => ⟨y8lo_z k j, y8hi_z k j⟩, by decide, fun _ _ _ => rfl, fun i j _ hj => absurd hj (by show ¬ (j : Int) < 0; omega), rfl, by decide, by decide⟩
theorem yL_0 : yL 65536 zs0 := by
  have a : yR (zu (zu yz 3 4 1) 13 8 130) (zu (zu yz 3 4 1) 13 8 130) := R_self (R_self yR_z (by decide) (ySt_3_4).2) (by decide) (R_free (by omega))
  refine ⟨yR_of (σ := zu (zu yz 3 4 1) 13 8 130) a (fun k j q => ?_), ⟨0, ?_⟩, rfl, rfl, rfl, rfl, rfl⟩
  · show zu (zu (zu (zu yz 3 4 1) 13 8 130) 45 5 130) 45 7 1 k j = _
    rw [zu_rd, if_neg (by omega), zu_rd, if_neg (by omega)]
  · show yR8 65536 0 (zu (zu (zu (zu yz 3 4 1) 13 8 130) 45 5 130) 45 7 1) (zu (zu (zu (zu yz 3 4 1) 13 8 130) 45 5 130) 45 7 1)
    refine R8_self (σ0 := zu (zu (zu yz 3 4 1) 13 8 130) 45 5 130) (R8_self (σ0 := zu (zu yz 3 4 1) 13 8 130) (yR8_of yR8_z (fun k j q1 q2 => ?_)) (by omega) (fr8 rfl rfl)) (by omega) (fr8 rfl rfl)
    rw [zu_rd, if_neg (by omega), zu_rd, if_neg (by omega)]
