theorem q_any {ρ : Type} {Q : ρ → zS → Prop} {c : Prop} [Decidable c] {P1 P2 : Option (ρ × zS)} (h1 : yT P1 Q) (h2 : yT P2 Q) : yT (if c then P1 else P2) Q := by
  by_cases h : c
  · rw [if_pos h]; exact h1
  · rw [if_neg h]; exact h2
set_option maxHeartbeats 8000000 in
theorem law_ok (xs : Nat → Int32) (L : Nat) (hL : L ≤ 3072) : ∀ (n : Nat) (x4 : Int32) (B : Int) (σ : zS), ((L : Int) - x4.toInt + 6).toNat < n → 0 ≤ x4.toInt → x4.toInt ≤ 3078 → B ≤ 65536 + 51 * x4.toInt → yL B σ → yT (f_L_law_L23 xs L n x4 σ) (fun r _ => r = 1) := by
  intro n
  induction n with
  | zero => intro x4 B σ hm; omega
  | succ n ih =>
    intro x4 B σ hm h0 h1 hB hY
    rw [f_L_law_L23]
    have eL : (Int32.ofNat L).toInt = (L : Int) := Int32.toInt_ofNat_of_lt (by omega)
    have l6 : (6 : Int32).toInt = 6 := rfl
    have eL6 : ((Int32.ofNat L) - (6 : Int32)).toInt = (L : Int) - 6 := by rw [i_sub (by omega) (by omega), eL, l6]
    have e1 : (x4 + (1 : Int32)).toInt = x4.toInt + 1 := i_add (b := 1) (by show -2147483648 ≤ x4.toInt + 1; omega) (by show x4.toInt + 1 < 2147483648; omega)
    have e2 : (x4 + (2 : Int32)).toInt = x4.toInt + 2 := i_add (b := 2) (by show -2147483648 ≤ x4.toInt + 2; omega) (by show x4.toInt + 2 < 2147483648; omega)
    have e3 : (x4 + (3 : Int32)).toInt = x4.toInt + 3 := i_add (b := 3) (by show -2147483648 ≤ x4.toInt + 3; omega) (by show x4.toInt + 3 < 2147483648; omega)
    have e4 : (x4 + (4 : Int32)).toInt = x4.toInt + 4 := i_add (b := 4) (by show -2147483648 ≤ x4.toInt + 4; omega) (by show x4.toInt + 4 < 2147483648; omega)
    have e5 : (x4 + (5 : Int32)).toInt = x4.toInt + 5 := i_add (b := 5) (by show -2147483648 ≤ x4.toInt + 5; omega) (by show x4.toInt + 5 < 2147483648; omega)
    have e6 : (x4 + (6 : Int32)).toInt = x4.toInt + 6 := i_add (b := 6) (by show -2147483648 ≤ x4.toInt + 6; omega) (by show x4.toInt + 6 < 2147483648; omega)
    refine q_lt (fun _ => q_some rfl) (fun hg => ?_)
    refine q_c (by omega) (by omega) ?_
    refine q_any ?_ ?_
    ·
      refine q_c (by omega) (by omega) ?_
      refine q_c (by omega) (by omega) ?_
      refine q_p2 (pair_size _ _ hY (B1 := B + 300) (by omega) (by omega)) (fun a s b τ f1 f2 hz => ?_)
      refine q_b2 f1 ?_
      refine q_c (by omega) (by omega) ?_
      refine q_c (by omega) (by omega) ?_
      refine q_b2 f2 ?_
      exact ih _ (B + 300) _ (by omega) (by omega) (by omega) (by omega) hz.1
    refine q_any ?_ ?_
    ·
      refine q_c (by omega) (by omega) ?_
      refine q_c (by omega) (by omega) ?_
      refine q_p2 (pair_get _ _ hY (B1 := B + 300) (by omega) (by omega)) (fun a s b τ f1 f2 hz => ?_)
      refine q_b2 f1 ?_
      refine q_c (by omega) (by omega) ?_
      refine q_c (by omega) (by omega) ?_
      refine q_b2 f2 ?_
      exact ih _ (B + 300) _ (by omega) (by omega) (by omega) (by omega) hz.1
    refine q_any ?_ ?_
    ·
      refine q_c (by omega) (by omega) ?_
      refine q_c (by omega) (by omega) ?_
      refine q_c (by omega) (by omega) ?_
      refine q_c (by omega) (by omega) ?_
      refine q_p2 (pair_put _ _ _ _ hY (B1 := B + 300) (by omega) (by omega)) (fun a s b τ f1 f2 hz => ?_)
      refine q_b2 f1 ?_
      refine q_c (by omega) (by omega) ?_
      refine q_c (by omega) (by omega) ?_
      refine q_c (by omega) (by omega) ?_
      refine q_c (by omega) (by omega) ?_
      refine q_b2 f2 ?_
      exact ih _ (B + 300) _ (by omega) (by omega) (by omega) (by omega) hz.1
    refine q_any ?_ ?_
    ·
      refine q_c (by omega) (by omega) ?_
      refine q_c (by omega) (by omega) ?_
      refine q_c (by omega) (by omega) ?_
      refine q_p2 (pair_work _ _ _ hY (B1 := B + 300) (by omega) (by omega)) (fun a s b τ f1 f2 hz => ?_)
      refine q_b2 f1 ?_
      refine q_c (by omega) (by omega) ?_
      refine q_c (by omega) (by omega) ?_
      refine q_c (by omega) (by omega) ?_
      refine q_b2 f2 ?_
      exact ih _ (B + 300) _ (by omega) (by omega) (by omega) (by omega) hz.1
    refine q_any ?_ ?_
    ·
      refine q_c (by omega) (by omega) ?_
      refine q_c (by omega) (by omega) ?_
      refine q_c (by omega) (by omega) ?_
      refine q_p2 (pair_copy _ _ _ hY (B1 := B + 300) (by omega) (by omega)) (fun a s b τ f1 f2 hz => ?_)
      refine q_b2 f1 ?_
      refine q_c (by omega) (by omega) ?_
      refine q_c (by omega) (by omega) ?_
      refine q_c (by omega) (by omega) ?_
      refine q_b2 f2 ?_
      exact ih _ (B + 300) _ (by omega) (by omega) (by omega) (by omega) hz.1
    refine q_any ?_ ?_
    ·
      refine q_c (by omega) (by omega) ?_
      refine q_c (by omega) (by omega) ?_
      refine q_c (by omega) (by omega) ?_
      refine q_c (by omega) (by omega) ?_
      refine q_p2 (pair_look _ _ _ _ hY (B1 := B + 300) (by omega) (by omega)) (fun a s b τ f1 f2 hz => ?_)
      refine q_b2 f1 ?_
      refine q_c (by omega) (by omega) ?_
      refine q_c (by omega) (by omega) ?_
      refine q_c (by omega) (by omega) ?_
      refine q_c (by omega) (by omega) ?_
      refine q_b2 f2 ?_
      exact ih _ (B + 300) _ (by omega) (by omega) (by omega) (by omega) hz.1
    refine q_any ?_ ?_
    ·
      refine q_c (by omega) (by omega) ?_
      refine q_p2 (pair_random _ hY (B1 := B + 300) (by omega) (by omega)) (fun a s b τ f1 f2 hz => ?_)
      refine q_b2 f1 ?_
      refine q_c (by omega) (by omega) ?_
      refine q_b2 f2 ?_
      exact ih _ (B + 300) _ (by omega) (by omega) (by omega) (by omega) hz.1
    refine q_any ?_ ?_
    ·
      refine q_c (by omega) (by omega) ?_
      refine q_p2 (pair_tape _ hY (B1 := B + 300) (by omega) (by omega)) (fun a s b τ f1 f2 hz => ?_)
      refine q_b2 f1 ?_
      refine q_c (by omega) (by omega) ?_
      refine q_b2 f2 ?_
      exact ih _ (B + 300) _ (by omega) (by omega) (by omega) (by omega) hz.1
    refine q_any ?_ ?_
    ·
      refine q_c (by omega) (by omega) ?_
      refine q_p2 (pair_globe _ hY (B1 := B + 300) (by omega) (by omega)) (fun a s b τ f1 f2 hz => ?_)
      refine q_b2 f1 ?_
      refine q_c (by omega) (by omega) ?_
      refine q_b2 f2 ?_
      exact ih _ (B + 300) _ (by omega) (by omega) (by omega) (by omega) hz.1
    refine q_any ?_ ?_
    ·
      refine q_c (by omega) (by omega) ?_
      refine q_p2 (pair_form _ hY (B1 := B + 300) (by omega) (by omega)) (fun a s b τ f1 f2 hz => ?_)
      refine q_b2 f1 ?_
      refine q_c (by omega) (by omega) ?_
      refine q_b2 f2 ?_
      exact ih _ (B + 300) _ (by omega) (by omega) (by omega) (by omega) hz.1
    refine q_any ?_ ?_
    ·
      refine q_c (by omega) (by omega) ?_
      refine q_c (by omega) (by omega) ?_
      refine q_c (by omega) (by omega) ?_
      refine q_c (by omega) (by omega) ?_
      refine q_c (by omega) (by omega) ?_
      refine q_p2 (pair_instruction _ _ _ _ _ hY (B1 := B + 300) (by omega) (by omega)) (fun a s b τ f1 f2 hz => ?_)
      refine q_b2 f1 ?_
      refine q_c (by omega) (by omega) ?_
      refine q_c (by omega) (by omega) ?_
      refine q_c (by omega) (by omega) ?_
      refine q_c (by omega) (by omega) ?_
      refine q_c (by omega) (by omega) ?_
      refine q_b2 f2 ?_
      exact ih _ (B + 300) _ (by omega) (by omega) (by omega) (by omega) hz.1
    refine q_any ?_ ?_
    ·
      refine q_c (by omega) (by omega) ?_
      refine q_c (by omega) (by omega) ?_
      refine q_c (by omega) (by omega) ?_
      refine q_c (by omega) (by omega) ?_
      refine q_p2 (pair_routine _ _ _ _ hY (B1 := B + 300) (by omega) (by omega)) (fun a s b τ f1 f2 hz => ?_)
      refine q_b2 f1 ?_
      refine q_c (by omega) (by omega) ?_
      refine q_c (by omega) (by omega) ?_
      refine q_c (by omega) (by omega) ?_
      refine q_c (by omega) (by omega) ?_
      refine q_b2 f2 ?_
      exact ih _ (B + 300) _ (by omega) (by omega) (by omega) (by omega) hz.1
    refine q_any ?_ ?_
    ·
      refine q_p2 (pair_clear  hY (B1 := B + 300) (by omega) (by omega)) (fun a s b τ f1 f2 hz => ?_)
      refine q_b2 f1 ?_
      refine q_b2 f2 ?_
      rw [if_pos hz.2]
      exact ih _ (B + 300) _ (by omega) (by omega) (by omega) (by omega) hz.1
    refine q_any ?_ ?_
    ·
      refine q_c (by omega) (by omega) ?_
      refine q_c (by omega) (by omega) ?_
      refine q_c (by omega) (by omega) ?_
      refine q_p2 (pair_run _ _ _ hY (B1 := B + 300) (by omega) (by omega)) (fun a s b τ f1 f2 hz => ?_)
      refine q_b2 f1 ?_
      refine q_c (by omega) (by omega) ?_
      refine q_c (by omega) (by omega) ?_
      refine q_c (by omega) (by omega) ?_
      refine q_b2 f2 ?_
      exact ih _ (B + 300) _ (by omega) (by omega) (by omega) (by omega) hz.1
    refine q_any ?_ ?_
    ·
      refine q_c (by omega) (by omega) ?_
      refine q_p2 (pair_told _ hY (B1 := B + 300) (by omega) (by omega)) (fun a s b τ f1 f2 hz => ?_)
      refine q_b2 f1 ?_
      refine q_c (by omega) (by omega) ?_
      refine q_b2 f2 ?_
      exact ih _ (B + 300) _ (by omega) (by omega) (by omega) (by omega) hz.1
    refine q_any ?_ ?_
    ·
      refine q_c (by omega) (by omega) ?_
      refine q_p2 (pair_printed _ hY (B1 := B + 300) (by omega) (by omega)) (fun a s b τ f1 f2 hz => ?_)
      refine q_b2 f1 ?_
      refine q_c (by omega) (by omega) ?_
      refine q_b2 f2 ?_
      exact ih _ (B + 300) _ (by omega) (by omega) (by omega) (by omega) hz.1
    refine q_any ?_ ?_
    ·
      refine q_c (by omega) (by omega) ?_
      refine q_p2 (pair_left _ hY (B1 := B + 300) (by omega) (by omega)) (fun a s b τ f1 f2 hz => ?_)
      refine q_b2 f1 ?_
      refine q_c (by omega) (by omega) ?_
      refine q_b2 f2 ?_
      exact ih _ (B + 300) _ (by omega) (by omega) (by omega) (by omega) hz.1
    exact ih _ B _ (by omega) (by omega) (by omega) (by omega) hY
theorem law_pure (xs : Nat → Int32) (L : Nat) (hL : L ≤ 3072) : ∃ σ, f_L_law_L23 xs L zF 0 zs0 = some (1, σ) := by
  obtain ⟨r, σ, e, hr⟩ := law_ok xs L hL zF 0 65536 zs0 (by rw [zF_eq, t_0]; omega) (by rw [t_0]; omega) (by rw [t_0]; omega) (by rw [t_0]; omega) yL_0
  exact ⟨σ, by rw [e, hr]⟩
