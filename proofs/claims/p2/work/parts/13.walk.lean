set_option maxHeartbeats 4000000 in
set_option maxRecDepth 100000 in
theorem g_X7_left {E : zG} {Γ : zX} (C : zO E Γ RX7 cX7_left 2 (some .int)) (p0 : Int32) (σ : zS) : zJ E Γ rm_X7_left 2 (fun r : Int32 => some (.int r)) (f_X7_left p0 σ) σ 0 [some (.ref (zad E 0)), some (.int p0)] [] := by
  unfold f_X7_left
  refine r_iload_n (pc := 0) C dX7_left_0 rfl ?_
  refine r_bipush (pc := 1) (v := 7) C dX7_left_1 (by decide) ?_
  refine r_callS (pc := 3) C (c_X7_isWithin (zO.ap C) _ _ _) lk_c_X7_isWithin lk_i_X7 lk_m_X7_82 lk_s_X7_isWithin (n := 2) (by decide +kernel) rfl ⟨rfl, rfl⟩ (by decide) (Nat.le_of_ble_eq_true rfl) ⟨Nat.zero_le _, Nat.zero_le _⟩ dX7_left_3 (fun v1 s1 _ => ?_)
  refine r_if_eq (pc := 6) (tgt := 21) C dX7_left_6 (by decide) (fun _ => ?_) (fun _ => ?_)
  · refine r_iconst (pc := 21) (v := -1) C dX7_left_21 (by decide) ?_
    exact r_iret (pc := 22) C dX7_left_22
  · refine r_aload_n (pc := 9) C dX7_left_9 rfl ?_
    refine r_get (pc := 10) C K_X7 0 3 (by decide) rfl (by decide) lk_f_X7_35 rfl dX7_left_10 ?_
    refine r_getN (pc := 13) C K_X6 13 5 (by decide) rfl (by decide) lk_fn_X7_185 rfl dX7_left_13 ?_
    refine r_iload_n (pc := 16) C dX7_left_16 rfl ?_
    refine r_iald (pc := 17) (t0 := 0) C 43 (by decide) rfl rfl dX7_left_17 ?_
    refine r_goto (pc := 18) (tgt := 22) C dX7_left_18 (by decide) ?_
    exact r_iret (pc := 22) C dX7_left_22
theorem c_X7_left {E : zG} (hAp : zAp E) (p0 : Int32) (σ : zS) : zM E yX7_left cX7_left 2 (some .int) rm_X7_left (fun r : Int32 => some (.int r)) [.ref (zad E 0), .int p0] (f_X7_left p0 σ) σ :=
  zM_of (nn := 0) hAp (by decide) (Nat.le_of_ble_eq_true rfl) rfl rfl (fun Γ C => g_X7_left C p0 σ)
