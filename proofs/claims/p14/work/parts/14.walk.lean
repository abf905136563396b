set_option maxHeartbeats 4000000 in
set_option maxRecDepth 100000 in
theorem g_X8_top {E : zG} {Γ : zX} (C : zO E Γ RX8 cX8_top 1 (some .int)) (σ : zS) : zJ E Γ rm_X8_top 1 (fun r : Int32 => some (.int r)) (f_X8_top σ) σ 0 [some (.ref (zad E 45))] [] := by
  unfold f_X8_top
  refine r_aload_n (pc := 0) C dX8_top_0 rfl ?_
  refine r_get (pc := 1) C K_X8 45 22 (by decide) rfl (by decide) lk_f_X8_142 rfl dX8_top_1 ?_
  refine r_iconst (pc := 4) (v := 1) C dX8_top_4 (by decide) ?_
  refine r_isub (pc := 5) C dX8_top_5 ?_
  exact r_iret (pc := 6) C dX8_top_6
theorem c_X8_top {E : zG} (hAp : zAp E) (σ : zS) : zM E yX8_top cX8_top 1 (some .int) rm_X8_top (fun r : Int32 => some (.int r)) [.ref (zad E 45)] (f_X8_top σ) σ :=
  zM_of (nn := 0) hAp (by decide) (Nat.le_of_ble_eq_true rfl) rfl rfl (fun Γ C => g_X8_top C σ)
set_option maxHeartbeats 4000000 in
set_option maxRecDepth 100000 in
theorem g_X8_pop {E : zG} {Γ : zX} (C : zO E Γ RX8 cX8_pop 1 (some .int)) (σ : zS) : zJ E Γ rm_X8_pop 1 (fun r : Int32 => some (.int r)) (f_X8_pop σ) σ 0 [some (.ref (zad E 45))] [] := by
  unfold f_X8_pop
  refine r_aload_n (pc := 0) C dX8_pop_0 rfl ?_
  refine r_get (pc := 1) C K_X8 45 29 (by decide) rfl (by decide) lk_f_X8_145 rfl dX8_pop_1 ?_
  refine r_aload_n (pc := 4) C dX8_pop_4 rfl ?_
  refine r_get (pc := 5) C K_X8 45 26 (by decide) rfl (by decide) lk_f_X8_57 rfl dX8_pop_5 ?_
  refine r_aload_n (pc := 8) C dX8_pop_8 rfl ?_
  refine r_callV (pc := 9) C 45 (c_X8_top (zO.ap C)  _) lk_c_X8_top lk_i_X8 lk_m_X8_148 lk_n_X8_top lk_v_X8_top (n := 0) (by decide +kernel) rfl ⟨rfl, rfl⟩ (by decide) (by decide) rfl rfl rfl (Nat.le_of_ble_eq_true rfl) ⟨Nat.zero_le _, Nat.zero_le _⟩ dX8_pop_9 (fun v1 s1 _ => ?_)
  refine r_iald (pc := 12) (t0 := 0) C 59 (by decide) rfl rfl dX8_pop_12 ?_
  refine r_icmp_ne (pc := 13) (tgt := 23) C dX8_pop_13 (by decide) (fun _ => ?_) (fun _ => ?_)
  · refine r_aload_n (pc := 16) C dX8_pop_16 rfl ?_
    refine r_iconst (pc := 17) (v := 4) C dX8_pop_17 (by decide) ?_
    refine r_put (pc := 18) C K_X8 45 12 (by decide) rfl (by decide) lk_f_X8_81 rfl rfl (Nat.le_of_ble_eq_true rfl) rfl dX8_pop_18 (fun s3 _ => ?_)
    refine r_iconst (pc := 21) (v := 0) C dX8_pop_21 (by decide) ?_
    exact r_iret (pc := 22) C dX8_pop_22
  · refine r_aload_n (pc := 23) C dX8_pop_23 rfl ?_
    refine r_dup (pc := 24) C dX8_pop_24 rfl ?_
    refine r_get (pc := 25) C K_X8 45 29 (by decide) rfl (by decide) lk_f_X8_145 rfl dX8_pop_25 ?_
    refine r_iconst (pc := 28) (v := 1) C dX8_pop_28 (by decide) ?_
    refine r_isub (pc := 29) C dX8_pop_29 ?_
    refine r_put (pc := 30) C K_X8 45 29 (by decide) rfl (by decide) lk_f_X8_145 rfl rfl (Nat.le_of_ble_eq_true rfl) rfl dX8_pop_30 (fun s2 _ => ?_)
    refine r_aload_n (pc := 33) C dX8_pop_33 rfl ?_
    refine r_get (pc := 34) C K_X8 45 28 (by decide) rfl (by decide) lk_f_X8_63 rfl dX8_pop_34 ?_
    refine r_aload_n (pc := 37) C dX8_pop_37 rfl ?_
    refine r_get (pc := 38) C K_X8 45 29 (by decide) rfl (by decide) lk_f_X8_145 rfl dX8_pop_38 ?_
    refine r_iald (pc := 41) (t0 := 0) C 61 (by decide) rfl rfl dX8_pop_41 ?_
    exact r_iret (pc := 42) C dX8_pop_42
theorem c_X8_pop {E : zG} (hAp : zAp E) (σ : zS) : zM E yX8_pop cX8_pop 1 (some .int) rm_X8_pop (fun r : Int32 => some (.int r)) [.ref (zad E 45)] (f_X8_pop σ) σ :=
  zM_of (nn := 0) hAp (by decide) (Nat.le_of_ble_eq_true rfl) rfl rfl (fun Γ C => g_X8_pop C σ)
set_option maxHeartbeats 4000000 in
set_option maxRecDepth 100000 in
theorem g_X8_push {E : zG} {Γ : zX} (C : zO E Γ RX8 cX8_push 2 none) (p0 : Int32) (σ : zS) : zJ E Γ rm_X8_push 2 (fun _ : Unit => none) (f_X8_push p0 σ) σ 0 [some (.ref (zad E 45)), some (.int p0)] [] := by
  unfold f_X8_push
  refine r_aload_n (pc := 0) C dX8_push_0 rfl ?_
  refine r_get (pc := 1) C K_X8 45 29 (by decide) rfl (by decide) lk_f_X8_145 rfl dX8_push_1 ?_
  refine r_bipush (pc := 4) (v := 100) C dX8_push_4 (by decide) ?_
  refine r_icmp_ne (pc := 6) (tgt := 15) C dX8_push_6 (by decide) (fun _ => ?_) (fun _ => ?_)
  · refine r_aload_n (pc := 9) C dX8_push_9 rfl ?_
    refine r_iconst (pc := 10) (v := 5) C dX8_push_10 (by decide) ?_
    refine r_put (pc := 11) C K_X8 45 12 (by decide) rfl (by decide) lk_f_X8_81 rfl rfl (Nat.le_of_ble_eq_true rfl) rfl dX8_push_11 (fun s3 _ => ?_)
    exact r_vret (pc := 14) C dX8_push_14
  · refine r_aload_n (pc := 15) C dX8_push_15 rfl ?_
    refine r_get (pc := 16) C K_X8 45 28 (by decide) rfl (by decide) lk_f_X8_63 rfl dX8_push_16 ?_
    refine r_aload_n (pc := 19) C dX8_push_19 rfl ?_
    refine r_get (pc := 20) C K_X8 45 29 (by decide) rfl (by decide) lk_f_X8_145 rfl dX8_push_20 ?_
    refine r_iload_n (pc := 23) C dX8_push_23 rfl ?_
    refine r_ldc (pc := 24) (v := 65535) C dX8_push_24 lk_k_X8_75 ?_
    refine r_iand (pc := 26) C dX8_push_26 ?_
    refine r_iast (pc := 27) (t0 := 0) C 61 (by decide) rfl (fun _ => rfl) rfl dX8_push_27 (fun s1 _ => ?_)
    refine r_aload_n (pc := 28) C dX8_push_28 rfl ?_
    refine r_dup (pc := 29) C dX8_push_29 rfl ?_
    refine r_get (pc := 30) C K_X8 45 29 (by decide) rfl (by decide) lk_f_X8_145 rfl dX8_push_30 ?_
    refine r_iconst (pc := 33) (v := 1) C dX8_push_33 (by decide) ?_
    refine r_iadd (pc := 34) C dX8_push_34 ?_
    refine r_put (pc := 35) C K_X8 45 29 (by decide) rfl (by decide) lk_f_X8_145 rfl rfl (Nat.le_of_ble_eq_true rfl) rfl dX8_push_35 (fun s2 _ => ?_)
    exact r_vret (pc := 38) C dX8_push_38
theorem c_X8_push {E : zG} (hAp : zAp E) (p0 : Int32) (σ : zS) : zM E yX8_push cX8_push 2 none rm_X8_push (fun _ : Unit => none) [.ref (zad E 45), .int p0] (f_X8_push p0 σ) σ :=
  zM_of (nn := 0) hAp (by decide) (Nat.le_of_ble_eq_true rfl) rfl rfl (fun Γ C => g_X8_push C p0 σ)
set_option maxHeartbeats 4000000 in
set_option maxRecDepth 100000 in
theorem g_X8_isLocal {E : zG} {Γ : zX} (C : zO E Γ RX8 cX8_isLocal 2 (some .boolean)) (p0 : Int32) (σ : zS) : zJ E Γ rm_X8_isLocal 2 (fun r : Int32 => some (.int r)) (f_X8_isLocal p0 σ) σ 0 [some (.ref (zad E 45)), some (.int p0)] [] := by
  unfold f_X8_isLocal
  refine r_iload_n (pc := 0) C dX8_isLocal_0 rfl ?_
  refine r_aload_n (pc := 1) C dX8_isLocal_1 rfl ?_
  refine r_get (pc := 2) C K_X8 45 20 (by decide) rfl (by decide) lk_f_X8_42 rfl dX8_isLocal_2 ?_
  refine r_aload_n (pc := 5) C dX8_isLocal_5 rfl ?_
  refine r_get (pc := 6) C K_X8 45 23 (by decide) rfl (by decide) lk_f_X8_48 rfl dX8_isLocal_6 ?_
  refine r_aload_n (pc := 9) C dX8_isLocal_9 rfl ?_
  refine r_callV (pc := 10) C 45 (c_X8_top (zO.ap C)  _) lk_c_X8_top lk_i_X8 lk_m_X8_148 lk_n_X8_top lk_v_X8_top (n := 0) (by decide +kernel) rfl ⟨rfl, rfl⟩ (by decide) (by decide) rfl rfl rfl (Nat.le_of_ble_eq_true rfl) ⟨Nat.zero_le _, Nat.zero_le _⟩ dX8_isLocal_10 (fun v1 s1 _ => ?_)
  refine r_iald (pc := 13) (t0 := 0) C 56 (by decide) rfl rfl dX8_isLocal_13 ?_
  refine r_iald (pc := 14) (t0 := 0) C 54 (by decide) rfl rfl dX8_isLocal_14 ?_
  refine r_icmp_le (pc := 15) (tgt := 26) C dX8_isLocal_15 (by decide) (fun _ => ?_) (fun _ => ?_)
  · refine r_iconst (pc := 26) (v := 1) C dX8_isLocal_26 (by decide) ?_
    exact r_zret (pc := 27) C (by first | rfl | decide) dX8_isLocal_27
  · refine r_aload_n (pc := 18) C dX8_isLocal_18 rfl ?_
    refine r_bipush (pc := 19) (v := 7) C dX8_isLocal_19 (by decide) ?_
    refine r_put (pc := 21) C K_X8 45 12 (by decide) rfl (by decide) lk_f_X8_81 rfl rfl (Nat.le_of_ble_eq_true rfl) rfl dX8_isLocal_21 (fun s2 _ => ?_)
    refine r_iconst (pc := 24) (v := 0) C dX8_isLocal_24 (by decide) ?_
    exact r_zret (pc := 25) C (by first | rfl | decide) dX8_isLocal_25
theorem c_X8_isLocal {E : zG} (hAp : zAp E) (p0 : Int32) (σ : zS) : zM E yX8_isLocal cX8_isLocal 2 (some .boolean) rm_X8_isLocal (fun r : Int32 => some (.int r)) [.ref (zad E 45), .int p0] (f_X8_isLocal p0 σ) σ :=
  zM_of (nn := 0) hAp (by decide) (Nat.le_of_ble_eq_true rfl) rfl rfl (fun Γ C => g_X8_isLocal C p0 σ)
set_option maxHeartbeats 4000000 in
set_option maxRecDepth 100000 in
theorem g_X8_ask {E : zG} {Γ : zX} (C : zO E Γ RX8 cX8_ask 2 (some .int)) (p0 : Int32) (σ : zS) : zJ E Γ rm_X8_ask 2 (fun r : Int32 => some (.int r)) (f_X8_ask p0 σ) σ 0 [some (.ref (zad E 45)), some (.int p0)] [] := by
  unfold f_X8_ask
  refine r_iload_n (pc := 0) C dX8_ask_0 rfl ?_
  refine r_if_ne (pc := 1) (tgt := 9) C dX8_ask_1 (by decide) (fun _ => ?_) (fun _ => ?_)
  · refine r_aload_n (pc := 4) C dX8_ask_4 rfl ?_
    refine r_callV (pc := 5) C 45 (c_X8_pop (zO.ap C)  _) lk_c_X8_pop lk_i_X8 lk_m_X8_152 lk_n_X8_pop lk_v_X8_pop (n := 0) (by decide +kernel) rfl ⟨rfl, rfl⟩ (by decide) (by decide) rfl rfl rfl (Nat.le_of_ble_eq_true rfl) ⟨Nat.zero_le _, Nat.zero_le _⟩ dX8_ask_5 (fun v4 s4 _ => ?_)
    exact r_iret (pc := 8) C dX8_ask_8
  · refine r_iload_n (pc := 9) C dX8_ask_9 rfl ?_
    refine r_bipush (pc := 10) (v := 16) C dX8_ask_10 (by decide) ?_
    refine r_icmp_ge (pc := 12) (tgt := 44) C dX8_ask_12 (by decide) (fun _ => ?_) (fun _ => ?_)
    · refine r_aload_n (pc := 44) C dX8_ask_44 rfl ?_
      refine r_aload_n (pc := 45) C dX8_ask_45 rfl ?_
      refine r_get (pc := 46) C K_X8 45 4 (by decide) rfl (by decide) lk_f_X8_136 rfl dX8_ask_46 ?_
      refine r_iconst (pc := 49) (v := 2) C dX8_ask_49 (by decide) ?_
      refine r_iload_n (pc := 50) C dX8_ask_50 rfl ?_
      refine r_bipush (pc := 51) (v := 16) C dX8_ask_51 (by decide) ?_
      refine r_isub (pc := 53) C dX8_ask_53 ?_
      refine r_imul (pc := 54) C dX8_ask_54 ?_
      refine r_iadd (pc := 55) C dX8_ask_55 ?_
      refine r_iconst (pc := 56) (v := 1) C dX8_ask_56 (by decide) ?_
      refine r_callV (pc := 57) C 45 (c_X8_read (zO.ap C) _ _ _) lk_c_X8_read lk_i_X8 lk_m_X8_91 lk_n_X8_read lk_v_X8_read (n := 2) (by decide +kernel) rfl ⟨rfl, rfl⟩ (by decide) (by decide) rfl rfl rfl (Nat.le_of_ble_eq_true rfl) ⟨Nat.zero_le _, Nat.zero_le _⟩ dX8_ask_57 (fun v1 s1 _ => ?_)
      exact r_iret (pc := 60) C dX8_ask_60
    · refine r_aload_n (pc := 15) C dX8_ask_15 rfl ?_
      refine r_iload_n (pc := 16) C dX8_ask_16 rfl ?_
      refine r_callV (pc := 17) C 45 (c_X8_isLocal (zO.ap C) _ _) lk_c_X8_isLocal lk_i_X8 lk_m_X8_155 lk_n_X8_isLocal lk_v_X8_isLocal (n := 1) (by decide +kernel) rfl ⟨rfl, rfl⟩ (by decide) (by decide) rfl rfl rfl (Nat.le_of_ble_eq_true rfl) ⟨Nat.zero_le _, Nat.zero_le _⟩ dX8_ask_17 (fun v2 s2 _ => ?_)
      refine r_if_eq (pc := 20) (tgt := 42) C dX8_ask_20 (by decide) (fun _ => ?_) (fun _ => ?_)
      · refine r_iconst (pc := 42) (v := 0) C dX8_ask_42 (by decide) ?_
        exact r_iret (pc := 43) C dX8_ask_43
      · refine r_aload_n (pc := 23) C dX8_ask_23 rfl ?_
        refine r_get (pc := 24) C K_X8 45 27 (by decide) rfl (by decide) lk_f_X8_60 rfl dX8_ask_24 ?_
        refine r_bipush (pc := 27) (v := 15) C dX8_ask_27 (by decide) ?_
        refine r_aload_n (pc := 29) C dX8_ask_29 rfl ?_
        refine r_callV (pc := 30) C 45 (c_X8_top (zO.ap C)  _) lk_c_X8_top lk_i_X8 lk_m_X8_148 lk_n_X8_top lk_v_X8_top (n := 0) (by decide +kernel) rfl ⟨rfl, rfl⟩ (by decide) (by decide) rfl rfl rfl (Nat.le_of_ble_eq_true rfl) ⟨Nat.zero_le _, Nat.zero_le _⟩ dX8_ask_30 (fun v3 s3 _ => ?_)
        refine r_imul (pc := 33) C dX8_ask_33 ?_
        refine r_iload_n (pc := 34) C dX8_ask_34 rfl ?_
        refine r_iadd (pc := 35) C dX8_ask_35 ?_
        refine r_iconst (pc := 36) (v := 1) C dX8_ask_36 (by decide) ?_
        refine r_isub (pc := 37) C dX8_ask_37 ?_
        refine r_iald (pc := 38) (t0 := 0) C 60 (by decide) rfl rfl dX8_ask_38 ?_
        refine r_goto (pc := 39) (tgt := 43) C dX8_ask_39 (by decide) ?_
        exact r_iret (pc := 43) C dX8_ask_43
theorem c_X8_ask {E : zG} (hAp : zAp E) (p0 : Int32) (σ : zS) : zM E yX8_ask cX8_ask 2 (some .int) rm_X8_ask (fun r : Int32 => some (.int r)) [.ref (zad E 45), .int p0] (f_X8_ask p0 σ) σ :=
  zM_of (nn := 0) hAp (by decide) (Nat.le_of_ble_eq_true rfl) rfl rfl (fun Γ C => g_X8_ask C p0 σ)
set_option maxHeartbeats 4000000 in
set_option maxRecDepth 100000 in
theorem g_X8_set {E : zG} {Γ : zX} (C : zO E Γ RX8 cX8_set 3 none) (p0 : Int32) (p1 : Int32) (σ : zS) : zJ E Γ rm_X8_set 3 (fun _ : Unit => none) (f_X8_set p0 p1 σ) σ 0 [some (.ref (zad E 45)), some (.int p0), some (.int p1)] [] := by
  unfold f_X8_set
  refine r_iload_n (pc := 0) C dX8_set_0 rfl ?_
  refine r_if_ne (pc := 1) (tgt := 12) C dX8_set_1 (by decide) (fun _ => ?_) (fun _ => ?_)
  · refine r_aload_n (pc := 4) C dX8_set_4 rfl ?_
    refine r_iload_n (pc := 5) C dX8_set_5 rfl ?_
    refine r_callV (pc := 6) C 45 (c_X8_push (zO.ap C) _ _) lk_c_X8_push lk_i_X8 lk_m_X8_159 lk_n_X8_push lk_v_X8_push (n := 1) (by decide +kernel) rfl ⟨rfl, rfl⟩ (by decide) (by decide) rfl rfl rfl (Nat.le_of_ble_eq_true rfl) ⟨Nat.zero_le _, Nat.zero_le _⟩ dX8_set_6 (fun _ s5 _ => ?_)
    refine r_goto (pc := 9) (tgt := 67) C dX8_set_9 (by decide) ?_
    exact r_vret (pc := 67) C dX8_set_67
  · refine r_iload_n (pc := 12) C dX8_set_12 rfl ?_
    refine r_bipush (pc := 13) (v := 16) C dX8_set_13 (by decide) ?_
    refine r_icmp_ge (pc := 15) (tgt := 49) C dX8_set_15 (by decide) (fun _ => ?_) (fun _ => ?_)
    · refine r_aload_n (pc := 49) C dX8_set_49 rfl ?_
      refine r_aload_n (pc := 50) C dX8_set_50 rfl ?_
      refine r_get (pc := 51) C K_X8 45 4 (by decide) rfl (by decide) lk_f_X8_136 rfl dX8_set_51 ?_
      refine r_iconst (pc := 54) (v := 2) C dX8_set_54 (by decide) ?_
      refine r_iload_n (pc := 55) C dX8_set_55 rfl ?_
      refine r_bipush (pc := 56) (v := 16) C dX8_set_56 (by decide) ?_
      refine r_isub (pc := 58) C dX8_set_58 ?_
      refine r_imul (pc := 59) C dX8_set_59 ?_
      refine r_iadd (pc := 60) C dX8_set_60 ?_
      refine r_iload_n (pc := 61) C dX8_set_61 rfl ?_
      refine r_iconst (pc := 62) (v := 1) C dX8_set_62 (by decide) ?_
      refine r_iconst (pc := 63) (v := 0) C dX8_set_63 (by decide) ?_
      refine r_callV (pc := 64) C 45 (c_X8_write (zO.ap C) _ _ _ _ _) lk_c_X8_write lk_i_X8 lk_m_X8_95 lk_n_X8_write lk_v_X8_write (n := 4) (by decide +kernel) rfl ⟨rfl, rfl⟩ (by decide) (by decide) rfl rfl rfl (Nat.le_of_ble_eq_true rfl) ⟨Nat.zero_le _, Nat.zero_le _⟩ dX8_set_64 (fun _ s1 _ => ?_)
      exact r_vret (pc := 67) C dX8_set_67
    · refine r_aload_n (pc := 18) C dX8_set_18 rfl ?_
      refine r_iload_n (pc := 19) C dX8_set_19 rfl ?_
      refine r_callV (pc := 20) C 45 (c_X8_isLocal (zO.ap C) _ _) lk_c_X8_isLocal lk_i_X8 lk_m_X8_155 lk_n_X8_isLocal lk_v_X8_isLocal (n := 1) (by decide +kernel) rfl ⟨rfl, rfl⟩ (by decide) (by decide) rfl rfl rfl (Nat.le_of_ble_eq_true rfl) ⟨Nat.zero_le _, Nat.zero_le _⟩ dX8_set_20 (fun v1 s2 _ => ?_)
      refine r_if_eq (pc := 23) (tgt := 67) C dX8_set_23 (by decide) (fun _ => ?_) (fun _ => ?_)
      · exact r_vret (pc := 67) C dX8_set_67
      · refine r_aload_n (pc := 26) C dX8_set_26 rfl ?_
        refine r_get (pc := 27) C K_X8 45 27 (by decide) rfl (by decide) lk_f_X8_60 rfl dX8_set_27 ?_
        refine r_bipush (pc := 30) (v := 15) C dX8_set_30 (by decide) ?_
        refine r_aload_n (pc := 32) C dX8_set_32 rfl ?_
        refine r_callV (pc := 33) C 45 (c_X8_top (zO.ap C)  _) lk_c_X8_top lk_i_X8 lk_m_X8_148 lk_n_X8_top lk_v_X8_top (n := 0) (by decide +kernel) rfl ⟨rfl, rfl⟩ (by decide) (by decide) rfl rfl rfl (Nat.le_of_ble_eq_true rfl) ⟨Nat.zero_le _, Nat.zero_le _⟩ dX8_set_33 (fun v2 s3 _ => ?_)
        refine r_imul (pc := 36) C dX8_set_36 ?_
        refine r_iload_n (pc := 37) C dX8_set_37 rfl ?_
        refine r_iadd (pc := 38) C dX8_set_38 ?_
        refine r_iconst (pc := 39) (v := 1) C dX8_set_39 (by decide) ?_
        refine r_isub (pc := 40) C dX8_set_40 ?_
        refine r_iload_n (pc := 41) C dX8_set_41 rfl ?_
        refine r_ldc (pc := 42) (v := 65535) C dX8_set_42 lk_k_X8_75 ?_
        refine r_iand (pc := 44) C dX8_set_44 ?_
        refine r_iast (pc := 45) (t0 := 0) C 60 (by decide) rfl (fun _ => rfl) rfl dX8_set_45 (fun s4 _ => ?_)
        refine r_goto (pc := 46) (tgt := 67) C dX8_set_46 (by decide) ?_
        exact r_vret (pc := 67) C dX8_set_67
theorem c_X8_set {E : zG} (hAp : zAp E) (p0 : Int32) (p1 : Int32) (σ : zS) : zM E yX8_set cX8_set 3 none rm_X8_set (fun _ : Unit => none) [.ref (zad E 45), .int p0, .int p1] (f_X8_set p0 p1 σ) σ :=
  zM_of (nn := 0) hAp (by decide) (Nat.le_of_ble_eq_true rfl) rfl rfl (fun Γ C => g_X8_set C p0 p1 σ)
set_option maxHeartbeats 4000000 in
set_option maxRecDepth 100000 in
theorem g_X8_more {E : zG} {Γ : zX} (C : zO E Γ RX8 cX8_more 4 none) (p0 : Int32) (p1 : Int32) (σ : zS) : zJ E Γ rm_X8_more 4 (fun _ : Unit => none) (f_X8_more p0 p1 σ) σ 0 [some (.ref (zad E 45)), some (.int p0), some (.int p1), none] [] := by
  unfold f_X8_more
  refine r_iload_n (pc := 0) C dX8_more_0 rfl ?_
  refine r_if_ne (pc := 1) (tgt := 56) C dX8_more_1 (by decide) (fun _ => ?_) (fun _ => ?_)
  · refine r_aload_n (pc := 4) C dX8_more_4 rfl ?_
    refine r_get (pc := 5) C K_X8 45 29 (by decide) rfl (by decide) lk_f_X8_145 rfl dX8_more_5 ?_
    refine r_aload_n (pc := 8) C dX8_more_8 rfl ?_
    refine r_get (pc := 9) C K_X8 45 26 (by decide) rfl (by decide) lk_f_X8_57 rfl dX8_more_9 ?_
    refine r_aload_n (pc := 12) C dX8_more_12 rfl ?_
    refine r_callV (pc := 13) C 45 (c_X8_top (zO.ap C)  _) lk_c_X8_top lk_i_X8 lk_m_X8_148 lk_n_X8_top lk_v_X8_top (n := 0) (by decide +kernel) rfl ⟨rfl, rfl⟩ (by decide) (by decide) rfl rfl rfl (Nat.le_of_ble_eq_true rfl) ⟨Nat.zero_le _, Nat.zero_le _⟩ dX8_more_13 (fun v2 s3 _ => ?_)
    refine r_iald (pc := 16) (t0 := 0) C 59 (by decide) rfl rfl dX8_more_16 ?_
    refine r_icmp_ne (pc := 17) (tgt := 28) C dX8_more_17 (by decide) (fun _ => ?_) (fun _ => ?_)
    · refine r_aload_n (pc := 20) C dX8_more_20 rfl ?_
      refine r_iconst (pc := 21) (v := 4) C dX8_more_21 (by decide) ?_
      refine r_put (pc := 22) C K_X8 45 12 (by decide) rfl (by decide) lk_f_X8_81 rfl rfl (Nat.le_of_ble_eq_true rfl) rfl dX8_more_22 (fun s5 _ => ?_)
      refine r_goto (pc := 25) (tgt := 55) C dX8_more_25 (by decide) ?_
      exact r_vret (pc := 55) C dX8_more_55
    · refine r_aload_n (pc := 28) C dX8_more_28 rfl ?_
      refine r_get (pc := 29) C K_X8 45 28 (by decide) rfl (by decide) lk_f_X8_63 rfl dX8_more_29 ?_
      refine r_aload_n (pc := 32) C dX8_more_32 rfl ?_
      refine r_get (pc := 33) C K_X8 45 29 (by decide) rfl (by decide) lk_f_X8_145 rfl dX8_more_33 ?_
      refine r_iconst (pc := 36) (v := 1) C dX8_more_36 (by decide) ?_
      refine r_isub (pc := 37) C dX8_more_37 ?_
      refine r_aload_n (pc := 38) C dX8_more_38 rfl ?_
      refine r_get (pc := 39) C K_X8 45 28 (by decide) rfl (by decide) lk_f_X8_63 rfl dX8_more_39 ?_
      refine r_aload_n (pc := 42) C dX8_more_42 rfl ?_
      refine r_get (pc := 43) C K_X8 45 29 (by decide) rfl (by decide) lk_f_X8_145 rfl dX8_more_43 ?_
      refine r_iconst (pc := 46) (v := 1) C dX8_more_46 (by decide) ?_
      refine r_isub (pc := 47) C dX8_more_47 ?_
      refine r_iald (pc := 48) (t0 := 0) C 61 (by decide) rfl rfl dX8_more_48 ?_
      refine r_iload_n (pc := 49) C dX8_more_49 rfl ?_
      refine r_iadd (pc := 50) C dX8_more_50 ?_
      refine r_ldc (pc := 51) (v := 65535) C dX8_more_51 lk_k_X8_75 ?_
      refine r_iand (pc := 53) C dX8_more_53 ?_
      refine r_iast (pc := 54) (t0 := 0) C 61 (by decide) rfl (fun _ => rfl) rfl dX8_more_54 (fun s4 _ => ?_)
      exact r_vret (pc := 55) C dX8_more_55
  · refine r_aload_n (pc := 56) C dX8_more_56 rfl ?_
    refine r_iload_n (pc := 57) C dX8_more_57 rfl ?_
    refine r_callV (pc := 58) C 45 (c_X8_ask (zO.ap C) _ _) lk_c_X8_ask lk_i_X8 lk_m_X8_163 lk_n_X8_ask lk_v_X8_ask (n := 1) (by decide +kernel) rfl ⟨rfl, rfl⟩ (by decide) (by decide) rfl rfl rfl (Nat.le_of_ble_eq_true rfl) ⟨Nat.zero_le _, Nat.zero_le _⟩ dX8_more_58 (fun v1 s1 _ => ?_)
    refine r_istore_n (pc := 61) (lv' := [some (.ref (zad E 45)), some (.int p0), some (.int p1), some (.int v1)]) C dX8_more_61 (by decide) rfl ?_
    refine r_aload_n (pc := 62) C dX8_more_62 rfl ?_
    refine r_get (pc := 63) C K_X8 45 12 (by decide) rfl (by decide) lk_f_X8_81 rfl dX8_more_63 ?_
    refine r_if_ne (pc := 66) (tgt := 77) C dX8_more_66 (by decide) (fun _ => ?_) (fun _ => ?_)
    · refine r_aload_n (pc := 69) C dX8_more_69 rfl ?_
      refine r_iload_n (pc := 70) C dX8_more_70 rfl ?_
      refine r_iload_n (pc := 71) C dX8_more_71 rfl ?_
      refine r_iload_n (pc := 72) C dX8_more_72 rfl ?_
      refine r_iadd (pc := 73) C dX8_more_73 ?_
      refine r_callV (pc := 74) C 45 (c_X8_set (zO.ap C) _ _ _) lk_c_X8_set lk_i_X8 lk_m_X8_166 lk_n_X8_set lk_v_X8_set (n := 2) (by decide +kernel) rfl ⟨rfl, rfl⟩ (by decide) (by decide) rfl rfl rfl (Nat.le_of_ble_eq_true rfl) ⟨Nat.zero_le _, Nat.zero_le _⟩ dX8_more_74 (fun _ s2 _ => ?_)
      exact r_vret (pc := 77) C dX8_more_77
    · exact r_vret (pc := 77) C dX8_more_77
theorem c_X8_more {E : zG} (hAp : zAp E) (p0 : Int32) (p1 : Int32) (σ : zS) : zM E yX8_more cX8_more 4 none rm_X8_more (fun _ : Unit => none) [.ref (zad E 45), .int p0, .int p1] (f_X8_more p0 p1 σ) σ :=
  zM_of (nn := 1) hAp (by decide) (Nat.le_of_ble_eq_true rfl) rfl rfl (fun Γ C => g_X8_more C p0 p1 σ)
set_option maxHeartbeats 4000000 in
set_option maxRecDepth 100000 in
theorem g_X8_wants {E : zG} {Γ : zX} (C : zO E Γ RX8 cX8_wants 1 (some .int)) (p0 : Int32) (σ : zS) : zJ E Γ rm_X8_wants 1 (fun r : Int32 => some (.int r)) (f_X8_wants p0 σ) σ 0 [some (.int p0)] [] := by
  unfold f_X8_wants
  refine r_iload_n (pc := 0) C dX8_wants_0 rfl ?_
  refine r_split (fun h1 => ?_) (fun h1 => ?_)
  · refine r_tabIn (pc := 1) (v := 7) (tgt := 120) C dX8_wants_1 h1 (by decide) (by decide) rfl (by decide) ?_
    refine r_iconst (pc := 120) (v := 1) C dX8_wants_120 (by decide) ?_
    exact r_iret (pc := 121) C dX8_wants_121
  · refine r_split (fun h2 => ?_) (fun h2 => ?_)
    · refine r_tabIn (pc := 1) (v := 8) (tgt := 126) C dX8_wants_1 h2 (by decide) (by decide) rfl (by decide) ?_
      refine r_iconst (pc := 126) (v := 2) C dX8_wants_126 (by decide) ?_
      exact r_iret (pc := 127) C dX8_wants_127
    · refine r_split (fun h3 => ?_) (fun h3 => ?_)
      · refine r_tabIn (pc := 1) (v := 9) (tgt := 126) C dX8_wants_1 h3 (by decide) (by decide) rfl (by decide) ?_
        refine r_iconst (pc := 126) (v := 2) C dX8_wants_126 (by decide) ?_
        exact r_iret (pc := 127) C dX8_wants_127
      · refine r_split (fun h4 => ?_) (fun h4 => ?_)
        · refine r_tabIn (pc := 1) (v := 10) (tgt := 124) C dX8_wants_1 h4 (by decide) (by decide) rfl (by decide) ?_
          refine r_iconst (pc := 124) (v := 3) C dX8_wants_124 (by decide) ?_
          exact r_iret (pc := 125) C dX8_wants_125
        · refine r_split (fun h5 => ?_) (fun h5 => ?_)
          · refine r_tabIn (pc := 1) (v := 11) (tgt := 124) C dX8_wants_1 h5 (by decide) (by decide) rfl (by decide) ?_
            refine r_iconst (pc := 124) (v := 3) C dX8_wants_124 (by decide) ?_
            exact r_iret (pc := 125) C dX8_wants_125
          · refine r_split (fun h6 => ?_) (fun h6 => ?_)
            · refine r_tabIn (pc := 1) (v := 12) (tgt := 124) C dX8_wants_1 h6 (by decide) (by decide) rfl (by decide) ?_
              refine r_iconst (pc := 124) (v := 3) C dX8_wants_124 (by decide) ?_
              exact r_iret (pc := 125) C dX8_wants_125
            · refine r_split (fun h7 => ?_) (fun h7 => ?_)
              · refine r_tabIn (pc := 1) (v := 13) (tgt := 120) C dX8_wants_1 h7 (by decide) (by decide) rfl (by decide) ?_
                refine r_iconst (pc := 120) (v := 1) C dX8_wants_120 (by decide) ?_
                exact r_iret (pc := 121) C dX8_wants_121
              · refine r_split (fun h8 => ?_) (fun h8 => ?_)
                · refine r_tabIn (pc := 1) (v := 14) (tgt := 120) C dX8_wants_1 h8 (by decide) (by decide) rfl (by decide) ?_
                  refine r_iconst (pc := 120) (v := 1) C dX8_wants_120 (by decide) ?_
                  exact r_iret (pc := 121) C dX8_wants_121
                · refine r_split (fun h9 => ?_) (fun h9 => ?_)
                  · refine r_tabIn (pc := 1) (v := 15) (tgt := 120) C dX8_wants_1 h9 (by decide) (by decide) rfl (by decide) ?_
                    refine r_iconst (pc := 120) (v := 1) C dX8_wants_120 (by decide) ?_
                    exact r_iret (pc := 121) C dX8_wants_121
                  · refine r_split (fun h10 => ?_) (fun h10 => ?_)
                    · refine r_tabIn (pc := 1) (v := 16) (tgt := 126) C dX8_wants_1 h10 (by decide) (by decide) rfl (by decide) ?_
                      refine r_iconst (pc := 126) (v := 2) C dX8_wants_126 (by decide) ?_
                      exact r_iret (pc := 127) C dX8_wants_127
                    · refine r_split (fun h11 => ?_) (fun h11 => ?_)
                      · refine r_tabIn (pc := 1) (v := 17) (tgt := 126) C dX8_wants_1 h11 (by decide) (by decide) rfl (by decide) ?_
                        refine r_iconst (pc := 126) (v := 2) C dX8_wants_126 (by decide) ?_
                        exact r_iret (pc := 127) C dX8_wants_127
                      · refine r_split (fun h12 => ?_) (fun h12 => ?_)
                        · refine r_tabIn (pc := 1) (v := 18) (tgt := 124) C dX8_wants_1 h12 (by decide) (by decide) rfl (by decide) ?_
                          refine r_iconst (pc := 124) (v := 3) C dX8_wants_124 (by decide) ?_
                          exact r_iret (pc := 125) C dX8_wants_125
                        · refine r_split (fun h13 => ?_) (fun h13 => ?_)
                          · refine r_tabIn (pc := 1) (v := 19) (tgt := 124) C dX8_wants_1 h13 (by decide) (by decide) rfl (by decide) ?_
                            refine r_iconst (pc := 124) (v := 3) C dX8_wants_124 (by decide) ?_
                            exact r_iret (pc := 125) C dX8_wants_125
                          · refine r_split (fun h14 => ?_) (fun h14 => ?_)
                            · refine r_tabIn (pc := 1) (v := 20) (tgt := 124) C dX8_wants_1 h14 (by decide) (by decide) rfl (by decide) ?_
                              refine r_iconst (pc := 124) (v := 3) C dX8_wants_124 (by decide) ?_
                              exact r_iret (pc := 125) C dX8_wants_125
                            · refine r_split (fun h15 => ?_) (fun h15 => ?_)
                              · refine r_tabIn (pc := 1) (v := 21) (tgt := 120) C dX8_wants_1 h15 (by decide) (by decide) rfl (by decide) ?_
                                refine r_iconst (pc := 120) (v := 1) C dX8_wants_120 (by decide) ?_
                                exact r_iret (pc := 121) C dX8_wants_121
                              · refine r_split (fun h16 => ?_) (fun h16 => ?_)
                                · refine r_tabIn (pc := 1) (v := 22) (tgt := 120) C dX8_wants_1 h16 (by decide) (by decide) rfl (by decide) ?_
                                  refine r_iconst (pc := 120) (v := 1) C dX8_wants_120 (by decide) ?_
                                  exact r_iret (pc := 121) C dX8_wants_121
                                · refine r_split (fun h17 => ?_) (fun h17 => ?_)
                                  · refine r_tabIn (pc := 1) (v := 23) (tgt := 120) C dX8_wants_1 h17 (by decide) (by decide) rfl (by decide) ?_
                                    refine r_iconst (pc := 120) (v := 1) C dX8_wants_120 (by decide) ?_
                                    exact r_iret (pc := 121) C dX8_wants_121
                                  · refine r_split (fun h18 => ?_) (fun h18 => ?_)
                                    · refine r_tabIn (pc := 1) (v := 24) (tgt := 122) C dX8_wants_1 h18 (by decide) (by decide) rfl (by decide) ?_
                                      refine r_iconst (pc := 122) (v := 0) C dX8_wants_122 (by decide) ?_
                                      exact r_iret (pc := 123) C dX8_wants_123
                                    · refine r_split (fun h19 => ?_) (fun h19 => ?_)
                                      · refine r_tabIn (pc := 1) (v := 25) (tgt := 126) C dX8_wants_1 h19 (by decide) (by decide) rfl (by decide) ?_
                                        refine r_iconst (pc := 126) (v := 2) C dX8_wants_126 (by decide) ?_
                                        exact r_iret (pc := 127) C dX8_wants_127
                                      · refine r_split (fun h20 => ?_) (fun h20 => ?_)
                                        · refine r_tabIn (pc := 1) (v := 26) (tgt := 124) C dX8_wants_1 h20 (by decide) (by decide) rfl (by decide) ?_
                                          refine r_iconst (pc := 124) (v := 3) C dX8_wants_124 (by decide) ?_
                                          exact r_iret (pc := 125) C dX8_wants_125
                                        · refine r_split (fun h21 => ?_) (fun h21 => ?_)
                                          · refine r_tabIn (pc := 1) (v := 27) (tgt := 124) C dX8_wants_1 h21 (by decide) (by decide) rfl (by decide) ?_
                                            refine r_iconst (pc := 124) (v := 3) C dX8_wants_124 (by decide) ?_
                                            exact r_iret (pc := 125) C dX8_wants_125
                                          · refine r_split (fun h22 => ?_) (fun h22 => ?_)
                                            · refine r_tabIn (pc := 1) (v := 28) (tgt := 120) C dX8_wants_1 h22 (by decide) (by decide) rfl (by decide) ?_
                                              refine r_iconst (pc := 120) (v := 1) C dX8_wants_120 (by decide) ?_
                                              exact r_iret (pc := 121) C dX8_wants_121
                                            · refine r_split (fun h23 => ?_) (fun h23 => ?_)
                                              · refine r_tabIn (pc := 1) (v := 29) (tgt := 120) C dX8_wants_1 h23 (by decide) (by decide) rfl (by decide) ?_
                                                refine r_iconst (pc := 120) (v := 1) C dX8_wants_120 (by decide) ?_
                                                exact r_iret (pc := 121) C dX8_wants_121
                                              · refine r_split (fun h24 => ?_) (fun h24 => ?_)
                                                · refine r_tabIn (pc := 1) (v := 30) (tgt := 120) C dX8_wants_1 h24 (by decide) (by decide) rfl (by decide) ?_
                                                  refine r_iconst (pc := 120) (v := 1) C dX8_wants_120 (by decide) ?_
                                                  exact r_iret (pc := 121) C dX8_wants_121
                                                · refine r_split (fun h25 => ?_) (fun h25 => ?_)
                                                  · refine r_tabIn (pc := 1) (v := 31) (tgt := 124) C dX8_wants_1 h25 (by decide) (by decide) rfl (by decide) ?_
                                                    refine r_iconst (pc := 124) (v := 3) C dX8_wants_124 (by decide) ?_
                                                    exact r_iret (pc := 125) C dX8_wants_125
                                                  · refine r_split (fun h26 => ?_) (fun h26 => ?_)
                                                    · refine r_tabIn (pc := 1) (v := 32) (tgt := 122) C dX8_wants_1 h26 (by decide) (by decide) rfl (by decide) ?_
                                                      refine r_iconst (pc := 122) (v := 0) C dX8_wants_122 (by decide) ?_
                                                      exact r_iret (pc := 123) C dX8_wants_123
                                                    · refine r_tabOut (pc := 1) (tgt := 126) C dX8_wants_1 (by have a0 := lv_neT (a := 7) h1 rfl; have a1 := lv_neT (a := 8) h2 rfl; have a2 := lv_neT (a := 9) h3 rfl; have a3 := lv_neT (a := 10) h4 rfl; have a4 := lv_neT (a := 11) h5 rfl; have a5 := lv_neT (a := 12) h6 rfl; have a6 := lv_neT (a := 13) h7 rfl; have a7 := lv_neT (a := 14) h8 rfl; have a8 := lv_neT (a := 15) h9 rfl; have a9 := lv_neT (a := 16) h10 rfl; have a10 := lv_neT (a := 17) h11 rfl; have a11 := lv_neT (a := 18) h12 rfl; have a12 := lv_neT (a := 19) h13 rfl; have a13 := lv_neT (a := 20) h14 rfl; have a14 := lv_neT (a := 21) h15 rfl; have a15 := lv_neT (a := 22) h16 rfl; have a16 := lv_neT (a := 23) h17 rfl; have a17 := lv_neT (a := 24) h18 rfl; have a18 := lv_neT (a := 25) h19 rfl; have a19 := lv_neT (a := 26) h20 rfl; have a20 := lv_neT (a := 27) h21 rfl; have a21 := lv_neT (a := 28) h22 rfl; have a22 := lv_neT (a := 29) h23 rfl; have a23 := lv_neT (a := 30) h24 rfl; have a24 := lv_neT (a := 31) h25 rfl; have a25 := lv_neT (a := 32) h26 rfl; omega) (by decide) ?_
                                                      refine r_iconst (pc := 126) (v := 2) C dX8_wants_126 (by decide) ?_
                                                      exact r_iret (pc := 127) C dX8_wants_127
theorem c_X8_wants {E : zG} (hAp : zAp E) (p0 : Int32) (σ : zS) : zM E yX8_wants cX8_wants 1 (some .int) rm_X8_wants (fun r : Int32 => some (.int r)) [.int p0] (f_X8_wants p0 σ) σ :=
  zM_of (nn := 0) hAp (by decide) (Nat.le_of_ble_eq_true rfl) rfl rfl (fun Γ C => g_X8_wants C p0 σ)
set_option maxHeartbeats 4000000 in
set_option maxRecDepth 100000 in
theorem g_X8_print {E : zG} {Γ : zX} (C : zO E Γ RX8 cX8_print 2 none) (p0 : Int32) (σ : zS) : zJ E Γ rm_X8_print 2 (fun _ : Unit => none) (f_X8_print p0 σ) σ 0 [some (.ref (zad E 45)), some (.int p0)] [] := by
  unfold f_X8_print
  refine r_aload_n (pc := 0) C dX8_print_0 rfl ?_
  refine r_get (pc := 1) C K_X8 45 31 (by decide) rfl (by decide) lk_f_X8_170 rfl dX8_print_1 ?_
  refine r_bipush (pc := 4) (v := 120) C dX8_print_4 (by decide) ?_
  refine r_icmp_ne (pc := 6) (tgt := 16) C dX8_print_6 (by decide) (fun _ => ?_) (fun _ => ?_)
  · refine r_aload_n (pc := 9) C dX8_print_9 rfl ?_
    refine r_bipush (pc := 10) (v := 11) C dX8_print_10 (by decide) ?_
    refine r_put (pc := 12) C K_X8 45 12 (by decide) rfl (by decide) lk_f_X8_81 rfl rfl (Nat.le_of_ble_eq_true rfl) rfl dX8_print_12 (fun s3 _ => ?_)
    exact r_vret (pc := 15) C dX8_print_15
  · refine r_aload_n (pc := 16) C dX8_print_16 rfl ?_
    refine r_get (pc := 17) C K_X8 45 30 (by decide) rfl (by decide) lk_f_X8_66 rfl dX8_print_17 ?_
    refine r_aload_n (pc := 20) C dX8_print_20 rfl ?_
    refine r_get (pc := 21) C K_X8 45 31 (by decide) rfl (by decide) lk_f_X8_170 rfl dX8_print_21 ?_
    refine r_iload_n (pc := 24) C dX8_print_24 rfl ?_
    refine r_sipush (pc := 25) (v := 255) C dX8_print_25 (by decide) ?_
    refine r_iand (pc := 28) C dX8_print_28 ?_
    refine r_iast (pc := 29) (t0 := 0) C 62 (by decide) rfl (fun _ => rfl) rfl dX8_print_29 (fun s1 _ => ?_)
    refine r_aload_n (pc := 30) C dX8_print_30 rfl ?_
    refine r_dup (pc := 31) C dX8_print_31 rfl ?_
    refine r_get (pc := 32) C K_X8 45 31 (by decide) rfl (by decide) lk_f_X8_170 rfl dX8_print_32 ?_
    refine r_iconst (pc := 35) (v := 1) C dX8_print_35 (by decide) ?_
    refine r_iadd (pc := 36) C dX8_print_36 ?_
    refine r_put (pc := 37) C K_X8 45 31 (by decide) rfl (by decide) lk_f_X8_170 rfl rfl (Nat.le_of_ble_eq_true rfl) rfl dX8_print_37 (fun s2 _ => ?_)
    exact r_vret (pc := 40) C dX8_print_40
theorem c_X8_print {E : zG} (hAp : zAp E) (p0 : Int32) (σ : zS) : zM E yX8_print cX8_print 2 none rm_X8_print (fun _ : Unit => none) [.ref (zad E 45), .int p0] (f_X8_print p0 σ) σ :=
  zM_of (nn := 0) hAp (by decide) (Nat.le_of_ble_eq_true rfl) rfl rfl (fun Γ C => g_X8_print C p0 σ)
set_option maxHeartbeats 4000000 in
set_option maxRecDepth 100000 in
theorem g_X8_printNumber_L39 {E : zG} {Γ : zX} (C : zO E Γ RX8 cX8_printNumber 4 none) : ∀ (n : Nat) (x1 : Int32) (x2 : Int32) (x3 : Int32) (σ : zS), zJ E Γ rm_X8_printNumber 4 (fun _ : Unit => none) (f_X8_printNumber_L39 n x1 x2 x3 σ) σ 39 [some (.ref (zad E 45)), some (.int x1), some (.int x2), some (.int x3)] [] := by
  intro n
  induction n with
  | zero => intro x1 x2 x3 σ; rw [f_X8_printNumber_L39]; exact r_none
  | succ n ih =>
    intro x1 x2 x3 σ
    rw [f_X8_printNumber_L39]
    refine r_iload_n (pc := 39) C dX8_printNumber_39 rfl ?_
    refine r_if_le (pc := 40) (tgt := 71) C dX8_printNumber_40 (by decide) (fun _ => ?_) (fun _ => ?_)
    · exact r_vret (pc := 71) C dX8_printNumber_71
    · refine r_aload_n (pc := 43) C dX8_printNumber_43 rfl ?_
      refine r_get (pc := 44) C K_X8 45 12 (by decide) rfl (by decide) lk_f_X8_81 rfl dX8_printNumber_44 ?_
      refine r_if_ne (pc := 47) (tgt := 71) C dX8_printNumber_47 (by decide) (fun _ => ?_) (fun _ => ?_)
      · refine r_aload_n (pc := 50) C dX8_printNumber_50 rfl ?_
        refine r_bipush (pc := 51) (v := 48) C dX8_printNumber_51 (by decide) ?_
        refine r_iload_n (pc := 53) C dX8_printNumber_53 rfl ?_
        refine r_iload_n (pc := 54) C dX8_printNumber_54 rfl ?_
        refine r_idiv (pc := 55) C dX8_printNumber_55 ?_
        refine r_bipush (pc := 56) (v := 10) C dX8_printNumber_56 (by decide) ?_
        refine r_irem (pc := 58) C dX8_printNumber_58 ?_
        refine r_iadd (pc := 59) C dX8_printNumber_59 ?_
        refine r_callV (pc := 60) C 45 (c_X8_print (zO.ap C) _ _) lk_c_X8_print lk_i_X8 lk_m_X8_173 lk_n_X8_print lk_v_X8_print (n := 1) (by decide +kernel) rfl ⟨rfl, rfl⟩ (by decide) (by decide) rfl rfl rfl (Nat.le_of_ble_eq_true rfl) ⟨Nat.zero_le _, Nat.zero_le _⟩ dX8_printNumber_60 (fun _ s1 _ => ?_)
        refine r_iload_n (pc := 63) C dX8_printNumber_63 rfl ?_
        refine r_bipush (pc := 64) (v := 10) C dX8_printNumber_64 (by decide) ?_
        refine r_idiv (pc := 66) C dX8_printNumber_66 ?_
        refine r_leti (fun v1 => ?_)
        refine r_istore_n (pc := 67) (lv' := [some (.ref (zad E 45)), some (.int x1), some (.int x2), some (.int v1)]) C dX8_printNumber_67 (by decide) rfl ?_
        refine r_goto (pc := 68) (tgt := 39) C dX8_printNumber_68 (by decide) ?_
        exact ih _ _ _ _
      · exact r_vret (pc := 71) C dX8_printNumber_71
set_option maxHeartbeats 4000000 in
set_option maxRecDepth 100000 in
theorem g_X8_printNumber_L23 {E : zG} {Γ : zX} (C : zO E Γ RX8 cX8_printNumber 4 none) : ∀ (n : Nat) (x1 : Int32) (x2 : Int32) (x3 : Int32) (σ : zS), zJ E Γ rm_X8_printNumber 4 (fun _ : Unit => none) (f_X8_printNumber_L23 n x1 x2 x3 σ) σ 23 [some (.ref (zad E 45)), some (.int x1), some (.int x2), some (.int x3)] [] := by
  intro n
  induction n with
  | zero => intro x1 x2 x3 σ; rw [f_X8_printNumber_L23]; exact r_none
  | succ n ih =>
    intro x1 x2 x3 σ
    rw [f_X8_printNumber_L23]
    refine r_iload_n (pc := 23) C dX8_printNumber_23 rfl ?_
    refine r_iload_n (pc := 24) C dX8_printNumber_24 rfl ?_
    refine r_idiv (pc := 25) C dX8_printNumber_25 ?_
    refine r_bipush (pc := 26) (v := 10) C dX8_printNumber_26 (by decide) ?_
    refine r_icmp_lt (pc := 28) (tgt := 39) C dX8_printNumber_28 (by decide) (fun _ => ?_) (fun _ => ?_)
    · exact g_X8_printNumber_L39 C zF _ _ _ _
    · refine r_iload_n (pc := 31) C dX8_printNumber_31 rfl ?_
      refine r_bipush (pc := 32) (v := 10) C dX8_printNumber_32 (by decide) ?_
      refine r_imul (pc := 34) C dX8_printNumber_34 ?_
      refine r_leti (fun v2 => ?_)
      refine r_istore_n (pc := 35) (lv' := [some (.ref (zad E 45)), some (.int x1), some (.int x2), some (.int v2)]) C dX8_printNumber_35 (by decide) rfl ?_
      refine r_goto (pc := 36) (tgt := 23) C dX8_printNumber_36 (by decide) ?_
      exact ih _ _ _ _
set_option maxHeartbeats 4000000 in
set_option maxRecDepth 100000 in
theorem g_X8_printNumber {E : zG} {Γ : zX} (C : zO E Γ RX8 cX8_printNumber 4 none) (p0 : Int32) (σ : zS) : zJ E Γ rm_X8_printNumber 4 (fun _ : Unit => none) (f_X8_printNumber p0 σ) σ 0 [some (.ref (zad E 45)), some (.int p0), none, none] [] := by
  unfold f_X8_printNumber
  refine r_iload_n (pc := 0) C dX8_printNumber_0 rfl ?_
  refine r_if_ge (pc := 1) (tgt := 10) C dX8_printNumber_1 (by decide) (fun _ => ?_) (fun _ => ?_)
  · refine r_iload_n (pc := 10) C dX8_printNumber_10 rfl ?_
    refine r_if_ge (pc := 11) (tgt := 19) C dX8_printNumber_11 (by decide) (fun _ => ?_) (fun _ => ?_)
    · refine r_iload_n (pc := 19) C dX8_printNumber_19 rfl ?_
      refine r_istore_n (pc := 20) (lv' := [some (.ref (zad E 45)), some (.int p0), some (.int p0), none]) C dX8_printNumber_20 (by decide) rfl ?_
      refine r_iconst (pc := 21) (v := 1) C dX8_printNumber_21 (by decide) ?_
      refine r_istore_n (pc := 22) (lv' := [some (.ref (zad E 45)), some (.int p0), some (.int p0), some (.int (1 : Int32))]) C dX8_printNumber_22 (by decide) rfl ?_
      exact g_X8_printNumber_L23 C zF _ _ _ _
    · refine r_iload_n (pc := 14) C dX8_printNumber_14 rfl ?_
      refine r_ineg (pc := 15) C dX8_printNumber_15 ?_
      refine r_goto (pc := 16) (tgt := 20) C dX8_printNumber_16 (by decide) ?_
      refine r_istore_n (pc := 20) (lv' := [some (.ref (zad E 45)), some (.int p0), some (.int (-p0)), none]) C dX8_printNumber_20 (by decide) rfl ?_
      refine r_iconst (pc := 21) (v := 1) C dX8_printNumber_21 (by decide) ?_
      refine r_istore_n (pc := 22) (lv' := [some (.ref (zad E 45)), some (.int p0), some (.int (-p0)), some (.int (1 : Int32))]) C dX8_printNumber_22 (by decide) rfl ?_
      exact g_X8_printNumber_L23 C zF _ _ _ _
  · refine r_aload_n (pc := 4) C dX8_printNumber_4 rfl ?_
    refine r_bipush (pc := 5) (v := 45) C dX8_printNumber_5 (by decide) ?_
    refine r_callV (pc := 7) C 45 (c_X8_print (zO.ap C) _ _) lk_c_X8_print lk_i_X8 lk_m_X8_173 lk_n_X8_print lk_v_X8_print (n := 1) (by decide +kernel) rfl ⟨rfl, rfl⟩ (by decide) (by decide) rfl rfl rfl (Nat.le_of_ble_eq_true rfl) ⟨Nat.zero_le _, Nat.zero_le _⟩ dX8_printNumber_7 (fun _ s2 _ => ?_)
    refine r_iload_n (pc := 10) C dX8_printNumber_10 rfl ?_
    refine r_if_ge (pc := 11) (tgt := 19) C dX8_printNumber_11 (by decide) (fun _ => ?_) (fun _ => ?_)
    · refine r_iload_n (pc := 19) C dX8_printNumber_19 rfl ?_
      refine r_istore_n (pc := 20) (lv' := [some (.ref (zad E 45)), some (.int p0), some (.int p0), none]) C dX8_printNumber_20 (by decide) rfl ?_
      refine r_iconst (pc := 21) (v := 1) C dX8_printNumber_21 (by decide) ?_
      refine r_istore_n (pc := 22) (lv' := [some (.ref (zad E 45)), some (.int p0), some (.int p0), some (.int (1 : Int32))]) C dX8_printNumber_22 (by decide) rfl ?_
      exact g_X8_printNumber_L23 C zF _ _ _ _
    · refine r_iload_n (pc := 14) C dX8_printNumber_14 rfl ?_
      refine r_ineg (pc := 15) C dX8_printNumber_15 ?_
      refine r_goto (pc := 16) (tgt := 20) C dX8_printNumber_16 (by decide) ?_
      refine r_istore_n (pc := 20) (lv' := [some (.ref (zad E 45)), some (.int p0), some (.int (-p0)), none]) C dX8_printNumber_20 (by decide) rfl ?_
      refine r_iconst (pc := 21) (v := 1) C dX8_printNumber_21 (by decide) ?_
      refine r_istore_n (pc := 22) (lv' := [some (.ref (zad E 45)), some (.int p0), some (.int (-p0)), some (.int (1 : Int32))]) C dX8_printNumber_22 (by decide) rfl ?_
      exact g_X8_printNumber_L23 C zF _ _ _ _
theorem c_X8_printNumber {E : zG} (hAp : zAp E) (p0 : Int32) (σ : zS) : zM E yX8_printNumber cX8_printNumber 4 none rm_X8_printNumber (fun _ : Unit => none) [.ref (zad E 45), .int p0] (f_X8_printNumber p0 σ) σ :=
  zM_of (nn := 2) hAp (by decide) (Nat.le_of_ble_eq_true rfl) rfl rfl (fun Γ C => g_X8_printNumber C p0 σ)
set_option maxHeartbeats 4000000 in
set_option maxRecDepth 100000 in
theorem g_X8_printRows_L34 {E : zG} {Γ : zX} (C : zO E Γ RX8 cX8_printRows 7 none) {K : Int32 → Int32 → Int32 → Int32 → Int32 → zS → Option (Unit × zS)} (kK : ∀ (x1 : Int32) (x2 : Int32) (x3 : Int32) (x4 : Int32) (x5 : Int32) (σ : zS), zJ E Γ rm_X8_printRows 7 (fun _ : Unit => none) (K x1 x2 x3 x4 x5 σ) σ 82 [some (.ref (zad E 45)), some (.int x1), some (.int x2), some (.int x3), some (.int x4), some (.int x5), none] []) : ∀ (n : Nat) (x1 : Int32) (x2 : Int32) (x3 : Int32) (x4 : Int32) (x5 : Int32) (σ : zS), zJ E Γ rm_X8_printRows 7 (fun _ : Unit => none) (f_X8_printRows_L34 n x1 x2 x3 x4 x5 σ K) σ 34 [some (.ref (zad E 45)), some (.int x1), some (.int x2), some (.int x3), some (.int x4), some (.int x5), none] [] := by
  intro n
  induction n with
  | zero => intro x1 x2 x3 x4 x5 σ; rw [f_X8_printRows_L34]; exact r_none
  | succ n ih =>
    intro x1 x2 x3 x4 x5 σ
    rw [f_X8_printRows_L34]
    refine r_iload (pc := 34) C dX8_printRows_34 rfl ?_
    refine r_iload_n (pc := 36) C dX8_printRows_36 rfl ?_
    refine r_icmp_ge (pc := 37) (tgt := 82) C dX8_printRows_37 (by decide) (fun _ => ?_) (fun _ => ?_)
    · refine r_mask [true, true, true, true, true, true, false] (lv' := [some (.ref (zad E 45)), some (.int x1), some (.int x2), some (.int x3), some (.int x4), some (.int x5), none]) rfl ?_
      exact kK _ _ _ _ _ _
    · refine r_aload_n (pc := 40) C dX8_printRows_40 rfl ?_
      refine r_get (pc := 41) C K_X8 45 12 (by decide) rfl (by decide) lk_f_X8_81 rfl dX8_printRows_41 ?_
      refine r_if_ne (pc := 44) (tgt := 82) C dX8_printRows_44 (by decide) (fun _ => ?_) (fun _ => ?_)
      · refine r_aload_n (pc := 47) C dX8_printRows_47 rfl ?_
        refine r_iload_n (pc := 48) C dX8_printRows_48 rfl ?_
        refine r_iload (pc := 49) C dX8_printRows_49 rfl ?_
        refine r_iload_n (pc := 51) C dX8_printRows_51 rfl ?_
        refine r_imul (pc := 52) C dX8_printRows_52 ?_
        refine r_iadd (pc := 53) C dX8_printRows_53 ?_
        refine r_iload (pc := 54) C dX8_printRows_54 rfl ?_
        refine r_iadd (pc := 56) C dX8_printRows_56 ?_
        refine r_iconst (pc := 57) (v := 0) C dX8_printRows_57 (by decide) ?_
        refine r_callV (pc := 58) C 45 (c_X8_read (zO.ap C) _ _ _) lk_c_X8_read lk_i_X8 lk_m_X8_91 lk_n_X8_read lk_v_X8_read (n := 2) (by decide +kernel) rfl ⟨rfl, rfl⟩ (by decide) (by decide) rfl rfl rfl (Nat.le_of_ble_eq_true rfl) ⟨Nat.zero_le _, Nat.zero_le _⟩ dX8_printRows_58 (fun v1 s1 _ => ?_)
        refine r_istore (pc := 61) (lv' := [some (.ref (zad E 45)), some (.int x1), some (.int x2), some (.int x3), some (.int x4), some (.int x5), some (.int v1)]) C dX8_printRows_61 (by decide) rfl ?_
        refine r_aload_n (pc := 63) C dX8_printRows_63 rfl ?_
        refine r_get (pc := 64) C K_X8 45 12 (by decide) rfl (by decide) lk_f_X8_81 rfl dX8_printRows_64 ?_
        refine r_if_ne (pc := 67) (tgt := 76) C dX8_printRows_67 (by decide) (fun _ => ?_) (fun _ => ?_)
        · refine r_aload_n (pc := 70) C dX8_printRows_70 rfl ?_
          refine r_iload (pc := 71) C dX8_printRows_71 rfl ?_
          refine r_callV (pc := 73) C 45 (c_X8_print (zO.ap C) _ _) lk_c_X8_print lk_i_X8 lk_m_X8_173 lk_n_X8_print lk_v_X8_print (n := 1) (by decide +kernel) rfl ⟨rfl, rfl⟩ (by decide) (by decide) rfl rfl rfl (Nat.le_of_ble_eq_true rfl) ⟨Nat.zero_le _, Nat.zero_le _⟩ dX8_printRows_73 (fun _ s2 _ => ?_)
          refine r_iinc (pc := 76) (lv' := [some (.ref (zad E 45)), some (.int x1), some (.int x2), some (.int x3), some (.int x4), some (.int (x5 + (1 : Int32))), some (.int v1)]) C dX8_printRows_76 (by decide) rfl rfl rfl ?_
          refine r_goto (pc := 79) (tgt := 34) C dX8_printRows_79 (by decide) ?_
          refine r_mask [true, true, true, true, true, true, false] (lv' := [some (.ref (zad E 45)), some (.int x1), some (.int x2), some (.int x3), some (.int x4), some (.int (x5 + (1 : Int32))), none]) rfl ?_
          exact ih _ _ _ _ _ _
        · refine r_iinc (pc := 76) (lv' := [some (.ref (zad E 45)), some (.int x1), some (.int x2), some (.int x3), some (.int x4), some (.int (x5 + (1 : Int32))), some (.int v1)]) C dX8_printRows_76 (by decide) rfl rfl rfl ?_
          refine r_goto (pc := 79) (tgt := 34) C dX8_printRows_79 (by decide) ?_
          refine r_mask [true, true, true, true, true, true, false] (lv' := [some (.ref (zad E 45)), some (.int x1), some (.int x2), some (.int x3), some (.int x4), some (.int (x5 + (1 : Int32))), none]) rfl ?_
          exact ih _ _ _ _ _ _
      · refine r_mask [true, true, true, true, true, true, false] (lv' := [some (.ref (zad E 45)), some (.int x1), some (.int x2), some (.int x3), some (.int x4), some (.int x5), none]) rfl ?_
        exact kK _ _ _ _ _ _
set_option maxHeartbeats 4000000 in
set_option maxRecDepth 100000 in
theorem g_X8_printRows_L3 {E : zG} {Γ : zX} (C : zO E Γ RX8 cX8_printRows 7 none) : ∀ (n : Nat) (x1 : Int32) (x2 : Int32) (x3 : Int32) (x4 : Int32) (σ : zS), zJ E Γ rm_X8_printRows 7 (fun _ : Unit => none) (f_X8_printRows_L3 n x1 x2 x3 x4 σ) σ 3 [some (.ref (zad E 45)), some (.int x1), some (.int x2), some (.int x3), some (.int x4), none, none] [] := by
  intro n
  induction n with
  | zero => intro x1 x2 x3 x4 σ; rw [f_X8_printRows_L3]; exact r_none
  | succ n ih =>
    intro x1 x2 x3 x4 σ
    rw [f_X8_printRows_L3]
    refine r_iload (pc := 3) C dX8_printRows_3 rfl ?_
    refine r_iload_n (pc := 5) C dX8_printRows_5 rfl ?_
    refine r_icmp_ge (pc := 6) (tgt := 88) C dX8_printRows_6 (by decide) (fun _ => ?_) (fun _ => ?_)
    · exact r_vret (pc := 88) C dX8_printRows_88
    · refine r_iload_n (pc := 9) C dX8_printRows_9 rfl ?_
      refine r_if_lt (pc := 10) (tgt := 88) C dX8_printRows_10 (by decide) (fun _ => ?_) (fun _ => ?_)
      · exact r_vret (pc := 88) C dX8_printRows_88
      · refine r_aload_n (pc := 13) C dX8_printRows_13 rfl ?_
        refine r_get (pc := 14) C K_X8 45 12 (by decide) rfl (by decide) lk_f_X8_81 rfl dX8_printRows_14 ?_
        refine r_if_ne (pc := 17) (tgt := 88) C dX8_printRows_17 (by decide) (fun _ => ?_) (fun _ => ?_)
        · refine r_iload (pc := 20) C dX8_printRows_20 rfl ?_
          refine r_if_le (pc := 22) (tgt := 31) C dX8_printRows_22 (by decide) (fun _ => ?_) (fun _ => ?_)
          · refine r_iconst (pc := 31) (v := 0) C dX8_printRows_31 (by decide) ?_
            refine r_istore (pc := 32) (lv' := [some (.ref (zad E 45)), some (.int x1), some (.int x2), some (.int x3), some (.int x4), some (.int (0 : Int32)), none]) C dX8_printRows_32 (by decide) rfl ?_
            refine g_X8_printRows_L34 C (fun v2 v3 v4 v5 v6 s3 => ?_) zF _ _ _ _ _ _
            refine r_iinc (pc := 82) (lv' := [some (.ref (zad E 45)), some (.int v2), some (.int v3), some (.int v4), some (.int (v5 + (1 : Int32))), some (.int v6), none]) C dX8_printRows_82 (by decide) rfl rfl rfl ?_
            refine r_goto (pc := 85) (tgt := 3) C dX8_printRows_85 (by decide) ?_
            refine r_mask [true, true, true, true, true, false, false] (lv' := [some (.ref (zad E 45)), some (.int v2), some (.int v3), some (.int v4), some (.int (v5 + (1 : Int32))), none, none]) rfl ?_
            exact ih _ _ _ _ _
          · refine r_aload_n (pc := 25) C dX8_printRows_25 rfl ?_
            refine r_bipush (pc := 26) (v := 10) C dX8_printRows_26 (by decide) ?_
            refine r_callV (pc := 28) C 45 (c_X8_print (zO.ap C) _ _) lk_c_X8_print lk_i_X8 lk_m_X8_173 lk_n_X8_print lk_v_X8_print (n := 1) (by decide +kernel) rfl ⟨rfl, rfl⟩ (by decide) (by decide) rfl rfl rfl (Nat.le_of_ble_eq_true rfl) ⟨Nat.zero_le _, Nat.zero_le _⟩ dX8_printRows_28 (fun _ s4 _ => ?_)
            refine r_iconst (pc := 31) (v := 0) C dX8_printRows_31 (by decide) ?_
            refine r_istore (pc := 32) (lv' := [some (.ref (zad E 45)), some (.int x1), some (.int x2), some (.int x3), some (.int x4), some (.int (0 : Int32)), none]) C dX8_printRows_32 (by decide) rfl ?_
            refine g_X8_printRows_L34 C (fun v7 v8 v9 v10 v11 s5 => ?_) zF _ _ _ _ _ _
            refine r_iinc (pc := 82) (lv' := [some (.ref (zad E 45)), some (.int v7), some (.int v8), some (.int v9), some (.int (v10 + (1 : Int32))), some (.int v11), none]) C dX8_printRows_82 (by decide) rfl rfl rfl ?_
            refine r_goto (pc := 85) (tgt := 3) C dX8_printRows_85 (by decide) ?_
            refine r_mask [true, true, true, true, true, false, false] (lv' := [some (.ref (zad E 45)), some (.int v7), some (.int v8), some (.int v9), some (.int (v10 + (1 : Int32))), none, none]) rfl ?_
            exact ih _ _ _ _ _
        · exact r_vret (pc := 88) C dX8_printRows_88
set_option maxHeartbeats 4000000 in
set_option maxRecDepth 100000 in
theorem g_X8_printRows {E : zG} {Γ : zX} (C : zO E Γ RX8 cX8_printRows 7 none) (p0 : Int32) (p1 : Int32) (p2 : Int32) (σ : zS) : zJ E Γ rm_X8_printRows 7 (fun _ : Unit => none) (f_X8_printRows p0 p1 p2 σ) σ 0 [some (.ref (zad E 45)), some (.int p0), some (.int p1), some (.int p2), none, none, none] [] := by
  unfold f_X8_printRows
  refine r_iconst (pc := 0) (v := 0) C dX8_printRows_0 (by decide) ?_
  refine r_istore (pc := 1) (lv' := [some (.ref (zad E 45)), some (.int p0), some (.int p1), some (.int p2), some (.int (0 : Int32)), none, none]) C dX8_printRows_1 (by decide) rfl ?_
  exact g_X8_printRows_L3 C zF _ _ _ _ _
theorem c_X8_printRows {E : zG} (hAp : zAp E) (p0 : Int32) (p1 : Int32) (p2 : Int32) (σ : zS) : zM E yX8_printRows cX8_printRows 7 none rm_X8_printRows (fun _ : Unit => none) [.ref (zad E 45), .int p0, .int p1, .int p2] (f_X8_printRows p0 p1 p2 σ) σ :=
  zM_of (nn := 3) hAp (by decide) (Nat.le_of_ble_eq_true rfl) rfl rfl (fun Γ C => g_X8_printRows C p0 p1 p2 σ)
set_option maxHeartbeats 4000000 in
set_option maxRecDepth 100000 in
theorem g_X8_enter_L94 {E : zG} {Γ : zX} (C : zO E Γ RX8 cX8_enter 6 none) : ∀ (n : Nat) (x1 : Int32) (x2 : Int32) (x3 : Int32) (x4 : Int32) (x5 : Int32) (σ : zS), zJ E Γ rm_X8_enter 6 (fun _ : Unit => none) (f_X8_enter_L94 n x1 x2 x3 x4 x5 σ) σ 94 [some (.ref (zad E 45)), some (.int x1), some (.int x2), some (.int x3), some (.int x4), some (.int x5)] [] := by
  intro n
  induction n with
  | zero => intro x1 x2 x3 x4 x5 σ; rw [f_X8_enter_L94]; exact r_none
  | succ n ih =>
    intro x1 x2 x3 x4 x5 σ
    rw [f_X8_enter_L94]
    refine r_iload (pc := 94) C dX8_enter_94 rfl ?_
    refine r_bipush (pc := 96) (v := 15) C dX8_enter_96 (by decide) ?_
    refine r_icmp_ge (pc := 98) (tgt := 148) C dX8_enter_98 (by decide) (fun _ => ?_) (fun _ => ?_)
    · refine r_aload_n (pc := 148) C dX8_enter_148 rfl ?_
      refine r_dup (pc := 149) C dX8_enter_149 rfl ?_
      refine r_get (pc := 150) C K_X8 45 22 (by decide) rfl (by decide) lk_f_X8_142 rfl dX8_enter_150 ?_
      refine r_iconst (pc := 153) (v := 1) C dX8_enter_153 (by decide) ?_
      refine r_iadd (pc := 154) C dX8_enter_154 ?_
      refine r_put (pc := 155) C K_X8 45 22 (by decide) rfl (by decide) lk_f_X8_142 rfl rfl (Nat.le_of_ble_eq_true rfl) rfl dX8_enter_155 (fun s7 _ => ?_)
      refine r_aload_n (pc := 158) C dX8_enter_158 rfl ?_
      refine r_aload_n (pc := 159) C dX8_enter_159 rfl ?_
      refine r_get (pc := 160) C K_X8 45 22 (by decide) rfl (by decide) lk_f_X8_142 rfl dX8_enter_160 ?_
      refine r_aload_n (pc := 163) C dX8_enter_163 rfl ?_
      refine r_get (pc := 164) C K_X8 45 38 (by decide) rfl (by decide) lk_f_X8_176 rfl dX8_enter_164 ?_
      refine r_icmp_le (pc := 167) (tgt := 177) C dX8_enter_167 (by decide) (fun _ => ?_) (fun _ => ?_)
      · refine r_aload_n (pc := 177) C dX8_enter_177 rfl ?_
        refine r_get (pc := 178) C K_X8 45 38 (by decide) rfl (by decide) lk_f_X8_176 rfl dX8_enter_178 ?_
        refine r_put (pc := 181) C K_X8 45 38 (by decide) rfl (by decide) lk_f_X8_176 rfl rfl (Nat.le_of_ble_eq_true rfl) rfl dX8_enter_181 (fun s8 _ => ?_)
        exact r_vret (pc := 184) C dX8_enter_184
      · refine r_aload_n (pc := 170) C dX8_enter_170 rfl ?_
        refine r_get (pc := 171) C K_X8 45 22 (by decide) rfl (by decide) lk_f_X8_142 rfl dX8_enter_171 ?_
        refine r_goto (pc := 174) (tgt := 181) C dX8_enter_174 (by decide) ?_
        refine r_put (pc := 181) C K_X8 45 38 (by decide) rfl (by decide) lk_f_X8_176 rfl rfl (Nat.le_of_ble_eq_true rfl) rfl dX8_enter_181 (fun s9 _ => ?_)
        exact r_vret (pc := 184) C dX8_enter_184
    · refine r_aload_n (pc := 101) C dX8_enter_101 rfl ?_
      refine r_get (pc := 102) C K_X8 45 27 (by decide) rfl (by decide) lk_f_X8_60 rfl dX8_enter_102 ?_
      refine r_bipush (pc := 105) (v := 15) C dX8_enter_105 (by decide) ?_
      refine r_aload_n (pc := 107) C dX8_enter_107 rfl ?_
      refine r_get (pc := 108) C K_X8 45 22 (by decide) rfl (by decide) lk_f_X8_142 rfl dX8_enter_108 ?_
      refine r_imul (pc := 111) C dX8_enter_111 ?_
      refine r_iload (pc := 112) C dX8_enter_112 rfl ?_
      refine r_iadd (pc := 114) C dX8_enter_114 ?_
      refine r_iload (pc := 115) C dX8_enter_115 rfl ?_
      refine r_if_ne (pc := 117) (tgt := 127) C dX8_enter_117 (by decide) (fun _ => ?_) (fun _ => ?_)
      · refine r_iload_n (pc := 120) C dX8_enter_120 rfl ?_
        refine r_ldc (pc := 121) (v := 65535) C dX8_enter_121 lk_k_X8_75 ?_
        refine r_iand (pc := 123) C dX8_enter_123 ?_
        refine r_goto (pc := 124) (tgt := 141) C dX8_enter_124 (by decide) ?_
        refine r_iast (pc := 141) (t0 := 0) C 60 (by decide) rfl (fun _ => rfl) rfl dX8_enter_141 (fun s12 _ => ?_)
        refine r_iinc (pc := 142) (lv' := [some (.ref (zad E 45)), some (.int x1), some (.int x2), some (.int x3), some (.int x4), some (.int (x5 + (1 : Int32)))]) C dX8_enter_142 (by decide) rfl rfl rfl ?_
        refine r_goto (pc := 145) (tgt := 94) C dX8_enter_145 (by decide) ?_
        exact ih _ _ _ _ _ _
      · refine r_iload (pc := 127) C dX8_enter_127 rfl ?_
        refine r_iconst (pc := 129) (v := 1) C dX8_enter_129 (by decide) ?_
        refine r_icmp_ne (pc := 130) (tgt := 140) C dX8_enter_130 (by decide) (fun _ => ?_) (fun _ => ?_)
        · refine r_iload_n (pc := 133) C dX8_enter_133 rfl ?_
          refine r_ldc (pc := 134) (v := 65535) C dX8_enter_134 lk_k_X8_75 ?_
          refine r_iand (pc := 136) C dX8_enter_136 ?_
          refine r_goto (pc := 137) (tgt := 141) C dX8_enter_137 (by decide) ?_
          refine r_iast (pc := 141) (t0 := 0) C 60 (by decide) rfl (fun _ => rfl) rfl dX8_enter_141 (fun s11 _ => ?_)
          refine r_iinc (pc := 142) (lv' := [some (.ref (zad E 45)), some (.int x1), some (.int x2), some (.int x3), some (.int x4), some (.int (x5 + (1 : Int32)))]) C dX8_enter_142 (by decide) rfl rfl rfl ?_
          refine r_goto (pc := 145) (tgt := 94) C dX8_enter_145 (by decide) ?_
          exact ih _ _ _ _ _ _
        · refine r_iconst (pc := 140) (v := 0) C dX8_enter_140 (by decide) ?_
          refine r_iast (pc := 141) (t0 := 0) C 60 (by decide) rfl (fun _ => rfl) rfl dX8_enter_141 (fun s10 _ => ?_)
          refine r_iinc (pc := 142) (lv' := [some (.ref (zad E 45)), some (.int x1), some (.int x2), some (.int x3), some (.int x4), some (.int (x5 + (1 : Int32)))]) C dX8_enter_142 (by decide) rfl rfl rfl ?_
          refine r_goto (pc := 145) (tgt := 94) C dX8_enter_145 (by decide) ?_
          exact ih _ _ _ _ _ _
set_option maxHeartbeats 4000000 in
set_option maxRecDepth 100000 in
theorem g_X8_enter {E : zG} {Γ : zX} (C : zO E Γ RX8 cX8_enter 6 none) (p0 : Int32) (p1 : Int32) (p2 : Int32) (p3 : Int32) (σ : zS) : zJ E Γ rm_X8_enter 6 (fun _ : Unit => none) (f_X8_enter p0 p1 p2 p3 σ) σ 0 [some (.ref (zad E 45)), some (.int p0), some (.int p1), some (.int p2), some (.int p3), none] [] := by
  unfold f_X8_enter
  refine r_iload_n (pc := 0) C dX8_enter_0 rfl ?_
  refine r_if_lt (pc := 1) (tgt := 19) C dX8_enter_1 (by decide) (fun _ => ?_) (fun _ => ?_)
  · refine r_aload_n (pc := 19) C dX8_enter_19 rfl ?_
    refine r_bipush (pc := 20) (v := 9) C dX8_enter_20 (by decide) ?_
    refine r_put (pc := 22) C K_X8 45 12 (by decide) rfl (by decide) lk_f_X8_81 rfl rfl (Nat.le_of_ble_eq_true rfl) rfl dX8_enter_22 (fun s1 _ => ?_)
    exact r_vret (pc := 25) C dX8_enter_25
  · refine r_iload_n (pc := 4) C dX8_enter_4 rfl ?_
    refine r_bipush (pc := 5) (v := 7) C dX8_enter_5 (by decide) ?_
    refine r_icmp_gt (pc := 7) (tgt := 19) C dX8_enter_7 (by decide) (fun _ => ?_) (fun _ => ?_)
    · refine r_aload_n (pc := 19) C dX8_enter_19 rfl ?_
      refine r_bipush (pc := 20) (v := 9) C dX8_enter_20 (by decide) ?_
      refine r_put (pc := 22) C K_X8 45 12 (by decide) rfl (by decide) lk_f_X8_81 rfl rfl (Nat.le_of_ble_eq_true rfl) rfl dX8_enter_22 (fun s2 _ => ?_)
      exact r_vret (pc := 25) C dX8_enter_25
    · refine r_aload_n (pc := 10) C dX8_enter_10 rfl ?_
      refine r_get (pc := 11) C K_X8 45 18 (by decide) rfl (by decide) lk_f_X8_35 rfl dX8_enter_11 ?_
      refine r_iload_n (pc := 14) C dX8_enter_14 rfl ?_
      refine r_zald (pc := 15) (t0 := 1) C 52 (by decide) rfl rfl dX8_enter_15 ?_
      refine r_if_ne (pc := 16) (tgt := 26) C dX8_enter_16 (by decide) (fun _ => ?_) (fun _ => ?_)
      · refine r_aload_n (pc := 19) C dX8_enter_19 rfl ?_
        refine r_bipush (pc := 20) (v := 9) C dX8_enter_20 (by decide) ?_
        refine r_put (pc := 22) C K_X8 45 12 (by decide) rfl (by decide) lk_f_X8_81 rfl rfl (Nat.le_of_ble_eq_true rfl) rfl dX8_enter_22 (fun s14 _ => ?_)
        exact r_vret (pc := 25) C dX8_enter_25
      · refine r_aload_n (pc := 26) C dX8_enter_26 rfl ?_
        refine r_get (pc := 27) C K_X8 45 22 (by decide) rfl (by decide) lk_f_X8_142 rfl dX8_enter_27 ?_
        refine r_bipush (pc := 30) (v := 12) C dX8_enter_30 (by decide) ?_
        refine r_icmp_ne (pc := 32) (tgt := 42) C dX8_enter_32 (by decide) (fun _ => ?_) (fun _ => ?_)
        · refine r_aload_n (pc := 35) C dX8_enter_35 rfl ?_
          refine r_bipush (pc := 36) (v := 6) C dX8_enter_36 (by decide) ?_
          refine r_put (pc := 38) C K_X8 45 12 (by decide) rfl (by decide) lk_f_X8_81 rfl rfl (Nat.le_of_ble_eq_true rfl) rfl dX8_enter_38 (fun s13 _ => ?_)
          exact r_vret (pc := 41) C dX8_enter_41
        · refine r_aload_n (pc := 42) C dX8_enter_42 rfl ?_
          refine r_get (pc := 43) C K_X8 45 23 (by decide) rfl (by decide) lk_f_X8_48 rfl dX8_enter_43 ?_
          refine r_aload_n (pc := 46) C dX8_enter_46 rfl ?_
          refine r_get (pc := 47) C K_X8 45 22 (by decide) rfl (by decide) lk_f_X8_142 rfl dX8_enter_47 ?_
          refine r_iload_n (pc := 50) C dX8_enter_50 rfl ?_
          refine r_iast (pc := 51) (t0 := 0) C 56 (by decide) rfl (fun _ => rfl) rfl dX8_enter_51 (fun s3 _ => ?_)
          refine r_aload_n (pc := 52) C dX8_enter_52 rfl ?_
          refine r_get (pc := 53) C K_X8 45 24 (by decide) rfl (by decide) lk_f_X8_51 rfl dX8_enter_53 ?_
          refine r_aload_n (pc := 56) C dX8_enter_56 rfl ?_
          refine r_get (pc := 57) C K_X8 45 22 (by decide) rfl (by decide) lk_f_X8_142 rfl dX8_enter_57 ?_
          refine r_aload_n (pc := 60) C dX8_enter_60 rfl ?_
          refine r_get (pc := 61) C K_X8 45 19 (by decide) rfl (by decide) lk_f_X8_39 rfl dX8_enter_61 ?_
          refine r_iload_n (pc := 64) C dX8_enter_64 rfl ?_
          refine r_iald (pc := 65) (t0 := 0) C 53 (by decide) rfl rfl dX8_enter_65 ?_
          refine r_iast (pc := 66) (t0 := 0) C 57 (by decide) rfl (fun _ => rfl) rfl dX8_enter_66 (fun s4 _ => ?_)
          refine r_aload_n (pc := 67) C dX8_enter_67 rfl ?_
          refine r_get (pc := 68) C K_X8 45 25 (by decide) rfl (by decide) lk_f_X8_54 rfl dX8_enter_68 ?_
          refine r_aload_n (pc := 71) C dX8_enter_71 rfl ?_
          refine r_get (pc := 72) C K_X8 45 22 (by decide) rfl (by decide) lk_f_X8_142 rfl dX8_enter_72 ?_
          refine r_iload (pc := 75) C dX8_enter_75 rfl ?_
          refine r_iast (pc := 77) (t0 := 0) C 58 (by decide) rfl (fun _ => rfl) rfl dX8_enter_77 (fun s5 _ => ?_)
          refine r_aload_n (pc := 78) C dX8_enter_78 rfl ?_
          refine r_get (pc := 79) C K_X8 45 26 (by decide) rfl (by decide) lk_f_X8_57 rfl dX8_enter_79 ?_
          refine r_aload_n (pc := 82) C dX8_enter_82 rfl ?_
          refine r_get (pc := 83) C K_X8 45 22 (by decide) rfl (by decide) lk_f_X8_142 rfl dX8_enter_83 ?_
          refine r_aload_n (pc := 86) C dX8_enter_86 rfl ?_
          refine r_get (pc := 87) C K_X8 45 29 (by decide) rfl (by decide) lk_f_X8_145 rfl dX8_enter_87 ?_
          refine r_iast (pc := 90) (t0 := 0) C 59 (by decide) rfl (fun _ => rfl) rfl dX8_enter_90 (fun s6 _ => ?_)
          refine r_iconst (pc := 91) (v := 0) C dX8_enter_91 (by decide) ?_
          refine r_istore (pc := 92) (lv' := [some (.ref (zad E 45)), some (.int p0), some (.int p1), some (.int p2), some (.int p3), some (.int (0 : Int32))]) C dX8_enter_92 (by decide) rfl ?_
          exact g_X8_enter_L94 C zF _ _ _ _ _ _
theorem c_X8_enter {E : zG} (hAp : zAp E) (p0 : Int32) (p1 : Int32) (p2 : Int32) (p3 : Int32) (σ : zS) : zM E yX8_enter cX8_enter 6 none rm_X8_enter (fun _ : Unit => none) [.ref (zad E 45), .int p0, .int p1, .int p2, .int p3] (f_X8_enter p0 p1 p2 p3 σ) σ :=
  zM_of (nn := 1) hAp (by decide) (Nat.le_of_ble_eq_true rfl) rfl rfl (fun Γ C => g_X8_enter C p0 p1 p2 p3 σ)
set_option maxHeartbeats 4000000 in
set_option maxRecDepth 100000 in
theorem g_X8_leave {E : zG} {Γ : zX} (C : zO E Γ RX8 cX8_leave 1 none) (σ : zS) : zJ E Γ rm_X8_leave 1 (fun _ : Unit => none) (f_X8_leave σ) σ 0 [some (.ref (zad E 45))] [] := by
  unfold f_X8_leave
  refine r_aload_n (pc := 0) C dX8_leave_0 rfl ?_
  refine r_dup (pc := 1) C dX8_leave_1 rfl ?_
  refine r_get (pc := 2) C K_X8 45 22 (by decide) rfl (by decide) lk_f_X8_142 rfl dX8_leave_2 ?_
  refine r_iconst (pc := 5) (v := 1) C dX8_leave_5 (by decide) ?_
  refine r_isub (pc := 6) C dX8_leave_6 ?_
  refine r_put (pc := 7) C K_X8 45 22 (by decide) rfl (by decide) lk_f_X8_142 rfl rfl (Nat.le_of_ble_eq_true rfl) rfl dX8_leave_7 (fun s1 _ => ?_)
  refine r_aload_n (pc := 10) C dX8_leave_10 rfl ?_
  refine r_aload_n (pc := 11) C dX8_leave_11 rfl ?_
  refine r_get (pc := 12) C K_X8 45 26 (by decide) rfl (by decide) lk_f_X8_57 rfl dX8_leave_12 ?_
  refine r_aload_n (pc := 15) C dX8_leave_15 rfl ?_
  refine r_get (pc := 16) C K_X8 45 22 (by decide) rfl (by decide) lk_f_X8_142 rfl dX8_leave_16 ?_
  refine r_iald (pc := 19) (t0 := 0) C 59 (by decide) rfl rfl dX8_leave_19 ?_
  refine r_put (pc := 20) C K_X8 45 29 (by decide) rfl (by decide) lk_f_X8_145 rfl rfl (Nat.le_of_ble_eq_true rfl) rfl dX8_leave_20 (fun s2 _ => ?_)
  refine r_aload_n (pc := 23) C dX8_leave_23 rfl ?_
  refine r_get (pc := 24) C K_X8 45 32 (by decide) rfl (by decide) lk_f_X8_69 rfl dX8_leave_24 ?_
  refine r_aload_n (pc := 27) C dX8_leave_27 rfl ?_
  refine r_get (pc := 28) C K_X8 45 23 (by decide) rfl (by decide) lk_f_X8_48 rfl dX8_leave_28 ?_
  refine r_aload_n (pc := 31) C dX8_leave_31 rfl ?_
  refine r_get (pc := 32) C K_X8 45 22 (by decide) rfl (by decide) lk_f_X8_142 rfl dX8_leave_32 ?_
  refine r_iald (pc := 35) (t0 := 0) C 56 (by decide) rfl rfl dX8_leave_35 ?_
  refine r_dup2 (pc := 36) C dX8_leave_36 rfl rfl ?_
  refine r_iald (pc := 37) (t0 := 0) C 63 (by decide) rfl rfl dX8_leave_37 ?_
  refine r_iconst (pc := 38) (v := 1) C dX8_leave_38 (by decide) ?_
  refine r_iadd (pc := 39) C dX8_leave_39 ?_
  refine r_iast (pc := 40) (t0 := 0) C 63 (by decide) rfl (fun _ => rfl) rfl dX8_leave_40 (fun s3 _ => ?_)
  exact r_vret (pc := 41) C dX8_leave_41
theorem c_X8_leave {E : zG} (hAp : zAp E) (σ : zS) : zM E yX8_leave cX8_leave 1 none rm_X8_leave (fun _ : Unit => none) [.ref (zad E 45)] (f_X8_leave σ) σ :=
  zM_of (nn := 0) hAp (by decide) (Nat.le_of_ble_eq_true rfl) rfl rfl (fun Γ C => g_X8_leave C σ)
set_option maxHeartbeats 4000000 in
set_option maxRecDepth 100000 in
theorem g_X8_back {E : zG} {Γ : zX} (C : zO E Γ RX8 cX8_back 3 none) (p0 : Int32) (σ : zS) : zJ E Γ rm_X8_back 3 (fun _ : Unit => none) (f_X8_back p0 σ) σ 0 [some (.ref (zad E 45)), some (.int p0), none] [] := by
  unfold f_X8_back
  refine r_aload_n (pc := 0) C dX8_back_0 rfl ?_
  refine r_callV (pc := 1) C 45 (c_X8_leave (zO.ap C)  _) lk_c_X8_leave lk_i_X8 lk_m_X8_179 lk_n_X8_leave lk_v_X8_leave (n := 0) (by decide +kernel) rfl ⟨rfl, rfl⟩ (by decide) (by decide) rfl rfl rfl (Nat.le_of_ble_eq_true rfl) ⟨Nat.zero_le _, Nat.zero_le _⟩ dX8_back_1 (fun _ s1 _ => ?_)
  refine r_aload_n (pc := 4) C dX8_back_4 rfl ?_
  refine r_get (pc := 5) C K_X8 45 22 (by decide) rfl (by decide) lk_f_X8_142 rfl dX8_back_5 ?_
  refine r_if_ne (pc := 8) (tgt := 25) C dX8_back_8 (by decide) (fun _ => ?_) (fun _ => ?_)
  · refine r_aload_n (pc := 11) C dX8_back_11 rfl ?_
    refine r_iload_n (pc := 12) C dX8_back_12 rfl ?_
    refine r_callS (pc := 13) C (c_X8_signed (zO.ap C) _ _) lk_c_X8_signed lk_i_X8 lk_m_X8_99 lk_s_X8_signed (n := 1) (by decide +kernel) rfl ⟨rfl, rfl⟩ (by decide) (Nat.le_of_ble_eq_true rfl) ⟨Nat.zero_le _, Nat.zero_le _⟩ dX8_back_13 (fun v2 s3 _ => ?_)
    refine r_put (pc := 16) C K_X8 45 34 (by decide) rfl (by decide) lk_f_X8_182 rfl rfl (Nat.le_of_ble_eq_true rfl) rfl dX8_back_16 (fun s4 _ => ?_)
    refine r_aload_n (pc := 19) C dX8_back_19 rfl ?_
    refine r_iconst (pc := 20) (v := 0) C dX8_back_20 (by decide) ?_
    refine r_put (pc := 21) C K_X8 45 40 (by decide) rfl (by decide) lk_f_X8_185 rfl rfl (Nat.le_of_ble_eq_true rfl) rfl dX8_back_21 (fun s5 _ => ?_)
    exact r_vret (pc := 24) C dX8_back_24
  · refine r_aload_n (pc := 25) C dX8_back_25 rfl ?_
    refine r_get (pc := 26) C K_X8 45 25 (by decide) rfl (by decide) lk_f_X8_54 rfl dX8_back_26 ?_
    refine r_aload_n (pc := 29) C dX8_back_29 rfl ?_
    refine r_get (pc := 30) C K_X8 45 22 (by decide) rfl (by decide) lk_f_X8_142 rfl dX8_back_30 ?_
    refine r_iald (pc := 33) (t0 := 0) C 58 (by decide) rfl rfl dX8_back_33 ?_
    refine r_leti (fun v1 => ?_)
    refine r_istore_n (pc := 34) (lv' := [some (.ref (zad E 45)), some (.int p0), some (.int v1)]) C dX8_back_34 (by decide) rfl ?_
    refine r_iload_n (pc := 35) C dX8_back_35 rfl ?_
    refine r_if_lt (pc := 36) (tgt := 45) C dX8_back_36 (by decide) (fun _ => ?_) (fun _ => ?_)
    · exact r_vret (pc := 45) C dX8_back_45
    · refine r_aload_n (pc := 39) C dX8_back_39 rfl ?_
      refine r_iload_n (pc := 40) C dX8_back_40 rfl ?_
      refine r_iload_n (pc := 41) C dX8_back_41 rfl ?_
      refine r_callV (pc := 42) C 45 (c_X8_set (zO.ap C) _ _ _) lk_c_X8_set lk_i_X8 lk_m_X8_166 lk_n_X8_set lk_v_X8_set (n := 2) (by decide +kernel) rfl ⟨rfl, rfl⟩ (by decide) (by decide) rfl rfl rfl (Nat.le_of_ble_eq_true rfl) ⟨Nat.zero_le _, Nat.zero_le _⟩ dX8_back_42 (fun _ s2 _ => ?_)
      exact r_vret (pc := 45) C dX8_back_45
theorem c_X8_back {E : zG} (hAp : zAp E) (p0 : Int32) (σ : zS) : zM E yX8_back cX8_back 3 none rm_X8_back (fun _ : Unit => none) [.ref (zad E 45), .int p0] (f_X8_back p0 σ) σ :=
  zM_of (nn := 1) hAp (by decide) (Nat.le_of_ble_eq_true rfl) rfl rfl (fun Γ C => g_X8_back C p0 σ)
set_option maxHeartbeats 4000000 in
set_option maxRecDepth 100000 in
theorem g_X8_throwTo_L50 {E : zG} {Γ : zX} (C : zO E Γ RX8 cX8_throwTo 3 none) : ∀ (n : Nat) (x1 : Int32) (x2 : Int32) (σ : zS), zJ E Γ rm_X8_throwTo 3 (fun _ : Unit => none) (f_X8_throwTo_L50 n x1 x2 σ) σ 50 [some (.ref (zad E 45)), some (.int x1), some (.int x2)] [] := by
  intro n
  induction n with
  | zero => intro x1 x2 σ; rw [f_X8_throwTo_L50]; exact r_none
  | succ n ih =>
    intro x1 x2 σ
    rw [f_X8_throwTo_L50]
    refine r_aload_n (pc := 50) C dX8_throwTo_50 rfl ?_
    refine r_get (pc := 51) C K_X8 45 22 (by decide) rfl (by decide) lk_f_X8_142 rfl dX8_throwTo_51 ?_
    refine r_iload_n (pc := 54) C dX8_throwTo_54 rfl ?_
    refine r_iconst (pc := 55) (v := 1) C dX8_throwTo_55 (by decide) ?_
    refine r_iadd (pc := 56) C dX8_throwTo_56 ?_
    refine r_icmp_le (pc := 57) (tgt := 67) C dX8_throwTo_57 (by decide) (fun _ => ?_) (fun _ => ?_)
    · refine r_aload_n (pc := 67) C dX8_throwTo_67 rfl ?_
      refine r_iload_n (pc := 68) C dX8_throwTo_68 rfl ?_
      refine r_callV (pc := 69) C 45 (c_X8_back (zO.ap C) _ _) lk_c_X8_back lk_i_X8 lk_m_X8_195 lk_n_X8_back lk_v_X8_back (n := 1) (by decide +kernel) rfl ⟨rfl, rfl⟩ (by decide) (by decide) rfl rfl rfl (Nat.le_of_ble_eq_true rfl) ⟨Nat.zero_le _, Nat.zero_le _⟩ dX8_throwTo_69 (fun _ s3 _ => ?_)
      exact r_vret (pc := 72) C dX8_throwTo_72
    · refine r_aload_n (pc := 60) C dX8_throwTo_60 rfl ?_
      refine r_callV (pc := 61) C 45 (c_X8_leave (zO.ap C)  _) lk_c_X8_leave lk_i_X8 lk_m_X8_179 lk_n_X8_leave lk_v_X8_leave (n := 0) (by decide +kernel) rfl ⟨rfl, rfl⟩ (by decide) (by decide) rfl rfl rfl (Nat.le_of_ble_eq_true rfl) ⟨Nat.zero_le _, Nat.zero_le _⟩ dX8_throwTo_61 (fun _ s4 _ => ?_)
      refine r_goto (pc := 64) (tgt := 50) C dX8_throwTo_64 (by decide) ?_
      exact ih _ _ _
set_option maxHeartbeats 4000000 in
set_option maxRecDepth 100000 in
theorem g_X8_throwTo {E : zG} {Γ : zX} (C : zO E Γ RX8 cX8_throwTo 3 none) (p0 : Int32) (p1 : Int32) (σ : zS) : zJ E Γ rm_X8_throwTo 3 (fun _ : Unit => none) (f_X8_throwTo p0 p1 σ) σ 0 [some (.ref (zad E 45)), some (.int p0), some (.int p1)] [] := by
  unfold f_X8_throwTo
  refine r_iload_n (pc := 0) C dX8_throwTo_0 rfl ?_
  refine r_aload_n (pc := 1) C dX8_throwTo_1 rfl ?_
  refine r_get (pc := 2) C K_X8 45 22 (by decide) rfl (by decide) lk_f_X8_142 rfl dX8_throwTo_2 ?_
  refine r_icmp_lt (pc := 5) (tgt := 15) C dX8_throwTo_5 (by decide) (fun _ => ?_) (fun _ => ?_)
  · refine r_aload_n (pc := 15) C dX8_throwTo_15 rfl ?_
    refine r_get (pc := 16) C K_X8 45 39 (by decide) rfl (by decide) lk_f_X8_207 rfl dX8_throwTo_16 ?_
    refine r_bipush (pc := 19) (v := 12) C dX8_throwTo_19 (by decide) ?_
    refine r_icmp_ne (pc := 21) (tgt := 30) C dX8_throwTo_21 (by decide) (fun _ => ?_) (fun _ => ?_)
    · refine r_aload_n (pc := 24) C dX8_throwTo_24 rfl ?_
      refine r_iconst (pc := 25) (v := 3) C dX8_throwTo_25 (by decide) ?_
      refine r_put (pc := 26) C K_X8 45 40 (by decide) rfl (by decide) lk_f_X8_185 rfl rfl (Nat.le_of_ble_eq_true rfl) rfl dX8_throwTo_26 (fun s5 _ => ?_)
      exact r_vret (pc := 29) C dX8_throwTo_29
    · refine r_aload_n (pc := 30) C dX8_throwTo_30 rfl ?_
      refine r_dup (pc := 31) C dX8_throwTo_31 rfl ?_
      refine r_get (pc := 32) C K_X8 45 39 (by decide) rfl (by decide) lk_f_X8_207 rfl dX8_throwTo_32 ?_
      refine r_iconst (pc := 35) (v := 1) C dX8_throwTo_35 (by decide) ?_
      refine r_iadd (pc := 36) C dX8_throwTo_36 ?_
      refine r_put (pc := 37) C K_X8 45 39 (by decide) rfl (by decide) lk_f_X8_207 rfl rfl (Nat.le_of_ble_eq_true rfl) rfl dX8_throwTo_37 (fun s1 _ => ?_)
      refine r_aload_n (pc := 40) C dX8_throwTo_40 rfl ?_
      refine r_dup (pc := 41) C dX8_throwTo_41 rfl ?_
      refine r_get (pc := 42) C K_X8 45 37 (by decide) rfl (by decide) lk_f_X8_210 rfl dX8_throwTo_42 ?_
      refine r_iconst (pc := 45) (v := 1) C dX8_throwTo_45 (by decide) ?_
      refine r_iadd (pc := 46) C dX8_throwTo_46 ?_
      refine r_put (pc := 47) C K_X8 45 37 (by decide) rfl (by decide) lk_f_X8_210 rfl rfl (Nat.le_of_ble_eq_true rfl) rfl dX8_throwTo_47 (fun s2 _ => ?_)
      exact g_X8_throwTo_L50 C zF _ _ _
  · refine r_aload_n (pc := 8) C dX8_throwTo_8 rfl ?_
    refine r_bipush (pc := 9) (v := 8) C dX8_throwTo_9 (by decide) ?_
    refine r_put (pc := 11) C K_X8 45 12 (by decide) rfl (by decide) lk_f_X8_81 rfl rfl (Nat.le_of_ble_eq_true rfl) rfl dX8_throwTo_11 (fun s6 _ => ?_)
    exact r_vret (pc := 14) C dX8_throwTo_14
theorem c_X8_throwTo {E : zG} (hAp : zAp E) (p0 : Int32) (p1 : Int32) (σ : zS) : zM E yX8_throwTo cX8_throwTo 3 none rm_X8_throwTo (fun _ : Unit => none) [.ref (zad E 45), .int p0, .int p1] (f_X8_throwTo p0 p1 σ) σ :=
  zM_of (nn := 0) hAp (by decide) (Nat.le_of_ble_eq_true rfl) rfl rfl (fun Γ C => g_X8_throwTo C p0 p1 σ)
set_option maxHeartbeats 4000000 in
set_option maxRecDepth 100000 in
theorem g_X8_act {E : zG} {Γ : zX} (C : zO E Γ RX8 cX8_act 9 none) (p0 : Int32) (p1 : Int32) (p2 : Int32) (p3 : Int32) (p4 : Int32) (σ : zS) : zJ E Γ rm_X8_act 9 (fun _ : Unit => none) (f_X8_act p0 p1 p2 p3 p4 σ) σ 0 [some (.ref (zad E 45)), some (.int p0), some (.int p1), some (.int p2), some (.int p3), some (.int p4), none, none, none] [] := by
  unfold f_X8_act
  refine r_iconst (pc := 0) (v := -1) C dX8_act_0 (by decide) ?_
  refine r_istore (pc := 1) (lv' := [some (.ref (zad E 45)), some (.int p0), some (.int p1), some (.int p2), some (.int p3), some (.int p4), some (.int (-1 : Int32)), none, none]) C dX8_act_1 (by decide) rfl ?_
  refine r_iload_n (pc := 3) C dX8_act_3 rfl ?_
  refine r_split (fun h1 => ?_) (fun h1 => ?_)
  · refine r_tabIn (pc := 4) (v := 10) (tgt := 112) C dX8_act_4 h1 (by decide) (by decide) rfl (by decide) ?_
    refine r_iload_n (pc := 112) C dX8_act_112 rfl ?_
    refine r_bipush (pc := 113) (v := 10) C dX8_act_113 (by decide) ?_
    refine r_icmp_ne (pc := 115) (tgt := 131) C dX8_act_115 (by decide) (fun _ => ?_) (fun _ => ?_)
    · refine r_iload_n (pc := 118) C dX8_act_118 rfl ?_
      refine r_iload_n (pc := 119) C dX8_act_119 rfl ?_
      refine r_icmp_ne (pc := 120) (tgt := 127) C dX8_act_120 (by decide) (fun _ => ?_) (fun _ => ?_)
      · refine r_iconst (pc := 123) (v := 1) C dX8_act_123 (by decide) ?_
        refine r_goto (pc := 124) (tgt := 172) C dX8_act_124 (by decide) ?_
        refine r_istore (pc := 172) (lv' := [some (.ref (zad E 45)), some (.int p0), some (.int p1), some (.int p2), some (.int p3), some (.int p4), some (.int (-1 : Int32)), some (.int (1 : Int32)), none]) C dX8_act_172 (by decide) rfl ?_
        refine r_aload_n (pc := 174) C dX8_act_174 rfl ?_
        refine r_get (pc := 175) C K_X8 45 24 (by decide) rfl (by decide) lk_f_X8_51 rfl dX8_act_175 ?_
        refine r_aload_n (pc := 178) C dX8_act_178 rfl ?_
        refine r_callV (pc := 179) C 45 (c_X8_top (zO.ap C)  _) lk_c_X8_top lk_i_X8 lk_m_X8_148 lk_n_X8_top lk_v_X8_top (n := 0) (by decide +kernel) rfl ⟨rfl, rfl⟩ (by decide) (by decide) rfl rfl rfl (Nat.le_of_ble_eq_true rfl) ⟨Nat.zero_le _, Nat.zero_le _⟩ dX8_act_179 (fun v15 s25 _ => ?_)
        refine r_iload (pc := 182) C dX8_act_182 rfl ?_
        refine r_if_eq (pc := 184) (tgt := 192) C dX8_act_184 (by decide) (fun _ => ?_) (fun _ => ?_)
        · refine r_aload_n (pc := 192) C dX8_act_192 rfl ?_
          refine r_get (pc := 193) C K_X8 45 24 (by decide) rfl (by decide) lk_f_X8_51 rfl dX8_act_193 ?_
          refine r_aload_n (pc := 196) C dX8_act_196 rfl ?_
          refine r_callV (pc := 197) C 45 (c_X8_top (zO.ap C)  _) lk_c_X8_top lk_i_X8 lk_m_X8_148 lk_n_X8_top lk_v_X8_top (n := 0) (by decide +kernel) rfl ⟨rfl, rfl⟩ (by decide) (by decide) rfl rfl rfl (Nat.le_of_ble_eq_true rfl) ⟨Nat.zero_le _, Nat.zero_le _⟩ dX8_act_197 (fun v16 s26 _ => ?_)
          refine r_iald (pc := 200) (t0 := 0) C 57 (by decide) rfl rfl dX8_act_200 ?_
          refine r_iast (pc := 201) (t0 := 0) C 57 (by decide) rfl (fun _ => rfl) rfl dX8_act_201 (fun s27 _ => ?_)
          exact r_vret (pc := 202) C dX8_act_202
        · refine r_iload (pc := 187) C dX8_act_187 rfl ?_
          refine r_goto (pc := 189) (tgt := 201) C dX8_act_189 (by decide) ?_
          refine r_iast (pc := 201) (t0 := 0) C 57 (by decide) rfl (fun _ => rfl) rfl dX8_act_201 (fun s28 _ => ?_)
          exact r_vret (pc := 202) C dX8_act_202
      · refine r_iconst (pc := 127) (v := 0) C dX8_act_127 (by decide) ?_
        refine r_goto (pc := 128) (tgt := 172) C dX8_act_128 (by decide) ?_
        refine r_istore (pc := 172) (lv' := [some (.ref (zad E 45)), some (.int p0), some (.int p1), some (.int p2), some (.int p3), some (.int p4), some (.int (-1 : Int32)), some (.int (0 : Int32)), none]) C dX8_act_172 (by decide) rfl ?_
        refine r_aload_n (pc := 174) C dX8_act_174 rfl ?_
        refine r_get (pc := 175) C K_X8 45 24 (by decide) rfl (by decide) lk_f_X8_51 rfl dX8_act_175 ?_
        refine r_aload_n (pc := 178) C dX8_act_178 rfl ?_
        refine r_callV (pc := 179) C 45 (c_X8_top (zO.ap C)  _) lk_c_X8_top lk_i_X8 lk_m_X8_148 lk_n_X8_top lk_v_X8_top (n := 0) (by decide +kernel) rfl ⟨rfl, rfl⟩ (by decide) (by decide) rfl rfl rfl (Nat.le_of_ble_eq_true rfl) ⟨Nat.zero_le _, Nat.zero_le _⟩ dX8_act_179 (fun v13 s21 _ => ?_)
        refine r_iload (pc := 182) C dX8_act_182 rfl ?_
        refine r_if_eq (pc := 184) (tgt := 192) C dX8_act_184 (by decide) (fun _ => ?_) (fun _ => ?_)
        · refine r_aload_n (pc := 192) C dX8_act_192 rfl ?_
          refine r_get (pc := 193) C K_X8 45 24 (by decide) rfl (by decide) lk_f_X8_51 rfl dX8_act_193 ?_
          refine r_aload_n (pc := 196) C dX8_act_196 rfl ?_
          refine r_callV (pc := 197) C 45 (c_X8_top (zO.ap C)  _) lk_c_X8_top lk_i_X8 lk_m_X8_148 lk_n_X8_top lk_v_X8_top (n := 0) (by decide +kernel) rfl ⟨rfl, rfl⟩ (by decide) (by decide) rfl rfl rfl (Nat.le_of_ble_eq_true rfl) ⟨Nat.zero_le _, Nat.zero_le _⟩ dX8_act_197 (fun v14 s22 _ => ?_)
          refine r_iald (pc := 200) (t0 := 0) C 57 (by decide) rfl rfl dX8_act_200 ?_
          refine r_iast (pc := 201) (t0 := 0) C 57 (by decide) rfl (fun _ => rfl) rfl dX8_act_201 (fun s23 _ => ?_)
          exact r_vret (pc := 202) C dX8_act_202
        · refine r_iload (pc := 187) C dX8_act_187 rfl ?_
          refine r_goto (pc := 189) (tgt := 201) C dX8_act_189 (by decide) ?_
          refine r_iast (pc := 201) (t0 := 0) C 57 (by decide) rfl (fun _ => rfl) rfl dX8_act_201 (fun s24 _ => ?_)
          exact r_vret (pc := 202) C dX8_act_202
    · refine r_iload_n (pc := 131) C dX8_act_131 rfl ?_
      refine r_bipush (pc := 132) (v := 11) C dX8_act_132 (by decide) ?_
      refine r_icmp_ne (pc := 134) (tgt := 156) C dX8_act_134 (by decide) (fun _ => ?_) (fun _ => ?_)
      · refine r_iload_n (pc := 137) C dX8_act_137 rfl ?_
        refine r_callS (pc := 138) C (c_X8_signed (zO.ap C) _ _) lk_c_X8_signed lk_i_X8 lk_m_X8_99 lk_s_X8_signed (n := 1) (by decide +kernel) rfl ⟨rfl, rfl⟩ (by decide) (Nat.le_of_ble_eq_true rfl) ⟨Nat.zero_le _, Nat.zero_le _⟩ dX8_act_138 (fun v7 s11 _ => ?_)
        refine r_iload_n (pc := 141) C dX8_act_141 rfl ?_
        refine r_callS (pc := 142) C (c_X8_signed (zO.ap C) _ _) lk_c_X8_signed lk_i_X8 lk_m_X8_99 lk_s_X8_signed (n := 1) (by decide +kernel) rfl ⟨rfl, rfl⟩ (by decide) (Nat.le_of_ble_eq_true rfl) ⟨Nat.zero_le _, Nat.zero_le _⟩ dX8_act_142 (fun v8 s12 _ => ?_)
        refine r_icmp_ge (pc := 145) (tgt := 152) C dX8_act_145 (by decide) (fun _ => ?_) (fun _ => ?_)
        · refine r_iconst (pc := 152) (v := 0) C dX8_act_152 (by decide) ?_
          refine r_goto (pc := 153) (tgt := 172) C dX8_act_153 (by decide) ?_
          refine r_istore (pc := 172) (lv' := [some (.ref (zad E 45)), some (.int p0), some (.int p1), some (.int p2), some (.int p3), some (.int p4), some (.int (-1 : Int32)), some (.int (0 : Int32)), none]) C dX8_act_172 (by decide) rfl ?_
          refine r_aload_n (pc := 174) C dX8_act_174 rfl ?_
          refine r_get (pc := 175) C K_X8 45 24 (by decide) rfl (by decide) lk_f_X8_51 rfl dX8_act_175 ?_
          refine r_aload_n (pc := 178) C dX8_act_178 rfl ?_
          refine r_callV (pc := 179) C 45 (c_X8_top (zO.ap C)  _) lk_c_X8_top lk_i_X8 lk_m_X8_148 lk_n_X8_top lk_v_X8_top (n := 0) (by decide +kernel) rfl ⟨rfl, rfl⟩ (by decide) (by decide) rfl rfl rfl (Nat.le_of_ble_eq_true rfl) ⟨Nat.zero_le _, Nat.zero_le _⟩ dX8_act_179 (fun v9 s13 _ => ?_)
          refine r_iload (pc := 182) C dX8_act_182 rfl ?_
          refine r_if_eq (pc := 184) (tgt := 192) C dX8_act_184 (by decide) (fun _ => ?_) (fun _ => ?_)
          · refine r_aload_n (pc := 192) C dX8_act_192 rfl ?_
            refine r_get (pc := 193) C K_X8 45 24 (by decide) rfl (by decide) lk_f_X8_51 rfl dX8_act_193 ?_
            refine r_aload_n (pc := 196) C dX8_act_196 rfl ?_
            refine r_callV (pc := 197) C 45 (c_X8_top (zO.ap C)  _) lk_c_X8_top lk_i_X8 lk_m_X8_148 lk_n_X8_top lk_v_X8_top (n := 0) (by decide +kernel) rfl ⟨rfl, rfl⟩ (by decide) (by decide) rfl rfl rfl (Nat.le_of_ble_eq_true rfl) ⟨Nat.zero_le _, Nat.zero_le _⟩ dX8_act_197 (fun v10 s14 _ => ?_)
            refine r_iald (pc := 200) (t0 := 0) C 57 (by decide) rfl rfl dX8_act_200 ?_
            refine r_iast (pc := 201) (t0 := 0) C 57 (by decide) rfl (fun _ => rfl) rfl dX8_act_201 (fun s15 _ => ?_)
            exact r_vret (pc := 202) C dX8_act_202
          · refine r_iload (pc := 187) C dX8_act_187 rfl ?_
            refine r_goto (pc := 189) (tgt := 201) C dX8_act_189 (by decide) ?_
            refine r_iast (pc := 201) (t0 := 0) C 57 (by decide) rfl (fun _ => rfl) rfl dX8_act_201 (fun s16 _ => ?_)
            exact r_vret (pc := 202) C dX8_act_202
        · refine r_iconst (pc := 148) (v := 1) C dX8_act_148 (by decide) ?_
          refine r_goto (pc := 149) (tgt := 172) C dX8_act_149 (by decide) ?_
          refine r_istore (pc := 172) (lv' := [some (.ref (zad E 45)), some (.int p0), some (.int p1), some (.int p2), some (.int p3), some (.int p4), some (.int (-1 : Int32)), some (.int (1 : Int32)), none]) C dX8_act_172 (by decide) rfl ?_
          refine r_aload_n (pc := 174) C dX8_act_174 rfl ?_
          refine r_get (pc := 175) C K_X8 45 24 (by decide) rfl (by decide) lk_f_X8_51 rfl dX8_act_175 ?_
          refine r_aload_n (pc := 178) C dX8_act_178 rfl ?_
          refine r_callV (pc := 179) C 45 (c_X8_top (zO.ap C)  _) lk_c_X8_top lk_i_X8 lk_m_X8_148 lk_n_X8_top lk_v_X8_top (n := 0) (by decide +kernel) rfl ⟨rfl, rfl⟩ (by decide) (by decide) rfl rfl rfl (Nat.le_of_ble_eq_true rfl) ⟨Nat.zero_le _, Nat.zero_le _⟩ dX8_act_179 (fun v11 s17 _ => ?_)
          refine r_iload (pc := 182) C dX8_act_182 rfl ?_
          refine r_if_eq (pc := 184) (tgt := 192) C dX8_act_184 (by decide) (fun _ => ?_) (fun _ => ?_)
          · refine r_aload_n (pc := 192) C dX8_act_192 rfl ?_
            refine r_get (pc := 193) C K_X8 45 24 (by decide) rfl (by decide) lk_f_X8_51 rfl dX8_act_193 ?_
            refine r_aload_n (pc := 196) C dX8_act_196 rfl ?_
            refine r_callV (pc := 197) C 45 (c_X8_top (zO.ap C)  _) lk_c_X8_top lk_i_X8 lk_m_X8_148 lk_n_X8_top lk_v_X8_top (n := 0) (by decide +kernel) rfl ⟨rfl, rfl⟩ (by decide) (by decide) rfl rfl rfl (Nat.le_of_ble_eq_true rfl) ⟨Nat.zero_le _, Nat.zero_le _⟩ dX8_act_197 (fun v12 s18 _ => ?_)
            refine r_iald (pc := 200) (t0 := 0) C 57 (by decide) rfl rfl dX8_act_200 ?_
            refine r_iast (pc := 201) (t0 := 0) C 57 (by decide) rfl (fun _ => rfl) rfl dX8_act_201 (fun s19 _ => ?_)
            exact r_vret (pc := 202) C dX8_act_202
          · refine r_iload (pc := 187) C dX8_act_187 rfl ?_
            refine r_goto (pc := 189) (tgt := 201) C dX8_act_189 (by decide) ?_
            refine r_iast (pc := 201) (t0 := 0) C 57 (by decide) rfl (fun _ => rfl) rfl dX8_act_201 (fun s20 _ => ?_)
            exact r_vret (pc := 202) C dX8_act_202
      · refine r_iload_n (pc := 156) C dX8_act_156 rfl ?_
        refine r_callS (pc := 157) C (c_X8_signed (zO.ap C) _ _) lk_c_X8_signed lk_i_X8 lk_m_X8_99 lk_s_X8_signed (n := 1) (by decide +kernel) rfl ⟨rfl, rfl⟩ (by decide) (Nat.le_of_ble_eq_true rfl) ⟨Nat.zero_le _, Nat.zero_le _⟩ dX8_act_157 (fun v1 s1 _ => ?_)
        refine r_iload_n (pc := 160) C dX8_act_160 rfl ?_
        refine r_callS (pc := 161) C (c_X8_signed (zO.ap C) _ _) lk_c_X8_signed lk_i_X8 lk_m_X8_99 lk_s_X8_signed (n := 1) (by decide +kernel) rfl ⟨rfl, rfl⟩ (by decide) (Nat.le_of_ble_eq_true rfl) ⟨Nat.zero_le _, Nat.zero_le _⟩ dX8_act_161 (fun v2 s2 _ => ?_)
        refine r_icmp_le (pc := 164) (tgt := 171) C dX8_act_164 (by decide) (fun _ => ?_) (fun _ => ?_)
        · refine r_iconst (pc := 171) (v := 0) C dX8_act_171 (by decide) ?_
          refine r_istore (pc := 172) (lv' := [some (.ref (zad E 45)), some (.int p0), some (.int p1), some (.int p2), some (.int p3), some (.int p4), some (.int (-1 : Int32)), some (.int (0 : Int32)), none]) C dX8_act_172 (by decide) rfl ?_
          refine r_aload_n (pc := 174) C dX8_act_174 rfl ?_
          refine r_get (pc := 175) C K_X8 45 24 (by decide) rfl (by decide) lk_f_X8_51 rfl dX8_act_175 ?_
          refine r_aload_n (pc := 178) C dX8_act_178 rfl ?_
          refine r_callV (pc := 179) C 45 (c_X8_top (zO.ap C)  _) lk_c_X8_top lk_i_X8 lk_m_X8_148 lk_n_X8_top lk_v_X8_top (n := 0) (by decide +kernel) rfl ⟨rfl, rfl⟩ (by decide) (by decide) rfl rfl rfl (Nat.le_of_ble_eq_true rfl) ⟨Nat.zero_le _, Nat.zero_le _⟩ dX8_act_179 (fun v3 s3 _ => ?_)
          refine r_iload (pc := 182) C dX8_act_182 rfl ?_
          refine r_if_eq (pc := 184) (tgt := 192) C dX8_act_184 (by decide) (fun _ => ?_) (fun _ => ?_)
          · refine r_aload_n (pc := 192) C dX8_act_192 rfl ?_
            refine r_get (pc := 193) C K_X8 45 24 (by decide) rfl (by decide) lk_f_X8_51 rfl dX8_act_193 ?_
            refine r_aload_n (pc := 196) C dX8_act_196 rfl ?_
            refine r_callV (pc := 197) C 45 (c_X8_top (zO.ap C)  _) lk_c_X8_top lk_i_X8 lk_m_X8_148 lk_n_X8_top lk_v_X8_top (n := 0) (by decide +kernel) rfl ⟨rfl, rfl⟩ (by decide) (by decide) rfl rfl rfl (Nat.le_of_ble_eq_true rfl) ⟨Nat.zero_le _, Nat.zero_le _⟩ dX8_act_197 (fun v4 s4 _ => ?_)
            refine r_iald (pc := 200) (t0 := 0) C 57 (by decide) rfl rfl dX8_act_200 ?_
            refine r_iast (pc := 201) (t0 := 0) C 57 (by decide) rfl (fun _ => rfl) rfl dX8_act_201 (fun s5 _ => ?_)
            exact r_vret (pc := 202) C dX8_act_202
          · refine r_iload (pc := 187) C dX8_act_187 rfl ?_
            refine r_goto (pc := 189) (tgt := 201) C dX8_act_189 (by decide) ?_
            refine r_iast (pc := 201) (t0 := 0) C 57 (by decide) rfl (fun _ => rfl) rfl dX8_act_201 (fun s6 _ => ?_)
            exact r_vret (pc := 202) C dX8_act_202
        · refine r_iconst (pc := 167) (v := 1) C dX8_act_167 (by decide) ?_
          refine r_goto (pc := 168) (tgt := 172) C dX8_act_168 (by decide) ?_
          refine r_istore (pc := 172) (lv' := [some (.ref (zad E 45)), some (.int p0), some (.int p1), some (.int p2), some (.int p3), some (.int p4), some (.int (-1 : Int32)), some (.int (1 : Int32)), none]) C dX8_act_172 (by decide) rfl ?_
          refine r_aload_n (pc := 174) C dX8_act_174 rfl ?_
          refine r_get (pc := 175) C K_X8 45 24 (by decide) rfl (by decide) lk_f_X8_51 rfl dX8_act_175 ?_
          refine r_aload_n (pc := 178) C dX8_act_178 rfl ?_
          refine r_callV (pc := 179) C 45 (c_X8_top (zO.ap C)  _) lk_c_X8_top lk_i_X8 lk_m_X8_148 lk_n_X8_top lk_v_X8_top (n := 0) (by decide +kernel) rfl ⟨rfl, rfl⟩ (by decide) (by decide) rfl rfl rfl (Nat.le_of_ble_eq_true rfl) ⟨Nat.zero_le _, Nat.zero_le _⟩ dX8_act_179 (fun v5 s7 _ => ?_)
          refine r_iload (pc := 182) C dX8_act_182 rfl ?_
          refine r_if_eq (pc := 184) (tgt := 192) C dX8_act_184 (by decide) (fun _ => ?_) (fun _ => ?_)
          · refine r_aload_n (pc := 192) C dX8_act_192 rfl ?_
            refine r_get (pc := 193) C K_X8 45 24 (by decide) rfl (by decide) lk_f_X8_51 rfl dX8_act_193 ?_
            refine r_aload_n (pc := 196) C dX8_act_196 rfl ?_
            refine r_callV (pc := 197) C 45 (c_X8_top (zO.ap C)  _) lk_c_X8_top lk_i_X8 lk_m_X8_148 lk_n_X8_top lk_v_X8_top (n := 0) (by decide +kernel) rfl ⟨rfl, rfl⟩ (by decide) (by decide) rfl rfl rfl (Nat.le_of_ble_eq_true rfl) ⟨Nat.zero_le _, Nat.zero_le _⟩ dX8_act_197 (fun v6 s8 _ => ?_)
            refine r_iald (pc := 200) (t0 := 0) C 57 (by decide) rfl rfl dX8_act_200 ?_
            refine r_iast (pc := 201) (t0 := 0) C 57 (by decide) rfl (fun _ => rfl) rfl dX8_act_201 (fun s9 _ => ?_)
            exact r_vret (pc := 202) C dX8_act_202
          · refine r_iload (pc := 187) C dX8_act_187 rfl ?_
            refine r_goto (pc := 189) (tgt := 201) C dX8_act_189 (by decide) ?_
            refine r_iast (pc := 201) (t0 := 0) C 57 (by decide) rfl (fun _ => rfl) rfl dX8_act_201 (fun s10 _ => ?_)
            exact r_vret (pc := 202) C dX8_act_202
  · refine r_split (fun h2 => ?_) (fun h2 => ?_)
    · refine r_tabIn (pc := 4) (v := 11) (tgt := 112) C dX8_act_4 h2 (by decide) (by decide) rfl (by decide) ?_
      refine r_iload_n (pc := 112) C dX8_act_112 rfl ?_
      refine r_bipush (pc := 113) (v := 10) C dX8_act_113 (by decide) ?_
      refine r_icmp_ne (pc := 115) (tgt := 131) C dX8_act_115 (by decide) (fun _ => ?_) (fun _ => ?_)
      · refine r_iload_n (pc := 118) C dX8_act_118 rfl ?_
        refine r_iload_n (pc := 119) C dX8_act_119 rfl ?_
        refine r_icmp_ne (pc := 120) (tgt := 127) C dX8_act_120 (by decide) (fun _ => ?_) (fun _ => ?_)
        · refine r_iconst (pc := 123) (v := 1) C dX8_act_123 (by decide) ?_
          refine r_goto (pc := 124) (tgt := 172) C dX8_act_124 (by decide) ?_
          refine r_istore (pc := 172) (lv' := [some (.ref (zad E 45)), some (.int p0), some (.int p1), some (.int p2), some (.int p3), some (.int p4), some (.int (-1 : Int32)), some (.int (1 : Int32)), none]) C dX8_act_172 (by decide) rfl ?_
          refine r_aload_n (pc := 174) C dX8_act_174 rfl ?_
          refine r_get (pc := 175) C K_X8 45 24 (by decide) rfl (by decide) lk_f_X8_51 rfl dX8_act_175 ?_
          refine r_aload_n (pc := 178) C dX8_act_178 rfl ?_
          refine r_callV (pc := 179) C 45 (c_X8_top (zO.ap C)  _) lk_c_X8_top lk_i_X8 lk_m_X8_148 lk_n_X8_top lk_v_X8_top (n := 0) (by decide +kernel) rfl ⟨rfl, rfl⟩ (by decide) (by decide) rfl rfl rfl (Nat.le_of_ble_eq_true rfl) ⟨Nat.zero_le _, Nat.zero_le _⟩ dX8_act_179 (fun v31 s53 _ => ?_)
          refine r_iload (pc := 182) C dX8_act_182 rfl ?_
          refine r_if_eq (pc := 184) (tgt := 192) C dX8_act_184 (by decide) (fun _ => ?_) (fun _ => ?_)
          · refine r_aload_n (pc := 192) C dX8_act_192 rfl ?_
            refine r_get (pc := 193) C K_X8 45 24 (by decide) rfl (by decide) lk_f_X8_51 rfl dX8_act_193 ?_
            refine r_aload_n (pc := 196) C dX8_act_196 rfl ?_
            refine r_callV (pc := 197) C 45 (c_X8_top (zO.ap C)  _) lk_c_X8_top lk_i_X8 lk_m_X8_148 lk_n_X8_top lk_v_X8_top (n := 0) (by decide +kernel) rfl ⟨rfl, rfl⟩ (by decide) (by decide) rfl rfl rfl (Nat.le_of_ble_eq_true rfl) ⟨Nat.zero_le _, Nat.zero_le _⟩ dX8_act_197 (fun v32 s54 _ => ?_)
            refine r_iald (pc := 200) (t0 := 0) C 57 (by decide) rfl rfl dX8_act_200 ?_
            refine r_iast (pc := 201) (t0 := 0) C 57 (by decide) rfl (fun _ => rfl) rfl dX8_act_201 (fun s55 _ => ?_)
            exact r_vret (pc := 202) C dX8_act_202
          · refine r_iload (pc := 187) C dX8_act_187 rfl ?_
            refine r_goto (pc := 189) (tgt := 201) C dX8_act_189 (by decide) ?_
            refine r_iast (pc := 201) (t0 := 0) C 57 (by decide) rfl (fun _ => rfl) rfl dX8_act_201 (fun s56 _ => ?_)
            exact r_vret (pc := 202) C dX8_act_202
        · refine r_iconst (pc := 127) (v := 0) C dX8_act_127 (by decide) ?_
          refine r_goto (pc := 128) (tgt := 172) C dX8_act_128 (by decide) ?_
          refine r_istore (pc := 172) (lv' := [some (.ref (zad E 45)), some (.int p0), some (.int p1), some (.int p2), some (.int p3), some (.int p4), some (.int (-1 : Int32)), some (.int (0 : Int32)), none]) C dX8_act_172 (by decide) rfl ?_
          refine r_aload_n (pc := 174) C dX8_act_174 rfl ?_
          refine r_get (pc := 175) C K_X8 45 24 (by decide) rfl (by decide) lk_f_X8_51 rfl dX8_act_175 ?_
          refine r_aload_n (pc := 178) C dX8_act_178 rfl ?_
          refine r_callV (pc := 179) C 45 (c_X8_top (zO.ap C)  _) lk_c_X8_top lk_i_X8 lk_m_X8_148 lk_n_X8_top lk_v_X8_top (n := 0) (by decide +kernel) rfl ⟨rfl, rfl⟩ (by decide) (by decide) rfl rfl rfl (Nat.le_of_ble_eq_true rfl) ⟨Nat.zero_le _, Nat.zero_le _⟩ dX8_act_179 (fun v29 s49 _ => ?_)
          refine r_iload (pc := 182) C dX8_act_182 rfl ?_
          refine r_if_eq (pc := 184) (tgt := 192) C dX8_act_184 (by decide) (fun _ => ?_) (fun _ => ?_)
          · refine r_aload_n (pc := 192) C dX8_act_192 rfl ?_
            refine r_get (pc := 193) C K_X8 45 24 (by decide) rfl (by decide) lk_f_X8_51 rfl dX8_act_193 ?_
            refine r_aload_n (pc := 196) C dX8_act_196 rfl ?_
            refine r_callV (pc := 197) C 45 (c_X8_top (zO.ap C)  _) lk_c_X8_top lk_i_X8 lk_m_X8_148 lk_n_X8_top lk_v_X8_top (n := 0) (by decide +kernel) rfl ⟨rfl, rfl⟩ (by decide) (by decide) rfl rfl rfl (Nat.le_of_ble_eq_true rfl) ⟨Nat.zero_le _, Nat.zero_le _⟩ dX8_act_197 (fun v30 s50 _ => ?_)
            refine r_iald (pc := 200) (t0 := 0) C 57 (by decide) rfl rfl dX8_act_200 ?_
            refine r_iast (pc := 201) (t0 := 0) C 57 (by decide) rfl (fun _ => rfl) rfl dX8_act_201 (fun s51 _ => ?_)
            exact r_vret (pc := 202) C dX8_act_202
          · refine r_iload (pc := 187) C dX8_act_187 rfl ?_
            refine r_goto (pc := 189) (tgt := 201) C dX8_act_189 (by decide) ?_
            refine r_iast (pc := 201) (t0 := 0) C 57 (by decide) rfl (fun _ => rfl) rfl dX8_act_201 (fun s52 _ => ?_)
            exact r_vret (pc := 202) C dX8_act_202
      · refine r_iload_n (pc := 131) C dX8_act_131 rfl ?_
        refine r_bipush (pc := 132) (v := 11) C dX8_act_132 (by decide) ?_
        refine r_icmp_ne (pc := 134) (tgt := 156) C dX8_act_134 (by decide) (fun _ => ?_) (fun _ => ?_)
        · refine r_iload_n (pc := 137) C dX8_act_137 rfl ?_
          refine r_callS (pc := 138) C (c_X8_signed (zO.ap C) _ _) lk_c_X8_signed lk_i_X8 lk_m_X8_99 lk_s_X8_signed (n := 1) (by decide +kernel) rfl ⟨rfl, rfl⟩ (by decide) (Nat.le_of_ble_eq_true rfl) ⟨Nat.zero_le _, Nat.zero_le _⟩ dX8_act_138 (fun v23 s39 _ => ?_)
          refine r_iload_n (pc := 141) C dX8_act_141 rfl ?_
          refine r_callS (pc := 142) C (c_X8_signed (zO.ap C) _ _) lk_c_X8_signed lk_i_X8 lk_m_X8_99 lk_s_X8_signed (n := 1) (by decide +kernel) rfl ⟨rfl, rfl⟩ (by decide) (Nat.le_of_ble_eq_true rfl) ⟨Nat.zero_le _, Nat.zero_le _⟩ dX8_act_142 (fun v24 s40 _ => ?_)
          refine r_icmp_ge (pc := 145) (tgt := 152) C dX8_act_145 (by decide) (fun _ => ?_) (fun _ => ?_)
          · refine r_iconst (pc := 152) (v := 0) C dX8_act_152 (by decide) ?_
            refine r_goto (pc := 153) (tgt := 172) C dX8_act_153 (by decide) ?_
            refine r_istore (pc := 172) (lv' := [some (.ref (zad E 45)), some (.int p0), some (.int p1), some (.int p2), some (.int p3), some (.int p4), some (.int (-1 : Int32)), some (.int (0 : Int32)), none]) C dX8_act_172 (by decide) rfl ?_
            refine r_aload_n (pc := 174) C dX8_act_174 rfl ?_
            refine r_get (pc := 175) C K_X8 45 24 (by decide) rfl (by decide) lk_f_X8_51 rfl dX8_act_175 ?_
            refine r_aload_n (pc := 178) C dX8_act_178 rfl ?_
            refine r_callV (pc := 179) C 45 (c_X8_top (zO.ap C)  _) lk_c_X8_top lk_i_X8 lk_m_X8_148 lk_n_X8_top lk_v_X8_top (n := 0) (by decide +kernel) rfl ⟨rfl, rfl⟩ (by decide) (by decide) rfl rfl rfl (Nat.le_of_ble_eq_true rfl) ⟨Nat.zero_le _, Nat.zero_le _⟩ dX8_act_179 (fun v25 s41 _ => ?_)
            refine r_iload (pc := 182) C dX8_act_182 rfl ?_
            refine r_if_eq (pc := 184) (tgt := 192) C dX8_act_184 (by decide) (fun _ => ?_) (fun _ => ?_)
            · refine r_aload_n (pc := 192) C dX8_act_192 rfl ?_
              refine r_get (pc := 193) C K_X8 45 24 (by decide) rfl (by decide) lk_f_X8_51 rfl dX8_act_193 ?_
              refine r_aload_n (pc := 196) C dX8_act_196 rfl ?_
              refine r_callV (pc := 197) C 45 (c_X8_top (zO.ap C)  _) lk_c_X8_top lk_i_X8 lk_m_X8_148 lk_n_X8_top lk_v_X8_top (n := 0) (by decide +kernel) rfl ⟨rfl, rfl⟩ (by decide) (by decide) rfl rfl rfl (Nat.le_of_ble_eq_true rfl) ⟨Nat.zero_le _, Nat.zero_le _⟩ dX8_act_197 (fun v26 s42 _ => ?_)
              refine r_iald (pc := 200) (t0 := 0) C 57 (by decide) rfl rfl dX8_act_200 ?_
              refine r_iast (pc := 201) (t0 := 0) C 57 (by decide) rfl (fun _ => rfl) rfl dX8_act_201 (fun s43 _ => ?_)
              exact r_vret (pc := 202) C dX8_act_202
            · refine r_iload (pc := 187) C dX8_act_187 rfl ?_
              refine r_goto (pc := 189) (tgt := 201) C dX8_act_189 (by decide) ?_
              refine r_iast (pc := 201) (t0 := 0) C 57 (by decide) rfl (fun _ => rfl) rfl dX8_act_201 (fun s44 _ => ?_)
              exact r_vret (pc := 202) C dX8_act_202
          · refine r_iconst (pc := 148) (v := 1) C dX8_act_148 (by decide) ?_
            refine r_goto (pc := 149) (tgt := 172) C dX8_act_149 (by decide) ?_
            refine r_istore (pc := 172) (lv' := [some (.ref (zad E 45)), some (.int p0), some (.int p1), some (.int p2), some (.int p3), some (.int p4), some (.int (-1 : Int32)), some (.int (1 : Int32)), none]) C dX8_act_172 (by decide) rfl ?_
            refine r_aload_n (pc := 174) C dX8_act_174 rfl ?_
            refine r_get (pc := 175) C K_X8 45 24 (by decide) rfl (by decide) lk_f_X8_51 rfl dX8_act_175 ?_
            refine r_aload_n (pc := 178) C dX8_act_178 rfl ?_
            refine r_callV (pc := 179) C 45 (c_X8_top (zO.ap C)  _) lk_c_X8_top lk_i_X8 lk_m_X8_148 lk_n_X8_top lk_v_X8_top (n := 0) (by decide +kernel) rfl ⟨rfl, rfl⟩ (by decide) (by decide) rfl rfl rfl (Nat.le_of_ble_eq_true rfl) ⟨Nat.zero_le _, Nat.zero_le _⟩ dX8_act_179 (fun v27 s45 _ => ?_)
            refine r_iload (pc := 182) C dX8_act_182 rfl ?_
            refine r_if_eq (pc := 184) (tgt := 192) C dX8_act_184 (by decide) (fun _ => ?_) (fun _ => ?_)
            · refine r_aload_n (pc := 192) C dX8_act_192 rfl ?_
              refine r_get (pc := 193) C K_X8 45 24 (by decide) rfl (by decide) lk_f_X8_51 rfl dX8_act_193 ?_
              refine r_aload_n (pc := 196) C dX8_act_196 rfl ?_
              refine r_callV (pc := 197) C 45 (c_X8_top (zO.ap C)  _) lk_c_X8_top lk_i_X8 lk_m_X8_148 lk_n_X8_top lk_v_X8_top (n := 0) (by decide +kernel) rfl ⟨rfl, rfl⟩ (by decide) (by decide) rfl rfl rfl (Nat.le_of_ble_eq_true rfl) ⟨Nat.zero_le _, Nat.zero_le _⟩ dX8_act_197 (fun v28 s46 _ => ?_)
              refine r_iald (pc := 200) (t0 := 0) C 57 (by decide) rfl rfl dX8_act_200 ?_
              refine r_iast (pc := 201) (t0 := 0) C 57 (by decide) rfl (fun _ => rfl) rfl dX8_act_201 (fun s47 _ => ?_)
              exact r_vret (pc := 202) C dX8_act_202
            · refine r_iload (pc := 187) C dX8_act_187 rfl ?_
              refine r_goto (pc := 189) (tgt := 201) C dX8_act_189 (by decide) ?_
              refine r_iast (pc := 201) (t0 := 0) C 57 (by decide) rfl (fun _ => rfl) rfl dX8_act_201 (fun s48 _ => ?_)
              exact r_vret (pc := 202) C dX8_act_202
        · refine r_iload_n (pc := 156) C dX8_act_156 rfl ?_
          refine r_callS (pc := 157) C (c_X8_signed (zO.ap C) _ _) lk_c_X8_signed lk_i_X8 lk_m_X8_99 lk_s_X8_signed (n := 1) (by decide +kernel) rfl ⟨rfl, rfl⟩ (by decide) (Nat.le_of_ble_eq_true rfl) ⟨Nat.zero_le _, Nat.zero_le _⟩ dX8_act_157 (fun v17 s29 _ => ?_)
          refine r_iload_n (pc := 160) C dX8_act_160 rfl ?_
          refine r_callS (pc := 161) C (c_X8_signed (zO.ap C) _ _) lk_c_X8_signed lk_i_X8 lk_m_X8_99 lk_s_X8_signed (n := 1) (by decide +kernel) rfl ⟨rfl, rfl⟩ (by decide) (Nat.le_of_ble_eq_true rfl) ⟨Nat.zero_le _, Nat.zero_le _⟩ dX8_act_161 (fun v18 s30 _ => ?_)
          refine r_icmp_le (pc := 164) (tgt := 171) C dX8_act_164 (by decide) (fun _ => ?_) (fun _ => ?_)
          · refine r_iconst (pc := 171) (v := 0) C dX8_act_171 (by decide) ?_
            refine r_istore (pc := 172) (lv' := [some (.ref (zad E 45)), some (.int p0), some (.int p1), some (.int p2), some (.int p3), some (.int p4), some (.int (-1 : Int32)), some (.int (0 : Int32)), none]) C dX8_act_172 (by decide) rfl ?_
            refine r_aload_n (pc := 174) C dX8_act_174 rfl ?_
            refine r_get (pc := 175) C K_X8 45 24 (by decide) rfl (by decide) lk_f_X8_51 rfl dX8_act_175 ?_
            refine r_aload_n (pc := 178) C dX8_act_178 rfl ?_
            refine r_callV (pc := 179) C 45 (c_X8_top (zO.ap C)  _) lk_c_X8_top lk_i_X8 lk_m_X8_148 lk_n_X8_top lk_v_X8_top (n := 0) (by decide +kernel) rfl ⟨rfl, rfl⟩ (by decide) (by decide) rfl rfl rfl (Nat.le_of_ble_eq_true rfl) ⟨Nat.zero_le _, Nat.zero_le _⟩ dX8_act_179 (fun v19 s31 _ => ?_)
            refine r_iload (pc := 182) C dX8_act_182 rfl ?_
            refine r_if_eq (pc := 184) (tgt := 192) C dX8_act_184 (by decide) (fun _ => ?_) (fun _ => ?_)
            · refine r_aload_n (pc := 192) C dX8_act_192 rfl ?_
              refine r_get (pc := 193) C K_X8 45 24 (by decide) rfl (by decide) lk_f_X8_51 rfl dX8_act_193 ?_
              refine r_aload_n (pc := 196) C dX8_act_196 rfl ?_
              refine r_callV (pc := 197) C 45 (c_X8_top (zO.ap C)  _) lk_c_X8_top lk_i_X8 lk_m_X8_148 lk_n_X8_top lk_v_X8_top (n := 0) (by decide +kernel) rfl ⟨rfl, rfl⟩ (by decide) (by decide) rfl rfl rfl (Nat.le_of_ble_eq_true rfl) ⟨Nat.zero_le _, Nat.zero_le _⟩ dX8_act_197 (fun v20 s32 _ => ?_)
              refine r_iald (pc := 200) (t0 := 0) C 57 (by decide) rfl rfl dX8_act_200 ?_
              refine r_iast (pc := 201) (t0 := 0) C 57 (by decide) rfl (fun _ => rfl) rfl dX8_act_201 (fun s33 _ => ?_)
              exact r_vret (pc := 202) C dX8_act_202
            · refine r_iload (pc := 187) C dX8_act_187 rfl ?_
              refine r_goto (pc := 189) (tgt := 201) C dX8_act_189 (by decide) ?_
              refine r_iast (pc := 201) (t0 := 0) C 57 (by decide) rfl (fun _ => rfl) rfl dX8_act_201 (fun s34 _ => ?_)
              exact r_vret (pc := 202) C dX8_act_202
          · refine r_iconst (pc := 167) (v := 1) C dX8_act_167 (by decide) ?_
            refine r_goto (pc := 168) (tgt := 172) C dX8_act_168 (by decide) ?_
            refine r_istore (pc := 172) (lv' := [some (.ref (zad E 45)), some (.int p0), some (.int p1), some (.int p2), some (.int p3), some (.int p4), some (.int (-1 : Int32)), some (.int (1 : Int32)), none]) C dX8_act_172 (by decide) rfl ?_
            refine r_aload_n (pc := 174) C dX8_act_174 rfl ?_
            refine r_get (pc := 175) C K_X8 45 24 (by decide) rfl (by decide) lk_f_X8_51 rfl dX8_act_175 ?_
            refine r_aload_n (pc := 178) C dX8_act_178 rfl ?_
            refine r_callV (pc := 179) C 45 (c_X8_top (zO.ap C)  _) lk_c_X8_top lk_i_X8 lk_m_X8_148 lk_n_X8_top lk_v_X8_top (n := 0) (by decide +kernel) rfl ⟨rfl, rfl⟩ (by decide) (by decide) rfl rfl rfl (Nat.le_of_ble_eq_true rfl) ⟨Nat.zero_le _, Nat.zero_le _⟩ dX8_act_179 (fun v21 s35 _ => ?_)
            refine r_iload (pc := 182) C dX8_act_182 rfl ?_
            refine r_if_eq (pc := 184) (tgt := 192) C dX8_act_184 (by decide) (fun _ => ?_) (fun _ => ?_)
            · refine r_aload_n (pc := 192) C dX8_act_192 rfl ?_
              refine r_get (pc := 193) C K_X8 45 24 (by decide) rfl (by decide) lk_f_X8_51 rfl dX8_act_193 ?_
              refine r_aload_n (pc := 196) C dX8_act_196 rfl ?_
              refine r_callV (pc := 197) C 45 (c_X8_top (zO.ap C)  _) lk_c_X8_top lk_i_X8 lk_m_X8_148 lk_n_X8_top lk_v_X8_top (n := 0) (by decide +kernel) rfl ⟨rfl, rfl⟩ (by decide) (by decide) rfl rfl rfl (Nat.le_of_ble_eq_true rfl) ⟨Nat.zero_le _, Nat.zero_le _⟩ dX8_act_197 (fun v22 s36 _ => ?_)
              refine r_iald (pc := 200) (t0 := 0) C 57 (by decide) rfl rfl dX8_act_200 ?_
              refine r_iast (pc := 201) (t0 := 0) C 57 (by decide) rfl (fun _ => rfl) rfl dX8_act_201 (fun s37 _ => ?_)
              exact r_vret (pc := 202) C dX8_act_202
            · refine r_iload (pc := 187) C dX8_act_187 rfl ?_
              refine r_goto (pc := 189) (tgt := 201) C dX8_act_189 (by decide) ?_
              refine r_iast (pc := 201) (t0 := 0) C 57 (by decide) rfl (fun _ => rfl) rfl dX8_act_201 (fun s38 _ => ?_)
              exact r_vret (pc := 202) C dX8_act_202
    · refine r_split (fun h3 => ?_) (fun h3 => ?_)
      · refine r_tabIn (pc := 4) (v := 12) (tgt := 112) C dX8_act_4 h3 (by decide) (by decide) rfl (by decide) ?_
        refine r_iload_n (pc := 112) C dX8_act_112 rfl ?_
        refine r_bipush (pc := 113) (v := 10) C dX8_act_113 (by decide) ?_
        refine r_icmp_ne (pc := 115) (tgt := 131) C dX8_act_115 (by decide) (fun _ => ?_) (fun _ => ?_)
        · refine r_iload_n (pc := 118) C dX8_act_118 rfl ?_
          refine r_iload_n (pc := 119) C dX8_act_119 rfl ?_
          refine r_icmp_ne (pc := 120) (tgt := 127) C dX8_act_120 (by decide) (fun _ => ?_) (fun _ => ?_)
          · refine r_iconst (pc := 123) (v := 1) C dX8_act_123 (by decide) ?_
            refine r_goto (pc := 124) (tgt := 172) C dX8_act_124 (by decide) ?_
            refine r_istore (pc := 172) (lv' := [some (.ref (zad E 45)), some (.int p0), some (.int p1), some (.int p2), some (.int p3), some (.int p4), some (.int (-1 : Int32)), some (.int (1 : Int32)), none]) C dX8_act_172 (by decide) rfl ?_
            refine r_aload_n (pc := 174) C dX8_act_174 rfl ?_
            refine r_get (pc := 175) C K_X8 45 24 (by decide) rfl (by decide) lk_f_X8_51 rfl dX8_act_175 ?_
            refine r_aload_n (pc := 178) C dX8_act_178 rfl ?_
            refine r_callV (pc := 179) C 45 (c_X8_top (zO.ap C)  _) lk_c_X8_top lk_i_X8 lk_m_X8_148 lk_n_X8_top lk_v_X8_top (n := 0) (by decide +kernel) rfl ⟨rfl, rfl⟩ (by decide) (by decide) rfl rfl rfl (Nat.le_of_ble_eq_true rfl) ⟨Nat.zero_le _, Nat.zero_le _⟩ dX8_act_179 (fun v47 s81 _ => ?_)
            refine r_iload (pc := 182) C dX8_act_182 rfl ?_
            refine r_if_eq (pc := 184) (tgt := 192) C dX8_act_184 (by decide) (fun _ => ?_) (fun _ => ?_)
            · refine r_aload_n (pc := 192) C dX8_act_192 rfl ?_
              refine r_get (pc := 193) C K_X8 45 24 (by decide) rfl (by decide) lk_f_X8_51 rfl dX8_act_193 ?_
              refine r_aload_n (pc := 196) C dX8_act_196 rfl ?_
              refine r_callV (pc := 197) C 45 (c_X8_top (zO.ap C)  _) lk_c_X8_top lk_i_X8 lk_m_X8_148 lk_n_X8_top lk_v_X8_top (n := 0) (by decide +kernel) rfl ⟨rfl, rfl⟩ (by decide) (by decide) rfl rfl rfl (Nat.le_of_ble_eq_true rfl) ⟨Nat.zero_le _, Nat.zero_le _⟩ dX8_act_197 (fun v48 s82 _ => ?_)
              refine r_iald (pc := 200) (t0 := 0) C 57 (by decide) rfl rfl dX8_act_200 ?_
              refine r_iast (pc := 201) (t0 := 0) C 57 (by decide) rfl (fun _ => rfl) rfl dX8_act_201 (fun s83 _ => ?_)
              exact r_vret (pc := 202) C dX8_act_202
            · refine r_iload (pc := 187) C dX8_act_187 rfl ?_
              refine r_goto (pc := 189) (tgt := 201) C dX8_act_189 (by decide) ?_
              refine r_iast (pc := 201) (t0 := 0) C 57 (by decide) rfl (fun _ => rfl) rfl dX8_act_201 (fun s84 _ => ?_)
              exact r_vret (pc := 202) C dX8_act_202
          · refine r_iconst (pc := 127) (v := 0) C dX8_act_127 (by decide) ?_
            refine r_goto (pc := 128) (tgt := 172) C dX8_act_128 (by decide) ?_
            refine r_istore (pc := 172) (lv' := [some (.ref (zad E 45)), some (.int p0), some (.int p1), some (.int p2), some (.int p3), some (.int p4), some (.int (-1 : Int32)), some (.int (0 : Int32)), none]) C dX8_act_172 (by decide) rfl ?_
            refine r_aload_n (pc := 174) C dX8_act_174 rfl ?_
            refine r_get (pc := 175) C K_X8 45 24 (by decide) rfl (by decide) lk_f_X8_51 rfl dX8_act_175 ?_
            refine r_aload_n (pc := 178) C dX8_act_178 rfl ?_
            refine r_callV (pc := 179) C 45 (c_X8_top (zO.ap C)  _) lk_c_X8_top lk_i_X8 lk_m_X8_148 lk_n_X8_top lk_v_X8_top (n := 0) (by decide +kernel) rfl ⟨rfl, rfl⟩ (by decide) (by decide) rfl rfl rfl (Nat.le_of_ble_eq_true rfl) ⟨Nat.zero_le _, Nat.zero_le _⟩ dX8_act_179 (fun v45 s77 _ => ?_)
            refine r_iload (pc := 182) C dX8_act_182 rfl ?_
            refine r_if_eq (pc := 184) (tgt := 192) C dX8_act_184 (by decide) (fun _ => ?_) (fun _ => ?_)
            · refine r_aload_n (pc := 192) C dX8_act_192 rfl ?_
              refine r_get (pc := 193) C K_X8 45 24 (by decide) rfl (by decide) lk_f_X8_51 rfl dX8_act_193 ?_
              refine r_aload_n (pc := 196) C dX8_act_196 rfl ?_
              refine r_callV (pc := 197) C 45 (c_X8_top (zO.ap C)  _) lk_c_X8_top lk_i_X8 lk_m_X8_148 lk_n_X8_top lk_v_X8_top (n := 0) (by decide +kernel) rfl ⟨rfl, rfl⟩ (by decide) (by decide) rfl rfl rfl (Nat.le_of_ble_eq_true rfl) ⟨Nat.zero_le _, Nat.zero_le _⟩ dX8_act_197 (fun v46 s78 _ => ?_)
              refine r_iald (pc := 200) (t0 := 0) C 57 (by decide) rfl rfl dX8_act_200 ?_
              refine r_iast (pc := 201) (t0 := 0) C 57 (by decide) rfl (fun _ => rfl) rfl dX8_act_201 (fun s79 _ => ?_)
              exact r_vret (pc := 202) C dX8_act_202
            · refine r_iload (pc := 187) C dX8_act_187 rfl ?_
              refine r_goto (pc := 189) (tgt := 201) C dX8_act_189 (by decide) ?_
              refine r_iast (pc := 201) (t0 := 0) C 57 (by decide) rfl (fun _ => rfl) rfl dX8_act_201 (fun s80 _ => ?_)
              exact r_vret (pc := 202) C dX8_act_202
        · refine r_iload_n (pc := 131) C dX8_act_131 rfl ?_
          refine r_bipush (pc := 132) (v := 11) C dX8_act_132 (by decide) ?_
          refine r_icmp_ne (pc := 134) (tgt := 156) C dX8_act_134 (by decide) (fun _ => ?_) (fun _ => ?_)
          · refine r_iload_n (pc := 137) C dX8_act_137 rfl ?_
            refine r_callS (pc := 138) C (c_X8_signed (zO.ap C) _ _) lk_c_X8_signed lk_i_X8 lk_m_X8_99 lk_s_X8_signed (n := 1) (by decide +kernel) rfl ⟨rfl, rfl⟩ (by decide) (Nat.le_of_ble_eq_true rfl) ⟨Nat.zero_le _, Nat.zero_le _⟩ dX8_act_138 (fun v39 s67 _ => ?_)
            refine r_iload_n (pc := 141) C dX8_act_141 rfl ?_
            refine r_callS (pc := 142) C (c_X8_signed (zO.ap C) _ _) lk_c_X8_signed lk_i_X8 lk_m_X8_99 lk_s_X8_signed (n := 1) (by decide +kernel) rfl ⟨rfl, rfl⟩ (by decide) (Nat.le_of_ble_eq_true rfl) ⟨Nat.zero_le _, Nat.zero_le _⟩ dX8_act_142 (fun v40 s68 _ => ?_)
            refine r_icmp_ge (pc := 145) (tgt := 152) C dX8_act_145 (by decide) (fun _ => ?_) (fun _ => ?_)
            · refine r_iconst (pc := 152) (v := 0) C dX8_act_152 (by decide) ?_
              refine r_goto (pc := 153) (tgt := 172) C dX8_act_153 (by decide) ?_
              refine r_istore (pc := 172) (lv' := [some (.ref (zad E 45)), some (.int p0), some (.int p1), some (.int p2), some (.int p3), some (.int p4), some (.int (-1 : Int32)), some (.int (0 : Int32)), none]) C dX8_act_172 (by decide) rfl ?_
              refine r_aload_n (pc := 174) C dX8_act_174 rfl ?_
              refine r_get (pc := 175) C K_X8 45 24 (by decide) rfl (by decide) lk_f_X8_51 rfl dX8_act_175 ?_
              refine r_aload_n (pc := 178) C dX8_act_178 rfl ?_
              refine r_callV (pc := 179) C 45 (c_X8_top (zO.ap C)  _) lk_c_X8_top lk_i_X8 lk_m_X8_148 lk_n_X8_top lk_v_X8_top (n := 0) (by decide +kernel) rfl ⟨rfl, rfl⟩ (by decide) (by decide) rfl rfl rfl (Nat.le_of_ble_eq_true rfl) ⟨Nat.zero_le _, Nat.zero_le _⟩ dX8_act_179 (fun v41 s69 _ => ?_)
              refine r_iload (pc := 182) C dX8_act_182 rfl ?_
              refine r_if_eq (pc := 184) (tgt := 192) C dX8_act_184 (by decide) (fun _ => ?_) (fun _ => ?_)
              · refine r_aload_n (pc := 192) C dX8_act_192 rfl ?_
                refine r_get (pc := 193) C K_X8 45 24 (by decide) rfl (by decide) lk_f_X8_51 rfl dX8_act_193 ?_
                refine r_aload_n (pc := 196) C dX8_act_196 rfl ?_
                refine r_callV (pc := 197) C 45 (c_X8_top (zO.ap C)  _) lk_c_X8_top lk_i_X8 lk_m_X8_148 lk_n_X8_top lk_v_X8_top (n := 0) (by decide +kernel) rfl ⟨rfl, rfl⟩ (by decide) (by decide) rfl rfl rfl (Nat.le_of_ble_eq_true rfl) ⟨Nat.zero_le _, Nat.zero_le _⟩ dX8_act_197 (fun v42 s70 _ => ?_)
                refine r_iald (pc := 200) (t0 := 0) C 57 (by decide) rfl rfl dX8_act_200 ?_
                refine r_iast (pc := 201) (t0 := 0) C 57 (by decide) rfl (fun _ => rfl) rfl dX8_act_201 (fun s71 _ => ?_)
                exact r_vret (pc := 202) C dX8_act_202
              · refine r_iload (pc := 187) C dX8_act_187 rfl ?_
                refine r_goto (pc := 189) (tgt := 201) C dX8_act_189 (by decide) ?_
                refine r_iast (pc := 201) (t0 := 0) C 57 (by decide) rfl (fun _ => rfl) rfl dX8_act_201 (fun s72 _ => ?_)
                exact r_vret (pc := 202) C dX8_act_202
            · refine r_iconst (pc := 148) (v := 1) C dX8_act_148 (by decide) ?_
              refine r_goto (pc := 149) (tgt := 172) C dX8_act_149 (by decide) ?_
              refine r_istore (pc := 172) (lv' := [some (.ref (zad E 45)), some (.int p0), some (.int p1), some (.int p2), some (.int p3), some (.int p4), some (.int (-1 : Int32)), some (.int (1 : Int32)), none]) C dX8_act_172 (by decide) rfl ?_
              refine r_aload_n (pc := 174) C dX8_act_174 rfl ?_
              refine r_get (pc := 175) C K_X8 45 24 (by decide) rfl (by decide) lk_f_X8_51 rfl dX8_act_175 ?_
              refine r_aload_n (pc := 178) C dX8_act_178 rfl ?_
              refine r_callV (pc := 179) C 45 (c_X8_top (zO.ap C)  _) lk_c_X8_top lk_i_X8 lk_m_X8_148 lk_n_X8_top lk_v_X8_top (n := 0) (by decide +kernel) rfl ⟨rfl, rfl⟩ (by decide) (by decide) rfl rfl rfl (Nat.le_of_ble_eq_true rfl) ⟨Nat.zero_le _, Nat.zero_le _⟩ dX8_act_179 (fun v43 s73 _ => ?_)
              refine r_iload (pc := 182) C dX8_act_182 rfl ?_
              refine r_if_eq (pc := 184) (tgt := 192) C dX8_act_184 (by decide) (fun _ => ?_) (fun _ => ?_)
              · refine r_aload_n (pc := 192) C dX8_act_192 rfl ?_
                refine r_get (pc := 193) C K_X8 45 24 (by decide) rfl (by decide) lk_f_X8_51 rfl dX8_act_193 ?_
                refine r_aload_n (pc := 196) C dX8_act_196 rfl ?_
                refine r_callV (pc := 197) C 45 (c_X8_top (zO.ap C)  _) lk_c_X8_top lk_i_X8 lk_m_X8_148 lk_n_X8_top lk_v_X8_top (n := 0) (by decide +kernel) rfl ⟨rfl, rfl⟩ (by decide) (by decide) rfl rfl rfl (Nat.le_of_ble_eq_true rfl) ⟨Nat.zero_le _, Nat.zero_le _⟩ dX8_act_197 (fun v44 s74 _ => ?_)
                refine r_iald (pc := 200) (t0 := 0) C 57 (by decide) rfl rfl dX8_act_200 ?_
                refine r_iast (pc := 201) (t0 := 0) C 57 (by decide) rfl (fun _ => rfl) rfl dX8_act_201 (fun s75 _ => ?_)
                exact r_vret (pc := 202) C dX8_act_202
              · refine r_iload (pc := 187) C dX8_act_187 rfl ?_
                refine r_goto (pc := 189) (tgt := 201) C dX8_act_189 (by decide) ?_
                refine r_iast (pc := 201) (t0 := 0) C 57 (by decide) rfl (fun _ => rfl) rfl dX8_act_201 (fun s76 _ => ?_)
                exact r_vret (pc := 202) C dX8_act_202
          · refine r_iload_n (pc := 156) C dX8_act_156 rfl ?_
            refine r_callS (pc := 157) C (c_X8_signed (zO.ap C) _ _) lk_c_X8_signed lk_i_X8 lk_m_X8_99 lk_s_X8_signed (n := 1) (by decide +kernel) rfl ⟨rfl, rfl⟩ (by decide) (Nat.le_of_ble_eq_true rfl) ⟨Nat.zero_le _, Nat.zero_le _⟩ dX8_act_157 (fun v33 s57 _ => ?_)
            refine r_iload_n (pc := 160) C dX8_act_160 rfl ?_
            refine r_callS (pc := 161) C (c_X8_signed (zO.ap C) _ _) lk_c_X8_signed lk_i_X8 lk_m_X8_99 lk_s_X8_signed (n := 1) (by decide +kernel) rfl ⟨rfl, rfl⟩ (by decide) (Nat.le_of_ble_eq_true rfl) ⟨Nat.zero_le _, Nat.zero_le _⟩ dX8_act_161 (fun v34 s58 _ => ?_)
            refine r_icmp_le (pc := 164) (tgt := 171) C dX8_act_164 (by decide) (fun _ => ?_) (fun _ => ?_)
            · refine r_iconst (pc := 171) (v := 0) C dX8_act_171 (by decide) ?_
              refine r_istore (pc := 172) (lv' := [some (.ref (zad E 45)), some (.int p0), some (.int p1), some (.int p2), some (.int p3), some (.int p4), some (.int (-1 : Int32)), some (.int (0 : Int32)), none]) C dX8_act_172 (by decide) rfl ?_
              refine r_aload_n (pc := 174) C dX8_act_174 rfl ?_
              refine r_get (pc := 175) C K_X8 45 24 (by decide) rfl (by decide) lk_f_X8_51 rfl dX8_act_175 ?_
              refine r_aload_n (pc := 178) C dX8_act_178 rfl ?_
              refine r_callV (pc := 179) C 45 (c_X8_top (zO.ap C)  _) lk_c_X8_top lk_i_X8 lk_m_X8_148 lk_n_X8_top lk_v_X8_top (n := 0) (by decide +kernel) rfl ⟨rfl, rfl⟩ (by decide) (by decide) rfl rfl rfl (Nat.le_of_ble_eq_true rfl) ⟨Nat.zero_le _, Nat.zero_le _⟩ dX8_act_179 (fun v35 s59 _ => ?_)
              refine r_iload (pc := 182) C dX8_act_182 rfl ?_
              refine r_if_eq (pc := 184) (tgt := 192) C dX8_act_184 (by decide) (fun _ => ?_) (fun _ => ?_)
              · refine r_aload_n (pc := 192) C dX8_act_192 rfl ?_
                refine r_get (pc := 193) C K_X8 45 24 (by decide) rfl (by decide) lk_f_X8_51 rfl dX8_act_193 ?_
                refine r_aload_n (pc := 196) C dX8_act_196 rfl ?_
                refine r_callV (pc := 197) C 45 (c_X8_top (zO.ap C)  _) lk_c_X8_top lk_i_X8 lk_m_X8_148 lk_n_X8_top lk_v_X8_top (n := 0) (by decide +kernel) rfl ⟨rfl, rfl⟩ (by decide) (by decide) rfl rfl rfl (Nat.le_of_ble_eq_true rfl) ⟨Nat.zero_le _, Nat.zero_le _⟩ dX8_act_197 (fun v36 s60 _ => ?_)
                refine r_iald (pc := 200) (t0 := 0) C 57 (by decide) rfl rfl dX8_act_200 ?_
                refine r_iast (pc := 201) (t0 := 0) C 57 (by decide) rfl (fun _ => rfl) rfl dX8_act_201 (fun s61 _ => ?_)
                exact r_vret (pc := 202) C dX8_act_202
              · refine r_iload (pc := 187) C dX8_act_187 rfl ?_
                refine r_goto (pc := 189) (tgt := 201) C dX8_act_189 (by decide) ?_
                refine r_iast (pc := 201) (t0 := 0) C 57 (by decide) rfl (fun _ => rfl) rfl dX8_act_201 (fun s62 _ => ?_)
                exact r_vret (pc := 202) C dX8_act_202
            · refine r_iconst (pc := 167) (v := 1) C dX8_act_167 (by decide) ?_
              refine r_goto (pc := 168) (tgt := 172) C dX8_act_168 (by decide) ?_
              refine r_istore (pc := 172) (lv' := [some (.ref (zad E 45)), some (.int p0), some (.int p1), some (.int p2), some (.int p3), some (.int p4), some (.int (-1 : Int32)), some (.int (1 : Int32)), none]) C dX8_act_172 (by decide) rfl ?_
              refine r_aload_n (pc := 174) C dX8_act_174 rfl ?_
              refine r_get (pc := 175) C K_X8 45 24 (by decide) rfl (by decide) lk_f_X8_51 rfl dX8_act_175 ?_
              refine r_aload_n (pc := 178) C dX8_act_178 rfl ?_
              refine r_callV (pc := 179) C 45 (c_X8_top (zO.ap C)  _) lk_c_X8_top lk_i_X8 lk_m_X8_148 lk_n_X8_top lk_v_X8_top (n := 0) (by decide +kernel) rfl ⟨rfl, rfl⟩ (by decide) (by decide) rfl rfl rfl (Nat.le_of_ble_eq_true rfl) ⟨Nat.zero_le _, Nat.zero_le _⟩ dX8_act_179 (fun v37 s63 _ => ?_)
              refine r_iload (pc := 182) C dX8_act_182 rfl ?_
              refine r_if_eq (pc := 184) (tgt := 192) C dX8_act_184 (by decide) (fun _ => ?_) (fun _ => ?_)
              · refine r_aload_n (pc := 192) C dX8_act_192 rfl ?_
                refine r_get (pc := 193) C K_X8 45 24 (by decide) rfl (by decide) lk_f_X8_51 rfl dX8_act_193 ?_
                refine r_aload_n (pc := 196) C dX8_act_196 rfl ?_
                refine r_callV (pc := 197) C 45 (c_X8_top (zO.ap C)  _) lk_c_X8_top lk_i_X8 lk_m_X8_148 lk_n_X8_top lk_v_X8_top (n := 0) (by decide +kernel) rfl ⟨rfl, rfl⟩ (by decide) (by decide) rfl rfl rfl (Nat.le_of_ble_eq_true rfl) ⟨Nat.zero_le _, Nat.zero_le _⟩ dX8_act_197 (fun v38 s64 _ => ?_)
                refine r_iald (pc := 200) (t0 := 0) C 57 (by decide) rfl rfl dX8_act_200 ?_
                refine r_iast (pc := 201) (t0 := 0) C 57 (by decide) rfl (fun _ => rfl) rfl dX8_act_201 (fun s65 _ => ?_)
                exact r_vret (pc := 202) C dX8_act_202
              · refine r_iload (pc := 187) C dX8_act_187 rfl ?_
                refine r_goto (pc := 189) (tgt := 201) C dX8_act_189 (by decide) ?_
                refine r_iast (pc := 201) (t0 := 0) C 57 (by decide) rfl (fun _ => rfl) rfl dX8_act_201 (fun s66 _ => ?_)
                exact r_vret (pc := 202) C dX8_act_202
      · refine r_split (fun h4 => ?_) (fun h4 => ?_)
        · refine r_tabIn (pc := 4) (v := 13) (tgt := 203) C dX8_act_4 h4 (by decide) (by decide) rfl (by decide) ?_
          refine r_aload_n (pc := 203) C dX8_act_203 rfl ?_
          refine r_get (pc := 204) C K_X8 45 24 (by decide) rfl (by decide) lk_f_X8_51 rfl dX8_act_204 ?_
          refine r_aload_n (pc := 207) C dX8_act_207 rfl ?_
          refine r_callV (pc := 208) C 45 (c_X8_top (zO.ap C)  _) lk_c_X8_top lk_i_X8 lk_m_X8_148 lk_n_X8_top lk_v_X8_top (n := 0) (by decide +kernel) rfl ⟨rfl, rfl⟩ (by decide) (by decide) rfl rfl rfl (Nat.le_of_ble_eq_true rfl) ⟨Nat.zero_le _, Nat.zero_le _⟩ dX8_act_208 (fun v49 s85 _ => ?_)
          refine r_iload_n (pc := 211) C dX8_act_211 rfl ?_
          refine r_iast (pc := 212) (t0 := 0) C 57 (by decide) rfl (fun _ => rfl) rfl dX8_act_212 (fun s86 _ => ?_)
          exact r_vret (pc := 213) C dX8_act_213
        · refine r_split (fun h5 => ?_) (fun h5 => ?_)
          · refine r_tabIn (pc := 4) (v := 14) (tgt := 214) C dX8_act_4 h5 (by decide) (by decide) rfl (by decide) ?_
            refine r_aload_n (pc := 214) C dX8_act_214 rfl ?_
            refine r_iload_n (pc := 215) C dX8_act_215 rfl ?_
            refine r_sipush (pc := 216) (v := 255) C dX8_act_216 (by decide) ?_
            refine r_iand (pc := 219) C dX8_act_219 ?_
            refine r_iconst (pc := 220) (v := 1) C dX8_act_220 (by decide) ?_
            refine r_callV (pc := 221) C 45 (c_X8_more (zO.ap C) _ _ _) lk_c_X8_more lk_i_X8 lk_m_X8_188 lk_n_X8_more lk_v_X8_more (n := 2) (by decide +kernel) rfl ⟨rfl, rfl⟩ (by decide) (by decide) rfl rfl rfl (Nat.le_of_ble_eq_true rfl) ⟨Nat.zero_le _, Nat.zero_le _⟩ dX8_act_221 (fun _ s87 _ => ?_)
            exact r_vret (pc := 224) C dX8_act_224
          · refine r_split (fun h6 => ?_) (fun h6 => ?_)
            · refine r_tabIn (pc := 4) (v := 15) (tgt := 225) C dX8_act_4 h6 (by decide) (by decide) rfl (by decide) ?_
              refine r_aload_n (pc := 225) C dX8_act_225 rfl ?_
              refine r_iload_n (pc := 226) C dX8_act_226 rfl ?_
              refine r_sipush (pc := 227) (v := 255) C dX8_act_227 (by decide) ?_
              refine r_iand (pc := 230) C dX8_act_230 ?_
              refine r_iconst (pc := 231) (v := -1) C dX8_act_231 (by decide) ?_
              refine r_callV (pc := 232) C 45 (c_X8_more (zO.ap C) _ _ _) lk_c_X8_more lk_i_X8 lk_m_X8_188 lk_n_X8_more lk_v_X8_more (n := 2) (by decide +kernel) rfl ⟨rfl, rfl⟩ (by decide) (by decide) rfl rfl rfl (Nat.le_of_ble_eq_true rfl) ⟨Nat.zero_le _, Nat.zero_le _⟩ dX8_act_232 (fun _ s88 _ => ?_)
              exact r_vret (pc := 235) C dX8_act_235
            · refine r_split (fun h7 => ?_) (fun h7 => ?_)
              · refine r_tabIn (pc := 4) (v := 16) (tgt := 236) C dX8_act_4 h7 (by decide) (by decide) rfl (by decide) ?_
                refine r_aload_n (pc := 236) C dX8_act_236 rfl ?_
                refine r_iload_n (pc := 237) C dX8_act_237 rfl ?_
                refine r_iconst (pc := 238) (v := 2) C dX8_act_238 (by decide) ?_
                refine r_iload_n (pc := 239) C dX8_act_239 rfl ?_
                refine r_callS (pc := 240) C (c_X8_signed (zO.ap C) _ _) lk_c_X8_signed lk_i_X8 lk_m_X8_99 lk_s_X8_signed (n := 1) (by decide +kernel) rfl ⟨rfl, rfl⟩ (by decide) (Nat.le_of_ble_eq_true rfl) ⟨Nat.zero_le _, Nat.zero_le _⟩ dX8_act_240 (fun v50 s89 _ => ?_)
                refine r_imul (pc := 243) C dX8_act_243 ?_
                refine r_iadd (pc := 244) C dX8_act_244 ?_
                refine r_iconst (pc := 245) (v := 1) C dX8_act_245 (by decide) ?_
                refine r_callV (pc := 246) C 45 (c_X8_read (zO.ap C) _ _ _) lk_c_X8_read lk_i_X8 lk_m_X8_91 lk_n_X8_read lk_v_X8_read (n := 2) (by decide +kernel) rfl ⟨rfl, rfl⟩ (by decide) (by decide) rfl rfl rfl (Nat.le_of_ble_eq_true rfl) ⟨Nat.zero_le _, Nat.zero_le _⟩ dX8_act_246 (fun v51 s90 _ => ?_)
                refine r_istore (pc := 249) (lv' := [some (.ref (zad E 45)), some (.int p0), some (.int p1), some (.int p2), some (.int p3), some (.int p4), some (.int v51), none, none]) C dX8_act_249 (by decide) rfl ?_
                refine r_goto (pc := 251) (tgt := 462) C dX8_act_251 (by decide) ?_
                refine r_aload_n (pc := 462) C dX8_act_462 rfl ?_
                refine r_get (pc := 463) C K_X8 45 12 (by decide) rfl (by decide) lk_f_X8_81 rfl dX8_act_463 ?_
                refine r_if_ne (pc := 466) (tgt := 482) C dX8_act_466 (by decide) (fun _ => ?_) (fun _ => ?_)
                · refine r_iload (pc := 469) C dX8_act_469 rfl ?_
                  refine r_if_lt (pc := 471) (tgt := 482) C dX8_act_471 (by decide) (fun _ => ?_) (fun _ => ?_)
                  · exact r_vret (pc := 482) C dX8_act_482
                  · refine r_aload_n (pc := 474) C dX8_act_474 rfl ?_
                    refine r_iload (pc := 475) C dX8_act_475 rfl ?_
                    refine r_iload (pc := 477) C dX8_act_477 rfl ?_
                    refine r_callV (pc := 479) C 45 (c_X8_set (zO.ap C) _ _ _) lk_c_X8_set lk_i_X8 lk_m_X8_166 lk_n_X8_set lk_v_X8_set (n := 2) (by decide +kernel) rfl ⟨rfl, rfl⟩ (by decide) (by decide) rfl rfl rfl (Nat.le_of_ble_eq_true rfl) ⟨Nat.zero_le _, Nat.zero_le _⟩ dX8_act_479 (fun _ s91 _ => ?_)
                    exact r_vret (pc := 482) C dX8_act_482
                · exact r_vret (pc := 482) C dX8_act_482
              · refine r_split (fun h8 => ?_) (fun h8 => ?_)
                · refine r_tabIn (pc := 4) (v := 17) (tgt := 254) C dX8_act_4 h8 (by decide) (by decide) rfl (by decide) ?_
                  refine r_aload_n (pc := 254) C dX8_act_254 rfl ?_
                  refine r_iload_n (pc := 255) C dX8_act_255 rfl ?_
                  refine r_iload_n (pc := 256) C dX8_act_256 rfl ?_
                  refine r_callS (pc := 257) C (c_X8_signed (zO.ap C) _ _) lk_c_X8_signed lk_i_X8 lk_m_X8_99 lk_s_X8_signed (n := 1) (by decide +kernel) rfl ⟨rfl, rfl⟩ (by decide) (Nat.le_of_ble_eq_true rfl) ⟨Nat.zero_le _, Nat.zero_le _⟩ dX8_act_257 (fun v52 s92 _ => ?_)
                  refine r_iadd (pc := 260) C dX8_act_260 ?_
                  refine r_iconst (pc := 261) (v := 0) C dX8_act_261 (by decide) ?_
                  refine r_callV (pc := 262) C 45 (c_X8_read (zO.ap C) _ _ _) lk_c_X8_read lk_i_X8 lk_m_X8_91 lk_n_X8_read lk_v_X8_read (n := 2) (by decide +kernel) rfl ⟨rfl, rfl⟩ (by decide) (by decide) rfl rfl rfl (Nat.le_of_ble_eq_true rfl) ⟨Nat.zero_le _, Nat.zero_le _⟩ dX8_act_262 (fun v53 s93 _ => ?_)
                  refine r_istore (pc := 265) (lv' := [some (.ref (zad E 45)), some (.int p0), some (.int p1), some (.int p2), some (.int p3), some (.int p4), some (.int v53), none, none]) C dX8_act_265 (by decide) rfl ?_
                  refine r_goto (pc := 267) (tgt := 462) C dX8_act_267 (by decide) ?_
                  refine r_aload_n (pc := 462) C dX8_act_462 rfl ?_
                  refine r_get (pc := 463) C K_X8 45 12 (by decide) rfl (by decide) lk_f_X8_81 rfl dX8_act_463 ?_
                  refine r_if_ne (pc := 466) (tgt := 482) C dX8_act_466 (by decide) (fun _ => ?_) (fun _ => ?_)
                  · refine r_iload (pc := 469) C dX8_act_469 rfl ?_
                    refine r_if_lt (pc := 471) (tgt := 482) C dX8_act_471 (by decide) (fun _ => ?_) (fun _ => ?_)
                    · exact r_vret (pc := 482) C dX8_act_482
                    · refine r_aload_n (pc := 474) C dX8_act_474 rfl ?_
                      refine r_iload (pc := 475) C dX8_act_475 rfl ?_
                      refine r_iload (pc := 477) C dX8_act_477 rfl ?_
                      refine r_callV (pc := 479) C 45 (c_X8_set (zO.ap C) _ _ _) lk_c_X8_set lk_i_X8 lk_m_X8_166 lk_n_X8_set lk_v_X8_set (n := 2) (by decide +kernel) rfl ⟨rfl, rfl⟩ (by decide) (by decide) rfl rfl rfl (Nat.le_of_ble_eq_true rfl) ⟨Nat.zero_le _, Nat.zero_le _⟩ dX8_act_479 (fun _ s94 _ => ?_)
                      exact r_vret (pc := 482) C dX8_act_482
                  · exact r_vret (pc := 482) C dX8_act_482
                · refine r_split (fun h9 => ?_) (fun h9 => ?_)
                  · refine r_tabIn (pc := 4) (v := 18) (tgt := 270) C dX8_act_4 h9 (by decide) (by decide) rfl (by decide) ?_
                    refine r_aload_n (pc := 270) C dX8_act_270 rfl ?_
                    refine r_iload_n (pc := 271) C dX8_act_271 rfl ?_
                    refine r_iconst (pc := 272) (v := 2) C dX8_act_272 (by decide) ?_
                    refine r_iload_n (pc := 273) C dX8_act_273 rfl ?_
                    refine r_callS (pc := 274) C (c_X8_signed (zO.ap C) _ _) lk_c_X8_signed lk_i_X8 lk_m_X8_99 lk_s_X8_signed (n := 1) (by decide +kernel) rfl ⟨rfl, rfl⟩ (by decide) (Nat.le_of_ble_eq_true rfl) ⟨Nat.zero_le _, Nat.zero_le _⟩ dX8_act_274 (fun v54 s95 _ => ?_)
                    refine r_imul (pc := 277) C dX8_act_277 ?_
                    refine r_iadd (pc := 278) C dX8_act_278 ?_
                    refine r_iload (pc := 279) C dX8_act_279 rfl ?_
                    refine r_iconst (pc := 281) (v := 1) C dX8_act_281 (by decide) ?_
                    refine r_iconst (pc := 282) (v := 0) C dX8_act_282 (by decide) ?_
                    refine r_callV (pc := 283) C 45 (c_X8_write (zO.ap C) _ _ _ _ _) lk_c_X8_write lk_i_X8 lk_m_X8_95 lk_n_X8_write lk_v_X8_write (n := 4) (by decide +kernel) rfl ⟨rfl, rfl⟩ (by decide) (by decide) rfl rfl rfl (Nat.le_of_ble_eq_true rfl) ⟨Nat.zero_le _, Nat.zero_le _⟩ dX8_act_283 (fun _ s96 _ => ?_)
                    exact r_vret (pc := 286) C dX8_act_286
                  · refine r_split (fun h10 => ?_) (fun h10 => ?_)
                    · refine r_tabIn (pc := 4) (v := 19) (tgt := 287) C dX8_act_4 h10 (by decide) (by decide) rfl (by decide) ?_
                      refine r_aload_n (pc := 287) C dX8_act_287 rfl ?_
                      refine r_iload_n (pc := 288) C dX8_act_288 rfl ?_
                      refine r_iload_n (pc := 289) C dX8_act_289 rfl ?_
                      refine r_callS (pc := 290) C (c_X8_signed (zO.ap C) _ _) lk_c_X8_signed lk_i_X8 lk_m_X8_99 lk_s_X8_signed (n := 1) (by decide +kernel) rfl ⟨rfl, rfl⟩ (by decide) (Nat.le_of_ble_eq_true rfl) ⟨Nat.zero_le _, Nat.zero_le _⟩ dX8_act_290 (fun v55 s97 _ => ?_)
                      refine r_iadd (pc := 293) C dX8_act_293 ?_
                      refine r_iload (pc := 294) C dX8_act_294 rfl ?_
                      refine r_iconst (pc := 296) (v := 0) C dX8_act_296 (by decide) ?_
                      refine r_iconst (pc := 297) (v := 0) C dX8_act_297 (by decide) ?_
                      refine r_callV (pc := 298) C 45 (c_X8_write (zO.ap C) _ _ _ _ _) lk_c_X8_write lk_i_X8 lk_m_X8_95 lk_n_X8_write lk_v_X8_write (n := 4) (by decide +kernel) rfl ⟨rfl, rfl⟩ (by decide) (by decide) rfl rfl rfl (Nat.le_of_ble_eq_true rfl) ⟨Nat.zero_le _, Nat.zero_le _⟩ dX8_act_298 (fun _ s98 _ => ?_)
                      exact r_vret (pc := 301) C dX8_act_301
                    · refine r_split (fun h11 => ?_) (fun h11 => ?_)
                      · refine r_tabIn (pc := 4) (v := 20) (tgt := 302) C dX8_act_4 h11 (by decide) (by decide) rfl (by decide) ?_
                        refine r_aload_n (pc := 302) C dX8_act_302 rfl ?_
                        refine r_iload_n (pc := 303) C dX8_act_303 rfl ?_
                        refine r_iload_n (pc := 304) C dX8_act_304 rfl ?_
                        refine r_iload (pc := 305) C dX8_act_305 rfl ?_
                        refine r_iload (pc := 307) C dX8_act_307 rfl ?_
                        refine r_callV (pc := 309) C 45 (c_X8_enter (zO.ap C) _ _ _ _ _) lk_c_X8_enter lk_i_X8 lk_m_X8_191 lk_n_X8_enter lk_v_X8_enter (n := 4) (by decide +kernel) rfl ⟨rfl, rfl⟩ (by decide) (by decide) rfl rfl rfl (Nat.le_of_ble_eq_true rfl) ⟨Nat.zero_le _, Nat.zero_le _⟩ dX8_act_309 (fun _ s99 _ => ?_)
                        exact r_vret (pc := 312) C dX8_act_312
                      · refine r_split (fun h12 => ?_) (fun h12 => ?_)
                        · refine r_tabIn (pc := 4) (v := 21) (tgt := 313) C dX8_act_4 h12 (by decide) (by decide) rfl (by decide) ?_
                          refine r_aload_n (pc := 313) C dX8_act_313 rfl ?_
                          refine r_iload_n (pc := 314) C dX8_act_314 rfl ?_
                          refine r_callV (pc := 315) C 45 (c_X8_back (zO.ap C) _ _) lk_c_X8_back lk_i_X8 lk_m_X8_195 lk_n_X8_back lk_v_X8_back (n := 1) (by decide +kernel) rfl ⟨rfl, rfl⟩ (by decide) (by decide) rfl rfl rfl (Nat.le_of_ble_eq_true rfl) ⟨Nat.zero_le _, Nat.zero_le _⟩ dX8_act_315 (fun _ s100 _ => ?_)
                          exact r_vret (pc := 318) C dX8_act_318
                        · refine r_split (fun h13 => ?_) (fun h13 => ?_)
                          · refine r_tabIn (pc := 4) (v := 22) (tgt := 319) C dX8_act_4 h13 (by decide) (by decide) rfl (by decide) ?_
                            refine r_aload_n (pc := 319) C dX8_act_319 rfl ?_
                            refine r_iload_n (pc := 320) C dX8_act_320 rfl ?_
                            refine r_callV (pc := 321) C 45 (c_X8_push (zO.ap C) _ _) lk_c_X8_push lk_i_X8 lk_m_X8_159 lk_n_X8_push lk_v_X8_push (n := 1) (by decide +kernel) rfl ⟨rfl, rfl⟩ (by decide) (by decide) rfl rfl rfl (Nat.le_of_ble_eq_true rfl) ⟨Nat.zero_le _, Nat.zero_le _⟩ dX8_act_321 (fun _ s101 _ => ?_)
                            exact r_vret (pc := 324) C dX8_act_324
                          · refine r_split (fun h14 => ?_) (fun h14 => ?_)
                            · refine r_tabIn (pc := 4) (v := 23) (tgt := 325) C dX8_act_4 h14 (by decide) (by decide) rfl (by decide) ?_
                              refine r_aload_n (pc := 325) C dX8_act_325 rfl ?_
                              refine r_callV (pc := 326) C 45 (c_X8_pop (zO.ap C)  _) lk_c_X8_pop lk_i_X8 lk_m_X8_152 lk_n_X8_pop lk_v_X8_pop (n := 0) (by decide +kernel) rfl ⟨rfl, rfl⟩ (by decide) (by decide) rfl rfl rfl (Nat.le_of_ble_eq_true rfl) ⟨Nat.zero_le _, Nat.zero_le _⟩ dX8_act_326 (fun v56 s102 _ => ?_)
                              refine r_istore (pc := 329) (lv' := [some (.ref (zad E 45)), some (.int p0), some (.int p1), some (.int p2), some (.int p3), some (.int p4), some (.int (-1 : Int32)), none, some (.int v56)]) C dX8_act_329 (by decide) rfl ?_
                              refine r_aload_n (pc := 331) C dX8_act_331 rfl ?_
                              refine r_get (pc := 332) C K_X8 45 12 (by decide) rfl (by decide) lk_f_X8_81 rfl dX8_act_332 ?_
                              refine r_if_ne (pc := 335) (tgt := 349) C dX8_act_335 (by decide) (fun _ => ?_) (fun _ => ?_)
                              · refine r_aload_n (pc := 338) C dX8_act_338 rfl ?_
                                refine r_iload_n (pc := 339) C dX8_act_339 rfl ?_
                                refine r_sipush (pc := 340) (v := 255) C dX8_act_340 (by decide) ?_
                                refine r_iand (pc := 343) C dX8_act_343 ?_
                                refine r_iload (pc := 344) C dX8_act_344 rfl ?_
                                refine r_callV (pc := 346) C 45 (c_X8_set (zO.ap C) _ _ _) lk_c_X8_set lk_i_X8 lk_m_X8_166 lk_n_X8_set lk_v_X8_set (n := 2) (by decide +kernel) rfl ⟨rfl, rfl⟩ (by decide) (by decide) rfl rfl rfl (Nat.le_of_ble_eq_true rfl) ⟨Nat.zero_le _, Nat.zero_le _⟩ dX8_act_346 (fun _ s103 _ => ?_)
                                exact r_vret (pc := 349) C dX8_act_349
                              · exact r_vret (pc := 349) C dX8_act_349
                            · refine r_split (fun h15 => ?_) (fun h15 => ?_)
                              · refine r_tabIn (pc := 4) (v := 24) (tgt := 350) C dX8_act_4 h15 (by decide) (by decide) rfl (by decide) ?_
                                refine r_aload_n (pc := 350) C dX8_act_350 rfl ?_
                                refine r_callV (pc := 351) C 45 (c_X8_top (zO.ap C)  _) lk_c_X8_top lk_i_X8 lk_m_X8_148 lk_n_X8_top lk_v_X8_top (n := 0) (by decide +kernel) rfl ⟨rfl, rfl⟩ (by decide) (by decide) rfl rfl rfl (Nat.le_of_ble_eq_true rfl) ⟨Nat.zero_le _, Nat.zero_le _⟩ dX8_act_351 (fun v57 s104 _ => ?_)
                                refine r_istore (pc := 354) (lv' := [some (.ref (zad E 45)), some (.int p0), some (.int p1), some (.int p2), some (.int p3), some (.int p4), some (.int v57), none, none]) C dX8_act_354 (by decide) rfl ?_
                                refine r_goto (pc := 356) (tgt := 462) C dX8_act_356 (by decide) ?_
                                refine r_aload_n (pc := 462) C dX8_act_462 rfl ?_
                                refine r_get (pc := 463) C K_X8 45 12 (by decide) rfl (by decide) lk_f_X8_81 rfl dX8_act_463 ?_
                                refine r_if_ne (pc := 466) (tgt := 482) C dX8_act_466 (by decide) (fun _ => ?_) (fun _ => ?_)
                                · refine r_iload (pc := 469) C dX8_act_469 rfl ?_
                                  refine r_if_lt (pc := 471) (tgt := 482) C dX8_act_471 (by decide) (fun _ => ?_) (fun _ => ?_)
                                  · exact r_vret (pc := 482) C dX8_act_482
                                  · refine r_aload_n (pc := 474) C dX8_act_474 rfl ?_
                                    refine r_iload (pc := 475) C dX8_act_475 rfl ?_
                                    refine r_iload (pc := 477) C dX8_act_477 rfl ?_
                                    refine r_callV (pc := 479) C 45 (c_X8_set (zO.ap C) _ _ _) lk_c_X8_set lk_i_X8 lk_m_X8_166 lk_n_X8_set lk_v_X8_set (n := 2) (by decide +kernel) rfl ⟨rfl, rfl⟩ (by decide) (by decide) rfl rfl rfl (Nat.le_of_ble_eq_true rfl) ⟨Nat.zero_le _, Nat.zero_le _⟩ dX8_act_479 (fun _ s105 _ => ?_)
                                    exact r_vret (pc := 482) C dX8_act_482
                                · exact r_vret (pc := 482) C dX8_act_482
                              · refine r_split (fun h16 => ?_) (fun h16 => ?_)
                                · refine r_tabIn (pc := 4) (v := 25) (tgt := 359) C dX8_act_4 h16 (by decide) (by decide) rfl (by decide) ?_
                                  refine r_aload_n (pc := 359) C dX8_act_359 rfl ?_
                                  refine r_iload_n (pc := 360) C dX8_act_360 rfl ?_
                                  refine r_iload_n (pc := 361) C dX8_act_361 rfl ?_
                                  refine r_callV (pc := 362) C 45 (c_X8_throwTo (zO.ap C) _ _ _) lk_c_X8_throwTo lk_i_X8 lk_m_X8_198 lk_n_X8_throwTo lk_v_X8_throwTo (n := 2) (by decide +kernel) rfl ⟨rfl, rfl⟩ (by decide) (by decide) rfl rfl rfl (Nat.le_of_ble_eq_true rfl) ⟨Nat.zero_le _, Nat.zero_le _⟩ dX8_act_362 (fun _ s106 _ => ?_)
                                  exact r_vret (pc := 365) C dX8_act_365
                                · refine r_split (fun h17 => ?_) (fun h17 => ?_)
                                  · refine r_tabIn (pc := 4) (v := 26) (tgt := 366) C dX8_act_4 h17 (by decide) (by decide) rfl (by decide) ?_
                                    refine r_aload_n (pc := 366) C dX8_act_366 rfl ?_
                                    refine r_iload_n (pc := 367) C dX8_act_367 rfl ?_
                                    refine r_iload_n (pc := 368) C dX8_act_368 rfl ?_
                                    refine r_iload (pc := 369) C dX8_act_369 rfl ?_
                                    refine r_callS (pc := 371) C (c_X8_signed (zO.ap C) _ _) lk_c_X8_signed lk_i_X8 lk_m_X8_99 lk_s_X8_signed (n := 1) (by decide +kernel) rfl ⟨rfl, rfl⟩ (by decide) (Nat.le_of_ble_eq_true rfl) ⟨Nat.zero_le _, Nat.zero_le _⟩ dX8_act_371 (fun v58 s107 _ => ?_)
                                    refine r_callV (pc := 374) C 45 (c_X8_copied (zO.ap C) _ _ _ _) lk_c_X8_copied lk_i_X8 lk_m_X8_111 lk_n_X8_copied lk_v_X8_copied (n := 3) (by decide +kernel) rfl ⟨rfl, rfl⟩ (by decide) (by decide) rfl rfl rfl (Nat.le_of_ble_eq_true rfl) ⟨Nat.zero_le _, Nat.zero_le _⟩ dX8_act_374 (fun _ s108 _ => ?_)
                                    exact r_vret (pc := 377) C dX8_act_377
                                  · refine r_split (fun h18 => ?_) (fun h18 => ?_)
                                    · refine r_tabIn (pc := 4) (v := 27) (tgt := 378) C dX8_act_4 h18 (by decide) (by decide) rfl (by decide) ?_
                                      refine r_aload_n (pc := 378) C dX8_act_378 rfl ?_
                                      refine r_iload_n (pc := 379) C dX8_act_379 rfl ?_
                                      refine r_iload_n (pc := 380) C dX8_act_380 rfl ?_
                                      refine r_iload (pc := 381) C dX8_act_381 rfl ?_
                                      refine r_callS (pc := 383) C (c_X8_signed (zO.ap C) _ _) lk_c_X8_signed lk_i_X8 lk_m_X8_99 lk_s_X8_signed (n := 1) (by decide +kernel) rfl ⟨rfl, rfl⟩ (by decide) (Nat.le_of_ble_eq_true rfl) ⟨Nat.zero_le _, Nat.zero_le _⟩ dX8_act_383 (fun v59 s109 _ => ?_)
                                      refine r_aload_n (pc := 386) C dX8_act_386 rfl ?_
                                      refine r_get (pc := 387) C K_X8 45 5 (by decide) rfl (by decide) lk_f_X8_13 rfl dX8_act_387 ?_
                                      refine r_callV (pc := 390) C 45 (c_X8_looked (zO.ap C) _ _ _ _ _) lk_c_X8_looked lk_i_X8 lk_m_X8_115 lk_n_X8_looked lk_v_X8_looked (n := 4) (by decide +kernel) rfl ⟨rfl, rfl⟩ (by decide) (by decide) rfl rfl rfl (Nat.le_of_ble_eq_true rfl) ⟨Nat.zero_le _, Nat.zero_le _⟩ dX8_act_390 (fun v60 s110 _ => ?_)
                                      refine r_istore (pc := 393) (lv' := [some (.ref (zad E 45)), some (.int p0), some (.int p1), some (.int p2), some (.int p3), some (.int p4), some (.int v60), none, none]) C dX8_act_393 (by decide) rfl ?_
                                      refine r_goto (pc := 395) (tgt := 462) C dX8_act_395 (by decide) ?_
                                      refine r_aload_n (pc := 462) C dX8_act_462 rfl ?_
                                      refine r_get (pc := 463) C K_X8 45 12 (by decide) rfl (by decide) lk_f_X8_81 rfl dX8_act_463 ?_
                                      refine r_if_ne (pc := 466) (tgt := 482) C dX8_act_466 (by decide) (fun _ => ?_) (fun _ => ?_)
                                      · refine r_iload (pc := 469) C dX8_act_469 rfl ?_
                                        refine r_if_lt (pc := 471) (tgt := 482) C dX8_act_471 (by decide) (fun _ => ?_) (fun _ => ?_)
                                        · exact r_vret (pc := 482) C dX8_act_482
                                        · refine r_aload_n (pc := 474) C dX8_act_474 rfl ?_
                                          refine r_iload (pc := 475) C dX8_act_475 rfl ?_
                                          refine r_iload (pc := 477) C dX8_act_477 rfl ?_
                                          refine r_callV (pc := 479) C 45 (c_X8_set (zO.ap C) _ _ _) lk_c_X8_set lk_i_X8 lk_m_X8_166 lk_n_X8_set lk_v_X8_set (n := 2) (by decide +kernel) rfl ⟨rfl, rfl⟩ (by decide) (by decide) rfl rfl rfl (Nat.le_of_ble_eq_true rfl) ⟨Nat.zero_le _, Nat.zero_le _⟩ dX8_act_479 (fun _ s111 _ => ?_)
                                          exact r_vret (pc := 482) C dX8_act_482
                                      · exact r_vret (pc := 482) C dX8_act_482
                                    · refine r_split (fun h19 => ?_) (fun h19 => ?_)
                                      · refine r_tabIn (pc := 4) (v := 28) (tgt := 398) C dX8_act_4 h19 (by decide) (by decide) rfl (by decide) ?_
                                        refine r_aload_n (pc := 398) C dX8_act_398 rfl ?_
                                        refine r_iload_n (pc := 399) C dX8_act_399 rfl ?_
                                        refine r_callS (pc := 400) C (c_X8_signed (zO.ap C) _ _) lk_c_X8_signed lk_i_X8 lk_m_X8_99 lk_s_X8_signed (n := 1) (by decide +kernel) rfl ⟨rfl, rfl⟩ (by decide) (Nat.le_of_ble_eq_true rfl) ⟨Nat.zero_le _, Nat.zero_le _⟩ dX8_act_400 (fun v61 s112 _ => ?_)
                                        refine r_callV (pc := 403) C 45 (c_X8_drawn (zO.ap C) _ _) lk_c_X8_drawn lk_i_X8 lk_m_X8_133 lk_n_X8_drawn lk_v_X8_drawn (n := 1) (by decide +kernel) rfl ⟨rfl, rfl⟩ (by decide) (by decide) rfl rfl rfl (Nat.le_of_ble_eq_true rfl) ⟨Nat.zero_le _, Nat.zero_le _⟩ dX8_act_403 (fun v62 s113 _ => ?_)
                                        refine r_istore (pc := 406) (lv' := [some (.ref (zad E 45)), some (.int p0), some (.int p1), some (.int p2), some (.int p3), some (.int p4), some (.int v62), none, none]) C dX8_act_406 (by decide) rfl ?_
                                        refine r_goto (pc := 408) (tgt := 462) C dX8_act_408 (by decide) ?_
                                        refine r_aload_n (pc := 462) C dX8_act_462 rfl ?_
                                        refine r_get (pc := 463) C K_X8 45 12 (by decide) rfl (by decide) lk_f_X8_81 rfl dX8_act_463 ?_
                                        refine r_if_ne (pc := 466) (tgt := 482) C dX8_act_466 (by decide) (fun _ => ?_) (fun _ => ?_)
                                        · refine r_iload (pc := 469) C dX8_act_469 rfl ?_
                                          refine r_if_lt (pc := 471) (tgt := 482) C dX8_act_471 (by decide) (fun _ => ?_) (fun _ => ?_)
                                          · exact r_vret (pc := 482) C dX8_act_482
                                          · refine r_aload_n (pc := 474) C dX8_act_474 rfl ?_
                                            refine r_iload (pc := 475) C dX8_act_475 rfl ?_
                                            refine r_iload (pc := 477) C dX8_act_477 rfl ?_
                                            refine r_callV (pc := 479) C 45 (c_X8_set (zO.ap C) _ _ _) lk_c_X8_set lk_i_X8 lk_m_X8_166 lk_n_X8_set lk_v_X8_set (n := 2) (by decide +kernel) rfl ⟨rfl, rfl⟩ (by decide) (by decide) rfl rfl rfl (Nat.le_of_ble_eq_true rfl) ⟨Nat.zero_le _, Nat.zero_le _⟩ dX8_act_479 (fun _ s114 _ => ?_)
                                            exact r_vret (pc := 482) C dX8_act_482
                                        · exact r_vret (pc := 482) C dX8_act_482
                                      · refine r_split (fun h20 => ?_) (fun h20 => ?_)
                                        · refine r_tabIn (pc := 4) (v := 29) (tgt := 411) C dX8_act_4 h20 (by decide) (by decide) rfl (by decide) ?_
                                          refine r_aload_n (pc := 411) C dX8_act_411 rfl ?_
                                          refine r_iload_n (pc := 412) C dX8_act_412 rfl ?_
                                          refine r_callS (pc := 413) C (c_X8_signed (zO.ap C) _ _) lk_c_X8_signed lk_i_X8 lk_m_X8_99 lk_s_X8_signed (n := 1) (by decide +kernel) rfl ⟨rfl, rfl⟩ (by decide) (Nat.le_of_ble_eq_true rfl) ⟨Nat.zero_le _, Nat.zero_le _⟩ dX8_act_413 (fun v63 s115 _ => ?_)
                                          refine r_callV (pc := 416) C 45 (c_X8_printNumber (zO.ap C) _ _) lk_c_X8_printNumber lk_i_X8 lk_m_X8_201 lk_n_X8_printNumber lk_v_X8_printNumber (n := 1) (by decide +kernel) rfl ⟨rfl, rfl⟩ (by decide) (by decide) rfl rfl rfl (Nat.le_of_ble_eq_true rfl) ⟨Nat.zero_le _, Nat.zero_le _⟩ dX8_act_416 (fun _ s116 _ => ?_)
                                          exact r_vret (pc := 419) C dX8_act_419
                                        · refine r_split (fun h21 => ?_) (fun h21 => ?_)
                                          · refine r_tabIn (pc := 4) (v := 30) (tgt := 420) C dX8_act_4 h21 (by decide) (by decide) rfl (by decide) ?_
                                            refine r_aload_n (pc := 420) C dX8_act_420 rfl ?_
                                            refine r_iload_n (pc := 421) C dX8_act_421 rfl ?_
                                            refine r_callV (pc := 422) C 45 (c_X8_print (zO.ap C) _ _) lk_c_X8_print lk_i_X8 lk_m_X8_173 lk_n_X8_print lk_v_X8_print (n := 1) (by decide +kernel) rfl ⟨rfl, rfl⟩ (by decide) (by decide) rfl rfl rfl (Nat.le_of_ble_eq_true rfl) ⟨Nat.zero_le _, Nat.zero_le _⟩ dX8_act_422 (fun _ s117 _ => ?_)
                                            exact r_vret (pc := 425) C dX8_act_425
                                          · refine r_split (fun h22 => ?_) (fun h22 => ?_)
                                            · refine r_tabIn (pc := 4) (v := 31) (tgt := 426) C dX8_act_4 h22 (by decide) (by decide) rfl (by decide) ?_
                                              refine r_aload_n (pc := 426) C dX8_act_426 rfl ?_
                                              refine r_iload_n (pc := 427) C dX8_act_427 rfl ?_
                                              refine r_iload_n (pc := 428) C dX8_act_428 rfl ?_
                                              refine r_callS (pc := 429) C (c_X8_signed (zO.ap C) _ _) lk_c_X8_signed lk_i_X8 lk_m_X8_99 lk_s_X8_signed (n := 1) (by decide +kernel) rfl ⟨rfl, rfl⟩ (by decide) (Nat.le_of_ble_eq_true rfl) ⟨Nat.zero_le _, Nat.zero_le _⟩ dX8_act_429 (fun v64 s118 _ => ?_)
                                              refine r_iload (pc := 432) C dX8_act_432 rfl ?_
                                              refine r_callS (pc := 434) C (c_X8_signed (zO.ap C) _ _) lk_c_X8_signed lk_i_X8 lk_m_X8_99 lk_s_X8_signed (n := 1) (by decide +kernel) rfl ⟨rfl, rfl⟩ (by decide) (Nat.le_of_ble_eq_true rfl) ⟨Nat.zero_le _, Nat.zero_le _⟩ dX8_act_434 (fun v65 s119 _ => ?_)
                                              refine r_callV (pc := 437) C 45 (c_X8_printRows (zO.ap C) _ _ _ _) lk_c_X8_printRows lk_i_X8 lk_m_X8_204 lk_n_X8_printRows lk_v_X8_printRows (n := 3) (by decide +kernel) rfl ⟨rfl, rfl⟩ (by decide) (by decide) rfl rfl rfl (Nat.le_of_ble_eq_true rfl) ⟨Nat.zero_le _, Nat.zero_le _⟩ dX8_act_437 (fun _ s120 _ => ?_)
                                              exact r_vret (pc := 440) C dX8_act_440
                                            · refine r_split (fun h23 => ?_) (fun h23 => ?_)
                                              · refine r_tabIn (pc := 4) (v := 32) (tgt := 441) C dX8_act_4 h23 (by decide) (by decide) rfl (by decide) ?_
                                                refine r_aload_n (pc := 441) C dX8_act_441 rfl ?_
                                                refine r_iconst (pc := 442) (v := 1) C dX8_act_442 (by decide) ?_
                                                refine r_put (pc := 443) C K_X8 45 40 (by decide) rfl (by decide) lk_f_X8_185 rfl rfl (Nat.le_of_ble_eq_true rfl) rfl dX8_act_443 (fun s121 _ => ?_)
                                                exact r_vret (pc := 446) C dX8_act_446
                                              · refine r_tabOut (pc := 4) (tgt := 447) C dX8_act_4 (by have a0 := lv_neT (a := 10) h1 rfl; have a1 := lv_neT (a := 11) h2 rfl; have a2 := lv_neT (a := 12) h3 rfl; have a3 := lv_neT (a := 13) h4 rfl; have a4 := lv_neT (a := 14) h5 rfl; have a5 := lv_neT (a := 15) h6 rfl; have a6 := lv_neT (a := 16) h7 rfl; have a7 := lv_neT (a := 17) h8 rfl; have a8 := lv_neT (a := 18) h9 rfl; have a9 := lv_neT (a := 19) h10 rfl; have a10 := lv_neT (a := 20) h11 rfl; have a11 := lv_neT (a := 21) h12 rfl; have a12 := lv_neT (a := 22) h13 rfl; have a13 := lv_neT (a := 23) h14 rfl; have a14 := lv_neT (a := 24) h15 rfl; have a15 := lv_neT (a := 25) h16 rfl; have a16 := lv_neT (a := 26) h17 rfl; have a17 := lv_neT (a := 27) h18 rfl; have a18 := lv_neT (a := 28) h19 rfl; have a19 := lv_neT (a := 29) h20 rfl; have a20 := lv_neT (a := 30) h21 rfl; have a21 := lv_neT (a := 31) h22 rfl; have a22 := lv_neT (a := 32) h23 rfl; omega) (by decide) ?_
                                                refine r_aload_n (pc := 447) C dX8_act_447 rfl ?_
                                                refine r_iload_n (pc := 448) C dX8_act_448 rfl ?_
                                                refine r_iload_n (pc := 449) C dX8_act_449 rfl ?_
                                                refine r_callS (pc := 450) C (c_X8_signed (zO.ap C) _ _) lk_c_X8_signed lk_i_X8 lk_m_X8_99 lk_s_X8_signed (n := 1) (by decide +kernel) rfl ⟨rfl, rfl⟩ (by decide) (Nat.le_of_ble_eq_true rfl) ⟨Nat.zero_le _, Nat.zero_le _⟩ dX8_act_450 (fun v66 s122 _ => ?_)
                                                refine r_iload_n (pc := 453) C dX8_act_453 rfl ?_
                                                refine r_callS (pc := 454) C (c_X8_signed (zO.ap C) _ _) lk_c_X8_signed lk_i_X8 lk_m_X8_99 lk_s_X8_signed (n := 1) (by decide +kernel) rfl ⟨rfl, rfl⟩ (by decide) (Nat.le_of_ble_eq_true rfl) ⟨Nat.zero_le _, Nat.zero_le _⟩ dX8_act_454 (fun v67 s123 _ => ?_)
                                                refine r_callV (pc := 457) C 45 (c_X8_worked (zO.ap C) _ _ _ _) lk_c_X8_worked lk_i_X8 lk_m_X8_107 lk_n_X8_worked lk_v_X8_worked (n := 3) (by decide +kernel) rfl ⟨rfl, rfl⟩ (by decide) (by decide) rfl rfl rfl (Nat.le_of_ble_eq_true rfl) ⟨Nat.zero_le _, Nat.zero_le _⟩ dX8_act_457 (fun v68 s124 _ => ?_)
                                                refine r_istore (pc := 460) (lv' := [some (.ref (zad E 45)), some (.int p0), some (.int p1), some (.int p2), some (.int p3), some (.int p4), some (.int v68), none, none]) C dX8_act_460 (by decide) rfl ?_
                                                refine r_aload_n (pc := 462) C dX8_act_462 rfl ?_
                                                refine r_get (pc := 463) C K_X8 45 12 (by decide) rfl (by decide) lk_f_X8_81 rfl dX8_act_463 ?_
                                                refine r_if_ne (pc := 466) (tgt := 482) C dX8_act_466 (by decide) (fun _ => ?_) (fun _ => ?_)
                                                · refine r_iload (pc := 469) C dX8_act_469 rfl ?_
                                                  refine r_if_lt (pc := 471) (tgt := 482) C dX8_act_471 (by decide) (fun _ => ?_) (fun _ => ?_)
                                                  · exact r_vret (pc := 482) C dX8_act_482
                                                  · refine r_aload_n (pc := 474) C dX8_act_474 rfl ?_
                                                    refine r_iload (pc := 475) C dX8_act_475 rfl ?_
                                                    refine r_iload (pc := 477) C dX8_act_477 rfl ?_
                                                    refine r_callV (pc := 479) C 45 (c_X8_set (zO.ap C) _ _ _) lk_c_X8_set lk_i_X8 lk_m_X8_166 lk_n_X8_set lk_v_X8_set (n := 2) (by decide +kernel) rfl ⟨rfl, rfl⟩ (by decide) (by decide) rfl rfl rfl (Nat.le_of_ble_eq_true rfl) ⟨Nat.zero_le _, Nat.zero_le _⟩ dX8_act_479 (fun _ s125 _ => ?_)
                                                    exact r_vret (pc := 482) C dX8_act_482
                                                · exact r_vret (pc := 482) C dX8_act_482
theorem c_X8_act {E : zG} (hAp : zAp E) (p0 : Int32) (p1 : Int32) (p2 : Int32) (p3 : Int32) (p4 : Int32) (σ : zS) : zM E yX8_act cX8_act 9 none rm_X8_act (fun _ : Unit => none) [.ref (zad E 45), .int p0, .int p1, .int p2, .int p3, .int p4] (f_X8_act p0 p1 p2 p3 p4 σ) σ :=
  zM_of (nn := 3) hAp (by decide) (Nat.le_of_ble_eq_true rfl) rfl rfl (fun Γ C => g_X8_act C p0 p1 p2 p3 p4 σ)
set_option maxHeartbeats 4000000 in
set_option maxRecDepth 100000 in
theorem g_X8_step_L79 {E : zG} {Γ : zX} (C : zO E Γ RX8 cX8_step 9 none) : ∀ (n : Nat) (x1 : Int32) (x2 : Int32) (x3 : Int32) (x4 : Int32) (x5 : Int32) (x6 : Int32) (σ : zS), zJ E Γ rm_X8_step 9 (fun _ : Unit => none) (f_X8_step_L79 n x1 x2 x3 x4 x5 x6 σ) σ 79 [some (.ref (zad E 45)), some (.int x1), some (.int x2), some (.int x3), some (.int x4), some (.int x5), some (.int x6), none, none] [] := by
  intro n
  induction n with
  | zero => intro x1 x2 x3 x4 x5 x6 σ; rw [f_X8_step_L79]; exact r_none
  | succ n ih =>
    intro x1 x2 x3 x4 x5 x6 σ
    rw [f_X8_step_L79]
    refine r_iload (pc := 79) C dX8_step_79 rfl ?_
    refine r_iload (pc := 81) C dX8_step_81 rfl ?_
    refine r_icmp_ge (pc := 83) (tgt := 172) C dX8_step_83 (by decide) (fun _ => ?_) (fun _ => ?_)
    · refine r_aload_n (pc := 172) C dX8_step_172 rfl ?_
      refine r_get (pc := 173) C K_X8 45 12 (by decide) rfl (by decide) lk_f_X8_81 rfl dX8_step_173 ?_
      refine r_if_ne (pc := 176) (tgt := 199) C dX8_step_176 (by decide) (fun _ => ?_) (fun _ => ?_)
      · refine r_aload_n (pc := 179) C dX8_step_179 rfl ?_
        refine r_aload_n (pc := 180) C dX8_step_180 rfl ?_
        refine r_get (pc := 181) C K_X8 45 15 (by decide) rfl (by decide) lk_f_X8_26 rfl dX8_step_181 ?_
        refine r_iload_n (pc := 184) C dX8_step_184 rfl ?_
        refine r_iald (pc := 185) (t0 := 0) C 49 (by decide) rfl rfl dX8_step_185 ?_
        refine r_iload_n (pc := 186) C dX8_step_186 rfl ?_
        refine r_iload_n (pc := 187) C dX8_step_187 rfl ?_
        refine r_iload (pc := 188) C dX8_step_188 rfl ?_
        refine r_aload_n (pc := 190) C dX8_step_190 rfl ?_
        refine r_get (pc := 191) C K_X8 45 17 (by decide) rfl (by decide) lk_f_X8_32 rfl dX8_step_191 ?_
        refine r_iload_n (pc := 194) C dX8_step_194 rfl ?_
        refine r_iald (pc := 195) (t0 := 0) C 51 (by decide) rfl rfl dX8_step_195 ?_
        refine r_callV (pc := 196) C 45 (c_X8_act (zO.ap C) _ _ _ _ _ _) lk_c_X8_act lk_i_X8 lk_m_X8_216 lk_n_X8_act lk_v_X8_act (n := 5) (by decide +kernel) rfl ⟨rfl, rfl⟩ (by decide) (by decide) rfl rfl rfl (Nat.le_of_ble_eq_true rfl) ⟨Nat.zero_le _, Nat.zero_le _⟩ dX8_step_196 (fun _ s7 _ => ?_)
        exact r_vret (pc := 199) C dX8_step_199
      · exact r_vret (pc := 199) C dX8_step_199
    · refine r_aload_n (pc := 86) C dX8_step_86 rfl ?_
      refine r_get (pc := 87) C K_X8 45 12 (by decide) rfl (by decide) lk_f_X8_81 rfl dX8_step_87 ?_
      refine r_if_ne (pc := 90) (tgt := 172) C dX8_step_90 (by decide) (fun _ => ?_) (fun _ => ?_)
      · refine r_aload_n (pc := 93) C dX8_step_93 rfl ?_
        refine r_get (pc := 94) C K_X8 45 16 (by decide) rfl (by decide) lk_f_X8_29 rfl dX8_step_94 ?_
        refine r_iconst (pc := 97) (v := 3) C dX8_step_97 (by decide) ?_
        refine r_iload_n (pc := 98) C dX8_step_98 rfl ?_
        refine r_imul (pc := 99) C dX8_step_99 ?_
        refine r_iload (pc := 100) C dX8_step_100 rfl ?_
        refine r_iadd (pc := 102) C dX8_step_102 ?_
        refine r_iald (pc := 103) (t0 := 0) C 50 (by decide) rfl rfl dX8_step_103 ?_
        refine r_leti (fun v5 => ?_)
        refine r_istore (pc := 104) (lv' := [some (.ref (zad E 45)), some (.int x1), some (.int x2), some (.int x3), some (.int x4), some (.int x5), some (.int x6), some (.int v5), none]) C dX8_step_104 (by decide) rfl ?_
        refine r_iload (pc := 106) C dX8_step_106 rfl ?_
        refine r_if_lt (pc := 108) (tgt := 116) C dX8_step_108 (by decide) (fun _ => ?_) (fun _ => ?_)
        · refine r_aload_n (pc := 116) C dX8_step_116 rfl ?_
          refine r_iconst (pc := 117) (v := -1) C dX8_step_117 (by decide) ?_
          refine r_iload (pc := 118) C dX8_step_118 rfl ?_
          refine r_isub (pc := 120) C dX8_step_120 ?_
          refine r_callV (pc := 121) C 45 (c_X8_ask (zO.ap C) _ _) lk_c_X8_ask lk_i_X8 lk_m_X8_163 lk_n_X8_ask lk_v_X8_ask (n := 1) (by decide +kernel) rfl ⟨rfl, rfl⟩ (by decide) (by decide) rfl rfl rfl (Nat.le_of_ble_eq_true rfl) ⟨Nat.zero_le _, Nat.zero_le _⟩ dX8_step_121 (fun v6 s9 _ => ?_)
          refine r_istore (pc := 124) (lv' := [some (.ref (zad E 45)), some (.int x1), some (.int x2), some (.int x3), some (.int x4), some (.int x5), some (.int x6), some (.int v5), some (.int v6)]) C dX8_step_124 (by decide) rfl ?_
          refine r_iload (pc := 126) C dX8_step_126 rfl ?_
          refine r_if_ne (pc := 128) (tgt := 136) C dX8_step_128 (by decide) (fun _ => ?_) (fun _ => ?_)
          · refine r_iload (pc := 131) C dX8_step_131 rfl ?_
            refine r_goto (pc := 133) (tgt := 137) C dX8_step_133 (by decide) ?_
            refine r_istore_n (pc := 137) (lv' := [some (.ref (zad E 45)), some (.int x1), some (.int v6), some (.int x3), some (.int x4), some (.int x5), some (.int x6), some (.int v5), some (.int v6)]) C dX8_step_137 (by decide) rfl ?_
            refine r_iload (pc := 138) C dX8_step_138 rfl ?_
            refine r_iconst (pc := 140) (v := 1) C dX8_step_140 (by decide) ?_
            refine r_icmp_ne (pc := 141) (tgt := 149) C dX8_step_141 (by decide) (fun _ => ?_) (fun _ => ?_)
            · refine r_iload (pc := 144) C dX8_step_144 rfl ?_
              refine r_goto (pc := 146) (tgt := 150) C dX8_step_146 (by decide) ?_
              refine r_istore_n (pc := 150) (lv' := [some (.ref (zad E 45)), some (.int x1), some (.int v6), some (.int v6), some (.int x4), some (.int x5), some (.int x6), some (.int v5), some (.int v6)]) C dX8_step_150 (by decide) rfl ?_
              refine r_iload (pc := 151) C dX8_step_151 rfl ?_
              refine r_iconst (pc := 153) (v := 2) C dX8_step_153 (by decide) ?_
              refine r_icmp_ne (pc := 154) (tgt := 162) C dX8_step_154 (by decide) (fun _ => ?_) (fun _ => ?_)
              · refine r_iload (pc := 157) C dX8_step_157 rfl ?_
                refine r_goto (pc := 159) (tgt := 164) C dX8_step_159 (by decide) ?_
                refine r_istore (pc := 164) (lv' := [some (.ref (zad E 45)), some (.int x1), some (.int v6), some (.int v6), some (.int v6), some (.int x5), some (.int x6), some (.int v5), some (.int v6)]) C dX8_step_164 (by decide) rfl ?_
                refine r_iinc (pc := 166) (lv' := [some (.ref (zad E 45)), some (.int x1), some (.int v6), some (.int v6), some (.int v6), some (.int x5), some (.int (x6 + (1 : Int32))), some (.int v5), some (.int v6)]) C dX8_step_166 (by decide) rfl rfl rfl ?_
                refine r_goto (pc := 169) (tgt := 79) C dX8_step_169 (by decide) ?_
                refine r_mask [true, true, true, true, true, true, true, false, false] (lv' := [some (.ref (zad E 45)), some (.int x1), some (.int v6), some (.int v6), some (.int v6), some (.int x5), some (.int (x6 + (1 : Int32))), none, none]) rfl ?_
                exact ih _ _ _ _ _ _ _
              · refine r_iload (pc := 162) C dX8_step_162 rfl ?_
                refine r_istore (pc := 164) (lv' := [some (.ref (zad E 45)), some (.int x1), some (.int v6), some (.int v6), some (.int x4), some (.int x5), some (.int x6), some (.int v5), some (.int v6)]) C dX8_step_164 (by decide) rfl ?_
                refine r_iinc (pc := 166) (lv' := [some (.ref (zad E 45)), some (.int x1), some (.int v6), some (.int v6), some (.int x4), some (.int x5), some (.int (x6 + (1 : Int32))), some (.int v5), some (.int v6)]) C dX8_step_166 (by decide) rfl rfl rfl ?_
                refine r_goto (pc := 169) (tgt := 79) C dX8_step_169 (by decide) ?_
                refine r_mask [true, true, true, true, true, true, true, false, false] (lv' := [some (.ref (zad E 45)), some (.int x1), some (.int v6), some (.int v6), some (.int x4), some (.int x5), some (.int (x6 + (1 : Int32))), none, none]) rfl ?_
                exact ih _ _ _ _ _ _ _
            · refine r_iload_n (pc := 149) C dX8_step_149 rfl ?_
              refine r_istore_n (pc := 150) (lv' := [some (.ref (zad E 45)), some (.int x1), some (.int v6), some (.int x3), some (.int x4), some (.int x5), some (.int x6), some (.int v5), some (.int v6)]) C dX8_step_150 (by decide) rfl ?_
              refine r_iload (pc := 151) C dX8_step_151 rfl ?_
              refine r_iconst (pc := 153) (v := 2) C dX8_step_153 (by decide) ?_
              refine r_icmp_ne (pc := 154) (tgt := 162) C dX8_step_154 (by decide) (fun _ => ?_) (fun _ => ?_)
              · refine r_iload (pc := 157) C dX8_step_157 rfl ?_
                refine r_goto (pc := 159) (tgt := 164) C dX8_step_159 (by decide) ?_
                refine r_istore (pc := 164) (lv' := [some (.ref (zad E 45)), some (.int x1), some (.int v6), some (.int x3), some (.int v6), some (.int x5), some (.int x6), some (.int v5), some (.int v6)]) C dX8_step_164 (by decide) rfl ?_
                refine r_iinc (pc := 166) (lv' := [some (.ref (zad E 45)), some (.int x1), some (.int v6), some (.int x3), some (.int v6), some (.int x5), some (.int (x6 + (1 : Int32))), some (.int v5), some (.int v6)]) C dX8_step_166 (by decide) rfl rfl rfl ?_
                refine r_goto (pc := 169) (tgt := 79) C dX8_step_169 (by decide) ?_
                refine r_mask [true, true, true, true, true, true, true, false, false] (lv' := [some (.ref (zad E 45)), some (.int x1), some (.int v6), some (.int x3), some (.int v6), some (.int x5), some (.int (x6 + (1 : Int32))), none, none]) rfl ?_
                exact ih _ _ _ _ _ _ _
              · refine r_iload (pc := 162) C dX8_step_162 rfl ?_
                refine r_istore (pc := 164) (lv' := [some (.ref (zad E 45)), some (.int x1), some (.int v6), some (.int x3), some (.int x4), some (.int x5), some (.int x6), some (.int v5), some (.int v6)]) C dX8_step_164 (by decide) rfl ?_
                refine r_iinc (pc := 166) (lv' := [some (.ref (zad E 45)), some (.int x1), some (.int v6), some (.int x3), some (.int x4), some (.int x5), some (.int (x6 + (1 : Int32))), some (.int v5), some (.int v6)]) C dX8_step_166 (by decide) rfl rfl rfl ?_
                refine r_goto (pc := 169) (tgt := 79) C dX8_step_169 (by decide) ?_
                refine r_mask [true, true, true, true, true, true, true, false, false] (lv' := [some (.ref (zad E 45)), some (.int x1), some (.int v6), some (.int x3), some (.int x4), some (.int x5), some (.int (x6 + (1 : Int32))), none, none]) rfl ?_
                exact ih _ _ _ _ _ _ _
          · refine r_iload_n (pc := 136) C dX8_step_136 rfl ?_
            refine r_istore_n (pc := 137) (lv' := [some (.ref (zad E 45)), some (.int x1), some (.int x2), some (.int x3), some (.int x4), some (.int x5), some (.int x6), some (.int v5), some (.int v6)]) C dX8_step_137 (by decide) rfl ?_
            refine r_iload (pc := 138) C dX8_step_138 rfl ?_
            refine r_iconst (pc := 140) (v := 1) C dX8_step_140 (by decide) ?_
            refine r_icmp_ne (pc := 141) (tgt := 149) C dX8_step_141 (by decide) (fun _ => ?_) (fun _ => ?_)
            · refine r_iload (pc := 144) C dX8_step_144 rfl ?_
              refine r_goto (pc := 146) (tgt := 150) C dX8_step_146 (by decide) ?_
              refine r_istore_n (pc := 150) (lv' := [some (.ref (zad E 45)), some (.int x1), some (.int x2), some (.int v6), some (.int x4), some (.int x5), some (.int x6), some (.int v5), some (.int v6)]) C dX8_step_150 (by decide) rfl ?_
              refine r_iload (pc := 151) C dX8_step_151 rfl ?_
              refine r_iconst (pc := 153) (v := 2) C dX8_step_153 (by decide) ?_
              refine r_icmp_ne (pc := 154) (tgt := 162) C dX8_step_154 (by decide) (fun _ => ?_) (fun _ => ?_)
              · refine r_iload (pc := 157) C dX8_step_157 rfl ?_
                refine r_goto (pc := 159) (tgt := 164) C dX8_step_159 (by decide) ?_
                refine r_istore (pc := 164) (lv' := [some (.ref (zad E 45)), some (.int x1), some (.int x2), some (.int v6), some (.int v6), some (.int x5), some (.int x6), some (.int v5), some (.int v6)]) C dX8_step_164 (by decide) rfl ?_
                refine r_iinc (pc := 166) (lv' := [some (.ref (zad E 45)), some (.int x1), some (.int x2), some (.int v6), some (.int v6), some (.int x5), some (.int (x6 + (1 : Int32))), some (.int v5), some (.int v6)]) C dX8_step_166 (by decide) rfl rfl rfl ?_
                refine r_goto (pc := 169) (tgt := 79) C dX8_step_169 (by decide) ?_
                refine r_mask [true, true, true, true, true, true, true, false, false] (lv' := [some (.ref (zad E 45)), some (.int x1), some (.int x2), some (.int v6), some (.int v6), some (.int x5), some (.int (x6 + (1 : Int32))), none, none]) rfl ?_
                exact ih _ _ _ _ _ _ _
              · refine r_iload (pc := 162) C dX8_step_162 rfl ?_
                refine r_istore (pc := 164) (lv' := [some (.ref (zad E 45)), some (.int x1), some (.int x2), some (.int v6), some (.int x4), some (.int x5), some (.int x6), some (.int v5), some (.int v6)]) C dX8_step_164 (by decide) rfl ?_
                refine r_iinc (pc := 166) (lv' := [some (.ref (zad E 45)), some (.int x1), some (.int x2), some (.int v6), some (.int x4), some (.int x5), some (.int (x6 + (1 : Int32))), some (.int v5), some (.int v6)]) C dX8_step_166 (by decide) rfl rfl rfl ?_
                refine r_goto (pc := 169) (tgt := 79) C dX8_step_169 (by decide) ?_
                refine r_mask [true, true, true, true, true, true, true, false, false] (lv' := [some (.ref (zad E 45)), some (.int x1), some (.int x2), some (.int v6), some (.int x4), some (.int x5), some (.int (x6 + (1 : Int32))), none, none]) rfl ?_
                exact ih _ _ _ _ _ _ _
            · refine r_iload_n (pc := 149) C dX8_step_149 rfl ?_
              refine r_istore_n (pc := 150) (lv' := [some (.ref (zad E 45)), some (.int x1), some (.int x2), some (.int x3), some (.int x4), some (.int x5), some (.int x6), some (.int v5), some (.int v6)]) C dX8_step_150 (by decide) rfl ?_
              refine r_iload (pc := 151) C dX8_step_151 rfl ?_
              refine r_iconst (pc := 153) (v := 2) C dX8_step_153 (by decide) ?_
              refine r_icmp_ne (pc := 154) (tgt := 162) C dX8_step_154 (by decide) (fun _ => ?_) (fun _ => ?_)
              · refine r_iload (pc := 157) C dX8_step_157 rfl ?_
                refine r_goto (pc := 159) (tgt := 164) C dX8_step_159 (by decide) ?_
                refine r_istore (pc := 164) (lv' := [some (.ref (zad E 45)), some (.int x1), some (.int x2), some (.int x3), some (.int v6), some (.int x5), some (.int x6), some (.int v5), some (.int v6)]) C dX8_step_164 (by decide) rfl ?_
                refine r_iinc (pc := 166) (lv' := [some (.ref (zad E 45)), some (.int x1), some (.int x2), some (.int x3), some (.int v6), some (.int x5), some (.int (x6 + (1 : Int32))), some (.int v5), some (.int v6)]) C dX8_step_166 (by decide) rfl rfl rfl ?_
                refine r_goto (pc := 169) (tgt := 79) C dX8_step_169 (by decide) ?_
                refine r_mask [true, true, true, true, true, true, true, false, false] (lv' := [some (.ref (zad E 45)), some (.int x1), some (.int x2), some (.int x3), some (.int v6), some (.int x5), some (.int (x6 + (1 : Int32))), none, none]) rfl ?_
                exact ih _ _ _ _ _ _ _
              · refine r_iload (pc := 162) C dX8_step_162 rfl ?_
                refine r_istore (pc := 164) (lv' := [some (.ref (zad E 45)), some (.int x1), some (.int x2), some (.int x3), some (.int x4), some (.int x5), some (.int x6), some (.int v5), some (.int v6)]) C dX8_step_164 (by decide) rfl ?_
                refine r_iinc (pc := 166) (lv' := [some (.ref (zad E 45)), some (.int x1), some (.int x2), some (.int x3), some (.int x4), some (.int x5), some (.int (x6 + (1 : Int32))), some (.int v5), some (.int v6)]) C dX8_step_166 (by decide) rfl rfl rfl ?_
                refine r_goto (pc := 169) (tgt := 79) C dX8_step_169 (by decide) ?_
                refine r_mask [true, true, true, true, true, true, true, false, false] (lv' := [some (.ref (zad E 45)), some (.int x1), some (.int x2), some (.int x3), some (.int x4), some (.int x5), some (.int (x6 + (1 : Int32))), none, none]) rfl ?_
                exact ih _ _ _ _ _ _ _
        · refine r_iload (pc := 111) C dX8_step_111 rfl ?_
          refine r_goto (pc := 113) (tgt := 124) C dX8_step_113 (by decide) ?_
          refine r_istore (pc := 124) (lv' := [some (.ref (zad E 45)), some (.int x1), some (.int x2), some (.int x3), some (.int x4), some (.int x5), some (.int x6), some (.int v5), some (.int v5)]) C dX8_step_124 (by decide) rfl ?_
          refine r_iload (pc := 126) C dX8_step_126 rfl ?_
          refine r_if_ne (pc := 128) (tgt := 136) C dX8_step_128 (by decide) (fun _ => ?_) (fun _ => ?_)
          · refine r_iload (pc := 131) C dX8_step_131 rfl ?_
            refine r_goto (pc := 133) (tgt := 137) C dX8_step_133 (by decide) ?_
            refine r_istore_n (pc := 137) (lv' := [some (.ref (zad E 45)), some (.int x1), some (.int v5), some (.int x3), some (.int x4), some (.int x5), some (.int x6), some (.int v5), some (.int v5)]) C dX8_step_137 (by decide) rfl ?_
            refine r_iload (pc := 138) C dX8_step_138 rfl ?_
            refine r_iconst (pc := 140) (v := 1) C dX8_step_140 (by decide) ?_
            refine r_icmp_ne (pc := 141) (tgt := 149) C dX8_step_141 (by decide) (fun _ => ?_) (fun _ => ?_)
            · refine r_iload (pc := 144) C dX8_step_144 rfl ?_
              refine r_goto (pc := 146) (tgt := 150) C dX8_step_146 (by decide) ?_
              refine r_istore_n (pc := 150) (lv' := [some (.ref (zad E 45)), some (.int x1), some (.int v5), some (.int v5), some (.int x4), some (.int x5), some (.int x6), some (.int v5), some (.int v5)]) C dX8_step_150 (by decide) rfl ?_
              refine r_iload (pc := 151) C dX8_step_151 rfl ?_
              refine r_iconst (pc := 153) (v := 2) C dX8_step_153 (by decide) ?_
              refine r_icmp_ne (pc := 154) (tgt := 162) C dX8_step_154 (by decide) (fun _ => ?_) (fun _ => ?_)
              · refine r_iload (pc := 157) C dX8_step_157 rfl ?_
                refine r_goto (pc := 159) (tgt := 164) C dX8_step_159 (by decide) ?_
                refine r_istore (pc := 164) (lv' := [some (.ref (zad E 45)), some (.int x1), some (.int v5), some (.int v5), some (.int v5), some (.int x5), some (.int x6), some (.int v5), some (.int v5)]) C dX8_step_164 (by decide) rfl ?_
                refine r_iinc (pc := 166) (lv' := [some (.ref (zad E 45)), some (.int x1), some (.int v5), some (.int v5), some (.int v5), some (.int x5), some (.int (x6 + (1 : Int32))), some (.int v5), some (.int v5)]) C dX8_step_166 (by decide) rfl rfl rfl ?_
                refine r_goto (pc := 169) (tgt := 79) C dX8_step_169 (by decide) ?_
                refine r_mask [true, true, true, true, true, true, true, false, false] (lv' := [some (.ref (zad E 45)), some (.int x1), some (.int v5), some (.int v5), some (.int v5), some (.int x5), some (.int (x6 + (1 : Int32))), none, none]) rfl ?_
                exact ih _ _ _ _ _ _ _
              · refine r_iload (pc := 162) C dX8_step_162 rfl ?_
                refine r_istore (pc := 164) (lv' := [some (.ref (zad E 45)), some (.int x1), some (.int v5), some (.int v5), some (.int x4), some (.int x5), some (.int x6), some (.int v5), some (.int v5)]) C dX8_step_164 (by decide) rfl ?_
                refine r_iinc (pc := 166) (lv' := [some (.ref (zad E 45)), some (.int x1), some (.int v5), some (.int v5), some (.int x4), some (.int x5), some (.int (x6 + (1 : Int32))), some (.int v5), some (.int v5)]) C dX8_step_166 (by decide) rfl rfl rfl ?_
                refine r_goto (pc := 169) (tgt := 79) C dX8_step_169 (by decide) ?_
                refine r_mask [true, true, true, true, true, true, true, false, false] (lv' := [some (.ref (zad E 45)), some (.int x1), some (.int v5), some (.int v5), some (.int x4), some (.int x5), some (.int (x6 + (1 : Int32))), none, none]) rfl ?_
                exact ih _ _ _ _ _ _ _
            · refine r_iload_n (pc := 149) C dX8_step_149 rfl ?_
              refine r_istore_n (pc := 150) (lv' := [some (.ref (zad E 45)), some (.int x1), some (.int v5), some (.int x3), some (.int x4), some (.int x5), some (.int x6), some (.int v5), some (.int v5)]) C dX8_step_150 (by decide) rfl ?_
              refine r_iload (pc := 151) C dX8_step_151 rfl ?_
              refine r_iconst (pc := 153) (v := 2) C dX8_step_153 (by decide) ?_
              refine r_icmp_ne (pc := 154) (tgt := 162) C dX8_step_154 (by decide) (fun _ => ?_) (fun _ => ?_)
              · refine r_iload (pc := 157) C dX8_step_157 rfl ?_
                refine r_goto (pc := 159) (tgt := 164) C dX8_step_159 (by decide) ?_
                refine r_istore (pc := 164) (lv' := [some (.ref (zad E 45)), some (.int x1), some (.int v5), some (.int x3), some (.int v5), some (.int x5), some (.int x6), some (.int v5), some (.int v5)]) C dX8_step_164 (by decide) rfl ?_
                refine r_iinc (pc := 166) (lv' := [some (.ref (zad E 45)), some (.int x1), some (.int v5), some (.int x3), some (.int v5), some (.int x5), some (.int (x6 + (1 : Int32))), some (.int v5), some (.int v5)]) C dX8_step_166 (by decide) rfl rfl rfl ?_
                refine r_goto (pc := 169) (tgt := 79) C dX8_step_169 (by decide) ?_
                refine r_mask [true, true, true, true, true, true, true, false, false] (lv' := [some (.ref (zad E 45)), some (.int x1), some (.int v5), some (.int x3), some (.int v5), some (.int x5), some (.int (x6 + (1 : Int32))), none, none]) rfl ?_
                exact ih _ _ _ _ _ _ _
              · refine r_iload (pc := 162) C dX8_step_162 rfl ?_
                refine r_istore (pc := 164) (lv' := [some (.ref (zad E 45)), some (.int x1), some (.int v5), some (.int x3), some (.int x4), some (.int x5), some (.int x6), some (.int v5), some (.int v5)]) C dX8_step_164 (by decide) rfl ?_
                refine r_iinc (pc := 166) (lv' := [some (.ref (zad E 45)), some (.int x1), some (.int v5), some (.int x3), some (.int x4), some (.int x5), some (.int (x6 + (1 : Int32))), some (.int v5), some (.int v5)]) C dX8_step_166 (by decide) rfl rfl rfl ?_
                refine r_goto (pc := 169) (tgt := 79) C dX8_step_169 (by decide) ?_
                refine r_mask [true, true, true, true, true, true, true, false, false] (lv' := [some (.ref (zad E 45)), some (.int x1), some (.int v5), some (.int x3), some (.int x4), some (.int x5), some (.int (x6 + (1 : Int32))), none, none]) rfl ?_
                exact ih _ _ _ _ _ _ _
          · refine r_iload_n (pc := 136) C dX8_step_136 rfl ?_
            refine r_istore_n (pc := 137) (lv' := [some (.ref (zad E 45)), some (.int x1), some (.int x2), some (.int x3), some (.int x4), some (.int x5), some (.int x6), some (.int v5), some (.int v5)]) C dX8_step_137 (by decide) rfl ?_
            refine r_iload (pc := 138) C dX8_step_138 rfl ?_
            refine r_iconst (pc := 140) (v := 1) C dX8_step_140 (by decide) ?_
            refine r_icmp_ne (pc := 141) (tgt := 149) C dX8_step_141 (by decide) (fun _ => ?_) (fun _ => ?_)
            · refine r_iload (pc := 144) C dX8_step_144 rfl ?_
              refine r_goto (pc := 146) (tgt := 150) C dX8_step_146 (by decide) ?_
              refine r_istore_n (pc := 150) (lv' := [some (.ref (zad E 45)), some (.int x1), some (.int x2), some (.int v5), some (.int x4), some (.int x5), some (.int x6), some (.int v5), some (.int v5)]) C dX8_step_150 (by decide) rfl ?_
              refine r_iload (pc := 151) C dX8_step_151 rfl ?_
              refine r_iconst (pc := 153) (v := 2) C dX8_step_153 (by decide) ?_
              refine r_icmp_ne (pc := 154) (tgt := 162) C dX8_step_154 (by decide) (fun _ => ?_) (fun _ => ?_)
              · refine r_iload (pc := 157) C dX8_step_157 rfl ?_
                refine r_goto (pc := 159) (tgt := 164) C dX8_step_159 (by decide) ?_
                refine r_istore (pc := 164) (lv' := [some (.ref (zad E 45)), some (.int x1), some (.int x2), some (.int v5), some (.int v5), some (.int x5), some (.int x6), some (.int v5), some (.int v5)]) C dX8_step_164 (by decide) rfl ?_
                refine r_iinc (pc := 166) (lv' := [some (.ref (zad E 45)), some (.int x1), some (.int x2), some (.int v5), some (.int v5), some (.int x5), some (.int (x6 + (1 : Int32))), some (.int v5), some (.int v5)]) C dX8_step_166 (by decide) rfl rfl rfl ?_
                refine r_goto (pc := 169) (tgt := 79) C dX8_step_169 (by decide) ?_
                refine r_mask [true, true, true, true, true, true, true, false, false] (lv' := [some (.ref (zad E 45)), some (.int x1), some (.int x2), some (.int v5), some (.int v5), some (.int x5), some (.int (x6 + (1 : Int32))), none, none]) rfl ?_
                exact ih _ _ _ _ _ _ _
              · refine r_iload (pc := 162) C dX8_step_162 rfl ?_
                refine r_istore (pc := 164) (lv' := [some (.ref (zad E 45)), some (.int x1), some (.int x2), some (.int v5), some (.int x4), some (.int x5), some (.int x6), some (.int v5), some (.int v5)]) C dX8_step_164 (by decide) rfl ?_
                refine r_iinc (pc := 166) (lv' := [some (.ref (zad E 45)), some (.int x1), some (.int x2), some (.int v5), some (.int x4), some (.int x5), some (.int (x6 + (1 : Int32))), some (.int v5), some (.int v5)]) C dX8_step_166 (by decide) rfl rfl rfl ?_
                refine r_goto (pc := 169) (tgt := 79) C dX8_step_169 (by decide) ?_
                refine r_mask [true, true, true, true, true, true, true, false, false] (lv' := [some (.ref (zad E 45)), some (.int x1), some (.int x2), some (.int v5), some (.int x4), some (.int x5), some (.int (x6 + (1 : Int32))), none, none]) rfl ?_
                exact ih _ _ _ _ _ _ _
            · refine r_iload_n (pc := 149) C dX8_step_149 rfl ?_
              refine r_istore_n (pc := 150) (lv' := [some (.ref (zad E 45)), some (.int x1), some (.int x2), some (.int x3), some (.int x4), some (.int x5), some (.int x6), some (.int v5), some (.int v5)]) C dX8_step_150 (by decide) rfl ?_
              refine r_iload (pc := 151) C dX8_step_151 rfl ?_
              refine r_iconst (pc := 153) (v := 2) C dX8_step_153 (by decide) ?_
              refine r_icmp_ne (pc := 154) (tgt := 162) C dX8_step_154 (by decide) (fun _ => ?_) (fun _ => ?_)
              · refine r_iload (pc := 157) C dX8_step_157 rfl ?_
                refine r_goto (pc := 159) (tgt := 164) C dX8_step_159 (by decide) ?_
                refine r_istore (pc := 164) (lv' := [some (.ref (zad E 45)), some (.int x1), some (.int x2), some (.int x3), some (.int v5), some (.int x5), some (.int x6), some (.int v5), some (.int v5)]) C dX8_step_164 (by decide) rfl ?_
                refine r_iinc (pc := 166) (lv' := [some (.ref (zad E 45)), some (.int x1), some (.int x2), some (.int x3), some (.int v5), some (.int x5), some (.int (x6 + (1 : Int32))), some (.int v5), some (.int v5)]) C dX8_step_166 (by decide) rfl rfl rfl ?_
                refine r_goto (pc := 169) (tgt := 79) C dX8_step_169 (by decide) ?_
                refine r_mask [true, true, true, true, true, true, true, false, false] (lv' := [some (.ref (zad E 45)), some (.int x1), some (.int x2), some (.int x3), some (.int v5), some (.int x5), some (.int (x6 + (1 : Int32))), none, none]) rfl ?_
                exact ih _ _ _ _ _ _ _
              · refine r_iload (pc := 162) C dX8_step_162 rfl ?_
                refine r_istore (pc := 164) (lv' := [some (.ref (zad E 45)), some (.int x1), some (.int x2), some (.int x3), some (.int x4), some (.int x5), some (.int x6), some (.int v5), some (.int v5)]) C dX8_step_164 (by decide) rfl ?_
                refine r_iinc (pc := 166) (lv' := [some (.ref (zad E 45)), some (.int x1), some (.int x2), some (.int x3), some (.int x4), some (.int x5), some (.int (x6 + (1 : Int32))), some (.int v5), some (.int v5)]) C dX8_step_166 (by decide) rfl rfl rfl ?_
                refine r_goto (pc := 169) (tgt := 79) C dX8_step_169 (by decide) ?_
                refine r_mask [true, true, true, true, true, true, true, false, false] (lv' := [some (.ref (zad E 45)), some (.int x1), some (.int x2), some (.int x3), some (.int x4), some (.int x5), some (.int (x6 + (1 : Int32))), none, none]) rfl ?_
                exact ih _ _ _ _ _ _ _
      · refine r_aload_n (pc := 172) C dX8_step_172 rfl ?_
        refine r_get (pc := 173) C K_X8 45 12 (by decide) rfl (by decide) lk_f_X8_81 rfl dX8_step_173 ?_
        refine r_if_ne (pc := 176) (tgt := 199) C dX8_step_176 (by decide) (fun _ => ?_) (fun _ => ?_)
        · refine r_aload_n (pc := 179) C dX8_step_179 rfl ?_
          refine r_aload_n (pc := 180) C dX8_step_180 rfl ?_
          refine r_get (pc := 181) C K_X8 45 15 (by decide) rfl (by decide) lk_f_X8_26 rfl dX8_step_181 ?_
          refine r_iload_n (pc := 184) C dX8_step_184 rfl ?_
          refine r_iald (pc := 185) (t0 := 0) C 49 (by decide) rfl rfl dX8_step_185 ?_
          refine r_iload_n (pc := 186) C dX8_step_186 rfl ?_
          refine r_iload_n (pc := 187) C dX8_step_187 rfl ?_
          refine r_iload (pc := 188) C dX8_step_188 rfl ?_
          refine r_aload_n (pc := 190) C dX8_step_190 rfl ?_
          refine r_get (pc := 191) C K_X8 45 17 (by decide) rfl (by decide) lk_f_X8_32 rfl dX8_step_191 ?_
          refine r_iload_n (pc := 194) C dX8_step_194 rfl ?_
          refine r_iald (pc := 195) (t0 := 0) C 51 (by decide) rfl rfl dX8_step_195 ?_
          refine r_callV (pc := 196) C 45 (c_X8_act (zO.ap C) _ _ _ _ _ _) lk_c_X8_act lk_i_X8 lk_m_X8_216 lk_n_X8_act lk_v_X8_act (n := 5) (by decide +kernel) rfl ⟨rfl, rfl⟩ (by decide) (by decide) rfl rfl rfl (Nat.le_of_ble_eq_true rfl) ⟨Nat.zero_le _, Nat.zero_le _⟩ dX8_step_196 (fun _ s8 _ => ?_)
          exact r_vret (pc := 199) C dX8_step_199
        · exact r_vret (pc := 199) C dX8_step_199
set_option maxHeartbeats 4000000 in
set_option maxRecDepth 100000 in
theorem g_X8_step {E : zG} {Γ : zX} (C : zO E Γ RX8 cX8_step 9 none) (σ : zS) : zJ E Γ rm_X8_step 9 (fun _ : Unit => none) (f_X8_step σ) σ 0 [some (.ref (zad E 45)), none, none, none, none, none, none, none, none] [] := by
  unfold f_X8_step
  refine r_aload_n (pc := 0) C dX8_step_0 rfl ?_
  refine r_get (pc := 1) C K_X8 45 24 (by decide) rfl (by decide) lk_f_X8_51 rfl dX8_step_1 ?_
  refine r_aload_n (pc := 4) C dX8_step_4 rfl ?_
  refine r_callV (pc := 5) C 45 (c_X8_top (zO.ap C)  _) lk_c_X8_top lk_i_X8 lk_m_X8_148 lk_n_X8_top lk_v_X8_top (n := 0) (by decide +kernel) rfl ⟨rfl, rfl⟩ (by decide) (by decide) rfl rfl rfl (Nat.le_of_ble_eq_true rfl) ⟨Nat.zero_le _, Nat.zero_le _⟩ dX8_step_5 (fun v1 s1 _ => ?_)
  refine r_iald (pc := 8) (t0 := 0) C 57 (by decide) rfl rfl dX8_step_8 ?_
  refine r_leti (fun v2 => ?_)
  refine r_istore_n (pc := 9) (lv' := [some (.ref (zad E 45)), some (.int v2), none, none, none, none, none, none, none]) C dX8_step_9 (by decide) rfl ?_
  refine r_aload_n (pc := 10) C dX8_step_10 rfl ?_
  refine r_get (pc := 11) C K_X8 45 24 (by decide) rfl (by decide) lk_f_X8_51 rfl dX8_step_11 ?_
  refine r_aload_n (pc := 14) C dX8_step_14 rfl ?_
  refine r_callV (pc := 15) C 45 (c_X8_top (zO.ap C)  _) lk_c_X8_top lk_i_X8 lk_m_X8_148 lk_n_X8_top lk_v_X8_top (n := 0) (by decide +kernel) rfl ⟨rfl, rfl⟩ (by decide) (by decide) rfl rfl rfl (Nat.le_of_ble_eq_true rfl) ⟨Nat.zero_le _, Nat.zero_le _⟩ dX8_step_15 (fun v3 s2 _ => ?_)
  refine r_dup2 (pc := 18) C dX8_step_18 rfl rfl ?_
  refine r_iald (pc := 19) (t0 := 0) C 57 (by decide) rfl rfl dX8_step_19 ?_
  refine r_iconst (pc := 20) (v := 1) C dX8_step_20 (by decide) ?_
  refine r_iadd (pc := 21) C dX8_step_21 ?_
  refine r_iast (pc := 22) (t0 := 0) C 57 (by decide) rfl (fun _ => rfl) rfl dX8_step_22 (fun s3 _ => ?_)
  refine r_iload_n (pc := 23) C dX8_step_23 rfl ?_
  refine r_aload_n (pc := 24) C dX8_step_24 rfl ?_
  refine r_get (pc := 25) C K_X8 45 14 (by decide) rfl (by decide) lk_f_X8_139 rfl dX8_step_25 ?_
  refine r_icmp_ge (pc := 28) (tgt := 51) C dX8_step_28 (by decide) (fun _ => ?_) (fun _ => ?_)
  · refine r_aload_n (pc := 51) C dX8_step_51 rfl ?_
    refine r_bipush (pc := 52) (v := 10) C dX8_step_52 (by decide) ?_
    refine r_put (pc := 54) C K_X8 45 12 (by decide) rfl (by decide) lk_f_X8_81 rfl rfl (Nat.le_of_ble_eq_true rfl) rfl dX8_step_54 (fun s4 _ => ?_)
    exact r_vret (pc := 57) C dX8_step_57
  · refine r_aload_n (pc := 31) C dX8_step_31 rfl ?_
    refine r_get (pc := 32) C K_X8 45 15 (by decide) rfl (by decide) lk_f_X8_26 rfl dX8_step_32 ?_
    refine r_iload_n (pc := 35) C dX8_step_35 rfl ?_
    refine r_iald (pc := 36) (t0 := 0) C 49 (by decide) rfl rfl dX8_step_36 ?_
    refine r_if_lt (pc := 37) (tgt := 51) C dX8_step_37 (by decide) (fun _ => ?_) (fun _ => ?_)
    · refine r_aload_n (pc := 51) C dX8_step_51 rfl ?_
      refine r_bipush (pc := 52) (v := 10) C dX8_step_52 (by decide) ?_
      refine r_put (pc := 54) C K_X8 45 12 (by decide) rfl (by decide) lk_f_X8_81 rfl rfl (Nat.le_of_ble_eq_true rfl) rfl dX8_step_54 (fun s5 _ => ?_)
      exact r_vret (pc := 57) C dX8_step_57
    · refine r_aload_n (pc := 40) C dX8_step_40 rfl ?_
      refine r_get (pc := 41) C K_X8 45 15 (by decide) rfl (by decide) lk_f_X8_26 rfl dX8_step_41 ?_
      refine r_iload_n (pc := 44) C dX8_step_44 rfl ?_
      refine r_iald (pc := 45) (t0 := 0) C 49 (by decide) rfl rfl dX8_step_45 ?_
      refine r_bipush (pc := 46) (v := 32) C dX8_step_46 (by decide) ?_
      refine r_icmp_le (pc := 48) (tgt := 58) C dX8_step_48 (by decide) (fun _ => ?_) (fun _ => ?_)
      · refine r_iconst (pc := 58) (v := 0) C dX8_step_58 (by decide) ?_
        refine r_istore_n (pc := 59) (lv' := [some (.ref (zad E 45)), some (.int v2), some (.int (0 : Int32)), none, none, none, none, none, none]) C dX8_step_59 (by decide) rfl ?_
        refine r_iconst (pc := 60) (v := 0) C dX8_step_60 (by decide) ?_
        refine r_istore_n (pc := 61) (lv' := [some (.ref (zad E 45)), some (.int v2), some (.int (0 : Int32)), some (.int (0 : Int32)), none, none, none, none, none]) C dX8_step_61 (by decide) rfl ?_
        refine r_iconst (pc := 62) (v := 0) C dX8_step_62 (by decide) ?_
        refine r_istore (pc := 63) (lv' := [some (.ref (zad E 45)), some (.int v2), some (.int (0 : Int32)), some (.int (0 : Int32)), some (.int (0 : Int32)), none, none, none, none]) C dX8_step_63 (by decide) rfl ?_
        refine r_aload_n (pc := 65) C dX8_step_65 rfl ?_
        refine r_get (pc := 66) C K_X8 45 15 (by decide) rfl (by decide) lk_f_X8_26 rfl dX8_step_66 ?_
        refine r_iload_n (pc := 69) C dX8_step_69 rfl ?_
        refine r_iald (pc := 70) (t0 := 0) C 49 (by decide) rfl rfl dX8_step_70 ?_
        refine r_callS (pc := 71) C (c_X8_wants (zO.ap C) _ _) lk_c_X8_wants lk_i_X8 lk_m_X8_213 lk_s_X8_wants (n := 1) (by decide +kernel) rfl ⟨rfl, rfl⟩ (by decide) (Nat.le_of_ble_eq_true rfl) ⟨Nat.zero_le _, Nat.zero_le _⟩ dX8_step_71 (fun v4 s6 _ => ?_)
        refine r_istore (pc := 74) (lv' := [some (.ref (zad E 45)), some (.int v2), some (.int (0 : Int32)), some (.int (0 : Int32)), some (.int (0 : Int32)), some (.int v4), none, none, none]) C dX8_step_74 (by decide) rfl ?_
        refine r_iconst (pc := 76) (v := 0) C dX8_step_76 (by decide) ?_
        refine r_istore (pc := 77) (lv' := [some (.ref (zad E 45)), some (.int v2), some (.int (0 : Int32)), some (.int (0 : Int32)), some (.int (0 : Int32)), some (.int v4), some (.int (0 : Int32)), none, none]) C dX8_step_77 (by decide) rfl ?_
        exact g_X8_step_L79 C zF _ _ _ _ _ _ _
      · refine r_aload_n (pc := 51) C dX8_step_51 rfl ?_
        refine r_bipush (pc := 52) (v := 10) C dX8_step_52 (by decide) ?_
        refine r_put (pc := 54) C K_X8 45 12 (by decide) rfl (by decide) lk_f_X8_81 rfl rfl (Nat.le_of_ble_eq_true rfl) rfl dX8_step_54 (fun s10 _ => ?_)
        exact r_vret (pc := 57) C dX8_step_57
theorem c_X8_step {E : zG} (hAp : zAp E) (σ : zS) : zM E yX8_step cX8_step 9 none rm_X8_step (fun _ : Unit => none) [.ref (zad E 45)] (f_X8_step σ) σ :=
  zM_of (nn := 8) hAp (by decide) (Nat.le_of_ble_eq_true rfl) rfl rfl (fun Γ C => g_X8_step C σ)
set_option maxHeartbeats 4000000 in
set_option maxRecDepth 100000 in
theorem g_X8_up_L49 {E : zG} {Γ : zX} (C : zO E Γ RX8 cX8_up 2 none) {K : Int32 → zS → Option (Unit × zS)} (kK : ∀ (x1 : Int32) (σ : zS), zJ E Γ rm_X8_up 2 (fun _ : Unit => none) (K x1 σ) σ 80 [some (.ref (zad E 45)), some (.int x1)] []) : ∀ (n : Nat) (x1 : Int32) (σ : zS), zJ E Γ rm_X8_up 2 (fun _ : Unit => none) (f_X8_up_L49 n x1 σ K) σ 49 [some (.ref (zad E 45)), some (.int x1)] [] := by
  intro n
  induction n with
  | zero => intro x1 σ; rw [f_X8_up_L49]; exact r_none
  | succ n ih =>
    intro x1 σ
    rw [f_X8_up_L49]
    refine r_aload_n (pc := 49) C dX8_up_49 rfl ?_
    refine r_get (pc := 50) C K_X8 45 22 (by decide) rfl (by decide) lk_f_X8_142 rfl dX8_up_50 ?_
    refine r_if_le (pc := 53) (tgt := 80) C dX8_up_53 (by decide) (fun _ => ?_) (fun _ => ?_)
    · refine r_mask [true, true] (lv' := [some (.ref (zad E 45)), some (.int x1)]) rfl ?_
      exact kK _ _
    · refine r_aload_n (pc := 56) C dX8_up_56 rfl ?_
      refine r_get (pc := 57) C K_X8 45 21 (by decide) rfl (by decide) lk_f_X8_45 rfl dX8_up_57 ?_
      refine r_aload_n (pc := 60) C dX8_up_60 rfl ?_
      refine r_get (pc := 61) C K_X8 45 23 (by decide) rfl (by decide) lk_f_X8_48 rfl dX8_up_61 ?_
      refine r_aload_n (pc := 64) C dX8_up_64 rfl ?_
      refine r_callV (pc := 65) C 45 (c_X8_top (zO.ap C)  _) lk_c_X8_top lk_i_X8 lk_m_X8_148 lk_n_X8_top lk_v_X8_top (n := 0) (by decide +kernel) rfl ⟨rfl, rfl⟩ (by decide) (by decide) rfl rfl rfl (Nat.le_of_ble_eq_true rfl) ⟨Nat.zero_le _, Nat.zero_le _⟩ dX8_up_65 (fun v1 s3 _ => ?_)
      refine r_iald (pc := 68) (t0 := 0) C 56 (by decide) rfl rfl dX8_up_68 ?_
      refine r_zald (pc := 69) (t0 := 1) C 55 (by decide) rfl rfl dX8_up_69 ?_
      refine r_if_ne (pc := 70) (tgt := 80) C dX8_up_70 (by decide) (fun _ => ?_) (fun _ => ?_)
      · refine r_aload_n (pc := 73) C dX8_up_73 rfl ?_
        refine r_callV (pc := 74) C 45 (c_X8_leave (zO.ap C)  _) lk_c_X8_leave lk_i_X8 lk_m_X8_179 lk_n_X8_leave lk_v_X8_leave (n := 0) (by decide +kernel) rfl ⟨rfl, rfl⟩ (by decide) (by decide) rfl rfl rfl (Nat.le_of_ble_eq_true rfl) ⟨Nat.zero_le _, Nat.zero_le _⟩ dX8_up_74 (fun _ s4 _ => ?_)
        refine r_goto (pc := 77) (tgt := 49) C dX8_up_77 (by decide) ?_
        exact ih _ _
      · refine r_mask [true, true] (lv' := [some (.ref (zad E 45)), some (.int x1)]) rfl ?_
        exact kK _ _
set_option maxHeartbeats 4000000 in
set_option maxRecDepth 100000 in
theorem g_X8_up_L0 {E : zG} {Γ : zX} (C : zO E Γ RX8 cX8_up 2 none) : ∀ (n : Nat)  (σ : zS), zJ E Γ rm_X8_up 2 (fun _ : Unit => none) (f_X8_up_L0 n  σ) σ 0 [some (.ref (zad E 45)), none] [] := by
  intro n
  induction n with
  | zero => intro  σ; rw [f_X8_up_L0]; exact r_none
  | succ n ih =>
    intro  σ
    rw [f_X8_up_L0]
    refine r_aload_n (pc := 0) C dX8_up_0 rfl ?_
    refine r_get (pc := 1) C K_X8 45 12 (by decide) rfl (by decide) lk_f_X8_81 rfl dX8_up_1 ?_
    refine r_if_eq (pc := 4) (tgt := 116) C dX8_up_4 (by decide) (fun _ => ?_) (fun _ => ?_)
    · exact r_vret (pc := 116) C dX8_up_116
    · refine r_aload_n (pc := 7) C dX8_up_7 rfl ?_
      refine r_get (pc := 8) C K_X8 45 40 (by decide) rfl (by decide) lk_f_X8_185 rfl dX8_up_8 ?_
      refine r_if_ge (pc := 11) (tgt := 116) C dX8_up_11 (by decide) (fun _ => ?_) (fun _ => ?_)
      · exact r_vret (pc := 116) C dX8_up_116
      · refine r_aload_n (pc := 14) C dX8_up_14 rfl ?_
        refine r_get (pc := 15) C K_X8 45 39 (by decide) rfl (by decide) lk_f_X8_207 rfl dX8_up_15 ?_
        refine r_bipush (pc := 18) (v := 12) C dX8_up_18 (by decide) ?_
        refine r_icmp_ne (pc := 20) (tgt := 29) C dX8_up_20 (by decide) (fun _ => ?_) (fun _ => ?_)
        · refine r_aload_n (pc := 23) C dX8_up_23 rfl ?_
          refine r_iconst (pc := 24) (v := 3) C dX8_up_24 (by decide) ?_
          refine r_put (pc := 25) C K_X8 45 40 (by decide) rfl (by decide) lk_f_X8_185 rfl rfl (Nat.le_of_ble_eq_true rfl) rfl dX8_up_25 (fun s10 _ => ?_)
          exact r_vret (pc := 28) C dX8_up_28
        · refine r_aload_n (pc := 29) C dX8_up_29 rfl ?_
          refine r_dup (pc := 30) C dX8_up_30 rfl ?_
          refine r_get (pc := 31) C K_X8 45 39 (by decide) rfl (by decide) lk_f_X8_207 rfl dX8_up_31 ?_
          refine r_iconst (pc := 34) (v := 1) C dX8_up_34 (by decide) ?_
          refine r_iadd (pc := 35) C dX8_up_35 ?_
          refine r_put (pc := 36) C K_X8 45 39 (by decide) rfl (by decide) lk_f_X8_207 rfl rfl (Nat.le_of_ble_eq_true rfl) rfl dX8_up_36 (fun s1 _ => ?_)
          refine r_aload_n (pc := 39) C dX8_up_39 rfl ?_
          refine r_get (pc := 40) C K_X8 45 12 (by decide) rfl (by decide) lk_f_X8_81 rfl dX8_up_40 ?_
          refine r_istore_n (pc := 43) (lv' := [some (.ref (zad E 45)), some (.int (s1 45 12))]) C dX8_up_43 (by decide) rfl ?_
          refine r_aload_n (pc := 44) C dX8_up_44 rfl ?_
          refine r_iconst (pc := 45) (v := 0) C dX8_up_45 (by decide) ?_
          refine r_put (pc := 46) C K_X8 45 12 (by decide) rfl (by decide) lk_f_X8_81 rfl rfl (Nat.le_of_ble_eq_true rfl) rfl dX8_up_46 (fun s2 _ => ?_)
          refine g_X8_up_L49 C (fun v2 s5 => ?_) zF _ _
          refine r_aload_n (pc := 80) C dX8_up_80 rfl ?_
          refine r_get (pc := 81) C K_X8 45 22 (by decide) rfl (by decide) lk_f_X8_142 rfl dX8_up_81 ?_
          refine r_if_ne (pc := 84) (tgt := 98) C dX8_up_84 (by decide) (fun _ => ?_) (fun _ => ?_)
          · refine r_aload_n (pc := 87) C dX8_up_87 rfl ?_
            refine r_iload_n (pc := 88) C dX8_up_88 rfl ?_
            refine r_put (pc := 89) C K_X8 45 35 (by decide) rfl (by decide) lk_f_X8_220 rfl rfl (Nat.le_of_ble_eq_true rfl) rfl dX8_up_89 (fun s8 _ => ?_)
            refine r_aload_n (pc := 92) C dX8_up_92 rfl ?_
            refine r_iconst (pc := 93) (v := 2) C dX8_up_93 (by decide) ?_
            refine r_put (pc := 94) C K_X8 45 40 (by decide) rfl (by decide) lk_f_X8_185 rfl rfl (Nat.le_of_ble_eq_true rfl) rfl dX8_up_94 (fun s9 _ => ?_)
            exact r_vret (pc := 97) C dX8_up_97
          · refine r_aload_n (pc := 98) C dX8_up_98 rfl ?_
            refine r_dup (pc := 99) C dX8_up_99 rfl ?_
            refine r_get (pc := 100) C K_X8 45 36 (by decide) rfl (by decide) lk_f_X8_223 rfl dX8_up_100 ?_
            refine r_iconst (pc := 103) (v := 1) C dX8_up_103 (by decide) ?_
            refine r_iadd (pc := 104) C dX8_up_104 ?_
            refine r_put (pc := 105) C K_X8 45 36 (by decide) rfl (by decide) lk_f_X8_223 rfl rfl (Nat.le_of_ble_eq_true rfl) rfl dX8_up_105 (fun s6 _ => ?_)
            refine r_aload_n (pc := 108) C dX8_up_108 rfl ?_
            refine r_iload_n (pc := 109) C dX8_up_109 rfl ?_
            refine r_callV (pc := 110) C 45 (c_X8_back (zO.ap C) _ _) lk_c_X8_back lk_i_X8 lk_m_X8_195 lk_n_X8_back lk_v_X8_back (n := 1) (by decide +kernel) rfl ⟨rfl, rfl⟩ (by decide) (by decide) rfl rfl rfl (Nat.le_of_ble_eq_true rfl) ⟨Nat.zero_le _, Nat.zero_le _⟩ dX8_up_110 (fun _ s7 _ => ?_)
            refine r_goto (pc := 113) (tgt := 0) C dX8_up_113 (by decide) ?_
            refine r_mask [true, false] (lv' := [some (.ref (zad E 45)), none]) rfl ?_
            exact ih  _
set_option maxHeartbeats 4000000 in
set_option maxRecDepth 100000 in
theorem g_X8_up {E : zG} {Γ : zX} (C : zO E Γ RX8 cX8_up 2 none) (σ : zS) : zJ E Γ rm_X8_up 2 (fun _ : Unit => none) (f_X8_up σ) σ 0 [some (.ref (zad E 45)), none] [] := by
  unfold f_X8_up
  exact g_X8_up_L0 C zF  _
theorem c_X8_up {E : zG} (hAp : zAp E) (σ : zS) : zM E yX8_up cX8_up 2 none rm_X8_up (fun _ : Unit => none) [.ref (zad E 45)] (f_X8_up σ) σ :=
  zM_of (nn := 1) hAp (by decide) (Nat.le_of_ble_eq_true rfl) rfl rfl (fun Γ C => g_X8_up C σ)
set_option maxHeartbeats 4000000 in
set_option maxRecDepth 100000 in
theorem g_X8_run_L164 {E : zG} {Γ : zX} (C : zO E Γ RX8 cX8_run 5 (some .int)) : ∀ (n : Nat) (x1 : Int32) (x2 : Int32) (x3 : Int32) (x4 : Int32) (σ : zS), zJ E Γ rm_X8_run 5 (fun r : Int32 => some (.int r)) (f_X8_run_L164 n x1 x2 x3 x4 σ) σ 164 [some (.ref (zad E 45)), some (.int x1), some (.int x2), some (.int x3), some (.int x4)] [] := by
  intro n
  induction n with
  | zero => intro x1 x2 x3 x4 σ; rw [f_X8_run_L164]; exact r_none
  | succ n ih =>
    intro x1 x2 x3 x4 σ
    rw [f_X8_run_L164]
    refine r_aload_n (pc := 164) C dX8_run_164 rfl ?_
    refine r_get (pc := 165) C K_X8 45 22 (by decide) rfl (by decide) lk_f_X8_142 rfl dX8_run_165 ?_
    refine r_if_le (pc := 168) (tgt := 178) C dX8_run_168 (by decide) (fun _ => ?_) (fun _ => ?_)
    · refine r_aload_n (pc := 178) C dX8_run_178 rfl ?_
      refine r_get (pc := 179) C K_X8 45 40 (by decide) rfl (by decide) lk_f_X8_185 rfl dX8_run_179 ?_
      exact r_iret (pc := 182) C dX8_run_182
    · refine r_aload_n (pc := 171) C dX8_run_171 rfl ?_
      refine r_callV (pc := 172) C 45 (c_X8_leave (zO.ap C)  _) lk_c_X8_leave lk_i_X8 lk_m_X8_179 lk_n_X8_leave lk_v_X8_leave (n := 0) (by decide +kernel) rfl ⟨rfl, rfl⟩ (by decide) (by decide) rfl rfl rfl (Nat.le_of_ble_eq_true rfl) ⟨Nat.zero_le _, Nat.zero_le _⟩ dX8_run_172 (fun _ s15 _ => ?_)
      refine r_goto (pc := 175) (tgt := 164) C dX8_run_175 (by decide) ?_
      exact ih _ _ _ _ _
set_option maxHeartbeats 4000000 in
set_option maxRecDepth 100000 in
theorem g_X8_run_L118 {E : zG} {Γ : zX} (C : zO E Γ RX8 cX8_run 5 (some .int)) : ∀ (n : Nat) (x1 : Int32) (x2 : Int32) (x3 : Int32) (x4 : Int32) (σ : zS), zJ E Γ rm_X8_run 5 (fun r : Int32 => some (.int r)) (f_X8_run_L118 n x1 x2 x3 x4 σ) σ 118 [some (.ref (zad E 45)), some (.int x1), some (.int x2), some (.int x3), some (.int x4)] [] := by
  intro n
  induction n with
  | zero => intro x1 x2 x3 x4 σ; rw [f_X8_run_L118]; exact r_none
  | succ n ih =>
    intro x1 x2 x3 x4 σ
    rw [f_X8_run_L118]
    refine r_aload_n (pc := 118) C dX8_run_118 rfl ?_
    refine r_get (pc := 119) C K_X8 45 40 (by decide) rfl (by decide) lk_f_X8_185 rfl dX8_run_119 ?_
    refine r_if_ge (pc := 122) (tgt := 164) C dX8_run_122 (by decide) (fun _ => ?_) (fun _ => ?_)
    · exact g_X8_run_L164 C zF _ _ _ _ _
    · refine r_aload_n (pc := 125) C dX8_run_125 rfl ?_
      refine r_get (pc := 126) C K_X8 45 33 (by decide) rfl (by decide) lk_f_X8_226 rfl dX8_run_126 ?_
      refine r_sipush (pc := 129) (v := 300) C dX8_run_129 (by decide) ?_
      refine r_icmp_ne (pc := 132) (tgt := 143) C dX8_run_132 (by decide) (fun _ => ?_) (fun _ => ?_)
      · refine r_aload_n (pc := 135) C dX8_run_135 rfl ?_
        refine r_iconst (pc := 136) (v := 3) C dX8_run_136 (by decide) ?_
        refine r_put (pc := 137) C K_X8 45 40 (by decide) rfl (by decide) lk_f_X8_185 rfl rfl (Nat.le_of_ble_eq_true rfl) rfl dX8_run_137 (fun s19 _ => ?_)
        refine r_goto (pc := 140) (tgt := 118) C dX8_run_140 (by decide) ?_
        exact ih _ _ _ _ _
      · refine r_aload_n (pc := 143) C dX8_run_143 rfl ?_
        refine r_dup (pc := 144) C dX8_run_144 rfl ?_
        refine r_get (pc := 145) C K_X8 45 33 (by decide) rfl (by decide) lk_f_X8_226 rfl dX8_run_145 ?_
        refine r_iconst (pc := 148) (v := 1) C dX8_run_148 (by decide) ?_
        refine r_iadd (pc := 149) C dX8_run_149 ?_
        refine r_put (pc := 150) C K_X8 45 33 (by decide) rfl (by decide) lk_f_X8_226 rfl rfl (Nat.le_of_ble_eq_true rfl) rfl dX8_run_150 (fun s16 _ => ?_)
        refine r_aload_n (pc := 153) C dX8_run_153 rfl ?_
        refine r_callV (pc := 154) C 45 (c_X8_step (zO.ap C)  _) lk_c_X8_step lk_i_X8 lk_m_X8_229 lk_n_X8_step lk_v_X8_step (n := 0) (by decide +kernel) rfl ⟨rfl, rfl⟩ (by decide) (by decide) rfl rfl rfl (Nat.le_of_ble_eq_true rfl) ⟨Nat.zero_le _, Nat.zero_le _⟩ dX8_run_154 (fun _ s17 _ => ?_)
        refine r_aload_n (pc := 157) C dX8_run_157 rfl ?_
        refine r_callV (pc := 158) C 45 (c_X8_up (zO.ap C)  _) lk_c_X8_up lk_i_X8 lk_m_X8_232 lk_n_X8_up lk_v_X8_up (n := 0) (by decide +kernel) rfl ⟨rfl, rfl⟩ (by decide) (by decide) rfl rfl rfl (Nat.le_of_ble_eq_true rfl) ⟨Nat.zero_le _, Nat.zero_le _⟩ dX8_run_158 (fun _ s18 _ => ?_)
        refine r_goto (pc := 161) (tgt := 118) C dX8_run_161 (by decide) ?_
        exact ih _ _ _ _ _
set_option maxHeartbeats 4000000 in
set_option maxRecDepth 100000 in
theorem g_X8_run_L89 {E : zG} {Γ : zX} (C : zO E Γ RX8 cX8_run 5 (some .int)) : ∀ (n : Nat) (x1 : Int32) (x2 : Int32) (x3 : Int32) (x4 : Int32) (σ : zS), zJ E Γ rm_X8_run 5 (fun r : Int32 => some (.int r)) (f_X8_run_L89 n x1 x2 x3 x4 σ) σ 89 [some (.ref (zad E 45)), some (.int x1), some (.int x2), some (.int x3), some (.int x4)] [] := by
  intro n
  induction n with
  | zero => intro x1 x2 x3 x4 σ; rw [f_X8_run_L89]; exact r_none
  | succ n ih =>
    intro x1 x2 x3 x4 σ
    rw [f_X8_run_L89]
    refine r_iload (pc := 89) C dX8_run_89 rfl ?_
    refine r_bipush (pc := 91) (v := 8) C dX8_run_91 (by decide) ?_
    refine r_icmp_ge (pc := 93) (tgt := 110) C dX8_run_93 (by decide) (fun _ => ?_) (fun _ => ?_)
    · refine r_aload_n (pc := 110) C dX8_run_110 rfl ?_
      refine r_iload_n (pc := 111) C dX8_run_111 rfl ?_
      refine r_iload_n (pc := 112) C dX8_run_112 rfl ?_
      refine r_iload_n (pc := 113) C dX8_run_113 rfl ?_
      refine r_iconst (pc := 114) (v := -1) C dX8_run_114 (by decide) ?_
      refine r_callV (pc := 115) C 45 (c_X8_enter (zO.ap C) _ _ _ _ _) lk_c_X8_enter lk_i_X8 lk_m_X8_191 lk_n_X8_enter lk_v_X8_enter (n := 4) (by decide +kernel) rfl ⟨rfl, rfl⟩ (by decide) (by decide) rfl rfl rfl (Nat.le_of_ble_eq_true rfl) ⟨Nat.zero_le _, Nat.zero_le _⟩ dX8_run_115 (fun _ s14 _ => ?_)
      exact g_X8_run_L118 C zF _ _ _ _ _
    · refine r_aload_n (pc := 96) C dX8_run_96 rfl ?_
      refine r_get (pc := 97) C K_X8 45 32 (by decide) rfl (by decide) lk_f_X8_69 rfl dX8_run_97 ?_
      refine r_iload (pc := 100) C dX8_run_100 rfl ?_
      refine r_iconst (pc := 102) (v := 0) C dX8_run_102 (by decide) ?_
      refine r_iast (pc := 103) (t0 := 0) C 63 (by decide) rfl (fun _ => rfl) rfl dX8_run_103 (fun s20 _ => ?_)
      refine r_iinc (pc := 104) (lv' := [some (.ref (zad E 45)), some (.int x1), some (.int x2), some (.int x3), some (.int (x4 + (1 : Int32)))]) C dX8_run_104 (by decide) rfl rfl rfl ?_
      refine r_goto (pc := 107) (tgt := 89) C dX8_run_107 (by decide) ?_
      exact ih _ _ _ _ _
set_option maxHeartbeats 4000000 in
set_option maxRecDepth 100000 in
theorem g_X8_run {E : zG} {Γ : zX} (C : zO E Γ RX8 cX8_run 5 (some .int)) (p0 : Int32) (p1 : Int32) (p2 : Int32) (σ : zS) : zJ E Γ rm_X8_run 5 (fun r : Int32 => some (.int r)) (f_X8_run p0 p1 p2 σ) σ 0 [some (.ref (zad E 45)), some (.int p0), some (.int p1), some (.int p2), none] [] := by
  unfold f_X8_run
  refine r_aload_n (pc := 0) C dX8_run_0 rfl ?_
  refine r_iconst (pc := 1) (v := 0) C dX8_run_1 (by decide) ?_
  refine r_put (pc := 2) C K_X8 45 0 (by decide) rfl (by decide) lk_f_X8_72 rfl rfl (Nat.le_of_ble_eq_true rfl) rfl dX8_run_2 (fun s1 _ => ?_)
  refine r_iload_n (pc := 5) C dX8_run_5 rfl ?_
  refine r_if_lt (pc := 6) (tgt := 24) C dX8_run_6 (by decide) (fun _ => ?_) (fun _ => ?_)
  · refine r_iconst (pc := 24) (v := -1) C dX8_run_24 (by decide) ?_
    exact r_iret (pc := 25) C dX8_run_25
  · refine r_iload_n (pc := 9) C dX8_run_9 rfl ?_
    refine r_bipush (pc := 10) (v := 7) C dX8_run_10 (by decide) ?_
    refine r_icmp_gt (pc := 12) (tgt := 24) C dX8_run_12 (by decide) (fun _ => ?_) (fun _ => ?_)
    · refine r_iconst (pc := 24) (v := -1) C dX8_run_24 (by decide) ?_
      exact r_iret (pc := 25) C dX8_run_25
    · refine r_aload_n (pc := 15) C dX8_run_15 rfl ?_
      refine r_get (pc := 16) C K_X8 45 18 (by decide) rfl (by decide) lk_f_X8_35 rfl dX8_run_16 ?_
      refine r_iload_n (pc := 19) C dX8_run_19 rfl ?_
      refine r_zald (pc := 20) (t0 := 1) C 52 (by decide) rfl rfl dX8_run_20 ?_
      refine r_if_ne (pc := 21) (tgt := 26) C dX8_run_21 (by decide) (fun _ => ?_) (fun _ => ?_)
      · refine r_iconst (pc := 24) (v := -1) C dX8_run_24 (by decide) ?_
        exact r_iret (pc := 25) C dX8_run_25
      · refine r_aload_n (pc := 26) C dX8_run_26 rfl ?_
        refine r_iconst (pc := 27) (v := 0) C dX8_run_27 (by decide) ?_
        refine r_put (pc := 28) C K_X8 45 22 (by decide) rfl (by decide) lk_f_X8_142 rfl rfl (Nat.le_of_ble_eq_true rfl) rfl dX8_run_28 (fun s2 _ => ?_)
        refine r_aload_n (pc := 31) C dX8_run_31 rfl ?_
        refine r_iconst (pc := 32) (v := 0) C dX8_run_32 (by decide) ?_
        refine r_put (pc := 33) C K_X8 45 29 (by decide) rfl (by decide) lk_f_X8_145 rfl rfl (Nat.le_of_ble_eq_true rfl) rfl dX8_run_33 (fun s3 _ => ?_)
        refine r_aload_n (pc := 36) C dX8_run_36 rfl ?_
        refine r_iconst (pc := 37) (v := 0) C dX8_run_37 (by decide) ?_
        refine r_put (pc := 38) C K_X8 45 31 (by decide) rfl (by decide) lk_f_X8_170 rfl rfl (Nat.le_of_ble_eq_true rfl) rfl dX8_run_38 (fun s4 _ => ?_)
        refine r_aload_n (pc := 41) C dX8_run_41 rfl ?_
        refine r_iconst (pc := 42) (v := 0) C dX8_run_42 (by decide) ?_
        refine r_put (pc := 43) C K_X8 45 33 (by decide) rfl (by decide) lk_f_X8_226 rfl rfl (Nat.le_of_ble_eq_true rfl) rfl dX8_run_43 (fun s5 _ => ?_)
        refine r_aload_n (pc := 46) C dX8_run_46 rfl ?_
        refine r_iconst (pc := 47) (v := 0) C dX8_run_47 (by decide) ?_
        refine r_put (pc := 48) C K_X8 45 34 (by decide) rfl (by decide) lk_f_X8_182 rfl rfl (Nat.le_of_ble_eq_true rfl) rfl dX8_run_48 (fun s6 _ => ?_)
        refine r_aload_n (pc := 51) C dX8_run_51 rfl ?_
        refine r_iconst (pc := 52) (v := 0) C dX8_run_52 (by decide) ?_
        refine r_put (pc := 53) C K_X8 45 35 (by decide) rfl (by decide) lk_f_X8_220 rfl rfl (Nat.le_of_ble_eq_true rfl) rfl dX8_run_53 (fun s7 _ => ?_)
        refine r_aload_n (pc := 56) C dX8_run_56 rfl ?_
        refine r_iconst (pc := 57) (v := 0) C dX8_run_57 (by decide) ?_
        refine r_put (pc := 58) C K_X8 45 36 (by decide) rfl (by decide) lk_f_X8_223 rfl rfl (Nat.le_of_ble_eq_true rfl) rfl dX8_run_58 (fun s8 _ => ?_)
        refine r_aload_n (pc := 61) C dX8_run_61 rfl ?_
        refine r_iconst (pc := 62) (v := 0) C dX8_run_62 (by decide) ?_
        refine r_put (pc := 63) C K_X8 45 37 (by decide) rfl (by decide) lk_f_X8_210 rfl rfl (Nat.le_of_ble_eq_true rfl) rfl dX8_run_63 (fun s9 _ => ?_)
        refine r_aload_n (pc := 66) C dX8_run_66 rfl ?_
        refine r_iconst (pc := 67) (v := 0) C dX8_run_67 (by decide) ?_
        refine r_put (pc := 68) C K_X8 45 38 (by decide) rfl (by decide) lk_f_X8_176 rfl rfl (Nat.le_of_ble_eq_true rfl) rfl dX8_run_68 (fun s10 _ => ?_)
        refine r_aload_n (pc := 71) C dX8_run_71 rfl ?_
        refine r_iconst (pc := 72) (v := 0) C dX8_run_72 (by decide) ?_
        refine r_put (pc := 73) C K_X8 45 39 (by decide) rfl (by decide) lk_f_X8_207 rfl rfl (Nat.le_of_ble_eq_true rfl) rfl dX8_run_73 (fun s11 _ => ?_)
        refine r_aload_n (pc := 76) C dX8_run_76 rfl ?_
        refine r_iconst (pc := 77) (v := 0) C dX8_run_77 (by decide) ?_
        refine r_put (pc := 78) C K_X8 45 12 (by decide) rfl (by decide) lk_f_X8_81 rfl rfl (Nat.le_of_ble_eq_true rfl) rfl dX8_run_78 (fun s12 _ => ?_)
        refine r_aload_n (pc := 81) C dX8_run_81 rfl ?_
        refine r_iconst (pc := 82) (v := -1) C dX8_run_82 (by decide) ?_
        refine r_put (pc := 83) C K_X8 45 40 (by decide) rfl (by decide) lk_f_X8_185 rfl rfl (Nat.le_of_ble_eq_true rfl) rfl dX8_run_83 (fun s13 _ => ?_)
        refine r_iconst (pc := 86) (v := 0) C dX8_run_86 (by decide) ?_
        refine r_istore (pc := 87) (lv' := [some (.ref (zad E 45)), some (.int p0), some (.int p1), some (.int p2), some (.int (0 : Int32))]) C dX8_run_87 (by decide) rfl ?_
        exact g_X8_run_L89 C zF _ _ _ _ _
theorem c_X8_run {E : zG} (hAp : zAp E) (p0 : Int32) (p1 : Int32) (p2 : Int32) (σ : zS) : zM E yX8_run cX8_run 5 (some .int) rm_X8_run (fun r : Int32 => some (.int r)) [.ref (zad E 45), .int p0, .int p1, .int p2] (f_X8_run p0 p1 p2 σ) σ :=
  zM_of (nn := 1) hAp (by decide) (Nat.le_of_ble_eq_true rfl) rfl rfl (fun Γ C => g_X8_run C p0 p1 p2 σ)
set_option maxHeartbeats 4000000 in
set_option maxRecDepth 100000 in
theorem g_X8_told {E : zG} {Γ : zX} (C : zO E Γ RX8 cX8_told 2 (some .int)) (p0 : Int32) (σ : zS) : zJ E Γ rm_X8_told 2 (fun r : Int32 => some (.int r)) (f_X8_told p0 σ) σ 0 [some (.ref (zad E 45)), some (.int p0)] [] := by
  unfold f_X8_told
  refine r_aload_n (pc := 0) C dX8_told_0 rfl ?_
  refine r_iconst (pc := 1) (v := 0) C dX8_told_1 (by decide) ?_
  refine r_put (pc := 2) C K_X8 45 0 (by decide) rfl (by decide) lk_f_X8_72 rfl rfl (Nat.le_of_ble_eq_true rfl) rfl dX8_told_2 (fun s1 _ => ?_)
  refine r_iload_n (pc := 5) C dX8_told_5 rfl ?_
  refine r_split (fun h1 => ?_) (fun h1 => ?_)
  · refine r_tabIn (pc := 6) (v := 0) (tgt := 56) C dX8_told_6 h1 (by decide) (by decide) rfl (by decide) ?_
    refine r_aload_n (pc := 56) C dX8_told_56 rfl ?_
    refine r_get (pc := 57) C K_X8 45 33 (by decide) rfl (by decide) lk_f_X8_226 rfl dX8_told_57 ?_
    exact r_iret (pc := 60) C dX8_told_60
  · refine r_split (fun h2 => ?_) (fun h2 => ?_)
    · refine r_tabIn (pc := 6) (v := 1) (tgt := 61) C dX8_told_6 h2 (by decide) (by decide) rfl (by decide) ?_
      refine r_aload_n (pc := 61) C dX8_told_61 rfl ?_
      refine r_get (pc := 62) C K_X8 45 34 (by decide) rfl (by decide) lk_f_X8_182 rfl dX8_told_62 ?_
      exact r_iret (pc := 65) C dX8_told_65
    · refine r_split (fun h3 => ?_) (fun h3 => ?_)
      · refine r_tabIn (pc := 6) (v := 2) (tgt := 66) C dX8_told_6 h3 (by decide) (by decide) rfl (by decide) ?_
        refine r_aload_n (pc := 66) C dX8_told_66 rfl ?_
        refine r_get (pc := 67) C K_X8 45 35 (by decide) rfl (by decide) lk_f_X8_220 rfl dX8_told_67 ?_
        exact r_iret (pc := 70) C dX8_told_70
      · refine r_split (fun h4 => ?_) (fun h4 => ?_)
        · refine r_tabIn (pc := 6) (v := 3) (tgt := 71) C dX8_told_6 h4 (by decide) (by decide) rfl (by decide) ?_
          refine r_aload_n (pc := 71) C dX8_told_71 rfl ?_
          refine r_get (pc := 72) C K_X8 45 36 (by decide) rfl (by decide) lk_f_X8_223 rfl dX8_told_72 ?_
          exact r_iret (pc := 75) C dX8_told_75
        · refine r_split (fun h5 => ?_) (fun h5 => ?_)
          · refine r_tabIn (pc := 6) (v := 4) (tgt := 76) C dX8_told_6 h5 (by decide) (by decide) rfl (by decide) ?_
            refine r_aload_n (pc := 76) C dX8_told_76 rfl ?_
            refine r_get (pc := 77) C K_X8 45 37 (by decide) rfl (by decide) lk_f_X8_210 rfl dX8_told_77 ?_
            exact r_iret (pc := 80) C dX8_told_80
          · refine r_split (fun h6 => ?_) (fun h6 => ?_)
            · refine r_tabIn (pc := 6) (v := 5) (tgt := 81) C dX8_told_6 h6 (by decide) (by decide) rfl (by decide) ?_
              refine r_aload_n (pc := 81) C dX8_told_81 rfl ?_
              refine r_get (pc := 82) C K_X8 45 31 (by decide) rfl (by decide) lk_f_X8_170 rfl dX8_told_82 ?_
              exact r_iret (pc := 85) C dX8_told_85
            · refine r_split (fun h7 => ?_) (fun h7 => ?_)
              · refine r_tabIn (pc := 6) (v := 6) (tgt := 86) C dX8_told_6 h7 (by decide) (by decide) rfl (by decide) ?_
                refine r_aload_n (pc := 86) C dX8_told_86 rfl ?_
                refine r_get (pc := 87) C K_X8 45 38 (by decide) rfl (by decide) lk_f_X8_176 rfl dX8_told_87 ?_
                exact r_iret (pc := 90) C dX8_told_90
              · refine r_split (fun h8 => ?_) (fun h8 => ?_)
                · refine r_tabIn (pc := 6) (v := 7) (tgt := 91) C dX8_told_6 h8 (by decide) (by decide) rfl (by decide) ?_
                  refine r_aload_n (pc := 91) C dX8_told_91 rfl ?_
                  refine r_get (pc := 92) C K_X8 45 14 (by decide) rfl (by decide) lk_f_X8_139 rfl dX8_told_92 ?_
                  exact r_iret (pc := 95) C dX8_told_95
                · refine r_split (fun h9 => ?_) (fun h9 => ?_)
                  · refine r_tabIn (pc := 6) (v := 8) (tgt := 96) C dX8_told_6 h9 (by decide) (by decide) rfl (by decide) ?_
                    refine r_aload_n (pc := 96) C dX8_told_96 rfl ?_
                    refine r_get (pc := 97) C K_X8 45 11 (by decide) rfl (by decide) lk_f_X8_128 rfl dX8_told_97 ?_
                    exact r_iret (pc := 100) C dX8_told_100
                  · refine r_tabOut (pc := 6) (tgt := 101) C dX8_told_6 (by have a0 := lv_neT (a := 0) h1 rfl; have a1 := lv_neT (a := 1) h2 rfl; have a2 := lv_neT (a := 2) h3 rfl; have a3 := lv_neT (a := 3) h4 rfl; have a4 := lv_neT (a := 4) h5 rfl; have a5 := lv_neT (a := 5) h6 rfl; have a6 := lv_neT (a := 6) h7 rfl; have a7 := lv_neT (a := 7) h8 rfl; have a8 := lv_neT (a := 8) h9 rfl; omega) (by decide) ?_
                    refine r_bipush (pc := 101) (v := -2) C dX8_told_101 (by decide) ?_
                    exact r_iret (pc := 103) C dX8_told_103
theorem c_X8_told {E : zG} (hAp : zAp E) (p0 : Int32) (σ : zS) : zM E yX8_told cX8_told 2 (some .int) rm_X8_told (fun r : Int32 => some (.int r)) [.ref (zad E 45), .int p0] (f_X8_told p0 σ) σ :=
  zM_of (nn := 0) hAp (by decide) (Nat.le_of_ble_eq_true rfl) rfl rfl (fun Γ C => g_X8_told C p0 σ)
set_option maxHeartbeats 4000000 in
set_option maxRecDepth 100000 in
theorem g_X8_printed {E : zG} {Γ : zX} (C : zO E Γ RX8 cX8_printed 2 (some .int)) (p0 : Int32) (σ : zS) : zJ E Γ rm_X8_printed 2 (fun r : Int32 => some (.int r)) (f_X8_printed p0 σ) σ 0 [some (.ref (zad E 45)), some (.int p0)] [] := by
  unfold f_X8_printed
  refine r_aload_n (pc := 0) C dX8_printed_0 rfl ?_
  refine r_iconst (pc := 1) (v := 0) C dX8_printed_1 (by decide) ?_
  refine r_put (pc := 2) C K_X8 45 0 (by decide) rfl (by decide) lk_f_X8_72 rfl rfl (Nat.le_of_ble_eq_true rfl) rfl dX8_printed_2 (fun s1 _ => ?_)
  refine r_iload_n (pc := 5) C dX8_printed_5 rfl ?_
  refine r_if_lt (pc := 6) (tgt := 17) C dX8_printed_6 (by decide) (fun _ => ?_) (fun _ => ?_)
  · refine r_aload_n (pc := 17) C dX8_printed_17 rfl ?_
    refine r_iconst (pc := 18) (v := 1) C dX8_printed_18 (by decide) ?_
    refine r_put (pc := 19) C K_X8 45 0 (by decide) rfl (by decide) lk_f_X8_72 rfl rfl (Nat.le_of_ble_eq_true rfl) rfl dX8_printed_19 (fun s2 _ => ?_)
    refine r_iconst (pc := 22) (v := 0) C dX8_printed_22 (by decide) ?_
    exact r_iret (pc := 23) C dX8_printed_23
  · refine r_iload_n (pc := 9) C dX8_printed_9 rfl ?_
    refine r_aload_n (pc := 10) C dX8_printed_10 rfl ?_
    refine r_get (pc := 11) C K_X8 45 31 (by decide) rfl (by decide) lk_f_X8_170 rfl dX8_printed_11 ?_
    refine r_icmp_lt (pc := 14) (tgt := 24) C dX8_printed_14 (by decide) (fun _ => ?_) (fun _ => ?_)
    · refine r_aload_n (pc := 24) C dX8_printed_24 rfl ?_
      refine r_get (pc := 25) C K_X8 45 30 (by decide) rfl (by decide) lk_f_X8_66 rfl dX8_printed_25 ?_
      refine r_iload_n (pc := 28) C dX8_printed_28 rfl ?_
      refine r_iald (pc := 29) (t0 := 0) C 62 (by decide) rfl rfl dX8_printed_29 ?_
      exact r_iret (pc := 30) C dX8_printed_30
    · refine r_aload_n (pc := 17) C dX8_printed_17 rfl ?_
      refine r_iconst (pc := 18) (v := 1) C dX8_printed_18 (by decide) ?_
      refine r_put (pc := 19) C K_X8 45 0 (by decide) rfl (by decide) lk_f_X8_72 rfl rfl (Nat.le_of_ble_eq_true rfl) rfl dX8_printed_19 (fun s3 _ => ?_)
      refine r_iconst (pc := 22) (v := 0) C dX8_printed_22 (by decide) ?_
      exact r_iret (pc := 23) C dX8_printed_23
theorem c_X8_printed {E : zG} (hAp : zAp E) (p0 : Int32) (σ : zS) : zM E yX8_printed cX8_printed 2 (some .int) rm_X8_printed (fun r : Int32 => some (.int r)) [.ref (zad E 45), .int p0] (f_X8_printed p0 σ) σ :=
  zM_of (nn := 0) hAp (by decide) (Nat.le_of_ble_eq_true rfl) rfl rfl (fun Γ C => g_X8_printed C p0 σ)
set_option maxHeartbeats 4000000 in
set_option maxRecDepth 100000 in
theorem g_X8_left {E : zG} {Γ : zX} (C : zO E Γ RX8 cX8_left 2 (some .int)) (p0 : Int32) (σ : zS) : zJ E Γ rm_X8_left 2 (fun r : Int32 => some (.int r)) (f_X8_left p0 σ) σ 0 [some (.ref (zad E 45)), some (.int p0)] [] := by
  unfold f_X8_left
  refine r_aload_n (pc := 0) C dX8_left_0 rfl ?_
  refine r_iconst (pc := 1) (v := 0) C dX8_left_1 (by decide) ?_
  refine r_put (pc := 2) C K_X8 45 0 (by decide) rfl (by decide) lk_f_X8_72 rfl rfl (Nat.le_of_ble_eq_true rfl) rfl dX8_left_2 (fun s1 _ => ?_)
  refine r_iload_n (pc := 5) C dX8_left_5 rfl ?_
  refine r_if_lt (pc := 6) (tgt := 15) C dX8_left_6 (by decide) (fun _ => ?_) (fun _ => ?_)
  · refine r_iconst (pc := 15) (v := -1) C dX8_left_15 (by decide) ?_
    refine r_goto (pc := 16) (tgt := 25) C dX8_left_16 (by decide) ?_
    exact r_iret (pc := 25) C dX8_left_25
  · refine r_iload_n (pc := 9) C dX8_left_9 rfl ?_
    refine r_bipush (pc := 10) (v := 7) C dX8_left_10 (by decide) ?_
    refine r_icmp_le (pc := 12) (tgt := 19) C dX8_left_12 (by decide) (fun _ => ?_) (fun _ => ?_)
    · refine r_aload_n (pc := 19) C dX8_left_19 rfl ?_
      refine r_get (pc := 20) C K_X8 45 32 (by decide) rfl (by decide) lk_f_X8_69 rfl dX8_left_20 ?_
      refine r_iload_n (pc := 23) C dX8_left_23 rfl ?_
      refine r_iald (pc := 24) (t0 := 0) C 63 (by decide) rfl rfl dX8_left_24 ?_
      exact r_iret (pc := 25) C dX8_left_25
    · refine r_iconst (pc := 15) (v := -1) C dX8_left_15 (by decide) ?_
      refine r_goto (pc := 16) (tgt := 25) C dX8_left_16 (by decide) ?_
      exact r_iret (pc := 25) C dX8_left_25
theorem c_X8_left {E : zG} (hAp : zAp E) (p0 : Int32) (σ : zS) : zM E yX8_left cX8_left 2 (some .int) rm_X8_left (fun r : Int32 => some (.int r)) [.ref (zad E 45), .int p0] (f_X8_left p0 σ) σ :=
  zM_of (nn := 0) hAp (by decide) (Nat.le_of_ble_eq_true rfl) rfl rfl (fun Γ C => g_X8_left C p0 σ)
