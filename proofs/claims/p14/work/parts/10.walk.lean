set_option maxHeartbeats 4000000 in
set_option maxRecDepth 100000 in
theorem g_X0_record {E : zG} {Γ : zX} (C : zO E Γ RX0 cX0_record 2 (some .int)) (p0 : Int32) (σ : zS) : zJ E Γ rm_X0_record 2 (fun r : Int32 => some (.int r)) (f_X0_record p0 σ) σ 0 [some (.ref (zad E 3)), some (.int p0)] [] := by
  unfold f_X0_record
  refine r_aload_n (pc := 0) C dX0_record_0 rfl ?_
  refine r_get (pc := 1) C K_X0 3 2 (by decide) rfl (by decide) lk_f_X0_22 rfl dX0_record_1 ?_
  refine r_bipush (pc := 4) (v := 50) C dX0_record_4 (by decide) ?_
  refine r_icmp_lt (pc := 6) (tgt := 12) C dX0_record_6 (by decide) (fun _ => ?_) (fun _ => ?_)
  · refine r_aload_n (pc := 12) C dX0_record_12 rfl ?_
    refine r_get (pc := 13) C K_X0 3 0 (by decide) rfl (by decide) lk_f_X0_9 rfl dX0_record_13 ?_
    refine r_aload_n (pc := 16) C dX0_record_16 rfl ?_
    refine r_get (pc := 17) C K_X0 3 1 (by decide) rfl (by decide) lk_f_X0_25 rfl dX0_record_17 ?_
    refine r_aload_n (pc := 20) C dX0_record_20 rfl ?_
    refine r_get (pc := 21) C K_X0 3 2 (by decide) rfl (by decide) lk_f_X0_22 rfl dX0_record_21 ?_
    refine r_iadd (pc := 24) C dX0_record_24 ?_
    refine r_bipush (pc := 25) (v := 50) C dX0_record_25 (by decide) ?_
    refine r_irem (pc := 27) C dX0_record_27 ?_
    refine r_iload_n (pc := 28) C dX0_record_28 rfl ?_
    refine r_iast (pc := 29) (t0 := 0) C 4 (by decide) rfl (fun _ => rfl) rfl dX0_record_29 (fun s1 _ => ?_)
    refine r_aload_n (pc := 30) C dX0_record_30 rfl ?_
    refine r_dup (pc := 31) C dX0_record_31 rfl ?_
    refine r_get (pc := 32) C K_X0 3 2 (by decide) rfl (by decide) lk_f_X0_22 rfl dX0_record_32 ?_
    refine r_iconst (pc := 35) (v := 1) C dX0_record_35 (by decide) ?_
    refine r_iadd (pc := 36) C dX0_record_36 ?_
    refine r_put (pc := 37) C K_X0 3 2 (by decide) rfl (by decide) lk_f_X0_22 rfl rfl (Nat.le_of_ble_eq_true rfl) rfl dX0_record_37 (fun s2 _ => ?_)
    refine r_aload_n (pc := 40) C dX0_record_40 rfl ?_
    refine r_get (pc := 41) C K_X0 3 2 (by decide) rfl (by decide) lk_f_X0_22 rfl dX0_record_41 ?_
    exact r_iret (pc := 44) C dX0_record_44
  · refine r_bipush (pc := 9) (v := -3) C dX0_record_9 (by decide) ?_
    exact r_iret (pc := 11) C dX0_record_11
theorem c_X0_record {E : zG} (hAp : zAp E) (p0 : Int32) (σ : zS) : zM E yX0_record cX0_record 2 (some .int) rm_X0_record (fun r : Int32 => some (.int r)) [.ref (zad E 3), .int p0] (f_X0_record p0 σ) σ :=
  zM_of (nn := 0) hAp (by decide) (Nat.le_of_ble_eq_true rfl) rfl rfl (fun Γ C => g_X0_record C p0 σ)
set_option maxHeartbeats 4000000 in
set_option maxRecDepth 100000 in
theorem g_X0_nextOfSeed {E : zG} {Γ : zX} (C : zO E Γ RX0 cX0_nextOfSeed 1 (some .int)) (σ : zS) : zJ E Γ rm_X0_nextOfSeed 1 (fun r : Int32 => some (.int r)) (f_X0_nextOfSeed σ) σ 0 [some (.ref (zad E 3))] [] := by
  unfold f_X0_nextOfSeed
  refine r_aload_n (pc := 0) C dX0_nextOfSeed_0 rfl ?_
  refine r_aload_n (pc := 1) C dX0_nextOfSeed_1 rfl ?_
  refine r_get (pc := 2) C K_X0 3 4 (by decide) rfl (by decide) lk_f_X0_19 rfl dX0_nextOfSeed_2 ?_
  refine r_ldc (pc := 5) (v := 1103515245) C dX0_nextOfSeed_5 lk_k_X0_47 ?_
  refine r_imul (pc := 7) C dX0_nextOfSeed_7 ?_
  refine r_sipush (pc := 8) (v := 12345) C dX0_nextOfSeed_8 (by decide) ?_
  refine r_iadd (pc := 11) C dX0_nextOfSeed_11 ?_
  refine r_ldc (pc := 12) (v := 2147483647) C dX0_nextOfSeed_12 lk_k_X0_48 ?_
  refine r_iand (pc := 14) C dX0_nextOfSeed_14 ?_
  refine r_put (pc := 15) C K_X0 3 4 (by decide) rfl (by decide) lk_f_X0_19 rfl rfl (Nat.le_of_ble_eq_true rfl) rfl dX0_nextOfSeed_15 (fun s1 _ => ?_)
  refine r_aload_n (pc := 18) C dX0_nextOfSeed_18 rfl ?_
  refine r_get (pc := 19) C K_X0 3 4 (by decide) rfl (by decide) lk_f_X0_19 rfl dX0_nextOfSeed_19 ?_
  refine r_bipush (pc := 22) (v := 16) C dX0_nextOfSeed_22 (by decide) ?_
  refine r_iushr (pc := 24) C dX0_nextOfSeed_24 ?_
  exact r_iret (pc := 25) C dX0_nextOfSeed_25
theorem c_X0_nextOfSeed {E : zG} (hAp : zAp E) (σ : zS) : zM E yX0_nextOfSeed cX0_nextOfSeed 1 (some .int) rm_X0_nextOfSeed (fun r : Int32 => some (.int r)) [.ref (zad E 3)] (f_X0_nextOfSeed σ) σ :=
  zM_of (nn := 0) hAp (by decide) (Nat.le_of_ble_eq_true rfl) rfl rfl (fun Γ C => g_X0_nextOfSeed C σ)
set_option maxHeartbeats 4000000 in
set_option maxRecDepth 100000 in
theorem g_X0_nextOfTape {E : zG} {Γ : zX} (C : zO E Γ RX0 cX0_nextOfTape 2 (some .int)) (σ : zS) : zJ E Γ rm_X0_nextOfTape 2 (fun r : Int32 => some (.int r)) (f_X0_nextOfTape σ) σ 0 [some (.ref (zad E 3)), none] [] := by
  unfold f_X0_nextOfTape
  refine r_aload_n (pc := 0) C dX0_nextOfTape_0 rfl ?_
  refine r_get (pc := 1) C K_X0 3 0 (by decide) rfl (by decide) lk_f_X0_9 rfl dX0_nextOfTape_1 ?_
  refine r_aload_n (pc := 4) C dX0_nextOfTape_4 rfl ?_
  refine r_get (pc := 5) C K_X0 3 1 (by decide) rfl (by decide) lk_f_X0_25 rfl dX0_nextOfTape_5 ?_
  refine r_iald (pc := 8) (t0 := 0) C 4 (by decide) rfl rfl dX0_nextOfTape_8 ?_
  refine r_leti (fun v1 => ?_)
  refine r_istore_n (pc := 9) (lv' := [some (.ref (zad E 3)), some (.int v1)]) C dX0_nextOfTape_9 (by decide) rfl ?_
  refine r_aload_n (pc := 10) C dX0_nextOfTape_10 rfl ?_
  refine r_aload_n (pc := 11) C dX0_nextOfTape_11 rfl ?_
  refine r_get (pc := 12) C K_X0 3 1 (by decide) rfl (by decide) lk_f_X0_25 rfl dX0_nextOfTape_12 ?_
  refine r_iconst (pc := 15) (v := 1) C dX0_nextOfTape_15 (by decide) ?_
  refine r_iadd (pc := 16) C dX0_nextOfTape_16 ?_
  refine r_bipush (pc := 17) (v := 50) C dX0_nextOfTape_17 (by decide) ?_
  refine r_irem (pc := 19) C dX0_nextOfTape_19 ?_
  refine r_put (pc := 20) C K_X0 3 1 (by decide) rfl (by decide) lk_f_X0_25 rfl rfl (Nat.le_of_ble_eq_true rfl) rfl dX0_nextOfTape_20 (fun s1 _ => ?_)
  refine r_aload_n (pc := 23) C dX0_nextOfTape_23 rfl ?_
  refine r_dup (pc := 24) C dX0_nextOfTape_24 rfl ?_
  refine r_get (pc := 25) C K_X0 3 2 (by decide) rfl (by decide) lk_f_X0_22 rfl dX0_nextOfTape_25 ?_
  refine r_iconst (pc := 28) (v := 1) C dX0_nextOfTape_28 (by decide) ?_
  refine r_isub (pc := 29) C dX0_nextOfTape_29 ?_
  refine r_put (pc := 30) C K_X0 3 2 (by decide) rfl (by decide) lk_f_X0_22 rfl rfl (Nat.le_of_ble_eq_true rfl) rfl dX0_nextOfTape_30 (fun s2 _ => ?_)
  refine r_iload_n (pc := 33) C dX0_nextOfTape_33 rfl ?_
  exact r_iret (pc := 34) C dX0_nextOfTape_34
theorem c_X0_nextOfTape {E : zG} (hAp : zAp E) (σ : zS) : zM E yX0_nextOfTape cX0_nextOfTape 2 (some .int) rm_X0_nextOfTape (fun r : Int32 => some (.int r)) [.ref (zad E 3)] (f_X0_nextOfTape σ) σ :=
  zM_of (nn := 1) hAp (by decide) (Nat.le_of_ble_eq_true rfl) rfl rfl (fun Γ C => g_X0_nextOfTape C σ)
set_option maxHeartbeats 4000000 in
set_option maxRecDepth 100000 in
theorem g_X0_nextOfCount {E : zG} {Γ : zX} (C : zO E Γ RX0 cX0_nextOfCount 2 (some .int)) (σ : zS) : zJ E Γ rm_X0_nextOfCount 2 (fun r : Int32 => some (.int r)) (f_X0_nextOfCount σ) σ 0 [some (.ref (zad E 3)), none] [] := by
  unfold f_X0_nextOfCount
  refine r_aload_n (pc := 0) C dX0_nextOfCount_0 rfl ?_
  refine r_get (pc := 1) C K_X0 3 5 (by decide) rfl (by decide) lk_f_X0_35 rfl dX0_nextOfCount_1 ?_
  refine r_istore_n (pc := 4) (lv' := [some (.ref (zad E 3)), some (.int (σ 3 5))]) C dX0_nextOfCount_4 (by decide) rfl ?_
  refine r_aload_n (pc := 5) C dX0_nextOfCount_5 rfl ?_
  refine r_iload_n (pc := 6) C dX0_nextOfCount_6 rfl ?_
  refine r_iconst (pc := 7) (v := 1) C dX0_nextOfCount_7 (by decide) ?_
  refine r_iadd (pc := 8) C dX0_nextOfCount_8 ?_
  refine r_aload_n (pc := 9) C dX0_nextOfCount_9 rfl ?_
  refine r_get (pc := 10) C K_X0 3 6 (by decide) rfl (by decide) lk_f_X0_32 rfl dX0_nextOfCount_10 ?_
  refine r_icmp_ge (pc := 13) (tgt := 22) C dX0_nextOfCount_13 (by decide) (fun _ => ?_) (fun _ => ?_)
  · refine r_iconst (pc := 22) (v := 0) C dX0_nextOfCount_22 (by decide) ?_
    refine r_put (pc := 23) C K_X0 3 5 (by decide) rfl (by decide) lk_f_X0_35 rfl rfl (Nat.le_of_ble_eq_true rfl) rfl dX0_nextOfCount_23 (fun s1 _ => ?_)
    refine r_iload_n (pc := 26) C dX0_nextOfCount_26 rfl ?_
    exact r_iret (pc := 27) C dX0_nextOfCount_27
  · refine r_iload_n (pc := 16) C dX0_nextOfCount_16 rfl ?_
    refine r_iconst (pc := 17) (v := 1) C dX0_nextOfCount_17 (by decide) ?_
    refine r_iadd (pc := 18) C dX0_nextOfCount_18 ?_
    refine r_goto (pc := 19) (tgt := 23) C dX0_nextOfCount_19 (by decide) ?_
    refine r_put (pc := 23) C K_X0 3 5 (by decide) rfl (by decide) lk_f_X0_35 rfl rfl (Nat.le_of_ble_eq_true rfl) rfl dX0_nextOfCount_23 (fun s2 _ => ?_)
    refine r_iload_n (pc := 26) C dX0_nextOfCount_26 rfl ?_
    exact r_iret (pc := 27) C dX0_nextOfCount_27
theorem c_X0_nextOfCount {E : zG} (hAp : zAp E) (σ : zS) : zM E yX0_nextOfCount cX0_nextOfCount 2 (some .int) rm_X0_nextOfCount (fun r : Int32 => some (.int r)) [.ref (zad E 3)] (f_X0_nextOfCount σ) σ :=
  zM_of (nn := 1) hAp (by decide) (Nat.le_of_ble_eq_true rfl) rfl rfl (fun Γ C => g_X0_nextOfCount C σ)
set_option maxHeartbeats 4000000 in
set_option maxRecDepth 100000 in
theorem g_X0_next {E : zG} {Γ : zX} (C : zO E Γ RX0 cX0_next 1 (some .int)) (σ : zS) : zJ E Γ rm_X0_next 1 (fun r : Int32 => some (.int r)) (f_X0_next σ) σ 0 [some (.ref (zad E 3))] [] := by
  unfold f_X0_next
  refine r_aload_n (pc := 0) C dX0_next_0 rfl ?_
  refine r_get (pc := 1) C K_X0 3 3 (by decide) rfl (by decide) lk_f_X0_15 rfl dX0_next_1 ?_
  refine r_iconst (pc := 4) (v := 1) C dX0_next_4 (by decide) ?_
  refine r_icmp_ne (pc := 5) (tgt := 13) C dX0_next_5 (by decide) (fun _ => ?_) (fun _ => ?_)
  · refine r_aload_n (pc := 8) C dX0_next_8 rfl ?_
    refine r_callV (pc := 9) C 3 (c_X0_nextOfCount (zO.ap C)  _) lk_c_X0_nextOfCount lk_i_X0 lk_m_X0_38 lk_n_X0_nextOfCount lk_v_X0_nextOfCount (n := 0) (by decide +kernel) rfl ⟨rfl, rfl⟩ (by decide) (by decide) rfl rfl rfl (Nat.le_of_ble_eq_true rfl) ⟨Nat.zero_le _, Nat.zero_le _⟩ dX0_next_9 (fun v4 s4 _ => ?_)
    exact r_iret (pc := 12) C dX0_next_12
  · refine r_aload_n (pc := 13) C dX0_next_13 rfl ?_
    refine r_get (pc := 14) C K_X0 3 3 (by decide) rfl (by decide) lk_f_X0_15 rfl dX0_next_14 ?_
    refine r_iconst (pc := 17) (v := 2) C dX0_next_17 (by decide) ?_
    refine r_icmp_ne (pc := 18) (tgt := 35) C dX0_next_18 (by decide) (fun _ => ?_) (fun _ => ?_)
    · refine r_aload_n (pc := 21) C dX0_next_21 rfl ?_
      refine r_get (pc := 22) C K_X0 3 2 (by decide) rfl (by decide) lk_f_X0_22 rfl dX0_next_22 ?_
      refine r_if_le (pc := 25) (tgt := 35) C dX0_next_25 (by decide) (fun _ => ?_) (fun _ => ?_)
      · refine r_aload_n (pc := 35) C dX0_next_35 rfl ?_
        refine r_callV (pc := 36) C 3 (c_X0_nextOfSeed (zO.ap C)  _) lk_c_X0_nextOfSeed lk_i_X0 lk_m_X0_44 lk_n_X0_nextOfSeed lk_v_X0_nextOfSeed (n := 0) (by decide +kernel) rfl ⟨rfl, rfl⟩ (by decide) (by decide) rfl rfl rfl (Nat.le_of_ble_eq_true rfl) ⟨Nat.zero_le _, Nat.zero_le _⟩ dX0_next_36 (fun v2 s2 _ => ?_)
        exact r_iret (pc := 39) C dX0_next_39
      · refine r_aload_n (pc := 28) C dX0_next_28 rfl ?_
        refine r_callV (pc := 29) C 3 (c_X0_nextOfTape (zO.ap C)  _) lk_c_X0_nextOfTape lk_i_X0 lk_m_X0_41 lk_n_X0_nextOfTape lk_v_X0_nextOfTape (n := 0) (by decide +kernel) rfl ⟨rfl, rfl⟩ (by decide) (by decide) rfl rfl rfl (Nat.le_of_ble_eq_true rfl) ⟨Nat.zero_le _, Nat.zero_le _⟩ dX0_next_29 (fun v3 s3 _ => ?_)
        refine r_goto (pc := 32) (tgt := 39) C dX0_next_32 (by decide) ?_
        exact r_iret (pc := 39) C dX0_next_39
    · refine r_aload_n (pc := 35) C dX0_next_35 rfl ?_
      refine r_callV (pc := 36) C 3 (c_X0_nextOfSeed (zO.ap C)  _) lk_c_X0_nextOfSeed lk_i_X0 lk_m_X0_44 lk_n_X0_nextOfSeed lk_v_X0_nextOfSeed (n := 0) (by decide +kernel) rfl ⟨rfl, rfl⟩ (by decide) (by decide) rfl rfl rfl (Nat.le_of_ble_eq_true rfl) ⟨Nat.zero_le _, Nat.zero_le _⟩ dX0_next_36 (fun v1 s1 _ => ?_)
      exact r_iret (pc := 39) C dX0_next_39
theorem c_X0_next {E : zG} (hAp : zAp E) (σ : zS) : zM E yX0_next cX0_next 1 (some .int) rm_X0_next (fun r : Int32 => some (.int r)) [.ref (zad E 3)] (f_X0_next σ) σ :=
  zM_of (nn := 0) hAp (by decide) (Nat.le_of_ble_eq_true rfl) rfl rfl (fun Γ C => g_X0_next C σ)
set_option maxHeartbeats 4000000 in
set_option maxRecDepth 100000 in
theorem g_X0_draw {E : zG} {Γ : zX} (C : zO E Γ RX0 cX0_draw 2 (some .int)) (p0 : Int32) (σ : zS) : zJ E Γ rm_X0_draw 2 (fun r : Int32 => some (.int r)) (f_X0_draw p0 σ) σ 0 [some (.ref (zad E 3)), some (.int p0)] [] := by
  unfold f_X0_draw
  refine r_iload_n (pc := 0) C dX0_draw_0 rfl ?_
  refine r_if_le (pc := 1) (tgt := 13) C dX0_draw_1 (by decide) (fun _ => ?_) (fun _ => ?_)
  · refine r_iload_n (pc := 13) C dX0_draw_13 rfl ?_
    refine r_if_ne (pc := 14) (tgt := 25) C dX0_draw_14 (by decide) (fun _ => ?_) (fun _ => ?_)
    · refine r_aload_n (pc := 17) C dX0_draw_17 rfl ?_
      refine r_iconst (pc := 18) (v := 2) C dX0_draw_18 (by decide) ?_
      refine r_put (pc := 19) C K_X0 3 3 (by decide) rfl (by decide) lk_f_X0_15 rfl rfl (Nat.le_of_ble_eq_true rfl) rfl dX0_draw_19 (fun s6 _ => ?_)
      refine r_goto (pc := 22) (tgt := 63) C dX0_draw_22 (by decide) ?_
      refine r_iconst (pc := 63) (v := 0) C dX0_draw_63 (by decide) ?_
      exact r_iret (pc := 64) C dX0_draw_64
    · refine r_iload_n (pc := 25) C dX0_draw_25 rfl ?_
      refine r_ineg (pc := 26) C dX0_draw_26 ?_
      refine r_sipush (pc := 27) (v := 1000) C dX0_draw_27 (by decide) ?_
      refine r_icmp_ge (pc := 30) (tgt := 52) C dX0_draw_30 (by decide) (fun _ => ?_) (fun _ => ?_)
      · refine r_aload_n (pc := 52) C dX0_draw_52 rfl ?_
        refine r_iconst (pc := 53) (v := 0) C dX0_draw_53 (by decide) ?_
        refine r_put (pc := 54) C K_X0 3 3 (by decide) rfl (by decide) lk_f_X0_15 rfl rfl (Nat.le_of_ble_eq_true rfl) rfl dX0_draw_54 (fun s1 _ => ?_)
        refine r_aload_n (pc := 57) C dX0_draw_57 rfl ?_
        refine r_iload_n (pc := 58) C dX0_draw_58 rfl ?_
        refine r_ineg (pc := 59) C dX0_draw_59 ?_
        refine r_put (pc := 60) C K_X0 3 4 (by decide) rfl (by decide) lk_f_X0_19 rfl rfl (Nat.le_of_ble_eq_true rfl) rfl dX0_draw_60 (fun s2 _ => ?_)
        refine r_iconst (pc := 63) (v := 0) C dX0_draw_63 (by decide) ?_
        exact r_iret (pc := 64) C dX0_draw_64
      · refine r_aload_n (pc := 33) C dX0_draw_33 rfl ?_
        refine r_iconst (pc := 34) (v := 1) C dX0_draw_34 (by decide) ?_
        refine r_put (pc := 35) C K_X0 3 3 (by decide) rfl (by decide) lk_f_X0_15 rfl rfl (Nat.le_of_ble_eq_true rfl) rfl dX0_draw_35 (fun s3 _ => ?_)
        refine r_aload_n (pc := 38) C dX0_draw_38 rfl ?_
        refine r_iload_n (pc := 39) C dX0_draw_39 rfl ?_
        refine r_ineg (pc := 40) C dX0_draw_40 ?_
        refine r_put (pc := 41) C K_X0 3 6 (by decide) rfl (by decide) lk_f_X0_32 rfl rfl (Nat.le_of_ble_eq_true rfl) rfl dX0_draw_41 (fun s4 _ => ?_)
        refine r_aload_n (pc := 44) C dX0_draw_44 rfl ?_
        refine r_iconst (pc := 45) (v := 0) C dX0_draw_45 (by decide) ?_
        refine r_put (pc := 46) C K_X0 3 5 (by decide) rfl (by decide) lk_f_X0_35 rfl rfl (Nat.le_of_ble_eq_true rfl) rfl dX0_draw_46 (fun s5 _ => ?_)
        refine r_goto (pc := 49) (tgt := 63) C dX0_draw_49 (by decide) ?_
        refine r_iconst (pc := 63) (v := 0) C dX0_draw_63 (by decide) ?_
        exact r_iret (pc := 64) C dX0_draw_64
  · refine r_aload_n (pc := 4) C dX0_draw_4 rfl ?_
    refine r_callV (pc := 5) C 3 (c_X0_next (zO.ap C)  _) lk_c_X0_next lk_i_X0 lk_m_X0_28 lk_n_X0_next lk_v_X0_next (n := 0) (by decide +kernel) rfl ⟨rfl, rfl⟩ (by decide) (by decide) rfl rfl rfl (Nat.le_of_ble_eq_true rfl) ⟨Nat.zero_le _, Nat.zero_le _⟩ dX0_draw_5 (fun v1 s7 _ => ?_)
    refine r_iload_n (pc := 8) C dX0_draw_8 rfl ?_
    refine r_irem (pc := 9) C dX0_draw_9 ?_
    refine r_iconst (pc := 10) (v := 1) C dX0_draw_10 (by decide) ?_
    refine r_iadd (pc := 11) C dX0_draw_11 ?_
    exact r_iret (pc := 12) C dX0_draw_12
theorem c_X0_draw {E : zG} (hAp : zAp E) (p0 : Int32) (σ : zS) : zM E yX0_draw cX0_draw 2 (some .int) rm_X0_draw (fun r : Int32 => some (.int r)) [.ref (zad E 3), .int p0] (f_X0_draw p0 σ) σ :=
  zM_of (nn := 0) hAp (by decide) (Nat.le_of_ble_eq_true rfl) rfl rfl (fun Γ C => g_X0_draw C p0 σ)
set_option maxHeartbeats 4000000 in
set_option maxRecDepth 100000 in
theorem g_X1_hasLocal {E : zG} {Γ : zX} (C : zO E Γ RX1 cX1_hasLocal 2 (some .boolean)) {i : Nat} (hi : i < 12) (p0 : Int32) (σ : zS) : zJ E Γ rm_X1_hasLocal 2 (fun r : Int32 => some (.int r)) (f_X1_hasLocal i p0 σ) σ 0 [some (.ref (zad E (16 + 2 * i))), some (.int p0)] [] := by
  unfold f_X1_hasLocal
  refine r_iload_n (pc := 0) C dX1_hasLocal_0 rfl ?_
  refine r_iconst (pc := 1) (v := 1) C dX1_hasLocal_1 (by decide) ?_
  refine r_icmp_lt (pc := 2) (tgt := 17) C dX1_hasLocal_2 (by decide) (fun _ => ?_) (fun _ => ?_)
  · refine r_iconst (pc := 17) (v := 0) C dX1_hasLocal_17 (by decide) ?_
    exact r_zret (pc := 18) C (by first | rfl | decide) dX1_hasLocal_18
  · refine r_iload_n (pc := 5) C dX1_hasLocal_5 rfl ?_
    refine r_aload_n (pc := 6) C dX1_hasLocal_6 rfl ?_
    refine r_get (pc := 7) C K_X1 (16 + 2 * i) 1 (lt_F hi) (ly_F hi _) (by decide) lk_f_X1_19 rfl dX1_hasLocal_7 ?_
    refine r_icmp_gt (pc := 10) (tgt := 17) C dX1_hasLocal_10 (by decide) (fun _ => ?_) (fun _ => ?_)
    · refine r_iconst (pc := 17) (v := 0) C dX1_hasLocal_17 (by decide) ?_
      exact r_zret (pc := 18) C (by first | rfl | decide) dX1_hasLocal_18
    · refine r_iconst (pc := 13) (v := 1) C dX1_hasLocal_13 (by decide) ?_
      refine r_goto (pc := 14) (tgt := 18) C dX1_hasLocal_14 (by decide) ?_
      exact r_zret (pc := 18) C (by first | rfl | decide) dX1_hasLocal_18
theorem c_X1_hasLocal {E : zG} (hAp : zAp E) {i : Nat} (hi : i < 12) (p0 : Int32) (σ : zS) : zM E yX1_hasLocal cX1_hasLocal 2 (some .boolean) rm_X1_hasLocal (fun r : Int32 => some (.int r)) [.ref (zad E (16 + 2 * i)), .int p0] (f_X1_hasLocal i p0 σ) σ :=
  zM_of (nn := 0) hAp (by decide) (Nat.le_of_ble_eq_true rfl) rfl rfl (fun Γ C => g_X1_hasLocal C hi p0 σ)
set_option maxHeartbeats 4000000 in
set_option maxRecDepth 100000 in
theorem g_X1_local {E : zG} {Γ : zX} (C : zO E Γ RX1 cX1_local 2 (some .int)) {i : Nat} (hi : i < 12) (p0 : Int32) (σ : zS) : zJ E Γ rm_X1_local 2 (fun r : Int32 => some (.int r)) (f_X1_local i p0 σ) σ 0 [some (.ref (zad E (16 + 2 * i))), some (.int p0)] [] := by
  unfold f_X1_local
  refine r_aload_n (pc := 0) C dX1_local_0 rfl ?_
  refine r_iload_n (pc := 1) C dX1_local_1 rfl ?_
  refine r_callV (pc := 2) C (16 + 2 * i) (c_X1_hasLocal (zO.ap C) hi _ _) lk_c_X1_hasLocal lk_i_X1 lk_m_X1_15 lk_n_X1_hasLocal lk_v_X1_hasLocal (n := 1) (by decide +kernel) rfl ⟨rfl, rfl⟩ (by decide) (lt_F hi) (ly_F hi _) rfl rfl (Nat.le_of_ble_eq_true rfl) ⟨Nat.zero_le _, Nat.zero_le _⟩ dX1_local_2 (fun v1 s1 _ => ?_)
  refine r_if_eq (pc := 5) (tgt := 19) C dX1_local_5 (by decide) (fun _ => ?_) (fun _ => ?_)
  · refine r_bipush (pc := 19) (v := -17) C dX1_local_19 (by decide) ?_
    exact r_iret (pc := 21) C dX1_local_21
  · refine r_aload_n (pc := 8) C dX1_local_8 rfl ?_
    refine r_get (pc := 9) C K_X1 (16 + 2 * i) 0 (lt_F hi) (ly_F hi _) (by decide) lk_f_X1_9 rfl dX1_local_9 ?_
    refine r_iload_n (pc := 12) C dX1_local_12 rfl ?_
    refine r_iconst (pc := 13) (v := 1) C dX1_local_13 (by decide) ?_
    refine r_isub (pc := 14) C dX1_local_14 ?_
    refine r_iald (pc := 15) (t0 := 0) C (17 + 2 * i) (lt_FL hi) (ly_FL hi _) rfl dX1_local_15 ?_
    refine r_goto (pc := 16) (tgt := 21) C dX1_local_16 (by decide) ?_
    exact r_iret (pc := 21) C dX1_local_21
theorem c_X1_local {E : zG} (hAp : zAp E) {i : Nat} (hi : i < 12) (p0 : Int32) (σ : zS) : zM E yX1_local cX1_local 2 (some .int) rm_X1_local (fun r : Int32 => some (.int r)) [.ref (zad E (16 + 2 * i)), .int p0] (f_X1_local i p0 σ) σ :=
  zM_of (nn := 0) hAp (by decide) (Nat.le_of_ble_eq_true rfl) rfl rfl (fun Γ C => g_X1_local C hi p0 σ)
set_option maxHeartbeats 4000000 in
set_option maxRecDepth 100000 in
theorem g_X1_setLocal {E : zG} {Γ : zX} (C : zO E Γ RX1 cX1_setLocal 3 (some .int)) {i : Nat} (hi : i < 12) (p0 : Int32) (p1 : Int32) (σ : zS) : zJ E Γ rm_X1_setLocal 3 (fun r : Int32 => some (.int r)) (f_X1_setLocal i p0 p1 σ) σ 0 [some (.ref (zad E (16 + 2 * i))), some (.int p0), some (.int p1)] [] := by
  unfold f_X1_setLocal
  refine r_aload_n (pc := 0) C dX1_setLocal_0 rfl ?_
  refine r_iload_n (pc := 1) C dX1_setLocal_1 rfl ?_
  refine r_callV (pc := 2) C (16 + 2 * i) (c_X1_hasLocal (zO.ap C) hi _ _) lk_c_X1_hasLocal lk_i_X1 lk_m_X1_15 lk_n_X1_hasLocal lk_v_X1_hasLocal (n := 1) (by decide +kernel) rfl ⟨rfl, rfl⟩ (by decide) (lt_F hi) (ly_F hi _) rfl rfl (Nat.le_of_ble_eq_true rfl) ⟨Nat.zero_le _, Nat.zero_le _⟩ dX1_setLocal_2 (fun v1 s1 _ => ?_)
  refine r_if_ne (pc := 5) (tgt := 11) C dX1_setLocal_5 (by decide) (fun _ => ?_) (fun _ => ?_)
  · refine r_bipush (pc := 8) (v := -17) C dX1_setLocal_8 (by decide) ?_
    exact r_iret (pc := 10) C dX1_setLocal_10
  · refine r_aload_n (pc := 11) C dX1_setLocal_11 rfl ?_
    refine r_get (pc := 12) C K_X1 (16 + 2 * i) 0 (lt_F hi) (ly_F hi _) (by decide) lk_f_X1_9 rfl dX1_setLocal_12 ?_
    refine r_iload_n (pc := 15) C dX1_setLocal_15 rfl ?_
    refine r_iconst (pc := 16) (v := 1) C dX1_setLocal_16 (by decide) ?_
    refine r_isub (pc := 17) C dX1_setLocal_17 ?_
    refine r_iload_n (pc := 18) C dX1_setLocal_18 rfl ?_
    refine r_iast (pc := 19) (t0 := 0) C (17 + 2 * i) (lt_FL hi) (ly_FL hi _) (fun f => ly_FL hi f) rfl dX1_setLocal_19 (fun s2 _ => ?_)
    refine r_iconst (pc := 20) (v := 1) C dX1_setLocal_20 (by decide) ?_
    exact r_iret (pc := 21) C dX1_setLocal_21
theorem c_X1_setLocal {E : zG} (hAp : zAp E) {i : Nat} (hi : i < 12) (p0 : Int32) (p1 : Int32) (σ : zS) : zM E yX1_setLocal cX1_setLocal 3 (some .int) rm_X1_setLocal (fun r : Int32 => some (.int r)) [.ref (zad E (16 + 2 * i)), .int p0, .int p1] (f_X1_setLocal i p0 p1 σ) σ :=
  zM_of (nn := 0) hAp (by decide) (Nat.le_of_ble_eq_true rfl) rfl rfl (fun Γ C => g_X1_setLocal C hi p0 p1 σ)
set_option maxHeartbeats 4000000 in
set_option maxRecDepth 100000 in
theorem g_X2_begin {E : zG} {Γ : zX} (C : zO E Γ RX2 cX2_begin 1 none) (σ : zS) : zJ E Γ rm_X2_begin 1 (fun _ : Unit => none) (f_X2_begin σ) σ 0 [some (.ref (zad E 14))] [] := by
  unfold f_X2_begin
  refine r_aload_n (pc := 0) C dX2_begin_0 rfl ?_
  refine r_iconst (pc := 1) (v := 0) C dX2_begin_1 (by decide) ?_
  refine r_put (pc := 2) C K_X2 14 2 (by decide) rfl (by decide) lk_f_X2_22 rfl rfl (Nat.le_of_ble_eq_true rfl) rfl dX2_begin_2 (fun s1 _ => ?_)
  refine r_aload_n (pc := 5) C dX2_begin_5 rfl ?_
  refine r_iconst (pc := 6) (v := 0) C dX2_begin_6 (by decide) ?_
  refine r_put (pc := 7) C K_X2 14 3 (by decide) rfl (by decide) lk_f_X2_26 rfl rfl (Nat.le_of_ble_eq_true rfl) rfl dX2_begin_7 (fun s2 _ => ?_)
  refine r_aload_n (pc := 10) C dX2_begin_10 rfl ?_
  refine r_iconst (pc := 11) (v := 0) C dX2_begin_11 (by decide) ?_
  refine r_put (pc := 12) C K_X2 14 4 (by decide) rfl (by decide) lk_f_X2_29 rfl rfl (Nat.le_of_ble_eq_true rfl) rfl dX2_begin_12 (fun s3 _ => ?_)
  exact r_vret (pc := 15) C dX2_begin_15
theorem c_X2_begin {E : zG} (hAp : zAp E) (σ : zS) : zM E yX2_begin cX2_begin 1 none rm_X2_begin (fun _ : Unit => none) [.ref (zad E 14)] (f_X2_begin σ) σ :=
  zM_of (nn := 0) hAp (by decide) (Nat.le_of_ble_eq_true rfl) rfl rfl (fun Γ C => g_X2_begin C σ)
set_option maxHeartbeats 4000000 in
set_option maxRecDepth 100000 in
theorem g_X2_top {E : zG} {Γ : zX} (C : zO E Γ RX2 cX2_top 1 (some (.object "ZMemory$Frame"))) (σ : zS) : zJ E Γ rm_X2_top 1 (zrf E 16) (f_X2_top σ) σ 0 [some (.ref (zad E 14))] [] := by
  unfold f_X2_top
  refine r_aload_n (pc := 0) C dX2_top_0 rfl ?_
  refine r_get (pc := 1) C K_X2 14 0 (by decide) rfl (by decide) lk_f_X2_11 rfl dX2_top_1 ?_
  refine r_aload_n (pc := 4) C dX2_top_4 rfl ?_
  refine r_get (pc := 5) C K_X2 14 3 (by decide) rfl (by decide) lk_f_X2_26 rfl dX2_top_5 ?_
  refine r_if_le (pc := 8) (tgt := 20) C dX2_top_8 (by decide) (fun _ => ?_) (fun _ => ?_)
  · refine r_iconst (pc := 20) (v := 0) C dX2_top_20 (by decide) ?_
    refine r_aald (pc := 21) (t0 := 2) C 15 (by decide) rfl rfl (zad E (16 + 2 * ((0 : Int32)).toNatClampNeg)) (fun _ => rfl) dX2_top_21 (fun h1 => ?_)
    exact r_aret (pc := 22) (v := ((0 : Int32)).toNatClampNeg) C rfl dX2_top_22
  · refine r_aload_n (pc := 11) C dX2_top_11 rfl ?_
    refine r_get (pc := 12) C K_X2 14 3 (by decide) rfl (by decide) lk_f_X2_26 rfl dX2_top_12 ?_
    refine r_iconst (pc := 15) (v := 1) C dX2_top_15 (by decide) ?_
    refine r_isub (pc := 16) C dX2_top_16 ?_
    refine r_goto (pc := 17) (tgt := 21) C dX2_top_17 (by decide) ?_
    refine r_aald (pc := 21) (t0 := 2) C 15 (by decide) rfl rfl (zad E (16 + 2 * (((σ 14 3) - (1 : Int32))).toNatClampNeg)) (fun _ => rfl) dX2_top_21 (fun h2 => ?_)
    exact r_aret (pc := 22) (v := (((σ 14 3) - (1 : Int32))).toNatClampNeg) C rfl dX2_top_22
theorem c_X2_top {E : zG} (hAp : zAp E) (σ : zS) : zM E yX2_top cX2_top 1 (some (.object "ZMemory$Frame")) rm_X2_top (zrf E 16) [.ref (zad E 14)] (f_X2_top σ) σ :=
  zM_of (nn := 0) hAp (by decide) (Nat.le_of_ble_eq_true rfl) rfl rfl (fun Γ C => g_X2_top C σ)
set_option maxHeartbeats 4000000 in
set_option maxRecDepth 100000 in
theorem g_X2_enter {E : zG} {Γ : zX} (C : zO E Γ RX2 cX2_enter 2 (some (.object "ZMemory$Frame"))) (σ : zS) : zJ E Γ rm_X2_enter 2 (zrf E 16) (f_X2_enter σ) σ 0 [some (.ref (zad E 14)), none] [] := by
  unfold f_X2_enter
  refine r_aload_n (pc := 0) C dX2_enter_0 rfl ?_
  refine r_get (pc := 1) C K_X2 14 3 (by decide) rfl (by decide) lk_f_X2_26 rfl dX2_enter_1 ?_
  refine r_bipush (pc := 4) (v := 12) C dX2_enter_4 (by decide) ?_
  refine r_icmp_lt (pc := 6) (tgt := 11) C dX2_enter_6 (by decide) (fun _ => ?_) (fun _ => ?_)
  · refine r_aload_n (pc := 11) C dX2_enter_11 rfl ?_
    refine r_get (pc := 12) C K_X2 14 0 (by decide) rfl (by decide) lk_f_X2_11 rfl dX2_enter_12 ?_
    refine r_aload_n (pc := 15) C dX2_enter_15 rfl ?_
    refine r_get (pc := 16) C K_X2 14 3 (by decide) rfl (by decide) lk_f_X2_26 rfl dX2_enter_16 ?_
    refine r_aald (pc := 19) (t0 := 2) C 15 (by decide) rfl rfl (zad E (16 + 2 * ((σ 14 3)).toNatClampNeg)) (fun _ => rfl) dX2_enter_19 (fun h1 => ?_)
    refine r_astore_n (pc := 20) (lv' := [some (.ref (zad E 14)), some (.ref (zad E (16 + 2 * ((σ 14 3)).toNatClampNeg)))]) C dX2_enter_20 (by decide) rfl ?_
    refine r_aload_n (pc := 21) C dX2_enter_21 rfl ?_
    refine r_getN (pc := 22) C K_X1 (16 + 2 * ((σ 14 3)).toNatClampNeg) 0 (lt_F h1) (ly_F h1 _) (by decide) lk_fn_X2_32 rfl dX2_enter_22 ?_
    refine r_iconst (pc := 25) (v := 0) C dX2_enter_25 (by decide) ?_
    refine r_fill (pc := 26) C (17 + 2 * ((σ 14 3)).toNatClampNeg) (lt_FL h1) (fun f => ly_FL h1 f) (by decide) lk_m_X2_35 (by decide) (Nat.le_of_ble_eq_true rfl) ⟨Nat.zero_le _, Nat.zero_le _⟩ dX2_enter_26 (fun s1 _ => ?_)
    refine r_aload_n (pc := 29) C dX2_enter_29 rfl ?_
    refine r_aload_n (pc := 30) C dX2_enter_30 rfl ?_
    refine r_get (pc := 31) C K_X2 14 2 (by decide) rfl (by decide) lk_f_X2_22 rfl dX2_enter_31 ?_
    refine r_putN (pc := 34) C K_X1 (16 + 2 * ((σ 14 3)).toNatClampNeg) 5 (lt_F h1) (ly_F h1 _) (by decide) lk_fn_X2_41 rfl rfl (Nat.le_of_ble_eq_true rfl) (ly_Fs h1 _ 5 _ (by decide)) dX2_enter_34 (fun s2 _ => ?_)
    refine r_aload_n (pc := 37) C dX2_enter_37 rfl ?_
    refine r_dup (pc := 38) C dX2_enter_38 rfl ?_
    refine r_get (pc := 39) C K_X2 14 3 (by decide) rfl (by decide) lk_f_X2_26 rfl dX2_enter_39 ?_
    refine r_iconst (pc := 42) (v := 1) C dX2_enter_42 (by decide) ?_
    refine r_iadd (pc := 43) C dX2_enter_43 ?_
    refine r_put (pc := 44) C K_X2 14 3 (by decide) rfl (by decide) lk_f_X2_26 rfl rfl (Nat.le_of_ble_eq_true rfl) rfl dX2_enter_44 (fun s3 _ => ?_)
    refine r_aload_n (pc := 47) C dX2_enter_47 rfl ?_
    refine r_aload_n (pc := 48) C dX2_enter_48 rfl ?_
    refine r_get (pc := 49) C K_X2 14 4 (by decide) rfl (by decide) lk_f_X2_29 rfl dX2_enter_49 ?_
    refine r_aload_n (pc := 52) C dX2_enter_52 rfl ?_
    refine r_get (pc := 53) C K_X2 14 3 (by decide) rfl (by decide) lk_f_X2_26 rfl dX2_enter_53 ?_
    refine r_mmax (pc := 56) C lk_m_X2_44 lk_ms_max lk_mi lk_mc_max (by decide) (Nat.le_of_ble_eq_true rfl) ⟨Nat.zero_le _, Nat.zero_le _⟩ dX2_enter_56 ?_
    refine r_put (pc := 59) C K_X2 14 4 (by decide) rfl (by decide) lk_f_X2_29 rfl rfl (Nat.le_of_ble_eq_true rfl) rfl dX2_enter_59 (fun s4 _ => ?_)
    refine r_aload_n (pc := 62) C dX2_enter_62 rfl ?_
    exact r_aret (pc := 63) (v := ((σ 14 3)).toNatClampNeg) C rfl dX2_enter_63
  · refine r_null (pc := 9) C dX2_enter_9 ?_
    exact r_aretN (pc := 10) C rfl dX2_enter_10
theorem c_X2_enter {E : zG} (hAp : zAp E) (σ : zS) : zM E yX2_enter cX2_enter 2 (some (.object "ZMemory$Frame")) rm_X2_enter (zrf E 16) [.ref (zad E 14)] (f_X2_enter σ) σ :=
  zM_of (nn := 1) hAp (by decide) (Nat.le_of_ble_eq_true rfl) rfl rfl (fun Γ C => g_X2_enter C σ)
set_option maxHeartbeats 4000000 in
set_option maxRecDepth 100000 in
theorem g_X2_leave {E : zG} {Γ : zX} (C : zO E Γ RX2 cX2_leave 1 none) (σ : zS) : zJ E Γ rm_X2_leave 1 (fun _ : Unit => none) (f_X2_leave σ) σ 0 [some (.ref (zad E 14))] [] := by
  unfold f_X2_leave
  refine r_aload_n (pc := 0) C dX2_leave_0 rfl ?_
  refine r_get (pc := 1) C K_X2 14 3 (by decide) rfl (by decide) lk_f_X2_26 rfl dX2_leave_1 ?_
  refine r_if_le (pc := 4) (tgt := 33) C dX2_leave_4 (by decide) (fun _ => ?_) (fun _ => ?_)
  · exact r_vret (pc := 33) C dX2_leave_33
  · refine r_aload_n (pc := 7) C dX2_leave_7 rfl ?_
    refine r_dup (pc := 8) C dX2_leave_8 rfl ?_
    refine r_get (pc := 9) C K_X2 14 3 (by decide) rfl (by decide) lk_f_X2_26 rfl dX2_leave_9 ?_
    refine r_iconst (pc := 12) (v := 1) C dX2_leave_12 (by decide) ?_
    refine r_isub (pc := 13) C dX2_leave_13 ?_
    refine r_put (pc := 14) C K_X2 14 3 (by decide) rfl (by decide) lk_f_X2_26 rfl rfl (Nat.le_of_ble_eq_true rfl) rfl dX2_leave_14 (fun s1 _ => ?_)
    refine r_aload_n (pc := 17) C dX2_leave_17 rfl ?_
    refine r_aload_n (pc := 18) C dX2_leave_18 rfl ?_
    refine r_get (pc := 19) C K_X2 14 0 (by decide) rfl (by decide) lk_f_X2_11 rfl dX2_leave_19 ?_
    refine r_aload_n (pc := 22) C dX2_leave_22 rfl ?_
    refine r_get (pc := 23) C K_X2 14 3 (by decide) rfl (by decide) lk_f_X2_26 rfl dX2_leave_23 ?_
    refine r_aald (pc := 26) (t0 := 2) C 15 (by decide) rfl rfl (zad E (16 + 2 * ((s1 14 3)).toNatClampNeg)) (fun _ => rfl) dX2_leave_26 (fun h1 => ?_)
    refine r_getN (pc := 27) C K_X1 (16 + 2 * ((s1 14 3)).toNatClampNeg) 5 (lt_F h1) (ly_F h1 _) (by decide) lk_fn_X2_41 rfl dX2_leave_27 ?_
    refine r_put (pc := 30) C K_X2 14 2 (by decide) rfl (by decide) lk_f_X2_22 rfl rfl (Nat.le_of_ble_eq_true rfl) rfl dX2_leave_30 (fun s2 _ => ?_)
    exact r_vret (pc := 33) C dX2_leave_33
theorem c_X2_leave {E : zG} (hAp : zAp E) (σ : zS) : zM E yX2_leave cX2_leave 1 none rm_X2_leave (fun _ : Unit => none) [.ref (zad E 14)] (f_X2_leave σ) σ :=
  zM_of (nn := 0) hAp (by decide) (Nat.le_of_ble_eq_true rfl) rfl rfl (fun Γ C => g_X2_leave C σ)
set_option maxHeartbeats 4000000 in
set_option maxRecDepth 100000 in
theorem g_X2_pop {E : zG} {Γ : zX} (C : zO E Γ RX2 cX2_pop 1 (some .int)) (σ : zS) : zJ E Γ rm_X2_pop 1 (fun r : Int32 => some (.int r)) (f_X2_pop σ) σ 0 [some (.ref (zad E 14))] [] := by
  unfold f_X2_pop
  refine r_aload_n (pc := 0) C dX2_pop_0 rfl ?_
  refine r_get (pc := 1) C K_X2 14 2 (by decide) rfl (by decide) lk_f_X2_22 rfl dX2_pop_1 ?_
  refine r_aload_n (pc := 4) C dX2_pop_4 rfl ?_
  refine r_callV (pc := 5) C 14 (c_X2_top (zO.ap C)  _) lk_c_X2_top lk_i_X2 lk_m_X2_50 lk_n_X2_top lk_v_X2_top (n := 0) (by decide +kernel) rfl ⟨rfl, rfl⟩ (by decide) (by decide) rfl rfl rfl (Nat.le_of_ble_eq_true rfl) ⟨Nat.zero_le _, Nat.zero_le _⟩ dX2_pop_5 (fun v1 s1 _ => ?_)
  refine r_op (fun _ => ?_) (fun v2 h1 _ => ?_)
  · exact r_none
  · refine r_getN (pc := 8) C K_X1 (16 + 2 * v2) 5 (lt_F h1) (ly_F h1 _) (by decide) lk_fn_X2_41 rfl dX2_pop_8 ?_
    refine r_icmp_gt (pc := 11) (tgt := 17) C dX2_pop_11 (by decide) (fun _ => ?_) (fun _ => ?_)
    · refine r_aload_n (pc := 17) C dX2_pop_17 rfl ?_
      refine r_dup (pc := 18) C dX2_pop_18 rfl ?_
      refine r_get (pc := 19) C K_X2 14 2 (by decide) rfl (by decide) lk_f_X2_22 rfl dX2_pop_19 ?_
      refine r_iconst (pc := 22) (v := 1) C dX2_pop_22 (by decide) ?_
      refine r_isub (pc := 23) C dX2_pop_23 ?_
      refine r_put (pc := 24) C K_X2 14 2 (by decide) rfl (by decide) lk_f_X2_22 rfl rfl (Nat.le_of_ble_eq_true rfl) rfl dX2_pop_24 (fun s2 _ => ?_)
      refine r_aload_n (pc := 27) C dX2_pop_27 rfl ?_
      refine r_get (pc := 28) C K_X2 14 1 (by decide) rfl (by decide) lk_f_X2_17 rfl dX2_pop_28 ?_
      refine r_aload_n (pc := 31) C dX2_pop_31 rfl ?_
      refine r_get (pc := 32) C K_X2 14 2 (by decide) rfl (by decide) lk_f_X2_22 rfl dX2_pop_32 ?_
      refine r_iald (pc := 35) (t0 := 0) C 40 (by decide) rfl rfl dX2_pop_35 ?_
      exact r_iret (pc := 36) C dX2_pop_36
    · refine r_bipush (pc := 14) (v := -14) C dX2_pop_14 (by decide) ?_
      exact r_iret (pc := 16) C dX2_pop_16
theorem c_X2_pop {E : zG} (hAp : zAp E) (σ : zS) : zM E yX2_pop cX2_pop 1 (some .int) rm_X2_pop (fun r : Int32 => some (.int r)) [.ref (zad E 14)] (f_X2_pop σ) σ :=
  zM_of (nn := 0) hAp (by decide) (Nat.le_of_ble_eq_true rfl) rfl rfl (fun Γ C => g_X2_pop C σ)
set_option maxHeartbeats 4000000 in
set_option maxRecDepth 100000 in
theorem g_X2_push {E : zG} {Γ : zX} (C : zO E Γ RX2 cX2_push 2 (some .int)) (p0 : Int32) (σ : zS) : zJ E Γ rm_X2_push 2 (fun r : Int32 => some (.int r)) (f_X2_push p0 σ) σ 0 [some (.ref (zad E 14)), some (.int p0)] [] := by
  unfold f_X2_push
  refine r_aload_n (pc := 0) C dX2_push_0 rfl ?_
  refine r_get (pc := 1) C K_X2 14 2 (by decide) rfl (by decide) lk_f_X2_22 rfl dX2_push_1 ?_
  refine r_bipush (pc := 4) (v := 100) C dX2_push_4 (by decide) ?_
  refine r_icmp_lt (pc := 6) (tgt := 12) C dX2_push_6 (by decide) (fun _ => ?_) (fun _ => ?_)
  · refine r_aload_n (pc := 12) C dX2_push_12 rfl ?_
    refine r_get (pc := 13) C K_X2 14 1 (by decide) rfl (by decide) lk_f_X2_17 rfl dX2_push_13 ?_
    refine r_aload_n (pc := 16) C dX2_push_16 rfl ?_
    refine r_get (pc := 17) C K_X2 14 2 (by decide) rfl (by decide) lk_f_X2_22 rfl dX2_push_17 ?_
    refine r_iload_n (pc := 20) C dX2_push_20 rfl ?_
    refine r_iast (pc := 21) (t0 := 0) C 40 (by decide) rfl (fun _ => rfl) rfl dX2_push_21 (fun s1 _ => ?_)
    refine r_aload_n (pc := 22) C dX2_push_22 rfl ?_
    refine r_dup (pc := 23) C dX2_push_23 rfl ?_
    refine r_get (pc := 24) C K_X2 14 2 (by decide) rfl (by decide) lk_f_X2_22 rfl dX2_push_24 ?_
    refine r_iconst (pc := 27) (v := 1) C dX2_push_27 (by decide) ?_
    refine r_iadd (pc := 28) C dX2_push_28 ?_
    refine r_put (pc := 29) C K_X2 14 2 (by decide) rfl (by decide) lk_f_X2_22 rfl rfl (Nat.le_of_ble_eq_true rfl) rfl dX2_push_29 (fun s2 _ => ?_)
    refine r_iconst (pc := 32) (v := 1) C dX2_push_32 (by decide) ?_
    exact r_iret (pc := 33) C dX2_push_33
  · refine r_bipush (pc := 9) (v := -15) C dX2_push_9 (by decide) ?_
    exact r_iret (pc := 11) C dX2_push_11
theorem c_X2_push {E : zG} (hAp : zAp E) (p0 : Int32) (σ : zS) : zM E yX2_push cX2_push 2 (some .int) rm_X2_push (fun r : Int32 => some (.int r)) [.ref (zad E 14), .int p0] (f_X2_push p0 σ) σ :=
  zM_of (nn := 0) hAp (by decide) (Nat.le_of_ble_eq_true rfl) rfl rfl (fun Γ C => g_X2_push C p0 σ)
set_option maxHeartbeats 4000000 in
set_option maxRecDepth 100000 in
theorem g_X3_begin {E : zG} {Γ : zX} (C : zO E Γ RX3 cX3_begin 3 none) (p0 : Int32) (p1 : Int32) (σ : zS) : zJ E Γ rm_X3_begin 3 (fun _ : Unit => none) (f_X3_begin p0 p1 σ) σ 0 [some (.ref (zad E 1)), some (.int p0), some (.int p1)] [] := by
  unfold f_X3_begin
  refine r_aload_n (pc := 0) C dX3_begin_0 rfl ?_
  refine r_get (pc := 1) C K_X3 1 0 (by decide) rfl (by decide) lk_f_X3_9 rfl dX3_begin_1 ?_
  refine r_iconst (pc := 4) (v := 0) C dX3_begin_4 (by decide) ?_
  refine r_fill (pc := 5) C 2 (by decide) (fun _ => rfl) (by decide) lk_m_X3_15 (by decide) (Nat.le_of_ble_eq_true rfl) ⟨Nat.zero_le _, Nat.zero_le _⟩ dX3_begin_5 (fun s1 _ => ?_)
  refine r_aload_n (pc := 8) C dX3_begin_8 rfl ?_
  refine r_iload_n (pc := 9) C dX3_begin_9 rfl ?_
  refine r_put (pc := 10) C K_X3 1 1 (by decide) rfl (by decide) lk_f_X3_21 rfl rfl (Nat.le_of_ble_eq_true rfl) rfl dX3_begin_10 (fun s2 _ => ?_)
  refine r_aload_n (pc := 13) C dX3_begin_13 rfl ?_
  refine r_iload_n (pc := 14) C dX3_begin_14 rfl ?_
  refine r_put (pc := 15) C K_X3 1 2 (by decide) rfl (by decide) lk_f_X3_25 rfl rfl (Nat.le_of_ble_eq_true rfl) rfl dX3_begin_15 (fun s3 _ => ?_)
  exact r_vret (pc := 18) C dX3_begin_18
theorem c_X3_begin {E : zG} (hAp : zAp E) (p0 : Int32) (p1 : Int32) (σ : zS) : zM E yX3_begin cX3_begin 3 none rm_X3_begin (fun _ : Unit => none) [.ref (zad E 1), .int p0, .int p1] (f_X3_begin p0 p1 σ) σ :=
  zM_of (nn := 0) hAp (by decide) (Nat.le_of_ble_eq_true rfl) rfl rfl (fun Γ C => g_X3_begin C p0 p1 σ)
set_option maxHeartbeats 4000000 in
set_option maxRecDepth 100000 in
theorem g_X3_isOutside {E : zG} {Γ : zX} (C : zO E Γ RX3 cX3_isOutside 2 (some .boolean)) (p0 : Int32) (σ : zS) : zJ E Γ rm_X3_isOutside 2 (fun r : Int32 => some (.int r)) (f_X3_isOutside p0 σ) σ 0 [some (.ref (zad E 1)), some (.int p0)] [] := by
  unfold f_X3_isOutside
  refine r_iload_n (pc := 0) C dX3_isOutside_0 rfl ?_
  refine r_if_lt (pc := 1) (tgt := 12) C dX3_isOutside_1 (by decide) (fun _ => ?_) (fun _ => ?_)
  · refine r_iconst (pc := 12) (v := 1) C dX3_isOutside_12 (by decide) ?_
    refine r_goto (pc := 13) (tgt := 17) C dX3_isOutside_13 (by decide) ?_
    exact r_zret (pc := 17) C (by first | rfl | decide) dX3_isOutside_17
  · refine r_iload_n (pc := 4) C dX3_isOutside_4 rfl ?_
    refine r_aload_n (pc := 5) C dX3_isOutside_5 rfl ?_
    refine r_get (pc := 6) C K_X3 1 1 (by decide) rfl (by decide) lk_f_X3_21 rfl dX3_isOutside_6 ?_
    refine r_icmp_lt (pc := 9) (tgt := 16) C dX3_isOutside_9 (by decide) (fun _ => ?_) (fun _ => ?_)
    · refine r_iconst (pc := 16) (v := 0) C dX3_isOutside_16 (by decide) ?_
      exact r_zret (pc := 17) C (by first | rfl | decide) dX3_isOutside_17
    · refine r_iconst (pc := 12) (v := 1) C dX3_isOutside_12 (by decide) ?_
      refine r_goto (pc := 13) (tgt := 17) C dX3_isOutside_13 (by decide) ?_
      exact r_zret (pc := 17) C (by first | rfl | decide) dX3_isOutside_17
theorem c_X3_isOutside {E : zG} (hAp : zAp E) (p0 : Int32) (σ : zS) : zM E yX3_isOutside cX3_isOutside 2 (some .boolean) rm_X3_isOutside (fun r : Int32 => some (.int r)) [.ref (zad E 1), .int p0] (f_X3_isOutside p0 σ) σ :=
  zM_of (nn := 0) hAp (by decide) (Nat.le_of_ble_eq_true rfl) rfl rfl (fun Γ C => g_X3_isOutside C p0 σ)
set_option maxHeartbeats 4000000 in
set_option maxRecDepth 100000 in
theorem g_X3_byteAt {E : zG} {Γ : zX} (C : zO E Γ RX3 cX3_byteAt 2 (some .int)) (p0 : Int32) (σ : zS) : zJ E Γ rm_X3_byteAt 2 (fun r : Int32 => some (.int r)) (f_X3_byteAt p0 σ) σ 0 [some (.ref (zad E 1)), some (.int p0)] [] := by
  unfold f_X3_byteAt
  refine r_aload_n (pc := 0) C dX3_byteAt_0 rfl ?_
  refine r_iload_n (pc := 1) C dX3_byteAt_1 rfl ?_
  refine r_callV (pc := 2) C 1 (c_X3_isOutside (zO.ap C) _ _) lk_c_X3_isOutside lk_i_X3 lk_m_X3_28 lk_n_X3_isOutside lk_v_X3_isOutside (n := 1) (by decide +kernel) rfl ⟨rfl, rfl⟩ (by decide) (by decide) rfl rfl rfl (Nat.le_of_ble_eq_true rfl) ⟨Nat.zero_le _, Nat.zero_le _⟩ dX3_byteAt_2 (fun v1 s1 _ => ?_)
  refine r_if_eq (pc := 5) (tgt := 13) C dX3_byteAt_5 (by decide) (fun _ => ?_) (fun _ => ?_)
  · refine r_aload_n (pc := 13) C dX3_byteAt_13 rfl ?_
    refine r_get (pc := 14) C K_X3 1 0 (by decide) rfl (by decide) lk_f_X3_9 rfl dX3_byteAt_14 ?_
    refine r_iload_n (pc := 17) C dX3_byteAt_17 rfl ?_
    refine r_iald (pc := 18) (t0 := 0) C 2 (by decide) rfl rfl dX3_byteAt_18 ?_
    exact r_iret (pc := 19) C dX3_byteAt_19
  · refine r_bipush (pc := 8) (v := -12) C dX3_byteAt_8 (by decide) ?_
    refine r_goto (pc := 10) (tgt := 19) C dX3_byteAt_10 (by decide) ?_
    exact r_iret (pc := 19) C dX3_byteAt_19
theorem c_X3_byteAt {E : zG} (hAp : zAp E) (p0 : Int32) (σ : zS) : zM E yX3_byteAt cX3_byteAt 2 (some .int) rm_X3_byteAt (fun r : Int32 => some (.int r)) [.ref (zad E 1), .int p0] (f_X3_byteAt p0 σ) σ :=
  zM_of (nn := 0) hAp (by decide) (Nat.le_of_ble_eq_true rfl) rfl rfl (fun Γ C => g_X3_byteAt C p0 σ)
set_option maxHeartbeats 4000000 in
set_option maxRecDepth 100000 in
theorem g_X3_wordAt {E : zG} {Γ : zX} (C : zO E Γ RX3 cX3_wordAt 2 (some .int)) (p0 : Int32) (σ : zS) : zJ E Γ rm_X3_wordAt 2 (fun r : Int32 => some (.int r)) (f_X3_wordAt p0 σ) σ 0 [some (.ref (zad E 1)), some (.int p0)] [] := by
  unfold f_X3_wordAt
  refine r_aload_n (pc := 0) C dX3_wordAt_0 rfl ?_
  refine r_iload_n (pc := 1) C dX3_wordAt_1 rfl ?_
  refine r_callV (pc := 2) C 1 (c_X3_isOutside (zO.ap C) _ _) lk_c_X3_isOutside lk_i_X3 lk_m_X3_28 lk_n_X3_isOutside lk_v_X3_isOutside (n := 1) (by decide +kernel) rfl ⟨rfl, rfl⟩ (by decide) (by decide) rfl rfl rfl (Nat.le_of_ble_eq_true rfl) ⟨Nat.zero_le _, Nat.zero_le _⟩ dX3_wordAt_2 (fun v1 s1 _ => ?_)
  refine r_if_ne (pc := 5) (tgt := 18) C dX3_wordAt_5 (by decide) (fun _ => ?_) (fun _ => ?_)
  · refine r_aload_n (pc := 8) C dX3_wordAt_8 rfl ?_
    refine r_iload_n (pc := 9) C dX3_wordAt_9 rfl ?_
    refine r_iconst (pc := 10) (v := 1) C dX3_wordAt_10 (by decide) ?_
    refine r_iadd (pc := 11) C dX3_wordAt_11 ?_
    refine r_callV (pc := 12) C 1 (c_X3_isOutside (zO.ap C) _ _) lk_c_X3_isOutside lk_i_X3 lk_m_X3_28 lk_n_X3_isOutside lk_v_X3_isOutside (n := 1) (by decide +kernel) rfl ⟨rfl, rfl⟩ (by decide) (by decide) rfl rfl rfl (Nat.le_of_ble_eq_true rfl) ⟨Nat.zero_le _, Nat.zero_le _⟩ dX3_wordAt_12 (fun v2 s2 _ => ?_)
    refine r_if_eq (pc := 15) (tgt := 21) C dX3_wordAt_15 (by decide) (fun _ => ?_) (fun _ => ?_)
    · refine r_aload_n (pc := 21) C dX3_wordAt_21 rfl ?_
      refine r_get (pc := 22) C K_X3 1 0 (by decide) rfl (by decide) lk_f_X3_9 rfl dX3_wordAt_22 ?_
      refine r_iload_n (pc := 25) C dX3_wordAt_25 rfl ?_
      refine r_iald (pc := 26) (t0 := 0) C 2 (by decide) rfl rfl dX3_wordAt_26 ?_
      refine r_bipush (pc := 27) (v := 8) C dX3_wordAt_27 (by decide) ?_
      refine r_ishl (pc := 29) C dX3_wordAt_29 ?_
      refine r_aload_n (pc := 30) C dX3_wordAt_30 rfl ?_
      refine r_get (pc := 31) C K_X3 1 0 (by decide) rfl (by decide) lk_f_X3_9 rfl dX3_wordAt_31 ?_
      refine r_iload_n (pc := 34) C dX3_wordAt_34 rfl ?_
      refine r_iconst (pc := 35) (v := 1) C dX3_wordAt_35 (by decide) ?_
      refine r_iadd (pc := 36) C dX3_wordAt_36 ?_
      refine r_iald (pc := 37) (t0 := 0) C 2 (by decide) rfl rfl dX3_wordAt_37 ?_
      refine r_ior (pc := 38) C dX3_wordAt_38 ?_
      exact r_iret (pc := 39) C dX3_wordAt_39
    · refine r_bipush (pc := 18) (v := -12) C dX3_wordAt_18 (by decide) ?_
      exact r_iret (pc := 20) C dX3_wordAt_20
  · refine r_bipush (pc := 18) (v := -12) C dX3_wordAt_18 (by decide) ?_
    exact r_iret (pc := 20) C dX3_wordAt_20
theorem c_X3_wordAt {E : zG} (hAp : zAp E) (p0 : Int32) (σ : zS) : zM E yX3_wordAt cX3_wordAt 2 (some .int) rm_X3_wordAt (fun r : Int32 => some (.int r)) [.ref (zad E 1), .int p0] (f_X3_wordAt p0 σ) σ :=
  zM_of (nn := 0) hAp (by decide) (Nat.le_of_ble_eq_true rfl) rfl rfl (fun Γ C => g_X3_wordAt C p0 σ)
set_option maxHeartbeats 4000000 in
set_option maxRecDepth 100000 in
theorem g_X3_setByte {E : zG} {Γ : zX} (C : zO E Γ RX3 cX3_setByte 4 (some .int)) (p0 : Int32) (p1 : Int32) (p2 : Int32) (σ : zS) : zJ E Γ rm_X3_setByte 4 (fun r : Int32 => some (.int r)) (f_X3_setByte p0 p1 p2 σ) σ 0 [some (.ref (zad E 1)), some (.int p0), some (.int p1), some (.int p2)] [] := by
  unfold f_X3_setByte
  refine r_aload_n (pc := 0) C dX3_setByte_0 rfl ?_
  refine r_iload_n (pc := 1) C dX3_setByte_1 rfl ?_
  refine r_callV (pc := 2) C 1 (c_X3_isOutside (zO.ap C) _ _) lk_c_X3_isOutside lk_i_X3 lk_m_X3_28 lk_n_X3_isOutside lk_v_X3_isOutside (n := 1) (by decide +kernel) rfl ⟨rfl, rfl⟩ (by decide) (by decide) rfl rfl rfl (Nat.le_of_ble_eq_true rfl) ⟨Nat.zero_le _, Nat.zero_le _⟩ dX3_setByte_2 (fun v1 s1 _ => ?_)
  refine r_if_eq (pc := 5) (tgt := 11) C dX3_setByte_5 (by decide) (fun _ => ?_) (fun _ => ?_)
  · refine r_iload_n (pc := 11) C dX3_setByte_11 rfl ?_
    refine r_if_ne (pc := 12) (tgt := 26) C dX3_setByte_12 (by decide) (fun _ => ?_) (fun _ => ?_)
    · refine r_iload_n (pc := 15) C dX3_setByte_15 rfl ?_
      refine r_aload_n (pc := 16) C dX3_setByte_16 rfl ?_
      refine r_get (pc := 17) C K_X3 1 2 (by decide) rfl (by decide) lk_f_X3_25 rfl dX3_setByte_17 ?_
      refine r_icmp_lt (pc := 20) (tgt := 26) C dX3_setByte_20 (by decide) (fun _ => ?_) (fun _ => ?_)
      · refine r_aload_n (pc := 26) C dX3_setByte_26 rfl ?_
        refine r_get (pc := 27) C K_X3 1 0 (by decide) rfl (by decide) lk_f_X3_9 rfl dX3_setByte_27 ?_
        refine r_iload_n (pc := 30) C dX3_setByte_30 rfl ?_
        refine r_iload_n (pc := 31) C dX3_setByte_31 rfl ?_
        refine r_sipush (pc := 32) (v := 255) C dX3_setByte_32 (by decide) ?_
        refine r_iand (pc := 35) C dX3_setByte_35 ?_
        refine r_iast (pc := 36) (t0 := 0) C 2 (by decide) rfl (fun _ => rfl) rfl dX3_setByte_36 (fun s3 _ => ?_)
        refine r_iconst (pc := 37) (v := 1) C dX3_setByte_37 (by decide) ?_
        exact r_iret (pc := 38) C dX3_setByte_38
      · refine r_bipush (pc := 23) (v := -13) C dX3_setByte_23 (by decide) ?_
        exact r_iret (pc := 25) C dX3_setByte_25
    · refine r_aload_n (pc := 26) C dX3_setByte_26 rfl ?_
      refine r_get (pc := 27) C K_X3 1 0 (by decide) rfl (by decide) lk_f_X3_9 rfl dX3_setByte_27 ?_
      refine r_iload_n (pc := 30) C dX3_setByte_30 rfl ?_
      refine r_iload_n (pc := 31) C dX3_setByte_31 rfl ?_
      refine r_sipush (pc := 32) (v := 255) C dX3_setByte_32 (by decide) ?_
      refine r_iand (pc := 35) C dX3_setByte_35 ?_
      refine r_iast (pc := 36) (t0 := 0) C 2 (by decide) rfl (fun _ => rfl) rfl dX3_setByte_36 (fun s2 _ => ?_)
      refine r_iconst (pc := 37) (v := 1) C dX3_setByte_37 (by decide) ?_
      exact r_iret (pc := 38) C dX3_setByte_38
  · refine r_bipush (pc := 8) (v := -12) C dX3_setByte_8 (by decide) ?_
    exact r_iret (pc := 10) C dX3_setByte_10
theorem c_X3_setByte {E : zG} (hAp : zAp E) (p0 : Int32) (p1 : Int32) (p2 : Int32) (σ : zS) : zM E yX3_setByte cX3_setByte 4 (some .int) rm_X3_setByte (fun r : Int32 => some (.int r)) [.ref (zad E 1), .int p0, .int p1, .int p2] (f_X3_setByte p0 p1 p2 σ) σ :=
  zM_of (nn := 0) hAp (by decide) (Nat.le_of_ble_eq_true rfl) rfl rfl (fun Γ C => g_X3_setByte C p0 p1 p2 σ)
set_option maxHeartbeats 4000000 in
set_option maxRecDepth 100000 in
theorem g_X3_setWord {E : zG} {Γ : zX} (C : zO E Γ RX3 cX3_setWord 4 (some .int)) (p0 : Int32) (p1 : Int32) (p2 : Int32) (σ : zS) : zJ E Γ rm_X3_setWord 4 (fun r : Int32 => some (.int r)) (f_X3_setWord p0 p1 p2 σ) σ 0 [some (.ref (zad E 1)), some (.int p0), some (.int p1), some (.int p2)] [] := by
  unfold f_X3_setWord
  refine r_aload_n (pc := 0) C dX3_setWord_0 rfl ?_
  refine r_iload_n (pc := 1) C dX3_setWord_1 rfl ?_
  refine r_callV (pc := 2) C 1 (c_X3_isOutside (zO.ap C) _ _) lk_c_X3_isOutside lk_i_X3 lk_m_X3_28 lk_n_X3_isOutside lk_v_X3_isOutside (n := 1) (by decide +kernel) rfl ⟨rfl, rfl⟩ (by decide) (by decide) rfl rfl rfl (Nat.le_of_ble_eq_true rfl) ⟨Nat.zero_le _, Nat.zero_le _⟩ dX3_setWord_2 (fun v1 s1 _ => ?_)
  refine r_if_ne (pc := 5) (tgt := 18) C dX3_setWord_5 (by decide) (fun _ => ?_) (fun _ => ?_)
  · refine r_aload_n (pc := 8) C dX3_setWord_8 rfl ?_
    refine r_iload_n (pc := 9) C dX3_setWord_9 rfl ?_
    refine r_iconst (pc := 10) (v := 1) C dX3_setWord_10 (by decide) ?_
    refine r_iadd (pc := 11) C dX3_setWord_11 ?_
    refine r_callV (pc := 12) C 1 (c_X3_isOutside (zO.ap C) _ _) lk_c_X3_isOutside lk_i_X3 lk_m_X3_28 lk_n_X3_isOutside lk_v_X3_isOutside (n := 1) (by decide +kernel) rfl ⟨rfl, rfl⟩ (by decide) (by decide) rfl rfl rfl (Nat.le_of_ble_eq_true rfl) ⟨Nat.zero_le _, Nat.zero_le _⟩ dX3_setWord_12 (fun v2 s2 _ => ?_)
    refine r_if_eq (pc := 15) (tgt := 21) C dX3_setWord_15 (by decide) (fun _ => ?_) (fun _ => ?_)
    · refine r_iload_n (pc := 21) C dX3_setWord_21 rfl ?_
      refine r_if_ne (pc := 22) (tgt := 38) C dX3_setWord_22 (by decide) (fun _ => ?_) (fun _ => ?_)
      · refine r_iload_n (pc := 25) C dX3_setWord_25 rfl ?_
        refine r_iconst (pc := 26) (v := 1) C dX3_setWord_26 (by decide) ?_
        refine r_iadd (pc := 27) C dX3_setWord_27 ?_
        refine r_aload_n (pc := 28) C dX3_setWord_28 rfl ?_
        refine r_get (pc := 29) C K_X3 1 2 (by decide) rfl (by decide) lk_f_X3_25 rfl dX3_setWord_29 ?_
        refine r_icmp_lt (pc := 32) (tgt := 38) C dX3_setWord_32 (by decide) (fun _ => ?_) (fun _ => ?_)
        · refine r_aload_n (pc := 38) C dX3_setWord_38 rfl ?_
          refine r_get (pc := 39) C K_X3 1 0 (by decide) rfl (by decide) lk_f_X3_9 rfl dX3_setWord_39 ?_
          refine r_iload_n (pc := 42) C dX3_setWord_42 rfl ?_
          refine r_iload_n (pc := 43) C dX3_setWord_43 rfl ?_
          refine r_bipush (pc := 44) (v := 8) C dX3_setWord_44 (by decide) ?_
          refine r_ishr (pc := 46) C dX3_setWord_46 ?_
          refine r_sipush (pc := 47) (v := 255) C dX3_setWord_47 (by decide) ?_
          refine r_iand (pc := 50) C dX3_setWord_50 ?_
          refine r_iast (pc := 51) (t0 := 0) C 2 (by decide) rfl (fun _ => rfl) rfl dX3_setWord_51 (fun s5 _ => ?_)
          refine r_aload_n (pc := 52) C dX3_setWord_52 rfl ?_
          refine r_get (pc := 53) C K_X3 1 0 (by decide) rfl (by decide) lk_f_X3_9 rfl dX3_setWord_53 ?_
          refine r_iload_n (pc := 56) C dX3_setWord_56 rfl ?_
          refine r_iconst (pc := 57) (v := 1) C dX3_setWord_57 (by decide) ?_
          refine r_iadd (pc := 58) C dX3_setWord_58 ?_
          refine r_iload_n (pc := 59) C dX3_setWord_59 rfl ?_
          refine r_sipush (pc := 60) (v := 255) C dX3_setWord_60 (by decide) ?_
          refine r_iand (pc := 63) C dX3_setWord_63 ?_
          refine r_iast (pc := 64) (t0 := 0) C 2 (by decide) rfl (fun _ => rfl) rfl dX3_setWord_64 (fun s6 _ => ?_)
          refine r_iconst (pc := 65) (v := 1) C dX3_setWord_65 (by decide) ?_
          exact r_iret (pc := 66) C dX3_setWord_66
        · refine r_bipush (pc := 35) (v := -13) C dX3_setWord_35 (by decide) ?_
          exact r_iret (pc := 37) C dX3_setWord_37
      · refine r_aload_n (pc := 38) C dX3_setWord_38 rfl ?_
        refine r_get (pc := 39) C K_X3 1 0 (by decide) rfl (by decide) lk_f_X3_9 rfl dX3_setWord_39 ?_
        refine r_iload_n (pc := 42) C dX3_setWord_42 rfl ?_
        refine r_iload_n (pc := 43) C dX3_setWord_43 rfl ?_
        refine r_bipush (pc := 44) (v := 8) C dX3_setWord_44 (by decide) ?_
        refine r_ishr (pc := 46) C dX3_setWord_46 ?_
        refine r_sipush (pc := 47) (v := 255) C dX3_setWord_47 (by decide) ?_
        refine r_iand (pc := 50) C dX3_setWord_50 ?_
        refine r_iast (pc := 51) (t0 := 0) C 2 (by decide) rfl (fun _ => rfl) rfl dX3_setWord_51 (fun s3 _ => ?_)
        refine r_aload_n (pc := 52) C dX3_setWord_52 rfl ?_
        refine r_get (pc := 53) C K_X3 1 0 (by decide) rfl (by decide) lk_f_X3_9 rfl dX3_setWord_53 ?_
        refine r_iload_n (pc := 56) C dX3_setWord_56 rfl ?_
        refine r_iconst (pc := 57) (v := 1) C dX3_setWord_57 (by decide) ?_
        refine r_iadd (pc := 58) C dX3_setWord_58 ?_
        refine r_iload_n (pc := 59) C dX3_setWord_59 rfl ?_
        refine r_sipush (pc := 60) (v := 255) C dX3_setWord_60 (by decide) ?_
        refine r_iand (pc := 63) C dX3_setWord_63 ?_
        refine r_iast (pc := 64) (t0 := 0) C 2 (by decide) rfl (fun _ => rfl) rfl dX3_setWord_64 (fun s4 _ => ?_)
        refine r_iconst (pc := 65) (v := 1) C dX3_setWord_65 (by decide) ?_
        exact r_iret (pc := 66) C dX3_setWord_66
    · refine r_bipush (pc := 18) (v := -12) C dX3_setWord_18 (by decide) ?_
      exact r_iret (pc := 20) C dX3_setWord_20
  · refine r_bipush (pc := 18) (v := -12) C dX3_setWord_18 (by decide) ?_
    exact r_iret (pc := 20) C dX3_setWord_20
theorem c_X3_setWord {E : zG} (hAp : zAp E) (p0 : Int32) (p1 : Int32) (p2 : Int32) (σ : zS) : zM E yX3_setWord cX3_setWord 4 (some .int) rm_X3_setWord (fun r : Int32 => some (.int r)) [.ref (zad E 1), .int p0, .int p1, .int p2] (f_X3_setWord p0 p1 p2 σ) σ :=
  zM_of (nn := 0) hAp (by decide) (Nat.le_of_ble_eq_true rfl) rfl rfl (fun Γ C => g_X3_setWord C p0 p1 p2 σ)
set_option maxHeartbeats 4000000 in
set_option maxRecDepth 100000 in
theorem g_X3_copyInTurn_L3 {E : zG} {Γ : zX} (C : zO E Γ RX3 cX3_copyInTurn 7 (some .int)) : ∀ (n : Nat) (x1 : Int32) (x2 : Int32) (x3 : Int32) (x4 : Int32) (σ : zS), zJ E Γ rm_X3_copyInTurn 7 (fun r : Int32 => some (.int r)) (f_X3_copyInTurn_L3 n x1 x2 x3 x4 σ) σ 3 [some (.ref (zad E 1)), some (.int x1), some (.int x2), some (.int x3), some (.int x4), none, none] [] := by
  intro n
  induction n with
  | zero => intro x1 x2 x3 x4 σ; rw [f_X3_copyInTurn_L3]; exact r_none
  | succ n ih =>
    intro x1 x2 x3 x4 σ
    rw [f_X3_copyInTurn_L3]
    refine r_iload (pc := 3) C dX3_copyInTurn_3 rfl ?_
    refine r_iload_n (pc := 5) C dX3_copyInTurn_5 rfl ?_
    refine r_icmp_ge (pc := 6) (tgt := 54) C dX3_copyInTurn_6 (by decide) (fun _ => ?_) (fun _ => ?_)
    · refine r_iconst (pc := 54) (v := 1) C dX3_copyInTurn_54 (by decide) ?_
      exact r_iret (pc := 55) C dX3_copyInTurn_55
    · refine r_aload_n (pc := 9) C dX3_copyInTurn_9 rfl ?_
      refine r_iload_n (pc := 10) C dX3_copyInTurn_10 rfl ?_
      refine r_iload (pc := 11) C dX3_copyInTurn_11 rfl ?_
      refine r_iadd (pc := 13) C dX3_copyInTurn_13 ?_
      refine r_callV (pc := 14) C 1 (c_X3_byteAt (zO.ap C) _ _) lk_c_X3_byteAt lk_i_X3 lk_m_X3_55 lk_n_X3_byteAt lk_v_X3_byteAt (n := 1) (by decide +kernel) rfl ⟨rfl, rfl⟩ (by decide) (by decide) rfl rfl rfl (Nat.le_of_ble_eq_true rfl) ⟨Nat.zero_le _, Nat.zero_le _⟩ dX3_copyInTurn_14 (fun v1 s1 _ => ?_)
      refine r_istore (pc := 17) (lv' := [some (.ref (zad E 1)), some (.int x1), some (.int x2), some (.int x3), some (.int x4), some (.int v1), none]) C dX3_copyInTurn_17 (by decide) rfl ?_
      refine r_iload (pc := 19) C dX3_copyInTurn_19 rfl ?_
      refine r_if_ge (pc := 21) (tgt := 27) C dX3_copyInTurn_21 (by decide) (fun _ => ?_) (fun _ => ?_)
      · refine r_aload_n (pc := 27) C dX3_copyInTurn_27 rfl ?_
        refine r_iload_n (pc := 28) C dX3_copyInTurn_28 rfl ?_
        refine r_iload (pc := 29) C dX3_copyInTurn_29 rfl ?_
        refine r_iadd (pc := 31) C dX3_copyInTurn_31 ?_
        refine r_iload (pc := 32) C dX3_copyInTurn_32 rfl ?_
        refine r_iconst (pc := 34) (v := 0) C dX3_copyInTurn_34 (by decide) ?_
        refine r_callV (pc := 35) C 1 (c_X3_setByte (zO.ap C) _ _ _ _) lk_c_X3_setByte lk_i_X3 lk_m_X3_58 lk_n_X3_setByte lk_v_X3_setByte (n := 3) (by decide +kernel) rfl ⟨rfl, rfl⟩ (by decide) (by decide) rfl rfl rfl (Nat.le_of_ble_eq_true rfl) ⟨Nat.zero_le _, Nat.zero_le _⟩ dX3_copyInTurn_35 (fun v2 s2 _ => ?_)
        refine r_istore (pc := 38) (lv' := [some (.ref (zad E 1)), some (.int x1), some (.int x2), some (.int x3), some (.int x4), some (.int v1), some (.int v2)]) C dX3_copyInTurn_38 (by decide) rfl ?_
        refine r_iload (pc := 40) C dX3_copyInTurn_40 rfl ?_
        refine r_if_ge (pc := 42) (tgt := 48) C dX3_copyInTurn_42 (by decide) (fun _ => ?_) (fun _ => ?_)
        · refine r_iinc (pc := 48) (lv' := [some (.ref (zad E 1)), some (.int x1), some (.int x2), some (.int x3), some (.int (x4 + (1 : Int32))), some (.int v1), some (.int v2)]) C dX3_copyInTurn_48 (by decide) rfl rfl rfl ?_
          refine r_goto (pc := 51) (tgt := 3) C dX3_copyInTurn_51 (by decide) ?_
          refine r_mask [true, true, true, true, true, false, false] (lv' := [some (.ref (zad E 1)), some (.int x1), some (.int x2), some (.int x3), some (.int (x4 + (1 : Int32))), none, none]) rfl ?_
          exact ih _ _ _ _ _
        · refine r_iload (pc := 45) C dX3_copyInTurn_45 rfl ?_
          exact r_iret (pc := 47) C dX3_copyInTurn_47
      · refine r_iload (pc := 24) C dX3_copyInTurn_24 rfl ?_
        exact r_iret (pc := 26) C dX3_copyInTurn_26
set_option maxHeartbeats 4000000 in
set_option maxRecDepth 100000 in
theorem g_X3_copyInTurn {E : zG} {Γ : zX} (C : zO E Γ RX3 cX3_copyInTurn 7 (some .int)) (p0 : Int32) (p1 : Int32) (p2 : Int32) (σ : zS) : zJ E Γ rm_X3_copyInTurn 7 (fun r : Int32 => some (.int r)) (f_X3_copyInTurn p0 p1 p2 σ) σ 0 [some (.ref (zad E 1)), some (.int p0), some (.int p1), some (.int p2), none, none, none] [] := by
  unfold f_X3_copyInTurn
  refine r_iconst (pc := 0) (v := 0) C dX3_copyInTurn_0 (by decide) ?_
  refine r_istore (pc := 1) (lv' := [some (.ref (zad E 1)), some (.int p0), some (.int p1), some (.int p2), some (.int (0 : Int32)), none, none]) C dX3_copyInTurn_1 (by decide) rfl ?_
  exact g_X3_copyInTurn_L3 C zF _ _ _ _ _
theorem c_X3_copyInTurn {E : zG} (hAp : zAp E) (p0 : Int32) (p1 : Int32) (p2 : Int32) (σ : zS) : zM E yX3_copyInTurn cX3_copyInTurn 7 (some .int) rm_X3_copyInTurn (fun r : Int32 => some (.int r)) [.ref (zad E 1), .int p0, .int p1, .int p2] (f_X3_copyInTurn p0 p1 p2 σ) σ :=
  zM_of (nn := 3) hAp (by decide) (Nat.le_of_ble_eq_true rfl) rfl rfl (fun Γ C => g_X3_copyInTurn C p0 p1 p2 σ)
set_option maxHeartbeats 4000000 in
set_option maxRecDepth 100000 in
theorem g_X3_copyAtOnce {E : zG} {Γ : zX} (C : zO E Γ RX3 cX3_copyAtOnce 4 (some .int)) (p0 : Int32) (p1 : Int32) (p2 : Int32) (σ : zS) : zJ E Γ rm_X3_copyAtOnce 4 (fun r : Int32 => some (.int r)) (f_X3_copyAtOnce p0 p1 p2 σ) σ 0 [some (.ref (zad E 1)), some (.int p0), some (.int p1), some (.int p2)] [] := by
  unfold f_X3_copyAtOnce
  refine r_aload_n (pc := 0) C dX3_copyAtOnce_0 rfl ?_
  refine r_iload_n (pc := 1) C dX3_copyAtOnce_1 rfl ?_
  refine r_callV (pc := 2) C 1 (c_X3_isOutside (zO.ap C) _ _) lk_c_X3_isOutside lk_i_X3 lk_m_X3_28 lk_n_X3_isOutside lk_v_X3_isOutside (n := 1) (by decide +kernel) rfl ⟨rfl, rfl⟩ (by decide) (by decide) rfl rfl rfl (Nat.le_of_ble_eq_true rfl) ⟨Nat.zero_le _, Nat.zero_le _⟩ dX3_copyAtOnce_2 (fun v1 s1 _ => ?_)
  refine r_if_ne (pc := 5) (tgt := 40) C dX3_copyAtOnce_5 (by decide) (fun _ => ?_) (fun _ => ?_)
  · refine r_aload_n (pc := 8) C dX3_copyAtOnce_8 rfl ?_
    refine r_iload_n (pc := 9) C dX3_copyAtOnce_9 rfl ?_
    refine r_iload_n (pc := 10) C dX3_copyAtOnce_10 rfl ?_
    refine r_iadd (pc := 11) C dX3_copyAtOnce_11 ?_
    refine r_iconst (pc := 12) (v := 1) C dX3_copyAtOnce_12 (by decide) ?_
    refine r_isub (pc := 13) C dX3_copyAtOnce_13 ?_
    refine r_callV (pc := 14) C 1 (c_X3_isOutside (zO.ap C) _ _) lk_c_X3_isOutside lk_i_X3 lk_m_X3_28 lk_n_X3_isOutside lk_v_X3_isOutside (n := 1) (by decide +kernel) rfl ⟨rfl, rfl⟩ (by decide) (by decide) rfl rfl rfl (Nat.le_of_ble_eq_true rfl) ⟨Nat.zero_le _, Nat.zero_le _⟩ dX3_copyAtOnce_14 (fun v2 s2 _ => ?_)
    refine r_if_ne (pc := 17) (tgt := 40) C dX3_copyAtOnce_17 (by decide) (fun _ => ?_) (fun _ => ?_)
    · refine r_aload_n (pc := 20) C dX3_copyAtOnce_20 rfl ?_
      refine r_iload_n (pc := 21) C dX3_copyAtOnce_21 rfl ?_
      refine r_callV (pc := 22) C 1 (c_X3_isOutside (zO.ap C) _ _) lk_c_X3_isOutside lk_i_X3 lk_m_X3_28 lk_n_X3_isOutside lk_v_X3_isOutside (n := 1) (by decide +kernel) rfl ⟨rfl, rfl⟩ (by decide) (by decide) rfl rfl rfl (Nat.le_of_ble_eq_true rfl) ⟨Nat.zero_le _, Nat.zero_le _⟩ dX3_copyAtOnce_22 (fun v3 s3 _ => ?_)
      refine r_if_ne (pc := 25) (tgt := 40) C dX3_copyAtOnce_25 (by decide) (fun _ => ?_) (fun _ => ?_)
      · refine r_aload_n (pc := 28) C dX3_copyAtOnce_28 rfl ?_
        refine r_iload_n (pc := 29) C dX3_copyAtOnce_29 rfl ?_
        refine r_iload_n (pc := 30) C dX3_copyAtOnce_30 rfl ?_
        refine r_iadd (pc := 31) C dX3_copyAtOnce_31 ?_
        refine r_iconst (pc := 32) (v := 1) C dX3_copyAtOnce_32 (by decide) ?_
        refine r_isub (pc := 33) C dX3_copyAtOnce_33 ?_
        refine r_callV (pc := 34) C 1 (c_X3_isOutside (zO.ap C) _ _) lk_c_X3_isOutside lk_i_X3 lk_m_X3_28 lk_n_X3_isOutside lk_v_X3_isOutside (n := 1) (by decide +kernel) rfl ⟨rfl, rfl⟩ (by decide) (by decide) rfl rfl rfl (Nat.le_of_ble_eq_true rfl) ⟨Nat.zero_le _, Nat.zero_le _⟩ dX3_copyAtOnce_34 (fun v4 s4 _ => ?_)
        refine r_if_eq (pc := 37) (tgt := 43) C dX3_copyAtOnce_37 (by decide) (fun _ => ?_) (fun _ => ?_)
        · refine r_iload_n (pc := 43) C dX3_copyAtOnce_43 rfl ?_
          refine r_iload_n (pc := 44) C dX3_copyAtOnce_44 rfl ?_
          refine r_iadd (pc := 45) C dX3_copyAtOnce_45 ?_
          refine r_aload_n (pc := 46) C dX3_copyAtOnce_46 rfl ?_
          refine r_get (pc := 47) C K_X3 1 2 (by decide) rfl (by decide) lk_f_X3_25 rfl dX3_copyAtOnce_47 ?_
          refine r_icmp_le (pc := 50) (tgt := 56) C dX3_copyAtOnce_50 (by decide) (fun _ => ?_) (fun _ => ?_)
          · refine r_aload_n (pc := 56) C dX3_copyAtOnce_56 rfl ?_
            refine r_get (pc := 57) C K_X3 1 0 (by decide) rfl (by decide) lk_f_X3_9 rfl dX3_copyAtOnce_57 ?_
            refine r_iload_n (pc := 60) C dX3_copyAtOnce_60 rfl ?_
            refine r_aload_n (pc := 61) C dX3_copyAtOnce_61 rfl ?_
            refine r_get (pc := 62) C K_X3 1 0 (by decide) rfl (by decide) lk_f_X3_9 rfl dX3_copyAtOnce_62 ?_
            refine r_iload_n (pc := 65) C dX3_copyAtOnce_65 rfl ?_
            refine r_iload_n (pc := 66) C dX3_copyAtOnce_66 rfl ?_
            refine r_acopy (pc := 67) (t0 := 0) (t1 := 0) C 2 2 (by decide) (by decide) rfl (fun _ => rfl) rfl rfl lk_m_X3_49 lk_acn lk_acs lk_aci (by decide) (Nat.le_of_ble_eq_true rfl) dX3_copyAtOnce_67 (fun s5 _ => ?_)
            refine r_iconst (pc := 70) (v := 1) C dX3_copyAtOnce_70 (by decide) ?_
            exact r_iret (pc := 71) C dX3_copyAtOnce_71
          · refine r_bipush (pc := 53) (v := -13) C dX3_copyAtOnce_53 (by decide) ?_
            exact r_iret (pc := 55) C dX3_copyAtOnce_55
        · refine r_bipush (pc := 40) (v := -12) C dX3_copyAtOnce_40 (by decide) ?_
          exact r_iret (pc := 42) C dX3_copyAtOnce_42
      · refine r_bipush (pc := 40) (v := -12) C dX3_copyAtOnce_40 (by decide) ?_
        exact r_iret (pc := 42) C dX3_copyAtOnce_42
    · refine r_bipush (pc := 40) (v := -12) C dX3_copyAtOnce_40 (by decide) ?_
      exact r_iret (pc := 42) C dX3_copyAtOnce_42
  · refine r_bipush (pc := 40) (v := -12) C dX3_copyAtOnce_40 (by decide) ?_
    exact r_iret (pc := 42) C dX3_copyAtOnce_42
theorem c_X3_copyAtOnce {E : zG} (hAp : zAp E) (p0 : Int32) (p1 : Int32) (p2 : Int32) (σ : zS) : zM E yX3_copyAtOnce cX3_copyAtOnce 4 (some .int) rm_X3_copyAtOnce (fun r : Int32 => some (.int r)) [.ref (zad E 1), .int p0, .int p1, .int p2] (f_X3_copyAtOnce p0 p1 p2 σ) σ :=
  zM_of (nn := 0) hAp (by decide) (Nat.le_of_ble_eq_true rfl) rfl rfl (fun Γ C => g_X3_copyAtOnce C p0 p1 p2 σ)
set_option maxHeartbeats 4000000 in
set_option maxRecDepth 100000 in
theorem g_X3_wipe_L38 {E : zG} {Γ : zX} (C : zO E Γ RX3 cX3_wipe 4 (some .int)) : ∀ (n : Nat) (x1 : Int32) (x2 : Int32) (x3 : Int32) (σ : zS), zJ E Γ rm_X3_wipe 4 (fun r : Int32 => some (.int r)) (f_X3_wipe_L38 n x1 x2 x3 σ) σ 38 [some (.ref (zad E 1)), some (.int x1), some (.int x2), some (.int x3)] [] := by
  intro n
  induction n with
  | zero => intro x1 x2 x3 σ; rw [f_X3_wipe_L38]; exact r_none
  | succ n ih =>
    intro x1 x2 x3 σ
    rw [f_X3_wipe_L38]
    refine r_iload_n (pc := 38) C dX3_wipe_38 rfl ?_
    refine r_iload_n (pc := 39) C dX3_wipe_39 rfl ?_
    refine r_icmp_ge (pc := 40) (tgt := 58) C dX3_wipe_40 (by decide) (fun _ => ?_) (fun _ => ?_)
    · refine r_iconst (pc := 58) (v := 1) C dX3_wipe_58 (by decide) ?_
      exact r_iret (pc := 59) C dX3_wipe_59
    · refine r_aload_n (pc := 43) C dX3_wipe_43 rfl ?_
      refine r_get (pc := 44) C K_X3 1 0 (by decide) rfl (by decide) lk_f_X3_9 rfl dX3_wipe_44 ?_
      refine r_iload_n (pc := 47) C dX3_wipe_47 rfl ?_
      refine r_iload_n (pc := 48) C dX3_wipe_48 rfl ?_
      refine r_iadd (pc := 49) C dX3_wipe_49 ?_
      refine r_iconst (pc := 50) (v := 0) C dX3_wipe_50 (by decide) ?_
      refine r_iast (pc := 51) (t0 := 0) C 2 (by decide) rfl (fun _ => rfl) rfl dX3_wipe_51 (fun s3 _ => ?_)
      refine r_iinc (pc := 52) (lv' := [some (.ref (zad E 1)), some (.int x1), some (.int x2), some (.int (x3 + (1 : Int32)))]) C dX3_wipe_52 (by decide) rfl rfl rfl ?_
      refine r_goto (pc := 55) (tgt := 38) C dX3_wipe_55 (by decide) ?_
      exact ih _ _ _ _
set_option maxHeartbeats 4000000 in
set_option maxRecDepth 100000 in
theorem g_X3_wipe {E : zG} {Γ : zX} (C : zO E Γ RX3 cX3_wipe 4 (some .int)) (p0 : Int32) (p1 : Int32) (σ : zS) : zJ E Γ rm_X3_wipe 4 (fun r : Int32 => some (.int r)) (f_X3_wipe p0 p1 σ) σ 0 [some (.ref (zad E 1)), some (.int p0), some (.int p1), none] [] := by
  unfold f_X3_wipe
  refine r_aload_n (pc := 0) C dX3_wipe_0 rfl ?_
  refine r_iload_n (pc := 1) C dX3_wipe_1 rfl ?_
  refine r_callV (pc := 2) C 1 (c_X3_isOutside (zO.ap C) _ _) lk_c_X3_isOutside lk_i_X3 lk_m_X3_28 lk_n_X3_isOutside lk_v_X3_isOutside (n := 1) (by decide +kernel) rfl ⟨rfl, rfl⟩ (by decide) (by decide) rfl rfl rfl (Nat.le_of_ble_eq_true rfl) ⟨Nat.zero_le _, Nat.zero_le _⟩ dX3_wipe_2 (fun v1 s1 _ => ?_)
  refine r_if_ne (pc := 5) (tgt := 20) C dX3_wipe_5 (by decide) (fun _ => ?_) (fun _ => ?_)
  · refine r_aload_n (pc := 8) C dX3_wipe_8 rfl ?_
    refine r_iload_n (pc := 9) C dX3_wipe_9 rfl ?_
    refine r_iload_n (pc := 10) C dX3_wipe_10 rfl ?_
    refine r_iadd (pc := 11) C dX3_wipe_11 ?_
    refine r_iconst (pc := 12) (v := 1) C dX3_wipe_12 (by decide) ?_
    refine r_isub (pc := 13) C dX3_wipe_13 ?_
    refine r_callV (pc := 14) C 1 (c_X3_isOutside (zO.ap C) _ _) lk_c_X3_isOutside lk_i_X3 lk_m_X3_28 lk_n_X3_isOutside lk_v_X3_isOutside (n := 1) (by decide +kernel) rfl ⟨rfl, rfl⟩ (by decide) (by decide) rfl rfl rfl (Nat.le_of_ble_eq_true rfl) ⟨Nat.zero_le _, Nat.zero_le _⟩ dX3_wipe_14 (fun v2 s2 _ => ?_)
    refine r_if_eq (pc := 17) (tgt := 23) C dX3_wipe_17 (by decide) (fun _ => ?_) (fun _ => ?_)
    · refine r_iload_n (pc := 23) C dX3_wipe_23 rfl ?_
      refine r_iload_n (pc := 24) C dX3_wipe_24 rfl ?_
      refine r_iadd (pc := 25) C dX3_wipe_25 ?_
      refine r_aload_n (pc := 26) C dX3_wipe_26 rfl ?_
      refine r_get (pc := 27) C K_X3 1 2 (by decide) rfl (by decide) lk_f_X3_25 rfl dX3_wipe_27 ?_
      refine r_icmp_le (pc := 30) (tgt := 36) C dX3_wipe_30 (by decide) (fun _ => ?_) (fun _ => ?_)
      · refine r_iconst (pc := 36) (v := 0) C dX3_wipe_36 (by decide) ?_
        refine r_istore_n (pc := 37) (lv' := [some (.ref (zad E 1)), some (.int p0), some (.int p1), some (.int (0 : Int32))]) C dX3_wipe_37 (by decide) rfl ?_
        exact g_X3_wipe_L38 C zF _ _ _ _
      · refine r_bipush (pc := 33) (v := -13) C dX3_wipe_33 (by decide) ?_
        exact r_iret (pc := 35) C dX3_wipe_35
    · refine r_bipush (pc := 20) (v := -12) C dX3_wipe_20 (by decide) ?_
      exact r_iret (pc := 22) C dX3_wipe_22
  · refine r_bipush (pc := 20) (v := -12) C dX3_wipe_20 (by decide) ?_
    exact r_iret (pc := 22) C dX3_wipe_22
theorem c_X3_wipe {E : zG} (hAp : zAp E) (p0 : Int32) (p1 : Int32) (σ : zS) : zM E yX3_wipe cX3_wipe 4 (some .int) rm_X3_wipe (fun r : Int32 => some (.int r)) [.ref (zad E 1), .int p0, .int p1] (f_X3_wipe p0 p1 σ) σ :=
  zM_of (nn := 1) hAp (by decide) (Nat.le_of_ble_eq_true rfl) rfl rfl (fun Γ C => g_X3_wipe C p0 p1 σ)
set_option maxHeartbeats 4000000 in
set_option maxRecDepth 100000 in
theorem g_X3_copyTable {E : zG} {Γ : zX} (C : zO E Γ RX3 cX3_copyTable 4 (some .int)) (p0 : Int32) (p1 : Int32) (p2 : Int32) (σ : zS) : zJ E Γ rm_X3_copyTable 4 (fun r : Int32 => some (.int r)) (f_X3_copyTable p0 p1 p2 σ) σ 0 [some (.ref (zad E 1)), some (.int p0), some (.int p1), some (.int p2)] [] := by
  unfold f_X3_copyTable
  refine r_iload_n (pc := 0) C dX3_copyTable_0 rfl ?_
  refine r_if_ne (pc := 1) (tgt := 6) C dX3_copyTable_1 (by decide) (fun _ => ?_) (fun _ => ?_)
  · refine r_iconst (pc := 4) (v := 1) C dX3_copyTable_4 (by decide) ?_
    exact r_iret (pc := 5) C dX3_copyTable_5
  · refine r_iload_n (pc := 6) C dX3_copyTable_6 rfl ?_
    refine r_if_ne (pc := 7) (tgt := 20) C dX3_copyTable_7 (by decide) (fun _ => ?_) (fun _ => ?_)
    · refine r_aload_n (pc := 10) C dX3_copyTable_10 rfl ?_
      refine r_iload_n (pc := 11) C dX3_copyTable_11 rfl ?_
      refine r_iload_n (pc := 12) C dX3_copyTable_12 rfl ?_
      refine r_mabs (pc := 13) C lk_m_X3_32 lk_ms_abs lk_mi lk_mc_abs (by decide) (Nat.le_of_ble_eq_true rfl) ⟨Nat.zero_le _, Nat.zero_le _⟩ dX3_copyTable_13 ?_
      refine r_callV (pc := 16) C 1 (c_X3_wipe (zO.ap C) _ _ _) lk_c_X3_wipe lk_i_X3 lk_m_X3_38 lk_n_X3_wipe lk_v_X3_wipe (n := 2) (by decide +kernel) rfl ⟨rfl, rfl⟩ (by decide) (by decide) rfl rfl rfl (Nat.le_of_ble_eq_true rfl) ⟨Nat.zero_le _, Nat.zero_le _⟩ dX3_copyTable_16 (fun v3 s3 _ => ?_)
      exact r_iret (pc := 19) C dX3_copyTable_19
    · refine r_iload_n (pc := 20) C dX3_copyTable_20 rfl ?_
      refine r_if_le (pc := 21) (tgt := 34) C dX3_copyTable_21 (by decide) (fun _ => ?_) (fun _ => ?_)
      · refine r_aload_n (pc := 34) C dX3_copyTable_34 rfl ?_
        refine r_iload_n (pc := 35) C dX3_copyTable_35 rfl ?_
        refine r_iload_n (pc := 36) C dX3_copyTable_36 rfl ?_
        refine r_iload_n (pc := 37) C dX3_copyTable_37 rfl ?_
        refine r_ineg (pc := 38) C dX3_copyTable_38 ?_
        refine r_callV (pc := 39) C 1 (c_X3_copyInTurn (zO.ap C) _ _ _ _) lk_c_X3_copyInTurn lk_i_X3 lk_m_X3_46 lk_n_X3_copyInTurn lk_v_X3_copyInTurn (n := 3) (by decide +kernel) rfl ⟨rfl, rfl⟩ (by decide) (by decide) rfl rfl rfl (Nat.le_of_ble_eq_true rfl) ⟨Nat.zero_le _, Nat.zero_le _⟩ dX3_copyTable_39 (fun v1 s1 _ => ?_)
        exact r_iret (pc := 42) C dX3_copyTable_42
      · refine r_aload_n (pc := 24) C dX3_copyTable_24 rfl ?_
        refine r_iload_n (pc := 25) C dX3_copyTable_25 rfl ?_
        refine r_iload_n (pc := 26) C dX3_copyTable_26 rfl ?_
        refine r_iload_n (pc := 27) C dX3_copyTable_27 rfl ?_
        refine r_callV (pc := 28) C 1 (c_X3_copyAtOnce (zO.ap C) _ _ _ _) lk_c_X3_copyAtOnce lk_i_X3 lk_m_X3_42 lk_n_X3_copyAtOnce lk_v_X3_copyAtOnce (n := 3) (by decide +kernel) rfl ⟨rfl, rfl⟩ (by decide) (by decide) rfl rfl rfl (Nat.le_of_ble_eq_true rfl) ⟨Nat.zero_le _, Nat.zero_le _⟩ dX3_copyTable_28 (fun v2 s2 _ => ?_)
        refine r_goto (pc := 31) (tgt := 42) C dX3_copyTable_31 (by decide) ?_
        exact r_iret (pc := 42) C dX3_copyTable_42
theorem c_X3_copyTable {E : zG} (hAp : zAp E) (p0 : Int32) (p1 : Int32) (p2 : Int32) (σ : zS) : zM E yX3_copyTable cX3_copyTable 4 (some .int) rm_X3_copyTable (fun r : Int32 => some (.int r)) [.ref (zad E 1), .int p0, .int p1, .int p2] (f_X3_copyTable p0 p1 p2 σ) σ :=
  zM_of (nn := 0) hAp (by decide) (Nat.le_of_ble_eq_true rfl) rfl rfl (fun Γ C => g_X3_copyTable C p0 p1 p2 σ)
