set_option maxHeartbeats 4000000 in
set_option maxRecDepth 100000 in
theorem g_X6_printRows_L35 {E : zG} {Γ : zX} (C : zO E Γ RX6 cX6_printRows 9 (some .int)) {K : Int32 → Int32 → Int32 → Int32 → Int32 → Int32 → zS → Option (Int32 × zS)} (kK : ∀ (x1 : Int32) (x2 : Int32) (x3 : Int32) (x4 : Int32) (x5 : Int32) (x6 : Int32) (σ : zS), zJ E Γ rm_X6_printRows 9 (fun r : Int32 => some (.int r)) (K x1 x2 x3 x4 x5 x6 σ) σ 90 [some (.ref (zad E 13)), some (.int x1), some (.int x2), some (.int x3), some (.int x4), some (.int x5), some (.int x6), none, none] []) : ∀ (n : Nat) (x1 : Int32) (x2 : Int32) (x3 : Int32) (x4 : Int32) (x5 : Int32) (x6 : Int32) (σ : zS), zJ E Γ rm_X6_printRows 9 (fun r : Int32 => some (.int r)) (f_X6_printRows_L35 n x1 x2 x3 x4 x5 x6 σ K) σ 35 [some (.ref (zad E 13)), some (.int x1), some (.int x2), some (.int x3), some (.int x4), some (.int x5), some (.int x6), none, none] [] := by
  intro n
  induction n with
  | zero => intro x1 x2 x3 x4 x5 x6 σ; rw [f_X6_printRows_L35]; exact r_none
  | succ n ih =>
    intro x1 x2 x3 x4 x5 x6 σ
    rw [f_X6_printRows_L35]
    refine r_iload (pc := 35) C dX6_printRows_35 rfl ?_
    refine r_iload_n (pc := 37) C dX6_printRows_37 rfl ?_
    refine r_icmp_ge (pc := 38) (tgt := 90) C dX6_printRows_38 (by decide) (fun _ => ?_) (fun _ => ?_)
    · refine r_mask [true, true, true, true, true, true, true, false, false] (lv' := [some (.ref (zad E 13)), some (.int x1), some (.int x2), some (.int x3), some (.int x4), some (.int x5), some (.int x6), none, none]) rfl ?_
      exact kK _ _ _ _ _ _ _
    · refine r_aload_n (pc := 41) C dX6_printRows_41 rfl ?_
      refine r_get (pc := 42) C K_X6 13 0 (by decide) rfl (by decide) lk_f_X6_36 rfl dX6_printRows_42 ?_
      refine r_iload (pc := 45) C dX6_printRows_45 rfl ?_
      refine r_callV (pc := 47) C 1 (c_X3_byteAt (zO.ap C) _ _) lk_c_X3_byteAt lk_i_X3 lk_m_X6_155 lk_n_X3_byteAt lk_v_X3_byteAt (n := 1) (by decide +kernel) rfl ⟨rfl, rfl⟩ (by decide) (by decide) rfl rfl rfl (Nat.le_of_ble_eq_true rfl) ⟨Nat.zero_le _, Nat.zero_le _⟩ dX6_printRows_47 (fun v1 s1 _ => ?_)
      refine r_istore (pc := 50) (lv' := [some (.ref (zad E 13)), some (.int x1), some (.int x2), some (.int x3), some (.int x4), some (.int x5), some (.int x6), some (.int v1), none]) C dX6_printRows_50 (by decide) rfl ?_
      refine r_iload (pc := 52) C dX6_printRows_52 rfl ?_
      refine r_if_ge (pc := 54) (tgt := 62) C dX6_printRows_54 (by decide) (fun _ => ?_) (fun _ => ?_)
      · refine r_aload_n (pc := 62) C dX6_printRows_62 rfl ?_
        refine r_get (pc := 63) C K_X6 13 4 (by decide) rfl (by decide) lk_f_X6_21 rfl dX6_printRows_63 ?_
        refine r_iload (pc := 66) C dX6_printRows_66 rfl ?_
        refine r_callV (pc := 68) C 41 (c_X4_print (zO.ap C) _ _) lk_c_X4_print lk_i_X4 lk_m_X6_195 lk_n_X4_print lk_v_X4_print (n := 1) (by decide +kernel) rfl ⟨rfl, rfl⟩ (by decide) (by decide) rfl rfl rfl (Nat.le_of_ble_eq_true rfl) ⟨Nat.zero_le _, Nat.zero_le _⟩ dX6_printRows_68 (fun v2 s2 _ => ?_)
        refine r_istore (pc := 71) (lv' := [some (.ref (zad E 13)), some (.int x1), some (.int x2), some (.int x3), some (.int x4), some (.int x5), some (.int x6), some (.int v1), some (.int v2)]) C dX6_printRows_71 (by decide) rfl ?_
        refine r_iload (pc := 73) C dX6_printRows_73 rfl ?_
        refine r_if_ge (pc := 75) (tgt := 81) C dX6_printRows_75 (by decide) (fun _ => ?_) (fun _ => ?_)
        · refine r_iinc (pc := 81) (lv' := [some (.ref (zad E 13)), some (.int x1), some (.int x2), some (.int x3), some (.int (x4 + (1 : Int32))), some (.int x5), some (.int x6), some (.int v1), some (.int v2)]) C dX6_printRows_81 (by decide) rfl rfl rfl ?_
          refine r_iinc (pc := 84) (lv' := [some (.ref (zad E 13)), some (.int x1), some (.int x2), some (.int x3), some (.int (x4 + (1 : Int32))), some (.int x5), some (.int (x6 + (1 : Int32))), some (.int v1), some (.int v2)]) C dX6_printRows_84 (by decide) rfl rfl rfl ?_
          refine r_goto (pc := 87) (tgt := 35) C dX6_printRows_87 (by decide) ?_
          refine r_mask [true, true, true, true, true, true, true, false, false] (lv' := [some (.ref (zad E 13)), some (.int x1), some (.int x2), some (.int x3), some (.int (x4 + (1 : Int32))), some (.int x5), some (.int (x6 + (1 : Int32))), none, none]) rfl ?_
          exact ih _ _ _ _ _ _ _
        · refine r_iload (pc := 78) C dX6_printRows_78 rfl ?_
          exact r_iret (pc := 80) C dX6_printRows_80
      · refine r_iload (pc := 57) C dX6_printRows_57 rfl ?_
        refine r_goto (pc := 59) (tgt := 71) C dX6_printRows_59 (by decide) ?_
        refine r_istore (pc := 71) (lv' := [some (.ref (zad E 13)), some (.int x1), some (.int x2), some (.int x3), some (.int x4), some (.int x5), some (.int x6), some (.int v1), some (.int v1)]) C dX6_printRows_71 (by decide) rfl ?_
        refine r_iload (pc := 73) C dX6_printRows_73 rfl ?_
        refine r_if_ge (pc := 75) (tgt := 81) C dX6_printRows_75 (by decide) (fun _ => ?_) (fun _ => ?_)
        · refine r_iinc (pc := 81) (lv' := [some (.ref (zad E 13)), some (.int x1), some (.int x2), some (.int x3), some (.int (x4 + (1 : Int32))), some (.int x5), some (.int x6), some (.int v1), some (.int v1)]) C dX6_printRows_81 (by decide) rfl rfl rfl ?_
          refine r_iinc (pc := 84) (lv' := [some (.ref (zad E 13)), some (.int x1), some (.int x2), some (.int x3), some (.int (x4 + (1 : Int32))), some (.int x5), some (.int (x6 + (1 : Int32))), some (.int v1), some (.int v1)]) C dX6_printRows_84 (by decide) rfl rfl rfl ?_
          refine r_goto (pc := 87) (tgt := 35) C dX6_printRows_87 (by decide) ?_
          refine r_mask [true, true, true, true, true, true, true, false, false] (lv' := [some (.ref (zad E 13)), some (.int x1), some (.int x2), some (.int x3), some (.int (x4 + (1 : Int32))), some (.int x5), some (.int (x6 + (1 : Int32))), none, none]) rfl ?_
          exact ih _ _ _ _ _ _ _
        · refine r_iload (pc := 78) C dX6_printRows_78 rfl ?_
          exact r_iret (pc := 80) C dX6_printRows_80
set_option maxHeartbeats 4000000 in
set_option maxRecDepth 100000 in
theorem g_X6_printRows_L6 {E : zG} {Γ : zX} (C : zO E Γ RX6 cX6_printRows 9 (some .int)) : ∀ (n : Nat) (x1 : Int32) (x2 : Int32) (x3 : Int32) (x4 : Int32) (x5 : Int32) (σ : zS), zJ E Γ rm_X6_printRows 9 (fun r : Int32 => some (.int r)) (f_X6_printRows_L6 n x1 x2 x3 x4 x5 σ) σ 6 [some (.ref (zad E 13)), some (.int x1), some (.int x2), some (.int x3), some (.int x4), some (.int x5), none, none, none] [] := by
  intro n
  induction n with
  | zero => intro x1 x2 x3 x4 x5 σ; rw [f_X6_printRows_L6]; exact r_none
  | succ n ih =>
    intro x1 x2 x3 x4 x5 σ
    rw [f_X6_printRows_L6]
    refine r_iload (pc := 6) C dX6_printRows_6 rfl ?_
    refine r_iload_n (pc := 8) C dX6_printRows_8 rfl ?_
    refine r_icmp_ge (pc := 9) (tgt := 96) C dX6_printRows_9 (by decide) (fun _ => ?_) (fun _ => ?_)
    · refine r_iconst (pc := 96) (v := 1) C dX6_printRows_96 (by decide) ?_
      exact r_iret (pc := 97) C dX6_printRows_97
    · refine r_iload (pc := 12) C dX6_printRows_12 rfl ?_
      refine r_if_le (pc := 14) (tgt := 32) C dX6_printRows_14 (by decide) (fun _ => ?_) (fun _ => ?_)
      · refine r_iconst (pc := 32) (v := 0) C dX6_printRows_32 (by decide) ?_
        refine r_istore (pc := 33) (lv' := [some (.ref (zad E 13)), some (.int x1), some (.int x2), some (.int x3), some (.int x4), some (.int x5), some (.int (0 : Int32)), none, none]) C dX6_printRows_33 (by decide) rfl ?_
        refine g_X6_printRows_L35 C (fun v3 v4 v5 v6 v7 v8 s3 => ?_) zF _ _ _ _ _ _ _
        refine r_iinc (pc := 90) (lv' := [some (.ref (zad E 13)), some (.int v3), some (.int v4), some (.int v5), some (.int v6), some (.int (v7 + (1 : Int32))), some (.int v8), none, none]) C dX6_printRows_90 (by decide) rfl rfl rfl ?_
        refine r_goto (pc := 93) (tgt := 6) C dX6_printRows_93 (by decide) ?_
        refine r_mask [true, true, true, true, true, true, false, false, false] (lv' := [some (.ref (zad E 13)), some (.int v3), some (.int v4), some (.int v5), some (.int v6), some (.int (v7 + (1 : Int32))), none, none, none]) rfl ?_
        exact ih _ _ _ _ _ _
      · refine r_aload_n (pc := 17) C dX6_printRows_17 rfl ?_
        refine r_get (pc := 18) C K_X6 13 4 (by decide) rfl (by decide) lk_f_X6_21 rfl dX6_printRows_18 ?_
        refine r_bipush (pc := 21) (v := 10) C dX6_printRows_21 (by decide) ?_
        refine r_callV (pc := 23) C 41 (c_X4_print (zO.ap C) _ _) lk_c_X4_print lk_i_X4 lk_m_X6_195 lk_n_X4_print lk_v_X4_print (n := 1) (by decide +kernel) rfl ⟨rfl, rfl⟩ (by decide) (by decide) rfl rfl rfl (Nat.le_of_ble_eq_true rfl) ⟨Nat.zero_le _, Nat.zero_le _⟩ dX6_printRows_23 (fun v9 s4 _ => ?_)
        refine r_if_ge (pc := 26) (tgt := 32) C dX6_printRows_26 (by decide) (fun _ => ?_) (fun _ => ?_)
        · refine r_iconst (pc := 32) (v := 0) C dX6_printRows_32 (by decide) ?_
          refine r_istore (pc := 33) (lv' := [some (.ref (zad E 13)), some (.int x1), some (.int x2), some (.int x3), some (.int x4), some (.int x5), some (.int (0 : Int32)), none, none]) C dX6_printRows_33 (by decide) rfl ?_
          refine g_X6_printRows_L35 C (fun v10 v11 v12 v13 v14 v15 s5 => ?_) zF _ _ _ _ _ _ _
          refine r_iinc (pc := 90) (lv' := [some (.ref (zad E 13)), some (.int v10), some (.int v11), some (.int v12), some (.int v13), some (.int (v14 + (1 : Int32))), some (.int v15), none, none]) C dX6_printRows_90 (by decide) rfl rfl rfl ?_
          refine r_goto (pc := 93) (tgt := 6) C dX6_printRows_93 (by decide) ?_
          refine r_mask [true, true, true, true, true, true, false, false, false] (lv' := [some (.ref (zad E 13)), some (.int v10), some (.int v11), some (.int v12), some (.int v13), some (.int (v14 + (1 : Int32))), none, none, none]) rfl ?_
          exact ih _ _ _ _ _ _
        · refine r_bipush (pc := 29) (v := -21) C dX6_printRows_29 (by decide) ?_
          exact r_iret (pc := 31) C dX6_printRows_31
set_option maxHeartbeats 4000000 in
set_option maxRecDepth 100000 in
theorem g_X6_printRows {E : zG} {Γ : zX} (C : zO E Γ RX6 cX6_printRows 9 (some .int)) (p0 : Int32) (p1 : Int32) (p2 : Int32) (σ : zS) : zJ E Γ rm_X6_printRows 9 (fun r : Int32 => some (.int r)) (f_X6_printRows p0 p1 p2 σ) σ 0 [some (.ref (zad E 13)), some (.int p0), some (.int p1), some (.int p2), none, none, none, none, none] [] := by
  unfold f_X6_printRows
  refine r_iload_n (pc := 0) C dX6_printRows_0 rfl ?_
  refine r_istore (pc := 1) (lv' := [some (.ref (zad E 13)), some (.int p0), some (.int p1), some (.int p2), some (.int p0), none, none, none, none]) C dX6_printRows_1 (by decide) rfl ?_
  refine r_iconst (pc := 3) (v := 0) C dX6_printRows_3 (by decide) ?_
  refine r_istore (pc := 4) (lv' := [some (.ref (zad E 13)), some (.int p0), some (.int p1), some (.int p2), some (.int p0), some (.int (0 : Int32)), none, none, none]) C dX6_printRows_4 (by decide) rfl ?_
  exact g_X6_printRows_L6 C zF _ _ _ _ _ _
theorem c_X6_printRows {E : zG} (hAp : zAp E) (p0 : Int32) (p1 : Int32) (p2 : Int32) (σ : zS) : zM E yX6_printRows cX6_printRows 9 (some .int) rm_X6_printRows (fun r : Int32 => some (.int r)) [.ref (zad E 13), .int p0, .int p1, .int p2] (f_X6_printRows p0 p1 p2 σ) σ :=
  zM_of (nn := 5) hAp (by decide) (Nat.le_of_ble_eq_true rfl) rfl rfl (fun Γ C => g_X6_printRows C p0 p1 p2 σ)
set_option maxHeartbeats 4000000 in
set_option maxRecDepth 100000 in
theorem g_X7_shiftNumber {E : zG} {Γ : zX} (C : zO E Γ RX7 cX7_shiftNumber 2 (some .int)) (p0 : Int32) (p1 : Int32) (σ : zS) : zJ E Γ rm_X7_shiftNumber 2 (fun r : Int32 => some (.int r)) (f_X7_shiftNumber p0 p1 σ) σ 0 [some (.int p0), some (.int p1)] [] := by
  unfold f_X7_shiftNumber
  refine r_iload_n (pc := 0) C dX7_shiftNumber_0 rfl ?_
  refine r_if_le (pc := 1) (tgt := 15) C dX7_shiftNumber_1 (by decide) (fun _ => ?_) (fun _ => ?_)
  · refine r_iload_n (pc := 15) C dX7_shiftNumber_15 rfl ?_
    refine r_iload_n (pc := 16) C dX7_shiftNumber_16 rfl ?_
    refine r_ineg (pc := 17) C dX7_shiftNumber_17 ?_
    refine r_bipush (pc := 18) (v := 15) C dX7_shiftNumber_18 (by decide) ?_
    refine r_mmin (pc := 20) C lk_m_X7_196 lk_ms_min lk_mi lk_mc_min (by decide) (Nat.le_of_ble_eq_true rfl) ⟨Nat.zero_le _, Nat.zero_le _⟩ dX7_shiftNumber_20 ?_
    refine r_ishr (pc := 23) C dX7_shiftNumber_23 ?_
    refine r_callS (pc := 24) C (c_X7_word (zO.ap C) _ _) lk_c_X7_word lk_i_X7 lk_m_X7_76 lk_s_X7_word (n := 1) (by decide +kernel) rfl ⟨rfl, rfl⟩ (by decide) (Nat.le_of_ble_eq_true rfl) ⟨Nat.zero_le _, Nat.zero_le _⟩ dX7_shiftNumber_24 (fun v1 s1 _ => ?_)
    exact r_iret (pc := 27) C dX7_shiftNumber_27
  · refine r_iload_n (pc := 4) C dX7_shiftNumber_4 rfl ?_
    refine r_iload_n (pc := 5) C dX7_shiftNumber_5 rfl ?_
    refine r_bipush (pc := 6) (v := 15) C dX7_shiftNumber_6 (by decide) ?_
    refine r_mmin (pc := 8) C lk_m_X7_196 lk_ms_min lk_mi lk_mc_min (by decide) (Nat.le_of_ble_eq_true rfl) ⟨Nat.zero_le _, Nat.zero_le _⟩ dX7_shiftNumber_8 ?_
    refine r_ishl (pc := 11) C dX7_shiftNumber_11 ?_
    refine r_goto (pc := 12) (tgt := 24) C dX7_shiftNumber_12 (by decide) ?_
    refine r_callS (pc := 24) C (c_X7_word (zO.ap C) _ _) lk_c_X7_word lk_i_X7 lk_m_X7_76 lk_s_X7_word (n := 1) (by decide +kernel) rfl ⟨rfl, rfl⟩ (by decide) (Nat.le_of_ble_eq_true rfl) ⟨Nat.zero_le _, Nat.zero_le _⟩ dX7_shiftNumber_24 (fun v2 s2 _ => ?_)
    exact r_iret (pc := 27) C dX7_shiftNumber_27
theorem c_X7_shiftNumber {E : zG} (hAp : zAp E) (p0 : Int32) (p1 : Int32) (σ : zS) : zM E yX7_shiftNumber cX7_shiftNumber 2 (some .int) rm_X7_shiftNumber (fun r : Int32 => some (.int r)) [.int p0, .int p1] (f_X7_shiftNumber p0 p1 σ) σ :=
  zM_of (nn := 0) hAp (by decide) (Nat.le_of_ble_eq_true rfl) rfl rfl (fun Γ C => g_X7_shiftNumber C p0 p1 σ)
set_option maxHeartbeats 4000000 in
set_option maxRecDepth 100000 in
theorem g_X7_shiftBits {E : zG} {Γ : zX} (C : zO E Γ RX7 cX7_shiftBits 2 (some .int)) (p0 : Int32) (p1 : Int32) (σ : zS) : zJ E Γ rm_X7_shiftBits 2 (fun r : Int32 => some (.int r)) (f_X7_shiftBits p0 p1 σ) σ 0 [some (.int p0), some (.int p1)] [] := by
  unfold f_X7_shiftBits
  refine r_iload_n (pc := 0) C dX7_shiftBits_0 rfl ?_
  refine r_bipush (pc := 1) (v := 15) C dX7_shiftBits_1 (by decide) ?_
  refine r_icmp_gt (pc := 3) (tgt := 12) C dX7_shiftBits_3 (by decide) (fun _ => ?_) (fun _ => ?_)
  · refine r_iconst (pc := 12) (v := 0) C dX7_shiftBits_12 (by decide) ?_
    exact r_iret (pc := 13) C dX7_shiftBits_13
  · refine r_iload_n (pc := 6) C dX7_shiftBits_6 rfl ?_
    refine r_bipush (pc := 7) (v := -15) C dX7_shiftBits_7 (by decide) ?_
    refine r_icmp_ge (pc := 9) (tgt := 14) C dX7_shiftBits_9 (by decide) (fun _ => ?_) (fun _ => ?_)
    · refine r_iload_n (pc := 14) C dX7_shiftBits_14 rfl ?_
      refine r_if_le (pc := 15) (tgt := 27) C dX7_shiftBits_15 (by decide) (fun _ => ?_) (fun _ => ?_)
      · refine r_iload_n (pc := 27) C dX7_shiftBits_27 rfl ?_
        refine r_iload_n (pc := 28) C dX7_shiftBits_28 rfl ?_
        refine r_ineg (pc := 29) C dX7_shiftBits_29 ?_
        refine r_iushr (pc := 30) C dX7_shiftBits_30 ?_
        exact r_iret (pc := 31) C dX7_shiftBits_31
      · refine r_iload_n (pc := 18) C dX7_shiftBits_18 rfl ?_
        refine r_iload_n (pc := 19) C dX7_shiftBits_19 rfl ?_
        refine r_ishl (pc := 20) C dX7_shiftBits_20 ?_
        refine r_callS (pc := 21) C (c_X7_word (zO.ap C) _ _) lk_c_X7_word lk_i_X7 lk_m_X7_76 lk_s_X7_word (n := 1) (by decide +kernel) rfl ⟨rfl, rfl⟩ (by decide) (Nat.le_of_ble_eq_true rfl) ⟨Nat.zero_le _, Nat.zero_le _⟩ dX7_shiftBits_21 (fun v1 s1 _ => ?_)
        refine r_goto (pc := 24) (tgt := 31) C dX7_shiftBits_24 (by decide) ?_
        exact r_iret (pc := 31) C dX7_shiftBits_31
    · refine r_iconst (pc := 12) (v := 0) C dX7_shiftBits_12 (by decide) ?_
      exact r_iret (pc := 13) C dX7_shiftBits_13
theorem c_X7_shiftBits {E : zG} (hAp : zAp E) (p0 : Int32) (p1 : Int32) (σ : zS) : zM E yX7_shiftBits cX7_shiftBits 2 (some .int) rm_X7_shiftBits (fun r : Int32 => some (.int r)) [.int p0, .int p1] (f_X7_shiftBits p0 p1 σ) σ :=
  zM_of (nn := 0) hAp (by decide) (Nat.le_of_ble_eq_true rfl) rfl rfl (fun Γ C => g_X7_shiftBits C p0 p1 σ)
set_option maxHeartbeats 4000000 in
set_option maxRecDepth 100000 in
theorem g_X7_arithmetic {E : zG} {Γ : zX} (C : zO E Γ RX7 cX7_arithmetic 3 (some .int)) (p0 : Int32) (p1 : Int32) (p2 : Int32) (σ : zS) : zJ E Γ rm_X7_arithmetic 3 (fun r : Int32 => some (.int r)) (f_X7_arithmetic p0 p1 p2 σ) σ 0 [some (.int p0), some (.int p1), some (.int p2)] [] := by
  unfold f_X7_arithmetic
  refine r_iload_n (pc := 0) C dX7_arithmetic_0 rfl ?_
  refine r_split (fun h1 => ?_) (fun h1 => ?_)
  · refine r_tabIn (pc := 1) (v := 0) (tgt := 56) C dX7_arithmetic_1 h1 (by decide) (by decide) rfl (by decide) ?_
    refine r_iload_n (pc := 56) C dX7_arithmetic_56 rfl ?_
    refine r_iload_n (pc := 57) C dX7_arithmetic_57 rfl ?_
    refine r_iadd (pc := 58) C dX7_arithmetic_58 ?_
    refine r_callS (pc := 59) C (c_X7_word (zO.ap C) _ _) lk_c_X7_word lk_i_X7 lk_m_X7_76 lk_s_X7_word (n := 1) (by decide +kernel) rfl ⟨rfl, rfl⟩ (by decide) (Nat.le_of_ble_eq_true rfl) ⟨Nat.zero_le _, Nat.zero_le _⟩ dX7_arithmetic_59 (fun v1 s1 _ => ?_)
    exact r_iret (pc := 62) C dX7_arithmetic_62
  · refine r_split (fun h2 => ?_) (fun h2 => ?_)
    · refine r_tabIn (pc := 1) (v := 1) (tgt := 63) C dX7_arithmetic_1 h2 (by decide) (by decide) rfl (by decide) ?_
      refine r_iload_n (pc := 63) C dX7_arithmetic_63 rfl ?_
      refine r_iload_n (pc := 64) C dX7_arithmetic_64 rfl ?_
      refine r_isub (pc := 65) C dX7_arithmetic_65 ?_
      refine r_callS (pc := 66) C (c_X7_word (zO.ap C) _ _) lk_c_X7_word lk_i_X7 lk_m_X7_76 lk_s_X7_word (n := 1) (by decide +kernel) rfl ⟨rfl, rfl⟩ (by decide) (Nat.le_of_ble_eq_true rfl) ⟨Nat.zero_le _, Nat.zero_le _⟩ dX7_arithmetic_66 (fun v2 s2 _ => ?_)
      exact r_iret (pc := 69) C dX7_arithmetic_69
    · refine r_split (fun h3 => ?_) (fun h3 => ?_)
      · refine r_tabIn (pc := 1) (v := 2) (tgt := 70) C dX7_arithmetic_1 h3 (by decide) (by decide) rfl (by decide) ?_
        refine r_iload_n (pc := 70) C dX7_arithmetic_70 rfl ?_
        refine r_iload_n (pc := 71) C dX7_arithmetic_71 rfl ?_
        refine r_imul (pc := 72) C dX7_arithmetic_72 ?_
        refine r_callS (pc := 73) C (c_X7_word (zO.ap C) _ _) lk_c_X7_word lk_i_X7 lk_m_X7_76 lk_s_X7_word (n := 1) (by decide +kernel) rfl ⟨rfl, rfl⟩ (by decide) (Nat.le_of_ble_eq_true rfl) ⟨Nat.zero_le _, Nat.zero_le _⟩ dX7_arithmetic_73 (fun v3 s3 _ => ?_)
        exact r_iret (pc := 76) C dX7_arithmetic_76
      · refine r_split (fun h4 => ?_) (fun h4 => ?_)
        · refine r_tabIn (pc := 1) (v := 3) (tgt := 77) C dX7_arithmetic_1 h4 (by decide) (by decide) rfl (by decide) ?_
          refine r_iload_n (pc := 77) C dX7_arithmetic_77 rfl ?_
          refine r_if_ne (pc := 78) (tgt := 86) C dX7_arithmetic_78 (by decide) (fun _ => ?_) (fun _ => ?_)
          · refine r_bipush (pc := 81) (v := -11) C dX7_arithmetic_81 (by decide) ?_
            refine r_goto (pc := 83) (tgt := 92) C dX7_arithmetic_83 (by decide) ?_
            exact r_iret (pc := 92) C dX7_arithmetic_92
          · refine r_iload_n (pc := 86) C dX7_arithmetic_86 rfl ?_
            refine r_iload_n (pc := 87) C dX7_arithmetic_87 rfl ?_
            refine r_idiv (pc := 88) C dX7_arithmetic_88 ?_
            refine r_callS (pc := 89) C (c_X7_word (zO.ap C) _ _) lk_c_X7_word lk_i_X7 lk_m_X7_76 lk_s_X7_word (n := 1) (by decide +kernel) rfl ⟨rfl, rfl⟩ (by decide) (Nat.le_of_ble_eq_true rfl) ⟨Nat.zero_le _, Nat.zero_le _⟩ dX7_arithmetic_89 (fun v4 s4 _ => ?_)
            exact r_iret (pc := 92) C dX7_arithmetic_92
        · refine r_split (fun h5 => ?_) (fun h5 => ?_)
          · refine r_tabIn (pc := 1) (v := 4) (tgt := 93) C dX7_arithmetic_1 h5 (by decide) (by decide) rfl (by decide) ?_
            refine r_iload_n (pc := 93) C dX7_arithmetic_93 rfl ?_
            refine r_if_ne (pc := 94) (tgt := 102) C dX7_arithmetic_94 (by decide) (fun _ => ?_) (fun _ => ?_)
            · refine r_bipush (pc := 97) (v := -11) C dX7_arithmetic_97 (by decide) ?_
              refine r_goto (pc := 99) (tgt := 108) C dX7_arithmetic_99 (by decide) ?_
              exact r_iret (pc := 108) C dX7_arithmetic_108
            · refine r_iload_n (pc := 102) C dX7_arithmetic_102 rfl ?_
              refine r_iload_n (pc := 103) C dX7_arithmetic_103 rfl ?_
              refine r_irem (pc := 104) C dX7_arithmetic_104 ?_
              refine r_callS (pc := 105) C (c_X7_word (zO.ap C) _ _) lk_c_X7_word lk_i_X7 lk_m_X7_76 lk_s_X7_word (n := 1) (by decide +kernel) rfl ⟨rfl, rfl⟩ (by decide) (Nat.le_of_ble_eq_true rfl) ⟨Nat.zero_le _, Nat.zero_le _⟩ dX7_arithmetic_105 (fun v5 s5 _ => ?_)
              exact r_iret (pc := 108) C dX7_arithmetic_108
          · refine r_split (fun h6 => ?_) (fun h6 => ?_)
            · refine r_tabIn (pc := 1) (v := 5) (tgt := 109) C dX7_arithmetic_1 h6 (by decide) (by decide) rfl (by decide) ?_
              refine r_iload_n (pc := 109) C dX7_arithmetic_109 rfl ?_
              refine r_iload_n (pc := 110) C dX7_arithmetic_110 rfl ?_
              refine r_iand (pc := 111) C dX7_arithmetic_111 ?_
              refine r_callS (pc := 112) C (c_X7_word (zO.ap C) _ _) lk_c_X7_word lk_i_X7 lk_m_X7_76 lk_s_X7_word (n := 1) (by decide +kernel) rfl ⟨rfl, rfl⟩ (by decide) (Nat.le_of_ble_eq_true rfl) ⟨Nat.zero_le _, Nat.zero_le _⟩ dX7_arithmetic_112 (fun v6 s6 _ => ?_)
              exact r_iret (pc := 115) C dX7_arithmetic_115
            · refine r_split (fun h7 => ?_) (fun h7 => ?_)
              · refine r_tabIn (pc := 1) (v := 6) (tgt := 116) C dX7_arithmetic_1 h7 (by decide) (by decide) rfl (by decide) ?_
                refine r_iload_n (pc := 116) C dX7_arithmetic_116 rfl ?_
                refine r_iload_n (pc := 117) C dX7_arithmetic_117 rfl ?_
                refine r_ior (pc := 118) C dX7_arithmetic_118 ?_
                refine r_callS (pc := 119) C (c_X7_word (zO.ap C) _ _) lk_c_X7_word lk_i_X7 lk_m_X7_76 lk_s_X7_word (n := 1) (by decide +kernel) rfl ⟨rfl, rfl⟩ (by decide) (Nat.le_of_ble_eq_true rfl) ⟨Nat.zero_le _, Nat.zero_le _⟩ dX7_arithmetic_119 (fun v7 s7 _ => ?_)
                exact r_iret (pc := 122) C dX7_arithmetic_122
              · refine r_split (fun h8 => ?_) (fun h8 => ?_)
                · refine r_tabIn (pc := 1) (v := 7) (tgt := 123) C dX7_arithmetic_1 h8 (by decide) (by decide) rfl (by decide) ?_
                  refine r_iload_n (pc := 123) C dX7_arithmetic_123 rfl ?_
                  refine r_iconst (pc := 124) (v := -1) C dX7_arithmetic_124 (by decide) ?_
                  refine r_ixor (pc := 125) C dX7_arithmetic_125 ?_
                  refine r_callS (pc := 126) C (c_X7_word (zO.ap C) _ _) lk_c_X7_word lk_i_X7 lk_m_X7_76 lk_s_X7_word (n := 1) (by decide +kernel) rfl ⟨rfl, rfl⟩ (by decide) (Nat.le_of_ble_eq_true rfl) ⟨Nat.zero_le _, Nat.zero_le _⟩ dX7_arithmetic_126 (fun v8 s8 _ => ?_)
                  exact r_iret (pc := 129) C dX7_arithmetic_129
                · refine r_split (fun h9 => ?_) (fun h9 => ?_)
                  · refine r_tabIn (pc := 1) (v := 8) (tgt := 130) C dX7_arithmetic_1 h9 (by decide) (by decide) rfl (by decide) ?_
                    refine r_iload_n (pc := 130) C dX7_arithmetic_130 rfl ?_
                    refine r_iload_n (pc := 131) C dX7_arithmetic_131 rfl ?_
                    refine r_callS (pc := 132) C (c_X7_shiftNumber (zO.ap C) _ _ _) lk_c_X7_shiftNumber lk_i_X7 lk_m_X7_189 lk_s_X7_shiftNumber (n := 2) (by decide +kernel) rfl ⟨rfl, rfl⟩ (by decide) (Nat.le_of_ble_eq_true rfl) ⟨Nat.zero_le _, Nat.zero_le _⟩ dX7_arithmetic_132 (fun v9 s9 _ => ?_)
                    exact r_iret (pc := 135) C dX7_arithmetic_135
                  · refine r_split (fun h10 => ?_) (fun h10 => ?_)
                    · refine r_tabIn (pc := 1) (v := 9) (tgt := 136) C dX7_arithmetic_1 h10 (by decide) (by decide) rfl (by decide) ?_
                      refine r_iload_n (pc := 136) C dX7_arithmetic_136 rfl ?_
                      refine r_callS (pc := 137) C (c_X7_word (zO.ap C) _ _) lk_c_X7_word lk_i_X7 lk_m_X7_76 lk_s_X7_word (n := 1) (by decide +kernel) rfl ⟨rfl, rfl⟩ (by decide) (Nat.le_of_ble_eq_true rfl) ⟨Nat.zero_le _, Nat.zero_le _⟩ dX7_arithmetic_137 (fun v10 s10 _ => ?_)
                      refine r_iload_n (pc := 140) C dX7_arithmetic_140 rfl ?_
                      refine r_callS (pc := 141) C (c_X7_shiftBits (zO.ap C) _ _ _) lk_c_X7_shiftBits lk_i_X7 lk_m_X7_193 lk_s_X7_shiftBits (n := 2) (by decide +kernel) rfl ⟨rfl, rfl⟩ (by decide) (Nat.le_of_ble_eq_true rfl) ⟨Nat.zero_le _, Nat.zero_le _⟩ dX7_arithmetic_141 (fun v11 s11 _ => ?_)
                      exact r_iret (pc := 144) C dX7_arithmetic_144
                    · refine r_tabOut (pc := 1) (tgt := 145) C dX7_arithmetic_1 (by have a0 := lv_neT (a := 0) h1 rfl; have a1 := lv_neT (a := 1) h2 rfl; have a2 := lv_neT (a := 2) h3 rfl; have a3 := lv_neT (a := 3) h4 rfl; have a4 := lv_neT (a := 4) h5 rfl; have a5 := lv_neT (a := 5) h6 rfl; have a6 := lv_neT (a := 6) h7 rfl; have a7 := lv_neT (a := 7) h8 rfl; have a8 := lv_neT (a := 8) h9 rfl; have a9 := lv_neT (a := 9) h10 rfl; omega) (by decide) ?_
                      refine r_bipush (pc := 145) (v := -20) C dX7_arithmetic_145 (by decide) ?_
                      exact r_iret (pc := 147) C dX7_arithmetic_147
theorem c_X7_arithmetic {E : zG} (hAp : zAp E) (p0 : Int32) (p1 : Int32) (p2 : Int32) (σ : zS) : zM E yX7_arithmetic cX7_arithmetic 3 (some .int) rm_X7_arithmetic (fun r : Int32 => some (.int r)) [.int p0, .int p1, .int p2] (f_X7_arithmetic p0 p1 p2 σ) σ :=
  zM_of (nn := 0) hAp (by decide) (Nat.le_of_ble_eq_true rfl) rfl rfl (fun Γ C => g_X7_arithmetic C p0 p1 p2 σ)
set_option maxHeartbeats 4000000 in
set_option maxRecDepth 100000 in
theorem g_X6_carryOut {E : zG} {Γ : zX} (C : zO E Γ RX6 cX6_carryOut 6 (some .int)) (p0 : Int32) (p1 : Int32) (p2 : Int32) (p3 : Int32) (p4 : Int32) (σ : zS) : zJ E Γ rm_X6_carryOut 6 (fun r : Int32 => some (.int r)) (f_X6_carryOut p0 p1 p2 p3 p4 σ) σ 0 [some (.ref (zad E 13)), some (.int p0), some (.int p1), some (.int p2), some (.int p3), some (.int p4)] [] := by
  unfold f_X6_carryOut
  refine r_iload_n (pc := 0) C dX6_carryOut_0 rfl ?_
  refine r_bipush (pc := 1) (v := 9) C dX6_carryOut_1 (by decide) ?_
  refine r_icmp_gt (pc := 3) (tgt := 25) C dX6_carryOut_3 (by decide) (fun _ => ?_) (fun _ => ?_)
  · refine r_iload_n (pc := 25) C dX6_carryOut_25 rfl ?_
    refine r_split (fun h1 => ?_) (fun h1 => ?_)
    · refine r_tabIn (pc := 26) (v := 10) (tgt := 132) C dX6_carryOut_26 h1 (by decide) (by decide) rfl (by decide) ?_
      refine r_aload_n (pc := 132) C dX6_carryOut_132 rfl ?_
      refine r_iload_n (pc := 133) C dX6_carryOut_133 rfl ?_
      refine r_iload (pc := 134) C dX6_carryOut_134 rfl ?_
      refine r_icmp_ne (pc := 136) (tgt := 143) C dX6_carryOut_136 (by decide) (fun _ => ?_) (fun _ => ?_)
      · refine r_iconst (pc := 139) (v := 1) C dX6_carryOut_139 (by decide) ?_
        refine r_goto (pc := 140) (tgt := 144) C dX6_carryOut_140 (by decide) ?_
        refine r_iload (pc := 144) C dX6_carryOut_144 rfl ?_
        refine r_callV (pc := 146) C 13 (c_X6_goOnIf (zO.ap C) _ _ _) lk_c_X6_goOnIf lk_i_X6 lk_m_X6_143 lk_n_X6_goOnIf lk_v_X6_goOnIf (n := 2) (by decide +kernel) rfl ⟨rfl, rfl⟩ (by decide) (by decide) rfl rfl rfl (Nat.le_of_ble_eq_true rfl) ⟨Nat.zero_le _, Nat.zero_le _⟩ dX6_carryOut_146 (fun v2 s2 _ => ?_)
        exact r_iret (pc := 149) C dX6_carryOut_149
      · refine r_iconst (pc := 143) (v := 0) C dX6_carryOut_143 (by decide) ?_
        refine r_iload (pc := 144) C dX6_carryOut_144 rfl ?_
        refine r_callV (pc := 146) C 13 (c_X6_goOnIf (zO.ap C) _ _ _) lk_c_X6_goOnIf lk_i_X6 lk_m_X6_143 lk_n_X6_goOnIf lk_v_X6_goOnIf (n := 2) (by decide +kernel) rfl ⟨rfl, rfl⟩ (by decide) (by decide) rfl rfl rfl (Nat.le_of_ble_eq_true rfl) ⟨Nat.zero_le _, Nat.zero_le _⟩ dX6_carryOut_146 (fun v1 s1 _ => ?_)
        exact r_iret (pc := 149) C dX6_carryOut_149
    · refine r_split (fun h2 => ?_) (fun h2 => ?_)
      · refine r_tabIn (pc := 26) (v := 11) (tgt := 150) C dX6_carryOut_26 h2 (by decide) (by decide) rfl (by decide) ?_
        refine r_aload_n (pc := 150) C dX6_carryOut_150 rfl ?_
        refine r_iload_n (pc := 151) C dX6_carryOut_151 rfl ?_
        refine r_callSN (pc := 152) C (c_X7_number (zO.ap C) _ _) lk_c_X7_number lk_i_X7 lk_mn_X6_133 lk_s_X7_number (n := 1) (by decide +kernel) rfl ⟨rfl, rfl⟩ (by decide) (Nat.le_of_ble_eq_true rfl) ⟨Nat.zero_le _, Nat.zero_le _⟩ dX6_carryOut_152 (fun v3 s3 _ => ?_)
        refine r_iload (pc := 155) C dX6_carryOut_155 rfl ?_
        refine r_callSN (pc := 157) C (c_X7_number (zO.ap C) _ _) lk_c_X7_number lk_i_X7 lk_mn_X6_133 lk_s_X7_number (n := 1) (by decide +kernel) rfl ⟨rfl, rfl⟩ (by decide) (Nat.le_of_ble_eq_true rfl) ⟨Nat.zero_le _, Nat.zero_le _⟩ dX6_carryOut_157 (fun v4 s4 _ => ?_)
        refine r_icmp_ge (pc := 160) (tgt := 167) C dX6_carryOut_160 (by decide) (fun _ => ?_) (fun _ => ?_)
        · refine r_iconst (pc := 167) (v := 0) C dX6_carryOut_167 (by decide) ?_
          refine r_iload (pc := 168) C dX6_carryOut_168 rfl ?_
          refine r_callV (pc := 170) C 13 (c_X6_goOnIf (zO.ap C) _ _ _) lk_c_X6_goOnIf lk_i_X6 lk_m_X6_143 lk_n_X6_goOnIf lk_v_X6_goOnIf (n := 2) (by decide +kernel) rfl ⟨rfl, rfl⟩ (by decide) (by decide) rfl rfl rfl (Nat.le_of_ble_eq_true rfl) ⟨Nat.zero_le _, Nat.zero_le _⟩ dX6_carryOut_170 (fun v5 s5 _ => ?_)
          exact r_iret (pc := 173) C dX6_carryOut_173
        · refine r_iconst (pc := 163) (v := 1) C dX6_carryOut_163 (by decide) ?_
          refine r_goto (pc := 164) (tgt := 168) C dX6_carryOut_164 (by decide) ?_
          refine r_iload (pc := 168) C dX6_carryOut_168 rfl ?_
          refine r_callV (pc := 170) C 13 (c_X6_goOnIf (zO.ap C) _ _ _) lk_c_X6_goOnIf lk_i_X6 lk_m_X6_143 lk_n_X6_goOnIf lk_v_X6_goOnIf (n := 2) (by decide +kernel) rfl ⟨rfl, rfl⟩ (by decide) (by decide) rfl rfl rfl (Nat.le_of_ble_eq_true rfl) ⟨Nat.zero_le _, Nat.zero_le _⟩ dX6_carryOut_170 (fun v6 s6 _ => ?_)
          exact r_iret (pc := 173) C dX6_carryOut_173
      · refine r_split (fun h3 => ?_) (fun h3 => ?_)
        · refine r_tabIn (pc := 26) (v := 12) (tgt := 174) C dX6_carryOut_26 h3 (by decide) (by decide) rfl (by decide) ?_
          refine r_aload_n (pc := 174) C dX6_carryOut_174 rfl ?_
          refine r_iload_n (pc := 175) C dX6_carryOut_175 rfl ?_
          refine r_callSN (pc := 176) C (c_X7_number (zO.ap C) _ _) lk_c_X7_number lk_i_X7 lk_mn_X6_133 lk_s_X7_number (n := 1) (by decide +kernel) rfl ⟨rfl, rfl⟩ (by decide) (Nat.le_of_ble_eq_true rfl) ⟨Nat.zero_le _, Nat.zero_le _⟩ dX6_carryOut_176 (fun v7 s7 _ => ?_)
          refine r_iload (pc := 179) C dX6_carryOut_179 rfl ?_
          refine r_callSN (pc := 181) C (c_X7_number (zO.ap C) _ _) lk_c_X7_number lk_i_X7 lk_mn_X6_133 lk_s_X7_number (n := 1) (by decide +kernel) rfl ⟨rfl, rfl⟩ (by decide) (Nat.le_of_ble_eq_true rfl) ⟨Nat.zero_le _, Nat.zero_le _⟩ dX6_carryOut_181 (fun v8 s8 _ => ?_)
          refine r_icmp_le (pc := 184) (tgt := 191) C dX6_carryOut_184 (by decide) (fun _ => ?_) (fun _ => ?_)
          · refine r_iconst (pc := 191) (v := 0) C dX6_carryOut_191 (by decide) ?_
            refine r_iload (pc := 192) C dX6_carryOut_192 rfl ?_
            refine r_callV (pc := 194) C 13 (c_X6_goOnIf (zO.ap C) _ _ _) lk_c_X6_goOnIf lk_i_X6 lk_m_X6_143 lk_n_X6_goOnIf lk_v_X6_goOnIf (n := 2) (by decide +kernel) rfl ⟨rfl, rfl⟩ (by decide) (by decide) rfl rfl rfl (Nat.le_of_ble_eq_true rfl) ⟨Nat.zero_le _, Nat.zero_le _⟩ dX6_carryOut_194 (fun v9 s9 _ => ?_)
            exact r_iret (pc := 197) C dX6_carryOut_197
          · refine r_iconst (pc := 187) (v := 1) C dX6_carryOut_187 (by decide) ?_
            refine r_goto (pc := 188) (tgt := 192) C dX6_carryOut_188 (by decide) ?_
            refine r_iload (pc := 192) C dX6_carryOut_192 rfl ?_
            refine r_callV (pc := 194) C 13 (c_X6_goOnIf (zO.ap C) _ _ _) lk_c_X6_goOnIf lk_i_X6 lk_m_X6_143 lk_n_X6_goOnIf lk_v_X6_goOnIf (n := 2) (by decide +kernel) rfl ⟨rfl, rfl⟩ (by decide) (by decide) rfl rfl rfl (Nat.le_of_ble_eq_true rfl) ⟨Nat.zero_le _, Nat.zero_le _⟩ dX6_carryOut_194 (fun v10 s10 _ => ?_)
            exact r_iret (pc := 197) C dX6_carryOut_197
        · refine r_split (fun h4 => ?_) (fun h4 => ?_)
          · refine r_tabIn (pc := 26) (v := 13) (tgt := 198) C dX6_carryOut_26 h4 (by decide) (by decide) rfl (by decide) ?_
            refine r_aload_n (pc := 198) C dX6_carryOut_198 rfl ?_
            refine r_iconst (pc := 199) (v := 1) C dX6_carryOut_199 (by decide) ?_
            refine r_iload_n (pc := 200) C dX6_carryOut_200 rfl ?_
            refine r_callV (pc := 201) C 13 (c_X6_goOnIf (zO.ap C) _ _ _) lk_c_X6_goOnIf lk_i_X6 lk_m_X6_143 lk_n_X6_goOnIf lk_v_X6_goOnIf (n := 2) (by decide +kernel) rfl ⟨rfl, rfl⟩ (by decide) (by decide) rfl rfl rfl (Nat.le_of_ble_eq_true rfl) ⟨Nat.zero_le _, Nat.zero_le _⟩ dX6_carryOut_201 (fun v11 s11 _ => ?_)
            exact r_iret (pc := 204) C dX6_carryOut_204
          · refine r_split (fun h5 => ?_) (fun h5 => ?_)
            · refine r_tabIn (pc := 26) (v := 14) (tgt := 205) C dX6_carryOut_26 h5 (by decide) (by decide) rfl (by decide) ?_
              refine r_aload_n (pc := 205) C dX6_carryOut_205 rfl ?_
              refine r_iload_n (pc := 206) C dX6_carryOut_206 rfl ?_
              refine r_sipush (pc := 207) (v := 255) C dX6_carryOut_207 (by decide) ?_
              refine r_iand (pc := 210) C dX6_carryOut_210 ?_
              refine r_iconst (pc := 211) (v := 1) C dX6_carryOut_211 (by decide) ?_
              refine r_callV (pc := 212) C 13 (c_X6_change (zO.ap C) _ _ _) lk_c_X6_change lk_i_X6 lk_m_X6_147 lk_n_X6_change lk_v_X6_change (n := 2) (by decide +kernel) rfl ⟨rfl, rfl⟩ (by decide) (by decide) rfl rfl rfl (Nat.le_of_ble_eq_true rfl) ⟨Nat.zero_le _, Nat.zero_le _⟩ dX6_carryOut_212 (fun v12 s12 _ => ?_)
              exact r_iret (pc := 215) C dX6_carryOut_215
            · refine r_split (fun h6 => ?_) (fun h6 => ?_)
              · refine r_tabIn (pc := 26) (v := 15) (tgt := 216) C dX6_carryOut_26 h6 (by decide) (by decide) rfl (by decide) ?_
                refine r_aload_n (pc := 216) C dX6_carryOut_216 rfl ?_
                refine r_iload_n (pc := 217) C dX6_carryOut_217 rfl ?_
                refine r_sipush (pc := 218) (v := 255) C dX6_carryOut_218 (by decide) ?_
                refine r_iand (pc := 221) C dX6_carryOut_221 ?_
                refine r_iconst (pc := 222) (v := -1) C dX6_carryOut_222 (by decide) ?_
                refine r_callV (pc := 223) C 13 (c_X6_change (zO.ap C) _ _ _) lk_c_X6_change lk_i_X6 lk_m_X6_147 lk_n_X6_change lk_v_X6_change (n := 2) (by decide +kernel) rfl ⟨rfl, rfl⟩ (by decide) (by decide) rfl rfl rfl (Nat.le_of_ble_eq_true rfl) ⟨Nat.zero_le _, Nat.zero_le _⟩ dX6_carryOut_223 (fun v13 s13 _ => ?_)
                exact r_iret (pc := 226) C dX6_carryOut_226
              · refine r_split (fun h7 => ?_) (fun h7 => ?_)
                · refine r_tabIn (pc := 26) (v := 16) (tgt := 227) C dX6_carryOut_26 h7 (by decide) (by decide) rfl (by decide) ?_
                  refine r_aload_n (pc := 227) C dX6_carryOut_227 rfl ?_
                  refine r_iload_n (pc := 228) C dX6_carryOut_228 rfl ?_
                  refine r_aload_n (pc := 229) C dX6_carryOut_229 rfl ?_
                  refine r_get (pc := 230) C K_X6 13 0 (by decide) rfl (by decide) lk_f_X6_36 rfl dX6_carryOut_230 ?_
                  refine r_iload_n (pc := 233) C dX6_carryOut_233 rfl ?_
                  refine r_iconst (pc := 234) (v := 2) C dX6_carryOut_234 (by decide) ?_
                  refine r_iload (pc := 235) C dX6_carryOut_235 rfl ?_
                  refine r_callSN (pc := 237) C (c_X7_number (zO.ap C) _ _) lk_c_X7_number lk_i_X7 lk_mn_X6_133 lk_s_X7_number (n := 1) (by decide +kernel) rfl ⟨rfl, rfl⟩ (by decide) (Nat.le_of_ble_eq_true rfl) ⟨Nat.zero_le _, Nat.zero_le _⟩ dX6_carryOut_237 (fun v14 s14 _ => ?_)
                  refine r_imul (pc := 240) C dX6_carryOut_240 ?_
                  refine r_iadd (pc := 241) C dX6_carryOut_241 ?_
                  refine r_callV (pc := 242) C 1 (c_X3_wordAt (zO.ap C) _ _) lk_c_X3_wordAt lk_i_X3 lk_m_X6_150 lk_n_X3_wordAt lk_v_X3_wordAt (n := 1) (by decide +kernel) rfl ⟨rfl, rfl⟩ (by decide) (by decide) rfl rfl rfl (Nat.le_of_ble_eq_true rfl) ⟨Nat.zero_le _, Nat.zero_le _⟩ dX6_carryOut_242 (fun v15 s15 _ => ?_)
                  refine r_callV (pc := 245) C 13 (c_X6_tell (zO.ap C) _ _ _) lk_c_X6_tell lk_i_X6 lk_m_X6_140 lk_n_X6_tell lk_v_X6_tell (n := 2) (by decide +kernel) rfl ⟨rfl, rfl⟩ (by decide) (by decide) rfl rfl rfl (Nat.le_of_ble_eq_true rfl) ⟨Nat.zero_le _, Nat.zero_le _⟩ dX6_carryOut_245 (fun v16 s16 _ => ?_)
                  exact r_iret (pc := 248) C dX6_carryOut_248
                · refine r_split (fun h8 => ?_) (fun h8 => ?_)
                  · refine r_tabIn (pc := 26) (v := 17) (tgt := 249) C dX6_carryOut_26 h8 (by decide) (by decide) rfl (by decide) ?_
                    refine r_aload_n (pc := 249) C dX6_carryOut_249 rfl ?_
                    refine r_iload_n (pc := 250) C dX6_carryOut_250 rfl ?_
                    refine r_aload_n (pc := 251) C dX6_carryOut_251 rfl ?_
                    refine r_get (pc := 252) C K_X6 13 0 (by decide) rfl (by decide) lk_f_X6_36 rfl dX6_carryOut_252 ?_
                    refine r_iload_n (pc := 255) C dX6_carryOut_255 rfl ?_
                    refine r_iload (pc := 256) C dX6_carryOut_256 rfl ?_
                    refine r_callSN (pc := 258) C (c_X7_number (zO.ap C) _ _) lk_c_X7_number lk_i_X7 lk_mn_X6_133 lk_s_X7_number (n := 1) (by decide +kernel) rfl ⟨rfl, rfl⟩ (by decide) (Nat.le_of_ble_eq_true rfl) ⟨Nat.zero_le _, Nat.zero_le _⟩ dX6_carryOut_258 (fun v17 s17 _ => ?_)
                    refine r_iadd (pc := 261) C dX6_carryOut_261 ?_
                    refine r_callV (pc := 262) C 1 (c_X3_byteAt (zO.ap C) _ _) lk_c_X3_byteAt lk_i_X3 lk_m_X6_155 lk_n_X3_byteAt lk_v_X3_byteAt (n := 1) (by decide +kernel) rfl ⟨rfl, rfl⟩ (by decide) (by decide) rfl rfl rfl (Nat.le_of_ble_eq_true rfl) ⟨Nat.zero_le _, Nat.zero_le _⟩ dX6_carryOut_262 (fun v18 s18 _ => ?_)
                    refine r_callV (pc := 265) C 13 (c_X6_tell (zO.ap C) _ _ _) lk_c_X6_tell lk_i_X6 lk_m_X6_140 lk_n_X6_tell lk_v_X6_tell (n := 2) (by decide +kernel) rfl ⟨rfl, rfl⟩ (by decide) (by decide) rfl rfl rfl (Nat.le_of_ble_eq_true rfl) ⟨Nat.zero_le _, Nat.zero_le _⟩ dX6_carryOut_265 (fun v19 s19 _ => ?_)
                    exact r_iret (pc := 268) C dX6_carryOut_268
                  · refine r_split (fun h9 => ?_) (fun h9 => ?_)
                    · refine r_tabIn (pc := 26) (v := 18) (tgt := 269) C dX6_carryOut_26 h9 (by decide) (by decide) rfl (by decide) ?_
                      refine r_aload_n (pc := 269) C dX6_carryOut_269 rfl ?_
                      refine r_get (pc := 270) C K_X6 13 0 (by decide) rfl (by decide) lk_f_X6_36 rfl dX6_carryOut_270 ?_
                      refine r_iload_n (pc := 273) C dX6_carryOut_273 rfl ?_
                      refine r_iconst (pc := 274) (v := 2) C dX6_carryOut_274 (by decide) ?_
                      refine r_iload (pc := 275) C dX6_carryOut_275 rfl ?_
                      refine r_callSN (pc := 277) C (c_X7_number (zO.ap C) _ _) lk_c_X7_number lk_i_X7 lk_mn_X6_133 lk_s_X7_number (n := 1) (by decide +kernel) rfl ⟨rfl, rfl⟩ (by decide) (Nat.le_of_ble_eq_true rfl) ⟨Nat.zero_le _, Nat.zero_le _⟩ dX6_carryOut_277 (fun v20 s20 _ => ?_)
                      refine r_imul (pc := 280) C dX6_carryOut_280 ?_
                      refine r_iadd (pc := 281) C dX6_carryOut_281 ?_
                      refine r_iload (pc := 282) C dX6_carryOut_282 rfl ?_
                      refine r_iconst (pc := 284) (v := 0) C dX6_carryOut_284 (by decide) ?_
                      refine r_callV (pc := 285) C 1 (c_X3_setWord (zO.ap C) _ _ _ _) lk_c_X3_setWord lk_i_X3 lk_m_X6_158 lk_n_X3_setWord lk_v_X3_setWord (n := 3) (by decide +kernel) rfl ⟨rfl, rfl⟩ (by decide) (by decide) rfl rfl rfl (Nat.le_of_ble_eq_true rfl) ⟨Nat.zero_le _, Nat.zero_le _⟩ dX6_carryOut_285 (fun v21 s21 _ => ?_)
                      exact r_iret (pc := 288) C dX6_carryOut_288
                    · refine r_split (fun h10 => ?_) (fun h10 => ?_)
                      · refine r_tabIn (pc := 26) (v := 19) (tgt := 289) C dX6_carryOut_26 h10 (by decide) (by decide) rfl (by decide) ?_
                        refine r_aload_n (pc := 289) C dX6_carryOut_289 rfl ?_
                        refine r_get (pc := 290) C K_X6 13 0 (by decide) rfl (by decide) lk_f_X6_36 rfl dX6_carryOut_290 ?_
                        refine r_iload_n (pc := 293) C dX6_carryOut_293 rfl ?_
                        refine r_iload (pc := 294) C dX6_carryOut_294 rfl ?_
                        refine r_callSN (pc := 296) C (c_X7_number (zO.ap C) _ _) lk_c_X7_number lk_i_X7 lk_mn_X6_133 lk_s_X7_number (n := 1) (by decide +kernel) rfl ⟨rfl, rfl⟩ (by decide) (Nat.le_of_ble_eq_true rfl) ⟨Nat.zero_le _, Nat.zero_le _⟩ dX6_carryOut_296 (fun v22 s22 _ => ?_)
                        refine r_iadd (pc := 299) C dX6_carryOut_299 ?_
                        refine r_iload (pc := 300) C dX6_carryOut_300 rfl ?_
                        refine r_iconst (pc := 302) (v := 0) C dX6_carryOut_302 (by decide) ?_
                        refine r_callV (pc := 303) C 1 (c_X3_setByte (zO.ap C) _ _ _ _) lk_c_X3_setByte lk_i_X3 lk_m_X6_162 lk_n_X3_setByte lk_v_X3_setByte (n := 3) (by decide +kernel) rfl ⟨rfl, rfl⟩ (by decide) (by decide) rfl rfl rfl (Nat.le_of_ble_eq_true rfl) ⟨Nat.zero_le _, Nat.zero_le _⟩ dX6_carryOut_303 (fun v23 s23 _ => ?_)
                        exact r_iret (pc := 306) C dX6_carryOut_306
                      · refine r_split (fun h11 => ?_) (fun h11 => ?_)
                        · refine r_tabIn (pc := 26) (v := 20) (tgt := 307) C dX6_carryOut_26 h11 (by decide) (by decide) rfl (by decide) ?_
                          refine r_aload_n (pc := 307) C dX6_carryOut_307 rfl ?_
                          refine r_iload_n (pc := 308) C dX6_carryOut_308 rfl ?_
                          refine r_iload (pc := 309) C dX6_carryOut_309 rfl ?_
                          refine r_iload (pc := 311) C dX6_carryOut_311 rfl ?_
                          refine r_iload_n (pc := 313) C dX6_carryOut_313 rfl ?_
                          refine r_callV (pc := 314) C 13 (c_X6_enter (zO.ap C) _ _ _ _ _) lk_c_X6_enter lk_i_X6 lk_m_X6_81 lk_n_X6_enter lk_v_X6_enter (n := 4) (by decide +kernel) rfl ⟨rfl, rfl⟩ (by decide) (by decide) rfl rfl rfl (Nat.le_of_ble_eq_true rfl) ⟨Nat.zero_le _, Nat.zero_le _⟩ dX6_carryOut_314 (fun v24 s24 _ => ?_)
                          exact r_iret (pc := 317) C dX6_carryOut_317
                        · refine r_split (fun h12 => ?_) (fun h12 => ?_)
                          · refine r_tabIn (pc := 26) (v := 21) (tgt := 318) C dX6_carryOut_26 h12 (by decide) (by decide) rfl (by decide) ?_
                            refine r_aload_n (pc := 318) C dX6_carryOut_318 rfl ?_
                            refine r_iload_n (pc := 319) C dX6_carryOut_319 rfl ?_
                            refine r_callV (pc := 320) C 13 (c_X6_giveBack (zO.ap C) _ _) lk_c_X6_giveBack lk_i_X6 lk_m_X6_165 lk_n_X6_giveBack lk_v_X6_giveBack (n := 1) (by decide +kernel) rfl ⟨rfl, rfl⟩ (by decide) (by decide) rfl rfl rfl (Nat.le_of_ble_eq_true rfl) ⟨Nat.zero_le _, Nat.zero_le _⟩ dX6_carryOut_320 (fun v25 s25 _ => ?_)
                            exact r_iret (pc := 323) C dX6_carryOut_323
                          · refine r_split (fun h13 => ?_) (fun h13 => ?_)
                            · refine r_tabIn (pc := 26) (v := 22) (tgt := 324) C dX6_carryOut_26 h13 (by decide) (by decide) rfl (by decide) ?_
                              refine r_aload_n (pc := 324) C dX6_carryOut_324 rfl ?_
                              refine r_get (pc := 325) C K_X6 13 3 (by decide) rfl (by decide) lk_f_X6_12 rfl dX6_carryOut_325 ?_
                              refine r_iload_n (pc := 328) C dX6_carryOut_328 rfl ?_
                              refine r_callV (pc := 329) C 14 (c_X2_push (zO.ap C) _ _) lk_c_X2_push lk_i_X2 lk_m_X6_168 lk_n_X2_push lk_v_X2_push (n := 1) (by decide +kernel) rfl ⟨rfl, rfl⟩ (by decide) (by decide) rfl rfl rfl (Nat.le_of_ble_eq_true rfl) ⟨Nat.zero_le _, Nat.zero_le _⟩ dX6_carryOut_329 (fun v26 s26 _ => ?_)
                              exact r_iret (pc := 332) C dX6_carryOut_332
                            · refine r_split (fun h14 => ?_) (fun h14 => ?_)
                              · refine r_tabIn (pc := 26) (v := 23) (tgt := 333) C dX6_carryOut_26 h14 (by decide) (by decide) rfl (by decide) ?_
                                refine r_aload_n (pc := 333) C dX6_carryOut_333 rfl ?_
                                refine r_iload_n (pc := 334) C dX6_carryOut_334 rfl ?_
                                refine r_sipush (pc := 335) (v := 255) C dX6_carryOut_335 (by decide) ?_
                                refine r_iand (pc := 338) C dX6_carryOut_338 ?_
                                refine r_aload_n (pc := 339) C dX6_carryOut_339 rfl ?_
                                refine r_get (pc := 340) C K_X6 13 3 (by decide) rfl (by decide) lk_f_X6_12 rfl dX6_carryOut_340 ?_
                                refine r_callV (pc := 343) C 14 (c_X2_pop (zO.ap C)  _) lk_c_X2_pop lk_i_X2 lk_m_X6_171 lk_n_X2_pop lk_v_X2_pop (n := 0) (by decide +kernel) rfl ⟨rfl, rfl⟩ (by decide) (by decide) rfl rfl rfl (Nat.le_of_ble_eq_true rfl) ⟨Nat.zero_le _, Nat.zero_le _⟩ dX6_carryOut_343 (fun v27 s27 _ => ?_)
                                refine r_callV (pc := 346) C 13 (c_X6_tell (zO.ap C) _ _ _) lk_c_X6_tell lk_i_X6 lk_m_X6_140 lk_n_X6_tell lk_v_X6_tell (n := 2) (by decide +kernel) rfl ⟨rfl, rfl⟩ (by decide) (by decide) rfl rfl rfl (Nat.le_of_ble_eq_true rfl) ⟨Nat.zero_le _, Nat.zero_le _⟩ dX6_carryOut_346 (fun v28 s28 _ => ?_)
                                exact r_iret (pc := 349) C dX6_carryOut_349
                              · refine r_split (fun h15 => ?_) (fun h15 => ?_)
                                · refine r_tabIn (pc := 26) (v := 24) (tgt := 350) C dX6_carryOut_26 h15 (by decide) (by decide) rfl (by decide) ?_
                                  refine r_aload_n (pc := 350) C dX6_carryOut_350 rfl ?_
                                  refine r_iload_n (pc := 351) C dX6_carryOut_351 rfl ?_
                                  refine r_aload_n (pc := 352) C dX6_carryOut_352 rfl ?_
                                  refine r_get (pc := 353) C K_X6 13 3 (by decide) rfl (by decide) lk_f_X6_12 rfl dX6_carryOut_353 ?_
                                  refine r_getN (pc := 356) C K_X2 14 3 (by decide) rfl (by decide) lk_fn_X6_175 rfl dX6_carryOut_356 ?_
                                  refine r_iconst (pc := 359) (v := 1) C dX6_carryOut_359 (by decide) ?_
                                  refine r_isub (pc := 360) C dX6_carryOut_360 ?_
                                  refine r_callV (pc := 361) C 13 (c_X6_tell (zO.ap C) _ _ _) lk_c_X6_tell lk_i_X6 lk_m_X6_140 lk_n_X6_tell lk_v_X6_tell (n := 2) (by decide +kernel) rfl ⟨rfl, rfl⟩ (by decide) (by decide) rfl rfl rfl (Nat.le_of_ble_eq_true rfl) ⟨Nat.zero_le _, Nat.zero_le _⟩ dX6_carryOut_361 (fun v29 s29 _ => ?_)
                                  exact r_iret (pc := 364) C dX6_carryOut_364
                                · refine r_split (fun h16 => ?_) (fun h16 => ?_)
                                  · refine r_tabIn (pc := 26) (v := 25) (tgt := 365) C dX6_carryOut_26 h16 (by decide) (by decide) rfl (by decide) ?_
                                    refine r_aload_n (pc := 365) C dX6_carryOut_365 rfl ?_
                                    refine r_iload (pc := 366) C dX6_carryOut_366 rfl ?_
                                    refine r_iload_n (pc := 368) C dX6_carryOut_368 rfl ?_
                                    refine r_callV (pc := 369) C 13 (c_X6_throwTo (zO.ap C) _ _ _) lk_c_X6_throwTo lk_i_X6 lk_m_X6_178 lk_n_X6_throwTo lk_v_X6_throwTo (n := 2) (by decide +kernel) rfl ⟨rfl, rfl⟩ (by decide) (by decide) rfl rfl rfl (Nat.le_of_ble_eq_true rfl) ⟨Nat.zero_le _, Nat.zero_le _⟩ dX6_carryOut_369 (fun v30 s30 _ => ?_)
                                    exact r_iret (pc := 372) C dX6_carryOut_372
                                  · refine r_split (fun h17 => ?_) (fun h17 => ?_)
                                    · refine r_tabIn (pc := 26) (v := 26) (tgt := 373) C dX6_carryOut_26 h17 (by decide) (by decide) rfl (by decide) ?_
                                      refine r_aload_n (pc := 373) C dX6_carryOut_373 rfl ?_
                                      refine r_get (pc := 374) C K_X6 13 0 (by decide) rfl (by decide) lk_f_X6_36 rfl dX6_carryOut_374 ?_
                                      refine r_iload_n (pc := 377) C dX6_carryOut_377 rfl ?_
                                      refine r_iload (pc := 378) C dX6_carryOut_378 rfl ?_
                                      refine r_iload (pc := 380) C dX6_carryOut_380 rfl ?_
                                      refine r_callSN (pc := 382) C (c_X7_number (zO.ap C) _ _) lk_c_X7_number lk_i_X7 lk_mn_X6_133 lk_s_X7_number (n := 1) (by decide +kernel) rfl ⟨rfl, rfl⟩ (by decide) (Nat.le_of_ble_eq_true rfl) ⟨Nat.zero_le _, Nat.zero_le _⟩ dX6_carryOut_382 (fun v31 s31 _ => ?_)
                                      refine r_callV (pc := 385) C 1 (c_X3_copyTable (zO.ap C) _ _ _ _) lk_c_X3_copyTable lk_i_X3 lk_m_X6_181 lk_n_X3_copyTable lk_v_X3_copyTable (n := 3) (by decide +kernel) rfl ⟨rfl, rfl⟩ (by decide) (by decide) rfl rfl rfl (Nat.le_of_ble_eq_true rfl) ⟨Nat.zero_le _, Nat.zero_le _⟩ dX6_carryOut_385 (fun v32 s32 _ => ?_)
                                      exact r_iret (pc := 388) C dX6_carryOut_388
                                    · refine r_split (fun h18 => ?_) (fun h18 => ?_)
                                      · refine r_tabIn (pc := 26) (v := 27) (tgt := 389) C dX6_carryOut_26 h18 (by decide) (by decide) rfl (by decide) ?_
                                        refine r_aload_n (pc := 389) C dX6_carryOut_389 rfl ?_
                                        refine r_iload_n (pc := 390) C dX6_carryOut_390 rfl ?_
                                        refine r_aload_n (pc := 391) C dX6_carryOut_391 rfl ?_
                                        refine r_get (pc := 392) C K_X6 13 0 (by decide) rfl (by decide) lk_f_X6_36 rfl dX6_carryOut_392 ?_
                                        refine r_iload_n (pc := 395) C dX6_carryOut_395 rfl ?_
                                        refine r_iload (pc := 396) C dX6_carryOut_396 rfl ?_
                                        refine r_iload (pc := 398) C dX6_carryOut_398 rfl ?_
                                        refine r_aload_n (pc := 400) C dX6_carryOut_400 rfl ?_
                                        refine r_get (pc := 401) C K_X6 13 8 (by decide) rfl (by decide) lk_f_X6_32 rfl dX6_carryOut_401 ?_
                                        refine r_callV (pc := 404) C 1 (c_X3_find (zO.ap C) _ _ _ _ _) lk_c_X3_find lk_i_X3 lk_m_X6_184 lk_n_X3_find lk_v_X3_find (n := 4) (by decide +kernel) rfl ⟨rfl, rfl⟩ (by decide) (by decide) rfl rfl rfl (Nat.le_of_ble_eq_true rfl) ⟨Nat.zero_le _, Nat.zero_le _⟩ dX6_carryOut_404 (fun v33 s33 _ => ?_)
                                        refine r_callV (pc := 407) C 13 (c_X6_tell (zO.ap C) _ _ _) lk_c_X6_tell lk_i_X6 lk_m_X6_140 lk_n_X6_tell lk_v_X6_tell (n := 2) (by decide +kernel) rfl ⟨rfl, rfl⟩ (by decide) (by decide) rfl rfl rfl (Nat.le_of_ble_eq_true rfl) ⟨Nat.zero_le _, Nat.zero_le _⟩ dX6_carryOut_407 (fun v34 s34 _ => ?_)
                                        exact r_iret (pc := 410) C dX6_carryOut_410
                                      · refine r_split (fun h19 => ?_) (fun h19 => ?_)
                                        · refine r_tabIn (pc := 26) (v := 28) (tgt := 411) C dX6_carryOut_26 h19 (by decide) (by decide) rfl (by decide) ?_
                                          refine r_aload_n (pc := 411) C dX6_carryOut_411 rfl ?_
                                          refine r_iload_n (pc := 412) C dX6_carryOut_412 rfl ?_
                                          refine r_aload_n (pc := 413) C dX6_carryOut_413 rfl ?_
                                          refine r_get (pc := 414) C K_X6 13 1 (by decide) rfl (by decide) lk_f_X6_40 rfl dX6_carryOut_414 ?_
                                          refine r_iload_n (pc := 417) C dX6_carryOut_417 rfl ?_
                                          refine r_callSN (pc := 418) C (c_X7_number (zO.ap C) _ _) lk_c_X7_number lk_i_X7 lk_mn_X6_133 lk_s_X7_number (n := 1) (by decide +kernel) rfl ⟨rfl, rfl⟩ (by decide) (Nat.le_of_ble_eq_true rfl) ⟨Nat.zero_le _, Nat.zero_le _⟩ dX6_carryOut_418 (fun v35 s35 _ => ?_)
                                          refine r_callV (pc := 421) C 3 (c_X0_draw (zO.ap C) _ _) lk_c_X0_draw lk_i_X0 lk_m_X6_187 lk_n_X0_draw lk_v_X0_draw (n := 1) (by decide +kernel) rfl ⟨rfl, rfl⟩ (by decide) (by decide) rfl rfl rfl (Nat.le_of_ble_eq_true rfl) ⟨Nat.zero_le _, Nat.zero_le _⟩ dX6_carryOut_421 (fun v36 s36 _ => ?_)
                                          refine r_callV (pc := 424) C 13 (c_X6_tell (zO.ap C) _ _ _) lk_c_X6_tell lk_i_X6 lk_m_X6_140 lk_n_X6_tell lk_v_X6_tell (n := 2) (by decide +kernel) rfl ⟨rfl, rfl⟩ (by decide) (by decide) rfl rfl rfl (Nat.le_of_ble_eq_true rfl) ⟨Nat.zero_le _, Nat.zero_le _⟩ dX6_carryOut_424 (fun v37 s37 _ => ?_)
                                          exact r_iret (pc := 427) C dX6_carryOut_427
                                        · refine r_split (fun h20 => ?_) (fun h20 => ?_)
                                          · refine r_tabIn (pc := 26) (v := 29) (tgt := 428) C dX6_carryOut_26 h20 (by decide) (by decide) rfl (by decide) ?_
                                            refine r_aload_n (pc := 428) C dX6_carryOut_428 rfl ?_
                                            refine r_get (pc := 429) C K_X6 13 4 (by decide) rfl (by decide) lk_f_X6_21 rfl dX6_carryOut_429 ?_
                                            refine r_iload_n (pc := 432) C dX6_carryOut_432 rfl ?_
                                            refine r_callSN (pc := 433) C (c_X7_number (zO.ap C) _ _) lk_c_X7_number lk_i_X7 lk_mn_X6_133 lk_s_X7_number (n := 1) (by decide +kernel) rfl ⟨rfl, rfl⟩ (by decide) (Nat.le_of_ble_eq_true rfl) ⟨Nat.zero_le _, Nat.zero_le _⟩ dX6_carryOut_433 (fun v38 s38 _ => ?_)
                                            refine r_callV (pc := 436) C 41 (c_X4_printNumber (zO.ap C) _ _) lk_c_X4_printNumber lk_i_X4 lk_m_X6_192 lk_n_X4_printNumber lk_v_X4_printNumber (n := 1) (by decide +kernel) rfl ⟨rfl, rfl⟩ (by decide) (by decide) rfl rfl rfl (Nat.le_of_ble_eq_true rfl) ⟨Nat.zero_le _, Nat.zero_le _⟩ dX6_carryOut_436 (fun v39 s39 _ => ?_)
                                            exact r_iret (pc := 439) C dX6_carryOut_439
                                          · refine r_split (fun h21 => ?_) (fun h21 => ?_)
                                            · refine r_tabIn (pc := 26) (v := 30) (tgt := 440) C dX6_carryOut_26 h21 (by decide) (by decide) rfl (by decide) ?_
                                              refine r_aload_n (pc := 440) C dX6_carryOut_440 rfl ?_
                                              refine r_get (pc := 441) C K_X6 13 4 (by decide) rfl (by decide) lk_f_X6_21 rfl dX6_carryOut_441 ?_
                                              refine r_iload_n (pc := 444) C dX6_carryOut_444 rfl ?_
                                              refine r_callV (pc := 445) C 41 (c_X4_print (zO.ap C) _ _) lk_c_X4_print lk_i_X4 lk_m_X6_195 lk_n_X4_print lk_v_X4_print (n := 1) (by decide +kernel) rfl ⟨rfl, rfl⟩ (by decide) (by decide) rfl rfl rfl (Nat.le_of_ble_eq_true rfl) ⟨Nat.zero_le _, Nat.zero_le _⟩ dX6_carryOut_445 (fun v40 s40 _ => ?_)
                                              exact r_iret (pc := 448) C dX6_carryOut_448
                                            · refine r_split (fun h22 => ?_) (fun h22 => ?_)
                                              · refine r_tabIn (pc := 26) (v := 31) (tgt := 449) C dX6_carryOut_26 h22 (by decide) (by decide) rfl (by decide) ?_
                                                refine r_aload_n (pc := 449) C dX6_carryOut_449 rfl ?_
                                                refine r_iload_n (pc := 450) C dX6_carryOut_450 rfl ?_
                                                refine r_iload (pc := 451) C dX6_carryOut_451 rfl ?_
                                                refine r_callSN (pc := 453) C (c_X7_number (zO.ap C) _ _) lk_c_X7_number lk_i_X7 lk_mn_X6_133 lk_s_X7_number (n := 1) (by decide +kernel) rfl ⟨rfl, rfl⟩ (by decide) (Nat.le_of_ble_eq_true rfl) ⟨Nat.zero_le _, Nat.zero_le _⟩ dX6_carryOut_453 (fun v41 s41 _ => ?_)
                                                refine r_iload (pc := 456) C dX6_carryOut_456 rfl ?_
                                                refine r_callSN (pc := 458) C (c_X7_number (zO.ap C) _ _) lk_c_X7_number lk_i_X7 lk_mn_X6_133 lk_s_X7_number (n := 1) (by decide +kernel) rfl ⟨rfl, rfl⟩ (by decide) (Nat.le_of_ble_eq_true rfl) ⟨Nat.zero_le _, Nat.zero_le _⟩ dX6_carryOut_458 (fun v42 s42 _ => ?_)
                                                refine r_callV (pc := 461) C 13 (c_X6_printRows (zO.ap C) _ _ _ _) lk_c_X6_printRows lk_i_X6 lk_m_X6_198 lk_n_X6_printRows lk_v_X6_printRows (n := 3) (by decide +kernel) rfl ⟨rfl, rfl⟩ (by decide) (by decide) rfl rfl rfl (Nat.le_of_ble_eq_true rfl) ⟨Nat.zero_le _, Nat.zero_le _⟩ dX6_carryOut_461 (fun v43 s43 _ => ?_)
                                                exact r_iret (pc := 464) C dX6_carryOut_464
                                              · refine r_split (fun h23 => ?_) (fun h23 => ?_)
                                                · refine r_tabIn (pc := 26) (v := 32) (tgt := 465) C dX6_carryOut_26 h23 (by decide) (by decide) rfl (by decide) ?_
                                                  refine r_aload_n (pc := 465) C dX6_carryOut_465 rfl ?_
                                                  refine r_iconst (pc := 466) (v := 1) C dX6_carryOut_466 (by decide) ?_
                                                  refine r_callV (pc := 467) C 13 (c_X6_end (zO.ap C) _ _) lk_c_X6_end lk_i_X6 lk_m_X6_201 lk_n_X6_end lk_v_X6_end (n := 1) (by decide +kernel) rfl ⟨rfl, rfl⟩ (by decide) (by decide) rfl rfl rfl (Nat.le_of_ble_eq_true rfl) ⟨Nat.zero_le _, Nat.zero_le _⟩ dX6_carryOut_467 (fun v44 s44 _ => ?_)
                                                  exact r_iret (pc := 470) C dX6_carryOut_470
                                                · refine r_tabOut (pc := 26) (tgt := 471) C dX6_carryOut_26 (by have a0 := lv_neT (a := 10) h1 rfl; have a1 := lv_neT (a := 11) h2 rfl; have a2 := lv_neT (a := 12) h3 rfl; have a3 := lv_neT (a := 13) h4 rfl; have a4 := lv_neT (a := 14) h5 rfl; have a5 := lv_neT (a := 15) h6 rfl; have a6 := lv_neT (a := 16) h7 rfl; have a7 := lv_neT (a := 17) h8 rfl; have a8 := lv_neT (a := 18) h9 rfl; have a9 := lv_neT (a := 19) h10 rfl; have a10 := lv_neT (a := 20) h11 rfl; have a11 := lv_neT (a := 21) h12 rfl; have a12 := lv_neT (a := 22) h13 rfl; have a13 := lv_neT (a := 23) h14 rfl; have a14 := lv_neT (a := 24) h15 rfl; have a15 := lv_neT (a := 25) h16 rfl; have a16 := lv_neT (a := 26) h17 rfl; have a17 := lv_neT (a := 27) h18 rfl; have a18 := lv_neT (a := 28) h19 rfl; have a19 := lv_neT (a := 29) h20 rfl; have a20 := lv_neT (a := 30) h21 rfl; have a21 := lv_neT (a := 31) h22 rfl; have a22 := lv_neT (a := 32) h23 rfl; omega) (by decide) ?_
                                                  refine r_bipush (pc := 471) (v := -20) C dX6_carryOut_471 (by decide) ?_
                                                  exact r_iret (pc := 473) C dX6_carryOut_473
  · refine r_aload_n (pc := 6) C dX6_carryOut_6 rfl ?_
    refine r_iload_n (pc := 7) C dX6_carryOut_7 rfl ?_
    refine r_iload_n (pc := 8) C dX6_carryOut_8 rfl ?_
    refine r_iload_n (pc := 9) C dX6_carryOut_9 rfl ?_
    refine r_callSN (pc := 10) C (c_X7_number (zO.ap C) _ _) lk_c_X7_number lk_i_X7 lk_mn_X6_133 lk_s_X7_number (n := 1) (by decide +kernel) rfl ⟨rfl, rfl⟩ (by decide) (Nat.le_of_ble_eq_true rfl) ⟨Nat.zero_le _, Nat.zero_le _⟩ dX6_carryOut_10 (fun v45 s45 _ => ?_)
    refine r_iload (pc := 13) C dX6_carryOut_13 rfl ?_
    refine r_callSN (pc := 15) C (c_X7_number (zO.ap C) _ _) lk_c_X7_number lk_i_X7 lk_mn_X6_133 lk_s_X7_number (n := 1) (by decide +kernel) rfl ⟨rfl, rfl⟩ (by decide) (Nat.le_of_ble_eq_true rfl) ⟨Nat.zero_le _, Nat.zero_le _⟩ dX6_carryOut_15 (fun v46 s46 _ => ?_)
    refine r_callSN (pc := 18) C (c_X7_arithmetic (zO.ap C) _ _ _ _) lk_c_X7_arithmetic lk_i_X7 lk_mn_X6_136 lk_s_X7_arithmetic (n := 3) (by decide +kernel) rfl ⟨rfl, rfl⟩ (by decide) (Nat.le_of_ble_eq_true rfl) ⟨Nat.zero_le _, Nat.zero_le _⟩ dX6_carryOut_18 (fun v47 s47 _ => ?_)
    refine r_callV (pc := 21) C 13 (c_X6_tell (zO.ap C) _ _ _) lk_c_X6_tell lk_i_X6 lk_m_X6_140 lk_n_X6_tell lk_v_X6_tell (n := 2) (by decide +kernel) rfl ⟨rfl, rfl⟩ (by decide) (by decide) rfl rfl rfl (Nat.le_of_ble_eq_true rfl) ⟨Nat.zero_le _, Nat.zero_le _⟩ dX6_carryOut_21 (fun v48 s48 _ => ?_)
    exact r_iret (pc := 24) C dX6_carryOut_24
theorem c_X6_carryOut {E : zG} (hAp : zAp E) (p0 : Int32) (p1 : Int32) (p2 : Int32) (p3 : Int32) (p4 : Int32) (σ : zS) : zM E yX6_carryOut cX6_carryOut 6 (some .int) rm_X6_carryOut (fun r : Int32 => some (.int r)) [.ref (zad E 13), .int p0, .int p1, .int p2, .int p3, .int p4] (f_X6_carryOut p0 p1 p2 p3 p4 σ) σ :=
  zM_of (nn := 0) hAp (by decide) (Nat.le_of_ble_eq_true rfl) rfl rfl (fun Γ C => g_X6_carryOut C p0 p1 p2 p3 p4 σ)
set_option maxHeartbeats 4000000 in
set_option maxRecDepth 100000 in
theorem g_X6_step_L52 {E : zG} {Γ : zX} (C : zO E Γ RX6 cX6_step 6 (some .int)) : ∀ (n : Nat) (x1 : Int32) (x2 : Int32) (x3 : Int32) (σ : zS), zJ E Γ rm_X6_step 6 (fun r : Int32 => some (.int r)) (f_X6_step_L52 n x1 x2 x3 σ) σ 52 [some (.ref (zad E 13)), some (.int x1), some (.int x2), some (.int x3), none, none] [] := by
  intro n
  induction n with
  | zero => intro x1 x2 x3 σ; rw [f_X6_step_L52]; exact r_none
  | succ n ih =>
    intro x1 x2 x3 σ
    rw [f_X6_step_L52]
    refine r_iload_n (pc := 52) C dX6_step_52 rfl ?_
    refine r_getsN (pc := 53) C (st_0 E) lk_fn_X6_107 dX6_step_53 ?_
    refine r_iload_n (pc := 56) C dX6_step_56 rfl ?_
    refine r_tload (pc := 57) C (st_0 E) dX6_step_57 ?_
    refine r_icmp_ge (pc := 58) (tgt := 118) C dX6_step_58 (by decide) (fun _ => ?_) (fun _ => ?_)
    · refine r_aload_n (pc := 118) C dX6_step_118 rfl ?_
      refine r_get (pc := 119) C K_X6 13 3 (by decide) rfl (by decide) lk_f_X6_12 rfl dX6_step_119 ?_
      refine r_callV (pc := 122) C 14 (c_X2_top (zO.ap C)  _) lk_c_X2_top lk_i_X2 lk_m_X6_92 lk_n_X2_top lk_v_X2_top (n := 0) (by decide +kernel) rfl ⟨rfl, rfl⟩ (by decide) (by decide) rfl rfl rfl (Nat.le_of_ble_eq_true rfl) ⟨Nat.zero_le _, Nat.zero_le _⟩ dX6_step_122 (fun v5 s5 _ => ?_)
      refine r_op (fun _ => ?_) (fun v6 h2 _ => ?_)
      · refine r_iload_n (pc := 125) C dX6_step_125 rfl ?_
        refine r_iconst (pc := 126) (v := 1) C dX6_step_126 (by decide) ?_
        refine r_iadd (pc := 127) C dX6_step_127 ?_
        exact r_none
      · refine r_iload_n (pc := 125) C dX6_step_125 rfl ?_
        refine r_iconst (pc := 126) (v := 1) C dX6_step_126 (by decide) ?_
        refine r_iadd (pc := 127) C dX6_step_127 ?_
        refine r_putN (pc := 128) C K_X1 (16 + 2 * v6) 3 (lt_F h2) (ly_F h2 _) (by decide) lk_fn_X6_96 rfl rfl (Nat.le_of_ble_eq_true rfl) (ly_Fs h2 _ 3 _ (by decide)) dX6_step_128 (fun s6 _ => ?_)
        refine r_aload_n (pc := 131) C dX6_step_131 rfl ?_
        refine r_iload_n (pc := 132) C dX6_step_132 rfl ?_
        refine r_aload_n (pc := 133) C dX6_step_133 rfl ?_
        refine r_get (pc := 134) C K_X6 13 2 (by decide) rfl (by decide) lk_f_X6_44 rfl dX6_step_134 ?_
        refine r_getN (pc := 137) C K_X5 5 2 (by decide) rfl (by decide) lk_fn_X6_116 rfl dX6_step_137 ?_
        refine r_iload_n (pc := 140) C dX6_step_140 rfl ?_
        refine r_iald (pc := 141) (t0 := 0) C 8 (by decide) rfl rfl dX6_step_141 ?_
        refine r_aload_n (pc := 142) C dX6_step_142 rfl ?_
        refine r_get (pc := 143) C K_X6 13 6 (by decide) rfl (by decide) lk_f_X6_29 rfl dX6_step_143 ?_
        refine r_iconst (pc := 146) (v := 0) C dX6_step_146 (by decide) ?_
        refine r_iald (pc := 147) (t0 := 0) C 44 (by decide) rfl rfl dX6_step_147 ?_
        refine r_aload_n (pc := 148) C dX6_step_148 rfl ?_
        refine r_get (pc := 149) C K_X6 13 6 (by decide) rfl (by decide) lk_f_X6_29 rfl dX6_step_149 ?_
        refine r_iconst (pc := 152) (v := 1) C dX6_step_152 (by decide) ?_
        refine r_iald (pc := 153) (t0 := 0) C 44 (by decide) rfl rfl dX6_step_153 ?_
        refine r_aload_n (pc := 154) C dX6_step_154 rfl ?_
        refine r_get (pc := 155) C K_X6 13 6 (by decide) rfl (by decide) lk_f_X6_29 rfl dX6_step_155 ?_
        refine r_iconst (pc := 158) (v := 2) C dX6_step_158 (by decide) ?_
        refine r_iald (pc := 159) (t0 := 0) C 44 (by decide) rfl rfl dX6_step_159 ?_
        refine r_callV (pc := 160) C 13 (c_X6_carryOut (zO.ap C) _ _ _ _ _ _) lk_c_X6_carryOut lk_i_X6 lk_m_X6_119 lk_n_X6_carryOut lk_v_X6_carryOut (n := 5) (by decide +kernel) rfl ⟨rfl, rfl⟩ (by decide) (by decide) rfl rfl rfl (Nat.le_of_ble_eq_true rfl) ⟨Nat.zero_le _, Nat.zero_le _⟩ dX6_step_160 (fun v7 s7 _ => ?_)
        exact r_iret (pc := 163) C dX6_step_163
    · refine r_aload_n (pc := 61) C dX6_step_61 rfl ?_
      refine r_get (pc := 62) C K_X6 13 2 (by decide) rfl (by decide) lk_f_X6_44 rfl dX6_step_62 ?_
      refine r_getN (pc := 65) C K_X5 5 1 (by decide) rfl (by decide) lk_fn_X6_110 rfl dX6_step_65 ?_
      refine r_iconst (pc := 68) (v := 3) C dX6_step_68 (by decide) ?_
      refine r_iload_n (pc := 69) C dX6_step_69 rfl ?_
      refine r_imul (pc := 70) C dX6_step_70 ?_
      refine r_iload_n (pc := 71) C dX6_step_71 rfl ?_
      refine r_iadd (pc := 72) C dX6_step_72 ?_
      refine r_iald (pc := 73) (t0 := 0) C 7 (by decide) rfl rfl dX6_step_73 ?_
      refine r_leti (fun v8 => ?_)
      refine r_istore (pc := 74) (lv' := [some (.ref (zad E 13)), some (.int x1), some (.int x2), some (.int x3), some (.int v8), none]) C dX6_step_74 (by decide) rfl ?_
      refine r_iload (pc := 76) C dX6_step_76 rfl ?_
      refine r_if_ge (pc := 78) (tgt := 92) C dX6_step_78 (by decide) (fun _ => ?_) (fun _ => ?_)
      · refine r_iload (pc := 92) C dX6_step_92 rfl ?_
        refine r_istore (pc := 94) (lv' := [some (.ref (zad E 13)), some (.int x1), some (.int x2), some (.int x3), some (.int v8), some (.int v8)]) C dX6_step_94 (by decide) rfl ?_
        refine r_iload (pc := 96) C dX6_step_96 rfl ?_
        refine r_if_ge (pc := 98) (tgt := 104) C dX6_step_98 (by decide) (fun _ => ?_) (fun _ => ?_)
        · refine r_aload_n (pc := 104) C dX6_step_104 rfl ?_
          refine r_get (pc := 105) C K_X6 13 6 (by decide) rfl (by decide) lk_f_X6_29 rfl dX6_step_105 ?_
          refine r_iload_n (pc := 108) C dX6_step_108 rfl ?_
          refine r_iload (pc := 109) C dX6_step_109 rfl ?_
          refine r_iast (pc := 111) (t0 := 0) C 44 (by decide) rfl (fun _ => rfl) rfl dX6_step_111 (fun s8 _ => ?_)
          refine r_iinc (pc := 112) (lv' := [some (.ref (zad E 13)), some (.int x1), some (.int x2), some (.int (x3 + (1 : Int32))), some (.int v8), some (.int v8)]) C dX6_step_112 (by decide) rfl rfl rfl ?_
          refine r_goto (pc := 115) (tgt := 52) C dX6_step_115 (by decide) ?_
          refine r_mask [true, true, true, true, false, false] (lv' := [some (.ref (zad E 13)), some (.int x1), some (.int x2), some (.int (x3 + (1 : Int32))), none, none]) rfl ?_
          exact ih _ _ _ _
        · refine r_iload (pc := 101) C dX6_step_101 rfl ?_
          exact r_iret (pc := 103) C dX6_step_103
      · refine r_aload_n (pc := 81) C dX6_step_81 rfl ?_
        refine r_iconst (pc := 82) (v := -1) C dX6_step_82 (by decide) ?_
        refine r_iload (pc := 83) C dX6_step_83 rfl ?_
        refine r_isub (pc := 85) C dX6_step_85 ?_
        refine r_callV (pc := 86) C 13 (c_X6_ask (zO.ap C) _ _) lk_c_X6_ask lk_i_X6 lk_m_X6_113 lk_n_X6_ask lk_v_X6_ask (n := 1) (by decide +kernel) rfl ⟨rfl, rfl⟩ (by decide) (by decide) rfl rfl rfl (Nat.le_of_ble_eq_true rfl) ⟨Nat.zero_le _, Nat.zero_le _⟩ dX6_step_86 (fun v9 s9 _ => ?_)
        refine r_goto (pc := 89) (tgt := 94) C dX6_step_89 (by decide) ?_
        refine r_istore (pc := 94) (lv' := [some (.ref (zad E 13)), some (.int x1), some (.int x2), some (.int x3), some (.int v8), some (.int v9)]) C dX6_step_94 (by decide) rfl ?_
        refine r_iload (pc := 96) C dX6_step_96 rfl ?_
        refine r_if_ge (pc := 98) (tgt := 104) C dX6_step_98 (by decide) (fun _ => ?_) (fun _ => ?_)
        · refine r_aload_n (pc := 104) C dX6_step_104 rfl ?_
          refine r_get (pc := 105) C K_X6 13 6 (by decide) rfl (by decide) lk_f_X6_29 rfl dX6_step_105 ?_
          refine r_iload_n (pc := 108) C dX6_step_108 rfl ?_
          refine r_iload (pc := 109) C dX6_step_109 rfl ?_
          refine r_iast (pc := 111) (t0 := 0) C 44 (by decide) rfl (fun _ => rfl) rfl dX6_step_111 (fun s10 _ => ?_)
          refine r_iinc (pc := 112) (lv' := [some (.ref (zad E 13)), some (.int x1), some (.int x2), some (.int (x3 + (1 : Int32))), some (.int v8), some (.int v9)]) C dX6_step_112 (by decide) rfl rfl rfl ?_
          refine r_goto (pc := 115) (tgt := 52) C dX6_step_115 (by decide) ?_
          refine r_mask [true, true, true, true, false, false] (lv' := [some (.ref (zad E 13)), some (.int x1), some (.int x2), some (.int (x3 + (1 : Int32))), none, none]) rfl ?_
          exact ih _ _ _ _
        · refine r_iload (pc := 101) C dX6_step_101 rfl ?_
          exact r_iret (pc := 103) C dX6_step_103
set_option maxHeartbeats 4000000 in
set_option maxRecDepth 100000 in
theorem g_X6_step {E : zG} {Γ : zX} (C : zO E Γ RX6 cX6_step 6 (some .int)) (σ : zS) : zJ E Γ rm_X6_step 6 (fun r : Int32 => some (.int r)) (f_X6_step σ) σ 0 [some (.ref (zad E 13)), none, none, none, none, none] [] := by
  unfold f_X6_step
  refine r_aload_n (pc := 0) C dX6_step_0 rfl ?_
  refine r_dup (pc := 1) C dX6_step_1 rfl ?_
  refine r_get (pc := 2) C K_X6 13 10 (by decide) rfl (by decide) lk_f_X6_63 rfl dX6_step_2 ?_
  refine r_iconst (pc := 5) (v := 1) C dX6_step_5 (by decide) ?_
  refine r_iadd (pc := 6) C dX6_step_6 ?_
  refine r_put (pc := 7) C K_X6 13 10 (by decide) rfl (by decide) lk_f_X6_63 rfl rfl (Nat.le_of_ble_eq_true rfl) rfl dX6_step_7 (fun s1 _ => ?_)
  refine r_aload_n (pc := 10) C dX6_step_10 rfl ?_
  refine r_iconst (pc := 11) (v := -1) C dX6_step_11 (by decide) ?_
  refine r_put (pc := 12) C K_X6 13 16 (by decide) rfl (by decide) lk_f_X6_89 rfl rfl (Nat.le_of_ble_eq_true rfl) rfl dX6_step_12 (fun s2 _ => ?_)
  refine r_aload_n (pc := 15) C dX6_step_15 rfl ?_
  refine r_get (pc := 16) C K_X6 13 3 (by decide) rfl (by decide) lk_f_X6_12 rfl dX6_step_16 ?_
  refine r_callV (pc := 19) C 14 (c_X2_top (zO.ap C)  _) lk_c_X2_top lk_i_X2 lk_m_X6_92 lk_n_X2_top lk_v_X2_top (n := 0) (by decide +kernel) rfl ⟨rfl, rfl⟩ (by decide) (by decide) rfl rfl rfl (Nat.le_of_ble_eq_true rfl) ⟨Nat.zero_le _, Nat.zero_le _⟩ dX6_step_19 (fun v1 s3 _ => ?_)
  refine r_op (fun _ => ?_) (fun v2 h1 _ => ?_)
  · exact r_none
  · refine r_getN (pc := 22) C K_X1 (16 + 2 * v2) 3 (lt_F h1) (ly_F h1 _) (by decide) lk_fn_X6_96 rfl dX6_step_22 ?_
    refine r_leti (fun v3 => ?_)
    refine r_istore_n (pc := 25) (lv' := [some (.ref (zad E 13)), some (.int v3), none, none, none, none]) C dX6_step_25 (by decide) rfl ?_
    refine r_aload_n (pc := 26) C dX6_step_26 rfl ?_
    refine r_get (pc := 27) C K_X6 13 2 (by decide) rfl (by decide) lk_f_X6_44 rfl dX6_step_27 ?_
    refine r_iload_n (pc := 30) C dX6_step_30 rfl ?_
    refine r_callV (pc := 31) C 5 (c_X5_opAt (zO.ap C) _ _) lk_c_X5_opAt lk_i_X5 lk_m_X6_101 lk_n_X5_opAt lk_v_X5_opAt (n := 1) (by decide +kernel) rfl ⟨rfl, rfl⟩ (by decide) (by decide) rfl rfl rfl (Nat.le_of_ble_eq_true rfl) ⟨Nat.zero_le _, Nat.zero_le _⟩ dX6_step_31 (fun v4 s4 _ => ?_)
    refine r_istore_n (pc := 34) (lv' := [some (.ref (zad E 13)), some (.int v3), some (.int v4), none, none, none]) C dX6_step_34 (by decide) rfl ?_
    refine r_iload_n (pc := 35) C dX6_step_35 rfl ?_
    refine r_if_lt (pc := 36) (tgt := 47) C dX6_step_36 (by decide) (fun _ => ?_) (fun _ => ?_)
    · refine r_bipush (pc := 47) (v := -20) C dX6_step_47 (by decide) ?_
      exact r_iret (pc := 49) C dX6_step_49
    · refine r_iload_n (pc := 39) C dX6_step_39 rfl ?_
      refine r_getsN (pc := 40) C (st_0 E) lk_fn_X6_107 dX6_step_40 ?_
      refine r_tlen (pc := 43) (v := 33) C (st_0 E) (by decide) dX6_step_43 ?_
      refine r_icmp_lt (pc := 44) (tgt := 50) C dX6_step_44 (by decide) (fun _ => ?_) (fun _ => ?_)
      · refine r_iconst (pc := 50) (v := 0) C dX6_step_50 (by decide) ?_
        refine r_istore_n (pc := 51) (lv' := [some (.ref (zad E 13)), some (.int v3), some (.int v4), some (.int (0 : Int32)), none, none]) C dX6_step_51 (by decide) rfl ?_
        exact g_X6_step_L52 C zF _ _ _ _
      · refine r_bipush (pc := 47) (v := -20) C dX6_step_47 (by decide) ?_
        exact r_iret (pc := 49) C dX6_step_49
theorem c_X6_step {E : zG} (hAp : zAp E) (σ : zS) : zM E yX6_step cX6_step 6 (some .int) rm_X6_step (fun r : Int32 => some (.int r)) [.ref (zad E 13)] (f_X6_step σ) σ :=
  zM_of (nn := 5) hAp (by decide) (Nat.le_of_ble_eq_true rfl) rfl rfl (fun Γ C => g_X6_step C σ)
set_option maxHeartbeats 4000000 in
set_option maxRecDepth 100000 in
theorem g_X6_set {E : zG} {Γ : zX} (C : zO E Γ RX6 cX6_set 3 (some .int)) (p0 : Int32) (p1 : Int32) (σ : zS) : zJ E Γ rm_X6_set 3 (fun r : Int32 => some (.int r)) (f_X6_set p0 p1 σ) σ 0 [some (.ref (zad E 13)), some (.int p0), some (.int p1)] [] := by
  unfold f_X6_set
  refine r_iload_n (pc := 0) C dX6_set_0 rfl ?_
  refine r_if_ne (pc := 1) (tgt := 13) C dX6_set_1 (by decide) (fun _ => ?_) (fun _ => ?_)
  · refine r_aload_n (pc := 4) C dX6_set_4 rfl ?_
    refine r_get (pc := 5) C K_X6 13 3 (by decide) rfl (by decide) lk_f_X6_12 rfl dX6_set_5 ?_
    refine r_iload_n (pc := 8) C dX6_set_8 rfl ?_
    refine r_callV (pc := 9) C 14 (c_X2_push (zO.ap C) _ _) lk_c_X2_push lk_i_X2 lk_m_X6_168 lk_n_X2_push lk_v_X2_push (n := 1) (by decide +kernel) rfl ⟨rfl, rfl⟩ (by decide) (by decide) rfl rfl rfl (Nat.le_of_ble_eq_true rfl) ⟨Nat.zero_le _, Nat.zero_le _⟩ dX6_set_9 (fun v6 s5 _ => ?_)
    exact r_iret (pc := 12) C dX6_set_12
  · refine r_iload_n (pc := 13) C dX6_set_13 rfl ?_
    refine r_bipush (pc := 14) (v := 16) C dX6_set_14 (by decide) ?_
    refine r_icmp_ge (pc := 16) (tgt := 32) C dX6_set_16 (by decide) (fun _ => ?_) (fun _ => ?_)
    · refine r_aload_n (pc := 32) C dX6_set_32 rfl ?_
      refine r_get (pc := 33) C K_X6 13 0 (by decide) rfl (by decide) lk_f_X6_36 rfl dX6_set_33 ?_
      refine r_aload_n (pc := 36) C dX6_set_36 rfl ?_
      refine r_iload_n (pc := 37) C dX6_set_37 rfl ?_
      refine r_callV (pc := 38) C 13 (c_X6_placeOfGlobal (zO.ap C) _ _) lk_c_X6_placeOfGlobal lk_i_X6 lk_m_X6_210 lk_n_X6_placeOfGlobal lk_v_X6_placeOfGlobal (n := 1) (by decide +kernel) rfl ⟨rfl, rfl⟩ (by decide) (by decide) rfl rfl rfl (Nat.le_of_ble_eq_true rfl) ⟨Nat.zero_le _, Nat.zero_le _⟩ dX6_set_38 (fun v1 s1 _ => ?_)
      refine r_iload_n (pc := 41) C dX6_set_41 rfl ?_
      refine r_iconst (pc := 42) (v := 0) C dX6_set_42 (by decide) ?_
      refine r_callV (pc := 43) C 1 (c_X3_setWord (zO.ap C) _ _ _ _) lk_c_X3_setWord lk_i_X3 lk_m_X6_158 lk_n_X3_setWord lk_v_X3_setWord (n := 3) (by decide +kernel) rfl ⟨rfl, rfl⟩ (by decide) (by decide) rfl rfl rfl (Nat.le_of_ble_eq_true rfl) ⟨Nat.zero_le _, Nat.zero_le _⟩ dX6_set_43 (fun v2 s2 _ => ?_)
      exact r_iret (pc := 46) C dX6_set_46
    · refine r_aload_n (pc := 19) C dX6_set_19 rfl ?_
      refine r_get (pc := 20) C K_X6 13 3 (by decide) rfl (by decide) lk_f_X6_12 rfl dX6_set_20 ?_
      refine r_callV (pc := 23) C 14 (c_X2_top (zO.ap C)  _) lk_c_X2_top lk_i_X2 lk_m_X6_92 lk_n_X2_top lk_v_X2_top (n := 0) (by decide +kernel) rfl ⟨rfl, rfl⟩ (by decide) (by decide) rfl rfl rfl (Nat.le_of_ble_eq_true rfl) ⟨Nat.zero_le _, Nat.zero_le _⟩ dX6_set_23 (fun v3 s3 _ => ?_)
      refine r_op (fun _ => ?_) (fun v4 h1 _ => ?_)
      · refine r_iload_n (pc := 26) C dX6_set_26 rfl ?_
        refine r_iload_n (pc := 27) C dX6_set_27 rfl ?_
        exact r_none
      · refine r_iload_n (pc := 26) C dX6_set_26 rfl ?_
        refine r_iload_n (pc := 27) C dX6_set_27 rfl ?_
        refine r_callV (pc := 28) C (16 + 2 * v4) (c_X1_setLocal (zO.ap C) h1 _ _ _) lk_c_X1_setLocal lk_i_X1 lk_m_X6_213 lk_n_X1_setLocal lk_v_X1_setLocal (n := 2) (by decide +kernel) rfl ⟨rfl, rfl⟩ (by decide) (lt_F h1) (ly_F h1 _) rfl rfl (Nat.le_of_ble_eq_true rfl) ⟨Nat.zero_le _, Nat.zero_le _⟩ dX6_set_28 (fun v5 s4 _ => ?_)
        exact r_iret (pc := 31) C dX6_set_31
theorem c_X6_set {E : zG} (hAp : zAp E) (p0 : Int32) (p1 : Int32) (σ : zS) : zM E yX6_set cX6_set 3 (some .int) rm_X6_set (fun r : Int32 => some (.int r)) [.ref (zad E 13), .int p0, .int p1] (f_X6_set p0 p1 σ) σ :=
  zM_of (nn := 0) hAp (by decide) (Nat.le_of_ble_eq_true rfl) rfl rfl (fun Γ C => g_X6_set C p0 p1 σ)
set_option maxHeartbeats 4000000 in
set_option maxRecDepth 100000 in
theorem g_X6_keep {E : zG} {Γ : zX} (C : zO E Γ RX6 cX6_keep 2 (some .int)) (p0 : Int32) (σ : zS) : zJ E Γ rm_X6_keep 2 (fun r : Int32 => some (.int r)) (f_X6_keep p0 σ) σ 0 [some (.ref (zad E 13)), some (.int p0)] [] := by
  unfold f_X6_keep
  refine r_iload_n (pc := 0) C dX6_keep_0 rfl ?_
  refine r_if_lt (pc := 1) (tgt := 12) C dX6_keep_1 (by decide) (fun _ => ?_) (fun _ => ?_)
  · refine r_iload_n (pc := 12) C dX6_keep_12 rfl ?_
    refine r_goto (pc := 13) (tgt := 25) C dX6_keep_13 (by decide) ?_
    exact r_iret (pc := 25) C dX6_keep_25
  · refine r_aload_n (pc := 4) C dX6_keep_4 rfl ?_
    refine r_get (pc := 5) C K_X6 13 16 (by decide) rfl (by decide) lk_f_X6_89 rfl dX6_keep_5 ?_
    refine r_iconst (pc := 8) (v := -1) C dX6_keep_8 (by decide) ?_
    refine r_icmp_ne (pc := 9) (tgt := 16) C dX6_keep_9 (by decide) (fun _ => ?_) (fun _ => ?_)
    · refine r_iload_n (pc := 12) C dX6_keep_12 rfl ?_
      refine r_goto (pc := 13) (tgt := 25) C dX6_keep_13 (by decide) ?_
      exact r_iret (pc := 25) C dX6_keep_25
    · refine r_aload_n (pc := 16) C dX6_keep_16 rfl ?_
      refine r_aload_n (pc := 17) C dX6_keep_17 rfl ?_
      refine r_get (pc := 18) C K_X6 13 16 (by decide) rfl (by decide) lk_f_X6_89 rfl dX6_keep_18 ?_
      refine r_iload_n (pc := 21) C dX6_keep_21 rfl ?_
      refine r_callV (pc := 22) C 13 (c_X6_set (zO.ap C) _ _ _) lk_c_X6_set lk_i_X6 lk_m_X6_129 lk_n_X6_set lk_v_X6_set (n := 2) (by decide +kernel) rfl ⟨rfl, rfl⟩ (by decide) (by decide) rfl rfl rfl (Nat.le_of_ble_eq_true rfl) ⟨Nat.zero_le _, Nat.zero_le _⟩ dX6_keep_22 (fun v1 s1 _ => ?_)
      exact r_iret (pc := 25) C dX6_keep_25
theorem c_X6_keep {E : zG} (hAp : zAp E) (p0 : Int32) (σ : zS) : zM E yX6_keep cX6_keep 2 (some .int) rm_X6_keep (fun r : Int32 => some (.int r)) [.ref (zad E 13), .int p0] (f_X6_keep p0 σ) σ :=
  zM_of (nn := 0) hAp (by decide) (Nat.le_of_ble_eq_true rfl) rfl rfl (fun Γ C => g_X6_keep C p0 σ)
set_option maxHeartbeats 4000000 in
set_option maxRecDepth 100000 in
theorem g_X6_raise_L33 {E : zG} {Γ : zX} (C : zO E Γ RX6 cX6_raise 3 (some .int)) : ∀ (n : Nat) (x1 : Int32) (x2 : Int32) (σ : zS), zJ E Γ rm_X6_raise 3 (fun r : Int32 => some (.int r)) (f_X6_raise_L33 n x1 x2 σ) σ 33 [some (.ref (zad E 13)), some (.int x1), some (.int x2)] [] := by
  intro n
  induction n with
  | zero => intro x1 x2 σ; rw [f_X6_raise_L33]; exact r_none
  | succ n ih =>
    intro x1 x2 σ
    rw [f_X6_raise_L33]
    refine r_iload_n (pc := 33) C dX6_raise_33 rfl ?_
    refine r_if_le (pc := 34) (tgt := 71) C dX6_raise_34 (by decide) (fun _ => ?_) (fun _ => ?_)
    · refine r_aload_n (pc := 71) C dX6_raise_71 rfl ?_
      refine r_get (pc := 72) C K_X6 13 3 (by decide) rfl (by decide) lk_f_X6_12 rfl dX6_raise_72 ?_
      refine r_getN (pc := 75) C K_X2 14 3 (by decide) rfl (by decide) lk_fn_X6_175 rfl dX6_raise_75 ?_
      refine r_if_ne (pc := 78) (tgt := 95) C dX6_raise_78 (by decide) (fun _ => ?_) (fun _ => ?_)
      · refine r_aload_n (pc := 81) C dX6_raise_81 rfl ?_
        refine r_bipush (pc := 82) (v := -10) C dX6_raise_82 (by decide) ?_
        refine r_iload_n (pc := 84) C dX6_raise_84 rfl ?_
        refine r_isub (pc := 85) C dX6_raise_85 ?_
        refine r_put (pc := 86) C K_X6 13 13 (by decide) rfl (by decide) lk_f_X6_72 rfl rfl (Nat.le_of_ble_eq_true rfl) rfl dX6_raise_86 (fun s4 _ => ?_)
        refine r_aload_n (pc := 89) C dX6_raise_89 rfl ?_
        refine r_iconst (pc := 90) (v := 2) C dX6_raise_90 (by decide) ?_
        refine r_callV (pc := 91) C 13 (c_X6_end (zO.ap C) _ _) lk_c_X6_end lk_i_X6 lk_m_X6_201 lk_n_X6_end lk_v_X6_end (n := 1) (by decide +kernel) rfl ⟨rfl, rfl⟩ (by decide) (by decide) rfl rfl rfl (Nat.le_of_ble_eq_true rfl) ⟨Nat.zero_le _, Nat.zero_le _⟩ dX6_raise_91 (fun v2 s5 _ => ?_)
        exact r_iret (pc := 94) C dX6_raise_94
      · refine r_aload_n (pc := 95) C dX6_raise_95 rfl ?_
        refine r_dup (pc := 96) C dX6_raise_96 rfl ?_
        refine r_get (pc := 97) C K_X6 13 14 (by decide) rfl (by decide) lk_f_X6_75 rfl dX6_raise_97 ?_
        refine r_iconst (pc := 100) (v := 1) C dX6_raise_100 (by decide) ?_
        refine r_iadd (pc := 101) C dX6_raise_101 ?_
        refine r_put (pc := 102) C K_X6 13 14 (by decide) rfl (by decide) lk_f_X6_75 rfl rfl (Nat.le_of_ble_eq_true rfl) rfl dX6_raise_102 (fun s2 _ => ?_)
        refine r_aload_n (pc := 105) C dX6_raise_105 rfl ?_
        refine r_bipush (pc := 106) (v := -10) C dX6_raise_106 (by decide) ?_
        refine r_iload_n (pc := 108) C dX6_raise_108 rfl ?_
        refine r_isub (pc := 109) C dX6_raise_109 ?_
        refine r_callV (pc := 110) C 13 (c_X6_giveBack (zO.ap C) _ _) lk_c_X6_giveBack lk_i_X6 lk_m_X6_165 lk_n_X6_giveBack lk_v_X6_giveBack (n := 1) (by decide +kernel) rfl ⟨rfl, rfl⟩ (by decide) (by decide) rfl rfl rfl (Nat.le_of_ble_eq_true rfl) ⟨Nat.zero_le _, Nat.zero_le _⟩ dX6_raise_110 (fun v1 s3 _ => ?_)
        exact r_iret (pc := 113) C dX6_raise_113
    · refine r_aload_n (pc := 37) C dX6_raise_37 rfl ?_
      refine r_get (pc := 38) C K_X6 13 2 (by decide) rfl (by decide) lk_f_X6_44 rfl dX6_raise_38 ?_
      refine r_getN (pc := 41) C K_X5 5 7 (by decide) rfl (by decide) lk_fn_X6_241 rfl dX6_raise_41 ?_
      refine r_aload_n (pc := 44) C dX6_raise_44 rfl ?_
      refine r_get (pc := 45) C K_X6 13 3 (by decide) rfl (by decide) lk_f_X6_12 rfl dX6_raise_45 ?_
      refine r_callV (pc := 48) C 14 (c_X2_top (zO.ap C)  _) lk_c_X2_top lk_i_X2 lk_m_X6_92 lk_n_X2_top lk_v_X2_top (n := 0) (by decide +kernel) rfl ⟨rfl, rfl⟩ (by decide) (by decide) rfl rfl rfl (Nat.le_of_ble_eq_true rfl) ⟨Nat.zero_le _, Nat.zero_le _⟩ dX6_raise_48 (fun v3 s6 _ => ?_)
      refine r_op (fun _ => ?_) (fun v4 h1 _ => ?_)
      · exact r_none
      · refine r_getN (pc := 51) C K_X1 (16 + 2 * v4) 2 (lt_F h1) (ly_F h1 _) (by decide) lk_fn_X6_225 rfl dX6_raise_51 ?_
        refine r_zald (pc := 54) (t0 := 1) C 12 (by decide) rfl rfl dX6_raise_54 ?_
        refine r_if_ne (pc := 55) (tgt := 71) C dX6_raise_55 (by decide) (fun _ => ?_) (fun _ => ?_)
        · refine r_aload_n (pc := 58) C dX6_raise_58 rfl ?_
          refine r_iload_n (pc := 59) C dX6_raise_59 rfl ?_
          refine r_iconst (pc := 60) (v := 1) C dX6_raise_60 (by decide) ?_
          refine r_isub (pc := 61) C dX6_raise_61 ?_
          refine r_callV (pc := 62) C 13 (c_X6_leaveDownTo (zO.ap C) _ _) lk_c_X6_leaveDownTo lk_i_X6 lk_m_X6_85 lk_n_X6_leaveDownTo lk_v_X6_leaveDownTo (n := 1) (by decide +kernel) rfl ⟨rfl, rfl⟩ (by decide) (by decide) rfl rfl rfl (Nat.le_of_ble_eq_true rfl) ⟨Nat.zero_le _, Nat.zero_le _⟩ dX6_raise_62 (fun _ s11 _ => ?_)
          refine r_iinc (pc := 65) (lv' := [some (.ref (zad E 13)), some (.int x1), some (.int (x2 + (-1 : Int32)))]) C dX6_raise_65 (by decide) rfl rfl rfl ?_
          refine r_goto (pc := 68) (tgt := 33) C dX6_raise_68 (by decide) ?_
          exact ih _ _ _
        · refine r_aload_n (pc := 71) C dX6_raise_71 rfl ?_
          refine r_get (pc := 72) C K_X6 13 3 (by decide) rfl (by decide) lk_f_X6_12 rfl dX6_raise_72 ?_
          refine r_getN (pc := 75) C K_X2 14 3 (by decide) rfl (by decide) lk_fn_X6_175 rfl dX6_raise_75 ?_
          refine r_if_ne (pc := 78) (tgt := 95) C dX6_raise_78 (by decide) (fun _ => ?_) (fun _ => ?_)
          · refine r_aload_n (pc := 81) C dX6_raise_81 rfl ?_
            refine r_bipush (pc := 82) (v := -10) C dX6_raise_82 (by decide) ?_
            refine r_iload_n (pc := 84) C dX6_raise_84 rfl ?_
            refine r_isub (pc := 85) C dX6_raise_85 ?_
            refine r_put (pc := 86) C K_X6 13 13 (by decide) rfl (by decide) lk_f_X6_72 rfl rfl (Nat.le_of_ble_eq_true rfl) rfl dX6_raise_86 (fun s9 _ => ?_)
            refine r_aload_n (pc := 89) C dX6_raise_89 rfl ?_
            refine r_iconst (pc := 90) (v := 2) C dX6_raise_90 (by decide) ?_
            refine r_callV (pc := 91) C 13 (c_X6_end (zO.ap C) _ _) lk_c_X6_end lk_i_X6 lk_m_X6_201 lk_n_X6_end lk_v_X6_end (n := 1) (by decide +kernel) rfl ⟨rfl, rfl⟩ (by decide) (by decide) rfl rfl rfl (Nat.le_of_ble_eq_true rfl) ⟨Nat.zero_le _, Nat.zero_le _⟩ dX6_raise_91 (fun v6 s10 _ => ?_)
            exact r_iret (pc := 94) C dX6_raise_94
          · refine r_aload_n (pc := 95) C dX6_raise_95 rfl ?_
            refine r_dup (pc := 96) C dX6_raise_96 rfl ?_
            refine r_get (pc := 97) C K_X6 13 14 (by decide) rfl (by decide) lk_f_X6_75 rfl dX6_raise_97 ?_
            refine r_iconst (pc := 100) (v := 1) C dX6_raise_100 (by decide) ?_
            refine r_iadd (pc := 101) C dX6_raise_101 ?_
            refine r_put (pc := 102) C K_X6 13 14 (by decide) rfl (by decide) lk_f_X6_75 rfl rfl (Nat.le_of_ble_eq_true rfl) rfl dX6_raise_102 (fun s7 _ => ?_)
            refine r_aload_n (pc := 105) C dX6_raise_105 rfl ?_
            refine r_bipush (pc := 106) (v := -10) C dX6_raise_106 (by decide) ?_
            refine r_iload_n (pc := 108) C dX6_raise_108 rfl ?_
            refine r_isub (pc := 109) C dX6_raise_109 ?_
            refine r_callV (pc := 110) C 13 (c_X6_giveBack (zO.ap C) _ _) lk_c_X6_giveBack lk_i_X6 lk_m_X6_165 lk_n_X6_giveBack lk_v_X6_giveBack (n := 1) (by decide +kernel) rfl ⟨rfl, rfl⟩ (by decide) (by decide) rfl rfl rfl (Nat.le_of_ble_eq_true rfl) ⟨Nat.zero_le _, Nat.zero_le _⟩ dX6_raise_110 (fun v5 s8 _ => ?_)
            exact r_iret (pc := 113) C dX6_raise_113
set_option maxHeartbeats 4000000 in
set_option maxRecDepth 100000 in
theorem g_X6_raise {E : zG} {Γ : zX} (C : zO E Γ RX6 cX6_raise 3 (some .int)) (p0 : Int32) (σ : zS) : zJ E Γ rm_X6_raise 3 (fun r : Int32 => some (.int r)) (f_X6_raise p0 σ) σ 0 [some (.ref (zad E 13)), some (.int p0), none] [] := by
  unfold f_X6_raise
  refine r_aload_n (pc := 0) C dX6_raise_0 rfl ?_
  refine r_get (pc := 1) C K_X6 13 11 (by decide) rfl (by decide) lk_f_X6_66 rfl dX6_raise_1 ?_
  refine r_bipush (pc := 4) (v := 12) C dX6_raise_4 (by decide) ?_
  refine r_icmp_lt (pc := 6) (tgt := 15) C dX6_raise_6 (by decide) (fun _ => ?_) (fun _ => ?_)
  · refine r_aload_n (pc := 15) C dX6_raise_15 rfl ?_
    refine r_dup (pc := 16) C dX6_raise_16 rfl ?_
    refine r_get (pc := 17) C K_X6 13 11 (by decide) rfl (by decide) lk_f_X6_66 rfl dX6_raise_17 ?_
    refine r_iconst (pc := 20) (v := 1) C dX6_raise_20 (by decide) ?_
    refine r_iadd (pc := 21) C dX6_raise_21 ?_
    refine r_put (pc := 22) C K_X6 13 11 (by decide) rfl (by decide) lk_f_X6_66 rfl rfl (Nat.le_of_ble_eq_true rfl) rfl dX6_raise_22 (fun s1 _ => ?_)
    refine r_aload_n (pc := 25) C dX6_raise_25 rfl ?_
    refine r_get (pc := 26) C K_X6 13 3 (by decide) rfl (by decide) lk_f_X6_12 rfl dX6_raise_26 ?_
    refine r_getN (pc := 29) C K_X2 14 3 (by decide) rfl (by decide) lk_fn_X6_175 rfl dX6_raise_29 ?_
    refine r_istore_n (pc := 32) (lv' := [some (.ref (zad E 13)), some (.int p0), some (.int (s1 14 3))]) C dX6_raise_32 (by decide) rfl ?_
    exact g_X6_raise_L33 C zF _ _ _
  · refine r_aload_n (pc := 9) C dX6_raise_9 rfl ?_
    refine r_iconst (pc := 10) (v := 3) C dX6_raise_10 (by decide) ?_
    refine r_callV (pc := 11) C 13 (c_X6_end (zO.ap C) _ _) lk_c_X6_end lk_i_X6 lk_m_X6_201 lk_n_X6_end lk_v_X6_end (n := 1) (by decide +kernel) rfl ⟨rfl, rfl⟩ (by decide) (by decide) rfl rfl rfl (Nat.le_of_ble_eq_true rfl) ⟨Nat.zero_le _, Nat.zero_le _⟩ dX6_raise_11 (fun v7 s12 _ => ?_)
    exact r_iret (pc := 14) C dX6_raise_14
theorem c_X6_raise {E : zG} (hAp : zAp E) (p0 : Int32) (σ : zS) : zM E yX6_raise cX6_raise 3 (some .int) rm_X6_raise (fun r : Int32 => some (.int r)) [.ref (zad E 13), .int p0] (f_X6_raise p0 σ) σ :=
  zM_of (nn := 1) hAp (by decide) (Nat.le_of_ble_eq_true rfl) rfl rfl (fun Γ C => g_X6_raise C p0 σ)
set_option maxHeartbeats 4000000 in
set_option maxRecDepth 100000 in
theorem g_X6_settle_L8 {E : zG} {Γ : zX} (C : zO E Γ RX6 cX6_settle 4 none) : ∀ (n : Nat) (x1 : Int32) (x2 : Int32) (x3 : Int32) (σ : zS), zJ E Γ rm_X6_settle 4 (fun _ : Unit => none) (f_X6_settle_L8 n x1 x2 x3 σ) σ 8 [some (.ref (zad E 13)), some (.int x1), some (.int x2), some (.int x3)] [] := by
  intro n
  induction n with
  | zero => intro x1 x2 x3 σ; rw [f_X6_settle_L8]; exact r_none
  | succ n ih =>
    intro x1 x2 x3 σ
    rw [f_X6_settle_L8]
    refine r_iload_n (pc := 8) C dX6_settle_8 rfl ?_
    refine r_bipush (pc := 9) (v := 12) C dX6_settle_9 (by decide) ?_
    refine r_icmp_ge (pc := 11) (tgt := 34) C dX6_settle_11 (by decide) (fun _ => ?_) (fun _ => ?_)
    · exact r_vret (pc := 34) C dX6_settle_34
    · refine r_iload_n (pc := 14) C dX6_settle_14 rfl ?_
      refine r_if_ge (pc := 15) (tgt := 34) C dX6_settle_15 (by decide) (fun _ => ?_) (fun _ => ?_)
      · exact r_vret (pc := 34) C dX6_settle_34
      · refine r_aload_n (pc := 18) C dX6_settle_18 rfl ?_
        refine r_aload_n (pc := 19) C dX6_settle_19 rfl ?_
        refine r_iload_n (pc := 20) C dX6_settle_20 rfl ?_
        refine r_callV (pc := 21) C 13 (c_X6_raise (zO.ap C) _ _) lk_c_X6_raise lk_i_X6 lk_m_X6_126 lk_n_X6_raise lk_v_X6_raise (n := 1) (by decide +kernel) rfl ⟨rfl, rfl⟩ (by decide) (by decide) rfl rfl rfl (Nat.le_of_ble_eq_true rfl) ⟨Nat.zero_le _, Nat.zero_le _⟩ dX6_settle_21 (fun v2 s2 _ => ?_)
        refine r_callV (pc := 24) C 13 (c_X6_keep (zO.ap C) _ _) lk_c_X6_keep lk_i_X6 lk_m_X6_123 lk_n_X6_keep lk_v_X6_keep (n := 1) (by decide +kernel) rfl ⟨rfl, rfl⟩ (by decide) (by decide) rfl rfl rfl (Nat.le_of_ble_eq_true rfl) ⟨Nat.zero_le _, Nat.zero_le _⟩ dX6_settle_24 (fun v3 s3 _ => ?_)
        refine r_istore_n (pc := 27) (lv' := [some (.ref (zad E 13)), some (.int x1), some (.int v3), some (.int x3)]) C dX6_settle_27 (by decide) rfl ?_
        refine r_iinc (pc := 28) (lv' := [some (.ref (zad E 13)), some (.int x1), some (.int v3), some (.int (x3 + (1 : Int32)))]) C dX6_settle_28 (by decide) rfl rfl rfl ?_
        refine r_goto (pc := 31) (tgt := 8) C dX6_settle_31 (by decide) ?_
        exact ih _ _ _ _
set_option maxHeartbeats 4000000 in
set_option maxRecDepth 100000 in
theorem g_X6_settle {E : zG} {Γ : zX} (C : zO E Γ RX6 cX6_settle 4 none) (p0 : Int32) (σ : zS) : zJ E Γ rm_X6_settle 4 (fun _ : Unit => none) (f_X6_settle p0 σ) σ 0 [some (.ref (zad E 13)), some (.int p0), none, none] [] := by
  unfold f_X6_settle
  refine r_aload_n (pc := 0) C dX6_settle_0 rfl ?_
  refine r_iload_n (pc := 1) C dX6_settle_1 rfl ?_
  refine r_callV (pc := 2) C 13 (c_X6_keep (zO.ap C) _ _) lk_c_X6_keep lk_i_X6 lk_m_X6_123 lk_n_X6_keep lk_v_X6_keep (n := 1) (by decide +kernel) rfl ⟨rfl, rfl⟩ (by decide) (by decide) rfl rfl rfl (Nat.le_of_ble_eq_true rfl) ⟨Nat.zero_le _, Nat.zero_le _⟩ dX6_settle_2 (fun v1 s1 _ => ?_)
  refine r_istore_n (pc := 5) (lv' := [some (.ref (zad E 13)), some (.int p0), some (.int v1), none]) C dX6_settle_5 (by decide) rfl ?_
  refine r_iconst (pc := 6) (v := 0) C dX6_settle_6 (by decide) ?_
  refine r_istore_n (pc := 7) (lv' := [some (.ref (zad E 13)), some (.int p0), some (.int v1), some (.int (0 : Int32))]) C dX6_settle_7 (by decide) rfl ?_
  exact g_X6_settle_L8 C zF _ _ _ _
theorem c_X6_settle {E : zG} (hAp : zAp E) (p0 : Int32) (σ : zS) : zM E yX6_settle cX6_settle 4 none rm_X6_settle (fun _ : Unit => none) [.ref (zad E 13), .int p0] (f_X6_settle p0 σ) σ :=
  zM_of (nn := 2) hAp (by decide) (Nat.le_of_ble_eq_true rfl) rfl rfl (fun Γ C => g_X6_settle C p0 σ)
set_option maxHeartbeats 4000000 in
set_option maxRecDepth 100000 in
theorem g_X7_size {E : zG} {Γ : zX} (C : zO E Γ RX7 cX7_size 3 (some .int)) (p0 : Int32) (p1 : Int32) (σ : zS) : zJ E Γ rm_X7_size 3 (fun r : Int32 => some (.int r)) (f_X7_size p0 p1 σ) σ 0 [some (.ref (zad E 0)), some (.int p0), some (.int p1)] [] := by
  unfold f_X7_size
  refine r_iload_n (pc := 0) C dX7_size_0 rfl ?_
  refine r_if_lt (pc := 1) (tgt := 20) C dX7_size_1 (by decide) (fun _ => ?_) (fun _ => ?_)
  · refine r_bipush (pc := 20) (v := -2) C dX7_size_20 (by decide) ?_
    exact r_iret (pc := 22) C dX7_size_22
  · refine r_iload_n (pc := 4) C dX7_size_4 rfl ?_
    refine r_sipush (pc := 5) (v := 2000) C dX7_size_5 (by decide) ?_
    refine r_icmp_gt (pc := 8) (tgt := 20) C dX7_size_8 (by decide) (fun _ => ?_) (fun _ => ?_)
    · refine r_bipush (pc := 20) (v := -2) C dX7_size_20 (by decide) ?_
      exact r_iret (pc := 22) C dX7_size_22
    · refine r_iload_n (pc := 11) C dX7_size_11 rfl ?_
      refine r_if_lt (pc := 12) (tgt := 20) C dX7_size_12 (by decide) (fun _ => ?_) (fun _ => ?_)
      · refine r_bipush (pc := 20) (v := -2) C dX7_size_20 (by decide) ?_
        exact r_iret (pc := 22) C dX7_size_22
      · refine r_iload_n (pc := 15) C dX7_size_15 rfl ?_
        refine r_iload_n (pc := 16) C dX7_size_16 rfl ?_
        refine r_icmp_le (pc := 17) (tgt := 23) C dX7_size_17 (by decide) (fun _ => ?_) (fun _ => ?_)
        · refine r_aload_n (pc := 23) C dX7_size_23 rfl ?_
          refine r_get (pc := 24) C K_X7 0 0 (by decide) rfl (by decide) lk_f_X7_12 rfl dX7_size_24 ?_
          refine r_iload_n (pc := 27) C dX7_size_27 rfl ?_
          refine r_iload_n (pc := 28) C dX7_size_28 rfl ?_
          refine r_callV (pc := 29) C 1 (c_X3_begin (zO.ap C) _ _ _) lk_c_X3_begin lk_i_X3 lk_m_X7_39 lk_n_X3_begin lk_v_X3_begin (n := 2) (by decide +kernel) rfl ⟨rfl, rfl⟩ (by decide) (by decide) rfl rfl rfl (Nat.le_of_ble_eq_true rfl) ⟨Nat.zero_le _, Nat.zero_le _⟩ dX7_size_29 (fun _ s1 _ => ?_)
          refine r_iconst (pc := 32) (v := 1) C dX7_size_32 (by decide) ?_
          exact r_iret (pc := 33) C dX7_size_33
        · refine r_bipush (pc := 20) (v := -2) C dX7_size_20 (by decide) ?_
          exact r_iret (pc := 22) C dX7_size_22
theorem c_X7_size {E : zG} (hAp : zAp E) (p0 : Int32) (p1 : Int32) (σ : zS) : zM E yX7_size cX7_size 3 (some .int) rm_X7_size (fun r : Int32 => some (.int r)) [.ref (zad E 0), .int p0, .int p1] (f_X7_size p0 p1 σ) σ :=
  zM_of (nn := 0) hAp (by decide) (Nat.le_of_ble_eq_true rfl) rfl rfl (fun Γ C => g_X7_size C p0 p1 σ)
set_option maxHeartbeats 4000000 in
set_option maxRecDepth 100000 in
theorem g_X7_get {E : zG} {Γ : zX} (C : zO E Γ RX7 cX7_get 3 (some .int)) (p0 : Int32) (p1 : Int32) (σ : zS) : zJ E Γ rm_X7_get 3 (fun r : Int32 => some (.int r)) (f_X7_get p0 p1 σ) σ 0 [some (.ref (zad E 0)), some (.int p0), some (.int p1)] [] := by
  unfold f_X7_get
  refine r_iload_n (pc := 0) C dX7_get_0 rfl ?_
  refine r_if_eq (pc := 1) (tgt := 15) C dX7_get_1 (by decide) (fun _ => ?_) (fun _ => ?_)
  · refine r_aload_n (pc := 15) C dX7_get_15 rfl ?_
    refine r_get (pc := 16) C K_X7 0 0 (by decide) rfl (by decide) lk_f_X7_12 rfl dX7_get_16 ?_
    refine r_iload_n (pc := 19) C dX7_get_19 rfl ?_
    refine r_callV (pc := 20) C 1 (c_X3_byteAt (zO.ap C) _ _) lk_c_X3_byteAt lk_i_X3 lk_m_X7_47 lk_n_X3_byteAt lk_v_X3_byteAt (n := 1) (by decide +kernel) rfl ⟨rfl, rfl⟩ (by decide) (by decide) rfl rfl rfl (Nat.le_of_ble_eq_true rfl) ⟨Nat.zero_le _, Nat.zero_le _⟩ dX7_get_20 (fun v1 s1 _ => ?_)
    exact r_iret (pc := 23) C dX7_get_23
  · refine r_aload_n (pc := 4) C dX7_get_4 rfl ?_
    refine r_get (pc := 5) C K_X7 0 0 (by decide) rfl (by decide) lk_f_X7_12 rfl dX7_get_5 ?_
    refine r_iload_n (pc := 8) C dX7_get_8 rfl ?_
    refine r_callV (pc := 9) C 1 (c_X3_wordAt (zO.ap C) _ _) lk_c_X3_wordAt lk_i_X3 lk_m_X7_43 lk_n_X3_wordAt lk_v_X3_wordAt (n := 1) (by decide +kernel) rfl ⟨rfl, rfl⟩ (by decide) (by decide) rfl rfl rfl (Nat.le_of_ble_eq_true rfl) ⟨Nat.zero_le _, Nat.zero_le _⟩ dX7_get_9 (fun v2 s2 _ => ?_)
    refine r_goto (pc := 12) (tgt := 23) C dX7_get_12 (by decide) ?_
    exact r_iret (pc := 23) C dX7_get_23
theorem c_X7_get {E : zG} (hAp : zAp E) (p0 : Int32) (p1 : Int32) (σ : zS) : zM E yX7_get cX7_get 3 (some .int) rm_X7_get (fun r : Int32 => some (.int r)) [.ref (zad E 0), .int p0, .int p1] (f_X7_get p0 p1 σ) σ :=
  zM_of (nn := 0) hAp (by decide) (Nat.le_of_ble_eq_true rfl) rfl rfl (fun Γ C => g_X7_get C p0 p1 σ)
set_option maxHeartbeats 4000000 in
set_option maxRecDepth 100000 in
theorem g_X7_put {E : zG} {Γ : zX} (C : zO E Γ RX7 cX7_put 5 (some .int)) (p0 : Int32) (p1 : Int32) (p2 : Int32) (p3 : Int32) (σ : zS) : zJ E Γ rm_X7_put 5 (fun r : Int32 => some (.int r)) (f_X7_put p0 p1 p2 p3 σ) σ 0 [some (.ref (zad E 0)), some (.int p0), some (.int p1), some (.int p2), some (.int p3)] [] := by
  unfold f_X7_put
  refine r_iload_n (pc := 0) C dX7_put_0 rfl ?_
  refine r_if_eq (pc := 1) (tgt := 18) C dX7_put_1 (by decide) (fun _ => ?_) (fun _ => ?_)
  · refine r_aload_n (pc := 18) C dX7_put_18 rfl ?_
    refine r_get (pc := 19) C K_X7 0 0 (by decide) rfl (by decide) lk_f_X7_12 rfl dX7_put_19 ?_
    refine r_iload_n (pc := 22) C dX7_put_22 rfl ?_
    refine r_iload_n (pc := 23) C dX7_put_23 rfl ?_
    refine r_iload (pc := 24) C dX7_put_24 rfl ?_
    refine r_callV (pc := 26) C 1 (c_X3_setByte (zO.ap C) _ _ _ _) lk_c_X3_setByte lk_i_X3 lk_m_X7_54 lk_n_X3_setByte lk_v_X3_setByte (n := 3) (by decide +kernel) rfl ⟨rfl, rfl⟩ (by decide) (by decide) rfl rfl rfl (Nat.le_of_ble_eq_true rfl) ⟨Nat.zero_le _, Nat.zero_le _⟩ dX7_put_26 (fun v1 s1 _ => ?_)
    exact r_iret (pc := 29) C dX7_put_29
  · refine r_aload_n (pc := 4) C dX7_put_4 rfl ?_
    refine r_get (pc := 5) C K_X7 0 0 (by decide) rfl (by decide) lk_f_X7_12 rfl dX7_put_5 ?_
    refine r_iload_n (pc := 8) C dX7_put_8 rfl ?_
    refine r_iload_n (pc := 9) C dX7_put_9 rfl ?_
    refine r_iload (pc := 10) C dX7_put_10 rfl ?_
    refine r_callV (pc := 12) C 1 (c_X3_setWord (zO.ap C) _ _ _ _) lk_c_X3_setWord lk_i_X3 lk_m_X7_50 lk_n_X3_setWord lk_v_X3_setWord (n := 3) (by decide +kernel) rfl ⟨rfl, rfl⟩ (by decide) (by decide) rfl rfl rfl (Nat.le_of_ble_eq_true rfl) ⟨Nat.zero_le _, Nat.zero_le _⟩ dX7_put_12 (fun v2 s2 _ => ?_)
    refine r_goto (pc := 15) (tgt := 29) C dX7_put_15 (by decide) ?_
    exact r_iret (pc := 29) C dX7_put_29
theorem c_X7_put {E : zG} (hAp : zAp E) (p0 : Int32) (p1 : Int32) (p2 : Int32) (p3 : Int32) (σ : zS) : zM E yX7_put cX7_put 5 (some .int) rm_X7_put (fun r : Int32 => some (.int r)) [.ref (zad E 0), .int p0, .int p1, .int p2, .int p3] (f_X7_put p0 p1 p2 p3 σ) σ :=
  zM_of (nn := 0) hAp (by decide) (Nat.le_of_ble_eq_true rfl) rfl rfl (fun Γ C => g_X7_put C p0 p1 p2 p3 σ)
set_option maxHeartbeats 4000000 in
set_option maxRecDepth 100000 in
theorem g_X7_copy {E : zG} {Γ : zX} (C : zO E Γ RX7 cX7_copy 4 (some .int)) (p0 : Int32) (p1 : Int32) (p2 : Int32) (σ : zS) : zJ E Γ rm_X7_copy 4 (fun r : Int32 => some (.int r)) (f_X7_copy p0 p1 p2 σ) σ 0 [some (.ref (zad E 0)), some (.int p0), some (.int p1), some (.int p2)] [] := by
  unfold f_X7_copy
  refine r_aload_n (pc := 0) C dX7_copy_0 rfl ?_
  refine r_get (pc := 1) C K_X7 0 0 (by decide) rfl (by decide) lk_f_X7_12 rfl dX7_copy_1 ?_
  refine r_iload_n (pc := 4) C dX7_copy_4 rfl ?_
  refine r_callS (pc := 5) C (c_X7_word (zO.ap C) _ _) lk_c_X7_word lk_i_X7 lk_m_X7_76 lk_s_X7_word (n := 1) (by decide +kernel) rfl ⟨rfl, rfl⟩ (by decide) (Nat.le_of_ble_eq_true rfl) ⟨Nat.zero_le _, Nat.zero_le _⟩ dX7_copy_5 (fun v1 s1 _ => ?_)
  refine r_iload_n (pc := 8) C dX7_copy_8 rfl ?_
  refine r_callS (pc := 9) C (c_X7_word (zO.ap C) _ _) lk_c_X7_word lk_i_X7 lk_m_X7_76 lk_s_X7_word (n := 1) (by decide +kernel) rfl ⟨rfl, rfl⟩ (by decide) (Nat.le_of_ble_eq_true rfl) ⟨Nat.zero_le _, Nat.zero_le _⟩ dX7_copy_9 (fun v2 s2 _ => ?_)
  refine r_iload_n (pc := 12) C dX7_copy_12 rfl ?_
  refine r_callS (pc := 13) C (c_X7_number (zO.ap C) _ _) lk_c_X7_number lk_i_X7 lk_m_X7_64 lk_s_X7_number (n := 1) (by decide +kernel) rfl ⟨rfl, rfl⟩ (by decide) (Nat.le_of_ble_eq_true rfl) ⟨Nat.zero_le _, Nat.zero_le _⟩ dX7_copy_13 (fun v3 s3 _ => ?_)
  refine r_callV (pc := 16) C 1 (c_X3_copyTable (zO.ap C) _ _ _ _) lk_c_X3_copyTable lk_i_X3 lk_m_X7_79 lk_n_X3_copyTable lk_v_X3_copyTable (n := 3) (by decide +kernel) rfl ⟨rfl, rfl⟩ (by decide) (by decide) rfl rfl rfl (Nat.le_of_ble_eq_true rfl) ⟨Nat.zero_le _, Nat.zero_le _⟩ dX7_copy_16 (fun v4 s4 _ => ?_)
  exact r_iret (pc := 19) C dX7_copy_19
theorem c_X7_copy {E : zG} (hAp : zAp E) (p0 : Int32) (p1 : Int32) (p2 : Int32) (σ : zS) : zM E yX7_copy cX7_copy 4 (some .int) rm_X7_copy (fun r : Int32 => some (.int r)) [.ref (zad E 0), .int p0, .int p1, .int p2] (f_X7_copy p0 p1 p2 σ) σ :=
  zM_of (nn := 0) hAp (by decide) (Nat.le_of_ble_eq_true rfl) rfl rfl (fun Γ C => g_X7_copy C p0 p1 p2 σ)
set_option maxHeartbeats 4000000 in
set_option maxRecDepth 100000 in
theorem g_X7_look {E : zG} {Γ : zX} (C : zO E Γ RX7 cX7_look 5 (some .int)) (p0 : Int32) (p1 : Int32) (p2 : Int32) (p3 : Int32) (σ : zS) : zJ E Γ rm_X7_look 5 (fun r : Int32 => some (.int r)) (f_X7_look p0 p1 p2 p3 σ) σ 0 [some (.ref (zad E 0)), some (.int p0), some (.int p1), some (.int p2), some (.int p3)] [] := by
  unfold f_X7_look
  refine r_iload (pc := 0) C dX7_look_0 rfl ?_
  refine r_sipush (pc := 2) (v := 255) C dX7_look_2 (by decide) ?_
  refine r_callS (pc := 5) C (c_X7_isWithin (zO.ap C) _ _ _) lk_c_X7_isWithin lk_i_X7 lk_m_X7_82 lk_s_X7_isWithin (n := 2) (by decide +kernel) rfl ⟨rfl, rfl⟩ (by decide) (Nat.le_of_ble_eq_true rfl) ⟨Nat.zero_le _, Nat.zero_le _⟩ dX7_look_5 (fun v1 s1 _ => ?_)
  refine r_if_ne (pc := 8) (tgt := 14) C dX7_look_8 (by decide) (fun _ => ?_) (fun _ => ?_)
  · refine r_bipush (pc := 11) (v := -2) C dX7_look_11 (by decide) ?_
    exact r_iret (pc := 13) C dX7_look_13
  · refine r_aload_n (pc := 14) C dX7_look_14 rfl ?_
    refine r_get (pc := 15) C K_X7 0 0 (by decide) rfl (by decide) lk_f_X7_12 rfl dX7_look_15 ?_
    refine r_iload_n (pc := 18) C dX7_look_18 rfl ?_
    refine r_iload_n (pc := 19) C dX7_look_19 rfl ?_
    refine r_iload_n (pc := 20) C dX7_look_20 rfl ?_
    refine r_iload (pc := 21) C dX7_look_21 rfl ?_
    refine r_callV (pc := 23) C 1 (c_X3_find (zO.ap C) _ _ _ _ _) lk_c_X3_find lk_i_X3 lk_m_X7_86 lk_n_X3_find lk_v_X3_find (n := 4) (by decide +kernel) rfl ⟨rfl, rfl⟩ (by decide) (by decide) rfl rfl rfl (Nat.le_of_ble_eq_true rfl) ⟨Nat.zero_le _, Nat.zero_le _⟩ dX7_look_23 (fun v2 s2 _ => ?_)
    exact r_iret (pc := 26) C dX7_look_26
theorem c_X7_look {E : zG} (hAp : zAp E) (p0 : Int32) (p1 : Int32) (p2 : Int32) (p3 : Int32) (σ : zS) : zM E yX7_look cX7_look 5 (some .int) rm_X7_look (fun r : Int32 => some (.int r)) [.ref (zad E 0), .int p0, .int p1, .int p2, .int p3] (f_X7_look p0 p1 p2 p3 σ) σ :=
  zM_of (nn := 0) hAp (by decide) (Nat.le_of_ble_eq_true rfl) rfl rfl (fun Γ C => g_X7_look C p0 p1 p2 p3 σ)
set_option maxHeartbeats 4000000 in
set_option maxRecDepth 100000 in
theorem g_X7_random {E : zG} {Γ : zX} (C : zO E Γ RX7 cX7_random 2 (some .int)) (p0 : Int32) (σ : zS) : zJ E Γ rm_X7_random 2 (fun r : Int32 => some (.int r)) (f_X7_random p0 σ) σ 0 [some (.ref (zad E 0)), some (.int p0)] [] := by
  unfold f_X7_random
  refine r_aload_n (pc := 0) C dX7_random_0 rfl ?_
  refine r_get (pc := 1) C K_X7 0 1 (by decide) rfl (by decide) lk_f_X7_19 rfl dX7_random_1 ?_
  refine r_iload_n (pc := 4) C dX7_random_4 rfl ?_
  refine r_callS (pc := 5) C (c_X7_number (zO.ap C) _ _) lk_c_X7_number lk_i_X7 lk_m_X7_64 lk_s_X7_number (n := 1) (by decide +kernel) rfl ⟨rfl, rfl⟩ (by decide) (Nat.le_of_ble_eq_true rfl) ⟨Nat.zero_le _, Nat.zero_le _⟩ dX7_random_5 (fun v1 s1 _ => ?_)
  refine r_callV (pc := 8) C 3 (c_X0_draw (zO.ap C) _ _) lk_c_X0_draw lk_i_X0 lk_m_X7_90 lk_n_X0_draw lk_v_X0_draw (n := 1) (by decide +kernel) rfl ⟨rfl, rfl⟩ (by decide) (by decide) rfl rfl rfl (Nat.le_of_ble_eq_true rfl) ⟨Nat.zero_le _, Nat.zero_le _⟩ dX7_random_8 (fun v2 s2 _ => ?_)
  exact r_iret (pc := 11) C dX7_random_11
theorem c_X7_random {E : zG} (hAp : zAp E) (p0 : Int32) (σ : zS) : zM E yX7_random cX7_random 2 (some .int) rm_X7_random (fun r : Int32 => some (.int r)) [.ref (zad E 0), .int p0] (f_X7_random p0 σ) σ :=
  zM_of (nn := 0) hAp (by decide) (Nat.le_of_ble_eq_true rfl) rfl rfl (fun Γ C => g_X7_random C p0 σ)
set_option maxHeartbeats 4000000 in
set_option maxRecDepth 100000 in
theorem g_X7_tape {E : zG} {Γ : zX} (C : zO E Γ RX7 cX7_tape 2 (some .int)) (p0 : Int32) (σ : zS) : zJ E Γ rm_X7_tape 2 (fun r : Int32 => some (.int r)) (f_X7_tape p0 σ) σ 0 [some (.ref (zad E 0)), some (.int p0)] [] := by
  unfold f_X7_tape
  refine r_iload_n (pc := 0) C dX7_tape_0 rfl ?_
  refine r_ldc (pc := 1) (v := 65535) C dX7_tape_1 lk_k_X7_93 ?_
  refine r_callS (pc := 3) C (c_X7_isWithin (zO.ap C) _ _ _) lk_c_X7_isWithin lk_i_X7 lk_m_X7_82 lk_s_X7_isWithin (n := 2) (by decide +kernel) rfl ⟨rfl, rfl⟩ (by decide) (Nat.le_of_ble_eq_true rfl) ⟨Nat.zero_le _, Nat.zero_le _⟩ dX7_tape_3 (fun v1 s1 _ => ?_)
  refine r_if_ne (pc := 6) (tgt := 12) C dX7_tape_6 (by decide) (fun _ => ?_) (fun _ => ?_)
  · refine r_bipush (pc := 9) (v := -2) C dX7_tape_9 (by decide) ?_
    exact r_iret (pc := 11) C dX7_tape_11
  · refine r_aload_n (pc := 12) C dX7_tape_12 rfl ?_
    refine r_get (pc := 13) C K_X7 0 1 (by decide) rfl (by decide) lk_f_X7_19 rfl dX7_tape_13 ?_
    refine r_iload_n (pc := 16) C dX7_tape_16 rfl ?_
    refine r_callV (pc := 17) C 3 (c_X0_record (zO.ap C) _ _) lk_c_X0_record lk_i_X0 lk_m_X7_94 lk_n_X0_record lk_v_X0_record (n := 1) (by decide +kernel) rfl ⟨rfl, rfl⟩ (by decide) (by decide) rfl rfl rfl (Nat.le_of_ble_eq_true rfl) ⟨Nat.zero_le _, Nat.zero_le _⟩ dX7_tape_17 (fun v2 s2 _ => ?_)
    exact r_iret (pc := 20) C dX7_tape_20
theorem c_X7_tape {E : zG} (hAp : zAp E) (p0 : Int32) (σ : zS) : zM E yX7_tape cX7_tape 2 (some .int) rm_X7_tape (fun r : Int32 => some (.int r)) [.ref (zad E 0), .int p0] (f_X7_tape p0 σ) σ :=
  zM_of (nn := 0) hAp (by decide) (Nat.le_of_ble_eq_true rfl) rfl rfl (fun Γ C => g_X7_tape C p0 σ)
set_option maxHeartbeats 4000000 in
set_option maxRecDepth 100000 in
theorem g_X7_globe {E : zG} {Γ : zX} (C : zO E Γ RX7 cX7_globe 3 (some .int)) (p0 : Int32) (σ : zS) : zJ E Γ rm_X7_globe 3 (fun r : Int32 => some (.int r)) (f_X7_globe p0 σ) σ 0 [some (.ref (zad E 0)), some (.int p0), none] [] := by
  unfold f_X7_globe
  refine r_iload_n (pc := 0) C dX7_globe_0 rfl ?_
  refine r_ldc (pc := 1) (v := 65535) C dX7_globe_1 lk_k_X7_93 ?_
  refine r_callS (pc := 3) C (c_X7_isWithin (zO.ap C) _ _ _) lk_c_X7_isWithin lk_i_X7 lk_m_X7_82 lk_s_X7_isWithin (n := 2) (by decide +kernel) rfl ⟨rfl, rfl⟩ (by decide) (Nat.le_of_ble_eq_true rfl) ⟨Nat.zero_le _, Nat.zero_le _⟩ dX7_globe_3 (fun v1 s1 _ => ?_)
  refine r_if_ne (pc := 6) (tgt := 12) C dX7_globe_6 (by decide) (fun _ => ?_) (fun _ => ?_)
  · refine r_bipush (pc := 9) (v := -2) C dX7_globe_9 (by decide) ?_
    exact r_iret (pc := 11) C dX7_globe_11
  · refine r_aload_n (pc := 12) C dX7_globe_12 rfl ?_
    refine r_get (pc := 13) C K_X7 0 3 (by decide) rfl (by decide) lk_f_X7_35 rfl dX7_globe_13 ?_
    refine r_getN (pc := 16) C K_X6 13 7 (by decide) rfl (by decide) lk_fn_X7_97 rfl dX7_globe_16 ?_
    refine r_istore_n (pc := 19) (lv' := [some (.ref (zad E 0)), some (.int p0), some (.int (s1 13 7))]) C dX7_globe_19 (by decide) rfl ?_
    refine r_aload_n (pc := 20) C dX7_globe_20 rfl ?_
    refine r_get (pc := 21) C K_X7 0 3 (by decide) rfl (by decide) lk_f_X7_35 rfl dX7_globe_21 ?_
    refine r_iload_n (pc := 24) C dX7_globe_24 rfl ?_
    refine r_putN (pc := 25) C K_X6 13 7 (by decide) rfl (by decide) lk_fn_X7_97 rfl rfl (Nat.le_of_ble_eq_true rfl) rfl dX7_globe_25 (fun s2 _ => ?_)
    refine r_iload_n (pc := 28) C dX7_globe_28 rfl ?_
    exact r_iret (pc := 29) C dX7_globe_29
theorem c_X7_globe {E : zG} (hAp : zAp E) (p0 : Int32) (σ : zS) : zM E yX7_globe cX7_globe 3 (some .int) rm_X7_globe (fun r : Int32 => some (.int r)) [.ref (zad E 0), .int p0] (f_X7_globe p0 σ) σ :=
  zM_of (nn := 1) hAp (by decide) (Nat.le_of_ble_eq_true rfl) rfl rfl (fun Γ C => g_X7_globe C p0 σ)
set_option maxHeartbeats 4000000 in
set_option maxRecDepth 100000 in
theorem g_X7_form {E : zG} {Γ : zX} (C : zO E Γ RX7 cX7_form 3 (some .int)) (p0 : Int32) (σ : zS) : zJ E Γ rm_X7_form 3 (fun r : Int32 => some (.int r)) (f_X7_form p0 σ) σ 0 [some (.ref (zad E 0)), some (.int p0), none] [] := by
  unfold f_X7_form
  refine r_iload_n (pc := 0) C dX7_form_0 rfl ?_
  refine r_sipush (pc := 1) (v := 255) C dX7_form_1 (by decide) ?_
  refine r_callS (pc := 4) C (c_X7_isWithin (zO.ap C) _ _ _) lk_c_X7_isWithin lk_i_X7 lk_m_X7_82 lk_s_X7_isWithin (n := 2) (by decide +kernel) rfl ⟨rfl, rfl⟩ (by decide) (Nat.le_of_ble_eq_true rfl) ⟨Nat.zero_le _, Nat.zero_le _⟩ dX7_form_4 (fun v1 s1 _ => ?_)
  refine r_if_ne (pc := 7) (tgt := 13) C dX7_form_7 (by decide) (fun _ => ?_) (fun _ => ?_)
  · refine r_bipush (pc := 10) (v := -2) C dX7_form_10 (by decide) ?_
    exact r_iret (pc := 12) C dX7_form_12
  · refine r_aload_n (pc := 13) C dX7_form_13 rfl ?_
    refine r_get (pc := 14) C K_X7 0 3 (by decide) rfl (by decide) lk_f_X7_35 rfl dX7_form_14 ?_
    refine r_getN (pc := 17) C K_X6 13 8 (by decide) rfl (by decide) lk_fn_X7_101 rfl dX7_form_17 ?_
    refine r_istore_n (pc := 20) (lv' := [some (.ref (zad E 0)), some (.int p0), some (.int (s1 13 8))]) C dX7_form_20 (by decide) rfl ?_
    refine r_aload_n (pc := 21) C dX7_form_21 rfl ?_
    refine r_get (pc := 22) C K_X7 0 3 (by decide) rfl (by decide) lk_f_X7_35 rfl dX7_form_22 ?_
    refine r_iload_n (pc := 25) C dX7_form_25 rfl ?_
    refine r_putN (pc := 26) C K_X6 13 8 (by decide) rfl (by decide) lk_fn_X7_101 rfl rfl (Nat.le_of_ble_eq_true rfl) rfl dX7_form_26 (fun s2 _ => ?_)
    refine r_iload_n (pc := 29) C dX7_form_29 rfl ?_
    exact r_iret (pc := 30) C dX7_form_30
theorem c_X7_form {E : zG} (hAp : zAp E) (p0 : Int32) (σ : zS) : zM E yX7_form cX7_form 3 (some .int) rm_X7_form (fun r : Int32 => some (.int r)) [.ref (zad E 0), .int p0] (f_X7_form p0 σ) σ :=
  zM_of (nn := 1) hAp (by decide) (Nat.le_of_ble_eq_true rfl) rfl rfl (fun Γ C => g_X7_form C p0 σ)
set_option maxHeartbeats 4000000 in
set_option maxRecDepth 100000 in
theorem g_X7_isOperand {E : zG} {Γ : zX} (C : zO E Γ RX7 cX7_isOperand 1 (some .boolean)) (p0 : Int32) (σ : zS) : zJ E Γ rm_X7_isOperand 1 (fun r : Int32 => some (.int r)) (f_X7_isOperand p0 σ) σ 0 [some (.int p0)] [] := by
  unfold f_X7_isOperand
  refine r_iload_n (pc := 0) C dX7_isOperand_0 rfl ?_
  refine r_sipush (pc := 1) (v := -256) C dX7_isOperand_1 (by decide) ?_
  refine r_icmp_lt (pc := 4) (tgt := 17) C dX7_isOperand_4 (by decide) (fun _ => ?_) (fun _ => ?_)
  · refine r_iconst (pc := 17) (v := 0) C dX7_isOperand_17 (by decide) ?_
    exact r_zret (pc := 18) C (by first | rfl | decide) dX7_isOperand_18
  · refine r_iload_n (pc := 7) C dX7_isOperand_7 rfl ?_
    refine r_ldc (pc := 8) (v := 65535) C dX7_isOperand_8 lk_k_X7_93 ?_
    refine r_icmp_gt (pc := 10) (tgt := 17) C dX7_isOperand_10 (by decide) (fun _ => ?_) (fun _ => ?_)
    · refine r_iconst (pc := 17) (v := 0) C dX7_isOperand_17 (by decide) ?_
      exact r_zret (pc := 18) C (by first | rfl | decide) dX7_isOperand_18
    · refine r_iconst (pc := 13) (v := 1) C dX7_isOperand_13 (by decide) ?_
      refine r_goto (pc := 14) (tgt := 18) C dX7_isOperand_14 (by decide) ?_
      exact r_zret (pc := 18) C (by first | rfl | decide) dX7_isOperand_18
theorem c_X7_isOperand {E : zG} (hAp : zAp E) (p0 : Int32) (σ : zS) : zM E yX7_isOperand cX7_isOperand 1 (some .boolean) rm_X7_isOperand (fun r : Int32 => some (.int r)) [.int p0] (f_X7_isOperand p0 σ) σ :=
  zM_of (nn := 0) hAp (by decide) (Nat.le_of_ble_eq_true rfl) rfl rfl (fun Γ C => g_X7_isOperand C p0 σ)
set_option maxHeartbeats 4000000 in
set_option maxRecDepth 100000 in
theorem g_X7_instruction {E : zG} {Γ : zX} (C : zO E Γ RX7 cX7_instruction 6 (some .int)) (p0 : Int32) (p1 : Int32) (p2 : Int32) (p3 : Int32) (p4 : Int32) (σ : zS) : zJ E Γ rm_X7_instruction 6 (fun r : Int32 => some (.int r)) (f_X7_instruction p0 p1 p2 p3 p4 σ) σ 0 [some (.ref (zad E 0)), some (.int p0), some (.int p1), some (.int p2), some (.int p3), some (.int p4)] [] := by
  unfold f_X7_instruction
  refine r_iload_n (pc := 0) C dX7_instruction_0 rfl ?_
  refine r_callS (pc := 1) C (c_X7_isOperand (zO.ap C) _ _) lk_c_X7_isOperand lk_i_X7 lk_m_X7_104 lk_s_X7_isOperand (n := 1) (by decide +kernel) rfl ⟨rfl, rfl⟩ (by decide) (Nat.le_of_ble_eq_true rfl) ⟨Nat.zero_le _, Nat.zero_le _⟩ dX7_instruction_1 (fun v1 s1 _ => ?_)
  refine r_if_eq (pc := 4) (tgt := 22) C dX7_instruction_4 (by decide) (fun _ => ?_) (fun _ => ?_)
  · refine r_bipush (pc := 22) (v := -2) C dX7_instruction_22 (by decide) ?_
    exact r_iret (pc := 24) C dX7_instruction_24
  · refine r_iload_n (pc := 7) C dX7_instruction_7 rfl ?_
    refine r_callS (pc := 8) C (c_X7_isOperand (zO.ap C) _ _) lk_c_X7_isOperand lk_i_X7 lk_m_X7_104 lk_s_X7_isOperand (n := 1) (by decide +kernel) rfl ⟨rfl, rfl⟩ (by decide) (Nat.le_of_ble_eq_true rfl) ⟨Nat.zero_le _, Nat.zero_le _⟩ dX7_instruction_8 (fun v2 s2 _ => ?_)
    refine r_if_eq (pc := 11) (tgt := 22) C dX7_instruction_11 (by decide) (fun _ => ?_) (fun _ => ?_)
    · refine r_bipush (pc := 22) (v := -2) C dX7_instruction_22 (by decide) ?_
      exact r_iret (pc := 24) C dX7_instruction_24
    · refine r_iload (pc := 14) C dX7_instruction_14 rfl ?_
      refine r_callS (pc := 16) C (c_X7_isOperand (zO.ap C) _ _) lk_c_X7_isOperand lk_i_X7 lk_m_X7_104 lk_s_X7_isOperand (n := 1) (by decide +kernel) rfl ⟨rfl, rfl⟩ (by decide) (Nat.le_of_ble_eq_true rfl) ⟨Nat.zero_le _, Nat.zero_le _⟩ dX7_instruction_16 (fun v3 s3 _ => ?_)
      refine r_if_ne (pc := 19) (tgt := 25) C dX7_instruction_19 (by decide) (fun _ => ?_) (fun _ => ?_)
      · refine r_bipush (pc := 22) (v := -2) C dX7_instruction_22 (by decide) ?_
        exact r_iret (pc := 24) C dX7_instruction_24
      · refine r_iload (pc := 25) C dX7_instruction_25 rfl ?_
        refine r_iconst (pc := 27) (v := -1) C dX7_instruction_27 (by decide) ?_
        refine r_icmp_lt (pc := 28) (tgt := 39) C dX7_instruction_28 (by decide) (fun _ => ?_) (fun _ => ?_)
        · refine r_bipush (pc := 39) (v := -2) C dX7_instruction_39 (by decide) ?_
          exact r_iret (pc := 41) C dX7_instruction_41
        · refine r_iload (pc := 31) C dX7_instruction_31 rfl ?_
          refine r_sipush (pc := 33) (v := 255) C dX7_instruction_33 (by decide) ?_
          refine r_icmp_le (pc := 36) (tgt := 42) C dX7_instruction_36 (by decide) (fun _ => ?_) (fun _ => ?_)
          · refine r_aload_n (pc := 42) C dX7_instruction_42 rfl ?_
            refine r_get (pc := 43) C K_X7 0 2 (by decide) rfl (by decide) lk_f_X7_26 rfl dX7_instruction_43 ?_
            refine r_iload_n (pc := 46) C dX7_instruction_46 rfl ?_
            refine r_iload_n (pc := 47) C dX7_instruction_47 rfl ?_
            refine r_iload_n (pc := 48) C dX7_instruction_48 rfl ?_
            refine r_iload (pc := 49) C dX7_instruction_49 rfl ?_
            refine r_iload (pc := 51) C dX7_instruction_51 rfl ?_
            refine r_callV (pc := 53) C 5 (c_X5_append (zO.ap C) _ _ _ _ _ _) lk_c_X5_append lk_i_X5 lk_m_X7_108 lk_n_X5_append lk_v_X5_append (n := 5) (by decide +kernel) rfl ⟨rfl, rfl⟩ (by decide) (by decide) rfl rfl rfl (Nat.le_of_ble_eq_true rfl) ⟨Nat.zero_le _, Nat.zero_le _⟩ dX7_instruction_53 (fun v4 s4 _ => ?_)
            exact r_iret (pc := 56) C dX7_instruction_56
          · refine r_bipush (pc := 39) (v := -2) C dX7_instruction_39 (by decide) ?_
            exact r_iret (pc := 41) C dX7_instruction_41
theorem c_X7_instruction {E : zG} (hAp : zAp E) (p0 : Int32) (p1 : Int32) (p2 : Int32) (p3 : Int32) (p4 : Int32) (σ : zS) : zM E yX7_instruction cX7_instruction 6 (some .int) rm_X7_instruction (fun r : Int32 => some (.int r)) [.ref (zad E 0), .int p0, .int p1, .int p2, .int p3, .int p4] (f_X7_instruction p0 p1 p2 p3 p4 σ) σ :=
  zM_of (nn := 0) hAp (by decide) (Nat.le_of_ble_eq_true rfl) rfl rfl (fun Γ C => g_X7_instruction C p0 p1 p2 p3 p4 σ)
set_option maxHeartbeats 4000000 in
set_option maxRecDepth 100000 in
theorem g_X7_routine {E : zG} {Γ : zX} (C : zO E Γ RX7 cX7_routine 5 (some .int)) (p0 : Int32) (p1 : Int32) (p2 : Int32) (p3 : Int32) (σ : zS) : zJ E Γ rm_X7_routine 5 (fun r : Int32 => some (.int r)) (f_X7_routine p0 p1 p2 p3 σ) σ 0 [some (.ref (zad E 0)), some (.int p0), some (.int p1), some (.int p2), some (.int p3)] [] := by
  unfold f_X7_routine
  refine r_iload_n (pc := 0) C dX7_routine_0 rfl ?_
  refine r_bipush (pc := 1) (v := 7) C dX7_routine_1 (by decide) ?_
  refine r_callS (pc := 3) C (c_X7_isWithin (zO.ap C) _ _ _) lk_c_X7_isWithin lk_i_X7 lk_m_X7_82 lk_s_X7_isWithin (n := 2) (by decide +kernel) rfl ⟨rfl, rfl⟩ (by decide) (Nat.le_of_ble_eq_true rfl) ⟨Nat.zero_le _, Nat.zero_le _⟩ dX7_routine_3 (fun v1 s1 _ => ?_)
  refine r_if_ne (pc := 6) (tgt := 11) C dX7_routine_6 (by decide) (fun _ => ?_) (fun _ => ?_)
  · refine r_iconst (pc := 9) (v := -1) C dX7_routine_9 (by decide) ?_
    exact r_iret (pc := 10) C dX7_routine_10
  · refine r_iload_n (pc := 11) C dX7_routine_11 rfl ?_
    refine r_bipush (pc := 12) (v := 99) C dX7_routine_12 (by decide) ?_
    refine r_callS (pc := 14) C (c_X7_isWithin (zO.ap C) _ _ _) lk_c_X7_isWithin lk_i_X7 lk_m_X7_82 lk_s_X7_isWithin (n := 2) (by decide +kernel) rfl ⟨rfl, rfl⟩ (by decide) (Nat.le_of_ble_eq_true rfl) ⟨Nat.zero_le _, Nat.zero_le _⟩ dX7_routine_14 (fun v2 s2 _ => ?_)
    refine r_if_eq (pc := 17) (tgt := 29) C dX7_routine_17 (by decide) (fun _ => ?_) (fun _ => ?_)
    · refine r_bipush (pc := 29) (v := -2) C dX7_routine_29 (by decide) ?_
      exact r_iret (pc := 31) C dX7_routine_31
    · refine r_iload_n (pc := 20) C dX7_routine_20 rfl ?_
      refine r_bipush (pc := 21) (v := 15) C dX7_routine_21 (by decide) ?_
      refine r_callS (pc := 23) C (c_X7_isWithin (zO.ap C) _ _ _) lk_c_X7_isWithin lk_i_X7 lk_m_X7_82 lk_s_X7_isWithin (n := 2) (by decide +kernel) rfl ⟨rfl, rfl⟩ (by decide) (Nat.le_of_ble_eq_true rfl) ⟨Nat.zero_le _, Nat.zero_le _⟩ dX7_routine_23 (fun v3 s3 _ => ?_)
      refine r_if_ne (pc := 26) (tgt := 32) C dX7_routine_26 (by decide) (fun _ => ?_) (fun _ => ?_)
      · refine r_bipush (pc := 29) (v := -2) C dX7_routine_29 (by decide) ?_
        exact r_iret (pc := 31) C dX7_routine_31
      · refine r_aload_n (pc := 32) C dX7_routine_32 rfl ?_
        refine r_get (pc := 33) C K_X7 0 2 (by decide) rfl (by decide) lk_f_X7_26 rfl dX7_routine_33 ?_
        refine r_iload_n (pc := 36) C dX7_routine_36 rfl ?_
        refine r_iload_n (pc := 37) C dX7_routine_37 rfl ?_
        refine r_iload_n (pc := 38) C dX7_routine_38 rfl ?_
        refine r_iload (pc := 39) C dX7_routine_39 rfl ?_
        refine r_callV (pc := 41) C 5 (c_X5_define (zO.ap C) _ _ _ _ _) lk_c_X5_define lk_i_X5 lk_m_X7_112 lk_n_X5_define lk_v_X5_define (n := 4) (by decide +kernel) rfl ⟨rfl, rfl⟩ (by decide) (by decide) rfl rfl rfl (Nat.le_of_ble_eq_true rfl) ⟨Nat.zero_le _, Nat.zero_le _⟩ dX7_routine_41 (fun _ s4 _ => ?_)
        refine r_iconst (pc := 44) (v := 1) C dX7_routine_44 (by decide) ?_
        exact r_iret (pc := 45) C dX7_routine_45
theorem c_X7_routine {E : zG} (hAp : zAp E) (p0 : Int32) (p1 : Int32) (p2 : Int32) (p3 : Int32) (σ : zS) : zM E yX7_routine cX7_routine 5 (some .int) rm_X7_routine (fun r : Int32 => some (.int r)) [.ref (zad E 0), .int p0, .int p1, .int p2, .int p3] (f_X7_routine p0 p1 p2 p3 σ) σ :=
  zM_of (nn := 0) hAp (by decide) (Nat.le_of_ble_eq_true rfl) rfl rfl (fun Γ C => g_X7_routine C p0 p1 p2 p3 σ)
set_option maxHeartbeats 4000000 in
set_option maxRecDepth 100000 in
theorem g_X7_clear {E : zG} {Γ : zX} (C : zO E Γ RX7 cX7_clear 1 (some .int)) (σ : zS) : zJ E Γ rm_X7_clear 1 (fun r : Int32 => some (.int r)) (f_X7_clear σ) σ 0 [some (.ref (zad E 0))] [] := by
  unfold f_X7_clear
  refine r_aload_n (pc := 0) C dX7_clear_0 rfl ?_
  refine r_get (pc := 1) C K_X7 0 2 (by decide) rfl (by decide) lk_f_X7_26 rfl dX7_clear_1 ?_
  refine r_callV (pc := 4) C 5 (c_X5_forget (zO.ap C)  _) lk_c_X5_forget lk_i_X5 lk_m_X7_116 lk_n_X5_forget lk_v_X5_forget (n := 0) (by decide +kernel) rfl ⟨rfl, rfl⟩ (by decide) (by decide) rfl rfl rfl (Nat.le_of_ble_eq_true rfl) ⟨Nat.zero_le _, Nat.zero_le _⟩ dX7_clear_4 (fun v1 s1 _ => ?_)
  exact r_iret (pc := 7) C dX7_clear_7
theorem c_X7_clear {E : zG} (hAp : zAp E) (σ : zS) : zM E yX7_clear cX7_clear 1 (some .int) rm_X7_clear (fun r : Int32 => some (.int r)) [.ref (zad E 0)] (f_X7_clear σ) σ :=
  zM_of (nn := 0) hAp (by decide) (Nat.le_of_ble_eq_true rfl) rfl rfl (fun Γ C => g_X7_clear C σ)
set_option maxHeartbeats 4000000 in
set_option maxRecDepth 100000 in
theorem g_X7_run_L32 {E : zG} {Γ : zX} (C : zO E Γ RX7 cX7_run 5 (some .int)) : ∀ (n : Nat) (x1 : Int32) (x2 : Int32) (x3 : Int32) (x4 : Int32) (σ : zS), zJ E Γ rm_X7_run 5 (fun r : Int32 => some (.int r)) (f_X7_run_L32 n x1 x2 x3 x4 σ) σ 32 [some (.ref (zad E 0)), some (.int x1), some (.int x2), some (.int x3), some (.int x4)] [] := by
  intro n
  induction n with
  | zero => intro x1 x2 x3 x4 σ; rw [f_X7_run_L32]; exact r_none
  | succ n ih =>
    intro x1 x2 x3 x4 σ
    rw [f_X7_run_L32]
    refine r_iload (pc := 32) C dX7_run_32 rfl ?_
    refine r_sipush (pc := 34) (v := 300) C dX7_run_34 (by decide) ?_
    refine r_icmp_ge (pc := 37) (tgt := 70) C dX7_run_37 (by decide) (fun _ => ?_) (fun _ => ?_)
    · refine r_aload_n (pc := 70) C dX7_run_70 rfl ?_
      refine r_get (pc := 71) C K_X7 0 3 (by decide) rfl (by decide) lk_f_X7_35 rfl dX7_run_71 ?_
      refine r_callV (pc := 74) C 13 (c_X6_finish (zO.ap C)  _) lk_c_X6_finish lk_i_X6 lk_m_X7_137 lk_n_X6_finish lk_v_X6_finish (n := 0) (by decide +kernel) rfl ⟨rfl, rfl⟩ (by decide) (by decide) rfl rfl rfl (Nat.le_of_ble_eq_true rfl) ⟨Nat.zero_le _, Nat.zero_le _⟩ dX7_run_74 (fun v4 s5 _ => ?_)
      exact r_iret (pc := 77) C dX7_run_77
    · refine r_aload_n (pc := 40) C dX7_run_40 rfl ?_
      refine r_get (pc := 41) C K_X7 0 3 (by decide) rfl (by decide) lk_f_X7_35 rfl dX7_run_41 ?_
      refine r_callV (pc := 44) C 13 (c_X6_isGoing (zO.ap C)  _) lk_c_X6_isGoing lk_i_X6 lk_m_X7_126 lk_n_X6_isGoing lk_v_X6_isGoing (n := 0) (by decide +kernel) rfl ⟨rfl, rfl⟩ (by decide) (by decide) rfl rfl rfl (Nat.le_of_ble_eq_true rfl) ⟨Nat.zero_le _, Nat.zero_le _⟩ dX7_run_44 (fun v5 s6 _ => ?_)
      refine r_if_eq (pc := 47) (tgt := 70) C dX7_run_47 (by decide) (fun _ => ?_) (fun _ => ?_)
      · refine r_aload_n (pc := 70) C dX7_run_70 rfl ?_
        refine r_get (pc := 71) C K_X7 0 3 (by decide) rfl (by decide) lk_f_X7_35 rfl dX7_run_71 ?_
        refine r_callV (pc := 74) C 13 (c_X6_finish (zO.ap C)  _) lk_c_X6_finish lk_i_X6 lk_m_X7_137 lk_n_X6_finish lk_v_X6_finish (n := 0) (by decide +kernel) rfl ⟨rfl, rfl⟩ (by decide) (by decide) rfl rfl rfl (Nat.le_of_ble_eq_true rfl) ⟨Nat.zero_le _, Nat.zero_le _⟩ dX7_run_74 (fun v6 s7 _ => ?_)
        exact r_iret (pc := 77) C dX7_run_77
      · refine r_aload_n (pc := 50) C dX7_run_50 rfl ?_
        refine r_get (pc := 51) C K_X7 0 3 (by decide) rfl (by decide) lk_f_X7_35 rfl dX7_run_51 ?_
        refine r_aload_n (pc := 54) C dX7_run_54 rfl ?_
        refine r_get (pc := 55) C K_X7 0 3 (by decide) rfl (by decide) lk_f_X7_35 rfl dX7_run_55 ?_
        refine r_callV (pc := 58) C 13 (c_X6_step (zO.ap C)  _) lk_c_X6_step lk_i_X6 lk_m_X7_130 lk_n_X6_step lk_v_X6_step (n := 0) (by decide +kernel) rfl ⟨rfl, rfl⟩ (by decide) (by decide) rfl rfl rfl (Nat.le_of_ble_eq_true rfl) ⟨Nat.zero_le _, Nat.zero_le _⟩ dX7_run_58 (fun v7 s8 _ => ?_)
        refine r_callV (pc := 61) C 13 (c_X6_settle (zO.ap C) _ _) lk_c_X6_settle lk_i_X6 lk_m_X7_133 lk_n_X6_settle lk_v_X6_settle (n := 1) (by decide +kernel) rfl ⟨rfl, rfl⟩ (by decide) (by decide) rfl rfl rfl (Nat.le_of_ble_eq_true rfl) ⟨Nat.zero_le _, Nat.zero_le _⟩ dX7_run_61 (fun _ s9 _ => ?_)
        refine r_iinc (pc := 64) (lv' := [some (.ref (zad E 0)), some (.int x1), some (.int x2), some (.int x3), some (.int (x4 + (1 : Int32)))]) C dX7_run_64 (by decide) rfl rfl rfl ?_
        refine r_goto (pc := 67) (tgt := 32) C dX7_run_67 (by decide) ?_
        exact ih _ _ _ _ _
set_option maxHeartbeats 4000000 in
set_option maxRecDepth 100000 in
theorem g_X7_run {E : zG} {Γ : zX} (C : zO E Γ RX7 cX7_run 5 (some .int)) (p0 : Int32) (p1 : Int32) (p2 : Int32) (σ : zS) : zJ E Γ rm_X7_run 5 (fun r : Int32 => some (.int r)) (f_X7_run p0 p1 p2 σ) σ 0 [some (.ref (zad E 0)), some (.int p0), some (.int p1), some (.int p2), none] [] := by
  unfold f_X7_run
  refine r_aload_n (pc := 0) C dX7_run_0 rfl ?_
  refine r_get (pc := 1) C K_X7 0 2 (by decide) rfl (by decide) lk_f_X7_26 rfl dX7_run_1 ?_
  refine r_iload_n (pc := 4) C dX7_run_4 rfl ?_
  refine r_callV (pc := 5) C 5 (c_X5_hasRoutine (zO.ap C) _ _) lk_c_X5_hasRoutine lk_i_X5 lk_m_X7_120 lk_n_X5_hasRoutine lk_v_X5_hasRoutine (n := 1) (by decide +kernel) rfl ⟨rfl, rfl⟩ (by decide) (by decide) rfl rfl rfl (Nat.le_of_ble_eq_true rfl) ⟨Nat.zero_le _, Nat.zero_le _⟩ dX7_run_5 (fun v1 s1 _ => ?_)
  refine r_if_ne (pc := 8) (tgt := 13) C dX7_run_8 (by decide) (fun _ => ?_) (fun _ => ?_)
  · refine r_iconst (pc := 11) (v := -1) C dX7_run_11 (by decide) ?_
    exact r_iret (pc := 12) C dX7_run_12
  · refine r_aload_n (pc := 13) C dX7_run_13 rfl ?_
    refine r_get (pc := 14) C K_X7 0 3 (by decide) rfl (by decide) lk_f_X7_35 rfl dX7_run_14 ?_
    refine r_iload_n (pc := 17) C dX7_run_17 rfl ?_
    refine r_iload_n (pc := 18) C dX7_run_18 rfl ?_
    refine r_callS (pc := 19) C (c_X7_word (zO.ap C) _ _) lk_c_X7_word lk_i_X7 lk_m_X7_76 lk_s_X7_word (n := 1) (by decide +kernel) rfl ⟨rfl, rfl⟩ (by decide) (Nat.le_of_ble_eq_true rfl) ⟨Nat.zero_le _, Nat.zero_le _⟩ dX7_run_19 (fun v2 s2 _ => ?_)
    refine r_iload_n (pc := 22) C dX7_run_22 rfl ?_
    refine r_callS (pc := 23) C (c_X7_word (zO.ap C) _ _) lk_c_X7_word lk_i_X7 lk_m_X7_76 lk_s_X7_word (n := 1) (by decide +kernel) rfl ⟨rfl, rfl⟩ (by decide) (Nat.le_of_ble_eq_true rfl) ⟨Nat.zero_le _, Nat.zero_le _⟩ dX7_run_23 (fun v3 s3 _ => ?_)
    refine r_callV (pc := 26) C 13 (c_X6_begin (zO.ap C) _ _ _ _) lk_c_X6_begin lk_i_X6 lk_m_X7_123 lk_n_X6_begin lk_v_X6_begin (n := 3) (by decide +kernel) rfl ⟨rfl, rfl⟩ (by decide) (by decide) rfl rfl rfl (Nat.le_of_ble_eq_true rfl) ⟨Nat.zero_le _, Nat.zero_le _⟩ dX7_run_26 (fun _ s4 _ => ?_)
    refine r_iconst (pc := 29) (v := 0) C dX7_run_29 (by decide) ?_
    refine r_istore (pc := 30) (lv' := [some (.ref (zad E 0)), some (.int p0), some (.int p1), some (.int p2), some (.int (0 : Int32))]) C dX7_run_30 (by decide) rfl ?_
    exact g_X7_run_L32 C zF _ _ _ _ _
theorem c_X7_run {E : zG} (hAp : zAp E) (p0 : Int32) (p1 : Int32) (p2 : Int32) (σ : zS) : zM E yX7_run cX7_run 5 (some .int) rm_X7_run (fun r : Int32 => some (.int r)) [.ref (zad E 0), .int p0, .int p1, .int p2] (f_X7_run p0 p1 p2 σ) σ :=
  zM_of (nn := 1) hAp (by decide) (Nat.le_of_ble_eq_true rfl) rfl rfl (fun Γ C => g_X7_run C p0 p1 p2 σ)
