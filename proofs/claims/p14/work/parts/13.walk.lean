set_option maxHeartbeats 4000000 in
set_option maxRecDepth 100000 in
theorem g_X7_told {E : zG} {Γ : zX} (C : zO E Γ RX7 cX7_told 2 (some .int)) (p0 : Int32) (σ : zS) : zJ E Γ rm_X7_told 2 (fun r : Int32 => some (.int r)) (f_X7_told p0 σ) σ 0 [some (.ref (zad E 0)), some (.int p0)] [] := by
  unfold f_X7_told
  refine r_iload_n (pc := 0) C dX7_told_0 rfl ?_
  refine r_split (fun h1 => ?_) (fun h1 => ?_)
  · refine r_tabIn (pc := 1) (v := 0) (tgt := 52) C dX7_told_1 h1 (by decide) (by decide) rfl (by decide) ?_
    refine r_aload_n (pc := 52) C dX7_told_52 rfl ?_
    refine r_get (pc := 53) C K_X7 0 3 (by decide) rfl (by decide) lk_f_X7_35 rfl dX7_told_53 ?_
    refine r_getN (pc := 56) C K_X6 13 10 (by decide) rfl (by decide) lk_fn_X7_140 rfl dX7_told_56 ?_
    exact r_iret (pc := 59) C dX7_told_59
  · refine r_split (fun h2 => ?_) (fun h2 => ?_)
    · refine r_tabIn (pc := 1) (v := 1) (tgt := 60) C dX7_told_1 h2 (by decide) (by decide) rfl (by decide) ?_
      refine r_aload_n (pc := 60) C dX7_told_60 rfl ?_
      refine r_get (pc := 61) C K_X7 0 3 (by decide) rfl (by decide) lk_f_X7_35 rfl dX7_told_61 ?_
      refine r_getN (pc := 64) C K_X6 13 12 (by decide) rfl (by decide) lk_fn_X7_143 rfl dX7_told_64 ?_
      refine r_callS (pc := 67) C (c_X7_number (zO.ap C) _ _) lk_c_X7_number lk_i_X7 lk_m_X7_64 lk_s_X7_number (n := 1) (by decide +kernel) rfl ⟨rfl, rfl⟩ (by decide) (Nat.le_of_ble_eq_true rfl) ⟨Nat.zero_le _, Nat.zero_le _⟩ dX7_told_67 (fun v1 s1 _ => ?_)
      exact r_iret (pc := 70) C dX7_told_70
    · refine r_split (fun h3 => ?_) (fun h3 => ?_)
      · refine r_tabIn (pc := 1) (v := 2) (tgt := 71) C dX7_told_1 h3 (by decide) (by decide) rfl (by decide) ?_
        refine r_aload_n (pc := 71) C dX7_told_71 rfl ?_
        refine r_get (pc := 72) C K_X7 0 3 (by decide) rfl (by decide) lk_f_X7_35 rfl dX7_told_72 ?_
        refine r_getN (pc := 75) C K_X6 13 13 (by decide) rfl (by decide) lk_fn_X7_146 rfl dX7_told_75 ?_
        exact r_iret (pc := 78) C dX7_told_78
      · refine r_split (fun h4 => ?_) (fun h4 => ?_)
        · refine r_tabIn (pc := 1) (v := 3) (tgt := 79) C dX7_told_1 h4 (by decide) (by decide) rfl (by decide) ?_
          refine r_aload_n (pc := 79) C dX7_told_79 rfl ?_
          refine r_get (pc := 80) C K_X7 0 3 (by decide) rfl (by decide) lk_f_X7_35 rfl dX7_told_80 ?_
          refine r_getN (pc := 83) C K_X6 13 14 (by decide) rfl (by decide) lk_fn_X7_149 rfl dX7_told_83 ?_
          exact r_iret (pc := 86) C dX7_told_86
        · refine r_split (fun h5 => ?_) (fun h5 => ?_)
          · refine r_tabIn (pc := 1) (v := 4) (tgt := 87) C dX7_told_1 h5 (by decide) (by decide) rfl (by decide) ?_
            refine r_aload_n (pc := 87) C dX7_told_87 rfl ?_
            refine r_get (pc := 88) C K_X7 0 3 (by decide) rfl (by decide) lk_f_X7_35 rfl dX7_told_88 ?_
            refine r_getN (pc := 91) C K_X6 13 15 (by decide) rfl (by decide) lk_fn_X7_152 rfl dX7_told_91 ?_
            exact r_iret (pc := 94) C dX7_told_94
          · refine r_split (fun h6 => ?_) (fun h6 => ?_)
            · refine r_tabIn (pc := 1) (v := 5) (tgt := 95) C dX7_told_1 h6 (by decide) (by decide) rfl (by decide) ?_
              refine r_aload_n (pc := 95) C dX7_told_95 rfl ?_
              refine r_get (pc := 96) C K_X7 0 3 (by decide) rfl (by decide) lk_f_X7_35 rfl dX7_told_96 ?_
              refine r_getN (pc := 99) C K_X6 13 4 (by decide) rfl (by decide) lk_fn_X7_155 rfl dX7_told_99 ?_
              refine r_getN (pc := 102) C K_X4 41 1 (by decide) rfl (by decide) lk_fn_X7_159 rfl dX7_told_102 ?_
              exact r_iret (pc := 105) C dX7_told_105
            · refine r_split (fun h7 => ?_) (fun h7 => ?_)
              · refine r_tabIn (pc := 1) (v := 6) (tgt := 106) C dX7_told_1 h7 (by decide) (by decide) rfl (by decide) ?_
                refine r_aload_n (pc := 106) C dX7_told_106 rfl ?_
                refine r_get (pc := 107) C K_X7 0 3 (by decide) rfl (by decide) lk_f_X7_35 rfl dX7_told_107 ?_
                refine r_getN (pc := 110) C K_X6 13 3 (by decide) rfl (by decide) lk_fn_X7_164 rfl dX7_told_110 ?_
                refine r_getN (pc := 113) C K_X2 14 4 (by decide) rfl (by decide) lk_fn_X7_168 rfl dX7_told_113 ?_
                exact r_iret (pc := 116) C dX7_told_116
              · refine r_split (fun h8 => ?_) (fun h8 => ?_)
                · refine r_tabIn (pc := 1) (v := 7) (tgt := 117) C dX7_told_1 h8 (by decide) (by decide) rfl (by decide) ?_
                  refine r_aload_n (pc := 117) C dX7_told_117 rfl ?_
                  refine r_get (pc := 118) C K_X7 0 2 (by decide) rfl (by decide) lk_f_X7_26 rfl dX7_told_118 ?_
                  refine r_getN (pc := 121) C K_X5 5 3 (by decide) rfl (by decide) lk_fn_X7_173 rfl dX7_told_121 ?_
                  exact r_iret (pc := 124) C dX7_told_124
                · refine r_split (fun h9 => ?_) (fun h9 => ?_)
                  · refine r_tabIn (pc := 1) (v := 8) (tgt := 125) C dX7_told_1 h9 (by decide) (by decide) rfl (by decide) ?_
                    refine r_aload_n (pc := 125) C dX7_told_125 rfl ?_
                    refine r_get (pc := 126) C K_X7 0 1 (by decide) rfl (by decide) lk_f_X7_19 rfl dX7_told_126 ?_
                    refine r_getN (pc := 129) C K_X0 3 2 (by decide) rfl (by decide) lk_fn_X7_174 rfl dX7_told_129 ?_
                    exact r_iret (pc := 132) C dX7_told_132
                  · refine r_tabOut (pc := 1) (tgt := 133) C dX7_told_1 (by have a0 := lv_neT (a := 0) h1 rfl; have a1 := lv_neT (a := 1) h2 rfl; have a2 := lv_neT (a := 2) h3 rfl; have a3 := lv_neT (a := 3) h4 rfl; have a4 := lv_neT (a := 4) h5 rfl; have a5 := lv_neT (a := 5) h6 rfl; have a6 := lv_neT (a := 6) h7 rfl; have a7 := lv_neT (a := 7) h8 rfl; have a8 := lv_neT (a := 8) h9 rfl; omega) (by decide) ?_
                    refine r_bipush (pc := 133) (v := -2) C dX7_told_133 (by decide) ?_
                    exact r_iret (pc := 135) C dX7_told_135
theorem c_X7_told {E : zG} (hAp : zAp E) (p0 : Int32) (σ : zS) : zM E yX7_told cX7_told 2 (some .int) rm_X7_told (fun r : Int32 => some (.int r)) [.ref (zad E 0), .int p0] (f_X7_told p0 σ) σ :=
  zM_of (nn := 0) hAp (by decide) (Nat.le_of_ble_eq_true rfl) rfl rfl (fun Γ C => g_X7_told C p0 σ)
set_option maxHeartbeats 4000000 in
set_option maxRecDepth 100000 in
theorem g_X7_left {E : zG} {Γ : zX} (C : zO E Γ RX7 cX7_left 2 (some .int)) (p0 : Int32) (σ : zS) : zJ E Γ rm_X7_left 2 (fun r : Int32 => some (.int r)) (f_X7_left p0 σ) σ 0 [some (.ref (zad E 0)), some (.int p0)] [] := by
  unfold f_X7_left
  refine r_iload_n (pc := 0) C dX7_left_0 rfl ?_
  refine r_bipush (pc := 1) (v := 7) C dX7_left_1 (by decide) ?_
  refine r_callS (pc := 3) C (c_X7_isWithin (zO.ap C) _ _ _) lk_c_X7_isWithin lk_i_X7 lk_m_X7_82 lk_s_X7_isWithin (n := 2) (by decide +kernel) rfl ⟨rfl, rfl⟩ (by decide) (Nat.le_of_ble_eq_true rfl) ⟨Nat.zero_le _, Nat.zero_le _⟩ dX7_left_3 (fun v1 s1 _ => ?_)
  refine r_if_eq (pc := 6) (tgt := 21) C dX7_left_6 (by decide) (fun _ => ?_) (fun _ => ?_)
  · refine r_iconst (pc := 21) (v := -1) C dX7_left_21 (by decide) ?_
    exact r_iret (pc := 22) C dX7_left_22
  · refine r_aload_n (pc := 9) C dX7_left_9 rfl ?_
    refine r_get (pc := 10) C K_X7 0 3 (by decide) rfl (by decide) lk_f_X7_35 rfl dX7_left_10 ?_
    refine r_getN (pc := 13) C K_X6 13 5 (by decide) rfl (by decide) lk_fn_X7_185 rfl dX7_left_13 ?_
    refine r_iload_n (pc := 16) C dX7_left_16 rfl ?_
    refine r_iald (pc := 17) (t0 := 0) C 43 (by decide) rfl rfl dX7_left_17 ?_
    refine r_goto (pc := 18) (tgt := 22) C dX7_left_18 (by decide) ?_
    exact r_iret (pc := 22) C dX7_left_22
theorem c_X7_left {E : zG} (hAp : zAp E) (p0 : Int32) (σ : zS) : zM E yX7_left cX7_left 2 (some .int) rm_X7_left (fun r : Int32 => some (.int r)) [.ref (zad E 0), .int p0] (f_X7_left p0 σ) σ :=
  zM_of (nn := 0) hAp (by decide) (Nat.le_of_ble_eq_true rfl) rfl rfl (fun Γ C => g_X7_left C p0 σ)
set_option maxHeartbeats 4000000 in
set_option maxRecDepth 100000 in
theorem g_X8_signed {E : zG} {Γ : zX} (C : zO E Γ RX8 cX8_signed 2 (some .int)) (p0 : Int32) (σ : zS) : zJ E Γ rm_X8_signed 2 (fun r : Int32 => some (.int r)) (f_X8_signed p0 σ) σ 0 [some (.int p0), none] [] := by
  unfold f_X8_signed
  refine r_iload_n (pc := 0) C dX8_signed_0 rfl ?_
  refine r_ldc (pc := 1) (v := 65535) C dX8_signed_1 lk_k_X8_75 ?_
  refine r_iand (pc := 3) C dX8_signed_3 ?_
  refine r_leti (fun v1 => ?_)
  refine r_istore_n (pc := 4) (lv' := [some (.int p0), some (.int v1)]) C dX8_signed_4 (by decide) rfl ?_
  refine r_iload_n (pc := 5) C dX8_signed_5 rfl ?_
  refine r_ldc (pc := 6) (v := 32768) C dX8_signed_6 lk_k_X8_76 ?_
  refine r_icmp_lt (pc := 8) (tgt := 18) C dX8_signed_8 (by decide) (fun _ => ?_) (fun _ => ?_)
  · refine r_iload_n (pc := 18) C dX8_signed_18 rfl ?_
    exact r_iret (pc := 19) C dX8_signed_19
  · refine r_iload_n (pc := 11) C dX8_signed_11 rfl ?_
    refine r_ldc (pc := 12) (v := 65536) C dX8_signed_12 lk_k_X8_77 ?_
    refine r_isub (pc := 14) C dX8_signed_14 ?_
    refine r_goto (pc := 15) (tgt := 19) C dX8_signed_15 (by decide) ?_
    exact r_iret (pc := 19) C dX8_signed_19
theorem c_X8_signed {E : zG} (hAp : zAp E) (p0 : Int32) (σ : zS) : zM E yX8_signed cX8_signed 2 (some .int) rm_X8_signed (fun r : Int32 => some (.int r)) [.int p0] (f_X8_signed p0 σ) σ :=
  zM_of (nn := 1) hAp (by decide) (Nat.le_of_ble_eq_true rfl) rfl rfl (fun Γ C => g_X8_signed C p0 σ)
set_option maxHeartbeats 4000000 in
set_option maxRecDepth 100000 in
theorem g_X8_isThere {E : zG} {Γ : zX} (C : zO E Γ RX8 cX8_isThere 3 (some .boolean)) (p0 : Int32) (p1 : Int32) (σ : zS) : zJ E Γ rm_X8_isThere 3 (fun r : Int32 => some (.int r)) (f_X8_isThere p0 p1 σ) σ 0 [some (.ref (zad E 45)), some (.int p0), some (.int p1)] [] := by
  unfold f_X8_isThere
  refine r_iload_n (pc := 0) C dX8_isThere_0 rfl ?_
  refine r_if_lt (pc := 1) (tgt := 18) C dX8_isThere_1 (by decide) (fun _ => ?_) (fun _ => ?_)
  · refine r_aload_n (pc := 18) C dX8_isThere_18 rfl ?_
    refine r_iconst (pc := 19) (v := 2) C dX8_isThere_19 (by decide) ?_
    refine r_put (pc := 20) C K_X8 45 12 (by decide) rfl (by decide) lk_f_X8_81 rfl rfl (Nat.le_of_ble_eq_true rfl) rfl dX8_isThere_20 (fun s1 _ => ?_)
    refine r_iconst (pc := 23) (v := 0) C dX8_isThere_23 (by decide) ?_
    exact r_zret (pc := 24) C (by first | rfl | decide) dX8_isThere_24
  · refine r_iload_n (pc := 4) C dX8_isThere_4 rfl ?_
    refine r_i2l (pc := 5) C dX8_isThere_5 ?_
    refine r_iload_n (pc := 6) C dX8_isThere_6 rfl ?_
    refine r_i2l (pc := 7) C dX8_isThere_7 ?_
    refine r_ladd (pc := 8) C dX8_isThere_8 ?_
    refine r_aload_n (pc := 9) C dX8_isThere_9 rfl ?_
    refine r_get (pc := 10) C K_X8 45 2 (by decide) rfl (by decide) lk_f_X8_78 rfl dX8_isThere_10 ?_
    refine r_i2l (pc := 13) C dX8_isThere_13 ?_
    refine r_lcmp (pc := 14) C dX8_isThere_14 ?_
    refine r_if_le (pc := 15) (tgt := 25) C dX8_isThere_15 (by decide) (fun _ => ?_) (fun _ => ?_)
    · refine r_iconst (pc := 25) (v := 1) C dX8_isThere_25 (by decide) ?_
      exact r_zret (pc := 26) C (by first | rfl | decide) dX8_isThere_26
    · refine r_aload_n (pc := 18) C dX8_isThere_18 rfl ?_
      refine r_iconst (pc := 19) (v := 2) C dX8_isThere_19 (by decide) ?_
      refine r_put (pc := 20) C K_X8 45 12 (by decide) rfl (by decide) lk_f_X8_81 rfl rfl (Nat.le_of_ble_eq_true rfl) rfl dX8_isThere_20 (fun s2 _ => ?_)
      refine r_iconst (pc := 23) (v := 0) C dX8_isThere_23 (by decide) ?_
      exact r_zret (pc := 24) C (by first | rfl | decide) dX8_isThere_24
theorem c_X8_isThere {E : zG} (hAp : zAp E) (p0 : Int32) (p1 : Int32) (σ : zS) : zM E yX8_isThere cX8_isThere 3 (some .boolean) rm_X8_isThere (fun r : Int32 => some (.int r)) [.ref (zad E 45), .int p0, .int p1] (f_X8_isThere p0 p1 σ) σ :=
  zM_of (nn := 0) hAp (by decide) (Nat.le_of_ble_eq_true rfl) rfl rfl (fun Γ C => g_X8_isThere C p0 p1 σ)
set_option maxHeartbeats 4000000 in
set_option maxRecDepth 100000 in
theorem g_X8_read {E : zG} {Γ : zX} (C : zO E Γ RX8 cX8_read 3 (some .int)) (p0 : Int32) (p1 : Int32) (σ : zS) : zJ E Γ rm_X8_read 3 (fun r : Int32 => some (.int r)) (f_X8_read p0 p1 σ) σ 0 [some (.ref (zad E 45)), some (.int p0), some (.int p1)] [] := by
  unfold f_X8_read
  refine r_aload_n (pc := 0) C dX8_read_0 rfl ?_
  refine r_iload_n (pc := 1) C dX8_read_1 rfl ?_
  refine r_iload_n (pc := 2) C dX8_read_2 rfl ?_
  refine r_if_eq (pc := 3) (tgt := 10) C dX8_read_3 (by decide) (fun _ => ?_) (fun _ => ?_)
  · refine r_iconst (pc := 10) (v := 1) C dX8_read_10 (by decide) ?_
    refine r_callV (pc := 11) C 45 (c_X8_isThere (zO.ap C) _ _ _) lk_c_X8_isThere lk_i_X8 lk_m_X8_84 lk_n_X8_isThere lk_v_X8_isThere (n := 2) (by decide +kernel) rfl ⟨rfl, rfl⟩ (by decide) (by decide) rfl rfl rfl (Nat.le_of_ble_eq_true rfl) ⟨Nat.zero_le _, Nat.zero_le _⟩ dX8_read_11 (fun v1 s1 _ => ?_)
    refine r_if_ne (pc := 14) (tgt := 19) C dX8_read_14 (by decide) (fun _ => ?_) (fun _ => ?_)
    · refine r_iconst (pc := 17) (v := 0) C dX8_read_17 (by decide) ?_
      exact r_iret (pc := 18) C dX8_read_18
    · refine r_iload_n (pc := 19) C dX8_read_19 rfl ?_
      refine r_if_eq (pc := 20) (tgt := 45) C dX8_read_20 (by decide) (fun _ => ?_) (fun _ => ?_)
      · refine r_aload_n (pc := 45) C dX8_read_45 rfl ?_
        refine r_get (pc := 46) C K_X8 45 1 (by decide) rfl (by decide) lk_f_X8_7 rfl dX8_read_46 ?_
        refine r_iload_n (pc := 49) C dX8_read_49 rfl ?_
        refine r_iald (pc := 50) (t0 := 0) C 46 (by decide) rfl rfl dX8_read_50 ?_
        exact r_iret (pc := 51) C dX8_read_51
      · refine r_aload_n (pc := 23) C dX8_read_23 rfl ?_
        refine r_get (pc := 24) C K_X8 45 1 (by decide) rfl (by decide) lk_f_X8_7 rfl dX8_read_24 ?_
        refine r_iload_n (pc := 27) C dX8_read_27 rfl ?_
        refine r_iald (pc := 28) (t0 := 0) C 46 (by decide) rfl rfl dX8_read_28 ?_
        refine r_sipush (pc := 29) (v := 256) C dX8_read_29 (by decide) ?_
        refine r_imul (pc := 32) C dX8_read_32 ?_
        refine r_aload_n (pc := 33) C dX8_read_33 rfl ?_
        refine r_get (pc := 34) C K_X8 45 1 (by decide) rfl (by decide) lk_f_X8_7 rfl dX8_read_34 ?_
        refine r_iload_n (pc := 37) C dX8_read_37 rfl ?_
        refine r_iconst (pc := 38) (v := 1) C dX8_read_38 (by decide) ?_
        refine r_iadd (pc := 39) C dX8_read_39 ?_
        refine r_iald (pc := 40) (t0 := 0) C 46 (by decide) rfl rfl dX8_read_40 ?_
        refine r_iadd (pc := 41) C dX8_read_41 ?_
        refine r_goto (pc := 42) (tgt := 51) C dX8_read_42 (by decide) ?_
        exact r_iret (pc := 51) C dX8_read_51
  · refine r_iconst (pc := 6) (v := 2) C dX8_read_6 (by decide) ?_
    refine r_goto (pc := 7) (tgt := 11) C dX8_read_7 (by decide) ?_
    refine r_callV (pc := 11) C 45 (c_X8_isThere (zO.ap C) _ _ _) lk_c_X8_isThere lk_i_X8 lk_m_X8_84 lk_n_X8_isThere lk_v_X8_isThere (n := 2) (by decide +kernel) rfl ⟨rfl, rfl⟩ (by decide) (by decide) rfl rfl rfl (Nat.le_of_ble_eq_true rfl) ⟨Nat.zero_le _, Nat.zero_le _⟩ dX8_read_11 (fun v2 s2 _ => ?_)
    refine r_if_ne (pc := 14) (tgt := 19) C dX8_read_14 (by decide) (fun _ => ?_) (fun _ => ?_)
    · refine r_iconst (pc := 17) (v := 0) C dX8_read_17 (by decide) ?_
      exact r_iret (pc := 18) C dX8_read_18
    · refine r_iload_n (pc := 19) C dX8_read_19 rfl ?_
      refine r_if_eq (pc := 20) (tgt := 45) C dX8_read_20 (by decide) (fun _ => ?_) (fun _ => ?_)
      · refine r_aload_n (pc := 45) C dX8_read_45 rfl ?_
        refine r_get (pc := 46) C K_X8 45 1 (by decide) rfl (by decide) lk_f_X8_7 rfl dX8_read_46 ?_
        refine r_iload_n (pc := 49) C dX8_read_49 rfl ?_
        refine r_iald (pc := 50) (t0 := 0) C 46 (by decide) rfl rfl dX8_read_50 ?_
        exact r_iret (pc := 51) C dX8_read_51
      · refine r_aload_n (pc := 23) C dX8_read_23 rfl ?_
        refine r_get (pc := 24) C K_X8 45 1 (by decide) rfl (by decide) lk_f_X8_7 rfl dX8_read_24 ?_
        refine r_iload_n (pc := 27) C dX8_read_27 rfl ?_
        refine r_iald (pc := 28) (t0 := 0) C 46 (by decide) rfl rfl dX8_read_28 ?_
        refine r_sipush (pc := 29) (v := 256) C dX8_read_29 (by decide) ?_
        refine r_imul (pc := 32) C dX8_read_32 ?_
        refine r_aload_n (pc := 33) C dX8_read_33 rfl ?_
        refine r_get (pc := 34) C K_X8 45 1 (by decide) rfl (by decide) lk_f_X8_7 rfl dX8_read_34 ?_
        refine r_iload_n (pc := 37) C dX8_read_37 rfl ?_
        refine r_iconst (pc := 38) (v := 1) C dX8_read_38 (by decide) ?_
        refine r_iadd (pc := 39) C dX8_read_39 ?_
        refine r_iald (pc := 40) (t0 := 0) C 46 (by decide) rfl rfl dX8_read_40 ?_
        refine r_iadd (pc := 41) C dX8_read_41 ?_
        refine r_goto (pc := 42) (tgt := 51) C dX8_read_42 (by decide) ?_
        exact r_iret (pc := 51) C dX8_read_51
theorem c_X8_read {E : zG} (hAp : zAp E) (p0 : Int32) (p1 : Int32) (σ : zS) : zM E yX8_read cX8_read 3 (some .int) rm_X8_read (fun r : Int32 => some (.int r)) [.ref (zad E 45), .int p0, .int p1] (f_X8_read p0 p1 σ) σ :=
  zM_of (nn := 0) hAp (by decide) (Nat.le_of_ble_eq_true rfl) rfl rfl (fun Γ C => g_X8_read C p0 p1 σ)
set_option maxHeartbeats 4000000 in
set_option maxRecDepth 100000 in
theorem g_X8_write {E : zG} {Γ : zX} (C : zO E Γ RX8 cX8_write 5 none) (p0 : Int32) (p1 : Int32) (p2 : Int32) (p3 : Int32) (σ : zS) : zJ E Γ rm_X8_write 5 (fun _ : Unit => none) (f_X8_write p0 p1 p2 p3 σ) σ 0 [some (.ref (zad E 45)), some (.int p0), some (.int p1), some (.int p2), some (.int p3)] [] := by
  unfold f_X8_write
  refine r_aload_n (pc := 0) C dX8_write_0 rfl ?_
  refine r_iload_n (pc := 1) C dX8_write_1 rfl ?_
  refine r_iload_n (pc := 2) C dX8_write_2 rfl ?_
  refine r_if_eq (pc := 3) (tgt := 10) C dX8_write_3 (by decide) (fun _ => ?_) (fun _ => ?_)
  · refine r_iconst (pc := 10) (v := 1) C dX8_write_10 (by decide) ?_
    refine r_callV (pc := 11) C 45 (c_X8_isThere (zO.ap C) _ _ _) lk_c_X8_isThere lk_i_X8 lk_m_X8_84 lk_n_X8_isThere lk_v_X8_isThere (n := 2) (by decide +kernel) rfl ⟨rfl, rfl⟩ (by decide) (by decide) rfl rfl rfl (Nat.le_of_ble_eq_true rfl) ⟨Nat.zero_le _, Nat.zero_le _⟩ dX8_write_11 (fun v1 s1 _ => ?_)
    refine r_if_ne (pc := 14) (tgt := 18) C dX8_write_14 (by decide) (fun _ => ?_) (fun _ => ?_)
    · exact r_vret (pc := 17) C dX8_write_17
    · refine r_iload (pc := 18) C dX8_write_18 rfl ?_
      refine r_if_ne (pc := 20) (tgt := 47) C dX8_write_20 (by decide) (fun _ => ?_) (fun _ => ?_)
      · refine r_iload_n (pc := 23) C dX8_write_23 rfl ?_
        refine r_iload_n (pc := 24) C dX8_write_24 rfl ?_
        refine r_if_eq (pc := 25) (tgt := 32) C dX8_write_25 (by decide) (fun _ => ?_) (fun _ => ?_)
        · refine r_iconst (pc := 32) (v := 0) C dX8_write_32 (by decide) ?_
          refine r_iadd (pc := 33) C dX8_write_33 ?_
          refine r_aload_n (pc := 34) C dX8_write_34 rfl ?_
          refine r_get (pc := 35) C K_X8 45 3 (by decide) rfl (by decide) lk_f_X8_88 rfl dX8_write_35 ?_
          refine r_icmp_lt (pc := 38) (tgt := 47) C dX8_write_38 (by decide) (fun _ => ?_) (fun _ => ?_)
          · refine r_iload_n (pc := 47) C dX8_write_47 rfl ?_
            refine r_if_eq (pc := 48) (tgt := 81) C dX8_write_48 (by decide) (fun _ => ?_) (fun _ => ?_)
            · refine r_aload_n (pc := 81) C dX8_write_81 rfl ?_
              refine r_get (pc := 82) C K_X8 45 1 (by decide) rfl (by decide) lk_f_X8_7 rfl dX8_write_82 ?_
              refine r_iload_n (pc := 85) C dX8_write_85 rfl ?_
              refine r_iload_n (pc := 86) C dX8_write_86 rfl ?_
              refine r_sipush (pc := 87) (v := 255) C dX8_write_87 (by decide) ?_
              refine r_iand (pc := 90) C dX8_write_90 ?_
              refine r_iast (pc := 91) (t0 := 0) C 46 (by decide) rfl (fun _ => rfl) rfl dX8_write_91 (fun s5 _ => ?_)
              exact r_vret (pc := 92) C dX8_write_92
            · refine r_aload_n (pc := 51) C dX8_write_51 rfl ?_
              refine r_get (pc := 52) C K_X8 45 1 (by decide) rfl (by decide) lk_f_X8_7 rfl dX8_write_52 ?_
              refine r_iload_n (pc := 55) C dX8_write_55 rfl ?_
              refine r_iload_n (pc := 56) C dX8_write_56 rfl ?_
              refine r_bipush (pc := 57) (v := 8) C dX8_write_57 (by decide) ?_
              refine r_ishr (pc := 59) C dX8_write_59 ?_
              refine r_sipush (pc := 60) (v := 255) C dX8_write_60 (by decide) ?_
              refine r_iand (pc := 63) C dX8_write_63 ?_
              refine r_iast (pc := 64) (t0 := 0) C 46 (by decide) rfl (fun _ => rfl) rfl dX8_write_64 (fun s6 _ => ?_)
              refine r_aload_n (pc := 65) C dX8_write_65 rfl ?_
              refine r_get (pc := 66) C K_X8 45 1 (by decide) rfl (by decide) lk_f_X8_7 rfl dX8_write_66 ?_
              refine r_iload_n (pc := 69) C dX8_write_69 rfl ?_
              refine r_iconst (pc := 70) (v := 1) C dX8_write_70 (by decide) ?_
              refine r_iadd (pc := 71) C dX8_write_71 ?_
              refine r_iload_n (pc := 72) C dX8_write_72 rfl ?_
              refine r_sipush (pc := 73) (v := 255) C dX8_write_73 (by decide) ?_
              refine r_iand (pc := 76) C dX8_write_76 ?_
              refine r_iast (pc := 77) (t0 := 0) C 46 (by decide) rfl (fun _ => rfl) rfl dX8_write_77 (fun s7 _ => ?_)
              refine r_goto (pc := 78) (tgt := 92) C dX8_write_78 (by decide) ?_
              exact r_vret (pc := 92) C dX8_write_92
          · refine r_aload_n (pc := 41) C dX8_write_41 rfl ?_
            refine r_iconst (pc := 42) (v := 3) C dX8_write_42 (by decide) ?_
            refine r_put (pc := 43) C K_X8 45 12 (by decide) rfl (by decide) lk_f_X8_81 rfl rfl (Nat.le_of_ble_eq_true rfl) rfl dX8_write_43 (fun s8 _ => ?_)
            exact r_vret (pc := 46) C dX8_write_46
        · refine r_iconst (pc := 28) (v := 1) C dX8_write_28 (by decide) ?_
          refine r_goto (pc := 29) (tgt := 33) C dX8_write_29 (by decide) ?_
          refine r_iadd (pc := 33) C dX8_write_33 ?_
          refine r_aload_n (pc := 34) C dX8_write_34 rfl ?_
          refine r_get (pc := 35) C K_X8 45 3 (by decide) rfl (by decide) lk_f_X8_88 rfl dX8_write_35 ?_
          refine r_icmp_lt (pc := 38) (tgt := 47) C dX8_write_38 (by decide) (fun _ => ?_) (fun _ => ?_)
          · refine r_iload_n (pc := 47) C dX8_write_47 rfl ?_
            refine r_if_eq (pc := 48) (tgt := 81) C dX8_write_48 (by decide) (fun _ => ?_) (fun _ => ?_)
            · refine r_aload_n (pc := 81) C dX8_write_81 rfl ?_
              refine r_get (pc := 82) C K_X8 45 1 (by decide) rfl (by decide) lk_f_X8_7 rfl dX8_write_82 ?_
              refine r_iload_n (pc := 85) C dX8_write_85 rfl ?_
              refine r_iload_n (pc := 86) C dX8_write_86 rfl ?_
              refine r_sipush (pc := 87) (v := 255) C dX8_write_87 (by decide) ?_
              refine r_iand (pc := 90) C dX8_write_90 ?_
              refine r_iast (pc := 91) (t0 := 0) C 46 (by decide) rfl (fun _ => rfl) rfl dX8_write_91 (fun s9 _ => ?_)
              exact r_vret (pc := 92) C dX8_write_92
            · refine r_aload_n (pc := 51) C dX8_write_51 rfl ?_
              refine r_get (pc := 52) C K_X8 45 1 (by decide) rfl (by decide) lk_f_X8_7 rfl dX8_write_52 ?_
              refine r_iload_n (pc := 55) C dX8_write_55 rfl ?_
              refine r_iload_n (pc := 56) C dX8_write_56 rfl ?_
              refine r_bipush (pc := 57) (v := 8) C dX8_write_57 (by decide) ?_
              refine r_ishr (pc := 59) C dX8_write_59 ?_
              refine r_sipush (pc := 60) (v := 255) C dX8_write_60 (by decide) ?_
              refine r_iand (pc := 63) C dX8_write_63 ?_
              refine r_iast (pc := 64) (t0 := 0) C 46 (by decide) rfl (fun _ => rfl) rfl dX8_write_64 (fun s10 _ => ?_)
              refine r_aload_n (pc := 65) C dX8_write_65 rfl ?_
              refine r_get (pc := 66) C K_X8 45 1 (by decide) rfl (by decide) lk_f_X8_7 rfl dX8_write_66 ?_
              refine r_iload_n (pc := 69) C dX8_write_69 rfl ?_
              refine r_iconst (pc := 70) (v := 1) C dX8_write_70 (by decide) ?_
              refine r_iadd (pc := 71) C dX8_write_71 ?_
              refine r_iload_n (pc := 72) C dX8_write_72 rfl ?_
              refine r_sipush (pc := 73) (v := 255) C dX8_write_73 (by decide) ?_
              refine r_iand (pc := 76) C dX8_write_76 ?_
              refine r_iast (pc := 77) (t0 := 0) C 46 (by decide) rfl (fun _ => rfl) rfl dX8_write_77 (fun s11 _ => ?_)
              refine r_goto (pc := 78) (tgt := 92) C dX8_write_78 (by decide) ?_
              exact r_vret (pc := 92) C dX8_write_92
          · refine r_aload_n (pc := 41) C dX8_write_41 rfl ?_
            refine r_iconst (pc := 42) (v := 3) C dX8_write_42 (by decide) ?_
            refine r_put (pc := 43) C K_X8 45 12 (by decide) rfl (by decide) lk_f_X8_81 rfl rfl (Nat.le_of_ble_eq_true rfl) rfl dX8_write_43 (fun s12 _ => ?_)
            exact r_vret (pc := 46) C dX8_write_46
      · refine r_iload_n (pc := 47) C dX8_write_47 rfl ?_
        refine r_if_eq (pc := 48) (tgt := 81) C dX8_write_48 (by decide) (fun _ => ?_) (fun _ => ?_)
        · refine r_aload_n (pc := 81) C dX8_write_81 rfl ?_
          refine r_get (pc := 82) C K_X8 45 1 (by decide) rfl (by decide) lk_f_X8_7 rfl dX8_write_82 ?_
          refine r_iload_n (pc := 85) C dX8_write_85 rfl ?_
          refine r_iload_n (pc := 86) C dX8_write_86 rfl ?_
          refine r_sipush (pc := 87) (v := 255) C dX8_write_87 (by decide) ?_
          refine r_iand (pc := 90) C dX8_write_90 ?_
          refine r_iast (pc := 91) (t0 := 0) C 46 (by decide) rfl (fun _ => rfl) rfl dX8_write_91 (fun s2 _ => ?_)
          exact r_vret (pc := 92) C dX8_write_92
        · refine r_aload_n (pc := 51) C dX8_write_51 rfl ?_
          refine r_get (pc := 52) C K_X8 45 1 (by decide) rfl (by decide) lk_f_X8_7 rfl dX8_write_52 ?_
          refine r_iload_n (pc := 55) C dX8_write_55 rfl ?_
          refine r_iload_n (pc := 56) C dX8_write_56 rfl ?_
          refine r_bipush (pc := 57) (v := 8) C dX8_write_57 (by decide) ?_
          refine r_ishr (pc := 59) C dX8_write_59 ?_
          refine r_sipush (pc := 60) (v := 255) C dX8_write_60 (by decide) ?_
          refine r_iand (pc := 63) C dX8_write_63 ?_
          refine r_iast (pc := 64) (t0 := 0) C 46 (by decide) rfl (fun _ => rfl) rfl dX8_write_64 (fun s3 _ => ?_)
          refine r_aload_n (pc := 65) C dX8_write_65 rfl ?_
          refine r_get (pc := 66) C K_X8 45 1 (by decide) rfl (by decide) lk_f_X8_7 rfl dX8_write_66 ?_
          refine r_iload_n (pc := 69) C dX8_write_69 rfl ?_
          refine r_iconst (pc := 70) (v := 1) C dX8_write_70 (by decide) ?_
          refine r_iadd (pc := 71) C dX8_write_71 ?_
          refine r_iload_n (pc := 72) C dX8_write_72 rfl ?_
          refine r_sipush (pc := 73) (v := 255) C dX8_write_73 (by decide) ?_
          refine r_iand (pc := 76) C dX8_write_76 ?_
          refine r_iast (pc := 77) (t0 := 0) C 46 (by decide) rfl (fun _ => rfl) rfl dX8_write_77 (fun s4 _ => ?_)
          refine r_goto (pc := 78) (tgt := 92) C dX8_write_78 (by decide) ?_
          exact r_vret (pc := 92) C dX8_write_92
  · refine r_iconst (pc := 6) (v := 2) C dX8_write_6 (by decide) ?_
    refine r_goto (pc := 7) (tgt := 11) C dX8_write_7 (by decide) ?_
    refine r_callV (pc := 11) C 45 (c_X8_isThere (zO.ap C) _ _ _) lk_c_X8_isThere lk_i_X8 lk_m_X8_84 lk_n_X8_isThere lk_v_X8_isThere (n := 2) (by decide +kernel) rfl ⟨rfl, rfl⟩ (by decide) (by decide) rfl rfl rfl (Nat.le_of_ble_eq_true rfl) ⟨Nat.zero_le _, Nat.zero_le _⟩ dX8_write_11 (fun v2 s13 _ => ?_)
    refine r_if_ne (pc := 14) (tgt := 18) C dX8_write_14 (by decide) (fun _ => ?_) (fun _ => ?_)
    · exact r_vret (pc := 17) C dX8_write_17
    · refine r_iload (pc := 18) C dX8_write_18 rfl ?_
      refine r_if_ne (pc := 20) (tgt := 47) C dX8_write_20 (by decide) (fun _ => ?_) (fun _ => ?_)
      · refine r_iload_n (pc := 23) C dX8_write_23 rfl ?_
        refine r_iload_n (pc := 24) C dX8_write_24 rfl ?_
        refine r_if_eq (pc := 25) (tgt := 32) C dX8_write_25 (by decide) (fun _ => ?_) (fun _ => ?_)
        · refine r_iconst (pc := 32) (v := 0) C dX8_write_32 (by decide) ?_
          refine r_iadd (pc := 33) C dX8_write_33 ?_
          refine r_aload_n (pc := 34) C dX8_write_34 rfl ?_
          refine r_get (pc := 35) C K_X8 45 3 (by decide) rfl (by decide) lk_f_X8_88 rfl dX8_write_35 ?_
          refine r_icmp_lt (pc := 38) (tgt := 47) C dX8_write_38 (by decide) (fun _ => ?_) (fun _ => ?_)
          · refine r_iload_n (pc := 47) C dX8_write_47 rfl ?_
            refine r_if_eq (pc := 48) (tgt := 81) C dX8_write_48 (by decide) (fun _ => ?_) (fun _ => ?_)
            · refine r_aload_n (pc := 81) C dX8_write_81 rfl ?_
              refine r_get (pc := 82) C K_X8 45 1 (by decide) rfl (by decide) lk_f_X8_7 rfl dX8_write_82 ?_
              refine r_iload_n (pc := 85) C dX8_write_85 rfl ?_
              refine r_iload_n (pc := 86) C dX8_write_86 rfl ?_
              refine r_sipush (pc := 87) (v := 255) C dX8_write_87 (by decide) ?_
              refine r_iand (pc := 90) C dX8_write_90 ?_
              refine r_iast (pc := 91) (t0 := 0) C 46 (by decide) rfl (fun _ => rfl) rfl dX8_write_91 (fun s17 _ => ?_)
              exact r_vret (pc := 92) C dX8_write_92
            · refine r_aload_n (pc := 51) C dX8_write_51 rfl ?_
              refine r_get (pc := 52) C K_X8 45 1 (by decide) rfl (by decide) lk_f_X8_7 rfl dX8_write_52 ?_
              refine r_iload_n (pc := 55) C dX8_write_55 rfl ?_
              refine r_iload_n (pc := 56) C dX8_write_56 rfl ?_
              refine r_bipush (pc := 57) (v := 8) C dX8_write_57 (by decide) ?_
              refine r_ishr (pc := 59) C dX8_write_59 ?_
              refine r_sipush (pc := 60) (v := 255) C dX8_write_60 (by decide) ?_
              refine r_iand (pc := 63) C dX8_write_63 ?_
              refine r_iast (pc := 64) (t0 := 0) C 46 (by decide) rfl (fun _ => rfl) rfl dX8_write_64 (fun s18 _ => ?_)
              refine r_aload_n (pc := 65) C dX8_write_65 rfl ?_
              refine r_get (pc := 66) C K_X8 45 1 (by decide) rfl (by decide) lk_f_X8_7 rfl dX8_write_66 ?_
              refine r_iload_n (pc := 69) C dX8_write_69 rfl ?_
              refine r_iconst (pc := 70) (v := 1) C dX8_write_70 (by decide) ?_
              refine r_iadd (pc := 71) C dX8_write_71 ?_
              refine r_iload_n (pc := 72) C dX8_write_72 rfl ?_
              refine r_sipush (pc := 73) (v := 255) C dX8_write_73 (by decide) ?_
              refine r_iand (pc := 76) C dX8_write_76 ?_
              refine r_iast (pc := 77) (t0 := 0) C 46 (by decide) rfl (fun _ => rfl) rfl dX8_write_77 (fun s19 _ => ?_)
              refine r_goto (pc := 78) (tgt := 92) C dX8_write_78 (by decide) ?_
              exact r_vret (pc := 92) C dX8_write_92
          · refine r_aload_n (pc := 41) C dX8_write_41 rfl ?_
            refine r_iconst (pc := 42) (v := 3) C dX8_write_42 (by decide) ?_
            refine r_put (pc := 43) C K_X8 45 12 (by decide) rfl (by decide) lk_f_X8_81 rfl rfl (Nat.le_of_ble_eq_true rfl) rfl dX8_write_43 (fun s20 _ => ?_)
            exact r_vret (pc := 46) C dX8_write_46
        · refine r_iconst (pc := 28) (v := 1) C dX8_write_28 (by decide) ?_
          refine r_goto (pc := 29) (tgt := 33) C dX8_write_29 (by decide) ?_
          refine r_iadd (pc := 33) C dX8_write_33 ?_
          refine r_aload_n (pc := 34) C dX8_write_34 rfl ?_
          refine r_get (pc := 35) C K_X8 45 3 (by decide) rfl (by decide) lk_f_X8_88 rfl dX8_write_35 ?_
          refine r_icmp_lt (pc := 38) (tgt := 47) C dX8_write_38 (by decide) (fun _ => ?_) (fun _ => ?_)
          · refine r_iload_n (pc := 47) C dX8_write_47 rfl ?_
            refine r_if_eq (pc := 48) (tgt := 81) C dX8_write_48 (by decide) (fun _ => ?_) (fun _ => ?_)
            · refine r_aload_n (pc := 81) C dX8_write_81 rfl ?_
              refine r_get (pc := 82) C K_X8 45 1 (by decide) rfl (by decide) lk_f_X8_7 rfl dX8_write_82 ?_
              refine r_iload_n (pc := 85) C dX8_write_85 rfl ?_
              refine r_iload_n (pc := 86) C dX8_write_86 rfl ?_
              refine r_sipush (pc := 87) (v := 255) C dX8_write_87 (by decide) ?_
              refine r_iand (pc := 90) C dX8_write_90 ?_
              refine r_iast (pc := 91) (t0 := 0) C 46 (by decide) rfl (fun _ => rfl) rfl dX8_write_91 (fun s21 _ => ?_)
              exact r_vret (pc := 92) C dX8_write_92
            · refine r_aload_n (pc := 51) C dX8_write_51 rfl ?_
              refine r_get (pc := 52) C K_X8 45 1 (by decide) rfl (by decide) lk_f_X8_7 rfl dX8_write_52 ?_
              refine r_iload_n (pc := 55) C dX8_write_55 rfl ?_
              refine r_iload_n (pc := 56) C dX8_write_56 rfl ?_
              refine r_bipush (pc := 57) (v := 8) C dX8_write_57 (by decide) ?_
              refine r_ishr (pc := 59) C dX8_write_59 ?_
              refine r_sipush (pc := 60) (v := 255) C dX8_write_60 (by decide) ?_
              refine r_iand (pc := 63) C dX8_write_63 ?_
              refine r_iast (pc := 64) (t0 := 0) C 46 (by decide) rfl (fun _ => rfl) rfl dX8_write_64 (fun s22 _ => ?_)
              refine r_aload_n (pc := 65) C dX8_write_65 rfl ?_
              refine r_get (pc := 66) C K_X8 45 1 (by decide) rfl (by decide) lk_f_X8_7 rfl dX8_write_66 ?_
              refine r_iload_n (pc := 69) C dX8_write_69 rfl ?_
              refine r_iconst (pc := 70) (v := 1) C dX8_write_70 (by decide) ?_
              refine r_iadd (pc := 71) C dX8_write_71 ?_
              refine r_iload_n (pc := 72) C dX8_write_72 rfl ?_
              refine r_sipush (pc := 73) (v := 255) C dX8_write_73 (by decide) ?_
              refine r_iand (pc := 76) C dX8_write_76 ?_
              refine r_iast (pc := 77) (t0 := 0) C 46 (by decide) rfl (fun _ => rfl) rfl dX8_write_77 (fun s23 _ => ?_)
              refine r_goto (pc := 78) (tgt := 92) C dX8_write_78 (by decide) ?_
              exact r_vret (pc := 92) C dX8_write_92
          · refine r_aload_n (pc := 41) C dX8_write_41 rfl ?_
            refine r_iconst (pc := 42) (v := 3) C dX8_write_42 (by decide) ?_
            refine r_put (pc := 43) C K_X8 45 12 (by decide) rfl (by decide) lk_f_X8_81 rfl rfl (Nat.le_of_ble_eq_true rfl) rfl dX8_write_43 (fun s24 _ => ?_)
            exact r_vret (pc := 46) C dX8_write_46
      · refine r_iload_n (pc := 47) C dX8_write_47 rfl ?_
        refine r_if_eq (pc := 48) (tgt := 81) C dX8_write_48 (by decide) (fun _ => ?_) (fun _ => ?_)
        · refine r_aload_n (pc := 81) C dX8_write_81 rfl ?_
          refine r_get (pc := 82) C K_X8 45 1 (by decide) rfl (by decide) lk_f_X8_7 rfl dX8_write_82 ?_
          refine r_iload_n (pc := 85) C dX8_write_85 rfl ?_
          refine r_iload_n (pc := 86) C dX8_write_86 rfl ?_
          refine r_sipush (pc := 87) (v := 255) C dX8_write_87 (by decide) ?_
          refine r_iand (pc := 90) C dX8_write_90 ?_
          refine r_iast (pc := 91) (t0 := 0) C 46 (by decide) rfl (fun _ => rfl) rfl dX8_write_91 (fun s14 _ => ?_)
          exact r_vret (pc := 92) C dX8_write_92
        · refine r_aload_n (pc := 51) C dX8_write_51 rfl ?_
          refine r_get (pc := 52) C K_X8 45 1 (by decide) rfl (by decide) lk_f_X8_7 rfl dX8_write_52 ?_
          refine r_iload_n (pc := 55) C dX8_write_55 rfl ?_
          refine r_iload_n (pc := 56) C dX8_write_56 rfl ?_
          refine r_bipush (pc := 57) (v := 8) C dX8_write_57 (by decide) ?_
          refine r_ishr (pc := 59) C dX8_write_59 ?_
          refine r_sipush (pc := 60) (v := 255) C dX8_write_60 (by decide) ?_
          refine r_iand (pc := 63) C dX8_write_63 ?_
          refine r_iast (pc := 64) (t0 := 0) C 46 (by decide) rfl (fun _ => rfl) rfl dX8_write_64 (fun s15 _ => ?_)
          refine r_aload_n (pc := 65) C dX8_write_65 rfl ?_
          refine r_get (pc := 66) C K_X8 45 1 (by decide) rfl (by decide) lk_f_X8_7 rfl dX8_write_66 ?_
          refine r_iload_n (pc := 69) C dX8_write_69 rfl ?_
          refine r_iconst (pc := 70) (v := 1) C dX8_write_70 (by decide) ?_
          refine r_iadd (pc := 71) C dX8_write_71 ?_
          refine r_iload_n (pc := 72) C dX8_write_72 rfl ?_
          refine r_sipush (pc := 73) (v := 255) C dX8_write_73 (by decide) ?_
          refine r_iand (pc := 76) C dX8_write_76 ?_
          refine r_iast (pc := 77) (t0 := 0) C 46 (by decide) rfl (fun _ => rfl) rfl dX8_write_77 (fun s16 _ => ?_)
          refine r_goto (pc := 78) (tgt := 92) C dX8_write_78 (by decide) ?_
          exact r_vret (pc := 92) C dX8_write_92
theorem c_X8_write {E : zG} (hAp : zAp E) (p0 : Int32) (p1 : Int32) (p2 : Int32) (p3 : Int32) (σ : zS) : zM E yX8_write cX8_write 5 none rm_X8_write (fun _ : Unit => none) [.ref (zad E 45), .int p0, .int p1, .int p2, .int p3] (f_X8_write p0 p1 p2 p3 σ) σ :=
  zM_of (nn := 0) hAp (by decide) (Nat.le_of_ble_eq_true rfl) rfl rfl (fun Γ C => g_X8_write C p0 p1 p2 p3 σ)
set_option maxHeartbeats 4000000 in
set_option maxRecDepth 100000 in
theorem g_X8_size_L40 {E : zG} {Γ : zX} (C : zO E Γ RX8 cX8_size 4 (some .int)) : ∀ (n : Nat) (x1 : Int32) (x2 : Int32) (x3 : Int32) (σ : zS), zJ E Γ rm_X8_size 4 (fun r : Int32 => some (.int r)) (f_X8_size_L40 n x1 x2 x3 σ) σ 40 [some (.ref (zad E 45)), some (.int x1), some (.int x2), some (.int x3)] [] := by
  intro n
  induction n with
  | zero => intro x1 x2 x3 σ; rw [f_X8_size_L40]; exact r_none
  | succ n ih =>
    intro x1 x2 x3 σ
    rw [f_X8_size_L40]
    refine r_iload_n (pc := 40) C dX8_size_40 rfl ?_
    refine r_sipush (pc := 41) (v := 2000) C dX8_size_41 (by decide) ?_
    refine r_icmp_ge (pc := 44) (tgt := 60) C dX8_size_44 (by decide) (fun _ => ?_) (fun _ => ?_)
    · refine r_iconst (pc := 60) (v := 1) C dX8_size_60 (by decide) ?_
      exact r_iret (pc := 61) C dX8_size_61
    · refine r_aload_n (pc := 47) C dX8_size_47 rfl ?_
      refine r_get (pc := 48) C K_X8 45 1 (by decide) rfl (by decide) lk_f_X8_7 rfl dX8_size_48 ?_
      refine r_iload_n (pc := 51) C dX8_size_51 rfl ?_
      refine r_iconst (pc := 52) (v := 0) C dX8_size_52 (by decide) ?_
      refine r_iast (pc := 53) (t0 := 0) C 46 (by decide) rfl (fun _ => rfl) rfl dX8_size_53 (fun s4 _ => ?_)
      refine r_iinc (pc := 54) (lv' := [some (.ref (zad E 45)), some (.int x1), some (.int x2), some (.int (x3 + (1 : Int32)))]) C dX8_size_54 (by decide) rfl rfl rfl ?_
      refine r_goto (pc := 57) (tgt := 40) C dX8_size_57 (by decide) ?_
      exact ih _ _ _ _
set_option maxHeartbeats 4000000 in
set_option maxRecDepth 100000 in
theorem g_X8_size {E : zG} {Γ : zX} (C : zO E Γ RX8 cX8_size 4 (some .int)) (p0 : Int32) (p1 : Int32) (σ : zS) : zJ E Γ rm_X8_size 4 (fun r : Int32 => some (.int r)) (f_X8_size p0 p1 σ) σ 0 [some (.ref (zad E 45)), some (.int p0), some (.int p1), none] [] := by
  unfold f_X8_size
  refine r_aload_n (pc := 0) C dX8_size_0 rfl ?_
  refine r_iconst (pc := 1) (v := 0) C dX8_size_1 (by decide) ?_
  refine r_put (pc := 2) C K_X8 45 0 (by decide) rfl (by decide) lk_f_X8_72 rfl rfl (Nat.le_of_ble_eq_true rfl) rfl dX8_size_2 (fun s1 _ => ?_)
  refine r_iload_n (pc := 5) C dX8_size_5 rfl ?_
  refine r_if_lt (pc := 6) (tgt := 25) C dX8_size_6 (by decide) (fun _ => ?_) (fun _ => ?_)
  · refine r_bipush (pc := 25) (v := -2) C dX8_size_25 (by decide) ?_
    exact r_iret (pc := 27) C dX8_size_27
  · refine r_iload_n (pc := 9) C dX8_size_9 rfl ?_
    refine r_sipush (pc := 10) (v := 2000) C dX8_size_10 (by decide) ?_
    refine r_icmp_gt (pc := 13) (tgt := 25) C dX8_size_13 (by decide) (fun _ => ?_) (fun _ => ?_)
    · refine r_bipush (pc := 25) (v := -2) C dX8_size_25 (by decide) ?_
      exact r_iret (pc := 27) C dX8_size_27
    · refine r_iload_n (pc := 16) C dX8_size_16 rfl ?_
      refine r_if_lt (pc := 17) (tgt := 25) C dX8_size_17 (by decide) (fun _ => ?_) (fun _ => ?_)
      · refine r_bipush (pc := 25) (v := -2) C dX8_size_25 (by decide) ?_
        exact r_iret (pc := 27) C dX8_size_27
      · refine r_iload_n (pc := 20) C dX8_size_20 rfl ?_
        refine r_iload_n (pc := 21) C dX8_size_21 rfl ?_
        refine r_icmp_le (pc := 22) (tgt := 28) C dX8_size_22 (by decide) (fun _ => ?_) (fun _ => ?_)
        · refine r_aload_n (pc := 28) C dX8_size_28 rfl ?_
          refine r_iload_n (pc := 29) C dX8_size_29 rfl ?_
          refine r_put (pc := 30) C K_X8 45 2 (by decide) rfl (by decide) lk_f_X8_78 rfl rfl (Nat.le_of_ble_eq_true rfl) rfl dX8_size_30 (fun s2 _ => ?_)
          refine r_aload_n (pc := 33) C dX8_size_33 rfl ?_
          refine r_iload_n (pc := 34) C dX8_size_34 rfl ?_
          refine r_put (pc := 35) C K_X8 45 3 (by decide) rfl (by decide) lk_f_X8_88 rfl rfl (Nat.le_of_ble_eq_true rfl) rfl dX8_size_35 (fun s3 _ => ?_)
          refine r_iconst (pc := 38) (v := 0) C dX8_size_38 (by decide) ?_
          refine r_istore_n (pc := 39) (lv' := [some (.ref (zad E 45)), some (.int p0), some (.int p1), some (.int (0 : Int32))]) C dX8_size_39 (by decide) rfl ?_
          exact g_X8_size_L40 C zF _ _ _ _
        · refine r_bipush (pc := 25) (v := -2) C dX8_size_25 (by decide) ?_
          exact r_iret (pc := 27) C dX8_size_27
theorem c_X8_size {E : zG} (hAp : zAp E) (p0 : Int32) (p1 : Int32) (σ : zS) : zM E yX8_size cX8_size 4 (some .int) rm_X8_size (fun r : Int32 => some (.int r)) [.ref (zad E 45), .int p0, .int p1] (f_X8_size p0 p1 σ) σ :=
  zM_of (nn := 1) hAp (by decide) (Nat.le_of_ble_eq_true rfl) rfl rfl (fun Γ C => g_X8_size C p0 p1 σ)
set_option maxHeartbeats 4000000 in
set_option maxRecDepth 100000 in
theorem g_X8_get {E : zG} {Γ : zX} (C : zO E Γ RX8 cX8_get 4 (some .int)) (p0 : Int32) (p1 : Int32) (σ : zS) : zJ E Γ rm_X8_get 4 (fun r : Int32 => some (.int r)) (f_X8_get p0 p1 σ) σ 0 [some (.ref (zad E 45)), some (.int p0), some (.int p1), none] [] := by
  unfold f_X8_get
  refine r_aload_n (pc := 0) C dX8_get_0 rfl ?_
  refine r_iconst (pc := 1) (v := 0) C dX8_get_1 (by decide) ?_
  refine r_put (pc := 2) C K_X8 45 0 (by decide) rfl (by decide) lk_f_X8_72 rfl rfl (Nat.le_of_ble_eq_true rfl) rfl dX8_get_2 (fun s1 _ => ?_)
  refine r_aload_n (pc := 5) C dX8_get_5 rfl ?_
  refine r_iconst (pc := 6) (v := 0) C dX8_get_6 (by decide) ?_
  refine r_put (pc := 7) C K_X8 45 12 (by decide) rfl (by decide) lk_f_X8_81 rfl rfl (Nat.le_of_ble_eq_true rfl) rfl dX8_get_7 (fun s2 _ => ?_)
  refine r_aload_n (pc := 10) C dX8_get_10 rfl ?_
  refine r_iload_n (pc := 11) C dX8_get_11 rfl ?_
  refine r_iload_n (pc := 12) C dX8_get_12 rfl ?_
  refine r_callV (pc := 13) C 45 (c_X8_read (zO.ap C) _ _ _) lk_c_X8_read lk_i_X8 lk_m_X8_91 lk_n_X8_read lk_v_X8_read (n := 2) (by decide +kernel) rfl ⟨rfl, rfl⟩ (by decide) (by decide) rfl rfl rfl (Nat.le_of_ble_eq_true rfl) ⟨Nat.zero_le _, Nat.zero_le _⟩ dX8_get_13 (fun v1 s3 _ => ?_)
  refine r_istore_n (pc := 16) (lv' := [some (.ref (zad E 45)), some (.int p0), some (.int p1), some (.int v1)]) C dX8_get_16 (by decide) rfl ?_
  refine r_aload_n (pc := 17) C dX8_get_17 rfl ?_
  refine r_get (pc := 18) C K_X8 45 12 (by decide) rfl (by decide) lk_f_X8_81 rfl dX8_get_18 ?_
  refine r_if_ne (pc := 21) (tgt := 28) C dX8_get_21 (by decide) (fun _ => ?_) (fun _ => ?_)
  · refine r_iload_n (pc := 24) C dX8_get_24 rfl ?_
    refine r_goto (pc := 25) (tgt := 35) C dX8_get_25 (by decide) ?_
    exact r_iret (pc := 35) C dX8_get_35
  · refine r_bipush (pc := 28) (v := -10) C dX8_get_28 (by decide) ?_
    refine r_aload_n (pc := 30) C dX8_get_30 rfl ?_
    refine r_get (pc := 31) C K_X8 45 12 (by decide) rfl (by decide) lk_f_X8_81 rfl dX8_get_31 ?_
    refine r_isub (pc := 34) C dX8_get_34 ?_
    exact r_iret (pc := 35) C dX8_get_35
theorem c_X8_get {E : zG} (hAp : zAp E) (p0 : Int32) (p1 : Int32) (σ : zS) : zM E yX8_get cX8_get 4 (some .int) rm_X8_get (fun r : Int32 => some (.int r)) [.ref (zad E 45), .int p0, .int p1] (f_X8_get p0 p1 σ) σ :=
  zM_of (nn := 1) hAp (by decide) (Nat.le_of_ble_eq_true rfl) rfl rfl (fun Γ C => g_X8_get C p0 p1 σ)
set_option maxHeartbeats 4000000 in
set_option maxRecDepth 100000 in
theorem g_X8_put {E : zG} {Γ : zX} (C : zO E Γ RX8 cX8_put 5 (some .int)) (p0 : Int32) (p1 : Int32) (p2 : Int32) (p3 : Int32) (σ : zS) : zJ E Γ rm_X8_put 5 (fun r : Int32 => some (.int r)) (f_X8_put p0 p1 p2 p3 σ) σ 0 [some (.ref (zad E 45)), some (.int p0), some (.int p1), some (.int p2), some (.int p3)] [] := by
  unfold f_X8_put
  refine r_aload_n (pc := 0) C dX8_put_0 rfl ?_
  refine r_iconst (pc := 1) (v := 0) C dX8_put_1 (by decide) ?_
  refine r_put (pc := 2) C K_X8 45 0 (by decide) rfl (by decide) lk_f_X8_72 rfl rfl (Nat.le_of_ble_eq_true rfl) rfl dX8_put_2 (fun s1 _ => ?_)
  refine r_aload_n (pc := 5) C dX8_put_5 rfl ?_
  refine r_iconst (pc := 6) (v := 0) C dX8_put_6 (by decide) ?_
  refine r_put (pc := 7) C K_X8 45 12 (by decide) rfl (by decide) lk_f_X8_81 rfl rfl (Nat.le_of_ble_eq_true rfl) rfl dX8_put_7 (fun s2 _ => ?_)
  refine r_aload_n (pc := 10) C dX8_put_10 rfl ?_
  refine r_iload_n (pc := 11) C dX8_put_11 rfl ?_
  refine r_iload_n (pc := 12) C dX8_put_12 rfl ?_
  refine r_iload_n (pc := 13) C dX8_put_13 rfl ?_
  refine r_iload (pc := 14) C dX8_put_14 rfl ?_
  refine r_callV (pc := 16) C 45 (c_X8_write (zO.ap C) _ _ _ _ _) lk_c_X8_write lk_i_X8 lk_m_X8_95 lk_n_X8_write lk_v_X8_write (n := 4) (by decide +kernel) rfl ⟨rfl, rfl⟩ (by decide) (by decide) rfl rfl rfl (Nat.le_of_ble_eq_true rfl) ⟨Nat.zero_le _, Nat.zero_le _⟩ dX8_put_16 (fun _ s3 _ => ?_)
  refine r_aload_n (pc := 19) C dX8_put_19 rfl ?_
  refine r_get (pc := 20) C K_X8 45 12 (by decide) rfl (by decide) lk_f_X8_81 rfl dX8_put_20 ?_
  refine r_if_ne (pc := 23) (tgt := 30) C dX8_put_23 (by decide) (fun _ => ?_) (fun _ => ?_)
  · refine r_iconst (pc := 26) (v := 1) C dX8_put_26 (by decide) ?_
    refine r_goto (pc := 27) (tgt := 37) C dX8_put_27 (by decide) ?_
    exact r_iret (pc := 37) C dX8_put_37
  · refine r_bipush (pc := 30) (v := -10) C dX8_put_30 (by decide) ?_
    refine r_aload_n (pc := 32) C dX8_put_32 rfl ?_
    refine r_get (pc := 33) C K_X8 45 12 (by decide) rfl (by decide) lk_f_X8_81 rfl dX8_put_33 ?_
    refine r_isub (pc := 36) C dX8_put_36 ?_
    exact r_iret (pc := 37) C dX8_put_37
theorem c_X8_put {E : zG} (hAp : zAp E) (p0 : Int32) (p1 : Int32) (p2 : Int32) (p3 : Int32) (σ : zS) : zM E yX8_put cX8_put 5 (some .int) rm_X8_put (fun r : Int32 => some (.int r)) [.ref (zad E 45), .int p0, .int p1, .int p2, .int p3] (f_X8_put p0 p1 p2 p3 σ) σ :=
  zM_of (nn := 0) hAp (by decide) (Nat.le_of_ble_eq_true rfl) rfl rfl (fun Γ C => g_X8_put C p0 p1 p2 p3 σ)
set_option maxHeartbeats 4000000 in
set_option maxRecDepth 100000 in
theorem g_X8_shifted_L43 {E : zG} {Γ : zX} (C : zO E Γ RX8 cX8_shifted 6 (some .int)) : ∀ (n : Nat) (x0 : Int32) (x1 : Int32) (x2 : Int32) (x3 : Int32) (x4 : Int32) (x5 : Int32) (σ : zS), zJ E Γ rm_X8_shifted 6 (fun r : Int32 => some (.int r)) (f_X8_shifted_L43 n x0 x1 x2 x3 x4 x5 σ) σ 43 [some (.int x0), some (.int x1), some (.int x2), some (.int x3), some (.int x4), some (.int x5)] [] := by
  intro n
  induction n with
  | zero => intro x0 x1 x2 x3 x4 x5 σ; rw [f_X8_shifted_L43]; exact r_none
  | succ n ih =>
    intro x0 x1 x2 x3 x4 x5 σ
    rw [f_X8_shifted_L43]
    refine r_iload (pc := 43) C dX8_shifted_43 rfl ?_
    refine r_iload_n (pc := 45) C dX8_shifted_45 rfl ?_
    refine r_icmp_ge (pc := 46) (tgt := 72) C dX8_shifted_46 (by decide) (fun _ => ?_) (fun _ => ?_)
    · refine r_iload (pc := 72) C dX8_shifted_72 rfl ?_
      refine r_callS (pc := 74) C (c_X8_signed (zO.ap C) _ _) lk_c_X8_signed lk_i_X8 lk_m_X8_99 lk_s_X8_signed (n := 1) (by decide +kernel) rfl ⟨rfl, rfl⟩ (by decide) (Nat.le_of_ble_eq_true rfl) ⟨Nat.zero_le _, Nat.zero_le _⟩ dX8_shifted_74 (fun v2 s1 _ => ?_)
      exact r_iret (pc := 77) C dX8_shifted_77
    · refine r_iload_n (pc := 49) C dX8_shifted_49 rfl ?_
      refine r_if_le (pc := 50) (tgt := 60) C dX8_shifted_50 (by decide) (fun _ => ?_) (fun _ => ?_)
      · refine r_iload (pc := 60) C dX8_shifted_60 rfl ?_
        refine r_iconst (pc := 62) (v := 1) C dX8_shifted_62 (by decide) ?_
        refine r_ishr (pc := 63) C dX8_shifted_63 ?_
        refine r_leti (fun v3 => ?_)
        refine r_istore (pc := 64) (lv' := [some (.int x0), some (.int x1), some (.int x2), some (.int x3), some (.int v3), some (.int x5)]) C dX8_shifted_64 (by decide) rfl ?_
        refine r_iinc (pc := 66) (lv' := [some (.int x0), some (.int x1), some (.int x2), some (.int x3), some (.int v3), some (.int (x5 + (1 : Int32)))]) C dX8_shifted_66 (by decide) rfl rfl rfl ?_
        refine r_goto (pc := 69) (tgt := 43) C dX8_shifted_69 (by decide) ?_
        exact ih _ _ _ _ _ _ _
      · refine r_iload (pc := 53) C dX8_shifted_53 rfl ?_
        refine r_iconst (pc := 55) (v := 2) C dX8_shifted_55 (by decide) ?_
        refine r_imul (pc := 56) C dX8_shifted_56 ?_
        refine r_goto (pc := 57) (tgt := 64) C dX8_shifted_57 (by decide) ?_
        refine r_leti (fun v4 => ?_)
        refine r_istore (pc := 64) (lv' := [some (.int x0), some (.int x1), some (.int x2), some (.int x3), some (.int v4), some (.int x5)]) C dX8_shifted_64 (by decide) rfl ?_
        refine r_iinc (pc := 66) (lv' := [some (.int x0), some (.int x1), some (.int x2), some (.int x3), some (.int v4), some (.int (x5 + (1 : Int32)))]) C dX8_shifted_66 (by decide) rfl rfl rfl ?_
        refine r_goto (pc := 69) (tgt := 43) C dX8_shifted_69 (by decide) ?_
        exact ih _ _ _ _ _ _ _
set_option maxHeartbeats 4000000 in
set_option maxRecDepth 100000 in
theorem g_X8_shifted {E : zG} {Γ : zX} (C : zO E Γ RX8 cX8_shifted 6 (some .int)) (p0 : Int32) (p1 : Int32) (p2 : Int32) (σ : zS) : zJ E Γ rm_X8_shifted 6 (fun r : Int32 => some (.int r)) (f_X8_shifted p0 p1 p2 σ) σ 0 [some (.int p0), some (.int p1), some (.int p2), none, none, none] [] := by
  unfold f_X8_shifted
  refine r_iload_n (pc := 0) C dX8_shifted_0 rfl ?_
  refine r_if_ge (pc := 1) (tgt := 9) C dX8_shifted_1 (by decide) (fun _ => ?_) (fun _ => ?_)
  · refine r_iload_n (pc := 9) C dX8_shifted_9 rfl ?_
    refine r_istore_n (pc := 10) (lv' := [some (.int p0), some (.int p1), some (.int p2), some (.int p2), none, none]) C dX8_shifted_10 (by decide) rfl ?_
    refine r_iload_n (pc := 11) C dX8_shifted_11 rfl ?_
    refine r_bipush (pc := 12) (v := 15) C dX8_shifted_12 (by decide) ?_
    refine r_icmp_le (pc := 14) (tgt := 26) C dX8_shifted_14 (by decide) (fun _ => ?_) (fun _ => ?_)
    · refine r_iload_n (pc := 26) C dX8_shifted_26 rfl ?_
      refine r_if_eq (pc := 27) (tgt := 34) C dX8_shifted_27 (by decide) (fun _ => ?_) (fun _ => ?_)
      · refine r_iload_n (pc := 34) C dX8_shifted_34 rfl ?_
        refine r_ldc (pc := 35) (v := 65535) C dX8_shifted_35 lk_k_X8_75 ?_
        refine r_iand (pc := 37) C dX8_shifted_37 ?_
        refine r_leti (fun v1 => ?_)
        refine r_istore (pc := 38) (lv' := [some (.int p0), some (.int p1), some (.int p2), some (.int p2), some (.int v1), none]) C dX8_shifted_38 (by decide) rfl ?_
        refine r_iconst (pc := 40) (v := 0) C dX8_shifted_40 (by decide) ?_
        refine r_istore (pc := 41) (lv' := [some (.int p0), some (.int p1), some (.int p2), some (.int p2), some (.int v1), some (.int (0 : Int32))]) C dX8_shifted_41 (by decide) rfl ?_
        exact g_X8_shifted_L43 C zF _ _ _ _ _ _ _
      · refine r_iload_n (pc := 30) C dX8_shifted_30 rfl ?_
        refine r_goto (pc := 31) (tgt := 38) C dX8_shifted_31 (by decide) ?_
        refine r_istore (pc := 38) (lv' := [some (.int p0), some (.int p1), some (.int p2), some (.int p2), some (.int p1), none]) C dX8_shifted_38 (by decide) rfl ?_
        refine r_iconst (pc := 40) (v := 0) C dX8_shifted_40 (by decide) ?_
        refine r_istore (pc := 41) (lv' := [some (.int p0), some (.int p1), some (.int p2), some (.int p2), some (.int p1), some (.int (0 : Int32))]) C dX8_shifted_41 (by decide) rfl ?_
        exact g_X8_shifted_L43 C zF _ _ _ _ _ _ _
    · refine r_iload_n (pc := 17) C dX8_shifted_17 rfl ?_
      refine r_if_ne (pc := 18) (tgt := 23) C dX8_shifted_18 (by decide) (fun _ => ?_) (fun _ => ?_)
      · refine r_iconst (pc := 21) (v := 0) C dX8_shifted_21 (by decide) ?_
        exact r_iret (pc := 22) C dX8_shifted_22
      · refine r_bipush (pc := 23) (v := 15) C dX8_shifted_23 (by decide) ?_
        refine r_istore_n (pc := 25) (lv' := [some (.int p0), some (.int p1), some (.int p2), some (.int (15 : Int32)), none, none]) C dX8_shifted_25 (by decide) rfl ?_
        refine r_iload_n (pc := 26) C dX8_shifted_26 rfl ?_
        refine r_if_eq (pc := 27) (tgt := 34) C dX8_shifted_27 (by decide) (fun _ => ?_) (fun _ => ?_)
        · refine r_iload_n (pc := 34) C dX8_shifted_34 rfl ?_
          refine r_ldc (pc := 35) (v := 65535) C dX8_shifted_35 lk_k_X8_75 ?_
          refine r_iand (pc := 37) C dX8_shifted_37 ?_
          refine r_leti (fun v5 => ?_)
          refine r_istore (pc := 38) (lv' := [some (.int p0), some (.int p1), some (.int p2), some (.int (15 : Int32)), some (.int v5), none]) C dX8_shifted_38 (by decide) rfl ?_
          refine r_iconst (pc := 40) (v := 0) C dX8_shifted_40 (by decide) ?_
          refine r_istore (pc := 41) (lv' := [some (.int p0), some (.int p1), some (.int p2), some (.int (15 : Int32)), some (.int v5), some (.int (0 : Int32))]) C dX8_shifted_41 (by decide) rfl ?_
          exact g_X8_shifted_L43 C zF _ _ _ _ _ _ _
        · refine r_iload_n (pc := 30) C dX8_shifted_30 rfl ?_
          refine r_goto (pc := 31) (tgt := 38) C dX8_shifted_31 (by decide) ?_
          refine r_istore (pc := 38) (lv' := [some (.int p0), some (.int p1), some (.int p2), some (.int (15 : Int32)), some (.int p1), none]) C dX8_shifted_38 (by decide) rfl ?_
          refine r_iconst (pc := 40) (v := 0) C dX8_shifted_40 (by decide) ?_
          refine r_istore (pc := 41) (lv' := [some (.int p0), some (.int p1), some (.int p2), some (.int (15 : Int32)), some (.int p1), some (.int (0 : Int32))]) C dX8_shifted_41 (by decide) rfl ?_
          exact g_X8_shifted_L43 C zF _ _ _ _ _ _ _
  · refine r_iload_n (pc := 4) C dX8_shifted_4 rfl ?_
    refine r_ineg (pc := 5) C dX8_shifted_5 ?_
    refine r_goto (pc := 6) (tgt := 10) C dX8_shifted_6 (by decide) ?_
    refine r_istore_n (pc := 10) (lv' := [some (.int p0), some (.int p1), some (.int p2), some (.int (-p2)), none, none]) C dX8_shifted_10 (by decide) rfl ?_
    refine r_iload_n (pc := 11) C dX8_shifted_11 rfl ?_
    refine r_bipush (pc := 12) (v := 15) C dX8_shifted_12 (by decide) ?_
    refine r_icmp_le (pc := 14) (tgt := 26) C dX8_shifted_14 (by decide) (fun _ => ?_) (fun _ => ?_)
    · refine r_iload_n (pc := 26) C dX8_shifted_26 rfl ?_
      refine r_if_eq (pc := 27) (tgt := 34) C dX8_shifted_27 (by decide) (fun _ => ?_) (fun _ => ?_)
      · refine r_iload_n (pc := 34) C dX8_shifted_34 rfl ?_
        refine r_ldc (pc := 35) (v := 65535) C dX8_shifted_35 lk_k_X8_75 ?_
        refine r_iand (pc := 37) C dX8_shifted_37 ?_
        refine r_leti (fun v6 => ?_)
        refine r_istore (pc := 38) (lv' := [some (.int p0), some (.int p1), some (.int p2), some (.int (-p2)), some (.int v6), none]) C dX8_shifted_38 (by decide) rfl ?_
        refine r_iconst (pc := 40) (v := 0) C dX8_shifted_40 (by decide) ?_
        refine r_istore (pc := 41) (lv' := [some (.int p0), some (.int p1), some (.int p2), some (.int (-p2)), some (.int v6), some (.int (0 : Int32))]) C dX8_shifted_41 (by decide) rfl ?_
        exact g_X8_shifted_L43 C zF _ _ _ _ _ _ _
      · refine r_iload_n (pc := 30) C dX8_shifted_30 rfl ?_
        refine r_goto (pc := 31) (tgt := 38) C dX8_shifted_31 (by decide) ?_
        refine r_istore (pc := 38) (lv' := [some (.int p0), some (.int p1), some (.int p2), some (.int (-p2)), some (.int p1), none]) C dX8_shifted_38 (by decide) rfl ?_
        refine r_iconst (pc := 40) (v := 0) C dX8_shifted_40 (by decide) ?_
        refine r_istore (pc := 41) (lv' := [some (.int p0), some (.int p1), some (.int p2), some (.int (-p2)), some (.int p1), some (.int (0 : Int32))]) C dX8_shifted_41 (by decide) rfl ?_
        exact g_X8_shifted_L43 C zF _ _ _ _ _ _ _
    · refine r_iload_n (pc := 17) C dX8_shifted_17 rfl ?_
      refine r_if_ne (pc := 18) (tgt := 23) C dX8_shifted_18 (by decide) (fun _ => ?_) (fun _ => ?_)
      · refine r_iconst (pc := 21) (v := 0) C dX8_shifted_21 (by decide) ?_
        exact r_iret (pc := 22) C dX8_shifted_22
      · refine r_bipush (pc := 23) (v := 15) C dX8_shifted_23 (by decide) ?_
        refine r_istore_n (pc := 25) (lv' := [some (.int p0), some (.int p1), some (.int p2), some (.int (15 : Int32)), none, none]) C dX8_shifted_25 (by decide) rfl ?_
        refine r_iload_n (pc := 26) C dX8_shifted_26 rfl ?_
        refine r_if_eq (pc := 27) (tgt := 34) C dX8_shifted_27 (by decide) (fun _ => ?_) (fun _ => ?_)
        · refine r_iload_n (pc := 34) C dX8_shifted_34 rfl ?_
          refine r_ldc (pc := 35) (v := 65535) C dX8_shifted_35 lk_k_X8_75 ?_
          refine r_iand (pc := 37) C dX8_shifted_37 ?_
          refine r_leti (fun v7 => ?_)
          refine r_istore (pc := 38) (lv' := [some (.int p0), some (.int p1), some (.int p2), some (.int (15 : Int32)), some (.int v7), none]) C dX8_shifted_38 (by decide) rfl ?_
          refine r_iconst (pc := 40) (v := 0) C dX8_shifted_40 (by decide) ?_
          refine r_istore (pc := 41) (lv' := [some (.int p0), some (.int p1), some (.int p2), some (.int (15 : Int32)), some (.int v7), some (.int (0 : Int32))]) C dX8_shifted_41 (by decide) rfl ?_
          exact g_X8_shifted_L43 C zF _ _ _ _ _ _ _
        · refine r_iload_n (pc := 30) C dX8_shifted_30 rfl ?_
          refine r_goto (pc := 31) (tgt := 38) C dX8_shifted_31 (by decide) ?_
          refine r_istore (pc := 38) (lv' := [some (.int p0), some (.int p1), some (.int p2), some (.int (15 : Int32)), some (.int p1), none]) C dX8_shifted_38 (by decide) rfl ?_
          refine r_iconst (pc := 40) (v := 0) C dX8_shifted_40 (by decide) ?_
          refine r_istore (pc := 41) (lv' := [some (.int p0), some (.int p1), some (.int p2), some (.int (15 : Int32)), some (.int p1), some (.int (0 : Int32))]) C dX8_shifted_41 (by decide) rfl ?_
          exact g_X8_shifted_L43 C zF _ _ _ _ _ _ _
theorem c_X8_shifted {E : zG} (hAp : zAp E) (p0 : Int32) (p1 : Int32) (p2 : Int32) (σ : zS) : zM E yX8_shifted cX8_shifted 6 (some .int) rm_X8_shifted (fun r : Int32 => some (.int r)) [.int p0, .int p1, .int p2] (f_X8_shifted p0 p1 p2 σ) σ :=
  zM_of (nn := 3) hAp (by decide) (Nat.le_of_ble_eq_true rfl) rfl rfl (fun Γ C => g_X8_shifted C p0 p1 p2 σ)
set_option maxHeartbeats 4000000 in
set_option maxRecDepth 100000 in
theorem g_X8_worked {E : zG} {Γ : zX} (C : zO E Γ RX8 cX8_worked 4 (some .int)) (p0 : Int32) (p1 : Int32) (p2 : Int32) (σ : zS) : zJ E Γ rm_X8_worked 4 (fun r : Int32 => some (.int r)) (f_X8_worked p0 p1 p2 σ) σ 0 [some (.ref (zad E 45)), some (.int p0), some (.int p1), some (.int p2)] [] := by
  unfold f_X8_worked
  refine r_iload_n (pc := 0) C dX8_worked_0 rfl ?_
  refine r_split (fun h1 => ?_) (fun h1 => ?_)
  · refine r_tabIn (pc := 1) (v := 0) (tgt := 48) C dX8_worked_1 h1 (by decide) (by decide) rfl (by decide) ?_
    refine r_iload_n (pc := 48) C dX8_worked_48 rfl ?_
    refine r_iload_n (pc := 49) C dX8_worked_49 rfl ?_
    refine r_iadd (pc := 50) C dX8_worked_50 ?_
    refine r_callS (pc := 51) C (c_X8_signed (zO.ap C) _ _) lk_c_X8_signed lk_i_X8 lk_m_X8_99 lk_s_X8_signed (n := 1) (by decide +kernel) rfl ⟨rfl, rfl⟩ (by decide) (Nat.le_of_ble_eq_true rfl) ⟨Nat.zero_le _, Nat.zero_le _⟩ dX8_worked_51 (fun v1 s1 _ => ?_)
    exact r_iret (pc := 54) C dX8_worked_54
  · refine r_split (fun h2 => ?_) (fun h2 => ?_)
    · refine r_tabIn (pc := 1) (v := 1) (tgt := 55) C dX8_worked_1 h2 (by decide) (by decide) rfl (by decide) ?_
      refine r_iload_n (pc := 55) C dX8_worked_55 rfl ?_
      refine r_iload_n (pc := 56) C dX8_worked_56 rfl ?_
      refine r_isub (pc := 57) C dX8_worked_57 ?_
      refine r_callS (pc := 58) C (c_X8_signed (zO.ap C) _ _) lk_c_X8_signed lk_i_X8 lk_m_X8_99 lk_s_X8_signed (n := 1) (by decide +kernel) rfl ⟨rfl, rfl⟩ (by decide) (Nat.le_of_ble_eq_true rfl) ⟨Nat.zero_le _, Nat.zero_le _⟩ dX8_worked_58 (fun v2 s2 _ => ?_)
      exact r_iret (pc := 61) C dX8_worked_61
    · refine r_split (fun h3 => ?_) (fun h3 => ?_)
      · refine r_tabIn (pc := 1) (v := 2) (tgt := 62) C dX8_worked_1 h3 (by decide) (by decide) rfl (by decide) ?_
        refine r_iload_n (pc := 62) C dX8_worked_62 rfl ?_
        refine r_iload_n (pc := 63) C dX8_worked_63 rfl ?_
        refine r_imul (pc := 64) C dX8_worked_64 ?_
        refine r_callS (pc := 65) C (c_X8_signed (zO.ap C) _ _) lk_c_X8_signed lk_i_X8 lk_m_X8_99 lk_s_X8_signed (n := 1) (by decide +kernel) rfl ⟨rfl, rfl⟩ (by decide) (Nat.le_of_ble_eq_true rfl) ⟨Nat.zero_le _, Nat.zero_le _⟩ dX8_worked_65 (fun v3 s3 _ => ?_)
        exact r_iret (pc := 68) C dX8_worked_68
      · refine r_split (fun h4 => ?_) (fun h4 => ?_)
        · refine r_tabIn (pc := 1) (v := 3) (tgt := 69) C dX8_worked_1 h4 (by decide) (by decide) rfl (by decide) ?_
          refine r_iload_n (pc := 69) C dX8_worked_69 rfl ?_
          refine r_if_ne (pc := 70) (tgt := 80) C dX8_worked_70 (by decide) (fun _ => ?_) (fun _ => ?_)
          · refine r_aload_n (pc := 73) C dX8_worked_73 rfl ?_
            refine r_iconst (pc := 74) (v := 1) C dX8_worked_74 (by decide) ?_
            refine r_put (pc := 75) C K_X8 45 12 (by decide) rfl (by decide) lk_f_X8_81 rfl rfl (Nat.le_of_ble_eq_true rfl) rfl dX8_worked_75 (fun s6 _ => ?_)
            refine r_iconst (pc := 78) (v := 0) C dX8_worked_78 (by decide) ?_
            exact r_iret (pc := 79) C dX8_worked_79
          · refine r_iload_n (pc := 80) C dX8_worked_80 rfl ?_
            refine r_iconst (pc := 81) (v := 3) C dX8_worked_81 (by decide) ?_
            refine r_icmp_ne (pc := 82) (tgt := 91) C dX8_worked_82 (by decide) (fun _ => ?_) (fun _ => ?_)
            · refine r_iload_n (pc := 85) C dX8_worked_85 rfl ?_
              refine r_iload_n (pc := 86) C dX8_worked_86 rfl ?_
              refine r_idiv (pc := 87) C dX8_worked_87 ?_
              refine r_goto (pc := 88) (tgt := 98) C dX8_worked_88 (by decide) ?_
              refine r_callS (pc := 98) C (c_X8_signed (zO.ap C) _ _) lk_c_X8_signed lk_i_X8 lk_m_X8_99 lk_s_X8_signed (n := 1) (by decide +kernel) rfl ⟨rfl, rfl⟩ (by decide) (Nat.le_of_ble_eq_true rfl) ⟨Nat.zero_le _, Nat.zero_le _⟩ dX8_worked_98 (fun v5 s5 _ => ?_)
              exact r_iret (pc := 101) C dX8_worked_101
            · refine r_iload_n (pc := 91) C dX8_worked_91 rfl ?_
              refine r_iload_n (pc := 92) C dX8_worked_92 rfl ?_
              refine r_iload_n (pc := 93) C dX8_worked_93 rfl ?_
              refine r_idiv (pc := 94) C dX8_worked_94 ?_
              refine r_iload_n (pc := 95) C dX8_worked_95 rfl ?_
              refine r_imul (pc := 96) C dX8_worked_96 ?_
              refine r_isub (pc := 97) C dX8_worked_97 ?_
              refine r_callS (pc := 98) C (c_X8_signed (zO.ap C) _ _) lk_c_X8_signed lk_i_X8 lk_m_X8_99 lk_s_X8_signed (n := 1) (by decide +kernel) rfl ⟨rfl, rfl⟩ (by decide) (Nat.le_of_ble_eq_true rfl) ⟨Nat.zero_le _, Nat.zero_le _⟩ dX8_worked_98 (fun v4 s4 _ => ?_)
              exact r_iret (pc := 101) C dX8_worked_101
        · refine r_split (fun h5 => ?_) (fun h5 => ?_)
          · refine r_tabIn (pc := 1) (v := 4) (tgt := 69) C dX8_worked_1 h5 (by decide) (by decide) rfl (by decide) ?_
            refine r_iload_n (pc := 69) C dX8_worked_69 rfl ?_
            refine r_if_ne (pc := 70) (tgt := 80) C dX8_worked_70 (by decide) (fun _ => ?_) (fun _ => ?_)
            · refine r_aload_n (pc := 73) C dX8_worked_73 rfl ?_
              refine r_iconst (pc := 74) (v := 1) C dX8_worked_74 (by decide) ?_
              refine r_put (pc := 75) C K_X8 45 12 (by decide) rfl (by decide) lk_f_X8_81 rfl rfl (Nat.le_of_ble_eq_true rfl) rfl dX8_worked_75 (fun s9 _ => ?_)
              refine r_iconst (pc := 78) (v := 0) C dX8_worked_78 (by decide) ?_
              exact r_iret (pc := 79) C dX8_worked_79
            · refine r_iload_n (pc := 80) C dX8_worked_80 rfl ?_
              refine r_iconst (pc := 81) (v := 3) C dX8_worked_81 (by decide) ?_
              refine r_icmp_ne (pc := 82) (tgt := 91) C dX8_worked_82 (by decide) (fun _ => ?_) (fun _ => ?_)
              · refine r_iload_n (pc := 85) C dX8_worked_85 rfl ?_
                refine r_iload_n (pc := 86) C dX8_worked_86 rfl ?_
                refine r_idiv (pc := 87) C dX8_worked_87 ?_
                refine r_goto (pc := 88) (tgt := 98) C dX8_worked_88 (by decide) ?_
                refine r_callS (pc := 98) C (c_X8_signed (zO.ap C) _ _) lk_c_X8_signed lk_i_X8 lk_m_X8_99 lk_s_X8_signed (n := 1) (by decide +kernel) rfl ⟨rfl, rfl⟩ (by decide) (Nat.le_of_ble_eq_true rfl) ⟨Nat.zero_le _, Nat.zero_le _⟩ dX8_worked_98 (fun v7 s8 _ => ?_)
                exact r_iret (pc := 101) C dX8_worked_101
              · refine r_iload_n (pc := 91) C dX8_worked_91 rfl ?_
                refine r_iload_n (pc := 92) C dX8_worked_92 rfl ?_
                refine r_iload_n (pc := 93) C dX8_worked_93 rfl ?_
                refine r_idiv (pc := 94) C dX8_worked_94 ?_
                refine r_iload_n (pc := 95) C dX8_worked_95 rfl ?_
                refine r_imul (pc := 96) C dX8_worked_96 ?_
                refine r_isub (pc := 97) C dX8_worked_97 ?_
                refine r_callS (pc := 98) C (c_X8_signed (zO.ap C) _ _) lk_c_X8_signed lk_i_X8 lk_m_X8_99 lk_s_X8_signed (n := 1) (by decide +kernel) rfl ⟨rfl, rfl⟩ (by decide) (Nat.le_of_ble_eq_true rfl) ⟨Nat.zero_le _, Nat.zero_le _⟩ dX8_worked_98 (fun v6 s7 _ => ?_)
                exact r_iret (pc := 101) C dX8_worked_101
          · refine r_split (fun h6 => ?_) (fun h6 => ?_)
            · refine r_tabIn (pc := 1) (v := 5) (tgt := 102) C dX8_worked_1 h6 (by decide) (by decide) rfl (by decide) ?_
              refine r_iload_n (pc := 102) C dX8_worked_102 rfl ?_
              refine r_iload_n (pc := 103) C dX8_worked_103 rfl ?_
              refine r_iand (pc := 104) C dX8_worked_104 ?_
              exact r_iret (pc := 105) C dX8_worked_105
            · refine r_split (fun h7 => ?_) (fun h7 => ?_)
              · refine r_tabIn (pc := 1) (v := 6) (tgt := 106) C dX8_worked_1 h7 (by decide) (by decide) rfl (by decide) ?_
                refine r_iload_n (pc := 106) C dX8_worked_106 rfl ?_
                refine r_iload_n (pc := 107) C dX8_worked_107 rfl ?_
                refine r_ior (pc := 108) C dX8_worked_108 ?_
                exact r_iret (pc := 109) C dX8_worked_109
              · refine r_split (fun h8 => ?_) (fun h8 => ?_)
                · refine r_tabIn (pc := 1) (v := 7) (tgt := 110) C dX8_worked_1 h8 (by decide) (by decide) rfl (by decide) ?_
                  refine r_iconst (pc := 110) (v := -1) C dX8_worked_110 (by decide) ?_
                  refine r_iload_n (pc := 111) C dX8_worked_111 rfl ?_
                  refine r_isub (pc := 112) C dX8_worked_112 ?_
                  exact r_iret (pc := 113) C dX8_worked_113
                · refine r_tabOut (pc := 1) (tgt := 114) C dX8_worked_1 (by have a0 := lv_neT (a := 0) h1 rfl; have a1 := lv_neT (a := 1) h2 rfl; have a2 := lv_neT (a := 2) h3 rfl; have a3 := lv_neT (a := 3) h4 rfl; have a4 := lv_neT (a := 4) h5 rfl; have a5 := lv_neT (a := 5) h6 rfl; have a6 := lv_neT (a := 6) h7 rfl; have a7 := lv_neT (a := 7) h8 rfl; omega) (by decide) ?_
                  refine r_iload_n (pc := 114) C dX8_worked_114 rfl ?_
                  refine r_bipush (pc := 115) (v := 8) C dX8_worked_115 (by decide) ?_
                  refine r_icmp_ne (pc := 117) (tgt := 124) C dX8_worked_117 (by decide) (fun _ => ?_) (fun _ => ?_)
                  · refine r_iconst (pc := 120) (v := 1) C dX8_worked_120 (by decide) ?_
                    refine r_goto (pc := 121) (tgt := 125) C dX8_worked_121 (by decide) ?_
                    refine r_iload_n (pc := 125) C dX8_worked_125 rfl ?_
                    refine r_iload_n (pc := 126) C dX8_worked_126 rfl ?_
                    refine r_callS (pc := 127) C (c_X8_shifted (zO.ap C) _ _ _ _) lk_c_X8_shifted lk_i_X8 lk_m_X8_103 lk_s_X8_shifted (n := 3) (by decide +kernel) rfl ⟨rfl, rfl⟩ (by decide) (Nat.le_of_ble_eq_true rfl) ⟨Nat.zero_le _, Nat.zero_le _⟩ dX8_worked_127 (fun v9 s11 _ => ?_)
                    exact r_iret (pc := 130) C dX8_worked_130
                  · refine r_iconst (pc := 124) (v := 0) C dX8_worked_124 (by decide) ?_
                    refine r_iload_n (pc := 125) C dX8_worked_125 rfl ?_
                    refine r_iload_n (pc := 126) C dX8_worked_126 rfl ?_
                    refine r_callS (pc := 127) C (c_X8_shifted (zO.ap C) _ _ _ _) lk_c_X8_shifted lk_i_X8 lk_m_X8_103 lk_s_X8_shifted (n := 3) (by decide +kernel) rfl ⟨rfl, rfl⟩ (by decide) (Nat.le_of_ble_eq_true rfl) ⟨Nat.zero_le _, Nat.zero_le _⟩ dX8_worked_127 (fun v8 s10 _ => ?_)
                    exact r_iret (pc := 130) C dX8_worked_130
theorem c_X8_worked {E : zG} (hAp : zAp E) (p0 : Int32) (p1 : Int32) (p2 : Int32) (σ : zS) : zM E yX8_worked cX8_worked 4 (some .int) rm_X8_worked (fun r : Int32 => some (.int r)) [.ref (zad E 45), .int p0, .int p1, .int p2] (f_X8_worked p0 p1 p2 σ) σ :=
  zM_of (nn := 0) hAp (by decide) (Nat.le_of_ble_eq_true rfl) rfl rfl (fun Γ C => g_X8_worked C p0 p1 p2 σ)
set_option maxHeartbeats 4000000 in
set_option maxRecDepth 100000 in
theorem g_X8_work {E : zG} {Γ : zX} (C : zO E Γ RX8 cX8_work 5 (some .int)) (p0 : Int32) (p1 : Int32) (p2 : Int32) (σ : zS) : zJ E Γ rm_X8_work 5 (fun r : Int32 => some (.int r)) (f_X8_work p0 p1 p2 σ) σ 0 [some (.ref (zad E 45)), some (.int p0), some (.int p1), some (.int p2), none] [] := by
  unfold f_X8_work
  refine r_aload_n (pc := 0) C dX8_work_0 rfl ?_
  refine r_iconst (pc := 1) (v := 0) C dX8_work_1 (by decide) ?_
  refine r_put (pc := 2) C K_X8 45 0 (by decide) rfl (by decide) lk_f_X8_72 rfl rfl (Nat.le_of_ble_eq_true rfl) rfl dX8_work_2 (fun s1 _ => ?_)
  refine r_aload_n (pc := 5) C dX8_work_5 rfl ?_
  refine r_iconst (pc := 6) (v := 0) C dX8_work_6 (by decide) ?_
  refine r_put (pc := 7) C K_X8 45 12 (by decide) rfl (by decide) lk_f_X8_81 rfl rfl (Nat.le_of_ble_eq_true rfl) rfl dX8_work_7 (fun s2 _ => ?_)
  refine r_iload_n (pc := 10) C dX8_work_10 rfl ?_
  refine r_if_lt (pc := 11) (tgt := 20) C dX8_work_11 (by decide) (fun _ => ?_) (fun _ => ?_)
  · refine r_aload_n (pc := 20) C dX8_work_20 rfl ?_
    refine r_iconst (pc := 21) (v := 1) C dX8_work_21 (by decide) ?_
    refine r_put (pc := 22) C K_X8 45 0 (by decide) rfl (by decide) lk_f_X8_72 rfl rfl (Nat.le_of_ble_eq_true rfl) rfl dX8_work_22 (fun s3 _ => ?_)
    refine r_iconst (pc := 25) (v := 0) C dX8_work_25 (by decide) ?_
    exact r_iret (pc := 26) C dX8_work_26
  · refine r_iload_n (pc := 14) C dX8_work_14 rfl ?_
    refine r_bipush (pc := 15) (v := 9) C dX8_work_15 (by decide) ?_
    refine r_icmp_le (pc := 17) (tgt := 27) C dX8_work_17 (by decide) (fun _ => ?_) (fun _ => ?_)
    · refine r_aload_n (pc := 27) C dX8_work_27 rfl ?_
      refine r_iload_n (pc := 28) C dX8_work_28 rfl ?_
      refine r_iload_n (pc := 29) C dX8_work_29 rfl ?_
      refine r_callS (pc := 30) C (c_X8_signed (zO.ap C) _ _) lk_c_X8_signed lk_i_X8 lk_m_X8_99 lk_s_X8_signed (n := 1) (by decide +kernel) rfl ⟨rfl, rfl⟩ (by decide) (Nat.le_of_ble_eq_true rfl) ⟨Nat.zero_le _, Nat.zero_le _⟩ dX8_work_30 (fun v1 s4 _ => ?_)
      refine r_iload_n (pc := 33) C dX8_work_33 rfl ?_
      refine r_callS (pc := 34) C (c_X8_signed (zO.ap C) _ _) lk_c_X8_signed lk_i_X8 lk_m_X8_99 lk_s_X8_signed (n := 1) (by decide +kernel) rfl ⟨rfl, rfl⟩ (by decide) (Nat.le_of_ble_eq_true rfl) ⟨Nat.zero_le _, Nat.zero_le _⟩ dX8_work_34 (fun v2 s5 _ => ?_)
      refine r_callV (pc := 37) C 45 (c_X8_worked (zO.ap C) _ _ _ _) lk_c_X8_worked lk_i_X8 lk_m_X8_107 lk_n_X8_worked lk_v_X8_worked (n := 3) (by decide +kernel) rfl ⟨rfl, rfl⟩ (by decide) (by decide) rfl rfl rfl (Nat.le_of_ble_eq_true rfl) ⟨Nat.zero_le _, Nat.zero_le _⟩ dX8_work_37 (fun v3 s6 _ => ?_)
      refine r_istore (pc := 40) (lv' := [some (.ref (zad E 45)), some (.int p0), some (.int p1), some (.int p2), some (.int v3)]) C dX8_work_40 (by decide) rfl ?_
      refine r_aload_n (pc := 42) C dX8_work_42 rfl ?_
      refine r_aload_n (pc := 43) C dX8_work_43 rfl ?_
      refine r_get (pc := 44) C K_X8 45 12 (by decide) rfl (by decide) lk_f_X8_81 rfl dX8_work_44 ?_
      refine r_if_ne (pc := 47) (tgt := 54) C dX8_work_47 (by decide) (fun _ => ?_) (fun _ => ?_)
      · refine r_iconst (pc := 50) (v := 0) C dX8_work_50 (by decide) ?_
        refine r_goto (pc := 51) (tgt := 55) C dX8_work_51 (by decide) ?_
        refine r_put (pc := 55) C K_X8 45 0 (by decide) rfl (by decide) lk_f_X8_72 rfl rfl (Nat.le_of_ble_eq_true rfl) rfl dX8_work_55 (fun s8 _ => ?_)
        refine r_iload (pc := 58) C dX8_work_58 rfl ?_
        exact r_iret (pc := 60) C dX8_work_60
      · refine r_iconst (pc := 54) (v := 2) C dX8_work_54 (by decide) ?_
        refine r_put (pc := 55) C K_X8 45 0 (by decide) rfl (by decide) lk_f_X8_72 rfl rfl (Nat.le_of_ble_eq_true rfl) rfl dX8_work_55 (fun s7 _ => ?_)
        refine r_iload (pc := 58) C dX8_work_58 rfl ?_
        exact r_iret (pc := 60) C dX8_work_60
    · refine r_aload_n (pc := 20) C dX8_work_20 rfl ?_
      refine r_iconst (pc := 21) (v := 1) C dX8_work_21 (by decide) ?_
      refine r_put (pc := 22) C K_X8 45 0 (by decide) rfl (by decide) lk_f_X8_72 rfl rfl (Nat.le_of_ble_eq_true rfl) rfl dX8_work_22 (fun s9 _ => ?_)
      refine r_iconst (pc := 25) (v := 0) C dX8_work_25 (by decide) ?_
      exact r_iret (pc := 26) C dX8_work_26
theorem c_X8_work {E : zG} (hAp : zAp E) (p0 : Int32) (p1 : Int32) (p2 : Int32) (σ : zS) : zM E yX8_work cX8_work 5 (some .int) rm_X8_work (fun r : Int32 => some (.int r)) [.ref (zad E 45), .int p0, .int p1, .int p2] (f_X8_work p0 p1 p2 σ) σ :=
  zM_of (nn := 1) hAp (by decide) (Nat.le_of_ble_eq_true rfl) rfl rfl (fun Γ C => g_X8_work C p0 p1 p2 σ)
set_option maxHeartbeats 4000000 in
set_option maxRecDepth 100000 in
theorem g_X8_copied_L218 {E : zG} {Γ : zX} (C : zO E Γ RX8 cX8_copied 7 none) : ∀ (n : Nat) (x1 : Int32) (x2 : Int32) (x3 : Int32) (x4 : Int32) (x5 : Int32) (σ : zS), zJ E Γ rm_X8_copied 7 (fun _ : Unit => none) (f_X8_copied_L218 n x1 x2 x3 x4 x5 σ) σ 218 [some (.ref (zad E 45)), some (.int x1), some (.int x2), some (.int x3), some (.int x4), some (.int x5), none] [] := by
  intro n
  induction n with
  | zero => intro x1 x2 x3 x4 x5 σ; rw [f_X8_copied_L218]; exact r_none
  | succ n ih =>
    intro x1 x2 x3 x4 x5 σ
    rw [f_X8_copied_L218]
    refine r_iload (pc := 218) C dX8_copied_218 rfl ?_
    refine r_iload (pc := 220) C dX8_copied_220 rfl ?_
    refine r_icmp_ge (pc := 222) (tgt := 254) C dX8_copied_222 (by decide) (fun _ => ?_) (fun _ => ?_)
    · exact r_vret (pc := 254) C dX8_copied_254
    · refine r_aload_n (pc := 225) C dX8_copied_225 rfl ?_
      refine r_get (pc := 226) C K_X8 45 12 (by decide) rfl (by decide) lk_f_X8_81 rfl dX8_copied_226 ?_
      refine r_if_ne (pc := 229) (tgt := 254) C dX8_copied_229 (by decide) (fun _ => ?_) (fun _ => ?_)
      · refine r_aload_n (pc := 232) C dX8_copied_232 rfl ?_
        refine r_get (pc := 233) C K_X8 45 1 (by decide) rfl (by decide) lk_f_X8_7 rfl dX8_copied_233 ?_
        refine r_iload_n (pc := 236) C dX8_copied_236 rfl ?_
        refine r_iload (pc := 237) C dX8_copied_237 rfl ?_
        refine r_iadd (pc := 239) C dX8_copied_239 ?_
        refine r_aload_n (pc := 240) C dX8_copied_240 rfl ?_
        refine r_get (pc := 241) C K_X8 45 13 (by decide) rfl (by decide) lk_f_X8_23 rfl dX8_copied_241 ?_
        refine r_iload (pc := 244) C dX8_copied_244 rfl ?_
        refine r_iald (pc := 246) (t0 := 0) C 48 (by decide) rfl rfl dX8_copied_246 ?_
        refine r_iast (pc := 247) (t0 := 0) C 46 (by decide) rfl (fun _ => rfl) rfl dX8_copied_247 (fun s2 _ => ?_)
        refine r_iinc (pc := 248) (lv' := [some (.ref (zad E 45)), some (.int x1), some (.int x2), some (.int x3), some (.int x4), some (.int (x5 + (1 : Int32))), none]) C dX8_copied_248 (by decide) rfl rfl rfl ?_
        refine r_goto (pc := 251) (tgt := 218) C dX8_copied_251 (by decide) ?_
        exact ih _ _ _ _ _ _
      · exact r_vret (pc := 254) C dX8_copied_254
set_option maxHeartbeats 4000000 in
set_option maxRecDepth 100000 in
theorem g_X8_copied_L179 {E : zG} {Γ : zX} (C : zO E Γ RX8 cX8_copied 7 none) : ∀ (n : Nat) (x1 : Int32) (x2 : Int32) (x3 : Int32) (x4 : Int32) (x5 : Int32) (σ : zS), zJ E Γ rm_X8_copied 7 (fun _ : Unit => none) (f_X8_copied_L179 n x1 x2 x3 x4 x5 σ) σ 179 [some (.ref (zad E 45)), some (.int x1), some (.int x2), some (.int x3), some (.int x4), some (.int x5), none] [] := by
  intro n
  induction n with
  | zero => intro x1 x2 x3 x4 x5 σ; rw [f_X8_copied_L179]; exact r_none
  | succ n ih =>
    intro x1 x2 x3 x4 x5 σ
    rw [f_X8_copied_L179]
    refine r_iload (pc := 179) C dX8_copied_179 rfl ?_
    refine r_iload (pc := 181) C dX8_copied_181 rfl ?_
    refine r_icmp_ge (pc := 183) (tgt := 215) C dX8_copied_183 (by decide) (fun _ => ?_) (fun _ => ?_)
    · refine r_iconst (pc := 215) (v := 0) C dX8_copied_215 (by decide) ?_
      refine r_istore (pc := 216) (lv' := [some (.ref (zad E 45)), some (.int x1), some (.int x2), some (.int x3), some (.int x4), some (.int (0 : Int32)), none]) C dX8_copied_216 (by decide) rfl ?_
      exact g_X8_copied_L218 C zF _ _ _ _ _ _
    · refine r_aload_n (pc := 186) C dX8_copied_186 rfl ?_
      refine r_get (pc := 187) C K_X8 45 12 (by decide) rfl (by decide) lk_f_X8_81 rfl dX8_copied_187 ?_
      refine r_if_ne (pc := 190) (tgt := 215) C dX8_copied_190 (by decide) (fun _ => ?_) (fun _ => ?_)
      · refine r_aload_n (pc := 193) C dX8_copied_193 rfl ?_
        refine r_get (pc := 194) C K_X8 45 13 (by decide) rfl (by decide) lk_f_X8_23 rfl dX8_copied_194 ?_
        refine r_iload (pc := 197) C dX8_copied_197 rfl ?_
        refine r_aload_n (pc := 199) C dX8_copied_199 rfl ?_
        refine r_get (pc := 200) C K_X8 45 1 (by decide) rfl (by decide) lk_f_X8_7 rfl dX8_copied_200 ?_
        refine r_iload_n (pc := 203) C dX8_copied_203 rfl ?_
        refine r_iload (pc := 204) C dX8_copied_204 rfl ?_
        refine r_iadd (pc := 206) C dX8_copied_206 ?_
        refine r_iald (pc := 207) (t0 := 0) C 46 (by decide) rfl rfl dX8_copied_207 ?_
        refine r_iast (pc := 208) (t0 := 0) C 48 (by decide) rfl (fun _ => rfl) rfl dX8_copied_208 (fun s3 _ => ?_)
        refine r_iinc (pc := 209) (lv' := [some (.ref (zad E 45)), some (.int x1), some (.int x2), some (.int x3), some (.int x4), some (.int (x5 + (1 : Int32))), none]) C dX8_copied_209 (by decide) rfl rfl rfl ?_
        refine r_goto (pc := 212) (tgt := 179) C dX8_copied_212 (by decide) ?_
        exact ih _ _ _ _ _ _
      · refine r_iconst (pc := 215) (v := 0) C dX8_copied_215 (by decide) ?_
        refine r_istore (pc := 216) (lv' := [some (.ref (zad E 45)), some (.int x1), some (.int x2), some (.int x3), some (.int x4), some (.int (0 : Int32)), none]) C dX8_copied_216 (by decide) rfl ?_
        exact g_X8_copied_L218 C zF _ _ _ _ _ _
set_option maxHeartbeats 4000000 in
set_option maxRecDepth 100000 in
theorem g_X8_copied_L89 {E : zG} {Γ : zX} (C : zO E Γ RX8 cX8_copied 7 none) : ∀ (n : Nat) (x1 : Int32) (x2 : Int32) (x3 : Int32) (x4 : Int32) (x5 : Int32) (σ : zS), zJ E Γ rm_X8_copied 7 (fun _ : Unit => none) (f_X8_copied_L89 n x1 x2 x3 x4 x5 σ) σ 89 [some (.ref (zad E 45)), some (.int x1), some (.int x2), some (.int x3), some (.int x4), some (.int x5), none] [] := by
  intro n
  induction n with
  | zero => intro x1 x2 x3 x4 x5 σ; rw [f_X8_copied_L89]; exact r_none
  | succ n ih =>
    intro x1 x2 x3 x4 x5 σ
    rw [f_X8_copied_L89]
    refine r_iload (pc := 89) C dX8_copied_89 rfl ?_
    refine r_iload (pc := 91) C dX8_copied_91 rfl ?_
    refine r_icmp_ge (pc := 93) (tgt := 139) C dX8_copied_93 (by decide) (fun _ => ?_) (fun _ => ?_)
    · exact r_vret (pc := 139) C dX8_copied_139
    · refine r_aload_n (pc := 96) C dX8_copied_96 rfl ?_
      refine r_get (pc := 97) C K_X8 45 12 (by decide) rfl (by decide) lk_f_X8_81 rfl dX8_copied_97 ?_
      refine r_if_ne (pc := 100) (tgt := 139) C dX8_copied_100 (by decide) (fun _ => ?_) (fun _ => ?_)
      · refine r_aload_n (pc := 103) C dX8_copied_103 rfl ?_
        refine r_iload_n (pc := 104) C dX8_copied_104 rfl ?_
        refine r_iload (pc := 105) C dX8_copied_105 rfl ?_
        refine r_iadd (pc := 107) C dX8_copied_107 ?_
        refine r_iconst (pc := 108) (v := 0) C dX8_copied_108 (by decide) ?_
        refine r_callV (pc := 109) C 45 (c_X8_read (zO.ap C) _ _ _) lk_c_X8_read lk_i_X8 lk_m_X8_91 lk_n_X8_read lk_v_X8_read (n := 2) (by decide +kernel) rfl ⟨rfl, rfl⟩ (by decide) (by decide) rfl rfl rfl (Nat.le_of_ble_eq_true rfl) ⟨Nat.zero_le _, Nat.zero_le _⟩ dX8_copied_109 (fun v3 s6 _ => ?_)
        refine r_istore (pc := 112) (lv' := [some (.ref (zad E 45)), some (.int x1), some (.int x2), some (.int x3), some (.int x4), some (.int x5), some (.int v3)]) C dX8_copied_112 (by decide) rfl ?_
        refine r_aload_n (pc := 114) C dX8_copied_114 rfl ?_
        refine r_get (pc := 115) C K_X8 45 12 (by decide) rfl (by decide) lk_f_X8_81 rfl dX8_copied_115 ?_
        refine r_if_ne (pc := 118) (tgt := 133) C dX8_copied_118 (by decide) (fun _ => ?_) (fun _ => ?_)
        · refine r_aload_n (pc := 121) C dX8_copied_121 rfl ?_
          refine r_iload_n (pc := 122) C dX8_copied_122 rfl ?_
          refine r_iload (pc := 123) C dX8_copied_123 rfl ?_
          refine r_iadd (pc := 125) C dX8_copied_125 ?_
          refine r_iload (pc := 126) C dX8_copied_126 rfl ?_
          refine r_iconst (pc := 128) (v := 0) C dX8_copied_128 (by decide) ?_
          refine r_iconst (pc := 129) (v := 0) C dX8_copied_129 (by decide) ?_
          refine r_callV (pc := 130) C 45 (c_X8_write (zO.ap C) _ _ _ _ _) lk_c_X8_write lk_i_X8 lk_m_X8_95 lk_n_X8_write lk_v_X8_write (n := 4) (by decide +kernel) rfl ⟨rfl, rfl⟩ (by decide) (by decide) rfl rfl rfl (Nat.le_of_ble_eq_true rfl) ⟨Nat.zero_le _, Nat.zero_le _⟩ dX8_copied_130 (fun _ s7 _ => ?_)
          refine r_iinc (pc := 133) (lv' := [some (.ref (zad E 45)), some (.int x1), some (.int x2), some (.int x3), some (.int x4), some (.int (x5 + (1 : Int32))), some (.int v3)]) C dX8_copied_133 (by decide) rfl rfl rfl ?_
          refine r_goto (pc := 136) (tgt := 89) C dX8_copied_136 (by decide) ?_
          refine r_mask [true, true, true, true, true, true, false] (lv' := [some (.ref (zad E 45)), some (.int x1), some (.int x2), some (.int x3), some (.int x4), some (.int (x5 + (1 : Int32))), none]) rfl ?_
          exact ih _ _ _ _ _ _
        · refine r_iinc (pc := 133) (lv' := [some (.ref (zad E 45)), some (.int x1), some (.int x2), some (.int x3), some (.int x4), some (.int (x5 + (1 : Int32))), some (.int v3)]) C dX8_copied_133 (by decide) rfl rfl rfl ?_
          refine r_goto (pc := 136) (tgt := 89) C dX8_copied_136 (by decide) ?_
          refine r_mask [true, true, true, true, true, true, false] (lv' := [some (.ref (zad E 45)), some (.int x1), some (.int x2), some (.int x3), some (.int x4), some (.int (x5 + (1 : Int32))), none]) rfl ?_
          exact ih _ _ _ _ _ _
      · exact r_vret (pc := 139) C dX8_copied_139
set_option maxHeartbeats 4000000 in
set_option maxRecDepth 100000 in
theorem g_X8_copied_L51 {E : zG} {Γ : zX} (C : zO E Γ RX8 cX8_copied 7 none) : ∀ (n : Nat) (x1 : Int32) (x2 : Int32) (x3 : Int32) (x4 : Int32) (x5 : Int32) (σ : zS), zJ E Γ rm_X8_copied 7 (fun _ : Unit => none) (f_X8_copied_L51 n x1 x2 x3 x4 x5 σ) σ 51 [some (.ref (zad E 45)), some (.int x1), some (.int x2), some (.int x3), some (.int x4), some (.int x5), none] [] := by
  intro n
  induction n with
  | zero => intro x1 x2 x3 x4 x5 σ; rw [f_X8_copied_L51]; exact r_none
  | succ n ih =>
    intro x1 x2 x3 x4 x5 σ
    rw [f_X8_copied_L51]
    refine r_iload (pc := 51) C dX8_copied_51 rfl ?_
    refine r_iload (pc := 53) C dX8_copied_53 rfl ?_
    refine r_icmp_ge (pc := 55) (tgt := 81) C dX8_copied_55 (by decide) (fun _ => ?_) (fun _ => ?_)
    · exact r_vret (pc := 81) C dX8_copied_81
    · refine r_aload_n (pc := 58) C dX8_copied_58 rfl ?_
      refine r_get (pc := 59) C K_X8 45 12 (by decide) rfl (by decide) lk_f_X8_81 rfl dX8_copied_59 ?_
      refine r_if_ne (pc := 62) (tgt := 81) C dX8_copied_62 (by decide) (fun _ => ?_) (fun _ => ?_)
      · refine r_aload_n (pc := 65) C dX8_copied_65 rfl ?_
        refine r_get (pc := 66) C K_X8 45 1 (by decide) rfl (by decide) lk_f_X8_7 rfl dX8_copied_66 ?_
        refine r_iload_n (pc := 69) C dX8_copied_69 rfl ?_
        refine r_iload (pc := 70) C dX8_copied_70 rfl ?_
        refine r_iadd (pc := 72) C dX8_copied_72 ?_
        refine r_iconst (pc := 73) (v := 0) C dX8_copied_73 (by decide) ?_
        refine r_iast (pc := 74) (t0 := 0) C 46 (by decide) rfl (fun _ => rfl) rfl dX8_copied_74 (fun s9 _ => ?_)
        refine r_iinc (pc := 75) (lv' := [some (.ref (zad E 45)), some (.int x1), some (.int x2), some (.int x3), some (.int x4), some (.int (x5 + (1 : Int32))), none]) C dX8_copied_75 (by decide) rfl rfl rfl ?_
        refine r_goto (pc := 78) (tgt := 51) C dX8_copied_78 (by decide) ?_
        exact ih _ _ _ _ _ _
      · exact r_vret (pc := 81) C dX8_copied_81
set_option maxHeartbeats 4000000 in
set_option maxRecDepth 100000 in
theorem g_X8_copied {E : zG} {Γ : zX} (C : zO E Γ RX8 cX8_copied 7 none) (p0 : Int32) (p1 : Int32) (p2 : Int32) (σ : zS) : zJ E Γ rm_X8_copied 7 (fun _ : Unit => none) (f_X8_copied p0 p1 p2 σ) σ 0 [some (.ref (zad E 45)), some (.int p0), some (.int p1), some (.int p2), none, none, none] [] := by
  unfold f_X8_copied
  refine r_iload_n (pc := 0) C dX8_copied_0 rfl ?_
  refine r_if_ge (pc := 1) (tgt := 9) C dX8_copied_1 (by decide) (fun _ => ?_) (fun _ => ?_)
  · refine r_iload_n (pc := 9) C dX8_copied_9 rfl ?_
    refine r_istore (pc := 10) (lv' := [some (.ref (zad E 45)), some (.int p0), some (.int p1), some (.int p2), some (.int p2), none, none]) C dX8_copied_10 (by decide) rfl ?_
    refine r_iload (pc := 12) C dX8_copied_12 rfl ?_
    refine r_if_ne (pc := 14) (tgt := 18) C dX8_copied_14 (by decide) (fun _ => ?_) (fun _ => ?_)
    · exact r_vret (pc := 17) C dX8_copied_17
    · refine r_iload_n (pc := 18) C dX8_copied_18 rfl ?_
      refine r_if_ne (pc := 19) (tgt := 82) C dX8_copied_19 (by decide) (fun _ => ?_) (fun _ => ?_)
      · refine r_aload_n (pc := 22) C dX8_copied_22 rfl ?_
        refine r_iload_n (pc := 23) C dX8_copied_23 rfl ?_
        refine r_iload (pc := 24) C dX8_copied_24 rfl ?_
        refine r_callV (pc := 26) C 45 (c_X8_isThere (zO.ap C) _ _ _) lk_c_X8_isThere lk_i_X8 lk_m_X8_84 lk_n_X8_isThere lk_v_X8_isThere (n := 2) (by decide +kernel) rfl ⟨rfl, rfl⟩ (by decide) (by decide) rfl rfl rfl (Nat.le_of_ble_eq_true rfl) ⟨Nat.zero_le _, Nat.zero_le _⟩ dX8_copied_26 (fun v4 s8 _ => ?_)
        refine r_if_eq (pc := 29) (tgt := 48) C dX8_copied_29 (by decide) (fun _ => ?_) (fun _ => ?_)
        · refine r_iconst (pc := 48) (v := 0) C dX8_copied_48 (by decide) ?_
          refine r_istore (pc := 49) (lv' := [some (.ref (zad E 45)), some (.int p0), some (.int p1), some (.int p2), some (.int p2), some (.int (0 : Int32)), none]) C dX8_copied_49 (by decide) rfl ?_
          exact g_X8_copied_L51 C zF _ _ _ _ _ _
        · refine r_iload_n (pc := 32) C dX8_copied_32 rfl ?_
          refine r_iload (pc := 33) C dX8_copied_33 rfl ?_
          refine r_iadd (pc := 35) C dX8_copied_35 ?_
          refine r_aload_n (pc := 36) C dX8_copied_36 rfl ?_
          refine r_get (pc := 37) C K_X8 45 3 (by decide) rfl (by decide) lk_f_X8_88 rfl dX8_copied_37 ?_
          refine r_icmp_le (pc := 40) (tgt := 48) C dX8_copied_40 (by decide) (fun _ => ?_) (fun _ => ?_)
          · refine r_iconst (pc := 48) (v := 0) C dX8_copied_48 (by decide) ?_
            refine r_istore (pc := 49) (lv' := [some (.ref (zad E 45)), some (.int p0), some (.int p1), some (.int p2), some (.int p2), some (.int (0 : Int32)), none]) C dX8_copied_49 (by decide) rfl ?_
            exact g_X8_copied_L51 C zF _ _ _ _ _ _
          · refine r_aload_n (pc := 43) C dX8_copied_43 rfl ?_
            refine r_iconst (pc := 44) (v := 3) C dX8_copied_44 (by decide) ?_
            refine r_put (pc := 45) C K_X8 45 12 (by decide) rfl (by decide) lk_f_X8_81 rfl rfl (Nat.le_of_ble_eq_true rfl) rfl dX8_copied_45 (fun s10 _ => ?_)
            refine r_iconst (pc := 48) (v := 0) C dX8_copied_48 (by decide) ?_
            refine r_istore (pc := 49) (lv' := [some (.ref (zad E 45)), some (.int p0), some (.int p1), some (.int p2), some (.int p2), some (.int (0 : Int32)), none]) C dX8_copied_49 (by decide) rfl ?_
            exact g_X8_copied_L51 C zF _ _ _ _ _ _
      · refine r_iload_n (pc := 82) C dX8_copied_82 rfl ?_
        refine r_if_ge (pc := 83) (tgt := 140) C dX8_copied_83 (by decide) (fun _ => ?_) (fun _ => ?_)
        · refine r_aload_n (pc := 140) C dX8_copied_140 rfl ?_
          refine r_iload_n (pc := 141) C dX8_copied_141 rfl ?_
          refine r_iload (pc := 142) C dX8_copied_142 rfl ?_
          refine r_callV (pc := 144) C 45 (c_X8_isThere (zO.ap C) _ _ _) lk_c_X8_isThere lk_i_X8 lk_m_X8_84 lk_n_X8_isThere lk_v_X8_isThere (n := 2) (by decide +kernel) rfl ⟨rfl, rfl⟩ (by decide) (by decide) rfl rfl rfl (Nat.le_of_ble_eq_true rfl) ⟨Nat.zero_le _, Nat.zero_le _⟩ dX8_copied_144 (fun v1 s1 _ => ?_)
          refine r_if_eq (pc := 147) (tgt := 176) C dX8_copied_147 (by decide) (fun _ => ?_) (fun _ => ?_)
          · refine r_iconst (pc := 176) (v := 0) C dX8_copied_176 (by decide) ?_
            refine r_istore (pc := 177) (lv' := [some (.ref (zad E 45)), some (.int p0), some (.int p1), some (.int p2), some (.int p2), some (.int (0 : Int32)), none]) C dX8_copied_177 (by decide) rfl ?_
            exact g_X8_copied_L179 C zF _ _ _ _ _ _
          · refine r_aload_n (pc := 150) C dX8_copied_150 rfl ?_
            refine r_iload_n (pc := 151) C dX8_copied_151 rfl ?_
            refine r_iload (pc := 152) C dX8_copied_152 rfl ?_
            refine r_callV (pc := 154) C 45 (c_X8_isThere (zO.ap C) _ _ _) lk_c_X8_isThere lk_i_X8 lk_m_X8_84 lk_n_X8_isThere lk_v_X8_isThere (n := 2) (by decide +kernel) rfl ⟨rfl, rfl⟩ (by decide) (by decide) rfl rfl rfl (Nat.le_of_ble_eq_true rfl) ⟨Nat.zero_le _, Nat.zero_le _⟩ dX8_copied_154 (fun v2 s4 _ => ?_)
            refine r_if_eq (pc := 157) (tgt := 176) C dX8_copied_157 (by decide) (fun _ => ?_) (fun _ => ?_)
            · refine r_iconst (pc := 176) (v := 0) C dX8_copied_176 (by decide) ?_
              refine r_istore (pc := 177) (lv' := [some (.ref (zad E 45)), some (.int p0), some (.int p1), some (.int p2), some (.int p2), some (.int (0 : Int32)), none]) C dX8_copied_177 (by decide) rfl ?_
              exact g_X8_copied_L179 C zF _ _ _ _ _ _
            · refine r_iload_n (pc := 160) C dX8_copied_160 rfl ?_
              refine r_iload (pc := 161) C dX8_copied_161 rfl ?_
              refine r_iadd (pc := 163) C dX8_copied_163 ?_
              refine r_aload_n (pc := 164) C dX8_copied_164 rfl ?_
              refine r_get (pc := 165) C K_X8 45 3 (by decide) rfl (by decide) lk_f_X8_88 rfl dX8_copied_165 ?_
              refine r_icmp_le (pc := 168) (tgt := 176) C dX8_copied_168 (by decide) (fun _ => ?_) (fun _ => ?_)
              · refine r_iconst (pc := 176) (v := 0) C dX8_copied_176 (by decide) ?_
                refine r_istore (pc := 177) (lv' := [some (.ref (zad E 45)), some (.int p0), some (.int p1), some (.int p2), some (.int p2), some (.int (0 : Int32)), none]) C dX8_copied_177 (by decide) rfl ?_
                exact g_X8_copied_L179 C zF _ _ _ _ _ _
              · refine r_aload_n (pc := 171) C dX8_copied_171 rfl ?_
                refine r_iconst (pc := 172) (v := 3) C dX8_copied_172 (by decide) ?_
                refine r_put (pc := 173) C K_X8 45 12 (by decide) rfl (by decide) lk_f_X8_81 rfl rfl (Nat.le_of_ble_eq_true rfl) rfl dX8_copied_173 (fun s5 _ => ?_)
                refine r_iconst (pc := 176) (v := 0) C dX8_copied_176 (by decide) ?_
                refine r_istore (pc := 177) (lv' := [some (.ref (zad E 45)), some (.int p0), some (.int p1), some (.int p2), some (.int p2), some (.int (0 : Int32)), none]) C dX8_copied_177 (by decide) rfl ?_
                exact g_X8_copied_L179 C zF _ _ _ _ _ _
        · refine r_iconst (pc := 86) (v := 0) C dX8_copied_86 (by decide) ?_
          refine r_istore (pc := 87) (lv' := [some (.ref (zad E 45)), some (.int p0), some (.int p1), some (.int p2), some (.int p2), some (.int (0 : Int32)), none]) C dX8_copied_87 (by decide) rfl ?_
          exact g_X8_copied_L89 C zF _ _ _ _ _ _
  · refine r_iload_n (pc := 4) C dX8_copied_4 rfl ?_
    refine r_ineg (pc := 5) C dX8_copied_5 ?_
    refine r_goto (pc := 6) (tgt := 10) C dX8_copied_6 (by decide) ?_
    refine r_istore (pc := 10) (lv' := [some (.ref (zad E 45)), some (.int p0), some (.int p1), some (.int p2), some (.int (-p2)), none, none]) C dX8_copied_10 (by decide) rfl ?_
    refine r_iload (pc := 12) C dX8_copied_12 rfl ?_
    refine r_if_ne (pc := 14) (tgt := 18) C dX8_copied_14 (by decide) (fun _ => ?_) (fun _ => ?_)
    · exact r_vret (pc := 17) C dX8_copied_17
    · refine r_iload_n (pc := 18) C dX8_copied_18 rfl ?_
      refine r_if_ne (pc := 19) (tgt := 82) C dX8_copied_19 (by decide) (fun _ => ?_) (fun _ => ?_)
      · refine r_aload_n (pc := 22) C dX8_copied_22 rfl ?_
        refine r_iload_n (pc := 23) C dX8_copied_23 rfl ?_
        refine r_iload (pc := 24) C dX8_copied_24 rfl ?_
        refine r_callV (pc := 26) C 45 (c_X8_isThere (zO.ap C) _ _ _) lk_c_X8_isThere lk_i_X8 lk_m_X8_84 lk_n_X8_isThere lk_v_X8_isThere (n := 2) (by decide +kernel) rfl ⟨rfl, rfl⟩ (by decide) (by decide) rfl rfl rfl (Nat.le_of_ble_eq_true rfl) ⟨Nat.zero_le _, Nat.zero_le _⟩ dX8_copied_26 (fun v7 s14 _ => ?_)
        refine r_if_eq (pc := 29) (tgt := 48) C dX8_copied_29 (by decide) (fun _ => ?_) (fun _ => ?_)
        · refine r_iconst (pc := 48) (v := 0) C dX8_copied_48 (by decide) ?_
          refine r_istore (pc := 49) (lv' := [some (.ref (zad E 45)), some (.int p0), some (.int p1), some (.int p2), some (.int (-p2)), some (.int (0 : Int32)), none]) C dX8_copied_49 (by decide) rfl ?_
          exact g_X8_copied_L51 C zF _ _ _ _ _ _
        · refine r_iload_n (pc := 32) C dX8_copied_32 rfl ?_
          refine r_iload (pc := 33) C dX8_copied_33 rfl ?_
          refine r_iadd (pc := 35) C dX8_copied_35 ?_
          refine r_aload_n (pc := 36) C dX8_copied_36 rfl ?_
          refine r_get (pc := 37) C K_X8 45 3 (by decide) rfl (by decide) lk_f_X8_88 rfl dX8_copied_37 ?_
          refine r_icmp_le (pc := 40) (tgt := 48) C dX8_copied_40 (by decide) (fun _ => ?_) (fun _ => ?_)
          · refine r_iconst (pc := 48) (v := 0) C dX8_copied_48 (by decide) ?_
            refine r_istore (pc := 49) (lv' := [some (.ref (zad E 45)), some (.int p0), some (.int p1), some (.int p2), some (.int (-p2)), some (.int (0 : Int32)), none]) C dX8_copied_49 (by decide) rfl ?_
            exact g_X8_copied_L51 C zF _ _ _ _ _ _
          · refine r_aload_n (pc := 43) C dX8_copied_43 rfl ?_
            refine r_iconst (pc := 44) (v := 3) C dX8_copied_44 (by decide) ?_
            refine r_put (pc := 45) C K_X8 45 12 (by decide) rfl (by decide) lk_f_X8_81 rfl rfl (Nat.le_of_ble_eq_true rfl) rfl dX8_copied_45 (fun s15 _ => ?_)
            refine r_iconst (pc := 48) (v := 0) C dX8_copied_48 (by decide) ?_
            refine r_istore (pc := 49) (lv' := [some (.ref (zad E 45)), some (.int p0), some (.int p1), some (.int p2), some (.int (-p2)), some (.int (0 : Int32)), none]) C dX8_copied_49 (by decide) rfl ?_
            exact g_X8_copied_L51 C zF _ _ _ _ _ _
      · refine r_iload_n (pc := 82) C dX8_copied_82 rfl ?_
        refine r_if_ge (pc := 83) (tgt := 140) C dX8_copied_83 (by decide) (fun _ => ?_) (fun _ => ?_)
        · refine r_aload_n (pc := 140) C dX8_copied_140 rfl ?_
          refine r_iload_n (pc := 141) C dX8_copied_141 rfl ?_
          refine r_iload (pc := 142) C dX8_copied_142 rfl ?_
          refine r_callV (pc := 144) C 45 (c_X8_isThere (zO.ap C) _ _ _) lk_c_X8_isThere lk_i_X8 lk_m_X8_84 lk_n_X8_isThere lk_v_X8_isThere (n := 2) (by decide +kernel) rfl ⟨rfl, rfl⟩ (by decide) (by decide) rfl rfl rfl (Nat.le_of_ble_eq_true rfl) ⟨Nat.zero_le _, Nat.zero_le _⟩ dX8_copied_144 (fun v5 s11 _ => ?_)
          refine r_if_eq (pc := 147) (tgt := 176) C dX8_copied_147 (by decide) (fun _ => ?_) (fun _ => ?_)
          · refine r_iconst (pc := 176) (v := 0) C dX8_copied_176 (by decide) ?_
            refine r_istore (pc := 177) (lv' := [some (.ref (zad E 45)), some (.int p0), some (.int p1), some (.int p2), some (.int (-p2)), some (.int (0 : Int32)), none]) C dX8_copied_177 (by decide) rfl ?_
            exact g_X8_copied_L179 C zF _ _ _ _ _ _
          · refine r_aload_n (pc := 150) C dX8_copied_150 rfl ?_
            refine r_iload_n (pc := 151) C dX8_copied_151 rfl ?_
            refine r_iload (pc := 152) C dX8_copied_152 rfl ?_
            refine r_callV (pc := 154) C 45 (c_X8_isThere (zO.ap C) _ _ _) lk_c_X8_isThere lk_i_X8 lk_m_X8_84 lk_n_X8_isThere lk_v_X8_isThere (n := 2) (by decide +kernel) rfl ⟨rfl, rfl⟩ (by decide) (by decide) rfl rfl rfl (Nat.le_of_ble_eq_true rfl) ⟨Nat.zero_le _, Nat.zero_le _⟩ dX8_copied_154 (fun v6 s12 _ => ?_)
            refine r_if_eq (pc := 157) (tgt := 176) C dX8_copied_157 (by decide) (fun _ => ?_) (fun _ => ?_)
            · refine r_iconst (pc := 176) (v := 0) C dX8_copied_176 (by decide) ?_
              refine r_istore (pc := 177) (lv' := [some (.ref (zad E 45)), some (.int p0), some (.int p1), some (.int p2), some (.int (-p2)), some (.int (0 : Int32)), none]) C dX8_copied_177 (by decide) rfl ?_
              exact g_X8_copied_L179 C zF _ _ _ _ _ _
            · refine r_iload_n (pc := 160) C dX8_copied_160 rfl ?_
              refine r_iload (pc := 161) C dX8_copied_161 rfl ?_
              refine r_iadd (pc := 163) C dX8_copied_163 ?_
              refine r_aload_n (pc := 164) C dX8_copied_164 rfl ?_
              refine r_get (pc := 165) C K_X8 45 3 (by decide) rfl (by decide) lk_f_X8_88 rfl dX8_copied_165 ?_
              refine r_icmp_le (pc := 168) (tgt := 176) C dX8_copied_168 (by decide) (fun _ => ?_) (fun _ => ?_)
              · refine r_iconst (pc := 176) (v := 0) C dX8_copied_176 (by decide) ?_
                refine r_istore (pc := 177) (lv' := [some (.ref (zad E 45)), some (.int p0), some (.int p1), some (.int p2), some (.int (-p2)), some (.int (0 : Int32)), none]) C dX8_copied_177 (by decide) rfl ?_
                exact g_X8_copied_L179 C zF _ _ _ _ _ _
              · refine r_aload_n (pc := 171) C dX8_copied_171 rfl ?_
                refine r_iconst (pc := 172) (v := 3) C dX8_copied_172 (by decide) ?_
                refine r_put (pc := 173) C K_X8 45 12 (by decide) rfl (by decide) lk_f_X8_81 rfl rfl (Nat.le_of_ble_eq_true rfl) rfl dX8_copied_173 (fun s13 _ => ?_)
                refine r_iconst (pc := 176) (v := 0) C dX8_copied_176 (by decide) ?_
                refine r_istore (pc := 177) (lv' := [some (.ref (zad E 45)), some (.int p0), some (.int p1), some (.int p2), some (.int (-p2)), some (.int (0 : Int32)), none]) C dX8_copied_177 (by decide) rfl ?_
                exact g_X8_copied_L179 C zF _ _ _ _ _ _
        · refine r_iconst (pc := 86) (v := 0) C dX8_copied_86 (by decide) ?_
          refine r_istore (pc := 87) (lv' := [some (.ref (zad E 45)), some (.int p0), some (.int p1), some (.int p2), some (.int (-p2)), some (.int (0 : Int32)), none]) C dX8_copied_87 (by decide) rfl ?_
          exact g_X8_copied_L89 C zF _ _ _ _ _ _
theorem c_X8_copied {E : zG} (hAp : zAp E) (p0 : Int32) (p1 : Int32) (p2 : Int32) (σ : zS) : zM E yX8_copied cX8_copied 7 none rm_X8_copied (fun _ : Unit => none) [.ref (zad E 45), .int p0, .int p1, .int p2] (f_X8_copied p0 p1 p2 σ) σ :=
  zM_of (nn := 3) hAp (by decide) (Nat.le_of_ble_eq_true rfl) rfl rfl (fun Γ C => g_X8_copied C p0 p1 p2 σ)
set_option maxHeartbeats 4000000 in
set_option maxRecDepth 100000 in
theorem g_X8_copy {E : zG} {Γ : zX} (C : zO E Γ RX8 cX8_copy 4 (some .int)) (p0 : Int32) (p1 : Int32) (p2 : Int32) (σ : zS) : zJ E Γ rm_X8_copy 4 (fun r : Int32 => some (.int r)) (f_X8_copy p0 p1 p2 σ) σ 0 [some (.ref (zad E 45)), some (.int p0), some (.int p1), some (.int p2)] [] := by
  unfold f_X8_copy
  refine r_aload_n (pc := 0) C dX8_copy_0 rfl ?_
  refine r_iconst (pc := 1) (v := 0) C dX8_copy_1 (by decide) ?_
  refine r_put (pc := 2) C K_X8 45 0 (by decide) rfl (by decide) lk_f_X8_72 rfl rfl (Nat.le_of_ble_eq_true rfl) rfl dX8_copy_2 (fun s1 _ => ?_)
  refine r_aload_n (pc := 5) C dX8_copy_5 rfl ?_
  refine r_iconst (pc := 6) (v := 0) C dX8_copy_6 (by decide) ?_
  refine r_put (pc := 7) C K_X8 45 12 (by decide) rfl (by decide) lk_f_X8_81 rfl rfl (Nat.le_of_ble_eq_true rfl) rfl dX8_copy_7 (fun s2 _ => ?_)
  refine r_aload_n (pc := 10) C dX8_copy_10 rfl ?_
  refine r_iload_n (pc := 11) C dX8_copy_11 rfl ?_
  refine r_ldc (pc := 12) (v := 65535) C dX8_copy_12 lk_k_X8_75 ?_
  refine r_iand (pc := 14) C dX8_copy_14 ?_
  refine r_iload_n (pc := 15) C dX8_copy_15 rfl ?_
  refine r_ldc (pc := 16) (v := 65535) C dX8_copy_16 lk_k_X8_75 ?_
  refine r_iand (pc := 18) C dX8_copy_18 ?_
  refine r_iload_n (pc := 19) C dX8_copy_19 rfl ?_
  refine r_callS (pc := 20) C (c_X8_signed (zO.ap C) _ _) lk_c_X8_signed lk_i_X8 lk_m_X8_99 lk_s_X8_signed (n := 1) (by decide +kernel) rfl ⟨rfl, rfl⟩ (by decide) (Nat.le_of_ble_eq_true rfl) ⟨Nat.zero_le _, Nat.zero_le _⟩ dX8_copy_20 (fun v1 s3 _ => ?_)
  refine r_callV (pc := 23) C 45 (c_X8_copied (zO.ap C) _ _ _ _) lk_c_X8_copied lk_i_X8 lk_m_X8_111 lk_n_X8_copied lk_v_X8_copied (n := 3) (by decide +kernel) rfl ⟨rfl, rfl⟩ (by decide) (by decide) rfl rfl rfl (Nat.le_of_ble_eq_true rfl) ⟨Nat.zero_le _, Nat.zero_le _⟩ dX8_copy_23 (fun _ s4 _ => ?_)
  refine r_aload_n (pc := 26) C dX8_copy_26 rfl ?_
  refine r_get (pc := 27) C K_X8 45 12 (by decide) rfl (by decide) lk_f_X8_81 rfl dX8_copy_27 ?_
  refine r_if_ne (pc := 30) (tgt := 37) C dX8_copy_30 (by decide) (fun _ => ?_) (fun _ => ?_)
  · refine r_iconst (pc := 33) (v := 1) C dX8_copy_33 (by decide) ?_
    refine r_goto (pc := 34) (tgt := 44) C dX8_copy_34 (by decide) ?_
    exact r_iret (pc := 44) C dX8_copy_44
  · refine r_bipush (pc := 37) (v := -10) C dX8_copy_37 (by decide) ?_
    refine r_aload_n (pc := 39) C dX8_copy_39 rfl ?_
    refine r_get (pc := 40) C K_X8 45 12 (by decide) rfl (by decide) lk_f_X8_81 rfl dX8_copy_40 ?_
    refine r_isub (pc := 43) C dX8_copy_43 ?_
    exact r_iret (pc := 44) C dX8_copy_44
theorem c_X8_copy {E : zG} (hAp : zAp E) (p0 : Int32) (p1 : Int32) (p2 : Int32) (σ : zS) : zM E yX8_copy cX8_copy 4 (some .int) rm_X8_copy (fun r : Int32 => some (.int r)) [.ref (zad E 45), .int p0, .int p1, .int p2] (f_X8_copy p0 p1 p2 σ) σ :=
  zM_of (nn := 0) hAp (by decide) (Nat.le_of_ble_eq_true rfl) rfl rfl (fun Γ C => g_X8_copy C p0 p1 p2 σ)
set_option maxHeartbeats 4000000 in
set_option maxRecDepth 100000 in
theorem g_X8_looked_L13 {E : zG} {Γ : zX} (C : zO E Γ RX8 cX8_looked 9 (some .int)) : ∀ (n : Nat) (x1 : Int32) (x2 : Int32) (x3 : Int32) (x4 : Int32) (x5 : Int32) (x6 : Int32) (x7 : Int32) (σ : zS), zJ E Γ rm_X8_looked 9 (fun r : Int32 => some (.int r)) (f_X8_looked_L13 n x1 x2 x3 x4 x5 x6 x7 σ) σ 13 [some (.ref (zad E 45)), some (.int x1), some (.int x2), some (.int x3), some (.int x4), some (.int x5), some (.int x6), some (.int x7), none] [] := by
  intro n
  induction n with
  | zero => intro x1 x2 x3 x4 x5 x6 x7 σ; rw [f_X8_looked_L13]; exact r_none
  | succ n ih =>
    intro x1 x2 x3 x4 x5 x6 x7 σ
    rw [f_X8_looked_L13]
    refine r_iload (pc := 13) C dX8_looked_13 rfl ?_
    refine r_iload_n (pc := 15) C dX8_looked_15 rfl ?_
    refine r_icmp_ge (pc := 16) (tgt := 71) C dX8_looked_16 (by decide) (fun _ => ?_) (fun _ => ?_)
    · refine r_iconst (pc := 71) (v := 0) C dX8_looked_71 (by decide) ?_
      exact r_iret (pc := 72) C dX8_looked_72
    · refine r_aload_n (pc := 19) C dX8_looked_19 rfl ?_
      refine r_iload (pc := 20) C dX8_looked_20 rfl ?_
      refine r_iload (pc := 22) C dX8_looked_22 rfl ?_
      refine r_sipush (pc := 24) (v := 128) C dX8_looked_24 (by decide) ?_
      refine r_icmp_lt (pc := 27) (tgt := 34) C dX8_looked_27 (by decide) (fun _ => ?_) (fun _ => ?_)
      · refine r_iconst (pc := 34) (v := 0) C dX8_looked_34 (by decide) ?_
        refine r_callV (pc := 35) C 45 (c_X8_read (zO.ap C) _ _ _) lk_c_X8_read lk_i_X8 lk_m_X8_91 lk_n_X8_read lk_v_X8_read (n := 2) (by decide +kernel) rfl ⟨rfl, rfl⟩ (by decide) (by decide) rfl rfl rfl (Nat.le_of_ble_eq_true rfl) ⟨Nat.zero_le _, Nat.zero_le _⟩ dX8_looked_35 (fun v2 s1 _ => ?_)
        refine r_istore (pc := 38) (lv' := [some (.ref (zad E 45)), some (.int x1), some (.int x2), some (.int x3), some (.int x4), some (.int x5), some (.int x6), some (.int x7), some (.int v2)]) C dX8_looked_38 (by decide) rfl ?_
        refine r_aload_n (pc := 40) C dX8_looked_40 rfl ?_
        refine r_get (pc := 41) C K_X8 45 12 (by decide) rfl (by decide) lk_f_X8_81 rfl dX8_looked_41 ?_
        refine r_if_eq (pc := 44) (tgt := 49) C dX8_looked_44 (by decide) (fun _ => ?_) (fun _ => ?_)
        · refine r_iload (pc := 49) C dX8_looked_49 rfl ?_
          refine r_iload_n (pc := 51) C dX8_looked_51 rfl ?_
          refine r_icmp_ne (pc := 52) (tgt := 58) C dX8_looked_52 (by decide) (fun _ => ?_) (fun _ => ?_)
          · refine r_iload (pc := 55) C dX8_looked_55 rfl ?_
            exact r_iret (pc := 57) C dX8_looked_57
          · refine r_iload (pc := 58) C dX8_looked_58 rfl ?_
            refine r_iload (pc := 60) C dX8_looked_60 rfl ?_
            refine r_iadd (pc := 62) C dX8_looked_62 ?_
            refine r_istore (pc := 63) (lv' := [some (.ref (zad E 45)), some (.int x1), some (.int x2), some (.int x3), some (.int x4), some (.int x5), some (.int (x6 + x5)), some (.int x7), some (.int v2)]) C dX8_looked_63 (by decide) rfl ?_
            refine r_iinc (pc := 65) (lv' := [some (.ref (zad E 45)), some (.int x1), some (.int x2), some (.int x3), some (.int x4), some (.int x5), some (.int (x6 + x5)), some (.int (x7 + (1 : Int32))), some (.int v2)]) C dX8_looked_65 (by decide) rfl rfl rfl ?_
            refine r_goto (pc := 68) (tgt := 13) C dX8_looked_68 (by decide) ?_
            refine r_mask [true, true, true, true, true, true, true, true, false] (lv' := [some (.ref (zad E 45)), some (.int x1), some (.int x2), some (.int x3), some (.int x4), some (.int x5), some (.int (x6 + x5)), some (.int (x7 + (1 : Int32))), none]) rfl ?_
            exact ih _ _ _ _ _ _ _ _
        · refine r_iconst (pc := 47) (v := 0) C dX8_looked_47 (by decide) ?_
          exact r_iret (pc := 48) C dX8_looked_48
      · refine r_iconst (pc := 30) (v := 1) C dX8_looked_30 (by decide) ?_
        refine r_goto (pc := 31) (tgt := 35) C dX8_looked_31 (by decide) ?_
        refine r_callV (pc := 35) C 45 (c_X8_read (zO.ap C) _ _ _) lk_c_X8_read lk_i_X8 lk_m_X8_91 lk_n_X8_read lk_v_X8_read (n := 2) (by decide +kernel) rfl ⟨rfl, rfl⟩ (by decide) (by decide) rfl rfl rfl (Nat.le_of_ble_eq_true rfl) ⟨Nat.zero_le _, Nat.zero_le _⟩ dX8_looked_35 (fun v3 s2 _ => ?_)
        refine r_istore (pc := 38) (lv' := [some (.ref (zad E 45)), some (.int x1), some (.int x2), some (.int x3), some (.int x4), some (.int x5), some (.int x6), some (.int x7), some (.int v3)]) C dX8_looked_38 (by decide) rfl ?_
        refine r_aload_n (pc := 40) C dX8_looked_40 rfl ?_
        refine r_get (pc := 41) C K_X8 45 12 (by decide) rfl (by decide) lk_f_X8_81 rfl dX8_looked_41 ?_
        refine r_if_eq (pc := 44) (tgt := 49) C dX8_looked_44 (by decide) (fun _ => ?_) (fun _ => ?_)
        · refine r_iload (pc := 49) C dX8_looked_49 rfl ?_
          refine r_iload_n (pc := 51) C dX8_looked_51 rfl ?_
          refine r_icmp_ne (pc := 52) (tgt := 58) C dX8_looked_52 (by decide) (fun _ => ?_) (fun _ => ?_)
          · refine r_iload (pc := 55) C dX8_looked_55 rfl ?_
            exact r_iret (pc := 57) C dX8_looked_57
          · refine r_iload (pc := 58) C dX8_looked_58 rfl ?_
            refine r_iload (pc := 60) C dX8_looked_60 rfl ?_
            refine r_iadd (pc := 62) C dX8_looked_62 ?_
            refine r_istore (pc := 63) (lv' := [some (.ref (zad E 45)), some (.int x1), some (.int x2), some (.int x3), some (.int x4), some (.int x5), some (.int (x6 + x5)), some (.int x7), some (.int v3)]) C dX8_looked_63 (by decide) rfl ?_
            refine r_iinc (pc := 65) (lv' := [some (.ref (zad E 45)), some (.int x1), some (.int x2), some (.int x3), some (.int x4), some (.int x5), some (.int (x6 + x5)), some (.int (x7 + (1 : Int32))), some (.int v3)]) C dX8_looked_65 (by decide) rfl rfl rfl ?_
            refine r_goto (pc := 68) (tgt := 13) C dX8_looked_68 (by decide) ?_
            refine r_mask [true, true, true, true, true, true, true, true, false] (lv' := [some (.ref (zad E 45)), some (.int x1), some (.int x2), some (.int x3), some (.int x4), some (.int x5), some (.int (x6 + x5)), some (.int (x7 + (1 : Int32))), none]) rfl ?_
            exact ih _ _ _ _ _ _ _ _
        · refine r_iconst (pc := 47) (v := 0) C dX8_looked_47 (by decide) ?_
          exact r_iret (pc := 48) C dX8_looked_48
set_option maxHeartbeats 4000000 in
set_option maxRecDepth 100000 in
theorem g_X8_looked {E : zG} {Γ : zX} (C : zO E Γ RX8 cX8_looked 9 (some .int)) (p0 : Int32) (p1 : Int32) (p2 : Int32) (p3 : Int32) (σ : zS) : zJ E Γ rm_X8_looked 9 (fun r : Int32 => some (.int r)) (f_X8_looked p0 p1 p2 p3 σ) σ 0 [some (.ref (zad E 45)), some (.int p0), some (.int p1), some (.int p2), some (.int p3), none, none, none, none] [] := by
  unfold f_X8_looked
  refine r_iload (pc := 0) C dX8_looked_0 rfl ?_
  refine r_bipush (pc := 2) (v := 127) C dX8_looked_2 (by decide) ?_
  refine r_iand (pc := 4) C dX8_looked_4 ?_
  refine r_leti (fun v1 => ?_)
  refine r_istore (pc := 5) (lv' := [some (.ref (zad E 45)), some (.int p0), some (.int p1), some (.int p2), some (.int p3), some (.int v1), none, none, none]) C dX8_looked_5 (by decide) rfl ?_
  refine r_iload_n (pc := 7) C dX8_looked_7 rfl ?_
  refine r_istore (pc := 8) (lv' := [some (.ref (zad E 45)), some (.int p0), some (.int p1), some (.int p2), some (.int p3), some (.int v1), some (.int p1), none, none]) C dX8_looked_8 (by decide) rfl ?_
  refine r_iconst (pc := 10) (v := 0) C dX8_looked_10 (by decide) ?_
  refine r_istore (pc := 11) (lv' := [some (.ref (zad E 45)), some (.int p0), some (.int p1), some (.int p2), some (.int p3), some (.int v1), some (.int p1), some (.int (0 : Int32)), none]) C dX8_looked_11 (by decide) rfl ?_
  exact g_X8_looked_L13 C zF _ _ _ _ _ _ _ _
theorem c_X8_looked {E : zG} (hAp : zAp E) (p0 : Int32) (p1 : Int32) (p2 : Int32) (p3 : Int32) (σ : zS) : zM E yX8_looked cX8_looked 9 (some .int) rm_X8_looked (fun r : Int32 => some (.int r)) [.ref (zad E 45), .int p0, .int p1, .int p2, .int p3] (f_X8_looked p0 p1 p2 p3 σ) σ :=
  zM_of (nn := 4) hAp (by decide) (Nat.le_of_ble_eq_true rfl) rfl rfl (fun Γ C => g_X8_looked C p0 p1 p2 p3 σ)
set_option maxHeartbeats 4000000 in
set_option maxRecDepth 100000 in
theorem g_X8_look {E : zG} {Γ : zX} (C : zO E Γ RX8 cX8_look 6 (some .int)) (p0 : Int32) (p1 : Int32) (p2 : Int32) (p3 : Int32) (σ : zS) : zJ E Γ rm_X8_look 6 (fun r : Int32 => some (.int r)) (f_X8_look p0 p1 p2 p3 σ) σ 0 [some (.ref (zad E 45)), some (.int p0), some (.int p1), some (.int p2), some (.int p3), none] [] := by
  unfold f_X8_look
  refine r_aload_n (pc := 0) C dX8_look_0 rfl ?_
  refine r_iconst (pc := 1) (v := 0) C dX8_look_1 (by decide) ?_
  refine r_put (pc := 2) C K_X8 45 0 (by decide) rfl (by decide) lk_f_X8_72 rfl rfl (Nat.le_of_ble_eq_true rfl) rfl dX8_look_2 (fun s1 _ => ?_)
  refine r_iload (pc := 5) C dX8_look_5 rfl ?_
  refine r_if_lt (pc := 7) (tgt := 18) C dX8_look_7 (by decide) (fun _ => ?_) (fun _ => ?_)
  · refine r_bipush (pc := 18) (v := -2) C dX8_look_18 (by decide) ?_
    exact r_iret (pc := 20) C dX8_look_20
  · refine r_iload (pc := 10) C dX8_look_10 rfl ?_
    refine r_sipush (pc := 12) (v := 255) C dX8_look_12 (by decide) ?_
    refine r_icmp_le (pc := 15) (tgt := 21) C dX8_look_15 (by decide) (fun _ => ?_) (fun _ => ?_)
    · refine r_aload_n (pc := 21) C dX8_look_21 rfl ?_
      refine r_iconst (pc := 22) (v := 0) C dX8_look_22 (by decide) ?_
      refine r_put (pc := 23) C K_X8 45 12 (by decide) rfl (by decide) lk_f_X8_81 rfl rfl (Nat.le_of_ble_eq_true rfl) rfl dX8_look_23 (fun s2 _ => ?_)
      refine r_aload_n (pc := 26) C dX8_look_26 rfl ?_
      refine r_iload_n (pc := 27) C dX8_look_27 rfl ?_
      refine r_ldc (pc := 28) (v := 65535) C dX8_look_28 lk_k_X8_75 ?_
      refine r_iand (pc := 30) C dX8_look_30 ?_
      refine r_iload_n (pc := 31) C dX8_look_31 rfl ?_
      refine r_ldc (pc := 32) (v := 65535) C dX8_look_32 lk_k_X8_75 ?_
      refine r_iand (pc := 34) C dX8_look_34 ?_
      refine r_iload_n (pc := 35) C dX8_look_35 rfl ?_
      refine r_callS (pc := 36) C (c_X8_signed (zO.ap C) _ _) lk_c_X8_signed lk_i_X8 lk_m_X8_99 lk_s_X8_signed (n := 1) (by decide +kernel) rfl ⟨rfl, rfl⟩ (by decide) (Nat.le_of_ble_eq_true rfl) ⟨Nat.zero_le _, Nat.zero_le _⟩ dX8_look_36 (fun v1 s3 _ => ?_)
      refine r_iload (pc := 39) C dX8_look_39 rfl ?_
      refine r_callV (pc := 41) C 45 (c_X8_looked (zO.ap C) _ _ _ _ _) lk_c_X8_looked lk_i_X8 lk_m_X8_115 lk_n_X8_looked lk_v_X8_looked (n := 4) (by decide +kernel) rfl ⟨rfl, rfl⟩ (by decide) (by decide) rfl rfl rfl (Nat.le_of_ble_eq_true rfl) ⟨Nat.zero_le _, Nat.zero_le _⟩ dX8_look_41 (fun v2 s4 _ => ?_)
      refine r_istore (pc := 44) (lv' := [some (.ref (zad E 45)), some (.int p0), some (.int p1), some (.int p2), some (.int p3), some (.int v2)]) C dX8_look_44 (by decide) rfl ?_
      refine r_aload_n (pc := 46) C dX8_look_46 rfl ?_
      refine r_get (pc := 47) C K_X8 45 12 (by decide) rfl (by decide) lk_f_X8_81 rfl dX8_look_47 ?_
      refine r_if_ne (pc := 50) (tgt := 58) C dX8_look_50 (by decide) (fun _ => ?_) (fun _ => ?_)
      · refine r_iload (pc := 53) C dX8_look_53 rfl ?_
        refine r_goto (pc := 55) (tgt := 65) C dX8_look_55 (by decide) ?_
        exact r_iret (pc := 65) C dX8_look_65
      · refine r_bipush (pc := 58) (v := -10) C dX8_look_58 (by decide) ?_
        refine r_aload_n (pc := 60) C dX8_look_60 rfl ?_
        refine r_get (pc := 61) C K_X8 45 12 (by decide) rfl (by decide) lk_f_X8_81 rfl dX8_look_61 ?_
        refine r_isub (pc := 64) C dX8_look_64 ?_
        exact r_iret (pc := 65) C dX8_look_65
    · refine r_bipush (pc := 18) (v := -2) C dX8_look_18 (by decide) ?_
      exact r_iret (pc := 20) C dX8_look_20
theorem c_X8_look {E : zG} (hAp : zAp E) (p0 : Int32) (p1 : Int32) (p2 : Int32) (p3 : Int32) (σ : zS) : zM E yX8_look cX8_look 6 (some .int) rm_X8_look (fun r : Int32 => some (.int r)) [.ref (zad E 45), .int p0, .int p1, .int p2, .int p3] (f_X8_look p0 p1 p2 p3 σ) σ :=
  zM_of (nn := 1) hAp (by decide) (Nat.le_of_ble_eq_true rfl) rfl rfl (fun Γ C => g_X8_look C p0 p1 p2 p3 σ)
set_option maxHeartbeats 4000000 in
set_option maxRecDepth 100000 in
theorem g_X8_drawn_L84 {E : zG} {Γ : zX} (C : zO E Γ RX8 cX8_drawn 4 (some .int)) : ∀ (n : Nat) (x1 : Int32) (x2 : Int32) (x3 : Int32) (σ : zS), zJ E Γ rm_X8_drawn 4 (fun r : Int32 => some (.int r)) (f_X8_drawn_L84 n x1 x2 x3 σ) σ 84 [some (.ref (zad E 45)), some (.int x1), some (.int x2), some (.int x3)] [] := by
  intro n
  induction n with
  | zero => intro x1 x2 x3 σ; rw [f_X8_drawn_L84]; exact r_none
  | succ n ih =>
    intro x1 x2 x3 σ
    rw [f_X8_drawn_L84]
    refine r_iload_n (pc := 84) C dX8_drawn_84 rfl ?_
    refine r_aload_n (pc := 85) C dX8_drawn_85 rfl ?_
    refine r_get (pc := 86) C K_X8 45 11 (by decide) rfl (by decide) lk_f_X8_128 rfl dX8_drawn_86 ?_
    refine r_icmp_ge (pc := 89) (tgt := 112) C dX8_drawn_89 (by decide) (fun _ => ?_) (fun _ => ?_)
    · refine r_iload_n (pc := 112) C dX8_drawn_112 rfl ?_
      refine r_iload_n (pc := 113) C dX8_drawn_113 rfl ?_
      refine r_irem (pc := 114) C dX8_drawn_114 ?_
      refine r_iconst (pc := 115) (v := 1) C dX8_drawn_115 (by decide) ?_
      refine r_iadd (pc := 116) C dX8_drawn_116 ?_
      exact r_iret (pc := 117) C dX8_drawn_117
    · refine r_aload_n (pc := 92) C dX8_drawn_92 rfl ?_
      refine r_get (pc := 93) C K_X8 45 10 (by decide) rfl (by decide) lk_f_X8_20 rfl dX8_drawn_93 ?_
      refine r_iload_n (pc := 96) C dX8_drawn_96 rfl ?_
      refine r_aload_n (pc := 97) C dX8_drawn_97 rfl ?_
      refine r_get (pc := 98) C K_X8 45 10 (by decide) rfl (by decide) lk_f_X8_20 rfl dX8_drawn_98 ?_
      refine r_iload_n (pc := 101) C dX8_drawn_101 rfl ?_
      refine r_iconst (pc := 102) (v := 1) C dX8_drawn_102 (by decide) ?_
      refine r_iadd (pc := 103) C dX8_drawn_103 ?_
      refine r_iald (pc := 104) (t0 := 0) C 47 (by decide) rfl rfl dX8_drawn_104 ?_
      refine r_iast (pc := 105) (t0 := 0) C 47 (by decide) rfl (fun _ => rfl) rfl dX8_drawn_105 (fun s10 _ => ?_)
      refine r_iinc (pc := 106) (lv' := [some (.ref (zad E 45)), some (.int x1), some (.int x2), some (.int (x3 + (1 : Int32)))]) C dX8_drawn_106 (by decide) rfl rfl rfl ?_
      refine r_goto (pc := 109) (tgt := 84) C dX8_drawn_109 (by decide) ?_
      exact ih _ _ _ _
set_option maxHeartbeats 4000000 in
set_option maxRecDepth 100000 in
theorem g_X8_drawn {E : zG} {Γ : zX} (C : zO E Γ RX8 cX8_drawn 4 (some .int)) (p0 : Int32) (σ : zS) : zJ E Γ rm_X8_drawn 4 (fun r : Int32 => some (.int r)) (f_X8_drawn p0 σ) σ 0 [some (.ref (zad E 45)), some (.int p0), none, none] [] := by
  unfold f_X8_drawn
  refine r_iload_n (pc := 0) C dX8_drawn_0 rfl ?_
  refine r_if_le (pc := 1) (tgt := 148) C dX8_drawn_1 (by decide) (fun _ => ?_) (fun _ => ?_)
  · refine r_iload_n (pc := 148) C dX8_drawn_148 rfl ?_
    refine r_if_ne (pc := 149) (tgt := 160) C dX8_drawn_149 (by decide) (fun _ => ?_) (fun _ => ?_)
    · refine r_aload_n (pc := 152) C dX8_drawn_152 rfl ?_
      refine r_iconst (pc := 153) (v := 2) C dX8_drawn_153 (by decide) ?_
      refine r_put (pc := 154) C K_X8 45 6 (by decide) rfl (by decide) lk_f_X8_119 rfl rfl (Nat.le_of_ble_eq_true rfl) rfl dX8_drawn_154 (fun s6 _ => ?_)
      refine r_goto (pc := 157) (tgt := 198) C dX8_drawn_157 (by decide) ?_
      refine r_iconst (pc := 198) (v := 0) C dX8_drawn_198 (by decide) ?_
      exact r_iret (pc := 199) C dX8_drawn_199
    · refine r_iload_n (pc := 160) C dX8_drawn_160 rfl ?_
      refine r_ineg (pc := 161) C dX8_drawn_161 ?_
      refine r_sipush (pc := 162) (v := 1000) C dX8_drawn_162 (by decide) ?_
      refine r_icmp_ge (pc := 165) (tgt := 187) C dX8_drawn_165 (by decide) (fun _ => ?_) (fun _ => ?_)
      · refine r_aload_n (pc := 187) C dX8_drawn_187 rfl ?_
        refine r_iconst (pc := 188) (v := 0) C dX8_drawn_188 (by decide) ?_
        refine r_put (pc := 189) C K_X8 45 6 (by decide) rfl (by decide) lk_f_X8_119 rfl rfl (Nat.le_of_ble_eq_true rfl) rfl dX8_drawn_189 (fun s1 _ => ?_)
        refine r_aload_n (pc := 192) C dX8_drawn_192 rfl ?_
        refine r_iload_n (pc := 193) C dX8_drawn_193 rfl ?_
        refine r_ineg (pc := 194) C dX8_drawn_194 ?_
        refine r_put (pc := 195) C K_X8 45 7 (by decide) rfl (by decide) lk_f_X8_17 rfl rfl (Nat.le_of_ble_eq_true rfl) rfl dX8_drawn_195 (fun s2 _ => ?_)
        refine r_iconst (pc := 198) (v := 0) C dX8_drawn_198 (by decide) ?_
        exact r_iret (pc := 199) C dX8_drawn_199
      · refine r_aload_n (pc := 168) C dX8_drawn_168 rfl ?_
        refine r_iconst (pc := 169) (v := 1) C dX8_drawn_169 (by decide) ?_
        refine r_put (pc := 170) C K_X8 45 6 (by decide) rfl (by decide) lk_f_X8_119 rfl rfl (Nat.le_of_ble_eq_true rfl) rfl dX8_drawn_170 (fun s3 _ => ?_)
        refine r_aload_n (pc := 173) C dX8_drawn_173 rfl ?_
        refine r_iload_n (pc := 174) C dX8_drawn_174 rfl ?_
        refine r_ineg (pc := 175) C dX8_drawn_175 ?_
        refine r_put (pc := 176) C K_X8 45 8 (by decide) rfl (by decide) lk_f_X8_125 rfl rfl (Nat.le_of_ble_eq_true rfl) rfl dX8_drawn_176 (fun s4 _ => ?_)
        refine r_aload_n (pc := 179) C dX8_drawn_179 rfl ?_
        refine r_iconst (pc := 180) (v := 1) C dX8_drawn_180 (by decide) ?_
        refine r_put (pc := 181) C K_X8 45 9 (by decide) rfl (by decide) lk_f_X8_122 rfl rfl (Nat.le_of_ble_eq_true rfl) rfl dX8_drawn_181 (fun s5 _ => ?_)
        refine r_goto (pc := 184) (tgt := 198) C dX8_drawn_184 (by decide) ?_
        refine r_iconst (pc := 198) (v := 0) C dX8_drawn_198 (by decide) ?_
        exact r_iret (pc := 199) C dX8_drawn_199
  · refine r_aload_n (pc := 4) C dX8_drawn_4 rfl ?_
    refine r_get (pc := 5) C K_X8 45 6 (by decide) rfl (by decide) lk_f_X8_119 rfl dX8_drawn_5 ?_
    refine r_iconst (pc := 8) (v := 1) C dX8_drawn_8 (by decide) ?_
    refine r_icmp_ne (pc := 9) (tgt := 50) C dX8_drawn_9 (by decide) (fun _ => ?_) (fun _ => ?_)
    · refine r_aload_n (pc := 12) C dX8_drawn_12 rfl ?_
      refine r_get (pc := 13) C K_X8 45 9 (by decide) rfl (by decide) lk_f_X8_122 rfl dX8_drawn_13 ?_
      refine r_iconst (pc := 16) (v := 1) C dX8_drawn_16 (by decide) ?_
      refine r_isub (pc := 17) C dX8_drawn_17 ?_
      refine r_iload_n (pc := 18) C dX8_drawn_18 rfl ?_
      refine r_irem (pc := 19) C dX8_drawn_19 ?_
      refine r_iconst (pc := 20) (v := 1) C dX8_drawn_20 (by decide) ?_
      refine r_iadd (pc := 21) C dX8_drawn_21 ?_
      refine r_leti (fun v2 => ?_)
      refine r_istore_n (pc := 22) (lv' := [some (.ref (zad E 45)), some (.int p0), some (.int v2), none]) C dX8_drawn_22 (by decide) rfl ?_
      refine r_aload_n (pc := 23) C dX8_drawn_23 rfl ?_
      refine r_aload_n (pc := 24) C dX8_drawn_24 rfl ?_
      refine r_get (pc := 25) C K_X8 45 9 (by decide) rfl (by decide) lk_f_X8_122 rfl dX8_drawn_25 ?_
      refine r_aload_n (pc := 28) C dX8_drawn_28 rfl ?_
      refine r_get (pc := 29) C K_X8 45 8 (by decide) rfl (by decide) lk_f_X8_125 rfl dX8_drawn_29 ?_
      refine r_icmp_ne (pc := 32) (tgt := 39) C dX8_drawn_32 (by decide) (fun _ => ?_) (fun _ => ?_)
      · refine r_iconst (pc := 35) (v := 1) C dX8_drawn_35 (by decide) ?_
        refine r_goto (pc := 36) (tgt := 45) C dX8_drawn_36 (by decide) ?_
        refine r_put (pc := 45) C K_X8 45 9 (by decide) rfl (by decide) lk_f_X8_122 rfl rfl (Nat.le_of_ble_eq_true rfl) rfl dX8_drawn_45 (fun s12 _ => ?_)
        refine r_iload_n (pc := 48) C dX8_drawn_48 rfl ?_
        exact r_iret (pc := 49) C dX8_drawn_49
      · refine r_aload_n (pc := 39) C dX8_drawn_39 rfl ?_
        refine r_get (pc := 40) C K_X8 45 9 (by decide) rfl (by decide) lk_f_X8_122 rfl dX8_drawn_40 ?_
        refine r_iconst (pc := 43) (v := 1) C dX8_drawn_43 (by decide) ?_
        refine r_iadd (pc := 44) C dX8_drawn_44 ?_
        refine r_put (pc := 45) C K_X8 45 9 (by decide) rfl (by decide) lk_f_X8_122 rfl rfl (Nat.le_of_ble_eq_true rfl) rfl dX8_drawn_45 (fun s11 _ => ?_)
        refine r_iload_n (pc := 48) C dX8_drawn_48 rfl ?_
        exact r_iret (pc := 49) C dX8_drawn_49
    · refine r_aload_n (pc := 50) C dX8_drawn_50 rfl ?_
      refine r_get (pc := 51) C K_X8 45 6 (by decide) rfl (by decide) lk_f_X8_119 rfl dX8_drawn_51 ?_
      refine r_iconst (pc := 54) (v := 2) C dX8_drawn_54 (by decide) ?_
      refine r_icmp_ne (pc := 55) (tgt := 118) C dX8_drawn_55 (by decide) (fun _ => ?_) (fun _ => ?_)
      · refine r_aload_n (pc := 58) C dX8_drawn_58 rfl ?_
        refine r_get (pc := 59) C K_X8 45 11 (by decide) rfl (by decide) lk_f_X8_128 rfl dX8_drawn_59 ?_
        refine r_if_le (pc := 62) (tgt := 118) C dX8_drawn_62 (by decide) (fun _ => ?_) (fun _ => ?_)
        · refine r_aload_n (pc := 118) C dX8_drawn_118 rfl ?_
          refine r_aload_n (pc := 119) C dX8_drawn_119 rfl ?_
          refine r_get (pc := 120) C K_X8 45 7 (by decide) rfl (by decide) lk_f_X8_17 rfl dX8_drawn_120 ?_
          refine r_ldc (pc := 123) (v := 1103515245) C dX8_drawn_123 lk_k_X8_131 ?_
          refine r_imul (pc := 125) C dX8_drawn_125 ?_
          refine r_sipush (pc := 126) (v := 12345) C dX8_drawn_126 (by decide) ?_
          refine r_iadd (pc := 129) C dX8_drawn_129 ?_
          refine r_ldc (pc := 130) (v := 2147483647) C dX8_drawn_130 lk_k_X8_132 ?_
          refine r_iand (pc := 132) C dX8_drawn_132 ?_
          refine r_put (pc := 133) C K_X8 45 7 (by decide) rfl (by decide) lk_f_X8_17 rfl rfl (Nat.le_of_ble_eq_true rfl) rfl dX8_drawn_133 (fun s8 _ => ?_)
          refine r_aload_n (pc := 136) C dX8_drawn_136 rfl ?_
          refine r_get (pc := 137) C K_X8 45 7 (by decide) rfl (by decide) lk_f_X8_17 rfl dX8_drawn_137 ?_
          refine r_bipush (pc := 140) (v := 16) C dX8_drawn_140 (by decide) ?_
          refine r_iushr (pc := 142) C dX8_drawn_142 ?_
          refine r_iload_n (pc := 143) C dX8_drawn_143 rfl ?_
          refine r_irem (pc := 144) C dX8_drawn_144 ?_
          refine r_iconst (pc := 145) (v := 1) C dX8_drawn_145 (by decide) ?_
          refine r_iadd (pc := 146) C dX8_drawn_146 ?_
          exact r_iret (pc := 147) C dX8_drawn_147
        · refine r_aload_n (pc := 65) C dX8_drawn_65 rfl ?_
          refine r_get (pc := 66) C K_X8 45 10 (by decide) rfl (by decide) lk_f_X8_20 rfl dX8_drawn_66 ?_
          refine r_iconst (pc := 69) (v := 0) C dX8_drawn_69 (by decide) ?_
          refine r_iald (pc := 70) (t0 := 0) C 47 (by decide) rfl rfl dX8_drawn_70 ?_
          refine r_leti (fun v1 => ?_)
          refine r_istore_n (pc := 71) (lv' := [some (.ref (zad E 45)), some (.int p0), some (.int v1), none]) C dX8_drawn_71 (by decide) rfl ?_
          refine r_aload_n (pc := 72) C dX8_drawn_72 rfl ?_
          refine r_dup (pc := 73) C dX8_drawn_73 rfl ?_
          refine r_get (pc := 74) C K_X8 45 11 (by decide) rfl (by decide) lk_f_X8_128 rfl dX8_drawn_74 ?_
          refine r_iconst (pc := 77) (v := 1) C dX8_drawn_77 (by decide) ?_
          refine r_isub (pc := 78) C dX8_drawn_78 ?_
          refine r_put (pc := 79) C K_X8 45 11 (by decide) rfl (by decide) lk_f_X8_128 rfl rfl (Nat.le_of_ble_eq_true rfl) rfl dX8_drawn_79 (fun s9 _ => ?_)
          refine r_iconst (pc := 82) (v := 0) C dX8_drawn_82 (by decide) ?_
          refine r_istore_n (pc := 83) (lv' := [some (.ref (zad E 45)), some (.int p0), some (.int v1), some (.int (0 : Int32))]) C dX8_drawn_83 (by decide) rfl ?_
          exact g_X8_drawn_L84 C zF _ _ _ _
      · refine r_aload_n (pc := 118) C dX8_drawn_118 rfl ?_
        refine r_aload_n (pc := 119) C dX8_drawn_119 rfl ?_
        refine r_get (pc := 120) C K_X8 45 7 (by decide) rfl (by decide) lk_f_X8_17 rfl dX8_drawn_120 ?_
        refine r_ldc (pc := 123) (v := 1103515245) C dX8_drawn_123 lk_k_X8_131 ?_
        refine r_imul (pc := 125) C dX8_drawn_125 ?_
        refine r_sipush (pc := 126) (v := 12345) C dX8_drawn_126 (by decide) ?_
        refine r_iadd (pc := 129) C dX8_drawn_129 ?_
        refine r_ldc (pc := 130) (v := 2147483647) C dX8_drawn_130 lk_k_X8_132 ?_
        refine r_iand (pc := 132) C dX8_drawn_132 ?_
        refine r_put (pc := 133) C K_X8 45 7 (by decide) rfl (by decide) lk_f_X8_17 rfl rfl (Nat.le_of_ble_eq_true rfl) rfl dX8_drawn_133 (fun s7 _ => ?_)
        refine r_aload_n (pc := 136) C dX8_drawn_136 rfl ?_
        refine r_get (pc := 137) C K_X8 45 7 (by decide) rfl (by decide) lk_f_X8_17 rfl dX8_drawn_137 ?_
        refine r_bipush (pc := 140) (v := 16) C dX8_drawn_140 (by decide) ?_
        refine r_iushr (pc := 142) C dX8_drawn_142 ?_
        refine r_iload_n (pc := 143) C dX8_drawn_143 rfl ?_
        refine r_irem (pc := 144) C dX8_drawn_144 ?_
        refine r_iconst (pc := 145) (v := 1) C dX8_drawn_145 (by decide) ?_
        refine r_iadd (pc := 146) C dX8_drawn_146 ?_
        exact r_iret (pc := 147) C dX8_drawn_147
theorem c_X8_drawn {E : zG} (hAp : zAp E) (p0 : Int32) (σ : zS) : zM E yX8_drawn cX8_drawn 4 (some .int) rm_X8_drawn (fun r : Int32 => some (.int r)) [.ref (zad E 45), .int p0] (f_X8_drawn p0 σ) σ :=
  zM_of (nn := 2) hAp (by decide) (Nat.le_of_ble_eq_true rfl) rfl rfl (fun Γ C => g_X8_drawn C p0 σ)
set_option maxHeartbeats 4000000 in
set_option maxRecDepth 100000 in
theorem g_X8_random {E : zG} {Γ : zX} (C : zO E Γ RX8 cX8_random 2 (some .int)) (p0 : Int32) (σ : zS) : zJ E Γ rm_X8_random 2 (fun r : Int32 => some (.int r)) (f_X8_random p0 σ) σ 0 [some (.ref (zad E 45)), some (.int p0)] [] := by
  unfold f_X8_random
  refine r_aload_n (pc := 0) C dX8_random_0 rfl ?_
  refine r_iconst (pc := 1) (v := 0) C dX8_random_1 (by decide) ?_
  refine r_put (pc := 2) C K_X8 45 0 (by decide) rfl (by decide) lk_f_X8_72 rfl rfl (Nat.le_of_ble_eq_true rfl) rfl dX8_random_2 (fun s1 _ => ?_)
  refine r_aload_n (pc := 5) C dX8_random_5 rfl ?_
  refine r_iload_n (pc := 6) C dX8_random_6 rfl ?_
  refine r_callS (pc := 7) C (c_X8_signed (zO.ap C) _ _) lk_c_X8_signed lk_i_X8 lk_m_X8_99 lk_s_X8_signed (n := 1) (by decide +kernel) rfl ⟨rfl, rfl⟩ (by decide) (Nat.le_of_ble_eq_true rfl) ⟨Nat.zero_le _, Nat.zero_le _⟩ dX8_random_7 (fun v1 s2 _ => ?_)
  refine r_callV (pc := 10) C 45 (c_X8_drawn (zO.ap C) _ _) lk_c_X8_drawn lk_i_X8 lk_m_X8_133 lk_n_X8_drawn lk_v_X8_drawn (n := 1) (by decide +kernel) rfl ⟨rfl, rfl⟩ (by decide) (by decide) rfl rfl rfl (Nat.le_of_ble_eq_true rfl) ⟨Nat.zero_le _, Nat.zero_le _⟩ dX8_random_10 (fun v2 s3 _ => ?_)
  exact r_iret (pc := 13) C dX8_random_13
theorem c_X8_random {E : zG} (hAp : zAp E) (p0 : Int32) (σ : zS) : zM E yX8_random cX8_random 2 (some .int) rm_X8_random (fun r : Int32 => some (.int r)) [.ref (zad E 45), .int p0] (f_X8_random p0 σ) σ :=
  zM_of (nn := 0) hAp (by decide) (Nat.le_of_ble_eq_true rfl) rfl rfl (fun Γ C => g_X8_random C p0 σ)
set_option maxHeartbeats 4000000 in
set_option maxRecDepth 100000 in
theorem g_X8_tape {E : zG} {Γ : zX} (C : zO E Γ RX8 cX8_tape 2 (some .int)) (p0 : Int32) (σ : zS) : zJ E Γ rm_X8_tape 2 (fun r : Int32 => some (.int r)) (f_X8_tape p0 σ) σ 0 [some (.ref (zad E 45)), some (.int p0)] [] := by
  unfold f_X8_tape
  refine r_aload_n (pc := 0) C dX8_tape_0 rfl ?_
  refine r_iconst (pc := 1) (v := 0) C dX8_tape_1 (by decide) ?_
  refine r_put (pc := 2) C K_X8 45 0 (by decide) rfl (by decide) lk_f_X8_72 rfl rfl (Nat.le_of_ble_eq_true rfl) rfl dX8_tape_2 (fun s1 _ => ?_)
  refine r_iload_n (pc := 5) C dX8_tape_5 rfl ?_
  refine r_if_lt (pc := 6) (tgt := 15) C dX8_tape_6 (by decide) (fun _ => ?_) (fun _ => ?_)
  · refine r_bipush (pc := 15) (v := -2) C dX8_tape_15 (by decide) ?_
    exact r_iret (pc := 17) C dX8_tape_17
  · refine r_iload_n (pc := 9) C dX8_tape_9 rfl ?_
    refine r_ldc (pc := 10) (v := 65535) C dX8_tape_10 lk_k_X8_75 ?_
    refine r_icmp_le (pc := 12) (tgt := 18) C dX8_tape_12 (by decide) (fun _ => ?_) (fun _ => ?_)
    · refine r_aload_n (pc := 18) C dX8_tape_18 rfl ?_
      refine r_get (pc := 19) C K_X8 45 11 (by decide) rfl (by decide) lk_f_X8_128 rfl dX8_tape_19 ?_
      refine r_bipush (pc := 22) (v := 50) C dX8_tape_22 (by decide) ?_
      refine r_icmp_ne (pc := 24) (tgt := 30) C dX8_tape_24 (by decide) (fun _ => ?_) (fun _ => ?_)
      · refine r_bipush (pc := 27) (v := -3) C dX8_tape_27 (by decide) ?_
        exact r_iret (pc := 29) C dX8_tape_29
      · refine r_aload_n (pc := 30) C dX8_tape_30 rfl ?_
        refine r_get (pc := 31) C K_X8 45 10 (by decide) rfl (by decide) lk_f_X8_20 rfl dX8_tape_31 ?_
        refine r_aload_n (pc := 34) C dX8_tape_34 rfl ?_
        refine r_get (pc := 35) C K_X8 45 11 (by decide) rfl (by decide) lk_f_X8_128 rfl dX8_tape_35 ?_
        refine r_iload_n (pc := 38) C dX8_tape_38 rfl ?_
        refine r_iast (pc := 39) (t0 := 0) C 47 (by decide) rfl (fun _ => rfl) rfl dX8_tape_39 (fun s2 _ => ?_)
        refine r_aload_n (pc := 40) C dX8_tape_40 rfl ?_
        refine r_dup (pc := 41) C dX8_tape_41 rfl ?_
        refine r_get (pc := 42) C K_X8 45 11 (by decide) rfl (by decide) lk_f_X8_128 rfl dX8_tape_42 ?_
        refine r_iconst (pc := 45) (v := 1) C dX8_tape_45 (by decide) ?_
        refine r_iadd (pc := 46) C dX8_tape_46 ?_
        refine r_put (pc := 47) C K_X8 45 11 (by decide) rfl (by decide) lk_f_X8_128 rfl rfl (Nat.le_of_ble_eq_true rfl) rfl dX8_tape_47 (fun s3 _ => ?_)
        refine r_aload_n (pc := 50) C dX8_tape_50 rfl ?_
        refine r_get (pc := 51) C K_X8 45 11 (by decide) rfl (by decide) lk_f_X8_128 rfl dX8_tape_51 ?_
        exact r_iret (pc := 54) C dX8_tape_54
    · refine r_bipush (pc := 15) (v := -2) C dX8_tape_15 (by decide) ?_
      exact r_iret (pc := 17) C dX8_tape_17
theorem c_X8_tape {E : zG} (hAp : zAp E) (p0 : Int32) (σ : zS) : zM E yX8_tape cX8_tape 2 (some .int) rm_X8_tape (fun r : Int32 => some (.int r)) [.ref (zad E 45), .int p0] (f_X8_tape p0 σ) σ :=
  zM_of (nn := 0) hAp (by decide) (Nat.le_of_ble_eq_true rfl) rfl rfl (fun Γ C => g_X8_tape C p0 σ)
set_option maxHeartbeats 4000000 in
set_option maxRecDepth 100000 in
theorem g_X8_globe {E : zG} {Γ : zX} (C : zO E Γ RX8 cX8_globe 3 (some .int)) (p0 : Int32) (σ : zS) : zJ E Γ rm_X8_globe 3 (fun r : Int32 => some (.int r)) (f_X8_globe p0 σ) σ 0 [some (.ref (zad E 45)), some (.int p0), none] [] := by
  unfold f_X8_globe
  refine r_aload_n (pc := 0) C dX8_globe_0 rfl ?_
  refine r_iconst (pc := 1) (v := 0) C dX8_globe_1 (by decide) ?_
  refine r_put (pc := 2) C K_X8 45 0 (by decide) rfl (by decide) lk_f_X8_72 rfl rfl (Nat.le_of_ble_eq_true rfl) rfl dX8_globe_2 (fun s1 _ => ?_)
  refine r_iload_n (pc := 5) C dX8_globe_5 rfl ?_
  refine r_if_lt (pc := 6) (tgt := 15) C dX8_globe_6 (by decide) (fun _ => ?_) (fun _ => ?_)
  · refine r_bipush (pc := 15) (v := -2) C dX8_globe_15 (by decide) ?_
    exact r_iret (pc := 17) C dX8_globe_17
  · refine r_iload_n (pc := 9) C dX8_globe_9 rfl ?_
    refine r_ldc (pc := 10) (v := 65535) C dX8_globe_10 lk_k_X8_75 ?_
    refine r_icmp_le (pc := 12) (tgt := 18) C dX8_globe_12 (by decide) (fun _ => ?_) (fun _ => ?_)
    · refine r_aload_n (pc := 18) C dX8_globe_18 rfl ?_
      refine r_get (pc := 19) C K_X8 45 4 (by decide) rfl (by decide) lk_f_X8_136 rfl dX8_globe_19 ?_
      refine r_istore_n (pc := 22) (lv' := [some (.ref (zad E 45)), some (.int p0), some (.int (s1 45 4))]) C dX8_globe_22 (by decide) rfl ?_
      refine r_aload_n (pc := 23) C dX8_globe_23 rfl ?_
      refine r_iload_n (pc := 24) C dX8_globe_24 rfl ?_
      refine r_put (pc := 25) C K_X8 45 4 (by decide) rfl (by decide) lk_f_X8_136 rfl rfl (Nat.le_of_ble_eq_true rfl) rfl dX8_globe_25 (fun s2 _ => ?_)
      refine r_iload_n (pc := 28) C dX8_globe_28 rfl ?_
      exact r_iret (pc := 29) C dX8_globe_29
    · refine r_bipush (pc := 15) (v := -2) C dX8_globe_15 (by decide) ?_
      exact r_iret (pc := 17) C dX8_globe_17
theorem c_X8_globe {E : zG} (hAp : zAp E) (p0 : Int32) (σ : zS) : zM E yX8_globe cX8_globe 3 (some .int) rm_X8_globe (fun r : Int32 => some (.int r)) [.ref (zad E 45), .int p0] (f_X8_globe p0 σ) σ :=
  zM_of (nn := 1) hAp (by decide) (Nat.le_of_ble_eq_true rfl) rfl rfl (fun Γ C => g_X8_globe C p0 σ)
set_option maxHeartbeats 4000000 in
set_option maxRecDepth 100000 in
theorem g_X8_form {E : zG} {Γ : zX} (C : zO E Γ RX8 cX8_form 3 (some .int)) (p0 : Int32) (σ : zS) : zJ E Γ rm_X8_form 3 (fun r : Int32 => some (.int r)) (f_X8_form p0 σ) σ 0 [some (.ref (zad E 45)), some (.int p0), none] [] := by
  unfold f_X8_form
  refine r_aload_n (pc := 0) C dX8_form_0 rfl ?_
  refine r_iconst (pc := 1) (v := 0) C dX8_form_1 (by decide) ?_
  refine r_put (pc := 2) C K_X8 45 0 (by decide) rfl (by decide) lk_f_X8_72 rfl rfl (Nat.le_of_ble_eq_true rfl) rfl dX8_form_2 (fun s1 _ => ?_)
  refine r_iload_n (pc := 5) C dX8_form_5 rfl ?_
  refine r_if_lt (pc := 6) (tgt := 16) C dX8_form_6 (by decide) (fun _ => ?_) (fun _ => ?_)
  · refine r_bipush (pc := 16) (v := -2) C dX8_form_16 (by decide) ?_
    exact r_iret (pc := 18) C dX8_form_18
  · refine r_iload_n (pc := 9) C dX8_form_9 rfl ?_
    refine r_sipush (pc := 10) (v := 255) C dX8_form_10 (by decide) ?_
    refine r_icmp_le (pc := 13) (tgt := 19) C dX8_form_13 (by decide) (fun _ => ?_) (fun _ => ?_)
    · refine r_aload_n (pc := 19) C dX8_form_19 rfl ?_
      refine r_get (pc := 20) C K_X8 45 5 (by decide) rfl (by decide) lk_f_X8_13 rfl dX8_form_20 ?_
      refine r_istore_n (pc := 23) (lv' := [some (.ref (zad E 45)), some (.int p0), some (.int (s1 45 5))]) C dX8_form_23 (by decide) rfl ?_
      refine r_aload_n (pc := 24) C dX8_form_24 rfl ?_
      refine r_iload_n (pc := 25) C dX8_form_25 rfl ?_
      refine r_put (pc := 26) C K_X8 45 5 (by decide) rfl (by decide) lk_f_X8_13 rfl rfl (Nat.le_of_ble_eq_true rfl) rfl dX8_form_26 (fun s2 _ => ?_)
      refine r_iload_n (pc := 29) C dX8_form_29 rfl ?_
      exact r_iret (pc := 30) C dX8_form_30
    · refine r_bipush (pc := 16) (v := -2) C dX8_form_16 (by decide) ?_
      exact r_iret (pc := 18) C dX8_form_18
theorem c_X8_form {E : zG} (hAp : zAp E) (p0 : Int32) (σ : zS) : zM E yX8_form cX8_form 3 (some .int) rm_X8_form (fun r : Int32 => some (.int r)) [.ref (zad E 45), .int p0] (f_X8_form p0 σ) σ :=
  zM_of (nn := 1) hAp (by decide) (Nat.le_of_ble_eq_true rfl) rfl rfl (fun Γ C => g_X8_form C p0 σ)
set_option maxHeartbeats 4000000 in
set_option maxRecDepth 100000 in
theorem g_X8_instruction {E : zG} {Γ : zX} (C : zO E Γ RX8 cX8_instruction 7 (some .int)) (p0 : Int32) (p1 : Int32) (p2 : Int32) (p3 : Int32) (p4 : Int32) (σ : zS) : zJ E Γ rm_X8_instruction 7 (fun r : Int32 => some (.int r)) (f_X8_instruction p0 p1 p2 p3 p4 σ) σ 0 [some (.ref (zad E 45)), some (.int p0), some (.int p1), some (.int p2), some (.int p3), some (.int p4), none] [] := by
  unfold f_X8_instruction
  refine r_aload_n (pc := 0) C dX8_instruction_0 rfl ?_
  refine r_iconst (pc := 1) (v := 0) C dX8_instruction_1 (by decide) ?_
  refine r_put (pc := 2) C K_X8 45 0 (by decide) rfl (by decide) lk_f_X8_72 rfl rfl (Nat.le_of_ble_eq_true rfl) rfl dX8_instruction_2 (fun s1 _ => ?_)
  refine r_iload_n (pc := 5) C dX8_instruction_5 rfl ?_
  refine r_sipush (pc := 6) (v := -256) C dX8_instruction_6 (by decide) ?_
  refine r_icmp_lt (pc := 9) (tgt := 64) C dX8_instruction_9 (by decide) (fun _ => ?_) (fun _ => ?_)
  · refine r_iconst (pc := 64) (v := 0) C dX8_instruction_64 (by decide) ?_
    refine r_istore (pc := 65) (lv' := [some (.ref (zad E 45)), some (.int p0), some (.int p1), some (.int p2), some (.int p3), some (.int p4), some (.int (0 : Int32))]) C dX8_instruction_65 (by decide) rfl ?_
    refine r_iload (pc := 67) C dX8_instruction_67 rfl ?_
    refine r_if_ne (pc := 69) (tgt := 75) C dX8_instruction_69 (by decide) (fun _ => ?_) (fun _ => ?_)
    · refine r_bipush (pc := 72) (v := -2) C dX8_instruction_72 (by decide) ?_
      exact r_iret (pc := 74) C dX8_instruction_74
    · refine r_aload_n (pc := 75) C dX8_instruction_75 rfl ?_
      refine r_get (pc := 76) C K_X8 45 14 (by decide) rfl (by decide) lk_f_X8_139 rfl dX8_instruction_76 ?_
      refine r_bipush (pc := 79) (v := 100) C dX8_instruction_79 (by decide) ?_
      refine r_icmp_ne (pc := 81) (tgt := 87) C dX8_instruction_81 (by decide) (fun _ => ?_) (fun _ => ?_)
      · refine r_bipush (pc := 84) (v := -3) C dX8_instruction_84 (by decide) ?_
        exact r_iret (pc := 86) C dX8_instruction_86
      · refine r_aload_n (pc := 87) C dX8_instruction_87 rfl ?_
        refine r_get (pc := 88) C K_X8 45 15 (by decide) rfl (by decide) lk_f_X8_26 rfl dX8_instruction_88 ?_
        refine r_aload_n (pc := 91) C dX8_instruction_91 rfl ?_
        refine r_get (pc := 92) C K_X8 45 14 (by decide) rfl (by decide) lk_f_X8_139 rfl dX8_instruction_92 ?_
        refine r_iload_n (pc := 95) C dX8_instruction_95 rfl ?_
        refine r_iast (pc := 96) (t0 := 0) C 49 (by decide) rfl (fun _ => rfl) rfl dX8_instruction_96 (fun s2 _ => ?_)
        refine r_aload_n (pc := 97) C dX8_instruction_97 rfl ?_
        refine r_get (pc := 98) C K_X8 45 16 (by decide) rfl (by decide) lk_f_X8_29 rfl dX8_instruction_98 ?_
        refine r_iconst (pc := 101) (v := 3) C dX8_instruction_101 (by decide) ?_
        refine r_aload_n (pc := 102) C dX8_instruction_102 rfl ?_
        refine r_get (pc := 103) C K_X8 45 14 (by decide) rfl (by decide) lk_f_X8_139 rfl dX8_instruction_103 ?_
        refine r_imul (pc := 106) C dX8_instruction_106 ?_
        refine r_iload_n (pc := 107) C dX8_instruction_107 rfl ?_
        refine r_iast (pc := 108) (t0 := 0) C 50 (by decide) rfl (fun _ => rfl) rfl dX8_instruction_108 (fun s3 _ => ?_)
        refine r_aload_n (pc := 109) C dX8_instruction_109 rfl ?_
        refine r_get (pc := 110) C K_X8 45 16 (by decide) rfl (by decide) lk_f_X8_29 rfl dX8_instruction_110 ?_
        refine r_iconst (pc := 113) (v := 3) C dX8_instruction_113 (by decide) ?_
        refine r_aload_n (pc := 114) C dX8_instruction_114 rfl ?_
        refine r_get (pc := 115) C K_X8 45 14 (by decide) rfl (by decide) lk_f_X8_139 rfl dX8_instruction_115 ?_
        refine r_imul (pc := 118) C dX8_instruction_118 ?_
        refine r_iconst (pc := 119) (v := 1) C dX8_instruction_119 (by decide) ?_
        refine r_iadd (pc := 120) C dX8_instruction_120 ?_
        refine r_iload_n (pc := 121) C dX8_instruction_121 rfl ?_
        refine r_iast (pc := 122) (t0 := 0) C 50 (by decide) rfl (fun _ => rfl) rfl dX8_instruction_122 (fun s4 _ => ?_)
        refine r_aload_n (pc := 123) C dX8_instruction_123 rfl ?_
        refine r_get (pc := 124) C K_X8 45 16 (by decide) rfl (by decide) lk_f_X8_29 rfl dX8_instruction_124 ?_
        refine r_iconst (pc := 127) (v := 3) C dX8_instruction_127 (by decide) ?_
        refine r_aload_n (pc := 128) C dX8_instruction_128 rfl ?_
        refine r_get (pc := 129) C K_X8 45 14 (by decide) rfl (by decide) lk_f_X8_139 rfl dX8_instruction_129 ?_
        refine r_imul (pc := 132) C dX8_instruction_132 ?_
        refine r_iconst (pc := 133) (v := 2) C dX8_instruction_133 (by decide) ?_
        refine r_iadd (pc := 134) C dX8_instruction_134 ?_
        refine r_iload (pc := 135) C dX8_instruction_135 rfl ?_
        refine r_iast (pc := 137) (t0 := 0) C 50 (by decide) rfl (fun _ => rfl) rfl dX8_instruction_137 (fun s5 _ => ?_)
        refine r_aload_n (pc := 138) C dX8_instruction_138 rfl ?_
        refine r_get (pc := 139) C K_X8 45 17 (by decide) rfl (by decide) lk_f_X8_32 rfl dX8_instruction_139 ?_
        refine r_aload_n (pc := 142) C dX8_instruction_142 rfl ?_
        refine r_get (pc := 143) C K_X8 45 14 (by decide) rfl (by decide) lk_f_X8_139 rfl dX8_instruction_143 ?_
        refine r_iload (pc := 146) C dX8_instruction_146 rfl ?_
        refine r_iast (pc := 148) (t0 := 0) C 51 (by decide) rfl (fun _ => rfl) rfl dX8_instruction_148 (fun s6 _ => ?_)
        refine r_aload_n (pc := 149) C dX8_instruction_149 rfl ?_
        refine r_dup (pc := 150) C dX8_instruction_150 rfl ?_
        refine r_get (pc := 151) C K_X8 45 14 (by decide) rfl (by decide) lk_f_X8_139 rfl dX8_instruction_151 ?_
        refine r_iconst (pc := 154) (v := 1) C dX8_instruction_154 (by decide) ?_
        refine r_iadd (pc := 155) C dX8_instruction_155 ?_
        refine r_put (pc := 156) C K_X8 45 14 (by decide) rfl (by decide) lk_f_X8_139 rfl rfl (Nat.le_of_ble_eq_true rfl) rfl dX8_instruction_156 (fun s7 _ => ?_)
        refine r_aload_n (pc := 159) C dX8_instruction_159 rfl ?_
        refine r_get (pc := 160) C K_X8 45 14 (by decide) rfl (by decide) lk_f_X8_139 rfl dX8_instruction_160 ?_
        refine r_iconst (pc := 163) (v := 1) C dX8_instruction_163 (by decide) ?_
        refine r_isub (pc := 164) C dX8_instruction_164 ?_
        exact r_iret (pc := 165) C dX8_instruction_165
  · refine r_iload_n (pc := 12) C dX8_instruction_12 rfl ?_
    refine r_ldc (pc := 13) (v := 65535) C dX8_instruction_13 lk_k_X8_75 ?_
    refine r_icmp_gt (pc := 15) (tgt := 64) C dX8_instruction_15 (by decide) (fun _ => ?_) (fun _ => ?_)
    · refine r_iconst (pc := 64) (v := 0) C dX8_instruction_64 (by decide) ?_
      refine r_istore (pc := 65) (lv' := [some (.ref (zad E 45)), some (.int p0), some (.int p1), some (.int p2), some (.int p3), some (.int p4), some (.int (0 : Int32))]) C dX8_instruction_65 (by decide) rfl ?_
      refine r_iload (pc := 67) C dX8_instruction_67 rfl ?_
      refine r_if_ne (pc := 69) (tgt := 75) C dX8_instruction_69 (by decide) (fun _ => ?_) (fun _ => ?_)
      · refine r_bipush (pc := 72) (v := -2) C dX8_instruction_72 (by decide) ?_
        exact r_iret (pc := 74) C dX8_instruction_74
      · refine r_aload_n (pc := 75) C dX8_instruction_75 rfl ?_
        refine r_get (pc := 76) C K_X8 45 14 (by decide) rfl (by decide) lk_f_X8_139 rfl dX8_instruction_76 ?_
        refine r_bipush (pc := 79) (v := 100) C dX8_instruction_79 (by decide) ?_
        refine r_icmp_ne (pc := 81) (tgt := 87) C dX8_instruction_81 (by decide) (fun _ => ?_) (fun _ => ?_)
        · refine r_bipush (pc := 84) (v := -3) C dX8_instruction_84 (by decide) ?_
          exact r_iret (pc := 86) C dX8_instruction_86
        · refine r_aload_n (pc := 87) C dX8_instruction_87 rfl ?_
          refine r_get (pc := 88) C K_X8 45 15 (by decide) rfl (by decide) lk_f_X8_26 rfl dX8_instruction_88 ?_
          refine r_aload_n (pc := 91) C dX8_instruction_91 rfl ?_
          refine r_get (pc := 92) C K_X8 45 14 (by decide) rfl (by decide) lk_f_X8_139 rfl dX8_instruction_92 ?_
          refine r_iload_n (pc := 95) C dX8_instruction_95 rfl ?_
          refine r_iast (pc := 96) (t0 := 0) C 49 (by decide) rfl (fun _ => rfl) rfl dX8_instruction_96 (fun s8 _ => ?_)
          refine r_aload_n (pc := 97) C dX8_instruction_97 rfl ?_
          refine r_get (pc := 98) C K_X8 45 16 (by decide) rfl (by decide) lk_f_X8_29 rfl dX8_instruction_98 ?_
          refine r_iconst (pc := 101) (v := 3) C dX8_instruction_101 (by decide) ?_
          refine r_aload_n (pc := 102) C dX8_instruction_102 rfl ?_
          refine r_get (pc := 103) C K_X8 45 14 (by decide) rfl (by decide) lk_f_X8_139 rfl dX8_instruction_103 ?_
          refine r_imul (pc := 106) C dX8_instruction_106 ?_
          refine r_iload_n (pc := 107) C dX8_instruction_107 rfl ?_
          refine r_iast (pc := 108) (t0 := 0) C 50 (by decide) rfl (fun _ => rfl) rfl dX8_instruction_108 (fun s9 _ => ?_)
          refine r_aload_n (pc := 109) C dX8_instruction_109 rfl ?_
          refine r_get (pc := 110) C K_X8 45 16 (by decide) rfl (by decide) lk_f_X8_29 rfl dX8_instruction_110 ?_
          refine r_iconst (pc := 113) (v := 3) C dX8_instruction_113 (by decide) ?_
          refine r_aload_n (pc := 114) C dX8_instruction_114 rfl ?_
          refine r_get (pc := 115) C K_X8 45 14 (by decide) rfl (by decide) lk_f_X8_139 rfl dX8_instruction_115 ?_
          refine r_imul (pc := 118) C dX8_instruction_118 ?_
          refine r_iconst (pc := 119) (v := 1) C dX8_instruction_119 (by decide) ?_
          refine r_iadd (pc := 120) C dX8_instruction_120 ?_
          refine r_iload_n (pc := 121) C dX8_instruction_121 rfl ?_
          refine r_iast (pc := 122) (t0 := 0) C 50 (by decide) rfl (fun _ => rfl) rfl dX8_instruction_122 (fun s10 _ => ?_)
          refine r_aload_n (pc := 123) C dX8_instruction_123 rfl ?_
          refine r_get (pc := 124) C K_X8 45 16 (by decide) rfl (by decide) lk_f_X8_29 rfl dX8_instruction_124 ?_
          refine r_iconst (pc := 127) (v := 3) C dX8_instruction_127 (by decide) ?_
          refine r_aload_n (pc := 128) C dX8_instruction_128 rfl ?_
          refine r_get (pc := 129) C K_X8 45 14 (by decide) rfl (by decide) lk_f_X8_139 rfl dX8_instruction_129 ?_
          refine r_imul (pc := 132) C dX8_instruction_132 ?_
          refine r_iconst (pc := 133) (v := 2) C dX8_instruction_133 (by decide) ?_
          refine r_iadd (pc := 134) C dX8_instruction_134 ?_
          refine r_iload (pc := 135) C dX8_instruction_135 rfl ?_
          refine r_iast (pc := 137) (t0 := 0) C 50 (by decide) rfl (fun _ => rfl) rfl dX8_instruction_137 (fun s11 _ => ?_)
          refine r_aload_n (pc := 138) C dX8_instruction_138 rfl ?_
          refine r_get (pc := 139) C K_X8 45 17 (by decide) rfl (by decide) lk_f_X8_32 rfl dX8_instruction_139 ?_
          refine r_aload_n (pc := 142) C dX8_instruction_142 rfl ?_
          refine r_get (pc := 143) C K_X8 45 14 (by decide) rfl (by decide) lk_f_X8_139 rfl dX8_instruction_143 ?_
          refine r_iload (pc := 146) C dX8_instruction_146 rfl ?_
          refine r_iast (pc := 148) (t0 := 0) C 51 (by decide) rfl (fun _ => rfl) rfl dX8_instruction_148 (fun s12 _ => ?_)
          refine r_aload_n (pc := 149) C dX8_instruction_149 rfl ?_
          refine r_dup (pc := 150) C dX8_instruction_150 rfl ?_
          refine r_get (pc := 151) C K_X8 45 14 (by decide) rfl (by decide) lk_f_X8_139 rfl dX8_instruction_151 ?_
          refine r_iconst (pc := 154) (v := 1) C dX8_instruction_154 (by decide) ?_
          refine r_iadd (pc := 155) C dX8_instruction_155 ?_
          refine r_put (pc := 156) C K_X8 45 14 (by decide) rfl (by decide) lk_f_X8_139 rfl rfl (Nat.le_of_ble_eq_true rfl) rfl dX8_instruction_156 (fun s13 _ => ?_)
          refine r_aload_n (pc := 159) C dX8_instruction_159 rfl ?_
          refine r_get (pc := 160) C K_X8 45 14 (by decide) rfl (by decide) lk_f_X8_139 rfl dX8_instruction_160 ?_
          refine r_iconst (pc := 163) (v := 1) C dX8_instruction_163 (by decide) ?_
          refine r_isub (pc := 164) C dX8_instruction_164 ?_
          exact r_iret (pc := 165) C dX8_instruction_165
    · refine r_iload_n (pc := 18) C dX8_instruction_18 rfl ?_
      refine r_sipush (pc := 19) (v := -256) C dX8_instruction_19 (by decide) ?_
      refine r_icmp_lt (pc := 22) (tgt := 64) C dX8_instruction_22 (by decide) (fun _ => ?_) (fun _ => ?_)
      · refine r_iconst (pc := 64) (v := 0) C dX8_instruction_64 (by decide) ?_
        refine r_istore (pc := 65) (lv' := [some (.ref (zad E 45)), some (.int p0), some (.int p1), some (.int p2), some (.int p3), some (.int p4), some (.int (0 : Int32))]) C dX8_instruction_65 (by decide) rfl ?_
        refine r_iload (pc := 67) C dX8_instruction_67 rfl ?_
        refine r_if_ne (pc := 69) (tgt := 75) C dX8_instruction_69 (by decide) (fun _ => ?_) (fun _ => ?_)
        · refine r_bipush (pc := 72) (v := -2) C dX8_instruction_72 (by decide) ?_
          exact r_iret (pc := 74) C dX8_instruction_74
        · refine r_aload_n (pc := 75) C dX8_instruction_75 rfl ?_
          refine r_get (pc := 76) C K_X8 45 14 (by decide) rfl (by decide) lk_f_X8_139 rfl dX8_instruction_76 ?_
          refine r_bipush (pc := 79) (v := 100) C dX8_instruction_79 (by decide) ?_
          refine r_icmp_ne (pc := 81) (tgt := 87) C dX8_instruction_81 (by decide) (fun _ => ?_) (fun _ => ?_)
          · refine r_bipush (pc := 84) (v := -3) C dX8_instruction_84 (by decide) ?_
            exact r_iret (pc := 86) C dX8_instruction_86
          · refine r_aload_n (pc := 87) C dX8_instruction_87 rfl ?_
            refine r_get (pc := 88) C K_X8 45 15 (by decide) rfl (by decide) lk_f_X8_26 rfl dX8_instruction_88 ?_
            refine r_aload_n (pc := 91) C dX8_instruction_91 rfl ?_
            refine r_get (pc := 92) C K_X8 45 14 (by decide) rfl (by decide) lk_f_X8_139 rfl dX8_instruction_92 ?_
            refine r_iload_n (pc := 95) C dX8_instruction_95 rfl ?_
            refine r_iast (pc := 96) (t0 := 0) C 49 (by decide) rfl (fun _ => rfl) rfl dX8_instruction_96 (fun s14 _ => ?_)
            refine r_aload_n (pc := 97) C dX8_instruction_97 rfl ?_
            refine r_get (pc := 98) C K_X8 45 16 (by decide) rfl (by decide) lk_f_X8_29 rfl dX8_instruction_98 ?_
            refine r_iconst (pc := 101) (v := 3) C dX8_instruction_101 (by decide) ?_
            refine r_aload_n (pc := 102) C dX8_instruction_102 rfl ?_
            refine r_get (pc := 103) C K_X8 45 14 (by decide) rfl (by decide) lk_f_X8_139 rfl dX8_instruction_103 ?_
            refine r_imul (pc := 106) C dX8_instruction_106 ?_
            refine r_iload_n (pc := 107) C dX8_instruction_107 rfl ?_
            refine r_iast (pc := 108) (t0 := 0) C 50 (by decide) rfl (fun _ => rfl) rfl dX8_instruction_108 (fun s15 _ => ?_)
            refine r_aload_n (pc := 109) C dX8_instruction_109 rfl ?_
            refine r_get (pc := 110) C K_X8 45 16 (by decide) rfl (by decide) lk_f_X8_29 rfl dX8_instruction_110 ?_
            refine r_iconst (pc := 113) (v := 3) C dX8_instruction_113 (by decide) ?_
            refine r_aload_n (pc := 114) C dX8_instruction_114 rfl ?_
            refine r_get (pc := 115) C K_X8 45 14 (by decide) rfl (by decide) lk_f_X8_139 rfl dX8_instruction_115 ?_
            refine r_imul (pc := 118) C dX8_instruction_118 ?_
            refine r_iconst (pc := 119) (v := 1) C dX8_instruction_119 (by decide) ?_
            refine r_iadd (pc := 120) C dX8_instruction_120 ?_
            refine r_iload_n (pc := 121) C dX8_instruction_121 rfl ?_
            refine r_iast (pc := 122) (t0 := 0) C 50 (by decide) rfl (fun _ => rfl) rfl dX8_instruction_122 (fun s16 _ => ?_)
            refine r_aload_n (pc := 123) C dX8_instruction_123 rfl ?_
            refine r_get (pc := 124) C K_X8 45 16 (by decide) rfl (by decide) lk_f_X8_29 rfl dX8_instruction_124 ?_
            refine r_iconst (pc := 127) (v := 3) C dX8_instruction_127 (by decide) ?_
            refine r_aload_n (pc := 128) C dX8_instruction_128 rfl ?_
            refine r_get (pc := 129) C K_X8 45 14 (by decide) rfl (by decide) lk_f_X8_139 rfl dX8_instruction_129 ?_
            refine r_imul (pc := 132) C dX8_instruction_132 ?_
            refine r_iconst (pc := 133) (v := 2) C dX8_instruction_133 (by decide) ?_
            refine r_iadd (pc := 134) C dX8_instruction_134 ?_
            refine r_iload (pc := 135) C dX8_instruction_135 rfl ?_
            refine r_iast (pc := 137) (t0 := 0) C 50 (by decide) rfl (fun _ => rfl) rfl dX8_instruction_137 (fun s17 _ => ?_)
            refine r_aload_n (pc := 138) C dX8_instruction_138 rfl ?_
            refine r_get (pc := 139) C K_X8 45 17 (by decide) rfl (by decide) lk_f_X8_32 rfl dX8_instruction_139 ?_
            refine r_aload_n (pc := 142) C dX8_instruction_142 rfl ?_
            refine r_get (pc := 143) C K_X8 45 14 (by decide) rfl (by decide) lk_f_X8_139 rfl dX8_instruction_143 ?_
            refine r_iload (pc := 146) C dX8_instruction_146 rfl ?_
            refine r_iast (pc := 148) (t0 := 0) C 51 (by decide) rfl (fun _ => rfl) rfl dX8_instruction_148 (fun s18 _ => ?_)
            refine r_aload_n (pc := 149) C dX8_instruction_149 rfl ?_
            refine r_dup (pc := 150) C dX8_instruction_150 rfl ?_
            refine r_get (pc := 151) C K_X8 45 14 (by decide) rfl (by decide) lk_f_X8_139 rfl dX8_instruction_151 ?_
            refine r_iconst (pc := 154) (v := 1) C dX8_instruction_154 (by decide) ?_
            refine r_iadd (pc := 155) C dX8_instruction_155 ?_
            refine r_put (pc := 156) C K_X8 45 14 (by decide) rfl (by decide) lk_f_X8_139 rfl rfl (Nat.le_of_ble_eq_true rfl) rfl dX8_instruction_156 (fun s19 _ => ?_)
            refine r_aload_n (pc := 159) C dX8_instruction_159 rfl ?_
            refine r_get (pc := 160) C K_X8 45 14 (by decide) rfl (by decide) lk_f_X8_139 rfl dX8_instruction_160 ?_
            refine r_iconst (pc := 163) (v := 1) C dX8_instruction_163 (by decide) ?_
            refine r_isub (pc := 164) C dX8_instruction_164 ?_
            exact r_iret (pc := 165) C dX8_instruction_165
      · refine r_iload_n (pc := 25) C dX8_instruction_25 rfl ?_
        refine r_ldc (pc := 26) (v := 65535) C dX8_instruction_26 lk_k_X8_75 ?_
        refine r_icmp_gt (pc := 28) (tgt := 64) C dX8_instruction_28 (by decide) (fun _ => ?_) (fun _ => ?_)
        · refine r_iconst (pc := 64) (v := 0) C dX8_instruction_64 (by decide) ?_
          refine r_istore (pc := 65) (lv' := [some (.ref (zad E 45)), some (.int p0), some (.int p1), some (.int p2), some (.int p3), some (.int p4), some (.int (0 : Int32))]) C dX8_instruction_65 (by decide) rfl ?_
          refine r_iload (pc := 67) C dX8_instruction_67 rfl ?_
          refine r_if_ne (pc := 69) (tgt := 75) C dX8_instruction_69 (by decide) (fun _ => ?_) (fun _ => ?_)
          · refine r_bipush (pc := 72) (v := -2) C dX8_instruction_72 (by decide) ?_
            exact r_iret (pc := 74) C dX8_instruction_74
          · refine r_aload_n (pc := 75) C dX8_instruction_75 rfl ?_
            refine r_get (pc := 76) C K_X8 45 14 (by decide) rfl (by decide) lk_f_X8_139 rfl dX8_instruction_76 ?_
            refine r_bipush (pc := 79) (v := 100) C dX8_instruction_79 (by decide) ?_
            refine r_icmp_ne (pc := 81) (tgt := 87) C dX8_instruction_81 (by decide) (fun _ => ?_) (fun _ => ?_)
            · refine r_bipush (pc := 84) (v := -3) C dX8_instruction_84 (by decide) ?_
              exact r_iret (pc := 86) C dX8_instruction_86
            · refine r_aload_n (pc := 87) C dX8_instruction_87 rfl ?_
              refine r_get (pc := 88) C K_X8 45 15 (by decide) rfl (by decide) lk_f_X8_26 rfl dX8_instruction_88 ?_
              refine r_aload_n (pc := 91) C dX8_instruction_91 rfl ?_
              refine r_get (pc := 92) C K_X8 45 14 (by decide) rfl (by decide) lk_f_X8_139 rfl dX8_instruction_92 ?_
              refine r_iload_n (pc := 95) C dX8_instruction_95 rfl ?_
              refine r_iast (pc := 96) (t0 := 0) C 49 (by decide) rfl (fun _ => rfl) rfl dX8_instruction_96 (fun s20 _ => ?_)
              refine r_aload_n (pc := 97) C dX8_instruction_97 rfl ?_
              refine r_get (pc := 98) C K_X8 45 16 (by decide) rfl (by decide) lk_f_X8_29 rfl dX8_instruction_98 ?_
              refine r_iconst (pc := 101) (v := 3) C dX8_instruction_101 (by decide) ?_
              refine r_aload_n (pc := 102) C dX8_instruction_102 rfl ?_
              refine r_get (pc := 103) C K_X8 45 14 (by decide) rfl (by decide) lk_f_X8_139 rfl dX8_instruction_103 ?_
              refine r_imul (pc := 106) C dX8_instruction_106 ?_
              refine r_iload_n (pc := 107) C dX8_instruction_107 rfl ?_
              refine r_iast (pc := 108) (t0 := 0) C 50 (by decide) rfl (fun _ => rfl) rfl dX8_instruction_108 (fun s21 _ => ?_)
              refine r_aload_n (pc := 109) C dX8_instruction_109 rfl ?_
              refine r_get (pc := 110) C K_X8 45 16 (by decide) rfl (by decide) lk_f_X8_29 rfl dX8_instruction_110 ?_
              refine r_iconst (pc := 113) (v := 3) C dX8_instruction_113 (by decide) ?_
              refine r_aload_n (pc := 114) C dX8_instruction_114 rfl ?_
              refine r_get (pc := 115) C K_X8 45 14 (by decide) rfl (by decide) lk_f_X8_139 rfl dX8_instruction_115 ?_
              refine r_imul (pc := 118) C dX8_instruction_118 ?_
              refine r_iconst (pc := 119) (v := 1) C dX8_instruction_119 (by decide) ?_
              refine r_iadd (pc := 120) C dX8_instruction_120 ?_
              refine r_iload_n (pc := 121) C dX8_instruction_121 rfl ?_
              refine r_iast (pc := 122) (t0 := 0) C 50 (by decide) rfl (fun _ => rfl) rfl dX8_instruction_122 (fun s22 _ => ?_)
              refine r_aload_n (pc := 123) C dX8_instruction_123 rfl ?_
              refine r_get (pc := 124) C K_X8 45 16 (by decide) rfl (by decide) lk_f_X8_29 rfl dX8_instruction_124 ?_
              refine r_iconst (pc := 127) (v := 3) C dX8_instruction_127 (by decide) ?_
              refine r_aload_n (pc := 128) C dX8_instruction_128 rfl ?_
              refine r_get (pc := 129) C K_X8 45 14 (by decide) rfl (by decide) lk_f_X8_139 rfl dX8_instruction_129 ?_
              refine r_imul (pc := 132) C dX8_instruction_132 ?_
              refine r_iconst (pc := 133) (v := 2) C dX8_instruction_133 (by decide) ?_
              refine r_iadd (pc := 134) C dX8_instruction_134 ?_
              refine r_iload (pc := 135) C dX8_instruction_135 rfl ?_
              refine r_iast (pc := 137) (t0 := 0) C 50 (by decide) rfl (fun _ => rfl) rfl dX8_instruction_137 (fun s23 _ => ?_)
              refine r_aload_n (pc := 138) C dX8_instruction_138 rfl ?_
              refine r_get (pc := 139) C K_X8 45 17 (by decide) rfl (by decide) lk_f_X8_32 rfl dX8_instruction_139 ?_
              refine r_aload_n (pc := 142) C dX8_instruction_142 rfl ?_
              refine r_get (pc := 143) C K_X8 45 14 (by decide) rfl (by decide) lk_f_X8_139 rfl dX8_instruction_143 ?_
              refine r_iload (pc := 146) C dX8_instruction_146 rfl ?_
              refine r_iast (pc := 148) (t0 := 0) C 51 (by decide) rfl (fun _ => rfl) rfl dX8_instruction_148 (fun s24 _ => ?_)
              refine r_aload_n (pc := 149) C dX8_instruction_149 rfl ?_
              refine r_dup (pc := 150) C dX8_instruction_150 rfl ?_
              refine r_get (pc := 151) C K_X8 45 14 (by decide) rfl (by decide) lk_f_X8_139 rfl dX8_instruction_151 ?_
              refine r_iconst (pc := 154) (v := 1) C dX8_instruction_154 (by decide) ?_
              refine r_iadd (pc := 155) C dX8_instruction_155 ?_
              refine r_put (pc := 156) C K_X8 45 14 (by decide) rfl (by decide) lk_f_X8_139 rfl rfl (Nat.le_of_ble_eq_true rfl) rfl dX8_instruction_156 (fun s25 _ => ?_)
              refine r_aload_n (pc := 159) C dX8_instruction_159 rfl ?_
              refine r_get (pc := 160) C K_X8 45 14 (by decide) rfl (by decide) lk_f_X8_139 rfl dX8_instruction_160 ?_
              refine r_iconst (pc := 163) (v := 1) C dX8_instruction_163 (by decide) ?_
              refine r_isub (pc := 164) C dX8_instruction_164 ?_
              exact r_iret (pc := 165) C dX8_instruction_165
        · refine r_iload (pc := 31) C dX8_instruction_31 rfl ?_
          refine r_sipush (pc := 33) (v := -256) C dX8_instruction_33 (by decide) ?_
          refine r_icmp_lt (pc := 36) (tgt := 64) C dX8_instruction_36 (by decide) (fun _ => ?_) (fun _ => ?_)
          · refine r_iconst (pc := 64) (v := 0) C dX8_instruction_64 (by decide) ?_
            refine r_istore (pc := 65) (lv' := [some (.ref (zad E 45)), some (.int p0), some (.int p1), some (.int p2), some (.int p3), some (.int p4), some (.int (0 : Int32))]) C dX8_instruction_65 (by decide) rfl ?_
            refine r_iload (pc := 67) C dX8_instruction_67 rfl ?_
            refine r_if_ne (pc := 69) (tgt := 75) C dX8_instruction_69 (by decide) (fun _ => ?_) (fun _ => ?_)
            · refine r_bipush (pc := 72) (v := -2) C dX8_instruction_72 (by decide) ?_
              exact r_iret (pc := 74) C dX8_instruction_74
            · refine r_aload_n (pc := 75) C dX8_instruction_75 rfl ?_
              refine r_get (pc := 76) C K_X8 45 14 (by decide) rfl (by decide) lk_f_X8_139 rfl dX8_instruction_76 ?_
              refine r_bipush (pc := 79) (v := 100) C dX8_instruction_79 (by decide) ?_
              refine r_icmp_ne (pc := 81) (tgt := 87) C dX8_instruction_81 (by decide) (fun _ => ?_) (fun _ => ?_)
              · refine r_bipush (pc := 84) (v := -3) C dX8_instruction_84 (by decide) ?_
                exact r_iret (pc := 86) C dX8_instruction_86
              · refine r_aload_n (pc := 87) C dX8_instruction_87 rfl ?_
                refine r_get (pc := 88) C K_X8 45 15 (by decide) rfl (by decide) lk_f_X8_26 rfl dX8_instruction_88 ?_
                refine r_aload_n (pc := 91) C dX8_instruction_91 rfl ?_
                refine r_get (pc := 92) C K_X8 45 14 (by decide) rfl (by decide) lk_f_X8_139 rfl dX8_instruction_92 ?_
                refine r_iload_n (pc := 95) C dX8_instruction_95 rfl ?_
                refine r_iast (pc := 96) (t0 := 0) C 49 (by decide) rfl (fun _ => rfl) rfl dX8_instruction_96 (fun s26 _ => ?_)
                refine r_aload_n (pc := 97) C dX8_instruction_97 rfl ?_
                refine r_get (pc := 98) C K_X8 45 16 (by decide) rfl (by decide) lk_f_X8_29 rfl dX8_instruction_98 ?_
                refine r_iconst (pc := 101) (v := 3) C dX8_instruction_101 (by decide) ?_
                refine r_aload_n (pc := 102) C dX8_instruction_102 rfl ?_
                refine r_get (pc := 103) C K_X8 45 14 (by decide) rfl (by decide) lk_f_X8_139 rfl dX8_instruction_103 ?_
                refine r_imul (pc := 106) C dX8_instruction_106 ?_
                refine r_iload_n (pc := 107) C dX8_instruction_107 rfl ?_
                refine r_iast (pc := 108) (t0 := 0) C 50 (by decide) rfl (fun _ => rfl) rfl dX8_instruction_108 (fun s27 _ => ?_)
                refine r_aload_n (pc := 109) C dX8_instruction_109 rfl ?_
                refine r_get (pc := 110) C K_X8 45 16 (by decide) rfl (by decide) lk_f_X8_29 rfl dX8_instruction_110 ?_
                refine r_iconst (pc := 113) (v := 3) C dX8_instruction_113 (by decide) ?_
                refine r_aload_n (pc := 114) C dX8_instruction_114 rfl ?_
                refine r_get (pc := 115) C K_X8 45 14 (by decide) rfl (by decide) lk_f_X8_139 rfl dX8_instruction_115 ?_
                refine r_imul (pc := 118) C dX8_instruction_118 ?_
                refine r_iconst (pc := 119) (v := 1) C dX8_instruction_119 (by decide) ?_
                refine r_iadd (pc := 120) C dX8_instruction_120 ?_
                refine r_iload_n (pc := 121) C dX8_instruction_121 rfl ?_
                refine r_iast (pc := 122) (t0 := 0) C 50 (by decide) rfl (fun _ => rfl) rfl dX8_instruction_122 (fun s28 _ => ?_)
                refine r_aload_n (pc := 123) C dX8_instruction_123 rfl ?_
                refine r_get (pc := 124) C K_X8 45 16 (by decide) rfl (by decide) lk_f_X8_29 rfl dX8_instruction_124 ?_
                refine r_iconst (pc := 127) (v := 3) C dX8_instruction_127 (by decide) ?_
                refine r_aload_n (pc := 128) C dX8_instruction_128 rfl ?_
                refine r_get (pc := 129) C K_X8 45 14 (by decide) rfl (by decide) lk_f_X8_139 rfl dX8_instruction_129 ?_
                refine r_imul (pc := 132) C dX8_instruction_132 ?_
                refine r_iconst (pc := 133) (v := 2) C dX8_instruction_133 (by decide) ?_
                refine r_iadd (pc := 134) C dX8_instruction_134 ?_
                refine r_iload (pc := 135) C dX8_instruction_135 rfl ?_
                refine r_iast (pc := 137) (t0 := 0) C 50 (by decide) rfl (fun _ => rfl) rfl dX8_instruction_137 (fun s29 _ => ?_)
                refine r_aload_n (pc := 138) C dX8_instruction_138 rfl ?_
                refine r_get (pc := 139) C K_X8 45 17 (by decide) rfl (by decide) lk_f_X8_32 rfl dX8_instruction_139 ?_
                refine r_aload_n (pc := 142) C dX8_instruction_142 rfl ?_
                refine r_get (pc := 143) C K_X8 45 14 (by decide) rfl (by decide) lk_f_X8_139 rfl dX8_instruction_143 ?_
                refine r_iload (pc := 146) C dX8_instruction_146 rfl ?_
                refine r_iast (pc := 148) (t0 := 0) C 51 (by decide) rfl (fun _ => rfl) rfl dX8_instruction_148 (fun s30 _ => ?_)
                refine r_aload_n (pc := 149) C dX8_instruction_149 rfl ?_
                refine r_dup (pc := 150) C dX8_instruction_150 rfl ?_
                refine r_get (pc := 151) C K_X8 45 14 (by decide) rfl (by decide) lk_f_X8_139 rfl dX8_instruction_151 ?_
                refine r_iconst (pc := 154) (v := 1) C dX8_instruction_154 (by decide) ?_
                refine r_iadd (pc := 155) C dX8_instruction_155 ?_
                refine r_put (pc := 156) C K_X8 45 14 (by decide) rfl (by decide) lk_f_X8_139 rfl rfl (Nat.le_of_ble_eq_true rfl) rfl dX8_instruction_156 (fun s31 _ => ?_)
                refine r_aload_n (pc := 159) C dX8_instruction_159 rfl ?_
                refine r_get (pc := 160) C K_X8 45 14 (by decide) rfl (by decide) lk_f_X8_139 rfl dX8_instruction_160 ?_
                refine r_iconst (pc := 163) (v := 1) C dX8_instruction_163 (by decide) ?_
                refine r_isub (pc := 164) C dX8_instruction_164 ?_
                exact r_iret (pc := 165) C dX8_instruction_165
          · refine r_iload (pc := 39) C dX8_instruction_39 rfl ?_
            refine r_ldc (pc := 41) (v := 65535) C dX8_instruction_41 lk_k_X8_75 ?_
            refine r_icmp_gt (pc := 43) (tgt := 64) C dX8_instruction_43 (by decide) (fun _ => ?_) (fun _ => ?_)
            · refine r_iconst (pc := 64) (v := 0) C dX8_instruction_64 (by decide) ?_
              refine r_istore (pc := 65) (lv' := [some (.ref (zad E 45)), some (.int p0), some (.int p1), some (.int p2), some (.int p3), some (.int p4), some (.int (0 : Int32))]) C dX8_instruction_65 (by decide) rfl ?_
              refine r_iload (pc := 67) C dX8_instruction_67 rfl ?_
              refine r_if_ne (pc := 69) (tgt := 75) C dX8_instruction_69 (by decide) (fun _ => ?_) (fun _ => ?_)
              · refine r_bipush (pc := 72) (v := -2) C dX8_instruction_72 (by decide) ?_
                exact r_iret (pc := 74) C dX8_instruction_74
              · refine r_aload_n (pc := 75) C dX8_instruction_75 rfl ?_
                refine r_get (pc := 76) C K_X8 45 14 (by decide) rfl (by decide) lk_f_X8_139 rfl dX8_instruction_76 ?_
                refine r_bipush (pc := 79) (v := 100) C dX8_instruction_79 (by decide) ?_
                refine r_icmp_ne (pc := 81) (tgt := 87) C dX8_instruction_81 (by decide) (fun _ => ?_) (fun _ => ?_)
                · refine r_bipush (pc := 84) (v := -3) C dX8_instruction_84 (by decide) ?_
                  exact r_iret (pc := 86) C dX8_instruction_86
                · refine r_aload_n (pc := 87) C dX8_instruction_87 rfl ?_
                  refine r_get (pc := 88) C K_X8 45 15 (by decide) rfl (by decide) lk_f_X8_26 rfl dX8_instruction_88 ?_
                  refine r_aload_n (pc := 91) C dX8_instruction_91 rfl ?_
                  refine r_get (pc := 92) C K_X8 45 14 (by decide) rfl (by decide) lk_f_X8_139 rfl dX8_instruction_92 ?_
                  refine r_iload_n (pc := 95) C dX8_instruction_95 rfl ?_
                  refine r_iast (pc := 96) (t0 := 0) C 49 (by decide) rfl (fun _ => rfl) rfl dX8_instruction_96 (fun s32 _ => ?_)
                  refine r_aload_n (pc := 97) C dX8_instruction_97 rfl ?_
                  refine r_get (pc := 98) C K_X8 45 16 (by decide) rfl (by decide) lk_f_X8_29 rfl dX8_instruction_98 ?_
                  refine r_iconst (pc := 101) (v := 3) C dX8_instruction_101 (by decide) ?_
                  refine r_aload_n (pc := 102) C dX8_instruction_102 rfl ?_
                  refine r_get (pc := 103) C K_X8 45 14 (by decide) rfl (by decide) lk_f_X8_139 rfl dX8_instruction_103 ?_
                  refine r_imul (pc := 106) C dX8_instruction_106 ?_
                  refine r_iload_n (pc := 107) C dX8_instruction_107 rfl ?_
                  refine r_iast (pc := 108) (t0 := 0) C 50 (by decide) rfl (fun _ => rfl) rfl dX8_instruction_108 (fun s33 _ => ?_)
                  refine r_aload_n (pc := 109) C dX8_instruction_109 rfl ?_
                  refine r_get (pc := 110) C K_X8 45 16 (by decide) rfl (by decide) lk_f_X8_29 rfl dX8_instruction_110 ?_
                  refine r_iconst (pc := 113) (v := 3) C dX8_instruction_113 (by decide) ?_
                  refine r_aload_n (pc := 114) C dX8_instruction_114 rfl ?_
                  refine r_get (pc := 115) C K_X8 45 14 (by decide) rfl (by decide) lk_f_X8_139 rfl dX8_instruction_115 ?_
                  refine r_imul (pc := 118) C dX8_instruction_118 ?_
                  refine r_iconst (pc := 119) (v := 1) C dX8_instruction_119 (by decide) ?_
                  refine r_iadd (pc := 120) C dX8_instruction_120 ?_
                  refine r_iload_n (pc := 121) C dX8_instruction_121 rfl ?_
                  refine r_iast (pc := 122) (t0 := 0) C 50 (by decide) rfl (fun _ => rfl) rfl dX8_instruction_122 (fun s34 _ => ?_)
                  refine r_aload_n (pc := 123) C dX8_instruction_123 rfl ?_
                  refine r_get (pc := 124) C K_X8 45 16 (by decide) rfl (by decide) lk_f_X8_29 rfl dX8_instruction_124 ?_
                  refine r_iconst (pc := 127) (v := 3) C dX8_instruction_127 (by decide) ?_
                  refine r_aload_n (pc := 128) C dX8_instruction_128 rfl ?_
                  refine r_get (pc := 129) C K_X8 45 14 (by decide) rfl (by decide) lk_f_X8_139 rfl dX8_instruction_129 ?_
                  refine r_imul (pc := 132) C dX8_instruction_132 ?_
                  refine r_iconst (pc := 133) (v := 2) C dX8_instruction_133 (by decide) ?_
                  refine r_iadd (pc := 134) C dX8_instruction_134 ?_
                  refine r_iload (pc := 135) C dX8_instruction_135 rfl ?_
                  refine r_iast (pc := 137) (t0 := 0) C 50 (by decide) rfl (fun _ => rfl) rfl dX8_instruction_137 (fun s35 _ => ?_)
                  refine r_aload_n (pc := 138) C dX8_instruction_138 rfl ?_
                  refine r_get (pc := 139) C K_X8 45 17 (by decide) rfl (by decide) lk_f_X8_32 rfl dX8_instruction_139 ?_
                  refine r_aload_n (pc := 142) C dX8_instruction_142 rfl ?_
                  refine r_get (pc := 143) C K_X8 45 14 (by decide) rfl (by decide) lk_f_X8_139 rfl dX8_instruction_143 ?_
                  refine r_iload (pc := 146) C dX8_instruction_146 rfl ?_
                  refine r_iast (pc := 148) (t0 := 0) C 51 (by decide) rfl (fun _ => rfl) rfl dX8_instruction_148 (fun s36 _ => ?_)
                  refine r_aload_n (pc := 149) C dX8_instruction_149 rfl ?_
                  refine r_dup (pc := 150) C dX8_instruction_150 rfl ?_
                  refine r_get (pc := 151) C K_X8 45 14 (by decide) rfl (by decide) lk_f_X8_139 rfl dX8_instruction_151 ?_
                  refine r_iconst (pc := 154) (v := 1) C dX8_instruction_154 (by decide) ?_
                  refine r_iadd (pc := 155) C dX8_instruction_155 ?_
                  refine r_put (pc := 156) C K_X8 45 14 (by decide) rfl (by decide) lk_f_X8_139 rfl rfl (Nat.le_of_ble_eq_true rfl) rfl dX8_instruction_156 (fun s37 _ => ?_)
                  refine r_aload_n (pc := 159) C dX8_instruction_159 rfl ?_
                  refine r_get (pc := 160) C K_X8 45 14 (by decide) rfl (by decide) lk_f_X8_139 rfl dX8_instruction_160 ?_
                  refine r_iconst (pc := 163) (v := 1) C dX8_instruction_163 (by decide) ?_
                  refine r_isub (pc := 164) C dX8_instruction_164 ?_
                  exact r_iret (pc := 165) C dX8_instruction_165
            · refine r_iload (pc := 46) C dX8_instruction_46 rfl ?_
              refine r_iconst (pc := 48) (v := -1) C dX8_instruction_48 (by decide) ?_
              refine r_icmp_lt (pc := 49) (tgt := 64) C dX8_instruction_49 (by decide) (fun _ => ?_) (fun _ => ?_)
              · refine r_iconst (pc := 64) (v := 0) C dX8_instruction_64 (by decide) ?_
                refine r_istore (pc := 65) (lv' := [some (.ref (zad E 45)), some (.int p0), some (.int p1), some (.int p2), some (.int p3), some (.int p4), some (.int (0 : Int32))]) C dX8_instruction_65 (by decide) rfl ?_
                refine r_iload (pc := 67) C dX8_instruction_67 rfl ?_
                refine r_if_ne (pc := 69) (tgt := 75) C dX8_instruction_69 (by decide) (fun _ => ?_) (fun _ => ?_)
                · refine r_bipush (pc := 72) (v := -2) C dX8_instruction_72 (by decide) ?_
                  exact r_iret (pc := 74) C dX8_instruction_74
                · refine r_aload_n (pc := 75) C dX8_instruction_75 rfl ?_
                  refine r_get (pc := 76) C K_X8 45 14 (by decide) rfl (by decide) lk_f_X8_139 rfl dX8_instruction_76 ?_
                  refine r_bipush (pc := 79) (v := 100) C dX8_instruction_79 (by decide) ?_
                  refine r_icmp_ne (pc := 81) (tgt := 87) C dX8_instruction_81 (by decide) (fun _ => ?_) (fun _ => ?_)
                  · refine r_bipush (pc := 84) (v := -3) C dX8_instruction_84 (by decide) ?_
                    exact r_iret (pc := 86) C dX8_instruction_86
                  · refine r_aload_n (pc := 87) C dX8_instruction_87 rfl ?_
                    refine r_get (pc := 88) C K_X8 45 15 (by decide) rfl (by decide) lk_f_X8_26 rfl dX8_instruction_88 ?_
                    refine r_aload_n (pc := 91) C dX8_instruction_91 rfl ?_
                    refine r_get (pc := 92) C K_X8 45 14 (by decide) rfl (by decide) lk_f_X8_139 rfl dX8_instruction_92 ?_
                    refine r_iload_n (pc := 95) C dX8_instruction_95 rfl ?_
                    refine r_iast (pc := 96) (t0 := 0) C 49 (by decide) rfl (fun _ => rfl) rfl dX8_instruction_96 (fun s38 _ => ?_)
                    refine r_aload_n (pc := 97) C dX8_instruction_97 rfl ?_
                    refine r_get (pc := 98) C K_X8 45 16 (by decide) rfl (by decide) lk_f_X8_29 rfl dX8_instruction_98 ?_
                    refine r_iconst (pc := 101) (v := 3) C dX8_instruction_101 (by decide) ?_
                    refine r_aload_n (pc := 102) C dX8_instruction_102 rfl ?_
                    refine r_get (pc := 103) C K_X8 45 14 (by decide) rfl (by decide) lk_f_X8_139 rfl dX8_instruction_103 ?_
                    refine r_imul (pc := 106) C dX8_instruction_106 ?_
                    refine r_iload_n (pc := 107) C dX8_instruction_107 rfl ?_
                    refine r_iast (pc := 108) (t0 := 0) C 50 (by decide) rfl (fun _ => rfl) rfl dX8_instruction_108 (fun s39 _ => ?_)
                    refine r_aload_n (pc := 109) C dX8_instruction_109 rfl ?_
                    refine r_get (pc := 110) C K_X8 45 16 (by decide) rfl (by decide) lk_f_X8_29 rfl dX8_instruction_110 ?_
                    refine r_iconst (pc := 113) (v := 3) C dX8_instruction_113 (by decide) ?_
                    refine r_aload_n (pc := 114) C dX8_instruction_114 rfl ?_
                    refine r_get (pc := 115) C K_X8 45 14 (by decide) rfl (by decide) lk_f_X8_139 rfl dX8_instruction_115 ?_
                    refine r_imul (pc := 118) C dX8_instruction_118 ?_
                    refine r_iconst (pc := 119) (v := 1) C dX8_instruction_119 (by decide) ?_
                    refine r_iadd (pc := 120) C dX8_instruction_120 ?_
                    refine r_iload_n (pc := 121) C dX8_instruction_121 rfl ?_
                    refine r_iast (pc := 122) (t0 := 0) C 50 (by decide) rfl (fun _ => rfl) rfl dX8_instruction_122 (fun s40 _ => ?_)
                    refine r_aload_n (pc := 123) C dX8_instruction_123 rfl ?_
                    refine r_get (pc := 124) C K_X8 45 16 (by decide) rfl (by decide) lk_f_X8_29 rfl dX8_instruction_124 ?_
                    refine r_iconst (pc := 127) (v := 3) C dX8_instruction_127 (by decide) ?_
                    refine r_aload_n (pc := 128) C dX8_instruction_128 rfl ?_
                    refine r_get (pc := 129) C K_X8 45 14 (by decide) rfl (by decide) lk_f_X8_139 rfl dX8_instruction_129 ?_
                    refine r_imul (pc := 132) C dX8_instruction_132 ?_
                    refine r_iconst (pc := 133) (v := 2) C dX8_instruction_133 (by decide) ?_
                    refine r_iadd (pc := 134) C dX8_instruction_134 ?_
                    refine r_iload (pc := 135) C dX8_instruction_135 rfl ?_
                    refine r_iast (pc := 137) (t0 := 0) C 50 (by decide) rfl (fun _ => rfl) rfl dX8_instruction_137 (fun s41 _ => ?_)
                    refine r_aload_n (pc := 138) C dX8_instruction_138 rfl ?_
                    refine r_get (pc := 139) C K_X8 45 17 (by decide) rfl (by decide) lk_f_X8_32 rfl dX8_instruction_139 ?_
                    refine r_aload_n (pc := 142) C dX8_instruction_142 rfl ?_
                    refine r_get (pc := 143) C K_X8 45 14 (by decide) rfl (by decide) lk_f_X8_139 rfl dX8_instruction_143 ?_
                    refine r_iload (pc := 146) C dX8_instruction_146 rfl ?_
                    refine r_iast (pc := 148) (t0 := 0) C 51 (by decide) rfl (fun _ => rfl) rfl dX8_instruction_148 (fun s42 _ => ?_)
                    refine r_aload_n (pc := 149) C dX8_instruction_149 rfl ?_
                    refine r_dup (pc := 150) C dX8_instruction_150 rfl ?_
                    refine r_get (pc := 151) C K_X8 45 14 (by decide) rfl (by decide) lk_f_X8_139 rfl dX8_instruction_151 ?_
                    refine r_iconst (pc := 154) (v := 1) C dX8_instruction_154 (by decide) ?_
                    refine r_iadd (pc := 155) C dX8_instruction_155 ?_
                    refine r_put (pc := 156) C K_X8 45 14 (by decide) rfl (by decide) lk_f_X8_139 rfl rfl (Nat.le_of_ble_eq_true rfl) rfl dX8_instruction_156 (fun s43 _ => ?_)
                    refine r_aload_n (pc := 159) C dX8_instruction_159 rfl ?_
                    refine r_get (pc := 160) C K_X8 45 14 (by decide) rfl (by decide) lk_f_X8_139 rfl dX8_instruction_160 ?_
                    refine r_iconst (pc := 163) (v := 1) C dX8_instruction_163 (by decide) ?_
                    refine r_isub (pc := 164) C dX8_instruction_164 ?_
                    exact r_iret (pc := 165) C dX8_instruction_165
              · refine r_iload (pc := 52) C dX8_instruction_52 rfl ?_
                refine r_sipush (pc := 54) (v := 255) C dX8_instruction_54 (by decide) ?_
                refine r_icmp_gt (pc := 57) (tgt := 64) C dX8_instruction_57 (by decide) (fun _ => ?_) (fun _ => ?_)
                · refine r_iconst (pc := 64) (v := 0) C dX8_instruction_64 (by decide) ?_
                  refine r_istore (pc := 65) (lv' := [some (.ref (zad E 45)), some (.int p0), some (.int p1), some (.int p2), some (.int p3), some (.int p4), some (.int (0 : Int32))]) C dX8_instruction_65 (by decide) rfl ?_
                  refine r_iload (pc := 67) C dX8_instruction_67 rfl ?_
                  refine r_if_ne (pc := 69) (tgt := 75) C dX8_instruction_69 (by decide) (fun _ => ?_) (fun _ => ?_)
                  · refine r_bipush (pc := 72) (v := -2) C dX8_instruction_72 (by decide) ?_
                    exact r_iret (pc := 74) C dX8_instruction_74
                  · refine r_aload_n (pc := 75) C dX8_instruction_75 rfl ?_
                    refine r_get (pc := 76) C K_X8 45 14 (by decide) rfl (by decide) lk_f_X8_139 rfl dX8_instruction_76 ?_
                    refine r_bipush (pc := 79) (v := 100) C dX8_instruction_79 (by decide) ?_
                    refine r_icmp_ne (pc := 81) (tgt := 87) C dX8_instruction_81 (by decide) (fun _ => ?_) (fun _ => ?_)
                    · refine r_bipush (pc := 84) (v := -3) C dX8_instruction_84 (by decide) ?_
                      exact r_iret (pc := 86) C dX8_instruction_86
                    · refine r_aload_n (pc := 87) C dX8_instruction_87 rfl ?_
                      refine r_get (pc := 88) C K_X8 45 15 (by decide) rfl (by decide) lk_f_X8_26 rfl dX8_instruction_88 ?_
                      refine r_aload_n (pc := 91) C dX8_instruction_91 rfl ?_
                      refine r_get (pc := 92) C K_X8 45 14 (by decide) rfl (by decide) lk_f_X8_139 rfl dX8_instruction_92 ?_
                      refine r_iload_n (pc := 95) C dX8_instruction_95 rfl ?_
                      refine r_iast (pc := 96) (t0 := 0) C 49 (by decide) rfl (fun _ => rfl) rfl dX8_instruction_96 (fun s44 _ => ?_)
                      refine r_aload_n (pc := 97) C dX8_instruction_97 rfl ?_
                      refine r_get (pc := 98) C K_X8 45 16 (by decide) rfl (by decide) lk_f_X8_29 rfl dX8_instruction_98 ?_
                      refine r_iconst (pc := 101) (v := 3) C dX8_instruction_101 (by decide) ?_
                      refine r_aload_n (pc := 102) C dX8_instruction_102 rfl ?_
                      refine r_get (pc := 103) C K_X8 45 14 (by decide) rfl (by decide) lk_f_X8_139 rfl dX8_instruction_103 ?_
                      refine r_imul (pc := 106) C dX8_instruction_106 ?_
                      refine r_iload_n (pc := 107) C dX8_instruction_107 rfl ?_
                      refine r_iast (pc := 108) (t0 := 0) C 50 (by decide) rfl (fun _ => rfl) rfl dX8_instruction_108 (fun s45 _ => ?_)
                      refine r_aload_n (pc := 109) C dX8_instruction_109 rfl ?_
                      refine r_get (pc := 110) C K_X8 45 16 (by decide) rfl (by decide) lk_f_X8_29 rfl dX8_instruction_110 ?_
                      refine r_iconst (pc := 113) (v := 3) C dX8_instruction_113 (by decide) ?_
                      refine r_aload_n (pc := 114) C dX8_instruction_114 rfl ?_
                      refine r_get (pc := 115) C K_X8 45 14 (by decide) rfl (by decide) lk_f_X8_139 rfl dX8_instruction_115 ?_
                      refine r_imul (pc := 118) C dX8_instruction_118 ?_
                      refine r_iconst (pc := 119) (v := 1) C dX8_instruction_119 (by decide) ?_
                      refine r_iadd (pc := 120) C dX8_instruction_120 ?_
                      refine r_iload_n (pc := 121) C dX8_instruction_121 rfl ?_
                      refine r_iast (pc := 122) (t0 := 0) C 50 (by decide) rfl (fun _ => rfl) rfl dX8_instruction_122 (fun s46 _ => ?_)
                      refine r_aload_n (pc := 123) C dX8_instruction_123 rfl ?_
                      refine r_get (pc := 124) C K_X8 45 16 (by decide) rfl (by decide) lk_f_X8_29 rfl dX8_instruction_124 ?_
                      refine r_iconst (pc := 127) (v := 3) C dX8_instruction_127 (by decide) ?_
                      refine r_aload_n (pc := 128) C dX8_instruction_128 rfl ?_
                      refine r_get (pc := 129) C K_X8 45 14 (by decide) rfl (by decide) lk_f_X8_139 rfl dX8_instruction_129 ?_
                      refine r_imul (pc := 132) C dX8_instruction_132 ?_
                      refine r_iconst (pc := 133) (v := 2) C dX8_instruction_133 (by decide) ?_
                      refine r_iadd (pc := 134) C dX8_instruction_134 ?_
                      refine r_iload (pc := 135) C dX8_instruction_135 rfl ?_
                      refine r_iast (pc := 137) (t0 := 0) C 50 (by decide) rfl (fun _ => rfl) rfl dX8_instruction_137 (fun s47 _ => ?_)
                      refine r_aload_n (pc := 138) C dX8_instruction_138 rfl ?_
                      refine r_get (pc := 139) C K_X8 45 17 (by decide) rfl (by decide) lk_f_X8_32 rfl dX8_instruction_139 ?_
                      refine r_aload_n (pc := 142) C dX8_instruction_142 rfl ?_
                      refine r_get (pc := 143) C K_X8 45 14 (by decide) rfl (by decide) lk_f_X8_139 rfl dX8_instruction_143 ?_
                      refine r_iload (pc := 146) C dX8_instruction_146 rfl ?_
                      refine r_iast (pc := 148) (t0 := 0) C 51 (by decide) rfl (fun _ => rfl) rfl dX8_instruction_148 (fun s48 _ => ?_)
                      refine r_aload_n (pc := 149) C dX8_instruction_149 rfl ?_
                      refine r_dup (pc := 150) C dX8_instruction_150 rfl ?_
                      refine r_get (pc := 151) C K_X8 45 14 (by decide) rfl (by decide) lk_f_X8_139 rfl dX8_instruction_151 ?_
                      refine r_iconst (pc := 154) (v := 1) C dX8_instruction_154 (by decide) ?_
                      refine r_iadd (pc := 155) C dX8_instruction_155 ?_
                      refine r_put (pc := 156) C K_X8 45 14 (by decide) rfl (by decide) lk_f_X8_139 rfl rfl (Nat.le_of_ble_eq_true rfl) rfl dX8_instruction_156 (fun s49 _ => ?_)
                      refine r_aload_n (pc := 159) C dX8_instruction_159 rfl ?_
                      refine r_get (pc := 160) C K_X8 45 14 (by decide) rfl (by decide) lk_f_X8_139 rfl dX8_instruction_160 ?_
                      refine r_iconst (pc := 163) (v := 1) C dX8_instruction_163 (by decide) ?_
                      refine r_isub (pc := 164) C dX8_instruction_164 ?_
                      exact r_iret (pc := 165) C dX8_instruction_165
                · refine r_iconst (pc := 60) (v := 1) C dX8_instruction_60 (by decide) ?_
                  refine r_goto (pc := 61) (tgt := 65) C dX8_instruction_61 (by decide) ?_
                  refine r_istore (pc := 65) (lv' := [some (.ref (zad E 45)), some (.int p0), some (.int p1), some (.int p2), some (.int p3), some (.int p4), some (.int (1 : Int32))]) C dX8_instruction_65 (by decide) rfl ?_
                  refine r_iload (pc := 67) C dX8_instruction_67 rfl ?_
                  refine r_if_ne (pc := 69) (tgt := 75) C dX8_instruction_69 (by decide) (fun _ => ?_) (fun _ => ?_)
                  · refine r_bipush (pc := 72) (v := -2) C dX8_instruction_72 (by decide) ?_
                    exact r_iret (pc := 74) C dX8_instruction_74
                  · refine r_aload_n (pc := 75) C dX8_instruction_75 rfl ?_
                    refine r_get (pc := 76) C K_X8 45 14 (by decide) rfl (by decide) lk_f_X8_139 rfl dX8_instruction_76 ?_
                    refine r_bipush (pc := 79) (v := 100) C dX8_instruction_79 (by decide) ?_
                    refine r_icmp_ne (pc := 81) (tgt := 87) C dX8_instruction_81 (by decide) (fun _ => ?_) (fun _ => ?_)
                    · refine r_bipush (pc := 84) (v := -3) C dX8_instruction_84 (by decide) ?_
                      exact r_iret (pc := 86) C dX8_instruction_86
                    · refine r_aload_n (pc := 87) C dX8_instruction_87 rfl ?_
                      refine r_get (pc := 88) C K_X8 45 15 (by decide) rfl (by decide) lk_f_X8_26 rfl dX8_instruction_88 ?_
                      refine r_aload_n (pc := 91) C dX8_instruction_91 rfl ?_
                      refine r_get (pc := 92) C K_X8 45 14 (by decide) rfl (by decide) lk_f_X8_139 rfl dX8_instruction_92 ?_
                      refine r_iload_n (pc := 95) C dX8_instruction_95 rfl ?_
                      refine r_iast (pc := 96) (t0 := 0) C 49 (by decide) rfl (fun _ => rfl) rfl dX8_instruction_96 (fun s50 _ => ?_)
                      refine r_aload_n (pc := 97) C dX8_instruction_97 rfl ?_
                      refine r_get (pc := 98) C K_X8 45 16 (by decide) rfl (by decide) lk_f_X8_29 rfl dX8_instruction_98 ?_
                      refine r_iconst (pc := 101) (v := 3) C dX8_instruction_101 (by decide) ?_
                      refine r_aload_n (pc := 102) C dX8_instruction_102 rfl ?_
                      refine r_get (pc := 103) C K_X8 45 14 (by decide) rfl (by decide) lk_f_X8_139 rfl dX8_instruction_103 ?_
                      refine r_imul (pc := 106) C dX8_instruction_106 ?_
                      refine r_iload_n (pc := 107) C dX8_instruction_107 rfl ?_
                      refine r_iast (pc := 108) (t0 := 0) C 50 (by decide) rfl (fun _ => rfl) rfl dX8_instruction_108 (fun s51 _ => ?_)
                      refine r_aload_n (pc := 109) C dX8_instruction_109 rfl ?_
                      refine r_get (pc := 110) C K_X8 45 16 (by decide) rfl (by decide) lk_f_X8_29 rfl dX8_instruction_110 ?_
                      refine r_iconst (pc := 113) (v := 3) C dX8_instruction_113 (by decide) ?_
                      refine r_aload_n (pc := 114) C dX8_instruction_114 rfl ?_
                      refine r_get (pc := 115) C K_X8 45 14 (by decide) rfl (by decide) lk_f_X8_139 rfl dX8_instruction_115 ?_
                      refine r_imul (pc := 118) C dX8_instruction_118 ?_
                      refine r_iconst (pc := 119) (v := 1) C dX8_instruction_119 (by decide) ?_
                      refine r_iadd (pc := 120) C dX8_instruction_120 ?_
                      refine r_iload_n (pc := 121) C dX8_instruction_121 rfl ?_
                      refine r_iast (pc := 122) (t0 := 0) C 50 (by decide) rfl (fun _ => rfl) rfl dX8_instruction_122 (fun s52 _ => ?_)
                      refine r_aload_n (pc := 123) C dX8_instruction_123 rfl ?_
                      refine r_get (pc := 124) C K_X8 45 16 (by decide) rfl (by decide) lk_f_X8_29 rfl dX8_instruction_124 ?_
                      refine r_iconst (pc := 127) (v := 3) C dX8_instruction_127 (by decide) ?_
                      refine r_aload_n (pc := 128) C dX8_instruction_128 rfl ?_
                      refine r_get (pc := 129) C K_X8 45 14 (by decide) rfl (by decide) lk_f_X8_139 rfl dX8_instruction_129 ?_
                      refine r_imul (pc := 132) C dX8_instruction_132 ?_
                      refine r_iconst (pc := 133) (v := 2) C dX8_instruction_133 (by decide) ?_
                      refine r_iadd (pc := 134) C dX8_instruction_134 ?_
                      refine r_iload (pc := 135) C dX8_instruction_135 rfl ?_
                      refine r_iast (pc := 137) (t0 := 0) C 50 (by decide) rfl (fun _ => rfl) rfl dX8_instruction_137 (fun s53 _ => ?_)
                      refine r_aload_n (pc := 138) C dX8_instruction_138 rfl ?_
                      refine r_get (pc := 139) C K_X8 45 17 (by decide) rfl (by decide) lk_f_X8_32 rfl dX8_instruction_139 ?_
                      refine r_aload_n (pc := 142) C dX8_instruction_142 rfl ?_
                      refine r_get (pc := 143) C K_X8 45 14 (by decide) rfl (by decide) lk_f_X8_139 rfl dX8_instruction_143 ?_
                      refine r_iload (pc := 146) C dX8_instruction_146 rfl ?_
                      refine r_iast (pc := 148) (t0 := 0) C 51 (by decide) rfl (fun _ => rfl) rfl dX8_instruction_148 (fun s54 _ => ?_)
                      refine r_aload_n (pc := 149) C dX8_instruction_149 rfl ?_
                      refine r_dup (pc := 150) C dX8_instruction_150 rfl ?_
                      refine r_get (pc := 151) C K_X8 45 14 (by decide) rfl (by decide) lk_f_X8_139 rfl dX8_instruction_151 ?_
                      refine r_iconst (pc := 154) (v := 1) C dX8_instruction_154 (by decide) ?_
                      refine r_iadd (pc := 155) C dX8_instruction_155 ?_
                      refine r_put (pc := 156) C K_X8 45 14 (by decide) rfl (by decide) lk_f_X8_139 rfl rfl (Nat.le_of_ble_eq_true rfl) rfl dX8_instruction_156 (fun s55 _ => ?_)
                      refine r_aload_n (pc := 159) C dX8_instruction_159 rfl ?_
                      refine r_get (pc := 160) C K_X8 45 14 (by decide) rfl (by decide) lk_f_X8_139 rfl dX8_instruction_160 ?_
                      refine r_iconst (pc := 163) (v := 1) C dX8_instruction_163 (by decide) ?_
                      refine r_isub (pc := 164) C dX8_instruction_164 ?_
                      exact r_iret (pc := 165) C dX8_instruction_165
theorem c_X8_instruction {E : zG} (hAp : zAp E) (p0 : Int32) (p1 : Int32) (p2 : Int32) (p3 : Int32) (p4 : Int32) (σ : zS) : zM E yX8_instruction cX8_instruction 7 (some .int) rm_X8_instruction (fun r : Int32 => some (.int r)) [.ref (zad E 45), .int p0, .int p1, .int p2, .int p3, .int p4] (f_X8_instruction p0 p1 p2 p3 p4 σ) σ :=
  zM_of (nn := 1) hAp (by decide) (Nat.le_of_ble_eq_true rfl) rfl rfl (fun Γ C => g_X8_instruction C p0 p1 p2 p3 p4 σ)
set_option maxHeartbeats 4000000 in
set_option maxRecDepth 100000 in
theorem g_X8_routine {E : zG} {Γ : zX} (C : zO E Γ RX8 cX8_routine 5 (some .int)) (p0 : Int32) (p1 : Int32) (p2 : Int32) (p3 : Int32) (σ : zS) : zJ E Γ rm_X8_routine 5 (fun r : Int32 => some (.int r)) (f_X8_routine p0 p1 p2 p3 σ) σ 0 [some (.ref (zad E 45)), some (.int p0), some (.int p1), some (.int p2), some (.int p3)] [] := by
  unfold f_X8_routine
  refine r_aload_n (pc := 0) C dX8_routine_0 rfl ?_
  refine r_iconst (pc := 1) (v := 0) C dX8_routine_1 (by decide) ?_
  refine r_put (pc := 2) C K_X8 45 0 (by decide) rfl (by decide) lk_f_X8_72 rfl rfl (Nat.le_of_ble_eq_true rfl) rfl dX8_routine_2 (fun s1 _ => ?_)
  refine r_iload_n (pc := 5) C dX8_routine_5 rfl ?_
  refine r_if_lt (pc := 6) (tgt := 15) C dX8_routine_6 (by decide) (fun _ => ?_) (fun _ => ?_)
  · refine r_iconst (pc := 15) (v := -1) C dX8_routine_15 (by decide) ?_
    exact r_iret (pc := 16) C dX8_routine_16
  · refine r_iload_n (pc := 9) C dX8_routine_9 rfl ?_
    refine r_bipush (pc := 10) (v := 7) C dX8_routine_10 (by decide) ?_
    refine r_icmp_le (pc := 12) (tgt := 17) C dX8_routine_12 (by decide) (fun _ => ?_) (fun _ => ?_)
    · refine r_iload_n (pc := 17) C dX8_routine_17 rfl ?_
      refine r_if_lt (pc := 18) (tgt := 37) C dX8_routine_18 (by decide) (fun _ => ?_) (fun _ => ?_)
      · refine r_bipush (pc := 37) (v := -2) C dX8_routine_37 (by decide) ?_
        exact r_iret (pc := 39) C dX8_routine_39
      · refine r_iload_n (pc := 21) C dX8_routine_21 rfl ?_
        refine r_bipush (pc := 22) (v := 99) C dX8_routine_22 (by decide) ?_
        refine r_icmp_gt (pc := 24) (tgt := 37) C dX8_routine_24 (by decide) (fun _ => ?_) (fun _ => ?_)
        · refine r_bipush (pc := 37) (v := -2) C dX8_routine_37 (by decide) ?_
          exact r_iret (pc := 39) C dX8_routine_39
        · refine r_iload_n (pc := 27) C dX8_routine_27 rfl ?_
          refine r_if_lt (pc := 28) (tgt := 37) C dX8_routine_28 (by decide) (fun _ => ?_) (fun _ => ?_)
          · refine r_bipush (pc := 37) (v := -2) C dX8_routine_37 (by decide) ?_
            exact r_iret (pc := 39) C dX8_routine_39
          · refine r_iload_n (pc := 31) C dX8_routine_31 rfl ?_
            refine r_bipush (pc := 32) (v := 15) C dX8_routine_32 (by decide) ?_
            refine r_icmp_le (pc := 34) (tgt := 40) C dX8_routine_34 (by decide) (fun _ => ?_) (fun _ => ?_)
            · refine r_aload_n (pc := 40) C dX8_routine_40 rfl ?_
              refine r_get (pc := 41) C K_X8 45 18 (by decide) rfl (by decide) lk_f_X8_35 rfl dX8_routine_41 ?_
              refine r_iload_n (pc := 44) C dX8_routine_44 rfl ?_
              refine r_iconst (pc := 45) (v := 1) C dX8_routine_45 (by decide) ?_
              refine r_zast (pc := 46) (t0 := 1) C 52 (by decide) rfl (fun _ => rfl) rfl dX8_routine_46 (fun s2 _ => ?_)
              refine r_aload_n (pc := 47) C dX8_routine_47 rfl ?_
              refine r_get (pc := 48) C K_X8 45 19 (by decide) rfl (by decide) lk_f_X8_39 rfl dX8_routine_48 ?_
              refine r_iload_n (pc := 51) C dX8_routine_51 rfl ?_
              refine r_iload_n (pc := 52) C dX8_routine_52 rfl ?_
              refine r_iast (pc := 53) (t0 := 0) C 53 (by decide) rfl (fun _ => rfl) rfl dX8_routine_53 (fun s3 _ => ?_)
              refine r_aload_n (pc := 54) C dX8_routine_54 rfl ?_
              refine r_get (pc := 55) C K_X8 45 20 (by decide) rfl (by decide) lk_f_X8_42 rfl dX8_routine_55 ?_
              refine r_iload_n (pc := 58) C dX8_routine_58 rfl ?_
              refine r_iload_n (pc := 59) C dX8_routine_59 rfl ?_
              refine r_iast (pc := 60) (t0 := 0) C 54 (by decide) rfl (fun _ => rfl) rfl dX8_routine_60 (fun s4 _ => ?_)
              refine r_aload_n (pc := 61) C dX8_routine_61 rfl ?_
              refine r_get (pc := 62) C K_X8 45 21 (by decide) rfl (by decide) lk_f_X8_45 rfl dX8_routine_62 ?_
              refine r_iload_n (pc := 65) C dX8_routine_65 rfl ?_
              refine r_iload (pc := 66) C dX8_routine_66 rfl ?_
              refine r_zast (pc := 68) (t0 := 1) C 55 (by decide) rfl (fun _ => rfl) rfl dX8_routine_68 (fun s5 _ => ?_)
              refine r_iconst (pc := 69) (v := 1) C dX8_routine_69 (by decide) ?_
              exact r_iret (pc := 70) C dX8_routine_70
            · refine r_bipush (pc := 37) (v := -2) C dX8_routine_37 (by decide) ?_
              exact r_iret (pc := 39) C dX8_routine_39
    · refine r_iconst (pc := 15) (v := -1) C dX8_routine_15 (by decide) ?_
      exact r_iret (pc := 16) C dX8_routine_16
theorem c_X8_routine {E : zG} (hAp : zAp E) (p0 : Int32) (p1 : Int32) (p2 : Int32) (p3 : Int32) (σ : zS) : zM E yX8_routine cX8_routine 5 (some .int) rm_X8_routine (fun r : Int32 => some (.int r)) [.ref (zad E 45), .int p0, .int p1, .int p2, .int p3] (f_X8_routine p0 p1 p2 p3 σ) σ :=
  zM_of (nn := 0) hAp (by decide) (Nat.le_of_ble_eq_true rfl) rfl rfl (fun Γ C => g_X8_routine C p0 p1 p2 p3 σ)
set_option maxHeartbeats 4000000 in
set_option maxRecDepth 100000 in
theorem g_X8_clear_L17 {E : zG} {Γ : zX} (C : zO E Γ RX8 cX8_clear 3 (some .int)) : ∀ (n : Nat) (x1 : Int32) (x2 : Int32) (σ : zS), zJ E Γ rm_X8_clear 3 (fun r : Int32 => some (.int r)) (f_X8_clear_L17 n x1 x2 σ) σ 17 [some (.ref (zad E 45)), some (.int x1), some (.int x2)] [] := by
  intro n
  induction n with
  | zero => intro x1 x2 σ; rw [f_X8_clear_L17]; exact r_none
  | succ n ih =>
    intro x1 x2 σ
    rw [f_X8_clear_L17]
    refine r_iload_n (pc := 17) C dX8_clear_17 rfl ?_
    refine r_bipush (pc := 18) (v := 8) C dX8_clear_18 (by decide) ?_
    refine r_icmp_ge (pc := 20) (tgt := 36) C dX8_clear_20 (by decide) (fun _ => ?_) (fun _ => ?_)
    · refine r_iload_n (pc := 36) C dX8_clear_36 rfl ?_
      exact r_iret (pc := 37) C dX8_clear_37
    · refine r_aload_n (pc := 23) C dX8_clear_23 rfl ?_
      refine r_get (pc := 24) C K_X8 45 18 (by decide) rfl (by decide) lk_f_X8_35 rfl dX8_clear_24 ?_
      refine r_iload_n (pc := 27) C dX8_clear_27 rfl ?_
      refine r_iconst (pc := 28) (v := 0) C dX8_clear_28 (by decide) ?_
      refine r_zast (pc := 29) (t0 := 1) C 52 (by decide) rfl (fun _ => rfl) rfl dX8_clear_29 (fun s3 _ => ?_)
      refine r_iinc (pc := 30) (lv' := [some (.ref (zad E 45)), some (.int x1), some (.int (x2 + (1 : Int32)))]) C dX8_clear_30 (by decide) rfl rfl rfl ?_
      refine r_goto (pc := 33) (tgt := 17) C dX8_clear_33 (by decide) ?_
      exact ih _ _ _
set_option maxHeartbeats 4000000 in
set_option maxRecDepth 100000 in
theorem g_X8_clear {E : zG} {Γ : zX} (C : zO E Γ RX8 cX8_clear 3 (some .int)) (σ : zS) : zJ E Γ rm_X8_clear 3 (fun r : Int32 => some (.int r)) (f_X8_clear σ) σ 0 [some (.ref (zad E 45)), none, none] [] := by
  unfold f_X8_clear
  refine r_aload_n (pc := 0) C dX8_clear_0 rfl ?_
  refine r_iconst (pc := 1) (v := 0) C dX8_clear_1 (by decide) ?_
  refine r_put (pc := 2) C K_X8 45 0 (by decide) rfl (by decide) lk_f_X8_72 rfl rfl (Nat.le_of_ble_eq_true rfl) rfl dX8_clear_2 (fun s1 _ => ?_)
  refine r_aload_n (pc := 5) C dX8_clear_5 rfl ?_
  refine r_get (pc := 6) C K_X8 45 14 (by decide) rfl (by decide) lk_f_X8_139 rfl dX8_clear_6 ?_
  refine r_istore_n (pc := 9) (lv' := [some (.ref (zad E 45)), some (.int (s1 45 14)), none]) C dX8_clear_9 (by decide) rfl ?_
  refine r_aload_n (pc := 10) C dX8_clear_10 rfl ?_
  refine r_iconst (pc := 11) (v := 0) C dX8_clear_11 (by decide) ?_
  refine r_put (pc := 12) C K_X8 45 14 (by decide) rfl (by decide) lk_f_X8_139 rfl rfl (Nat.le_of_ble_eq_true rfl) rfl dX8_clear_12 (fun s2 _ => ?_)
  refine r_iconst (pc := 15) (v := 0) C dX8_clear_15 (by decide) ?_
  refine r_istore_n (pc := 16) (lv' := [some (.ref (zad E 45)), some (.int (s1 45 14)), some (.int (0 : Int32))]) C dX8_clear_16 (by decide) rfl ?_
  exact g_X8_clear_L17 C zF _ _ _
theorem c_X8_clear {E : zG} (hAp : zAp E) (σ : zS) : zM E yX8_clear cX8_clear 3 (some .int) rm_X8_clear (fun r : Int32 => some (.int r)) [.ref (zad E 45)] (f_X8_clear σ) σ :=
  zM_of (nn := 2) hAp (by decide) (Nat.le_of_ble_eq_true rfl) rfl rfl (fun Γ C => g_X8_clear C σ)
