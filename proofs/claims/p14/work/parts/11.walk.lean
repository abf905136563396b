set_option maxHeartbeats 4000000 in
set_option maxRecDepth 100000 in
theorem g_X3_find_L28 {E : zG} {Γ : zX} (C : zO E Γ RX3 cX3_find 10 (some .int)) : ∀ (n : Nat) (x1 : Int32) (x2 : Int32) (x3 : Int32) (x4 : Int32) (x5 : Int32) (x6 : Int32) (x7 : Int32) (σ : zS), zJ E Γ rm_X3_find 10 (fun r : Int32 => some (.int r)) (f_X3_find_L28 n x1 x2 x3 x4 x5 x6 x7 σ) σ 28 [some (.ref (zad E 1)), some (.int x1), some (.int x2), some (.int x3), some (.int x4), some (.int x5), some (.int x6), some (.int x7), none, none] [] := by
  intro n
  induction n with
  | zero => intro x1 x2 x3 x4 x5 x6 x7 σ; rw [f_X3_find_L28]; exact r_none
  | succ n ih =>
    intro x1 x2 x3 x4 x5 x6 x7 σ
    rw [f_X3_find_L28]
    refine r_iload (pc := 28) C dX3_find_28 rfl ?_
    refine r_iload (pc := 30) C dX3_find_30 rfl ?_
    refine r_icmp_ge (pc := 32) (tgt := 91) C dX3_find_32 (by decide) (fun _ => ?_) (fun _ => ?_)
    · refine r_iconst (pc := 91) (v := 0) C dX3_find_91 (by decide) ?_
      exact r_iret (pc := 92) C dX3_find_92
    · refine r_iload_n (pc := 35) C dX3_find_35 rfl ?_
      refine r_iload (pc := 36) C dX3_find_36 rfl ?_
      refine r_iload (pc := 38) C dX3_find_38 rfl ?_
      refine r_imul (pc := 40) C dX3_find_40 ?_
      refine r_iadd (pc := 41) C dX3_find_41 ?_
      refine r_leti (fun v3 => ?_)
      refine r_istore (pc := 42) (lv' := [some (.ref (zad E 1)), some (.int x1), some (.int x2), some (.int x3), some (.int x4), some (.int x5), some (.int x6), some (.int x7), some (.int v3), none]) C dX3_find_42 (by decide) rfl ?_
      refine r_iload (pc := 44) C dX3_find_44 rfl ?_
      refine r_bipush (pc := 46) (v := 127) C dX3_find_46 (by decide) ?_
      refine r_icmp_le (pc := 48) (tgt := 60) C dX3_find_48 (by decide) (fun _ => ?_) (fun _ => ?_)
      · refine r_aload_n (pc := 60) C dX3_find_60 rfl ?_
        refine r_iload (pc := 61) C dX3_find_61 rfl ?_
        refine r_callV (pc := 63) C 1 (c_X3_byteAt (zO.ap C) _ _) lk_c_X3_byteAt lk_i_X3 lk_m_X3_55 lk_n_X3_byteAt lk_v_X3_byteAt (n := 1) (by decide +kernel) rfl ⟨rfl, rfl⟩ (by decide) (by decide) rfl rfl rfl (Nat.le_of_ble_eq_true rfl) ⟨Nat.zero_le _, Nat.zero_le _⟩ dX3_find_63 (fun v4 s1 _ => ?_)
        refine r_istore (pc := 66) (lv' := [some (.ref (zad E 1)), some (.int x1), some (.int x2), some (.int x3), some (.int x4), some (.int x5), some (.int x6), some (.int x7), some (.int v3), some (.int v4)]) C dX3_find_66 (by decide) rfl ?_
        refine r_iload (pc := 68) C dX3_find_68 rfl ?_
        refine r_if_ge (pc := 70) (tgt := 76) C dX3_find_70 (by decide) (fun _ => ?_) (fun _ => ?_)
        · refine r_iload (pc := 76) C dX3_find_76 rfl ?_
          refine r_iload_n (pc := 78) C dX3_find_78 rfl ?_
          refine r_icmp_ne (pc := 79) (tgt := 85) C dX3_find_79 (by decide) (fun _ => ?_) (fun _ => ?_)
          · refine r_iload (pc := 82) C dX3_find_82 rfl ?_
            exact r_iret (pc := 84) C dX3_find_84
          · refine r_iinc (pc := 85) (lv' := [some (.ref (zad E 1)), some (.int x1), some (.int x2), some (.int x3), some (.int x4), some (.int x5), some (.int x6), some (.int (x7 + (1 : Int32))), some (.int v3), some (.int v4)]) C dX3_find_85 (by decide) rfl rfl rfl ?_
            refine r_goto (pc := 88) (tgt := 28) C dX3_find_88 (by decide) ?_
            refine r_mask [true, true, true, true, true, true, true, true, false, false] (lv' := [some (.ref (zad E 1)), some (.int x1), some (.int x2), some (.int x3), some (.int x4), some (.int x5), some (.int x6), some (.int (x7 + (1 : Int32))), none, none]) rfl ?_
            exact ih _ _ _ _ _ _ _ _
        · refine r_iload (pc := 73) C dX3_find_73 rfl ?_
          exact r_iret (pc := 75) C dX3_find_75
      · refine r_aload_n (pc := 51) C dX3_find_51 rfl ?_
        refine r_iload (pc := 52) C dX3_find_52 rfl ?_
        refine r_callV (pc := 54) C 1 (c_X3_wordAt (zO.ap C) _ _) lk_c_X3_wordAt lk_i_X3 lk_m_X3_65 lk_n_X3_wordAt lk_v_X3_wordAt (n := 1) (by decide +kernel) rfl ⟨rfl, rfl⟩ (by decide) (by decide) rfl rfl rfl (Nat.le_of_ble_eq_true rfl) ⟨Nat.zero_le _, Nat.zero_le _⟩ dX3_find_54 (fun v5 s2 _ => ?_)
        refine r_goto (pc := 57) (tgt := 66) C dX3_find_57 (by decide) ?_
        refine r_istore (pc := 66) (lv' := [some (.ref (zad E 1)), some (.int x1), some (.int x2), some (.int x3), some (.int x4), some (.int x5), some (.int x6), some (.int x7), some (.int v3), some (.int v5)]) C dX3_find_66 (by decide) rfl ?_
        refine r_iload (pc := 68) C dX3_find_68 rfl ?_
        refine r_if_ge (pc := 70) (tgt := 76) C dX3_find_70 (by decide) (fun _ => ?_) (fun _ => ?_)
        · refine r_iload (pc := 76) C dX3_find_76 rfl ?_
          refine r_iload_n (pc := 78) C dX3_find_78 rfl ?_
          refine r_icmp_ne (pc := 79) (tgt := 85) C dX3_find_79 (by decide) (fun _ => ?_) (fun _ => ?_)
          · refine r_iload (pc := 82) C dX3_find_82 rfl ?_
            exact r_iret (pc := 84) C dX3_find_84
          · refine r_iinc (pc := 85) (lv' := [some (.ref (zad E 1)), some (.int x1), some (.int x2), some (.int x3), some (.int x4), some (.int x5), some (.int x6), some (.int (x7 + (1 : Int32))), some (.int v3), some (.int v5)]) C dX3_find_85 (by decide) rfl rfl rfl ?_
            refine r_goto (pc := 88) (tgt := 28) C dX3_find_88 (by decide) ?_
            refine r_mask [true, true, true, true, true, true, true, true, false, false] (lv' := [some (.ref (zad E 1)), some (.int x1), some (.int x2), some (.int x3), some (.int x4), some (.int x5), some (.int x6), some (.int (x7 + (1 : Int32))), none, none]) rfl ?_
            exact ih _ _ _ _ _ _ _ _
        · refine r_iload (pc := 73) C dX3_find_73 rfl ?_
          exact r_iret (pc := 75) C dX3_find_75
set_option maxHeartbeats 4000000 in
set_option maxRecDepth 100000 in
theorem g_X3_find {E : zG} {Γ : zX} (C : zO E Γ RX3 cX3_find 10 (some .int)) (p0 : Int32) (p1 : Int32) (p2 : Int32) (p3 : Int32) (σ : zS) : zJ E Γ rm_X3_find 10 (fun r : Int32 => some (.int r)) (f_X3_find p0 p1 p2 p3 σ) σ 0 [some (.ref (zad E 1)), some (.int p0), some (.int p1), some (.int p2), some (.int p3), none, none, none, none, none] [] := by
  unfold f_X3_find
  refine r_iload (pc := 0) C dX3_find_0 rfl ?_
  refine r_bipush (pc := 2) (v := 127) C dX3_find_2 (by decide) ?_
  refine r_iand (pc := 4) C dX3_find_4 ?_
  refine r_leti (fun v1 => ?_)
  refine r_istore (pc := 5) (lv' := [some (.ref (zad E 1)), some (.int p0), some (.int p1), some (.int p2), some (.int p3), some (.int v1), none, none, none, none]) C dX3_find_5 (by decide) rfl ?_
  refine r_iload_n (pc := 7) C dX3_find_7 rfl ?_
  refine r_iload (pc := 8) C dX3_find_8 rfl ?_
  refine r_if_ne (pc := 10) (tgt := 17) C dX3_find_10 (by decide) (fun _ => ?_) (fun _ => ?_)
  · refine r_iconst (pc := 13) (v := 1) C dX3_find_13 (by decide) ?_
    refine r_goto (pc := 14) (tgt := 20) C dX3_find_14 (by decide) ?_
    refine r_mmin (pc := 20) C lk_m_X3_62 lk_ms_min lk_mi lk_mc_min (by decide) (Nat.le_of_ble_eq_true rfl) ⟨Nat.zero_le _, Nat.zero_le _⟩ dX3_find_20 ?_
    refine r_leti (fun v6 => ?_)
    refine r_istore (pc := 23) (lv' := [some (.ref (zad E 1)), some (.int p0), some (.int p1), some (.int p2), some (.int p3), some (.int v1), some (.int v6), none, none, none]) C dX3_find_23 (by decide) rfl ?_
    refine r_iconst (pc := 25) (v := 0) C dX3_find_25 (by decide) ?_
    refine r_istore (pc := 26) (lv' := [some (.ref (zad E 1)), some (.int p0), some (.int p1), some (.int p2), some (.int p3), some (.int v1), some (.int v6), some (.int (0 : Int32)), none, none]) C dX3_find_26 (by decide) rfl ?_
    exact g_X3_find_L28 C zF _ _ _ _ _ _ _ _
  · refine r_sipush (pc := 17) (v := 2001) C dX3_find_17 (by decide) ?_
    refine r_mmin (pc := 20) C lk_m_X3_62 lk_ms_min lk_mi lk_mc_min (by decide) (Nat.le_of_ble_eq_true rfl) ⟨Nat.zero_le _, Nat.zero_le _⟩ dX3_find_20 ?_
    refine r_leti (fun v2 => ?_)
    refine r_istore (pc := 23) (lv' := [some (.ref (zad E 1)), some (.int p0), some (.int p1), some (.int p2), some (.int p3), some (.int v1), some (.int v2), none, none, none]) C dX3_find_23 (by decide) rfl ?_
    refine r_iconst (pc := 25) (v := 0) C dX3_find_25 (by decide) ?_
    refine r_istore (pc := 26) (lv' := [some (.ref (zad E 1)), some (.int p0), some (.int p1), some (.int p2), some (.int p3), some (.int v1), some (.int v2), some (.int (0 : Int32)), none, none]) C dX3_find_26 (by decide) rfl ?_
    exact g_X3_find_L28 C zF _ _ _ _ _ _ _ _
theorem c_X3_find {E : zG} (hAp : zAp E) (p0 : Int32) (p1 : Int32) (p2 : Int32) (p3 : Int32) (σ : zS) : zM E yX3_find cX3_find 10 (some .int) rm_X3_find (fun r : Int32 => some (.int r)) [.ref (zad E 1), .int p0, .int p1, .int p2, .int p3] (f_X3_find p0 p1 p2 p3 σ) σ :=
  zM_of (nn := 5) hAp (by decide) (Nat.le_of_ble_eq_true rfl) rfl rfl (fun Γ C => g_X3_find C p0 p1 p2 p3 σ)
set_option maxHeartbeats 4000000 in
set_option maxRecDepth 100000 in
theorem g_X4_characterAt {E : zG} {Γ : zX} (C : zO E Γ RX4 cX4_characterAt 2 (some .int)) (p0 : Int32) (σ : zS) : zJ E Γ rm_X4_characterAt 2 (fun r : Int32 => some (.int r)) (f_X4_characterAt p0 σ) σ 0 [some (.ref (zad E 41)), some (.int p0)] [] := by
  unfold f_X4_characterAt
  refine r_iload_n (pc := 0) C dX4_characterAt_0 rfl ?_
  refine r_if_lt (pc := 1) (tgt := 21) C dX4_characterAt_1 (by decide) (fun _ => ?_) (fun _ => ?_)
  · refine r_iconst (pc := 21) (v := -1) C dX4_characterAt_21 (by decide) ?_
    exact r_iret (pc := 22) C dX4_characterAt_22
  · refine r_iload_n (pc := 4) C dX4_characterAt_4 rfl ?_
    refine r_aload_n (pc := 5) C dX4_characterAt_5 rfl ?_
    refine r_get (pc := 6) C K_X4 41 1 (by decide) rfl (by decide) lk_f_X4_15 rfl dX4_characterAt_6 ?_
    refine r_icmp_ge (pc := 9) (tgt := 21) C dX4_characterAt_9 (by decide) (fun _ => ?_) (fun _ => ?_)
    · refine r_iconst (pc := 21) (v := -1) C dX4_characterAt_21 (by decide) ?_
      exact r_iret (pc := 22) C dX4_characterAt_22
    · refine r_aload_n (pc := 12) C dX4_characterAt_12 rfl ?_
      refine r_get (pc := 13) C K_X4 41 0 (by decide) rfl (by decide) lk_f_X4_9 rfl dX4_characterAt_13 ?_
      refine r_iload_n (pc := 16) C dX4_characterAt_16 rfl ?_
      refine r_iald (pc := 17) (t0 := 0) C 42 (by decide) rfl rfl dX4_characterAt_17 ?_
      refine r_goto (pc := 18) (tgt := 22) C dX4_characterAt_18 (by decide) ?_
      exact r_iret (pc := 22) C dX4_characterAt_22
theorem c_X4_characterAt {E : zG} (hAp : zAp E) (p0 : Int32) (σ : zS) : zM E yX4_characterAt cX4_characterAt 2 (some .int) rm_X4_characterAt (fun r : Int32 => some (.int r)) [.ref (zad E 41), .int p0] (f_X4_characterAt p0 σ) σ :=
  zM_of (nn := 0) hAp (by decide) (Nat.le_of_ble_eq_true rfl) rfl rfl (fun Γ C => g_X4_characterAt C p0 σ)
set_option maxHeartbeats 4000000 in
set_option maxRecDepth 100000 in
theorem g_X4_print {E : zG} {Γ : zX} (C : zO E Γ RX4 cX4_print 2 (some .int)) (p0 : Int32) (σ : zS) : zJ E Γ rm_X4_print 2 (fun r : Int32 => some (.int r)) (f_X4_print p0 σ) σ 0 [some (.ref (zad E 41)), some (.int p0)] [] := by
  unfold f_X4_print
  refine r_aload_n (pc := 0) C dX4_print_0 rfl ?_
  refine r_get (pc := 1) C K_X4 41 1 (by decide) rfl (by decide) lk_f_X4_15 rfl dX4_print_1 ?_
  refine r_bipush (pc := 4) (v := 120) C dX4_print_4 (by decide) ?_
  refine r_icmp_lt (pc := 6) (tgt := 12) C dX4_print_6 (by decide) (fun _ => ?_) (fun _ => ?_)
  · refine r_aload_n (pc := 12) C dX4_print_12 rfl ?_
    refine r_get (pc := 13) C K_X4 41 0 (by decide) rfl (by decide) lk_f_X4_9 rfl dX4_print_13 ?_
    refine r_aload_n (pc := 16) C dX4_print_16 rfl ?_
    refine r_get (pc := 17) C K_X4 41 1 (by decide) rfl (by decide) lk_f_X4_15 rfl dX4_print_17 ?_
    refine r_iload_n (pc := 20) C dX4_print_20 rfl ?_
    refine r_sipush (pc := 21) (v := 255) C dX4_print_21 (by decide) ?_
    refine r_iand (pc := 24) C dX4_print_24 ?_
    refine r_iast (pc := 25) (t0 := 0) C 42 (by decide) rfl (fun _ => rfl) rfl dX4_print_25 (fun s1 _ => ?_)
    refine r_aload_n (pc := 26) C dX4_print_26 rfl ?_
    refine r_dup (pc := 27) C dX4_print_27 rfl ?_
    refine r_get (pc := 28) C K_X4 41 1 (by decide) rfl (by decide) lk_f_X4_15 rfl dX4_print_28 ?_
    refine r_iconst (pc := 31) (v := 1) C dX4_print_31 (by decide) ?_
    refine r_iadd (pc := 32) C dX4_print_32 ?_
    refine r_put (pc := 33) C K_X4 41 1 (by decide) rfl (by decide) lk_f_X4_15 rfl rfl (Nat.le_of_ble_eq_true rfl) rfl dX4_print_33 (fun s2 _ => ?_)
    refine r_iconst (pc := 36) (v := 1) C dX4_print_36 (by decide) ?_
    exact r_iret (pc := 37) C dX4_print_37
  · refine r_bipush (pc := 9) (v := -21) C dX4_print_9 (by decide) ?_
    exact r_iret (pc := 11) C dX4_print_11
theorem c_X4_print {E : zG} (hAp : zAp E) (p0 : Int32) (σ : zS) : zM E yX4_print cX4_print 2 (some .int) rm_X4_print (fun r : Int32 => some (.int r)) [.ref (zad E 41), .int p0] (f_X4_print p0 σ) σ :=
  zM_of (nn := 0) hAp (by decide) (Nat.le_of_ble_eq_true rfl) rfl rfl (fun Γ C => g_X4_print C p0 σ)
set_option maxHeartbeats 4000000 in
set_option maxRecDepth 100000 in
theorem g_X4_printNumber_L25 {E : zG} {Γ : zX} (C : zO E Γ RX4 cX4_printNumber 5 (some .int)) : ∀ (n : Nat) (x1 : Int32) (x2 : Int32) (x3 : Int32) (x4 : Int32) (σ : zS), zJ E Γ rm_X4_printNumber 5 (fun r : Int32 => some (.int r)) (f_X4_printNumber_L25 n x1 x2 x3 x4 σ) σ 25 [some (.ref (zad E 41)), some (.int x1), some (.int x2), some (.int x3), some (.int x4)] [] := by
  intro n
  induction n with
  | zero => intro x1 x2 x3 x4 σ; rw [f_X4_printNumber_L25]; exact r_none
  | succ n ih =>
    intro x1 x2 x3 x4 σ
    rw [f_X4_printNumber_L25]
    refine r_iload (pc := 25) C dX4_printNumber_25 rfl ?_
    refine r_if_le (pc := 27) (tgt := 71) C dX4_printNumber_27 (by decide) (fun _ => ?_) (fun _ => ?_)
    · refine r_iload_n (pc := 71) C dX4_printNumber_71 rfl ?_
      exact r_iret (pc := 72) C dX4_printNumber_72
    · refine r_iload_n (pc := 30) C dX4_printNumber_30 rfl ?_
      refine r_if_lt (pc := 31) (tgt := 71) C dX4_printNumber_31 (by decide) (fun _ => ?_) (fun _ => ?_)
      · refine r_iload_n (pc := 71) C dX4_printNumber_71 rfl ?_
        exact r_iret (pc := 72) C dX4_printNumber_72
      · refine r_iload_n (pc := 34) C dX4_printNumber_34 rfl ?_
        refine r_iload (pc := 35) C dX4_printNumber_35 rfl ?_
        refine r_icmp_ge (pc := 37) (tgt := 46) C dX4_printNumber_37 (by decide) (fun _ => ?_) (fun _ => ?_)
        · refine r_aload_n (pc := 46) C dX4_printNumber_46 rfl ?_
          refine r_bipush (pc := 47) (v := 48) C dX4_printNumber_47 (by decide) ?_
          refine r_iload_n (pc := 49) C dX4_printNumber_49 rfl ?_
          refine r_iload (pc := 50) C dX4_printNumber_50 rfl ?_
          refine r_idiv (pc := 52) C dX4_printNumber_52 ?_
          refine r_bipush (pc := 53) (v := 10) C dX4_printNumber_53 (by decide) ?_
          refine r_irem (pc := 55) C dX4_printNumber_55 ?_
          refine r_iadd (pc := 56) C dX4_printNumber_56 ?_
          refine r_callV (pc := 57) C 41 (c_X4_print (zO.ap C) _ _) lk_c_X4_print lk_i_X4 lk_m_X4_19 lk_n_X4_print lk_v_X4_print (n := 1) (by decide +kernel) rfl ⟨rfl, rfl⟩ (by decide) (by decide) rfl rfl rfl (Nat.le_of_ble_eq_true rfl) ⟨Nat.zero_le _, Nat.zero_le _⟩ dX4_printNumber_57 (fun v2 s1 _ => ?_)
          refine r_istore_n (pc := 60) (lv' := [some (.ref (zad E 41)), some (.int x1), some (.int v2), some (.int x3), some (.int x4)]) C dX4_printNumber_60 (by decide) rfl ?_
          refine r_iload (pc := 61) C dX4_printNumber_61 rfl ?_
          refine r_bipush (pc := 63) (v := 10) C dX4_printNumber_63 (by decide) ?_
          refine r_idiv (pc := 65) C dX4_printNumber_65 ?_
          refine r_leti (fun v3 => ?_)
          refine r_istore (pc := 66) (lv' := [some (.ref (zad E 41)), some (.int x1), some (.int v2), some (.int x3), some (.int v3)]) C dX4_printNumber_66 (by decide) rfl ?_
          refine r_goto (pc := 68) (tgt := 25) C dX4_printNumber_68 (by decide) ?_
          exact ih _ _ _ _ _
        · refine r_iload (pc := 40) C dX4_printNumber_40 rfl ?_
          refine r_iconst (pc := 42) (v := 1) C dX4_printNumber_42 (by decide) ?_
          refine r_icmp_ne (pc := 43) (tgt := 61) C dX4_printNumber_43 (by decide) (fun _ => ?_) (fun _ => ?_)
          · refine r_aload_n (pc := 46) C dX4_printNumber_46 rfl ?_
            refine r_bipush (pc := 47) (v := 48) C dX4_printNumber_47 (by decide) ?_
            refine r_iload_n (pc := 49) C dX4_printNumber_49 rfl ?_
            refine r_iload (pc := 50) C dX4_printNumber_50 rfl ?_
            refine r_idiv (pc := 52) C dX4_printNumber_52 ?_
            refine r_bipush (pc := 53) (v := 10) C dX4_printNumber_53 (by decide) ?_
            refine r_irem (pc := 55) C dX4_printNumber_55 ?_
            refine r_iadd (pc := 56) C dX4_printNumber_56 ?_
            refine r_callV (pc := 57) C 41 (c_X4_print (zO.ap C) _ _) lk_c_X4_print lk_i_X4 lk_m_X4_19 lk_n_X4_print lk_v_X4_print (n := 1) (by decide +kernel) rfl ⟨rfl, rfl⟩ (by decide) (by decide) rfl rfl rfl (Nat.le_of_ble_eq_true rfl) ⟨Nat.zero_le _, Nat.zero_le _⟩ dX4_printNumber_57 (fun v5 s2 _ => ?_)
            refine r_istore_n (pc := 60) (lv' := [some (.ref (zad E 41)), some (.int x1), some (.int v5), some (.int x3), some (.int x4)]) C dX4_printNumber_60 (by decide) rfl ?_
            refine r_iload (pc := 61) C dX4_printNumber_61 rfl ?_
            refine r_bipush (pc := 63) (v := 10) C dX4_printNumber_63 (by decide) ?_
            refine r_idiv (pc := 65) C dX4_printNumber_65 ?_
            refine r_leti (fun v6 => ?_)
            refine r_istore (pc := 66) (lv' := [some (.ref (zad E 41)), some (.int x1), some (.int v5), some (.int x3), some (.int v6)]) C dX4_printNumber_66 (by decide) rfl ?_
            refine r_goto (pc := 68) (tgt := 25) C dX4_printNumber_68 (by decide) ?_
            exact ih _ _ _ _ _
          · refine r_iload (pc := 61) C dX4_printNumber_61 rfl ?_
            refine r_bipush (pc := 63) (v := 10) C dX4_printNumber_63 (by decide) ?_
            refine r_idiv (pc := 65) C dX4_printNumber_65 ?_
            refine r_leti (fun v4 => ?_)
            refine r_istore (pc := 66) (lv' := [some (.ref (zad E 41)), some (.int x1), some (.int x2), some (.int x3), some (.int v4)]) C dX4_printNumber_66 (by decide) rfl ?_
            refine r_goto (pc := 68) (tgt := 25) C dX4_printNumber_68 (by decide) ?_
            exact ih _ _ _ _ _
set_option maxHeartbeats 4000000 in
set_option maxRecDepth 100000 in
theorem g_X4_printNumber {E : zG} {Γ : zX} (C : zO E Γ RX4 cX4_printNumber 5 (some .int)) (p0 : Int32) (σ : zS) : zJ E Γ rm_X4_printNumber 5 (fun r : Int32 => some (.int r)) (f_X4_printNumber p0 σ) σ 0 [some (.ref (zad E 41)), some (.int p0), none, none, none] [] := by
  unfold f_X4_printNumber
  refine r_iload_n (pc := 0) C dX4_printNumber_0 rfl ?_
  refine r_if_ge (pc := 1) (tgt := 13) C dX4_printNumber_1 (by decide) (fun _ => ?_) (fun _ => ?_)
  · refine r_iconst (pc := 13) (v := 1) C dX4_printNumber_13 (by decide) ?_
    refine r_istore_n (pc := 14) (lv' := [some (.ref (zad E 41)), some (.int p0), some (.int (1 : Int32)), none, none]) C dX4_printNumber_14 (by decide) rfl ?_
    refine r_iload_n (pc := 15) C dX4_printNumber_15 rfl ?_
    refine r_mabs (pc := 16) C lk_m_X4_23 lk_ms_abs lk_mi lk_mc_abs (by decide) (Nat.le_of_ble_eq_true rfl) ⟨Nat.zero_le _, Nat.zero_le _⟩ dX4_printNumber_16 ?_
    refine r_leti (fun v1 => ?_)
    refine r_istore_n (pc := 19) (lv' := [some (.ref (zad E 41)), some (.int p0), some (.int (1 : Int32)), some (.int v1), none]) C dX4_printNumber_19 (by decide) rfl ?_
    refine r_sipush (pc := 20) (v := 10000) C dX4_printNumber_20 (by decide) ?_
    refine r_istore (pc := 23) (lv' := [some (.ref (zad E 41)), some (.int p0), some (.int (1 : Int32)), some (.int v1), some (.int (10000 : Int32))]) C dX4_printNumber_23 (by decide) rfl ?_
    exact g_X4_printNumber_L25 C zF _ _ _ _ _
  · refine r_aload_n (pc := 4) C dX4_printNumber_4 rfl ?_
    refine r_bipush (pc := 5) (v := 45) C dX4_printNumber_5 (by decide) ?_
    refine r_callV (pc := 7) C 41 (c_X4_print (zO.ap C) _ _) lk_c_X4_print lk_i_X4 lk_m_X4_19 lk_n_X4_print lk_v_X4_print (n := 1) (by decide +kernel) rfl ⟨rfl, rfl⟩ (by decide) (by decide) rfl rfl rfl (Nat.le_of_ble_eq_true rfl) ⟨Nat.zero_le _, Nat.zero_le _⟩ dX4_printNumber_7 (fun v7 s3 _ => ?_)
    refine r_goto (pc := 10) (tgt := 14) C dX4_printNumber_10 (by decide) ?_
    refine r_istore_n (pc := 14) (lv' := [some (.ref (zad E 41)), some (.int p0), some (.int v7), none, none]) C dX4_printNumber_14 (by decide) rfl ?_
    refine r_iload_n (pc := 15) C dX4_printNumber_15 rfl ?_
    refine r_mabs (pc := 16) C lk_m_X4_23 lk_ms_abs lk_mi lk_mc_abs (by decide) (Nat.le_of_ble_eq_true rfl) ⟨Nat.zero_le _, Nat.zero_le _⟩ dX4_printNumber_16 ?_
    refine r_leti (fun v8 => ?_)
    refine r_istore_n (pc := 19) (lv' := [some (.ref (zad E 41)), some (.int p0), some (.int v7), some (.int v8), none]) C dX4_printNumber_19 (by decide) rfl ?_
    refine r_sipush (pc := 20) (v := 10000) C dX4_printNumber_20 (by decide) ?_
    refine r_istore (pc := 23) (lv' := [some (.ref (zad E 41)), some (.int p0), some (.int v7), some (.int v8), some (.int (10000 : Int32))]) C dX4_printNumber_23 (by decide) rfl ?_
    exact g_X4_printNumber_L25 C zF _ _ _ _ _
theorem c_X4_printNumber {E : zG} (hAp : zAp E) (p0 : Int32) (σ : zS) : zM E yX4_printNumber cX4_printNumber 5 (some .int) rm_X4_printNumber (fun r : Int32 => some (.int r)) [.ref (zad E 41), .int p0] (f_X4_printNumber p0 σ) σ :=
  zM_of (nn := 3) hAp (by decide) (Nat.le_of_ble_eq_true rfl) rfl rfl (fun Γ C => g_X4_printNumber C p0 σ)
set_option maxHeartbeats 4000000 in
set_option maxRecDepth 100000 in
theorem g_X5_append {E : zG} {Γ : zX} (C : zO E Γ RX5 cX5_append 7 (some .int)) (p0 : Int32) (p1 : Int32) (p2 : Int32) (p3 : Int32) (p4 : Int32) (σ : zS) : zJ E Γ rm_X5_append 7 (fun r : Int32 => some (.int r)) (f_X5_append p0 p1 p2 p3 p4 σ) σ 0 [some (.ref (zad E 5)), some (.int p0), some (.int p1), some (.int p2), some (.int p3), some (.int p4), none] [] := by
  unfold f_X5_append
  refine r_aload_n (pc := 0) C dX5_append_0 rfl ?_
  refine r_get (pc := 1) C K_X5 5 3 (by decide) rfl (by decide) lk_f_X5_34 rfl dX5_append_1 ?_
  refine r_bipush (pc := 4) (v := 100) C dX5_append_4 (by decide) ?_
  refine r_icmp_lt (pc := 6) (tgt := 12) C dX5_append_6 (by decide) (fun _ => ?_) (fun _ => ?_)
  · refine r_aload_n (pc := 12) C dX5_append_12 rfl ?_
    refine r_get (pc := 13) C K_X5 5 3 (by decide) rfl (by decide) lk_f_X5_34 rfl dX5_append_13 ?_
    refine r_istore (pc := 16) (lv' := [some (.ref (zad E 5)), some (.int p0), some (.int p1), some (.int p2), some (.int p3), some (.int p4), some (.int (σ 5 3))]) C dX5_append_16 (by decide) rfl ?_
    refine r_aload_n (pc := 18) C dX5_append_18 rfl ?_
    refine r_get (pc := 19) C K_X5 5 0 (by decide) rfl (by decide) lk_f_X5_9 rfl dX5_append_19 ?_
    refine r_iload (pc := 22) C dX5_append_22 rfl ?_
    refine r_iload_n (pc := 24) C dX5_append_24 rfl ?_
    refine r_iast (pc := 25) (t0 := 0) C 6 (by decide) rfl (fun _ => rfl) rfl dX5_append_25 (fun s1 _ => ?_)
    refine r_aload_n (pc := 26) C dX5_append_26 rfl ?_
    refine r_get (pc := 27) C K_X5 5 1 (by decide) rfl (by decide) lk_f_X5_15 rfl dX5_append_27 ?_
    refine r_iconst (pc := 30) (v := 3) C dX5_append_30 (by decide) ?_
    refine r_iload (pc := 31) C dX5_append_31 rfl ?_
    refine r_imul (pc := 33) C dX5_append_33 ?_
    refine r_iload_n (pc := 34) C dX5_append_34 rfl ?_
    refine r_iast (pc := 35) (t0 := 0) C 7 (by decide) rfl (fun _ => rfl) rfl dX5_append_35 (fun s2 _ => ?_)
    refine r_aload_n (pc := 36) C dX5_append_36 rfl ?_
    refine r_get (pc := 37) C K_X5 5 1 (by decide) rfl (by decide) lk_f_X5_15 rfl dX5_append_37 ?_
    refine r_iconst (pc := 40) (v := 3) C dX5_append_40 (by decide) ?_
    refine r_iload (pc := 41) C dX5_append_41 rfl ?_
    refine r_imul (pc := 43) C dX5_append_43 ?_
    refine r_iconst (pc := 44) (v := 1) C dX5_append_44 (by decide) ?_
    refine r_iadd (pc := 45) C dX5_append_45 ?_
    refine r_iload_n (pc := 46) C dX5_append_46 rfl ?_
    refine r_iast (pc := 47) (t0 := 0) C 7 (by decide) rfl (fun _ => rfl) rfl dX5_append_47 (fun s3 _ => ?_)
    refine r_aload_n (pc := 48) C dX5_append_48 rfl ?_
    refine r_get (pc := 49) C K_X5 5 1 (by decide) rfl (by decide) lk_f_X5_15 rfl dX5_append_49 ?_
    refine r_iconst (pc := 52) (v := 3) C dX5_append_52 (by decide) ?_
    refine r_iload (pc := 53) C dX5_append_53 rfl ?_
    refine r_imul (pc := 55) C dX5_append_55 ?_
    refine r_iconst (pc := 56) (v := 2) C dX5_append_56 (by decide) ?_
    refine r_iadd (pc := 57) C dX5_append_57 ?_
    refine r_iload (pc := 58) C dX5_append_58 rfl ?_
    refine r_iast (pc := 60) (t0 := 0) C 7 (by decide) rfl (fun _ => rfl) rfl dX5_append_60 (fun s4 _ => ?_)
    refine r_aload_n (pc := 61) C dX5_append_61 rfl ?_
    refine r_get (pc := 62) C K_X5 5 2 (by decide) rfl (by decide) lk_f_X5_18 rfl dX5_append_62 ?_
    refine r_iload (pc := 65) C dX5_append_65 rfl ?_
    refine r_iload (pc := 67) C dX5_append_67 rfl ?_
    refine r_iast (pc := 69) (t0 := 0) C 8 (by decide) rfl (fun _ => rfl) rfl dX5_append_69 (fun s5 _ => ?_)
    refine r_aload_n (pc := 70) C dX5_append_70 rfl ?_
    refine r_dup (pc := 71) C dX5_append_71 rfl ?_
    refine r_get (pc := 72) C K_X5 5 3 (by decide) rfl (by decide) lk_f_X5_34 rfl dX5_append_72 ?_
    refine r_iconst (pc := 75) (v := 1) C dX5_append_75 (by decide) ?_
    refine r_iadd (pc := 76) C dX5_append_76 ?_
    refine r_put (pc := 77) C K_X5 5 3 (by decide) rfl (by decide) lk_f_X5_34 rfl rfl (Nat.le_of_ble_eq_true rfl) rfl dX5_append_77 (fun s6 _ => ?_)
    refine r_iload (pc := 80) C dX5_append_80 rfl ?_
    exact r_iret (pc := 82) C dX5_append_82
  · refine r_bipush (pc := 9) (v := -3) C dX5_append_9 (by decide) ?_
    exact r_iret (pc := 11) C dX5_append_11
theorem c_X5_append {E : zG} (hAp : zAp E) (p0 : Int32) (p1 : Int32) (p2 : Int32) (p3 : Int32) (p4 : Int32) (σ : zS) : zM E yX5_append cX5_append 7 (some .int) rm_X5_append (fun r : Int32 => some (.int r)) [.ref (zad E 5), .int p0, .int p1, .int p2, .int p3, .int p4] (f_X5_append p0 p1 p2 p3 p4 σ) σ :=
  zM_of (nn := 1) hAp (by decide) (Nat.le_of_ble_eq_true rfl) rfl rfl (fun Γ C => g_X5_append C p0 p1 p2 p3 p4 σ)
set_option maxHeartbeats 4000000 in
set_option maxRecDepth 100000 in
theorem g_X5_define {E : zG} {Γ : zX} (C : zO E Γ RX5 cX5_define 5 none) (p0 : Int32) (p1 : Int32) (p2 : Int32) (p3 : Int32) (σ : zS) : zJ E Γ rm_X5_define 5 (fun _ : Unit => none) (f_X5_define p0 p1 p2 p3 σ) σ 0 [some (.ref (zad E 5)), some (.int p0), some (.int p1), some (.int p2), some (.int p3)] [] := by
  unfold f_X5_define
  refine r_aload_n (pc := 0) C dX5_define_0 rfl ?_
  refine r_get (pc := 1) C K_X5 5 4 (by decide) rfl (by decide) lk_f_X5_21 rfl dX5_define_1 ?_
  refine r_iload_n (pc := 4) C dX5_define_4 rfl ?_
  refine r_iconst (pc := 5) (v := 1) C dX5_define_5 (by decide) ?_
  refine r_zast (pc := 6) (t0 := 1) C 9 (by decide) rfl (fun _ => rfl) rfl dX5_define_6 (fun s1 _ => ?_)
  refine r_aload_n (pc := 7) C dX5_define_7 rfl ?_
  refine r_get (pc := 8) C K_X5 5 5 (by decide) rfl (by decide) lk_f_X5_25 rfl dX5_define_8 ?_
  refine r_iload_n (pc := 11) C dX5_define_11 rfl ?_
  refine r_iload_n (pc := 12) C dX5_define_12 rfl ?_
  refine r_iast (pc := 13) (t0 := 0) C 10 (by decide) rfl (fun _ => rfl) rfl dX5_define_13 (fun s2 _ => ?_)
  refine r_aload_n (pc := 14) C dX5_define_14 rfl ?_
  refine r_get (pc := 15) C K_X5 5 6 (by decide) rfl (by decide) lk_f_X5_28 rfl dX5_define_15 ?_
  refine r_iload_n (pc := 18) C dX5_define_18 rfl ?_
  refine r_iload_n (pc := 19) C dX5_define_19 rfl ?_
  refine r_iast (pc := 20) (t0 := 0) C 11 (by decide) rfl (fun _ => rfl) rfl dX5_define_20 (fun s3 _ => ?_)
  refine r_aload_n (pc := 21) C dX5_define_21 rfl ?_
  refine r_get (pc := 22) C K_X5 5 7 (by decide) rfl (by decide) lk_f_X5_31 rfl dX5_define_22 ?_
  refine r_iload_n (pc := 25) C dX5_define_25 rfl ?_
  refine r_iload (pc := 26) C dX5_define_26 rfl ?_
  refine r_zast (pc := 28) (t0 := 1) C 12 (by decide) rfl (fun _ => rfl) rfl dX5_define_28 (fun s4 _ => ?_)
  exact r_vret (pc := 29) C dX5_define_29
theorem c_X5_define {E : zG} (hAp : zAp E) (p0 : Int32) (p1 : Int32) (p2 : Int32) (p3 : Int32) (σ : zS) : zM E yX5_define cX5_define 5 none rm_X5_define (fun _ : Unit => none) [.ref (zad E 5), .int p0, .int p1, .int p2, .int p3] (f_X5_define p0 p1 p2 p3 σ) σ :=
  zM_of (nn := 0) hAp (by decide) (Nat.le_of_ble_eq_true rfl) rfl rfl (fun Γ C => g_X5_define C p0 p1 p2 p3 σ)
set_option maxHeartbeats 4000000 in
set_option maxRecDepth 100000 in
theorem g_X5_forget_L12 {E : zG} {Γ : zX} (C : zO E Γ RX5 cX5_forget 3 (some .int)) : ∀ (n : Nat) (x1 : Int32) (x2 : Int32) (σ : zS), zJ E Γ rm_X5_forget 3 (fun r : Int32 => some (.int r)) (f_X5_forget_L12 n x1 x2 σ) σ 12 [some (.ref (zad E 5)), some (.int x1), some (.int x2)] [] := by
  intro n
  induction n with
  | zero => intro x1 x2 σ; rw [f_X5_forget_L12]; exact r_none
  | succ n ih =>
    intro x1 x2 σ
    rw [f_X5_forget_L12]
    refine r_iload_n (pc := 12) C dX5_forget_12 rfl ?_
    refine r_bipush (pc := 13) (v := 8) C dX5_forget_13 (by decide) ?_
    refine r_icmp_ge (pc := 15) (tgt := 31) C dX5_forget_15 (by decide) (fun _ => ?_) (fun _ => ?_)
    · refine r_iload_n (pc := 31) C dX5_forget_31 rfl ?_
      exact r_iret (pc := 32) C dX5_forget_32
    · refine r_aload_n (pc := 18) C dX5_forget_18 rfl ?_
      refine r_get (pc := 19) C K_X5 5 4 (by decide) rfl (by decide) lk_f_X5_21 rfl dX5_forget_19 ?_
      refine r_iload_n (pc := 22) C dX5_forget_22 rfl ?_
      refine r_iconst (pc := 23) (v := 0) C dX5_forget_23 (by decide) ?_
      refine r_zast (pc := 24) (t0 := 1) C 9 (by decide) rfl (fun _ => rfl) rfl dX5_forget_24 (fun s2 _ => ?_)
      refine r_iinc (pc := 25) (lv' := [some (.ref (zad E 5)), some (.int x1), some (.int (x2 + (1 : Int32)))]) C dX5_forget_25 (by decide) rfl rfl rfl ?_
      refine r_goto (pc := 28) (tgt := 12) C dX5_forget_28 (by decide) ?_
      exact ih _ _ _
set_option maxHeartbeats 4000000 in
set_option maxRecDepth 100000 in
theorem g_X5_forget {E : zG} {Γ : zX} (C : zO E Γ RX5 cX5_forget 3 (some .int)) (σ : zS) : zJ E Γ rm_X5_forget 3 (fun r : Int32 => some (.int r)) (f_X5_forget σ) σ 0 [some (.ref (zad E 5)), none, none] [] := by
  unfold f_X5_forget
  refine r_aload_n (pc := 0) C dX5_forget_0 rfl ?_
  refine r_get (pc := 1) C K_X5 5 3 (by decide) rfl (by decide) lk_f_X5_34 rfl dX5_forget_1 ?_
  refine r_istore_n (pc := 4) (lv' := [some (.ref (zad E 5)), some (.int (σ 5 3)), none]) C dX5_forget_4 (by decide) rfl ?_
  refine r_aload_n (pc := 5) C dX5_forget_5 rfl ?_
  refine r_iconst (pc := 6) (v := 0) C dX5_forget_6 (by decide) ?_
  refine r_put (pc := 7) C K_X5 5 3 (by decide) rfl (by decide) lk_f_X5_34 rfl rfl (Nat.le_of_ble_eq_true rfl) rfl dX5_forget_7 (fun s1 _ => ?_)
  refine r_iconst (pc := 10) (v := 0) C dX5_forget_10 (by decide) ?_
  refine r_istore_n (pc := 11) (lv' := [some (.ref (zad E 5)), some (.int (σ 5 3)), some (.int (0 : Int32))]) C dX5_forget_11 (by decide) rfl ?_
  exact g_X5_forget_L12 C zF _ _ _
theorem c_X5_forget {E : zG} (hAp : zAp E) (σ : zS) : zM E yX5_forget cX5_forget 3 (some .int) rm_X5_forget (fun r : Int32 => some (.int r)) [.ref (zad E 5)] (f_X5_forget σ) σ :=
  zM_of (nn := 2) hAp (by decide) (Nat.le_of_ble_eq_true rfl) rfl rfl (fun Γ C => g_X5_forget C σ)
set_option maxHeartbeats 4000000 in
set_option maxRecDepth 100000 in
theorem g_X5_opAt {E : zG} {Γ : zX} (C : zO E Γ RX5 cX5_opAt 2 (some .int)) (p0 : Int32) (σ : zS) : zJ E Γ rm_X5_opAt 2 (fun r : Int32 => some (.int r)) (f_X5_opAt p0 σ) σ 0 [some (.ref (zad E 5)), some (.int p0)] [] := by
  unfold f_X5_opAt
  refine r_iload_n (pc := 0) C dX5_opAt_0 rfl ?_
  refine r_if_lt (pc := 1) (tgt := 21) C dX5_opAt_1 (by decide) (fun _ => ?_) (fun _ => ?_)
  · refine r_iconst (pc := 21) (v := -1) C dX5_opAt_21 (by decide) ?_
    exact r_iret (pc := 22) C dX5_opAt_22
  · refine r_iload_n (pc := 4) C dX5_opAt_4 rfl ?_
    refine r_aload_n (pc := 5) C dX5_opAt_5 rfl ?_
    refine r_get (pc := 6) C K_X5 5 3 (by decide) rfl (by decide) lk_f_X5_34 rfl dX5_opAt_6 ?_
    refine r_icmp_ge (pc := 9) (tgt := 21) C dX5_opAt_9 (by decide) (fun _ => ?_) (fun _ => ?_)
    · refine r_iconst (pc := 21) (v := -1) C dX5_opAt_21 (by decide) ?_
      exact r_iret (pc := 22) C dX5_opAt_22
    · refine r_aload_n (pc := 12) C dX5_opAt_12 rfl ?_
      refine r_get (pc := 13) C K_X5 5 0 (by decide) rfl (by decide) lk_f_X5_9 rfl dX5_opAt_13 ?_
      refine r_iload_n (pc := 16) C dX5_opAt_16 rfl ?_
      refine r_iald (pc := 17) (t0 := 0) C 6 (by decide) rfl rfl dX5_opAt_17 ?_
      refine r_goto (pc := 18) (tgt := 22) C dX5_opAt_18 (by decide) ?_
      exact r_iret (pc := 22) C dX5_opAt_22
theorem c_X5_opAt {E : zG} (hAp : zAp E) (p0 : Int32) (σ : zS) : zM E yX5_opAt cX5_opAt 2 (some .int) rm_X5_opAt (fun r : Int32 => some (.int r)) [.ref (zad E 5), .int p0] (f_X5_opAt p0 σ) σ :=
  zM_of (nn := 0) hAp (by decide) (Nat.le_of_ble_eq_true rfl) rfl rfl (fun Γ C => g_X5_opAt C p0 σ)
set_option maxHeartbeats 4000000 in
set_option maxRecDepth 100000 in
theorem g_X7_isWithin {E : zG} {Γ : zX} (C : zO E Γ RX7 cX7_isWithin 2 (some .boolean)) (p0 : Int32) (p1 : Int32) (σ : zS) : zJ E Γ rm_X7_isWithin 2 (fun r : Int32 => some (.int r)) (f_X7_isWithin p0 p1 σ) σ 0 [some (.int p0), some (.int p1)] [] := by
  unfold f_X7_isWithin
  refine r_iload_n (pc := 0) C dX7_isWithin_0 rfl ?_
  refine r_if_lt (pc := 1) (tgt := 13) C dX7_isWithin_1 (by decide) (fun _ => ?_) (fun _ => ?_)
  · refine r_iconst (pc := 13) (v := 0) C dX7_isWithin_13 (by decide) ?_
    exact r_zret (pc := 14) C (by first | rfl | decide) dX7_isWithin_14
  · refine r_iload_n (pc := 4) C dX7_isWithin_4 rfl ?_
    refine r_iload_n (pc := 5) C dX7_isWithin_5 rfl ?_
    refine r_icmp_gt (pc := 6) (tgt := 13) C dX7_isWithin_6 (by decide) (fun _ => ?_) (fun _ => ?_)
    · refine r_iconst (pc := 13) (v := 0) C dX7_isWithin_13 (by decide) ?_
      exact r_zret (pc := 14) C (by first | rfl | decide) dX7_isWithin_14
    · refine r_iconst (pc := 9) (v := 1) C dX7_isWithin_9 (by decide) ?_
      refine r_goto (pc := 10) (tgt := 14) C dX7_isWithin_10 (by decide) ?_
      exact r_zret (pc := 14) C (by first | rfl | decide) dX7_isWithin_14
theorem c_X7_isWithin {E : zG} (hAp : zAp E) (p0 : Int32) (p1 : Int32) (σ : zS) : zM E yX7_isWithin cX7_isWithin 2 (some .boolean) rm_X7_isWithin (fun r : Int32 => some (.int r)) [.int p0, .int p1] (f_X7_isWithin p0 p1 σ) σ :=
  zM_of (nn := 0) hAp (by decide) (Nat.le_of_ble_eq_true rfl) rfl rfl (fun Γ C => g_X7_isWithin C p0 p1 σ)
set_option maxHeartbeats 4000000 in
set_option maxRecDepth 100000 in
theorem g_X5_hasRoutine {E : zG} {Γ : zX} (C : zO E Γ RX5 cX5_hasRoutine 2 (some .boolean)) (p0 : Int32) (σ : zS) : zJ E Γ rm_X5_hasRoutine 2 (fun r : Int32 => some (.int r)) (f_X5_hasRoutine p0 σ) σ 0 [some (.ref (zad E 5)), some (.int p0)] [] := by
  unfold f_X5_hasRoutine
  refine r_iload_n (pc := 0) C dX5_hasRoutine_0 rfl ?_
  refine r_bipush (pc := 1) (v := 7) C dX5_hasRoutine_1 (by decide) ?_
  refine r_callSN (pc := 3) C (c_X7_isWithin (zO.ap C) _ _ _) lk_c_X7_isWithin lk_i_X7 lk_mn_X5_38 lk_s_X7_isWithin (n := 2) (by decide +kernel) rfl ⟨rfl, rfl⟩ (by decide) (Nat.le_of_ble_eq_true rfl) ⟨Nat.zero_le _, Nat.zero_le _⟩ dX5_hasRoutine_3 (fun v1 s1 _ => ?_)
  refine r_if_eq (pc := 6) (tgt := 22) C dX5_hasRoutine_6 (by decide) (fun _ => ?_) (fun _ => ?_)
  · refine r_iconst (pc := 22) (v := 0) C dX5_hasRoutine_22 (by decide) ?_
    exact r_zret (pc := 23) C (by first | rfl | decide) dX5_hasRoutine_23
  · refine r_aload_n (pc := 9) C dX5_hasRoutine_9 rfl ?_
    refine r_get (pc := 10) C K_X5 5 4 (by decide) rfl (by decide) lk_f_X5_21 rfl dX5_hasRoutine_10 ?_
    refine r_iload_n (pc := 13) C dX5_hasRoutine_13 rfl ?_
    refine r_zald (pc := 14) (t0 := 1) C 9 (by decide) rfl rfl dX5_hasRoutine_14 ?_
    refine r_if_eq (pc := 15) (tgt := 22) C dX5_hasRoutine_15 (by decide) (fun _ => ?_) (fun _ => ?_)
    · refine r_iconst (pc := 22) (v := 0) C dX5_hasRoutine_22 (by decide) ?_
      exact r_zret (pc := 23) C (by first | rfl | decide) dX5_hasRoutine_23
    · refine r_iconst (pc := 18) (v := 1) C dX5_hasRoutine_18 (by decide) ?_
      refine r_goto (pc := 19) (tgt := 23) C dX5_hasRoutine_19 (by decide) ?_
      exact r_zret (pc := 23) C (by first | rfl | decide) dX5_hasRoutine_23
theorem c_X5_hasRoutine {E : zG} (hAp : zAp E) (p0 : Int32) (σ : zS) : zM E yX5_hasRoutine cX5_hasRoutine 2 (some .boolean) rm_X5_hasRoutine (fun r : Int32 => some (.int r)) [.ref (zad E 5), .int p0] (f_X5_hasRoutine p0 σ) σ :=
  zM_of (nn := 0) hAp (by decide) (Nat.le_of_ble_eq_true rfl) rfl rfl (fun Γ C => g_X5_hasRoutine C p0 σ)
set_option maxHeartbeats 4000000 in
set_option maxRecDepth 100000 in
theorem g_X6_enter {E : zG} {Γ : zX} (C : zO E Γ RX6 cX6_enter 6 (some .int)) (p0 : Int32) (p1 : Int32) (p2 : Int32) (p3 : Int32) (σ : zS) : zJ E Γ rm_X6_enter 6 (fun r : Int32 => some (.int r)) (f_X6_enter p0 p1 p2 p3 σ) σ 0 [some (.ref (zad E 13)), some (.int p0), some (.int p1), some (.int p2), some (.int p3), none] [] := by
  unfold f_X6_enter
  refine r_aload_n (pc := 0) C dX6_enter_0 rfl ?_
  refine r_get (pc := 1) C K_X6 13 2 (by decide) rfl (by decide) lk_f_X6_44 rfl dX6_enter_1 ?_
  refine r_iload_n (pc := 4) C dX6_enter_4 rfl ?_
  refine r_callV (pc := 5) C 5 (c_X5_hasRoutine (zO.ap C) _ _) lk_c_X5_hasRoutine lk_i_X5 lk_m_X6_219 lk_n_X5_hasRoutine lk_v_X5_hasRoutine (n := 1) (by decide +kernel) rfl ⟨rfl, rfl⟩ (by decide) (by decide) rfl rfl rfl (Nat.le_of_ble_eq_true rfl) ⟨Nat.zero_le _, Nat.zero_le _⟩ dX6_enter_5 (fun v1 s1 _ => ?_)
  refine r_if_ne (pc := 8) (tgt := 14) C dX6_enter_8 (by decide) (fun _ => ?_) (fun _ => ?_)
  · refine r_bipush (pc := 11) (v := -19) C dX6_enter_11 (by decide) ?_
    exact r_iret (pc := 13) C dX6_enter_13
  · refine r_aload_n (pc := 14) C dX6_enter_14 rfl ?_
    refine r_get (pc := 15) C K_X6 13 3 (by decide) rfl (by decide) lk_f_X6_12 rfl dX6_enter_15 ?_
    refine r_callV (pc := 18) C 14 (c_X2_enter (zO.ap C)  _) lk_c_X2_enter lk_i_X2 lk_m_X6_223 lk_n_X2_enter lk_v_X2_enter (n := 0) (by decide +kernel) rfl ⟨rfl, rfl⟩ (by decide) (by decide) rfl rfl rfl (Nat.le_of_ble_eq_true rfl) ⟨Nat.zero_le _, Nat.zero_le _⟩ dX6_enter_18 (fun v2 s2 _ => ?_)
    refine r_op (fun _ => ?_) (fun v3 h1 _ => ?_)
    · refine r_astoreN (pc := 21) (lv' := [some (.ref (zad E 13)), some (.int p0), some (.int p1), some (.int p2), some (.int p3), some .null]) C dX6_enter_21 (by decide) rfl ?_
      refine r_aloadN (pc := 23) C dX6_enter_23 rfl ?_
      refine r_ifnonnullN (pc := 25) C dX6_enter_25 ?_
      refine r_bipush (pc := 28) (v := -16) C dX6_enter_28 (by decide) ?_
      exact r_iret (pc := 30) C dX6_enter_30
    · refine r_astore (pc := 21) (lv' := [some (.ref (zad E 13)), some (.int p0), some (.int p1), some (.int p2), some (.int p3), some (.ref (zad E (16 + 2 * v3)))]) C dX6_enter_21 (by decide) rfl ?_
      refine r_aload (pc := 23) C dX6_enter_23 rfl ?_
      refine r_ifnonnull (pc := 25) (tgt := 31) C dX6_enter_25 (by decide) ?_
      refine r_aload (pc := 31) C dX6_enter_31 rfl ?_
      refine r_iload_n (pc := 33) C dX6_enter_33 rfl ?_
      refine r_putN (pc := 34) C K_X1 (16 + 2 * v3) 2 (lt_F h1) (ly_F h1 _) (by decide) lk_fn_X6_225 rfl rfl (Nat.le_of_ble_eq_true rfl) (ly_Fs h1 _ 2 _ (by decide)) dX6_enter_34 (fun s3 _ => ?_)
      refine r_aload (pc := 37) C dX6_enter_37 rfl ?_
      refine r_aload_n (pc := 39) C dX6_enter_39 rfl ?_
      refine r_get (pc := 40) C K_X6 13 2 (by decide) rfl (by decide) lk_f_X6_44 rfl dX6_enter_40 ?_
      refine r_getN (pc := 43) C K_X5 5 5 (by decide) rfl (by decide) lk_fn_X6_228 rfl dX6_enter_43 ?_
      refine r_iload_n (pc := 46) C dX6_enter_46 rfl ?_
      refine r_iald (pc := 47) (t0 := 0) C 10 (by decide) rfl rfl dX6_enter_47 ?_
      refine r_putN (pc := 48) C K_X1 (16 + 2 * v3) 3 (lt_F h1) (ly_F h1 _) (by decide) lk_fn_X6_96 rfl rfl (Nat.le_of_ble_eq_true rfl) (ly_Fs h1 _ 3 _ (by decide)) dX6_enter_48 (fun s4 _ => ?_)
      refine r_aload (pc := 51) C dX6_enter_51 rfl ?_
      refine r_aload_n (pc := 53) C dX6_enter_53 rfl ?_
      refine r_get (pc := 54) C K_X6 13 2 (by decide) rfl (by decide) lk_f_X6_44 rfl dX6_enter_54 ?_
      refine r_getN (pc := 57) C K_X5 5 6 (by decide) rfl (by decide) lk_fn_X6_231 rfl dX6_enter_57 ?_
      refine r_iload_n (pc := 60) C dX6_enter_60 rfl ?_
      refine r_iald (pc := 61) (t0 := 0) C 11 (by decide) rfl rfl dX6_enter_61 ?_
      refine r_putN (pc := 62) C K_X1 (16 + 2 * v3) 1 (lt_F h1) (ly_F h1 _) (by decide) lk_fn_X6_234 rfl rfl (Nat.le_of_ble_eq_true rfl) (ly_Fs h1 _ 1 _ (by decide)) dX6_enter_62 (fun s5 _ => ?_)
      refine r_aload (pc := 65) C dX6_enter_65 rfl ?_
      refine r_iload (pc := 67) C dX6_enter_67 rfl ?_
      refine r_putN (pc := 69) C K_X1 (16 + 2 * v3) 4 (lt_F h1) (ly_F h1 _) (by decide) lk_fn_X6_237 rfl rfl (Nat.le_of_ble_eq_true rfl) (ly_Fs h1 _ 4 _ (by decide)) dX6_enter_69 (fun s6 _ => ?_)
      refine r_aload (pc := 72) C dX6_enter_72 rfl ?_
      refine r_iconst (pc := 74) (v := 1) C dX6_enter_74 (by decide) ?_
      refine r_iload_n (pc := 75) C dX6_enter_75 rfl ?_
      refine r_callV (pc := 76) C (16 + 2 * v3) (c_X1_setLocal (zO.ap C) h1 _ _ _) lk_c_X1_setLocal lk_i_X1 lk_m_X6_213 lk_n_X1_setLocal lk_v_X1_setLocal (n := 2) (by decide +kernel) rfl ⟨rfl, rfl⟩ (by decide) (lt_F h1) (ly_F h1 _) rfl rfl (Nat.le_of_ble_eq_true rfl) ⟨Nat.zero_le _, Nat.zero_le _⟩ dX6_enter_76 (fun v4 s7 _ => ?_)
      refine r_pop (pc := 79) C dX6_enter_79 rfl ?_
      refine r_aload (pc := 80) C dX6_enter_80 rfl ?_
      refine r_iconst (pc := 82) (v := 2) C dX6_enter_82 (by decide) ?_
      refine r_iload_n (pc := 83) C dX6_enter_83 rfl ?_
      refine r_callV (pc := 84) C (16 + 2 * v3) (c_X1_setLocal (zO.ap C) h1 _ _ _) lk_c_X1_setLocal lk_i_X1 lk_m_X6_213 lk_n_X1_setLocal lk_v_X1_setLocal (n := 2) (by decide +kernel) rfl ⟨rfl, rfl⟩ (by decide) (lt_F h1) (ly_F h1 _) rfl rfl (Nat.le_of_ble_eq_true rfl) ⟨Nat.zero_le _, Nat.zero_le _⟩ dX6_enter_84 (fun v5 s8 _ => ?_)
      refine r_pop (pc := 87) C dX6_enter_87 rfl ?_
      refine r_iconst (pc := 88) (v := 1) C dX6_enter_88 (by decide) ?_
      exact r_iret (pc := 89) C dX6_enter_89
theorem c_X6_enter {E : zG} (hAp : zAp E) (p0 : Int32) (p1 : Int32) (p2 : Int32) (p3 : Int32) (σ : zS) : zM E yX6_enter cX6_enter 6 (some .int) rm_X6_enter (fun r : Int32 => some (.int r)) [.ref (zad E 13), .int p0, .int p1, .int p2, .int p3] (f_X6_enter p0 p1 p2 p3 σ) σ :=
  zM_of (nn := 1) hAp (by decide) (Nat.le_of_ble_eq_true rfl) rfl rfl (fun Γ C => g_X6_enter C p0 p1 p2 p3 σ)
set_option maxHeartbeats 4000000 in
set_option maxRecDepth 100000 in
theorem g_X6_begin {E : zG} {Γ : zX} (C : zO E Γ RX6 cX6_begin 4 none) (p0 : Int32) (p1 : Int32) (p2 : Int32) (σ : zS) : zJ E Γ rm_X6_begin 4 (fun _ : Unit => none) (f_X6_begin p0 p1 p2 σ) σ 0 [some (.ref (zad E 13)), some (.int p0), some (.int p1), some (.int p2)] [] := by
  unfold f_X6_begin
  refine r_aload_n (pc := 0) C dX6_begin_0 rfl ?_
  refine r_get (pc := 1) C K_X6 13 3 (by decide) rfl (by decide) lk_f_X6_12 rfl dX6_begin_1 ?_
  refine r_callV (pc := 4) C 14 (c_X2_begin (zO.ap C)  _) lk_c_X2_begin lk_i_X2 lk_m_X6_48 lk_n_X2_begin lk_v_X2_begin (n := 0) (by decide +kernel) rfl ⟨rfl, rfl⟩ (by decide) (by decide) rfl rfl rfl (Nat.le_of_ble_eq_true rfl) ⟨Nat.zero_le _, Nat.zero_le _⟩ dX6_begin_4 (fun _ s1 _ => ?_)
  refine r_aload_n (pc := 7) C dX6_begin_7 rfl ?_
  refine r_get (pc := 8) C K_X6 13 4 (by decide) rfl (by decide) lk_f_X6_21 rfl dX6_begin_8 ?_
  refine r_iconst (pc := 11) (v := 0) C dX6_begin_11 (by decide) ?_
  refine r_putN (pc := 12) C K_X4 41 1 (by decide) rfl (by decide) lk_fn_X6_51 rfl rfl (Nat.le_of_ble_eq_true rfl) rfl dX6_begin_12 (fun s2 _ => ?_)
  refine r_aload_n (pc := 15) C dX6_begin_15 rfl ?_
  refine r_get (pc := 16) C K_X6 13 5 (by decide) rfl (by decide) lk_f_X6_25 rfl dX6_begin_16 ?_
  refine r_iconst (pc := 19) (v := 0) C dX6_begin_19 (by decide) ?_
  refine r_fill (pc := 20) C 43 (by decide) (fun _ => rfl) (by decide) lk_m_X6_54 (by decide) (Nat.le_of_ble_eq_true rfl) ⟨Nat.zero_le _, Nat.zero_le _⟩ dX6_begin_20 (fun s3 _ => ?_)
  refine r_aload_n (pc := 23) C dX6_begin_23 rfl ?_
  refine r_iconst (pc := 24) (v := -1) C dX6_begin_24 (by decide) ?_
  refine r_put (pc := 25) C K_X6 13 9 (by decide) rfl (by decide) lk_f_X6_60 rfl rfl (Nat.le_of_ble_eq_true rfl) rfl dX6_begin_25 (fun s4 _ => ?_)
  refine r_aload_n (pc := 28) C dX6_begin_28 rfl ?_
  refine r_iconst (pc := 29) (v := 0) C dX6_begin_29 (by decide) ?_
  refine r_put (pc := 30) C K_X6 13 10 (by decide) rfl (by decide) lk_f_X6_63 rfl rfl (Nat.le_of_ble_eq_true rfl) rfl dX6_begin_30 (fun s5 _ => ?_)
  refine r_aload_n (pc := 33) C dX6_begin_33 rfl ?_
  refine r_iconst (pc := 34) (v := 0) C dX6_begin_34 (by decide) ?_
  refine r_put (pc := 35) C K_X6 13 11 (by decide) rfl (by decide) lk_f_X6_66 rfl rfl (Nat.le_of_ble_eq_true rfl) rfl dX6_begin_35 (fun s6 _ => ?_)
  refine r_aload_n (pc := 38) C dX6_begin_38 rfl ?_
  refine r_iconst (pc := 39) (v := 0) C dX6_begin_39 (by decide) ?_
  refine r_put (pc := 40) C K_X6 13 12 (by decide) rfl (by decide) lk_f_X6_69 rfl rfl (Nat.le_of_ble_eq_true rfl) rfl dX6_begin_40 (fun s7 _ => ?_)
  refine r_aload_n (pc := 43) C dX6_begin_43 rfl ?_
  refine r_iconst (pc := 44) (v := 0) C dX6_begin_44 (by decide) ?_
  refine r_put (pc := 45) C K_X6 13 13 (by decide) rfl (by decide) lk_f_X6_72 rfl rfl (Nat.le_of_ble_eq_true rfl) rfl dX6_begin_45 (fun s8 _ => ?_)
  refine r_aload_n (pc := 48) C dX6_begin_48 rfl ?_
  refine r_iconst (pc := 49) (v := 0) C dX6_begin_49 (by decide) ?_
  refine r_put (pc := 50) C K_X6 13 14 (by decide) rfl (by decide) lk_f_X6_75 rfl rfl (Nat.le_of_ble_eq_true rfl) rfl dX6_begin_50 (fun s9 _ => ?_)
  refine r_aload_n (pc := 53) C dX6_begin_53 rfl ?_
  refine r_iconst (pc := 54) (v := 0) C dX6_begin_54 (by decide) ?_
  refine r_put (pc := 55) C K_X6 13 15 (by decide) rfl (by decide) lk_f_X6_78 rfl rfl (Nat.le_of_ble_eq_true rfl) rfl dX6_begin_55 (fun s10 _ => ?_)
  refine r_aload_n (pc := 58) C dX6_begin_58 rfl ?_
  refine r_iload_n (pc := 59) C dX6_begin_59 rfl ?_
  refine r_iload_n (pc := 60) C dX6_begin_60 rfl ?_
  refine r_iload_n (pc := 61) C dX6_begin_61 rfl ?_
  refine r_iconst (pc := 62) (v := -1) C dX6_begin_62 (by decide) ?_
  refine r_callV (pc := 63) C 13 (c_X6_enter (zO.ap C) _ _ _ _ _) lk_c_X6_enter lk_i_X6 lk_m_X6_81 lk_n_X6_enter lk_v_X6_enter (n := 4) (by decide +kernel) rfl ⟨rfl, rfl⟩ (by decide) (by decide) rfl rfl rfl (Nat.le_of_ble_eq_true rfl) ⟨Nat.zero_le _, Nat.zero_le _⟩ dX6_begin_63 (fun v1 s11 _ => ?_)
  refine r_pop (pc := 66) C dX6_begin_66 rfl ?_
  exact r_vret (pc := 67) C dX6_begin_67
theorem c_X6_begin {E : zG} (hAp : zAp E) (p0 : Int32) (p1 : Int32) (p2 : Int32) (σ : zS) : zM E yX6_begin cX6_begin 4 none rm_X6_begin (fun _ : Unit => none) [.ref (zad E 13), .int p0, .int p1, .int p2] (f_X6_begin p0 p1 p2 σ) σ :=
  zM_of (nn := 0) hAp (by decide) (Nat.le_of_ble_eq_true rfl) rfl rfl (fun Γ C => g_X6_begin C p0 p1 p2 σ)
set_option maxHeartbeats 4000000 in
set_option maxRecDepth 100000 in
theorem g_X6_isGoing {E : zG} {Γ : zX} (C : zO E Γ RX6 cX6_isGoing 1 (some .boolean)) (σ : zS) : zJ E Γ rm_X6_isGoing 1 (fun r : Int32 => some (.int r)) (f_X6_isGoing σ) σ 0 [some (.ref (zad E 13))] [] := by
  unfold f_X6_isGoing
  refine r_aload_n (pc := 0) C dX6_isGoing_0 rfl ?_
  refine r_get (pc := 1) C K_X6 13 9 (by decide) rfl (by decide) lk_f_X6_60 rfl dX6_isGoing_1 ?_
  refine r_iconst (pc := 4) (v := -1) C dX6_isGoing_4 (by decide) ?_
  refine r_icmp_ne (pc := 5) (tgt := 12) C dX6_isGoing_5 (by decide) (fun _ => ?_) (fun _ => ?_)
  · refine r_iconst (pc := 8) (v := 1) C dX6_isGoing_8 (by decide) ?_
    refine r_goto (pc := 9) (tgt := 13) C dX6_isGoing_9 (by decide) ?_
    exact r_zret (pc := 13) C (by first | rfl | decide) dX6_isGoing_13
  · refine r_iconst (pc := 12) (v := 0) C dX6_isGoing_12 (by decide) ?_
    exact r_zret (pc := 13) C (by first | rfl | decide) dX6_isGoing_13
theorem c_X6_isGoing {E : zG} (hAp : zAp E) (σ : zS) : zM E yX6_isGoing cX6_isGoing 1 (some .boolean) rm_X6_isGoing (fun r : Int32 => some (.int r)) [.ref (zad E 13)] (f_X6_isGoing σ) σ :=
  zM_of (nn := 0) hAp (by decide) (Nat.le_of_ble_eq_true rfl) rfl rfl (fun Γ C => g_X6_isGoing C σ)
set_option maxHeartbeats 4000000 in
set_option maxRecDepth 100000 in
theorem g_X6_leaveDownTo_L8 {E : zG} {Γ : zX} (C : zO E Γ RX6 cX6_leaveDownTo 3 none) : ∀ (n : Nat) (x1 : Int32) (x2 : Int32) (σ : zS), zJ E Γ rm_X6_leaveDownTo 3 (fun _ : Unit => none) (f_X6_leaveDownTo_L8 n x1 x2 σ) σ 8 [some (.ref (zad E 13)), some (.int x1), some (.int x2)] [] := by
  intro n
  induction n with
  | zero => intro x1 x2 σ; rw [f_X6_leaveDownTo_L8]; exact r_none
  | succ n ih =>
    intro x1 x2 σ
    rw [f_X6_leaveDownTo_L8]
    refine r_iload_n (pc := 8) C dX6_leaveDownTo_8 rfl ?_
    refine r_iload_n (pc := 9) C dX6_leaveDownTo_9 rfl ?_
    refine r_icmp_le (pc := 10) (tgt := 49) C dX6_leaveDownTo_10 (by decide) (fun _ => ?_) (fun _ => ?_)
    · exact r_vret (pc := 49) C dX6_leaveDownTo_49
    · refine r_iload_n (pc := 13) C dX6_leaveDownTo_13 rfl ?_
      refine r_if_le (pc := 14) (tgt := 49) C dX6_leaveDownTo_14 (by decide) (fun _ => ?_) (fun _ => ?_)
      · exact r_vret (pc := 49) C dX6_leaveDownTo_49
      · refine r_aload_n (pc := 17) C dX6_leaveDownTo_17 rfl ?_
        refine r_get (pc := 18) C K_X6 13 5 (by decide) rfl (by decide) lk_f_X6_25 rfl dX6_leaveDownTo_18 ?_
        refine r_aload_n (pc := 21) C dX6_leaveDownTo_21 rfl ?_
        refine r_get (pc := 22) C K_X6 13 3 (by decide) rfl (by decide) lk_f_X6_12 rfl dX6_leaveDownTo_22 ?_
        refine r_callV (pc := 25) C 14 (c_X2_top (zO.ap C)  _) lk_c_X2_top lk_i_X2 lk_m_X6_92 lk_n_X2_top lk_v_X2_top (n := 0) (by decide +kernel) rfl ⟨rfl, rfl⟩ (by decide) (by decide) rfl rfl rfl (Nat.le_of_ble_eq_true rfl) ⟨Nat.zero_le _, Nat.zero_le _⟩ dX6_leaveDownTo_25 (fun v1 s1 _ => ?_)
        refine r_op (fun _ => ?_) (fun v2 h1 _ => ?_)
        · exact r_none
        · refine r_getN (pc := 28) C K_X1 (16 + 2 * v2) 2 (lt_F h1) (ly_F h1 _) (by decide) lk_fn_X6_225 rfl dX6_leaveDownTo_28 ?_
          refine r_dup2 (pc := 31) C dX6_leaveDownTo_31 rfl rfl ?_
          refine r_iald (pc := 32) (t0 := 0) C 43 (by decide) rfl rfl dX6_leaveDownTo_32 ?_
          refine r_iconst (pc := 33) (v := 1) C dX6_leaveDownTo_33 (by decide) ?_
          refine r_iadd (pc := 34) C dX6_leaveDownTo_34 ?_
          refine r_iast (pc := 35) (t0 := 0) C 43 (by decide) rfl (fun _ => rfl) rfl dX6_leaveDownTo_35 (fun s2 _ => ?_)
          refine r_aload_n (pc := 36) C dX6_leaveDownTo_36 rfl ?_
          refine r_get (pc := 37) C K_X6 13 3 (by decide) rfl (by decide) lk_f_X6_12 rfl dX6_leaveDownTo_37 ?_
          refine r_callV (pc := 40) C 14 (c_X2_leave (zO.ap C)  _) lk_c_X2_leave lk_i_X2 lk_m_X6_238 lk_n_X2_leave lk_v_X2_leave (n := 0) (by decide +kernel) rfl ⟨rfl, rfl⟩ (by decide) (by decide) rfl rfl rfl (Nat.le_of_ble_eq_true rfl) ⟨Nat.zero_le _, Nat.zero_le _⟩ dX6_leaveDownTo_40 (fun _ s3 _ => ?_)
          refine r_iinc (pc := 43) (lv' := [some (.ref (zad E 13)), some (.int x1), some (.int (x2 + (-1 : Int32)))]) C dX6_leaveDownTo_43 (by decide) rfl rfl rfl ?_
          refine r_goto (pc := 46) (tgt := 8) C dX6_leaveDownTo_46 (by decide) ?_
          exact ih _ _ _
set_option maxHeartbeats 4000000 in
set_option maxRecDepth 100000 in
theorem g_X6_leaveDownTo {E : zG} {Γ : zX} (C : zO E Γ RX6 cX6_leaveDownTo 3 none) (p0 : Int32) (σ : zS) : zJ E Γ rm_X6_leaveDownTo 3 (fun _ : Unit => none) (f_X6_leaveDownTo p0 σ) σ 0 [some (.ref (zad E 13)), some (.int p0), none] [] := by
  unfold f_X6_leaveDownTo
  refine r_aload_n (pc := 0) C dX6_leaveDownTo_0 rfl ?_
  refine r_get (pc := 1) C K_X6 13 3 (by decide) rfl (by decide) lk_f_X6_12 rfl dX6_leaveDownTo_1 ?_
  refine r_getN (pc := 4) C K_X2 14 3 (by decide) rfl (by decide) lk_fn_X6_175 rfl dX6_leaveDownTo_4 ?_
  refine r_istore_n (pc := 7) (lv' := [some (.ref (zad E 13)), some (.int p0), some (.int (σ 14 3))]) C dX6_leaveDownTo_7 (by decide) rfl ?_
  exact g_X6_leaveDownTo_L8 C zF _ _ _
theorem c_X6_leaveDownTo {E : zG} (hAp : zAp E) (p0 : Int32) (σ : zS) : zM E yX6_leaveDownTo cX6_leaveDownTo 3 none rm_X6_leaveDownTo (fun _ : Unit => none) [.ref (zad E 13), .int p0] (f_X6_leaveDownTo p0 σ) σ :=
  zM_of (nn := 1) hAp (by decide) (Nat.le_of_ble_eq_true rfl) rfl rfl (fun Γ C => g_X6_leaveDownTo C p0 σ)
set_option maxHeartbeats 4000000 in
set_option maxRecDepth 100000 in
theorem g_X6_finish {E : zG} {Γ : zX} (C : zO E Γ RX6 cX6_finish 1 (some .int)) (σ : zS) : zJ E Γ rm_X6_finish 1 (fun r : Int32 => some (.int r)) (f_X6_finish σ) σ 0 [some (.ref (zad E 13))] [] := by
  unfold f_X6_finish
  refine r_aload_n (pc := 0) C dX6_finish_0 rfl ?_
  refine r_get (pc := 1) C K_X6 13 9 (by decide) rfl (by decide) lk_f_X6_60 rfl dX6_finish_1 ?_
  refine r_iconst (pc := 4) (v := -1) C dX6_finish_4 (by decide) ?_
  refine r_icmp_ne (pc := 5) (tgt := 13) C dX6_finish_5 (by decide) (fun _ => ?_) (fun _ => ?_)
  · refine r_aload_n (pc := 8) C dX6_finish_8 rfl ?_
    refine r_iconst (pc := 9) (v := 3) C dX6_finish_9 (by decide) ?_
    refine r_put (pc := 10) C K_X6 13 9 (by decide) rfl (by decide) lk_f_X6_60 rfl rfl (Nat.le_of_ble_eq_true rfl) rfl dX6_finish_10 (fun s2 _ => ?_)
    refine r_aload_n (pc := 13) C dX6_finish_13 rfl ?_
    refine r_iconst (pc := 14) (v := 0) C dX6_finish_14 (by decide) ?_
    refine r_callV (pc := 15) C 13 (c_X6_leaveDownTo (zO.ap C) _ _) lk_c_X6_leaveDownTo lk_i_X6 lk_m_X6_85 lk_n_X6_leaveDownTo lk_v_X6_leaveDownTo (n := 1) (by decide +kernel) rfl ⟨rfl, rfl⟩ (by decide) (by decide) rfl rfl rfl (Nat.le_of_ble_eq_true rfl) ⟨Nat.zero_le _, Nat.zero_le _⟩ dX6_finish_15 (fun _ s3 _ => ?_)
    refine r_aload_n (pc := 18) C dX6_finish_18 rfl ?_
    refine r_get (pc := 19) C K_X6 13 9 (by decide) rfl (by decide) lk_f_X6_60 rfl dX6_finish_19 ?_
    exact r_iret (pc := 22) C dX6_finish_22
  · refine r_aload_n (pc := 13) C dX6_finish_13 rfl ?_
    refine r_iconst (pc := 14) (v := 0) C dX6_finish_14 (by decide) ?_
    refine r_callV (pc := 15) C 13 (c_X6_leaveDownTo (zO.ap C) _ _) lk_c_X6_leaveDownTo lk_i_X6 lk_m_X6_85 lk_n_X6_leaveDownTo lk_v_X6_leaveDownTo (n := 1) (by decide +kernel) rfl ⟨rfl, rfl⟩ (by decide) (by decide) rfl rfl rfl (Nat.le_of_ble_eq_true rfl) ⟨Nat.zero_le _, Nat.zero_le _⟩ dX6_finish_15 (fun _ s1 _ => ?_)
    refine r_aload_n (pc := 18) C dX6_finish_18 rfl ?_
    refine r_get (pc := 19) C K_X6 13 9 (by decide) rfl (by decide) lk_f_X6_60 rfl dX6_finish_19 ?_
    exact r_iret (pc := 22) C dX6_finish_22
theorem c_X6_finish {E : zG} (hAp : zAp E) (σ : zS) : zM E yX6_finish cX6_finish 1 (some .int) rm_X6_finish (fun r : Int32 => some (.int r)) [.ref (zad E 13)] (f_X6_finish σ) σ :=
  zM_of (nn := 0) hAp (by decide) (Nat.le_of_ble_eq_true rfl) rfl rfl (fun Γ C => g_X6_finish C σ)
set_option maxHeartbeats 4000000 in
set_option maxRecDepth 100000 in
theorem g_X6_goOnIf {E : zG} {Γ : zX} (C : zO E Γ RX6 cX6_goOnIf 3 (some .int)) (p0 : Int32) (p1 : Int32) (σ : zS) : zJ E Γ rm_X6_goOnIf 3 (fun r : Int32 => some (.int r)) (f_X6_goOnIf p0 p1 σ) σ 0 [some (.ref (zad E 13)), some (.int p0), some (.int p1)] [] := by
  unfold f_X6_goOnIf
  refine r_iload_n (pc := 0) C dX6_goOnIf_0 rfl ?_
  refine r_if_eq (pc := 1) (tgt := 15) C dX6_goOnIf_1 (by decide) (fun _ => ?_) (fun _ => ?_)
  · refine r_iconst (pc := 15) (v := 1) C dX6_goOnIf_15 (by decide) ?_
    exact r_iret (pc := 16) C dX6_goOnIf_16
  · refine r_aload_n (pc := 4) C dX6_goOnIf_4 rfl ?_
    refine r_get (pc := 5) C K_X6 13 3 (by decide) rfl (by decide) lk_f_X6_12 rfl dX6_goOnIf_5 ?_
    refine r_callV (pc := 8) C 14 (c_X2_top (zO.ap C)  _) lk_c_X2_top lk_i_X2 lk_m_X6_92 lk_n_X2_top lk_v_X2_top (n := 0) (by decide +kernel) rfl ⟨rfl, rfl⟩ (by decide) (by decide) rfl rfl rfl (Nat.le_of_ble_eq_true rfl) ⟨Nat.zero_le _, Nat.zero_le _⟩ dX6_goOnIf_8 (fun v1 s1 _ => ?_)
    refine r_op (fun _ => ?_) (fun v2 h1 _ => ?_)
    · refine r_iload_n (pc := 11) C dX6_goOnIf_11 rfl ?_
      exact r_none
    · refine r_iload_n (pc := 11) C dX6_goOnIf_11 rfl ?_
      refine r_putN (pc := 12) C K_X1 (16 + 2 * v2) 3 (lt_F h1) (ly_F h1 _) (by decide) lk_fn_X6_96 rfl rfl (Nat.le_of_ble_eq_true rfl) (ly_Fs h1 _ 3 _ (by decide)) dX6_goOnIf_12 (fun s2 _ => ?_)
      refine r_iconst (pc := 15) (v := 1) C dX6_goOnIf_15 (by decide) ?_
      exact r_iret (pc := 16) C dX6_goOnIf_16
theorem c_X6_goOnIf {E : zG} (hAp : zAp E) (p0 : Int32) (p1 : Int32) (σ : zS) : zM E yX6_goOnIf cX6_goOnIf 3 (some .int) rm_X6_goOnIf (fun r : Int32 => some (.int r)) [.ref (zad E 13), .int p0, .int p1] (f_X6_goOnIf p0 p1 σ) σ :=
  zM_of (nn := 0) hAp (by decide) (Nat.le_of_ble_eq_true rfl) rfl rfl (fun Γ C => g_X6_goOnIf C p0 p1 σ)
set_option maxHeartbeats 4000000 in
set_option maxRecDepth 100000 in
theorem g_X7_number {E : zG} {Γ : zX} (C : zO E Γ RX7 cX7_number 1 (some .int)) (p0 : Int32) (σ : zS) : zJ E Γ rm_X7_number 1 (fun r : Int32 => some (.int r)) (f_X7_number p0 σ) σ 0 [some (.int p0)] [] := by
  unfold f_X7_number
  refine r_iload_n (pc := 0) C dX7_number_0 rfl ?_
  refine r_i2s (pc := 1) C dX7_number_1 ?_
  exact r_iret (pc := 2) C dX7_number_2
theorem c_X7_number {E : zG} (hAp : zAp E) (p0 : Int32) (σ : zS) : zM E yX7_number cX7_number 1 (some .int) rm_X7_number (fun r : Int32 => some (.int r)) [.int p0] (f_X7_number p0 σ) σ :=
  zM_of (nn := 0) hAp (by decide) (Nat.le_of_ble_eq_true rfl) rfl rfl (fun Γ C => g_X7_number C p0 σ)
set_option maxHeartbeats 4000000 in
set_option maxRecDepth 100000 in
theorem g_X6_placeOfGlobal {E : zG} {Γ : zX} (C : zO E Γ RX6 cX6_placeOfGlobal 2 (some .int)) (p0 : Int32) (σ : zS) : zJ E Γ rm_X6_placeOfGlobal 2 (fun r : Int32 => some (.int r)) (f_X6_placeOfGlobal p0 σ) σ 0 [some (.ref (zad E 13)), some (.int p0)] [] := by
  unfold f_X6_placeOfGlobal
  refine r_aload_n (pc := 0) C dX6_placeOfGlobal_0 rfl ?_
  refine r_get (pc := 1) C K_X6 13 7 (by decide) rfl (by decide) lk_f_X6_216 rfl dX6_placeOfGlobal_1 ?_
  refine r_iconst (pc := 4) (v := 2) C dX6_placeOfGlobal_4 (by decide) ?_
  refine r_iload_n (pc := 5) C dX6_placeOfGlobal_5 rfl ?_
  refine r_bipush (pc := 6) (v := 16) C dX6_placeOfGlobal_6 (by decide) ?_
  refine r_isub (pc := 8) C dX6_placeOfGlobal_8 ?_
  refine r_imul (pc := 9) C dX6_placeOfGlobal_9 ?_
  refine r_iadd (pc := 10) C dX6_placeOfGlobal_10 ?_
  exact r_iret (pc := 11) C dX6_placeOfGlobal_11
theorem c_X6_placeOfGlobal {E : zG} (hAp : zAp E) (p0 : Int32) (σ : zS) : zM E yX6_placeOfGlobal cX6_placeOfGlobal 2 (some .int) rm_X6_placeOfGlobal (fun r : Int32 => some (.int r)) [.ref (zad E 13), .int p0] (f_X6_placeOfGlobal p0 σ) σ :=
  zM_of (nn := 0) hAp (by decide) (Nat.le_of_ble_eq_true rfl) rfl rfl (fun Γ C => g_X6_placeOfGlobal C p0 σ)
set_option maxHeartbeats 4000000 in
set_option maxRecDepth 100000 in
theorem g_X6_ask {E : zG} {Γ : zX} (C : zO E Γ RX6 cX6_ask 2 (some .int)) (p0 : Int32) (σ : zS) : zJ E Γ rm_X6_ask 2 (fun r : Int32 => some (.int r)) (f_X6_ask p0 σ) σ 0 [some (.ref (zad E 13)), some (.int p0)] [] := by
  unfold f_X6_ask
  refine r_iload_n (pc := 0) C dX6_ask_0 rfl ?_
  refine r_if_ne (pc := 1) (tgt := 12) C dX6_ask_1 (by decide) (fun _ => ?_) (fun _ => ?_)
  · refine r_aload_n (pc := 4) C dX6_ask_4 rfl ?_
    refine r_get (pc := 5) C K_X6 13 3 (by decide) rfl (by decide) lk_f_X6_12 rfl dX6_ask_5 ?_
    refine r_callV (pc := 8) C 14 (c_X2_pop (zO.ap C)  _) lk_c_X2_pop lk_i_X2 lk_m_X6_171 lk_n_X2_pop lk_v_X2_pop (n := 0) (by decide +kernel) rfl ⟨rfl, rfl⟩ (by decide) (by decide) rfl rfl rfl (Nat.le_of_ble_eq_true rfl) ⟨Nat.zero_le _, Nat.zero_le _⟩ dX6_ask_8 (fun v6 s5 _ => ?_)
    exact r_iret (pc := 11) C dX6_ask_11
  · refine r_iload_n (pc := 12) C dX6_ask_12 rfl ?_
    refine r_bipush (pc := 13) (v := 16) C dX6_ask_13 (by decide) ?_
    refine r_icmp_ge (pc := 15) (tgt := 32) C dX6_ask_15 (by decide) (fun _ => ?_) (fun _ => ?_)
    · refine r_aload_n (pc := 32) C dX6_ask_32 rfl ?_
      refine r_get (pc := 33) C K_X6 13 0 (by decide) rfl (by decide) lk_f_X6_36 rfl dX6_ask_33 ?_
      refine r_aload_n (pc := 36) C dX6_ask_36 rfl ?_
      refine r_iload_n (pc := 37) C dX6_ask_37 rfl ?_
      refine r_callV (pc := 38) C 13 (c_X6_placeOfGlobal (zO.ap C) _ _) lk_c_X6_placeOfGlobal lk_i_X6 lk_m_X6_210 lk_n_X6_placeOfGlobal lk_v_X6_placeOfGlobal (n := 1) (by decide +kernel) rfl ⟨rfl, rfl⟩ (by decide) (by decide) rfl rfl rfl (Nat.le_of_ble_eq_true rfl) ⟨Nat.zero_le _, Nat.zero_le _⟩ dX6_ask_38 (fun v1 s1 _ => ?_)
      refine r_callV (pc := 41) C 1 (c_X3_wordAt (zO.ap C) _ _) lk_c_X3_wordAt lk_i_X3 lk_m_X6_150 lk_n_X3_wordAt lk_v_X3_wordAt (n := 1) (by decide +kernel) rfl ⟨rfl, rfl⟩ (by decide) (by decide) rfl rfl rfl (Nat.le_of_ble_eq_true rfl) ⟨Nat.zero_le _, Nat.zero_le _⟩ dX6_ask_41 (fun v2 s2 _ => ?_)
      exact r_iret (pc := 44) C dX6_ask_44
    · refine r_aload_n (pc := 18) C dX6_ask_18 rfl ?_
      refine r_get (pc := 19) C K_X6 13 3 (by decide) rfl (by decide) lk_f_X6_12 rfl dX6_ask_19 ?_
      refine r_callV (pc := 22) C 14 (c_X2_top (zO.ap C)  _) lk_c_X2_top lk_i_X2 lk_m_X6_92 lk_n_X2_top lk_v_X2_top (n := 0) (by decide +kernel) rfl ⟨rfl, rfl⟩ (by decide) (by decide) rfl rfl rfl (Nat.le_of_ble_eq_true rfl) ⟨Nat.zero_le _, Nat.zero_le _⟩ dX6_ask_22 (fun v3 s3 _ => ?_)
      refine r_op (fun _ => ?_) (fun v4 h1 _ => ?_)
      · refine r_iload_n (pc := 25) C dX6_ask_25 rfl ?_
        exact r_none
      · refine r_iload_n (pc := 25) C dX6_ask_25 rfl ?_
        refine r_callV (pc := 26) C (16 + 2 * v4) (c_X1_local (zO.ap C) h1 _ _) lk_c_X1_local lk_i_X1 lk_m_X6_207 lk_n_X1_local lk_v_X1_local (n := 1) (by decide +kernel) rfl ⟨rfl, rfl⟩ (by decide) (lt_F h1) (ly_F h1 _) rfl rfl (Nat.le_of_ble_eq_true rfl) ⟨Nat.zero_le _, Nat.zero_le _⟩ dX6_ask_26 (fun v5 s4 _ => ?_)
        refine r_goto (pc := 29) (tgt := 44) C dX6_ask_29 (by decide) ?_
        exact r_iret (pc := 44) C dX6_ask_44
theorem c_X6_ask {E : zG} (hAp : zAp E) (p0 : Int32) (σ : zS) : zM E yX6_ask cX6_ask 2 (some .int) rm_X6_ask (fun r : Int32 => some (.int r)) [.ref (zad E 13), .int p0] (f_X6_ask p0 σ) σ :=
  zM_of (nn := 0) hAp (by decide) (Nat.le_of_ble_eq_true rfl) rfl rfl (fun Γ C => g_X6_ask C p0 σ)
set_option maxHeartbeats 4000000 in
set_option maxRecDepth 100000 in
theorem g_X7_word {E : zG} {Γ : zX} (C : zO E Γ RX7 cX7_word 1 (some .int)) (p0 : Int32) (σ : zS) : zJ E Γ rm_X7_word 1 (fun r : Int32 => some (.int r)) (f_X7_word p0 σ) σ 0 [some (.int p0)] [] := by
  unfold f_X7_word
  refine r_iload_n (pc := 0) C dX7_word_0 rfl ?_
  refine r_ldc (pc := 1) (v := 65535) C dX7_word_1 lk_k_X7_93 ?_
  refine r_iand (pc := 3) C dX7_word_3 ?_
  exact r_iret (pc := 4) C dX7_word_4
theorem c_X7_word {E : zG} (hAp : zAp E) (p0 : Int32) (σ : zS) : zM E yX7_word cX7_word 1 (some .int) rm_X7_word (fun r : Int32 => some (.int r)) [.int p0] (f_X7_word p0 σ) σ :=
  zM_of (nn := 0) hAp (by decide) (Nat.le_of_ble_eq_true rfl) rfl rfl (fun Γ C => g_X7_word C p0 σ)
set_option maxHeartbeats 4000000 in
set_option maxRecDepth 100000 in
theorem g_X6_tell {E : zG} {Γ : zX} (C : zO E Γ RX6 cX6_tell 3 (some .int)) (p0 : Int32) (p1 : Int32) (σ : zS) : zJ E Γ rm_X6_tell 3 (fun r : Int32 => some (.int r)) (f_X6_tell p0 p1 σ) σ 0 [some (.ref (zad E 13)), some (.int p0), some (.int p1)] [] := by
  unfold f_X6_tell
  refine r_aload_n (pc := 0) C dX6_tell_0 rfl ?_
  refine r_iload_n (pc := 1) C dX6_tell_1 rfl ?_
  refine r_put (pc := 2) C K_X6 13 16 (by decide) rfl (by decide) lk_f_X6_89 rfl rfl (Nat.le_of_ble_eq_true rfl) rfl dX6_tell_2 (fun s1 _ => ?_)
  refine r_iload_n (pc := 5) C dX6_tell_5 rfl ?_
  exact r_iret (pc := 6) C dX6_tell_6
theorem c_X6_tell {E : zG} (hAp : zAp E) (p0 : Int32) (p1 : Int32) (σ : zS) : zM E yX6_tell cX6_tell 3 (some .int) rm_X6_tell (fun r : Int32 => some (.int r)) [.ref (zad E 13), .int p0, .int p1] (f_X6_tell p0 p1 σ) σ :=
  zM_of (nn := 0) hAp (by decide) (Nat.le_of_ble_eq_true rfl) rfl rfl (fun Γ C => g_X6_tell C p0 p1 σ)
set_option maxHeartbeats 4000000 in
set_option maxRecDepth 100000 in
theorem g_X6_change {E : zG} {Γ : zX} (C : zO E Γ RX6 cX6_change 4 (some .int)) (p0 : Int32) (p1 : Int32) (σ : zS) : zJ E Γ rm_X6_change 4 (fun r : Int32 => some (.int r)) (f_X6_change p0 p1 σ) σ 0 [some (.ref (zad E 13)), some (.int p0), some (.int p1), none] [] := by
  unfold f_X6_change
  refine r_aload_n (pc := 0) C dX6_change_0 rfl ?_
  refine r_iload_n (pc := 1) C dX6_change_1 rfl ?_
  refine r_callV (pc := 2) C 13 (c_X6_ask (zO.ap C) _ _) lk_c_X6_ask lk_i_X6 lk_m_X6_113 lk_n_X6_ask lk_v_X6_ask (n := 1) (by decide +kernel) rfl ⟨rfl, rfl⟩ (by decide) (by decide) rfl rfl rfl (Nat.le_of_ble_eq_true rfl) ⟨Nat.zero_le _, Nat.zero_le _⟩ dX6_change_2 (fun v1 s1 _ => ?_)
  refine r_istore_n (pc := 5) (lv' := [some (.ref (zad E 13)), some (.int p0), some (.int p1), some (.int v1)]) C dX6_change_5 (by decide) rfl ?_
  refine r_iload_n (pc := 6) C dX6_change_6 rfl ?_
  refine r_if_ge (pc := 7) (tgt := 14) C dX6_change_7 (by decide) (fun _ => ?_) (fun _ => ?_)
  · refine r_aload_n (pc := 14) C dX6_change_14 rfl ?_
    refine r_iload_n (pc := 15) C dX6_change_15 rfl ?_
    refine r_iload_n (pc := 16) C dX6_change_16 rfl ?_
    refine r_iload_n (pc := 17) C dX6_change_17 rfl ?_
    refine r_iadd (pc := 18) C dX6_change_18 ?_
    refine r_callSN (pc := 19) C (c_X7_word (zO.ap C) _ _) lk_c_X7_word lk_i_X7 lk_mn_X6_204 lk_s_X7_word (n := 1) (by decide +kernel) rfl ⟨rfl, rfl⟩ (by decide) (Nat.le_of_ble_eq_true rfl) ⟨Nat.zero_le _, Nat.zero_le _⟩ dX6_change_19 (fun v2 s2 _ => ?_)
    refine r_callV (pc := 22) C 13 (c_X6_tell (zO.ap C) _ _ _) lk_c_X6_tell lk_i_X6 lk_m_X6_140 lk_n_X6_tell lk_v_X6_tell (n := 2) (by decide +kernel) rfl ⟨rfl, rfl⟩ (by decide) (by decide) rfl rfl rfl (Nat.le_of_ble_eq_true rfl) ⟨Nat.zero_le _, Nat.zero_le _⟩ dX6_change_22 (fun v3 s3 _ => ?_)
    exact r_iret (pc := 25) C dX6_change_25
  · refine r_iload_n (pc := 10) C dX6_change_10 rfl ?_
    refine r_goto (pc := 11) (tgt := 25) C dX6_change_11 (by decide) ?_
    exact r_iret (pc := 25) C dX6_change_25
theorem c_X6_change {E : zG} (hAp : zAp E) (p0 : Int32) (p1 : Int32) (σ : zS) : zM E yX6_change cX6_change 4 (some .int) rm_X6_change (fun r : Int32 => some (.int r)) [.ref (zad E 13), .int p0, .int p1] (f_X6_change p0 p1 σ) σ :=
  zM_of (nn := 1) hAp (by decide) (Nat.le_of_ble_eq_true rfl) rfl rfl (fun Γ C => g_X6_change C p0 p1 σ)
set_option maxHeartbeats 4000000 in
set_option maxRecDepth 100000 in
theorem g_X6_end {E : zG} {Γ : zX} (C : zO E Γ RX6 cX6_end 2 (some .int)) (p0 : Int32) (σ : zS) : zJ E Γ rm_X6_end 2 (fun r : Int32 => some (.int r)) (f_X6_end p0 σ) σ 0 [some (.ref (zad E 13)), some (.int p0)] [] := by
  unfold f_X6_end
  refine r_aload_n (pc := 0) C dX6_end_0 rfl ?_
  refine r_iload_n (pc := 1) C dX6_end_1 rfl ?_
  refine r_put (pc := 2) C K_X6 13 9 (by decide) rfl (by decide) lk_f_X6_60 rfl rfl (Nat.le_of_ble_eq_true rfl) rfl dX6_end_2 (fun s1 _ => ?_)
  refine r_aload_n (pc := 5) C dX6_end_5 rfl ?_
  refine r_iconst (pc := 6) (v := -1) C dX6_end_6 (by decide) ?_
  refine r_iconst (pc := 7) (v := 1) C dX6_end_7 (by decide) ?_
  refine r_callV (pc := 8) C 13 (c_X6_tell (zO.ap C) _ _ _) lk_c_X6_tell lk_i_X6 lk_m_X6_140 lk_n_X6_tell lk_v_X6_tell (n := 2) (by decide +kernel) rfl ⟨rfl, rfl⟩ (by decide) (by decide) rfl rfl rfl (Nat.le_of_ble_eq_true rfl) ⟨Nat.zero_le _, Nat.zero_le _⟩ dX6_end_8 (fun v1 s2 _ => ?_)
  exact r_iret (pc := 11) C dX6_end_11
theorem c_X6_end {E : zG} (hAp : zAp E) (p0 : Int32) (σ : zS) : zM E yX6_end cX6_end 2 (some .int) rm_X6_end (fun r : Int32 => some (.int r)) [.ref (zad E 13), .int p0] (f_X6_end p0 σ) σ :=
  zM_of (nn := 0) hAp (by decide) (Nat.le_of_ble_eq_true rfl) rfl rfl (fun Γ C => g_X6_end C p0 σ)
set_option maxHeartbeats 4000000 in
set_option maxRecDepth 100000 in
theorem g_X6_giveBack {E : zG} {Γ : zX} (C : zO E Γ RX6 cX6_giveBack 3 (some .int)) (p0 : Int32) (σ : zS) : zJ E Γ rm_X6_giveBack 3 (fun r : Int32 => some (.int r)) (f_X6_giveBack p0 σ) σ 0 [some (.ref (zad E 13)), some (.int p0), none] [] := by
  unfold f_X6_giveBack
  refine r_aload_n (pc := 0) C dX6_giveBack_0 rfl ?_
  refine r_get (pc := 1) C K_X6 13 3 (by decide) rfl (by decide) lk_f_X6_12 rfl dX6_giveBack_1 ?_
  refine r_callV (pc := 4) C 14 (c_X2_top (zO.ap C)  _) lk_c_X2_top lk_i_X2 lk_m_X6_92 lk_n_X2_top lk_v_X2_top (n := 0) (by decide +kernel) rfl ⟨rfl, rfl⟩ (by decide) (by decide) rfl rfl rfl (Nat.le_of_ble_eq_true rfl) ⟨Nat.zero_le _, Nat.zero_le _⟩ dX6_giveBack_4 (fun v1 s1 _ => ?_)
  refine r_op (fun _ => ?_) (fun v2 h1 _ => ?_)
  · exact r_none
  · refine r_getN (pc := 7) C K_X1 (16 + 2 * v2) 4 (lt_F h1) (ly_F h1 _) (by decide) lk_fn_X6_237 rfl dX6_giveBack_7 ?_
    refine r_leti (fun v3 => ?_)
    refine r_istore_n (pc := 10) (lv' := [some (.ref (zad E 13)), some (.int p0), some (.int v3)]) C dX6_giveBack_10 (by decide) rfl ?_
    refine r_aload_n (pc := 11) C dX6_giveBack_11 rfl ?_
    refine r_aload_n (pc := 12) C dX6_giveBack_12 rfl ?_
    refine r_get (pc := 13) C K_X6 13 3 (by decide) rfl (by decide) lk_f_X6_12 rfl dX6_giveBack_13 ?_
    refine r_getN (pc := 16) C K_X2 14 3 (by decide) rfl (by decide) lk_fn_X6_175 rfl dX6_giveBack_16 ?_
    refine r_iconst (pc := 19) (v := 1) C dX6_giveBack_19 (by decide) ?_
    refine r_isub (pc := 20) C dX6_giveBack_20 ?_
    refine r_callV (pc := 21) C 13 (c_X6_leaveDownTo (zO.ap C) _ _) lk_c_X6_leaveDownTo lk_i_X6 lk_m_X6_85 lk_n_X6_leaveDownTo lk_v_X6_leaveDownTo (n := 1) (by decide +kernel) rfl ⟨rfl, rfl⟩ (by decide) (by decide) rfl rfl rfl (Nat.le_of_ble_eq_true rfl) ⟨Nat.zero_le _, Nat.zero_le _⟩ dX6_giveBack_21 (fun _ s2 _ => ?_)
    refine r_aload_n (pc := 24) C dX6_giveBack_24 rfl ?_
    refine r_get (pc := 25) C K_X6 13 3 (by decide) rfl (by decide) lk_f_X6_12 rfl dX6_giveBack_25 ?_
    refine r_getN (pc := 28) C K_X2 14 3 (by decide) rfl (by decide) lk_fn_X6_175 rfl dX6_giveBack_28 ?_
    refine r_if_ne (pc := 31) (tgt := 45) C dX6_giveBack_31 (by decide) (fun _ => ?_) (fun _ => ?_)
    · refine r_aload_n (pc := 34) C dX6_giveBack_34 rfl ?_
      refine r_iload_n (pc := 35) C dX6_giveBack_35 rfl ?_
      refine r_put (pc := 36) C K_X6 13 12 (by decide) rfl (by decide) lk_f_X6_69 rfl rfl (Nat.le_of_ble_eq_true rfl) rfl dX6_giveBack_36 (fun s4 _ => ?_)
      refine r_aload_n (pc := 39) C dX6_giveBack_39 rfl ?_
      refine r_iconst (pc := 40) (v := 0) C dX6_giveBack_40 (by decide) ?_
      refine r_callV (pc := 41) C 13 (c_X6_end (zO.ap C) _ _) lk_c_X6_end lk_i_X6 lk_m_X6_201 lk_n_X6_end lk_v_X6_end (n := 1) (by decide +kernel) rfl ⟨rfl, rfl⟩ (by decide) (by decide) rfl rfl rfl (Nat.le_of_ble_eq_true rfl) ⟨Nat.zero_le _, Nat.zero_le _⟩ dX6_giveBack_41 (fun v5 s5 _ => ?_)
      exact r_iret (pc := 44) C dX6_giveBack_44
    · refine r_aload_n (pc := 45) C dX6_giveBack_45 rfl ?_
      refine r_iload_n (pc := 46) C dX6_giveBack_46 rfl ?_
      refine r_iload_n (pc := 47) C dX6_giveBack_47 rfl ?_
      refine r_callV (pc := 48) C 13 (c_X6_tell (zO.ap C) _ _ _) lk_c_X6_tell lk_i_X6 lk_m_X6_140 lk_n_X6_tell lk_v_X6_tell (n := 2) (by decide +kernel) rfl ⟨rfl, rfl⟩ (by decide) (by decide) rfl rfl rfl (Nat.le_of_ble_eq_true rfl) ⟨Nat.zero_le _, Nat.zero_le _⟩ dX6_giveBack_48 (fun v4 s3 _ => ?_)
      exact r_iret (pc := 51) C dX6_giveBack_51
theorem c_X6_giveBack {E : zG} (hAp : zAp E) (p0 : Int32) (σ : zS) : zM E yX6_giveBack cX6_giveBack 3 (some .int) rm_X6_giveBack (fun r : Int32 => some (.int r)) [.ref (zad E 13), .int p0] (f_X6_giveBack p0 σ) σ :=
  zM_of (nn := 1) hAp (by decide) (Nat.le_of_ble_eq_true rfl) rfl rfl (fun Γ C => g_X6_giveBack C p0 σ)
set_option maxHeartbeats 4000000 in
set_option maxRecDepth 100000 in
theorem g_X6_throwTo {E : zG} {Γ : zX} (C : zO E Γ RX6 cX6_throwTo 3 (some .int)) (p0 : Int32) (p1 : Int32) (σ : zS) : zJ E Γ rm_X6_throwTo 3 (fun r : Int32 => some (.int r)) (f_X6_throwTo p0 p1 σ) σ 0 [some (.ref (zad E 13)), some (.int p0), some (.int p1)] [] := by
  unfold f_X6_throwTo
  refine r_iload_n (pc := 0) C dX6_throwTo_0 rfl ?_
  refine r_aload_n (pc := 1) C dX6_throwTo_1 rfl ?_
  refine r_get (pc := 2) C K_X6 13 3 (by decide) rfl (by decide) lk_f_X6_12 rfl dX6_throwTo_2 ?_
  refine r_getN (pc := 5) C K_X2 14 3 (by decide) rfl (by decide) lk_fn_X6_175 rfl dX6_throwTo_5 ?_
  refine r_icmp_lt (pc := 8) (tgt := 14) C dX6_throwTo_8 (by decide) (fun _ => ?_) (fun _ => ?_)
  · refine r_aload_n (pc := 14) C dX6_throwTo_14 rfl ?_
    refine r_get (pc := 15) C K_X6 13 11 (by decide) rfl (by decide) lk_f_X6_66 rfl dX6_throwTo_15 ?_
    refine r_bipush (pc := 18) (v := 12) C dX6_throwTo_18 (by decide) ?_
    refine r_icmp_lt (pc := 20) (tgt := 29) C dX6_throwTo_20 (by decide) (fun _ => ?_) (fun _ => ?_)
    · refine r_aload_n (pc := 29) C dX6_throwTo_29 rfl ?_
      refine r_dup (pc := 30) C dX6_throwTo_30 rfl ?_
      refine r_get (pc := 31) C K_X6 13 11 (by decide) rfl (by decide) lk_f_X6_66 rfl dX6_throwTo_31 ?_
      refine r_iconst (pc := 34) (v := 1) C dX6_throwTo_34 (by decide) ?_
      refine r_iadd (pc := 35) C dX6_throwTo_35 ?_
      refine r_put (pc := 36) C K_X6 13 11 (by decide) rfl (by decide) lk_f_X6_66 rfl rfl (Nat.le_of_ble_eq_true rfl) rfl dX6_throwTo_36 (fun s1 _ => ?_)
      refine r_aload_n (pc := 39) C dX6_throwTo_39 rfl ?_
      refine r_dup (pc := 40) C dX6_throwTo_40 rfl ?_
      refine r_get (pc := 41) C K_X6 13 15 (by decide) rfl (by decide) lk_f_X6_78 rfl dX6_throwTo_41 ?_
      refine r_iconst (pc := 44) (v := 1) C dX6_throwTo_44 (by decide) ?_
      refine r_iadd (pc := 45) C dX6_throwTo_45 ?_
      refine r_put (pc := 46) C K_X6 13 15 (by decide) rfl (by decide) lk_f_X6_78 rfl rfl (Nat.le_of_ble_eq_true rfl) rfl dX6_throwTo_46 (fun s2 _ => ?_)
      refine r_aload_n (pc := 49) C dX6_throwTo_49 rfl ?_
      refine r_iload_n (pc := 50) C dX6_throwTo_50 rfl ?_
      refine r_iconst (pc := 51) (v := 1) C dX6_throwTo_51 (by decide) ?_
      refine r_iadd (pc := 52) C dX6_throwTo_52 ?_
      refine r_callV (pc := 53) C 13 (c_X6_leaveDownTo (zO.ap C) _ _) lk_c_X6_leaveDownTo lk_i_X6 lk_m_X6_85 lk_n_X6_leaveDownTo lk_v_X6_leaveDownTo (n := 1) (by decide +kernel) rfl ⟨rfl, rfl⟩ (by decide) (by decide) rfl rfl rfl (Nat.le_of_ble_eq_true rfl) ⟨Nat.zero_le _, Nat.zero_le _⟩ dX6_throwTo_53 (fun _ s3 _ => ?_)
      refine r_aload_n (pc := 56) C dX6_throwTo_56 rfl ?_
      refine r_iload_n (pc := 57) C dX6_throwTo_57 rfl ?_
      refine r_callV (pc := 58) C 13 (c_X6_giveBack (zO.ap C) _ _) lk_c_X6_giveBack lk_i_X6 lk_m_X6_165 lk_n_X6_giveBack lk_v_X6_giveBack (n := 1) (by decide +kernel) rfl ⟨rfl, rfl⟩ (by decide) (by decide) rfl rfl rfl (Nat.le_of_ble_eq_true rfl) ⟨Nat.zero_le _, Nat.zero_le _⟩ dX6_throwTo_58 (fun v1 s4 _ => ?_)
      exact r_iret (pc := 61) C dX6_throwTo_61
    · refine r_aload_n (pc := 23) C dX6_throwTo_23 rfl ?_
      refine r_iconst (pc := 24) (v := 3) C dX6_throwTo_24 (by decide) ?_
      refine r_callV (pc := 25) C 13 (c_X6_end (zO.ap C) _ _) lk_c_X6_end lk_i_X6 lk_m_X6_201 lk_n_X6_end lk_v_X6_end (n := 1) (by decide +kernel) rfl ⟨rfl, rfl⟩ (by decide) (by decide) rfl rfl rfl (Nat.le_of_ble_eq_true rfl) ⟨Nat.zero_le _, Nat.zero_le _⟩ dX6_throwTo_25 (fun v2 s5 _ => ?_)
      exact r_iret (pc := 28) C dX6_throwTo_28
  · refine r_bipush (pc := 11) (v := -18) C dX6_throwTo_11 (by decide) ?_
    exact r_iret (pc := 13) C dX6_throwTo_13
theorem c_X6_throwTo {E : zG} (hAp : zAp E) (p0 : Int32) (p1 : Int32) (σ : zS) : zM E yX6_throwTo cX6_throwTo 3 (some .int) rm_X6_throwTo (fun r : Int32 => some (.int r)) [.ref (zad E 13), .int p0, .int p1] (f_X6_throwTo p0 p1 σ) σ :=
  zM_of (nn := 0) hAp (by decide) (Nat.le_of_ble_eq_true rfl) rfl rfl (fun Γ C => g_X6_throwTo C p0 p1 σ)
