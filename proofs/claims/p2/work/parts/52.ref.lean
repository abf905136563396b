theorem t_X8_leave {B F : Int} {σ0 σ : zS} (h0 : yR8 B F σ0 σ) (hp : 1 ≤ F) : yT (f_X8_leave σ) (fun _ τ => yR8 B (F - 1) σ0 τ ∧ ∀ j, j ≠ 22 → j ≠ 29 → τ 45 j = σ 45 j) := by
  unfold f_X8_leave
  have g := e_22 h0
  have e : ((σ 45 22) - (1 : Int32)).toInt = F - 1 := by rw [i_m1 (by omega)]; omega
  refine q_es (fun s1 h1 => ?_)
  have R1 : yR8 B (F - 1) σ0 s1 := by rw [h1, ← e]; exact R8_fr h0 (by omega)
  have k1 : ∀ k j, ¬ (k = 45 ∧ j = 22) → s1 k j = σ k j := fun k j q => by rw [h1, zu_rd, if_neg q]
  have g1 := e_22 R1
  refine q_c (by omega) (by omega) ?_
  have c1 : (s1 45 22).toNatClampNeg = (s1 45 22).toInt.toNat := rfl
  refine q_es (fun s2 h2 => ?_)
  have R2 : yR8 B (F - 1) σ0 s2 := by
    rw [h2]
    have g9 := e_59 R1 (s1 45 22).toNatClampNeg
    refine R8_hi R1 ⟨g9.1, g9.2.1⟩ ?_
    intro j hj
    rw [k1 59 j (by omega), k1 59 _ (by omega)]
    exact (h0.2.2.2.1 j _ (by omega) (by omega)).1
  have k2 : ∀ k j, ¬ (k = 45 ∧ j = 29) → s2 k j = s1 k j := fun k j q => by rw [h2, zu_rd, if_neg q]
  have g2 := e_22 R2
  refine q_c (by omega) (by omega) ?_
  have c56 := c_56 R2 (s2 45 22).toNatClampNeg
  refine q_c (by omega) (by omega) ?_
  refine q_c (by omega) (by omega) ?_
  refine q_zu8 R2 s_63 (fun s3 R3 E3 F3 => ?_)
  exact q_some ⟨R3, fun j j1 j2 => by rw [F3 _ _ (by omega), k2 _ _ (by omega), k1 _ _ (by omega)]⟩
theorem t_X8_enter_L94 {B F : Int} {σ0 : zS} (hF0 : 0 ≤ F) (hF : F < 12) : ∀ (n : Nat) (x1 x2 x3 x4 x5 : Int32) (σ : zS), (15 - x5.toInt).toNat < n → 0 ≤ x5.toInt → (σ 59 F.toNat).toInt = (σ 45 29).toInt → yR8 B F σ0 σ → yT (f_X8_enter_L94 n x1 x2 x3 x4 x5 σ) (fun _ τ => yR8 B (F + 1) σ0 τ ∧ ∀ j, j ≠ 22 → j ≠ 38 → τ 45 j = σ 45 j) := by
  intro n
  induction n with
  | zero => intro x1 x2 x3 x4 x5 σ hm; omega
  | succ n ih =>
    intro x1 x2 x3 x4 x5 σ hm hv hb h0
    rw [f_X8_enter_L94]
    have l15 : (15 : Int32).toInt = 15 := rfl
    have l0 : (0 : Int32).toInt = 0 := rfl
    have g := e_22 h0
    refine q_le (fun h1 => ?_) (fun h1 => ?_)
    · have e : ((σ 45 22) + (1 : Int32)).toInt = F + 1 := by rw [i_1 (by omega)]; omega
      refine q_es (fun s1 hs1 => ?_)
      have R1 : yR8 B (F + 1) σ0 s1 := by rw [hs1]; exact R8_up h0 hb hF e
      have k1 : ∀ k j, ¬ (k = 45 ∧ j = 22) → s1 k j = σ k j := fun k j q => by rw [hs1, zu_rd, if_neg q]
      refine q_le (fun h2 => ?_) (fun h2 => ?_)
      · refine q_zu8 R1 s_45_38 (fun s3 R3 E3 F3 => ?_)
        exact q_some ⟨R3, fun j j1 j2 => by rw [F3 _ _ (by omega), k1 _ _ (by omega)]⟩
      · refine q_zu8 R1 s_45_38 (fun s3 R3 E3 F3 => ?_)
        exact q_some ⟨R3, fun j j1 j2 => by rw [F3 _ _ (by omega), k1 _ _ (by omega)]⟩
    · have e5 : (x5 + (1 : Int32)).toInt = x5.toInt + 1 := i_1 (by omega)
      have e1 : ((15 : Int32) * (σ 45 22)).toInt = 15 * (σ 45 22).toInt := i_mulk rfl (by omega) (by omega)
      have e2 : (((15 : Int32) * (σ 45 22)) + x5).toInt = 15 * F + x5.toInt := by rw [i_add (by omega) (by omega)]; omega
      have b2 := i_65535 x2
      have b3 := i_65535 x3
      have key : ∀ v : Int32, 0 ≤ v.toInt ∧ v.toInt ≤ 65535 → yT (zc (((15 : Int32) * (σ 45 22)) + x5) 180 (zlet (zu σ 60 ((((15 : Int32) * (σ 45 22)) + x5)).toNatClampNeg v) fun s12 => f_X8_enter_L94 n x1 x2 x3 x4 (x5 + (1 : Int32)) s12)) (fun _ τ => yR8 B (F + 1) σ0 τ ∧ ∀ j, j ≠ 22 → j ≠ 38 → τ 45 j = σ 45 j) := by
        intro v hv2
        refine q_c (by omega) (by omega) ?_
        refine q_zu8 h0 (s_60 hv2) (fun s3 R3 E3 F3 => ?_)
        refine q_w (ih x1 x2 x3 x4 _ s3 (by omega) (by omega) (by rw [F3 _ _ (by omega), F3 _ _ (by omega)]; exact hb) R3) (fun r τ h => ⟨h.1, fun j j1 j2 => (h.2 j j1 j2).trans (F3 _ _ (by omega))⟩)
      refine q_eq (fun h2 => ?_) (fun h2 => ?_)
      · exact key _ (by omega)
      · refine q_eq (fun h3 => ?_) (fun h3 => ?_)
        · exact key _ (by omega)
        · exact key _ (by omega)
theorem t_X8_enter (p0 p1 p2 p3 : Int32) {B F : Int} {σ0 σ : zS} (h0 : yR8 B F σ0 σ) : yT (f_X8_enter p0 p1 p2 p3 σ) (fun _ τ => (∃ F2, yR8 B F2 σ0 τ ∧ F ≤ F2 ∧ (0 ≤ p0.toInt → p0.toInt < 8 → ¬ σ 52 p0.toNatClampNeg = 0 → F < 12 → F2 = F + 1)) ∧ ∀ j, j ≠ 22 → j ≠ 38 → j ≠ 12 → τ 45 j = σ 45 j) := by
  unfold f_X8_enter
  have l0 : (0 : Int32).toInt = 0 := rfl
  have l7 : (7 : Int32).toInt = 7 := rfl
  have l12 : (12 : Int32).toInt = 12 := rfl
  have g := e_22 h0
  refine q_lt (fun h1 => ?_) (fun h1 => ?_)
  · refine q_zu8 h0 s_45_12 (fun s R E Fr => ?_)
    exact q_some ⟨⟨F, R, Int.le_refl _, fun q => by omega⟩, fun j _ _ q => Fr _ _ (by omega)⟩
  refine q_lt (fun h2 => ?_) (fun h2 => ?_)
  · refine q_zu8 h0 s_45_12 (fun s R E Fr => ?_)
    exact q_some ⟨⟨F, R, Int.le_refl _, fun _ q => by omega⟩, fun j _ _ q => Fr _ _ (by omega)⟩
  refine q_c (by omega) (by omega) ?_
  by_cases h3 : σ 52 p0.toNatClampNeg = 0
  · rw [if_pos h3]
    refine q_zu8 h0 s_45_12 (fun s R E Fr => ?_)
    exact q_some ⟨⟨F, R, Int.le_refl _, fun _ _ q => absurd h3 q⟩, fun j _ _ q => Fr _ _ (by omega)⟩
  rw [if_neg h3]
  refine q_eq (fun h4 => ?_) (fun h4 => ?_)
  · refine q_zu8 h0 s_45_12 (fun s R E Fr => ?_)
    exact q_some ⟨⟨F, R, Int.le_refl _, fun _ _ _ q => by omega⟩, fun j _ _ q => Fr _ _ (by omega)⟩
  refine q_c (by omega) (by omega) ?_
  have hB := h0.2.2.2.2.2
  refine q_zu8 h0 (s_56 (by omega)) (fun s3 R3 E3 F3 => ?_)
  have g3 := e_22 R3
  have c53 := c_53 R3 p0.toNatClampNeg
  refine q_c (by omega) (by omega) ?_
  refine q_c (by omega) (by omega) ?_
  refine q_zu8 R3 (s_57 (by omega)) (fun s4 R4 E4 F4 => ?_)
  have g4 := e_22 R4
  refine q_c (by omega) (by omega) ?_
  refine q_zu8 R4 s_58 (fun s5 R5 E5 F5 => ?_)
  have g5 := e_22 R5
  have c29 := e_29 R5
  refine q_c (by omega) (by omega) ?_
  have c : (s5 45 22).toNatClampNeg = (s5 45 22).toInt.toNat := rfl
  refine q_es (fun s6 hs6 => ?_)
  have R6 : yR8 B F σ0 s6 := by rw [hs6]; exact R8_59 R5 (by omega) c29
  have k6 : ∀ k j, ¬ k = 59 → s6 k j = s5 k j := fun k j q => by rw [hs6, zu_rd, if_neg (by omega)]
  have e6 : (s6 59 F.toNat).toInt = (s6 45 29).toInt := by
    rw [k6 45 29 (by decide), hs6, zu_rd, if_pos ⟨rfl, by omega⟩]
  refine q_w (t_X8_enter_L94 (by omega) (by omega) zF p0 p1 p2 p3 (0 : Int32) s6 (by rw [zF_eq, t_0]; omega) (by rw [t_0]; omega) e6 R6) (fun r τ h => ⟨⟨F + 1, h.1, by omega, fun _ _ _ _ => rfl⟩, fun j j1 j2 _ => ?_⟩)
  rw [h.2 j j1 j2, k6 45 j (by decide), F5 _ _ (by omega), F4 _ _ (by omega), F3 _ _ (by omega)]
theorem t_X8_back (p0 : Int32) {B F : Int} {σ : zS} (h0 : yR8 B F σ σ) (hp : 1 ≤ F) : yT (f_X8_back p0 σ) (fun _ τ => yE B σ τ ∧ τ 45 39 = σ 45 39) := by
  unfold f_X8_back
  have l0 : (0 : Int32).toInt = 0 := rfl
  refine q_bindR (t_X8_leave h0 hp) (fun _ s1 R1 k1 => ?_)
  have g0 := e_22 h0
  have g1 := e_22 R1
  refine q_eq (fun h1 => ?_) (fun h1 => ?_)
  · refine q_bindp (t_X8_signed p0 R1) (fun v2 _ => ?_)
    refine q_zu8 R1 s_45_34 (fun s4 R4 E4 F4 => ?_)
    refine q_es (fun s5 hs5 => ?_)
    rw [hs5]
    exact q_some ⟨yE_end R4 (by decide), by rw [zu_rd, if_neg (by omega), F4 _ _ (by omega), k1 _ (by omega) (by omega)]⟩
  · refine q_c (by omega) (by omega) ?_
    refine q_lv (fun v hv => ?_)
    refine q_lt (fun h2 => ?_) (fun h2 => ?_)
    · exact q_some ⟨yE_k R1 (by omega), k1 _ (by omega) (by omega)⟩
    · refine q_bindR (t_X8_set v p0 (R8_own R1) (by omega)) (fun _ s2 R2 _ => ?_)
      exact q_some ⟨yE_tr R1 (yE_k R2 (by omega)), (R2.2.2.1 45 39 (by unfold y8K; omega)).trans (k1 _ (by omega) (by omega))⟩
theorem t_X8_throwTo_L50 {B : Int} {σ0 : zS} : ∀ (n : Nat) (x1 x2 : Int32) (F : Int) (σ : zS), F.toNat < n → (0 ≤ x2.toInt ∧ x2.toInt < 12 ∧ 1 ≤ F) → yR8 B F σ σ → (∀ k j, y8L k j → σ k j = σ0 k j) → yT (f_X8_throwTo_L50 n x1 x2 σ) (fun _ τ => yE B σ0 τ ∧ True) := by
  intro n
  induction n with
  | zero => intro x1 x2 F σ hm; omega
  | succ n ih =>
    intro x1 x2 F σ hm hv h0 hk
    rw [f_X8_throwTo_L50]
    have g := e_22 h0
    have e : (x2 + (1 : Int32)).toInt = x2.toInt + 1 := i_1 (by omega)
    refine q_le (fun h1 => ?_) (fun h1 => ?_)
    · refine q_bindR (t_X8_back x1 h0 (by omega)) (fun _ s R _ => ?_)
      exact q_some ⟨yE_tr2 hk R, trivial⟩
    · refine q_bindR (t_X8_leave h0 (by omega)) (fun _ s R _ => ?_)
      exact ih x1 x2 (F - 1) s (by omega) (by omega) (R8_own R) (fun k j q => (R.2.2.1 k j (y8_LK q)).trans (hk k j q))
theorem t_X8_throwTo (p0 p1 : Int32) {B F : Int} {σ : zS} (h0 : yR8 B F σ σ) (hp : 1 ≤ F ∧ 0 ≤ p1.toInt) : yT (f_X8_throwTo p0 p1 σ) (fun _ τ => yE B σ τ ∧ True) := by
  unfold f_X8_throwTo
  have g := e_22 h0
  have l12 : (12 : Int32).toInt = 12 := rfl
  have g39 := e_39 h0
  refine q_lt (fun h1 => ?_) (fun h1 => ?_)
  · refine q_eq (fun h2 => ?_) (fun h2 => ?_)
    · refine q_es (fun s hs => ?_)
      rw [hs]
      exact q_some ⟨yE_end h0 (by decide), trivial⟩
    · have e : ((σ 45 39) + (1 : Int32)).toInt = (σ 45 39).toInt + 1 := i_1 (by omega)
      refine q_es (fun s1 hs1 => ?_)
      have R1 : yR8 B F s1 s1 := by rw [hs1]; exact R8_self h0 (by omega) (show 0 ≤ _ ∧ _ ≤ (12 : Int) by rw [e]; omega)
      have k1 : ∀ k j, y8L k j → s1 k j = σ k j := fun k j q => by rw [hs1, zu_rd, if_neg (by unfold y8L at q; omega)]
      refine q_zu8 R1 s_45_37 (fun s2 R2 E2 F2 => ?_)
      exact t_X8_throwTo_L50 zF p0 p1 F s2 (by rw [zF_eq]; omega) (by omega) (R8_own R2) (fun k j q => (R2.2.2.1 k j (y8_LK q)).trans (k1 k j q))
  · refine q_zu8 h0 s_45_12 (fun s R E Fr => ?_)
    exact q_some ⟨yE_k R (by omega), trivial⟩
theorem t_X8_enterE (p0 p1 p2 p3 : Int32) {B F : Int} {σ : zS} (h0 : yR8 B F σ σ) (hp : 1 ≤ F) : yT (f_X8_enter p0 p1 p2 p3 σ) (fun _ τ => yE B σ τ ∧ True) := by
  refine q_w (t_X8_enter p0 p1 p2 p3 h0) (fun r τ h => ?_)
  obtain ⟨⟨F2, R, h1, h2⟩, h3⟩ := h
  exact ⟨yE_k R (by omega), trivial⟩
set_option maxHeartbeats 4000000 in
set_option maxRecDepth 20000 in
theorem t_X8_act (p0 : Int32) (p1 : Int32) (p2 : Int32) (p3 : Int32) (p4 : Int32) {B F : Int} {σ : zS} (h0 : yR8 B F σ σ) (hp : 1 ≤ F ∧ 0 ≤ p1.toInt ∧ p1.toInt ≤ 65535 ∧ 0 ≤ p2.toInt ∧ p2.toInt ≤ 65535 ∧ 0 ≤ p3.toInt ∧ p3.toInt ≤ 65535) : yT (f_X8_act p0 p1 p2 p3 p4 σ) (fun r τ => yE B σ τ ∧ (True)) := by
 unfold f_X8_act
 have hB := h0.2.2.2.2.2
 have l_1 : (10 : Int32).toInt = 10 := rfl
 refine q_eq (fun h_2 => ?_) (fun h_2 => ?_)
 ·
  refine q_eq (fun h_3 => ?_) (fun h_3 => ?_)
  ·
   refine q_eq (fun h_4 => ?_) (fun h_4 => ?_)
   ·
    refine q_bindp (t_X8_top  h0) (fun r_5 p_6 => ?_)
    have l_7 : (1 : Int32).toInt = 1 := rfl
    have l_8 : (0 : Int32).toInt = 0 := rfl
    refine q_eq (fun h_9 => ?_) (fun h_9 => ?_)
    ·
     refine q_bindp (t_X8_top  h0) (fun r_10 p_11 => ?_)
     refine q_c (by omega) (by omega) ?_
     refine q_c (by omega) (by omega) ?_
     have c_16 : r_5.toNatClampNeg = r_5.toInt.toNat := rfl
     have c_17 : r_10.toNatClampNeg = r_10.toInt.toNat := rfl
     have g_18 := e_57 h0 r_10.toNatClampNeg
     refine q_zu8 h0 (s_57 (by omega)) (fun s_12 R_13 E_14 F_15 => ?_)
     exact q_some ⟨yE_k R_13 (by omega), trivial⟩
    ·
     refine q_c (by omega) (by omega) ?_
     have c_23 : r_5.toNatClampNeg = r_5.toInt.toNat := rfl
     refine q_zu8 h0 (s_57 (by omega)) (fun s_19 R_20 E_21 F_22 => ?_)
     exact q_some ⟨yE_k R_20 (by omega), trivial⟩
   ·
    refine q_bindp (t_X8_top  h0) (fun r_24 p_25 => ?_)
    have l_26 : (0 : Int32).toInt = 0 := rfl
    refine q_eq (fun h_27 => ?_) (fun h_27 => ?_)
    ·
     refine q_bindp (t_X8_top  h0) (fun r_28 p_29 => ?_)
     refine q_c (by omega) (by omega) ?_
     refine q_c (by omega) (by omega) ?_
     have c_34 : r_24.toNatClampNeg = r_24.toInt.toNat := rfl
     have c_35 : r_28.toNatClampNeg = r_28.toInt.toNat := rfl
     have g_36 := e_57 h0 r_28.toNatClampNeg
     refine q_zu8 h0 (s_57 (by omega)) (fun s_30 R_31 E_32 F_33 => ?_)
     exact q_some ⟨yE_k R_31 (by omega), trivial⟩
    ·
     refine q_c (by omega) (by omega) ?_
     have c_41 : r_24.toNatClampNeg = r_24.toInt.toNat := rfl
     refine q_zu8 h0 (s_57 (by omega)) (fun s_37 R_38 E_39 F_40 => ?_)
     exact q_some ⟨yE_k R_38 (by omega), trivial⟩
  ·
   have l_42 : (11 : Int32).toInt = 11 := rfl
   refine q_eq (fun h_43 => ?_) (fun h_43 => ?_)
   ·
    refine q_bindp (t_X8_signed p1 h0) (fun r_44 p_45 => ?_)
    refine q_bindp (t_X8_signed p2 h0) (fun r_46 p_47 => ?_)
    refine q_le (fun h_48 => ?_) (fun h_48 => ?_)
    ·
     refine q_bindp (t_X8_top  h0) (fun r_49 p_50 => ?_)
     have l_51 : (0 : Int32).toInt = 0 := rfl
     refine q_eq (fun h_52 => ?_) (fun h_52 => ?_)
     ·
      refine q_bindp (t_X8_top  h0) (fun r_53 p_54 => ?_)
      refine q_c (by omega) (by omega) ?_
      refine q_c (by omega) (by omega) ?_
      have c_59 : r_49.toNatClampNeg = r_49.toInt.toNat := rfl
      have c_60 : r_53.toNatClampNeg = r_53.toInt.toNat := rfl
      have g_61 := e_57 h0 r_53.toNatClampNeg
      refine q_zu8 h0 (s_57 (by omega)) (fun s_55 R_56 E_57 F_58 => ?_)
      exact q_some ⟨yE_k R_56 (by omega), trivial⟩
     ·
      refine q_c (by omega) (by omega) ?_
      have c_66 : r_49.toNatClampNeg = r_49.toInt.toNat := rfl
      refine q_zu8 h0 (s_57 (by omega)) (fun s_62 R_63 E_64 F_65 => ?_)
      exact q_some ⟨yE_k R_63 (by omega), trivial⟩
    ·
     refine q_bindp (t_X8_top  h0) (fun r_67 p_68 => ?_)
     have l_69 : (1 : Int32).toInt = 1 := rfl
     have l_70 : (0 : Int32).toInt = 0 := rfl
     refine q_eq (fun h_71 => ?_) (fun h_71 => ?_)
     ·
      refine q_bindp (t_X8_top  h0) (fun r_72 p_73 => ?_)
      refine q_c (by omega) (by omega) ?_
      refine q_c (by omega) (by omega) ?_
      have c_78 : r_67.toNatClampNeg = r_67.toInt.toNat := rfl
      have c_79 : r_72.toNatClampNeg = r_72.toInt.toNat := rfl
      have g_80 := e_57 h0 r_72.toNatClampNeg
      refine q_zu8 h0 (s_57 (by omega)) (fun s_74 R_75 E_76 F_77 => ?_)
      exact q_some ⟨yE_k R_75 (by omega), trivial⟩
     ·
      refine q_c (by omega) (by omega) ?_
      have c_85 : r_67.toNatClampNeg = r_67.toInt.toNat := rfl
      refine q_zu8 h0 (s_57 (by omega)) (fun s_81 R_82 E_83 F_84 => ?_)
      exact q_some ⟨yE_k R_82 (by omega), trivial⟩
   ·
    refine q_bindp (t_X8_signed p1 h0) (fun r_86 p_87 => ?_)
    refine q_bindp (t_X8_signed p2 h0) (fun r_88 p_89 => ?_)
    refine q_le (fun h_90 => ?_) (fun h_90 => ?_)
    ·
     refine q_bindp (t_X8_top  h0) (fun r_91 p_92 => ?_)
     have l_93 : (0 : Int32).toInt = 0 := rfl
     refine q_eq (fun h_94 => ?_) (fun h_94 => ?_)
     ·
      refine q_bindp (t_X8_top  h0) (fun r_95 p_96 => ?_)
      refine q_c (by omega) (by omega) ?_
      refine q_c (by omega) (by omega) ?_
      have c_101 : r_91.toNatClampNeg = r_91.toInt.toNat := rfl
      have c_102 : r_95.toNatClampNeg = r_95.toInt.toNat := rfl
      have g_103 := e_57 h0 r_95.toNatClampNeg
      refine q_zu8 h0 (s_57 (by omega)) (fun s_97 R_98 E_99 F_100 => ?_)
      exact q_some ⟨yE_k R_98 (by omega), trivial⟩
     ·
      refine q_c (by omega) (by omega) ?_
      have c_108 : r_91.toNatClampNeg = r_91.toInt.toNat := rfl
      refine q_zu8 h0 (s_57 (by omega)) (fun s_104 R_105 E_106 F_107 => ?_)
      exact q_some ⟨yE_k R_105 (by omega), trivial⟩
    ·
     refine q_bindp (t_X8_top  h0) (fun r_109 p_110 => ?_)
     have l_111 : (1 : Int32).toInt = 1 := rfl
     have l_112 : (0 : Int32).toInt = 0 := rfl
     refine q_eq (fun h_113 => ?_) (fun h_113 => ?_)
     ·
      refine q_bindp (t_X8_top  h0) (fun r_114 p_115 => ?_)
      refine q_c (by omega) (by omega) ?_
      refine q_c (by omega) (by omega) ?_
      have c_120 : r_109.toNatClampNeg = r_109.toInt.toNat := rfl
      have c_121 : r_114.toNatClampNeg = r_114.toInt.toNat := rfl
      have g_122 := e_57 h0 r_114.toNatClampNeg
      refine q_zu8 h0 (s_57 (by omega)) (fun s_116 R_117 E_118 F_119 => ?_)
      exact q_some ⟨yE_k R_117 (by omega), trivial⟩
     ·
      refine q_c (by omega) (by omega) ?_
      have c_127 : r_109.toNatClampNeg = r_109.toInt.toNat := rfl
      refine q_zu8 h0 (s_57 (by omega)) (fun s_123 R_124 E_125 F_126 => ?_)
      exact q_some ⟨yE_k R_124 (by omega), trivial⟩
 ·
  have l_128 : (11 : Int32).toInt = 11 := rfl
  refine q_eq (fun h_129 => ?_) (fun h_129 => ?_)
  ·
   refine q_eq (fun h_130 => ?_) (fun h_130 => ?_)
   ·
    refine q_eq (fun h_131 => ?_) (fun h_131 => ?_)
    ·
     refine q_bindp (t_X8_top  h0) (fun r_132 p_133 => ?_)
     have l_134 : (1 : Int32).toInt = 1 := rfl
     have l_135 : (0 : Int32).toInt = 0 := rfl
     refine q_eq (fun h_136 => ?_) (fun h_136 => ?_)
     ·
      refine q_bindp (t_X8_top  h0) (fun r_137 p_138 => ?_)
      refine q_c (by omega) (by omega) ?_
      refine q_c (by omega) (by omega) ?_
      have c_143 : r_132.toNatClampNeg = r_132.toInt.toNat := rfl
      have c_144 : r_137.toNatClampNeg = r_137.toInt.toNat := rfl
      have g_145 := e_57 h0 r_137.toNatClampNeg
      refine q_zu8 h0 (s_57 (by omega)) (fun s_139 R_140 E_141 F_142 => ?_)
      exact q_some ⟨yE_k R_140 (by omega), trivial⟩
     ·
      refine q_c (by omega) (by omega) ?_
      have c_150 : r_132.toNatClampNeg = r_132.toInt.toNat := rfl
      refine q_zu8 h0 (s_57 (by omega)) (fun s_146 R_147 E_148 F_149 => ?_)
      exact q_some ⟨yE_k R_147 (by omega), trivial⟩
    ·
     refine q_bindp (t_X8_top  h0) (fun r_151 p_152 => ?_)
     have l_153 : (0 : Int32).toInt = 0 := rfl
     refine q_eq (fun h_154 => ?_) (fun h_154 => ?_)
     ·
      refine q_bindp (t_X8_top  h0) (fun r_155 p_156 => ?_)
      refine q_c (by omega) (by omega) ?_
      refine q_c (by omega) (by omega) ?_
      have c_161 : r_151.toNatClampNeg = r_151.toInt.toNat := rfl
      have c_162 : r_155.toNatClampNeg = r_155.toInt.toNat := rfl
      have g_163 := e_57 h0 r_155.toNatClampNeg
      refine q_zu8 h0 (s_57 (by omega)) (fun s_157 R_158 E_159 F_160 => ?_)
      exact q_some ⟨yE_k R_158 (by omega), trivial⟩
     ·
      refine q_c (by omega) (by omega) ?_
      have c_168 : r_151.toNatClampNeg = r_151.toInt.toNat := rfl
      refine q_zu8 h0 (s_57 (by omega)) (fun s_164 R_165 E_166 F_167 => ?_)
      exact q_some ⟨yE_k R_165 (by omega), trivial⟩
   ·
    refine q_eq (fun h_169 => ?_) (fun h_169 => ?_)
    ·
     refine q_bindp (t_X8_signed p1 h0) (fun r_170 p_171 => ?_)
     refine q_bindp (t_X8_signed p2 h0) (fun r_172 p_173 => ?_)
     refine q_le (fun h_174 => ?_) (fun h_174 => ?_)
     ·
      refine q_bindp (t_X8_top  h0) (fun r_175 p_176 => ?_)
      have l_177 : (0 : Int32).toInt = 0 := rfl
      refine q_eq (fun h_178 => ?_) (fun h_178 => ?_)
      ·
       refine q_bindp (t_X8_top  h0) (fun r_179 p_180 => ?_)
       refine q_c (by omega) (by omega) ?_
       refine q_c (by omega) (by omega) ?_
       have c_185 : r_175.toNatClampNeg = r_175.toInt.toNat := rfl
       have c_186 : r_179.toNatClampNeg = r_179.toInt.toNat := rfl
       have g_187 := e_57 h0 r_179.toNatClampNeg
       refine q_zu8 h0 (s_57 (by omega)) (fun s_181 R_182 E_183 F_184 => ?_)
       exact q_some ⟨yE_k R_182 (by omega), trivial⟩
      ·
       refine q_c (by omega) (by omega) ?_
       have c_192 : r_175.toNatClampNeg = r_175.toInt.toNat := rfl
       refine q_zu8 h0 (s_57 (by omega)) (fun s_188 R_189 E_190 F_191 => ?_)
       exact q_some ⟨yE_k R_189 (by omega), trivial⟩
     ·
      refine q_bindp (t_X8_top  h0) (fun r_193 p_194 => ?_)
      have l_195 : (1 : Int32).toInt = 1 := rfl
      have l_196 : (0 : Int32).toInt = 0 := rfl
      refine q_eq (fun h_197 => ?_) (fun h_197 => ?_)
      ·
       refine q_bindp (t_X8_top  h0) (fun r_198 p_199 => ?_)
       refine q_c (by omega) (by omega) ?_
       refine q_c (by omega) (by omega) ?_
       have c_204 : r_193.toNatClampNeg = r_193.toInt.toNat := rfl
       have c_205 : r_198.toNatClampNeg = r_198.toInt.toNat := rfl
       have g_206 := e_57 h0 r_198.toNatClampNeg
       refine q_zu8 h0 (s_57 (by omega)) (fun s_200 R_201 E_202 F_203 => ?_)
       exact q_some ⟨yE_k R_201 (by omega), trivial⟩
      ·
       refine q_c (by omega) (by omega) ?_
       have c_211 : r_193.toNatClampNeg = r_193.toInt.toNat := rfl
       refine q_zu8 h0 (s_57 (by omega)) (fun s_207 R_208 E_209 F_210 => ?_)
       exact q_some ⟨yE_k R_208 (by omega), trivial⟩
    ·
     refine q_bindp (t_X8_signed p1 h0) (fun r_212 p_213 => ?_)
     refine q_bindp (t_X8_signed p2 h0) (fun r_214 p_215 => ?_)
     refine q_le (fun h_216 => ?_) (fun h_216 => ?_)
     ·
      refine q_bindp (t_X8_top  h0) (fun r_217 p_218 => ?_)
      have l_219 : (0 : Int32).toInt = 0 := rfl
      refine q_eq (fun h_220 => ?_) (fun h_220 => ?_)
      ·
       refine q_bindp (t_X8_top  h0) (fun r_221 p_222 => ?_)
       refine q_c (by omega) (by omega) ?_
       refine q_c (by omega) (by omega) ?_
       have c_227 : r_217.toNatClampNeg = r_217.toInt.toNat := rfl
       have c_228 : r_221.toNatClampNeg = r_221.toInt.toNat := rfl
       have g_229 := e_57 h0 r_221.toNatClampNeg
       refine q_zu8 h0 (s_57 (by omega)) (fun s_223 R_224 E_225 F_226 => ?_)
       exact q_some ⟨yE_k R_224 (by omega), trivial⟩
      ·
       refine q_c (by omega) (by omega) ?_
       have c_234 : r_217.toNatClampNeg = r_217.toInt.toNat := rfl
       refine q_zu8 h0 (s_57 (by omega)) (fun s_230 R_231 E_232 F_233 => ?_)
       exact q_some ⟨yE_k R_231 (by omega), trivial⟩
     ·
      refine q_bindp (t_X8_top  h0) (fun r_235 p_236 => ?_)
      have l_237 : (1 : Int32).toInt = 1 := rfl
      have l_238 : (0 : Int32).toInt = 0 := rfl
      refine q_eq (fun h_239 => ?_) (fun h_239 => ?_)
      ·
       refine q_bindp (t_X8_top  h0) (fun r_240 p_241 => ?_)
       refine q_c (by omega) (by omega) ?_
       refine q_c (by omega) (by omega) ?_
       have c_246 : r_235.toNatClampNeg = r_235.toInt.toNat := rfl
       have c_247 : r_240.toNatClampNeg = r_240.toInt.toNat := rfl
       have g_248 := e_57 h0 r_240.toNatClampNeg
       refine q_zu8 h0 (s_57 (by omega)) (fun s_242 R_243 E_244 F_245 => ?_)
       exact q_some ⟨yE_k R_243 (by omega), trivial⟩
      ·
       refine q_c (by omega) (by omega) ?_
       have c_253 : r_235.toNatClampNeg = r_235.toInt.toNat := rfl
       refine q_zu8 h0 (s_57 (by omega)) (fun s_249 R_250 E_251 F_252 => ?_)
       exact q_some ⟨yE_k R_250 (by omega), trivial⟩
  ·
   have l_254 : (12 : Int32).toInt = 12 := rfl
   refine q_eq (fun h_255 => ?_) (fun h_255 => ?_)
   ·
    refine q_eq (fun h_256 => ?_) (fun h_256 => ?_)
    ·
     refine q_eq (fun h_257 => ?_) (fun h_257 => ?_)
     ·
      refine q_bindp (t_X8_top  h0) (fun r_258 p_259 => ?_)
      have l_260 : (1 : Int32).toInt = 1 := rfl
      have l_261 : (0 : Int32).toInt = 0 := rfl
      refine q_eq (fun h_262 => ?_) (fun h_262 => ?_)
      ·
       refine q_bindp (t_X8_top  h0) (fun r_263 p_264 => ?_)
       refine q_c (by omega) (by omega) ?_
       refine q_c (by omega) (by omega) ?_
       have c_269 : r_258.toNatClampNeg = r_258.toInt.toNat := rfl
       have c_270 : r_263.toNatClampNeg = r_263.toInt.toNat := rfl
       have g_271 := e_57 h0 r_263.toNatClampNeg
       refine q_zu8 h0 (s_57 (by omega)) (fun s_265 R_266 E_267 F_268 => ?_)
       exact q_some ⟨yE_k R_266 (by omega), trivial⟩
      ·
       refine q_c (by omega) (by omega) ?_
       have c_276 : r_258.toNatClampNeg = r_258.toInt.toNat := rfl
       refine q_zu8 h0 (s_57 (by omega)) (fun s_272 R_273 E_274 F_275 => ?_)
       exact q_some ⟨yE_k R_273 (by omega), trivial⟩
     ·
      refine q_bindp (t_X8_top  h0) (fun r_277 p_278 => ?_)
      have l_279 : (0 : Int32).toInt = 0 := rfl
      refine q_eq (fun h_280 => ?_) (fun h_280 => ?_)
      ·
       refine q_bindp (t_X8_top  h0) (fun r_281 p_282 => ?_)
       refine q_c (by omega) (by omega) ?_
       refine q_c (by omega) (by omega) ?_
       have c_287 : r_277.toNatClampNeg = r_277.toInt.toNat := rfl
       have c_288 : r_281.toNatClampNeg = r_281.toInt.toNat := rfl
       have g_289 := e_57 h0 r_281.toNatClampNeg
       refine q_zu8 h0 (s_57 (by omega)) (fun s_283 R_284 E_285 F_286 => ?_)
       exact q_some ⟨yE_k R_284 (by omega), trivial⟩
      ·
       refine q_c (by omega) (by omega) ?_
       have c_294 : r_277.toNatClampNeg = r_277.toInt.toNat := rfl
       refine q_zu8 h0 (s_57 (by omega)) (fun s_290 R_291 E_292 F_293 => ?_)
       exact q_some ⟨yE_k R_291 (by omega), trivial⟩
    ·
     refine q_eq (fun h_295 => ?_) (fun h_295 => ?_)
     ·
      refine q_bindp (t_X8_signed p1 h0) (fun r_296 p_297 => ?_)
      refine q_bindp (t_X8_signed p2 h0) (fun r_298 p_299 => ?_)
      refine q_le (fun h_300 => ?_) (fun h_300 => ?_)
      ·
       refine q_bindp (t_X8_top  h0) (fun r_301 p_302 => ?_)
       have l_303 : (0 : Int32).toInt = 0 := rfl
       refine q_eq (fun h_304 => ?_) (fun h_304 => ?_)
       ·
        refine q_bindp (t_X8_top  h0) (fun r_305 p_306 => ?_)
        refine q_c (by omega) (by omega) ?_
        refine q_c (by omega) (by omega) ?_
        have c_311 : r_301.toNatClampNeg = r_301.toInt.toNat := rfl
        have c_312 : r_305.toNatClampNeg = r_305.toInt.toNat := rfl
        have g_313 := e_57 h0 r_305.toNatClampNeg
        refine q_zu8 h0 (s_57 (by omega)) (fun s_307 R_308 E_309 F_310 => ?_)
        exact q_some ⟨yE_k R_308 (by omega), trivial⟩
       ·
        refine q_c (by omega) (by omega) ?_
        have c_318 : r_301.toNatClampNeg = r_301.toInt.toNat := rfl
        refine q_zu8 h0 (s_57 (by omega)) (fun s_314 R_315 E_316 F_317 => ?_)
        exact q_some ⟨yE_k R_315 (by omega), trivial⟩
      ·
       refine q_bindp (t_X8_top  h0) (fun r_319 p_320 => ?_)
       have l_321 : (1 : Int32).toInt = 1 := rfl
       have l_322 : (0 : Int32).toInt = 0 := rfl
       refine q_eq (fun h_323 => ?_) (fun h_323 => ?_)
       ·
        refine q_bindp (t_X8_top  h0) (fun r_324 p_325 => ?_)
        refine q_c (by omega) (by omega) ?_
        refine q_c (by omega) (by omega) ?_
        have c_330 : r_319.toNatClampNeg = r_319.toInt.toNat := rfl
        have c_331 : r_324.toNatClampNeg = r_324.toInt.toNat := rfl
        have g_332 := e_57 h0 r_324.toNatClampNeg
        refine q_zu8 h0 (s_57 (by omega)) (fun s_326 R_327 E_328 F_329 => ?_)
        exact q_some ⟨yE_k R_327 (by omega), trivial⟩
       ·
        refine q_c (by omega) (by omega) ?_
        have c_337 : r_319.toNatClampNeg = r_319.toInt.toNat := rfl
        refine q_zu8 h0 (s_57 (by omega)) (fun s_333 R_334 E_335 F_336 => ?_)
        exact q_some ⟨yE_k R_334 (by omega), trivial⟩
     ·
      refine q_bindp (t_X8_signed p1 h0) (fun r_338 p_339 => ?_)
      refine q_bindp (t_X8_signed p2 h0) (fun r_340 p_341 => ?_)
      refine q_le (fun h_342 => ?_) (fun h_342 => ?_)
      ·
       refine q_bindp (t_X8_top  h0) (fun r_343 p_344 => ?_)
       have l_345 : (0 : Int32).toInt = 0 := rfl
       refine q_eq (fun h_346 => ?_) (fun h_346 => ?_)
       ·
        refine q_bindp (t_X8_top  h0) (fun r_347 p_348 => ?_)
        refine q_c (by omega) (by omega) ?_
        refine q_c (by omega) (by omega) ?_
        have c_353 : r_343.toNatClampNeg = r_343.toInt.toNat := rfl
        have c_354 : r_347.toNatClampNeg = r_347.toInt.toNat := rfl
        have g_355 := e_57 h0 r_347.toNatClampNeg
        refine q_zu8 h0 (s_57 (by omega)) (fun s_349 R_350 E_351 F_352 => ?_)
        exact q_some ⟨yE_k R_350 (by omega), trivial⟩
       ·
        refine q_c (by omega) (by omega) ?_
        have c_360 : r_343.toNatClampNeg = r_343.toInt.toNat := rfl
        refine q_zu8 h0 (s_57 (by omega)) (fun s_356 R_357 E_358 F_359 => ?_)
        exact q_some ⟨yE_k R_357 (by omega), trivial⟩
      ·
       refine q_bindp (t_X8_top  h0) (fun r_361 p_362 => ?_)
       have l_363 : (1 : Int32).toInt = 1 := rfl
       have l_364 : (0 : Int32).toInt = 0 := rfl
       refine q_eq (fun h_365 => ?_) (fun h_365 => ?_)
       ·
        refine q_bindp (t_X8_top  h0) (fun r_366 p_367 => ?_)
        refine q_c (by omega) (by omega) ?_
        refine q_c (by omega) (by omega) ?_
        have c_372 : r_361.toNatClampNeg = r_361.toInt.toNat := rfl
        have c_373 : r_366.toNatClampNeg = r_366.toInt.toNat := rfl
        have g_374 := e_57 h0 r_366.toNatClampNeg
        refine q_zu8 h0 (s_57 (by omega)) (fun s_368 R_369 E_370 F_371 => ?_)
        exact q_some ⟨yE_k R_369 (by omega), trivial⟩
       ·
        refine q_c (by omega) (by omega) ?_
        have c_379 : r_361.toNatClampNeg = r_361.toInt.toNat := rfl
        refine q_zu8 h0 (s_57 (by omega)) (fun s_375 R_376 E_377 F_378 => ?_)
        exact q_some ⟨yE_k R_376 (by omega), trivial⟩
   ·
    have l_380 : (13 : Int32).toInt = 13 := rfl
    refine q_eq (fun h_381 => ?_) (fun h_381 => ?_)
    ·
     refine q_bindp (t_X8_top  h0) (fun r_382 p_383 => ?_)
     refine q_c (by omega) (by omega) ?_
     have c_388 : r_382.toNatClampNeg = r_382.toInt.toNat := rfl
     refine q_zu8 h0 (s_57 (by omega)) (fun s_384 R_385 E_386 F_387 => ?_)
     exact q_some ⟨yE_k R_385 (by omega), trivial⟩
    ·
     have l_389 : (14 : Int32).toInt = 14 := rfl
     refine q_eq (fun h_390 => ?_) (fun h_390 => ?_)
     ·
      have l_391 : (255 : Int32).toInt = 255 := rfl
      have a_392 := i_255 p1
      have l_393 : (1 : Int32).toInt = 1 := rfl
      refine q_bindR (t_X8_more (p1 &&& (255 : Int32)) (1 : Int32) h0 (by omega)) (fun r_394 s_395 R_396 p_397 => ?_)
      exact q_some ⟨yE_k R_396 (by omega), trivial⟩
     ·
      have l_398 : (15 : Int32).toInt = 15 := rfl
      refine q_eq (fun h_399 => ?_) (fun h_399 => ?_)
      ·
       have l_400 : (255 : Int32).toInt = 255 := rfl
       have a_401 := i_255 p1
       have l_402 : (-1 : Int32).toInt = -1 := rfl
       refine q_bindR (t_X8_more (p1 &&& (255 : Int32)) (-1 : Int32) h0 (by omega)) (fun r_403 s_404 R_405 p_406 => ?_)
       exact q_some ⟨yE_k R_405 (by omega), trivial⟩
      ·
       have l_407 : (16 : Int32).toInt = 16 := rfl
       refine q_eq (fun h_408 => ?_) (fun h_408 => ?_)
       ·
        refine q_bindp (t_X8_signed p2 h0) (fun r_409 p_410 => ?_)
        refine q_bindR (t_X8_read (p1 + ((2 : Int32) * r_409)) (1 : Int32) h0) (fun r_411 s_412 R_413 p_414 => ?_)
        have l_415 : (0 : Int32).toInt = 0 := rfl
        refine q_eq (fun h_416 => ?_) (fun h_416 => ?_)
        ·
         refine q_lt (fun h_417 => ?_) (fun h_417 => ?_)
         ·
          exact q_some ⟨yE_k R_413 (by omega), trivial⟩
         ·
          refine q_bindR (t_X8_set p4 r_411 R_413 (by omega)) (fun r_418 s_419 R_420 p_421 => ?_)
          exact q_some ⟨yE_k R_420 (by omega), trivial⟩
        ·
         exact q_some ⟨yE_k R_413 (by omega), trivial⟩
       ·
        have l_422 : (17 : Int32).toInt = 17 := rfl
        refine q_eq (fun h_423 => ?_) (fun h_423 => ?_)
        ·
         refine q_bindp (t_X8_signed p2 h0) (fun r_424 p_425 => ?_)
         refine q_bindR (t_X8_read (p1 + r_424) (0 : Int32) h0) (fun r_426 s_427 R_428 p_429 => ?_)
         have l_430 : (0 : Int32).toInt = 0 := rfl
         refine q_eq (fun h_431 => ?_) (fun h_431 => ?_)
         ·
          refine q_lt (fun h_432 => ?_) (fun h_432 => ?_)
          ·
           exact q_some ⟨yE_k R_428 (by omega), trivial⟩
          ·
           refine q_bindR (t_X8_set p4 r_426 R_428 (by omega)) (fun r_433 s_434 R_435 p_436 => ?_)
           exact q_some ⟨yE_k R_435 (by omega), trivial⟩
         ·
          exact q_some ⟨yE_k R_428 (by omega), trivial⟩
        ·
         have l_437 : (18 : Int32).toInt = 18 := rfl
         refine q_eq (fun h_438 => ?_) (fun h_438 => ?_)
         ·
          refine q_bindp (t_X8_signed p2 h0) (fun r_439 p_440 => ?_)
          refine q_bindR (t_X8_write (p1 + ((2 : Int32) * r_439)) p3 (1 : Int32) (0 : Int32) h0) (fun r_441 s_442 R_443 p_444 => ?_)
          exact q_some ⟨yE_k R_443 (by omega), trivial⟩
         ·
          have l_445 : (19 : Int32).toInt = 19 := rfl
          refine q_eq (fun h_446 => ?_) (fun h_446 => ?_)
          ·
           refine q_bindp (t_X8_signed p2 h0) (fun r_447 p_448 => ?_)
           refine q_bindR (t_X8_write (p1 + r_447) p3 (0 : Int32) (0 : Int32) h0) (fun r_449 s_450 R_451 p_452 => ?_)
           exact q_some ⟨yE_k R_451 (by omega), trivial⟩
          ·
           have l_453 : (20 : Int32).toInt = 20 := rfl
           refine q_eq (fun h_454 => ?_) (fun h_454 => ?_)
           ·
            refine q_bindR (t_X8_enterE p1 p2 p3 p4 (R8_own h0) (by omega)) (fun r_455 s_456 R_457 p_458 => ?_)
            exact q_some ⟨yE_tr h0 R_457, trivial⟩
           ·
            have l_459 : (21 : Int32).toInt = 21 := rfl
            refine q_eq (fun h_460 => ?_) (fun h_460 => ?_)
            ·
             refine q_bindR (t_X8_back p1 (R8_own h0) (by omega)) (fun r_461 s_462 R_463 p_464 => ?_)
             exact q_some ⟨yE_tr h0 R_463, trivial⟩
            ·
             have l_465 : (22 : Int32).toInt = 22 := rfl
             refine q_eq (fun h_466 => ?_) (fun h_466 => ?_)
             ·
              refine q_bindR (t_X8_push p1 h0) (fun r_467 s_468 R_469 p_470 => ?_)
              exact q_some ⟨yE_k R_469 (by omega), trivial⟩
             ·
              have l_471 : (23 : Int32).toInt = 23 := rfl
              refine q_eq (fun h_472 => ?_) (fun h_472 => ?_)
              ·
               refine q_bindR (t_X8_pop  h0 (by omega)) (fun r_473 s_474 R_475 p_476 => ?_)
               have l_477 : (0 : Int32).toInt = 0 := rfl
               refine q_eq (fun h_478 => ?_) (fun h_478 => ?_)
               ·
                have l_479 : (255 : Int32).toInt = 255 := rfl
                have a_480 := i_255 p1
                refine q_bindR (t_X8_set (p1 &&& (255 : Int32)) r_473 R_475 (by omega)) (fun r_481 s_482 R_483 p_484 => ?_)
                exact q_some ⟨yE_k R_483 (by omega), trivial⟩
               ·
                exact q_some ⟨yE_k R_475 (by omega), trivial⟩
              ·
               have l_485 : (24 : Int32).toInt = 24 := rfl
               refine q_eq (fun h_486 => ?_) (fun h_486 => ?_)
               ·
                refine q_bindp (t_X8_top  h0) (fun r_487 p_488 => ?_)
                have l_489 : (0 : Int32).toInt = 0 := rfl
                refine q_eq (fun h_490 => ?_) (fun h_490 => ?_)
                ·
                 refine q_lt (fun h_491 => ?_) (fun h_491 => ?_)
                 ·
                  exact q_some ⟨yE_k h0 (by omega), trivial⟩
                 ·
                  refine q_bindR (t_X8_set p4 r_487 h0 (by omega)) (fun r_492 s_493 R_494 p_495 => ?_)
                  exact q_some ⟨yE_k R_494 (by omega), trivial⟩
                ·
                 exact q_some ⟨yE_k h0 (by omega), trivial⟩
               ·
                have l_496 : (25 : Int32).toInt = 25 := rfl
                refine q_eq (fun h_497 => ?_) (fun h_497 => ?_)
                ·
                 refine q_bindR (t_X8_throwTo p1 p2 (R8_own h0) (by omega)) (fun r_498 s_499 R_500 p_501 => ?_)
                 exact q_some ⟨yE_tr h0 R_500, trivial⟩
                ·
                 have l_502 : (26 : Int32).toInt = 26 := rfl
                 refine q_eq (fun h_503 => ?_) (fun h_503 => ?_)
                 ·
                  refine q_bindp (t_X8_signed p3 h0) (fun r_504 p_505 => ?_)
                  refine q_bindR (t_X8_copied p1 p2 r_504 h0 (by omega)) (fun r_506 s_507 R_508 p_509 => ?_)
                  exact q_some ⟨yE_k R_508 (by omega), trivial⟩
                 ·
                  have l_510 : (27 : Int32).toInt = 27 := rfl
                  refine q_eq (fun h_511 => ?_) (fun h_511 => ?_)
                  ·
                   refine q_bindp (t_X8_signed p3 h0) (fun r_512 p_513 => ?_)
                   refine q_bindR (t_X8_looked p1 p2 r_512 (σ 45 5) h0 (by omega)) (fun r_514 s_515 R_516 p_517 => ?_)
                   have l_518 : (0 : Int32).toInt = 0 := rfl
                   refine q_eq (fun h_519 => ?_) (fun h_519 => ?_)
                   ·
                    refine q_lt (fun h_520 => ?_) (fun h_520 => ?_)
                    ·
                     exact q_some ⟨yE_k R_516 (by omega), trivial⟩
                    ·
                     refine q_bindR (t_X8_set p4 r_514 R_516 (by omega)) (fun r_521 s_522 R_523 p_524 => ?_)
                     exact q_some ⟨yE_k R_523 (by omega), trivial⟩
                   ·
                    exact q_some ⟨yE_k R_516 (by omega), trivial⟩
                  ·
                   have l_525 : (28 : Int32).toInt = 28 := rfl
                   refine q_eq (fun h_526 => ?_) (fun h_526 => ?_)
                   ·
                    refine q_bindp (t_X8_signed p1 h0) (fun r_527 p_528 => ?_)
                    refine q_bindR (t_X8_drawn r_527 h0) (fun r_529 s_530 R_531 p_532 => ?_)
                    have l_533 : (0 : Int32).toInt = 0 := rfl
                    refine q_eq (fun h_534 => ?_) (fun h_534 => ?_)
                    ·
                     refine q_lt (fun h_535 => ?_) (fun h_535 => ?_)
                     ·
                      exact q_some ⟨yE_k R_531 (by omega), trivial⟩
                     ·
                      refine q_bindR (t_X8_set p4 r_529 R_531 (by omega)) (fun r_536 s_537 R_538 p_539 => ?_)
                      exact q_some ⟨yE_k R_538 (by omega), trivial⟩
                    ·
                     exact q_some ⟨yE_k R_531 (by omega), trivial⟩
                   ·
                    have l_540 : (29 : Int32).toInt = 29 := rfl
                    refine q_eq (fun h_541 => ?_) (fun h_541 => ?_)
                    ·
                     refine q_bindp (t_X8_signed p1 h0) (fun r_542 p_543 => ?_)
                     refine q_bindR (t_X8_printNumber r_542 h0 (by omega)) (fun r_544 s_545 R_546 p_547 => ?_)
                     exact q_some ⟨yE_k R_546 (by omega), trivial⟩
                    ·
                     have l_548 : (30 : Int32).toInt = 30 := rfl
                     refine q_eq (fun h_549 => ?_) (fun h_549 => ?_)
                     ·
                      refine q_bindR (t_X8_print p1 h0) (fun r_550 s_551 R_552 p_553 => ?_)
                      exact q_some ⟨yE_k R_552 (by omega), trivial⟩
                     ·
                      have l_554 : (31 : Int32).toInt = 31 := rfl
                      refine q_eq (fun h_555 => ?_) (fun h_555 => ?_)
                      ·
                       refine q_bindp (t_X8_signed p2 h0) (fun r_556 p_557 => ?_)
                       refine q_bindp (t_X8_signed p3 h0) (fun r_558 p_559 => ?_)
                       refine q_bindR (t_X8_printRows p1 r_556 r_558 h0 (by omega)) (fun r_560 s_561 R_562 p_563 => ?_)
                       exact q_some ⟨yE_k R_562 (by omega), trivial⟩
                      ·
                       have l_564 : (32 : Int32).toInt = 32 := rfl
                       refine q_eq (fun h_565 => ?_) (fun h_565 => ?_)
                       ·
                        refine q_es (fun s_566 hs_570 => ?_)
                        rw [hs_570]
                        exact q_some ⟨yE_end h0 (by decide), trivial⟩
                       ·
                        refine q_bindp (t_X8_signed p1 h0) (fun r_571 p_572 => ?_)
                        refine q_bindp (t_X8_signed p2 h0) (fun r_573 p_574 => ?_)
                        refine q_bindR (t_X8_worked p0 r_571 r_573 h0) (fun r_575 s_576 R_577 p_578 => ?_)
                        have l_579 : (0 : Int32).toInt = 0 := rfl
                        refine q_eq (fun h_580 => ?_) (fun h_580 => ?_)
                        ·
                         refine q_lt (fun h_581 => ?_) (fun h_581 => ?_)
                         ·
                          exact q_some ⟨yE_k R_577 (by omega), trivial⟩
                         ·
                          refine q_bindR (t_X8_set p4 r_575 R_577 (by omega)) (fun r_582 s_583 R_584 p_585 => ?_)
                          exact q_some ⟨yE_k R_584 (by omega), trivial⟩
                        ·
                         exact q_some ⟨yE_k R_577 (by omega), trivial⟩
set_option maxHeartbeats 4000000 in
set_option maxRecDepth 20000 in
theorem t_X8_step_L79 {B F : Int} {σ0 : zS} : ∀ (n : Nat) (x1 x2 x3 x4 x5 x6 : Int32) (σ : zS), (3 - x6.toInt).toNat < n → (1 ≤ F ∧ 0 ≤ x1.toInt ∧ x1.toInt < 100 ∧ 0 ≤ x2.toInt ∧ x2.toInt ≤ 65535 ∧ 0 ≤ x3.toInt ∧ x3.toInt ≤ 65535 ∧ 0 ≤ x4.toInt ∧ x4.toInt ≤ 65535 ∧ x5.toInt ≤ 3 ∧ 0 ≤ x6.toInt ∧ x6.toInt ≤ 3) → yR8 B F σ0 σ → yT (f_X8_step_L79 n x1 x2 x3 x4 x5 x6 σ) (fun r τ => yE B σ0 τ ∧ (True)) := by
 intro n
 induction n with
 | zero => intro x1 x2 x3 x4 x5 x6 σ hm; omega
 | succ n ih =>
  intro x1 x2 x3 x4 x5 x6 σ hm hv h0
  rw [f_X8_step_L79]
  have bx6 := i_hi x6
  refine q_le (fun h_1 => ?_) (fun h_1 => ?_)
  ·
   have l_2 : (0 : Int32).toInt = 0 := rfl
   refine q_eq (fun h_3 => ?_) (fun h_3 => ?_)
   ·
    refine q_c (by omega) (by omega) ?_
    refine q_c (by omega) (by omega) ?_
    have c_4 : x1.toNatClampNeg = x1.toInt.toNat := rfl
    refine q_bindR (t_X8_act (σ 49 x1.toNatClampNeg) x2 x3 x4 (σ 51 x1.toNatClampNeg) (R8_own h0) (by omega)) (fun r_5 s_6 R_7 p_8 => ?_)
    exact q_some ⟨yE_tr h0 R_7, trivial⟩
   ·
    exact q_some ⟨yE_k h0 (by omega), trivial⟩
  ·
   have l_9 : (0 : Int32).toInt = 0 := rfl
   refine q_eq (fun h_10 => ?_) (fun h_10 => ?_)
   ·
    have l_11 : (3 : Int32).toInt = 3 := rfl
    try have a_12 : ((3 : Int32) * x1).toInt = 3 * x1.toInt := i_mulk rfl (by omega) (by omega)
    try have a_13 : (((3 : Int32) * x1) + x6).toInt = ((3 : Int32) * x1).toInt + x6.toInt := i_add (by omega) (by omega)
    refine q_c (by omega) (by omega) ?_
    have c_14 : (((3 : Int32) * x1) + x6).toNatClampNeg = (((3 : Int32) * x1) + x6).toInt.toNat := rfl
    have g_15 := c_50 h0 (((3 : Int32) * x1) + x6).toNatClampNeg
    refine q_lv (fun y_17 v_16 => ?_)
    refine q_lt (fun h_18 => ?_) (fun h_18 => ?_)
    ·
     refine q_bindR (t_X8_ask ((-1 : Int32) - y_17) h0 (by have l_19 : (-1 : Int32).toInt = -1 := rfl; have b_20 := i_lo y_17; have b_21 := i_hi y_17; have a_22 : ((-1 : Int32) - y_17).toInt = -1 - y_17.toInt := (i_sub (by omega) (by omega)).trans (by omega); generalize ((-1 : Int32) - y_17).toInt = q at *; omega)) (fun r_23 s_24 R_25 p_26 => ?_)
     refine q_eq (fun h_27 => ?_) (fun h_27 => ?_)
     ·
      have l_28 : (1 : Int32).toInt = 1 := rfl
      refine q_eq (fun h_29 => ?_) (fun h_29 => ?_)
      ·
       have l_30 : (2 : Int32).toInt = 2 := rfl
       refine q_eq (fun h_31 => ?_) (fun h_31 => ?_)
       ·
        try have a_32 : (x6 + (1 : Int32)).toInt = x6.toInt + (1 : Int32).toInt := i_add (by omega) (by omega)
        exact ih x1 r_23 r_23 r_23 x5 (x6 + (1 : Int32)) s_24 (by omega) (by omega) R_25
       ·
        try have a_33 : (x6 + (1 : Int32)).toInt = x6.toInt + (1 : Int32).toInt := i_add (by omega) (by omega)
        exact ih x1 r_23 r_23 x4 x5 (x6 + (1 : Int32)) s_24 (by omega) (by omega) R_25
      ·
       have l_34 : (2 : Int32).toInt = 2 := rfl
       refine q_eq (fun h_35 => ?_) (fun h_35 => ?_)
       ·
        try have a_36 : (x6 + (1 : Int32)).toInt = x6.toInt + (1 : Int32).toInt := i_add (by omega) (by omega)
        exact ih x1 r_23 x3 r_23 x5 (x6 + (1 : Int32)) s_24 (by omega) (by omega) R_25
       ·
        try have a_37 : (x6 + (1 : Int32)).toInt = x6.toInt + (1 : Int32).toInt := i_add (by omega) (by omega)
        exact ih x1 r_23 x3 x4 x5 (x6 + (1 : Int32)) s_24 (by omega) (by omega) R_25
     ·
      have l_38 : (1 : Int32).toInt = 1 := rfl
      refine q_eq (fun h_39 => ?_) (fun h_39 => ?_)
      ·
       have l_40 : (2 : Int32).toInt = 2 := rfl
       refine q_eq (fun h_41 => ?_) (fun h_41 => ?_)
       ·
        try have a_42 : (x6 + (1 : Int32)).toInt = x6.toInt + (1 : Int32).toInt := i_add (by omega) (by omega)
        exact ih x1 x2 r_23 r_23 x5 (x6 + (1 : Int32)) s_24 (by omega) (by omega) R_25
       ·
        try have a_43 : (x6 + (1 : Int32)).toInt = x6.toInt + (1 : Int32).toInt := i_add (by omega) (by omega)
        exact ih x1 x2 r_23 x4 x5 (x6 + (1 : Int32)) s_24 (by omega) (by omega) R_25
      ·
       have l_44 : (2 : Int32).toInt = 2 := rfl
       refine q_eq (fun h_45 => ?_) (fun h_45 => ?_)
       ·
        try have a_46 : (x6 + (1 : Int32)).toInt = x6.toInt + (1 : Int32).toInt := i_add (by omega) (by omega)
        exact ih x1 x2 x3 r_23 x5 (x6 + (1 : Int32)) s_24 (by omega) (by omega) R_25
       ·
        try have a_47 : (x6 + (1 : Int32)).toInt = x6.toInt + (1 : Int32).toInt := i_add (by omega) (by omega)
        exact ih x1 x2 x3 x4 x5 (x6 + (1 : Int32)) s_24 (by omega) (by omega) R_25
    ·
     refine q_eq (fun h_48 => ?_) (fun h_48 => ?_)
     ·
      have l_49 : (1 : Int32).toInt = 1 := rfl
      refine q_eq (fun h_50 => ?_) (fun h_50 => ?_)
      ·
       have l_51 : (2 : Int32).toInt = 2 := rfl
       refine q_eq (fun h_52 => ?_) (fun h_52 => ?_)
       ·
        try have a_53 : (x6 + (1 : Int32)).toInt = x6.toInt + (1 : Int32).toInt := i_add (by omega) (by omega)
        exact ih x1 y_17 y_17 y_17 x5 (x6 + (1 : Int32)) σ (by omega) (by omega) h0
       ·
        try have a_54 : (x6 + (1 : Int32)).toInt = x6.toInt + (1 : Int32).toInt := i_add (by omega) (by omega)
        exact ih x1 y_17 y_17 x4 x5 (x6 + (1 : Int32)) σ (by omega) (by omega) h0
      ·
       have l_55 : (2 : Int32).toInt = 2 := rfl
       refine q_eq (fun h_56 => ?_) (fun h_56 => ?_)
       ·
        try have a_57 : (x6 + (1 : Int32)).toInt = x6.toInt + (1 : Int32).toInt := i_add (by omega) (by omega)
        exact ih x1 y_17 x3 y_17 x5 (x6 + (1 : Int32)) σ (by omega) (by omega) h0
       ·
        try have a_58 : (x6 + (1 : Int32)).toInt = x6.toInt + (1 : Int32).toInt := i_add (by omega) (by omega)
        exact ih x1 y_17 x3 x4 x5 (x6 + (1 : Int32)) σ (by omega) (by omega) h0
     ·
      have l_59 : (1 : Int32).toInt = 1 := rfl
      refine q_eq (fun h_60 => ?_) (fun h_60 => ?_)
      ·
       have l_61 : (2 : Int32).toInt = 2 := rfl
       refine q_eq (fun h_62 => ?_) (fun h_62 => ?_)
       ·
        try have a_63 : (x6 + (1 : Int32)).toInt = x6.toInt + (1 : Int32).toInt := i_add (by omega) (by omega)
        exact ih x1 x2 y_17 y_17 x5 (x6 + (1 : Int32)) σ (by omega) (by omega) h0
       ·
        try have a_64 : (x6 + (1 : Int32)).toInt = x6.toInt + (1 : Int32).toInt := i_add (by omega) (by omega)
        exact ih x1 x2 y_17 x4 x5 (x6 + (1 : Int32)) σ (by omega) (by omega) h0
      ·
       have l_65 : (2 : Int32).toInt = 2 := rfl
       refine q_eq (fun h_66 => ?_) (fun h_66 => ?_)
       ·
        try have a_67 : (x6 + (1 : Int32)).toInt = x6.toInt + (1 : Int32).toInt := i_add (by omega) (by omega)
        exact ih x1 x2 x3 y_17 x5 (x6 + (1 : Int32)) σ (by omega) (by omega) h0
       ·
        try have a_68 : (x6 + (1 : Int32)).toInt = x6.toInt + (1 : Int32).toInt := i_add (by omega) (by omega)
        exact ih x1 x2 x3 x4 x5 (x6 + (1 : Int32)) σ (by omega) (by omega) h0
   ·
    refine q_eq (fun h_69 => ?_) (fun h_69 => ?_)
    ·
     refine q_c (by omega) (by omega) ?_
     refine q_c (by omega) (by omega) ?_
     have c_70 : x1.toNatClampNeg = x1.toInt.toNat := rfl
     refine q_bindR (t_X8_act (σ 49 x1.toNatClampNeg) x2 x3 x4 (σ 51 x1.toNatClampNeg) (R8_own h0) (by omega)) (fun r_71 s_72 R_73 p_74 => ?_)
     exact q_some ⟨yE_tr h0 R_73, trivial⟩
    ·
     exact q_some ⟨yE_k h0 (by omega), trivial⟩
theorem t_X8_step {B F : Int} {σ : zS} (h0 : yR8 B F σ σ) (hp : 1 ≤ F) (hB2 : B < 1000000) : yT (f_X8_step σ) (fun _ τ => yE (B + 1) σ τ ∧ True) := by
  unfold f_X8_step
  have H : yR8 (B + 1) F σ σ := R8_B h0 (by omega) (by omega)
  have g := e_22 h0
  have l0 : (0 : Int32).toInt = 0 := rfl
  refine q_bindp (t_X8_top h0) (fun v1 p1 => ?_)
  refine q_c (by omega) (by omega) ?_
  have c1 := e_57 h0 v1.toNatClampNeg
  refine q_lv (fun y hy => ?_)
  refine q_bindp (t_X8_top h0) (fun v3 p3 => ?_)
  refine q_c (by omega) (by omega) ?_
  refine q_c (by omega) (by omega) ?_
  have c3 := e_57 h0 v3.toNatClampNeg
  have e : ((σ 57 v3.toNatClampNeg) + (1 : Int32)).toInt = (σ 57 v3.toNatClampNeg).toInt + 1 := i_1 (by omega)
  refine q_zu8 H (s_57 (by omega)) (fun s3 R3 E3 F3 => ?_)
  have g14 := e_14 R3
  have bad : yT (zlet (zu s3 45 12 (10 : Int32)) fun s4 => some ((), s4)) (fun _ τ => yE (B + 1) σ τ ∧ True) := by
    refine q_zu8 R3 s_45_12 (fun s R E Fr => ?_)
    exact q_some ⟨yE_k R (by omega), trivial⟩
  refine q_le (fun h1 => bad) (fun h1 => ?_)
  refine q_c (by omega) (by omega) ?_
  refine q_lt (fun h2 => bad) (fun h2 => ?_)
  refine q_c (by omega) (by omega) ?_
  refine q_le (fun h3 => ?_) (fun h3 => bad)
  refine q_c (by omega) (by omega) ?_
  refine q_bindp (t_X8_wants _ R3) (fun v4 p4 => ?_)
  exact t_X8_step_L79 zF y (0 : Int32) (0 : Int32) (0 : Int32) v4 (0 : Int32) s3 (by rw [zF_eq, t_0]; omega) (by omega) R3
theorem t_X8_up_L49 {B : Int} {σ0 : zS} {Q : Unit → zS → Prop} {K : Int32 → zS → Option (Unit × zS)} (x1 : Int32) (kK : ∀ (F : Int) (σ : zS), yR8 B F σ0 σ → yT (K x1 σ) Q) : ∀ (n : Nat) (F : Int) (σ : zS), F.toNat < n → yR8 B F σ0 σ → yT (f_X8_up_L49 n x1 σ K) Q := by
  intro n
  induction n with
  | zero => intro F σ hm; omega
  | succ n ih =>
    intro F σ hm h0
    rw [f_X8_up_L49]
    have g := e_22 h0
    have l0 : (0 : Int32).toInt = 0 := rfl
    refine q_le (fun h1 => kK F σ h0) (fun h1 => ?_)
    refine q_bindp (t_X8_top h0) (fun v1 p1 => ?_)
    refine q_c (by omega) (by omega) ?_
    have c56 := c_56 h0 v1.toNatClampNeg
    refine q_c (by omega) (by omega) ?_
    refine q_eq (fun h2 => ?_) (fun h2 => kK F σ h0)
    refine q_bindR (t_X8_leave h0 (by omega)) (fun _ s R _ => ?_)
    exact ih (F - 1) s (by omega) R
theorem t_X8_up_L0 {B : Int} {σ0 : zS} : ∀ (n : Nat) (F : Int) (σ : zS), (12 - (σ 45 39).toInt).toNat < n → yR8 B F σ σ → ((σ 45 40).toInt < 0 → 1 ≤ F) → (∀ k j, y8L k j → σ k j = σ0 k j) → yT (f_X8_up_L0 n σ) (fun _ τ => yE B σ0 τ ∧ True) := by
  intro n
  induction n with
  | zero => intro F σ hm; omega
  | succ n ih =>
    intro F σ hm h0 hE hk
    rw [f_X8_up_L0]
    have l0 : (0 : Int32).toInt = 0 := rfl
    have l12 : (12 : Int32).toInt = 12 := rfl
    have g39 := e_39 h0
    refine q_eq (fun h1 => q_some ⟨⟨⟨F, h0, hE⟩, hk⟩, trivial⟩) (fun h1 => ?_)
    refine q_le (fun h2 => q_some ⟨⟨⟨F, h0, hE⟩, hk⟩, trivial⟩) (fun h2 => ?_)
    refine q_eq (fun h3 => ?_) (fun h3 => ?_)
    · refine q_es (fun s hs => ?_)
      rw [hs]
      exact q_some ⟨yE_tr2 hk (yE_end h0 (by decide)), trivial⟩
    · have e : ((σ 45 39) + (1 : Int32)).toInt = (σ 45 39).toInt + 1 := i_1 (by omega)
      refine q_es (fun s1 hs1 => ?_)
      have R1 : yR8 B F s1 s1 := by rw [hs1]; exact R8_self h0 (by omega) (show 0 ≤ _ ∧ _ ≤ (12 : Int) by rw [e]; omega)
      have k1 : ∀ k j, y8L k j → s1 k j = σ k j := fun k j q => by rw [hs1, zu_rd, if_neg (by unfold y8L at q; omega)]
      have e1 : s1 45 39 = (σ 45 39) + (1 : Int32) := by rw [hs1, zu_rd, if_pos ⟨rfl, rfl⟩]
      refine q_zu8 R1 s_45_12 (fun s2 R2 E2 F2 => ?_)
      have k2 : ∀ k j, y8L k j → s2 k j = σ0 k j := fun k j q => ((R2.2.2.1 k j (y8_LK q)).trans (k1 k j q)).trans (hk k j q)
      have g2 := e_22 R2
      refine t_X8_up_L49 (B := B) (σ0 := s2) (s1 45 12) ?_ zF F s2 (by rw [zF_eq]; omega) (R8_own R2)
      intro F5 s5 R5
      have g5 := e_22 R5
      refine q_eq (fun h4 => ?_) (fun h4 => ?_)
      · refine q_zu8 R5 s_45_35 (fun s8 R8 E8 F8 => ?_)
        refine q_es (fun s hs => ?_)
        rw [hs]
        exact q_some ⟨yE_tr2 k2 (yE_end R8 (by decide)), trivial⟩
      · refine q_zu8 R5 s_45_36 (fun s6 R6 E6 F6 => ?_)
        refine q_bindR (t_X8_back _ (R8_own R6) (by omega)) (fun _ s7 hE7 h39 => ?_)
        obtain ⟨⟨F7, R7, hF7⟩, hk7⟩ := hE7
        have e7 : (s7 45 39).toInt = (σ 45 39).toInt + 1 := by
          rw [h39, R6.2.2.1 45 39 (by unfold y8K; omega), R2.2.2.1 45 39 (by unfold y8K; omega), e1, e]
        exact ih F7 s7 (by omega) R7 hF7 (fun k j q => ((hk7 k j q).trans (R6.2.2.1 k j (y8_LK q))).trans (k2 k j q))
theorem t_X8_up {B F : Int} {σ : zS} (h0 : yR8 B F σ σ) (hE : (σ 45 40).toInt < 0 → 1 ≤ F) : yT (f_X8_up σ) (fun _ τ => yE B σ τ ∧ True) := by
  have g39 := e_39 h0
  exact t_X8_up_L0 zF F σ (by rw [zF_eq]; omega) h0 hE (fun _ _ _ => rfl)
def y8N (k j : Nat) : Prop := k < 45 ∨ 64 ≤ k ∨ (49 ≤ k ∧ k ≤ 55) ∨ (k = 45 ∧ (j = 2 ∨ j = 3 ∨ j = 4 ∨ j = 5 ∨ j = 14))
theorem y8_NL {k j : Nat} (h : y8N k j) : y8L k j := by unfold y8N at h; unfold y8L; omega
theorem t_X8_run_L164 {B : Int} {σ0 : zS} : ∀ (n : Nat) (x1 x2 x3 x4 : Int32) (F : Int) (σ : zS), F.toNat < n → yR8 B F σ0 σ → yT (f_X8_run_L164 n x1 x2 x3 x4 σ) (fun _ τ => (∃ F2, yR8 B F2 σ0 τ) ∧ True) := by
  intro n
  induction n with
  | zero => intro x1 x2 x3 x4 F σ hm; omega
  | succ n ih =>
    intro x1 x2 x3 x4 F σ hm h0
    rw [f_X8_run_L164]
    have g := e_22 h0
    have l0 : (0 : Int32).toInt = 0 := rfl
    refine q_le (fun h1 => q_some ⟨⟨F, h0⟩, trivial⟩) (fun h1 => ?_)
    refine q_bindR (t_X8_leave h0 (by omega)) (fun _ s R _ => ?_)
    exact ih x1 x2 x3 x4 (F - 1) s (by omega) R
theorem t_X8_run_L118 {B1 : Int} (hB1 : B1 ≤ 1000000) {σ0 : zS} : ∀ (n : Nat) (x1 x2 x3 x4 : Int32) (B F : Int) (σ : zS), ((0 ≤ (σ 45 40).toInt ∧ 1 ≤ n) ∨ (302 - (σ 45 33).toInt).toNat ≤ n) → B + 300 - (σ 45 33).toInt ≤ B1 → yR8 B F σ σ → ((σ 45 40).toInt < 0 → 1 ≤ F) → (∀ k j, y8N k j → σ k j = σ0 k j) → yT (f_X8_run_L118 n x1 x2 x3 x4 σ) (fun _ τ => ∃ F2, yR8 B1 F2 τ τ ∧ ∀ k j, y8N k j → τ k j = σ0 k j) := by
  intro n
  induction n with
  | zero =>
    intro x1 x2 x3 x4 B F σ hm hB h0
    have g := e_33 h0
    omega
  | succ n ih =>
    intro x1 x2 x3 x4 B F σ hm hB h0 hE hk
    rw [f_X8_run_L118]
    have g := e_33 h0
    have g22 := e_22 h0
    have l0 : (0 : Int32).toInt = 0 := rfl
    have l300 : (300 : Int32).toInt = 300 := rfl
    refine q_le (fun h1 => ?_) (fun h1 => ?_)
    · refine q_w (t_X8_run_L164 (σ0 := σ) zF x1 x2 x3 x4 F σ (by rw [zF_eq]; omega) h0) (fun r τ h => ?_)
      obtain ⟨⟨F2, R2⟩, -⟩ := h
      exact ⟨F2, R8_B (R8_own R2) (by omega) hB1, fun k j q => (R2.2.2.1 k j (y8_LK (y8_NL q))).trans (hk k j q)⟩
    · refine q_eq (fun h2 => ?_) (fun h2 => ?_)
      · refine q_es (fun s hs => ?_)
        have R1 : yR8 B F s s := by rw [hs]; exact R8_self h0 (by omega) (show (-2147483648 : Int) ≤ (3 : Int32).toInt ∧ (3 : Int32).toInt ≤ 2147483647 by decide)
        have k1 : ∀ k j, ¬ (k = 45 ∧ j = 40) → s k j = σ k j := fun k j q => by rw [hs, zu_rd, if_neg q]
        have e1 : (s 45 40).toInt = 3 := by rw [hs, zu_rd, if_pos ⟨rfl, rfl⟩]; rfl
        exact ih x1 x2 x3 x4 B F s (Or.inl ⟨by omega, by omega⟩) (by rw [k1 45 33 (by omega)]; exact hB) R1 (fun q => by omega) (fun k j q => (k1 k j (by unfold y8N at q; omega)).trans (hk k j q))
      · have e : ((σ 45 33) + (1 : Int32)).toInt = (σ 45 33).toInt + 1 := i_1 (by omega)
        refine q_es (fun s1 hs1 => ?_)
        have R1 : yR8 B F s1 s1 := by rw [hs1]; exact R8_self h0 (by omega) (show 0 ≤ _ ∧ _ ≤ (300 : Int) by rw [e]; omega)
        have k1 : ∀ k j, ¬ (k = 45 ∧ j = 33) → s1 k j = σ k j := fun k j q => by rw [hs1, zu_rd, if_neg q]
        have e1 : (s1 45 33).toInt = (σ 45 33).toInt + 1 := by rw [hs1, zu_rd, if_pos ⟨rfl, rfl⟩, e]
        have hF : 1 ≤ F := hE (by omega)
        refine q_bindR (t_X8_step R1 hF (by omega)) (fun _ s2 E2 _ => ?_)
        obtain ⟨⟨F2, R2, hF2⟩, hk2⟩ := E2
        refine q_bindR (t_X8_up R2 hF2) (fun _ s3 E3 _ => ?_)
        obtain ⟨⟨F3, R3, hF3⟩, hk3⟩ := E3
        have e3 : (s3 45 33).toInt = (σ 45 33).toInt + 1 := by rw [hk3 45 33 (by unfold y8L; omega), hk2 45 33 (by unfold y8L; omega), e1]
        refine ih x1 x2 x3 x4 (B + 1) F3 s3 (Or.inr (by omega)) (by omega) R3 hF3 (fun k j q => ?_)
        rw [hk3 k j (y8_NL q), hk2 k j (y8_NL q), k1 k j (by unfold y8N at q; omega), hk k j q]
theorem t_X8_run_L89 {B B1 : Int} (hB : B + 300 ≤ B1) (hB1 : B1 ≤ 1000000) {σ0 : zS} (x1 x2 x3 : Int32) (hx : 0 ≤ x1.toInt ∧ x1.toInt < 8) : ∀ (n : Nat) (x4 : Int32) (σ : zS), (8 - x4.toInt).toNat < n → 0 ≤ x4.toInt → yR8 B 0 σ σ → (σ 45 40).toInt = -1 → (σ 45 33).toInt = 0 → ¬ σ 52 x1.toNatClampNeg = 0 → (∀ k j, y8N k j → σ k j = σ0 k j) → yT (f_X8_run_L89 n x1 x2 x3 x4 σ) (fun _ τ => ∃ F2, yR8 B1 F2 τ τ ∧ ∀ k j, y8N k j → τ k j = σ0 k j) := by
  intro n
  induction n with
  | zero => intro x4 σ hm; omega
  | succ n ih =>
    intro x4 σ hm hv h0 h40 h33 h52 hk
    rw [f_X8_run_L89]
    have l8 : (8 : Int32).toInt = 8 := rfl
    refine q_le (fun h1 => ?_) (fun h1 => ?_)
    · refine q_bindR (Rl := fun τ => ∃ F2, yR8 B F2 σ τ ∧ (0 : Int) ≤ F2 ∧ (0 ≤ x1.toInt → x1.toInt < 8 → ¬ σ 52 x1.toNatClampNeg = 0 → (0 : Int) < 12 → F2 = 0 + 1)) (R := fun _ τ => ∀ j, j ≠ 22 → j ≠ 38 → j ≠ 12 → τ 45 j = σ 45 j) (t_X8_enter x1 x2 x3 (-1 : Int32) h0) (fun _ s2 E2 k2 => ?_)
      obtain ⟨F2, R2, -, hF2⟩ := E2
      have hF : F2 = 0 + 1 := hF2 hx.1 hx.2 h52 (by omega)
      have a1 : (s2 45 40).toInt = -1 := by rw [k2 40 (by omega) (by omega) (by omega)]; exact h40
      have a2 : (s2 45 33).toInt = 0 := by rw [k2 33 (by omega) (by omega) (by omega)]; exact h33
      exact t_X8_run_L118 hB1 zF x1 x2 x3 x4 B F2 s2 (Or.inr (by rw [zF_eq]; omega)) (by omega) (R8_own R2) (fun _ => by omega) (fun k j q => (R2.2.2.1 k j (y8_LK (y8_NL q))).trans (hk k j q))
    · have e : (x4 + (1 : Int32)).toInt = x4.toInt + 1 := i_1 (by omega)
      refine q_c (by omega) (by omega) ?_
      refine q_zu8 h0 s_63 (fun s R E Fr => ?_)
      refine ih (x4 + (1 : Int32)) s (by omega) (by omega) (R8_own R) ?_ ?_ ?_ (fun k j q => (R.2.2.1 k j (y8_LK (y8_NL q))).trans (hk k j q))
      · rw [Fr _ _ (by omega)]; exact h40
      · rw [Fr _ _ (by omega)]; exact h33
      · rw [Fr _ _ (by omega)]; exact h52
theorem t_X8_run (p0 p1 p2 : Int32) {B B1 F : Int} {σ : zS} (h0 : yR8 B F σ σ) (hB : B + 300 ≤ B1) (hB1 : B1 ≤ 1000000) : yT (f_X8_run p0 p1 p2 σ) (fun _ τ => ∃ F2, yR8 B1 F2 τ τ ∧ ∀ k j, y8N k j → τ k j = σ k j) := by
  unfold f_X8_run
  have l0 : (0 : Int32).toInt = 0 := rfl
  have l7 : (7 : Int32).toInt = 7 := rfl
  refine q_es (fun s1 hs1 => ?_)
  have R1 : yR8 B F s1 s1 := by rw [hs1]; exact R8_self h0 (by omega) (show (-2147483648 : Int) ≤ (0 : Int32).toInt ∧ (0 : Int32).toInt ≤ 2147483647 by decide)
  have k1 : ∀ k j, y8N k j → s1 k j = σ k j := fun k j q => by rw [hs1, zu_rd, if_neg (by unfold y8N at q; omega)]
  have out : yT (some ((-1 : Int32), s1)) (fun _ τ => ∃ F2, yR8 B1 F2 τ τ ∧ ∀ k j, y8N k j → τ k j = σ k j) := q_some ⟨F, R8_B R1 (by omega) hB1, k1⟩
  refine q_lt (fun h1 => out) (fun h1 => ?_)
  refine q_lt (fun h2 => out) (fun h2 => ?_)
  refine q_c (by omega) (by omega) ?_
  by_cases h3 : s1 52 p0.toNatClampNeg = 0
  · rw [if_pos h3]; exact out
  rw [if_neg h3]
  have g1 := e_22 R1
  refine q_es (fun s2 hs2 => ?_)
  have R2 : yR8 B 0 s1 s2 := by rw [hs2]; exact R8_fr (v := 0) R1 (by rw [l0]; omega)
  refine q_es (fun s3 hs3 => ?_)
  have R3 : yR8 B 0 s1 s3 := by rw [hs3]; exact R8_hi (v := 0) R2 (by rw [l0]; omega) (fun j hj => by omega)
  refine q_zu8 R3 (s_45_31 (by rw [l0]; omega)) (fun s4 R4 E4 F4 => ?_)
  refine q_es (fun s5 hs5 => ?_)
  have R5 : yR8 B 0 s5 s5 := by rw [hs5]; exact R8_self R4 (by omega) (show (0 : Int) ≤ (0 : Int32).toInt ∧ (0 : Int32).toInt ≤ 300 by decide)
  have k5 : ∀ k j, y8N k j → s5 k j = σ k j := fun k j q => by rw [hs5, zu_rd, if_neg (by unfold y8N at q; omega), R4.2.2.1 k j (y8_LK (y8_NL q))]; exact k1 k j q
  have e5 : s5 45 33 = 0 := by rw [hs5, zu_rd, if_pos ⟨rfl, rfl⟩]
  refine q_zu8 R5 s_45_34 (fun s6 R6 E6 F6 => ?_)
  refine q_zu8 R6 s_45_35 (fun s7 R7 E7 F7 => ?_)
  refine q_zu8 R7 s_45_36 (fun s8 R8 E8 F8 => ?_)
  refine q_zu8 R8 s_45_37 (fun s9 R9 E9 F9 => ?_)
  refine q_zu8 R9 s_45_38 (fun s10 R10 E10 F10 => ?_)
  refine q_es (fun s11 hs11 => ?_)
  have R11 : yR8 B 0 s11 s11 := by rw [hs11]; exact R8_self R10 (by omega) (show (0 : Int) ≤ (0 : Int32).toInt ∧ (0 : Int32).toInt ≤ 12 by decide)
  have k11 : ∀ k j, y8N k j → s11 k j = σ k j := fun k j q => by rw [hs11, zu_rd, if_neg (by unfold y8N at q; omega), R10.2.2.1 k j (y8_LK (y8_NL q))]; exact k5 k j q
  have e11 : s11 45 33 = 0 := by rw [hs11, zu_rd, if_neg (by omega), R10.2.2.1 45 33 (by unfold y8K; omega), e5]
  refine q_zu8 R11 s_45_12 (fun s12 R12 E12 F12 => ?_)
  refine q_es (fun s13 hs13 => ?_)
  have R13 : yR8 B 0 s13 s13 := by rw [hs13]; exact R8_self R12 (by omega) (show (-2147483648 : Int) ≤ (-1 : Int32).toInt ∧ (-1 : Int32).toInt ≤ 2147483647 by decide)
  have k13 : ∀ k j, y8N k j → s13 k j = σ k j := fun k j q => by rw [hs13, zu_rd, if_neg (by unfold y8N at q; omega), R12.2.2.1 k j (y8_LK (y8_NL q))]; exact k11 k j q
  have e13 : s13 45 33 = 0 := by rw [hs13, zu_rd, if_neg (by omega), R12.2.2.1 45 33 (by unfold y8K; omega), e11]
  have e40 : s13 45 40 = -1 := by rw [hs13, zu_rd, if_pos ⟨rfl, rfl⟩]
  refine t_X8_run_L89 hB hB1 p0 p1 p2 (by omega) zF (0 : Int32) s13 (by rw [zF_eq, l0]; omega) (by rw [l0]; omega) R13 (by rw [e40]; rfl) (by rw [e13]; rfl) ?_ k13
  rw [k13 52 _ (by unfold y8N; omega), ← k1 52 _ (by unfold y8N; omega)]
  exact h3
