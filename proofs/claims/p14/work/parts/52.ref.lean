theorem t_X8_leave {B F : Int} {σ0 σ : zS} (h0 : yR8 B F σ0 σ) (hp : 1 ≤ F) : yT (f_X8_leave σ) (fun _ τ => yR8 B (F - 1) σ0 τ ∧ ∀ j, j ≠ 22 → j ≠ 29 → τ 45 j = σ 45 j) := by
  unfold f_X8_leave
  have g := e_22 h0
  have e : ((σ 45 22) - (1 : Int32)).toInt = F - 1 := by rw [i_m1 (by omega)]; omega
  refine q_es (fun s1 h1 => ?_)
  have R1 : yR8 B (F - 1) σ0 s1 := by rw [h1, ← e]; exact R8_fr h0 (by omega)
  have k1 : ∀ k j, ¬ (k = 45 ∧ j = 22) → s1 k j = σ k j := fun k j q => by rw [h1, zu_rd, if_neg q]
  have g1 := e_22 R1
  refine q_c (by omega) (by omega) ?_
  have c1 : (s1 45 22).toNatClampNeg = (s1 45 22).toInt.toNat := rfl
  refine q_es (fun s2 h2 => ?_)
  have R2 : yR8 B (F - 1) σ0 s2 := by
    rw [h2]
    have g9 := e_59 R1 (s1 45 22).toNatClampNeg
    refine R8_hi R1 ⟨g9.1, g9.2.1⟩ ?_
    intro j hj
    rw [k1 59 j (by omega), k1 59 _ (by omega)]
    exact (h0.2.2.2.1 j _ (by omega) (by omega)).1
  have k2 : ∀ k j, ¬ (k = 45 ∧ j = 29) → s2 k j = s1 k j := fun k j q => by rw [h2, zu_rd, if_neg q]
  have g2 := e_22 R2
  refine q_c (by omega) (by omega) ?_
  have c56 := c_56 R2 (s2 45 22).toNatClampNeg
  refine q_c (by omega) (by omega) ?_
  refine q_c (by omega) (by omega) ?_
  refine q_zu8 R2 s_63 (fun s3 R3 E3 F3 => ?_)
  exact q_some ⟨R3, fun j j1 j2 => by rw [F3 _ _ (by omega), k2 _ _ (by omega), k1 _ _ (by omega)]⟩
theorem t_X8_enter_L94 {B F : Int} {σ0 : zS} (hF0 : 0 ≤ F) (hF : F < 12) : ∀ (n : Nat) (x1 x2 x3 x4 x5 : Int32) (σ : zS), (15 - x5.toInt).toNat < n → 0 ≤ x5.toInt → (σ 59 F.toNat).toInt = (σ 45 29).toInt → yR8 B F σ0 σ → yT (f_X8_enter_L94 n x1 x2 x3 x4 x5 σ) (fun _ τ => yR8 B (F + 1) σ0 τ ∧ ∀ j, j ≠ 22 → j ≠ 38 → τ 45 j = σ 45 j) := by
  intro n
  induction n with
  | zero => intro x1 x2 x3 x4 x5 σ hm; omega
  | succ n ih =>
    intro x1 x2 x3 x4 x5 σ hm hv hb h0
    rw [f_X8_enter_L94]
    have l15 : (15 : Int32).toInt = 15 := rfl
    have l0 : (0 : Int32).toInt = 0 := rfl
    have g := e_22 h0
    refine q_le (fun h1 => ?_) (fun h1 => ?_)
    · have e : ((σ 45 22) + (1 : Int32)).toInt = F + 1 := by rw [i_1 (by omega)]; omega
      refine q_es (fun s1 hs1 => ?_)
      have R1 : yR8 B (F + 1) σ0 s1 := by rw [hs1]; exact R8_up h0 hb hF e
      have k1 : ∀ k j, ¬ (k = 45 ∧ j = 22) → s1 k j = σ k j := fun k j q => by rw [hs1, zu_rd, if_neg q]
      refine q_le (fun h2 => ?_) (fun h2 => ?_)
      · refine q_zu8 R1 s_45_38 (fun s3 R3 E3 F3 => ?_)
        exact q_some ⟨R3, fun j j1 j2 => by rw [F3 _ _ (by omega), k1 _ _ (by omega)]⟩
      · refine q_zu8 R1 s_45_38 (fun s3 R3 E3 F3 => ?_)
        exact q_some ⟨R3, fun j j1 j2 => by rw [F3 _ _ (by omega), k1 _ _ (by omega)]⟩
    · have e5 : (x5 + (1 : Int32)).toInt = x5.toInt + 1 := i_1 (by omega)
      have e1 : ((15 : Int32) * (σ 45 22)).toInt = 15 * (σ 45 22).toInt := i_mulk rfl (by omega) (by omega)
      have e2 : (((15 : Int32) * (σ 45 22)) + x5).toInt = 15 * F + x5.toInt := by rw [i_add (by omega) (by omega)]; omega
      have b2 := i_65535 x2
      have b3 := i_65535 x3
      have key : ∀ v : Int32, 0 ≤ v.toInt ∧ v.toInt ≤ 65535 → yT (zc (((15 : Int32) * (σ 45 22)) + x5) 180 (zlet (zu σ 60 ((((15 : Int32) * (σ 45 22)) + x5)).toNatClampNeg v) fun s12 => f_X8_enter_L94 n x1 x2 x3 x4 (x5 + (1 : Int32)) s12)) (fun _ τ => yR8 B (F + 1) σ0 τ ∧ ∀ j, j ≠ 22 → j ≠ 38 → τ 45 j = σ 45 j) := by
        intro v hv2
        refine q_c (by omega) (by omega) ?_
        refine q_zu8 h0 (s_60 hv2) (fun s3 R3 E3 F3 => ?_)
        refine q_w (ih x1 x2 x3 x4 _ s3 (by omega) (by omega) (by rw [F3 _ _ (by omega), F3 _ _ (by omega)]; exact hb) R3) (fun r τ h => ⟨h.1, fun j j1 j2 => (h.2 j j1 j2).trans (F3 _ _ (by omega))⟩)
      refine q_eq (fun h2 => ?_) (fun h2 => ?_)
      · exact key _ (by omega)
      · refine q_eq (fun h3 => ?_) (fun h3 => ?_)
        · exact key _ (by omega)
        · exact key _ (by omega)
theorem t_X8_enter (p0 p1 p2 p3 : Int32) {B F : Int} {σ0 σ : zS} (h0 : yR8 B F σ0 σ) : yT (f_X8_enter p0 p1 p2 p3 σ) (fun _ τ => (∃ F2, yR8 B F2 σ0 τ ∧ F ≤ F2 ∧ (0 ≤ p0.toInt → p0.toInt < 8 → ¬ σ 52 p0.toNatClampNeg = 0 → F < 12 → F2 = F + 1)) ∧ ∀ j, j ≠ 22 → j ≠ 38 → j ≠ 12 → τ 45 j = σ 45 j) := by
  unfold f_X8_enter
  have l0 : (0 : Int32).toInt = 0 := rfl
  have l7 : (7 : Int32).toInt = 7 := rfl
  have l12 : (12 : Int32).toInt = 12 := rfl
  have g := e_22 h0
  refine q_lt (fun h1 => ?_) (fun h1 => ?_)
  · refine q_zu8 h0 s_45_12 (fun s R E Fr => ?_)
    exact q_some ⟨⟨F, R, Int.le_refl _, fun q => by omega⟩, fun j _ _ q => Fr _ _ (by omega)⟩
  refine q_lt (fun h2 => ?_) (fun h2 => ?_)
  · refine q_zu8 h0 s_45_12 (fun s R E Fr => ?_)
    exact q_some ⟨⟨F, R, Int.le_refl _, fun _ q => by omega⟩, fun j _ _ q => Fr _ _ (by omega)⟩
  refine q_c (by omega) (by omega) ?_
  by_cases h3 : σ 52 p0.toNatClampNeg = 0
  · rw [if_pos h3]
    refine q_zu8 h0 s_45_12 (fun s R E Fr => ?_)
    exact q_some ⟨⟨F, R, Int.le_refl _, fun _ _ q => absurd h3 q⟩, fun j _ _ q => Fr _ _ (by omega)⟩
  rw [if_neg h3]
  refine q_eq (fun h4 => ?_) (fun h4 => ?_)
  · refine q_zu8 h0 s_45_12 (fun s R E Fr => ?_)
    exact q_some ⟨⟨F, R, Int.le_refl _, fun _ _ _ q => by omega⟩, fun j _ _ q => Fr _ _ (by omega)⟩
  refine q_c (by omega) (by omega) ?_
  have hB := h0.2.2.2.2.2
  refine q_zu8 h0 (s_56 (by omega)) (fun s3 R3 E3 F3 => ?_)
  have g3 := e_22 R3
  have c53 := c_53 R3 p0.toNatClampNeg
  refine q_c (by omega) (by omega) ?_
  refine q_c (by omega) (by omega) ?_
  refine q_zu8 R3 (s_57 (by omega)) (fun s4 R4 E4 F4 => ?_)
  have g4 := e_22 R4
  refine q_c (by omega) (by omega) ?_
  refine q_zu8 R4 s_58 (fun s5 R5 E5 F5 => ?_)
  have g5 := e_22 R5
  have c29 := e_29 R5
  refine q_c (by omega) (by omega) ?_
  have c : (s5 45 22).toNatClampNeg = (s5 45 22).toInt.toNat := rfl
  refine q_es (fun s6 hs6 => ?_)
  have R6 : yR8 B F σ0 s6 := by rw [hs6]; exact R8_59 R5 (by omega) c29
  have k6 : ∀ k j, ¬ k = 59 → s6 k j = s5 k j := fun k j q => by rw [hs6, zu_rd, if_neg (by omega)]
  have e6 : (s6 59 F.toNat).toInt = (s6 45 29).toInt := by
    rw [k6 45 29 (by decide), hs6, zu_rd, if_pos ⟨rfl, by omega⟩]
  refine q_w (t_X8_enter_L94 (by omega) (by omega) zF p0 p1 p2 p3 (0 : Int32) s6 (by rw [zF_eq, t_0]; omega) (by rw [t_0]; omega) e6 R6) (fun r τ h => ⟨⟨F + 1, h.1, by omega, fun _ _ _ _ => rfl⟩, fun j j1 j2 _ => ?_⟩)
  rw [h.2 j j1 j2, k6 45 j (by decide), F5 _ _ (by omega), F4 _ _ (by omega), F3 _ _ (by omega)]
theorem t_X8_back (p0 : Int32) {B F : Int} {σ : zS} (h0 : yR8 B F σ σ) (hp : 1 ≤ F) : yT (f_X8_back p0 σ) (fun _ τ => yE B σ τ ∧ τ 45 39 = σ 45 39) := by
  unfold f_X8_back
  have l0 : (0 : Int32).toInt = 0 := rfl
  refine q_bindR (t_X8_leave h0 hp) (fun _ s1 R1 k1 => ?_)
  have g0 := e_22 h0
  have g1 := e_22 R1
  refine q_eq (fun h1 => ?_) (fun h1 => ?_)
  · refine q_bindp (t_X8_signed p0 R1) (fun v2 _ => ?_)
    refine q_zu8 R1 s_45_34 (fun s4 R4 E4 F4 => ?_)
    refine q_es (fun s5 hs5 => ?_)
    rw [hs5]
    exact q_some ⟨yE_end R4 (by decide), by rw [zu_rd, if_neg (by omega), F4 _ _ (by omega), k1 _ (by omega) (by omega)]⟩
  · refine q_c (by omega) (by omega) ?_
    refine q_lv (fun v hv => ?_)
    refine q_lt (fun h2 => ?_) (fun h2 => ?_)
    · exact q_some ⟨yE_k R1 (by omega), k1 _ (by omega) (by omega)⟩
    · refine q_bindR (t_X8_set v p0 (R8_own R1) (by omega)) (fun _ s2 R2 _ => ?_)
      exact q_some ⟨yE_tr R1 (yE_k R2 (by omega)), (R2.2.2.1 45 39 (by unfold y8K; omega)).trans (k1 _ (by omega) (by omega))⟩
theorem t_X8_throwTo_L50 {B : Int} {σ0 : zS} : ∀ (n : Nat) (x1 x2 : Int32) (F : Int) (σ : zS), F.toNat < n → (0 ≤ x2.toInt ∧ x2.toInt < 12 ∧ 1 ≤ F) → yR8 B F σ σ → (∀ k j, y8L k j → σ k j = σ0 k j) → yT (f_X8_throwTo_L50 n x1 x2 σ) (fun _ τ => yE B σ0 τ ∧ True) := by
  intro n
  induction n with
  | zero => intro x1 x2 F σ hm; omega
  | succ n ih =>
    intro x1 x2 F σ hm hv h0 hk
    rw [f_X8_throwTo_L50]
    have g := e_22 h0
    have e : (x2 + (1 : Int32)).toInt = x2.toInt + 1 := i_1 (by omega)
    refine q_le (fun h1 => ?_) (fun h1 => ?_)
    · refine q_bindR (t_X8_back x1 h0 (by omega)) (fun _ s R _ => ?_)
      exact q_some ⟨yE_tr2 hk R, trivial⟩
    · refine q_bindR (t_X8_leave h0 (by omega)) (fun _ s R _ => ?_)
      exact ih x1 x2 (F - 1) s (by omega) (by omega) (R8_own R) (fun k j q => (R.2.2.1 k j (y8_LK q)).trans (hk k j q))
theorem t_X8_throwTo (p0 p1 : Int32) {B F : Int} {σ : zS} (h0 : yR8 B F σ σ) (hp : 1 ≤ F ∧ 0 ≤ p1.toInt) : yT (f_X8_throwTo p0 p1 σ) (fun _ τ => yE B σ τ ∧ True) := by
  unfold f_X8_throwTo
  have g := e_22 h0
  have l12 : (12 : Int32).toInt = 12 := rfl
  have g39 := e_39 h0
  refine q_lt (fun h1 => ?_) (fun h1 => ?_)
  · refine q_eq (fun h2 => ?_) (fun h2 => ?_)
    · refine q_es (fun s hs => ?_)
      rw [hs]
      exact q_some ⟨yE_end h0 (by decide), trivial⟩
    · have e : ((σ 45 39) + (1 : Int32)).toInt = (σ 45 39).toInt + 1 := i_1 (by omega)
      refine q_es (fun s1 hs1 => ?_)
      have R1 : yR8 B F s1 s1 := by rw [hs1]; exact R8_self h0 (by omega) (show 0 ≤ _ ∧ _ ≤ (12 : Int) by rw [e]; omega)
      have k1 : ∀ k j, y8L k j → s1 k j = σ k j := fun k j q => by rw [hs1, zu_rd, if_neg (by unfold y8L at q; omega)]
      refine q_zu8 R1 s_45_37 (fun s2 R2 E2 F2 => ?_)
      exact t_X8_throwTo_L50 zF p0 p1 F s2 (by rw [zF_eq]; omega) (by omega) (R8_own R2) (fun k j q => (R2.2.2.1 k j (y8_LK q)).trans (k1 k j q))
  · refine q_zu8 h0 s_45_12 (fun s R E Fr => ?_)
    exact q_some ⟨yE_k R (by omega), trivial⟩
theorem t_X8_enterE (p0 p1 p2 p3 : Int32) {B F : Int} {σ : zS} (h0 : yR8 B F σ σ) (hp : 1 ≤ F) : yT (f_X8_enter p0 p1 p2 p3 σ) (fun _ τ => yE B σ τ ∧ True) := by
  refine q_w (t_X8_enter p0 p1 p2 p3 h0) (fun r τ h => ?_)
  obtain ⟨⟨F2, R, h1, h2⟩, h3⟩ := h
  exact ⟨yE_k R (by omega), trivial⟩
set_option maxHeartbeats 4000000 in
set_option maxRecDepth 20000 in
theorem t_X8_act (p0 : Int32) (p1 : Int32) (p2 : Int32) (p3 : Int32) (p4 : Int32) {B F : Int} {σ : zS} (h0 : yR8 B F σ σ) (hp : 1 ≤ F ∧ 0 ≤ p1.toInt ∧ p1.toInt ≤ 65535 ∧ 0 ≤ p2.toInt ∧ p2.toInt ≤ 65535 ∧ 0 ≤ p3.toInt ∧ p3.toInt ≤ 65535) : yT (f_X8_act p0 p1 p2 p3 p4 σ) (fun r τ => yE B σ τ ∧ (True)) := by
 unfold f_X8_act
 have hB := h0.2.2.2.2.2
 have lq1 : (10 : Int32).toInt = 10 := rfl
 refine q_eq (fun hq2 => ?_) (fun hq2 => ?_)
 ·
  refine q_eq (fun hq3 => ?_) (fun hq3 => ?_)
  ·
   refine q_eq (fun hq4 => ?_) (fun hq4 => ?_)
   ·
    refine q_bindp (t_X8_top  h0) (fun rq5 pq6 => ?_)
    have lq7 : (1 : Int32).toInt = 1 := rfl
    have lq8 : (0 : Int32).toInt = 0 := rfl
    refine q_eq (fun hq9 => ?_) (fun hq9 => ?_)
    ·
     refine q_bindp (t_X8_top  h0) (fun rq10 pq11 => ?_)
     refine q_c (by omega) (by omega) ?_
     refine q_c (by omega) (by omega) ?_
     have cq16 : rq5.toNatClampNeg = rq5.toInt.toNat := rfl
     have cq17 : rq10.toNatClampNeg = rq10.toInt.toNat := rfl
     have gq18 := e_57 h0 rq10.toNatClampNeg
     refine q_zu8 h0 (s_57 (by omega)) (fun sq12 Rq13 Eq14 Fq15 => ?_)
     exact q_some ⟨yE_k Rq13 (by omega), trivial⟩
    ·
     refine q_c (by omega) (by omega) ?_
     have cq23 : rq5.toNatClampNeg = rq5.toInt.toNat := rfl
     refine q_zu8 h0 (s_57 (by omega)) (fun sq19 Rq20 Eq21 Fq22 => ?_)
     exact q_some ⟨yE_k Rq20 (by omega), trivial⟩
   ·
    refine q_bindp (t_X8_top  h0) (fun rq24 pq25 => ?_)
    have lq26 : (0 : Int32).toInt = 0 := rfl
    refine q_eq (fun hq27 => ?_) (fun hq27 => ?_)
    ·
     refine q_bindp (t_X8_top  h0) (fun rq28 pq29 => ?_)
     refine q_c (by omega) (by omega) ?_
     refine q_c (by omega) (by omega) ?_
     have cq34 : rq24.toNatClampNeg = rq24.toInt.toNat := rfl
     have cq35 : rq28.toNatClampNeg = rq28.toInt.toNat := rfl
     have gq36 := e_57 h0 rq28.toNatClampNeg
     refine q_zu8 h0 (s_57 (by omega)) (fun sq30 Rq31 Eq32 Fq33 => ?_)
     exact q_some ⟨yE_k Rq31 (by omega), trivial⟩
    ·
     refine q_c (by omega) (by omega) ?_
     have cq41 : rq24.toNatClampNeg = rq24.toInt.toNat := rfl
     refine q_zu8 h0 (s_57 (by omega)) (fun sq37 Rq38 Eq39 Fq40 => ?_)
     exact q_some ⟨yE_k Rq38 (by omega), trivial⟩
  ·
   have lq42 : (11 : Int32).toInt = 11 := rfl
   refine q_eq (fun hq43 => ?_) (fun hq43 => ?_)
   ·
    refine q_bindp (t_X8_signed p1 h0) (fun rq44 pq45 => ?_)
    refine q_bindp (t_X8_signed p2 h0) (fun rq46 pq47 => ?_)
    refine q_le (fun hq48 => ?_) (fun hq48 => ?_)
    ·
     refine q_bindp (t_X8_top  h0) (fun rq49 pq50 => ?_)
     have lq51 : (0 : Int32).toInt = 0 := rfl
     refine q_eq (fun hq52 => ?_) (fun hq52 => ?_)
     ·
      refine q_bindp (t_X8_top  h0) (fun rq53 pq54 => ?_)
      refine q_c (by omega) (by omega) ?_
      refine q_c (by omega) (by omega) ?_
      have cq59 : rq49.toNatClampNeg = rq49.toInt.toNat := rfl
      have cq60 : rq53.toNatClampNeg = rq53.toInt.toNat := rfl
      have gq61 := e_57 h0 rq53.toNatClampNeg
      refine q_zu8 h0 (s_57 (by omega)) (fun sq55 Rq56 Eq57 Fq58 => ?_)
      exact q_some ⟨yE_k Rq56 (by omega), trivial⟩
     ·
      refine q_c (by omega) (by omega) ?_
      have cq66 : rq49.toNatClampNeg = rq49.toInt.toNat := rfl
      refine q_zu8 h0 (s_57 (by omega)) (fun sq62 Rq63 Eq64 Fq65 => ?_)
      exact q_some ⟨yE_k Rq63 (by omega), trivial⟩
    ·
     refine q_bindp (t_X8_top  h0) (fun rq67 pq68 => ?_)
     have lq69 : (1 : Int32).toInt = 1 := rfl
     have lq70 : (0 : Int32).toInt = 0 := rfl
     refine q_eq (fun hq71 => ?_) (fun hq71 => ?_)
     ·
      refine q_bindp (t_X8_top  h0) (fun rq72 pq73 => ?_)
      refine q_c (by omega) (by omega) ?_
      refine q_c (by omega) (by omega) ?_
      have cq78 : rq67.toNatClampNeg = rq67.toInt.toNat := rfl
      have cq79 : rq72.toNatClampNeg = rq72.toInt.toNat := rfl
      have gq80 := e_57 h0 rq72.toNatClampNeg
      refine q_zu8 h0 (s_57 (by omega)) (fun sq74 Rq75 Eq76 Fq77 => ?_)
      exact q_some ⟨yE_k Rq75 (by omega), trivial⟩
     ·
      refine q_c (by omega) (by omega) ?_
      have cq85 : rq67.toNatClampNeg = rq67.toInt.toNat := rfl
      refine q_zu8 h0 (s_57 (by omega)) (fun sq81 Rq82 Eq83 Fq84 => ?_)
      exact q_some ⟨yE_k Rq82 (by omega), trivial⟩
   ·
    refine q_bindp (t_X8_signed p1 h0) (fun rq86 pq87 => ?_)
    refine q_bindp (t_X8_signed p2 h0) (fun rq88 pq89 => ?_)
    refine q_le (fun hq90 => ?_) (fun hq90 => ?_)
    ·
     refine q_bindp (t_X8_top  h0) (fun rq91 pq92 => ?_)
     have lq93 : (0 : Int32).toInt = 0 := rfl
     refine q_eq (fun hq94 => ?_) (fun hq94 => ?_)
     ·
      refine q_bindp (t_X8_top  h0) (fun rq95 pq96 => ?_)
      refine q_c (by omega) (by omega) ?_
      refine q_c (by omega) (by omega) ?_
      have cq101 : rq91.toNatClampNeg = rq91.toInt.toNat := rfl
      have cq102 : rq95.toNatClampNeg = rq95.toInt.toNat := rfl
      have gq103 := e_57 h0 rq95.toNatClampNeg
      refine q_zu8 h0 (s_57 (by omega)) (fun sq97 Rq98 Eq99 Fq100 => ?_)
      exact q_some ⟨yE_k Rq98 (by omega), trivial⟩
     ·
      refine q_c (by omega) (by omega) ?_
      have cq108 : rq91.toNatClampNeg = rq91.toInt.toNat := rfl
      refine q_zu8 h0 (s_57 (by omega)) (fun sq104 Rq105 Eq106 Fq107 => ?_)
      exact q_some ⟨yE_k Rq105 (by omega), trivial⟩
    ·
     refine q_bindp (t_X8_top  h0) (fun rq109 pq110 => ?_)
     have lq111 : (1 : Int32).toInt = 1 := rfl
     have lq112 : (0 : Int32).toInt = 0 := rfl
     refine q_eq (fun hq113 => ?_) (fun hq113 => ?_)
     ·
      refine q_bindp (t_X8_top  h0) (fun rq114 pq115 => ?_)
      refine q_c (by omega) (by omega) ?_
      refine q_c (by omega) (by omega) ?_
      have cq120 : rq109.toNatClampNeg = rq109.toInt.toNat := rfl
      have cq121 : rq114.toNatClampNeg = rq114.toInt.toNat := rfl
      have gq122 := e_57 h0 rq114.toNatClampNeg
      refine q_zu8 h0 (s_57 (by omega)) (fun sq116 Rq117 Eq118 Fq119 => ?_)
      exact q_some ⟨yE_k Rq117 (by omega), trivial⟩
     ·
      refine q_c (by omega) (by omega) ?_
      have cq127 : rq109.toNatClampNeg = rq109.toInt.toNat := rfl
      refine q_zu8 h0 (s_57 (by omega)) (fun sq123 Rq124 Eq125 Fq126 => ?_)
      exact q_some ⟨yE_k Rq124 (by omega), trivial⟩
 ·
  have lq128 : (11 : Int32).toInt = 11 := rfl
  refine q_eq (fun hq129 => ?_) (fun hq129 => ?_)
  ·
   refine q_eq (fun hq130 => ?_) (fun hq130 => ?_)
   ·
    refine q_eq (fun hq131 => ?_) (fun hq131 => ?_)
    ·
     refine q_bindp (t_X8_top  h0) (fun rq132 pq133 => ?_)
     have lq134 : (1 : Int32).toInt = 1 := rfl
     have lq135 : (0 : Int32).toInt = 0 := rfl
     refine q_eq (fun hq136 => ?_) (fun hq136 => ?_)
     ·
      refine q_bindp (t_X8_top  h0) (fun rq137 pq138 => ?_)
      refine q_c (by omega) (by omega) ?_
      refine q_c (by omega) (by omega) ?_
      have cq143 : rq132.toNatClampNeg = rq132.toInt.toNat := rfl
      have cq144 : rq137.toNatClampNeg = rq137.toInt.toNat := rfl
      have gq145 := e_57 h0 rq137.toNatClampNeg
      refine q_zu8 h0 (s_57 (by omega)) (fun sq139 Rq140 Eq141 Fq142 => ?_)
      exact q_some ⟨yE_k Rq140 (by omega), trivial⟩
     ·
      refine q_c (by omega) (by omega) ?_
      have cq150 : rq132.toNatClampNeg = rq132.toInt.toNat := rfl
      refine q_zu8 h0 (s_57 (by omega)) (fun sq146 Rq147 Eq148 Fq149 => ?_)
      exact q_some ⟨yE_k Rq147 (by omega), trivial⟩
    ·
     refine q_bindp (t_X8_top  h0) (fun rq151 pq152 => ?_)
     have lq153 : (0 : Int32).toInt = 0 := rfl
     refine q_eq (fun hq154 => ?_) (fun hq154 => ?_)
     ·
      refine q_bindp (t_X8_top  h0) (fun rq155 pq156 => ?_)
      refine q_c (by omega) (by omega) ?_
      refine q_c (by omega) (by omega) ?_
      have cq161 : rq151.toNatClampNeg = rq151.toInt.toNat := rfl
      have cq162 : rq155.toNatClampNeg = rq155.toInt.toNat := rfl
      have gq163 := e_57 h0 rq155.toNatClampNeg
      refine q_zu8 h0 (s_57 (by omega)) (fun sq157 Rq158 Eq159 Fq160 => ?_)
      exact q_some ⟨yE_k Rq158 (by omega), trivial⟩
     ·
      refine q_c (by omega) (by omega) ?_
      have cq168 : rq151.toNatClampNeg = rq151.toInt.toNat := rfl
      refine q_zu8 h0 (s_57 (by omega)) (fun sq164 Rq165 Eq166 Fq167 => ?_)
      exact q_some ⟨yE_k Rq165 (by omega), trivial⟩
   ·
    refine q_eq (fun hq169 => ?_) (fun hq169 => ?_)
    ·
     refine q_bindp (t_X8_signed p1 h0) (fun rq170 pq171 => ?_)
     refine q_bindp (t_X8_signed p2 h0) (fun rq172 pq173 => ?_)
     refine q_le (fun hq174 => ?_) (fun hq174 => ?_)
     ·
      refine q_bindp (t_X8_top  h0) (fun rq175 pq176 => ?_)
      have lq177 : (0 : Int32).toInt = 0 := rfl
      refine q_eq (fun hq178 => ?_) (fun hq178 => ?_)
      ·
       refine q_bindp (t_X8_top  h0) (fun rq179 pq180 => ?_)
       refine q_c (by omega) (by omega) ?_
       refine q_c (by omega) (by omega) ?_
       have cq185 : rq175.toNatClampNeg = rq175.toInt.toNat := rfl
       have cq186 : rq179.toNatClampNeg = rq179.toInt.toNat := rfl
       have gq187 := e_57 h0 rq179.toNatClampNeg
       refine q_zu8 h0 (s_57 (by omega)) (fun sq181 Rq182 Eq183 Fq184 => ?_)
       exact q_some ⟨yE_k Rq182 (by omega), trivial⟩
      ·
       refine q_c (by omega) (by omega) ?_
       have cq192 : rq175.toNatClampNeg = rq175.toInt.toNat := rfl
       refine q_zu8 h0 (s_57 (by omega)) (fun sq188 Rq189 Eq190 Fq191 => ?_)
       exact q_some ⟨yE_k Rq189 (by omega), trivial⟩
     ·
      refine q_bindp (t_X8_top  h0) (fun rq193 pq194 => ?_)
      have lq195 : (1 : Int32).toInt = 1 := rfl
      have lq196 : (0 : Int32).toInt = 0 := rfl
      refine q_eq (fun hq197 => ?_) (fun hq197 => ?_)
      ·
       refine q_bindp (t_X8_top  h0) (fun rq198 pq199 => ?_)
       refine q_c (by omega) (by omega) ?_
       refine q_c (by omega) (by omega) ?_
       have cq204 : rq193.toNatClampNeg = rq193.toInt.toNat := rfl
       have cq205 : rq198.toNatClampNeg = rq198.toInt.toNat := rfl
       have gq206 := e_57 h0 rq198.toNatClampNeg
       refine q_zu8 h0 (s_57 (by omega)) (fun sq200 Rq201 Eq202 Fq203 => ?_)
       exact q_some ⟨yE_k Rq201 (by omega), trivial⟩
      ·
       refine q_c (by omega) (by omega) ?_
       have cq211 : rq193.toNatClampNeg = rq193.toInt.toNat := rfl
       refine q_zu8 h0 (s_57 (by omega)) (fun sq207 Rq208 Eq209 Fq210 => ?_)
       exact q_some ⟨yE_k Rq208 (by omega), trivial⟩
    ·
     refine q_bindp (t_X8_signed p1 h0) (fun rq212 pq213 => ?_)
     refine q_bindp (t_X8_signed p2 h0) (fun rq214 pq215 => ?_)
     refine q_le (fun hq216 => ?_) (fun hq216 => ?_)
     ·
      refine q_bindp (t_X8_top  h0) (fun rq217 pq218 => ?_)
      have lq219 : (0 : Int32).toInt = 0 := rfl
      refine q_eq (fun hq220 => ?_) (fun hq220 => ?_)
      ·
       refine q_bindp (t_X8_top  h0) (fun rq221 pq222 => ?_)
       refine q_c (by omega) (by omega) ?_
       refine q_c (by omega) (by omega) ?_
       have cq227 : rq217.toNatClampNeg = rq217.toInt.toNat := rfl
       have cq228 : rq221.toNatClampNeg = rq221.toInt.toNat := rfl
       have gq229 := e_57 h0 rq221.toNatClampNeg
       refine q_zu8 h0 (s_57 (by omega)) (fun sq223 Rq224 Eq225 Fq226 => ?_)
       exact q_some ⟨yE_k Rq224 (by omega), trivial⟩
      ·
       refine q_c (by omega) (by omega) ?_
       have cq234 : rq217.toNatClampNeg = rq217.toInt.toNat := rfl
       refine q_zu8 h0 (s_57 (by omega)) (fun sq230 Rq231 Eq232 Fq233 => ?_)
       exact q_some ⟨yE_k Rq231 (by omega), trivial⟩
     ·
      refine q_bindp (t_X8_top  h0) (fun rq235 pq236 => ?_)
      have lq237 : (1 : Int32).toInt = 1 := rfl
      have lq238 : (0 : Int32).toInt = 0 := rfl
      refine q_eq (fun hq239 => ?_) (fun hq239 => ?_)
      ·
       refine q_bindp (t_X8_top  h0) (fun rq240 pq241 => ?_)
       refine q_c (by omega) (by omega) ?_
       refine q_c (by omega) (by omega) ?_
       have cq246 : rq235.toNatClampNeg = rq235.toInt.toNat := rfl
       have cq247 : rq240.toNatClampNeg = rq240.toInt.toNat := rfl
       have gq248 := e_57 h0 rq240.toNatClampNeg
       refine q_zu8 h0 (s_57 (by omega)) (fun sq242 Rq243 Eq244 Fq245 => ?_)
       exact q_some ⟨yE_k Rq243 (by omega), trivial⟩
      ·
       refine q_c (by omega) (by omega) ?_
       have cq253 : rq235.toNatClampNeg = rq235.toInt.toNat := rfl
       refine q_zu8 h0 (s_57 (by omega)) (fun sq249 Rq250 Eq251 Fq252 => ?_)
       exact q_some ⟨yE_k Rq250 (by omega), trivial⟩
  ·
   have lq254 : (12 : Int32).toInt = 12 := rfl
   refine q_eq (fun hq255 => ?_) (fun hq255 => ?_)
   ·
    refine q_eq (fun hq256 => ?_) (fun hq256 => ?_)
    ·
     refine q_eq (fun hq257 => ?_) (fun hq257 => ?_)
     ·
      refine q_bindp (t_X8_top  h0) (fun rq258 pq259 => ?_)
      have lq260 : (1 : Int32).toInt = 1 := rfl
      have lq261 : (0 : Int32).toInt = 0 := rfl
      refine q_eq (fun hq262 => ?_) (fun hq262 => ?_)
      ·
       refine q_bindp (t_X8_top  h0) (fun rq263 pq264 => ?_)
       refine q_c (by omega) (by omega) ?_
       refine q_c (by omega) (by omega) ?_
       have cq269 : rq258.toNatClampNeg = rq258.toInt.toNat := rfl
       have cq270 : rq263.toNatClampNeg = rq263.toInt.toNat := rfl
       have gq271 := e_57 h0 rq263.toNatClampNeg
       refine q_zu8 h0 (s_57 (by omega)) (fun sq265 Rq266 Eq267 Fq268 => ?_)
       exact q_some ⟨yE_k Rq266 (by omega), trivial⟩
      ·
       refine q_c (by omega) (by omega) ?_
       have cq276 : rq258.toNatClampNeg = rq258.toInt.toNat := rfl
       refine q_zu8 h0 (s_57 (by omega)) (fun sq272 Rq273 Eq274 Fq275 => ?_)
       exact q_some ⟨yE_k Rq273 (by omega), trivial⟩
     ·
      refine q_bindp (t_X8_top  h0) (fun rq277 pq278 => ?_)
      have lq279 : (0 : Int32).toInt = 0 := rfl
      refine q_eq (fun hq280 => ?_) (fun hq280 => ?_)
      ·
       refine q_bindp (t_X8_top  h0) (fun rq281 pq282 => ?_)
       refine q_c (by omega) (by omega) ?_
       refine q_c (by omega) (by omega) ?_
       have cq287 : rq277.toNatClampNeg = rq277.toInt.toNat := rfl
       have cq288 : rq281.toNatClampNeg = rq281.toInt.toNat := rfl
       have gq289 := e_57 h0 rq281.toNatClampNeg
       refine q_zu8 h0 (s_57 (by omega)) (fun sq283 Rq284 Eq285 Fq286 => ?_)
       exact q_some ⟨yE_k Rq284 (by omega), trivial⟩
      ·
       refine q_c (by omega) (by omega) ?_
       have cq294 : rq277.toNatClampNeg = rq277.toInt.toNat := rfl
       refine q_zu8 h0 (s_57 (by omega)) (fun sq290 Rq291 Eq292 Fq293 => ?_)
       exact q_some ⟨yE_k Rq291 (by omega), trivial⟩
    ·
     refine q_eq (fun hq295 => ?_) (fun hq295 => ?_)
     ·
      refine q_bindp (t_X8_signed p1 h0) (fun rq296 pq297 => ?_)
      refine q_bindp (t_X8_signed p2 h0) (fun rq298 pq299 => ?_)
      refine q_le (fun hq300 => ?_) (fun hq300 => ?_)
      ·
       refine q_bindp (t_X8_top  h0) (fun rq301 pq302 => ?_)
       have lq303 : (0 : Int32).toInt = 0 := rfl
       refine q_eq (fun hq304 => ?_) (fun hq304 => ?_)
       ·
        refine q_bindp (t_X8_top  h0) (fun rq305 pq306 => ?_)
        refine q_c (by omega) (by omega) ?_
        refine q_c (by omega) (by omega) ?_
        have cq311 : rq301.toNatClampNeg = rq301.toInt.toNat := rfl
        have cq312 : rq305.toNatClampNeg = rq305.toInt.toNat := rfl
        have gq313 := e_57 h0 rq305.toNatClampNeg
        refine q_zu8 h0 (s_57 (by omega)) (fun sq307 Rq308 Eq309 Fq310 => ?_)
        exact q_some ⟨yE_k Rq308 (by omega), trivial⟩
       ·
        refine q_c (by omega) (by omega) ?_
        have cq318 : rq301.toNatClampNeg = rq301.toInt.toNat := rfl
        refine q_zu8 h0 (s_57 (by omega)) (fun sq314 Rq315 Eq316 Fq317 => ?_)
        exact q_some ⟨yE_k Rq315 (by omega), trivial⟩
      ·
       refine q_bindp (t_X8_top  h0) (fun rq319 pq320 => ?_)
       have lq321 : (1 : Int32).toInt = 1 := rfl
       have lq322 : (0 : Int32).toInt = 0 := rfl
       refine q_eq (fun hq323 => ?_) (fun hq323 => ?_)
       ·
        refine q_bindp (t_X8_top  h0) (fun rq324 pq325 => ?_)
        refine q_c (by omega) (by omega) ?_
        refine q_c (by omega) (by omega) ?_
        have cq330 : rq319.toNatClampNeg = rq319.toInt.toNat := rfl
        have cq331 : rq324.toNatClampNeg = rq324.toInt.toNat := rfl
        have gq332 := e_57 h0 rq324.toNatClampNeg
        refine q_zu8 h0 (s_57 (by omega)) (fun sq326 Rq327 Eq328 Fq329 => ?_)
        exact q_some ⟨yE_k Rq327 (by omega), trivial⟩
       ·
        refine q_c (by omega) (by omega) ?_
        have cq337 : rq319.toNatClampNeg = rq319.toInt.toNat := rfl
        refine q_zu8 h0 (s_57 (by omega)) (fun sq333 Rq334 Eq335 Fq336 => ?_)
        exact q_some ⟨yE_k Rq334 (by omega), trivial⟩
     ·
      refine q_bindp (t_X8_signed p1 h0) (fun rq338 pq339 => ?_)
      refine q_bindp (t_X8_signed p2 h0) (fun rq340 pq341 => ?_)
      refine q_le (fun hq342 => ?_) (fun hq342 => ?_)
      ·
       refine q_bindp (t_X8_top  h0) (fun rq343 pq344 => ?_)
       have lq345 : (0 : Int32).toInt = 0 := rfl
       refine q_eq (fun hq346 => ?_) (fun hq346 => ?_)
       ·
        refine q_bindp (t_X8_top  h0) (fun rq347 pq348 => ?_)
        refine q_c (by omega) (by omega) ?_
        refine q_c (by omega) (by omega) ?_
        have cq353 : rq343.toNatClampNeg = rq343.toInt.toNat := rfl
        have cq354 : rq347.toNatClampNeg = rq347.toInt.toNat := rfl
        have gq355 := e_57 h0 rq347.toNatClampNeg
        refine q_zu8 h0 (s_57 (by omega)) (fun sq349 Rq350 Eq351 Fq352 => ?_)
        exact q_some ⟨yE_k Rq350 (by omega), trivial⟩
       ·
        refine q_c (by omega) (by omega) ?_
        have cq360 : rq343.toNatClampNeg = rq343.toInt.toNat := rfl
        refine q_zu8 h0 (s_57 (by omega)) (fun sq356 Rq357 Eq358 Fq359 => ?_)
        exact q_some ⟨yE_k Rq357 (by omega), trivial⟩
      ·
       refine q_bindp (t_X8_top  h0) (fun rq361 pq362 => ?_)
       have lq363 : (1 : Int32).toInt = 1 := rfl
       have lq364 : (0 : Int32).toInt = 0 := rfl
       refine q_eq (fun hq365 => ?_) (fun hq365 => ?_)
       ·
        refine q_bindp (t_X8_top  h0) (fun rq366 pq367 => ?_)
        refine q_c (by omega) (by omega) ?_
        refine q_c (by omega) (by omega) ?_
        have cq372 : rq361.toNatClampNeg = rq361.toInt.toNat := rfl
        have cq373 : rq366.toNatClampNeg = rq366.toInt.toNat := rfl
        have gq374 := e_57 h0 rq366.toNatClampNeg
        refine q_zu8 h0 (s_57 (by omega)) (fun sq368 Rq369 Eq370 Fq371 => ?_)
        exact q_some ⟨yE_k Rq369 (by omega), trivial⟩
       ·
        refine q_c (by omega) (by omega) ?_
        have cq379 : rq361.toNatClampNeg = rq361.toInt.toNat := rfl
        refine q_zu8 h0 (s_57 (by omega)) (fun sq375 Rq376 Eq377 Fq378 => ?_)
        exact q_some ⟨yE_k Rq376 (by omega), trivial⟩
   ·
    have lq380 : (13 : Int32).toInt = 13 := rfl
    refine q_eq (fun hq381 => ?_) (fun hq381 => ?_)
    ·
     refine q_bindp (t_X8_top  h0) (fun rq382 pq383 => ?_)
     refine q_c (by omega) (by omega) ?_
     have cq388 : rq382.toNatClampNeg = rq382.toInt.toNat := rfl
     refine q_zu8 h0 (s_57 (by omega)) (fun sq384 Rq385 Eq386 Fq387 => ?_)
     exact q_some ⟨yE_k Rq385 (by omega), trivial⟩
    ·
     have lq389 : (14 : Int32).toInt = 14 := rfl
     refine q_eq (fun hq390 => ?_) (fun hq390 => ?_)
     ·
      have lq391 : (255 : Int32).toInt = 255 := rfl
      have aq392 := i_255 p1
      have lq393 : (1 : Int32).toInt = 1 := rfl
      refine q_bindR (t_X8_more (p1 &&& (255 : Int32)) (1 : Int32) h0 (by omega)) (fun rq394 sq395 Rq396 pq397 => ?_)
      exact q_some ⟨yE_k Rq396 (by omega), trivial⟩
     ·
      have lq398 : (15 : Int32).toInt = 15 := rfl
      refine q_eq (fun hq399 => ?_) (fun hq399 => ?_)
      ·
       have lq400 : (255 : Int32).toInt = 255 := rfl
       have aq401 := i_255 p1
       have lq402 : (-1 : Int32).toInt = -1 := rfl
       refine q_bindR (t_X8_more (p1 &&& (255 : Int32)) (-1 : Int32) h0 (by omega)) (fun rq403 sq404 Rq405 pq406 => ?_)
       exact q_some ⟨yE_k Rq405 (by omega), trivial⟩
      ·
       have lq407 : (16 : Int32).toInt = 16 := rfl
       refine q_eq (fun hq408 => ?_) (fun hq408 => ?_)
       ·
        refine q_bindp (t_X8_signed p2 h0) (fun rq409 pq410 => ?_)
        refine q_bindR (t_X8_read (p1 + ((2 : Int32) * rq409)) (1 : Int32) h0) (fun rq411 sq412 Rq413 pq414 => ?_)
        have lq415 : (0 : Int32).toInt = 0 := rfl
        refine q_eq (fun hq416 => ?_) (fun hq416 => ?_)
        ·
         refine q_lt (fun hq417 => ?_) (fun hq417 => ?_)
         ·
          exact q_some ⟨yE_k Rq413 (by omega), trivial⟩
         ·
          refine q_bindR (t_X8_set p4 rq411 Rq413 (by omega)) (fun rq418 sq419 Rq420 pq421 => ?_)
          exact q_some ⟨yE_k Rq420 (by omega), trivial⟩
        ·
         exact q_some ⟨yE_k Rq413 (by omega), trivial⟩
       ·
        have lq422 : (17 : Int32).toInt = 17 := rfl
        refine q_eq (fun hq423 => ?_) (fun hq423 => ?_)
        ·
         refine q_bindp (t_X8_signed p2 h0) (fun rq424 pq425 => ?_)
         refine q_bindR (t_X8_read (p1 + rq424) (0 : Int32) h0) (fun rq426 sq427 Rq428 pq429 => ?_)
         have lq430 : (0 : Int32).toInt = 0 := rfl
         refine q_eq (fun hq431 => ?_) (fun hq431 => ?_)
         ·
          refine q_lt (fun hq432 => ?_) (fun hq432 => ?_)
          ·
           exact q_some ⟨yE_k Rq428 (by omega), trivial⟩
          ·
           refine q_bindR (t_X8_set p4 rq426 Rq428 (by omega)) (fun rq433 sq434 Rq435 pq436 => ?_)
           exact q_some ⟨yE_k Rq435 (by omega), trivial⟩
         ·
          exact q_some ⟨yE_k Rq428 (by omega), trivial⟩
        ·
         have lq437 : (18 : Int32).toInt = 18 := rfl
         refine q_eq (fun hq438 => ?_) (fun hq438 => ?_)
         ·
          refine q_bindp (t_X8_signed p2 h0) (fun rq439 pq440 => ?_)
          refine q_bindR (t_X8_write (p1 + ((2 : Int32) * rq439)) p3 (1 : Int32) (0 : Int32) h0) (fun rq441 sq442 Rq443 pq444 => ?_)
          exact q_some ⟨yE_k Rq443 (by omega), trivial⟩
         ·
          have lq445 : (19 : Int32).toInt = 19 := rfl
          refine q_eq (fun hq446 => ?_) (fun hq446 => ?_)
          ·
           refine q_bindp (t_X8_signed p2 h0) (fun rq447 pq448 => ?_)
           refine q_bindR (t_X8_write (p1 + rq447) p3 (0 : Int32) (0 : Int32) h0) (fun rq449 sq450 Rq451 pq452 => ?_)
           exact q_some ⟨yE_k Rq451 (by omega), trivial⟩
          ·
           have lq453 : (20 : Int32).toInt = 20 := rfl
           refine q_eq (fun hq454 => ?_) (fun hq454 => ?_)
           ·
            refine q_bindR (t_X8_enterE p1 p2 p3 p4 (R8_own h0) (by omega)) (fun rq455 sq456 Rq457 pq458 => ?_)
            exact q_some ⟨yE_tr h0 Rq457, trivial⟩
           ·
            have lq459 : (21 : Int32).toInt = 21 := rfl
            refine q_eq (fun hq460 => ?_) (fun hq460 => ?_)
            ·
             refine q_bindR (t_X8_back p1 (R8_own h0) (by omega)) (fun rq461 sq462 Rq463 pq464 => ?_)
             exact q_some ⟨yE_tr h0 Rq463, trivial⟩
            ·
             have lq465 : (22 : Int32).toInt = 22 := rfl
             refine q_eq (fun hq466 => ?_) (fun hq466 => ?_)
             ·
              refine q_bindR (t_X8_push p1 h0) (fun rq467 sq468 Rq469 pq470 => ?_)
              exact q_some ⟨yE_k Rq469 (by omega), trivial⟩
             ·
              have lq471 : (23 : Int32).toInt = 23 := rfl
              refine q_eq (fun hq472 => ?_) (fun hq472 => ?_)
              ·
               refine q_bindR (t_X8_pop  h0 (by omega)) (fun rq473 sq474 Rq475 pq476 => ?_)
               have lq477 : (0 : Int32).toInt = 0 := rfl
               refine q_eq (fun hq478 => ?_) (fun hq478 => ?_)
               ·
                have lq479 : (255 : Int32).toInt = 255 := rfl
                have aq480 := i_255 p1
                refine q_bindR (t_X8_set (p1 &&& (255 : Int32)) rq473 Rq475 (by omega)) (fun rq481 sq482 Rq483 pq484 => ?_)
                exact q_some ⟨yE_k Rq483 (by omega), trivial⟩
               ·
                exact q_some ⟨yE_k Rq475 (by omega), trivial⟩
              ·
               have lq485 : (24 : Int32).toInt = 24 := rfl
               refine q_eq (fun hq486 => ?_) (fun hq486 => ?_)
               ·
                refine q_bindp (t_X8_top  h0) (fun rq487 pq488 => ?_)
                have lq489 : (0 : Int32).toInt = 0 := rfl
                refine q_eq (fun hq490 => ?_) (fun hq490 => ?_)
                ·
                 refine q_lt (fun hq491 => ?_) (fun hq491 => ?_)
                 ·
                  exact q_some ⟨yE_k h0 (by omega), trivial⟩
                 ·
                  refine q_bindR (t_X8_set p4 rq487 h0 (by omega)) (fun rq492 sq493 Rq494 pq495 => ?_)
                  exact q_some ⟨yE_k Rq494 (by omega), trivial⟩
                ·
                 exact q_some ⟨yE_k h0 (by omega), trivial⟩
               ·
                have lq496 : (25 : Int32).toInt = 25 := rfl
                refine q_eq (fun hq497 => ?_) (fun hq497 => ?_)
                ·
                 refine q_bindR (t_X8_throwTo p1 p2 (R8_own h0) (by omega)) (fun rq498 sq499 Rq500 pq501 => ?_)
                 exact q_some ⟨yE_tr h0 Rq500, trivial⟩
                ·
                 have lq502 : (26 : Int32).toInt = 26 := rfl
                 refine q_eq (fun hq503 => ?_) (fun hq503 => ?_)
                 ·
                  refine q_bindp (t_X8_signed p3 h0) (fun rq504 pq505 => ?_)
                  refine q_bindR (t_X8_copied p1 p2 rq504 h0 (by omega)) (fun rq506 sq507 Rq508 pq509 => ?_)
                  exact q_some ⟨yE_k Rq508 (by omega), trivial⟩
                 ·
                  have lq510 : (27 : Int32).toInt = 27 := rfl
                  refine q_eq (fun hq511 => ?_) (fun hq511 => ?_)
                  ·
                   refine q_bindp (t_X8_signed p3 h0) (fun rq512 pq513 => ?_)
                   refine q_bindR (t_X8_looked p1 p2 rq512 (σ 45 5) h0 (by omega)) (fun rq514 sq515 Rq516 pq517 => ?_)
                   have lq518 : (0 : Int32).toInt = 0 := rfl
                   refine q_eq (fun hq519 => ?_) (fun hq519 => ?_)
                   ·
                    refine q_lt (fun hq520 => ?_) (fun hq520 => ?_)
                    ·
                     exact q_some ⟨yE_k Rq516 (by omega), trivial⟩
                    ·
                     refine q_bindR (t_X8_set p4 rq514 Rq516 (by omega)) (fun rq521 sq522 Rq523 pq524 => ?_)
                     exact q_some ⟨yE_k Rq523 (by omega), trivial⟩
                   ·
                    exact q_some ⟨yE_k Rq516 (by omega), trivial⟩
                  ·
                   have lq525 : (28 : Int32).toInt = 28 := rfl
                   refine q_eq (fun hq526 => ?_) (fun hq526 => ?_)
                   ·
                    refine q_bindp (t_X8_signed p1 h0) (fun rq527 pq528 => ?_)
                    refine q_bindR (t_X8_drawn rq527 h0) (fun rq529 sq530 Rq531 pq532 => ?_)
                    have lq533 : (0 : Int32).toInt = 0 := rfl
                    refine q_eq (fun hq534 => ?_) (fun hq534 => ?_)
                    ·
                     refine q_lt (fun hq535 => ?_) (fun hq535 => ?_)
                     ·
                      exact q_some ⟨yE_k Rq531 (by omega), trivial⟩
                     ·
                      refine q_bindR (t_X8_set p4 rq529 Rq531 (by omega)) (fun rq536 sq537 Rq538 pq539 => ?_)
                      exact q_some ⟨yE_k Rq538 (by omega), trivial⟩
                    ·
                     exact q_some ⟨yE_k Rq531 (by omega), trivial⟩
                   ·
                    have lq540 : (29 : Int32).toInt = 29 := rfl
                    refine q_eq (fun hq541 => ?_) (fun hq541 => ?_)
                    ·
                     refine q_bindp (t_X8_signed p1 h0) (fun rq542 pq543 => ?_)
                     refine q_bindR (t_X8_printNumber rq542 h0 (by omega)) (fun rq544 sq545 Rq546 pq547 => ?_)
                     exact q_some ⟨yE_k Rq546 (by omega), trivial⟩
                    ·
                     have lq548 : (30 : Int32).toInt = 30 := rfl
                     refine q_eq (fun hq549 => ?_) (fun hq549 => ?_)
                     ·
                      refine q_bindR (t_X8_print p1 h0) (fun rq550 sq551 Rq552 pq553 => ?_)
                      exact q_some ⟨yE_k Rq552 (by omega), trivial⟩
                     ·
                      have lq554 : (31 : Int32).toInt = 31 := rfl
                      refine q_eq (fun hq555 => ?_) (fun hq555 => ?_)
                      ·
                       refine q_bindp (t_X8_signed p2 h0) (fun rq556 pq557 => ?_)
                       refine q_bindp (t_X8_signed p3 h0) (fun rq558 pq559 => ?_)
                       refine q_bindR (t_X8_printRows p1 rq556 rq558 h0 (by omega)) (fun rq560 sq561 Rq562 pq563 => ?_)
                       exact q_some ⟨yE_k Rq562 (by omega), trivial⟩
                      ·
                       have lq564 : (32 : Int32).toInt = 32 := rfl
                       refine q_eq (fun hq565 => ?_) (fun hq565 => ?_)
                       ·
                        refine q_es (fun sq566 hsq570 => ?_)
                        rw [hsq570]
                        exact q_some ⟨yE_end h0 (by decide), trivial⟩
                       ·
                        refine q_bindp (t_X8_signed p1 h0) (fun rq571 pq572 => ?_)
                        refine q_bindp (t_X8_signed p2 h0) (fun rq573 pq574 => ?_)
                        refine q_bindR (t_X8_worked p0 rq571 rq573 h0) (fun rq575 sq576 Rq577 pq578 => ?_)
                        have lq579 : (0 : Int32).toInt = 0 := rfl
                        refine q_eq (fun hq580 => ?_) (fun hq580 => ?_)
                        ·
                         refine q_lt (fun hq581 => ?_) (fun hq581 => ?_)
                         ·
                          exact q_some ⟨yE_k Rq577 (by omega), trivial⟩
                         ·
                          refine q_bindR (t_X8_set p4 rq575 Rq577 (by omega)) (fun rq582 sq583 Rq584 pq585 => ?_)
                          exact q_some ⟨yE_k Rq584 (by omega), trivial⟩
                        ·
                         exact q_some ⟨yE_k Rq577 (by omega), trivial⟩
set_option maxHeartbeats 4000000 in
set_option maxRecDepth 20000 in
theorem t_X8_step_L79 {B F : Int} {σ0 : zS} : ∀ (n : Nat) (x1 x2 x3 x4 x5 x6 : Int32) (σ : zS), (3 - x6.toInt).toNat < n → (1 ≤ F ∧ 0 ≤ x1.toInt ∧ x1.toInt < 100 ∧ 0 ≤ x2.toInt ∧ x2.toInt ≤ 65535 ∧ 0 ≤ x3.toInt ∧ x3.toInt ≤ 65535 ∧ 0 ≤ x4.toInt ∧ x4.toInt ≤ 65535 ∧ x5.toInt ≤ 3 ∧ 0 ≤ x6.toInt ∧ x6.toInt ≤ 3) → yR8 B F σ0 σ → yT (f_X8_step_L79 n x1 x2 x3 x4 x5 x6 σ) (fun r τ => yE B σ0 τ ∧ (True)) := by
 intro n
 induction n with
 | zero => intro x1 x2 x3 x4 x5 x6 σ hm; omega
 | succ n ih =>
  intro x1 x2 x3 x4 x5 x6 σ hm hv h0
  rw [f_X8_step_L79]
  have bx6 := i_hi x6
  refine q_le (fun hq1 => ?_) (fun hq1 => ?_)
  ·
   have lq2 : (0 : Int32).toInt = 0 := rfl
   refine q_eq (fun hq3 => ?_) (fun hq3 => ?_)
   ·
    refine q_c (by omega) (by omega) ?_
    refine q_c (by omega) (by omega) ?_
    have cq4 : x1.toNatClampNeg = x1.toInt.toNat := rfl
    refine q_bindR (t_X8_act (σ 49 x1.toNatClampNeg) x2 x3 x4 (σ 51 x1.toNatClampNeg) (R8_own h0) (by omega)) (fun rq5 sq6 Rq7 pq8 => ?_)
    exact q_some ⟨yE_tr h0 Rq7, trivial⟩
   ·
    exact q_some ⟨yE_k h0 (by omega), trivial⟩
  ·
   have lq9 : (0 : Int32).toInt = 0 := rfl
   refine q_eq (fun hq10 => ?_) (fun hq10 => ?_)
   ·
    have lq11 : (3 : Int32).toInt = 3 := rfl
    try have aq12 : ((3 : Int32) * x1).toInt = 3 * x1.toInt := i_mulk rfl (by omega) (by omega)
    try have aq13 : (((3 : Int32) * x1) + x6).toInt = ((3 : Int32) * x1).toInt + x6.toInt := i_add (by omega) (by omega)
    refine q_c (by omega) (by omega) ?_
    have cq14 : (((3 : Int32) * x1) + x6).toNatClampNeg = (((3 : Int32) * x1) + x6).toInt.toNat := rfl
    have gq15 := c_50 h0 (((3 : Int32) * x1) + x6).toNatClampNeg
    refine q_lv (fun yq17 vq16 => ?_)
    refine q_lt (fun hq18 => ?_) (fun hq18 => ?_)
    ·
     refine q_bindR (t_X8_ask ((-1 : Int32) - yq17) h0 (by have lq19 : (-1 : Int32).toInt = -1 := rfl; have bq20 := i_lo yq17; have bq21 := i_hi yq17; have aq22 : ((-1 : Int32) - yq17).toInt = -1 - yq17.toInt := (i_sub (by omega) (by omega)).trans (by omega); generalize ((-1 : Int32) - yq17).toInt = q at *; omega)) (fun rq23 sq24 Rq25 pq26 => ?_)
     refine q_eq (fun hq27 => ?_) (fun hq27 => ?_)
     ·
      have lq28 : (1 : Int32).toInt = 1 := rfl
      refine q_eq (fun hq29 => ?_) (fun hq29 => ?_)
      ·
       have lq30 : (2 : Int32).toInt = 2 := rfl
       refine q_eq (fun hq31 => ?_) (fun hq31 => ?_)
       ·
        try have aq32 : (x6 + (1 : Int32)).toInt = x6.toInt + (1 : Int32).toInt := i_add (by omega) (by omega)
        exact ih x1 rq23 rq23 rq23 x5 (x6 + (1 : Int32)) sq24 (by omega) (by omega) Rq25
       ·
        try have aq33 : (x6 + (1 : Int32)).toInt = x6.toInt + (1 : Int32).toInt := i_add (by omega) (by omega)
        exact ih x1 rq23 rq23 x4 x5 (x6 + (1 : Int32)) sq24 (by omega) (by omega) Rq25
      ·
       have lq34 : (2 : Int32).toInt = 2 := rfl
       refine q_eq (fun hq35 => ?_) (fun hq35 => ?_)
       ·
        try have aq36 : (x6 + (1 : Int32)).toInt = x6.toInt + (1 : Int32).toInt := i_add (by omega) (by omega)
        exact ih x1 rq23 x3 rq23 x5 (x6 + (1 : Int32)) sq24 (by omega) (by omega) Rq25
       ·
        try have aq37 : (x6 + (1 : Int32)).toInt = x6.toInt + (1 : Int32).toInt := i_add (by omega) (by omega)
        exact ih x1 rq23 x3 x4 x5 (x6 + (1 : Int32)) sq24 (by omega) (by omega) Rq25
     ·
      have lq38 : (1 : Int32).toInt = 1 := rfl
      refine q_eq (fun hq39 => ?_) (fun hq39 => ?_)
      ·
       have lq40 : (2 : Int32).toInt = 2 := rfl
       refine q_eq (fun hq41 => ?_) (fun hq41 => ?_)
       ·
        try have aq42 : (x6 + (1 : Int32)).toInt = x6.toInt + (1 : Int32).toInt := i_add (by omega) (by omega)
        exact ih x1 x2 rq23 rq23 x5 (x6 + (1 : Int32)) sq24 (by omega) (by omega) Rq25
       ·
        try have aq43 : (x6 + (1 : Int32)).toInt = x6.toInt + (1 : Int32).toInt := i_add (by omega) (by omega)
        exact ih x1 x2 rq23 x4 x5 (x6 + (1 : Int32)) sq24 (by omega) (by omega) Rq25
      ·
       have lq44 : (2 : Int32).toInt = 2 := rfl
       refine q_eq (fun hq45 => ?_) (fun hq45 => ?_)
       ·
        try have aq46 : (x6 + (1 : Int32)).toInt = x6.toInt + (1 : Int32).toInt := i_add (by omega) (by omega)
        exact ih x1 x2 x3 rq23 x5 (x6 + (1 : Int32)) sq24 (by omega) (by omega) Rq25
       ·
        try have aq47 : (x6 + (1 : Int32)).toInt = x6.toInt + (1 : Int32).toInt := i_add (by omega) (by omega)
        exact ih x1 x2 x3 x4 x5 (x6 + (1 : Int32)) sq24 (by omega) (by omega) Rq25
    ·
     refine q_eq (fun hq48 => ?_) (fun hq48 => ?_)
     ·
      have lq49 : (1 : Int32).toInt = 1 := rfl
      refine q_eq (fun hq50 => ?_) (fun hq50 => ?_)
      ·
       have lq51 : (2 : Int32).toInt = 2 := rfl
       refine q_eq (fun hq52 => ?_) (fun hq52 => ?_)
       ·
        try have aq53 : (x6 + (1 : Int32)).toInt = x6.toInt + (1 : Int32).toInt := i_add (by omega) (by omega)
        exact ih x1 yq17 yq17 yq17 x5 (x6 + (1 : Int32)) σ (by omega) (by omega) h0
       ·
        try have aq54 : (x6 + (1 : Int32)).toInt = x6.toInt + (1 : Int32).toInt := i_add (by omega) (by omega)
        exact ih x1 yq17 yq17 x4 x5 (x6 + (1 : Int32)) σ (by omega) (by omega) h0
      ·
       have lq55 : (2 : Int32).toInt = 2 := rfl
       refine q_eq (fun hq56 => ?_) (fun hq56 => ?_)
       ·
        try have aq57 : (x6 + (1 : Int32)).toInt = x6.toInt + (1 : Int32).toInt := i_add (by omega) (by omega)
        exact ih x1 yq17 x3 yq17 x5 (x6 + (1 : Int32)) σ (by omega) (by omega) h0
       ·
        try have aq58 : (x6 + (1 : Int32)).toInt = x6.toInt + (1 : Int32).toInt := i_add (by omega) (by omega)
        exact ih x1 yq17 x3 x4 x5 (x6 + (1 : Int32)) σ (by omega) (by omega) h0
     ·
      have lq59 : (1 : Int32).toInt = 1 := rfl
      refine q_eq (fun hq60 => ?_) (fun hq60 => ?_)
      ·
       have lq61 : (2 : Int32).toInt = 2 := rfl
       refine q_eq (fun hq62 => ?_) (fun hq62 => ?_)
       ·
        try have aq63 : (x6 + (1 : Int32)).toInt = x6.toInt + (1 : Int32).toInt := i_add (by omega) (by omega)
        exact ih x1 x2 yq17 yq17 x5 (x6 + (1 : Int32)) σ (by omega) (by omega) h0
       ·
        try have aq64 : (x6 + (1 : Int32)).toInt = x6.toInt + (1 : Int32).toInt := i_add (by omega) (by omega)
        exact ih x1 x2 yq17 x4 x5 (x6 + (1 : Int32)) σ (by omega) (by omega) h0
      ·
       have lq65 : (2 : Int32).toInt = 2 := rfl
       refine q_eq (fun hq66 => ?_) (fun hq66 => ?_)
       ·
        try have aq67 : (x6 + (1 : Int32)).toInt = x6.toInt + (1 : Int32).toInt := i_add (by omega) (by omega)
        exact ih x1 x2 x3 yq17 x5 (x6 + (1 : Int32)) σ (by omega) (by omega) h0
       ·
        try have aq68 : (x6 + (1 : Int32)).toInt = x6.toInt + (1 : Int32).toInt := i_add (by omega) (by omega)
        exact ih x1 x2 x3 x4 x5 (x6 + (1 : Int32)) σ (by omega) (by omega) h0
   ·
    refine q_eq (fun hq69 => ?_) (fun hq69 => ?_)
    ·
     refine q_c (by omega) (by omega) ?_
     refine q_c (by omega) (by omega) ?_
     have cq70 : x1.toNatClampNeg = x1.toInt.toNat := rfl
     refine q_bindR (t_X8_act (σ 49 x1.toNatClampNeg) x2 x3 x4 (σ 51 x1.toNatClampNeg) (R8_own h0) (by omega)) (fun rq71 sq72 Rq73 pq74 => ?_)
     exact q_some ⟨yE_tr h0 Rq73, trivial⟩
    ·
     exact q_some ⟨yE_k h0 (by omega), trivial⟩
theorem t_X8_step {B F : Int} {σ : zS} (h0 : yR8 B F σ σ) (hp : 1 ≤ F) (hB2 : B < 1000000) : yT (f_X8_step σ) (fun _ τ => yE (B + 1) σ τ ∧ True) := by
  unfold f_X8_step
  have H : yR8 (B + 1) F σ σ := R8_B h0 (by omega) (by omega)
  have g := e_22 h0
  have l0 : (0 : Int32).toInt = 0 := rfl
  refine q_bindp (t_X8_top h0) (fun v1 p1 => ?_)
  refine q_c (by omega) (by omega) ?_
  have c1 := e_57 h0 v1.toNatClampNeg
  refine q_lv (fun y hy => ?_)
  refine q_bindp (t_X8_top h0) (fun v3 p3 => ?_)
  refine q_c (by omega) (by omega) ?_
  refine q_c (by omega) (by omega) ?_
  have c3 := e_57 h0 v3.toNatClampNeg
  have e : ((σ 57 v3.toNatClampNeg) + (1 : Int32)).toInt = (σ 57 v3.toNatClampNeg).toInt + 1 := i_1 (by omega)
  refine q_zu8 H (s_57 (by omega)) (fun s3 R3 E3 F3 => ?_)
  have g14 := e_14 R3
  have bad : yT (zlet (zu s3 45 12 (10 : Int32)) fun s4 => some ((), s4)) (fun _ τ => yE (B + 1) σ τ ∧ True) := by
    refine q_zu8 R3 s_45_12 (fun s R E Fr => ?_)
    exact q_some ⟨yE_k R (by omega), trivial⟩
  refine q_le (fun h1 => bad) (fun h1 => ?_)
  refine q_c (by omega) (by omega) ?_
  refine q_lt (fun h2 => bad) (fun h2 => ?_)
  refine q_c (by omega) (by omega) ?_
  refine q_le (fun h3 => ?_) (fun h3 => bad)
  refine q_c (by omega) (by omega) ?_
  refine q_bindp (t_X8_wants _ R3) (fun v4 p4 => ?_)
  exact t_X8_step_L79 zF y (0 : Int32) (0 : Int32) (0 : Int32) v4 (0 : Int32) s3 (by rw [zF_eq, t_0]; omega) (by omega) R3
theorem t_X8_up_L49 {B : Int} {σ0 : zS} {Q : Unit → zS → Prop} {K : Int32 → zS → Option (Unit × zS)} (x1 : Int32) (kK : ∀ (F : Int) (σ : zS), yR8 B F σ0 σ → yT (K x1 σ) Q) : ∀ (n : Nat) (F : Int) (σ : zS), F.toNat < n → yR8 B F σ0 σ → yT (f_X8_up_L49 n x1 σ K) Q := by
  intro n
  induction n with
  | zero => intro F σ hm; omega
  | succ n ih =>
    intro F σ hm h0
    rw [f_X8_up_L49]
    have g := e_22 h0
    have l0 : (0 : Int32).toInt = 0 := rfl
    refine q_le (fun h1 => kK F σ h0) (fun h1 => ?_)
    refine q_bindp (t_X8_top h0) (fun v1 p1 => ?_)
    refine q_c (by omega) (by omega) ?_
    have c56 := c_56 h0 v1.toNatClampNeg
    refine q_c (by omega) (by omega) ?_
    refine q_eq (fun h2 => ?_) (fun h2 => kK F σ h0)
    refine q_bindR (t_X8_leave h0 (by omega)) (fun _ s R _ => ?_)
    exact ih (F - 1) s (by omega) R
theorem t_X8_up_L0 {B : Int} {σ0 : zS} : ∀ (n : Nat) (F : Int) (σ : zS), (12 - (σ 45 39).toInt).toNat < n → yR8 B F σ σ → ((σ 45 40).toInt < 0 → 1 ≤ F) → (∀ k j, y8L k j → σ k j = σ0 k j) → yT (f_X8_up_L0 n σ) (fun _ τ => yE B σ0 τ ∧ True) := by
  intro n
  induction n with
  | zero => intro F σ hm; omega
  | succ n ih =>
    intro F σ hm h0 hE hk
    rw [f_X8_up_L0]
    have l0 : (0 : Int32).toInt = 0 := rfl
    have l12 : (12 : Int32).toInt = 12 := rfl
    have g39 := e_39 h0
    refine q_eq (fun h1 => q_some ⟨⟨⟨F, h0, hE⟩, hk⟩, trivial⟩) (fun h1 => ?_)
    refine q_le (fun h2 => q_some ⟨⟨⟨F, h0, hE⟩, hk⟩, trivial⟩) (fun h2 => ?_)
    refine q_eq (fun h3 => ?_) (fun h3 => ?_)
    · refine q_es (fun s hs => ?_)
      rw [hs]
      exact q_some ⟨yE_tr2 hk (yE_end h0 (by decide)), trivial⟩
    · have e : ((σ 45 39) + (1 : Int32)).toInt = (σ 45 39).toInt + 1 := i_1 (by omega)
      refine q_es (fun s1 hs1 => ?_)
      have R1 : yR8 B F s1 s1 := by rw [hs1]; exact R8_self h0 (by omega) (show 0 ≤ _ ∧ _ ≤ (12 : Int) by rw [e]; omega)
      have k1 : ∀ k j, y8L k j → s1 k j = σ k j := fun k j q => by rw [hs1, zu_rd, if_neg (by unfold y8L at q; omega)]
      have e1 : s1 45 39 = (σ 45 39) + (1 : Int32) := by rw [hs1, zu_rd, if_pos ⟨rfl, rfl⟩]
      refine q_zu8 R1 s_45_12 (fun s2 R2 E2 F2 => ?_)
      have k2 : ∀ k j, y8L k j → s2 k j = σ0 k j := fun k j q => ((R2.2.2.1 k j (y8_LK q)).trans (k1 k j q)).trans (hk k j q)
      have g2 := e_22 R2
      refine t_X8_up_L49 (B := B) (σ0 := s2) (s1 45 12) ?_ zF F s2 (by rw [zF_eq]; omega) (R8_own R2)
      intro F5 s5 R5
      have g5 := e_22 R5
      refine q_eq (fun h4 => ?_) (fun h4 => ?_)
      · refine q_zu8 R5 s_45_35 (fun s8 R8 E8 F8 => ?_)
        refine q_es (fun s hs => ?_)
        rw [hs]
        exact q_some ⟨yE_tr2 k2 (yE_end R8 (by decide)), trivial⟩
      · refine q_zu8 R5 s_45_36 (fun s6 R6 E6 F6 => ?_)
        refine q_bindR (t_X8_back _ (R8_own R6) (by omega)) (fun _ s7 hE7 h39 => ?_)
        obtain ⟨⟨F7, R7, hF7⟩, hk7⟩ := hE7
        have e7 : (s7 45 39).toInt = (σ 45 39).toInt + 1 := by
          rw [h39, R6.2.2.1 45 39 (by unfold y8K; omega), R2.2.2.1 45 39 (by unfold y8K; omega), e1, e]
        exact ih F7 s7 (by omega) R7 hF7 (fun k j q => ((hk7 k j q).trans (R6.2.2.1 k j (y8_LK q))).trans (k2 k j q))
theorem t_X8_up {B F : Int} {σ : zS} (h0 : yR8 B F σ σ) (hE : (σ 45 40).toInt < 0 → 1 ≤ F) : yT (f_X8_up σ) (fun _ τ => yE B σ τ ∧ True) := by
  have g39 := e_39 h0
  exact t_X8_up_L0 zF F σ (by rw [zF_eq]; omega) h0 hE (fun _ _ _ => rfl)
def y8N (k j : Nat) : Prop := k < 45 ∨ 64 ≤ k ∨ (49 ≤ k ∧ k ≤ 55) ∨ (k = 45 ∧ (j = 2 ∨ j = 3 ∨ j = 4 ∨ j = 5 ∨ j = 14))
theorem y8_NL {k j : Nat} (h : y8N k j) : y8L k j := by unfold y8N at h; unfold y8L; omega
theorem t_X8_run_L164 {B : Int} {σ0 : zS} : ∀ (n : Nat) (x1 x2 x3 x4 : Int32) (F : Int) (σ : zS), F.toNat < n → yR8 B F σ0 σ → yT (f_X8_run_L164 n x1 x2 x3 x4 σ) (fun _ τ => (∃ F2, yR8 B F2 σ0 τ) ∧ True) := by
  intro n
  induction n with
  | zero => intro x1 x2 x3 x4 F σ hm; omega
  | succ n ih =>
    intro x1 x2 x3 x4 F σ hm h0
    rw [f_X8_run_L164]
    have g := e_22 h0
    have l0 : (0 : Int32).toInt = 0 := rfl
    refine q_le (fun h1 => q_some ⟨⟨F, h0⟩, trivial⟩) (fun h1 => ?_)
    refine q_bindR (t_X8_leave h0 (by omega)) (fun _ s R _ => ?_)
    exact ih x1 x2 x3 x4 (F - 1) s (by omega) R
theorem t_X8_run_L118 {B1 : Int} (hB1 : B1 ≤ 1000000) {σ0 : zS} : ∀ (n : Nat) (x1 x2 x3 x4 : Int32) (B F : Int) (σ : zS), ((0 ≤ (σ 45 40).toInt ∧ 1 ≤ n) ∨ (302 - (σ 45 33).toInt).toNat ≤ n) → B + 300 - (σ 45 33).toInt ≤ B1 → yR8 B F σ σ → ((σ 45 40).toInt < 0 → 1 ≤ F) → (∀ k j, y8N k j → σ k j = σ0 k j) → yT (f_X8_run_L118 n x1 x2 x3 x4 σ) (fun _ τ => ∃ F2, yR8 B1 F2 τ τ ∧ ∀ k j, y8N k j → τ k j = σ0 k j) := by
  intro n
  induction n with
  | zero =>
    intro x1 x2 x3 x4 B F σ hm hB h0
    have g := e_33 h0
    omega
  | succ n ih =>
    intro x1 x2 x3 x4 B F σ hm hB h0 hE hk
    rw [f_X8_run_L118]
    have g := e_33 h0
    have g22 := e_22 h0
    have l0 : (0 : Int32).toInt = 0 := rfl
    have l300 : (300 : Int32).toInt = 300 := rfl
    refine q_le (fun h1 => ?_) (fun h1 => ?_)
    · refine q_w (t_X8_run_L164 (σ0 := σ) zF x1 x2 x3 x4 F σ (by rw [zF_eq]; omega) h0) (fun r τ h => ?_)
      obtain ⟨⟨F2, R2⟩, -⟩ := h
      exact ⟨F2, R8_B (R8_own R2) (by omega) hB1, fun k j q => (R2.2.2.1 k j (y8_LK (y8_NL q))).trans (hk k j q)⟩
    · refine q_eq (fun h2 => ?_) (fun h2 => ?_)
      · refine q_es (fun s hs => ?_)
        have R1 : yR8 B F s s := by rw [hs]; exact R8_self h0 (by omega) (show (-2147483648 : Int) ≤ (3 : Int32).toInt ∧ (3 : Int32).toInt ≤ 2147483647 by decide)
        have k1 : ∀ k j, ¬ (k = 45 ∧ j = 40) → s k j = σ k j := fun k j q => by rw [hs, zu_rd, if_neg q]
        have e1 : (s 45 40).toInt = 3 := by rw [hs, zu_rd, if_pos ⟨rfl, rfl⟩]; rfl
        exact ih x1 x2 x3 x4 B F s (Or.inl ⟨by omega, by omega⟩) (by rw [k1 45 33 (by omega)]; exact hB) R1 (fun q => by omega) (fun k j q => (k1 k j (by unfold y8N at q; omega)).trans (hk k j q))
      · have e : ((σ 45 33) + (1 : Int32)).toInt = (σ 45 33).toInt + 1 := i_1 (by omega)
        refine q_es (fun s1 hs1 => ?_)
        have R1 : yR8 B F s1 s1 := by rw [hs1]; exact R8_self h0 (by omega) (show 0 ≤ _ ∧ _ ≤ (300 : Int) by rw [e]; omega)
        have k1 : ∀ k j, ¬ (k = 45 ∧ j = 33) → s1 k j = σ k j := fun k j q => by rw [hs1, zu_rd, if_neg q]
        have e1 : (s1 45 33).toInt = (σ 45 33).toInt + 1 := by rw [hs1, zu_rd, if_pos ⟨rfl, rfl⟩, e]
        have hF : 1 ≤ F := hE (by omega)
        refine q_bindR (t_X8_step R1 hF (by omega)) (fun _ s2 E2 _ => ?_)
        obtain ⟨⟨F2, R2, hF2⟩, hk2⟩ := E2
        refine q_bindR (t_X8_up R2 hF2) (fun _ s3 E3 _ => ?_)
        obtain ⟨⟨F3, R3, hF3⟩, hk3⟩ := E3
        have e3 : (s3 45 33).toInt = (σ 45 33).toInt + 1 := by rw [hk3 45 33 (by unfold y8L; omega), hk2 45 33 (by unfold y8L; omega), e1]
        refine ih x1 x2 x3 x4 (B + 1) F3 s3 (Or.inr (by omega)) (by omega) R3 hF3 (fun k j q => ?_)
        rw [hk3 k j (y8_NL q), hk2 k j (y8_NL q), k1 k j (by unfold y8N at q; omega), hk k j q]
theorem t_X8_run_L89 {B B1 : Int} (hB : B + 300 ≤ B1) (hB1 : B1 ≤ 1000000) {σ0 : zS} (x1 x2 x3 : Int32) (hx : 0 ≤ x1.toInt ∧ x1.toInt < 8) : ∀ (n : Nat) (x4 : Int32) (σ : zS), (8 - x4.toInt).toNat < n → 0 ≤ x4.toInt → yR8 B 0 σ σ → (σ 45 40).toInt = -1 → (σ 45 33).toInt = 0 → ¬ σ 52 x1.toNatClampNeg = 0 → (∀ k j, y8N k j → σ k j = σ0 k j) → yT (f_X8_run_L89 n x1 x2 x3 x4 σ) (fun _ τ => ∃ F2, yR8 B1 F2 τ τ ∧ ∀ k j, y8N k j → τ k j = σ0 k j) := by
  intro n
  induction n with
  | zero => intro x4 σ hm; omega
  | succ n ih =>
    intro x4 σ hm hv h0 h40 h33 h52 hk
    rw [f_X8_run_L89]
    have l8 : (8 : Int32).toInt = 8 := rfl
    refine q_le (fun h1 => ?_) (fun h1 => ?_)
    · refine q_bindR (Rl := fun τ => ∃ F2, yR8 B F2 σ τ ∧ (0 : Int) ≤ F2 ∧ (0 ≤ x1.toInt → x1.toInt < 8 → ¬ σ 52 x1.toNatClampNeg = 0 → (0 : Int) < 12 → F2 = 0 + 1)) (R := fun _ τ => ∀ j, j ≠ 22 → j ≠ 38 → j ≠ 12 → τ 45 j = σ 45 j) (t_X8_enter x1 x2 x3 (-1 : Int32) h0) (fun _ s2 E2 k2 => ?_)
      obtain ⟨F2, R2, -, hF2⟩ := E2
      have hF : F2 = 0 + 1 := hF2 hx.1 hx.2 h52 (by omega)
      have a1 : (s2 45 40).toInt = -1 := by rw [k2 40 (by omega) (by omega) (by omega)]; exact h40
      have a2 : (s2 45 33).toInt = 0 := by rw [k2 33 (by omega) (by omega) (by omega)]; exact h33
      exact t_X8_run_L118 hB1 zF x1 x2 x3 x4 B F2 s2 (Or.inr (by rw [zF_eq]; omega)) (by omega) (R8_own R2) (fun _ => by omega) (fun k j q => (R2.2.2.1 k j (y8_LK (y8_NL q))).trans (hk k j q))
    · have e : (x4 + (1 : Int32)).toInt = x4.toInt + 1 := i_1 (by omega)
      refine q_c (by omega) (by omega) ?_
      refine q_zu8 h0 s_63 (fun s R E Fr => ?_)
      refine ih (x4 + (1 : Int32)) s (by omega) (by omega) (R8_own R) ?_ ?_ ?_ (fun k j q => (R.2.2.1 k j (y8_LK (y8_NL q))).trans (hk k j q))
      · rw [Fr _ _ (by omega)]; exact h40
      · rw [Fr _ _ (by omega)]; exact h33
      · rw [Fr _ _ (by omega)]; exact h52
theorem t_X8_run (p0 p1 p2 : Int32) {B B1 F : Int} {σ : zS} (h0 : yR8 B F σ σ) (hB : B + 300 ≤ B1) (hB1 : B1 ≤ 1000000) : yT (f_X8_run p0 p1 p2 σ) (fun _ τ => ∃ F2, yR8 B1 F2 τ τ ∧ ∀ k j, y8N k j → τ k j = σ k j) := by
  unfold f_X8_run
  have l0 : (0 : Int32).toInt = 0 := rfl
  have l7 : (7 : Int32).toInt = 7 := rfl
  refine q_es (fun s1 hs1 => ?_)
  have R1 : yR8 B F s1 s1 := by rw [hs1]; exact R8_self h0 (by omega) (show (-2147483648 : Int) ≤ (0 : Int32).toInt ∧ (0 : Int32).toInt ≤ 2147483647 by decide)
  have k1 : ∀ k j, y8N k j → s1 k j = σ k j := fun k j q => by rw [hs1, zu_rd, if_neg (by unfold y8N at q; omega)]
  have out : yT (some ((-1 : Int32), s1)) (fun _ τ => ∃ F2, yR8 B1 F2 τ τ ∧ ∀ k j, y8N k j → τ k j = σ k j) := q_some ⟨F, R8_B R1 (by omega) hB1, k1⟩
  refine q_lt (fun h1 => out) (fun h1 => ?_)
  refine q_lt (fun h2 => out) (fun h2 => ?_)
  refine q_c (by omega) (by omega) ?_
  by_cases h3 : s1 52 p0.toNatClampNeg = 0
  · rw [if_pos h3]; exact out
  rw [if_neg h3]
  have g1 := e_22 R1
  refine q_es (fun s2 hs2 => ?_)
  have R2 : yR8 B 0 s1 s2 := by rw [hs2]; exact R8_fr (v := 0) R1 (by rw [l0]; omega)
  refine q_es (fun s3 hs3 => ?_)
  have R3 : yR8 B 0 s1 s3 := by rw [hs3]; exact R8_hi (v := 0) R2 (by rw [l0]; omega) (fun j hj => by omega)
  refine q_zu8 R3 (s_45_31 (by rw [l0]; omega)) (fun s4 R4 E4 F4 => ?_)
  refine q_es (fun s5 hs5 => ?_)
  have R5 : yR8 B 0 s5 s5 := by rw [hs5]; exact R8_self R4 (by omega) (show (0 : Int) ≤ (0 : Int32).toInt ∧ (0 : Int32).toInt ≤ 300 by decide)
  have k5 : ∀ k j, y8N k j → s5 k j = σ k j := fun k j q => by rw [hs5, zu_rd, if_neg (by unfold y8N at q; omega), R4.2.2.1 k j (y8_LK (y8_NL q))]; exact k1 k j q
  have e5 : s5 45 33 = 0 := by rw [hs5, zu_rd, if_pos ⟨rfl, rfl⟩]
  refine q_zu8 R5 s_45_34 (fun s6 R6 E6 F6 => ?_)
  refine q_zu8 R6 s_45_35 (fun s7 R7 E7 F7 => ?_)
  refine q_zu8 R7 s_45_36 (fun s8 R8 E8 F8 => ?_)
  refine q_zu8 R8 s_45_37 (fun s9 R9 E9 F9 => ?_)
  refine q_zu8 R9 s_45_38 (fun s10 R10 E10 F10 => ?_)
  refine q_es (fun s11 hs11 => ?_)
  have R11 : yR8 B 0 s11 s11 := by rw [hs11]; exact R8_self R10 (by omega) (show (0 : Int) ≤ (0 : Int32).toInt ∧ (0 : Int32).toInt ≤ 12 by decide)
  have k11 : ∀ k j, y8N k j → s11 k j = σ k j := fun k j q => by rw [hs11, zu_rd, if_neg (by unfold y8N at q; omega), R10.2.2.1 k j (y8_LK (y8_NL q))]; exact k5 k j q
  have e11 : s11 45 33 = 0 := by rw [hs11, zu_rd, if_neg (by omega), R10.2.2.1 45 33 (by unfold y8K; omega), e5]
  refine q_zu8 R11 s_45_12 (fun s12 R12 E12 F12 => ?_)
  refine q_es (fun s13 hs13 => ?_)
  have R13 : yR8 B 0 s13 s13 := by rw [hs13]; exact R8_self R12 (by omega) (show (-2147483648 : Int) ≤ (-1 : Int32).toInt ∧ (-1 : Int32).toInt ≤ 2147483647 by decide)
  have k13 : ∀ k j, y8N k j → s13 k j = σ k j := fun k j q => by rw [hs13, zu_rd, if_neg (by unfold y8N at q; omega), R12.2.2.1 k j (y8_LK (y8_NL q))]; exact k11 k j q
  have e13 : s13 45 33 = 0 := by rw [hs13, zu_rd, if_neg (by omega), R12.2.2.1 45 33 (by unfold y8K; omega), e11]
  have e40 : s13 45 40 = -1 := by rw [hs13, zu_rd, if_pos ⟨rfl, rfl⟩]
  refine t_X8_run_L89 hB hB1 p0 p1 p2 (by omega) zF (0 : Int32) s13 (by rw [zF_eq, l0]; omega) (by rw [l0]; omega) R13 (by rw [e40]; rfl) (by rw [e13]; rfl) ?_ k13
  rw [k13 52 _ (by unfold y8N; omega), ← k1 52 _ (by unfold y8N; omega)]
  exact h3
