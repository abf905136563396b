/-! what copy answers -/
def yct (sz dy x y : Int) : Nat → Int → Int
  | 0, _ => 1
  | m + 1, i => if 0 ≤ x + i ∧ x + i < sz then (if 0 ≤ y + i ∧ y + i < sz then (if dy ≤ y + i then -13 else yct sz dy x y m (i + 1)) else -12) else -12
theorem zIM_zu {σ : zS} {j : Nat} {v : Int32} (I : zIM σ) : zIM (zu σ 2 j (v &&& 255)) := by
  obtain ⟨I1, I2, I3, I4⟩ := I
  have e : ∀ i, zu σ 2 j (v &&& 255) 1 i = σ 1 i := fun i => by rw [zu_rd, if_neg (by omega)]
  refine ⟨by rw [e]; exact I1, by rw [e, e]; exact I2, by rw [e]; exact I3, fun i => ?_⟩
  rw [zu_rd]
  by_cases q : 2 = 2 ∧ i = j
  · rw [if_pos q]; exact i_255 v
  · rw [if_neg q]; exact I4 i
theorem c_turn (x1 x2 x3 : Int32) (h1 : 0 ≤ x1.toInt ∧ x1.toInt < 100000) (h2 : 0 ≤ x2.toInt ∧ x2.toInt < 100000) (h3 : x3.toInt < 100000) : ∀ (m n : Nat) (x4 : Int32) (σ : zS), m < n → (x3.toInt - x4.toInt).toNat = m → 0 ≤ x4.toInt → zIM σ → ∃ r τ, f_X3_copyInTurn_L3 n x1 x2 x3 x4 σ = some (r, τ) ∧ r.toInt = yct (σ 1 1).toInt (σ 1 2).toInt x1.toInt x2.toInt m x4.toInt := by
  intro m
  induction m with
  | zero =>
    intro n x4 σ hn hm h4 I
    obtain ⟨n, rfl⟩ : ∃ k, n = k + 1 := ⟨n - 1, by omega⟩
    rw [f_X3_copyInTurn_L3, if_pos (by rw [i_le]; omega)]
    exact ⟨_, _, rfl, rfl⟩
  | succ m ih =>
    intro n x4 σ hn hm h4 I
    obtain ⟨n, rfl⟩ : ∃ k, n = k + 1 := ⟨n - 1, by omega⟩
    have e1 : (x1 + x4).toInt = x1.toInt + x4.toInt := i_add (by omega) (by omega)
    have e2 : (x2 + x4).toInt = x2.toInt + x4.toInt := i_add (by omega) (by omega)
    have e4 : (x4 + (1 : Int32)).toInt = x4.toInt + 1 := i_1 (by omega)
    rw [f_X3_copyInTurn_L3, if_neg (by rw [i_le]; omega), yct]
    by_cases hx : zin1 σ (x1 + x4)
    · have hx' : 0 ≤ x1.toInt + x4.toInt ∧ x1.toInt + x4.toInt < (σ 1 1).toInt := by rw [← e1]; exact hx
      rw [(p_byteAt I).1 hx, zbind_some, if_pos (by rw [i_le, t_0]; exact (I.2.2.2 _).1), if_pos hx']
      by_cases hy : zin1 σ (x2 + x4)
      · have hy' : 0 ≤ x2.toInt + x4.toInt ∧ x2.toInt + x4.toInt < (σ 1 1).toInt := by rw [← e2]; exact hy
        rw [if_pos hy']
        by_cases hs : (σ 1 2).toInt ≤ x2.toInt + x4.toInt
        · rw [((p_setByte I).2 hy).1 ⟨rfl, by rw [e2]; exact hs⟩, zbind_some, if_neg (by decide), if_pos hs]
          exact ⟨_, _, rfl, rfl⟩
        · rw [((p_setByte I).2 hy).2 (fun z => hs (by rw [← e2]; exact z.2)), zbind_some, if_pos (by decide), if_neg hs]
          obtain ⟨r, τ, f1, f2⟩ := ih n (x4 + (1 : Int32)) (zu σ 2 (x2 + x4).toInt.toNat (σ 2 (x1 + x4).toInt.toNat &&& 255)) (by omega) (by omega) (by omega) (zIM_zu I)
          refine ⟨r, τ, f1, ?_⟩
          rw [f2, e4, zu_rd, if_neg (by omega), zu_rd, if_neg (by omega)]
      · rw [(p_setByte I).1 hy, zbind_some, if_neg (by decide), if_neg (fun z => hy (by unfold zin1; rw [e2]; exact z))]
        exact ⟨_, _, rfl, rfl⟩
    · rw [(p_byteAt I).2 hx, zbind_some, if_neg (by decide), if_neg (fun z => hx (by unfold zin1; rw [e1]; exact z))]
      exact ⟨_, _, rfl, rfl⟩
def yab (n : Int) : Int := if 0 ≤ n then n else -n
def ycp (sz dy x y n : Int) : Int := if n = 0 then 1 else if y = 0 then (if 0 ≤ x ∧ x + yab n ≤ sz then (if dy < x + yab n then -13 else 1) else -12) else if 0 < n then (if (0 ≤ x ∧ x + n ≤ sz) ∧ (0 ≤ y ∧ y + n ≤ sz) then (if dy < y + n then -13 else 1) else -12) else yct sz dy x y (-n).toNat 0
theorem a_X3_copyTable (p0 p1 p2 : Int32) {σ0 σ s : zS} {r : Int32} (h : yR σ0 σ) (h1 : 0 ≤ p0.toInt ∧ p0.toInt < 100000) (h2 : 0 ≤ p1.toInt ∧ p1.toInt < 100000) (h3 : -100000 < p2.toInt ∧ p2.toInt < 100000) (e : f_X3_copyTable p0 p1 p2 σ = some (r, s)) : r.toInt = ycp (σ 1 1).toInt (σ 1 2).toInt p0.toInt p1.toInt p2.toInt := by
  have I := yR_IM h
  unfold f_X3_copyTable at e
  unfold ycp
  have z2 : p2 = 0 ↔ p2.toInt = 0 := by rw [i_eq, t_0]
  have z1 : p1 = 0 ↔ p1.toInt = 0 := by rw [i_eq, t_0]
  by_cases q : p2 = 0
  · rw [if_pos q] at e
    cases e
    rw [if_pos (z2.mp q)]; rfl
  rw [if_neg q] at e
  rw [if_neg (fun z => q (z2.mpr z))]
  have q' : p2.toInt ≠ 0 := fun z => q (z2.mpr z)
  by_cases q1 : p1 = 0
  · rw [if_pos q1] at e
    rw [if_pos (z1.mp q1)]
    have ea : (if 0 ≤ p2 then p2 else 0 - p2).toInt = yab p2.toInt := by
      unfold yab
      by_cases c : 0 ≤ p2
      · rw [if_pos c, if_pos (by rw [i_le, t_0] at c; exact c)]
      · rw [if_neg c, if_neg (by rw [i_le, t_0] at c; exact c), i_sub (by rw [t_0]; omega) (by rw [t_0]; omega), t_0]; omega
    have hn : 0 < yab p2.toInt ∧ yab p2.toInt < 100000 := by unfold yab; split <;> omega
    rw [← ea] at hn ⊢
    generalize (if 0 ≤ p2 then p2 else 0 - p2) = w at *
    have P := p_wipe I hn.1 hn.2 h1.1 h1.2
    unfold zinN at P
    by_cases c : 0 ≤ p0.toInt ∧ p0.toInt + w.toInt ≤ (σ 1 1).toInt
    · rw [if_pos c]
      by_cases d : (σ 1 2).toInt < p0.toInt + w.toInt
      · rw [(P.2 c).1 d, zbind_some] at e
        cases e
        rw [if_pos d]; rfl
      · rw [(P.2 c).2 (by omega), zbind_some] at e
        cases e
        rw [if_neg d]; rfl
    · rw [P.1 c, zbind_some] at e
      cases e
      rw [if_neg c]; rfl
  rw [if_neg q1] at e
  rw [if_neg (fun z => q1 (z1.mpr z))]
  by_cases q3 : p2 ≤ 0
  · rw [if_pos q3] at e
    rw [i_le, t_0] at q3
    rw [if_neg (by omega)]
    have en : (-p2).toInt = -p2.toInt := i_neg (by omega)
    obtain ⟨r2, τ2, f1, f2⟩ := c_turn p0 p1 (-p2) h1 h2 (by omega) (-p2.toInt).toNat zF 0 σ (by rw [zF_eq]; omega) (by rw [en, t_0]; omega) (by rw [t_0]; omega) I
    unfold f_X3_copyInTurn at e
    rw [f1, zbind_some] at e
    cases e
    rw [f2, t_0]
  · rw [if_neg q3] at e
    rw [i_le, t_0] at q3
    rw [if_pos (by omega)]
    have P := p_copyAtOnce I (by omega) (by omega) h1.1 h1.2 h2.1 h2.2 (n := p2)
    unfold zinN at P
    by_cases c : (0 ≤ p0.toInt ∧ p0.toInt + p2.toInt ≤ (σ 1 1).toInt) ∧ (0 ≤ p1.toInt ∧ p1.toInt + p2.toInt ≤ (σ 1 1).toInt)
    · rw [if_pos c]
      by_cases d : (σ 1 2).toInt < p1.toInt + p2.toInt
      · rw [(P.2 c).1 d, zbind_some] at e
        cases e
        rw [if_pos d]; rfl
      · rw [(P.2 c).2 (by omega), zbind_some] at e
        cases e
        rw [if_neg d]; rfl
    · rw [P.1 c, zbind_some] at e
      cases e
      rw [if_neg c]; rfl
theorem a_X7_copy (p0 p1 p2 : Int32) {σ0 σ s : zS} {r : Int32} (h : yR σ0 σ) (e : f_X7_copy p0 p1 p2 σ = some (r, s)) : r.toInt = ycp (σ 1 1).toInt (σ 1 2).toInt (p0 &&& 65535).toInt (p1 &&& 65535).toInt p2.toInt16.toInt32.toInt := by
  have b0 := i_65535 p0
  have b1 := i_65535 p1
  have b2 := i_short p2
  have e2 : zbind (f_X3_copyTable (p0 &&& 65535) (p1 &&& 65535) p2.toInt16.toInt32 σ) (fun v4 s4 => some (v4, s4)) = some (r, s) := e
  obtain ⟨a, τ, f1, f2⟩ := zb_some e2
  cases f2
  exact a_X3_copyTable _ _ _ h (by omega) (by omega) (by omega) f1
/-- the reference: one by one -/
theorem p8_read0 (p0 : Int32) {B F : Int} {σ0 σ : zS} (h : yR8 B F σ0 σ) : (0 ≤ p0.toInt ∧ p0.toInt < (σ 45 2).toInt → f_X8_read p0 0 σ = some (σ 46 p0.toNatClampNeg, σ)) ∧ (¬ (0 ≤ p0.toInt ∧ p0.toInt < (σ 45 2).toInt) → f_X8_read p0 0 σ = some (0, zu σ 45 12 2)) := by
  have g := e_sz h
  unfold f_X8_read
  rw [if_pos rfl]
  refine ⟨fun q => ?_, fun q => ?_⟩
  · rw [(p8_there p0 1 σ).1 (by rw [l8_1]; omega), zbind_some, if_neg (by decide), if_pos rfl, zc_ok q.1 (by omega)]
  · rw [(p8_there p0 1 σ).2 (by rw [l8_1]; omega), zbind_some, if_pos rfl]
theorem c8_out (x1 x2 x3 x4 x5 : Int32) (n : Nat) {σ : zS} (h : ¬ σ 45 12 = 0) : f_X8_copied_L89 (n + 1) x1 x2 x3 x4 x5 σ = some ((), σ) := by
  rw [f_X8_copied_L89]
  by_cases q : x4 ≤ x5
  · rw [if_pos q]
  · rw [if_neg q, if_neg h]
theorem c8_turn (x1 x2 x3 x4 : Int32) (h1 : 0 ≤ x1.toInt ∧ x1.toInt < 100000) (h2 : 0 ≤ x2.toInt ∧ x2.toInt < 100000) (h3 : x4.toInt < 100000) {B F : Int} {σ0 : zS} : ∀ (m n : Nat) (x5 : Int32) (σ : zS), m + 1 < n → (x4.toInt - x5.toInt).toNat = m → 0 ≤ x5.toInt → yR8 B F σ0 σ → σ 45 12 = 0 → ∃ τ, f_X8_copied_L89 n x1 x2 x3 x4 x5 σ = some ((), τ) ∧ (y8ans τ).toInt = yct (σ 45 2).toInt (σ 45 3).toInt x1.toInt x2.toInt m x5.toInt := by
  intro m
  induction m with
  | zero =>
    intro n x5 σ hn hm h5 R h0
    obtain ⟨n, rfl⟩ : ∃ k, n = k + 1 := ⟨n - 1, by omega⟩
    rw [f_X8_copied_L89, if_pos (by rw [i_le]; omega)]
    exact ⟨_, rfl, by rw [y8ans_0 h0]; rfl⟩
  | succ m ih =>
    intro n x5 σ hn hm h5 R h0
    obtain ⟨n, rfl⟩ : ∃ k, n = k + 1 + 1 := ⟨n - 2, by omega⟩
    have e1 : (x1 + x5).toInt = x1.toInt + x5.toInt := i_add (by omega) (by omega)
    have e2 : (x2 + x5).toInt = x2.toInt + x5.toInt := i_add (by omega) (by omega)
    have e5 : (x5 + (1 : Int32)).toInt = x5.toInt + 1 := i_1 (by omega)
    have u2 : ∀ s : zS, ¬ zu s 45 12 2 45 12 = 0 := fun s => by rw [zu_rd, if_pos ⟨rfl, rfl⟩]; decide
    have u3 : ∀ s : zS, ¬ zu s 45 12 3 45 12 = 0 := fun s => by rw [zu_rd, if_pos ⟨rfl, rfl⟩]; decide
    rw [f_X8_copied_L89, if_neg (by rw [i_le]; omega), if_pos h0, yct]
    by_cases hx : 0 ≤ x1.toInt + x5.toInt ∧ x1.toInt + x5.toInt < (σ 45 2).toInt
    · rw [(p8_read0 (x1 + x5) R).1 (by rw [e1]; exact hx), zbind_some, if_pos h0, if_pos hx]
      obtain ⟨τ, f1, w1, w2⟩ := p8_write (x2 + x5) (σ 46 (x1 + x5).toNatClampNeg) 0 0 R
      rw [if_pos rfl, e2] at w1 w2
      rw [f1, zbind_some]
      by_cases hy : 0 ≤ x2.toInt + x5.toInt ∧ x2.toInt + x5.toInt < (σ 45 2).toInt
      · rw [if_pos hy]
        by_cases hs : (σ 45 3).toInt ≤ x2.toInt + x5.toInt
        · rw [if_pos hs, (w2 (by omega)).1 ⟨t_0, by omega⟩]
          exact ⟨_, c8_out x1 x2 x3 x4 _ n (u3 σ), by rw [y8ans_3]; rfl⟩
        · rw [if_neg hs]
          have k := (w2 (by omega)).2 (fun z => hs (by have := z.2; omega))
          have Rτ : yR8 B F σ0 τ := (yT_det (t_X8_write (x2 + x5) (σ 46 (x1 + x5).toNatClampNeg) 0 0 R) f1).1
          obtain ⟨τ2, f2, f3⟩ := ih (n + 1) (x5 + (1 : Int32)) τ (by omega) (by omega) (by omega) Rτ (by rw [k 12]; exact h0)
          refine ⟨τ2, f2, ?_⟩
          rw [f3, e5, k 2, k 3]
      · rw [if_neg hy, w1 (by omega)]
        exact ⟨_, c8_out x1 x2 x3 x4 _ n (u2 σ), by rw [y8ans_2]; rfl⟩
    · rw [(p8_read0 (x1 + x5) R).2 (by rw [e1]; exact hx), zbind_some, if_neg (u2 σ), if_neg hx]
      exact ⟨_, c8_out x1 x2 x3 x4 _ n (u2 σ), by rw [y8ans_2]; rfl⟩
/-- the reference: loops that write alone leave the FAULT -/
theorem c8_51 (x1 x2 x3 x4 : Int32) {B F : Int} {σ0 : zS} : ∀ (n : Nat) (x5 : Int32) (σ τ : zS), f_X8_copied_L51 n x1 x2 x3 x4 x5 σ = some ((), τ) → τ 45 12 = σ 45 12 := by
  intro n
  induction n with
  | zero => intro x5 σ τ e; rw [f_X8_copied_L51] at e; cases e
  | succ n ih =>
    intro x5 σ τ e
    rw [f_X8_copied_L51] at e
    by_cases q : x4 ≤ x5
    · rw [if_pos q] at e; cases e; rfl
    · rw [if_neg q] at e
      by_cases q2 : σ 45 12 = 0
      · rw [if_pos q2] at e
        have e2 := ih _ _ _ (zc_some e).2
        rw [e2, zu_rd, if_neg (by omega)]
      · rw [if_neg q2] at e; cases e; rfl
theorem c8_218 (x1 x2 x3 x4 : Int32) : ∀ (n : Nat) (x5 : Int32) (σ τ : zS), f_X8_copied_L218 n x1 x2 x3 x4 x5 σ = some ((), τ) → τ 45 12 = σ 45 12 := by
  intro n
  induction n with
  | zero => intro x5 σ τ e; rw [f_X8_copied_L218] at e; cases e
  | succ n ih =>
    intro x5 σ τ e
    rw [f_X8_copied_L218] at e
    by_cases q : x4 ≤ x5
    · rw [if_pos q] at e; cases e; rfl
    · rw [if_neg q] at e
      by_cases q2 : σ 45 12 = 0
      · rw [if_pos q2] at e
        have e2 := ih _ _ _ (zc_some (zc_some e).2).2
        rw [e2, zu_rd, if_neg (by omega)]
      · rw [if_neg q2] at e; cases e; rfl
theorem c8_179 (x1 x2 x3 x4 : Int32) : ∀ (n : Nat) (x5 : Int32) (σ τ : zS), f_X8_copied_L179 n x1 x2 x3 x4 x5 σ = some ((), τ) → τ 45 12 = σ 45 12 := by
  intro n
  induction n with
  | zero => intro x5 σ τ e; rw [f_X8_copied_L179] at e; cases e
  | succ n ih =>
    intro x5 σ τ e
    rw [f_X8_copied_L179] at e
    by_cases q : x4 ≤ x5
    · rw [if_pos q] at e; exact c8_218 x1 x2 x3 x4 _ _ _ _ e
    · rw [if_neg q] at e
      by_cases q2 : σ 45 12 = 0
      · rw [if_pos q2] at e
        have e2 := ih _ _ _ (zc_some (zc_some e).2).2
        rw [e2, zu_rd, if_neg (by omega)]
      · rw [if_neg q2] at e; exact c8_218 x1 x2 x3 x4 _ _ _ _ e
theorem y8ans_eq {σ τ : zS} (h : τ 45 12 = σ 45 12) : y8ans τ = y8ans σ := by unfold y8ans; rw [h]
/-- y is 0 -/
theorem c8_wipe (x y n w : Int32) {B F : Int} {σ0 σ τ : zS} (R : yR8 B F σ0 σ) (h0 : σ 45 12 = 0) (hw : 0 < w.toInt ∧ w.toInt < 100000) (e : zbind (f_X8_isThere x w σ) (fun v s8 => if v = 0 then f_X8_copied_L51 zF x y n w (0 : Int32) s8 else (if (x + w) ≤ (s8 45 3) then f_X8_copied_L51 zF x y n w (0 : Int32) s8 else zlet (zu s8 45 12 (3 : Int32)) fun s10 => f_X8_copied_L51 zF x y n w (0 : Int32) s10)) = some ((), τ)) : (y8ans τ).toInt = if 0 ≤ x.toInt ∧ x.toInt + w.toInt ≤ (σ 45 2).toInt then (if (σ 45 3).toInt < x.toInt + w.toInt then -13 else 1) else -12 := by
  have g := e_sz R
  by_cases c : 0 ≤ x.toInt ∧ x.toInt + w.toInt ≤ (σ 45 2).toInt
  · rw [if_pos c]
    rw [(p8_there x w σ).1 c, zbind_some, if_neg (by decide)] at e
    have ex : (x + w).toInt = x.toInt + w.toInt := i_add (by omega) (by omega)
    by_cases d : (σ 45 3).toInt < x.toInt + w.toInt
    · rw [if_neg (by rw [i_le, ex]; omega)] at e
      rw [if_pos d, y8ans_eq (c8_51 (B := B) (F := F) (σ0 := σ0) x y n w _ _ _ _ e), y8ans_3]; rfl
    · rw [if_pos (by rw [i_le, ex]; omega)] at e
      rw [if_neg d, y8ans_eq (c8_51 (B := B) (F := F) (σ0 := σ0) x y n w _ _ _ _ e), y8ans_0 h0]; rfl
  · rw [if_neg c]
    rw [(p8_there x w σ).2 c, zbind_some, if_pos rfl] at e
    rw [y8ans_eq (c8_51 (B := B) (F := F) (σ0 := σ0) x y n w _ _ _ _ e), y8ans_2]; rfl
/-- all at once -/
theorem c8_once (x y n w : Int32) {B F : Int} {σ0 σ τ : zS} (R : yR8 B F σ0 σ) (h0 : σ 45 12 = 0) (hw : 0 < w.toInt ∧ w.toInt < 100000) (e : zbind (f_X8_isThere x w σ) (fun v1 s1 => if v1 = 0 then f_X8_copied_L179 zF x y n w (0 : Int32) s1 else (zbind (f_X8_isThere y w s1) fun v2 s4 => if v2 = 0 then f_X8_copied_L179 zF x y n w (0 : Int32) s4 else (if (y + w) ≤ (s4 45 3) then f_X8_copied_L179 zF x y n w (0 : Int32) s4 else zlet (zu s4 45 12 (3 : Int32)) fun s5 => f_X8_copied_L179 zF x y n w (0 : Int32) s5))) = some ((), τ)) : (y8ans τ).toInt = if (0 ≤ x.toInt ∧ x.toInt + w.toInt ≤ (σ 45 2).toInt) ∧ (0 ≤ y.toInt ∧ y.toInt + w.toInt ≤ (σ 45 2).toInt) then (if (σ 45 3).toInt < y.toInt + w.toInt then -13 else 1) else -12 := by
  have g := e_sz R
  by_cases c : 0 ≤ x.toInt ∧ x.toInt + w.toInt ≤ (σ 45 2).toInt
  · rw [(p8_there x w σ).1 c, zbind_some, if_neg (by decide)] at e
    by_cases c2 : 0 ≤ y.toInt ∧ y.toInt + w.toInt ≤ (σ 45 2).toInt
    · rw [if_pos ⟨c, c2⟩]
      rw [(p8_there y w σ).1 c2, zbind_some, if_neg (by decide)] at e
      have ey : (y + w).toInt = y.toInt + w.toInt := i_add (by omega) (by omega)
      by_cases d : (σ 45 3).toInt < y.toInt + w.toInt
      · rw [if_neg (by rw [i_le, ey]; omega)] at e
        rw [if_pos d, y8ans_eq (c8_179 x y n w _ _ _ _ e), y8ans_3]; rfl
      · rw [if_pos (by rw [i_le, ey]; omega)] at e
        rw [if_neg d, y8ans_eq (c8_179 x y n w _ _ _ _ e), y8ans_0 h0]; rfl
    · rw [if_neg (fun z => c2 z.2)]
      rw [(p8_there y w σ).2 c2, zbind_some, if_pos rfl] at e
      rw [y8ans_eq (c8_179 x y n w _ _ _ _ e), y8ans_2]; rfl
  · rw [if_neg (fun z => c z.1)]
    rw [(p8_there x w σ).2 c, zbind_some, if_pos rfl] at e
    rw [y8ans_eq (c8_179 x y n w _ _ _ _ e), y8ans_2]; rfl
theorem a_X8_copied (p0 p1 p2 : Int32) {B F : Int} {σ0 σ τ : zS} (R : yR8 B F σ0 σ) (h0 : σ 45 12 = 0) (h1 : 0 ≤ p0.toInt ∧ p0.toInt < 100000) (h2 : 0 ≤ p1.toInt ∧ p1.toInt < 100000) (h3 : -90000 < p2.toInt ∧ p2.toInt < 90000) (e : f_X8_copied p0 p1 p2 σ = some ((), τ)) : (y8ans τ).toInt = ycp (σ 45 2).toInt (σ 45 3).toInt p0.toInt p1.toInt p2.toInt := by
  unfold f_X8_copied at e
  unfold ycp
  have z1 : p1 = 0 ↔ p1.toInt = 0 := by rw [i_eq, t_0]
  by_cases q : 0 ≤ p2
  · rw [if_pos q] at e
    have q' := q
    rw [i_le, t_0] at q'
    have ya : yab p2.toInt = p2.toInt := if_pos q'
    by_cases z : p2 = 0
    · rw [if_pos z] at e
      cases e
      rw [if_pos (by rw [z]; rfl), y8ans_0 h0]; rfl
    · have z' : ¬ p2.toInt = 0 := fun w => z (by rw [i_eq, t_0]; exact w)
      rw [if_neg z] at e
      rw [if_neg z']
      by_cases q1 : p1 = 0
      · rw [if_pos q1] at e
        rw [if_pos (z1.mp q1), ya]
        exact c8_wipe p0 p1 p2 p2 R h0 (by omega) e
      · rw [if_neg q1, if_pos q] at e
        rw [if_neg (fun w => q1 (z1.mpr w)), if_pos (by omega)]
        exact c8_once p0 p1 p2 p2 R h0 (by omega) e
  · rw [if_neg q] at e
    have q' := q
    rw [i_le, t_0] at q'
    have en : (-p2).toInt = -p2.toInt := i_neg (by omega)
    have ya : yab p2.toInt = (-p2).toInt := by rw [en]; exact if_neg q'
    rw [if_neg (by rw [i_eq, en, t_0]; omega)] at e
    rw [if_neg (by omega)]
    by_cases q1 : p1 = 0
    · rw [if_pos q1] at e
      rw [if_pos (z1.mp q1), ya]
      exact c8_wipe p0 p1 p2 (-p2) R h0 (by omega) e
    · rw [if_neg q1, if_neg q] at e
      rw [if_neg (fun w => q1 (z1.mpr w)), if_neg (by omega)]
      obtain ⟨τ2, f1, f2⟩ := c8_turn p0 p1 p2 (-p2) h1 h2 (by omega) (-p2.toInt).toNat zF 0 σ (by rw [zF_eq]; omega) (by rw [en, t_0]; omega) (by rw [t_0]; omega) R h0
      rw [f1] at e
      cases e
      rw [f2, t_0]
/-- the reference's NUMBER is the class' -/
theorem sgn_eq (p : Int32) : p.toInt16.toInt32 = (if (p &&& 65535) < 32768 then p &&& 65535 else (p &&& 65535) - 65536) := by
  have l1 : (32768 : Int32).toInt = 32768 := rfl
  have l2 : (65536 : Int32).toInt = 65536 := rfl
  have hb := i_65535 p
  have hN : (p &&& 65535).toInt = ((p.toBitVec.toNat % 2 ^ 16 : Nat) : Int) := i_and p 16 (by decide) (by omega)
  have hp : p.toInt = (p.toBitVec.toNat : Int) ∨ p.toInt = (p.toBitVec.toNat : Int) - 4294967296 := by
    have h : p.toInt = _ := BitVec.toInt_eq_toNat_cond p.toBitVec
    by_cases c : 2 * p.toBitVec.toNat < 2 ^ 32
    · rw [if_pos c] at h; exact Or.inl h
    · rw [if_neg c] at h; exact Or.inr h
  have key : p.toInt % 65536 = (p &&& 65535).toInt := by
    rw [hN]
    rcases hp with h | h <;> rw [h] <;> omega
  rw [i_eq, Int16.toInt_toInt32, Int32.toInt_toInt16]
  have hm : Int.bmod p.toInt (2 ^ 16) = if p.toInt % 65536 < 32768 then p.toInt % 65536 else p.toInt % 65536 - 65536 := rfl
  rw [hm, key]
  by_cases c : (p &&& 65535) < 32768
  · rw [if_pos c, if_pos (by rw [i_lt, l1] at c; exact c)]
  · rw [if_neg c, if_neg (by rw [i_lt, l1] at c; exact c), i_sub (by omega) (by omega), l2]
theorem p8_signed (p : Int32) (σ : zS) : f_X8_signed p σ = some (p.toInt16.toInt32, σ) := by
  rw [sgn_eq]
  unfold f_X8_signed
  show (if (p &&& 65535) < 32768 then some (p &&& 65535, σ) else some ((p &&& 65535) - 65536, σ)) = _
  by_cases c : (p &&& 65535) < 32768
  · rw [if_pos c, if_pos c]
  · rw [if_neg c, if_neg c]
theorem a_X8_copy (p0 p1 p2 : Int32) {B F : Int} {σ0 σ s : zS} {r : Int32} (h : yR8 B F σ0 σ) (e : f_X8_copy p0 p1 p2 σ = some (r, s)) : r.toInt = ycp (σ 45 2).toInt (σ 45 3).toInt (p0 &&& 65535).toInt (p1 &&& 65535).toInt p2.toInt16.toInt32.toInt := by
  have b0 := i_65535 p0
  have b1 := i_65535 p1
  have b2 := i_short p2
  have e2 : zbind (f_X8_signed p2 (y8s σ)) (fun v1 s3 => zbind (f_X8_copied (p0 &&& 65535) (p1 &&& 65535) v1 s3) fun _ s4 => if (s4 45 12) = 0 then (some ((1 : Int32), s4)) else (some (((-10 : Int32) - (s4 45 12)), s4))) = some (r, s) := e
  rw [p8_signed, zbind_some] at e2
  obtain ⟨u, τ, f1, f2⟩ := zb_some e2
  rw [y8ans_if] at f2
  cases f2
  have A := a_X8_copied (p0 &&& 65535) (p1 &&& 65535) p2.toInt16.toInt32 (y8s_R h) (y8s_f σ) (by omega) (by omega) (by omega) f1
  rw [A, y8s_k σ 45 2 (by omega), y8s_k σ 45 3 (by omega)]
theorem pairA_copy (p0 p1 p2 : Int32) {B B1 : Int} {σ : zS} (h : yL B σ) (hB : B ≤ B1) (hB1 : B1 ≤ 1000000) : ∃ a s b τ, f_X7_copy p0 p1 p2 σ = some (a, s) ∧ f_X8_copy p0 p1 p2 s = some (b, τ) ∧ yL B1 τ ∧ a = b := by
  obtain ⟨a, s, b, τ, e1, e2, hL, -, -⟩ := pair_copy p0 p1 p2 h hB hB1
  have c : yR σ s := (yT_det (t_X7_copy p0 p1 p2 h.1) e1).1
  obtain ⟨F, R⟩ := yL_8 h (yC_st c)
  refine ⟨a, s, b, τ, e1, e2, hL, ?_⟩
  rw [i_eq, a_X7_copy p0 p1 p2 h.1 e1, a_X8_copy p0 p1 p2 R e2, c.2.2 45 2 (by unfold yKp; omega), c.2.2 45 3 (by unfold yKp; omega), ← h.2.2.1, ← h.2.2.2.1]
