/-! what work answers -/
theorem nw (x : Int32) : (x &&& 65535).toInt16.toInt32 = x.toInt16.toInt32 := by
  rw [Int32.toInt16_and, show (65535 : Int32).toInt16 = -1 from rfl, Int16.and_neg_one]
theorem num_i (x : Int32) : x.toInt16.toInt32.toInt = if x.toInt % 65536 < 32768 then x.toInt % 65536 else x.toInt % 65536 - 65536 := by
  rw [Int16.toInt_toInt32, Int32.toInt_toInt16]; rfl
theorem num_c {x y : Int32} (h : x.toInt % 65536 = y.toInt % 65536) : x.toInt16.toInt32 = y.toInt16.toInt32 := by
  rw [i_eq, num_i, num_i, h]
theorem num_n (x : Int32) : x.toInt16.toInt32.toInt16.toInt32 = x.toInt16.toInt32 := by rw [Int16.toInt16_toInt32]
theorem i_nat (p : Int32) : p.toInt = (p.toBitVec.toNat : Int) ∨ p.toInt = (p.toBitVec.toNat : Int) - 4294967296 := by
  have h : p.toInt = _ := BitVec.toInt_eq_toNat_cond p.toBitVec
  by_cases c : 2 * p.toBitVec.toNat < 2 ^ 32
  · rw [if_pos c] at h; exact Or.inl h
  · rw [if_neg c] at h; exact Or.inr h
theorem bm_16 (x : Int) : Int.bmod x (2 ^ 32) % 65536 = x % 65536 := by
  have h : Int.bmod x (2 ^ 32) = if x % 4294967296 < 2147483648 then x % 4294967296 else x % 4294967296 - 4294967296 := rfl
  rw [h]
  split <;> omega
theorem sh_k : ∀ k : Nat, k ≤ 15 → ((Int32.ofNat k) &&& 31).toBitVec.smod 32 = BitVec.ofNat 32 k := by decide +kernel
theorem sh_u : ∀ k : Nat, k ≤ 15 → ((Int32.ofNat k).toUInt32 &&& Int32.toUInt32 31).toNat % 32 = k := by decide +kernel
theorem sh_m {m : Int32} (h : 0 ≤ m.toInt ∧ m.toInt ≤ 15) : m = Int32.ofNat m.toInt.toNat := by
  rw [i_eq, Int32.toInt_ofNat_of_lt (by omega)]; omega
theorem shl_i (a m : Int32) (h : 0 ≤ m.toInt ∧ m.toInt ≤ 15) : (a <<< (m &&& 31)).toInt % 65536 = a.toInt * ((2 ^ m.toInt.toNat : Nat) : Int) % 65536 := by
  have hk : m.toInt.toNat ≤ 15 := by omega
  have e : (a <<< (m &&& 31)).toInt = Int.bmod ((a.toBitVec.toNat * 2 ^ m.toInt.toNat : Nat) : Int) (2 ^ 32) := by
    show (a <<< (m &&& 31)).toBitVec.toInt = _
    rw [Int32.toBitVec_shiftLeft, show (m &&& 31) = ((Int32.ofNat m.toInt.toNat) &&& 31) by rw [← sh_m h], sh_k _ hk, BitVec.shiftLeft_eq', BitVec.toInt_shiftLeft]
    have e2 : (BitVec.ofNat 32 m.toInt.toNat).toNat = m.toInt.toNat := by
      rw [BitVec.toNat_ofNat]; exact Nat.mod_eq_of_lt (by omega)
    rw [e2]
    congr 1
    rw [← Nat.shiftLeft_eq]
  rw [e, bm_16, Int.natCast_mul]
  generalize ((2 ^ m.toInt.toNat : Nat) : Int) = c
  rcases i_nat a with q | q
  · rw [q]
  · rw [q, Int.sub_mul]
    generalize (a.toBitVec.toNat : Int) * c = w
    omega
theorem shr_i (a m : Int32) (h : 0 ≤ m.toInt ∧ m.toInt ≤ 15) : (a >>> (m &&& 31)).toInt = a.toInt / ((2 ^ m.toInt.toNat : Nat) : Int) := by
  have hk : m.toInt.toNat ≤ 15 := by omega
  show (a >>> (m &&& 31)).toBitVec.toInt = _
  rw [Int32.toBitVec_shiftRight, show (m &&& 31) = ((Int32.ofNat m.toInt.toNat) &&& 31) by rw [← sh_m h], sh_k _ hk, BitVec.sshiftRight_eq', BitVec.toInt_sshiftRight, Int.shiftRight_eq_div_pow]
  have e2 : (BitVec.ofNat 32 m.toInt.toNat).toNat = m.toInt.toNat := by
    rw [BitVec.toNat_ofNat]; exact Nat.mod_eq_of_lt (by omega)
  rw [e2]
  rfl
theorem shu_i (a m : Int32) (ha : 0 ≤ a.toInt) (h : 0 ≤ m.toInt ∧ m.toInt ≤ 15) : (zushr a m).toInt = a.toInt / ((2 ^ m.toInt.toNat : Nat) : Int) := by
  have hk : m.toInt.toNat ≤ 15 := by omega
  have hN : a.toInt = (a.toBitVec.toNat : Int) := by
    rcases i_nat a with q | q
    · exact q
    · have := a.toBitVec.isLt; omega
  have hlt := i_hi a
  have e : (zushr a m).toBitVec.toNat = a.toBitVec.toNat / 2 ^ m.toInt.toNat := by
    show (a.toUInt32 >>> (m.toUInt32 &&& Int32.toUInt32 31)).toNat = _
    rw [UInt32.toNat_shiftRight, show m.toUInt32 = (Int32.ofNat m.toInt.toNat).toUInt32 by rw [← sh_m h], sh_u _ hk, Nat.shiftRight_eq_div_pow]
    rfl
  have hle : a.toBitVec.toNat / 2 ^ m.toInt.toNat ≤ a.toBitVec.toNat := Nat.div_le_self _ _
  have e3 : (zushr a m).toInt = ((zushr a m).toBitVec.toNat : Int) := by
    rcases i_nat (zushr a m) with q | q
    · exact q
    · have h2 : (zushr a m).toInt = _ := BitVec.toInt_eq_toNat_cond (zushr a m).toBitVec
      rw [if_pos (by rw [e]; omega)] at h2
      exact h2
  rw [e3, e, hN]
  exact Int.natCast_ediv _ _
/-- the reference's shifting -/
theorem L43_left (x0 x1 x2 x3 : Int32) (h2 : 0 < x2.toInt) (h3 : x3.toInt ≤ 100) (σ : zS) : ∀ (m n : Nat) (x4 x5 : Int32), m < n → (x3.toInt - x5.toInt).toNat = m → 0 ≤ x5.toInt → ∃ y : Int32, f_X8_shifted_L43 n x0 x1 x2 x3 x4 x5 σ = some (y.toInt16.toInt32, σ) ∧ y.toInt % 65536 = x4.toInt * ((2 ^ m : Nat) : Int) % 65536 := by
  intro m
  induction m with
  | zero =>
    intro n x4 x5 hn hm h5
    obtain ⟨n, rfl⟩ : ∃ k, n = k + 1 := ⟨n - 1, by omega⟩
    rw [f_X8_shifted_L43, if_pos (by rw [i_le]; omega), p8_signed, zbind_some]
    exact ⟨x4, rfl, by rw [Nat.pow_zero]; show _ = x4.toInt * 1 % 65536; rw [Int.mul_one]⟩
  | succ m ih =>
    intro n x4 x5 hn hm h5
    obtain ⟨n, rfl⟩ : ∃ k, n = k + 1 := ⟨n - 1, by omega⟩
    have e5 : (x5 + (1 : Int32)).toInt = x5.toInt + 1 := i_1 (by omega)
    rw [f_X8_shifted_L43, if_neg (by rw [i_le]; omega), if_neg (by rw [i_le, t_0]; omega)]
    obtain ⟨y, f1, f2⟩ := ih n (x4 * (2 : Int32)) (x5 + (1 : Int32)) (by omega) (by omega) (by omega)
    refine ⟨y, f1, ?_⟩
    have e : (x4 * (2 : Int32)).toInt % 65536 = x4.toInt * 2 % 65536 := by
      rw [Int32.toInt_mul]; exact bm_16 _
    rw [f2, Int.mul_emod, e, ← Int.mul_emod, Nat.pow_succ, Int.natCast_mul, Int.mul_assoc]
    rw [Int.mul_comm (2 : Int)]
    rfl
theorem L43_right (x0 x1 x2 x3 : Int32) (h2 : x2.toInt ≤ 0) (h3 : x3.toInt ≤ 100) (σ : zS) : ∀ (m n : Nat) (x4 x5 : Int32), m < n → (x3.toInt - x5.toInt).toNat = m → 0 ≤ x5.toInt → ∃ y : Int32, f_X8_shifted_L43 n x0 x1 x2 x3 x4 x5 σ = some (y.toInt16.toInt32, σ) ∧ y.toInt = x4.toInt / ((2 ^ m : Nat) : Int) := by
  intro m
  induction m with
  | zero =>
    intro n x4 x5 hn hm h5
    obtain ⟨n, rfl⟩ : ∃ k, n = k + 1 := ⟨n - 1, by omega⟩
    rw [f_X8_shifted_L43, if_pos (by rw [i_le]; omega), p8_signed, zbind_some]
    exact ⟨x4, rfl, by rw [Nat.pow_zero]; exact (Int.ediv_one _).symm⟩
  | succ m ih =>
    intro n x4 x5 hn hm h5
    obtain ⟨n, rfl⟩ : ∃ k, n = k + 1 := ⟨n - 1, by omega⟩
    have e5 : (x5 + (1 : Int32)).toInt = x5.toInt + 1 := i_1 (by omega)
    rw [f_X8_shifted_L43, if_neg (by rw [i_le]; omega), if_pos (by rw [i_le, t_0]; omega)]
    obtain ⟨y, f1, f2⟩ := ih n (x4 >>> ((1 : Int32) &&& 31)) (x5 + (1 : Int32)) (by omega) (by omega) (by omega)
    refine ⟨y, f1, ?_⟩
    have e : (x4 >>> ((1 : Int32) &&& 31)).toInt = x4.toInt / 2 := shr_i x4 1 (by decide)
    rw [f2, e, Int.ediv_ediv_of_nonneg (by omega), Nat.pow_succ, Int.natCast_mul, Int.mul_comm (2 : Int)]
    rfl
theorem num_id {x : Int32} (h : -32768 ≤ x.toInt ∧ x.toInt < 32768) : x.toInt16.toInt32 = x := by
  rw [i_eq, num_i]
  split <;> omega
theorem wd (x : Int32) (σ : zS) (K : Int32 → zS → Option (Int32 × zS)) : zbind (f_X7_word x σ) K = K (x &&& 65535) σ := rfl
theorem l15 : (15 : Int32).toInt = 15 := rfl
/-- OP 8 -/
theorem sh8 (a b : Int32) (hb : -32768 ≤ b.toInt ∧ b.toInt < 32768) (σ s : zS) : ∃ y1 y2 : Int32, f_X7_shiftNumber a b σ = some (y1 &&& 65535, σ) ∧ f_X8_shifted 1 a b s = some (y2.toInt16.toInt32, s) ∧ y1.toInt % 65536 = y2.toInt % 65536 := by
  have en : (-b).toInt = -b.toInt := i_neg (by omega)
  unfold f_X7_shiftNumber f_X8_shifted
  by_cases q : b ≤ 0
  · rw [if_pos q, wd]
    rw [i_le, t_0] at q
    have K := i_itel 15 (-b) 15 (-b)
    rw [l15, en] at K
    generalize (if (15 : Int32) < -b then (15 : Int32) else -b) = k at *
    have hk : 0 ≤ k.toInt ∧ k.toInt ≤ 15 := by omega
    have hk2 : k.toInt = if 15 < -b.toInt then 15 else -b.toInt := by split <;> omega
    have key : ∃ y2 : Int32, (if 0 ≤ b then (if b ≤ (15 : Int32) then (if (1 : Int32) = 0 then (zlet ((a &&& (65535 : Int32)) : Int32) fun v1 => f_X8_shifted_L43 zF (1 : Int32) a b b v1 (0 : Int32) s) else (f_X8_shifted_L43 zF (1 : Int32) a b b a (0 : Int32) s)) else (if (1 : Int32) = 0 then (some ((0 : Int32), s)) else (if (1 : Int32) = 0 then (zlet ((a &&& (65535 : Int32)) : Int32) fun v5 => f_X8_shifted_L43 zF (1 : Int32) a b (15 : Int32) v5 (0 : Int32) s) else (f_X8_shifted_L43 zF (1 : Int32) a b (15 : Int32) a (0 : Int32) s)))) else (if (-b) ≤ (15 : Int32) then (if (1 : Int32) = 0 then (zlet ((a &&& (65535 : Int32)) : Int32) fun v6 => f_X8_shifted_L43 zF (1 : Int32) a b (-b) v6 (0 : Int32) s) else (f_X8_shifted_L43 zF (1 : Int32) a b (-b) a (0 : Int32) s)) else (if (1 : Int32) = 0 then (some ((0 : Int32), s)) else (if (1 : Int32) = 0 then (zlet ((a &&& (65535 : Int32)) : Int32) fun v7 => f_X8_shifted_L43 zF (1 : Int32) a b (15 : Int32) v7 (0 : Int32) s) else (f_X8_shifted_L43 zF (1 : Int32) a b (15 : Int32) a (0 : Int32) s))))) = some (y2.toInt16.toInt32, s) ∧ y2.toInt = a.toInt / ((2 ^ k.toInt.toNat : Nat) : Int) := by
      by_cases q0 : 0 ≤ b
      · rw [if_pos q0]
        rw [i_le, t_0] at q0
        rw [if_pos (by rw [i_le, l15]; omega), if_neg (by decide)]
        obtain ⟨y, f1, f2⟩ := L43_right 1 a b b (by omega) (by omega) s 0 zF a 0 (by rw [zF_eq]; omega) (by rw [t_0]; omega) (by rw [t_0]; omega)
        refine ⟨y, f1, ?_⟩
        rw [f2, show k.toInt.toNat = 0 by omega]
      · rw [if_neg q0]
        rw [i_le, t_0] at q0
        by_cases q5 : (-b) ≤ (15 : Int32)
        · rw [if_pos q5, if_neg (by decide)]
          rw [i_le, l15, en] at q5
          obtain ⟨y, f1, f2⟩ := L43_right 1 a b (-b) (by omega) (by omega) s k.toInt.toNat zF a 0 (by rw [zF_eq]; omega) (by rw [t_0, en]; omega) (by rw [t_0]; omega)
          exact ⟨y, f1, f2⟩
        · rw [if_neg q5, if_neg (by decide), if_neg (by decide)]
          rw [i_le, l15, en] at q5
          obtain ⟨y, f1, f2⟩ := L43_right 1 a b 15 (by omega) (by rw [l15]; omega) s k.toInt.toNat zF a 0 (by rw [zF_eq]; omega) (by rw [t_0, l15]; omega) (by rw [t_0]; omega)
          exact ⟨y, f1, f2⟩
    obtain ⟨y2, f1, f2⟩ := key
    exact ⟨a >>> (k &&& 31), y2, rfl, f1, by rw [shr_i a k hk, f2]⟩
  · rw [if_neg q, wd]
    rw [i_le, t_0] at q
    have K := i_itel 15 b 15 b
    rw [l15] at K
    generalize (if (15 : Int32) < b then (15 : Int32) else b) = k at *
    have hk : 0 ≤ k.toInt ∧ k.toInt ≤ 15 := by omega
    rw [if_pos (by rw [i_le, t_0]; omega)]
    by_cases q5 : b ≤ (15 : Int32)
    · rw [if_pos q5, if_neg (by decide)]
      rw [i_le, l15] at q5
      obtain ⟨y, f1, f2⟩ := L43_left 1 a b b (by omega) (by omega) s k.toInt.toNat zF a 0 (by rw [zF_eq]; omega) (by rw [t_0]; omega) (by rw [t_0]; omega)
      exact ⟨a <<< (k &&& 31), y, rfl, f1, by rw [shl_i a k hk, f2]⟩
    · rw [if_neg q5, if_neg (by decide), if_neg (by decide)]
      rw [i_le, l15] at q5
      obtain ⟨y, f1, f2⟩ := L43_left 1 a b 15 (by omega) (by rw [l15]; omega) s k.toInt.toNat zF a 0 (by rw [zF_eq]; omega) (by rw [t_0, l15]; omega) (by rw [t_0]; omega)
      exact ⟨a <<< (k &&& 31), y, rfl, f1, by rw [shl_i a k hk, f2]⟩
/-- OP 9 -/
theorem sh9 (a b : Int32) (hb : -32768 ≤ b.toInt ∧ b.toInt < 32768) (σ s : zS) : ∃ v w : Int32, f_X7_shiftBits (a &&& 65535) b σ = some (v, σ) ∧ 0 ≤ v.toInt ∧ f_X8_shifted 0 a b s = some (w, s) ∧ v.toInt16.toInt32 = w := by
  have en : (-b).toInt = -b.toInt := i_neg (by omega)
  have l15m : (-15 : Int32).toInt = -15 := rfl
  have hw := i_65535 a
  unfold f_X7_shiftBits f_X8_shifted
  by_cases q1 : (15 : Int32) < b
  · rw [if_pos q1]
    rw [i_lt, l15] at q1
    rw [if_pos (by rw [i_le, t_0]; omega), if_neg (by rw [i_le, l15]; omega), if_pos rfl]
    exact ⟨_, _, rfl, by decide, rfl, rfl⟩
  rw [if_neg q1]
  rw [i_lt, l15] at q1
  by_cases q2 : (-15 : Int32) ≤ b
  · rw [if_pos q2]
    rw [i_le, l15m] at q2
    by_cases q : b ≤ 0
    · rw [if_pos q]
      rw [i_le, t_0] at q
      have hk : 0 ≤ (-b).toInt ∧ (-b).toInt ≤ 15 := by omega
      have e1 := shu_i (a &&& 65535) (-b) hw.1 hk
      have e0 : 0 ≤ (zushr (a &&& 65535) (-b)).toInt := by rw [e1]; exact Int.ediv_nonneg hw.1 (Int.natCast_nonneg _)
      by_cases q0 : 0 ≤ b
      · rw [if_pos q0]
        rw [i_le, t_0] at q0
        rw [if_pos (by rw [i_le, l15]; omega), if_pos rfl]
        obtain ⟨y, f1, f2⟩ := L43_right 0 a b b (by omega) (by omega) s (-b).toInt.toNat zF (a &&& 65535) 0 (by rw [zF_eq]; omega) (by rw [t_0]; omega) (by rw [t_0]; omega)
        refine ⟨_, y.toInt16.toInt32, rfl, e0, f1, num_c (by rw [e1, f2])⟩
      · rw [if_neg q0]
        rw [i_le, t_0] at q0
        rw [if_pos (by rw [i_le, l15, en]; omega), if_pos rfl]
        obtain ⟨y, f1, f2⟩ := L43_right 0 a b (-b) (by omega) (by omega) s (-b).toInt.toNat zF (a &&& 65535) 0 (by rw [zF_eq]; omega) (by rw [t_0]; omega) (by rw [t_0]; omega)
        refine ⟨_, y.toInt16.toInt32, rfl, e0, f1, num_c (by rw [e1, f2])⟩
    · rw [if_neg q, wd]
      rw [i_le, t_0] at q
      have hk : 0 ≤ b.toInt ∧ b.toInt ≤ 15 := by omega
      rw [if_pos (by rw [i_le, t_0]; omega), if_pos (by rw [i_le, l15]; omega), if_pos rfl]
      obtain ⟨y, f1, f2⟩ := L43_left 0 a b b (by omega) (by omega) s b.toInt.toNat zF (a &&& 65535) 0 (by rw [zF_eq]; omega) (by rw [t_0]; omega) (by rw [t_0]; omega)
      exact ⟨_, y.toInt16.toInt32, rfl, (i_65535 _).1, f1, by rw [nw]; exact num_c (by rw [shl_i (a &&& 65535) b hk, f2])⟩
  · rw [if_neg q2]
    rw [i_le, l15m] at q2
    rw [if_neg (by rw [i_le, t_0]; omega), if_neg (by rw [i_le, l15, en]; omega), if_pos rfl]
    exact ⟨_, _, rfl, by decide, rfl, rfl⟩
/-- class and reference reckon alike -/
theorem arith_eq (op a b : Int32) (ho : 0 ≤ op.toInt ∧ op.toInt ≤ 9) (ha : ∃ x : Int16, a = x.toInt32) (hb : ∃ x : Int16, b = x.toInt32) (σ s : zS) : (f_X7_arithmetic op a b σ = some (-11, σ) ∧ f_X8_worked op a b s = some (0, zu s 45 12 1)) ∨ (∃ v w : Int32, f_X7_arithmetic op a b σ = some (v, σ) ∧ 0 ≤ v.toInt ∧ f_X8_worked op a b s = some (w, s) ∧ v.toInt16.toInt32 = w) := by
  obtain ⟨xa, rfl⟩ := ha
  obtain ⟨xb, rfl⟩ := hb
  have ra : -32768 ≤ xa.toInt32.toInt ∧ xa.toInt32.toInt < 32768 := by rw [Int16.toInt_toInt32]; exact ⟨Int16.le_toInt _, Int16.toInt_lt _⟩
  have rb : -32768 ≤ xb.toInt32.toInt ∧ xb.toInt32.toInt < 32768 := by rw [Int16.toInt_toInt32]; exact ⟨Int16.le_toInt _, Int16.toInt_lt _⟩
  have hop : op = 0 ∨ op = 1 ∨ op = 2 ∨ op = 3 ∨ op = 4 ∨ op = 5 ∨ op = 6 ∨ op = 7 ∨ op = 8 ∨ op = 9 := by
    simp only [i_eq]
    have l : ∀ k : Nat, k ≤ 9 → (Int32.ofNat k).toInt = k := by decide +kernel
    have l0 : (0 : Int32).toInt = 0 := rfl
    have l1 : (1 : Int32).toInt = 1 := rfl
    have l2 : (2 : Int32).toInt = 2 := rfl
    have l3 : (3 : Int32).toInt = 3 := rfl
    have l4 : (4 : Int32).toInt = 4 := rfl
    have l5 : (5 : Int32).toInt = 5 := rfl
    have l6 : (6 : Int32).toInt = 6 := rfl
    have l7 : (7 : Int32).toInt = 7 := rfl
    have l8 : (8 : Int32).toInt = 8 := rfl
    have l9 : (9 : Int32).toInt = 9 := rfl
    omega
  unfold f_X7_arithmetic f_X8_worked
  rcases hop with rfl | rfl | rfl | rfl | rfl | rfl | rfl | rfl | rfl | rfl
  · rw [if_pos rfl, wd, if_pos rfl, p8_signed, zbind_some]
    exact Or.inr ⟨_, _, rfl, (i_65535 _).1, rfl, nw _⟩
  · rw [if_neg (by decide), if_pos rfl, wd, if_neg (by decide), if_pos rfl, p8_signed, zbind_some]
    exact Or.inr ⟨_, _, rfl, (i_65535 _).1, rfl, nw _⟩
  · rw [if_neg (by decide), if_neg (by decide), if_pos rfl, wd, if_neg (by decide), if_neg (by decide), if_pos rfl, p8_signed, zbind_some]
    exact Or.inr ⟨_, _, rfl, (i_65535 _).1, rfl, nw _⟩
  · by_cases q : xb.toInt32 = 0
    · rw [if_neg (by decide), if_neg (by decide), if_neg (by decide), if_pos rfl, if_pos q, if_neg (by decide), if_neg (by decide), if_neg (by decide), if_pos rfl, if_pos q]
      exact Or.inl ⟨rfl, rfl⟩
    · have z : ∀ P : Option (Int32 × zS), zd xb.toInt32 P = P := fun P => by unfold zd; rw [if_neg q]
      rw [if_neg (by decide), if_neg (by decide), if_neg (by decide), if_pos rfl, if_neg q, z, wd, if_neg (by decide), if_neg (by decide), if_neg (by decide), if_pos rfl, if_neg q, if_pos rfl, z, p8_signed, zbind_some]
      exact Or.inr ⟨_, _, rfl, (i_65535 _).1, rfl, nw _⟩
  · by_cases q : xb.toInt32 = 0
    · rw [if_neg (by decide), if_neg (by decide), if_neg (by decide), if_neg (by decide), if_pos rfl, if_pos q, if_neg (by decide), if_neg (by decide), if_neg (by decide), if_neg (by decide), if_pos rfl, if_pos q]
      exact Or.inl ⟨rfl, rfl⟩
    · have z : ∀ P : Option (Int32 × zS), zd xb.toInt32 P = P := fun P => by unfold zd; rw [if_neg q]
      rw [if_neg (by decide), if_neg (by decide), if_neg (by decide), if_neg (by decide), if_pos rfl, if_neg q, z, wd, if_neg (by decide), if_neg (by decide), if_neg (by decide), if_neg (by decide), if_pos rfl, if_neg q, if_neg (by decide), z, p8_signed, zbind_some]
      exact Or.inr ⟨_, _, rfl, (i_65535 _).1, rfl, nw _⟩
  · rw [if_neg (by decide), if_neg (by decide), if_neg (by decide), if_neg (by decide), if_neg (by decide), if_pos rfl, wd, if_neg (by decide), if_neg (by decide), if_neg (by decide), if_neg (by decide), if_neg (by decide), if_pos rfl]
    exact Or.inr ⟨_, _, rfl, (i_65535 _).1, rfl, by rw [nw, ← Int16.toInt32_and, Int16.toInt16_toInt32]⟩
  · rw [if_neg (by decide), if_neg (by decide), if_neg (by decide), if_neg (by decide), if_neg (by decide), if_neg (by decide), if_pos rfl, wd, if_neg (by decide), if_neg (by decide), if_neg (by decide), if_neg (by decide), if_neg (by decide), if_neg (by decide), if_pos rfl]
    exact Or.inr ⟨_, _, rfl, (i_65535 _).1, rfl, by rw [nw, ← Int16.toInt32_or, Int16.toInt16_toInt32]⟩
  · rw [if_neg (by decide), if_neg (by decide), if_neg (by decide), if_neg (by decide), if_neg (by decide), if_neg (by decide), if_neg (by decide), if_pos rfl, wd, if_neg (by decide), if_neg (by decide), if_neg (by decide), if_neg (by decide), if_neg (by decide), if_neg (by decide), if_neg (by decide), if_pos rfl]
    have l1 : (-1 : Int32).toInt = -1 := rfl
    have e : xa.toInt32 ^^^ (-1 : Int32) = (-1 : Int32) - xa.toInt32 := by
      rw [Int32.xor_neg_one, i_eq, Int32.toInt_not, i_bm (by omega) (by omega), i_sub (by rw [l1]; omega) (by rw [l1]; omega), l1]; omega
    have r7 : ((-1 : Int32) - xa.toInt32).toInt = -1 - xa.toInt32.toInt := by rw [i_sub (by rw [l1]; omega) (by rw [l1]; omega), l1]
    exact Or.inr ⟨_, _, rfl, (i_65535 _).1, rfl, by rw [nw, e]; exact num_id (by rw [r7]; omega)⟩
  · rw [if_neg (by decide), if_neg (by decide), if_neg (by decide), if_neg (by decide), if_neg (by decide), if_neg (by decide), if_neg (by decide), if_neg (by decide), if_pos rfl, if_neg (by decide), if_neg (by decide), if_neg (by decide), if_neg (by decide), if_neg (by decide), if_neg (by decide), if_neg (by decide), if_neg (by decide), if_pos rfl]
    obtain ⟨y1, y2, f1, f2, f3⟩ := sh8 xa.toInt32 xb.toInt32 rb σ s
    rw [f1, zbind_some, f2, zbind_some]
    exact Or.inr ⟨_, _, rfl, (i_65535 _).1, rfl, by rw [nw]; exact num_c f3⟩
  · rw [if_neg (by decide), if_neg (by decide), if_neg (by decide), if_neg (by decide), if_neg (by decide), if_neg (by decide), if_neg (by decide), if_neg (by decide), if_neg (by decide), if_pos rfl, wd, if_neg (by decide), if_neg (by decide), if_neg (by decide), if_neg (by decide), if_neg (by decide), if_neg (by decide), if_neg (by decide), if_neg (by decide), if_neg (by decide)]
    obtain ⟨v, w, f1, f0, f2, f3⟩ := sh9 xa.toInt32 xb.toInt32 rb σ s
    rw [f1, zbind_some, f2, zbind_some]
    exact Or.inr ⟨_, _, rfl, f0, rfl, f3⟩
theorem pairA_work (p0 p1 p2 : Int32) {B B1 : Int} {σ : zS} (h : yL B σ) (hB : B ≤ B1) (hB1 : B1 ≤ 1000000) : ∃ a s b τ, f_L_work p0 p1 p2 σ = some (a, s) ∧ f_X8_work p0 p1 p2 s = some (b, τ) ∧ yL B1 τ ∧ τ 45 0 = a ∧ (a = 0 → τ 64 0 = b) := by
  obtain ⟨a, s, b, τ, e1, e2, hL, -, -⟩ := pair_work p0 p1 p2 h hB hB1
  refine ⟨a, s, b, τ, e1, e2, hL, ?_⟩
  have l9 : (9 : Int32).toInt = 9 := rfl
  have bad : ¬ (0 ≤ p0.toInt ∧ p0.toInt ≤ 9) → f_X7_work p0 p1 p2 σ = some (.inr 0, σ) ∧ ∀ s, f_X8_work p0 p1 p2 s = some (0, zu (y8s s) 45 0 1) := by
    intro hb
    unfold f_X7_work f_X8_work
    by_cases q : p0 < 0
    · exact ⟨by rw [if_pos q], fun s => by show (if p0 < 0 then _ else _) = _; rw [if_pos q]; rfl⟩
    · have q9 : ¬ p0 ≤ 9 := by
        rw [i_lt, t_0] at q
        rw [i_le, l9]; omega
      exact ⟨by rw [if_neg q, if_neg q9], fun s => by show (if p0 < 0 then _ else _) = _; rw [if_neg q, if_neg q9]; rfl⟩
  by_cases hg : 0 ≤ p0.toInt ∧ p0.toInt ≤ 9
  · have q : ¬ p0 < 0 := by rw [i_lt, t_0]; omega
    have q9 : p0 ≤ 9 := by rw [i_le, l9]; omega
    have c7 : f_X7_work p0 p1 p2 σ = zbind (f_X7_arithmetic p0 p1.toInt16.toInt32 p2.toInt16.toInt32 σ) (fun v3 s3 => if 0 ≤ v3 then (zbind (f_X7_number v3 s3) fun v4 s4 => some (.inl v4, s4)) else (some (.inr 1, s3))) := by
      unfold f_X7_work
      rw [if_neg q, if_pos q9]
      rfl
    have c8 : ∀ s, f_X8_work p0 p1 p2 s = zbind (f_X8_worked p0 p1.toInt16.toInt32 p2.toInt16.toInt32 (y8s s)) (fun v3 s6 => if (s6 45 12) = 0 then (zlet (zu s6 45 0 (0 : Int32)) fun s8 => some (v3, s8)) else (zlet (zu s6 45 0 (2 : Int32)) fun s7 => some (v3, s7))) := by
      intro s
      unfold f_X8_work
      show (if p0 < 0 then _ else if p0 ≤ 9 then zbind (f_X8_signed p1 (y8s s)) _ else _) = _
      rw [if_neg q, if_pos q9, p8_signed, zbind_some, p8_signed, zbind_some]
    rcases arith_eq p0 p1.toInt16.toInt32 p2.toInt16.toInt32 hg ⟨_, rfl⟩ ⟨_, rfl⟩ σ (y8s s) with ⟨f1, f2⟩ | ⟨v, w, f1, f0, f2, f3⟩
    · have e3 : f_L_work p0 p1 p2 σ = some (2, σ) := by
        unfold f_L_work
        rw [c7, f1, zbind_some, if_neg (by decide)]
        rfl
      rw [e3] at e1
      cases e1
      rw [c8, f2, zbind_some, if_neg (by rw [zu_rd, if_pos ⟨rfl, rfl⟩]; decide)] at e2
      cases e2
      exact ⟨by rw [zu_rd, if_pos ⟨rfl, rfl⟩], fun z => absurd z (by decide)⟩
    · have e3 : f_L_work p0 p1 p2 σ = some (0, zu σ 64 0 v.toInt16.toInt32) := by
        unfold f_L_work
        rw [c7, f1, zbind_some, if_pos (by rw [i_le, t_0]; exact f0)]
        show zc (0 : Int32) 1 _ = _
        rw [zc_ok (by decide) (by decide)]
        rfl
      rw [e3] at e1
      cases e1
      rw [c8, f2, zbind_some, if_pos (y8s_f _)] at e2
      cases e2
      refine ⟨by rw [zu_rd, if_pos ⟨rfl, rfl⟩], fun _ => ?_⟩
      rw [zu_rd, if_neg (by omega), y8s_k _ 64 0 (by omega), zu_rd, if_pos ⟨rfl, rfl⟩, f3]
  · obtain ⟨f1, f2⟩ := bad hg
    have e3 : f_L_work p0 p1 p2 σ = some (1, σ) := by
      unfold f_L_work
      rw [f1]
      rfl
    rw [e3] at e1
    cases e1
    rw [f2] at e2
    cases e2
    exact ⟨by rw [zu_rd, if_pos ⟨rfl, rfl⟩], fun z => absurd z (by decide)⟩
