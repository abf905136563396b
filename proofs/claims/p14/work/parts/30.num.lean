/-! numbers: Int32 by toInt, for omega -/
theorem i_lt (a b : Int32) : a < b ↔ a.toInt < b.toInt := Int32.lt_iff_toInt_lt
theorem i_le (a b : Int32) : a ≤ b ↔ a.toInt ≤ b.toInt := Int32.le_iff_toInt_le
theorem i_eq (a b : Int32) : a = b ↔ a.toInt = b.toInt := Int32.toInt_inj.symm
theorem i_lo (a : Int32) : -2147483648 ≤ a.toInt := Int32.le_toInt a
theorem i_hi (a : Int32) : a.toInt < 2147483648 := Int32.toInt_lt a
theorem i_bm {n : Int} (h1 : -2147483648 ≤ n) (h2 : n < 2147483648) : n.bmod (2 ^ 32) = n := Int.bmod_eq_of_le (by simpa using h1) (by simpa using h2)
theorem i_add {a b : Int32} (h1 : -2147483648 ≤ a.toInt + b.toInt) (h2 : a.toInt + b.toInt < 2147483648) : (a + b).toInt = a.toInt + b.toInt := by
  rw [Int32.toInt_add]; exact i_bm h1 h2
theorem i_sub {a b : Int32} (h1 : -2147483648 ≤ a.toInt - b.toInt) (h2 : a.toInt - b.toInt < 2147483648) : (a - b).toInt = a.toInt - b.toInt := by
  rw [Int32.toInt_sub]; exact i_bm h1 h2
theorem i_mul {a b : Int32} (h1 : -2147483648 ≤ a.toInt * b.toInt) (h2 : a.toInt * b.toInt < 2147483648) : (a * b).toInt = a.toInt * b.toInt := by
  rw [Int32.toInt_mul]; exact i_bm h1 h2
theorem i_neg {a : Int32} (h1 : -2147483648 < a.toInt) : (-a).toInt = -a.toInt := by
  have h2 := i_hi a
  rw [Int32.toInt_neg]; exact i_bm (by omega) (by omega)
theorem i_cl (a : Int32) : a.toNatClampNeg = a.toInt.toNat := rfl
theorem i_1 {a : Int32} (h : a.toInt < 2147483647) : (a + 1).toInt = a.toInt + 1 := by
  have h1 := i_lo a
  exact i_add (b := 1) (by show -2147483648 ≤ a.toInt + 1; omega) (by show a.toInt + 1 < 2147483648; omega)
theorem i_m1 {a : Int32} (h : -2147483648 < a.toInt) : (a - 1).toInt = a.toInt - 1 := by
  have h1 := i_hi a
  exact i_sub (b := 1) (by show -2147483648 ≤ a.toInt - 1; omega) (by show a.toInt - 1 < 2147483648; omega)
theorem i_nz {a : Int32} : (¬ a = 0) ↔ a.toInt ≠ 0 := by
  rw [i_eq]; rfl
/-- x & 255, x & 65535 -/
theorem i_and (x : Int32) {m : Int32} (k : Nat) (hm : m.toBitVec.toNat = 2 ^ k - 1) (hk : k ≤ 30) : (x &&& m).toInt = (x.toBitVec.toNat % 2 ^ k : Nat) := by
  have hp : 2 ^ k ≤ 2 ^ 30 := Nat.pow_le_pow_right (by omega) hk
  have h0 : 0 < 2 ^ k := Nat.pow_pos (by omega)
  have h1 := Nat.mod_lt x.toBitVec.toNat h0
  rw [pk_and x k hm, nI_toInt (by omega)]
theorem i_255 (x : Int32) : 0 ≤ (x &&& 255).toInt ∧ (x &&& 255).toInt < 256 := by
  rw [i_and x 8 (by decide) (by omega)]
  omega
theorem i_65535 (x : Int32) : 0 ≤ (x &&& 65535).toInt ∧ (x &&& 65535).toInt < 65536 := by
  rw [i_and x 16 (by decide) (by omega)]
  omega
/-- (short) x -/
theorem i_short (x : Int32) : -32768 ≤ (x.toInt16.toInt32).toInt ∧ (x.toInt16.toInt32).toInt < 32768 := by
  rw [Int16.toInt_toInt32]
  exact ⟨Int16.le_toInt _, Int16.toInt_lt _⟩
/-! the state: one store read back -/
theorem zu_at (σ : zS) (k j : Nat) (v : Int32) : zu σ k j v k = upd (σ k) j v := by unfold zu zr; rw [if_pos rfl]
theorem zu_ne (σ : zS) {k k2 : Nat} (j : Nat) (v : Int32) (h : k2 ≠ k) : zu σ k j v k2 = σ k2 := by unfold zu zr; rw [if_neg h]
theorem zr_ne (σ : zS) {k k2 : Nat} (f : Nat → Int32) (h : k2 ≠ k) : zr σ k f k2 = σ k2 := by unfold zr; rw [if_neg h]
theorem upd_at (f : Nat → Int32) (j : Nat) (v : Int32) : upd f j v j = v := by unfold upd; rw [if_pos rfl]
theorem upd_ne (f : Nat → Int32) {j j2 : Nat} (v : Int32) (h : j2 ≠ j) : upd f j v j2 = f j2 := by unfold upd; rw [if_neg h]
theorem zc_ok {ρ : Type} {i : Int32} {n : Nat} {P : Option ρ} (h0 : 0 ≤ i.toInt) (h1 : i.toInt < n) : zc i n P = P := by
  refine zc_in (vp_in_iff.mpr ⟨h0, h1⟩)
theorem zd_ok {ρ : Type} {y : Int32} {P : Option ρ} (h : y.toInt ≠ 0) : zd y P = P := by
  unfold zd
  rw [if_neg (i_nz.mpr h)]
theorem zbind_some {α ρ : Type} (a : α) (σ : zS) (K : α → zS → Option ρ) : zbind (some (a, σ)) K = K a σ := rfl
