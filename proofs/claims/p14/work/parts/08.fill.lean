/-! java.util.Arrays.fill of an int array, whichever cell it is -/
def rm_fill : Room := { frames := 0, cells := 0, slots := 0, locals := 0 }
theorem zr_zr (σ : zS) (k : Nat) (f g : Nat → Int32) : zr (zr σ k f) k g = zr σ k g := by
  funext j
  unfold zr
  by_cases h : j = k
  · rw [if_pos h, if_pos h]
  · rw [if_neg h, if_neg h, if_neg h]
theorem zr_at (σ : zS) (k : Nat) (f : Nat → Int32) : zr σ k f k = f := by unfold zr; rw [if_pos rfl]
theorem zfill_0 (f : Nat → Int32) (v : Int32) : zfill f 0 v = f := by
  funext j; unfold zfill; rw [if_neg (Nat.not_lt_zero j)]
theorem zfill_s (f : Nat → Int32) (n : Nat) (v : Int32) : upd (zfill f n v) n v = zfill f (n + 1) v := by
  funext j
  unfold upd zfill
  by_cases h : j = n
  · rw [if_pos h, if_pos (by omega)]
  · rw [if_neg h]
    by_cases h2 : j < n
    · rw [if_pos h2, if_pos (by omega)]
    · rw [if_neg h2, if_neg (by omega)]
theorem zr_self (σ : zS) (k : Nat) : zr σ k (σ k) = σ := by
  funext j
  unfold zr
  by_cases h : j = k
  · rw [if_pos h, h]
  · rw [if_neg h]
set_option maxHeartbeats 4000000 in
set_option maxRecDepth 100000 in
theorem g_fill_L {E : zG} {Γ : zX} (C : zO E Γ RJ7 cJ7_fill_53178 4 none) (k N : Nat) (hk : k < z_N) (he : ∀ f, z_E E k f = .inl (zac E 0, N, .inl f)) (hN : N < 2 ^ 31) (v : Int32) (σ : zS) :
    ∀ (d j : Nat), j + d = N → ∀ σ2, σ2 = zr σ k (zfill (σ k) j v) → zJ E Γ rm_fill 4 (fun _ : Unit => none) (some ((), zr σ k (zfill (σ k) N v))) σ2 5 [some (.ref (zad E k)), some (.int v), some (.int (nI j)), some (.int (nI N))] [] := by
  intro d
  induction d with
  | zero =>
    intro j hj σ2 hσ
    have hjN : j = N := by omega
    subst hjN
    subst hσ
    refine r_iload_n (pc := 5) C dJ7_fill_53178_5 rfl ?_
    refine r_iload_n (pc := 6) C dJ7_fill_53178_6 rfl ?_
    refine zJ_if (q := nI j ≤ nI j) (nI_le (Nat.le_refl j) hN) (P2 := none) ?_
    refine r_icmp_ge (pc := 7) (tgt := 20) C dJ7_fill_53178_7 (by decide) (fun _ => ?_) (fun _ => r_none)
    exact r_vret (pc := 20) C dJ7_fill_53178_20
  | succ d ih =>
    intro j hj σ2 hσ
    have hjN : j < N := by omega
    refine r_iload_n (pc := 5) C dJ7_fill_53178_5 rfl ?_
    refine r_iload_n (pc := 6) C dJ7_fill_53178_6 rfl ?_
    refine zJ_nif (q := nI N ≤ nI j) (nI_ge hjN hN) (P1 := none) ?_
    refine r_icmp_ge (pc := 7) (tgt := 20) C dJ7_fill_53178_7 (by decide) (fun _ => r_none) (fun _ => ?_)
    refine r_aload_n (pc := 10) C dJ7_fill_53178_10 rfl ?_
    refine r_iload_n (pc := 11) C dJ7_fill_53178_11 rfl ?_
    refine r_iload_n (pc := 12) C dJ7_fill_53178_12 rfl ?_
    refine zJ_zcl (i := nI j) (n := N) (zu σ2 k (nI j).toNatClampNeg v) (vp_in_nI hjN hN) ?_
    refine r_iast (pc := 13) (t0 := 0) C k hk (he _) he rfl dJ7_fill_53178_13 (fun σ3 hσ3 => ?_)
    refine r_iinc (pc := 14) (lv' := [some (.ref (zad E k)), some (.int v), some (.int (nI (j + 1))), some (.int (nI N))]) C dJ7_fill_53178_14 (by decide) rfl (nI_1 j) rfl ?_
    refine r_goto (pc := 17) (tgt := 5) C dJ7_fill_53178_17 (by decide) ?_
    refine ih (j + 1) (by omega) σ3 ?_
    rw [hσ3, hσ, nI_clamp (Nat.lt_trans hjN hN)]
    unfold zu
    rw [zr_at, zr_zr, zfill_s]
set_option maxHeartbeats 4000000 in
set_option maxRecDepth 100000 in
theorem c_fill {E : zG} (hAp : zAp E) (k N : Nat) (hk : k < z_N) (he : ∀ f, z_E E k f = .inl (zac E 0, N, .inl f)) (hN : N < 2 ^ 31) (v : Int32) (σ : zS) : zM E yJ7_fill_53178 cJ7_fill_53178 4 none rm_fill (fun _ : Unit => none) [.ref (zad E k), .int v] (some ((), zr σ k (zfill (σ k) N v))) σ := by
  refine zM_of (nn := 2) hAp (by decide) (Nat.le_of_ble_eq_true rfl) rfl rfl (fun Γ C => ?_)
  refine r_iconst (pc := 0) (v := 0) C dJ7_fill_53178_0 (by decide) ?_
  refine r_istore_n (pc := 1) (lv' := [some (.ref (zad E k)), some (.int v), some (.int 0), none]) C dJ7_fill_53178_1 (by decide) rfl ?_
  refine r_aload_n (pc := 2) C dJ7_fill_53178_2 rfl ?_
  refine r_alen (pc := 3) (v := nI N) (t0 := 0) C k hk (he _) rfl rfl dJ7_fill_53178_3 ?_
  refine r_istore_n (pc := 4) (lv' := [some (.ref (zad E k)), some (.int v), some (.int (nI 0)), some (.int (nI N))]) C dJ7_fill_53178_4 (by decide) (by rw [nI_0]; rfl) ?_
  refine g_fill_L C k N hk he hN v σ N 0 (Nat.zero_add N) σ ?_
  rw [zfill_0, zr_self]
set_option maxHeartbeats 4000000 in
set_option maxRecDepth 100000 in
theorem r_fill {E : zG} {Γ : zX} {R : Room} {nL pc index N : Nat} {ρ : Type} {Q : ρ × zS → State → Prop} {cx sx : Nat} {K2 : zS → Option (ρ × zS)} {σ : zS} {lv : List (Option Value)} {rest : List Value} {own : String} {cc : ByteArray} {ret : Option FieldType} {v : Int32} (C : zO E Γ own cc nL ret) (k : Nat) (hk : k < z_N) (he : ∀ f, z_E E k f = .inl (zac E 0, N, .inl f)) (hN : N < 2 ^ 31) (hlink : Cond.methodLink own index yJ7_fill_53178 ∈ lw_good) (hR : rm_fill.frames + 1 ≤ R.frames ∧ 8 + (4 + 11) + rm_fill.locals ≤ R.locals) (hst : (rest.map fun v => v.category).sum ≤ 8) (hcs : cx ≤ R.cells ∧ sx ≤ R.slots) (hd : decode cc pc = .ok (.invokestatic index, 3)) (kk : ∀ σ1, σ1 = zr σ k (zfill (σ k) N v) → zJg E Γ R nL Q cx sx (K2 σ1) σ1 (pc + 3) lv rest) : zJg E Γ R nL Q cx sx (zlet (zr σ k (zfill (σ k) N v)) K2) σ pc lv (.int v :: .ref (zad E k) :: rest) := by
  have h := r_callS (n := 2) (As := [.ref (zad E k), .int v]) (K := fun _ σ1 => K2 σ1) (R := R) (Q := Q) (cx := cx) (sx := sx) (lv := lv) (rest := rest) C (c_fill (zO.ap C) k N hk he hN v σ) lk_fc lk_fi hlink lk_fs (by decide +kernel) rfl ⟨rfl, rfl⟩ hR hst hcs hd (fun _ σ1 hq => kk σ1 (by cases hq; rfl))
  exact h

