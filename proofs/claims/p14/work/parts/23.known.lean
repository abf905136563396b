set_option maxHeartbeats 8000000 in
set_option maxRecDepth 100000 in
theorem zK_start {p : Program} {s : State} {m : MethodId} {meth : Method} {c : Code} (l : Launch) (hl : l.stackTraces = false) {b L : Nat} {xs : Nat → Int32} (C0 : lw_At p s m meth c b L xs) : ∃ (D : va_G) (ac : Nat → ClassId) (st : Nat → Nat), ∀ ad : Nat → Nat, zK (l, D, ad, ac, s.heap.size, st) s := by
  obtain ⟨hx, hb, hr, hml, hown, hts, hX, hbl, hlocks, hgv⟩ := C0
  have hg := flat_of_before _ hgv
  have hA : ∀ a : Nat, a < s.heap.size → ¬ (fun q : Nat => s.heap.size ≤ q) a := fun a h => Nat.not_le.mpr h
  obtain ⟨cX0, iX0, hKX0⟩ := u_known (C := RX0) (T := TX0) (N := 7) (n := 7) hts li_wsX00 (hts (.instantiable RX0 7) (li_good _ lb_n_X0))
  obtain ⟨cX1, iX1, hKX1⟩ := u_known (C := RX1) (T := TX1) (N := 6) (n := 6) hts li_wsX10 (hts (.instantiable RX1 6) (li_good _ lb_n_X1))
  obtain ⟨cX2, iX2, hKX2⟩ := u_known (C := RX2) (T := TX2) (N := 5) (n := 5) hts li_wsX20 (hts (.instantiable RX2 5) (li_good _ lb_n_X2))
  obtain ⟨cX3, iX3, hKX3⟩ := u_known (C := RX3) (T := TX3) (N := 3) (n := 3) hts li_wsX30 (hts (.instantiable RX3 3) (li_good _ lb_n_X3))
  obtain ⟨cX4, iX4, hKX4⟩ := u_known (C := RX4) (T := TX4) (N := 2) (n := 2) hts li_wsX40 (hts (.instantiable RX4 2) (li_good _ lb_n_X4))
  obtain ⟨cX5, iX5, hKX5⟩ := u_known (C := RX5) (T := TX5) (N := 8) (n := 8) hts li_wsX50 (hts (.instantiable RX5 8) (li_good _ lb_n_X5))
  obtain ⟨cX6, iX6, hKX6⟩ := u_known (C := RX6) (T := TX6) (N := 17) (n := 17) hts li_wsX60 (hts (.instantiable RX6 17) (li_good _ lb_n_X6))
  obtain ⟨cX7, iX7, hKX7⟩ := u_known (C := RX7) (T := TX7) (N := 4) (n := 4) hts li_wsX70 (hts (.instantiable RX7 4) (li_good _ lb_n_X7))
  obtain ⟨cX8, iX8, hKX8⟩ := u_known (C := RX8) (T := TX8) (N := 41) (n := 41) hts li_wsX80 (hts (.instantiable RX8 41) (li_good _ lb_n_X8))
  obtain ⟨dC, dI, hKc⟩ : ∃ (dC : Nat → ClassId) (dI : Nat → Nat → Nat), ∀ (k : Nat) (q : vw_C), z_cl[k]? = some q → u_Kn s q.1 q.2.1 q.2.2 (dC k) (dI k) := by
    refine ⟨fun k => [cX0, cX1, cX2, cX3, cX4, cX5, cX6, cX7, cX8].getD k cX0, fun k => [iX0, iX1, iX2, iX3, iX4, iX5, iX6, iX7, iX8].getD k iX0, ?_⟩
    intro k q hq
    match k, hq with
    | 0, hq => cases hq; exact hKX0
    | 1, hq => cases hq; exact hKX1
    | 2, hq => cases hq; exact hKX2
    | 3, hq => cases hq; exact hKX3
    | 4, hq => cases hq; exact hKX4
    | 5, hq => cases hq; exact hKX5
    | 6, hq => cases hq; exact hKX6
    | 7, hq => cases hq; exact hKX7
    | 8, hq => cases hq; exact hKX8
    | k + 9, hq => simp [z_cl, vwCl] at hq
  obtain ⟨a0, ha0⟩ := zArr (hts (.arrayClass .int) (li_good _ lb_ac_int)) (fun C h => by cases h)
  obtain ⟨a1, ha1⟩ := zArr (hts (.arrayClass .boolean) (li_good _ lb_ac_boolean)) (fun C h => by cases h)
  obtain ⟨a2, ha2⟩ := zArrO (hts (.arrayOver (.object z_fc)) (by decide +kernel))
  obtain ⟨a3, ha3⟩ := zArr (hts (.arrayClass .long) (by decide +kernel)) (fun C h => by cases h)
  have hel : ∀ j : Nat, j < 33 → (Term.elem (.static "ZMemory" "OPERANDS" "[I") (.int (Int32.ofNat j))).eval #[Value.ref b] s none [] s = some (Value.int (tb_0 j)) := by
    intro j hj
    rcases (show j = 0 ∨ j = 1 ∨ j = 2 ∨ j = 3 ∨ j = 4 ∨ j = 5 ∨ j = 6 ∨ j = 7 ∨ j = 8 ∨ j = 9 ∨ j = 10 ∨ j = 11 ∨ j = 12 ∨ j = 13 ∨ j = 14 ∨ j = 15 ∨ j = 16 ∨ j = 17 ∨ j = 18 ∨ j = 19 ∨ j = 20 ∨ j = 21 ∨ j = 22 ∨ j = 23 ∨ j = 24 ∨ j = 25 ∨ j = 26 ∨ j = 27 ∨ j = 28 ∨ j = 29 ∨ j = 30 ∨ j = 31 ∨ j = 32 by omega) with rfl | rfl | rfl | rfl | rfl | rfl | rfl | rfl | rfl | rfl | rfl | rfl | rfl | rfl | rfl | rfl | rfl | rfl | rfl | rfl | rfl | rfl | rfl | rfl | rfl | rfl | rfl | rfl | rfl | rfl | rfl | rfl | rfl <;> exact va_eqt (hg _ (by decide +kernel))
  obtain ⟨t0, ht0, hT0⟩ := va_Tof (s := s) (tm := .static "ZMemory" "OPERANDS" "[I") (ty := .int) (N := 33) (f := fun j => Value.int (tb_0 j)) (A := fun q : Nat => s.heap.size ≤ q) (by decide) (hg _ (by decide +kernel)) (va_eqt (hg (.eq (.length (.static "ZMemory" "OPERANDS" "[I")) (.int 33)) (by decide +kernel))) hel hA
  have hZ0 := va_Zref (A := fun q : Nat => s.heap.size ≤ q) (hts (.laysStatic "ZMemory" "OPERANDS" "[I") (by decide +kernel)) (hts (.initialized "ZMemory") (by decide +kernel)) ht0 hA
  obtain ⟨x0, _, _, _, hx0, -⟩ := Cond.exactly_spec (hg (.exactly (.string "ZMemory" 59) "java/lang/String") (by decide +kernel))
  have hs0 : vk_R RX7 59 "no such arithmetic" x0 s := vk_R.of (hts (.stringRef "ZMemory" 59 "no such arithmetic") (by decide +kernel)) hx0
  obtain ⟨x1, _, _, _, hx1, -⟩ := Cond.exactly_spec (hg (.exactly (.string "ZMemory" 73) "java/lang/String") (by decide +kernel))
  have hs1 : vk_R RX7 73 "by 0" x1 s := vk_R.of (hts (.stringRef "ZMemory" 73 "by 0") (by decide +kernel)) hx1
  obtain ⟨x2, _, _, _, hx2, -⟩ := Cond.exactly_spec (hg (.exactly (.string "ZMemory" 182) "java/lang/String") (by decide +kernel))
  have hs2 : vk_R RX7 182 "no such character" x2 s := vk_R.of (hts (.stringRef "ZMemory" 182 "no such character") (by decide +kernel)) hx2
  have hU := vx_Zqof (A := fun q : Nat => s.heap.size ≤ q) (hts (.laysStatic Bundle.tN "UNASSIGNED_STACK" Bundle.steD) (by decide +kernel)) (hts (.initialized Bundle.tN) (by decide +kernel)) (hg _ (by decide +kernel)) hA
  have hN := vx_Zqof (A := fun q : Nat => s.heap.size ≤ q) (hts (.laysStatic Bundle.tN "SUPPRESSED_SENTINEL" Bundle.listD) (by decide +kernel)) (hts (.initialized Bundle.tN) (by decide +kernel)) (hg _ (by decide +kernel)) hA
  have hNc : va_Nc "java/lang/ArithmeticException" "java/lang/IllegalArgumentException" s := va_Nc.of (hg (.not (.castable "java/lang/ArithmeticException" "java/lang/IllegalArgumentException")) (by decide +kernel))
  refine ⟨(dC, dI), fun k => [a0, a1, a2, a3].getD k a0, fun k => [t0, x0, x1, x2].getD k 0, fun ad => ⟨⟨hKc, fun k q hk => ?_⟩, fun w hw => va_Nw.of (z_nestT w hw) (hts w (li_nest w hw)), fun q hq => ?_, va_AO.of (hts (.arrayOver (.object z_fc)) (by decide +kernel)), fun q hq => ?_, hU, hN, fun q hq => ?_, hl⟩⟩
  · match k, hk with
    | 0, hk => cases hk; exact ha0
    | 1, hk => cases hk; exact ha1
    | 2, hk => cases hk; exact ha2
    | 3, hk => cases hk; exact ha3
    | k + 4, hk => simp [z_ty] at hk
  · rcases List.mem_cons.mp hq with h | h
    · subst h; exact ⟨hZ0, hT0⟩
    · exact absurd h List.not_mem_nil
  · rcases List.mem_cons.mp hq with h | hq
    · subst h; exact hs0
    rcases List.mem_cons.mp hq with h | hq
    · subst h; exact hs1
    rcases List.mem_cons.mp hq with h | hq
    · subst h; exact hs2
    exact absurd hq List.not_mem_nil
  · rcases List.mem_cons.mp hq with h | hq
    · subst h; exact hNc
    · exact absurd hq List.not_mem_nil
