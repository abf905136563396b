/-! The law's two methods that catch -/
def zQmg (E : zG) (Γ : zX) (mc ms : Nat) : Int32 × zS → State → Prop := fun z => match Γ with
  | (_, _, s, _, args, below, _, _) => MQ below (zQ E (some (.int z.1)) z.2) args s mc ms (zA E)
def zTab (Γ : zX) (hh : List (Nat × Nat × Nat × Nat)) : Prop := match Γ with
  | (_, _, _, _, _, _, _, c) => c.exceptionTable.toList = tableOf hh
def zMw (E : zG) (y : MethodName) (bytes : ByteArray) (maxL : Nat) (hh : List (Nat × Nat × Nat × Nat)) (rm : Room) (av : List Value) (q : Option (Int32 × zS)) (σ : zS) : Prop :=
  ∀ z, q = some z → Met (zl E) y (Cond.codeWith y bytes maxL (some .int) hh :: lw_good) rm (zPc E σ av) (zQ E (some (.int z.1)) z.2) 1 6 (zA E)
theorem zMw_of {E : zG} {y : MethodName} {bytes : ByteArray} {maxL : Nat} {hh : List (Nat × Nat × Nat × Nat)} {rm : Room} {av : List Value} {q : Option (Int32 × zS)} {σ : zS} {lv : List (Option Value)} (hAp : zAp E) (hy : plainName y.cls = true) (hlen : (lg_sl av).length ≤ maxL) {nn : Nat} (hcat : av.all (fun v => v.category == 1) = true) (hlv : av.map some ++ List.replicate nn none = lv)
    (k : ∀ Γ : zX, zO E Γ y.cls bytes maxL (some .int) → zTab Γ hh → zJg E Γ rm maxL (zQmg E Γ 1 6) 0 0 q σ 0 lv []) : zMw E y bytes maxL hh rm av q σ := by
  intro z hz
  refine va_MetW (cc := bytes) (maxL := maxL) (ret := some .int) (hh := hh) hy rfl ?_
  intro p e s m args below meth c s₁ B hml hv
  obtain ⟨rfl, hP, hK⟩ := hv
  have hts0 := atoms_spec (ws := Cond.codeWith y bytes maxL (some .int) hh :: lw_good) B.pre
  have htab := vx_table (x := y) B (hts0 _ List.mem_cons_self)
  have hown : s.vm.findClass y.cls = some m.cls := findClass_of_methodNamed B.named
  have hl := lv_entry av (n := maxL) hlen
  rw [lg_entry_eq]
  generalize (lg_sl av ++ List.replicate (maxL - (lg_sl av).length) Slot.unset).toArray = ls at hl ⊢
  exact k (p, e, s, m, av.toArray, below, meth, c) ⟨B.exec, B.bytes, hml, B.returns, hown, fun w hw => hts0 w (List.mem_cons_of_mem _ hw), hK, hAp, B.notSynchronized⟩ htab z hz s.heap [] ls hP va_S.rf ⟨hl.1, hl.2.1, fun i v h => by
      have q := zargs (n := nn) av 0 i v hcat (by rw [hlv]; exact h)
      rw [Nat.zero_add] at q
      exact ⟨hl.2.2 (i, v) q.1, q.2⟩⟩
theorem r_iretg {E : zG} {Γ : zX} {R : Room} {nL cx sx : Nat} {σ : zS} {pc : Nat} {lv : List (Option Value)} {own : String} {cc : ByteArray} {v : Int32} (C : zO E Γ own cc nL (some .int)) (hd : decode cc pc = .ok (.ireturn, 1)) : zJg E Γ R nL (zQmg E Γ cx sx) cx sx (some (v, σ)) σ pc lv [.int v] := by
  obtain ⟨p, e, s, m, args, below, meth, c⟩ := Γ
  obtain ⟨hx, hb, hml, hr, hown, hts, hK, hAp, hlk⟩ := C
  intro z hz H locs ls hP hS hl
  cases hz
  exact W.iret hx hb hr (fun t ht hW => ⟨rfl, by rw [ht]; exact hP, hS.F ht⟩) hS.2.2 hd hlk
def rm_L_work : Room := { frames := 8, cells := 1, slots := 6, locals := 150 }
def f_L_work (p0 p1 p2 : Int32) (σ : zS) : Option (Int32 × zS) := zbx (f_X7_work p0 p1 p2 σ) (fun r s1 => zc (0 : Int32) 1 (zlet (zu s1 64 ((0 : Int32)).toNatClampNeg r) fun s2 => some ((0 : Int32), s2))) (fun j s1 => if j = 0 then some ((1 : Int32), s1) else if j = 1 then some ((2 : Int32), s1) else none)
set_option maxHeartbeats 4000000 in
set_option maxRecDepth 100000 in
theorem g_L_work {E : zG} {Γ : zX} (C : zO E Γ RL cL_work 6 (some .int)) (ht : zTab Γ [(0, 12, 15, 13), (0, 12, 19, 15)]) (p0 p1 p2 : Int32) (σ : zS) : zJg E Γ rm_L_work 6 (zQmg E Γ 1 6) 0 0 (f_L_work p0 p1 p2 σ) σ 0 [some (.ref (zad E 0)), some (.int p0), some (.int p1), some (.int p2), some (.ref (zad E 64)), none] [] := by
  unfold f_L_work
  refine r_aload (pc := 0) C dL_work_0 rfl ?_
  refine r_iconst (pc := 2) (v := 0) C dL_work_2 (by decide) ?_
  refine r_aload_n (pc := 3) C dL_work_3 rfl ?_
  refine r_iload_n (pc := 4) C dL_work_4 rfl ?_
  refine r_iload_n (pc := 5) C dL_work_5 rfl ?_
  refine r_iload_n (pc := 6) C dL_work_6 rfl ?_
  refine r_callX (pc := 7) (cx2 := 1) (sx2 := 6) (As := [.int p0, .int p1, .int p2]) (rest := [.int 0, .ref (zad E 64)]) C 0 (c_X7_work (zO.ap C) _ _ _ _) lw_c_work lk_i_X7 lw_m_work lw_n_work lw_v_work (n := 3) (by decide +kernel) rfl ⟨rfl, rfl⟩ (by decide) (by decide) rfl rfl rfl (Nat.le_of_ble_eq_true rfl) ⟨by decide, by decide⟩ rfl rfl dL_work_7 (fun r s1 _ => ?_) (fun j s1 _ => ?_)
  · refine r_i2l (pc := 10) C dL_work_10 ?_
    refine r_last (pc := 11) (t0 := 3) C 64 (by decide) (fun _ => rfl) rfl dL_work_11 (fun s2 _ => ?_)
    refine r_goto (pc := 12) (tgt := 23) C dL_work_12 (by decide) ?_
    refine r_iconst (pc := 23) (v := 0) C dL_work_23 (by decide) ?_
    exact r_iretg (pc := 24) C dL_work_24
  · by_cases h0 : j = 0
    · subst h0
      refine Or.inr ⟨[], ⟨0, 12, 15, 13⟩, [⟨0, 12, 19, 15⟩], ht, fun z h => absurd h List.not_mem_nil, by decide, by decide, lw_h_13, lx_k_0, fun a => ?_⟩
      rw [if_pos rfl]
      refine r_astore (pc := 15) (lv' := [some (.ref (zad E 0)), some (.int p0), some (.int p1), some (.int p2), some (.ref (zad E 64)), some (.ref a)]) C dL_work_15 (by decide) rfl ?_
      refine r_iconst (pc := 17) (v := 1) C dL_work_17 (by decide) ?_
      exact r_iretg (pc := 18) C dL_work_18
    · by_cases h1 : j = 1
      · subst h1
        refine Or.inr ⟨[⟨0, 12, 15, 13⟩], ⟨0, 12, 19, 15⟩, [], ht, fun z h => ?_, by decide, by decide, lw_h_15, lx_k_1, fun a => ?_⟩
        · rcases List.mem_cons.mp h with h | h
          · subst h
            exact Or.inr ⟨by decide, "java/lang/IllegalArgumentException", lw_h_13, List.mem_cons_self⟩
          · exact absurd h List.not_mem_nil
        · rw [if_neg (by decide), if_pos rfl]
          refine r_astore (pc := 19) (lv' := [some (.ref (zad E 0)), some (.int p0), some (.int p1), some (.int p2), some (.ref (zad E 64)), some (.ref a)]) C dL_work_19 (by decide) rfl ?_
          refine r_iconst (pc := 21) (v := 2) C dL_work_21 (by decide) ?_
          exact r_iretg (pc := 22) C dL_work_22
      · exact Or.inl (by rw [if_neg h0, if_neg h1])
theorem c_L_work {E : zG} (hAp : zAp E) (p0 p1 p2 : Int32) (σ : zS) : zMw E yL_work cL_work 6 [(0, 12, 15, 13), (0, 12, 19, 15)] rm_L_work [.ref (zad E 0), .int p0, .int p1, .int p2, .ref (zad E 64)] (f_L_work p0 p1 p2 σ) σ :=
  zMw_of (nn := 1) hAp (by decide) (Nat.le_of_ble_eq_true rfl) rfl rfl (fun Γ C ht => g_L_work C ht p0 p1 p2 σ)
def rm_L_printed : Room := { frames := 8, cells := 1, slots := 6, locals := 150 }
def f_L_printed (p0 : Int32) (σ : zS) : Option (Int32 × zS) := zbx (f_X7_printed p0 σ) (fun r s1 => zc (0 : Int32) 1 (zlet (zu s1 64 ((0 : Int32)).toNatClampNeg r) fun s2 => some ((0 : Int32), s2))) (fun j s1 => if j = 2 then some ((1 : Int32), s1) else none)
set_option maxHeartbeats 4000000 in
set_option maxRecDepth 100000 in
theorem g_L_printed {E : zG} {Γ : zX} (C : zO E Γ RL cL_printed 4 (some .int)) (ht : zTab Γ [(0, 9, 12, 21)]) (p0 : Int32) (σ : zS) : zJg E Γ rm_L_printed 4 (zQmg E Γ 1 6) 0 0 (f_L_printed p0 σ) σ 0 [some (.ref (zad E 0)), some (.int p0), some (.ref (zad E 64)), none] [] := by
  unfold f_L_printed
  refine r_aload_n (pc := 0) C dL_printed_0 rfl ?_
  refine r_iconst (pc := 1) (v := 0) C dL_printed_1 (by decide) ?_
  refine r_aload_n (pc := 2) C dL_printed_2 rfl ?_
  refine r_iload_n (pc := 3) C dL_printed_3 rfl ?_
  refine r_callX (pc := 4) (cx2 := 1) (sx2 := 6) (As := [.int p0]) (rest := [.int 0, .ref (zad E 64)]) C 0 (c_X7_printed (zO.ap C) _ _) lw_c_printed lk_i_X7 lw_m_printed lw_n_printed lw_v_printed (n := 1) (by decide +kernel) rfl ⟨rfl, rfl⟩ (by decide) (by decide) rfl rfl rfl (Nat.le_of_ble_eq_true rfl) ⟨by decide, by decide⟩ rfl rfl dL_printed_4 (fun r s1 _ => ?_) (fun j s1 _ => ?_)
  · refine r_i2l (pc := 7) C dL_printed_7 ?_
    refine r_last (pc := 8) (t0 := 3) C 64 (by decide) (fun _ => rfl) rfl dL_printed_8 (fun s2 _ => ?_)
    refine r_goto (pc := 9) (tgt := 15) C dL_printed_9 (by decide) ?_
    refine r_iconst (pc := 15) (v := 0) C dL_printed_15 (by decide) ?_
    exact r_iretg (pc := 16) C dL_printed_16
  · by_cases h0 : j = 2
    · subst h0
      refine Or.inr ⟨[], ⟨0, 9, 12, 21⟩, [], ht, fun z h => absurd h List.not_mem_nil, by decide, by decide, lw_h_21, lx_k_2, fun a => ?_⟩
      rw [if_pos rfl]
      refine r_astore_n (pc := 12) (lv' := [some (.ref (zad E 0)), some (.int p0), some (.ref (zad E 64)), some (.ref a)]) C dL_printed_12 (by decide) rfl ?_
      refine r_iconst (pc := 13) (v := 1) C dL_printed_13 (by decide) ?_
      exact r_iretg (pc := 14) C dL_printed_14
    · exact Or.inl (by rw [if_neg h0])
theorem c_L_printed {E : zG} (hAp : zAp E) (p0 : Int32) (σ : zS) : zMw E yL_printed cL_printed 4 [(0, 9, 12, 21)] rm_L_printed [.ref (zad E 0), .int p0, .ref (zad E 64)] (f_L_printed p0 σ) σ :=
  zMw_of (nn := 1) hAp (by decide) (Nat.le_of_ble_eq_true rfl) rfl rfl (fun Γ C ht => g_L_printed C ht p0 σ)
/-! rows for the law's own walk: a static call of a method with a table; the script -/
theorem zgoodsW {y : MethodName} {bytes : ByteArray} {maxL : Nat} {hh : List (Nat × Nat × Nat × Nat)} (h : Cond.codeWith y bytes maxL (some .int) hh ∈ lw_good) : GoodIn lw_good (Cond.codeWith y bytes maxL (some .int) hh :: lw_good) := fun w hw => by
  rcases List.mem_cons.mp hw with e | e
  · rw [e]; exact ⟨h, lw_good_ok _ h⟩
  · exact ⟨e, lw_good_ok w e⟩
theorem r_callSW {ρ : Type} {Q : ρ × zS → State → Prop} {E : zG} {Γ : zX} {R : Room} {nL cx sx cx2 sx2 : Nat} {σ : zS} {pc : Nat} {lv : List (Option Value)} {rest : List Value} {own : String} {cc : ByteArray} {ret : Option FieldType} {y : MethodName} {bytes : ByteArray} {maxL index n : Nat} {hh : List (Nat × Nat × Nat × Nat)} {rm : Room} {q : Option (Int32 × zS)} {K : Int32 → zS → Option (ρ × zS)} {As : List Value} (C : zO E Γ own cc nL ret) (hM : zMw E y bytes maxL hh rm As q σ) (hc : Cond.codeWith y bytes maxL (some .int) hh ∈ lw_good) (hini : (match Γ with | (_, _, s, _, args, _, _, _) => (Cond.initialized y.cls).before args s = true)) (hlink : Cond.methodLink own index y ∈ lw_good) (hstat : Cond.static y ∈ lw_good) (hd2 : y.cls ≠ "java/lang/invoke/MethodHandle" ∧ y.cls ≠ "java/lang/invoke/VarHandle" ∧ (parseMethodDescriptor y.desc).map (fun d => d.parameters.length) = some n) (hn : As.length = n) (hrc : rm.cells = 1 ∧ rm.slots = 6) (hR : rm.frames + 1 ≤ R.frames ∧ 8 + (maxL + 11) + rm.locals ≤ R.locals) (hst : (rest.map fun v => v.category).sum ≤ 8) (hcs : cx + 1 ≤ R.cells ∧ sx + 6 ≤ R.slots) (h1 : cx + 1 = cx2) (h2 : sx + 6 = sx2) (hd : decode cc pc = .ok (.invokestatic index, 3))
    (k : ∀ r σ1, q = some (r, σ1) → zJg E Γ R nL Q cx2 sx2 (K r σ1) σ1 (pc + 3) lv (.int r :: rest)) : zJg E Γ R nL Q cx sx (zbind q K) σ pc lv (As.reverse ++ rest) := by
  subst h1; subst h2
  obtain ⟨p, e, s, m, args, below, meth, c⟩ := Γ
  obtain ⟨hx, hb, hml, hr, hown, hts, hK, hAp, hlk⟩ := C
  intro z hz H locs ls hP hS hl
  obtain ⟨r, σ1, hq, hz⟩ := zb_some hz
  have run : va_Run p (zl E) e R s m args below meth c H locs cx sx 1 6 (F0 m pc ls (As.reverse ++ rest)) rest ((zQ E (some (.int r)) σ1) As.toArray) (zA E) :=
    vx_runSW (hh := hh) (Ts := lw_good) (As := As) ⟨hx, hb, hml, hown, hts⟩ (hM (r, σ1) hq) ⟨⟨hrc.1, hrc.2, hR.1, hR.2, pay_in hts (zgoodsW hc), List.mem_cons_self⟩, hts _ hc, hini, ⟨hd2.1, hd2.2.1⟩, fun sig h => by have h2 := hd2.2.2; rw [h] at h2; exact (Option.some.inj h2).symm, hts _ hlink, hts _ hstat⟩ ⟨zPc_blind, fun U hU hW => zPre As hK hP hS hU hW⟩ rfl hn hl.1 rfl (lv_room hst) hd hcs
  intro T hT X
  obtain ⟨v, st₀, t, T', L, h0, X', hL, e1, e2, ⟨hv, hP1, hF⟩, go⟩ := run T hT X
  have hv : v = some (.int r) := by cases hv; rfl
  subst hv
  rw [← e1] at hP1
  have hF1 : H.size ≤ T'.heap.size := by rw [e1, ← h0]; exact hF.1
  have hF2 : ∀ x : Nat, x < H.size → ¬ zA E x → T'.heap[x]? = H[x]? := fun x h1 h2 => by rw [e1, ← h0]; exact hF.2 x (by rw [h0]; exact h1) h2
  obtain ⟨t2, a1, b1⟩ := k r σ1 hq z hz T'.heap (locs ++ L) ls hP1 ⟨Nat.le_trans hS.1 hF1, fun x h1 h2 => (hF2 x (Nat.lt_of_lt_of_le h1 hS.1) h2).trans (hS.2.1 x h1 h2), fun x hx => by
      rcases List.mem_append.mp hx with h | h
      · exact hS.2.2 x h
      · exact hL x h⟩ hl T' rfl X'
  exact ⟨t2, go t2 a1, b1⟩
/-- the law's script -/
def zSc (E : zG) (Γ : zX) (b L : Nat) (xs : Nat → Int32) : Prop := match Γ with
  | (_, _, s, _, _, _, _, _) => va_X b L xs s s.heap ∧ b < s.heap.size ∧ ¬ zA E b
theorem r_sld {ρ : Type} {Q : ρ × zS → State → Prop} {E : zG} {Γ : zX} {R : Room} {nL cx sx : Nat} {P : Option (ρ × zS)} {σ : zS} {pc b L : Nat} {xs : Nat → Int32} {lv : List (Option Value)} {rest : List Value} {own : String} {cc : ByteArray} {ret : Option FieldType} {i : Int32} (C : zO E Γ own cc nL ret) (S : zSc E Γ b L xs) (hd : decode cc pc = .ok (.iaload, 1)) (k : zJg E Γ R nL Q cx sx P σ (pc + 1) lv (.int (xs i.toNatClampNeg) :: rest)) : zJg E Γ R nL Q cx sx (zc i L P) σ pc lv (.int i :: .ref b :: rest) := by
  obtain ⟨p, e, s, m, args, below, meth, c⟩ := Γ
  obtain ⟨hx, hb, hml, hr, hown, hts, hK, hAp, hlk⟩ := C
  obtain ⟨hX, hbl, hbA⟩ := S
  intro z hz H locs ls hP hS hl
  obtain ⟨h0, hz⟩ := zc_some hz
  exact va_sld hx hb hX hbl hbA hS h0 hd (k z hz H locs ls hP hS hl)
theorem r_slen {ρ : Type} {Q : ρ × zS → State → Prop} {E : zG} {Γ : zX} {R : Room} {nL cx sx : Nat} {P : Option (ρ × zS)} {σ : zS} {pc b L : Nat} {xs : Nat → Int32} {lv : List (Option Value)} {rest : List Value} {own : String} {cc : ByteArray} {ret : Option FieldType} (C : zO E Γ own cc nL ret) (S : zSc E Γ b L xs) (hd : decode cc pc = .ok (.arraylength, 1)) (k : zJg E Γ R nL Q cx sx P σ (pc + 1) lv (.int (Int32.ofNat L) :: rest)) : zJg E Γ R nL Q cx sx P σ pc lv (.ref b :: rest) := by
  obtain ⟨p, e, s, m, args, below, meth, c⟩ := Γ
  obtain ⟨hx, hb, hml, hr, hown, hts, hK, hAp, hlk⟩ := C
  obtain ⟨hX, hbl, hbA⟩ := S
  intro z hz H locs ls hP hS hl
  exact va_slen hx hb hX hbl hbA hS hd (k z hz H locs ls hP hS hl)
theorem r_bool {ρ : Type} {Q : ρ × zS → State → Prop} {E : zG} {Γ : zX} {R : Room} {nL cx sx : Nat} {P : Option (ρ × zS)} {σ : zS} {pc : Nat} {lv : List (Option Value)} {rest : List Value} {own : String} {cc : ByteArray} {ret : Option FieldType} {x : Int32} {off1 off2 : Int} {t1 t2 : Nat} (C : zO E Γ own cc nL ret) (d1 : decode cc pc = .ok (.ifCond .eq off1, 3)) (h1 : (pc : Int) + off1 = (t1 : Int)) (d2 : decode cc (pc + 3) = .ok (.iconst 1, 1)) (d3 : decode cc (pc + 3 + 1) = .ok (.goto off2, 3)) (h2 : ((pc + 3 + 1 : Nat) : Int) + off2 = (t2 : Int)) (d4 : decode cc t1 = .ok (.iconst 0, 1)) (h3 : t1 + 1 = t2) (k : zJg E Γ R nL Q cx sx P σ t2 lv (.int (if x = 0 then (0 : Int32) else 1) :: rest)) : zJg E Γ R nL Q cx sx P σ pc lv (.int x :: rest) := by
  have e : P = if x = 0 then P else P := (ite_self P).symm
  rw [e]
  refine r_if_eq C d1 h1 (fun c => ?_) (fun c => ?_)
  · rw [if_pos c] at k
    refine r_iconst (v := 0) C d4 (by decide) ?_
    rw [h3]; exact k
  · rw [if_neg c] at k
    refine r_iconst (v := 1) C d2 (by decide) ?_
    exact r_goto (tgt := t2) C d3 h2 k

