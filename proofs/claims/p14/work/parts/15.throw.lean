/-! Methods that throw, and their catching -/
abbrev zx : Type := Int32 ⊕ Nat
def zxn : Nat → String
  | 0 => "java/lang/IllegalArgumentException"
  | 1 => "java/lang/ArithmeticException"
  | _ => "java/lang/IndexOutOfBoundsException"
def zXC (E : zG) (j : Nat) (σ : zS) : String → State → State → Prop := fun En st t => En = zxn j ∧ va_P (zD E) z_cl (zW E σ) t.heap ∧ va_F (zA E) st t
def zQcX (E : zG) (z : zx × zS) : Array Value → State → Outcome → State → Prop := match z.1 with
  | .inl r => zQ E (some (.int r)) z.2
  | .inr _ => fun _ _ _ _ => False
def zXCX (E : zG) (z : zx × zS) : String → State → State → Prop := match z.1 with
  | .inl _ => fun _ _ _ => False
  | .inr j => zXC E j z.2
def zQx (E : zG) (Γ : zX) : zx × zS → State → Prop := fun z => match Γ with
  | (_, _, s, _, args, below, _, _) => vx_MQ below (zQcX E z) (zXCX E z) args s 1 6 (zA E)
def zMx (E : zG) (y : MethodName) (bytes : ByteArray) (maxL : Nat) (ret : Option FieldType) (rm : Room) (av : List Value) (q : Option (zx × zS)) (σ : zS) : Prop :=
  ∀ z, q = some z → vx_Met (zl E) y (zws y bytes maxL ret) rm (zPc E σ av) (zQcX E z) (zXCX E z) 1 6 (zA E)
def zNoH (Γ : zX) : Prop := match Γ with
  | (_, _, _, _, _, _, _, c) => ∀ x ∈ c.exceptionTable.toList, False
theorem zMx_of {E : zG} {y : MethodName} {bytes : ByteArray} {maxL : Nat} {ret : Option FieldType} {rm : Room} {av : List Value} {q : Option (zx × zS)} {σ : zS} {lv : List (Option Value)} (hAp : zAp E) (hy : plainName y.cls = true) (hlen : (lg_sl av).length ≤ maxL) {nn : Nat} (hcat : av.all (fun v => v.category == 1) = true) (hlv : av.map some ++ List.replicate nn none = lv)
    (k : ∀ Γ : zX, zO E Γ y.cls bytes maxL ret → zNoH Γ → zJg E Γ rm maxL (zQx E Γ) 0 0 q σ 0 lv []) : zMx E y bytes maxL ret rm av q σ := by
  intro z hz
  refine vx_ofW (cc := bytes) (maxL := maxL) (ret := ret) hy rfl ?_
  intro p e s m args below meth c s₁ B hml hno hv
  obtain ⟨rfl, hP, hK⟩ := hv
  have hts0 := atoms_spec (ws := zws y bytes maxL ret) B.pre
  have hown : s.vm.findClass y.cls = some m.cls := findClass_of_methodNamed B.named
  have hl := lv_entry av (n := maxL) hlen
  rw [lg_entry_eq]
  generalize (lg_sl av ++ List.replicate (maxL - (lg_sl av).length) Slot.unset).toArray = ls at hl ⊢
  exact k (p, e, s, m, av.toArray, below, meth, c) ⟨B.exec, B.bytes, hml, B.returns, hown, fun w hw => hts0 w (List.mem_cons_of_mem _ hw), hK, hAp, B.notSynchronized⟩ hno z hz s.heap [] ls hP va_S.rf ⟨hl.1, hl.2.1, fun i v h => by
      have q := zargs (n := nn) av 0 i v hcat (by rw [hlv]; exact h)
      rw [Nat.zero_add] at q
      exact ⟨hl.2.2 (i, v) q.1, q.2⟩⟩
section zThrow
variable {E : zG} {Γ : zX} {R : Room} {nL : Nat} {σ : zS} {pc : Nat} {lv : List (Option Value)} {rest : List Value} {own : String} {cc : ByteArray} {ret : Option FieldType}
theorem r_xret {v : Int32} (C : zO E Γ own cc nL (some .int)) (hd : decode cc pc = .ok (.ireturn, 1)) : zJg E Γ R nL (zQx E Γ) 0 0 (some (.inl v, σ)) σ pc lv [.int v] := by
  obtain ⟨p, e, s, m, args, below, meth, c⟩ := Γ
  obtain ⟨hx, hb, hml, hr, hown, hts, hK, hAp, hlk⟩ := C
  intro z hz H locs ls hP hS hl
  cases hz
  refine W.widen (k := 1) (n := 6) (by omega) (by omega) ?_
  exact vx_ret (W.iret hx hb hr (fun t ht hW => ⟨rfl, by rw [ht]; exact hP, hS.F ht⟩) hS.2.2 hd hlk)
theorem r_throw {ik is ic : Nat} {cls text : String} {names : List String} {j sa : Nat} {B : List Cond} (C : zO E Γ own cc nL ret) (hno : zNoH Γ) (hcls : cls = zxn j) (hfit : Bundle.fit cls = true) (hfn : ∀ n ∈ names, Bundle.fit n = true) (hk : Cond.classLink own ik cls ∈ lw_good) (hini : Cond.initialized cls ∈ lw_good) (htx : (own, is, text, sa) ∈ z_txt E) (hw1 : ∀ w ∈ (vx_atS own ic cls names).filter goodWord, w ∈ lw_good) (hw2 : ∀ w ∈ (vx_atS own ic cls names).filter (fun w => !goodWord w), w ∈ B) (hB : ∀ w ∈ B, w ∈ z_nest)
    (hgood : ∀ w ∈ Cond.classLink own ik cls :: Cond.initialized cls :: vx_atS own ic cls names, vx_ot w = true)
    (d0 : decode cc pc = .ok (.new ik, 3)) (d3 : decode cc (pc + 3) = .ok (.dup, 1)) (d4 : decode cc (pc + 4) = .ok (.ldc is, 2)) (d6 : decode cc (pc + 6) = .ok (.invokespecial ic, 3)) (d9 : decode cc (pc + 9) = .ok (.athrow, 1))
    (hR1 : names.length + 3 < R.frames) (hR2 : (rest.map fun v => v.category).sum + (13 * (names.length + 1) + 43) ≤ R.locals) (hR3 : 1 ≤ R.cells) (hR4 : 6 ≤ R.slots) (hon : ∀ w ∈ z_nest, w.onTables = true) :
    zJg E Γ R nL (zQx E Γ) 0 0 (some (.inr j, σ)) σ pc lv rest := by
  subst hcls
  obtain ⟨p, e, s, m, args, below, meth, c⟩ := Γ
  obtain ⟨hx, hb, hml, hr, hown, hts, hK, hAp, hlk⟩ := C
  intro z hz H locs ls hP hS hl
  cases hz
  refine vx_throwS (A := zA E) hx hb hK.2.2.2.2.2.2.2.2 hown hfit hfn (hts _ hk) (hts _ hini) (hK.2.2.2.2.1 _ htx) (vx_hat (fun w hw => hts _ (hw1 w hw)) hw2 (fun w hw => va_Nw.use (hon w (hB w hw)) (hK.2.1 w (hB w hw)))) hgood hK.2.2.2.2.2.1 hK.2.2.2.2.2.2.1 hS (hl.1.trans hml.symm) d0 d3 d4 d6 d9 (fun x hx => (hno x hx).elim) hR1 hR2 (by rw [Nat.zero_add]; exact hR3) (by rw [Nat.zero_add]; exact hR4) hlk (fun t hal hsz hkeep => ⟨rfl, ?_, ?_⟩) hS.2.2 (by omega) (by omega)
  · exact hP.kept (fun k q hk => hkeep q.1 ((hP k q hk).lt))
  · exact ⟨Nat.le_trans hS.1 hsz, fun q h1 h2 => (hkeep q (Nat.lt_of_lt_of_le h1 hS.1)).trans (hS.2.1 q h1 h2)⟩
/-- a store into an array of longs that hold ints -/
theorem r_last {ρ : Type} {Q : ρ × zS → State → Prop} {cx sx : Nat} {K2 : zS → Option (ρ × zS)} {n t0 : Nat} {cA : ClassId} {x y : Int32} (C : zO E Γ own cc nL ret) (i : Nat) (hi : i < z_N) (he : ∀ f, z_E E i f = .inl (cA, n, .inr (.inl (fun j => (f j).toInt64)))) (ht : (z_ty E)[t0]? = some (cA, .long)) (hd : decode cc pc = .ok (.lastore, 1)) (k : ∀ σ1, σ1 = zu σ i y.toNatClampNeg x → zJg E Γ R nL Q cx sx (K2 σ1) σ1 (pc + 1) lv rest) : zJg E Γ R nL Q cx sx (zc y n (zlet (zu σ i y.toNatClampNeg x) K2)) σ pc lv (.long x.toInt64 :: .int y :: .ref (zad E i) :: rest) := by
  obtain ⟨p, e, s, m, args, below, meth, c⟩ := Γ
  obtain ⟨hx, hb, hml, hr, hown, hts, hK, hAp, hlk⟩ := C
  intro z hz H locs ls hP hS hl
  obtain ⟨h0, hz⟩ := zc_some hz
  refine va_last (D := zD E) hx hb hK.1 hP (zW_D hAp σ) hS i t0 (by rw [zW_at hi, he]) ht h0 hd (fun H1 locs1 hP1 hD1 hS1 => ?_)
  have e1 : vp_updL (fun j => (σ i j).toInt64) y.toNatClampNeg x.toInt64 = fun j => (upd (σ i) y.toNatClampNeg x j).toInt64 := by
    funext j
    unfold vp_updL upd
    by_cases h : j = y.toNatClampNeg
    · rw [if_pos h, if_pos h]
    · rw [if_neg h, if_neg h]
  rw [e1, ← he, zW_set hi] at hP1
  exact k _ rfl z hz H1 locs1 ls hP1 hS1 hl
theorem r_lald {ρ : Type} {Q : ρ × zS → State → Prop} {cx sx : Nat} {P : Option (ρ × zS)} {n t0 : Nat} {cA : ClassId} {y : Int32} (C : zO E Γ own cc nL ret) (i : Nat) (hi : i < z_N) (he : z_E E i (σ i) = .inl (cA, n, .inr (.inl (fun j => (σ i j).toInt64)))) (ht : (z_ty E)[t0]? = some (cA, .long)) (hd : decode cc pc = .ok (.laload, 1)) (k : zJg E Γ R nL Q cx sx P σ (pc + 1) lv (.long (σ i y.toNatClampNeg).toInt64 :: rest)) : zJg E Γ R nL Q cx sx (zc y n P) σ pc lv (.int y :: .ref (zad E i) :: rest) := by
  obtain ⟨p, e, s, m, args, below, meth, c⟩ := Γ
  obtain ⟨hx, hb, hml, hr, hown, hts, hK, hAp, hlk⟩ := C
  intro z hz H locs ls hP hS hl
  obtain ⟨h0, hz⟩ := zc_some hz
  exact va_lald (D := zD E) hx hb hK.1 hP i t0 (by rw [zW_at hi, he]) ht h0 hd (k z hz H locs ls hP hS hl)
end zThrow
def zbx {ρ : Type} (q : Option (zx × zS)) (K : Int32 → zS → Option ρ) (X : Nat → zS → Option ρ) : Option ρ := match q with
  | none => none
  | some (.inl r, σ) => K r σ
  | some (.inr j, σ) => X j σ
theorem zO_tab : True := trivial
/-- a call that may throw; what is thrown is caught here, by kind: X j tells how it goes on -/
theorem r_callX {ρ : Type} {Q : ρ × zS → State → Prop} {E : zG} {Γ : zX} {R : Room} {nL cx sx cx2 sx2 : Nat} {σ : zS} {pc : Nat} {lv : List (Option Value)} {rest : List Value} {own : String} {cc : ByteArray} {ret : Option FieldType} {y : MethodName} {bytes : ByteArray} {maxL index n : Nat} {ret' : Option FieldType} {rm : Room} {q : Option (zx × zS)} {K : Int32 → zS → Option (ρ × zS)} {X : Nat → zS → Option (ρ × zS)} {As : List Value} {ci : Nat} {fs : List Value} {cq : vw_C} (C : zO E Γ own cc nL ret) (i : Nat) (hM : zMx E y bytes maxL ret' rm (.ref (zad E i) :: As) q σ) (hc : Cond.code y bytes maxL ret' ∈ lw_good) (hini : Cond.initialized y.cls ∈ lw_good) (hlink : Cond.methodLink own index y ∈ lw_good) (hinst : Cond.instanceMethod y ∈ lw_good) (hsel : Cond.selects y.cls y y ∈ lw_good) (hd2 : y.cls ≠ "java/lang/invoke/MethodHandle" ∧ y.cls ≠ "java/lang/invoke/VarHandle" ∧ (parseMethodDescriptor y.desc).map (fun d => d.parameters.length) = some n) (hn : As.length = n) (hrc : rm.cells = 1 ∧ rm.slots = 6) (hR : rm.frames + 1 ≤ R.frames ∧ 8 + (maxL + 11) + rm.locals ≤ R.locals) (hi : i < z_N) (he : z_E E i (σ i) = .inr (ci, fs)) (hcq : z_cl[ci]? = some cq) (hcn : cq.1 = y.cls) (hst : (rest.map fun v => v.category).sum ≤ 8) (hcs : cx + 1 ≤ R.cells ∧ sx + 6 ≤ R.slots) (h1 : cx + 1 = cx2) (h2 : sx + 6 = sx2) (hd : decode cc pc = .ok (.invokevirtual index, 3))
    (k : ∀ r σ1, q = some (.inl r, σ1) → zJg E Γ R nL Q cx2 sx2 (K r σ1) σ1 (pc + 3) lv (.int r :: rest))
    (kx : ∀ j σ1, q = some (.inr j, σ1) → (X j σ1 = none) ∨ ∃ (pre : List ExceptionTableEntry) (x : ExceptionTableEntry) (suf : List ExceptionTableEntry), (match Γ with | (_, _, _, _, _, _, _, c) => c.exceptionTable.toList = pre ++ x :: suf) ∧ (∀ z ∈ pre, covers z pc = false ∨ (z.catchType ≠ 0 ∧ ∃ nm : String, Cond.classLink own z.catchType nm ∈ lw_good ∧ (zxn j, nm) ∈ z_nc)) ∧ covers x pc = true ∧ x.catchType ≠ 0 ∧ Cond.classLink own x.catchType (zxn j) ∈ lw_good ∧ Cond.castable (zxn j) (zxn j) ∈ z_nest ∧ ∀ a, zJg E Γ R nL Q cx2 sx2 (X j σ1) σ1 x.handlerPc lv [.ref a]) :
    zJg E Γ R nL Q cx sx (zbx q K X) σ pc lv (As.reverse ++ .ref (zad E i) :: rest) := by
  subst h1; subst h2
  obtain ⟨p, e, s, m, args, below, meth, c⟩ := Γ
  obtain ⟨hx, hb, hml, hr, hown, hts, hK, hAp, hlk⟩ := C
  intro z hz H locs ls hP hS hl
  cases hq : q with
  | none => rw [hq] at hz; cases hz
  | some z' =>
    rw [hq] at hz
    have run : vx_Run p (zl E) e R s m args below meth c H locs cx sx 1 6 (F0 m pc ls (As.reverse ++ .ref (zad E i) :: rest)) rest ((zQcX E z') (Value.ref (zad E i) :: As).toArray) (zXCX E z') (zA E) :=
      vx_runV (Ts := lw_good) (As := As) (C := y.cls) ⟨hx, hb, hml, hown, hts⟩ (hM z' hq) ⟨⟨hrc.1, hrc.2, hR.1, hR.2, pay_in hts (zgoods hc), List.mem_cons_self, hts _ hc, hts _ hini, ⟨hd2.1, hd2.2.1⟩, fun sig h => by have h2 := hd2.2.2; rw [h] at h2; exact (Option.some.inj h2).symm, hts _ hlink⟩, hts _ hinst, hts _ hsel⟩ ⟨zPc_blind, by rw [← hcn]; exact va_recv hK.1 hP hcq (q0 := i) (by rw [zW_at hi, he]), fun U hU hW => zPre (.ref (zad E i) :: As) hK hP hS hU hW⟩ rfl hn hl.1 rfl (lv_room hst) hd hcs
    have keep : ∀ {st₀ t T' : State} {L : List Loc}, st₀.heap = H → T'.heap = t.heap → (∀ q ∈ L, zA E q.base) → va_F (zA E) st₀ t → va_S (zA E) s.heap T'.heap (locs ++ L) := by
      intro st₀ t T' L h0 e1 hL hF
      have hF1 : H.size ≤ T'.heap.size := by rw [e1, ← h0]; exact hF.1
      have hF2 : ∀ x : Nat, x < H.size → ¬ zA E x → T'.heap[x]? = H[x]? := fun x h1 h2 => by rw [e1, ← h0]; exact hF.2 x (by rw [h0]; exact h1) h2
      exact ⟨Nat.le_trans hS.1 hF1, fun x h1 h2 => (hF2 x (Nat.lt_of_lt_of_le h1 hS.1) h2).trans (hS.2.1 x h1 h2), fun x hx => by
        rcases List.mem_append.mp hx with h | h
        · exact hS.2.2 x h
        · exact hL x h⟩
    obtain ⟨zr', σ1⟩ := z'
    intro T hT X'
    cases zr' with
    | inl r =>
      rcases run T hT X' with ⟨v, st₀, t, T', L, h0, X2, hL, e1, e2, hQ, go⟩ | ⟨_, _, _, _, _, _, _, _, _, _, _, _, hf, _⟩
      · have hQ : zQ E (some (.int r)) σ1 (Value.ref (zad E i) :: As).toArray st₀ (.returned v) t := hQ
        obtain ⟨hv, hP1, hF⟩ := hQ
        have hv : v = some (.int r) := by cases hv; rfl
        subst hv
        rw [← e1] at hP1
        obtain ⟨t2, a1, b1⟩ := k r σ1 hq z hz T'.heap (locs ++ L) ls hP1 (keep h0 e1 hL hF) hl T' rfl X2
        exact ⟨t2, go t2 a1, b1⟩
      · exact hf.elim
    | inr j =>
      rcases run T hT X' with ⟨_, _, _, _, _, _, _, _, _, _, hf, _⟩ | ⟨qa, st₀, t, T', L, En, ce, h0, X2, hL, e1, e2, hXC, hce, hcv, hcl, st⟩
      · exact hf.elim
      · have hXC : zXC E j σ1 En st₀ t := hXC
        obtain ⟨hEn, hP1, hF⟩ := hXC
        subst hEn
        rw [← e1] at hP1 hce
        rcases kx j σ1 hq with hnone | ⟨pre, x, suf, htab, hpre, hcov, h0t, hlk2, hcast, kk⟩
        · exact absurd hz (by show ¬ X j σ1 = some z; rw [hnone]; exact fun h => by cases h)
        · have hw := vx_catch (rest := rest) hown pre x suf htab (fun z9 h9 => (hpre z9 h9).imp id (fun ⟨a, nm, b, c9⟩ => ⟨a, nm, hts _ b, hK.2.2.2.2.2.2.2.1 _ c9⟩)) hcov h0t (hts _ hlk2) (va_Nw.use rfl (hK.2.1 _ hcast)) hce hcv hcl (kk qa z hz T'.heap (locs ++ L) ls hP1 (keep h0 e1 hL hF) hl)
          obtain ⟨t2, a1, b1⟩ := hw T' rfl X2
          exact ⟨t2, st.trans a1, b1⟩


def rm_X7_work : Room := { frames := 6, cells := 1, slots := 6, locals := 103 }
def f_X7_work (p0 : Int32) (p1 : Int32) (p2 : Int32) (σ : zS) : Option (zx × zS) := if p0 < 0 then (some (.inr 0, σ)) else (if p0 ≤ (9 : Int32) then (zbind (f_X7_number p1 σ) fun v1 s1 => zbind (f_X7_number p2 s1) fun v2 s2 => zbind (f_X7_arithmetic p0 v1 v2 s2) fun v3 s3 => if 0 ≤ v3 then (zbind (f_X7_number v3 s3) fun v4 s4 => some (.inl v4, s4)) else (some (.inr 1, s3))) else (some (.inr 0, σ)))
def rm_X7_printed : Room := { frames := 6, cells := 1, slots := 6, locals := 100 }
def f_X7_printed (p0 : Int32) (σ : zS) : Option (zx × zS) := zbind (f_X4_characterAt p0 σ) fun v1 s1 => if 0 ≤ v1 then (some (.inl v1, s1)) else (some (.inr 2, s1))
set_option maxHeartbeats 4000000 in
set_option maxRecDepth 100000 in
theorem g_X7_work {E : zG} {Γ : zX} (C : zO E Γ RX7 cX7_work 5 (some .int)) (hno : zNoH Γ) (p0 : Int32) (p1 : Int32) (p2 : Int32) (σ : zS) : zJg E Γ rm_X7_work 5 (zQx E Γ) 0 0 (f_X7_work p0 p1 p2 σ) σ 0 [some (.ref (zad E 0)), some (.int p0), some (.int p1), some (.int p2), none] [] := by
  unfold f_X7_work
  refine r_iload_n (pc := 0) C dX7_work_0 rfl ?_
  refine r_if_lt (pc := 1) (tgt := 10) C dX7_work_1 (by decide) (fun _ => ?_) (fun _ => ?_)
  · exact r_throw (pc := 10) (j := 0) (names := ["java/lang/RuntimeException", "java/lang/Exception"]) (B := [.castable "java/lang/IllegalArgumentException" "java/lang/IllegalArgumentException", .declares ⟨"java/lang/RuntimeException", "<init>", "(Ljava/lang/String;)V"⟩, .declares ⟨"java/lang/Exception", "<init>", "(Ljava/lang/String;)V"⟩, .declares ⟨"java/lang/Throwable", "<init>", "(Ljava/lang/String;)V"⟩]) C hno rfl (by decide +kernel) (by decide +kernel) lx_c_0 lx_i_0 (List.mem_of_getElem? (i := 0) rfl) lg_x0 (by decide +kernel) (List.forall_mem_cons.mpr ⟨lx_k_0, List.forall_mem_cons.mpr ⟨lx_d_0, List.forall_mem_cons.mpr ⟨lx_d_1, List.forall_mem_cons.mpr ⟨lx_d_2, fun _ h => absurd h List.not_mem_nil⟩⟩⟩⟩) (by decide +kernel) dX7_work_10 dX7_work_13 dX7_work_14 dX7_work_16 dX7_work_19 (by decide) (Nat.le_of_ble_eq_true rfl) (by decide) (by decide) z_nestT
  · refine r_iload_n (pc := 4) C dX7_work_4 rfl ?_
    refine r_bipush (pc := 5) (v := 9) C dX7_work_5 (by decide) ?_
    refine r_icmp_le (pc := 7) (tgt := 20) C dX7_work_7 (by decide) (fun _ => ?_) (fun _ => ?_)
    · refine r_iload_n (pc := 20) C dX7_work_20 rfl ?_
      refine r_iload_n (pc := 21) C dX7_work_21 rfl ?_
      refine r_callS (pc := 22) C (c_X7_number (zO.ap C) _ _) lk_c_X7_number lk_i_X7 lk_m_X7_64 lk_s_X7_number (n := 1) (by decide +kernel) rfl ⟨rfl, rfl⟩ (by decide) (Nat.le_of_ble_eq_true rfl) ⟨Nat.zero_le _, Nat.zero_le _⟩ dX7_work_22 (fun v1 s1 _ => ?_)
      refine r_iload_n (pc := 25) C dX7_work_25 rfl ?_
      refine r_callS (pc := 26) C (c_X7_number (zO.ap C) _ _) lk_c_X7_number lk_i_X7 lk_m_X7_64 lk_s_X7_number (n := 1) (by decide +kernel) rfl ⟨rfl, rfl⟩ (by decide) (Nat.le_of_ble_eq_true rfl) ⟨Nat.zero_le _, Nat.zero_le _⟩ dX7_work_26 (fun v2 s2 _ => ?_)
      refine r_callS (pc := 29) C (c_X7_arithmetic (zO.ap C) _ _ _ _) lk_c_X7_arithmetic lk_i_X7 lk_m_X7_67 lk_s_X7_arithmetic (n := 3) (by decide +kernel) rfl ⟨rfl, rfl⟩ (by decide) (Nat.le_of_ble_eq_true rfl) ⟨Nat.zero_le _, Nat.zero_le _⟩ dX7_work_29 (fun v3 s3 _ => ?_)
      refine r_istore (pc := 32) (lv' := [some (.ref (zad E 0)), some (.int p0), some (.int p1), some (.int p2), some (.int v3)]) C dX7_work_32 (by decide) rfl ?_
      refine r_iload (pc := 34) C dX7_work_34 rfl ?_
      refine r_if_ge (pc := 36) (tgt := 49) C dX7_work_36 (by decide) (fun _ => ?_) (fun _ => ?_)
      · refine r_iload (pc := 49) C dX7_work_49 rfl ?_
        refine r_callS (pc := 51) C (c_X7_number (zO.ap C) _ _) lk_c_X7_number lk_i_X7 lk_m_X7_64 lk_s_X7_number (n := 1) (by decide +kernel) rfl ⟨rfl, rfl⟩ (by decide) (Nat.le_of_ble_eq_true rfl) ⟨Nat.zero_le _, Nat.zero_le _⟩ dX7_work_51 (fun v4 s4 _ => ?_)
        exact r_xret (pc := 54) C dX7_work_54
      · exact r_throw (pc := 39) (j := 1) (names := ["java/lang/RuntimeException", "java/lang/Exception"]) (B := [.castable "java/lang/ArithmeticException" "java/lang/ArithmeticException", .declares ⟨"java/lang/RuntimeException", "<init>", "(Ljava/lang/String;)V"⟩, .declares ⟨"java/lang/Exception", "<init>", "(Ljava/lang/String;)V"⟩, .declares ⟨"java/lang/Throwable", "<init>", "(Ljava/lang/String;)V"⟩]) C hno rfl (by decide +kernel) (by decide +kernel) lx_c_1 lx_i_1 (List.mem_of_getElem? (i := 1) rfl) lg_x1 (by decide +kernel) (List.forall_mem_cons.mpr ⟨lx_k_1, List.forall_mem_cons.mpr ⟨lx_d_0, List.forall_mem_cons.mpr ⟨lx_d_1, List.forall_mem_cons.mpr ⟨lx_d_2, fun _ h => absurd h List.not_mem_nil⟩⟩⟩⟩) (by decide +kernel) dX7_work_39 dX7_work_42 dX7_work_43 dX7_work_45 dX7_work_48 (by decide) (Nat.le_of_ble_eq_true rfl) (by decide) (by decide) z_nestT
    · exact r_throw (pc := 10) (j := 0) (names := ["java/lang/RuntimeException", "java/lang/Exception"]) (B := [.castable "java/lang/IllegalArgumentException" "java/lang/IllegalArgumentException", .declares ⟨"java/lang/RuntimeException", "<init>", "(Ljava/lang/String;)V"⟩, .declares ⟨"java/lang/Exception", "<init>", "(Ljava/lang/String;)V"⟩, .declares ⟨"java/lang/Throwable", "<init>", "(Ljava/lang/String;)V"⟩]) C hno rfl (by decide +kernel) (by decide +kernel) lx_c_0 lx_i_0 (List.mem_of_getElem? (i := 0) rfl) lg_x0 (by decide +kernel) (List.forall_mem_cons.mpr ⟨lx_k_0, List.forall_mem_cons.mpr ⟨lx_d_0, List.forall_mem_cons.mpr ⟨lx_d_1, List.forall_mem_cons.mpr ⟨lx_d_2, fun _ h => absurd h List.not_mem_nil⟩⟩⟩⟩) (by decide +kernel) dX7_work_10 dX7_work_13 dX7_work_14 dX7_work_16 dX7_work_19 (by decide) (Nat.le_of_ble_eq_true rfl) (by decide) (by decide) z_nestT
theorem c_X7_work {E : zG} (hAp : zAp E) (p0 : Int32) (p1 : Int32) (p2 : Int32) (σ : zS) : zMx E yX7_work cX7_work 5 (some .int) rm_X7_work [.ref (zad E 0), .int p0, .int p1, .int p2] (f_X7_work p0 p1 p2 σ) σ :=
  zMx_of (nn := 1) hAp (by decide) (Nat.le_of_ble_eq_true rfl) rfl rfl (fun Γ C hno => g_X7_work C hno p0 p1 p2 σ)
set_option maxHeartbeats 4000000 in
set_option maxRecDepth 100000 in
theorem g_X7_printed {E : zG} {Γ : zX} (C : zO E Γ RX7 cX7_printed 3 (some .int)) (hno : zNoH Γ) (p0 : Int32) (σ : zS) : zJg E Γ rm_X7_printed 3 (zQx E Γ) 0 0 (f_X7_printed p0 σ) σ 0 [some (.ref (zad E 0)), some (.int p0), none] [] := by
  unfold f_X7_printed
  refine r_aload_n (pc := 0) C dX7_printed_0 rfl ?_
  refine r_get (pc := 1) C K_X7 0 3 (by decide) rfl (by decide) lk_f_X7_35 rfl dX7_printed_1 ?_
  refine r_getN (pc := 4) C K_X6 13 4 (by decide) rfl (by decide) lk_fn_X7_155 rfl dX7_printed_4 ?_
  refine r_iload_n (pc := 7) C dX7_printed_7 rfl ?_
  refine r_callV (pc := 8) C 41 (c_X4_characterAt (zO.ap C) _ _) lk_c_X4_characterAt lk_i_X4 lk_m_X7_177 lk_n_X4_characterAt lk_v_X4_characterAt (n := 1) (by decide +kernel) rfl ⟨rfl, rfl⟩ (by decide) (by decide) rfl rfl rfl (Nat.le_of_ble_eq_true rfl) ⟨Nat.zero_le _, Nat.zero_le _⟩ dX7_printed_8 (fun v1 s1 _ => ?_)
  refine r_istore_n (pc := 11) (lv' := [some (.ref (zad E 0)), some (.int p0), some (.int v1)]) C dX7_printed_11 (by decide) rfl ?_
  refine r_iload_n (pc := 12) C dX7_printed_12 rfl ?_
  refine r_if_ge (pc := 13) (tgt := 26) C dX7_printed_13 (by decide) (fun _ => ?_) (fun _ => ?_)
  · refine r_iload_n (pc := 26) C dX7_printed_26 rfl ?_
    exact r_xret (pc := 27) C dX7_printed_27
  · exact r_throw (pc := 16) (j := 2) (names := ["java/lang/RuntimeException", "java/lang/Exception"]) (B := [.castable "java/lang/IndexOutOfBoundsException" "java/lang/IndexOutOfBoundsException", .declares ⟨"java/lang/RuntimeException", "<init>", "(Ljava/lang/String;)V"⟩, .declares ⟨"java/lang/Exception", "<init>", "(Ljava/lang/String;)V"⟩, .declares ⟨"java/lang/Throwable", "<init>", "(Ljava/lang/String;)V"⟩]) C hno rfl (by decide +kernel) (by decide +kernel) lx_c_2 lx_i_2 (List.mem_of_getElem? (i := 2) rfl) lg_x2 (by decide +kernel) (List.forall_mem_cons.mpr ⟨lx_k_2, List.forall_mem_cons.mpr ⟨lx_d_0, List.forall_mem_cons.mpr ⟨lx_d_1, List.forall_mem_cons.mpr ⟨lx_d_2, fun _ h => absurd h List.not_mem_nil⟩⟩⟩⟩) (by decide +kernel) dX7_printed_16 dX7_printed_19 dX7_printed_20 dX7_printed_22 dX7_printed_25 (by decide) (Nat.le_of_ble_eq_true rfl) (by decide) (by decide) z_nestT
theorem c_X7_printed {E : zG} (hAp : zAp E) (p0 : Int32) (σ : zS) : zMx E yX7_printed cX7_printed 3 (some .int) rm_X7_printed [.ref (zad E 0), .int p0] (f_X7_printed p0 σ) σ :=
  zMx_of (nn := 1) hAp (by decide) (Nat.le_of_ble_eq_true rfl) rfl rfl (fun Γ C hno => g_X7_printed C hno p0 σ)
