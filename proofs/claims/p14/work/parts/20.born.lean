/-! What is made: constructors, over explicit worlds -/
def zB (E : zG) (Γ : zX) (R : Room) (nL : Nat) (A : Nat → Prop) (Q : State → Prop) (cx sx : Nat) (ws : va_W) (pc : Nat) (lv : List (Option Value)) (st : List Value) : Prop :=
  match Γ with
  | (p, e, s, m, args, below, meth, c) => ∀ (H : Heap) (locs : List Loc) (ls : Array Slot), va_P (zD E) z_cl ws H → va_D A ws → va_S A s.heap H locs → zL ls nL lv → W p (zl E) e R s m args below meth c H locs cx sx Q (F0 m pc ls st)
def zOB (E : zG) (Γ : zX) (own : String) (cc : ByteArray) (nL : Nat) (A : Nat → Prop) : Prop :=
  match Γ with
  | (p, _, s, m, args, _, meth, c) => p.tables.exec = Jvm.exec ∧ c.code = cc ∧ c.maxLocals = nL ∧ s.vm.findClass own = some m.cls ∧ (∀ w ∈ lw_good, w.before args s = true) ∧ zK E s ∧ meth.locks = false ∧ (∀ q, s.heap.size ≤ q → A q) ∧ ∀ q, A q → zA E q
def zIn (Γ : zX) : Prop := match Γ with
  | (_, _, _, _, _, _, meth, _) => meth.name = "<init>"
/-- a constructor's contract: out of the cells w0 it makes the cells w1 as, 'as' the n new addresses -/
def zI (E : zG) (y : MethodName) (bytes : ByteArray) (maxL : Nat) (rm : Room) (av : List Value) (w0 : va_W) (n : Nat) (w1 : List Nat → va_W) (mc ms : Nat) : Prop :=
  ∀ sz, Met (zl E) y (zws y bytes maxL none) rm (va_Pc av (fun U => U.heap.size = sz ∧ zZ E ≤ sz ∧ va_P (zD E) z_cl w0 U.heap ∧ va_D (zA E) w0 ∧ zK E U)) (fun _ st oc t => oc = .returned none ∧ (∃ as : List Nat, as.length = n ∧ va_P (zD E) z_cl (w1 as) t.heap ∧ va_D (va_A w0 sz) (w1 as)) ∧ va_F (va_A w0 sz) st t) mc ms (va_A w0 sz)
section zBorn
variable {E : zG} {Γ : zX} {R : Room} {nL : Nat} {A : Nat → Prop} {Q : State → Prop} {cx sx : Nat} {ws : va_W} {pc : Nat} {lv : List (Option Value)} {rest : List Value} {own : String} {cc : ByteArray}
theorem b_iconst {n : Int} {v : Int32} (C : zOB E Γ own cc nL A) (hd : decode cc pc = .ok (.iconst n, 1)) (hv : Int32.ofInt n = v) (k : zB E Γ R nL A Q cx sx ws (pc + 1) lv (.int v :: rest)) : zB E Γ R nL A Q cx sx ws pc lv (rest) := by
  obtain ⟨p, e, s, m, args, below, meth, c⟩ := Γ
  obtain ⟨hx, hb, hml, hown, hts, hK, hlk, hA, hAZ⟩ := C
  intro H locs ls hP hD hS hl
  exact lv_iconst hx hb hd hv (k H locs ls hP hD hS hl)
theorem b_bipush {n : Int} {v : Int32} (C : zOB E Γ own cc nL A) (hd : decode cc pc = .ok (.bipush n, 2)) (hv : (Int8.ofInt n).toInt32 = v) (k : zB E Γ R nL A Q cx sx ws (pc + 2) lv (.int v :: rest)) : zB E Γ R nL A Q cx sx ws pc lv (rest) := by
  obtain ⟨p, e, s, m, args, below, meth, c⟩ := Γ
  obtain ⟨hx, hb, hml, hown, hts, hK, hlk, hA, hAZ⟩ := C
  intro H locs ls hP hD hS hl
  exact lv_bipush hx hb hd hv (k H locs ls hP hD hS hl)
theorem b_sipush {n : Int} {v : Int32} (C : zOB E Γ own cc nL A) (hd : decode cc pc = .ok (.sipush n, 3)) (hv : (Int16.ofInt n).toInt32 = v) (k : zB E Γ R nL A Q cx sx ws (pc + 3) lv (.int v :: rest)) : zB E Γ R nL A Q cx sx ws pc lv (rest) := by
  obtain ⟨p, e, s, m, args, below, meth, c⟩ := Γ
  obtain ⟨hx, hb, hml, hown, hts, hK, hlk, hA, hAZ⟩ := C
  intro H locs ls hP hD hS hl
  exact lv_sipush hx hb hd hv (k H locs ls hP hD hS hl)
theorem b_dup {va : Value} (C : zOB E Γ own cc nL A) (hd : decode cc pc = .ok (.dup, 1)) (h1 : va.category = 1) (k : zB E Γ R nL A Q cx sx ws (pc + 1) lv (va :: va :: rest)) : zB E Γ R nL A Q cx sx ws pc lv (va :: rest) := by
  obtain ⟨p, e, s, m, args, below, meth, c⟩ := Γ
  obtain ⟨hx, hb, hml, hown, hts, hK, hlk, hA, hAZ⟩ := C
  intro H locs ls hP hD hS hl
  exact lv_dup hx hb hd h1 (k H locs ls hP hD hS hl)
theorem b_iload_n {x : Int32} {i : Fin 4} (C : zOB E Γ own cc nL A) (hd : decode cc pc = .ok (.iload_n i, 1)) (hv : lv[(i : Nat)]? = some (some (.int x))) (k : zB E Γ R nL A Q cx sx ws (pc + 1) lv (.int x :: rest)) : zB E Γ R nL A Q cx sx ws pc lv rest := by
  obtain ⟨p, e, s, m, args, below, meth, c⟩ := Γ
  obtain ⟨hx, hb, hml, hown, hts, hK, hlk, hA, hAZ⟩ := C
  intro H locs ls hP hD hS hl
  exact lv_iload_n hx hb hd rfl (hl.2.2 _ _ hv).1 (k H locs ls hP hD hS hl)
theorem b_istore_n {x : Int32} {i : Fin 4} {lv' : List (Option Value)} (C : zOB E Γ own cc nL A) (hd : decode cc pc = .ok (.istore_n i, 1)) (hn : (i : Nat) < nL) (hv : lv.set (i : Nat) (some (.int x)) = lv') (k : zB E Γ R nL A Q cx sx ws (pc + 1) lv' rest) : zB E Γ R nL A Q cx sx ws pc lv (.int x :: rest) := by
  obtain ⟨p, e, s, m, args, below, meth, c⟩ := Γ
  obtain ⟨hx, hb, hml, hown, hts, hK, hlk, hA, hAZ⟩ := C
  intro H locs ls hP hD hS hl
  subst hv
  exact lv_istore_n hx hb hd rfl hl.has hn rfl (fun ls' h' => k H locs ls' hP hD hS (hl.put rfl h'))
theorem b_aload_n {x : Nat} {i : Fin 4} (C : zOB E Γ own cc nL A) (hd : decode cc pc = .ok (.aload_n i, 1)) (hv : lv[(i : Nat)]? = some (some (.ref x))) (k : zB E Γ R nL A Q cx sx ws (pc + 1) lv (.ref x :: rest)) : zB E Γ R nL A Q cx sx ws pc lv rest := by
  obtain ⟨p, e, s, m, args, below, meth, c⟩ := Γ
  obtain ⟨hx, hb, hml, hown, hts, hK, hlk, hA, hAZ⟩ := C
  intro H locs ls hP hD hS hl
  exact lv_aload_n hx hb hd rfl (hl.2.2 _ _ hv).1 (k H locs ls hP hD hS hl)
theorem b_astore_n {x : Nat} {i : Fin 4} {lv' : List (Option Value)} (C : zOB E Γ own cc nL A) (hd : decode cc pc = .ok (.astore_n i, 1)) (hn : (i : Nat) < nL) (hv : lv.set (i : Nat) (some (.ref x)) = lv') (k : zB E Γ R nL A Q cx sx ws (pc + 1) lv' rest) : zB E Γ R nL A Q cx sx ws pc lv (.ref x :: rest) := by
  obtain ⟨p, e, s, m, args, below, meth, c⟩ := Γ
  obtain ⟨hx, hb, hml, hown, hts, hK, hlk, hA, hAZ⟩ := C
  intro H locs ls hP hD hS hl
  subst hv
  exact lv_astore_n hx hb hd rfl hl.has hn rfl (fun ls' h' => k H locs ls' hP hD hS (hl.put rfl h'))
theorem b_iinc {x v : Int32} {i : Nat} {n : Int} {lv' : List (Option Value)} (C : zOB E Γ own cc nL A) (hd : decode cc pc = .ok (.iinc i n, 3)) (hn : i < nL) (hg : lv[i]? = some (some (.int x))) (hx2 : x + Int32.ofInt n = v) (hv : lv.set i (some (.int v)) = lv') (k : zB E Γ R nL A Q cx sx ws (pc + 3) lv' rest) : zB E Γ R nL A Q cx sx ws pc lv rest := by
  obtain ⟨p, e, s, m, args, below, meth, c⟩ := Γ
  obtain ⟨hx, hb, hml, hown, hts, hK, hlk, hA, hAZ⟩ := C
  intro H locs ls hP hD hS hl
  subst hv
  obtain ⟨j, hj⟩ := List.getElem?_of_mem (zP_mem.mpr hg)
  exact lv_iinc hx hb hd hl.has hj hx2 hn rfl (fun ls' h' => k H locs ls' hP hD hS (hl.put rfl h'))
theorem b_goto {off : Int} {tgt : Nat} (C : zOB E Γ own cc nL A) (hd : decode cc pc = .ok (.goto off, 3)) (ht : (pc : Int) + off = (tgt : Int)) (k : zB E Γ R nL A Q cx sx ws tgt lv rest) : zB E Γ R nL A Q cx sx ws pc lv rest := by
  obtain ⟨p, e, s, m, args, below, meth, c⟩ := Γ
  obtain ⟨hx, hb, hml, hown, hts, hK, hlk, hA, hAZ⟩ := C
  intro H locs ls hP hD hS hl
  exact lv_goto hx hb hd ht (k H locs ls hP hD hS hl)
theorem b_geN {x y : Int32} {off : Int} (C : zOB E Γ own cc nL A) (hd : decode cc pc = .ok (.if_icmp .ge off, 3)) {tgt : Nat} (ht : (pc : Int) + off = (tgt : Int)) (hc : ¬ y ≤ x) (k : zB E Γ R nL A Q cx sx ws (pc + 3) lv rest) : zB E Γ R nL A Q cx sx ws pc lv (.int y :: .int x :: rest) := by
  obtain ⟨p, e, s, m, args, below, meth, c⟩ := Γ
  obtain ⟨hx, hb, hml, hown, hts, hK, hlk, hA, hAZ⟩ := C
  intro H locs ls hP hD hS hl
  exact lv_icmp_ge hx hb hd ht (fun q => absurd q hc) (fun _ => k H locs ls hP hD hS hl)
theorem b_geY {x y : Int32} {off : Int} {tgt : Nat} (C : zOB E Γ own cc nL A) (hd : decode cc pc = .ok (.if_icmp .ge off, 3)) (ht : (pc : Int) + off = (tgt : Int)) (hc : y ≤ x) (k : zB E Γ R nL A Q cx sx ws tgt lv rest) : zB E Γ R nL A Q cx sx ws pc lv (.int y :: .int x :: rest) := by
  obtain ⟨p, e, s, m, args, below, meth, c⟩ := Γ
  obtain ⟨hx, hb, hml, hown, hts, hK, hlk, hA, hAZ⟩ := C
  intro H locs ls hP hD hS hl
  exact lv_icmp_ge hx hb hd ht (fun _ => k H locs ls hP hD hS hl) (fun q => absurd hc q)
theorem b_obj {idx a : Nat} (C : zOB E Γ own cc nL A) (hd : decode cc pc = .ok (.invokespecial idx, 3)) (hlink : Cond.methodLink own idx objectInit ∈ lw_good) (hinst : Cond.instanceMethod objectInit ∈ lw_good) (hcode : Cond.code objectInit ⟨#[0xb1]⟩ 1 none ∈ lw_good) (hR : 1 ≤ R.frames) (hR2 : (rest.map fun v => v.category).sum + 12 ≤ R.locals) (k : zB E Γ R nL A Q cx sx ws (pc + 3) lv rest) : zB E Γ R nL A Q cx sx ws pc lv (.ref a :: rest) := by
  obtain ⟨p, e, s, m, args, below, meth, c⟩ := Γ
  obtain ⟨hx, hb, hml, hown, hts, hK, hlk, hA, hAZ⟩ := C
  intro H locs ls hP hD hS hl
  refine W.objInit hx hb hown (hts _ hlink) (hts _ hinst) (hts _ hcode) rfl (by rw [hml]; exact hl.1) rfl hd hR (by show 2 * 0 + _ + 12 ≤ _; omega) ?_
  exact k H locs ls hP hD hS hl
theorem b_get {ci N index : Nat} {Cn : String} {T : u_T} {ty : Nat → FieldType} {v : Value} {fs : List Value} {a : Nat} (C : zOB E Γ own cc nL A) (K : zCl ci Cn T N ty) (q0 j : Nat) (he : ws[q0]? = some (a, .inr (ci, fs))) (hj : j < N) (hlink : Cond.fieldLink own index (T j).1 (T j).2.1 (T j).2.2.1 ∈ lw_good) (hv : fs[j]? = some v) (hd : decode cc pc = .ok (.getfield index, 3)) (k : zB E Γ R nL A Q cx sx ws (pc + 3) lv (v :: rest)) : zB E Γ R nL A Q cx sx ws pc lv (.ref a :: rest) := by
  obtain ⟨p, e, s, m, args, below, meth, c⟩ := Γ
  obtain ⟨hx, hb, hml, hown, hts, hK, hlk, hA, hAZ⟩ := C
  intro H locs ls hP hD hS hl
  exact va_get (D := zD E) hx hb hts K.1 hown hK.1 hP q0 he K.2.1 j hj (hts _ hlink) (fun _ h => h) hv hd (k H locs ls hP hD hS hl)
theorem b_putF {ci N index : Nat} {Cn : String} {T : u_T} {ty : Nat → FieldType} {v : Value} {fs : List Value} {a : Nat} {tf : FieldType} {ws' : va_W} (C : zOB E Γ own cc nL A) (K : zCl ci Cn T N ty) (q0 j : Nat) (hin : zIn Γ) (hdecl : (T j).1 = own) (he : ws[q0]? = some (a, .inr (ci, fs))) (hj : j < N) (hlink : Cond.fieldLink own index (T j).1 (T j).2.1 (T j).2.2.1 ∈ lw_good) (hfin : (T j).2.2.2 = true) (hty : ty j = tf) (hn : narrow tf v = v) (hfit : fits tf v = true) (hl2 : j < fs.length) (hws : ws.set q0 (a, .inr (ci, fs.set j v)) = ws') (hd : decode cc pc = .ok (.putfield index, 3)) (k : zB E Γ R nL A Q cx sx ws' (pc + 3) lv rest) : zB E Γ R nL A Q cx sx ws pc lv (v :: .ref a :: rest) := by
  obtain ⟨p, e, s, m, args, below, meth, c⟩ := Γ
  obtain ⟨hx, hb, hml, hown, hts, hK, hlk, hA, hAZ⟩ := C
  intro H locs ls hP hD hS hl
  subst hws
  exact va_putF (D := zD E) (ty := tf) hx hb hts K.1 ty K.2.2.1 K.2.2.2 hown hK.1 hP hD hS q0 he K.2.1 j hj (hts _ hlink) (fun _ h => h) hfin hin hdecl (by rw [K.2.2.1 j hj, hty]) hn hfit hl2 hd (fun H1 locs1 hP1 hD1 hS1 => k H1 locs1 ls hP1 hD1 hS1 hl)
theorem b_put {ci N index : Nat} {Cn : String} {T : u_T} {ty : Nat → FieldType} {v : Value} {fs : List Value} {a : Nat} {tf : FieldType} {ws' : va_W} (C : zOB E Γ own cc nL A) (K : zCl ci Cn T N ty) (q0 j : Nat) (he : ws[q0]? = some (a, .inr (ci, fs))) (hj : j < N) (hlink : Cond.fieldLink own index (T j).1 (T j).2.1 (T j).2.2.1 ∈ lw_good) (hfin : (T j).2.2.2 = false) (hty : ty j = tf) (hn : narrow tf v = v) (hfit : fits tf v = true) (hl2 : j < fs.length) (hws : ws.set q0 (a, .inr (ci, fs.set j v)) = ws') (hd : decode cc pc = .ok (.putfield index, 3)) (k : zB E Γ R nL A Q cx sx ws' (pc + 3) lv rest) : zB E Γ R nL A Q cx sx ws pc lv (v :: .ref a :: rest) := by
  obtain ⟨p, e, s, m, args, below, meth, c⟩ := Γ
  obtain ⟨hx, hb, hml, hown, hts, hK, hlk, hA, hAZ⟩ := C
  intro H locs ls hP hD hS hl
  subst hws
  exact va_put (D := zD E) (ty := tf) hx hb hts K.1 ty K.2.2.1 K.2.2.2 hown hK.1 hP hD hS q0 he K.2.1 j hj (hts _ hlink) (fun _ h => h) hfin (by rw [K.2.2.1 j hj, hty]) hn hfit hl2 hd (fun H1 locs1 hP1 hD1 hS1 => k H1 locs1 ls hP1 hD1 hS1 hl)
theorem b_new {ci N index : Nat} {Cn : String} {T : u_T} {ty : Nat → FieldType} {fs : List Value} {cx2 sx2 : Nat} (C : zOB E Γ own cc nL A) (K : zCl ci Cn T N ty) (hcl : Cond.classLink own index Cn ∈ lw_good) (hinst : Cond.instantiable Cn N ∈ lw_good) (hini : Cond.initialized Cn ∈ lw_good) (hfs : ∀ j, j < N → defaultValue (ty j) = vp_V fs j) (hc : cx + 1 ≤ R.cells) (hs : sx + N ≤ R.slots) (h1 : cx + 1 = cx2) (h2 : sx + N = sx2) (hd : decode cc pc = .ok (.new index, 3)) (k : ∀ q, zB E Γ R nL A Q cx2 sx2 (ws ++ [(q, .inr (ci, fs))]) (pc + 3) lv (.ref q :: rest)) : zB E Γ R nL A Q cx sx ws pc lv rest := by
  obtain ⟨p, e, s, m, args, below, meth, c⟩ := Γ
  obtain ⟨hx, hb, hml, hown, hts, hK, hlk, hA, hAZ⟩ := C
  intro H locs ls hP hD hS hl
  subst h1; subst h2
  exact va_new hx hb hts K.1 ty K.2.2.1 hown (hts _ hcl) (hts _ hinst) (hts _ hini) hK.1 hP hD hS hA K.2.1 hfs hc hs hd (fun q H1 hP1 hD1 hS1 => k q H1 locs ls hP1 hD1 hS1 hl)
theorem zRA_one {E : zG} {s : State} {cA : ClassId} {ty : FieldType} {t0 : Nat} {c0 : ClassId} (hK : va_K (zD E) z_cl (z_ty E) s) (ht : (z_ty E)[t0]? = some (c0, ty)) (hK2 : va_K (zD E) z_cl (z_ty E ++ [(cA, ty)]) s) : cA = c0 := by
  have h1 := (hK.2 t0 _ ht).2
  have h2 := (hK2.2 (z_ty E).length (cA, ty) (by rw [List.getElem?_append_right (Nat.le_refl _), Nat.sub_self]; rfl)).2
  cases ty with
  | object C =>
    obtain ⟨_, _, _, _, _, a⟩ := h1
    obtain ⟨_, _, _, _, _, b⟩ := h2
    exact Option.some.inj (b.symm.trans a)
  | _ => exact Option.some.inj (h2.symm.trans h1)
theorem b_newa {atype : ArrayType} {tf : FieldType} {n : Int32} {N' t0 : Nat} {c0 : ClassId} {a0 : vp_A} {cx2 sx2 : Nat} (C : zOB E Γ own cc nL A) (harr : Cond.arrayClass (newarray.typeOf atype) ∈ lw_good) (hty : newarray.typeOf atype = tf) (ht : (z_ty E)[t0]? = some (c0, tf)) (ha : ∀ cA : ClassId, vp_cell cA a0 = arrV cA N' (fun _ => defaultValue tf)) (hn : ¬ n < 0) (hN : n.toNatClampNeg = N') (hbytes : N' * componentBytes tf ≤ 536870912) (hc : cx + 1 ≤ R.cells) (hs : sx + N' ≤ R.slots) (h1 : cx + 1 = cx2) (h2 : sx + N' = sx2) (hd : decode cc pc = .ok (.newarray atype, 2)) (k : ∀ q, zB E Γ R nL A Q cx2 sx2 (ws ++ [(q, .inl (c0, a0))]) (pc + 2) lv (.ref q :: rest)) : zB E Γ R nL A Q cx sx ws pc lv (.int n :: rest) := by
  obtain ⟨p, e, s, m, args, below, meth, c⟩ := Γ
  obtain ⟨hx, hb, hml, hown, hts, hK, hlk, hA, hAZ⟩ := C
  intro H locs ls hP hD hS hl
  subst h1; subst h2
  refine va_newa hx hb (hts _ harr) hty hK.1 hP hD hS hA ha hn hN hbytes hc hs hd (fun q cA H1 hK1 hP1 hD1 hS1 => ?_)
  cases zRA_one hK.1 ht hK1
  exact k q H1 locs ls hP1 hD1 hS1 hl
theorem b_anew {Cn : String} {index : Nat} {n : Int32} {N' t0 : Nat} {c0 : ClassId} {cx2 sx2 : Nat} (C : zOB E Γ own cc nL A) (hcl : Cond.classLink own index Cn ∈ lw_good) (hov : zK E Γ.2.2.1 → va_AO Cn Γ.2.2.1) (ht : (z_ty E)[t0]? = some (c0, .object Cn)) (hn : ¬ n < 0) (hN : n.toNatClampNeg = N') (hbytes : N' * 4 ≤ 536870912) (hc : cx + 1 ≤ R.cells) (hs : sx + N' ≤ R.slots) (h1 : cx + 1 = cx2) (h2 : sx + N' = sx2) (hd : decode cc pc = .ok (.anewarray index, 3)) (k : ∀ q, zB E Γ R nL A Q cx2 sx2 (ws ++ [(q, .inl (c0, N', .inr (.inr (.inr (.inr (fun _ => none))))))]) (pc + 3) lv (.ref q :: rest)) : zB E Γ R nL A Q cx sx ws pc lv (.int n :: rest) := by
  obtain ⟨p, e, s, m, args, below, meth, c⟩ := Γ
  obtain ⟨hx, hb, hml, hown, hts, hK, hlk, hA, hAZ⟩ := C
  intro H locs ls hP hD hS hl
  subst h1; subst h2
  refine va_newq hx hb hown (hts _ hcl) (hov hK) hK.1 hP hD hS hA hn hN hbytes hc hs hd (fun q cA H1 hK1 hP1 hD1 hS1 => ?_)
  cases zRA_one hK.1 ht hK1
  exact k q H1 locs ls hP1 hD1 hS1 hl
theorem b_aast {q0 qk t0 ci a v n : Nat} {c0 : ClassId} {r : vw_C} {vs : List Value} {f : Nat → Option Nat} {i : Int32} {ws' : va_W} (C : zOB E Γ own cc nL A) (ha : ws[q0]? = some (a, .inl (c0, n, .inr (.inr (.inr (.inr f)))))) (ht : (z_ty E)[t0]? = some (c0, .object r.1)) (hv : ws[qk]? = some (v, .inr (ci, vs))) (hc : z_cl[ci]? = some r) (hin : vp_in i n) (hws : ws.set q0 (a, .inl (c0, n, .inr (.inr (.inr (.inr (va_up f i.toNatClampNeg (some v))))))) = ws') (hd : decode cc pc = .ok (.aastore, 1)) (k : zB E Γ R nL A Q cx sx ws' (pc + 1) lv rest) : zB E Γ R nL A Q cx sx ws pc lv (.ref v :: .int i :: .ref a :: rest) := by
  obtain ⟨p, e, s, m, args, below, meth, c⟩ := Γ
  obtain ⟨hx, hb, hml, hown, hts, hK, hlk, hA, hAZ⟩ := C
  intro H locs ls hP hD hS hl
  subst hws
  exact va_astq (D := zD E) hx hb hK.1 hP hD hS q0 t0 qk ci ha ht hv hc hin hd (fun H1 locs1 hP1 hD1 hS1 => k H1 locs1 ls hP1 hD1 hS1 hl)
theorem b_callI {y : MethodName} {bytes : ByteArray} {maxL index n nn b mc ms cx2 sx2 : Nat} {rm : Room} {As : List Value} {w0 wr : va_W} {w1 : List Nat → va_W} (C : zOB E Γ own cc nL A) (hM : zI E y bytes maxL rm (.ref b :: As) w0 nn w1 mc ms) (hc : Cond.code y bytes maxL none ∈ lw_good) (hini : Cond.initialized y.cls ∈ lw_good) (hlink : Cond.methodLink own index y ∈ lw_good) (hinst : Cond.instanceMethod y ∈ lw_good) (hyn : y.name = "<init>") (hd2 : y.cls ≠ "java/lang/invoke/MethodHandle" ∧ y.cls ≠ "java/lang/invoke/VarHandle" ∧ (parseMethodDescriptor y.desc).map (fun d => d.parameters.length) = some n) (hn : As.length = n) (hrc : rm.cells = mc ∧ rm.slots = ms) (hR : rm.frames + 1 ≤ R.frames ∧ 8 + (maxL + 11) + rm.locals ≤ R.locals)
    (isC isR : List Nat) (hC : isC.map (fun i => ws[i]?) = w0.map some) (hRr : isR.map (fun i => ws[i]?) = wr.map some) (hnd : va_nd isR = true) (hndC : va_nd isC = true) (hdis : ∀ i ∈ isR, i ∉ isC) (hst : (rest.map fun v => v.category).sum ≤ 8) (hcs : cx + mc ≤ R.cells ∧ sx + ms ≤ R.slots) (h1 : cx + mc = cx2) (h2 : sx + ms = sx2) (hd : decode cc pc = .ok (.invokespecial index, 3))
    (k : ∀ as : List Nat, as.length = nn → zB E Γ R nL A Q cx2 sx2 (wr ++ w1 as) (pc + 3) lv rest) : zB E Γ R nL A Q cx sx ws pc lv (As.reverse ++ .ref b :: rest) := by
  subst h1; subst h2
  obtain ⟨p, e, s, m, args, below, meth, c⟩ := Γ
  obtain ⟨hx, hb, hml, hown, hts, hK, hlk, hA, hAZ⟩ := C
  intro H locs ls hP hD hS hl
  have hF : ∀ q, va_A w0 H.size q → A q := va_free hD hS hA isC hC
  have hZ : zZ E ≤ H.size := Nat.le_trans (hAZ _ (hA _ (Nat.le_refl _))) hS.1
  have hPc : va_P (zD E) z_cl w0 H := fun k9 q9 h9 => by
    have e9 : (isC.map (fun i => ws[i]?))[k9]? = some (some q9) := by rw [hC, List.getElem?_map, h9]; rfl
    rw [List.getElem?_map] at e9
    cases hi : isC[k9]? with
    | none => rw [hi] at e9; cases e9
    | some i => rw [hi] at e9; exact hP i q9 (Option.some.inj e9)
  have hDc : va_D (zA E) w0 := (hD.sub isC hndC hC).weaken (fun _ _ _ h => hAZ _ h)
  have run : va_Run p (zl E) e R s m args below meth c H locs cx sx mc ms (F0 m pc ls (As.reverse ++ .ref b :: rest)) rest ((fun _ st oc t => oc = .returned none ∧ (∃ as : List Nat, as.length = nn ∧ va_P (zD E) z_cl (w1 as) t.heap ∧ va_D (va_A w0 H.size) (w1 as)) ∧ va_F (va_A w0 H.size) st t) (Value.ref b :: As).toArray) (va_A w0 H.size) :=
    va_runI (Ts := lw_good) (As := As) ⟨hx, hb, hml, hown, hts⟩ (hM H.size) ⟨⟨hrc.1, hrc.2, hR.1, hR.2, pay_in hts (zgoods hc), List.mem_cons_self, hts _ hc, hts _ hini, ⟨hd2.1, hd2.2.1⟩, fun sig h => by have h2 := hd2.2.2; rw [h] at h2; exact (Option.some.inj h2).symm, hts _ hlink⟩, hyn, hts _ hinst⟩ ⟨fun _ U g mk q => ⟨q.1, q.2.1, q.2.2.1, q.2.2.2.1, q.2.2.2.2.1, zK.eqv (U := U.calling g mk _) q.2.2.2.2.2 rfl rfl⟩, fun U hU hW => ⟨rfl, by rw [hU], hZ, by rw [hU]; exact hPc, hDc, hK.go hW (fun a h1 h2 => by rw [hU]; exact hS.2.1 a h1 (fun q => h2 (hAZ _ q)))⟩⟩ rfl hn hl.1 rfl (lv_room hst) hd hcs
  intro T hT X
  obtain ⟨v, st₀, t, T', L, h0, X', hL, e1, e2, ⟨hv, ⟨as, hal, hP1, hD1⟩, hFr⟩, go⟩ := run T hT X
  have hv : v = none := by cases hv; rfl
  subst hv
  have hF1 : H.size ≤ T'.heap.size := by rw [e1, ← h0]; exact hFr.1
  have hF2 : ∀ x : Nat, x < H.size → ¬ va_A w0 H.size x → T'.heap[x]? = H[x]? := fun x h1 h2 => by rw [e1, ← h0]; exact hFr.2 x (by rw [h0]; exact h1) h2
  rw [← e1] at hP1
  obtain ⟨hPj, hDj⟩ := va_join hP hD isC isR hC hRr hnd hdis hF2 hF hP1 hD1
  obtain ⟨t2, a1, b1⟩ := k as hal T'.heap (locs ++ L) ls hPj hDj ⟨Nat.le_trans hS.1 hF1, fun x h1 h2 => (hF2 x (Nat.lt_of_lt_of_le h1 hS.1) (fun q => h2 (hF x q))).trans (hS.2.1 x h1 h2), fun x hx => by
      rcases List.mem_append.mp hx with h | h
      · exact hS.2.2 x h
      · exact hF _ (hL x h)⟩ hl T' rfl X'
  exact ⟨t2, go t2 a1, b1⟩
theorem b_callIN {y : MethodName} {bytes : ByteArray} {maxL index n nn b mc ms cx2 sx2 : Nat} {rm : Room} {As : List Value} {w0 wr : va_W} {w1 : List Nat → va_W} {host : String} (C : zOB E Γ own cc nL A) (hM : zI E y bytes maxL rm (.ref b :: As) w0 nn w1 mc ms) (hc : Cond.code y bytes maxL none ∈ lw_good) (hini : Cond.initialized y.cls ∈ lw_good) (hlink : Cond.methodLinkNest own index y host ∈ z_nest) (hinst : Cond.instanceMethod y ∈ lw_good) (hyn : y.name = "<init>") (hd2 : y.cls ≠ "java/lang/invoke/MethodHandle" ∧ y.cls ≠ "java/lang/invoke/VarHandle" ∧ (parseMethodDescriptor y.desc).map (fun d => d.parameters.length) = some n) (hn : As.length = n) (hrc : rm.cells = mc ∧ rm.slots = ms) (hR : rm.frames + 1 ≤ R.frames ∧ 8 + (maxL + 11) + rm.locals ≤ R.locals)
    (isC isR : List Nat) (hC : isC.map (fun i => ws[i]?) = w0.map some) (hRr : isR.map (fun i => ws[i]?) = wr.map some) (hnd : va_nd isR = true) (hndC : va_nd isC = true) (hdis : ∀ i ∈ isR, i ∉ isC) (hst : (rest.map fun v => v.category).sum ≤ 8) (hcs : cx + mc ≤ R.cells ∧ sx + ms ≤ R.slots) (h1 : cx + mc = cx2) (h2 : sx + ms = sx2) (hd : decode cc pc = .ok (.invokespecial index, 3))
    (k : ∀ as : List Nat, as.length = nn → zB E Γ R nL A Q cx2 sx2 (wr ++ w1 as) (pc + 3) lv rest) : zB E Γ R nL A Q cx sx ws pc lv (As.reverse ++ .ref b :: rest) := by
  subst h1; subst h2
  obtain ⟨p, e, s, m, args, below, meth, c⟩ := Γ
  obtain ⟨hx, hb, hml, hown, hts, hK, hlk, hA, hAZ⟩ := C
  intro H locs ls hP hD hS hl
  have hF : ∀ q, va_A w0 H.size q → A q := va_free hD hS hA isC hC
  have hZ : zZ E ≤ H.size := Nat.le_trans (hAZ _ (hA _ (Nat.le_refl _))) hS.1
  have hPc : va_P (zD E) z_cl w0 H := fun k9 q9 h9 => by
    have e9 : (isC.map (fun i => ws[i]?))[k9]? = some (some q9) := by rw [hC, List.getElem?_map, h9]; rfl
    rw [List.getElem?_map] at e9
    cases hi : isC[k9]? with
    | none => rw [hi] at e9; cases e9
    | some i => rw [hi] at e9; exact hP i q9 (Option.some.inj e9)
  have hDc : va_D (zA E) w0 := (hD.sub isC hndC hC).weaken (fun _ _ _ h => hAZ _ h)
  have run : va_Run p (zl E) e R s m args below meth c H locs cx sx mc ms (F0 m pc ls (As.reverse ++ .ref b :: rest)) rest ((fun _ st oc t => oc = .returned none ∧ (∃ as : List Nat, as.length = nn ∧ va_P (zD E) z_cl (w1 as) t.heap ∧ va_D (va_A w0 H.size) (w1 as)) ∧ va_F (va_A w0 H.size) st t) (Value.ref b :: As).toArray) (va_A w0 H.size) :=
    va_runIN (Ts := lw_good) (As := As) ⟨hx, hb, hml, hown, hts⟩ (hM H.size) ⟨⟨⟨hrc.1, hrc.2, hR.1, hR.2, pay_in hts (zgoods hc), List.mem_cons_self⟩, hts _ hc, hts _ hini, ⟨hd2.1, hd2.2.1⟩, fun sig h => by have h2 := hd2.2.2; rw [h] at h2; exact (Option.some.inj h2).symm, va_Nw.use rfl (hK.2.1 _ hlink)⟩, hyn, hts _ hinst⟩ ⟨fun _ U g mk q => ⟨q.1, q.2.1, q.2.2.1, q.2.2.2.1, q.2.2.2.2.1, zK.eqv (U := U.calling g mk _) q.2.2.2.2.2 rfl rfl⟩, fun U hU hW => ⟨rfl, by rw [hU], hZ, by rw [hU]; exact hPc, hDc, hK.go hW (fun a h1 h2 => by rw [hU]; exact hS.2.1 a h1 (fun q => h2 (hAZ _ q)))⟩⟩ rfl hn hl.1 rfl (lv_room hst) hd hcs
  intro T hT X
  obtain ⟨v, st₀, t, T', L, h0, X', hL, e1, e2, ⟨hv, ⟨as, hal, hP1, hD1⟩, hFr⟩, go⟩ := run T hT X
  have hv : v = none := by cases hv; rfl
  subst hv
  have hF1 : H.size ≤ T'.heap.size := by rw [e1, ← h0]; exact hFr.1
  have hF2 : ∀ x : Nat, x < H.size → ¬ va_A w0 H.size x → T'.heap[x]? = H[x]? := fun x h1 h2 => by rw [e1, ← h0]; exact hFr.2 x (by rw [h0]; exact h1) h2
  rw [← e1] at hP1
  obtain ⟨hPj, hDj⟩ := va_join hP hD isC isR hC hRr hnd hdis hF2 hF hP1 hD1
  obtain ⟨t2, a1, b1⟩ := k as hal T'.heap (locs ++ L) ls hPj hDj ⟨Nat.le_trans hS.1 hF1, fun x h1 h2 => (hF2 x (Nat.lt_of_lt_of_le h1 hS.1) (fun q => h2 (hF x q))).trans (hS.2.1 x h1 h2), fun x hx => by
      rcases List.mem_append.mp hx with h | h
      · exact hS.2.2 x h
      · exact hF _ (hL x h)⟩ hl T' rfl X'
  exact ⟨t2, go t2 a1, b1⟩
end zBorn
theorem b_ws {E : zG} {Γ : zX} {R : Room} {nL : Nat} {A : Nat → Prop} {Q : State → Prop} {cx sx pc : Nat} {ws ws' : va_W} {lv : List (Option Value)} {st : List Value} (h : ws = ws') (k : zB E Γ R nL A Q cx sx ws' pc lv st) : zB E Γ R nL A Q cx sx ws pc lv st := h ▸ k
theorem b_wide {E : zG} {Γ : zX} {R : Room} {nL : Nat} {A : Nat → Prop} {Q : State → Prop} {cx sx pc cx2 sx2 : Nat} {ws : va_W} {lv : List (Option Value)} {st : List Value} (h1 : cx ≤ cx2) (h2 : sx ≤ sx2) (k : zB E Γ R nL A Q cx2 sx2 ws pc lv st) : zB E Γ R nL A Q cx sx ws pc lv st := by
  obtain ⟨p, e, s, m, args, below, meth, c⟩ := Γ
  intro H locs ls hP hD hS hl
  exact W.widen h1 h2 (k H locs ls hP hD hS hl)
/-- a constructor's end, its cells in the order that the contract tells -/
theorem zI_of {E : zG} {y : MethodName} {bytes : ByteArray} {maxL : Nat} {rm : Room} {av : List Value} {w0 : va_W} {n mc ms nn : Nat} {w1 : List Nat → va_W} {lv : List (Option Value)} (hy : plainName y.cls = true) (hyn : y.name = "<init>") (hlen : (lg_sl av).length ≤ maxL) (hcat : av.all (fun v => v.category == 1) = true) (hlv : av.map some ++ List.replicate nn none = lv)
    (k : ∀ (Γ : zX) (A : Nat → Prop), zOB E Γ y.cls bytes maxL A → zIn Γ → (∀ (pc : Nat) (lv2 : List (Option Value)) (ws : va_W) (as : List Nat) (is : List Nat), decode bytes pc = .ok (.return_, 1) → as.length = n → va_nd is = true → is.map (fun i => ws[i]?) = (w1 as).map some → zB E Γ rm maxL A (match Γ with | (_, _, s, _, args, below, _, _) => MQ below (fun _ st oc t => oc = .returned none ∧ (∃ as : List Nat, as.length = n ∧ va_P (zD E) z_cl (w1 as) t.heap ∧ va_D A (w1 as)) ∧ va_F A st t) args s mc ms A) mc ms ws pc lv2 []) → zB E Γ rm maxL A (match Γ with | (_, _, s, _, args, below, _, _) => MQ below (fun _ st oc t => oc = .returned none ∧ (∃ as : List Nat, as.length = n ∧ va_P (zD E) z_cl (w1 as) t.heap ∧ va_D A (w1 as)) ∧ va_F A st t) args s mc ms A) 0 0 w0 0 lv []) : zI E y bytes maxL rm av w0 n w1 mc ms := by
  intro sz
  refine Met.ofW (cc := bytes) (maxL := maxL) (ret := none) hy rfl ?_
  intro p e s m args below meth c s₁ B hml hv
  obtain ⟨rfl, hsz, hZ, hP, hD, hK⟩ := hv
  subst hsz
  have hts0 := atoms_spec (ws := zws y bytes maxL none) B.pre
  have hown : s.vm.findClass y.cls = some m.cls := findClass_of_methodNamed B.named
  have hin : meth.name = "<init>" := by rw [(name_of_methodNamed B.named B.method).1]; exact hyn
  have hl := lv_entry av (n := maxL) hlen
  have hr := B.returns
  rw [lg_entry_eq]
  generalize (lg_sl av ++ List.replicate (maxL - (lg_sl av).length) Slot.unset).toArray = ls at hl ⊢
  have hts : ∀ w ∈ lw_good, w.before av.toArray s = true := fun w hw => hts0 w (List.mem_cons_of_mem _ hw)
  refine k (p, e, s, m, av.toArray, below, meth, c) (va_A w0 s.heap.size) ⟨B.exec, B.bytes, hml, hown, hts, hK, B.notSynchronized, fun q h => Or.inr h, fun q h => ?_⟩ hin ?_ s.heap [] ls hP hD.self va_S.rf ⟨hl.1, hl.2.1, fun i v h => by
      have q := zargs (n := nn) av 0 i v hcat (by rw [hlv]; exact h)
      rw [Nat.zero_add] at q
      exact ⟨hl.2.2 (i, v) q.1, q.2⟩⟩
  · rcases h with ⟨k9, e9, h⟩ | h
    · exact hD.2 k9 _ h
    · exact Nat.le_trans hZ h
  · intro pc lv2 ws as is hd hal hnd his H locs ls2 hP2 hD2 hS2 hl2
    have hP3 : va_P (zD E) z_cl (w1 as) H := fun k9 q9 h9 => by
      have e9 : (is.map (fun i => ws[i]?))[k9]? = some (some q9) := by rw [his, List.getElem?_map, h9]; rfl
      rw [List.getElem?_map] at e9
      cases hi : is[k9]? with
      | none => rw [hi] at e9; cases e9
      | some i => rw [hi] at e9; exact hP2 i q9 (Option.some.inj e9)
    exact W.vret B.exec B.bytes hr (fun t ht hW => ⟨rfl, ⟨as, hal, by rw [ht]; exact hP3, hD2.sub is hnd his⟩, hS2.F ht⟩) hS2.2.2 hd B.notSynchronized

