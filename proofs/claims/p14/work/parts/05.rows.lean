section zRows
variable {E : zG} {Γ : zX} {R : Room} {nL : Nat} {ρ : Type} {rv : ρ → Option Value} {Q : ρ × zS → State → Prop} {cx sx : Nat} {P P1 P2 : Option (ρ × zS)} {K2 : zS → Option (ρ × zS)} {σ : zS} {pc : Nat} {lv : List (Option Value)} {rest : List Value} {own : String} {cc : ByteArray} {ret : Option FieldType}
theorem r_iconst {n : Int} {v : Int32} (C : zO E Γ own cc nL ret) (hd : decode cc pc = .ok (.iconst n, 1)) (hv : Int32.ofInt n = v) (k : zJg E Γ R nL Q cx sx P σ (pc + 1) lv (.int v :: rest)) : zJg E Γ R nL Q cx sx P σ pc lv (rest) := by
  obtain ⟨p, e, s, m, args, below, meth, c⟩ := Γ
  obtain ⟨hx, hb, hml, hr, hown, hts, hK, hAp, hlk⟩ := C
  intro z hz H locs ls hP hS hl
  exact lv_iconst hx hb hd hv (k z hz H locs ls hP hS hl)
theorem r_bipush {n : Int} {v : Int32} (C : zO E Γ own cc nL ret) (hd : decode cc pc = .ok (.bipush n, 2)) (hv : (Int8.ofInt n).toInt32 = v) (k : zJg E Γ R nL Q cx sx P σ (pc + 2) lv (.int v :: rest)) : zJg E Γ R nL Q cx sx P σ pc lv (rest) := by
  obtain ⟨p, e, s, m, args, below, meth, c⟩ := Γ
  obtain ⟨hx, hb, hml, hr, hown, hts, hK, hAp, hlk⟩ := C
  intro z hz H locs ls hP hS hl
  exact lv_bipush hx hb hd hv (k z hz H locs ls hP hS hl)
theorem r_sipush {n : Int} {v : Int32} (C : zO E Γ own cc nL ret) (hd : decode cc pc = .ok (.sipush n, 3)) (hv : (Int16.ofInt n).toInt32 = v) (k : zJg E Γ R nL Q cx sx P σ (pc + 3) lv (.int v :: rest)) : zJg E Γ R nL Q cx sx P σ pc lv (rest) := by
  obtain ⟨p, e, s, m, args, below, meth, c⟩ := Γ
  obtain ⟨hx, hb, hml, hr, hown, hts, hK, hAp, hlk⟩ := C
  intro z hz H locs ls hP hS hl
  exact lv_sipush hx hb hd hv (k z hz H locs ls hP hS hl)
theorem r_ldc {v : Int32} {index : Nat} (C : zO E Γ own cc nL ret) (hd : decode cc pc = .ok (.ldc index, 2)) (hc : Cond.constant own index v ∈ lw_good) (k : zJg E Γ R nL Q cx sx P σ (pc + 2) lv (.int v :: rest)) : zJg E Γ R nL Q cx sx P σ pc lv rest := by
  obtain ⟨p, e, s, m, args, below, meth, c⟩ := Γ
  obtain ⟨hx, hb, hml, hr, hown, hts, hK, hAp, hlk⟩ := C
  intro z hz H locs ls hP hS hl
  exact lv_ldc hx hb hown (hts _ hc) hd (k z hz H locs ls hP hS hl)
theorem r_null (C : zO E Γ own cc nL ret) (hd : decode cc pc = .ok (.aconst_null, 1)) (k : zJg E Γ R nL Q cx sx P σ (pc + 1) lv (.null :: rest)) : zJg E Γ R nL Q cx sx P σ pc lv (rest) := by
  obtain ⟨p, e, s, m, args, below, meth, c⟩ := Γ
  obtain ⟨hx, hb, hml, hr, hown, hts, hK, hAp, hlk⟩ := C
  intro z hz H locs ls hP hS hl
  exact lv_null hx hb hd (k z hz H locs ls hP hS hl)
theorem r_iload_n {x : Int32} {i : Fin 4} (C : zO E Γ own cc nL ret) (hd : decode cc pc = .ok (.iload_n i, 1)) (hv : lv[(i : Nat)]? = some (some (.int x))) (k : zJg E Γ R nL Q cx sx P σ (pc + 1) lv (.int x :: rest)) : zJg E Γ R nL Q cx sx P σ pc lv rest := by
  obtain ⟨p, e, s, m, args, below, meth, c⟩ := Γ
  obtain ⟨hx, hb, hml, hr, hown, hts, hK, hAp, hlk⟩ := C
  intro z hz H locs ls hP hS hl
  exact lv_iload_n hx hb hd rfl (hl.2.2 _ _ hv).1 (k z hz H locs ls hP hS hl)
theorem r_iload {x : Int32} {i : Nat} (C : zO E Γ own cc nL ret) (hd : decode cc pc = .ok (.iload i, 2)) (hv : lv[i]? = some (some (.int x))) (k : zJg E Γ R nL Q cx sx P σ (pc + 2) lv (.int x :: rest)) : zJg E Γ R nL Q cx sx P σ pc lv rest := by
  obtain ⟨p, e, s, m, args, below, meth, c⟩ := Γ
  obtain ⟨hx, hb, hml, hr, hown, hts, hK, hAp, hlk⟩ := C
  intro z hz H locs ls hP hS hl
  exact lv_iload hx hb hd (hl.2.2 _ _ hv).1 (k z hz H locs ls hP hS hl)
theorem r_istore_n {x : Int32} {i : Fin 4} {lv' : List (Option Value)} (C : zO E Γ own cc nL ret) (hd : decode cc pc = .ok (.istore_n i, 1)) (hn : (i : Nat) < nL) (hv : lv.set (i : Nat) (some (.int x)) = lv') (k : zJg E Γ R nL Q cx sx P σ (pc + 1) lv' rest) : zJg E Γ R nL Q cx sx P σ pc lv (.int x :: rest) := by
  obtain ⟨p, e, s, m, args, below, meth, c⟩ := Γ
  obtain ⟨hx, hb, hml, hr, hown, hts, hK, hAp, hlk⟩ := C
  intro z hz H locs ls hP hS hl
  subst hv
  exact lv_istore_n hx hb hd rfl hl.has hn rfl (fun ls' h' => k z hz H locs ls' hP hS (hl.put rfl h'))
theorem r_istore {x : Int32} {i : Nat} {lv' : List (Option Value)} (C : zO E Γ own cc nL ret) (hd : decode cc pc = .ok (.istore i, 2)) (hn : i < nL) (hv : lv.set i (some (.int x)) = lv') (k : zJg E Γ R nL Q cx sx P σ (pc + 2) lv' rest) : zJg E Γ R nL Q cx sx P σ pc lv (.int x :: rest) := by
  obtain ⟨p, e, s, m, args, below, meth, c⟩ := Γ
  obtain ⟨hx, hb, hml, hr, hown, hts, hK, hAp, hlk⟩ := C
  intro z hz H locs ls hP hS hl
  subst hv
  exact lv_istore hx hb hd hl.has hn rfl (fun ls' h' => k z hz H locs ls' hP hS (hl.put rfl h'))
theorem r_aload_n {x : Nat} {i : Fin 4} (C : zO E Γ own cc nL ret) (hd : decode cc pc = .ok (.aload_n i, 1)) (hv : lv[(i : Nat)]? = some (some (.ref x))) (k : zJg E Γ R nL Q cx sx P σ (pc + 1) lv (.ref x :: rest)) : zJg E Γ R nL Q cx sx P σ pc lv rest := by
  obtain ⟨p, e, s, m, args, below, meth, c⟩ := Γ
  obtain ⟨hx, hb, hml, hr, hown, hts, hK, hAp, hlk⟩ := C
  intro z hz H locs ls hP hS hl
  exact lv_aload_n hx hb hd rfl (hl.2.2 _ _ hv).1 (k z hz H locs ls hP hS hl)
theorem r_aload {x : Nat} {i : Nat} (C : zO E Γ own cc nL ret) (hd : decode cc pc = .ok (.aload i, 2)) (hv : lv[i]? = some (some (.ref x))) (k : zJg E Γ R nL Q cx sx P σ (pc + 2) lv (.ref x :: rest)) : zJg E Γ R nL Q cx sx P σ pc lv rest := by
  obtain ⟨p, e, s, m, args, below, meth, c⟩ := Γ
  obtain ⟨hx, hb, hml, hr, hown, hts, hK, hAp, hlk⟩ := C
  intro z hz H locs ls hP hS hl
  exact lv_aload hx hb hd (hl.2.2 _ _ hv).1 (k z hz H locs ls hP hS hl)
theorem r_astore_n {x : Nat} {i : Fin 4} {lv' : List (Option Value)} (C : zO E Γ own cc nL ret) (hd : decode cc pc = .ok (.astore_n i, 1)) (hn : (i : Nat) < nL) (hv : lv.set (i : Nat) (some (.ref x)) = lv') (k : zJg E Γ R nL Q cx sx P σ (pc + 1) lv' rest) : zJg E Γ R nL Q cx sx P σ pc lv (.ref x :: rest) := by
  obtain ⟨p, e, s, m, args, below, meth, c⟩ := Γ
  obtain ⟨hx, hb, hml, hr, hown, hts, hK, hAp, hlk⟩ := C
  intro z hz H locs ls hP hS hl
  subst hv
  exact lv_astore_n hx hb hd rfl hl.has hn rfl (fun ls' h' => k z hz H locs ls' hP hS (hl.put rfl h'))
theorem r_astore {x : Nat} {i : Nat} {lv' : List (Option Value)} (C : zO E Γ own cc nL ret) (hd : decode cc pc = .ok (.astore i, 2)) (hn : i < nL) (hv : lv.set i (some (.ref x)) = lv') (k : zJg E Γ R nL Q cx sx P σ (pc + 2) lv' rest) : zJg E Γ R nL Q cx sx P σ pc lv (.ref x :: rest) := by
  obtain ⟨p, e, s, m, args, below, meth, c⟩ := Γ
  obtain ⟨hx, hb, hml, hr, hown, hts, hK, hAp, hlk⟩ := C
  intro z hz H locs ls hP hS hl
  subst hv
  exact lv_astore hx hb hd hl.has hn rfl (fun ls' h' => k z hz H locs ls' hP hS (hl.put rfl h'))
theorem r_aload_nN {i : Fin 4} (C : zO E Γ own cc nL ret) (hd : decode cc pc = .ok (.aload_n i, 1)) (hv : lv[(i : Nat)]? = some (some .null)) (k : zJg E Γ R nL Q cx sx P σ (pc + 1) lv (.null :: rest)) : zJg E Γ R nL Q cx sx P σ pc lv rest := by
  obtain ⟨p, e, s, m, args, below, meth, c⟩ := Γ
  obtain ⟨hx, hb, hml, hr, hown, hts, hK, hAp, hlk⟩ := C
  intro z hz H locs ls hP hS hl
  exact lv_aload_nN hx hb hd rfl (hl.2.2 _ _ hv).1 (k z hz H locs ls hP hS hl)
theorem r_aloadN {i : Nat} (C : zO E Γ own cc nL ret) (hd : decode cc pc = .ok (.aload i, 2)) (hv : lv[i]? = some (some .null)) (k : zJg E Γ R nL Q cx sx P σ (pc + 2) lv (.null :: rest)) : zJg E Γ R nL Q cx sx P σ pc lv rest := by
  obtain ⟨p, e, s, m, args, below, meth, c⟩ := Γ
  obtain ⟨hx, hb, hml, hr, hown, hts, hK, hAp, hlk⟩ := C
  intro z hz H locs ls hP hS hl
  exact lv_aloadN hx hb hd (hl.2.2 _ _ hv).1 (k z hz H locs ls hP hS hl)
theorem r_astore_nN {i : Fin 4} {lv' : List (Option Value)} (C : zO E Γ own cc nL ret) (hd : decode cc pc = .ok (.astore_n i, 1)) (hn : (i : Nat) < nL) (hv : lv.set (i : Nat) (some .null) = lv') (k : zJg E Γ R nL Q cx sx P σ (pc + 1) lv' rest) : zJg E Γ R nL Q cx sx P σ pc lv (.null :: rest) := by
  obtain ⟨p, e, s, m, args, below, meth, c⟩ := Γ
  obtain ⟨hx, hb, hml, hr, hown, hts, hK, hAp, hlk⟩ := C
  intro z hz H locs ls hP hS hl
  subst hv
  exact lv_astore_nN hx hb hd rfl hl.has hn rfl (fun ls' h' => k z hz H locs ls' hP hS (hl.put rfl h'))
theorem r_astoreN {i : Nat} {lv' : List (Option Value)} (C : zO E Γ own cc nL ret) (hd : decode cc pc = .ok (.astore i, 2)) (hn : i < nL) (hv : lv.set i (some .null) = lv') (k : zJg E Γ R nL Q cx sx P σ (pc + 2) lv' rest) : zJg E Γ R nL Q cx sx P σ pc lv (.null :: rest) := by
  obtain ⟨p, e, s, m, args, below, meth, c⟩ := Γ
  obtain ⟨hx, hb, hml, hr, hown, hts, hK, hAp, hlk⟩ := C
  intro z hz H locs ls hP hS hl
  subst hv
  exact lv_astoreN hx hb hd hl.has hn rfl (fun ls' h' => k z hz H locs ls' hP hS (hl.put rfl h'))
theorem r_iinc {x v : Int32} {i : Nat} {n : Int} {lv' : List (Option Value)} (C : zO E Γ own cc nL ret) (hd : decode cc pc = .ok (.iinc i n, 3)) (hn : i < nL) (hg : lv[i]? = some (some (.int x))) (hx2 : x + Int32.ofInt n = v) (hv : lv.set i (some (.int v)) = lv') (k : zJg E Γ R nL Q cx sx P σ (pc + 3) lv' rest) : zJg E Γ R nL Q cx sx P σ pc lv rest := by
  obtain ⟨p, e, s, m, args, below, meth, c⟩ := Γ
  obtain ⟨hx, hb, hml, hr, hown, hts, hK, hAp, hlk⟩ := C
  intro z hz H locs ls hP hS hl
  subst hv
  obtain ⟨j, hj⟩ := List.getElem?_of_mem (zP_mem.mpr hg)
  exact lv_iinc hx hb hd hl.has hj hx2 hn rfl (fun ls' h' => k z hz H locs ls' hP hS (hl.put rfl h'))
theorem r_iadd {x y : Int32} (C : zO E Γ own cc nL ret) (hd : decode cc pc = .ok (.iadd, 1)) (k : zJg E Γ R nL Q cx sx P σ (pc + 1) lv (.int (x + y) :: rest)) : zJg E Γ R nL Q cx sx P σ pc lv (.int y :: .int x :: rest) := by
  obtain ⟨p, e, s, m, args, below, meth, c⟩ := Γ
  obtain ⟨hx, hb, hml, hr, hown, hts, hK, hAp, hlk⟩ := C
  intro z hz H locs ls hP hS hl
  exact lv_iadd hx hb hd (k z hz H locs ls hP hS hl)
theorem r_isub {x y : Int32} (C : zO E Γ own cc nL ret) (hd : decode cc pc = .ok (.isub, 1)) (k : zJg E Γ R nL Q cx sx P σ (pc + 1) lv (.int (x - y) :: rest)) : zJg E Γ R nL Q cx sx P σ pc lv (.int y :: .int x :: rest) := by
  obtain ⟨p, e, s, m, args, below, meth, c⟩ := Γ
  obtain ⟨hx, hb, hml, hr, hown, hts, hK, hAp, hlk⟩ := C
  intro z hz H locs ls hP hS hl
  exact lv_isub hx hb hd (k z hz H locs ls hP hS hl)
theorem r_imul {x y : Int32} (C : zO E Γ own cc nL ret) (hd : decode cc pc = .ok (.imul, 1)) (k : zJg E Γ R nL Q cx sx P σ (pc + 1) lv (.int (x * y) :: rest)) : zJg E Γ R nL Q cx sx P σ pc lv (.int y :: .int x :: rest) := by
  obtain ⟨p, e, s, m, args, below, meth, c⟩ := Γ
  obtain ⟨hx, hb, hml, hr, hown, hts, hK, hAp, hlk⟩ := C
  intro z hz H locs ls hP hS hl
  exact lv_imul hx hb hd (k z hz H locs ls hP hS hl)
theorem r_iand {x y : Int32} (C : zO E Γ own cc nL ret) (hd : decode cc pc = .ok (.iand, 1)) (k : zJg E Γ R nL Q cx sx P σ (pc + 1) lv (.int (x &&& y) :: rest)) : zJg E Γ R nL Q cx sx P σ pc lv (.int y :: .int x :: rest) := by
  obtain ⟨p, e, s, m, args, below, meth, c⟩ := Γ
  obtain ⟨hx, hb, hml, hr, hown, hts, hK, hAp, hlk⟩ := C
  intro z hz H locs ls hP hS hl
  exact lv_iand hx hb hd (k z hz H locs ls hP hS hl)
theorem r_ior {x y : Int32} (C : zO E Γ own cc nL ret) (hd : decode cc pc = .ok (.ior, 1)) (k : zJg E Γ R nL Q cx sx P σ (pc + 1) lv (.int (x ||| y) :: rest)) : zJg E Γ R nL Q cx sx P σ pc lv (.int y :: .int x :: rest) := by
  obtain ⟨p, e, s, m, args, below, meth, c⟩ := Γ
  obtain ⟨hx, hb, hml, hr, hown, hts, hK, hAp, hlk⟩ := C
  intro z hz H locs ls hP hS hl
  exact lv_ior hx hb hd (k z hz H locs ls hP hS hl)
theorem r_ixor {x y : Int32} (C : zO E Γ own cc nL ret) (hd : decode cc pc = .ok (.ixor, 1)) (k : zJg E Γ R nL Q cx sx P σ (pc + 1) lv (.int (x ^^^ y) :: rest)) : zJg E Γ R nL Q cx sx P σ pc lv (.int y :: .int x :: rest) := by
  obtain ⟨p, e, s, m, args, below, meth, c⟩ := Γ
  obtain ⟨hx, hb, hml, hr, hown, hts, hK, hAp, hlk⟩ := C
  intro z hz H locs ls hP hS hl
  exact lv_ixor hx hb hd (k z hz H locs ls hP hS hl)
theorem r_ishl {x y : Int32} (C : zO E Γ own cc nL ret) (hd : decode cc pc = .ok (.ishl, 1)) (k : zJg E Γ R nL Q cx sx P σ (pc + 1) lv (.int (x <<< (y &&& 31)) :: rest)) : zJg E Γ R nL Q cx sx P σ pc lv (.int y :: .int x :: rest) := by
  obtain ⟨p, e, s, m, args, below, meth, c⟩ := Γ
  obtain ⟨hx, hb, hml, hr, hown, hts, hK, hAp, hlk⟩ := C
  intro z hz H locs ls hP hS hl
  exact lv_ishl hx hb hd (k z hz H locs ls hP hS hl)
theorem r_ishr {x y : Int32} (C : zO E Γ own cc nL ret) (hd : decode cc pc = .ok (.ishr, 1)) (k : zJg E Γ R nL Q cx sx P σ (pc + 1) lv (.int (x >>> (y &&& 31)) :: rest)) : zJg E Γ R nL Q cx sx P σ pc lv (.int y :: .int x :: rest) := by
  obtain ⟨p, e, s, m, args, below, meth, c⟩ := Γ
  obtain ⟨hx, hb, hml, hr, hown, hts, hK, hAp, hlk⟩ := C
  intro z hz H locs ls hP hS hl
  exact lv_ishr hx hb hd (k z hz H locs ls hP hS hl)
theorem r_ineg {x : Int32} (C : zO E Γ own cc nL ret) (hd : decode cc pc = .ok (.ineg, 1)) (k : zJg E Γ R nL Q cx sx P σ (pc + 1) lv (.int (-x) :: rest)) : zJg E Γ R nL Q cx sx P σ pc lv (.int x :: rest) := by
  obtain ⟨p, e, s, m, args, below, meth, c⟩ := Γ
  obtain ⟨hx, hb, hml, hr, hown, hts, hK, hAp, hlk⟩ := C
  intro z hz H locs ls hP hS hl
  exact lv_ineg hx hb hd (k z hz H locs ls hP hS hl)
theorem r_iushr {x y : Int32} (C : zO E Γ own cc nL ret) (hd : decode cc pc = .ok (.iushr, 1)) (k : zJg E Γ R nL Q cx sx P σ (pc + 1) lv (.int (zushr x y) :: rest)) : zJg E Γ R nL Q cx sx P σ pc lv (.int y :: .int x :: rest) := by
  obtain ⟨p, e, s, m, args, below, meth, c⟩ := Γ
  obtain ⟨hx, hb, hml, hr, hown, hts, hK, hAp, hlk⟩ := C
  intro z hz H locs ls hP hS hl
  exact lv_iushr hx hb hd rfl (k z hz H locs ls hP hS hl)
theorem r_i2s {x : Int32} (C : zO E Γ own cc nL ret) (hd : decode cc pc = .ok (.i2s, 1)) (k : zJg E Γ R nL Q cx sx P σ (pc + 1) lv (.int (x.toInt16.toInt32) :: rest)) : zJg E Γ R nL Q cx sx P σ pc lv (.int x :: rest) := by
  obtain ⟨p, e, s, m, args, below, meth, c⟩ := Γ
  obtain ⟨hx, hb, hml, hr, hown, hts, hK, hAp, hlk⟩ := C
  intro z hz H locs ls hP hS hl
  exact lv_i2s hx hb hd rfl (k z hz H locs ls hP hS hl)
theorem r_i2b {x : Int32} (C : zO E Γ own cc nL ret) (hd : decode cc pc = .ok (.i2b, 1)) (k : zJg E Γ R nL Q cx sx P σ (pc + 1) lv (.int (x.toInt8.toInt32) :: rest)) : zJg E Γ R nL Q cx sx P σ pc lv (.int x :: rest) := by
  obtain ⟨p, e, s, m, args, below, meth, c⟩ := Γ
  obtain ⟨hx, hb, hml, hr, hown, hts, hK, hAp, hlk⟩ := C
  intro z hz H locs ls hP hS hl
  exact lv_i2b hx hb hd rfl (k z hz H locs ls hP hS hl)
theorem r_i2c {x : Int32} (C : zO E Γ own cc nL ret) (hd : decode cc pc = .ok (.i2c, 1)) (k : zJg E Γ R nL Q cx sx P σ (pc + 1) lv (.int ((x.toUInt32 % 65536).toInt32) :: rest)) : zJg E Γ R nL Q cx sx P σ pc lv (.int x :: rest) := by
  obtain ⟨p, e, s, m, args, below, meth, c⟩ := Γ
  obtain ⟨hx, hb, hml, hr, hown, hts, hK, hAp, hlk⟩ := C
  intro z hz H locs ls hP hS hl
  exact lv_i2c hx hb hd rfl (k z hz H locs ls hP hS hl)
theorem r_i2l {x : Int32} (C : zO E Γ own cc nL ret) (hd : decode cc pc = .ok (.i2l, 1)) (k : zJg E Γ R nL Q cx sx P σ (pc + 1) lv (.long x.toInt64 :: rest)) : zJg E Γ R nL Q cx sx P σ pc lv (.int x :: rest) := by
  obtain ⟨p, e, s, m, args, below, meth, c⟩ := Γ
  obtain ⟨hx, hb, hml, hr, hown, hts, hK, hAp, hlk⟩ := C
  intro z hz H locs ls hP hS hl
  exact lv_i2l hx hb hd rfl (k z hz H locs ls hP hS hl)
theorem r_ladd {x y : Int64} (C : zO E Γ own cc nL ret) (hd : decode cc pc = .ok (.ladd, 1)) (k : zJg E Γ R nL Q cx sx P σ (pc + 1) lv (.long (x + y) :: rest)) : zJg E Γ R nL Q cx sx P σ pc lv (.long y :: .long x :: rest) := by
  obtain ⟨p, e, s, m, args, below, meth, c⟩ := Γ
  obtain ⟨hx, hb, hml, hr, hown, hts, hK, hAp, hlk⟩ := C
  intro z hz H locs ls hP hS hl
  exact lv_ladd hx hb hd (k z hz H locs ls hP hS hl)
theorem r_lcmp {x y : Int64} (C : zO E Γ own cc nL ret) (hd : decode cc pc = .ok (.lcmp, 1)) (k : zJg E Γ R nL Q cx sx P σ (pc + 1) lv (.int (lg_cmp x y) :: rest)) : zJg E Γ R nL Q cx sx P σ pc lv (.long y :: .long x :: rest) := by
  obtain ⟨p, e, s, m, args, below, meth, c⟩ := Γ
  obtain ⟨hx, hb, hml, hr, hown, hts, hK, hAp, hlk⟩ := C
  intro z hz H locs ls hP hS hl
  exact W.lcmp hx hb hd (k z hz H locs ls hP hS hl)
theorem r_idiv {x y : Int32} (C : zO E Γ own cc nL ret) (hd : decode cc pc = .ok (.idiv, 1)) (k : zJg E Γ R nL Q cx sx P σ (pc + 1) lv (.int (x / y) :: rest)) : zJg E Γ R nL Q cx sx (zd y P) σ pc lv (.int y :: .int x :: rest) := by
  obtain ⟨p, e, s, m, args, below, meth, c⟩ := Γ
  obtain ⟨hx, hb, hml, hr, hown, hts, hK, hAp, hlk⟩ := C
  intro z hz H locs ls hP hS hl
  obtain ⟨h0, hz⟩ := zd_some hz
  exact lv_idiv hx hb hd h0 (k z hz H locs ls hP hS hl)
theorem r_irem {x y : Int32} (C : zO E Γ own cc nL ret) (hd : decode cc pc = .ok (.irem, 1)) (k : zJg E Γ R nL Q cx sx P σ (pc + 1) lv (.int (x - x / y * y) :: rest)) : zJg E Γ R nL Q cx sx (zd y P) σ pc lv (.int y :: .int x :: rest) := by
  obtain ⟨p, e, s, m, args, below, meth, c⟩ := Γ
  obtain ⟨hx, hb, hml, hr, hown, hts, hK, hAp, hlk⟩ := C
  intro z hz H locs ls hP hS hl
  obtain ⟨h0, hz⟩ := zd_some hz
  exact lv_irem hx hb hd h0 (k z hz H locs ls hP hS hl)
theorem r_dup {va : Value} (C : zO E Γ own cc nL ret) (hd : decode cc pc = .ok (.dup, 1)) (h1 : va.category = 1) (k : zJg E Γ R nL Q cx sx P σ (pc + 1) lv (va :: va :: rest)) : zJg E Γ R nL Q cx sx P σ pc lv (va :: rest) := by
  obtain ⟨p, e, s, m, args, below, meth, c⟩ := Γ
  obtain ⟨hx, hb, hml, hr, hown, hts, hK, hAp, hlk⟩ := C
  intro z hz H locs ls hP hS hl
  exact lv_dup hx hb hd h1 (k z hz H locs ls hP hS hl)
theorem r_pop {va : Value} (C : zO E Γ own cc nL ret) (hd : decode cc pc = .ok (.pop, 1)) (h1 : va.category = 1) (k : zJg E Γ R nL Q cx sx P σ (pc + 1) lv (rest)) : zJg E Γ R nL Q cx sx P σ pc lv (va :: rest) := by
  obtain ⟨p, e, s, m, args, below, meth, c⟩ := Γ
  obtain ⟨hx, hb, hml, hr, hown, hts, hK, hAp, hlk⟩ := C
  intro z hz H locs ls hP hS hl
  exact lv_pop hx hb hd h1 (k z hz H locs ls hP hS hl)
theorem r_dup2 {va vb : Value} (C : zO E Γ own cc nL ret) (hd : decode cc pc = .ok (.dup2, 1)) (h1 : va.category = 1) (h2 : vb.category = 1) (k : zJg E Γ R nL Q cx sx P σ (pc + 1) lv (va :: vb :: va :: vb :: rest)) : zJg E Γ R nL Q cx sx P σ pc lv (va :: vb :: rest) := by
  obtain ⟨p, e, s, m, args, below, meth, c⟩ := Γ
  obtain ⟨hx, hb, hml, hr, hown, hts, hK, hAp, hlk⟩ := C
  intro z hz H locs ls hP hS hl
  exact lv_dup2_11 hx hb hd h1 h2 (k z hz H locs ls hP hS hl)
theorem r_dup_x1 {va vb : Value} (C : zO E Γ own cc nL ret) (hd : decode cc pc = .ok (.dup_x1, 1)) (h1 : va.category = 1) (h2 : vb.category = 1) (k : zJg E Γ R nL Q cx sx P σ (pc + 1) lv (va :: vb :: va :: rest)) : zJg E Γ R nL Q cx sx P σ pc lv (va :: vb :: rest) := by
  obtain ⟨p, e, s, m, args, below, meth, c⟩ := Γ
  obtain ⟨hx, hb, hml, hr, hown, hts, hK, hAp, hlk⟩ := C
  intro z hz H locs ls hP hS hl
  exact lv_dup_x1 hx hb hd h1 h2 (k z hz H locs ls hP hS hl)
theorem r_dup_x2 {va vb vd : Value} (C : zO E Γ own cc nL ret) (hd : decode cc pc = .ok (.dup_x2, 1)) (h1 : va.category = 1) (h2 : vb.category = 1) (h3 : vd.category = 1) (k : zJg E Γ R nL Q cx sx P σ (pc + 1) lv (va :: vb :: vd :: va :: rest)) : zJg E Γ R nL Q cx sx P σ pc lv (va :: vb :: vd :: rest) := by
  obtain ⟨p, e, s, m, args, below, meth, c⟩ := Γ
  obtain ⟨hx, hb, hml, hr, hown, hts, hK, hAp, hlk⟩ := C
  intro z hz H locs ls hP hS hl
  exact lv_dup_x2 hx hb hd h1 h2 h3 (k z hz H locs ls hP hS hl)
theorem r_if_eq {x : Int32} {off : Int} {tgt : Nat} (C : zO E Γ own cc nL ret) (hd : decode cc pc = .ok (.ifCond .eq off, 3)) (ht : (pc : Int) + off = (tgt : Int)) (kt : x = 0 → zJg E Γ R nL Q cx sx P1 σ tgt lv rest) (kf : ¬ x = 0 → zJg E Γ R nL Q cx sx P2 σ (pc + 3) lv rest) : zJg E Γ R nL Q cx sx (if x = 0 then P1 else P2) σ pc lv (.int x :: rest) := by
  obtain ⟨p, e, s, m, args, below, meth, c⟩ := Γ
  obtain ⟨hx, hb, hml, hr, hown, hts, hK, hAp, hlk⟩ := C
  intro z hz H locs ls hP hS hl
  exact lv_if_eq hx hb hd ht (fun q => kt q z (by rw [if_pos q] at hz; exact hz) H locs ls hP hS hl) (fun q => kf q z (by rw [if_neg q] at hz; exact hz) H locs ls hP hS hl)
theorem r_icmp_eq {x y : Int32} {off : Int} {tgt : Nat} (C : zO E Γ own cc nL ret) (hd : decode cc pc = .ok (.if_icmp .eq off, 3)) (ht : (pc : Int) + off = (tgt : Int)) (kt : x = y → zJg E Γ R nL Q cx sx P1 σ tgt lv rest) (kf : ¬ x = y → zJg E Γ R nL Q cx sx P2 σ (pc + 3) lv rest) : zJg E Γ R nL Q cx sx (if x = y then P1 else P2) σ pc lv (.int y :: .int x :: rest) := by
  obtain ⟨p, e, s, m, args, below, meth, c⟩ := Γ
  obtain ⟨hx, hb, hml, hr, hown, hts, hK, hAp, hlk⟩ := C
  intro z hz H locs ls hP hS hl
  exact lv_icmp_eq hx hb hd ht (fun q => kt q z (by rw [if_pos q] at hz; exact hz) H locs ls hP hS hl) (fun q => kf q z (by rw [if_neg q] at hz; exact hz) H locs ls hP hS hl)
theorem r_if_ne {x : Int32} {off : Int} {tgt : Nat} (C : zO E Γ own cc nL ret) (hd : decode cc pc = .ok (.ifCond .ne off, 3)) (ht : (pc : Int) + off = (tgt : Int)) (kf : x = 0 → zJg E Γ R nL Q cx sx P2 σ (pc + 3) lv rest) (kt : ¬ x = 0 → zJg E Γ R nL Q cx sx P1 σ tgt lv rest) : zJg E Γ R nL Q cx sx (if x = 0 then P2 else P1) σ pc lv (.int x :: rest) := by
  obtain ⟨p, e, s, m, args, below, meth, c⟩ := Γ
  obtain ⟨hx, hb, hml, hr, hown, hts, hK, hAp, hlk⟩ := C
  intro z hz H locs ls hP hS hl
  exact lv_if_ne hx hb hd ht (fun q => kt q z (by rw [if_neg q] at hz; exact hz) H locs ls hP hS hl) (fun q => kf q z (by rw [if_pos q] at hz; exact hz) H locs ls hP hS hl)
theorem r_icmp_ne {x y : Int32} {off : Int} {tgt : Nat} (C : zO E Γ own cc nL ret) (hd : decode cc pc = .ok (.if_icmp .ne off, 3)) (ht : (pc : Int) + off = (tgt : Int)) (kf : x = y → zJg E Γ R nL Q cx sx P2 σ (pc + 3) lv rest) (kt : ¬ x = y → zJg E Γ R nL Q cx sx P1 σ tgt lv rest) : zJg E Γ R nL Q cx sx (if x = y then P2 else P1) σ pc lv (.int y :: .int x :: rest) := by
  obtain ⟨p, e, s, m, args, below, meth, c⟩ := Γ
  obtain ⟨hx, hb, hml, hr, hown, hts, hK, hAp, hlk⟩ := C
  intro z hz H locs ls hP hS hl
  exact lv_icmp_ne hx hb hd ht (fun q => kt q z (by rw [if_neg q] at hz; exact hz) H locs ls hP hS hl) (fun q => kf q z (by rw [if_pos q] at hz; exact hz) H locs ls hP hS hl)
theorem r_if_lt {x : Int32} {off : Int} {tgt : Nat} (C : zO E Γ own cc nL ret) (hd : decode cc pc = .ok (.ifCond .lt off, 3)) (ht : (pc : Int) + off = (tgt : Int)) (kt : x < 0 → zJg E Γ R nL Q cx sx P1 σ tgt lv rest) (kf : ¬ x < 0 → zJg E Γ R nL Q cx sx P2 σ (pc + 3) lv rest) : zJg E Γ R nL Q cx sx (if x < 0 then P1 else P2) σ pc lv (.int x :: rest) := by
  obtain ⟨p, e, s, m, args, below, meth, c⟩ := Γ
  obtain ⟨hx, hb, hml, hr, hown, hts, hK, hAp, hlk⟩ := C
  intro z hz H locs ls hP hS hl
  exact lv_if_lt hx hb hd ht (fun q => kt q z (by rw [if_pos q] at hz; exact hz) H locs ls hP hS hl) (fun q => kf q z (by rw [if_neg q] at hz; exact hz) H locs ls hP hS hl)
theorem r_icmp_lt {x y : Int32} {off : Int} {tgt : Nat} (C : zO E Γ own cc nL ret) (hd : decode cc pc = .ok (.if_icmp .lt off, 3)) (ht : (pc : Int) + off = (tgt : Int)) (kt : x < y → zJg E Γ R nL Q cx sx P1 σ tgt lv rest) (kf : ¬ x < y → zJg E Γ R nL Q cx sx P2 σ (pc + 3) lv rest) : zJg E Γ R nL Q cx sx (if x < y then P1 else P2) σ pc lv (.int y :: .int x :: rest) := by
  obtain ⟨p, e, s, m, args, below, meth, c⟩ := Γ
  obtain ⟨hx, hb, hml, hr, hown, hts, hK, hAp, hlk⟩ := C
  intro z hz H locs ls hP hS hl
  exact lv_icmp_lt hx hb hd ht (fun q => kt q z (by rw [if_pos q] at hz; exact hz) H locs ls hP hS hl) (fun q => kf q z (by rw [if_neg q] at hz; exact hz) H locs ls hP hS hl)
theorem r_if_ge {x : Int32} {off : Int} {tgt : Nat} (C : zO E Γ own cc nL ret) (hd : decode cc pc = .ok (.ifCond .ge off, 3)) (ht : (pc : Int) + off = (tgt : Int)) (kt : 0 ≤ x → zJg E Γ R nL Q cx sx P1 σ tgt lv rest) (kf : ¬ 0 ≤ x → zJg E Γ R nL Q cx sx P2 σ (pc + 3) lv rest) : zJg E Γ R nL Q cx sx (if 0 ≤ x then P1 else P2) σ pc lv (.int x :: rest) := by
  obtain ⟨p, e, s, m, args, below, meth, c⟩ := Γ
  obtain ⟨hx, hb, hml, hr, hown, hts, hK, hAp, hlk⟩ := C
  intro z hz H locs ls hP hS hl
  exact lv_if_ge hx hb hd ht (fun q => kt q z (by rw [if_pos q] at hz; exact hz) H locs ls hP hS hl) (fun q => kf q z (by rw [if_neg q] at hz; exact hz) H locs ls hP hS hl)
theorem r_icmp_ge {x y : Int32} {off : Int} {tgt : Nat} (C : zO E Γ own cc nL ret) (hd : decode cc pc = .ok (.if_icmp .ge off, 3)) (ht : (pc : Int) + off = (tgt : Int)) (kt : y ≤ x → zJg E Γ R nL Q cx sx P1 σ tgt lv rest) (kf : ¬ y ≤ x → zJg E Γ R nL Q cx sx P2 σ (pc + 3) lv rest) : zJg E Γ R nL Q cx sx (if y ≤ x then P1 else P2) σ pc lv (.int y :: .int x :: rest) := by
  obtain ⟨p, e, s, m, args, below, meth, c⟩ := Γ
  obtain ⟨hx, hb, hml, hr, hown, hts, hK, hAp, hlk⟩ := C
  intro z hz H locs ls hP hS hl
  exact lv_icmp_ge hx hb hd ht (fun q => kt q z (by rw [if_pos q] at hz; exact hz) H locs ls hP hS hl) (fun q => kf q z (by rw [if_neg q] at hz; exact hz) H locs ls hP hS hl)
theorem r_if_gt {x : Int32} {off : Int} {tgt : Nat} (C : zO E Γ own cc nL ret) (hd : decode cc pc = .ok (.ifCond .gt off, 3)) (ht : (pc : Int) + off = (tgt : Int)) (kt : 0 < x → zJg E Γ R nL Q cx sx P1 σ tgt lv rest) (kf : ¬ 0 < x → zJg E Γ R nL Q cx sx P2 σ (pc + 3) lv rest) : zJg E Γ R nL Q cx sx (if 0 < x then P1 else P2) σ pc lv (.int x :: rest) := by
  obtain ⟨p, e, s, m, args, below, meth, c⟩ := Γ
  obtain ⟨hx, hb, hml, hr, hown, hts, hK, hAp, hlk⟩ := C
  intro z hz H locs ls hP hS hl
  exact lv_if_gt hx hb hd ht (fun q => kt q z (by rw [if_pos q] at hz; exact hz) H locs ls hP hS hl) (fun q => kf q z (by rw [if_neg q] at hz; exact hz) H locs ls hP hS hl)
theorem r_icmp_gt {x y : Int32} {off : Int} {tgt : Nat} (C : zO E Γ own cc nL ret) (hd : decode cc pc = .ok (.if_icmp .gt off, 3)) (ht : (pc : Int) + off = (tgt : Int)) (kt : y < x → zJg E Γ R nL Q cx sx P1 σ tgt lv rest) (kf : ¬ y < x → zJg E Γ R nL Q cx sx P2 σ (pc + 3) lv rest) : zJg E Γ R nL Q cx sx (if y < x then P1 else P2) σ pc lv (.int y :: .int x :: rest) := by
  obtain ⟨p, e, s, m, args, below, meth, c⟩ := Γ
  obtain ⟨hx, hb, hml, hr, hown, hts, hK, hAp, hlk⟩ := C
  intro z hz H locs ls hP hS hl
  exact lv_icmp_gt hx hb hd ht (fun q => kt q z (by rw [if_pos q] at hz; exact hz) H locs ls hP hS hl) (fun q => kf q z (by rw [if_neg q] at hz; exact hz) H locs ls hP hS hl)
theorem r_if_le {x : Int32} {off : Int} {tgt : Nat} (C : zO E Γ own cc nL ret) (hd : decode cc pc = .ok (.ifCond .le off, 3)) (ht : (pc : Int) + off = (tgt : Int)) (kt : x ≤ 0 → zJg E Γ R nL Q cx sx P1 σ tgt lv rest) (kf : ¬ x ≤ 0 → zJg E Γ R nL Q cx sx P2 σ (pc + 3) lv rest) : zJg E Γ R nL Q cx sx (if x ≤ 0 then P1 else P2) σ pc lv (.int x :: rest) := by
  obtain ⟨p, e, s, m, args, below, meth, c⟩ := Γ
  obtain ⟨hx, hb, hml, hr, hown, hts, hK, hAp, hlk⟩ := C
  intro z hz H locs ls hP hS hl
  exact lv_if_le hx hb hd ht (fun q => kt q z (by rw [if_pos q] at hz; exact hz) H locs ls hP hS hl) (fun q => kf q z (by rw [if_neg q] at hz; exact hz) H locs ls hP hS hl)
theorem r_icmp_le {x y : Int32} {off : Int} {tgt : Nat} (C : zO E Γ own cc nL ret) (hd : decode cc pc = .ok (.if_icmp .le off, 3)) (ht : (pc : Int) + off = (tgt : Int)) (kt : x ≤ y → zJg E Γ R nL Q cx sx P1 σ tgt lv rest) (kf : ¬ x ≤ y → zJg E Γ R nL Q cx sx P2 σ (pc + 3) lv rest) : zJg E Γ R nL Q cx sx (if x ≤ y then P1 else P2) σ pc lv (.int y :: .int x :: rest) := by
  obtain ⟨p, e, s, m, args, below, meth, c⟩ := Γ
  obtain ⟨hx, hb, hml, hr, hown, hts, hK, hAp, hlk⟩ := C
  intro z hz H locs ls hP hS hl
  exact lv_icmp_le hx hb hd ht (fun q => kt q z (by rw [if_pos q] at hz; exact hz) H locs ls hP hS hl) (fun q => kf q z (by rw [if_neg q] at hz; exact hz) H locs ls hP hS hl)
theorem r_goto {off : Int} {tgt : Nat} (C : zO E Γ own cc nL ret) (hd : decode cc pc = .ok (.goto off, 3)) (ht : (pc : Int) + off = (tgt : Int)) (k : zJg E Γ R nL Q cx sx P σ tgt lv rest) : zJg E Γ R nL Q cx sx P σ pc lv rest := by
  obtain ⟨p, e, s, m, args, below, meth, c⟩ := Γ
  obtain ⟨hx, hb, hml, hr, hown, hts, hK, hAp, hlk⟩ := C
  intro z hz H locs ls hP hS hl
  exact lv_goto hx hb hd ht (k z hz H locs ls hP hS hl)
theorem r_ifnull {x : Nat} {off : Int} (C : zO E Γ own cc nL ret) (hd : decode cc pc = .ok (.ifnull off, 3)) (k : zJg E Γ R nL Q cx sx P σ (pc + 3) lv rest) : zJg E Γ R nL Q cx sx P σ pc lv (.ref x :: rest) := by
  obtain ⟨p, e, s, m, args, below, meth, c⟩ := Γ
  obtain ⟨hx, hb, hml, hr, hown, hts, hK, hAp, hlk⟩ := C
  intro z hz H locs ls hP hS hl
  exact lv_ifnull hx hb hd (k z hz H locs ls hP hS hl)
theorem r_ifnonnull {x : Nat} {off : Int} {tgt : Nat} (C : zO E Γ own cc nL ret) (hd : decode cc pc = .ok (.ifnonnull off, 3)) (ht : (pc : Int) + off = (tgt : Int)) (k : zJg E Γ R nL Q cx sx P σ tgt lv rest) : zJg E Γ R nL Q cx sx P σ pc lv (.ref x :: rest) := by
  obtain ⟨p, e, s, m, args, below, meth, c⟩ := Γ
  obtain ⟨hx, hb, hml, hr, hown, hts, hK, hAp, hlk⟩ := C
  intro z hz H locs ls hP hS hl
  exact lv_ifnonnull hx hb hd ht (k z hz H locs ls hP hS hl)
theorem r_ifnullN {off : Int} {tgt : Nat} (C : zO E Γ own cc nL ret) (hd : decode cc pc = .ok (.ifnull off, 3)) (ht : (pc : Int) + off = (tgt : Int)) (k : zJg E Γ R nL Q cx sx P σ tgt lv rest) : zJg E Γ R nL Q cx sx P σ pc lv (.null :: rest) := by
  obtain ⟨p, e, s, m, args, below, meth, c⟩ := Γ
  obtain ⟨hx, hb, hml, hr, hown, hts, hK, hAp, hlk⟩ := C
  intro z hz H locs ls hP hS hl
  exact lv_ifnullN hx hb hd ht (k z hz H locs ls hP hS hl)
theorem r_ifnonnullN {off : Int} (C : zO E Γ own cc nL ret) (hd : decode cc pc = .ok (.ifnonnull off, 3)) (k : zJg E Γ R nL Q cx sx P σ (pc + 3) lv rest) : zJg E Γ R nL Q cx sx P σ pc lv (.null :: rest) := by
  obtain ⟨p, e, s, m, args, below, meth, c⟩ := Γ
  obtain ⟨hx, hb, hml, hr, hown, hts, hK, hAp, hlk⟩ := C
  intro z hz H locs ls hP hS hl
  exact lv_ifnonnullN hx hb hd (k z hz H locs ls hP hS hl)
theorem r_split {q : Prop} [Decidable q] (k1 : q → zJg E Γ R nL Q cx sx P1 σ pc lv rest) (k2 : ¬ q → zJg E Γ R nL Q cx sx P2 σ pc lv rest) : zJg E Γ R nL Q cx sx (if q then P1 else P2) σ pc lv rest := by
  by_cases h : q
  · rw [if_pos h]; exact k1 h
  · rw [if_neg h]; exact k2 h
theorem r_tabIn {dflt lo hi : Int} {offs : Array Int} {len : Nat} {x v : Int32} {off : Int} {tgt : Nat} (C : zO E Γ own cc nL ret) (hd : decode cc pc = .ok (.tableswitch dflt lo hi offs, len)) (hxv : x = v) (h1 : ¬ v.toInt < lo) (h2 : ¬ hi < v.toInt) (ho : offs[(v.toInt - lo).toNat]? = some off) (ht : (pc : Int) + off = (tgt : Int)) (k : zJg E Γ R nL Q cx sx P σ tgt lv rest) : zJg E Γ R nL Q cx sx P σ pc lv (.int x :: rest) := by
  obtain ⟨p, e, s, m, args, below, meth, c⟩ := Γ
  obtain ⟨hx, hb, hml, hr, hown, hts, hK, hAp, hlk⟩ := C
  intro z hz H locs ls hP hS hl
  subst hxv
  exact lv_tableIn hx hb hd h1 h2 ho ht (k z hz H locs ls hP hS hl)
theorem r_tabOut {dflt lo hi : Int} {offs : Array Int} {len : Nat} {x : Int32} {tgt : Nat} (C : zO E Γ own cc nL ret) (hd : decode cc pc = .ok (.tableswitch dflt lo hi offs, len)) (h : x.toInt < lo ∨ hi < x.toInt) (ht : (pc : Int) + dflt = (tgt : Int)) (k : zJg E Γ R nL Q cx sx P σ tgt lv rest) : zJg E Γ R nL Q cx sx P σ pc lv (.int x :: rest) := by
  obtain ⟨p, e, s, m, args, below, meth, c⟩ := Γ
  obtain ⟨hx, hb, hml, hr, hown, hts, hK, hAp, hlk⟩ := C
  intro z hz H locs ls hP hS hl
  exact lv_tableOut hx hb hd h ht (k z hz H locs ls hP hS hl)
theorem r_get {ci N index : Nat} {Cn : String} {T : u_T} {ty : Nat → FieldType} {v : Value} {fs : List Value} (C : zO E Γ own cc nL ret) (K : zCl ci Cn T N ty) (i j : Nat) (hi : i < z_N) (he : z_E E i (σ i) = .inr (ci, fs)) (hj : j < N) (hlink : Cond.fieldLink own index (T j).1 (T j).2.1 (T j).2.2.1 ∈ lw_good) (hv : fs[j]? = some v) (hd : decode cc pc = .ok (.getfield index, 3)) (k : zJg E Γ R nL Q cx sx P σ (pc + 3) lv (v :: rest)) : zJg E Γ R nL Q cx sx P σ pc lv (.ref (zad E i) :: rest) := by
  obtain ⟨p, e, s, m, args, below, meth, c⟩ := Γ
  obtain ⟨hx, hb, hml, hr, hown, hts, hK, hAp, hlk⟩ := C
  intro z hz H locs ls hP hS hl
  exact va_get (D := zD E) hx hb hts K.1 hown hK.1 hP i (by rw [zW_at hi, he]) K.2.1 j hj (hts _ hlink) (fun _ h => h) hv hd (k z hz H locs ls hP hS hl)
theorem r_getN {ci N index : Nat} {Cn : String} {T : u_T} {ty : Nat → FieldType} {v : Value} {fs : List Value} {host : String} (C : zO E Γ own cc nL ret) (K : zCl ci Cn T N ty) (i j : Nat) (hi : i < z_N) (he : z_E E i (σ i) = .inr (ci, fs)) (hj : j < N) (hlink : Cond.fieldLinkNest own index (T j).1 (T j).2.1 (T j).2.2.1 host ∈ z_nest) (hv : fs[j]? = some v) (hd : decode cc pc = .ok (.getfield index, 3)) (k : zJg E Γ R nL Q cx sx P σ (pc + 3) lv (v :: rest)) : zJg E Γ R nL Q cx sx P σ pc lv (.ref (zad E i) :: rest) := by
  obtain ⟨p, e, s, m, args, below, meth, c⟩ := Γ
  obtain ⟨hx, hb, hml, hr, hown, hts, hK, hAp, hlk⟩ := C
  intro z hz H locs ls hP hS hl
  exact va_getN (D := zD E) hx hb hts K.1 hown hK.1 hP i (by rw [zW_at hi, he]) K.2.1 j hj (va_Nw.use rfl (hK.2.1 _ hlink)) (fun _ h => h) hv hd (k z hz H locs ls hP hS hl)
theorem r_put {ci N index : Nat} {Cn : String} {T : u_T} {ty : Nat → FieldType} {x : Int32} {fs : List Value} (C : zO E Γ own cc nL ret) (K : zCl ci Cn T N ty) (i j : Nat) (hi : i < z_N) (he : z_E E i (σ i) = .inr (ci, fs)) (hj : j < N) (hlink : Cond.fieldLink own index (T j).1 (T j).2.1 (T j).2.2.1 ∈ lw_good) (hfin : (T j).2.2.2 = false) (hty : ty j = .int) (hl2 : j < fs.length) (he2 : z_E E i (upd (σ i) j x) = .inr (ci, fs.set j (.int x))) (hd : decode cc pc = .ok (.putfield index, 3)) (k : ∀ σ1, σ1 = zu σ i j x → zJg E Γ R nL Q cx sx (K2 σ1) σ1 (pc + 3) lv rest) : zJg E Γ R nL Q cx sx (zlet (zu σ i j x) K2) σ pc lv (.int x :: .ref (zad E i) :: rest) := by
  obtain ⟨p, e, s, m, args, below, meth, c⟩ := Γ
  obtain ⟨hx, hb, hml, hr, hown, hts, hK, hAp, hlk⟩ := C
  intro z hz H locs ls hP hS hl
  refine va_put (D := zD E) (ty := .int) hx hb hts K.1 ty K.2.2.1 K.2.2.2 hown hK.1 hP (zW_D hAp σ) hS i (by rw [zW_at hi, he]) K.2.1 j hj (hts _ hlink) (fun _ h => h) hfin (by rw [K.2.2.1 j hj, hty]) rfl rfl hl2 hd (fun H1 locs1 hP1 hD1 hS1 => ?_)
  rw [← he2, zW_set hi] at hP1
  exact k _ rfl z hz H1 locs1 ls hP1 hS1 hl
theorem r_putN {ci N index : Nat} {Cn : String} {T : u_T} {ty : Nat → FieldType} {x : Int32} {fs : List Value} {host : String} (C : zO E Γ own cc nL ret) (K : zCl ci Cn T N ty) (i j : Nat) (hi : i < z_N) (he : z_E E i (σ i) = .inr (ci, fs)) (hj : j < N) (hlink : Cond.fieldLinkNest own index (T j).1 (T j).2.1 (T j).2.2.1 host ∈ z_nest) (hfin : (T j).2.2.2 = false) (hty : ty j = .int) (hl2 : j < fs.length) (he2 : z_E E i (upd (σ i) j x) = .inr (ci, fs.set j (.int x))) (hd : decode cc pc = .ok (.putfield index, 3)) (k : ∀ σ1, σ1 = zu σ i j x → zJg E Γ R nL Q cx sx (K2 σ1) σ1 (pc + 3) lv rest) : zJg E Γ R nL Q cx sx (zlet (zu σ i j x) K2) σ pc lv (.int x :: .ref (zad E i) :: rest) := by
  obtain ⟨p, e, s, m, args, below, meth, c⟩ := Γ
  obtain ⟨hx, hb, hml, hr, hown, hts, hK, hAp, hlk⟩ := C
  intro z hz H locs ls hP hS hl
  refine va_putN (D := zD E) (ty := .int) hx hb hts K.1 ty K.2.2.1 K.2.2.2 hown hK.1 hP (zW_D hAp σ) hS i (by rw [zW_at hi, he]) K.2.1 j hj (va_Nw.use rfl (hK.2.1 _ hlink)) (fun _ h => h) hfin (by rw [K.2.2.1 j hj, hty]) rfl rfl hl2 hd (fun H1 locs1 hP1 hD1 hS1 => ?_)
  rw [← he2, zW_set hi] at hP1
  exact k _ rfl z hz H1 locs1 ls hP1 hS1 hl
theorem r_gets {index n : Nat} {Cn f d : String} {t : Nat} {g : Nat → Value} (C : zO E Γ own cc nL ret) (hq : (Cn, f, d, t, n, g) ∈ z_stat E) (hlink : Cond.fieldLink own index Cn f d ∈ lw_good) (hd : decode cc pc = .ok (.getstatic index, 3)) (k : zJg E Γ R nL Q cx sx P σ (pc + 3) lv (.ref t :: rest)) : zJg E Γ R nL Q cx sx P σ pc lv rest := by
  obtain ⟨p, e, s, m, args, below, meth, c⟩ := Γ
  obtain ⟨hx, hb, hml, hr, hown, hts, hK, hAp, hlk⟩ := C
  intro z hz H locs ls hP hS hl
  exact va_gets hx hb (hK.2.2.1 _ hq).1 hS hown (hts _ hlink) (fun _ h => h) hd (k z hz H locs ls hP hS hl)
theorem r_getsN {index n : Nat} {Cn f d host : String} {t : Nat} {g : Nat → Value} (C : zO E Γ own cc nL ret) (hq : (Cn, f, d, t, n, g) ∈ z_stat E) (hlink : Cond.fieldLinkNest own index Cn f d host ∈ z_nest) (hd : decode cc pc = .ok (.getstatic index, 3)) (k : zJg E Γ R nL Q cx sx P σ (pc + 3) lv (.ref t :: rest)) : zJg E Γ R nL Q cx sx P σ pc lv rest := by
  obtain ⟨p, e, s, m, args, below, meth, c⟩ := Γ
  obtain ⟨hx, hb, hml, hr, hown, hts, hK, hAp, hlk⟩ := C
  intro z hz H locs ls hP hS hl
  exact va_getsN hx hb (hK.2.2.1 _ hq).1 hS hown (va_Nw.use rfl (hK.2.1 _ hlink)) (fun _ h => h) hd (k z hz H locs ls hP hS hl)
theorem r_tload {n : Nat} {Cn f d : String} {t : Nat} {g : Nat → Int32} {i : Int32} (C : zO E Γ own cc nL ret) (hq : (Cn, f, d, t, n, (fun j => Value.int (g j))) ∈ z_stat E) (hd : decode cc pc = .ok (.iaload, 1)) (k : zJg E Γ R nL Q cx sx P σ (pc + 1) lv (.int (g i.toNatClampNeg) :: rest)) : zJg E Γ R nL Q cx sx (zc i n P) σ pc lv (.int i :: .ref t :: rest) := by
  obtain ⟨p, e, s, m, args, below, meth, c⟩ := Γ
  obtain ⟨hx, hb, hml, hr, hown, hts, hK, hAp, hlk⟩ := C
  intro z hz H locs ls hP hS hl
  obtain ⟨h0, hz⟩ := zc_some hz
  exact va_ti hx hb (hK.2.2.1 _ hq).2 hS h0 rfl hd (k z hz H locs ls hP hS hl)
theorem r_tlen {n : Nat} {Cn f d : String} {t : Nat} {g : Nat → Value} {v : Int32} (C : zO E Γ own cc nL ret) (hq : (Cn, f, d, t, n, g) ∈ z_stat E) (hv : Int32.ofNat n = v) (hd : decode cc pc = .ok (.arraylength, 1)) (k : zJg E Γ R nL Q cx sx P σ (pc + 1) lv (.int v :: rest)) : zJg E Γ R nL Q cx sx P σ pc lv (.ref t :: rest) := by
  obtain ⟨p, e, s, m, args, below, meth, c⟩ := Γ
  obtain ⟨hx, hb, hml, hr, hown, hts, hK, hAp, hlk⟩ := C
  intro z hz H locs ls hP hS hl
  exact va_tlen hx hb (hK.2.2.1 _ hq).2 hS hv hd (k z hz H locs ls hP hS hl)
theorem r_iald {n t0 : Nat} {cA : ClassId} {x : Int32} (C : zO E Γ own cc nL ret) (i : Nat) (hi : i < z_N) (he : z_E E i (σ i) = .inl (cA, n, .inl (σ i))) (ht : (z_ty E)[t0]? = some (cA, .int)) (hd : decode cc pc = .ok (.iaload, 1)) (k : zJg E Γ R nL Q cx sx P σ (pc + 1) lv (.int (σ i x.toNatClampNeg) :: rest)) : zJg E Γ R nL Q cx sx (zc x n P) σ pc lv (.int x :: .ref (zad E i) :: rest) := by
  obtain ⟨p, e, s, m, args, below, meth, c⟩ := Γ
  obtain ⟨hx, hb, hml, hr, hown, hts, hK, hAp, hlk⟩ := C
  intro z hz H locs ls hP hS hl
  obtain ⟨h0, hz⟩ := zc_some hz
  exact va_iald (D := zD E) hx hb hK.1 hP i t0 (by rw [zW_at hi, he]) ht h0 hd (k z hz H locs ls hP hS hl)
theorem r_zald {n t0 : Nat} {cA : ClassId} {x : Int32} (C : zO E Γ own cc nL ret) (i : Nat) (hi : i < z_N) (he : z_E E i (σ i) = .inl (cA, n, .inl (σ i))) (ht : (z_ty E)[t0]? = some (cA, .boolean)) (hd : decode cc pc = .ok (.baload, 1)) (k : zJg E Γ R nL Q cx sx P σ (pc + 1) lv (.int (σ i x.toNatClampNeg) :: rest)) : zJg E Γ R nL Q cx sx (zc x n P) σ pc lv (.int x :: .ref (zad E i) :: rest) := by
  obtain ⟨p, e, s, m, args, below, meth, c⟩ := Γ
  obtain ⟨hx, hb, hml, hr, hown, hts, hK, hAp, hlk⟩ := C
  intro z hz H locs ls hP hS hl
  obtain ⟨h0, hz⟩ := zc_some hz
  exact va_zald (D := zD E) hx hb hK.1 hP i t0 (by rw [zW_at hi, he]) ht h0 hd (k z hz H locs ls hP hS hl)
theorem r_iast {n t0 : Nat} {cA : ClassId} {x y : Int32} (C : zO E Γ own cc nL ret) (i : Nat) (hi : i < z_N) (he : z_E E i (σ i) = .inl (cA, n, .inl (σ i))) (he2 : ∀ f, z_E E i f = .inl (cA, n, .inl f)) (ht : (z_ty E)[t0]? = some (cA, .int)) (hd : decode cc pc = .ok (.iastore, 1)) (k : ∀ σ1, σ1 = zu σ i y.toNatClampNeg x → zJg E Γ R nL Q cx sx (K2 σ1) σ1 (pc + 1) lv rest) : zJg E Γ R nL Q cx sx (zc y n (zlet (zu σ i y.toNatClampNeg x) K2)) σ pc lv (.int x :: .int y :: .ref (zad E i) :: rest) := by
  obtain ⟨p, e, s, m, args, below, meth, c⟩ := Γ
  obtain ⟨hx, hb, hml, hr, hown, hts, hK, hAp, hlk⟩ := C
  intro z hz H locs ls hP hS hl
  obtain ⟨h0, hz⟩ := zc_some hz
  refine va_iast (D := zD E) hx hb hK.1 hP (zW_D hAp σ) hS i t0 (by rw [zW_at hi, he]) ht h0 hd (fun H1 locs1 hP1 hD1 hS1 => ?_)
  rw [← he2, zW_set hi] at hP1
  exact k _ rfl z hz H1 locs1 ls hP1 hS1 hl
theorem r_zast {n t0 : Nat} {cA : ClassId} {x y : Int32} (C : zO E Γ own cc nL ret) (i : Nat) (hi : i < z_N) (he : z_E E i (σ i) = .inl (cA, n, .inl (σ i))) (he2 : ∀ f, z_E E i f = .inl (cA, n, .inl f)) (ht : (z_ty E)[t0]? = some (cA, .boolean)) (hd : decode cc pc = .ok (.bastore, 1)) (k : ∀ σ1, σ1 = zu σ i y.toNatClampNeg (vp_nar .boolean x) → zJg E Γ R nL Q cx sx (K2 σ1) σ1 (pc + 1) lv rest) : zJg E Γ R nL Q cx sx (zc y n (zlet (zu σ i y.toNatClampNeg (vp_nar .boolean x)) K2)) σ pc lv (.int x :: .int y :: .ref (zad E i) :: rest) := by
  obtain ⟨p, e, s, m, args, below, meth, c⟩ := Γ
  obtain ⟨hx, hb, hml, hr, hown, hts, hK, hAp, hlk⟩ := C
  intro z hz H locs ls hP hS hl
  obtain ⟨h0, hz⟩ := zc_some hz
  refine va_zast (D := zD E) hx hb hK.1 hP (zW_D hAp σ) hS i t0 (by rw [zW_at hi, he]) ht h0 hd (fun H1 locs1 hP1 hD1 hS1 => ?_)
  rw [← he2, zW_set hi] at hP1
  exact k _ rfl z hz H1 locs1 ls hP1 hS1 hl
theorem r_alen {n t0 : Nat} {cA : ClassId} {v : Int32} {ty : FieldType} {q : (Nat → Int32) ⊕ (Nat → Int64) ⊕ (Nat → UInt32) ⊕ (Nat → UInt64) ⊕ (Nat → Option Nat)} (C : zO E Γ own cc nL ret) (i : Nat) (hi : i < z_N) (he : z_E E i (σ i) = .inl (cA, n, q)) (ht : (z_ty E)[t0]? = some (cA, ty)) (hv : Int32.ofNat n = v) (hd : decode cc pc = .ok (.arraylength, 1)) (k : zJg E Γ R nL Q cx sx P σ (pc + 1) lv (.int v :: rest)) : zJg E Γ R nL Q cx sx P σ pc lv (.ref (zad E i) :: rest) := by
  obtain ⟨p, e, s, m, args, below, meth, c⟩ := Γ
  obtain ⟨hx, hb, hml, hr, hown, hts, hK, hAp, hlk⟩ := C
  intro z hz H locs ls hP hS hl
  exact va_alen (D := zD E) hx hb hK.1 hP i t0 (by rw [zW_at hi, he]) ht hv hd (k z hz H locs ls hP hS hl)
theorem r_aald {n t0 : Nat} {cA : ClassId} {Cn : String} {x : Int32} {g : Nat → Option Nat} (C : zO E Γ own cc nL ret) (i : Nat) (hi : i < z_N) (he : z_E E i (σ i) = .inl (cA, n, .inr (.inr (.inr (.inr g))))) (ht : (z_ty E)[t0]? = some (cA, .object Cn)) (a : Nat) (hg : x.toNatClampNeg < n → g x.toNatClampNeg = some a) (hd : decode cc pc = .ok (.aaload, 1)) (k : x.toNatClampNeg < n → zJg E Γ R nL Q cx sx P σ (pc + 1) lv (.ref a :: rest)) : zJg E Γ R nL Q cx sx (zc x n P) σ pc lv (.int x :: .ref (zad E i) :: rest) := by
  obtain ⟨p, e, s, m, args, below, meth, c⟩ := Γ
  obtain ⟨hx, hb, hml, hr, hown, hts, hK, hAp, hlk⟩ := C
  intro z hz H locs ls hP hS hl
  obtain ⟨h0, hz⟩ := zc_some hz
  have h9 : x.toNatClampNeg < n := Nat.not_le.mp fun q => h0 (Or.inr q)
  refine va_aldq (D := zD E) hx hb hK.1 hP i t0 (by rw [zW_at hi, he]) ht h0 hd ?_
  rw [hg h9]
  exact k h9 z hz H locs ls hP hS hl
theorem zrun {R : Room} {Γ : zX} {pc : Nat} {lv : List (Option Value)} {st rest : List Value} {ρ' : Type} {rv' : ρ' → Option Value} {q : Option (ρ' × zS)} {K : ρ' → zS → Option (ρ × zS)} {free : Addr → Prop} {a : Array Value}
    (hf : ∀ x, free x → zA E x)
    (run : ∀ z', q = some z' → match Γ with | (p, e, s, m, args, below, meth, c) => ∀ (H : Heap) (locs : List Loc) (ls : Array Slot), va_P (zD E) z_cl (zW E σ) H → va_S (zA E) s.heap H locs → zL ls nL lv → va_Run p (zl E) e R s m args below meth c H locs cx sx 0 0 (F0 m pc ls st) rest (zQ E (rv' z'.1) z'.2 a) free)
    (k : ∀ r σ1, q = some (r, σ1) → zJg E Γ R nL Q cx sx (K r σ1) σ1 (pc + 3) lv ((rv' r).toList ++ rest)) : zJg E Γ R nL Q cx sx (zbind q K) σ pc lv st := by
  obtain ⟨p, e, s, m, args, below, meth, c⟩ := Γ
  intro z hz H locs ls hP hS hl
  obtain ⟨r, σ1, hq, hz⟩ := zb_some hz
  intro T hT X
  obtain ⟨v, st₀, t, T', L, h0, X', hL, e1, e2, ⟨hv, hP1, hF⟩, go⟩ := run (r, σ1) hq H locs ls hP hS hl T hT X
  have hv : v = rv' r := by cases hv; rfl
  subst hv
  rw [← e1] at hP1
  have hF1 : H.size ≤ T'.heap.size := by rw [e1, ← h0]; exact hF.1
  have hF2 : ∀ x : Nat, x < H.size → ¬ zA E x → T'.heap[x]? = H[x]? := fun x h1 h2 => by rw [e1, ← h0]; exact hF.2 x (by rw [h0]; exact h1) h2
  obtain ⟨t2, a1, b1⟩ := k r σ1 hq z hz T'.heap (locs ++ L) ls hP1 ⟨Nat.le_trans hS.1 hF1, fun x h1 h2 => (hF2 x (Nat.lt_of_lt_of_le h1 hS.1) h2).trans (hS.2.1 x h1 h2), fun x hx => by
      rcases List.mem_append.mp hx with h | h
      · exact hS.2.2 x h
      · exact hf _ (hL x h)⟩ hl T' rfl X'
  exact ⟨t2, go t2 a1, b1⟩
theorem zPre {E : zG} {s U : State} {H : Heap} {locs : List Loc} {σ : zS} (av : List Value) (hK : zK E s) (hP : va_P (zD E) z_cl (zW E σ) H) (hS : va_S (zA E) s.heap H locs) (hU : U.heap = H) (hW : s.WarmedH U.vm) : zPc E σ av av.toArray U :=
  ⟨rfl, by rw [hU]; exact hP, hK.go hW (fun a h1 h2 => by rw [hU]; exact hS.2.1 a h1 h2)⟩
theorem zgood : GoodIn lw_good lw_good := fun w hw => ⟨hw, lw_good_ok w hw⟩
theorem zgoods {y : MethodName} {bytes : ByteArray} {maxL : Nat} {ret' : Option FieldType} (h : Cond.code y bytes maxL ret' ∈ lw_good) : GoodIn lw_good (zws y bytes maxL ret') := fun w hw => by
  rcases List.mem_cons.mp hw with e | e
  · rw [e]; exact ⟨h, lw_good_ok _ h⟩
  · exact ⟨e, lw_good_ok w e⟩
theorem r_callV {y : MethodName} {bytes : ByteArray} {maxL index n : Nat} {ret' : Option FieldType} {rm : Room} {ρ' : Type} {rv' : ρ' → Option Value} {q : Option (ρ' × zS)} {K : ρ' → zS → Option (ρ × zS)} {As : List Value} {ci : Nat} {fs : List Value} {cq : vw_C} (C : zO E Γ own cc nL ret) (i : Nat) (hM : zM E y bytes maxL ret' rm rv' (.ref (zad E i) :: As) q σ) (hc : Cond.code y bytes maxL ret' ∈ lw_good) (hini : Cond.initialized y.cls ∈ lw_good) (hlink : Cond.methodLink own index y ∈ lw_good) (hinst : Cond.instanceMethod y ∈ lw_good) (hsel : Cond.selects y.cls y y ∈ lw_good) (hd2 : y.cls ≠ "java/lang/invoke/MethodHandle" ∧ y.cls ≠ "java/lang/invoke/VarHandle" ∧ (parseMethodDescriptor y.desc).map (fun d => d.parameters.length) = some n) (hn : As.length = n) (hrc : rm.cells = 0 ∧ rm.slots = 0) (hR : rm.frames + 1 ≤ R.frames ∧ 8 + (maxL + 11) + rm.locals ≤ R.locals) (hi : i < z_N) (he : z_E E i (σ i) = .inr (ci, fs)) (hcq : z_cl[ci]? = some cq) (hcn : cq.1 = y.cls) (hst : (rest.map fun v => v.category).sum ≤ 8) (hcs : cx ≤ R.cells ∧ sx ≤ R.slots) (hd : decode cc pc = .ok (.invokevirtual index, 3)) (k : ∀ r σ1, q = some (r, σ1) → zJg E Γ R nL Q cx sx (K r σ1) σ1 (pc + 3) lv ((rv' r).toList ++ rest)) : zJg E Γ R nL Q cx sx (zbind q K) σ pc lv (As.reverse ++ .ref (zad E i) :: rest) := by
  refine zrun (a := (Value.ref (zad E i) :: As).toArray) (free := zA E) (fun _ h => h) (fun z' hq => ?_) k
  obtain ⟨p, e, s, m, args, below, meth, c⟩ := Γ
  obtain ⟨hx, hb, hml, hr, hown, hts, hK, hAp, hlk⟩ := C
  intro H locs ls hP hS hl
  exact va_runV (Ts := lw_good) (As := As) (C := y.cls) ⟨hx, hb, hml, hown, hts⟩ (hM z' hq) ⟨⟨hrc.1, hrc.2, hR.1, hR.2, pay_in hts (zgoods hc), List.mem_cons_self, hts _ hc, hts _ hini, ⟨hd2.1, hd2.2.1⟩, fun sig h => by have h2 := hd2.2.2; rw [h] at h2; exact (Option.some.inj h2).symm, hts _ hlink⟩, hts _ hinst, hts _ hsel⟩ ⟨zPc_blind, by rw [← hcn]; exact va_recv hK.1 hP hcq (q0 := i) (by rw [zW_at hi, he]), fun U hU hW => zPre (.ref (zad E i) :: As) hK hP hS hU hW⟩ rfl hn hl.1 rfl (lv_room hst) hd hcs
theorem r_callVN {y : MethodName} {bytes : ByteArray} {maxL index n : Nat} {ret' : Option FieldType} {rm : Room} {ρ' : Type} {rv' : ρ' → Option Value} {q : Option (ρ' × zS)} {K : ρ' → zS → Option (ρ × zS)} {As : List Value} {host : String} {ci : Nat} {fs : List Value} {cq : vw_C} (C : zO E Γ own cc nL ret) (i : Nat) (hM : zM E y bytes maxL ret' rm rv' (.ref (zad E i) :: As) q σ) (hc : Cond.code y bytes maxL ret' ∈ lw_good) (hini : Cond.initialized y.cls ∈ lw_good) (hlink : Cond.methodLinkNest own index y host ∈ z_nest) (hinst : Cond.instanceMethod y ∈ lw_good) (hsel : Cond.selects y.cls y y ∈ lw_good) (hd2 : y.cls ≠ "java/lang/invoke/MethodHandle" ∧ y.cls ≠ "java/lang/invoke/VarHandle" ∧ (parseMethodDescriptor y.desc).map (fun d => d.parameters.length) = some n) (hn : As.length = n) (hrc : rm.cells = 0 ∧ rm.slots = 0) (hR : rm.frames + 1 ≤ R.frames ∧ 8 + (maxL + 11) + rm.locals ≤ R.locals) (hi : i < z_N) (he : z_E E i (σ i) = .inr (ci, fs)) (hcq : z_cl[ci]? = some cq) (hcn : cq.1 = y.cls) (hst : (rest.map fun v => v.category).sum ≤ 8) (hcs : cx ≤ R.cells ∧ sx ≤ R.slots) (hd : decode cc pc = .ok (.invokevirtual index, 3)) (k : ∀ r σ1, q = some (r, σ1) → zJg E Γ R nL Q cx sx (K r σ1) σ1 (pc + 3) lv ((rv' r).toList ++ rest)) : zJg E Γ R nL Q cx sx (zbind q K) σ pc lv (As.reverse ++ .ref (zad E i) :: rest) := by
  refine zrun (a := (Value.ref (zad E i) :: As).toArray) (free := zA E) (fun _ h => h) (fun z' hq => ?_) k
  obtain ⟨p, e, s, m, args, below, meth, c⟩ := Γ
  obtain ⟨hx, hb, hml, hr, hown, hts, hK, hAp, hlk⟩ := C
  intro H locs ls hP hS hl
  exact va_runVN (Ts := lw_good) (As := As) (C := y.cls) ⟨hx, hb, hml, hown, hts⟩ (hM z' hq) ⟨⟨⟨hrc.1, hrc.2, hR.1, hR.2, pay_in hts (zgoods hc), List.mem_cons_self⟩, hts _ hc, hts _ hini, ⟨hd2.1, hd2.2.1⟩, fun sig h => by have h2 := hd2.2.2; rw [h] at h2; exact (Option.some.inj h2).symm, va_Nw.use rfl (hK.2.1 _ hlink)⟩, hts _ hinst, hts _ hsel⟩ ⟨zPc_blind, by rw [← hcn]; exact va_recv hK.1 hP hcq (q0 := i) (by rw [zW_at hi, he]), fun U hU hW => zPre (.ref (zad E i) :: As) hK hP hS hU hW⟩ rfl hn hl.1 rfl (lv_room hst) hd hcs
theorem r_callS {y : MethodName} {bytes : ByteArray} {maxL index n : Nat} {ret' : Option FieldType} {rm : Room} {ρ' : Type} {rv' : ρ' → Option Value} {q : Option (ρ' × zS)} {K : ρ' → zS → Option (ρ × zS)} {As : List Value} (C : zO E Γ own cc nL ret) (hM : zM E y bytes maxL ret' rm rv' As q σ) (hc : Cond.code y bytes maxL ret' ∈ lw_good) (hini : Cond.initialized y.cls ∈ lw_good) (hlink : Cond.methodLink own index y ∈ lw_good) (hstat : Cond.static y ∈ lw_good) (hd2 : y.cls ≠ "java/lang/invoke/MethodHandle" ∧ y.cls ≠ "java/lang/invoke/VarHandle" ∧ (parseMethodDescriptor y.desc).map (fun d => d.parameters.length) = some n) (hn : As.length = n) (hrc : rm.cells = 0 ∧ rm.slots = 0) (hR : rm.frames + 1 ≤ R.frames ∧ 8 + (maxL + 11) + rm.locals ≤ R.locals) (hst : (rest.map fun v => v.category).sum ≤ 8) (hcs : cx ≤ R.cells ∧ sx ≤ R.slots) (hd : decode cc pc = .ok (.invokestatic index, 3)) (k : ∀ r σ1, q = some (r, σ1) → zJg E Γ R nL Q cx sx (K r σ1) σ1 (pc + 3) lv ((rv' r).toList ++ rest)) : zJg E Γ R nL Q cx sx (zbind q K) σ pc lv (As.reverse ++ rest) := by
  refine zrun (a := As.toArray) (free := zA E) (fun _ h => h) (fun z' hq => ?_) k
  obtain ⟨p, e, s, m, args, below, meth, c⟩ := Γ
  obtain ⟨hx, hb, hml, hr, hown, hts, hK, hAp, hlk⟩ := C
  intro H locs ls hP hS hl
  exact va_runS (Ts := lw_good) (As := As) ⟨hx, hb, hml, hown, hts⟩ (hM z' hq) ⟨⟨hrc.1, hrc.2, hR.1, hR.2, pay_in hts (zgoods hc), List.mem_cons_self, hts _ hc, hts _ hini, ⟨hd2.1, hd2.2.1⟩, fun sig h => by have h2 := hd2.2.2; rw [h] at h2; exact (Option.some.inj h2).symm, hts _ hlink⟩, hts _ hstat⟩ ⟨zPc_blind, fun U hU hW => zPre As hK hP hS hU hW⟩ rfl hn hl.1 rfl (lv_room hst) hd hcs
theorem r_callSN {y : MethodName} {bytes : ByteArray} {maxL index n : Nat} {ret' : Option FieldType} {rm : Room} {ρ' : Type} {rv' : ρ' → Option Value} {q : Option (ρ' × zS)} {K : ρ' → zS → Option (ρ × zS)} {As : List Value} {host : String} (C : zO E Γ own cc nL ret) (hM : zM E y bytes maxL ret' rm rv' As q σ) (hc : Cond.code y bytes maxL ret' ∈ lw_good) (hini : Cond.initialized y.cls ∈ lw_good) (hlink : Cond.methodLinkNest own index y host ∈ z_nest) (hstat : Cond.static y ∈ lw_good) (hd2 : y.cls ≠ "java/lang/invoke/MethodHandle" ∧ y.cls ≠ "java/lang/invoke/VarHandle" ∧ (parseMethodDescriptor y.desc).map (fun d => d.parameters.length) = some n) (hn : As.length = n) (hrc : rm.cells = 0 ∧ rm.slots = 0) (hR : rm.frames + 1 ≤ R.frames ∧ 8 + (maxL + 11) + rm.locals ≤ R.locals) (hst : (rest.map fun v => v.category).sum ≤ 8) (hcs : cx ≤ R.cells ∧ sx ≤ R.slots) (hd : decode cc pc = .ok (.invokestatic index, 3)) (k : ∀ r σ1, q = some (r, σ1) → zJg E Γ R nL Q cx sx (K r σ1) σ1 (pc + 3) lv ((rv' r).toList ++ rest)) : zJg E Γ R nL Q cx sx (zbind q K) σ pc lv (As.reverse ++ rest) := by
  refine zrun (a := As.toArray) (free := zA E) (fun _ h => h) (fun z' hq => ?_) k
  obtain ⟨p, e, s, m, args, below, meth, c⟩ := Γ
  obtain ⟨hx, hb, hml, hr, hown, hts, hK, hAp, hlk⟩ := C
  intro H locs ls hP hS hl
  exact va_runSN (Ts := lw_good) (As := As) ⟨hx, hb, hml, hown, hts⟩ (hM z' hq) ⟨⟨⟨hrc.1, hrc.2, hR.1, hR.2, pay_in hts (zgoods hc), List.mem_cons_self⟩, hts _ hc, hts _ hini, ⟨hd2.1, hd2.2.1⟩, fun sig h => by have h2 := hd2.2.2; rw [h] at h2; exact (Option.some.inj h2).symm, va_Nw.use rfl (hK.2.1 _ hlink)⟩, hts _ hstat, trivial⟩ ⟨zPc_blind, fun U hU hW => zPre As hK hP hS hU hW⟩ rfl hn hl.1 rfl (lv_room hst) hd hcs
theorem r_mmax {x y : Int32} {index : Nat} (C : zO E Γ own cc nL ret) (hlink : Cond.methodLink own index Lib.Math.max.name ∈ lw_good) (hstat : Cond.static Lib.Math.max.name ∈ lw_good) (hini : Cond.initialized "java/lang/Math" ∈ lw_good) (hcode : Cond.code Lib.Math.max.name Lib.Math.max.code 2 (some .int) ∈ lw_good) (hR : 1 ≤ R.frames) (hR2 : (rest.map fun v => v.category).sum + 13 ≤ R.locals) (hcs : cx ≤ R.cells ∧ sx ≤ R.slots) (hd : decode cc pc = .ok (.invokestatic index, 3)) (k : zJg E Γ R nL Q cx sx P σ (pc + 3) lv (.int (if x < y then y else x) :: rest)) : zJg E Γ R nL Q cx sx P σ pc lv (.int y :: .int x :: rest) := by
  obtain ⟨p, e, s, m, args, below, meth, c⟩ := Γ
  obtain ⟨hx, hb, hml, hr, hown, hts, hK, hAp, hlk⟩ := C
  intro z hz H locs ls hP hS hl
  exact va_mmax hx hb (hml.trans hl.1.symm) hown (hts _ hlink) (hts _ hstat) (hts _ hini) (hts _ hcode) hR hR2 hcs.1 hcs.2 hd (k z hz H locs ls hP hS hl)
theorem r_mmin {x y : Int32} {index : Nat} (C : zO E Γ own cc nL ret) (hlink : Cond.methodLink own index Lib.Math.min.name ∈ lw_good) (hstat : Cond.static Lib.Math.min.name ∈ lw_good) (hini : Cond.initialized "java/lang/Math" ∈ lw_good) (hcode : Cond.code Lib.Math.min.name Lib.Math.min.code 2 (some .int) ∈ lw_good) (hR : 1 ≤ R.frames) (hR2 : (rest.map fun v => v.category).sum + 13 ≤ R.locals) (hcs : cx ≤ R.cells ∧ sx ≤ R.slots) (hd : decode cc pc = .ok (.invokestatic index, 3)) (k : zJg E Γ R nL Q cx sx P σ (pc + 3) lv (.int (if y < x then y else x) :: rest)) : zJg E Γ R nL Q cx sx P σ pc lv (.int y :: .int x :: rest) := by
  obtain ⟨p, e, s, m, args, below, meth, c⟩ := Γ
  obtain ⟨hx, hb, hml, hr, hown, hts, hK, hAp, hlk⟩ := C
  intro z hz H locs ls hP hS hl
  exact va_mmin hx hb (hml.trans hl.1.symm) hown (hts _ hlink) (hts _ hstat) (hts _ hini) (hts _ hcode) hR hR2 hcs.1 hcs.2 hd (k z hz H locs ls hP hS hl)
theorem r_mabs {x : Int32} {index : Nat} (C : zO E Γ own cc nL ret) (hlink : Cond.methodLink own index Lib.Math.abs.name ∈ lw_good) (hstat : Cond.static Lib.Math.abs.name ∈ lw_good) (hini : Cond.initialized "java/lang/Math" ∈ lw_good) (hcode : Cond.code Lib.Math.abs.name Lib.Math.abs.code 1 (some .int) ∈ lw_good) (hR : 1 ≤ R.frames) (hR2 : (rest.map fun v => v.category).sum + 13 ≤ R.locals) (hcs : cx ≤ R.cells ∧ sx ≤ R.slots) (hd : decode cc pc = .ok (.invokestatic index, 3)) (k : zJg E Γ R nL Q cx sx P σ (pc + 3) lv (.int (if 0 ≤ x then x else 0 - x) :: rest)) : zJg E Γ R nL Q cx sx P σ pc lv (.int x :: rest) := by
  obtain ⟨p, e, s, m, args, below, meth, c⟩ := Γ
  obtain ⟨hx, hb, hml, hr, hown, hts, hK, hAp, hlk⟩ := C
  intro z hz H locs ls hP hS hl
  exact va_mabs hx hb (hml.trans hl.1.symm) hown (hts _ hlink) (hts _ hstat) (hts _ hini) (hts _ hcode) hR hR2 hcs.1 hcs.2 hd (k z hz H locs ls hP hS hl)
theorem r_acopy {index n0 n1 t0 t1 : Nat} {c0 c1 : ClassId} {sp dp n : Int32} (C : zO E Γ own cc nL ret) (i0 i1 : Nat) (hi0 : i0 < z_N) (hi1 : i1 < z_N) (he0 : z_E E i0 (σ i0) = .inl (c0, n0, .inl (σ i0))) (he1 : ∀ f, z_E E i1 f = .inl (c1, n1, .inl f)) (ht0 : (z_ty E)[t0]? = some (c0, .int)) (ht1 : (z_ty E)[t1]? = some (c1, .int)) (hlink : Cond.methodLink own index arraycopyName ∈ lw_good) (hnat : Cond.native arraycopyName ∈ lw_good) (hstat : Cond.static arraycopyName ∈ lw_good) (hini : Cond.initialized "java/lang/System" ∈ lw_good) (hR : 1 ≤ R.frames) (hR2 : (rest.map fun v => v.category).sum + (nativeFrameWords "java/lang/System" "arraycopy" 5 + 11) ≤ R.locals) (hd : decode cc pc = .ok (.invokestatic index, 3)) (k : ∀ σ1, σ1 = zr σ i1 (va_cpy (σ i0) (σ i1) sp.toNatClampNeg dp.toNatClampNeg n.toNatClampNeg) → zJg E Γ R nL Q cx sx (K2 σ1) σ1 (pc + 3) lv rest) : zJg E Γ R nL Q cx sx (zcp sp dp n n0 n1 (zlet (zr σ i1 (va_cpy (σ i0) (σ i1) sp.toNatClampNeg dp.toNatClampNeg n.toNatClampNeg)) K2)) σ pc lv (.int n :: .int dp :: .ref (zad E i1) :: .int sp :: .ref (zad E i0) :: rest) := by
  obtain ⟨p, e, s, m, args, below, meth, c⟩ := Γ
  obtain ⟨hx, hb, hml, hr, hown, hts, hK, hAp, hlk⟩ := C
  intro z hz H locs ls hP hS hl
  obtain ⟨h1, h2, h3, h4, h5, hz⟩ := zcp_some hz
  refine va_copyi (D := zD E) (ty := .int) hx hb (hml.trans hl.1.symm) hown (hts _ hlink) (hts _ hnat) (hts _ hstat) (hts _ hini) hK.1 hP (zW_D hAp σ) hS i0 i1 t0 t1 (by rw [zW_at hi0, he0]) (by rw [zW_at hi1, he1]) ht0 ht1 rfl h1 h2 h3 h4 h5 (fun _ _ => rfl) hR hR2 hd (fun H1 locs1 hP1 hD1 hS1 => ?_)
  rw [← he1, zW_set hi1] at hP1
  exact k _ rfl z hz H1 locs1 ls hP1 hS1 hl
theorem r_iret {v : Int32} (C : zO E Γ own cc nL (some .int)) (hd : decode cc pc = .ok (.ireturn, 1)) : zJ E Γ R nL (fun r : Int32 => some (.int r)) (some (v, σ)) σ pc lv [.int v] := by
  obtain ⟨p, e, s, m, args, below, meth, c⟩ := Γ
  obtain ⟨hx, hb, hml, hr, hown, hts, hK, hAp, hlk⟩ := C
  intro z hz H locs ls hP hS hl
  cases hz
  exact W.iret hx hb hr (fun t ht hW => ⟨rfl, by rw [ht]; exact hP, hS.F ht⟩) hS.2.2 hd hlk
theorem r_zret {v : Int32} (C : zO E Γ own cc nL (some .boolean)) (hn : narrow .boolean (.int v) = .int v) (hd : decode cc pc = .ok (.ireturn, 1)) : zJ E Γ R nL (fun r : Int32 => some (.int r)) (some (v, σ)) σ pc lv [.int v] := by
  obtain ⟨p, e, s, m, args, below, meth, c⟩ := Γ
  obtain ⟨hx, hb, hml, hr, hown, hts, hK, hAp, hlk⟩ := C
  intro z hz H locs ls hP hS hl
  cases hz
  exact W.zret hx hb hr hn (fun t ht hW => ⟨rfl, by rw [ht]; exact hP, hS.F ht⟩) hS.2.2 hd hlk
theorem r_vret (C : zO E Γ own cc nL none) (hd : decode cc pc = .ok (.return_, 1)) : zJ E Γ R nL (fun _ : Unit => none) (some ((), σ)) σ pc lv [] := by
  obtain ⟨p, e, s, m, args, below, meth, c⟩ := Γ
  obtain ⟨hx, hb, hml, hr, hown, hts, hK, hAp, hlk⟩ := C
  intro z hz H locs ls hP hS hl
  cases hz
  exact W.vret hx hb hr (fun t ht hW => ⟨rfl, by rw [ht]; exact hP, hS.F ht⟩) hS.2.2 hd hlk
theorem r_aret {rt : String} {v : Nat} {rv : Option Nat → Option Value} {a : Nat} (C : zO E Γ own cc nL (some (.object rt))) (hrv : rv (some v) = some (.ref a)) (hd : decode cc pc = .ok (.areturn, 1)) : zJ E Γ R nL rv (some (some v, σ)) σ pc lv [.ref a] := by
  obtain ⟨p, e, s, m, args, below, meth, c⟩ := Γ
  obtain ⟨hx, hb, hml, hr, hown, hts, hK, hAp, hlk⟩ := C
  intro z hz H locs ls hP hS hl
  cases hz
  exact W.aret hx hb hr (Or.inl ⟨_, rfl⟩) (Or.inr ⟨_, rfl⟩) (fun t ht hW => ⟨by rw [hrv], by rw [ht]; exact hP, hS.F ht⟩) hS.2.2 hd hlk
theorem r_aretN {rt : String} {rv : Option Nat → Option Value} (C : zO E Γ own cc nL (some (.object rt))) (hrv : rv none = some .null) (hd : decode cc pc = .ok (.areturn, 1)) : zJ E Γ R nL rv (some (none, σ)) σ pc lv [.null] := by
  obtain ⟨p, e, s, m, args, below, meth, c⟩ := Γ
  obtain ⟨hx, hb, hml, hr, hown, hts, hK, hAp, hlk⟩ := C
  intro z hz H locs ls hP hS hl
  cases hz
  exact W.aret hx hb hr (Or.inl ⟨_, rfl⟩) (Or.inl rfl) (fun t ht hW => ⟨by rw [hrv], by rw [ht]; exact hP, hS.F ht⟩) hS.2.2 hd hlk
theorem r_leti {x : Int32} {K : Int32 → Option (ρ × zS)} (k : ∀ y, zJg E Γ R nL Q cx sx (K y) σ pc lv (.int y :: rest)) : zJg E Γ R nL Q cx sx (zlet x K) σ pc lv (.int x :: rest) := k x
theorem r_op {r : Option Nat} {N b : Nat} {K : Nat → Option (ρ × zS)} (k1 : r = none → zJg E Γ R nL Q cx sx P σ pc lv (.null :: rest)) (k2 : ∀ i, i < N → r = some i → zJg E Γ R nL Q cx sx (K i) σ pc lv (.ref (zad E (b + 2 * i)) :: rest)) : zJg E Γ R nL Q cx sx (zop r N P K) σ pc lv ((zrf E b r).toList ++ rest) := by
  cases r with
  | none => exact k1 rfl
  | some i =>
    show zJg E Γ R nL Q cx sx (if i < N then K i else none) σ pc lv (.ref (zad E (b + 2 * i)) :: rest)
    by_cases h : i < N
    · rw [if_pos h]; exact k2 i h rfl
    · rw [if_neg h]
      obtain ⟨p, e, s, m, args, below, meth, c⟩ := Γ
      intro z hz
      cases hz
theorem r_none : zJg E Γ R nL Q cx sx none σ pc lv rest := by
  obtain ⟨p, e, s, m, args, below, meth, c⟩ := Γ
  intro z hz
  cases hz
theorem zJ_if {q : Prop} [Decidable q] (h : q) (k : zJg E Γ R nL Q cx sx (if q then P else P2) σ pc lv rest) : zJg E Γ R nL Q cx sx P σ pc lv rest := by
  rw [if_pos h] at k
  exact k
theorem zJ_nif {q : Prop} [Decidable q] (h : ¬ q) (k : zJg E Γ R nL Q cx sx (if q then P1 else P) σ pc lv rest) : zJg E Γ R nL Q cx sx P σ pc lv rest := by
  rw [if_neg h] at k
  exact k
theorem zJ_zc {i : Int32} {n : Nat} (h : vp_in i n) (k : zJg E Γ R nL Q cx sx (zc i n P) σ pc lv rest) : zJg E Γ R nL Q cx sx P σ pc lv rest := by
  rw [zc_in h] at k
  exact k
theorem zJ_zcl {i : Int32} {n : Nat} {α : Type} (a : α) (h : vp_in i n) (k : zJg E Γ R nL Q cx sx (zc i n (zlet a (fun _ => P))) σ pc lv rest) : zJg E Γ R nL Q cx sx P σ pc lv rest := by
  rw [zc_in h] at k
  exact k
theorem r_mask {lv' : List (Option Value)} (mk : List Bool) (h : zmask lv mk = lv') (k : zJg E Γ R nL Q cx sx P σ pc lv' rest) : zJg E Γ R nL Q cx sx P σ pc lv rest := by
  subst h
  obtain ⟨p, e, s, m, args, below, meth, c⟩ := Γ
  intro z hz H locs ls hP hS hl
  exact k z hz H locs ls hP hS ⟨hl.1, hl.2.1, fun i v hv => hl.2.2 i v (zmask_at lv mk i v hv)⟩
end zRows
theorem zargs {n : Nat} : ∀ (av : List Value) (k i : Nat) (v : Value), av.all (fun v => v.category == 1) = true → (av.map some ++ List.replicate n none)[i]? = some (some v) → (k + i, v) ∈ lv_args k av ∧ v.category = 1
  | [], k, i, v, _, h => by
    rw [List.map_nil, List.nil_append, List.getElem?_replicate] at h
    split at h
    · cases h
    · cases h
  | a :: av, k, 0, v, hc, h => by
    have e : a = v := by simpa using h
    subst e
    have hc1 : a.category = 1 := by
      have := List.all_eq_true.mp hc a List.mem_cons_self
      simpa using this
    exact ⟨List.mem_cons_self, hc1⟩
  | a :: av, k, i + 1, v, hc, h => by
    have hc1 : a.category = 1 := by
      have := List.all_eq_true.mp hc a List.mem_cons_self
      simpa using this
    have hc2 : av.all (fun v => v.category == 1) = true := by
      rw [List.all_cons, Bool.and_eq_true] at hc
      exact hc.2
    have h2 : (av.map some ++ List.replicate n none)[i]? = some (some v) := by simpa using h
    obtain ⟨q1, q2⟩ := zargs av (k + 1) i v hc2 h2
    refine ⟨?_, q2⟩
    unfold lv_args
    rw [if_neg (by rw [hc1]; decide)]
    refine List.mem_cons_of_mem _ ?_
    rw [show k + (i + 1) = k + 1 + i by omega]
    exact q1
theorem zM_of {E : zG} {y : MethodName} {bytes : ByteArray} {maxL : Nat} {ret : Option FieldType} {rm : Room} {ρ : Type} {rv : ρ → Option Value} {av : List Value} {q : Option (ρ × zS)} {σ : zS} {lv : List (Option Value)} (hAp : zAp E) (hy : plainName y.cls = true) (hlen : (lg_sl av).length ≤ maxL) {nn : Nat} (hcat : av.all (fun v => v.category == 1) = true) (hlv : av.map some ++ List.replicate nn none = lv)
    (k : ∀ Γ : zX, zO E Γ y.cls bytes maxL ret → zJ E Γ rm maxL rv q σ 0 lv []) : zM E y bytes maxL ret rm rv av q σ := by
  intro z hz
  refine Met.ofW (cc := bytes) (maxL := maxL) (ret := ret) hy rfl ?_
  intro p e s m args below meth c s₁ B hml hv
  obtain ⟨rfl, hP, hK⟩ := hv
  have hts0 := atoms_spec (ws := zws y bytes maxL ret) B.pre
  have hown : s.vm.findClass y.cls = some m.cls := findClass_of_methodNamed B.named
  have hl := lv_entry av (n := maxL) hlen
  rw [lg_entry_eq]
  generalize (lg_sl av ++ List.replicate (maxL - (lg_sl av).length) Slot.unset).toArray = ls at hl ⊢
  exact k (p, e, s, m, av.toArray, below, meth, c) ⟨B.exec, B.bytes, hml, B.returns, hown, fun w hw => hts0 w (List.mem_cons_of_mem _ hw), hK, hAp, B.notSynchronized⟩ z hz s.heap [] ls hP va_S.rf ⟨hl.1, hl.2.1, fun i v h => by
      have q := zargs (n := nn) av 0 i v hcat (by rw [hlv]; exact h)
      rw [Nat.zero_add] at q
      exact ⟨hl.2.2 (i, v) q.1, q.2⟩⟩

