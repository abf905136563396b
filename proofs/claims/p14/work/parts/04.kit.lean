/-! The layer over the kit: ONE world. All cells of the system stand in one list, by their numbers; what they hold is ONE function σ (cell, place). A method's picture is a program 'Option (answer × σ)': none where the machine itself would throw, or where the fuel is out. -/
abbrev zX : Type := Program × Env × State × MethodId × Array Value × List Frame × Method × Code
def zc {ρ : Type} (i : Int32) (n : Nat) (P : Option ρ) : Option ρ := if i < 0 ∨ n ≤ i.toNatClampNeg then none else P
def zd {ρ : Type} (y : Int32) (P : Option ρ) : Option ρ := if y = 0 then none else P
theorem zc_in {ρ : Type} {i : Int32} {n : Nat} {P : Option ρ} (h : vp_in i n) : zc i n P = P := if_neg h
theorem zc_some {ρ : Type} {i : Int32} {n : Nat} {P : Option ρ} {z : ρ} (h : zc i n P = some z) : vp_in i n ∧ P = some z := by
  unfold zc at h
  by_cases c : i < 0 ∨ n ≤ i.toNatClampNeg
  · rw [if_pos c] at h; cases h
  · rw [if_neg c] at h; exact ⟨c, h⟩
theorem zd_some {ρ : Type} {y : Int32} {P : Option ρ} {z : ρ} (h : zd y P = some z) : ¬ y = 0 ∧ P = some z := by
  unfold zd at h
  by_cases c : y = 0
  · rw [if_pos c] at h; cases h
  · rw [if_neg c] at h; exact ⟨c, h⟩
def zlet {α : Type} {ρ : Type} (a : α) (K : α → Option ρ) : Option ρ := K a
def zbind {α ρ : Type} (q : Option (α × zS)) (K : α → zS → Option ρ) : Option ρ := match q with
  | none => none
  | some (a, σ) => K a σ
def zop {ρ : Type} (r : Option Nat) (N : Nat) (P : Option ρ) (K : Nat → Option ρ) : Option ρ := match r with
  | none => P
  | some i => if i < N then K i else none
def zcp {ρ : Type} (sp dp n : Int32) (n0 n1 : Nat) (P : Option ρ) : Option ρ := if sp < 0 ∨ dp < 0 ∨ n < 0 ∨ n0 < sp.toNatClampNeg + n.toNatClampNeg ∨ n1 < dp.toNatClampNeg + n.toNatClampNeg then none else P
theorem zcp_some {ρ : Type} {sp dp n : Int32} {n0 n1 : Nat} {P : Option ρ} {z : ρ} (h : zcp sp dp n n0 n1 P = some z) : ¬ sp < 0 ∧ ¬ dp < 0 ∧ ¬ n < 0 ∧ sp.toNatClampNeg + n.toNatClampNeg ≤ n0 ∧ dp.toNatClampNeg + n.toNatClampNeg ≤ n1 ∧ P = some z := by
  unfold zcp at h
  by_cases c : sp < 0 ∨ dp < 0 ∨ n < 0 ∨ n0 < sp.toNatClampNeg + n.toNatClampNeg ∨ n1 < dp.toNatClampNeg + n.toNatClampNeg
  · rw [if_pos c] at h; cases h
  · rw [if_neg c] at h
    refine ⟨fun q => c (Or.inl q), fun q => c (Or.inr (Or.inl q)), fun q => c (Or.inr (Or.inr (Or.inl q))), ?_, ?_, h⟩
    · exact Nat.not_lt.mp fun q => c (Or.inr (Or.inr (Or.inr (Or.inl q))))
    · exact Nat.not_lt.mp fun q => c (Or.inr (Or.inr (Or.inr (Or.inr q))))
def zfill (f : Nat → Int32) (n : Nat) (v : Int32) : Nat → Int32 := fun j => if j < n then v else f j
def zushr (x y : Int32) : Int32 := (x.toUInt32 >>> (y.toUInt32 &&& Int32.toUInt32 31)).toInt32
theorem zb_some {α β : Type} {q : Option (α × zS)} {K : α → zS → Option β} {z : β} (h : zbind q K = some z) : ∃ a σ, q = some (a, σ) ∧ K a σ = some z := by
  cases q with
  | none => cases h
  | some a => exact ⟨a.1, a.2, rfl, h⟩
/-! the world -/
def zW (E : zG) (σ : zS) : va_W := (List.range z_N).map (fun k => (zad E k, z_E E k (σ k)))
theorem zW_at {E : zG} {σ : zS} {k : Nat} (hk : k < z_N) : (zW E σ)[k]? = some (zad E k, z_E E k (σ k)) := by
  unfold zW
  rw [List.getElem?_map, List.getElem?_range hk]
  rfl
theorem zW_set {E : zG} {σ : zS} {k : Nat} (hk : k < z_N) (f : Nat → Int32) : (zW E σ).set k (zad E k, z_E E k f) = zW E (zr σ k f) := by
  apply List.ext_getElem?
  intro i
  have hlen : (zW E σ).length = z_N := by unfold zW; rw [List.length_map, List.length_range]
  have hlen2 : (zW E (zr σ k f)).length = z_N := by unfold zW; rw [List.length_map, List.length_range]
  by_cases hi : i < z_N
  · rw [zW_at hi]
    by_cases hik : i = k
    · subst hik
      rw [List.getElem?_set_self (by rw [hlen]; exact hi)]
      unfold zr
      rw [if_pos rfl]
    · rw [List.getElem?_set_ne (Ne.symm hik), zW_at hi]
      unfold zr
      rw [if_neg hik]
  · rw [List.getElem?_eq_none (by rw [List.length_set, hlen]; omega), List.getElem?_eq_none (by rw [hlen2]; omega)]
theorem zW_D {E : zG} (h : zAp E) (σ : zS) : va_D (zA E) (zW E σ) := by
  have key : ∀ (k : Nat) (q : Nat × va_E), (zW E σ)[k]? = some q → k < z_N ∧ q.1 = zad E k := by
    intro k q hk
    have hl := (List.getElem?_eq_some_iff.mp hk).1
    have hlen : (zW E σ).length = z_N := by unfold zW; rw [List.length_map, List.length_range]
    rw [hlen] at hl
    rw [zW_at hl] at hk
    exact ⟨hl, by rw [← Option.some.inj hk]⟩
  refine ⟨fun i j p q hi hj hpq => ?_, fun k q hk => ?_⟩
  · obtain ⟨a1, a2⟩ := key i p hi
    obtain ⟨b1, b2⟩ := key j q hj
    exact h.1 i j a1 b1 (by rw [← a2, ← b2]; exact hpq)
  · obtain ⟨a1, a2⟩ := key k q hk
    show zZ E ≤ q.1
    rw [a2]; exact h.2 k a1
/-! what stands of the tables -/
theorem zNw_warmD {x : MethodName} {s U : State} (hW : s.WarmedH U.vm) (hZ : va_Nw (.declares x) s) : va_Nw (.declares x) U := va_tabs rfl (rfl : (s.setVm U.vm).vm = U.vm) (by rw [Cond.declares_setVm hW.alike]; exact hZ)
theorem z_warm {w : Cond} (h : z_isN w = true) {s U : State} (hW : s.WarmedH U.vm) (hZ : va_Nw w s) : va_Nw w U := by
  cases w <;> first | exact va_Nw.warmF hW hZ | exact va_Nw.warmM hW hZ | exact va_Nw.warmC hW hZ | exact zNw_warmD hW hZ | cases h
theorem z_same {w : Cond} (h : z_isN w = true) {s U : State} (hv : s.vm = U.vm) (hZ : va_Nw w s) : va_Nw w U := by
  cases w <;> first | exact va_Nw.same rfl hv hZ | cases h
/-- what a throw needs -/
def zT (E : zG) (U : State) : Prop := (∀ q ∈ z_txt E, vk_R q.1 q.2.1 q.2.2.1 q.2.2.2 U) ∧ vx_Zq Bundle.tN "UNASSIGNED_STACK" Bundle.steD (zA E) U U.heap ∧ vx_Zq Bundle.tN "SUPPRESSED_SENTINEL" Bundle.listD (zA E) U U.heap ∧ (∀ q ∈ z_nc, va_Nc q.1 q.2 U) ∧ (zl E).stackTraces = false
theorem zT.go {E : zG} {s U : State} (h : zT E s) (hW : s.WarmedH U.vm) (hH : ∀ a : Nat, a < s.heap.size → ¬ zA E a → U.heap[a]? = s.heap[a]?) : zT E U :=
  ⟨fun q hq => vk_R.warm hW (h.1 q hq), (vx_Zq.moved hW.alike h.2.1).kept hH, (vx_Zq.moved hW.alike h.2.2.1).kept hH, fun q hq => va_Nc.moved hW.alike (h.2.2.2.1 q hq), h.2.2.2.2⟩
theorem zT.eqv {E : zG} {s U : State} (h : zT E s) (hv : s.vm = U.vm) (hH : U.heap = s.heap) : zT E U := by
  have ha : s.vm.Alike U.vm := hv ▸ Vm.Alike.refl s.vm
  exact ⟨fun q hq => vk_R.same hv.symm (h.1 q hq), by rw [hH]; exact vx_Zq.moved ha h.2.1, by rw [hH]; exact vx_Zq.moved ha h.2.2.1, fun q hq => va_Nc.moved ha (h.2.2.2.1 q hq), h.2.2.2.2⟩
def zK (E : zG) (U : State) : Prop := va_K (zD E) z_cl (z_ty E) U ∧ (∀ w ∈ z_nest, va_Nw w U) ∧ (∀ q ∈ z_stat E, va_Z q.1 q.2.1 q.2.2.1 (.ref q.2.2.2.1) (zA E) U U.heap ∧ va_T .int q.2.2.2.1 q.2.2.2.2.1 q.2.2.2.2.2 (zA E) U U.heap) ∧ va_AO z_fc U ∧ zT E U
theorem zK.go {E : zG} {s U : State} (h : zK E s) (hW : s.WarmedH U.vm) (hH : ∀ a : Nat, a < s.heap.size → ¬ zA E a → U.heap[a]? = s.heap[a]?) : zK E U :=
  ⟨va_K.moved hW.alike h.1, fun w hw => z_warm (z_nestN w hw) hW (h.2.1 w hw), fun q hq => ⟨(va_Z.moved hW.alike (h.2.2.1 q hq).1).kept hH, (va_T.moved hW.alike (h.2.2.1 q hq).2).kept hH⟩, va_AO.moved hW.alike h.2.2.2.1, h.2.2.2.2.go hW hH⟩
theorem zK.eqv {E : zG} {s U : State} (h : zK E s) (hv : s.vm = U.vm) (hH : U.heap = s.heap) : zK E U := by
  have ha : s.vm.Alike U.vm := hv ▸ Vm.Alike.refl s.vm
  exact ⟨va_K.moved ha h.1, fun w hw => z_same (z_nestN w hw) hv (h.2.1 w hw), fun q hq => ⟨by rw [hH]; exact va_Z.moved ha (h.2.2.1 q hq).1, by rw [hH]; exact va_T.moved ha (h.2.2.1 q hq).2⟩, va_AO.moved ha h.2.2.2.1, h.2.2.2.2.eqv hv hH⟩
/-! a method's contract by its program -/
def zQ (E : zG) (v : Option Value) (σ : zS) : Array Value → State → Outcome → State → Prop := fun _ st oc t => oc = .returned v ∧ va_P (zD E) z_cl (zW E σ) t.heap ∧ va_F (zA E) st t
def zPc (E : zG) (σ : zS) (av : List Value) : Array Value → State → Prop := va_Pc av (fun U => va_P (zD E) z_cl (zW E σ) U.heap ∧ zK E U)
theorem zPc_blind {E : zG} {σ : zS} {av : List Value} : FrameBlind (zPc E σ av) := fun _ U g mk q => ⟨q.1, q.2.1, zK.eqv (U := U.calling g mk _) q.2.2 rfl rfl⟩
abbrev zws (y : MethodName) (bytes : ByteArray) (maxL : Nat) (ret : Option FieldType) : List Cond := Cond.code y bytes maxL ret :: lw_good
def zM (E : zG) (y : MethodName) (bytes : ByteArray) (maxL : Nat) (ret : Option FieldType) (rm : Room) {ρ : Type} (rv : ρ → Option Value) (av : List Value) (q : Option (ρ × zS)) (σ : zS) : Prop :=
  ∀ z, q = some z → Met (zl E) y (zws y bytes maxL ret) rm (zPc E σ av) (zQ E (rv z.1) z.2) 0 0 (zA E)
/-! the locals, by their places -/
def zL (ls : Array Slot) (nL : Nat) (lv : List (Option Value)) : Prop := ls.size = nL ∧ lv_wf ls ∧ ∀ (i : Nat) (v : Value), lv[i]? = some (some v) → ls[i]? = some (.val v) ∧ v.category = 1
def zP (lv : List (Option Value)) : List (Nat × Value) := lv.zipIdx.filterMap (fun q => q.1.map (fun v => (q.2, v)))
theorem zP_mem {lv : List (Option Value)} {i : Nat} {v : Value} : (i, v) ∈ zP lv ↔ lv[i]? = some (some v) := by
  unfold zP
  rw [List.mem_filterMap]
  constructor
  · rintro ⟨⟨o, j⟩, h1, h2⟩
    cases o with
    | none => cases h2
    | some w =>
      have e : (j, w) = (i, v) := Option.some.inj h2
      cases e
      exact List.mk_mem_zipIdx_iff_getElem?.mp h1
  · intro h
    exact ⟨(some v, i), List.mk_mem_zipIdx_iff_getElem?.mpr h, rfl⟩
theorem zL.has {ls : Array Slot} {nL : Nat} {lv : List (Option Value)} (h : zL ls nL lv) : lv_has ls nL (zP lv) :=
  ⟨h.1, h.2.1, fun q hq => (h.2.2 q.1 q.2 (zP_mem.mp hq)).1⟩
theorem zL.put {ls' ls : Array Slot} {nL i : Nat} {lv : List (Option Value)} {x : Value} (h : zL ls nL lv) (hc : x.category = 1) (h' : lv_has ls' nL ((i, x) :: (zP lv).filter (fun q => !(q.1 == i) && !(q.1 + 1 == i && q.2.category == 2)))) : zL ls' nL (lv.set i (some x)) := by
  refine ⟨h'.1, h'.2.1, fun j v hj => ?_⟩
  by_cases hji : j = i
  · subst hji
    have hl : j < lv.length := by
      have := (List.getElem?_eq_some_iff.mp hj).1
      rw [List.length_set] at this
      exact this
    rw [List.getElem?_set_self hl] at hj
    cases hj
    exact ⟨h'.2.2 (j, x) List.mem_cons_self, hc⟩
  · rw [List.getElem?_set_ne (Ne.symm hji)] at hj
    have h1 := h.2.2 j v hj
    refine ⟨h'.2.2 (j, v) (List.mem_cons_of_mem _ (List.mem_filter.mpr ⟨zP_mem.mpr hj, ?_⟩)), h1.2⟩
    simp [hji, h1.2]
def zmask : List (Option Value) → List Bool → List (Option Value)
  | [], _ => []
  | _ :: _, [] => []
  | a :: l, b :: r => (if b then a else none) :: zmask l r
theorem zmask_at : ∀ (lv : List (Option Value)) (mk : List Bool) (i : Nat) (v : Value), (zmask lv mk)[i]? = some (some v) → lv[i]? = some (some v)
  | [], _, i, v, h => by simp [zmask] at h
  | _ :: _, [], i, v, h => by simp [zmask] at h
  | a :: l, b :: r, 0, v, h => by
    cases b with
    | true => simpa [zmask] using h
    | false => simp [zmask] at h
  | a :: l, b :: r, i + 1, v, h => by
    have h' : (zmask l r)[i]? = some (some v) := by simpa [zmask] using h
    simpa using zmask_at l r i v h'
/-! the judgement -/
def zO (E : zG) (Γ : zX) (own : String) (cc : ByteArray) (nL : Nat) (ret : Option FieldType) : Prop :=
  match Γ with
  | (p, _, s, m, args, _, meth, c) => p.tables.exec = Jvm.exec ∧ c.code = cc ∧ c.maxLocals = nL ∧ meth.sig.returnType = ret ∧ s.vm.findClass own = some m.cls ∧ (∀ w ∈ lw_good, w.before args s = true) ∧ zK E s ∧ zAp E ∧ meth.locks = false
def zJg (E : zG) (Γ : zX) (R : Room) (nL : Nat) {ρ : Type} (Q : ρ × zS → State → Prop) (cx sx : Nat) (P : Option (ρ × zS)) (σ : zS) (pc : Nat) (lv : List (Option Value)) (st : List Value) : Prop :=
  match Γ with
  | (p, e, s, m, args, below, meth, c) => ∀ z : ρ × zS, P = some z → ∀ (H : Heap) (locs : List Loc) (ls : Array Slot), va_P (zD E) z_cl (zW E σ) H → va_S (zA E) s.heap H locs → zL ls nL lv → W p (zl E) e R s m args below meth c H locs cx sx (Q z) (F0 m pc ls st)
/-- the end of a method that makes nothing -/
def zQm (E : zG) (Γ : zX) {ρ : Type} (rv : ρ → Option Value) : ρ × zS → State → Prop := fun z => match Γ with
  | (_, _, s, _, args, below, _, _) => MQ below (zQ E (rv z.1) z.2) args s 0 0 (zA E)
abbrev zJ (E : zG) (Γ : zX) (R : Room) (nL : Nat) {ρ : Type} (rv : ρ → Option Value) (P : Option (ρ × zS)) (σ : zS) (pc : Nat) (lv : List (Option Value)) (st : List Value) : Prop := zJg E Γ R nL (zQm E Γ rv) 0 0 P σ pc lv st
def zrf (E : zG) (b : Nat) (r : Option Nat) : Option Value := some (match r with
  | none => .null
  | some i => .ref (zad E (b + 2 * i)))
theorem zO.ap {E : zG} {Γ : zX} {own : String} {cc : ByteArray} {nL : Nat} {ret : Option FieldType} (C : zO E Γ own cc nL ret) : zAp E := by
  obtain ⟨p, e, s, m, args, below, meth, c⟩ := Γ
  obtain ⟨hx, hb, hml, hr, hown, hts, hK, hAp, hlk⟩ := C
  exact hAp

