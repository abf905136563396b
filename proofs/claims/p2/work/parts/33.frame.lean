/-! which cells a program changes: those from lo to hi alone -/
def zAg (lo hi : Nat) (σ0 σ : zS) : Prop := ∀ k, k < lo ∨ hi ≤ k → σ k = σ0 k
def zFr (lo hi : Nat) (σ0 : zS) {ρ : Type} (P : Option (ρ × zS)) : Prop := ∀ z, P = some z → zAg lo hi σ0 z.2
theorem zAg.rf {lo hi : Nat} {σ : zS} : zAg lo hi σ σ := fun _ _ => rfl
theorem zAg.tr {lo hi : Nat} {σ0 σ1 σ2 : zS} (h : zAg lo hi σ0 σ1) (h2 : zAg lo hi σ1 σ2) : zAg lo hi σ0 σ2 := fun k hk => (h2 k hk).trans (h k hk)
section zFrames
variable {lo hi : Nat} {σ0 σ : zS} {ρ : Type}
theorem fr_none : zFr lo hi σ0 (none : Option (ρ × zS)) := fun z hz => by cases hz
theorem fr_some {r : ρ} (h : zAg lo hi σ0 σ) : zFr lo hi σ0 (some (r, σ)) := fun z hz => by cases hz; exact h
theorem fr_if {c : Prop} [Decidable c] {P1 P2 : Option (ρ × zS)} (h1 : zFr lo hi σ0 P1) (h2 : zFr lo hi σ0 P2) : zFr lo hi σ0 (if c then P1 else P2) := by
  by_cases h : c
  · rw [if_pos h]; exact h1
  · rw [if_neg h]; exact h2
theorem fr_zc {i : Int32} {n : Nat} {P : Option (ρ × zS)} (h : i.toNatClampNeg < n → zFr lo hi σ0 P) : zFr lo hi σ0 (zc i n P) := fun z hz => by
  obtain ⟨h0, hz⟩ := zc_some hz
  exact h (Nat.not_le.mp fun q => h0 (Or.inr q)) z hz
theorem fr_zd {y : Int32} {P : Option (ρ × zS)} (h : zFr lo hi σ0 P) : zFr lo hi σ0 (zd y P) := fun z hz => h z (zd_some hz).2
theorem fr_zcp {a b c : Int32} {n m : Nat} {P : Option (ρ × zS)} (h : zFr lo hi σ0 P) : zFr lo hi σ0 (zcp a b c n m P) := fun z hz => h z (zcp_some hz).2.2.2.2.2
theorem fr_zr {i : Nat} {f : Nat → Int32} {K : zS → Option (ρ × zS)} (h : zAg lo hi σ0 σ) (hb : lo ≤ i ∧ i < hi) (k : ∀ σ1, zAg lo hi σ0 σ1 → zFr lo hi σ0 (K σ1)) : zFr lo hi σ0 (zlet (zr σ i f) K) :=
  k _ (fun j hj => (zr_ne σ f (by omega)).trans (h j hj))
theorem fr_zu {i j : Nat} {x : Int32} {K : zS → Option (ρ × zS)} (h : zAg lo hi σ0 σ) (hb : lo ≤ i ∧ i < hi) (k : ∀ σ1, zAg lo hi σ0 σ1 → zFr lo hi σ0 (K σ1)) : zFr lo hi σ0 (zlet (zu σ i j x) K) := fr_zr h hb k
theorem fr_leti {a : Int32} {K : Int32 → Option (ρ × zS)} (k : ∀ v, zFr lo hi σ0 (K v)) : zFr lo hi σ0 (zlet a K) := k a
theorem fr_bind {α : Type} {q : Option (α × zS)} {K : α → zS → Option (ρ × zS)} (h : zAg lo hi σ0 σ) (hq : zFr lo hi σ q) (k : ∀ r σ1, zAg lo hi σ0 σ1 → zFr lo hi σ0 (K r σ1)) : zFr lo hi σ0 (zbind q K) := fun z hz => by
  obtain ⟨r, σ1, hq2, hz⟩ := zb_some hz
  exact k r σ1 (h.tr (hq _ hq2)) z hz
theorem fr_op {r : Option Nat} {N : Nat} {P : Option (ρ × zS)} {K : Nat → Option (ρ × zS)} (h1 : zFr lo hi σ0 P) (h2 : ∀ i, i < N → zFr lo hi σ0 (K i)) : zFr lo hi σ0 (zop r N P K) := by
  cases r with
  | none => exact h1
  | some i =>
    show zFr lo hi σ0 (if i < N then K i else none)
    by_cases h : i < N
    · rw [if_pos h]; exact h2 i h
    · rw [if_neg h]; exact fr_none
theorem fr_tr {P : Option (ρ × zS)} (h : zAg lo hi σ0 σ) (hf : zFr lo hi σ P) : zFr lo hi σ0 P := fun z hz => h.tr (hf z hz)
end zFrames
theorem fr_X0_record (p0 : Int32) (σ : zS) : zFr 0 45 σ (f_X0_record p0 σ) := by
   unfold f_X0_record
   have h0 : zAg 0 45 σ σ := zAg.rf
   repeat' first
    | with_reducible exact fr_none
    | with_reducible exact fr_some (by assumption)
    | with_reducible refine fr_if ?_ ?_
    | with_reducible refine fr_zc (fun _ => ?_)
    | with_reducible refine fr_zd ?_
    | with_reducible refine fr_zcp ?_
    | with_reducible refine fr_zu (by assumption) (by first | decide | omega) (fun _ _ => ?_)
    | with_reducible refine fr_zr (by assumption) (by first | decide | omega) (fun _ _ => ?_)
    | with_reducible refine fr_op ?_ (fun _ _ => ?_)
    | with_reducible refine fr_leti (fun _ => ?_)
theorem fr_X0_nextOfSeed  (σ : zS) : zFr 0 45 σ (f_X0_nextOfSeed  σ) := by
   unfold f_X0_nextOfSeed
   have h0 : zAg 0 45 σ σ := zAg.rf
   repeat' first
    | with_reducible exact fr_none
    | with_reducible exact fr_some (by assumption)
    | with_reducible refine fr_if ?_ ?_
    | with_reducible refine fr_zc (fun _ => ?_)
    | with_reducible refine fr_zd ?_
    | with_reducible refine fr_zcp ?_
    | with_reducible refine fr_zu (by assumption) (by first | decide | omega) (fun _ _ => ?_)
    | with_reducible refine fr_zr (by assumption) (by first | decide | omega) (fun _ _ => ?_)
    | with_reducible refine fr_op ?_ (fun _ _ => ?_)
    | with_reducible refine fr_leti (fun _ => ?_)
theorem fr_X0_nextOfTape  (σ : zS) : zFr 0 45 σ (f_X0_nextOfTape  σ) := by
   unfold f_X0_nextOfTape
   have h0 : zAg 0 45 σ σ := zAg.rf
   repeat' first
    | with_reducible exact fr_none
    | with_reducible exact fr_some (by assumption)
    | with_reducible refine fr_if ?_ ?_
    | with_reducible refine fr_zc (fun _ => ?_)
    | with_reducible refine fr_zd ?_
    | with_reducible refine fr_zcp ?_
    | with_reducible refine fr_zu (by assumption) (by first | decide | omega) (fun _ _ => ?_)
    | with_reducible refine fr_zr (by assumption) (by first | decide | omega) (fun _ _ => ?_)
    | with_reducible refine fr_op ?_ (fun _ _ => ?_)
    | with_reducible refine fr_leti (fun _ => ?_)
theorem fr_X0_nextOfCount  (σ : zS) : zFr 0 45 σ (f_X0_nextOfCount  σ) := by
   unfold f_X0_nextOfCount
   have h0 : zAg 0 45 σ σ := zAg.rf
   repeat' first
    | with_reducible exact fr_none
    | with_reducible exact fr_some (by assumption)
    | with_reducible refine fr_if ?_ ?_
    | with_reducible refine fr_zc (fun _ => ?_)
    | with_reducible refine fr_zd ?_
    | with_reducible refine fr_zcp ?_
    | with_reducible refine fr_zu (by assumption) (by first | decide | omega) (fun _ _ => ?_)
    | with_reducible refine fr_zr (by assumption) (by first | decide | omega) (fun _ _ => ?_)
    | with_reducible refine fr_op ?_ (fun _ _ => ?_)
    | with_reducible refine fr_leti (fun _ => ?_)
theorem fr_X0_next  (σ : zS) : zFr 0 45 σ (f_X0_next  σ) := by
   unfold f_X0_next
   have h0 : zAg 0 45 σ σ := zAg.rf
   repeat' first
    | with_reducible exact fr_none
    | with_reducible exact fr_some (by assumption)
    | with_reducible refine fr_if ?_ ?_
    | with_reducible refine fr_zc (fun _ => ?_)
    | with_reducible refine fr_zd ?_
    | with_reducible refine fr_zcp ?_
    | with_reducible refine fr_zu (by assumption) (by first | decide | omega) (fun _ _ => ?_)
    | with_reducible refine fr_zr (by assumption) (by first | decide | omega) (fun _ _ => ?_)
    | with_reducible refine fr_bind (by assumption) (fr_X0_nextOfSeed  _) (fun _ _ _ => ?_)
    | with_reducible refine fr_bind (by assumption) (fr_X0_nextOfTape  _) (fun _ _ _ => ?_)
    | with_reducible refine fr_bind (by assumption) (fr_X0_nextOfCount  _) (fun _ _ _ => ?_)
    | with_reducible refine fr_op ?_ (fun _ _ => ?_)
    | with_reducible refine fr_leti (fun _ => ?_)
theorem fr_X0_draw (p0 : Int32) (σ : zS) : zFr 0 45 σ (f_X0_draw p0 σ) := by
   unfold f_X0_draw
   have h0 : zAg 0 45 σ σ := zAg.rf
   repeat' first
    | with_reducible exact fr_none
    | with_reducible exact fr_some (by assumption)
    | with_reducible refine fr_if ?_ ?_
    | with_reducible refine fr_zc (fun _ => ?_)
    | with_reducible refine fr_zd ?_
    | with_reducible refine fr_zcp ?_
    | with_reducible refine fr_zu (by assumption) (by first | decide | omega) (fun _ _ => ?_)
    | with_reducible refine fr_zr (by assumption) (by first | decide | omega) (fun _ _ => ?_)
    | with_reducible refine fr_bind (by assumption) (fr_X0_next  _) (fun _ _ _ => ?_)
    | with_reducible refine fr_op ?_ (fun _ _ => ?_)
    | with_reducible refine fr_leti (fun _ => ?_)
theorem fr_X1_hasLocal (i : Nat) (hi : i < 12) (p0 : Int32) (σ : zS) : zFr 0 45 σ (f_X1_hasLocal i p0 σ) := by
   unfold f_X1_hasLocal
   have h0 : zAg 0 45 σ σ := zAg.rf
   repeat' first
    | with_reducible exact fr_none
    | with_reducible exact fr_some (by assumption)
    | with_reducible refine fr_if ?_ ?_
    | with_reducible refine fr_zc (fun _ => ?_)
    | with_reducible refine fr_zd ?_
    | with_reducible refine fr_zcp ?_
    | with_reducible refine fr_zu (by assumption) (by first | decide | omega) (fun _ _ => ?_)
    | with_reducible refine fr_zr (by assumption) (by first | decide | omega) (fun _ _ => ?_)
    | with_reducible refine fr_op ?_ (fun _ _ => ?_)
    | with_reducible refine fr_leti (fun _ => ?_)
theorem fr_X1_local (i : Nat) (hi : i < 12) (p0 : Int32) (σ : zS) : zFr 0 45 σ (f_X1_local i p0 σ) := by
   unfold f_X1_local
   have h0 : zAg 0 45 σ σ := zAg.rf
   repeat' first
    | with_reducible exact fr_none
    | with_reducible exact fr_some (by assumption)
    | with_reducible refine fr_if ?_ ?_
    | with_reducible refine fr_zc (fun _ => ?_)
    | with_reducible refine fr_zd ?_
    | with_reducible refine fr_zcp ?_
    | with_reducible refine fr_zu (by assumption) (by first | decide | omega) (fun _ _ => ?_)
    | with_reducible refine fr_zr (by assumption) (by first | decide | omega) (fun _ _ => ?_)
    | with_reducible refine fr_bind (by assumption) (fr_X1_hasLocal _ (by first | assumption | omega) _ _) (fun _ _ _ => ?_)
    | with_reducible refine fr_op ?_ (fun _ _ => ?_)
    | with_reducible refine fr_leti (fun _ => ?_)
theorem fr_X1_setLocal (i : Nat) (hi : i < 12) (p0 : Int32) (p1 : Int32) (σ : zS) : zFr 0 45 σ (f_X1_setLocal i p0 p1 σ) := by
   unfold f_X1_setLocal
   have h0 : zAg 0 45 σ σ := zAg.rf
   repeat' first
    | with_reducible exact fr_none
    | with_reducible exact fr_some (by assumption)
    | with_reducible refine fr_if ?_ ?_
    | with_reducible refine fr_zc (fun _ => ?_)
    | with_reducible refine fr_zd ?_
    | with_reducible refine fr_zcp ?_
    | with_reducible refine fr_zu (by assumption) (by first | decide | omega) (fun _ _ => ?_)
    | with_reducible refine fr_zr (by assumption) (by first | decide | omega) (fun _ _ => ?_)
    | with_reducible refine fr_bind (by assumption) (fr_X1_hasLocal _ (by first | assumption | omega) _ _) (fun _ _ _ => ?_)
    | with_reducible refine fr_op ?_ (fun _ _ => ?_)
    | with_reducible refine fr_leti (fun _ => ?_)
theorem fr_X2_begin  (σ : zS) : zFr 0 45 σ (f_X2_begin  σ) := by
   unfold f_X2_begin
   have h0 : zAg 0 45 σ σ := zAg.rf
   repeat' first
    | with_reducible exact fr_none
    | with_reducible exact fr_some (by assumption)
    | with_reducible refine fr_if ?_ ?_
    | with_reducible refine fr_zc (fun _ => ?_)
    | with_reducible refine fr_zd ?_
    | with_reducible refine fr_zcp ?_
    | with_reducible refine fr_zu (by assumption) (by first | decide | omega) (fun _ _ => ?_)
    | with_reducible refine fr_zr (by assumption) (by first | decide | omega) (fun _ _ => ?_)
    | with_reducible refine fr_op ?_ (fun _ _ => ?_)
    | with_reducible refine fr_leti (fun _ => ?_)
theorem fr_X2_top  (σ : zS) : zFr 0 45 σ (f_X2_top  σ) := by
   unfold f_X2_top
   have h0 : zAg 0 45 σ σ := zAg.rf
   repeat' first
    | with_reducible exact fr_none
    | with_reducible exact fr_some (by assumption)
    | with_reducible refine fr_if ?_ ?_
    | with_reducible refine fr_zc (fun _ => ?_)
    | with_reducible refine fr_zd ?_
    | with_reducible refine fr_zcp ?_
    | with_reducible refine fr_zu (by assumption) (by first | decide | omega) (fun _ _ => ?_)
    | with_reducible refine fr_zr (by assumption) (by first | decide | omega) (fun _ _ => ?_)
    | with_reducible refine fr_op ?_ (fun _ _ => ?_)
    | with_reducible refine fr_leti (fun _ => ?_)
theorem fr_X2_enter  (σ : zS) : zFr 0 45 σ (f_X2_enter  σ) := by
   unfold f_X2_enter
   have h0 : zAg 0 45 σ σ := zAg.rf
   repeat' first
    | with_reducible exact fr_none
    | with_reducible exact fr_some (by assumption)
    | with_reducible refine fr_if ?_ ?_
    | with_reducible refine fr_zc (fun _ => ?_)
    | with_reducible refine fr_zd ?_
    | with_reducible refine fr_zcp ?_
    | with_reducible refine fr_zu (by assumption) (by first | decide | omega) (fun _ _ => ?_)
    | with_reducible refine fr_zr (by assumption) (by first | decide | omega) (fun _ _ => ?_)
    | with_reducible refine fr_op ?_ (fun _ _ => ?_)
    | with_reducible refine fr_leti (fun _ => ?_)
theorem fr_X2_leave  (σ : zS) : zFr 0 45 σ (f_X2_leave  σ) := by
   unfold f_X2_leave
   have h0 : zAg 0 45 σ σ := zAg.rf
   repeat' first
    | with_reducible exact fr_none
    | with_reducible exact fr_some (by assumption)
    | with_reducible refine fr_if ?_ ?_
    | with_reducible refine fr_zc (fun _ => ?_)
    | with_reducible refine fr_zd ?_
    | with_reducible refine fr_zcp ?_
    | with_reducible refine fr_zu (by assumption) (by first | decide | omega) (fun _ _ => ?_)
    | with_reducible refine fr_zr (by assumption) (by first | decide | omega) (fun _ _ => ?_)
    | with_reducible refine fr_op ?_ (fun _ _ => ?_)
    | with_reducible refine fr_leti (fun _ => ?_)
theorem fr_X2_pop  (σ : zS) : zFr 0 45 σ (f_X2_pop  σ) := by
   unfold f_X2_pop
   have h0 : zAg 0 45 σ σ := zAg.rf
   repeat' first
    | with_reducible exact fr_none
    | with_reducible exact fr_some (by assumption)
    | with_reducible refine fr_if ?_ ?_
    | with_reducible refine fr_zc (fun _ => ?_)
    | with_reducible refine fr_zd ?_
    | with_reducible refine fr_zcp ?_
    | with_reducible refine fr_zu (by assumption) (by first | decide | omega) (fun _ _ => ?_)
    | with_reducible refine fr_zr (by assumption) (by first | decide | omega) (fun _ _ => ?_)
    | with_reducible refine fr_bind (by assumption) (fr_X2_top  _) (fun _ _ _ => ?_)
    | with_reducible refine fr_op ?_ (fun _ _ => ?_)
    | with_reducible refine fr_leti (fun _ => ?_)
theorem fr_X2_push (p0 : Int32) (σ : zS) : zFr 0 45 σ (f_X2_push p0 σ) := by
   unfold f_X2_push
   have h0 : zAg 0 45 σ σ := zAg.rf
   repeat' first
    | with_reducible exact fr_none
    | with_reducible exact fr_some (by assumption)
    | with_reducible refine fr_if ?_ ?_
    | with_reducible refine fr_zc (fun _ => ?_)
    | with_reducible refine fr_zd ?_
    | with_reducible refine fr_zcp ?_
    | with_reducible refine fr_zu (by assumption) (by first | decide | omega) (fun _ _ => ?_)
    | with_reducible refine fr_zr (by assumption) (by first | decide | omega) (fun _ _ => ?_)
    | with_reducible refine fr_op ?_ (fun _ _ => ?_)
    | with_reducible refine fr_leti (fun _ => ?_)
theorem fr_X3_begin (p0 : Int32) (p1 : Int32) (σ : zS) : zFr 0 45 σ (f_X3_begin p0 p1 σ) := by
   unfold f_X3_begin
   have h0 : zAg 0 45 σ σ := zAg.rf
   repeat' first
    | with_reducible exact fr_none
    | with_reducible exact fr_some (by assumption)
    | with_reducible refine fr_if ?_ ?_
    | with_reducible refine fr_zc (fun _ => ?_)
    | with_reducible refine fr_zd ?_
    | with_reducible refine fr_zcp ?_
    | with_reducible refine fr_zu (by assumption) (by first | decide | omega) (fun _ _ => ?_)
    | with_reducible refine fr_zr (by assumption) (by first | decide | omega) (fun _ _ => ?_)
    | with_reducible refine fr_op ?_ (fun _ _ => ?_)
    | with_reducible refine fr_leti (fun _ => ?_)
theorem fr_X3_isOutside (p0 : Int32) (σ : zS) : zFr 0 45 σ (f_X3_isOutside p0 σ) := by
   unfold f_X3_isOutside
   have h0 : zAg 0 45 σ σ := zAg.rf
   repeat' first
    | with_reducible exact fr_none
    | with_reducible exact fr_some (by assumption)
    | with_reducible refine fr_if ?_ ?_
    | with_reducible refine fr_zc (fun _ => ?_)
    | with_reducible refine fr_zd ?_
    | with_reducible refine fr_zcp ?_
    | with_reducible refine fr_zu (by assumption) (by first | decide | omega) (fun _ _ => ?_)
    | with_reducible refine fr_zr (by assumption) (by first | decide | omega) (fun _ _ => ?_)
    | with_reducible refine fr_op ?_ (fun _ _ => ?_)
    | with_reducible refine fr_leti (fun _ => ?_)
theorem fr_X3_byteAt (p0 : Int32) (σ : zS) : zFr 0 45 σ (f_X3_byteAt p0 σ) := by
   unfold f_X3_byteAt
   have h0 : zAg 0 45 σ σ := zAg.rf
   repeat' first
    | with_reducible exact fr_none
    | with_reducible exact fr_some (by assumption)
    | with_reducible refine fr_if ?_ ?_
    | with_reducible refine fr_zc (fun _ => ?_)
    | with_reducible refine fr_zd ?_
    | with_reducible refine fr_zcp ?_
    | with_reducible refine fr_zu (by assumption) (by first | decide | omega) (fun _ _ => ?_)
    | with_reducible refine fr_zr (by assumption) (by first | decide | omega) (fun _ _ => ?_)
    | with_reducible refine fr_bind (by assumption) (fr_X3_isOutside _ _) (fun _ _ _ => ?_)
    | with_reducible refine fr_op ?_ (fun _ _ => ?_)
    | with_reducible refine fr_leti (fun _ => ?_)
theorem fr_X3_wordAt (p0 : Int32) (σ : zS) : zFr 0 45 σ (f_X3_wordAt p0 σ) := by
   unfold f_X3_wordAt
   have h0 : zAg 0 45 σ σ := zAg.rf
   repeat' first
    | with_reducible exact fr_none
    | with_reducible exact fr_some (by assumption)
    | with_reducible refine fr_if ?_ ?_
    | with_reducible refine fr_zc (fun _ => ?_)
    | with_reducible refine fr_zd ?_
    | with_reducible refine fr_zcp ?_
    | with_reducible refine fr_zu (by assumption) (by first | decide | omega) (fun _ _ => ?_)
    | with_reducible refine fr_zr (by assumption) (by first | decide | omega) (fun _ _ => ?_)
    | with_reducible refine fr_bind (by assumption) (fr_X3_isOutside _ _) (fun _ _ _ => ?_)
    | with_reducible refine fr_op ?_ (fun _ _ => ?_)
    | with_reducible refine fr_leti (fun _ => ?_)
theorem fr_X3_setByte (p0 : Int32) (p1 : Int32) (p2 : Int32) (σ : zS) : zFr 0 45 σ (f_X3_setByte p0 p1 p2 σ) := by
   unfold f_X3_setByte
   have h0 : zAg 0 45 σ σ := zAg.rf
   repeat' first
    | with_reducible exact fr_none
    | with_reducible exact fr_some (by assumption)
    | with_reducible refine fr_if ?_ ?_
    | with_reducible refine fr_zc (fun _ => ?_)
    | with_reducible refine fr_zd ?_
    | with_reducible refine fr_zcp ?_
    | with_reducible refine fr_zu (by assumption) (by first | decide | omega) (fun _ _ => ?_)
    | with_reducible refine fr_zr (by assumption) (by first | decide | omega) (fun _ _ => ?_)
    | with_reducible refine fr_bind (by assumption) (fr_X3_isOutside _ _) (fun _ _ _ => ?_)
    | with_reducible refine fr_op ?_ (fun _ _ => ?_)
    | with_reducible refine fr_leti (fun _ => ?_)
