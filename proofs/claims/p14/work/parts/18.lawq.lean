/-! the law's walk -/
def zQL (Γ : zX) : Int32 × zS → State → Prop := fun z => match Γ with
  | (_, _, s, _, args, below, _, _) => if z.1 = 1 then lw_Z below args s else fun _ => True
def zSb (E : zG) (Γ : zX) (b : Nat) : Prop := match Γ with
  | (_, _, s, _, args, _, _, _) => args = #[Value.ref b] ∧ zZ E = s.heap.size ∧ (Cond.initialized RL).before args s = true
theorem zSb.ini {E : zG} {Γ : zX} {b : Nat} (h : zSb E Γ b) : (match Γ with | (_, _, s, _, args, _, _, _) => (Cond.initialized RL).before args s = true) := by
  obtain ⟨p, e, s, m, args, below, meth, c⟩ := Γ
  exact h.2.2
theorem r_lawY {E : zG} {Γ : zX} {cx sx : Nat} {σ : zS} {pc b : Nat} {lv : List (Option Value)} (C : zO E Γ RL code 7 ret) (S : zSb E Γ b) (hc : cx ≤ 601024) (hs : sx ≤ 7293034) (hd : decode code pc = .ok (.ireturn, 1)) : zJg E Γ room_1 7 (zQL Γ) cx sx (some ((1 : Int32), σ)) σ pc lv [.int (1 : Int32)] := by
  obtain ⟨p, e, s, m, args, below, meth, c⟩ := Γ
  obtain ⟨hx, hb, hml, hr, hown, hts, hK, hAp, hlk⟩ := C
  obtain ⟨rfl, hZ, -⟩ := S
  intro z hz H locs ls hP hS hl
  cases hz
  show W p (zl E) e room_1 s m #[Value.ref b] below meth c H locs cx sx (if (1 : Int32) = 1 then lw_Z below #[Value.ref b] s else fun _ => True) (F0 m pc ls [.int 1])
  rw [if_pos rfl]
  refine va_forget (fun q hq => by rw [← hZ]; exact hS.2.2 q hq) ?_
  refine W.widen (k := 601024) (n := 7293034) hc hs ?_
  exact lw_ret hx hb hr hlk hd
theorem r_lawN {E : zG} {Γ : zX} {cx sx : Nat} {σ : zS} {pc : Nat} {lv : List (Option Value)} {st : List Value} : zJg E Γ room_1 7 (zQL Γ) cx sx (some ((0 : Int32), σ)) σ pc lv st := by
  obtain ⟨p, e, s, m, args, below, meth, c⟩ := Γ
  intro z hz H locs ls hP hS hl
  cases hz
  show W p (zl E) e room_1 s m args below meth c H locs cx sx (if (0 : Int32) = 1 then lw_Z below args s else fun _ => True) (F0 m pc ls st)
  rw [if_neg (by decide)]
  exact fun T _ _ => ⟨_, Steps.refl _, trivial⟩

def f_L_law_L23 (xs : Nat → Int32) (L : Nat) : Nat → Int32 → zS → Option (Int32 × zS)
  | 0, _, _ => none
  | n + 1, x4, σ => if ((Int32.ofNat L) - (6 : Int32)) < x4 then (some ((1 : Int32), σ)) else (zc x4 L (if ((xs (x4).toNatClampNeg) &&& (31 : Int32)) = (0 : Int32) then (zc (x4 + (1 : Int32)) L (zc (x4 + (2 : Int32)) L (zbind (f_X7_size (xs ((x4 + (1 : Int32))).toNatClampNeg) (xs ((x4 + (2 : Int32))).toNatClampNeg) σ) fun v1 s1 => zc (x4 + (1 : Int32)) L (zc (x4 + (2 : Int32)) L (zbind (f_X8_size (xs ((x4 + (1 : Int32))).toNatClampNeg) (xs ((x4 + (2 : Int32))).toNatClampNeg) s1) fun v2 s2 => f_L_law_L23 xs L n (x4 + (6 : Int32)) s2))))) else (if ((xs (x4).toNatClampNeg) &&& (31 : Int32)) = (1 : Int32) then (zc (x4 + (1 : Int32)) L (zc (x4 + (2 : Int32)) L (zbind (f_X7_get (xs ((x4 + (1 : Int32))).toNatClampNeg) (if (xs ((x4 + (2 : Int32))).toNatClampNeg) = 0 then (0 : Int32) else 1) σ) fun v3 s3 => zc (x4 + (1 : Int32)) L (zc (x4 + (2 : Int32)) L (zbind (f_X8_get (xs ((x4 + (1 : Int32))).toNatClampNeg) (if (xs ((x4 + (2 : Int32))).toNatClampNeg) = 0 then (0 : Int32) else 1) s3) fun v4 s4 => f_L_law_L23 xs L n (x4 + (6 : Int32)) s4))))) else (if ((xs (x4).toNatClampNeg) &&& (31 : Int32)) = (2 : Int32) then (zc (x4 + (1 : Int32)) L (zc (x4 + (2 : Int32)) L (zc (x4 + (3 : Int32)) L (zc (x4 + (4 : Int32)) L (zbind (f_X7_put (xs ((x4 + (1 : Int32))).toNatClampNeg) (xs ((x4 + (2 : Int32))).toNatClampNeg) (if (xs ((x4 + (3 : Int32))).toNatClampNeg) = 0 then (0 : Int32) else 1) (if (xs ((x4 + (4 : Int32))).toNatClampNeg) = 0 then (0 : Int32) else 1) σ) fun v5 s5 => zc (x4 + (1 : Int32)) L (zc (x4 + (2 : Int32)) L (zc (x4 + (3 : Int32)) L (zc (x4 + (4 : Int32)) L (zbind (f_X8_put (xs ((x4 + (1 : Int32))).toNatClampNeg) (xs ((x4 + (2 : Int32))).toNatClampNeg) (if (xs ((x4 + (3 : Int32))).toNatClampNeg) = 0 then (0 : Int32) else 1) (if (xs ((x4 + (4 : Int32))).toNatClampNeg) = 0 then (0 : Int32) else 1) s5) fun v6 s6 => f_L_law_L23 xs L n (x4 + (6 : Int32)) s6))))))))) else (if ((xs (x4).toNatClampNeg) &&& (31 : Int32)) = (3 : Int32) then (zc (x4 + (1 : Int32)) L (zc (x4 + (2 : Int32)) L (zc (x4 + (3 : Int32)) L (zbind (f_L_work (xs ((x4 + (1 : Int32))).toNatClampNeg) (xs ((x4 + (2 : Int32))).toNatClampNeg) (xs ((x4 + (3 : Int32))).toNatClampNeg) σ) fun v7 s7 => zc (x4 + (1 : Int32)) L (zc (x4 + (2 : Int32)) L (zc (x4 + (3 : Int32)) L (zbind (f_X8_work (xs ((x4 + (1 : Int32))).toNatClampNeg) (xs ((x4 + (2 : Int32))).toNatClampNeg) (xs ((x4 + (3 : Int32))).toNatClampNeg) s7) fun v8 s8 => f_L_law_L23 xs L n (x4 + (6 : Int32)) s8))))))) else (if ((xs (x4).toNatClampNeg) &&& (31 : Int32)) = (4 : Int32) then (zc (x4 + (1 : Int32)) L (zc (x4 + (2 : Int32)) L (zc (x4 + (3 : Int32)) L (zbind (f_X7_copy (xs ((x4 + (1 : Int32))).toNatClampNeg) (xs ((x4 + (2 : Int32))).toNatClampNeg) (xs ((x4 + (3 : Int32))).toNatClampNeg) σ) fun v9 s9 => zc (x4 + (1 : Int32)) L (zc (x4 + (2 : Int32)) L (zc (x4 + (3 : Int32)) L (zbind (f_X8_copy (xs ((x4 + (1 : Int32))).toNatClampNeg) (xs ((x4 + (2 : Int32))).toNatClampNeg) (xs ((x4 + (3 : Int32))).toNatClampNeg) s9) fun v10 s10 => f_L_law_L23 xs L n (x4 + (6 : Int32)) s10))))))) else (if ((xs (x4).toNatClampNeg) &&& (31 : Int32)) = (5 : Int32) then (zc (x4 + (1 : Int32)) L (zc (x4 + (2 : Int32)) L (zc (x4 + (3 : Int32)) L (zc (x4 + (4 : Int32)) L (zbind (f_X7_look (xs ((x4 + (1 : Int32))).toNatClampNeg) (xs ((x4 + (2 : Int32))).toNatClampNeg) (xs ((x4 + (3 : Int32))).toNatClampNeg) (xs ((x4 + (4 : Int32))).toNatClampNeg) σ) fun v11 s11 => zc (x4 + (1 : Int32)) L (zc (x4 + (2 : Int32)) L (zc (x4 + (3 : Int32)) L (zc (x4 + (4 : Int32)) L (zbind (f_X8_look (xs ((x4 + (1 : Int32))).toNatClampNeg) (xs ((x4 + (2 : Int32))).toNatClampNeg) (xs ((x4 + (3 : Int32))).toNatClampNeg) (xs ((x4 + (4 : Int32))).toNatClampNeg) s11) fun v12 s12 => f_L_law_L23 xs L n (x4 + (6 : Int32)) s12))))))))) else (if ((xs (x4).toNatClampNeg) &&& (31 : Int32)) = (6 : Int32) then (zc (x4 + (1 : Int32)) L (zbind (f_X7_random (xs ((x4 + (1 : Int32))).toNatClampNeg) σ) fun v13 s13 => zc (x4 + (1 : Int32)) L (zbind (f_X8_random (xs ((x4 + (1 : Int32))).toNatClampNeg) s13) fun v14 s14 => f_L_law_L23 xs L n (x4 + (6 : Int32)) s14))) else (if ((xs (x4).toNatClampNeg) &&& (31 : Int32)) = (7 : Int32) then (zc (x4 + (1 : Int32)) L (zbind (f_X7_tape (xs ((x4 + (1 : Int32))).toNatClampNeg) σ) fun v15 s15 => zc (x4 + (1 : Int32)) L (zbind (f_X8_tape (xs ((x4 + (1 : Int32))).toNatClampNeg) s15) fun v16 s16 => f_L_law_L23 xs L n (x4 + (6 : Int32)) s16))) else (if ((xs (x4).toNatClampNeg) &&& (31 : Int32)) = (8 : Int32) then (zc (x4 + (1 : Int32)) L (zbind (f_X7_globe (xs ((x4 + (1 : Int32))).toNatClampNeg) σ) fun v17 s17 => zc (x4 + (1 : Int32)) L (zbind (f_X8_globe (xs ((x4 + (1 : Int32))).toNatClampNeg) s17) fun v18 s18 => f_L_law_L23 xs L n (x4 + (6 : Int32)) s18))) else (if ((xs (x4).toNatClampNeg) &&& (31 : Int32)) = (9 : Int32) then (zc (x4 + (1 : Int32)) L (zbind (f_X7_form (xs ((x4 + (1 : Int32))).toNatClampNeg) σ) fun v19 s19 => zc (x4 + (1 : Int32)) L (zbind (f_X8_form (xs ((x4 + (1 : Int32))).toNatClampNeg) s19) fun v20 s20 => f_L_law_L23 xs L n (x4 + (6 : Int32)) s20))) else (if ((xs (x4).toNatClampNeg) &&& (31 : Int32)) = (10 : Int32) then (zc (x4 + (1 : Int32)) L (zc (x4 + (2 : Int32)) L (zc (x4 + (3 : Int32)) L (zc (x4 + (4 : Int32)) L (zc (x4 + (5 : Int32)) L (zbind (f_X7_instruction (xs ((x4 + (1 : Int32))).toNatClampNeg) (xs ((x4 + (2 : Int32))).toNatClampNeg) (xs ((x4 + (3 : Int32))).toNatClampNeg) (xs ((x4 + (4 : Int32))).toNatClampNeg) (xs ((x4 + (5 : Int32))).toNatClampNeg) σ) fun v21 s21 => zc (x4 + (1 : Int32)) L (zc (x4 + (2 : Int32)) L (zc (x4 + (3 : Int32)) L (zc (x4 + (4 : Int32)) L (zc (x4 + (5 : Int32)) L (zbind (f_X8_instruction (xs ((x4 + (1 : Int32))).toNatClampNeg) (xs ((x4 + (2 : Int32))).toNatClampNeg) (xs ((x4 + (3 : Int32))).toNatClampNeg) (xs ((x4 + (4 : Int32))).toNatClampNeg) (xs ((x4 + (5 : Int32))).toNatClampNeg) s21) fun v22 s22 => f_L_law_L23 xs L n (x4 + (6 : Int32)) s22))))))))))) else (if ((xs (x4).toNatClampNeg) &&& (31 : Int32)) = (11 : Int32) then (zc (x4 + (1 : Int32)) L (zc (x4 + (2 : Int32)) L (zc (x4 + (3 : Int32)) L (zc (x4 + (4 : Int32)) L (zbind (f_X7_routine (xs ((x4 + (1 : Int32))).toNatClampNeg) (xs ((x4 + (2 : Int32))).toNatClampNeg) (xs ((x4 + (3 : Int32))).toNatClampNeg) (if (xs ((x4 + (4 : Int32))).toNatClampNeg) = 0 then (0 : Int32) else 1) σ) fun v23 s23 => zc (x4 + (1 : Int32)) L (zc (x4 + (2 : Int32)) L (zc (x4 + (3 : Int32)) L (zc (x4 + (4 : Int32)) L (zbind (f_X8_routine (xs ((x4 + (1 : Int32))).toNatClampNeg) (xs ((x4 + (2 : Int32))).toNatClampNeg) (xs ((x4 + (3 : Int32))).toNatClampNeg) (if (xs ((x4 + (4 : Int32))).toNatClampNeg) = 0 then (0 : Int32) else 1) s23) fun v24 s24 => f_L_law_L23 xs L n (x4 + (6 : Int32)) s24))))))))) else (if ((xs (x4).toNatClampNeg) &&& (31 : Int32)) = (12 : Int32) then (zbind (f_X7_clear σ) fun v25 s25 => zbind (f_X8_clear s25) fun v26 s26 => if v25 = v26 then (f_L_law_L23 xs L n (x4 + (6 : Int32)) s26) else (some ((0 : Int32), s26))) else (if ((xs (x4).toNatClampNeg) &&& (31 : Int32)) = (13 : Int32) then (zc (x4 + (1 : Int32)) L (zc (x4 + (2 : Int32)) L (zc (x4 + (3 : Int32)) L (zbind (f_X7_run (xs ((x4 + (1 : Int32))).toNatClampNeg) (xs ((x4 + (2 : Int32))).toNatClampNeg) (xs ((x4 + (3 : Int32))).toNatClampNeg) σ) fun v27 s27 => zc (x4 + (1 : Int32)) L (zc (x4 + (2 : Int32)) L (zc (x4 + (3 : Int32)) L (zbind (f_X8_run (xs ((x4 + (1 : Int32))).toNatClampNeg) (xs ((x4 + (2 : Int32))).toNatClampNeg) (xs ((x4 + (3 : Int32))).toNatClampNeg) s27) fun v28 s28 => f_L_law_L23 xs L n (x4 + (6 : Int32)) s28))))))) else (if ((xs (x4).toNatClampNeg) &&& (31 : Int32)) = (14 : Int32) then (zc (x4 + (1 : Int32)) L (zbind (f_X7_told (xs ((x4 + (1 : Int32))).toNatClampNeg) σ) fun v29 s29 => zc (x4 + (1 : Int32)) L (zbind (f_X8_told (xs ((x4 + (1 : Int32))).toNatClampNeg) s29) fun v30 s30 => f_L_law_L23 xs L n (x4 + (6 : Int32)) s30))) else (if ((xs (x4).toNatClampNeg) &&& (31 : Int32)) = (15 : Int32) then (zc (x4 + (1 : Int32)) L (zbind (f_L_printed (xs ((x4 + (1 : Int32))).toNatClampNeg) σ) fun v31 s31 => zc (x4 + (1 : Int32)) L (zbind (f_X8_printed (xs ((x4 + (1 : Int32))).toNatClampNeg) s31) fun v32 s32 => f_L_law_L23 xs L n (x4 + (6 : Int32)) s32))) else (if ((xs (x4).toNatClampNeg) &&& (31 : Int32)) = (16 : Int32) then (zc (x4 + (1 : Int32)) L (zbind (f_X7_left (xs ((x4 + (1 : Int32))).toNatClampNeg) σ) fun v33 s33 => zc (x4 + (1 : Int32)) L (zbind (f_X8_left (xs ((x4 + (1 : Int32))).toNatClampNeg) s33) fun v34 s34 => f_L_law_L23 xs L n (x4 + (6 : Int32)) s34))) else (f_L_law_L23 xs L n (x4 + (6 : Int32)) σ)))))))))))))))))))
set_option maxHeartbeats 40000000 in
set_option maxRecDepth 100000 in
theorem g_L_law {E : zG} {Γ : zX} {b L : Nat} {xs : Nat → Int32} (C : zO E Γ RL code 7 ret) (S : zSc E Γ b L xs) (SB : zSb E Γ b) : ∀ (n : Nat) (x4 : Int32) (σ : zS) (cx sx : Nat), cx + n ≤ 601024 → sx + 6 * n ≤ 7293034 → zJg E Γ room_1 7 (zQL Γ) cx sx (f_L_law_L23 xs L n x4 σ) σ 23 [some (.ref b), some (.ref (zad E 0)), some (.ref (zad E 45)), some (.ref (zad E 64)), some (.int x4), none, none] [] := by
  intro n
  induction n with
  | zero => intro x4 σ cx sx _ _; rw [f_L_law_L23]; exact r_none
  | succ n ih =>
    intro x4 σ cx sx hcx hsx
    rw [f_L_law_L23]
    refine r_iload (pc := 23) C dL_law_23 rfl ?_
    refine r_aload_n (pc := 25) C dL_law_25 rfl ?_
    refine r_slen (pc := 26) C S dL_law_26 ?_
    refine r_bipush (pc := 27) (v := 6) C dL_law_27 (by decide) ?_
    refine r_isub (pc := 29) C dL_law_29 ?_
    refine r_icmp_gt (pc := 30) (tgt := 865) C dL_law_30 (by decide) (fun _ => ?_) (fun _ => ?_)
    · refine r_iconst (pc := 865) (v := 1) C dL_law_865 (by decide) ?_
      exact r_lawY (pc := 866) C SB (by omega) (by omega) dL_law_866
    · refine r_aload_n (pc := 33) C dL_law_33 rfl ?_
      refine r_iload (pc := 34) C dL_law_34 rfl ?_
      refine r_sld (pc := 36) C S dL_law_36 ?_
      refine r_bipush (pc := 37) (v := 31) C dL_law_37 (by decide) ?_
      refine r_iand (pc := 39) C dL_law_39 ?_
      refine r_split (fun h1 => ?_) (fun h1 => ?_)
      · refine r_tabIn (pc := 40) (v := 0) (tgt := 124) C dL_law_40 h1 (by decide) (by decide) rfl (by decide) ?_
        refine r_aload_n (pc := 124) C dL_law_124 rfl ?_
        refine r_aload_n (pc := 125) C dL_law_125 rfl ?_
        refine r_iload (pc := 126) C dL_law_126 rfl ?_
        refine r_iconst (pc := 128) (v := 1) C dL_law_128 (by decide) ?_
        refine r_iadd (pc := 129) C dL_law_129 ?_
        refine r_sld (pc := 130) C S dL_law_130 ?_
        refine r_aload_n (pc := 131) C dL_law_131 rfl ?_
        refine r_iload (pc := 132) C dL_law_132 rfl ?_
        refine r_iconst (pc := 134) (v := 2) C dL_law_134 (by decide) ?_
        refine r_iadd (pc := 135) C dL_law_135 ?_
        refine r_sld (pc := 136) C S dL_law_136 ?_
        refine r_callV (pc := 137) C 0 (c_X7_size (zO.ap C) _ _ _) lk_c_X7_size lk_i_X7 lk_m_L_27 lk_n_X7_size lk_v_X7_size (n := 2) (by decide +kernel) rfl ⟨rfl, rfl⟩ (by decide) (by decide) rfl rfl rfl (Nat.le_of_ble_eq_true rfl) ⟨by show _ ≤ 601024; omega, by show _ ≤ 7293034; omega⟩ dL_law_137 (fun v1 s1 _ => ?_)
        refine r_pop (pc := 140) C dL_law_140 rfl ?_
        refine r_aload_n (pc := 141) C dL_law_141 rfl ?_
        refine r_aload_n (pc := 142) C dL_law_142 rfl ?_
        refine r_iload (pc := 143) C dL_law_143 rfl ?_
        refine r_iconst (pc := 145) (v := 1) C dL_law_145 (by decide) ?_
        refine r_iadd (pc := 146) C dL_law_146 ?_
        refine r_sld (pc := 147) C S dL_law_147 ?_
        refine r_aload_n (pc := 148) C dL_law_148 rfl ?_
        refine r_iload (pc := 149) C dL_law_149 rfl ?_
        refine r_iconst (pc := 151) (v := 2) C dL_law_151 (by decide) ?_
        refine r_iadd (pc := 152) C dL_law_152 ?_
        refine r_sld (pc := 153) C S dL_law_153 ?_
        refine r_callV (pc := 154) C 45 (c_X8_size (zO.ap C) _ _ _) lk_c_X8_size lk_i_X8 lk_m_L_31 lk_n_X8_size lk_v_X8_size (n := 2) (by decide +kernel) rfl ⟨rfl, rfl⟩ (by decide) (by decide) rfl rfl rfl (Nat.le_of_ble_eq_true rfl) ⟨by show _ ≤ 601024; omega, by show _ ≤ 7293034; omega⟩ dL_law_154 (fun v2 s2 _ => ?_)
        refine r_pop (pc := 157) C dL_law_157 rfl ?_
        refine r_goto (pc := 158) (tgt := 859) C dL_law_158 (by decide) ?_
        refine r_iinc (pc := 859) (lv' := [some (.ref b), some (.ref (zad E 0)), some (.ref (zad E 45)), some (.ref (zad E 64)), some (.int (x4 + (6 : Int32))), none, none]) C dL_law_859 (by decide) rfl rfl rfl ?_
        refine r_goto (pc := 862) (tgt := 23) C dL_law_862 (by decide) ?_
        exact ih _ _ _ _ (by omega) (by omega)
      · refine r_split (fun h2 => ?_) (fun h2 => ?_)
        · refine r_tabIn (pc := 40) (v := 1) (tgt := 161) C dL_law_40 h2 (by decide) (by decide) rfl (by decide) ?_
          refine r_aload_n (pc := 161) C dL_law_161 rfl ?_
          refine r_aload_n (pc := 162) C dL_law_162 rfl ?_
          refine r_iload (pc := 163) C dL_law_163 rfl ?_
          refine r_iconst (pc := 165) (v := 1) C dL_law_165 (by decide) ?_
          refine r_iadd (pc := 166) C dL_law_166 ?_
          refine r_sld (pc := 167) C S dL_law_167 ?_
          refine r_aload_n (pc := 168) C dL_law_168 rfl ?_
          refine r_iload (pc := 169) C dL_law_169 rfl ?_
          refine r_iconst (pc := 171) (v := 2) C dL_law_171 (by decide) ?_
          refine r_iadd (pc := 172) C dL_law_172 ?_
          refine r_sld (pc := 173) C S dL_law_173 ?_
          refine r_bool (pc := 174) (t1 := 181) (t2 := 182) C dL_law_174 (by decide) dL_law_177 dL_law_178 (by decide) dL_law_181 rfl ?_
          refine r_callV (pc := 182) C 0 (c_X7_get (zO.ap C) _ _ _) lk_c_X7_get lk_i_X7 lk_m_L_32 lk_n_X7_get lk_v_X7_get (n := 2) (by decide +kernel) rfl ⟨rfl, rfl⟩ (by decide) (by decide) rfl rfl rfl (Nat.le_of_ble_eq_true rfl) ⟨by show _ ≤ 601024; omega, by show _ ≤ 7293034; omega⟩ dL_law_182 (fun v3 s3 _ => ?_)
          refine r_pop (pc := 185) C dL_law_185 rfl ?_
          refine r_aload_n (pc := 186) C dL_law_186 rfl ?_
          refine r_aload_n (pc := 187) C dL_law_187 rfl ?_
          refine r_iload (pc := 188) C dL_law_188 rfl ?_
          refine r_iconst (pc := 190) (v := 1) C dL_law_190 (by decide) ?_
          refine r_iadd (pc := 191) C dL_law_191 ?_
          refine r_sld (pc := 192) C S dL_law_192 ?_
          refine r_aload_n (pc := 193) C dL_law_193 rfl ?_
          refine r_iload (pc := 194) C dL_law_194 rfl ?_
          refine r_iconst (pc := 196) (v := 2) C dL_law_196 (by decide) ?_
          refine r_iadd (pc := 197) C dL_law_197 ?_
          refine r_sld (pc := 198) C S dL_law_198 ?_
          refine r_bool (pc := 199) (t1 := 206) (t2 := 207) C dL_law_199 (by decide) dL_law_202 dL_law_203 (by decide) dL_law_206 rfl ?_
          refine r_callV (pc := 207) C 45 (c_X8_get (zO.ap C) _ _ _) lk_c_X8_get lk_i_X8 lk_m_L_36 lk_n_X8_get lk_v_X8_get (n := 2) (by decide +kernel) rfl ⟨rfl, rfl⟩ (by decide) (by decide) rfl rfl rfl (Nat.le_of_ble_eq_true rfl) ⟨by show _ ≤ 601024; omega, by show _ ≤ 7293034; omega⟩ dL_law_207 (fun v4 s4 _ => ?_)
          refine r_pop (pc := 210) C dL_law_210 rfl ?_
          refine r_goto (pc := 211) (tgt := 859) C dL_law_211 (by decide) ?_
          refine r_iinc (pc := 859) (lv' := [some (.ref b), some (.ref (zad E 0)), some (.ref (zad E 45)), some (.ref (zad E 64)), some (.int (x4 + (6 : Int32))), none, none]) C dL_law_859 (by decide) rfl rfl rfl ?_
          refine r_goto (pc := 862) (tgt := 23) C dL_law_862 (by decide) ?_
          exact ih _ _ _ _ (by omega) (by omega)
        · refine r_split (fun h3 => ?_) (fun h3 => ?_)
          · refine r_tabIn (pc := 40) (v := 2) (tgt := 214) C dL_law_40 h3 (by decide) (by decide) rfl (by decide) ?_
            refine r_aload_n (pc := 214) C dL_law_214 rfl ?_
            refine r_aload_n (pc := 215) C dL_law_215 rfl ?_
            refine r_iload (pc := 216) C dL_law_216 rfl ?_
            refine r_iconst (pc := 218) (v := 1) C dL_law_218 (by decide) ?_
            refine r_iadd (pc := 219) C dL_law_219 ?_
            refine r_sld (pc := 220) C S dL_law_220 ?_
            refine r_aload_n (pc := 221) C dL_law_221 rfl ?_
            refine r_iload (pc := 222) C dL_law_222 rfl ?_
            refine r_iconst (pc := 224) (v := 2) C dL_law_224 (by decide) ?_
            refine r_iadd (pc := 225) C dL_law_225 ?_
            refine r_sld (pc := 226) C S dL_law_226 ?_
            refine r_aload_n (pc := 227) C dL_law_227 rfl ?_
            refine r_iload (pc := 228) C dL_law_228 rfl ?_
            refine r_iconst (pc := 230) (v := 3) C dL_law_230 (by decide) ?_
            refine r_iadd (pc := 231) C dL_law_231 ?_
            refine r_sld (pc := 232) C S dL_law_232 ?_
            refine r_bool (pc := 233) (t1 := 240) (t2 := 241) C dL_law_233 (by decide) dL_law_236 dL_law_237 (by decide) dL_law_240 rfl ?_
            refine r_aload_n (pc := 241) C dL_law_241 rfl ?_
            refine r_iload (pc := 242) C dL_law_242 rfl ?_
            refine r_iconst (pc := 244) (v := 4) C dL_law_244 (by decide) ?_
            refine r_iadd (pc := 245) C dL_law_245 ?_
            refine r_sld (pc := 246) C S dL_law_246 ?_
            refine r_bool (pc := 247) (t1 := 254) (t2 := 255) C dL_law_247 (by decide) dL_law_250 dL_law_251 (by decide) dL_law_254 rfl ?_
            refine r_callV (pc := 255) C 0 (c_X7_put (zO.ap C) _ _ _ _ _) lk_c_X7_put lk_i_X7 lk_m_L_37 lk_n_X7_put lk_v_X7_put (n := 4) (by decide +kernel) rfl ⟨rfl, rfl⟩ (by decide) (by decide) rfl rfl rfl (Nat.le_of_ble_eq_true rfl) ⟨by show _ ≤ 601024; omega, by show _ ≤ 7293034; omega⟩ dL_law_255 (fun v5 s5 _ => ?_)
            refine r_pop (pc := 258) C dL_law_258 rfl ?_
            refine r_aload_n (pc := 259) C dL_law_259 rfl ?_
            refine r_aload_n (pc := 260) C dL_law_260 rfl ?_
            refine r_iload (pc := 261) C dL_law_261 rfl ?_
            refine r_iconst (pc := 263) (v := 1) C dL_law_263 (by decide) ?_
            refine r_iadd (pc := 264) C dL_law_264 ?_
            refine r_sld (pc := 265) C S dL_law_265 ?_
            refine r_aload_n (pc := 266) C dL_law_266 rfl ?_
            refine r_iload (pc := 267) C dL_law_267 rfl ?_
            refine r_iconst (pc := 269) (v := 2) C dL_law_269 (by decide) ?_
            refine r_iadd (pc := 270) C dL_law_270 ?_
            refine r_sld (pc := 271) C S dL_law_271 ?_
            refine r_aload_n (pc := 272) C dL_law_272 rfl ?_
            refine r_iload (pc := 273) C dL_law_273 rfl ?_
            refine r_iconst (pc := 275) (v := 3) C dL_law_275 (by decide) ?_
            refine r_iadd (pc := 276) C dL_law_276 ?_
            refine r_sld (pc := 277) C S dL_law_277 ?_
            refine r_bool (pc := 278) (t1 := 285) (t2 := 286) C dL_law_278 (by decide) dL_law_281 dL_law_282 (by decide) dL_law_285 rfl ?_
            refine r_aload_n (pc := 286) C dL_law_286 rfl ?_
            refine r_iload (pc := 287) C dL_law_287 rfl ?_
            refine r_iconst (pc := 289) (v := 4) C dL_law_289 (by decide) ?_
            refine r_iadd (pc := 290) C dL_law_290 ?_
            refine r_sld (pc := 291) C S dL_law_291 ?_
            refine r_bool (pc := 292) (t1 := 299) (t2 := 300) C dL_law_292 (by decide) dL_law_295 dL_law_296 (by decide) dL_law_299 rfl ?_
            refine r_callV (pc := 300) C 45 (c_X8_put (zO.ap C) _ _ _ _ _) lk_c_X8_put lk_i_X8 lk_m_L_41 lk_n_X8_put lk_v_X8_put (n := 4) (by decide +kernel) rfl ⟨rfl, rfl⟩ (by decide) (by decide) rfl rfl rfl (Nat.le_of_ble_eq_true rfl) ⟨by show _ ≤ 601024; omega, by show _ ≤ 7293034; omega⟩ dL_law_300 (fun v6 s6 _ => ?_)
            refine r_pop (pc := 303) C dL_law_303 rfl ?_
            refine r_goto (pc := 304) (tgt := 859) C dL_law_304 (by decide) ?_
            refine r_iinc (pc := 859) (lv' := [some (.ref b), some (.ref (zad E 0)), some (.ref (zad E 45)), some (.ref (zad E 64)), some (.int (x4 + (6 : Int32))), none, none]) C dL_law_859 (by decide) rfl rfl rfl ?_
            refine r_goto (pc := 862) (tgt := 23) C dL_law_862 (by decide) ?_
            exact ih _ _ _ _ (by omega) (by omega)
          · refine r_split (fun h4 => ?_) (fun h4 => ?_)
            · refine r_tabIn (pc := 40) (v := 3) (tgt := 307) C dL_law_40 h4 (by decide) (by decide) rfl (by decide) ?_
              refine r_aload_n (pc := 307) C dL_law_307 rfl ?_
              refine r_aload_n (pc := 308) C dL_law_308 rfl ?_
              refine r_iload (pc := 309) C dL_law_309 rfl ?_
              refine r_iconst (pc := 311) (v := 1) C dL_law_311 (by decide) ?_
              refine r_iadd (pc := 312) C dL_law_312 ?_
              refine r_sld (pc := 313) C S dL_law_313 ?_
              refine r_aload_n (pc := 314) C dL_law_314 rfl ?_
              refine r_iload (pc := 315) C dL_law_315 rfl ?_
              refine r_iconst (pc := 317) (v := 2) C dL_law_317 (by decide) ?_
              refine r_iadd (pc := 318) C dL_law_318 ?_
              refine r_sld (pc := 319) C S dL_law_319 ?_
              refine r_aload_n (pc := 320) C dL_law_320 rfl ?_
              refine r_iload (pc := 321) C dL_law_321 rfl ?_
              refine r_iconst (pc := 323) (v := 3) C dL_law_323 (by decide) ?_
              refine r_iadd (pc := 324) C dL_law_324 ?_
              refine r_sld (pc := 325) C S dL_law_325 ?_
              refine r_aload_n (pc := 326) C dL_law_326 rfl ?_
              refine r_callSW (pc := 327) (n := 5) (As := [.ref (zad E 0), .int (xs ((x4 + (1 : Int32))).toNatClampNeg), .int (xs ((x4 + (2 : Int32))).toNatClampNeg), .int (xs ((x4 + (3 : Int32))).toNatClampNeg), .ref (zad E 64)]) (rest := []) C (c_L_work (zO.ap C) _ _ _ _) lw_cw_work SB.ini lk_m_L_42 lw_st_work (by decide +kernel) rfl ⟨rfl, rfl⟩ (by decide) (by decide) ⟨by show _ ≤ 601024; omega, by show _ ≤ 7293034; omega⟩ rfl rfl dL_law_327 (fun v7 s7 _ => ?_)
              refine r_istore (pc := 330) (lv' := [some (.ref b), some (.ref (zad E 0)), some (.ref (zad E 45)), some (.ref (zad E 64)), some (.int x4), some (.int v7), none]) C dL_law_330 (by decide) rfl ?_
              refine r_aload_n (pc := 332) C dL_law_332 rfl ?_
              refine r_aload_n (pc := 333) C dL_law_333 rfl ?_
              refine r_iload (pc := 334) C dL_law_334 rfl ?_
              refine r_iconst (pc := 336) (v := 1) C dL_law_336 (by decide) ?_
              refine r_iadd (pc := 337) C dL_law_337 ?_
              refine r_sld (pc := 338) C S dL_law_338 ?_
              refine r_aload_n (pc := 339) C dL_law_339 rfl ?_
              refine r_iload (pc := 340) C dL_law_340 rfl ?_
              refine r_iconst (pc := 342) (v := 2) C dL_law_342 (by decide) ?_
              refine r_iadd (pc := 343) C dL_law_343 ?_
              refine r_sld (pc := 344) C S dL_law_344 ?_
              refine r_aload_n (pc := 345) C dL_law_345 rfl ?_
              refine r_iload (pc := 346) C dL_law_346 rfl ?_
              refine r_iconst (pc := 348) (v := 3) C dL_law_348 (by decide) ?_
              refine r_iadd (pc := 349) C dL_law_349 ?_
              refine r_sld (pc := 350) C S dL_law_350 ?_
              refine r_callV (pc := 351) C 45 (c_X8_work (zO.ap C) _ _ _ _) lk_c_X8_work lk_i_X8 lk_m_L_47 lk_n_X8_work lk_v_X8_work (n := 3) (by decide +kernel) rfl ⟨rfl, rfl⟩ (by decide) (by decide) rfl rfl rfl (Nat.le_of_ble_eq_true rfl) ⟨by show _ ≤ 601024; omega, by show _ ≤ 7293034; omega⟩ dL_law_351 (fun v8 s8 _ => ?_)
              refine r_istore (pc := 354) (lv' := [some (.ref b), some (.ref (zad E 0)), some (.ref (zad E 45)), some (.ref (zad E 64)), some (.int x4), some (.int v7), some (.int v8)]) C dL_law_354 (by decide) rfl ?_
              refine r_goto (pc := 356) (tgt := 859) C dL_law_356 (by decide) ?_
              refine r_iinc (pc := 859) (lv' := [some (.ref b), some (.ref (zad E 0)), some (.ref (zad E 45)), some (.ref (zad E 64)), some (.int (x4 + (6 : Int32))), some (.int v7), some (.int v8)]) C dL_law_859 (by decide) rfl rfl rfl ?_
              refine r_goto (pc := 862) (tgt := 23) C dL_law_862 (by decide) ?_
              refine r_mask [true, true, true, true, true, false, false] (lv' := [some (.ref b), some (.ref (zad E 0)), some (.ref (zad E 45)), some (.ref (zad E 64)), some (.int (x4 + (6 : Int32))), none, none]) rfl ?_
              exact ih _ _ _ _ (by omega) (by omega)
            · refine r_split (fun h5 => ?_) (fun h5 => ?_)
              · refine r_tabIn (pc := 40) (v := 4) (tgt := 359) C dL_law_40 h5 (by decide) (by decide) rfl (by decide) ?_
                refine r_aload_n (pc := 359) C dL_law_359 rfl ?_
                refine r_aload_n (pc := 360) C dL_law_360 rfl ?_
                refine r_iload (pc := 361) C dL_law_361 rfl ?_
                refine r_iconst (pc := 363) (v := 1) C dL_law_363 (by decide) ?_
                refine r_iadd (pc := 364) C dL_law_364 ?_
                refine r_sld (pc := 365) C S dL_law_365 ?_
                refine r_aload_n (pc := 366) C dL_law_366 rfl ?_
                refine r_iload (pc := 367) C dL_law_367 rfl ?_
                refine r_iconst (pc := 369) (v := 2) C dL_law_369 (by decide) ?_
                refine r_iadd (pc := 370) C dL_law_370 ?_
                refine r_sld (pc := 371) C S dL_law_371 ?_
                refine r_aload_n (pc := 372) C dL_law_372 rfl ?_
                refine r_iload (pc := 373) C dL_law_373 rfl ?_
                refine r_iconst (pc := 375) (v := 3) C dL_law_375 (by decide) ?_
                refine r_iadd (pc := 376) C dL_law_376 ?_
                refine r_sld (pc := 377) C S dL_law_377 ?_
                refine r_callV (pc := 378) C 0 (c_X7_copy (zO.ap C) _ _ _ _) lk_c_X7_copy lk_i_X7 lk_m_L_48 lk_n_X7_copy lk_v_X7_copy (n := 3) (by decide +kernel) rfl ⟨rfl, rfl⟩ (by decide) (by decide) rfl rfl rfl (Nat.le_of_ble_eq_true rfl) ⟨by show _ ≤ 601024; omega, by show _ ≤ 7293034; omega⟩ dL_law_378 (fun v9 s9 _ => ?_)
                refine r_pop (pc := 381) C dL_law_381 rfl ?_
                refine r_aload_n (pc := 382) C dL_law_382 rfl ?_
                refine r_aload_n (pc := 383) C dL_law_383 rfl ?_
                refine r_iload (pc := 384) C dL_law_384 rfl ?_
                refine r_iconst (pc := 386) (v := 1) C dL_law_386 (by decide) ?_
                refine r_iadd (pc := 387) C dL_law_387 ?_
                refine r_sld (pc := 388) C S dL_law_388 ?_
                refine r_aload_n (pc := 389) C dL_law_389 rfl ?_
                refine r_iload (pc := 390) C dL_law_390 rfl ?_
                refine r_iconst (pc := 392) (v := 2) C dL_law_392 (by decide) ?_
                refine r_iadd (pc := 393) C dL_law_393 ?_
                refine r_sld (pc := 394) C S dL_law_394 ?_
                refine r_aload_n (pc := 395) C dL_law_395 rfl ?_
                refine r_iload (pc := 396) C dL_law_396 rfl ?_
                refine r_iconst (pc := 398) (v := 3) C dL_law_398 (by decide) ?_
                refine r_iadd (pc := 399) C dL_law_399 ?_
                refine r_sld (pc := 400) C S dL_law_400 ?_
                refine r_callV (pc := 401) C 45 (c_X8_copy (zO.ap C) _ _ _ _) lk_c_X8_copy lk_i_X8 lk_m_L_51 lk_n_X8_copy lk_v_X8_copy (n := 3) (by decide +kernel) rfl ⟨rfl, rfl⟩ (by decide) (by decide) rfl rfl rfl (Nat.le_of_ble_eq_true rfl) ⟨by show _ ≤ 601024; omega, by show _ ≤ 7293034; omega⟩ dL_law_401 (fun v10 s10 _ => ?_)
                refine r_pop (pc := 404) C dL_law_404 rfl ?_
                refine r_goto (pc := 405) (tgt := 859) C dL_law_405 (by decide) ?_
                refine r_iinc (pc := 859) (lv' := [some (.ref b), some (.ref (zad E 0)), some (.ref (zad E 45)), some (.ref (zad E 64)), some (.int (x4 + (6 : Int32))), none, none]) C dL_law_859 (by decide) rfl rfl rfl ?_
                refine r_goto (pc := 862) (tgt := 23) C dL_law_862 (by decide) ?_
                exact ih _ _ _ _ (by omega) (by omega)
              · refine r_split (fun h6 => ?_) (fun h6 => ?_)
                · refine r_tabIn (pc := 40) (v := 5) (tgt := 408) C dL_law_40 h6 (by decide) (by decide) rfl (by decide) ?_
                  refine r_aload_n (pc := 408) C dL_law_408 rfl ?_
                  refine r_aload_n (pc := 409) C dL_law_409 rfl ?_
                  refine r_iload (pc := 410) C dL_law_410 rfl ?_
                  refine r_iconst (pc := 412) (v := 1) C dL_law_412 (by decide) ?_
                  refine r_iadd (pc := 413) C dL_law_413 ?_
                  refine r_sld (pc := 414) C S dL_law_414 ?_
                  refine r_aload_n (pc := 415) C dL_law_415 rfl ?_
                  refine r_iload (pc := 416) C dL_law_416 rfl ?_
                  refine r_iconst (pc := 418) (v := 2) C dL_law_418 (by decide) ?_
                  refine r_iadd (pc := 419) C dL_law_419 ?_
                  refine r_sld (pc := 420) C S dL_law_420 ?_
                  refine r_aload_n (pc := 421) C dL_law_421 rfl ?_
                  refine r_iload (pc := 422) C dL_law_422 rfl ?_
                  refine r_iconst (pc := 424) (v := 3) C dL_law_424 (by decide) ?_
                  refine r_iadd (pc := 425) C dL_law_425 ?_
                  refine r_sld (pc := 426) C S dL_law_426 ?_
                  refine r_aload_n (pc := 427) C dL_law_427 rfl ?_
                  refine r_iload (pc := 428) C dL_law_428 rfl ?_
                  refine r_iconst (pc := 430) (v := 4) C dL_law_430 (by decide) ?_
                  refine r_iadd (pc := 431) C dL_law_431 ?_
                  refine r_sld (pc := 432) C S dL_law_432 ?_
                  refine r_callV (pc := 433) C 0 (c_X7_look (zO.ap C) _ _ _ _ _) lk_c_X7_look lk_i_X7 lk_m_L_52 lk_n_X7_look lk_v_X7_look (n := 4) (by decide +kernel) rfl ⟨rfl, rfl⟩ (by decide) (by decide) rfl rfl rfl (Nat.le_of_ble_eq_true rfl) ⟨by show _ ≤ 601024; omega, by show _ ≤ 7293034; omega⟩ dL_law_433 (fun v11 s11 _ => ?_)
                  refine r_pop (pc := 436) C dL_law_436 rfl ?_
                  refine r_aload_n (pc := 437) C dL_law_437 rfl ?_
                  refine r_aload_n (pc := 438) C dL_law_438 rfl ?_
                  refine r_iload (pc := 439) C dL_law_439 rfl ?_
                  refine r_iconst (pc := 441) (v := 1) C dL_law_441 (by decide) ?_
                  refine r_iadd (pc := 442) C dL_law_442 ?_
                  refine r_sld (pc := 443) C S dL_law_443 ?_
                  refine r_aload_n (pc := 444) C dL_law_444 rfl ?_
                  refine r_iload (pc := 445) C dL_law_445 rfl ?_
                  refine r_iconst (pc := 447) (v := 2) C dL_law_447 (by decide) ?_
                  refine r_iadd (pc := 448) C dL_law_448 ?_
                  refine r_sld (pc := 449) C S dL_law_449 ?_
                  refine r_aload_n (pc := 450) C dL_law_450 rfl ?_
                  refine r_iload (pc := 451) C dL_law_451 rfl ?_
                  refine r_iconst (pc := 453) (v := 3) C dL_law_453 (by decide) ?_
                  refine r_iadd (pc := 454) C dL_law_454 ?_
                  refine r_sld (pc := 455) C S dL_law_455 ?_
                  refine r_aload_n (pc := 456) C dL_law_456 rfl ?_
                  refine r_iload (pc := 457) C dL_law_457 rfl ?_
                  refine r_iconst (pc := 459) (v := 4) C dL_law_459 (by decide) ?_
                  refine r_iadd (pc := 460) C dL_law_460 ?_
                  refine r_sld (pc := 461) C S dL_law_461 ?_
                  refine r_callV (pc := 462) C 45 (c_X8_look (zO.ap C) _ _ _ _ _) lk_c_X8_look lk_i_X8 lk_m_L_56 lk_n_X8_look lk_v_X8_look (n := 4) (by decide +kernel) rfl ⟨rfl, rfl⟩ (by decide) (by decide) rfl rfl rfl (Nat.le_of_ble_eq_true rfl) ⟨by show _ ≤ 601024; omega, by show _ ≤ 7293034; omega⟩ dL_law_462 (fun v12 s12 _ => ?_)
                  refine r_pop (pc := 465) C dL_law_465 rfl ?_
                  refine r_goto (pc := 466) (tgt := 859) C dL_law_466 (by decide) ?_
                  refine r_iinc (pc := 859) (lv' := [some (.ref b), some (.ref (zad E 0)), some (.ref (zad E 45)), some (.ref (zad E 64)), some (.int (x4 + (6 : Int32))), none, none]) C dL_law_859 (by decide) rfl rfl rfl ?_
                  refine r_goto (pc := 862) (tgt := 23) C dL_law_862 (by decide) ?_
                  exact ih _ _ _ _ (by omega) (by omega)
                · refine r_split (fun h7 => ?_) (fun h7 => ?_)
                  · refine r_tabIn (pc := 40) (v := 6) (tgt := 469) C dL_law_40 h7 (by decide) (by decide) rfl (by decide) ?_
                    refine r_aload_n (pc := 469) C dL_law_469 rfl ?_
                    refine r_aload_n (pc := 470) C dL_law_470 rfl ?_
                    refine r_iload (pc := 471) C dL_law_471 rfl ?_
                    refine r_iconst (pc := 473) (v := 1) C dL_law_473 (by decide) ?_
                    refine r_iadd (pc := 474) C dL_law_474 ?_
                    refine r_sld (pc := 475) C S dL_law_475 ?_
                    refine r_callV (pc := 476) C 0 (c_X7_random (zO.ap C) _ _) lk_c_X7_random lk_i_X7 lk_m_L_57 lk_n_X7_random lk_v_X7_random (n := 1) (by decide +kernel) rfl ⟨rfl, rfl⟩ (by decide) (by decide) rfl rfl rfl (Nat.le_of_ble_eq_true rfl) ⟨by show _ ≤ 601024; omega, by show _ ≤ 7293034; omega⟩ dL_law_476 (fun v13 s13 _ => ?_)
                    refine r_pop (pc := 479) C dL_law_479 rfl ?_
                    refine r_aload_n (pc := 480) C dL_law_480 rfl ?_
                    refine r_aload_n (pc := 481) C dL_law_481 rfl ?_
                    refine r_iload (pc := 482) C dL_law_482 rfl ?_
                    refine r_iconst (pc := 484) (v := 1) C dL_law_484 (by decide) ?_
                    refine r_iadd (pc := 485) C dL_law_485 ?_
                    refine r_sld (pc := 486) C S dL_law_486 ?_
                    refine r_callV (pc := 487) C 45 (c_X8_random (zO.ap C) _ _) lk_c_X8_random lk_i_X8 lk_m_L_60 lk_n_X8_random lk_v_X8_random (n := 1) (by decide +kernel) rfl ⟨rfl, rfl⟩ (by decide) (by decide) rfl rfl rfl (Nat.le_of_ble_eq_true rfl) ⟨by show _ ≤ 601024; omega, by show _ ≤ 7293034; omega⟩ dL_law_487 (fun v14 s14 _ => ?_)
                    refine r_pop (pc := 490) C dL_law_490 rfl ?_
                    refine r_goto (pc := 491) (tgt := 859) C dL_law_491 (by decide) ?_
                    refine r_iinc (pc := 859) (lv' := [some (.ref b), some (.ref (zad E 0)), some (.ref (zad E 45)), some (.ref (zad E 64)), some (.int (x4 + (6 : Int32))), none, none]) C dL_law_859 (by decide) rfl rfl rfl ?_
                    refine r_goto (pc := 862) (tgt := 23) C dL_law_862 (by decide) ?_
                    exact ih _ _ _ _ (by omega) (by omega)
                  · refine r_split (fun h8 => ?_) (fun h8 => ?_)
                    · refine r_tabIn (pc := 40) (v := 7) (tgt := 494) C dL_law_40 h8 (by decide) (by decide) rfl (by decide) ?_
                      refine r_aload_n (pc := 494) C dL_law_494 rfl ?_
                      refine r_aload_n (pc := 495) C dL_law_495 rfl ?_
                      refine r_iload (pc := 496) C dL_law_496 rfl ?_
                      refine r_iconst (pc := 498) (v := 1) C dL_law_498 (by decide) ?_
                      refine r_iadd (pc := 499) C dL_law_499 ?_
                      refine r_sld (pc := 500) C S dL_law_500 ?_
                      refine r_callV (pc := 501) C 0 (c_X7_tape (zO.ap C) _ _) lk_c_X7_tape lk_i_X7 lk_m_L_61 lk_n_X7_tape lk_v_X7_tape (n := 1) (by decide +kernel) rfl ⟨rfl, rfl⟩ (by decide) (by decide) rfl rfl rfl (Nat.le_of_ble_eq_true rfl) ⟨by show _ ≤ 601024; omega, by show _ ≤ 7293034; omega⟩ dL_law_501 (fun v15 s15 _ => ?_)
                      refine r_pop (pc := 504) C dL_law_504 rfl ?_
                      refine r_aload_n (pc := 505) C dL_law_505 rfl ?_
                      refine r_aload_n (pc := 506) C dL_law_506 rfl ?_
                      refine r_iload (pc := 507) C dL_law_507 rfl ?_
                      refine r_iconst (pc := 509) (v := 1) C dL_law_509 (by decide) ?_
                      refine r_iadd (pc := 510) C dL_law_510 ?_
                      refine r_sld (pc := 511) C S dL_law_511 ?_
                      refine r_callV (pc := 512) C 45 (c_X8_tape (zO.ap C) _ _) lk_c_X8_tape lk_i_X8 lk_m_L_64 lk_n_X8_tape lk_v_X8_tape (n := 1) (by decide +kernel) rfl ⟨rfl, rfl⟩ (by decide) (by decide) rfl rfl rfl (Nat.le_of_ble_eq_true rfl) ⟨by show _ ≤ 601024; omega, by show _ ≤ 7293034; omega⟩ dL_law_512 (fun v16 s16 _ => ?_)
                      refine r_pop (pc := 515) C dL_law_515 rfl ?_
                      refine r_goto (pc := 516) (tgt := 859) C dL_law_516 (by decide) ?_
                      refine r_iinc (pc := 859) (lv' := [some (.ref b), some (.ref (zad E 0)), some (.ref (zad E 45)), some (.ref (zad E 64)), some (.int (x4 + (6 : Int32))), none, none]) C dL_law_859 (by decide) rfl rfl rfl ?_
                      refine r_goto (pc := 862) (tgt := 23) C dL_law_862 (by decide) ?_
                      exact ih _ _ _ _ (by omega) (by omega)
                    · refine r_split (fun h9 => ?_) (fun h9 => ?_)
                      · refine r_tabIn (pc := 40) (v := 8) (tgt := 519) C dL_law_40 h9 (by decide) (by decide) rfl (by decide) ?_
                        refine r_aload_n (pc := 519) C dL_law_519 rfl ?_
                        refine r_aload_n (pc := 520) C dL_law_520 rfl ?_
                        refine r_iload (pc := 521) C dL_law_521 rfl ?_
                        refine r_iconst (pc := 523) (v := 1) C dL_law_523 (by decide) ?_
                        refine r_iadd (pc := 524) C dL_law_524 ?_
                        refine r_sld (pc := 525) C S dL_law_525 ?_
                        refine r_callV (pc := 526) C 0 (c_X7_globe (zO.ap C) _ _) lk_c_X7_globe lk_i_X7 lk_m_L_65 lk_n_X7_globe lk_v_X7_globe (n := 1) (by decide +kernel) rfl ⟨rfl, rfl⟩ (by decide) (by decide) rfl rfl rfl (Nat.le_of_ble_eq_true rfl) ⟨by show _ ≤ 601024; omega, by show _ ≤ 7293034; omega⟩ dL_law_526 (fun v17 s17 _ => ?_)
                        refine r_pop (pc := 529) C dL_law_529 rfl ?_
                        refine r_aload_n (pc := 530) C dL_law_530 rfl ?_
                        refine r_aload_n (pc := 531) C dL_law_531 rfl ?_
                        refine r_iload (pc := 532) C dL_law_532 rfl ?_
                        refine r_iconst (pc := 534) (v := 1) C dL_law_534 (by decide) ?_
                        refine r_iadd (pc := 535) C dL_law_535 ?_
                        refine r_sld (pc := 536) C S dL_law_536 ?_
                        refine r_callV (pc := 537) C 45 (c_X8_globe (zO.ap C) _ _) lk_c_X8_globe lk_i_X8 lk_m_L_68 lk_n_X8_globe lk_v_X8_globe (n := 1) (by decide +kernel) rfl ⟨rfl, rfl⟩ (by decide) (by decide) rfl rfl rfl (Nat.le_of_ble_eq_true rfl) ⟨by show _ ≤ 601024; omega, by show _ ≤ 7293034; omega⟩ dL_law_537 (fun v18 s18 _ => ?_)
                        refine r_pop (pc := 540) C dL_law_540 rfl ?_
                        refine r_goto (pc := 541) (tgt := 859) C dL_law_541 (by decide) ?_
                        refine r_iinc (pc := 859) (lv' := [some (.ref b), some (.ref (zad E 0)), some (.ref (zad E 45)), some (.ref (zad E 64)), some (.int (x4 + (6 : Int32))), none, none]) C dL_law_859 (by decide) rfl rfl rfl ?_
                        refine r_goto (pc := 862) (tgt := 23) C dL_law_862 (by decide) ?_
                        exact ih _ _ _ _ (by omega) (by omega)
                      · refine r_split (fun h10 => ?_) (fun h10 => ?_)
                        · refine r_tabIn (pc := 40) (v := 9) (tgt := 544) C dL_law_40 h10 (by decide) (by decide) rfl (by decide) ?_
                          refine r_aload_n (pc := 544) C dL_law_544 rfl ?_
                          refine r_aload_n (pc := 545) C dL_law_545 rfl ?_
                          refine r_iload (pc := 546) C dL_law_546 rfl ?_
                          refine r_iconst (pc := 548) (v := 1) C dL_law_548 (by decide) ?_
                          refine r_iadd (pc := 549) C dL_law_549 ?_
                          refine r_sld (pc := 550) C S dL_law_550 ?_
                          refine r_callV (pc := 551) C 0 (c_X7_form (zO.ap C) _ _) lk_c_X7_form lk_i_X7 lk_m_L_69 lk_n_X7_form lk_v_X7_form (n := 1) (by decide +kernel) rfl ⟨rfl, rfl⟩ (by decide) (by decide) rfl rfl rfl (Nat.le_of_ble_eq_true rfl) ⟨by show _ ≤ 601024; omega, by show _ ≤ 7293034; omega⟩ dL_law_551 (fun v19 s19 _ => ?_)
                          refine r_pop (pc := 554) C dL_law_554 rfl ?_
                          refine r_aload_n (pc := 555) C dL_law_555 rfl ?_
                          refine r_aload_n (pc := 556) C dL_law_556 rfl ?_
                          refine r_iload (pc := 557) C dL_law_557 rfl ?_
                          refine r_iconst (pc := 559) (v := 1) C dL_law_559 (by decide) ?_
                          refine r_iadd (pc := 560) C dL_law_560 ?_
                          refine r_sld (pc := 561) C S dL_law_561 ?_
                          refine r_callV (pc := 562) C 45 (c_X8_form (zO.ap C) _ _) lk_c_X8_form lk_i_X8 lk_m_L_72 lk_n_X8_form lk_v_X8_form (n := 1) (by decide +kernel) rfl ⟨rfl, rfl⟩ (by decide) (by decide) rfl rfl rfl (Nat.le_of_ble_eq_true rfl) ⟨by show _ ≤ 601024; omega, by show _ ≤ 7293034; omega⟩ dL_law_562 (fun v20 s20 _ => ?_)
                          refine r_pop (pc := 565) C dL_law_565 rfl ?_
                          refine r_goto (pc := 566) (tgt := 859) C dL_law_566 (by decide) ?_
                          refine r_iinc (pc := 859) (lv' := [some (.ref b), some (.ref (zad E 0)), some (.ref (zad E 45)), some (.ref (zad E 64)), some (.int (x4 + (6 : Int32))), none, none]) C dL_law_859 (by decide) rfl rfl rfl ?_
                          refine r_goto (pc := 862) (tgt := 23) C dL_law_862 (by decide) ?_
                          exact ih _ _ _ _ (by omega) (by omega)
                        · refine r_split (fun h11 => ?_) (fun h11 => ?_)
                          · refine r_tabIn (pc := 40) (v := 10) (tgt := 569) C dL_law_40 h11 (by decide) (by decide) rfl (by decide) ?_
                            refine r_aload_n (pc := 569) C dL_law_569 rfl ?_
                            refine r_aload_n (pc := 570) C dL_law_570 rfl ?_
                            refine r_iload (pc := 571) C dL_law_571 rfl ?_
                            refine r_iconst (pc := 573) (v := 1) C dL_law_573 (by decide) ?_
                            refine r_iadd (pc := 574) C dL_law_574 ?_
                            refine r_sld (pc := 575) C S dL_law_575 ?_
                            refine r_aload_n (pc := 576) C dL_law_576 rfl ?_
                            refine r_iload (pc := 577) C dL_law_577 rfl ?_
                            refine r_iconst (pc := 579) (v := 2) C dL_law_579 (by decide) ?_
                            refine r_iadd (pc := 580) C dL_law_580 ?_
                            refine r_sld (pc := 581) C S dL_law_581 ?_
                            refine r_aload_n (pc := 582) C dL_law_582 rfl ?_
                            refine r_iload (pc := 583) C dL_law_583 rfl ?_
                            refine r_iconst (pc := 585) (v := 3) C dL_law_585 (by decide) ?_
                            refine r_iadd (pc := 586) C dL_law_586 ?_
                            refine r_sld (pc := 587) C S dL_law_587 ?_
                            refine r_aload_n (pc := 588) C dL_law_588 rfl ?_
                            refine r_iload (pc := 589) C dL_law_589 rfl ?_
                            refine r_iconst (pc := 591) (v := 4) C dL_law_591 (by decide) ?_
                            refine r_iadd (pc := 592) C dL_law_592 ?_
                            refine r_sld (pc := 593) C S dL_law_593 ?_
                            refine r_aload_n (pc := 594) C dL_law_594 rfl ?_
                            refine r_iload (pc := 595) C dL_law_595 rfl ?_
                            refine r_iconst (pc := 597) (v := 5) C dL_law_597 (by decide) ?_
                            refine r_iadd (pc := 598) C dL_law_598 ?_
                            refine r_sld (pc := 599) C S dL_law_599 ?_
                            refine r_callV (pc := 600) C 0 (c_X7_instruction (zO.ap C) _ _ _ _ _ _) lk_c_X7_instruction lk_i_X7 lk_m_L_73 lk_n_X7_instruction lk_v_X7_instruction (n := 5) (by decide +kernel) rfl ⟨rfl, rfl⟩ (by decide) (by decide) rfl rfl rfl (Nat.le_of_ble_eq_true rfl) ⟨by show _ ≤ 601024; omega, by show _ ≤ 7293034; omega⟩ dL_law_600 (fun v21 s21 _ => ?_)
                            refine r_pop (pc := 603) C dL_law_603 rfl ?_
                            refine r_aload_n (pc := 604) C dL_law_604 rfl ?_
                            refine r_aload_n (pc := 605) C dL_law_605 rfl ?_
                            refine r_iload (pc := 606) C dL_law_606 rfl ?_
                            refine r_iconst (pc := 608) (v := 1) C dL_law_608 (by decide) ?_
                            refine r_iadd (pc := 609) C dL_law_609 ?_
                            refine r_sld (pc := 610) C S dL_law_610 ?_
                            refine r_aload_n (pc := 611) C dL_law_611 rfl ?_
                            refine r_iload (pc := 612) C dL_law_612 rfl ?_
                            refine r_iconst (pc := 614) (v := 2) C dL_law_614 (by decide) ?_
                            refine r_iadd (pc := 615) C dL_law_615 ?_
                            refine r_sld (pc := 616) C S dL_law_616 ?_
                            refine r_aload_n (pc := 617) C dL_law_617 rfl ?_
                            refine r_iload (pc := 618) C dL_law_618 rfl ?_
                            refine r_iconst (pc := 620) (v := 3) C dL_law_620 (by decide) ?_
                            refine r_iadd (pc := 621) C dL_law_621 ?_
                            refine r_sld (pc := 622) C S dL_law_622 ?_
                            refine r_aload_n (pc := 623) C dL_law_623 rfl ?_
                            refine r_iload (pc := 624) C dL_law_624 rfl ?_
                            refine r_iconst (pc := 626) (v := 4) C dL_law_626 (by decide) ?_
                            refine r_iadd (pc := 627) C dL_law_627 ?_
                            refine r_sld (pc := 628) C S dL_law_628 ?_
                            refine r_aload_n (pc := 629) C dL_law_629 rfl ?_
                            refine r_iload (pc := 630) C dL_law_630 rfl ?_
                            refine r_iconst (pc := 632) (v := 5) C dL_law_632 (by decide) ?_
                            refine r_iadd (pc := 633) C dL_law_633 ?_
                            refine r_sld (pc := 634) C S dL_law_634 ?_
                            refine r_callV (pc := 635) C 45 (c_X8_instruction (zO.ap C) _ _ _ _ _ _) lk_c_X8_instruction lk_i_X8 lk_m_L_77 lk_n_X8_instruction lk_v_X8_instruction (n := 5) (by decide +kernel) rfl ⟨rfl, rfl⟩ (by decide) (by decide) rfl rfl rfl (Nat.le_of_ble_eq_true rfl) ⟨by show _ ≤ 601024; omega, by show _ ≤ 7293034; omega⟩ dL_law_635 (fun v22 s22 _ => ?_)
                            refine r_pop (pc := 638) C dL_law_638 rfl ?_
                            refine r_goto (pc := 639) (tgt := 859) C dL_law_639 (by decide) ?_
                            refine r_iinc (pc := 859) (lv' := [some (.ref b), some (.ref (zad E 0)), some (.ref (zad E 45)), some (.ref (zad E 64)), some (.int (x4 + (6 : Int32))), none, none]) C dL_law_859 (by decide) rfl rfl rfl ?_
                            refine r_goto (pc := 862) (tgt := 23) C dL_law_862 (by decide) ?_
                            exact ih _ _ _ _ (by omega) (by omega)
                          · refine r_split (fun h12 => ?_) (fun h12 => ?_)
                            · refine r_tabIn (pc := 40) (v := 11) (tgt := 642) C dL_law_40 h12 (by decide) (by decide) rfl (by decide) ?_
                              refine r_aload_n (pc := 642) C dL_law_642 rfl ?_
                              refine r_aload_n (pc := 643) C dL_law_643 rfl ?_
                              refine r_iload (pc := 644) C dL_law_644 rfl ?_
                              refine r_iconst (pc := 646) (v := 1) C dL_law_646 (by decide) ?_
                              refine r_iadd (pc := 647) C dL_law_647 ?_
                              refine r_sld (pc := 648) C S dL_law_648 ?_
                              refine r_aload_n (pc := 649) C dL_law_649 rfl ?_
                              refine r_iload (pc := 650) C dL_law_650 rfl ?_
                              refine r_iconst (pc := 652) (v := 2) C dL_law_652 (by decide) ?_
                              refine r_iadd (pc := 653) C dL_law_653 ?_
                              refine r_sld (pc := 654) C S dL_law_654 ?_
                              refine r_aload_n (pc := 655) C dL_law_655 rfl ?_
                              refine r_iload (pc := 656) C dL_law_656 rfl ?_
                              refine r_iconst (pc := 658) (v := 3) C dL_law_658 (by decide) ?_
                              refine r_iadd (pc := 659) C dL_law_659 ?_
                              refine r_sld (pc := 660) C S dL_law_660 ?_
                              refine r_aload_n (pc := 661) C dL_law_661 rfl ?_
                              refine r_iload (pc := 662) C dL_law_662 rfl ?_
                              refine r_iconst (pc := 664) (v := 4) C dL_law_664 (by decide) ?_
                              refine r_iadd (pc := 665) C dL_law_665 ?_
                              refine r_sld (pc := 666) C S dL_law_666 ?_
                              refine r_bool (pc := 667) (t1 := 674) (t2 := 675) C dL_law_667 (by decide) dL_law_670 dL_law_671 (by decide) dL_law_674 rfl ?_
                              refine r_callV (pc := 675) C 0 (c_X7_routine (zO.ap C) _ _ _ _ _) lk_c_X7_routine lk_i_X7 lk_m_L_78 lk_n_X7_routine lk_v_X7_routine (n := 4) (by decide +kernel) rfl ⟨rfl, rfl⟩ (by decide) (by decide) rfl rfl rfl (Nat.le_of_ble_eq_true rfl) ⟨by show _ ≤ 601024; omega, by show _ ≤ 7293034; omega⟩ dL_law_675 (fun v23 s23 _ => ?_)
                              refine r_pop (pc := 678) C dL_law_678 rfl ?_
                              refine r_aload_n (pc := 679) C dL_law_679 rfl ?_
                              refine r_aload_n (pc := 680) C dL_law_680 rfl ?_
                              refine r_iload (pc := 681) C dL_law_681 rfl ?_
                              refine r_iconst (pc := 683) (v := 1) C dL_law_683 (by decide) ?_
                              refine r_iadd (pc := 684) C dL_law_684 ?_
                              refine r_sld (pc := 685) C S dL_law_685 ?_
                              refine r_aload_n (pc := 686) C dL_law_686 rfl ?_
                              refine r_iload (pc := 687) C dL_law_687 rfl ?_
                              refine r_iconst (pc := 689) (v := 2) C dL_law_689 (by decide) ?_
                              refine r_iadd (pc := 690) C dL_law_690 ?_
                              refine r_sld (pc := 691) C S dL_law_691 ?_
                              refine r_aload_n (pc := 692) C dL_law_692 rfl ?_
                              refine r_iload (pc := 693) C dL_law_693 rfl ?_
                              refine r_iconst (pc := 695) (v := 3) C dL_law_695 (by decide) ?_
                              refine r_iadd (pc := 696) C dL_law_696 ?_
                              refine r_sld (pc := 697) C S dL_law_697 ?_
                              refine r_aload_n (pc := 698) C dL_law_698 rfl ?_
                              refine r_iload (pc := 699) C dL_law_699 rfl ?_
                              refine r_iconst (pc := 701) (v := 4) C dL_law_701 (by decide) ?_
                              refine r_iadd (pc := 702) C dL_law_702 ?_
                              refine r_sld (pc := 703) C S dL_law_703 ?_
                              refine r_bool (pc := 704) (t1 := 711) (t2 := 712) C dL_law_704 (by decide) dL_law_707 dL_law_708 (by decide) dL_law_711 rfl ?_
                              refine r_callV (pc := 712) C 45 (c_X8_routine (zO.ap C) _ _ _ _ _) lk_c_X8_routine lk_i_X8 lk_m_L_82 lk_n_X8_routine lk_v_X8_routine (n := 4) (by decide +kernel) rfl ⟨rfl, rfl⟩ (by decide) (by decide) rfl rfl rfl (Nat.le_of_ble_eq_true rfl) ⟨by show _ ≤ 601024; omega, by show _ ≤ 7293034; omega⟩ dL_law_712 (fun v24 s24 _ => ?_)
                              refine r_pop (pc := 715) C dL_law_715 rfl ?_
                              refine r_goto (pc := 716) (tgt := 859) C dL_law_716 (by decide) ?_
                              refine r_iinc (pc := 859) (lv' := [some (.ref b), some (.ref (zad E 0)), some (.ref (zad E 45)), some (.ref (zad E 64)), some (.int (x4 + (6 : Int32))), none, none]) C dL_law_859 (by decide) rfl rfl rfl ?_
                              refine r_goto (pc := 862) (tgt := 23) C dL_law_862 (by decide) ?_
                              exact ih _ _ _ _ (by omega) (by omega)
                            · refine r_split (fun h13 => ?_) (fun h13 => ?_)
                              · refine r_tabIn (pc := 40) (v := 12) (tgt := 719) C dL_law_40 h13 (by decide) (by decide) rfl (by decide) ?_
                                refine r_aload_n (pc := 719) C dL_law_719 rfl ?_
                                refine r_callV (pc := 720) C 0 (c_X7_clear (zO.ap C)  _) lk_c_X7_clear lk_i_X7 lk_m_L_83 lk_n_X7_clear lk_v_X7_clear (n := 0) (by decide +kernel) rfl ⟨rfl, rfl⟩ (by decide) (by decide) rfl rfl rfl (Nat.le_of_ble_eq_true rfl) ⟨by show _ ≤ 601024; omega, by show _ ≤ 7293034; omega⟩ dL_law_720 (fun v25 s25 _ => ?_)
                                refine r_aload_n (pc := 723) C dL_law_723 rfl ?_
                                refine r_callV (pc := 724) C 45 (c_X8_clear (zO.ap C)  _) lk_c_X8_clear lk_i_X8 lk_m_L_87 lk_n_X8_clear lk_v_X8_clear (n := 0) (by decide +kernel) rfl ⟨rfl, rfl⟩ (by decide) (by decide) rfl rfl rfl (Nat.le_of_ble_eq_true rfl) ⟨by show _ ≤ 601024; omega, by show _ ≤ 7293034; omega⟩ dL_law_724 (fun v26 s26 _ => ?_)
                                refine r_icmp_eq (pc := 727) (tgt := 859) C dL_law_727 (by decide) (fun _ => ?_) (fun _ => ?_)
                                · refine r_iinc (pc := 859) (lv' := [some (.ref b), some (.ref (zad E 0)), some (.ref (zad E 45)), some (.ref (zad E 64)), some (.int (x4 + (6 : Int32))), none, none]) C dL_law_859 (by decide) rfl rfl rfl ?_
                                  refine r_goto (pc := 862) (tgt := 23) C dL_law_862 (by decide) ?_
                                  exact ih _ _ _ _ (by omega) (by omega)
                                · refine r_iconst (pc := 730) (v := 0) C dL_law_730 (by decide) ?_
                                  exact r_lawN
                              · refine r_split (fun h14 => ?_) (fun h14 => ?_)
                                · refine r_tabIn (pc := 40) (v := 13) (tgt := 732) C dL_law_40 h14 (by decide) (by decide) rfl (by decide) ?_
                                  refine r_aload_n (pc := 732) C dL_law_732 rfl ?_
                                  refine r_aload_n (pc := 733) C dL_law_733 rfl ?_
                                  refine r_iload (pc := 734) C dL_law_734 rfl ?_
                                  refine r_iconst (pc := 736) (v := 1) C dL_law_736 (by decide) ?_
                                  refine r_iadd (pc := 737) C dL_law_737 ?_
                                  refine r_sld (pc := 738) C S dL_law_738 ?_
                                  refine r_aload_n (pc := 739) C dL_law_739 rfl ?_
                                  refine r_iload (pc := 740) C dL_law_740 rfl ?_
                                  refine r_iconst (pc := 742) (v := 2) C dL_law_742 (by decide) ?_
                                  refine r_iadd (pc := 743) C dL_law_743 ?_
                                  refine r_sld (pc := 744) C S dL_law_744 ?_
                                  refine r_aload_n (pc := 745) C dL_law_745 rfl ?_
                                  refine r_iload (pc := 746) C dL_law_746 rfl ?_
                                  refine r_iconst (pc := 748) (v := 3) C dL_law_748 (by decide) ?_
                                  refine r_iadd (pc := 749) C dL_law_749 ?_
                                  refine r_sld (pc := 750) C S dL_law_750 ?_
                                  refine r_callV (pc := 751) C 0 (c_X7_run (zO.ap C) _ _ _ _) lk_c_X7_run lk_i_X7 lk_m_L_88 lk_n_X7_run lk_v_X7_run (n := 3) (by decide +kernel) rfl ⟨rfl, rfl⟩ (by decide) (by decide) rfl rfl rfl (Nat.le_of_ble_eq_true rfl) ⟨by show _ ≤ 601024; omega, by show _ ≤ 7293034; omega⟩ dL_law_751 (fun v27 s27 _ => ?_)
                                  refine r_pop (pc := 754) C dL_law_754 rfl ?_
                                  refine r_aload_n (pc := 755) C dL_law_755 rfl ?_
                                  refine r_aload_n (pc := 756) C dL_law_756 rfl ?_
                                  refine r_iload (pc := 757) C dL_law_757 rfl ?_
                                  refine r_iconst (pc := 759) (v := 1) C dL_law_759 (by decide) ?_
                                  refine r_iadd (pc := 760) C dL_law_760 ?_
                                  refine r_sld (pc := 761) C S dL_law_761 ?_
                                  refine r_aload_n (pc := 762) C dL_law_762 rfl ?_
                                  refine r_iload (pc := 763) C dL_law_763 rfl ?_
                                  refine r_iconst (pc := 765) (v := 2) C dL_law_765 (by decide) ?_
                                  refine r_iadd (pc := 766) C dL_law_766 ?_
                                  refine r_sld (pc := 767) C S dL_law_767 ?_
                                  refine r_aload_n (pc := 768) C dL_law_768 rfl ?_
                                  refine r_iload (pc := 769) C dL_law_769 rfl ?_
                                  refine r_iconst (pc := 771) (v := 3) C dL_law_771 (by decide) ?_
                                  refine r_iadd (pc := 772) C dL_law_772 ?_
                                  refine r_sld (pc := 773) C S dL_law_773 ?_
                                  refine r_callV (pc := 774) C 45 (c_X8_run (zO.ap C) _ _ _ _) lk_c_X8_run lk_i_X8 lk_m_L_91 lk_n_X8_run lk_v_X8_run (n := 3) (by decide +kernel) rfl ⟨rfl, rfl⟩ (by decide) (by decide) rfl rfl rfl (Nat.le_of_ble_eq_true rfl) ⟨by show _ ≤ 601024; omega, by show _ ≤ 7293034; omega⟩ dL_law_774 (fun v28 s28 _ => ?_)
                                  refine r_pop (pc := 777) C dL_law_777 rfl ?_
                                  refine r_goto (pc := 778) (tgt := 859) C dL_law_778 (by decide) ?_
                                  refine r_iinc (pc := 859) (lv' := [some (.ref b), some (.ref (zad E 0)), some (.ref (zad E 45)), some (.ref (zad E 64)), some (.int (x4 + (6 : Int32))), none, none]) C dL_law_859 (by decide) rfl rfl rfl ?_
                                  refine r_goto (pc := 862) (tgt := 23) C dL_law_862 (by decide) ?_
                                  exact ih _ _ _ _ (by omega) (by omega)
                                · refine r_split (fun h15 => ?_) (fun h15 => ?_)
                                  · refine r_tabIn (pc := 40) (v := 14) (tgt := 781) C dL_law_40 h15 (by decide) (by decide) rfl (by decide) ?_
                                    refine r_aload_n (pc := 781) C dL_law_781 rfl ?_
                                    refine r_aload_n (pc := 782) C dL_law_782 rfl ?_
                                    refine r_iload (pc := 783) C dL_law_783 rfl ?_
                                    refine r_iconst (pc := 785) (v := 1) C dL_law_785 (by decide) ?_
                                    refine r_iadd (pc := 786) C dL_law_786 ?_
                                    refine r_sld (pc := 787) C S dL_law_787 ?_
                                    refine r_callV (pc := 788) C 0 (c_X7_told (zO.ap C) _ _) lk_c_X7_told lk_i_X7 lk_m_L_92 lk_n_X7_told lk_v_X7_told (n := 1) (by decide +kernel) rfl ⟨rfl, rfl⟩ (by decide) (by decide) rfl rfl rfl (Nat.le_of_ble_eq_true rfl) ⟨by show _ ≤ 601024; omega, by show _ ≤ 7293034; omega⟩ dL_law_788 (fun v29 s29 _ => ?_)
                                    refine r_pop (pc := 791) C dL_law_791 rfl ?_
                                    refine r_aload_n (pc := 792) C dL_law_792 rfl ?_
                                    refine r_aload_n (pc := 793) C dL_law_793 rfl ?_
                                    refine r_iload (pc := 794) C dL_law_794 rfl ?_
                                    refine r_iconst (pc := 796) (v := 1) C dL_law_796 (by decide) ?_
                                    refine r_iadd (pc := 797) C dL_law_797 ?_
                                    refine r_sld (pc := 798) C S dL_law_798 ?_
                                    refine r_callV (pc := 799) C 45 (c_X8_told (zO.ap C) _ _) lk_c_X8_told lk_i_X8 lk_m_L_95 lk_n_X8_told lk_v_X8_told (n := 1) (by decide +kernel) rfl ⟨rfl, rfl⟩ (by decide) (by decide) rfl rfl rfl (Nat.le_of_ble_eq_true rfl) ⟨by show _ ≤ 601024; omega, by show _ ≤ 7293034; omega⟩ dL_law_799 (fun v30 s30 _ => ?_)
                                    refine r_pop (pc := 802) C dL_law_802 rfl ?_
                                    refine r_goto (pc := 803) (tgt := 859) C dL_law_803 (by decide) ?_
                                    refine r_iinc (pc := 859) (lv' := [some (.ref b), some (.ref (zad E 0)), some (.ref (zad E 45)), some (.ref (zad E 64)), some (.int (x4 + (6 : Int32))), none, none]) C dL_law_859 (by decide) rfl rfl rfl ?_
                                    refine r_goto (pc := 862) (tgt := 23) C dL_law_862 (by decide) ?_
                                    exact ih _ _ _ _ (by omega) (by omega)
                                  · refine r_split (fun h16 => ?_) (fun h16 => ?_)
                                    · refine r_tabIn (pc := 40) (v := 15) (tgt := 806) C dL_law_40 h16 (by decide) (by decide) rfl (by decide) ?_
                                      refine r_aload_n (pc := 806) C dL_law_806 rfl ?_
                                      refine r_aload_n (pc := 807) C dL_law_807 rfl ?_
                                      refine r_iload (pc := 808) C dL_law_808 rfl ?_
                                      refine r_iconst (pc := 810) (v := 1) C dL_law_810 (by decide) ?_
                                      refine r_iadd (pc := 811) C dL_law_811 ?_
                                      refine r_sld (pc := 812) C S dL_law_812 ?_
                                      refine r_aload_n (pc := 813) C dL_law_813 rfl ?_
                                      refine r_callSW (pc := 814) (n := 3) (As := [.ref (zad E 0), .int (xs ((x4 + (1 : Int32))).toNatClampNeg), .ref (zad E 64)]) (rest := []) C (c_L_printed (zO.ap C) _ _) lw_cw_printed SB.ini lk_m_L_96 lw_st_printed (by decide +kernel) rfl ⟨rfl, rfl⟩ (by decide) (by decide) ⟨by show _ ≤ 601024; omega, by show _ ≤ 7293034; omega⟩ rfl rfl dL_law_814 (fun v31 s31 _ => ?_)
                                      refine r_istore (pc := 817) (lv' := [some (.ref b), some (.ref (zad E 0)), some (.ref (zad E 45)), some (.ref (zad E 64)), some (.int x4), some (.int v31), none]) C dL_law_817 (by decide) rfl ?_
                                      refine r_aload_n (pc := 819) C dL_law_819 rfl ?_
                                      refine r_aload_n (pc := 820) C dL_law_820 rfl ?_
                                      refine r_iload (pc := 821) C dL_law_821 rfl ?_
                                      refine r_iconst (pc := 823) (v := 1) C dL_law_823 (by decide) ?_
                                      refine r_iadd (pc := 824) C dL_law_824 ?_
                                      refine r_sld (pc := 825) C S dL_law_825 ?_
                                      refine r_callV (pc := 826) C 45 (c_X8_printed (zO.ap C) _ _) lk_c_X8_printed lk_i_X8 lk_m_L_99 lk_n_X8_printed lk_v_X8_printed (n := 1) (by decide +kernel) rfl ⟨rfl, rfl⟩ (by decide) (by decide) rfl rfl rfl (Nat.le_of_ble_eq_true rfl) ⟨by show _ ≤ 601024; omega, by show _ ≤ 7293034; omega⟩ dL_law_826 (fun v32 s32 _ => ?_)
                                      refine r_istore (pc := 829) (lv' := [some (.ref b), some (.ref (zad E 0)), some (.ref (zad E 45)), some (.ref (zad E 64)), some (.int x4), some (.int v31), some (.int v32)]) C dL_law_829 (by decide) rfl ?_
                                      refine r_goto (pc := 831) (tgt := 859) C dL_law_831 (by decide) ?_
                                      refine r_iinc (pc := 859) (lv' := [some (.ref b), some (.ref (zad E 0)), some (.ref (zad E 45)), some (.ref (zad E 64)), some (.int (x4 + (6 : Int32))), some (.int v31), some (.int v32)]) C dL_law_859 (by decide) rfl rfl rfl ?_
                                      refine r_goto (pc := 862) (tgt := 23) C dL_law_862 (by decide) ?_
                                      refine r_mask [true, true, true, true, true, false, false] (lv' := [some (.ref b), some (.ref (zad E 0)), some (.ref (zad E 45)), some (.ref (zad E 64)), some (.int (x4 + (6 : Int32))), none, none]) rfl ?_
                                      exact ih _ _ _ _ (by omega) (by omega)
                                    · refine r_split (fun h17 => ?_) (fun h17 => ?_)
                                      · refine r_tabIn (pc := 40) (v := 16) (tgt := 834) C dL_law_40 h17 (by decide) (by decide) rfl (by decide) ?_
                                        refine r_aload_n (pc := 834) C dL_law_834 rfl ?_
                                        refine r_aload_n (pc := 835) C dL_law_835 rfl ?_
                                        refine r_iload (pc := 836) C dL_law_836 rfl ?_
                                        refine r_iconst (pc := 838) (v := 1) C dL_law_838 (by decide) ?_
                                        refine r_iadd (pc := 839) C dL_law_839 ?_
                                        refine r_sld (pc := 840) C S dL_law_840 ?_
                                        refine r_callV (pc := 841) C 0 (c_X7_left (zO.ap C) _ _) lk_c_X7_left lk_i_X7 lk_m_L_100 lk_n_X7_left lk_v_X7_left (n := 1) (by decide +kernel) rfl ⟨rfl, rfl⟩ (by decide) (by decide) rfl rfl rfl (Nat.le_of_ble_eq_true rfl) ⟨by show _ ≤ 601024; omega, by show _ ≤ 7293034; omega⟩ dL_law_841 (fun v33 s33 _ => ?_)
                                        refine r_pop (pc := 844) C dL_law_844 rfl ?_
                                        refine r_aload_n (pc := 845) C dL_law_845 rfl ?_
                                        refine r_aload_n (pc := 846) C dL_law_846 rfl ?_
                                        refine r_iload (pc := 847) C dL_law_847 rfl ?_
                                        refine r_iconst (pc := 849) (v := 1) C dL_law_849 (by decide) ?_
                                        refine r_iadd (pc := 850) C dL_law_850 ?_
                                        refine r_sld (pc := 851) C S dL_law_851 ?_
                                        refine r_callV (pc := 852) C 45 (c_X8_left (zO.ap C) _ _) lk_c_X8_left lk_i_X8 lk_m_L_103 lk_n_X8_left lk_v_X8_left (n := 1) (by decide +kernel) rfl ⟨rfl, rfl⟩ (by decide) (by decide) rfl rfl rfl (Nat.le_of_ble_eq_true rfl) ⟨by show _ ≤ 601024; omega, by show _ ≤ 7293034; omega⟩ dL_law_852 (fun v34 s34 _ => ?_)
                                        refine r_pop (pc := 855) C dL_law_855 rfl ?_
                                        refine r_goto (pc := 856) (tgt := 859) C dL_law_856 (by decide) ?_
                                        refine r_iinc (pc := 859) (lv' := [some (.ref b), some (.ref (zad E 0)), some (.ref (zad E 45)), some (.ref (zad E 64)), some (.int (x4 + (6 : Int32))), none, none]) C dL_law_859 (by decide) rfl rfl rfl ?_
                                        refine r_goto (pc := 862) (tgt := 23) C dL_law_862 (by decide) ?_
                                        exact ih _ _ _ _ (by omega) (by omega)
                                      · refine r_tabOut (pc := 40) (tgt := 859) C dL_law_40 (by have a0 := lv_neT (a := 0) h1 rfl; have a1 := lv_neT (a := 1) h2 rfl; have a2 := lv_neT (a := 2) h3 rfl; have a3 := lv_neT (a := 3) h4 rfl; have a4 := lv_neT (a := 4) h5 rfl; have a5 := lv_neT (a := 5) h6 rfl; have a6 := lv_neT (a := 6) h7 rfl; have a7 := lv_neT (a := 7) h8 rfl; have a8 := lv_neT (a := 8) h9 rfl; have a9 := lv_neT (a := 9) h10 rfl; have a10 := lv_neT (a := 10) h11 rfl; have a11 := lv_neT (a := 11) h12 rfl; have a12 := lv_neT (a := 12) h13 rfl; have a13 := lv_neT (a := 13) h14 rfl; have a14 := lv_neT (a := 14) h15 rfl; have a15 := lv_neT (a := 15) h16 rfl; have a16 := lv_neT (a := 16) h17 rfl; omega) (by decide) ?_
                                        refine r_iinc (pc := 859) (lv' := [some (.ref b), some (.ref (zad E 0)), some (.ref (zad E 45)), some (.ref (zad E 64)), some (.int (x4 + (6 : Int32))), none, none]) C dL_law_859 (by decide) rfl rfl rfl ?_
                                        refine r_goto (pc := 862) (tgt := 23) C dL_law_862 (by decide) ?_
                                        exact ih _ _ _ _ (by omega) (by omega)
