/-! the law's walk -/
def zQL (Γ : zX) : Int32 × zS → State → Prop := fun z => match Γ with
  | (_, _, s, _, args, below, _, _) => if z.1 = 1 then lw_Z below args s else fun _ => True
def zSb (E : zG) (Γ : zX) (b : Nat) : Prop := match Γ with
  | (_, _, s, _, args, _, _, _) => args = #[Value.ref b] ∧ zZ E = s.heap.size ∧ (Cond.initialized RL).before args s = true
theorem zSb.ini {E : zG} {Γ : zX} {b : Nat} (h : zSb E Γ b) : (match Γ with | (_, _, s, _, args, _, _, _) => (Cond.initialized RL).before args s = true) := by
  obtain ⟨p, e, s, m, args, below, meth, c⟩ := Γ
  exact h.2.2
theorem r_lawY {E : zG} {Γ : zX} {cx sx : Nat} {σ : zS} {pc b : Nat} {lv : List (Option Value)} (C : zO E Γ RL code 7 ret) (S : zSb E Γ b) (hc : cx ≤ 601024) (hs : sx ≤ 7293034) (hd : decode code pc = .ok (.ireturn, 1)) : zJg E Γ room_1 7 (zQL Γ) cx sx (some ((1 : Int32), σ)) σ pc lv [.int (1 : Int32)] := by
  obtain ⟨p, e, s, m, args, below, meth, c⟩ := Γ
  obtain ⟨hx, hb, hml, hr, hown, hts, hK, hAp, hlk⟩ := C
  obtain ⟨rfl, hZ, -⟩ := S
  intro z hz H locs ls hP hS hl
  cases hz
  show W p (zl E) e room_1 s m #[Value.ref b] below meth c H locs cx sx (if (1 : Int32) = 1 then lw_Z below #[Value.ref b] s else fun _ => True) (F0 m pc ls [.int 1])
  rw [if_pos rfl]
  refine va_forget (fun q hq => by rw [← hZ]; exact hS.2.2 q hq) ?_
  refine W.widen (k := 601024) (n := 7293034) hc hs ?_
  exact lw_ret hx hb hr hlk hd
theorem r_lawN {E : zG} {Γ : zX} {cx sx : Nat} {σ : zS} {pc : Nat} {lv : List (Option Value)} {st : List Value} : zJg E Γ room_1 7 (zQL Γ) cx sx (some ((0 : Int32), σ)) σ pc lv st := by
  obtain ⟨p, e, s, m, args, below, meth, c⟩ := Γ
  intro z hz H locs ls hP hS hl
  cases hz
  show W p (zl E) e room_1 s m args below meth c H locs cx sx (if (0 : Int32) = 1 then lw_Z below args s else fun _ => True) (F0 m pc ls st)
  rw [if_neg (by decide)]
  exact fun T _ _ => ⟨_, Steps.refl _, trivial⟩

def f_L_law_L23 (xs : Nat → Int32) (L : Nat) : Nat → Int32 → zS → Option (Int32 × zS)
  | 0, _, _ => none
  | n + 1, x4, σ => if ((Int32.ofNat L) - (6 : Int32)) < x4 then (some ((1 : Int32), σ)) else (zc x4 L (if ((xs (x4).toNatClampNeg) &&& (31 : Int32)) = (0 : Int32) then (zc (x4 + (1 : Int32)) L (zc (x4 + (2 : Int32)) L (zbind (f_X7_size (xs ((x4 + (1 : Int32))).toNatClampNeg) (xs ((x4 + (2 : Int32))).toNatClampNeg) σ) fun v1 s1 => zc (x4 + (1 : Int32)) L (zc (x4 + (2 : Int32)) L (zbind (f_X8_size (xs ((x4 + (1 : Int32))).toNatClampNeg) (xs ((x4 + (2 : Int32))).toNatClampNeg) s1) fun v2 s2 => f_L_law_L23 xs L n (x4 + (6 : Int32)) s2))))) else (if ((xs (x4).toNatClampNeg) &&& (31 : Int32)) = (1 : Int32) then (zc (x4 + (1 : Int32)) L (zc (x4 + (2 : Int32)) L (zbind (f_X7_get (xs ((x4 + (1 : Int32))).toNatClampNeg) (if (xs ((x4 + (2 : Int32))).toNatClampNeg) = 0 then (0 : Int32) else 1) σ) fun v3 s3 => zc (x4 + (1 : Int32)) L (zc (x4 + (2 : Int32)) L (zbind (f_X8_get (xs ((x4 + (1 : Int32))).toNatClampNeg) (if (xs ((x4 + (2 : Int32))).toNatClampNeg) = 0 then (0 : Int32) else 1) s3) fun v4 s4 => f_L_law_L23 xs L n (x4 + (6 : Int32)) s4))))) else (if ((xs (x4).toNatClampNeg) &&& (31 : Int32)) = (2 : Int32) then (zc (x4 + (1 : Int32)) L (zc (x4 + (2 : Int32)) L (zc (x4 + (3 : Int32)) L (zc (x4 + (4 : Int32)) L (zbind (f_X7_put (xs ((x4 + (1 : Int32))).toNatClampNeg) (xs ((x4 + (2 : Int32))).toNatClampNeg) (if (xs ((x4 + (3 : Int32))).toNatClampNeg) = 0 then (0 : Int32) else 1) (if (xs ((x4 + (4 : Int32))).toNatClampNeg) = 0 then (0 : Int32) else 1) σ) fun v5 s5 => zc (x4 + (1 : Int32)) L (zc (x4 + (2 : Int32)) L (zc (x4 + (3 : Int32)) L (zc (x4 + (4 : Int32)) L (zbind (f_X8_put (xs ((x4 + (1 : Int32))).toNatClampNeg) (xs ((x4 + (2 : Int32))).toNatClampNeg) (if (xs ((x4 + (3 : Int32))).toNatClampNeg) = 0 then (0 : Int32) else 1) (if (xs ((x4 + (4 : Int32))).toNatClampNeg) = 0 then (0 : Int32) else 1) s5) fun v6 s6 => f_L_law_L23 xs L n (x4 + (6 : Int32)) s6))))))))) else (if ((xs (x4).toNatClampNeg) &&& (31 : Int32)) = (3 : Int32) then (zc (x4 + (1 : Int32)) L (zc (x4 + (2 : Int32)) L (zc (x4 + (3 : Int32)) L (zbind (f_L_work (xs ((x4 + (1 : Int32))).toNatClampNeg) (xs ((x4 + (2 : Int32))).toNatClampNeg) (xs ((x4 + (3 : Int32))).toNatClampNeg) σ) fun v7 s7 => zc (x4 + (1 : Int32)) L (zc (x4 + (2 : Int32)) L (zc (x4 + (3 : Int32)) L (zbind (f_X8_work (xs ((x4 + (1 : Int32))).toNatClampNeg) (xs ((x4 + (2 : Int32))).toNatClampNeg) (xs ((x4 + (3 : Int32))).toNatClampNeg) s7) fun v8 s8 => zbind (f_X8_thrown s8) fun v9 s9 => if v9 = v7 then (if v7 = 0 then (zc (0 : Int32) 1 (if (lg_cmp (s9 64 ((0 : Int32)).toNatClampNeg).toInt64 v8.toInt64) = 0 then (f_L_law_L23 xs L n (x4 + (6 : Int32)) s9) else (some ((0 : Int32), s9)))) else (f_L_law_L23 xs L n (x4 + (6 : Int32)) s9)) else (some ((0 : Int32), s9))))))))) else (if ((xs (x4).toNatClampNeg) &&& (31 : Int32)) = (4 : Int32) then (zc (x4 + (1 : Int32)) L (zc (x4 + (2 : Int32)) L (zc (x4 + (3 : Int32)) L (zbind (f_X7_copy (xs ((x4 + (1 : Int32))).toNatClampNeg) (xs ((x4 + (2 : Int32))).toNatClampNeg) (xs ((x4 + (3 : Int32))).toNatClampNeg) σ) fun v10 s10 => zc (x4 + (1 : Int32)) L (zc (x4 + (2 : Int32)) L (zc (x4 + (3 : Int32)) L (zbind (f_X8_copy (xs ((x4 + (1 : Int32))).toNatClampNeg) (xs ((x4 + (2 : Int32))).toNatClampNeg) (xs ((x4 + (3 : Int32))).toNatClampNeg) s10) fun v11 s11 => f_L_law_L23 xs L n (x4 + (6 : Int32)) s11))))))) else (if ((xs (x4).toNatClampNeg) &&& (31 : Int32)) = (5 : Int32) then (zc (x4 + (1 : Int32)) L (zc (x4 + (2 : Int32)) L (zc (x4 + (3 : Int32)) L (zc (x4 + (4 : Int32)) L (zbind (f_X7_look (xs ((x4 + (1 : Int32))).toNatClampNeg) (xs ((x4 + (2 : Int32))).toNatClampNeg) (xs ((x4 + (3 : Int32))).toNatClampNeg) (xs ((x4 + (4 : Int32))).toNatClampNeg) σ) fun v12 s12 => zc (x4 + (1 : Int32)) L (zc (x4 + (2 : Int32)) L (zc (x4 + (3 : Int32)) L (zc (x4 + (4 : Int32)) L (zbind (f_X8_look (xs ((x4 + (1 : Int32))).toNatClampNeg) (xs ((x4 + (2 : Int32))).toNatClampNeg) (xs ((x4 + (3 : Int32))).toNatClampNeg) (xs ((x4 + (4 : Int32))).toNatClampNeg) s12) fun v13 s13 => f_L_law_L23 xs L n (x4 + (6 : Int32)) s13))))))))) else (if ((xs (x4).toNatClampNeg) &&& (31 : Int32)) = (6 : Int32) then (zc (x4 + (1 : Int32)) L (zbind (f_X7_random (xs ((x4 + (1 : Int32))).toNatClampNeg) σ) fun v14 s14 => zc (x4 + (1 : Int32)) L (zbind (f_X8_random (xs ((x4 + (1 : Int32))).toNatClampNeg) s14) fun v15 s15 => f_L_law_L23 xs L n (x4 + (6 : Int32)) s15))) else (if ((xs (x4).toNatClampNeg) &&& (31 : Int32)) = (7 : Int32) then (zc (x4 + (1 : Int32)) L (zbind (f_X7_tape (xs ((x4 + (1 : Int32))).toNatClampNeg) σ) fun v16 s16 => zc (x4 + (1 : Int32)) L (zbind (f_X8_tape (xs ((x4 + (1 : Int32))).toNatClampNeg) s16) fun v17 s17 => f_L_law_L23 xs L n (x4 + (6 : Int32)) s17))) else (if ((xs (x4).toNatClampNeg) &&& (31 : Int32)) = (8 : Int32) then (zc (x4 + (1 : Int32)) L (zbind (f_X7_globe (xs ((x4 + (1 : Int32))).toNatClampNeg) σ) fun v18 s18 => zc (x4 + (1 : Int32)) L (zbind (f_X8_globe (xs ((x4 + (1 : Int32))).toNatClampNeg) s18) fun v19 s19 => f_L_law_L23 xs L n (x4 + (6 : Int32)) s19))) else (if ((xs (x4).toNatClampNeg) &&& (31 : Int32)) = (9 : Int32) then (zc (x4 + (1 : Int32)) L (zbind (f_X7_form (xs ((x4 + (1 : Int32))).toNatClampNeg) σ) fun v20 s20 => zc (x4 + (1 : Int32)) L (zbind (f_X8_form (xs ((x4 + (1 : Int32))).toNatClampNeg) s20) fun v21 s21 => f_L_law_L23 xs L n (x4 + (6 : Int32)) s21))) else (if ((xs (x4).toNatClampNeg) &&& (31 : Int32)) = (10 : Int32) then (zc (x4 + (1 : Int32)) L (zc (x4 + (2 : Int32)) L (zc (x4 + (3 : Int32)) L (zc (x4 + (4 : Int32)) L (zc (x4 + (5 : Int32)) L (zbind (f_X7_instruction (xs ((x4 + (1 : Int32))).toNatClampNeg) (xs ((x4 + (2 : Int32))).toNatClampNeg) (xs ((x4 + (3 : Int32))).toNatClampNeg) (xs ((x4 + (4 : Int32))).toNatClampNeg) (xs ((x4 + (5 : Int32))).toNatClampNeg) σ) fun v22 s22 => zc (x4 + (1 : Int32)) L (zc (x4 + (2 : Int32)) L (zc (x4 + (3 : Int32)) L (zc (x4 + (4 : Int32)) L (zc (x4 + (5 : Int32)) L (zbind (f_X8_instruction (xs ((x4 + (1 : Int32))).toNatClampNeg) (xs ((x4 + (2 : Int32))).toNatClampNeg) (xs ((x4 + (3 : Int32))).toNatClampNeg) (xs ((x4 + (4 : Int32))).toNatClampNeg) (xs ((x4 + (5 : Int32))).toNatClampNeg) s22) fun v23 s23 => f_L_law_L23 xs L n (x4 + (6 : Int32)) s23))))))))))) else (if ((xs (x4).toNatClampNeg) &&& (31 : Int32)) = (11 : Int32) then (zc (x4 + (1 : Int32)) L (zc (x4 + (2 : Int32)) L (zc (x4 + (3 : Int32)) L (zc (x4 + (4 : Int32)) L (zbind (f_X7_routine (xs ((x4 + (1 : Int32))).toNatClampNeg) (xs ((x4 + (2 : Int32))).toNatClampNeg) (xs ((x4 + (3 : Int32))).toNatClampNeg) (if (xs ((x4 + (4 : Int32))).toNatClampNeg) = 0 then (0 : Int32) else 1) σ) fun v24 s24 => zc (x4 + (1 : Int32)) L (zc (x4 + (2 : Int32)) L (zc (x4 + (3 : Int32)) L (zc (x4 + (4 : Int32)) L (zbind (f_X8_routine (xs ((x4 + (1 : Int32))).toNatClampNeg) (xs ((x4 + (2 : Int32))).toNatClampNeg) (xs ((x4 + (3 : Int32))).toNatClampNeg) (if (xs ((x4 + (4 : Int32))).toNatClampNeg) = 0 then (0 : Int32) else 1) s24) fun v25 s25 => f_L_law_L23 xs L n (x4 + (6 : Int32)) s25))))))))) else (if ((xs (x4).toNatClampNeg) &&& (31 : Int32)) = (12 : Int32) then (zbind (f_X7_clear σ) fun v26 s26 => zbind (f_X8_clear s26) fun v27 s27 => f_L_law_L23 xs L n (x4 + (6 : Int32)) s27) else (if ((xs (x4).toNatClampNeg) &&& (31 : Int32)) = (13 : Int32) then (zc (x4 + (1 : Int32)) L (zc (x4 + (2 : Int32)) L (zc (x4 + (3 : Int32)) L (zbind (f_X7_run (xs ((x4 + (1 : Int32))).toNatClampNeg) (xs ((x4 + (2 : Int32))).toNatClampNeg) (xs ((x4 + (3 : Int32))).toNatClampNeg) σ) fun v28 s28 => zc (x4 + (1 : Int32)) L (zc (x4 + (2 : Int32)) L (zc (x4 + (3 : Int32)) L (zbind (f_X8_run (xs ((x4 + (1 : Int32))).toNatClampNeg) (xs ((x4 + (2 : Int32))).toNatClampNeg) (xs ((x4 + (3 : Int32))).toNatClampNeg) s28) fun v29 s29 => f_L_law_L23 xs L n (x4 + (6 : Int32)) s29))))))) else (if ((xs (x4).toNatClampNeg) &&& (31 : Int32)) = (14 : Int32) then (zc (x4 + (1 : Int32)) L (zbind (f_X7_told (xs ((x4 + (1 : Int32))).toNatClampNeg) σ) fun v30 s30 => zc (x4 + (1 : Int32)) L (zbind (f_X8_told (xs ((x4 + (1 : Int32))).toNatClampNeg) s30) fun v31 s31 => f_L_law_L23 xs L n (x4 + (6 : Int32)) s31))) else (if ((xs (x4).toNatClampNeg) &&& (31 : Int32)) = (15 : Int32) then (zc (x4 + (1 : Int32)) L (zbind (f_L_printed (xs ((x4 + (1 : Int32))).toNatClampNeg) σ) fun v32 s32 => zc (x4 + (1 : Int32)) L (zbind (f_X8_printed (xs ((x4 + (1 : Int32))).toNatClampNeg) s32) fun v33 s33 => f_L_law_L23 xs L n (x4 + (6 : Int32)) s33))) else (if ((xs (x4).toNatClampNeg) &&& (31 : Int32)) = (16 : Int32) then (zc (x4 + (1 : Int32)) L (zbind (f_X7_left (xs ((x4 + (1 : Int32))).toNatClampNeg) σ) fun v34 s34 => zc (x4 + (1 : Int32)) L (zbind (f_X8_left (xs ((x4 + (1 : Int32))).toNatClampNeg) s34) fun v35 s35 => f_L_law_L23 xs L n (x4 + (6 : Int32)) s35))) else (f_L_law_L23 xs L n (x4 + (6 : Int32)) σ)))))))))))))))))))
set_option maxHeartbeats 40000000 in
set_option maxRecDepth 100000 in
theorem g_L_law {E : zG} {Γ : zX} {b L : Nat} {xs : Nat → Int32} (C : zO E Γ RL code 7 ret) (S : zSc E Γ b L xs) (SB : zSb E Γ b) : ∀ (n : Nat) (x4 : Int32) (σ : zS) (cx sx : Nat), cx + n ≤ 601024 → sx + 6 * n ≤ 7293034 → zJg E Γ room_1 7 (zQL Γ) cx sx (f_L_law_L23 xs L n x4 σ) σ 23 [some (.ref b), some (.ref (zad E 0)), some (.ref (zad E 45)), some (.ref (zad E 64)), some (.int x4), none, none] [] := by
  intro n
  induction n with
  | zero => intro x4 σ cx sx _ _; rw [f_L_law_L23]; exact r_none
  | succ n ih =>
    intro x4 σ cx sx hcx hsx
    rw [f_L_law_L23]
    refine r_iload (pc := 23) C dL_law_23 rfl ?_
    refine r_aload_n (pc := 25) C dL_law_25 rfl ?_
    refine r_slen (pc := 26) C S dL_law_26 ?_
    refine r_bipush (pc := 27) (v := 6) C dL_law_27 (by decide) ?_
    refine r_isub (pc := 29) C dL_law_29 ?_
    refine r_icmp_gt (pc := 30) (tgt := 893) C dL_law_30 (by decide) (fun _ => ?_) (fun _ => ?_)
    · refine r_iconst (pc := 893) (v := 1) C dL_law_893 (by decide) ?_
      exact r_lawY (pc := 894) C SB (by omega) (by omega) dL_law_894
    · refine r_aload_n (pc := 33) C dL_law_33 rfl ?_
      refine r_iload (pc := 34) C dL_law_34 rfl ?_
      refine r_sld (pc := 36) C S dL_law_36 ?_
      refine r_bipush (pc := 37) (v := 31) C dL_law_37 (by decide) ?_
      refine r_iand (pc := 39) C dL_law_39 ?_
      refine r_split (fun h1 => ?_) (fun h1 => ?_)
      · refine r_tabIn (pc := 40) (v := 0) (tgt := 124) C dL_law_40 h1 (by decide) (by decide) rfl (by decide) ?_
        refine r_aload_n (pc := 124) C dL_law_124 rfl ?_
        refine r_aload_n (pc := 125) C dL_law_125 rfl ?_
        refine r_iload (pc := 126) C dL_law_126 rfl ?_
        refine r_iconst (pc := 128) (v := 1) C dL_law_128 (by decide) ?_
        refine r_iadd (pc := 129) C dL_law_129 ?_
        refine r_sld (pc := 130) C S dL_law_130 ?_
        refine r_aload_n (pc := 131) C dL_law_131 rfl ?_
        refine r_iload (pc := 132) C dL_law_132 rfl ?_
        refine r_iconst (pc := 134) (v := 2) C dL_law_134 (by decide) ?_
        refine r_iadd (pc := 135) C dL_law_135 ?_
        refine r_sld (pc := 136) C S dL_law_136 ?_
        refine r_callV (pc := 137) C 0 (c_X7_size (zO.ap C) _ _ _) lk_c_X7_size lk_i_X7 lk_m_L_27 lk_n_X7_size lk_v_X7_size (n := 2) (by decide +kernel) rfl ⟨rfl, rfl⟩ (by decide) (by decide) rfl rfl rfl (Nat.le_of_ble_eq_true rfl) ⟨by show _ ≤ 601024; omega, by show _ ≤ 7293034; omega⟩ dL_law_137 (fun v1 s1 _ => ?_)
        refine r_pop (pc := 140) C dL_law_140 rfl ?_
        refine r_aload_n (pc := 141) C dL_law_141 rfl ?_
        refine r_aload_n (pc := 142) C dL_law_142 rfl ?_
        refine r_iload (pc := 143) C dL_law_143 rfl ?_
        refine r_iconst (pc := 145) (v := 1) C dL_law_145 (by decide) ?_
        refine r_iadd (pc := 146) C dL_law_146 ?_
        refine r_sld (pc := 147) C S dL_law_147 ?_
        refine r_aload_n (pc := 148) C dL_law_148 rfl ?_
        refine r_iload (pc := 149) C dL_law_149 rfl ?_
        refine r_iconst (pc := 151) (v := 2) C dL_law_151 (by decide) ?_
        refine r_iadd (pc := 152) C dL_law_152 ?_
        refine r_sld (pc := 153) C S dL_law_153 ?_
        refine r_callV (pc := 154) C 45 (c_X8_size (zO.ap C) _ _ _) lk_c_X8_size lk_i_X8 lk_m_L_31 lk_n_X8_size lk_v_X8_size (n := 2) (by decide +kernel) rfl ⟨rfl, rfl⟩ (by decide) (by decide) rfl rfl rfl (Nat.le_of_ble_eq_true rfl) ⟨by show _ ≤ 601024; omega, by show _ ≤ 7293034; omega⟩ dL_law_154 (fun v2 s2 _ => ?_)
        refine r_pop (pc := 157) C dL_law_157 rfl ?_
        refine r_goto (pc := 158) (tgt := 887) C dL_law_158 (by decide) ?_
        refine r_iinc (pc := 887) (lv' := [some (.ref b), some (.ref (zad E 0)), some (.ref (zad E 45)), some (.ref (zad E 64)), some (.int (x4 + (6 : Int32))), none, none]) C dL_law_887 (by decide) rfl rfl rfl ?_
        refine r_goto (pc := 890) (tgt := 23) C dL_law_890 (by decide) ?_
        exact ih _ _ _ _ (by omega) (by omega)
      · refine r_split (fun h2 => ?_) (fun h2 => ?_)
        · refine r_tabIn (pc := 40) (v := 1) (tgt := 161) C dL_law_40 h2 (by decide) (by decide) rfl (by decide) ?_
          refine r_aload_n (pc := 161) C dL_law_161 rfl ?_
          refine r_aload_n (pc := 162) C dL_law_162 rfl ?_
          refine r_iload (pc := 163) C dL_law_163 rfl ?_
          refine r_iconst (pc := 165) (v := 1) C dL_law_165 (by decide) ?_
          refine r_iadd (pc := 166) C dL_law_166 ?_
          refine r_sld (pc := 167) C S dL_law_167 ?_
          refine r_aload_n (pc := 168) C dL_law_168 rfl ?_
          refine r_iload (pc := 169) C dL_law_169 rfl ?_
          refine r_iconst (pc := 171) (v := 2) C dL_law_171 (by decide) ?_
          refine r_iadd (pc := 172) C dL_law_172 ?_
          refine r_sld (pc := 173) C S dL_law_173 ?_
          refine r_bool (pc := 174) (t1 := 181) (t2 := 182) C dL_law_174 (by decide) dL_law_177 dL_law_178 (by decide) dL_law_181 rfl ?_
          refine r_callV (pc := 182) C 0 (c_X7_get (zO.ap C) _ _ _) lk_c_X7_get lk_i_X7 lk_m_L_32 lk_n_X7_get lk_v_X7_get (n := 2) (by decide +kernel) rfl ⟨rfl, rfl⟩ (by decide) (by decide) rfl rfl rfl (Nat.le_of_ble_eq_true rfl) ⟨by show _ ≤ 601024; omega, by show _ ≤ 7293034; omega⟩ dL_law_182 (fun v3 s3 _ => ?_)
          refine r_pop (pc := 185) C dL_law_185 rfl ?_
          refine r_aload_n (pc := 186) C dL_law_186 rfl ?_
          refine r_aload_n (pc := 187) C dL_law_187 rfl ?_
          refine r_iload (pc := 188) C dL_law_188 rfl ?_
          refine r_iconst (pc := 190) (v := 1) C dL_law_190 (by decide) ?_
          refine r_iadd (pc := 191) C dL_law_191 ?_
          refine r_sld (pc := 192) C S dL_law_192 ?_
          refine r_aload_n (pc := 193) C dL_law_193 rfl ?_
          refine r_iload (pc := 194) C dL_law_194 rfl ?_
          refine r_iconst (pc := 196) (v := 2) C dL_law_196 (by decide) ?_
          refine r_iadd (pc := 197) C dL_law_197 ?_
          refine r_sld (pc := 198) C S dL_law_198 ?_
          refine r_bool (pc := 199) (t1 := 206) (t2 := 207) C dL_law_199 (by decide) dL_law_202 dL_law_203 (by decide) dL_law_206 rfl ?_
          refine r_callV (pc := 207) C 45 (c_X8_get (zO.ap C) _ _ _) lk_c_X8_get lk_i_X8 lk_m_L_36 lk_n_X8_get lk_v_X8_get (n := 2) (by decide +kernel) rfl ⟨rfl, rfl⟩ (by decide) (by decide) rfl rfl rfl (Nat.le_of_ble_eq_true rfl) ⟨by show _ ≤ 601024; omega, by show _ ≤ 7293034; omega⟩ dL_law_207 (fun v4 s4 _ => ?_)
          refine r_pop (pc := 210) C dL_law_210 rfl ?_
          refine r_goto (pc := 211) (tgt := 887) C dL_law_211 (by decide) ?_
          refine r_iinc (pc := 887) (lv' := [some (.ref b), some (.ref (zad E 0)), some (.ref (zad E 45)), some (.ref (zad E 64)), some (.int (x4 + (6 : Int32))), none, none]) C dL_law_887 (by decide) rfl rfl rfl ?_
          refine r_goto (pc := 890) (tgt := 23) C dL_law_890 (by decide) ?_
          exact ih _ _ _ _ (by omega) (by omega)
        · refine r_split (fun h3 => ?_) (fun h3 => ?_)
          · refine r_tabIn (pc := 40) (v := 2) (tgt := 214) C dL_law_40 h3 (by decide) (by decide) rfl (by decide) ?_
            refine r_aload_n (pc := 214) C dL_law_214 rfl ?_
            refine r_aload_n (pc := 215) C dL_law_215 rfl ?_
            refine r_iload (pc := 216) C dL_law_216 rfl ?_
            refine r_iconst (pc := 218) (v := 1) C dL_law_218 (by decide) ?_
            refine r_iadd (pc := 219) C dL_law_219 ?_
            refine r_sld (pc := 220) C S dL_law_220 ?_
            refine r_aload_n (pc := 221) C dL_law_221 rfl ?_
            refine r_iload (pc := 222) C dL_law_222 rfl ?_
            refine r_iconst (pc := 224) (v := 2) C dL_law_224 (by decide) ?_
            refine r_iadd (pc := 225) C dL_law_225 ?_
            refine r_sld (pc := 226) C S dL_law_226 ?_
            refine r_aload_n (pc := 227) C dL_law_227 rfl ?_
            refine r_iload (pc := 228) C dL_law_228 rfl ?_
            refine r_iconst (pc := 230) (v := 3) C dL_law_230 (by decide) ?_
            refine r_iadd (pc := 231) C dL_law_231 ?_
            refine r_sld (pc := 232) C S dL_law_232 ?_
            refine r_bool (pc := 233) (t1 := 240) (t2 := 241) C dL_law_233 (by decide) dL_law_236 dL_law_237 (by decide) dL_law_240 rfl ?_
            refine r_aload_n (pc := 241) C dL_law_241 rfl ?_
            refine r_iload (pc := 242) C dL_law_242 rfl ?_
            refine r_iconst (pc := 244) (v := 4) C dL_law_244 (by decide) ?_
            refine r_iadd (pc := 245) C dL_law_245 ?_
            refine r_sld (pc := 246) C S dL_law_246 ?_
            refine r_bool (pc := 247) (t1 := 254) (t2 := 255) C dL_law_247 (by decide) dL_law_250 dL_law_251 (by decide) dL_law_254 rfl ?_
            refine r_callV (pc := 255) C 0 (c_X7_put (zO.ap C) _ _ _ _ _) lk_c_X7_put lk_i_X7 lk_m_L_37 lk_n_X7_put lk_v_X7_put (n := 4) (by decide +kernel) rfl ⟨rfl, rfl⟩ (by decide) (by decide) rfl rfl rfl (Nat.le_of_ble_eq_true rfl) ⟨by show _ ≤ 601024; omega, by show _ ≤ 7293034; omega⟩ dL_law_255 (fun v5 s5 _ => ?_)
            refine r_pop (pc := 258) C dL_law_258 rfl ?_
            refine r_aload_n (pc := 259) C dL_law_259 rfl ?_
            refine r_aload_n (pc := 260) C dL_law_260 rfl ?_
            refine r_iload (pc := 261) C dL_law_261 rfl ?_
            refine r_iconst (pc := 263) (v := 1) C dL_law_263 (by decide) ?_
            refine r_iadd (pc := 264) C dL_law_264 ?_
            refine r_sld (pc := 265) C S dL_law_265 ?_
            refine r_aload_n (pc := 266) C dL_law_266 rfl ?_
            refine r_iload (pc := 267) C dL_law_267 rfl ?_
            refine r_iconst (pc := 269) (v := 2) C dL_law_269 (by decide) ?_
            refine r_iadd (pc := 270) C dL_law_270 ?_
            refine r_sld (pc := 271) C S dL_law_271 ?_
            refine r_aload_n (pc := 272) C dL_law_272 rfl ?_
            refine r_iload (pc := 273) C dL_law_273 rfl ?_
            refine r_iconst (pc := 275) (v := 3) C dL_law_275 (by decide) ?_
            refine r_iadd (pc := 276) C dL_law_276 ?_
            refine r_sld (pc := 277) C S dL_law_277 ?_
            refine r_bool (pc := 278) (t1 := 285) (t2 := 286) C dL_law_278 (by decide) dL_law_281 dL_law_282 (by decide) dL_law_285 rfl ?_
            refine r_aload_n (pc := 286) C dL_law_286 rfl ?_
            refine r_iload (pc := 287) C dL_law_287 rfl ?_
            refine r_iconst (pc := 289) (v := 4) C dL_law_289 (by decide) ?_
            refine r_iadd (pc := 290) C dL_law_290 ?_
            refine r_sld (pc := 291) C S dL_law_291 ?_
            refine r_bool (pc := 292) (t1 := 299) (t2 := 300) C dL_law_292 (by decide) dL_law_295 dL_law_296 (by decide) dL_law_299 rfl ?_
            refine r_callV (pc := 300) C 45 (c_X8_put (zO.ap C) _ _ _ _ _) lk_c_X8_put lk_i_X8 lk_m_L_41 lk_n_X8_put lk_v_X8_put (n := 4) (by decide +kernel) rfl ⟨rfl, rfl⟩ (by decide) (by decide) rfl rfl rfl (Nat.le_of_ble_eq_true rfl) ⟨by show _ ≤ 601024; omega, by show _ ≤ 7293034; omega⟩ dL_law_300 (fun v6 s6 _ => ?_)
            refine r_pop (pc := 303) C dL_law_303 rfl ?_
            refine r_goto (pc := 304) (tgt := 887) C dL_law_304 (by decide) ?_
            refine r_iinc (pc := 887) (lv' := [some (.ref b), some (.ref (zad E 0)), some (.ref (zad E 45)), some (.ref (zad E 64)), some (.int (x4 + (6 : Int32))), none, none]) C dL_law_887 (by decide) rfl rfl rfl ?_
            refine r_goto (pc := 890) (tgt := 23) C dL_law_890 (by decide) ?_
            exact ih _ _ _ _ (by omega) (by omega)
          · refine r_split (fun h4 => ?_) (fun h4 => ?_)
            · refine r_tabIn (pc := 40) (v := 3) (tgt := 307) C dL_law_40 h4 (by decide) (by decide) rfl (by decide) ?_
              refine r_aload_n (pc := 307) C dL_law_307 rfl ?_
              refine r_aload_n (pc := 308) C dL_law_308 rfl ?_
              refine r_iload (pc := 309) C dL_law_309 rfl ?_
              refine r_iconst (pc := 311) (v := 1) C dL_law_311 (by decide) ?_
              refine r_iadd (pc := 312) C dL_law_312 ?_
              refine r_sld (pc := 313) C S dL_law_313 ?_
              refine r_aload_n (pc := 314) C dL_law_314 rfl ?_
              refine r_iload (pc := 315) C dL_law_315 rfl ?_
              refine r_iconst (pc := 317) (v := 2) C dL_law_317 (by decide) ?_
              refine r_iadd (pc := 318) C dL_law_318 ?_
              refine r_sld (pc := 319) C S dL_law_319 ?_
              refine r_aload_n (pc := 320) C dL_law_320 rfl ?_
              refine r_iload (pc := 321) C dL_law_321 rfl ?_
              refine r_iconst (pc := 323) (v := 3) C dL_law_323 (by decide) ?_
              refine r_iadd (pc := 324) C dL_law_324 ?_
              refine r_sld (pc := 325) C S dL_law_325 ?_
              refine r_aload_n (pc := 326) C dL_law_326 rfl ?_
              refine r_callSW (pc := 327) (n := 5) (As := [.ref (zad E 0), .int (xs ((x4 + (1 : Int32))).toNatClampNeg), .int (xs ((x4 + (2 : Int32))).toNatClampNeg), .int (xs ((x4 + (3 : Int32))).toNatClampNeg), .ref (zad E 64)]) (rest := []) C (c_L_work (zO.ap C) _ _ _ _) lw_cw_work SB.ini lk_m_L_42 lw_st_work (by decide +kernel) rfl ⟨rfl, rfl⟩ (by decide) (by decide) ⟨by show _ ≤ 601024; omega, by show _ ≤ 7293034; omega⟩ rfl rfl dL_law_327 (fun v7 s7 _ => ?_)
              refine r_istore (pc := 330) (lv' := [some (.ref b), some (.ref (zad E 0)), some (.ref (zad E 45)), some (.ref (zad E 64)), some (.int x4), some (.int v7), none]) C dL_law_330 (by decide) rfl ?_
              refine r_aload_n (pc := 332) C dL_law_332 rfl ?_
              refine r_aload_n (pc := 333) C dL_law_333 rfl ?_
              refine r_iload (pc := 334) C dL_law_334 rfl ?_
              refine r_iconst (pc := 336) (v := 1) C dL_law_336 (by decide) ?_
              refine r_iadd (pc := 337) C dL_law_337 ?_
              refine r_sld (pc := 338) C S dL_law_338 ?_
              refine r_aload_n (pc := 339) C dL_law_339 rfl ?_
              refine r_iload (pc := 340) C dL_law_340 rfl ?_
              refine r_iconst (pc := 342) (v := 2) C dL_law_342 (by decide) ?_
              refine r_iadd (pc := 343) C dL_law_343 ?_
              refine r_sld (pc := 344) C S dL_law_344 ?_
              refine r_aload_n (pc := 345) C dL_law_345 rfl ?_
              refine r_iload (pc := 346) C dL_law_346 rfl ?_
              refine r_iconst (pc := 348) (v := 3) C dL_law_348 (by decide) ?_
              refine r_iadd (pc := 349) C dL_law_349 ?_
              refine r_sld (pc := 350) C S dL_law_350 ?_
              refine r_callV (pc := 351) C 45 (c_X8_work (zO.ap C) _ _ _ _) lk_c_X8_work lk_i_X8 lk_m_L_47 lk_n_X8_work lk_v_X8_work (n := 3) (by decide +kernel) rfl ⟨rfl, rfl⟩ (by decide) (by decide) rfl rfl rfl (Nat.le_of_ble_eq_true rfl) ⟨by show _ ≤ 601024; omega, by show _ ≤ 7293034; omega⟩ dL_law_351 (fun v8 s8 _ => ?_)
              refine r_istore (pc := 354) (lv' := [some (.ref b), some (.ref (zad E 0)), some (.ref (zad E 45)), some (.ref (zad E 64)), some (.int x4), some (.int v7), some (.int v8)]) C dL_law_354 (by decide) rfl ?_
              refine r_aload_n (pc := 356) C dL_law_356 rfl ?_
              refine r_callV (pc := 357) C 45 (c_X8_thrown (zO.ap C)  _) lk_c_X8_thrown lk_i_X8 lk_m_L_48 lk_n_X8_thrown lk_v_X8_thrown (n := 0) (by decide +kernel) rfl ⟨rfl, rfl⟩ (by decide) (by decide) rfl rfl rfl (Nat.le_of_ble_eq_true rfl) ⟨by show _ ≤ 601024; omega, by show _ ≤ 7293034; omega⟩ dL_law_357 (fun v9 s9 _ => ?_)
              refine r_iload (pc := 360) C dL_law_360 rfl ?_
              refine r_icmp_eq (pc := 362) (tgt := 367) C dL_law_362 (by decide) (fun _ => ?_) (fun _ => ?_)
              · refine r_iload (pc := 367) C dL_law_367 rfl ?_
                refine r_if_ne (pc := 369) (tgt := 384) C dL_law_369 (by decide) (fun _ => ?_) (fun _ => ?_)
                · refine r_aload_n (pc := 372) C dL_law_372 rfl ?_
                  refine r_iconst (pc := 373) (v := 0) C dL_law_373 (by decide) ?_
                  refine r_lald (pc := 374) (t0 := 3) C 64 (by decide) rfl rfl dL_law_374 ?_
                  refine r_iload (pc := 375) C dL_law_375 rfl ?_
                  refine r_i2l (pc := 377) C dL_law_377 ?_
                  refine r_lcmp (pc := 378) C dL_law_378 ?_
                  refine r_if_eq (pc := 379) (tgt := 384) C dL_law_379 (by decide) (fun _ => ?_) (fun _ => ?_)
                  · refine r_goto (pc := 384) (tgt := 887) C dL_law_384 (by decide) ?_
                    refine r_iinc (pc := 887) (lv' := [some (.ref b), some (.ref (zad E 0)), some (.ref (zad E 45)), some (.ref (zad E 64)), some (.int (x4 + (6 : Int32))), some (.int v7), some (.int v8)]) C dL_law_887 (by decide) rfl rfl rfl ?_
                    refine r_goto (pc := 890) (tgt := 23) C dL_law_890 (by decide) ?_
                    refine r_mask [true, true, true, true, true, false, false] (lv' := [some (.ref b), some (.ref (zad E 0)), some (.ref (zad E 45)), some (.ref (zad E 64)), some (.int (x4 + (6 : Int32))), none, none]) rfl ?_
                    exact ih _ _ _ _ (by omega) (by omega)
                  · refine r_iconst (pc := 382) (v := 0) C dL_law_382 (by decide) ?_
                    exact r_lawN
                · refine r_goto (pc := 384) (tgt := 887) C dL_law_384 (by decide) ?_
                  refine r_iinc (pc := 887) (lv' := [some (.ref b), some (.ref (zad E 0)), some (.ref (zad E 45)), some (.ref (zad E 64)), some (.int (x4 + (6 : Int32))), some (.int v7), some (.int v8)]) C dL_law_887 (by decide) rfl rfl rfl ?_
                  refine r_goto (pc := 890) (tgt := 23) C dL_law_890 (by decide) ?_
                  refine r_mask [true, true, true, true, true, false, false] (lv' := [some (.ref b), some (.ref (zad E 0)), some (.ref (zad E 45)), some (.ref (zad E 64)), some (.int (x4 + (6 : Int32))), none, none]) rfl ?_
                  exact ih _ _ _ _ (by omega) (by omega)
              · refine r_iconst (pc := 365) (v := 0) C dL_law_365 (by decide) ?_
                exact r_lawN
            · refine r_split (fun h5 => ?_) (fun h5 => ?_)
              · refine r_tabIn (pc := 40) (v := 4) (tgt := 387) C dL_law_40 h5 (by decide) (by decide) rfl (by decide) ?_
                refine r_aload_n (pc := 387) C dL_law_387 rfl ?_
                refine r_aload_n (pc := 388) C dL_law_388 rfl ?_
                refine r_iload (pc := 389) C dL_law_389 rfl ?_
                refine r_iconst (pc := 391) (v := 1) C dL_law_391 (by decide) ?_
                refine r_iadd (pc := 392) C dL_law_392 ?_
                refine r_sld (pc := 393) C S dL_law_393 ?_
                refine r_aload_n (pc := 394) C dL_law_394 rfl ?_
                refine r_iload (pc := 395) C dL_law_395 rfl ?_
                refine r_iconst (pc := 397) (v := 2) C dL_law_397 (by decide) ?_
                refine r_iadd (pc := 398) C dL_law_398 ?_
                refine r_sld (pc := 399) C S dL_law_399 ?_
                refine r_aload_n (pc := 400) C dL_law_400 rfl ?_
                refine r_iload (pc := 401) C dL_law_401 rfl ?_
                refine r_iconst (pc := 403) (v := 3) C dL_law_403 (by decide) ?_
                refine r_iadd (pc := 404) C dL_law_404 ?_
                refine r_sld (pc := 405) C S dL_law_405 ?_
                refine r_callV (pc := 406) C 0 (c_X7_copy (zO.ap C) _ _ _ _) lk_c_X7_copy lk_i_X7 lk_m_L_52 lk_n_X7_copy lk_v_X7_copy (n := 3) (by decide +kernel) rfl ⟨rfl, rfl⟩ (by decide) (by decide) rfl rfl rfl (Nat.le_of_ble_eq_true rfl) ⟨by show _ ≤ 601024; omega, by show _ ≤ 7293034; omega⟩ dL_law_406 (fun v10 s10 _ => ?_)
                refine r_pop (pc := 409) C dL_law_409 rfl ?_
                refine r_aload_n (pc := 410) C dL_law_410 rfl ?_
                refine r_aload_n (pc := 411) C dL_law_411 rfl ?_
                refine r_iload (pc := 412) C dL_law_412 rfl ?_
                refine r_iconst (pc := 414) (v := 1) C dL_law_414 (by decide) ?_
                refine r_iadd (pc := 415) C dL_law_415 ?_
                refine r_sld (pc := 416) C S dL_law_416 ?_
                refine r_aload_n (pc := 417) C dL_law_417 rfl ?_
                refine r_iload (pc := 418) C dL_law_418 rfl ?_
                refine r_iconst (pc := 420) (v := 2) C dL_law_420 (by decide) ?_
                refine r_iadd (pc := 421) C dL_law_421 ?_
                refine r_sld (pc := 422) C S dL_law_422 ?_
                refine r_aload_n (pc := 423) C dL_law_423 rfl ?_
                refine r_iload (pc := 424) C dL_law_424 rfl ?_
                refine r_iconst (pc := 426) (v := 3) C dL_law_426 (by decide) ?_
                refine r_iadd (pc := 427) C dL_law_427 ?_
                refine r_sld (pc := 428) C S dL_law_428 ?_
                refine r_callV (pc := 429) C 45 (c_X8_copy (zO.ap C) _ _ _ _) lk_c_X8_copy lk_i_X8 lk_m_L_55 lk_n_X8_copy lk_v_X8_copy (n := 3) (by decide +kernel) rfl ⟨rfl, rfl⟩ (by decide) (by decide) rfl rfl rfl (Nat.le_of_ble_eq_true rfl) ⟨by show _ ≤ 601024; omega, by show _ ≤ 7293034; omega⟩ dL_law_429 (fun v11 s11 _ => ?_)
                refine r_pop (pc := 432) C dL_law_432 rfl ?_
                refine r_goto (pc := 433) (tgt := 887) C dL_law_433 (by decide) ?_
                refine r_iinc (pc := 887) (lv' := [some (.ref b), some (.ref (zad E 0)), some (.ref (zad E 45)), some (.ref (zad E 64)), some (.int (x4 + (6 : Int32))), none, none]) C dL_law_887 (by decide) rfl rfl rfl ?_
                refine r_goto (pc := 890) (tgt := 23) C dL_law_890 (by decide) ?_
                exact ih _ _ _ _ (by omega) (by omega)
              · refine r_split (fun h6 => ?_) (fun h6 => ?_)
                · refine r_tabIn (pc := 40) (v := 5) (tgt := 436) C dL_law_40 h6 (by decide) (by decide) rfl (by decide) ?_
                  refine r_aload_n (pc := 436) C dL_law_436 rfl ?_
                  refine r_aload_n (pc := 437) C dL_law_437 rfl ?_
                  refine r_iload (pc := 438) C dL_law_438 rfl ?_
                  refine r_iconst (pc := 440) (v := 1) C dL_law_440 (by decide) ?_
                  refine r_iadd (pc := 441) C dL_law_441 ?_
                  refine r_sld (pc := 442) C S dL_law_442 ?_
                  refine r_aload_n (pc := 443) C dL_law_443 rfl ?_
                  refine r_iload (pc := 444) C dL_law_444 rfl ?_
                  refine r_iconst (pc := 446) (v := 2) C dL_law_446 (by decide) ?_
                  refine r_iadd (pc := 447) C dL_law_447 ?_
                  refine r_sld (pc := 448) C S dL_law_448 ?_
                  refine r_aload_n (pc := 449) C dL_law_449 rfl ?_
                  refine r_iload (pc := 450) C dL_law_450 rfl ?_
                  refine r_iconst (pc := 452) (v := 3) C dL_law_452 (by decide) ?_
                  refine r_iadd (pc := 453) C dL_law_453 ?_
                  refine r_sld (pc := 454) C S dL_law_454 ?_
                  refine r_aload_n (pc := 455) C dL_law_455 rfl ?_
                  refine r_iload (pc := 456) C dL_law_456 rfl ?_
                  refine r_iconst (pc := 458) (v := 4) C dL_law_458 (by decide) ?_
                  refine r_iadd (pc := 459) C dL_law_459 ?_
                  refine r_sld (pc := 460) C S dL_law_460 ?_
                  refine r_callV (pc := 461) C 0 (c_X7_look (zO.ap C) _ _ _ _ _) lk_c_X7_look lk_i_X7 lk_m_L_56 lk_n_X7_look lk_v_X7_look (n := 4) (by decide +kernel) rfl ⟨rfl, rfl⟩ (by decide) (by decide) rfl rfl rfl (Nat.le_of_ble_eq_true rfl) ⟨by show _ ≤ 601024; omega, by show _ ≤ 7293034; omega⟩ dL_law_461 (fun v12 s12 _ => ?_)
                  refine r_pop (pc := 464) C dL_law_464 rfl ?_
                  refine r_aload_n (pc := 465) C dL_law_465 rfl ?_
                  refine r_aload_n (pc := 466) C dL_law_466 rfl ?_
                  refine r_iload (pc := 467) C dL_law_467 rfl ?_
                  refine r_iconst (pc := 469) (v := 1) C dL_law_469 (by decide) ?_
                  refine r_iadd (pc := 470) C dL_law_470 ?_
                  refine r_sld (pc := 471) C S dL_law_471 ?_
                  refine r_aload_n (pc := 472) C dL_law_472 rfl ?_
                  refine r_iload (pc := 473) C dL_law_473 rfl ?_
                  refine r_iconst (pc := 475) (v := 2) C dL_law_475 (by decide) ?_
                  refine r_iadd (pc := 476) C dL_law_476 ?_
                  refine r_sld (pc := 477) C S dL_law_477 ?_
                  refine r_aload_n (pc := 478) C dL_law_478 rfl ?_
                  refine r_iload (pc := 479) C dL_law_479 rfl ?_
                  refine r_iconst (pc := 481) (v := 3) C dL_law_481 (by decide) ?_
                  refine r_iadd (pc := 482) C dL_law_482 ?_
                  refine r_sld (pc := 483) C S dL_law_483 ?_
                  refine r_aload_n (pc := 484) C dL_law_484 rfl ?_
                  refine r_iload (pc := 485) C dL_law_485 rfl ?_
                  refine r_iconst (pc := 487) (v := 4) C dL_law_487 (by decide) ?_
                  refine r_iadd (pc := 488) C dL_law_488 ?_
                  refine r_sld (pc := 489) C S dL_law_489 ?_
                  refine r_callV (pc := 490) C 45 (c_X8_look (zO.ap C) _ _ _ _ _) lk_c_X8_look lk_i_X8 lk_m_L_60 lk_n_X8_look lk_v_X8_look (n := 4) (by decide +kernel) rfl ⟨rfl, rfl⟩ (by decide) (by decide) rfl rfl rfl (Nat.le_of_ble_eq_true rfl) ⟨by show _ ≤ 601024; omega, by show _ ≤ 7293034; omega⟩ dL_law_490 (fun v13 s13 _ => ?_)
                  refine r_pop (pc := 493) C dL_law_493 rfl ?_
                  refine r_goto (pc := 494) (tgt := 887) C dL_law_494 (by decide) ?_
                  refine r_iinc (pc := 887) (lv' := [some (.ref b), some (.ref (zad E 0)), some (.ref (zad E 45)), some (.ref (zad E 64)), some (.int (x4 + (6 : Int32))), none, none]) C dL_law_887 (by decide) rfl rfl rfl ?_
                  refine r_goto (pc := 890) (tgt := 23) C dL_law_890 (by decide) ?_
                  exact ih _ _ _ _ (by omega) (by omega)
                · refine r_split (fun h7 => ?_) (fun h7 => ?_)
                  · refine r_tabIn (pc := 40) (v := 6) (tgt := 497) C dL_law_40 h7 (by decide) (by decide) rfl (by decide) ?_
                    refine r_aload_n (pc := 497) C dL_law_497 rfl ?_
                    refine r_aload_n (pc := 498) C dL_law_498 rfl ?_
                    refine r_iload (pc := 499) C dL_law_499 rfl ?_
                    refine r_iconst (pc := 501) (v := 1) C dL_law_501 (by decide) ?_
                    refine r_iadd (pc := 502) C dL_law_502 ?_
                    refine r_sld (pc := 503) C S dL_law_503 ?_
                    refine r_callV (pc := 504) C 0 (c_X7_random (zO.ap C) _ _) lk_c_X7_random lk_i_X7 lk_m_L_61 lk_n_X7_random lk_v_X7_random (n := 1) (by decide +kernel) rfl ⟨rfl, rfl⟩ (by decide) (by decide) rfl rfl rfl (Nat.le_of_ble_eq_true rfl) ⟨by show _ ≤ 601024; omega, by show _ ≤ 7293034; omega⟩ dL_law_504 (fun v14 s14 _ => ?_)
                    refine r_pop (pc := 507) C dL_law_507 rfl ?_
                    refine r_aload_n (pc := 508) C dL_law_508 rfl ?_
                    refine r_aload_n (pc := 509) C dL_law_509 rfl ?_
                    refine r_iload (pc := 510) C dL_law_510 rfl ?_
                    refine r_iconst (pc := 512) (v := 1) C dL_law_512 (by decide) ?_
                    refine r_iadd (pc := 513) C dL_law_513 ?_
                    refine r_sld (pc := 514) C S dL_law_514 ?_
                    refine r_callV (pc := 515) C 45 (c_X8_random (zO.ap C) _ _) lk_c_X8_random lk_i_X8 lk_m_L_64 lk_n_X8_random lk_v_X8_random (n := 1) (by decide +kernel) rfl ⟨rfl, rfl⟩ (by decide) (by decide) rfl rfl rfl (Nat.le_of_ble_eq_true rfl) ⟨by show _ ≤ 601024; omega, by show _ ≤ 7293034; omega⟩ dL_law_515 (fun v15 s15 _ => ?_)
                    refine r_pop (pc := 518) C dL_law_518 rfl ?_
                    refine r_goto (pc := 519) (tgt := 887) C dL_law_519 (by decide) ?_
                    refine r_iinc (pc := 887) (lv' := [some (.ref b), some (.ref (zad E 0)), some (.ref (zad E 45)), some (.ref (zad E 64)), some (.int (x4 + (6 : Int32))), none, none]) C dL_law_887 (by decide) rfl rfl rfl ?_
                    refine r_goto (pc := 890) (tgt := 23) C dL_law_890 (by decide) ?_
                    exact ih _ _ _ _ (by omega) (by omega)
                  · refine r_split (fun h8 => ?_) (fun h8 => ?_)
                    · refine r_tabIn (pc := 40) (v := 7) (tgt := 522) C dL_law_40 h8 (by decide) (by decide) rfl (by decide) ?_
                      refine r_aload_n (pc := 522) C dL_law_522 rfl ?_
                      refine r_aload_n (pc := 523) C dL_law_523 rfl ?_
                      refine r_iload (pc := 524) C dL_law_524 rfl ?_
                      refine r_iconst (pc := 526) (v := 1) C dL_law_526 (by decide) ?_
                      refine r_iadd (pc := 527) C dL_law_527 ?_
                      refine r_sld (pc := 528) C S dL_law_528 ?_
                      refine r_callV (pc := 529) C 0 (c_X7_tape (zO.ap C) _ _) lk_c_X7_tape lk_i_X7 lk_m_L_65 lk_n_X7_tape lk_v_X7_tape (n := 1) (by decide +kernel) rfl ⟨rfl, rfl⟩ (by decide) (by decide) rfl rfl rfl (Nat.le_of_ble_eq_true rfl) ⟨by show _ ≤ 601024; omega, by show _ ≤ 7293034; omega⟩ dL_law_529 (fun v16 s16 _ => ?_)
                      refine r_pop (pc := 532) C dL_law_532 rfl ?_
                      refine r_aload_n (pc := 533) C dL_law_533 rfl ?_
                      refine r_aload_n (pc := 534) C dL_law_534 rfl ?_
                      refine r_iload (pc := 535) C dL_law_535 rfl ?_
                      refine r_iconst (pc := 537) (v := 1) C dL_law_537 (by decide) ?_
                      refine r_iadd (pc := 538) C dL_law_538 ?_
                      refine r_sld (pc := 539) C S dL_law_539 ?_
                      refine r_callV (pc := 540) C 45 (c_X8_tape (zO.ap C) _ _) lk_c_X8_tape lk_i_X8 lk_m_L_68 lk_n_X8_tape lk_v_X8_tape (n := 1) (by decide +kernel) rfl ⟨rfl, rfl⟩ (by decide) (by decide) rfl rfl rfl (Nat.le_of_ble_eq_true rfl) ⟨by show _ ≤ 601024; omega, by show _ ≤ 7293034; omega⟩ dL_law_540 (fun v17 s17 _ => ?_)
                      refine r_pop (pc := 543) C dL_law_543 rfl ?_
                      refine r_goto (pc := 544) (tgt := 887) C dL_law_544 (by decide) ?_
                      refine r_iinc (pc := 887) (lv' := [some (.ref b), some (.ref (zad E 0)), some (.ref (zad E 45)), some (.ref (zad E 64)), some (.int (x4 + (6 : Int32))), none, none]) C dL_law_887 (by decide) rfl rfl rfl ?_
                      refine r_goto (pc := 890) (tgt := 23) C dL_law_890 (by decide) ?_
                      exact ih _ _ _ _ (by omega) (by omega)
                    · refine r_split (fun h9 => ?_) (fun h9 => ?_)
                      · refine r_tabIn (pc := 40) (v := 8) (tgt := 547) C dL_law_40 h9 (by decide) (by decide) rfl (by decide) ?_
                        refine r_aload_n (pc := 547) C dL_law_547 rfl ?_
                        refine r_aload_n (pc := 548) C dL_law_548 rfl ?_
                        refine r_iload (pc := 549) C dL_law_549 rfl ?_
                        refine r_iconst (pc := 551) (v := 1) C dL_law_551 (by decide) ?_
                        refine r_iadd (pc := 552) C dL_law_552 ?_
                        refine r_sld (pc := 553) C S dL_law_553 ?_
                        refine r_callV (pc := 554) C 0 (c_X7_globe (zO.ap C) _ _) lk_c_X7_globe lk_i_X7 lk_m_L_69 lk_n_X7_globe lk_v_X7_globe (n := 1) (by decide +kernel) rfl ⟨rfl, rfl⟩ (by decide) (by decide) rfl rfl rfl (Nat.le_of_ble_eq_true rfl) ⟨by show _ ≤ 601024; omega, by show _ ≤ 7293034; omega⟩ dL_law_554 (fun v18 s18 _ => ?_)
                        refine r_pop (pc := 557) C dL_law_557 rfl ?_
                        refine r_aload_n (pc := 558) C dL_law_558 rfl ?_
                        refine r_aload_n (pc := 559) C dL_law_559 rfl ?_
                        refine r_iload (pc := 560) C dL_law_560 rfl ?_
                        refine r_iconst (pc := 562) (v := 1) C dL_law_562 (by decide) ?_
                        refine r_iadd (pc := 563) C dL_law_563 ?_
                        refine r_sld (pc := 564) C S dL_law_564 ?_
                        refine r_callV (pc := 565) C 45 (c_X8_globe (zO.ap C) _ _) lk_c_X8_globe lk_i_X8 lk_m_L_72 lk_n_X8_globe lk_v_X8_globe (n := 1) (by decide +kernel) rfl ⟨rfl, rfl⟩ (by decide) (by decide) rfl rfl rfl (Nat.le_of_ble_eq_true rfl) ⟨by show _ ≤ 601024; omega, by show _ ≤ 7293034; omega⟩ dL_law_565 (fun v19 s19 _ => ?_)
                        refine r_pop (pc := 568) C dL_law_568 rfl ?_
                        refine r_goto (pc := 569) (tgt := 887) C dL_law_569 (by decide) ?_
                        refine r_iinc (pc := 887) (lv' := [some (.ref b), some (.ref (zad E 0)), some (.ref (zad E 45)), some (.ref (zad E 64)), some (.int (x4 + (6 : Int32))), none, none]) C dL_law_887 (by decide) rfl rfl rfl ?_
                        refine r_goto (pc := 890) (tgt := 23) C dL_law_890 (by decide) ?_
                        exact ih _ _ _ _ (by omega) (by omega)
                      · refine r_split (fun h10 => ?_) (fun h10 => ?_)
                        · refine r_tabIn (pc := 40) (v := 9) (tgt := 572) C dL_law_40 h10 (by decide) (by decide) rfl (by decide) ?_
                          refine r_aload_n (pc := 572) C dL_law_572 rfl ?_
                          refine r_aload_n (pc := 573) C dL_law_573 rfl ?_
                          refine r_iload (pc := 574) C dL_law_574 rfl ?_
                          refine r_iconst (pc := 576) (v := 1) C dL_law_576 (by decide) ?_
                          refine r_iadd (pc := 577) C dL_law_577 ?_
                          refine r_sld (pc := 578) C S dL_law_578 ?_
                          refine r_callV (pc := 579) C 0 (c_X7_form (zO.ap C) _ _) lk_c_X7_form lk_i_X7 lk_m_L_73 lk_n_X7_form lk_v_X7_form (n := 1) (by decide +kernel) rfl ⟨rfl, rfl⟩ (by decide) (by decide) rfl rfl rfl (Nat.le_of_ble_eq_true rfl) ⟨by show _ ≤ 601024; omega, by show _ ≤ 7293034; omega⟩ dL_law_579 (fun v20 s20 _ => ?_)
                          refine r_pop (pc := 582) C dL_law_582 rfl ?_
                          refine r_aload_n (pc := 583) C dL_law_583 rfl ?_
                          refine r_aload_n (pc := 584) C dL_law_584 rfl ?_
                          refine r_iload (pc := 585) C dL_law_585 rfl ?_
                          refine r_iconst (pc := 587) (v := 1) C dL_law_587 (by decide) ?_
                          refine r_iadd (pc := 588) C dL_law_588 ?_
                          refine r_sld (pc := 589) C S dL_law_589 ?_
                          refine r_callV (pc := 590) C 45 (c_X8_form (zO.ap C) _ _) lk_c_X8_form lk_i_X8 lk_m_L_76 lk_n_X8_form lk_v_X8_form (n := 1) (by decide +kernel) rfl ⟨rfl, rfl⟩ (by decide) (by decide) rfl rfl rfl (Nat.le_of_ble_eq_true rfl) ⟨by show _ ≤ 601024; omega, by show _ ≤ 7293034; omega⟩ dL_law_590 (fun v21 s21 _ => ?_)
                          refine r_pop (pc := 593) C dL_law_593 rfl ?_
                          refine r_goto (pc := 594) (tgt := 887) C dL_law_594 (by decide) ?_
                          refine r_iinc (pc := 887) (lv' := [some (.ref b), some (.ref (zad E 0)), some (.ref (zad E 45)), some (.ref (zad E 64)), some (.int (x4 + (6 : Int32))), none, none]) C dL_law_887 (by decide) rfl rfl rfl ?_
                          refine r_goto (pc := 890) (tgt := 23) C dL_law_890 (by decide) ?_
                          exact ih _ _ _ _ (by omega) (by omega)
                        · refine r_split (fun h11 => ?_) (fun h11 => ?_)
                          · refine r_tabIn (pc := 40) (v := 10) (tgt := 597) C dL_law_40 h11 (by decide) (by decide) rfl (by decide) ?_
                            refine r_aload_n (pc := 597) C dL_law_597 rfl ?_
                            refine r_aload_n (pc := 598) C dL_law_598 rfl ?_
                            refine r_iload (pc := 599) C dL_law_599 rfl ?_
                            refine r_iconst (pc := 601) (v := 1) C dL_law_601 (by decide) ?_
                            refine r_iadd (pc := 602) C dL_law_602 ?_
                            refine r_sld (pc := 603) C S dL_law_603 ?_
                            refine r_aload_n (pc := 604) C dL_law_604 rfl ?_
                            refine r_iload (pc := 605) C dL_law_605 rfl ?_
                            refine r_iconst (pc := 607) (v := 2) C dL_law_607 (by decide) ?_
                            refine r_iadd (pc := 608) C dL_law_608 ?_
                            refine r_sld (pc := 609) C S dL_law_609 ?_
                            refine r_aload_n (pc := 610) C dL_law_610 rfl ?_
                            refine r_iload (pc := 611) C dL_law_611 rfl ?_
                            refine r_iconst (pc := 613) (v := 3) C dL_law_613 (by decide) ?_
                            refine r_iadd (pc := 614) C dL_law_614 ?_
                            refine r_sld (pc := 615) C S dL_law_615 ?_
                            refine r_aload_n (pc := 616) C dL_law_616 rfl ?_
                            refine r_iload (pc := 617) C dL_law_617 rfl ?_
                            refine r_iconst (pc := 619) (v := 4) C dL_law_619 (by decide) ?_
                            refine r_iadd (pc := 620) C dL_law_620 ?_
                            refine r_sld (pc := 621) C S dL_law_621 ?_
                            refine r_aload_n (pc := 622) C dL_law_622 rfl ?_
                            refine r_iload (pc := 623) C dL_law_623 rfl ?_
                            refine r_iconst (pc := 625) (v := 5) C dL_law_625 (by decide) ?_
                            refine r_iadd (pc := 626) C dL_law_626 ?_
                            refine r_sld (pc := 627) C S dL_law_627 ?_
                            refine r_callV (pc := 628) C 0 (c_X7_instruction (zO.ap C) _ _ _ _ _ _) lk_c_X7_instruction lk_i_X7 lk_m_L_77 lk_n_X7_instruction lk_v_X7_instruction (n := 5) (by decide +kernel) rfl ⟨rfl, rfl⟩ (by decide) (by decide) rfl rfl rfl (Nat.le_of_ble_eq_true rfl) ⟨by show _ ≤ 601024; omega, by show _ ≤ 7293034; omega⟩ dL_law_628 (fun v22 s22 _ => ?_)
                            refine r_pop (pc := 631) C dL_law_631 rfl ?_
                            refine r_aload_n (pc := 632) C dL_law_632 rfl ?_
                            refine r_aload_n (pc := 633) C dL_law_633 rfl ?_
                            refine r_iload (pc := 634) C dL_law_634 rfl ?_
                            refine r_iconst (pc := 636) (v := 1) C dL_law_636 (by decide) ?_
                            refine r_iadd (pc := 637) C dL_law_637 ?_
                            refine r_sld (pc := 638) C S dL_law_638 ?_
                            refine r_aload_n (pc := 639) C dL_law_639 rfl ?_
                            refine r_iload (pc := 640) C dL_law_640 rfl ?_
                            refine r_iconst (pc := 642) (v := 2) C dL_law_642 (by decide) ?_
                            refine r_iadd (pc := 643) C dL_law_643 ?_
                            refine r_sld (pc := 644) C S dL_law_644 ?_
                            refine r_aload_n (pc := 645) C dL_law_645 rfl ?_
                            refine r_iload (pc := 646) C dL_law_646 rfl ?_
                            refine r_iconst (pc := 648) (v := 3) C dL_law_648 (by decide) ?_
                            refine r_iadd (pc := 649) C dL_law_649 ?_
                            refine r_sld (pc := 650) C S dL_law_650 ?_
                            refine r_aload_n (pc := 651) C dL_law_651 rfl ?_
                            refine r_iload (pc := 652) C dL_law_652 rfl ?_
                            refine r_iconst (pc := 654) (v := 4) C dL_law_654 (by decide) ?_
                            refine r_iadd (pc := 655) C dL_law_655 ?_
                            refine r_sld (pc := 656) C S dL_law_656 ?_
                            refine r_aload_n (pc := 657) C dL_law_657 rfl ?_
                            refine r_iload (pc := 658) C dL_law_658 rfl ?_
                            refine r_iconst (pc := 660) (v := 5) C dL_law_660 (by decide) ?_
                            refine r_iadd (pc := 661) C dL_law_661 ?_
                            refine r_sld (pc := 662) C S dL_law_662 ?_
                            refine r_callV (pc := 663) C 45 (c_X8_instruction (zO.ap C) _ _ _ _ _ _) lk_c_X8_instruction lk_i_X8 lk_m_L_81 lk_n_X8_instruction lk_v_X8_instruction (n := 5) (by decide +kernel) rfl ⟨rfl, rfl⟩ (by decide) (by decide) rfl rfl rfl (Nat.le_of_ble_eq_true rfl) ⟨by show _ ≤ 601024; omega, by show _ ≤ 7293034; omega⟩ dL_law_663 (fun v23 s23 _ => ?_)
                            refine r_pop (pc := 666) C dL_law_666 rfl ?_
                            refine r_goto (pc := 667) (tgt := 887) C dL_law_667 (by decide) ?_
                            refine r_iinc (pc := 887) (lv' := [some (.ref b), some (.ref (zad E 0)), some (.ref (zad E 45)), some (.ref (zad E 64)), some (.int (x4 + (6 : Int32))), none, none]) C dL_law_887 (by decide) rfl rfl rfl ?_
                            refine r_goto (pc := 890) (tgt := 23) C dL_law_890 (by decide) ?_
                            exact ih _ _ _ _ (by omega) (by omega)
                          · refine r_split (fun h12 => ?_) (fun h12 => ?_)
                            · refine r_tabIn (pc := 40) (v := 11) (tgt := 670) C dL_law_40 h12 (by decide) (by decide) rfl (by decide) ?_
                              refine r_aload_n (pc := 670) C dL_law_670 rfl ?_
                              refine r_aload_n (pc := 671) C dL_law_671 rfl ?_
                              refine r_iload (pc := 672) C dL_law_672 rfl ?_
                              refine r_iconst (pc := 674) (v := 1) C dL_law_674 (by decide) ?_
                              refine r_iadd (pc := 675) C dL_law_675 ?_
                              refine r_sld (pc := 676) C S dL_law_676 ?_
                              refine r_aload_n (pc := 677) C dL_law_677 rfl ?_
                              refine r_iload (pc := 678) C dL_law_678 rfl ?_
                              refine r_iconst (pc := 680) (v := 2) C dL_law_680 (by decide) ?_
                              refine r_iadd (pc := 681) C dL_law_681 ?_
                              refine r_sld (pc := 682) C S dL_law_682 ?_
                              refine r_aload_n (pc := 683) C dL_law_683 rfl ?_
                              refine r_iload (pc := 684) C dL_law_684 rfl ?_
                              refine r_iconst (pc := 686) (v := 3) C dL_law_686 (by decide) ?_
                              refine r_iadd (pc := 687) C dL_law_687 ?_
                              refine r_sld (pc := 688) C S dL_law_688 ?_
                              refine r_aload_n (pc := 689) C dL_law_689 rfl ?_
                              refine r_iload (pc := 690) C dL_law_690 rfl ?_
                              refine r_iconst (pc := 692) (v := 4) C dL_law_692 (by decide) ?_
                              refine r_iadd (pc := 693) C dL_law_693 ?_
                              refine r_sld (pc := 694) C S dL_law_694 ?_
                              refine r_bool (pc := 695) (t1 := 702) (t2 := 703) C dL_law_695 (by decide) dL_law_698 dL_law_699 (by decide) dL_law_702 rfl ?_
                              refine r_callV (pc := 703) C 0 (c_X7_routine (zO.ap C) _ _ _ _ _) lk_c_X7_routine lk_i_X7 lk_m_L_82 lk_n_X7_routine lk_v_X7_routine (n := 4) (by decide +kernel) rfl ⟨rfl, rfl⟩ (by decide) (by decide) rfl rfl rfl (Nat.le_of_ble_eq_true rfl) ⟨by show _ ≤ 601024; omega, by show _ ≤ 7293034; omega⟩ dL_law_703 (fun v24 s24 _ => ?_)
                              refine r_pop (pc := 706) C dL_law_706 rfl ?_
                              refine r_aload_n (pc := 707) C dL_law_707 rfl ?_
                              refine r_aload_n (pc := 708) C dL_law_708 rfl ?_
                              refine r_iload (pc := 709) C dL_law_709 rfl ?_
                              refine r_iconst (pc := 711) (v := 1) C dL_law_711 (by decide) ?_
                              refine r_iadd (pc := 712) C dL_law_712 ?_
                              refine r_sld (pc := 713) C S dL_law_713 ?_
                              refine r_aload_n (pc := 714) C dL_law_714 rfl ?_
                              refine r_iload (pc := 715) C dL_law_715 rfl ?_
                              refine r_iconst (pc := 717) (v := 2) C dL_law_717 (by decide) ?_
                              refine r_iadd (pc := 718) C dL_law_718 ?_
                              refine r_sld (pc := 719) C S dL_law_719 ?_
                              refine r_aload_n (pc := 720) C dL_law_720 rfl ?_
                              refine r_iload (pc := 721) C dL_law_721 rfl ?_
                              refine r_iconst (pc := 723) (v := 3) C dL_law_723 (by decide) ?_
                              refine r_iadd (pc := 724) C dL_law_724 ?_
                              refine r_sld (pc := 725) C S dL_law_725 ?_
                              refine r_aload_n (pc := 726) C dL_law_726 rfl ?_
                              refine r_iload (pc := 727) C dL_law_727 rfl ?_
                              refine r_iconst (pc := 729) (v := 4) C dL_law_729 (by decide) ?_
                              refine r_iadd (pc := 730) C dL_law_730 ?_
                              refine r_sld (pc := 731) C S dL_law_731 ?_
                              refine r_bool (pc := 732) (t1 := 739) (t2 := 740) C dL_law_732 (by decide) dL_law_735 dL_law_736 (by decide) dL_law_739 rfl ?_
                              refine r_callV (pc := 740) C 45 (c_X8_routine (zO.ap C) _ _ _ _ _) lk_c_X8_routine lk_i_X8 lk_m_L_86 lk_n_X8_routine lk_v_X8_routine (n := 4) (by decide +kernel) rfl ⟨rfl, rfl⟩ (by decide) (by decide) rfl rfl rfl (Nat.le_of_ble_eq_true rfl) ⟨by show _ ≤ 601024; omega, by show _ ≤ 7293034; omega⟩ dL_law_740 (fun v25 s25 _ => ?_)
                              refine r_pop (pc := 743) C dL_law_743 rfl ?_
                              refine r_goto (pc := 744) (tgt := 887) C dL_law_744 (by decide) ?_
                              refine r_iinc (pc := 887) (lv' := [some (.ref b), some (.ref (zad E 0)), some (.ref (zad E 45)), some (.ref (zad E 64)), some (.int (x4 + (6 : Int32))), none, none]) C dL_law_887 (by decide) rfl rfl rfl ?_
                              refine r_goto (pc := 890) (tgt := 23) C dL_law_890 (by decide) ?_
                              exact ih _ _ _ _ (by omega) (by omega)
                            · refine r_split (fun h13 => ?_) (fun h13 => ?_)
                              · refine r_tabIn (pc := 40) (v := 12) (tgt := 747) C dL_law_40 h13 (by decide) (by decide) rfl (by decide) ?_
                                refine r_aload_n (pc := 747) C dL_law_747 rfl ?_
                                refine r_callV (pc := 748) C 0 (c_X7_clear (zO.ap C)  _) lk_c_X7_clear lk_i_X7 lk_m_L_87 lk_n_X7_clear lk_v_X7_clear (n := 0) (by decide +kernel) rfl ⟨rfl, rfl⟩ (by decide) (by decide) rfl rfl rfl (Nat.le_of_ble_eq_true rfl) ⟨by show _ ≤ 601024; omega, by show _ ≤ 7293034; omega⟩ dL_law_748 (fun v26 s26 _ => ?_)
                                refine r_pop (pc := 751) C dL_law_751 rfl ?_
                                refine r_aload_n (pc := 752) C dL_law_752 rfl ?_
                                refine r_callV (pc := 753) C 45 (c_X8_clear (zO.ap C)  _) lk_c_X8_clear lk_i_X8 lk_m_L_90 lk_n_X8_clear lk_v_X8_clear (n := 0) (by decide +kernel) rfl ⟨rfl, rfl⟩ (by decide) (by decide) rfl rfl rfl (Nat.le_of_ble_eq_true rfl) ⟨by show _ ≤ 601024; omega, by show _ ≤ 7293034; omega⟩ dL_law_753 (fun v27 s27 _ => ?_)
                                refine r_pop (pc := 756) C dL_law_756 rfl ?_
                                refine r_goto (pc := 757) (tgt := 887) C dL_law_757 (by decide) ?_
                                refine r_iinc (pc := 887) (lv' := [some (.ref b), some (.ref (zad E 0)), some (.ref (zad E 45)), some (.ref (zad E 64)), some (.int (x4 + (6 : Int32))), none, none]) C dL_law_887 (by decide) rfl rfl rfl ?_
                                refine r_goto (pc := 890) (tgt := 23) C dL_law_890 (by decide) ?_
                                exact ih _ _ _ _ (by omega) (by omega)
                              · refine r_split (fun h14 => ?_) (fun h14 => ?_)
                                · refine r_tabIn (pc := 40) (v := 13) (tgt := 760) C dL_law_40 h14 (by decide) (by decide) rfl (by decide) ?_
                                  refine r_aload_n (pc := 760) C dL_law_760 rfl ?_
                                  refine r_aload_n (pc := 761) C dL_law_761 rfl ?_
                                  refine r_iload (pc := 762) C dL_law_762 rfl ?_
                                  refine r_iconst (pc := 764) (v := 1) C dL_law_764 (by decide) ?_
                                  refine r_iadd (pc := 765) C dL_law_765 ?_
                                  refine r_sld (pc := 766) C S dL_law_766 ?_
                                  refine r_aload_n (pc := 767) C dL_law_767 rfl ?_
                                  refine r_iload (pc := 768) C dL_law_768 rfl ?_
                                  refine r_iconst (pc := 770) (v := 2) C dL_law_770 (by decide) ?_
                                  refine r_iadd (pc := 771) C dL_law_771 ?_
                                  refine r_sld (pc := 772) C S dL_law_772 ?_
                                  refine r_aload_n (pc := 773) C dL_law_773 rfl ?_
                                  refine r_iload (pc := 774) C dL_law_774 rfl ?_
                                  refine r_iconst (pc := 776) (v := 3) C dL_law_776 (by decide) ?_
                                  refine r_iadd (pc := 777) C dL_law_777 ?_
                                  refine r_sld (pc := 778) C S dL_law_778 ?_
                                  refine r_callV (pc := 779) C 0 (c_X7_run (zO.ap C) _ _ _ _) lk_c_X7_run lk_i_X7 lk_m_L_91 lk_n_X7_run lk_v_X7_run (n := 3) (by decide +kernel) rfl ⟨rfl, rfl⟩ (by decide) (by decide) rfl rfl rfl (Nat.le_of_ble_eq_true rfl) ⟨by show _ ≤ 601024; omega, by show _ ≤ 7293034; omega⟩ dL_law_779 (fun v28 s28 _ => ?_)
                                  refine r_pop (pc := 782) C dL_law_782 rfl ?_
                                  refine r_aload_n (pc := 783) C dL_law_783 rfl ?_
                                  refine r_aload_n (pc := 784) C dL_law_784 rfl ?_
                                  refine r_iload (pc := 785) C dL_law_785 rfl ?_
                                  refine r_iconst (pc := 787) (v := 1) C dL_law_787 (by decide) ?_
                                  refine r_iadd (pc := 788) C dL_law_788 ?_
                                  refine r_sld (pc := 789) C S dL_law_789 ?_
                                  refine r_aload_n (pc := 790) C dL_law_790 rfl ?_
                                  refine r_iload (pc := 791) C dL_law_791 rfl ?_
                                  refine r_iconst (pc := 793) (v := 2) C dL_law_793 (by decide) ?_
                                  refine r_iadd (pc := 794) C dL_law_794 ?_
                                  refine r_sld (pc := 795) C S dL_law_795 ?_
                                  refine r_aload_n (pc := 796) C dL_law_796 rfl ?_
                                  refine r_iload (pc := 797) C dL_law_797 rfl ?_
                                  refine r_iconst (pc := 799) (v := 3) C dL_law_799 (by decide) ?_
                                  refine r_iadd (pc := 800) C dL_law_800 ?_
                                  refine r_sld (pc := 801) C S dL_law_801 ?_
                                  refine r_callV (pc := 802) C 45 (c_X8_run (zO.ap C) _ _ _ _) lk_c_X8_run lk_i_X8 lk_m_L_94 lk_n_X8_run lk_v_X8_run (n := 3) (by decide +kernel) rfl ⟨rfl, rfl⟩ (by decide) (by decide) rfl rfl rfl (Nat.le_of_ble_eq_true rfl) ⟨by show _ ≤ 601024; omega, by show _ ≤ 7293034; omega⟩ dL_law_802 (fun v29 s29 _ => ?_)
                                  refine r_pop (pc := 805) C dL_law_805 rfl ?_
                                  refine r_goto (pc := 806) (tgt := 887) C dL_law_806 (by decide) ?_
                                  refine r_iinc (pc := 887) (lv' := [some (.ref b), some (.ref (zad E 0)), some (.ref (zad E 45)), some (.ref (zad E 64)), some (.int (x4 + (6 : Int32))), none, none]) C dL_law_887 (by decide) rfl rfl rfl ?_
                                  refine r_goto (pc := 890) (tgt := 23) C dL_law_890 (by decide) ?_
                                  exact ih _ _ _ _ (by omega) (by omega)
                                · refine r_split (fun h15 => ?_) (fun h15 => ?_)
                                  · refine r_tabIn (pc := 40) (v := 14) (tgt := 809) C dL_law_40 h15 (by decide) (by decide) rfl (by decide) ?_
                                    refine r_aload_n (pc := 809) C dL_law_809 rfl ?_
                                    refine r_aload_n (pc := 810) C dL_law_810 rfl ?_
                                    refine r_iload (pc := 811) C dL_law_811 rfl ?_
                                    refine r_iconst (pc := 813) (v := 1) C dL_law_813 (by decide) ?_
                                    refine r_iadd (pc := 814) C dL_law_814 ?_
                                    refine r_sld (pc := 815) C S dL_law_815 ?_
                                    refine r_callV (pc := 816) C 0 (c_X7_told (zO.ap C) _ _) lk_c_X7_told lk_i_X7 lk_m_L_95 lk_n_X7_told lk_v_X7_told (n := 1) (by decide +kernel) rfl ⟨rfl, rfl⟩ (by decide) (by decide) rfl rfl rfl (Nat.le_of_ble_eq_true rfl) ⟨by show _ ≤ 601024; omega, by show _ ≤ 7293034; omega⟩ dL_law_816 (fun v30 s30 _ => ?_)
                                    refine r_pop (pc := 819) C dL_law_819 rfl ?_
                                    refine r_aload_n (pc := 820) C dL_law_820 rfl ?_
                                    refine r_aload_n (pc := 821) C dL_law_821 rfl ?_
                                    refine r_iload (pc := 822) C dL_law_822 rfl ?_
                                    refine r_iconst (pc := 824) (v := 1) C dL_law_824 (by decide) ?_
                                    refine r_iadd (pc := 825) C dL_law_825 ?_
                                    refine r_sld (pc := 826) C S dL_law_826 ?_
                                    refine r_callV (pc := 827) C 45 (c_X8_told (zO.ap C) _ _) lk_c_X8_told lk_i_X8 lk_m_L_98 lk_n_X8_told lk_v_X8_told (n := 1) (by decide +kernel) rfl ⟨rfl, rfl⟩ (by decide) (by decide) rfl rfl rfl (Nat.le_of_ble_eq_true rfl) ⟨by show _ ≤ 601024; omega, by show _ ≤ 7293034; omega⟩ dL_law_827 (fun v31 s31 _ => ?_)
                                    refine r_pop (pc := 830) C dL_law_830 rfl ?_
                                    refine r_goto (pc := 831) (tgt := 887) C dL_law_831 (by decide) ?_
                                    refine r_iinc (pc := 887) (lv' := [some (.ref b), some (.ref (zad E 0)), some (.ref (zad E 45)), some (.ref (zad E 64)), some (.int (x4 + (6 : Int32))), none, none]) C dL_law_887 (by decide) rfl rfl rfl ?_
                                    refine r_goto (pc := 890) (tgt := 23) C dL_law_890 (by decide) ?_
                                    exact ih _ _ _ _ (by omega) (by omega)
                                  · refine r_split (fun h16 => ?_) (fun h16 => ?_)
                                    · refine r_tabIn (pc := 40) (v := 15) (tgt := 834) C dL_law_40 h16 (by decide) (by decide) rfl (by decide) ?_
                                      refine r_aload_n (pc := 834) C dL_law_834 rfl ?_
                                      refine r_aload_n (pc := 835) C dL_law_835 rfl ?_
                                      refine r_iload (pc := 836) C dL_law_836 rfl ?_
                                      refine r_iconst (pc := 838) (v := 1) C dL_law_838 (by decide) ?_
                                      refine r_iadd (pc := 839) C dL_law_839 ?_
                                      refine r_sld (pc := 840) C S dL_law_840 ?_
                                      refine r_aload_n (pc := 841) C dL_law_841 rfl ?_
                                      refine r_callSW (pc := 842) (n := 3) (As := [.ref (zad E 0), .int (xs ((x4 + (1 : Int32))).toNatClampNeg), .ref (zad E 64)]) (rest := []) C (c_L_printed (zO.ap C) _ _) lw_cw_printed SB.ini lk_m_L_99 lw_st_printed (by decide +kernel) rfl ⟨rfl, rfl⟩ (by decide) (by decide) ⟨by show _ ≤ 601024; omega, by show _ ≤ 7293034; omega⟩ rfl rfl dL_law_842 (fun v32 s32 _ => ?_)
                                      refine r_istore (pc := 845) (lv' := [some (.ref b), some (.ref (zad E 0)), some (.ref (zad E 45)), some (.ref (zad E 64)), some (.int x4), some (.int v32), none]) C dL_law_845 (by decide) rfl ?_
                                      refine r_aload_n (pc := 847) C dL_law_847 rfl ?_
                                      refine r_aload_n (pc := 848) C dL_law_848 rfl ?_
                                      refine r_iload (pc := 849) C dL_law_849 rfl ?_
                                      refine r_iconst (pc := 851) (v := 1) C dL_law_851 (by decide) ?_
                                      refine r_iadd (pc := 852) C dL_law_852 ?_
                                      refine r_sld (pc := 853) C S dL_law_853 ?_
                                      refine r_callV (pc := 854) C 45 (c_X8_printed (zO.ap C) _ _) lk_c_X8_printed lk_i_X8 lk_m_L_102 lk_n_X8_printed lk_v_X8_printed (n := 1) (by decide +kernel) rfl ⟨rfl, rfl⟩ (by decide) (by decide) rfl rfl rfl (Nat.le_of_ble_eq_true rfl) ⟨by show _ ≤ 601024; omega, by show _ ≤ 7293034; omega⟩ dL_law_854 (fun v33 s33 _ => ?_)
                                      refine r_istore (pc := 857) (lv' := [some (.ref b), some (.ref (zad E 0)), some (.ref (zad E 45)), some (.ref (zad E 64)), some (.int x4), some (.int v32), some (.int v33)]) C dL_law_857 (by decide) rfl ?_
                                      refine r_goto (pc := 859) (tgt := 887) C dL_law_859 (by decide) ?_
                                      refine r_iinc (pc := 887) (lv' := [some (.ref b), some (.ref (zad E 0)), some (.ref (zad E 45)), some (.ref (zad E 64)), some (.int (x4 + (6 : Int32))), some (.int v32), some (.int v33)]) C dL_law_887 (by decide) rfl rfl rfl ?_
                                      refine r_goto (pc := 890) (tgt := 23) C dL_law_890 (by decide) ?_
                                      refine r_mask [true, true, true, true, true, false, false] (lv' := [some (.ref b), some (.ref (zad E 0)), some (.ref (zad E 45)), some (.ref (zad E 64)), some (.int (x4 + (6 : Int32))), none, none]) rfl ?_
                                      exact ih _ _ _ _ (by omega) (by omega)
                                    · refine r_split (fun h17 => ?_) (fun h17 => ?_)
                                      · refine r_tabIn (pc := 40) (v := 16) (tgt := 862) C dL_law_40 h17 (by decide) (by decide) rfl (by decide) ?_
                                        refine r_aload_n (pc := 862) C dL_law_862 rfl ?_
                                        refine r_aload_n (pc := 863) C dL_law_863 rfl ?_
                                        refine r_iload (pc := 864) C dL_law_864 rfl ?_
                                        refine r_iconst (pc := 866) (v := 1) C dL_law_866 (by decide) ?_
                                        refine r_iadd (pc := 867) C dL_law_867 ?_
                                        refine r_sld (pc := 868) C S dL_law_868 ?_
                                        refine r_callV (pc := 869) C 0 (c_X7_left (zO.ap C) _ _) lk_c_X7_left lk_i_X7 lk_m_L_103 lk_n_X7_left lk_v_X7_left (n := 1) (by decide +kernel) rfl ⟨rfl, rfl⟩ (by decide) (by decide) rfl rfl rfl (Nat.le_of_ble_eq_true rfl) ⟨by show _ ≤ 601024; omega, by show _ ≤ 7293034; omega⟩ dL_law_869 (fun v34 s34 _ => ?_)
                                        refine r_pop (pc := 872) C dL_law_872 rfl ?_
                                        refine r_aload_n (pc := 873) C dL_law_873 rfl ?_
                                        refine r_aload_n (pc := 874) C dL_law_874 rfl ?_
                                        refine r_iload (pc := 875) C dL_law_875 rfl ?_
                                        refine r_iconst (pc := 877) (v := 1) C dL_law_877 (by decide) ?_
                                        refine r_iadd (pc := 878) C dL_law_878 ?_
                                        refine r_sld (pc := 879) C S dL_law_879 ?_
                                        refine r_callV (pc := 880) C 45 (c_X8_left (zO.ap C) _ _) lk_c_X8_left lk_i_X8 lk_m_L_106 lk_n_X8_left lk_v_X8_left (n := 1) (by decide +kernel) rfl ⟨rfl, rfl⟩ (by decide) (by decide) rfl rfl rfl (Nat.le_of_ble_eq_true rfl) ⟨by show _ ≤ 601024; omega, by show _ ≤ 7293034; omega⟩ dL_law_880 (fun v35 s35 _ => ?_)
                                        refine r_pop (pc := 883) C dL_law_883 rfl ?_
                                        refine r_goto (pc := 884) (tgt := 887) C dL_law_884 (by decide) ?_
                                        refine r_iinc (pc := 887) (lv' := [some (.ref b), some (.ref (zad E 0)), some (.ref (zad E 45)), some (.ref (zad E 64)), some (.int (x4 + (6 : Int32))), none, none]) C dL_law_887 (by decide) rfl rfl rfl ?_
                                        refine r_goto (pc := 890) (tgt := 23) C dL_law_890 (by decide) ?_
                                        exact ih _ _ _ _ (by omega) (by omega)
                                      · refine r_tabOut (pc := 40) (tgt := 887) C dL_law_40 (by have a0 := lv_neT (a := 0) h1 rfl; have a1 := lv_neT (a := 1) h2 rfl; have a2 := lv_neT (a := 2) h3 rfl; have a3 := lv_neT (a := 3) h4 rfl; have a4 := lv_neT (a := 4) h5 rfl; have a5 := lv_neT (a := 5) h6 rfl; have a6 := lv_neT (a := 6) h7 rfl; have a7 := lv_neT (a := 7) h8 rfl; have a8 := lv_neT (a := 8) h9 rfl; have a9 := lv_neT (a := 9) h10 rfl; have a10 := lv_neT (a := 10) h11 rfl; have a11 := lv_neT (a := 11) h12 rfl; have a12 := lv_neT (a := 12) h13 rfl; have a13 := lv_neT (a := 13) h14 rfl; have a14 := lv_neT (a := 14) h15 rfl; have a15 := lv_neT (a := 15) h16 rfl; have a16 := lv_neT (a := 16) h17 rfl; omega) (by decide) ?_
                                        refine r_iinc (pc := 887) (lv' := [some (.ref b), some (.ref (zad E 0)), some (.ref (zad E 45)), some (.ref (zad E 64)), some (.int (x4 + (6 : Int32))), none, none]) C dL_law_887 (by decide) rfl rfl rfl ?_
                                        refine r_goto (pc := 890) (tgt := 23) C dL_law_890 (by decide) ?_
                                        exact ih _ _ _ _ (by omega) (by omega)
