theorem t_X8_get (p0 : Int32) (p1 : Int32) {B F : Int} {σ : zS} (h00 : yR8 B F σ σ) : yT (f_X8_get p0 p1 σ) (fun r τ => yV8 B F y8N σ τ ∧ (True)) := by
 have h0 : yV8 B F y8N σ σ := ⟨h00, fun _ _ _ => rfl⟩
 unfold f_X8_get
 refine q_zV8 h0 ⟨by omega, fr8 rfl rfl⟩ (by unfold y8N; omega) (fun sq1 Rq2 Eq3 Fq4 => ?_)
 refine q_zV8 Rq2 ⟨by omega, fr8 rfl rfl⟩ (by unfold y8N; omega) (fun sq5 Rq6 Eq7 Fq8 => ?_)
 refine q_b8 Rq6 (by intro a b q; unfold y8N at q; unfold y8K; omega) (t_X8_read p0 p1 Rq6.1) (fun rq9 sq11 Rq12 pq10 => ?_)
 have lq13 : (0 : Int32).toInt = 0 := rfl
 refine q_eq (fun hq14 => ?_) (fun hq14 => ?_)
 ·
  exact q_some ⟨Rq12, by first | trivial | omega⟩
 ·
  exact q_some ⟨Rq12, by first | trivial | omega⟩
theorem t_X8_put (p0 : Int32) (p1 : Int32) (p2 : Int32) (p3 : Int32) {B F : Int} {σ : zS} (h00 : yR8 B F σ σ) : yT (f_X8_put p0 p1 p2 p3 σ) (fun r τ => yV8 B F y8N σ τ ∧ (True)) := by
 have h0 : yV8 B F y8N σ σ := ⟨h00, fun _ _ _ => rfl⟩
 unfold f_X8_put
 refine q_zV8 h0 ⟨by omega, fr8 rfl rfl⟩ (by unfold y8N; omega) (fun sq1 Rq2 Eq3 Fq4 => ?_)
 refine q_zV8 Rq2 ⟨by omega, fr8 rfl rfl⟩ (by unfold y8N; omega) (fun sq5 Rq6 Eq7 Fq8 => ?_)
 refine q_b8 Rq6 (by intro a b q; unfold y8N at q; unfold y8K; omega) (t_X8_write p0 p1 p2 p3 Rq6.1) (fun rq9 sq11 Rq12 pq10 => ?_)
 have lq13 : (0 : Int32).toInt = 0 := rfl
 refine q_eq (fun hq14 => ?_) (fun hq14 => ?_)
 ·
  exact q_some ⟨Rq12, by first | trivial | omega⟩
 ·
  exact q_some ⟨Rq12, by first | trivial | omega⟩
theorem t_X8_work (p0 : Int32) (p1 : Int32) (p2 : Int32) {B F : Int} {σ : zS} (h00 : yR8 B F σ σ) : yT (f_X8_work p0 p1 p2 σ) (fun r τ => yV8 B F y8N σ τ ∧ (True)) := by
 have h0 : yV8 B F y8N σ σ := ⟨h00, fun _ _ _ => rfl⟩
 unfold f_X8_work
 refine q_zV8 h0 ⟨by omega, fr8 rfl rfl⟩ (by unfold y8N; omega) (fun sq1 Rq2 Eq3 Fq4 => ?_)
 refine q_zV8 Rq2 ⟨by omega, fr8 rfl rfl⟩ (by unfold y8N; omega) (fun sq5 Rq6 Eq7 Fq8 => ?_)
 have lq9 : (0 : Int32).toInt = 0 := rfl
 refine q_lt (fun hq10 => ?_) (fun hq10 => ?_)
 ·
  refine q_zV8 Rq6 ⟨by omega, fr8 rfl rfl⟩ (by unfold y8N; omega) (fun sq11 Rq12 Eq13 Fq14 => ?_)
  exact q_some ⟨Rq12, by first | trivial | omega⟩
 ·
  have lq15 : (9 : Int32).toInt = 9 := rfl
  refine q_le (fun hq16 => ?_) (fun hq16 => ?_)
  ·
   refine q_bindp (t_X8_signed p1 Rq6.1) (fun rq17 pq18 => ?_)
   refine q_bindp (t_X8_signed p2 Rq6.1) (fun rq19 pq20 => ?_)
   refine q_b8 Rq6 (by intro a b q; unfold y8N at q; unfold y8K; omega) (t_X8_worked p0 rq17 rq19 Rq6.1) (fun rq21 sq23 Rq24 pq22 => ?_)
   refine q_eq (fun hq25 => ?_) (fun hq25 => ?_)
   ·
    refine q_zV8 Rq24 ⟨by omega, fr8 rfl rfl⟩ (by unfold y8N; omega) (fun sq26 Rq27 Eq28 Fq29 => ?_)
    exact q_some ⟨Rq27, by first | trivial | omega⟩
   ·
    refine q_zV8 Rq24 ⟨by omega, fr8 rfl rfl⟩ (by unfold y8N; omega) (fun sq30 Rq31 Eq32 Fq33 => ?_)
    exact q_some ⟨Rq31, by first | trivial | omega⟩
  ·
   refine q_zV8 Rq6 ⟨by omega, fr8 rfl rfl⟩ (by unfold y8N; omega) (fun sq34 Rq35 Eq36 Fq37 => ?_)
   exact q_some ⟨Rq35, by first | trivial | omega⟩
theorem t_X8_copy (p0 : Int32) (p1 : Int32) (p2 : Int32) {B F : Int} {σ : zS} (h00 : yR8 B F σ σ) : yT (f_X8_copy p0 p1 p2 σ) (fun r τ => yV8 B F y8N σ τ ∧ (True)) := by
 have h0 : yV8 B F y8N σ σ := ⟨h00, fun _ _ _ => rfl⟩
 unfold f_X8_copy
 refine q_zV8 h0 ⟨by omega, fr8 rfl rfl⟩ (by unfold y8N; omega) (fun sq1 Rq2 Eq3 Fq4 => ?_)
 refine q_zV8 Rq2 ⟨by omega, fr8 rfl rfl⟩ (by unfold y8N; omega) (fun sq5 Rq6 Eq7 Fq8 => ?_)
 refine q_bindp (t_X8_signed p2 Rq6.1) (fun rq9 pq10 => ?_)
 have lq11 : (65535 : Int32).toInt = 65535 := rfl
 have aq12 := i_65535 p0
 have aq13 := i_65535 p1
 refine q_b8 Rq6 (by intro a b q; unfold y8N at q; unfold y8K; omega) (t_X8_copied (p0 &&& (65535 : Int32)) (p1 &&& (65535 : Int32)) rq9 Rq6.1 (by omega)) (fun rq14 sq16 Rq17 pq15 => ?_)
 have lq18 : (0 : Int32).toInt = 0 := rfl
 refine q_eq (fun hq19 => ?_) (fun hq19 => ?_)
 ·
  exact q_some ⟨Rq17, by first | trivial | omega⟩
 ·
  exact q_some ⟨Rq17, by first | trivial | omega⟩
theorem t_X8_look (p0 : Int32) (p1 : Int32) (p2 : Int32) (p3 : Int32) {B F : Int} {σ : zS} (h00 : yR8 B F σ σ) : yT (f_X8_look p0 p1 p2 p3 σ) (fun r τ => yV8 B F y8N σ τ ∧ (True)) := by
 have h0 : yV8 B F y8N σ σ := ⟨h00, fun _ _ _ => rfl⟩
 unfold f_X8_look
 refine q_zV8 h0 ⟨by omega, fr8 rfl rfl⟩ (by unfold y8N; omega) (fun sq1 Rq2 Eq3 Fq4 => ?_)
 have lq5 : (0 : Int32).toInt = 0 := rfl
 refine q_lt (fun hq6 => ?_) (fun hq6 => ?_)
 ·
  exact q_some ⟨Rq2, by first | trivial | omega⟩
 ·
  have lq7 : (255 : Int32).toInt = 255 := rfl
  refine q_le (fun hq8 => ?_) (fun hq8 => ?_)
  ·
   refine q_zV8 Rq2 ⟨by omega, fr8 rfl rfl⟩ (by unfold y8N; omega) (fun sq9 Rq10 Eq11 Fq12 => ?_)
   refine q_bindp (t_X8_signed p2 Rq10.1) (fun rq13 pq14 => ?_)
   have lq15 : (65535 : Int32).toInt = 65535 := rfl
   have aq16 := i_65535 p0
   have aq17 := i_65535 p1
   refine q_b8 Rq10 (by intro a b q; unfold y8N at q; unfold y8K; omega) (t_X8_looked (p0 &&& (65535 : Int32)) (p1 &&& (65535 : Int32)) rq13 p3 Rq10.1 (by omega)) (fun rq18 sq20 Rq21 pq19 => ?_)
   refine q_eq (fun hq22 => ?_) (fun hq22 => ?_)
   ·
    exact q_some ⟨Rq21, by first | trivial | omega⟩
   ·
    exact q_some ⟨Rq21, by first | trivial | omega⟩
  ·
   exact q_some ⟨Rq2, by first | trivial | omega⟩
theorem t_X8_random (p0 : Int32) {B F : Int} {σ : zS} (h00 : yR8 B F σ σ) : yT (f_X8_random p0 σ) (fun r τ => yV8 B F y8N σ τ ∧ (True)) := by
 have h0 : yV8 B F y8N σ σ := ⟨h00, fun _ _ _ => rfl⟩
 unfold f_X8_random
 refine q_zV8 h0 ⟨by omega, fr8 rfl rfl⟩ (by unfold y8N; omega) (fun sq1 Rq2 Eq3 Fq4 => ?_)
 refine q_bindp (t_X8_signed p0 Rq2.1) (fun rq5 pq6 => ?_)
 refine q_b8 Rq2 (by intro a b q; unfold y8N at q; unfold y8K; omega) (t_X8_drawn rq5 Rq2.1) (fun rq7 sq9 Rq10 pq8 => ?_)
 exact q_some ⟨Rq10, by first | trivial | omega⟩
theorem t_X8_tape (p0 : Int32) {B F : Int} {σ : zS} (h00 : yR8 B F σ σ) : yT (f_X8_tape p0 σ) (fun r τ => yV8 B F y8N σ τ ∧ (True)) := by
 have h0 : yV8 B F y8N σ σ := ⟨h00, fun _ _ _ => rfl⟩
 unfold f_X8_tape
 refine q_zV8 h0 ⟨by omega, fr8 rfl rfl⟩ (by unfold y8N; omega) (fun sq1 Rq2 Eq3 Fq4 => ?_)
 have lq5 : (0 : Int32).toInt = 0 := rfl
 refine q_lt (fun hq6 => ?_) (fun hq6 => ?_)
 ·
  exact q_some ⟨Rq2, by first | trivial | omega⟩
 ·
  have lq7 : (65535 : Int32).toInt = 65535 := rfl
  refine q_le (fun hq8 => ?_) (fun hq8 => ?_)
  ·
   have gq9 := e_11 (Rq2).1
   have eq10 : (sq1 45 11).toInt = (σ 45 11).toInt := congrArg Int32.toInt (Fq4 _ _ (by omega))
   have gq11 := e_11 (h0).1
   have lq12 : (50 : Int32).toInt = 50 := rfl
   refine q_eq (fun hq13 => ?_) (fun hq13 => ?_)
   ·
    exact q_some ⟨Rq2, by first | trivial | omega⟩
   ·
    refine q_c (by omega) (by omega) ?_
    have cq14 : (sq1 45 11).toNatClampNeg = (sq1 45 11).toInt.toNat := rfl
    refine q_zV8 Rq2 ⟨by omega, fr8 rfl rfl⟩ (by unfold y8N; omega) (fun sq15 Rq16 Eq17 Fq18 => ?_)
    have gq23 := e_11 (Rq16).1
    have eq24 : (sq15 45 11).toInt = (sq1 45 11).toInt := congrArg Int32.toInt (Fq18 _ _ (by omega))
    have lq25 : (1 : Int32).toInt = 1 := rfl
    try have aq26 : ((sq15 45 11) + (1 : Int32)).toInt = (sq15 45 11).toInt + (1 : Int32).toInt := i_add (by omega) (by omega)
    refine q_zV8 Rq16 ⟨by omega, show (0 : Int) ≤ _ by omega, show _ ≤ (50 : Int) by omega⟩ (by unfold y8N; omega) (fun sq19 Rq20 Eq21 Fq22 => ?_)
    exact q_some ⟨Rq20, by first | trivial | omega⟩
  ·
   exact q_some ⟨Rq2, by first | trivial | omega⟩
theorem t_X8_told (p0 : Int32) {B F : Int} {σ : zS} (h00 : yR8 B F σ σ) : yT (f_X8_told p0 σ) (fun r τ => yV8 B F y8N σ τ ∧ (True)) := by
 have h0 : yV8 B F y8N σ σ := ⟨h00, fun _ _ _ => rfl⟩
 unfold f_X8_told
 refine q_zV8 h0 ⟨by omega, fr8 rfl rfl⟩ (by unfold y8N; omega) (fun sq1 Rq2 Eq3 Fq4 => ?_)
 have lq5 : (0 : Int32).toInt = 0 := rfl
 refine q_eq (fun hq6 => ?_) (fun hq6 => ?_)
 ·
  exact q_some ⟨Rq2, by first | trivial | omega⟩
 ·
  have lq7 : (1 : Int32).toInt = 1 := rfl
  refine q_eq (fun hq8 => ?_) (fun hq8 => ?_)
  ·
   exact q_some ⟨Rq2, by first | trivial | omega⟩
  ·
   have lq9 : (2 : Int32).toInt = 2 := rfl
   refine q_eq (fun hq10 => ?_) (fun hq10 => ?_)
   ·
    exact q_some ⟨Rq2, by first | trivial | omega⟩
   ·
    have lq11 : (3 : Int32).toInt = 3 := rfl
    refine q_eq (fun hq12 => ?_) (fun hq12 => ?_)
    ·
     exact q_some ⟨Rq2, by first | trivial | omega⟩
    ·
     have lq13 : (4 : Int32).toInt = 4 := rfl
     refine q_eq (fun hq14 => ?_) (fun hq14 => ?_)
     ·
      exact q_some ⟨Rq2, by first | trivial | omega⟩
     ·
      have lq15 : (5 : Int32).toInt = 5 := rfl
      refine q_eq (fun hq16 => ?_) (fun hq16 => ?_)
      ·
       exact q_some ⟨Rq2, by first | trivial | omega⟩
      ·
       have lq17 : (6 : Int32).toInt = 6 := rfl
       refine q_eq (fun hq18 => ?_) (fun hq18 => ?_)
       ·
        exact q_some ⟨Rq2, by first | trivial | omega⟩
       ·
        have lq19 : (7 : Int32).toInt = 7 := rfl
        refine q_eq (fun hq20 => ?_) (fun hq20 => ?_)
        ·
         exact q_some ⟨Rq2, by first | trivial | omega⟩
        ·
         have lq21 : (8 : Int32).toInt = 8 := rfl
         refine q_eq (fun hq22 => ?_) (fun hq22 => ?_)
         ·
          exact q_some ⟨Rq2, by first | trivial | omega⟩
         ·
          exact q_some ⟨Rq2, by first | trivial | omega⟩
theorem t_X8_printed (p0 : Int32) {B F : Int} {σ : zS} (h00 : yR8 B F σ σ) : yT (f_X8_printed p0 σ) (fun r τ => yV8 B F y8N σ τ ∧ (True)) := by
 have h0 : yV8 B F y8N σ σ := ⟨h00, fun _ _ _ => rfl⟩
 unfold f_X8_printed
 refine q_zV8 h0 ⟨by omega, fr8 rfl rfl⟩ (by unfold y8N; omega) (fun sq1 Rq2 Eq3 Fq4 => ?_)
 have lq5 : (0 : Int32).toInt = 0 := rfl
 refine q_lt (fun hq6 => ?_) (fun hq6 => ?_)
 ·
  refine q_zV8 Rq2 ⟨by omega, fr8 rfl rfl⟩ (by unfold y8N; omega) (fun sq7 Rq8 Eq9 Fq10 => ?_)
  exact q_some ⟨Rq8, by first | trivial | omega⟩
 ·
  have gq11 := e_31 (Rq2).1
  have eq12 : (sq1 45 31).toInt = (σ 45 31).toInt := congrArg Int32.toInt (Fq4 _ _ (by omega))
  have gq13 := e_31 (h0).1
  refine q_lt (fun hq14 => ?_) (fun hq14 => ?_)
  ·
   refine q_c (by omega) (by omega) ?_
   exact q_some ⟨Rq2, by first | trivial | omega⟩
  ·
   refine q_zV8 Rq2 ⟨by omega, fr8 rfl rfl⟩ (by unfold y8N; omega) (fun sq15 Rq16 Eq17 Fq18 => ?_)
   exact q_some ⟨Rq16, by first | trivial | omega⟩
theorem t_X8_left (p0 : Int32) {B F : Int} {σ : zS} (h00 : yR8 B F σ σ) : yT (f_X8_left p0 σ) (fun r τ => yV8 B F y8N σ τ ∧ (True)) := by
 have h0 : yV8 B F y8N σ σ := ⟨h00, fun _ _ _ => rfl⟩
 unfold f_X8_left
 refine q_zV8 h0 ⟨by omega, fr8 rfl rfl⟩ (by unfold y8N; omega) (fun sq1 Rq2 Eq3 Fq4 => ?_)
 have lq5 : (0 : Int32).toInt = 0 := rfl
 refine q_lt (fun hq6 => ?_) (fun hq6 => ?_)
 ·
  exact q_some ⟨Rq2, by first | trivial | omega⟩
 ·
  have lq7 : (7 : Int32).toInt = 7 := rfl
  refine q_le (fun hq8 => ?_) (fun hq8 => ?_)
  ·
   refine q_c (by omega) (by omega) ?_
   exact q_some ⟨Rq2, by first | trivial | omega⟩
  ·
   exact q_some ⟨Rq2, by first | trivial | omega⟩
theorem t_X8_globe (p0 : Int32) {B F : Int} {σ : zS} (h00 : yR8 B F σ σ) : yT (f_X8_globe p0 σ) (fun r τ => yV8 B F y8Kg σ τ ∧ (((p0.toInt < 0 ∨ 65535 < p0.toInt) ∧ r.toInt = -2 ∧ (τ 45 4).toInt = (σ 45 4).toInt) ∨ (0 ≤ p0.toInt ∧ p0.toInt ≤ 65535 ∧ r.toInt = (σ 45 4).toInt ∧ (τ 45 4).toInt = p0.toInt))) := by
 have h0 : yV8 B F y8Kg σ σ := ⟨h00, fun _ _ _ => rfl⟩
 unfold f_X8_globe
 refine q_zV8 h0 ⟨by omega, fr8 rfl rfl⟩ (by unfold y8Kg y8N; omega) (fun sq1 Rq2 Eq3 Fq4 => ?_)
 have lq5 : (0 : Int32).toInt = 0 := rfl
 refine q_lt (fun hq6 => ?_) (fun hq6 => ?_)
 ·
  have lq7 : (-2 : Int32).toInt = -2 := rfl
  have eq8 : (sq1 45 4).toInt = (σ 45 4).toInt := congrArg Int32.toInt (Fq4 _ _ (by omega))
  exact q_some ⟨Rq2, by first | trivial | omega⟩
 ·
  have lq9 : (65535 : Int32).toInt = 65535 := rfl
  refine q_le (fun hq10 => ?_) (fun hq10 => ?_)
  ·
   refine q_zV8 Rq2 ⟨by omega, fr8 rfl rfl⟩ (by unfold y8Kg y8N; omega) (fun sq11 Rq12 Eq13 Fq14 => ?_)
   have eq15 : (sq1 45 4).toInt = (σ 45 4).toInt := congrArg Int32.toInt (Fq4 _ _ (by omega))
   have eq16 := Eq13
   exact q_some ⟨Rq12, by first | trivial | omega⟩
  ·
   have lq17 : (-2 : Int32).toInt = -2 := rfl
   have eq18 : (sq1 45 4).toInt = (σ 45 4).toInt := congrArg Int32.toInt (Fq4 _ _ (by omega))
   exact q_some ⟨Rq2, by first | trivial | omega⟩
theorem t_X8_form (p0 : Int32) {B F : Int} {σ : zS} (h00 : yR8 B F σ σ) : yT (f_X8_form p0 σ) (fun r τ => yV8 B F y8Kf σ τ ∧ (((p0.toInt < 0 ∨ 255 < p0.toInt) ∧ r.toInt = -2 ∧ (τ 45 5).toInt = (σ 45 5).toInt) ∨ (0 ≤ p0.toInt ∧ p0.toInt ≤ 255 ∧ r.toInt = (σ 45 5).toInt ∧ (τ 45 5).toInt = p0.toInt))) := by
 have h0 : yV8 B F y8Kf σ σ := ⟨h00, fun _ _ _ => rfl⟩
 unfold f_X8_form
 refine q_zV8 h0 ⟨by omega, fr8 rfl rfl⟩ (by unfold y8Kf y8N; omega) (fun sq1 Rq2 Eq3 Fq4 => ?_)
 have lq5 : (0 : Int32).toInt = 0 := rfl
 refine q_lt (fun hq6 => ?_) (fun hq6 => ?_)
 ·
  have lq7 : (-2 : Int32).toInt = -2 := rfl
  have eq8 : (sq1 45 5).toInt = (σ 45 5).toInt := congrArg Int32.toInt (Fq4 _ _ (by omega))
  exact q_some ⟨Rq2, by first | trivial | omega⟩
 ·
  have lq9 : (255 : Int32).toInt = 255 := rfl
  refine q_le (fun hq10 => ?_) (fun hq10 => ?_)
  ·
   refine q_zV8 Rq2 ⟨by omega, fr8 rfl rfl⟩ (by unfold y8Kf y8N; omega) (fun sq11 Rq12 Eq13 Fq14 => ?_)
   have eq15 : (sq1 45 5).toInt = (σ 45 5).toInt := congrArg Int32.toInt (Fq4 _ _ (by omega))
   have eq16 := Eq13
   exact q_some ⟨Rq12, by first | trivial | omega⟩
  ·
   have lq17 : (-2 : Int32).toInt = -2 := rfl
   have eq18 : (sq1 45 5).toInt = (σ 45 5).toInt := congrArg Int32.toInt (Fq4 _ _ (by omega))
   exact q_some ⟨Rq2, by first | trivial | omega⟩
set_option maxHeartbeats 4000000 in
set_option maxRecDepth 20000 in
theorem t_X8_instruction (p0 : Int32) (p1 : Int32) (p2 : Int32) (p3 : Int32) (p4 : Int32) {B F : Int} {σ : zS} (h00 : yR8 B F σ σ) : yT (f_X8_instruction p0 p1 p2 p3 p4 σ) (fun r τ => yV8 B F y8Ki σ τ ∧ (((p1.toInt < -256 ∨ 65535 < p1.toInt ∨ p2.toInt < -256 ∨ 65535 < p2.toInt ∨ p3.toInt < -256 ∨ 65535 < p3.toInt ∨ p4.toInt < -1 ∨ 255 < p4.toInt) ∧ r.toInt = -2 ∧ (τ 45 14).toInt = (σ 45 14).toInt) ∨ (¬ (p1.toInt < -256 ∨ 65535 < p1.toInt ∨ p2.toInt < -256 ∨ 65535 < p2.toInt ∨ p3.toInt < -256 ∨ 65535 < p3.toInt ∨ p4.toInt < -1 ∨ 255 < p4.toInt) ∧ (σ 45 14).toInt = 100 ∧ r.toInt = -3 ∧ (τ 45 14).toInt = (σ 45 14).toInt) ∨ (¬ (p1.toInt < -256 ∨ 65535 < p1.toInt ∨ p2.toInt < -256 ∨ 65535 < p2.toInt ∨ p3.toInt < -256 ∨ 65535 < p3.toInt ∨ p4.toInt < -1 ∨ 255 < p4.toInt) ∧ (σ 45 14).toInt < 100 ∧ r.toInt = (σ 45 14).toInt ∧ (τ 45 14).toInt = (σ 45 14).toInt + 1))) := by
 have h0 : yV8 B F y8Ki σ σ := ⟨h00, fun _ _ _ => rfl⟩
 unfold f_X8_instruction
 refine q_zV8 h0 ⟨by omega, fr8 rfl rfl⟩ (by unfold y8Ki y8N; omega) (fun sq1 Rq2 Eq3 Fq4 => ?_)
 have lq5 : (-256 : Int32).toInt = -256 := rfl
 refine q_lt (fun hq6 => ?_) (fun hq6 => ?_)
 ·
  have lq7 : (0 : Int32).toInt = 0 := rfl
  refine q_eq (fun hq8 => ?_) (fun hq8 => ?_)
  ·
   have lq9 : (-2 : Int32).toInt = -2 := rfl
   have gq10 := e_14 (Rq2).1
   have eq11 : (sq1 45 14).toInt = (σ 45 14).toInt := congrArg Int32.toInt (Fq4 _ _ (by omega))
   have gq12 := e_14 (h0).1
   exact q_some ⟨Rq2, by first | trivial | omega⟩
  ·
   have gq13 := e_14 (Rq2).1
   have eq14 : (sq1 45 14).toInt = (σ 45 14).toInt := congrArg Int32.toInt (Fq4 _ _ (by omega))
   have gq15 := e_14 (h0).1
   have lq16 : (100 : Int32).toInt = 100 := rfl
   refine q_eq (fun hq17 => ?_) (fun hq17 => ?_)
   ·
    have lq18 : (-3 : Int32).toInt = -3 := rfl
    exact q_some ⟨Rq2, by first | trivial | omega⟩
   ·
    refine q_c (by omega) (by omega) ?_
    have cq19 : (sq1 45 14).toNatClampNeg = (sq1 45 14).toInt.toNat := rfl
    refine q_zV8 Rq2 ⟨by omega, fr8 rfl rfl⟩ (by unfold y8Ki y8N; omega) (fun sq20 Rq21 Eq22 Fq23 => ?_)
    have lq24 : (3 : Int32).toInt = 3 := rfl
    have gq25 := e_14 (Rq21).1
    have eq26 : (sq20 45 14).toInt = (sq1 45 14).toInt := congrArg Int32.toInt (Fq23 _ _ (by omega))
    try have aq27 : ((3 : Int32) * (sq20 45 14)).toInt = 3 * (sq20 45 14).toInt := i_mulk rfl (by omega) (by omega)
    refine q_c (by omega) (by omega) ?_
    have cq28 : ((3 : Int32) * (sq20 45 14)).toNatClampNeg = ((3 : Int32) * (sq20 45 14)).toInt.toNat := rfl
    refine q_zV8 Rq21 ⟨by omega, i_lo _, show _ ≤ (65535 : Int) by omega⟩ (by unfold y8Ki y8N; omega) (fun sq29 Rq30 Eq31 Fq32 => ?_)
    have gq33 := e_14 (Rq30).1
    have eq34 : (sq29 45 14).toInt = (sq20 45 14).toInt := congrArg Int32.toInt (Fq32 _ _ (by omega))
    try have aq35 : ((3 : Int32) * (sq29 45 14)).toInt = 3 * (sq29 45 14).toInt := i_mulk rfl (by omega) (by omega)
    have lq36 : (1 : Int32).toInt = 1 := rfl
    try have aq37 : (((3 : Int32) * (sq29 45 14)) + (1 : Int32)).toInt = ((3 : Int32) * (sq29 45 14)).toInt + (1 : Int32).toInt := i_add (by omega) (by omega)
    refine q_c (by omega) (by omega) ?_
    have cq38 : (((3 : Int32) * (sq29 45 14)) + (1 : Int32)).toNatClampNeg = (((3 : Int32) * (sq29 45 14)) + (1 : Int32)).toInt.toNat := rfl
    refine q_zV8 Rq30 ⟨by omega, i_lo _, show _ ≤ (65535 : Int) by omega⟩ (by unfold y8Ki y8N; omega) (fun sq39 Rq40 Eq41 Fq42 => ?_)
    have gq43 := e_14 (Rq40).1
    have eq44 : (sq39 45 14).toInt = (sq29 45 14).toInt := congrArg Int32.toInt (Fq42 _ _ (by omega))
    try have aq45 : ((3 : Int32) * (sq39 45 14)).toInt = 3 * (sq39 45 14).toInt := i_mulk rfl (by omega) (by omega)
    have lq46 : (2 : Int32).toInt = 2 := rfl
    try have aq47 : (((3 : Int32) * (sq39 45 14)) + (2 : Int32)).toInt = ((3 : Int32) * (sq39 45 14)).toInt + (2 : Int32).toInt := i_add (by omega) (by omega)
    refine q_c (by omega) (by omega) ?_
    have cq48 : (((3 : Int32) * (sq39 45 14)) + (2 : Int32)).toNatClampNeg = (((3 : Int32) * (sq39 45 14)) + (2 : Int32)).toInt.toNat := rfl
    refine q_zV8 Rq40 ⟨by omega, i_lo _, show _ ≤ (65535 : Int) by omega⟩ (by unfold y8Ki y8N; omega) (fun sq49 Rq50 Eq51 Fq52 => ?_)
    have gq53 := e_14 (Rq50).1
    have eq54 : (sq49 45 14).toInt = (sq39 45 14).toInt := congrArg Int32.toInt (Fq52 _ _ (by omega))
    refine q_c (by omega) (by omega) ?_
    have cq55 : (sq49 45 14).toNatClampNeg = (sq49 45 14).toInt.toNat := rfl
    refine q_zV8 Rq50 ⟨by omega, fr8 rfl rfl⟩ (by unfold y8Ki y8N; omega) (fun sq56 Rq57 Eq58 Fq59 => ?_)
    have gq64 := e_14 (Rq57).1
    have eq65 : (sq56 45 14).toInt = (sq49 45 14).toInt := congrArg Int32.toInt (Fq59 _ _ (by omega))
    try have aq66 : ((sq56 45 14) + (1 : Int32)).toInt = (sq56 45 14).toInt + (1 : Int32).toInt := i_add (by omega) (by omega)
    refine q_zV8 Rq57 ⟨by omega, show (0 : Int) ≤ _ by omega, show _ ≤ (100 : Int) by omega⟩ (by unfold y8Ki y8N; omega) (fun sq60 Rq61 Eq62 Fq63 => ?_)
    have gq67 := e_14 (Rq61).1
    have eq68 := Eq62
    try have aq69 : ((sq60 45 14) - (1 : Int32)).toInt = (sq60 45 14).toInt - (1 : Int32).toInt := i_sub (by omega) (by omega)
    exact q_some ⟨Rq61, by first | trivial | omega⟩
 ·
  have lq70 : (65535 : Int32).toInt = 65535 := rfl
  refine q_lt (fun hq71 => ?_) (fun hq71 => ?_)
  ·
   have lq72 : (0 : Int32).toInt = 0 := rfl
   refine q_eq (fun hq73 => ?_) (fun hq73 => ?_)
   ·
    have lq74 : (-2 : Int32).toInt = -2 := rfl
    have gq75 := e_14 (Rq2).1
    have eq76 : (sq1 45 14).toInt = (σ 45 14).toInt := congrArg Int32.toInt (Fq4 _ _ (by omega))
    have gq77 := e_14 (h0).1
    exact q_some ⟨Rq2, by first | trivial | omega⟩
   ·
    have gq78 := e_14 (Rq2).1
    have eq79 : (sq1 45 14).toInt = (σ 45 14).toInt := congrArg Int32.toInt (Fq4 _ _ (by omega))
    have gq80 := e_14 (h0).1
    have lq81 : (100 : Int32).toInt = 100 := rfl
    refine q_eq (fun hq82 => ?_) (fun hq82 => ?_)
    ·
     have lq83 : (-3 : Int32).toInt = -3 := rfl
     exact q_some ⟨Rq2, by first | trivial | omega⟩
    ·
     refine q_c (by omega) (by omega) ?_
     have cq84 : (sq1 45 14).toNatClampNeg = (sq1 45 14).toInt.toNat := rfl
     refine q_zV8 Rq2 ⟨by omega, fr8 rfl rfl⟩ (by unfold y8Ki y8N; omega) (fun sq85 Rq86 Eq87 Fq88 => ?_)
     have lq89 : (3 : Int32).toInt = 3 := rfl
     have gq90 := e_14 (Rq86).1
     have eq91 : (sq85 45 14).toInt = (sq1 45 14).toInt := congrArg Int32.toInt (Fq88 _ _ (by omega))
     try have aq92 : ((3 : Int32) * (sq85 45 14)).toInt = 3 * (sq85 45 14).toInt := i_mulk rfl (by omega) (by omega)
     refine q_c (by omega) (by omega) ?_
     have cq93 : ((3 : Int32) * (sq85 45 14)).toNatClampNeg = ((3 : Int32) * (sq85 45 14)).toInt.toNat := rfl
     refine q_zV8 Rq86 ⟨by omega, i_lo _, show _ ≤ (65535 : Int) by omega⟩ (by unfold y8Ki y8N; omega) (fun sq94 Rq95 Eq96 Fq97 => ?_)
     have gq98 := e_14 (Rq95).1
     have eq99 : (sq94 45 14).toInt = (sq85 45 14).toInt := congrArg Int32.toInt (Fq97 _ _ (by omega))
     try have aq100 : ((3 : Int32) * (sq94 45 14)).toInt = 3 * (sq94 45 14).toInt := i_mulk rfl (by omega) (by omega)
     have lq101 : (1 : Int32).toInt = 1 := rfl
     try have aq102 : (((3 : Int32) * (sq94 45 14)) + (1 : Int32)).toInt = ((3 : Int32) * (sq94 45 14)).toInt + (1 : Int32).toInt := i_add (by omega) (by omega)
     refine q_c (by omega) (by omega) ?_
     have cq103 : (((3 : Int32) * (sq94 45 14)) + (1 : Int32)).toNatClampNeg = (((3 : Int32) * (sq94 45 14)) + (1 : Int32)).toInt.toNat := rfl
     refine q_zV8 Rq95 ⟨by omega, i_lo _, show _ ≤ (65535 : Int) by omega⟩ (by unfold y8Ki y8N; omega) (fun sq104 Rq105 Eq106 Fq107 => ?_)
     have gq108 := e_14 (Rq105).1
     have eq109 : (sq104 45 14).toInt = (sq94 45 14).toInt := congrArg Int32.toInt (Fq107 _ _ (by omega))
     try have aq110 : ((3 : Int32) * (sq104 45 14)).toInt = 3 * (sq104 45 14).toInt := i_mulk rfl (by omega) (by omega)
     have lq111 : (2 : Int32).toInt = 2 := rfl
     try have aq112 : (((3 : Int32) * (sq104 45 14)) + (2 : Int32)).toInt = ((3 : Int32) * (sq104 45 14)).toInt + (2 : Int32).toInt := i_add (by omega) (by omega)
     refine q_c (by omega) (by omega) ?_
     have cq113 : (((3 : Int32) * (sq104 45 14)) + (2 : Int32)).toNatClampNeg = (((3 : Int32) * (sq104 45 14)) + (2 : Int32)).toInt.toNat := rfl
     refine q_zV8 Rq105 ⟨by omega, i_lo _, show _ ≤ (65535 : Int) by omega⟩ (by unfold y8Ki y8N; omega) (fun sq114 Rq115 Eq116 Fq117 => ?_)
     have gq118 := e_14 (Rq115).1
     have eq119 : (sq114 45 14).toInt = (sq104 45 14).toInt := congrArg Int32.toInt (Fq117 _ _ (by omega))
     refine q_c (by omega) (by omega) ?_
     have cq120 : (sq114 45 14).toNatClampNeg = (sq114 45 14).toInt.toNat := rfl
     refine q_zV8 Rq115 ⟨by omega, fr8 rfl rfl⟩ (by unfold y8Ki y8N; omega) (fun sq121 Rq122 Eq123 Fq124 => ?_)
     have gq129 := e_14 (Rq122).1
     have eq130 : (sq121 45 14).toInt = (sq114 45 14).toInt := congrArg Int32.toInt (Fq124 _ _ (by omega))
     try have aq131 : ((sq121 45 14) + (1 : Int32)).toInt = (sq121 45 14).toInt + (1 : Int32).toInt := i_add (by omega) (by omega)
     refine q_zV8 Rq122 ⟨by omega, show (0 : Int) ≤ _ by omega, show _ ≤ (100 : Int) by omega⟩ (by unfold y8Ki y8N; omega) (fun sq125 Rq126 Eq127 Fq128 => ?_)
     have gq132 := e_14 (Rq126).1
     have eq133 := Eq127
     try have aq134 : ((sq125 45 14) - (1 : Int32)).toInt = (sq125 45 14).toInt - (1 : Int32).toInt := i_sub (by omega) (by omega)
     exact q_some ⟨Rq126, by first | trivial | omega⟩
  ·
   refine q_lt (fun hq135 => ?_) (fun hq135 => ?_)
   ·
    have lq136 : (0 : Int32).toInt = 0 := rfl
    refine q_eq (fun hq137 => ?_) (fun hq137 => ?_)
    ·
     have lq138 : (-2 : Int32).toInt = -2 := rfl
     have gq139 := e_14 (Rq2).1
     have eq140 : (sq1 45 14).toInt = (σ 45 14).toInt := congrArg Int32.toInt (Fq4 _ _ (by omega))
     have gq141 := e_14 (h0).1
     exact q_some ⟨Rq2, by first | trivial | omega⟩
    ·
     have gq142 := e_14 (Rq2).1
     have eq143 : (sq1 45 14).toInt = (σ 45 14).toInt := congrArg Int32.toInt (Fq4 _ _ (by omega))
     have gq144 := e_14 (h0).1
     have lq145 : (100 : Int32).toInt = 100 := rfl
     refine q_eq (fun hq146 => ?_) (fun hq146 => ?_)
     ·
      have lq147 : (-3 : Int32).toInt = -3 := rfl
      exact q_some ⟨Rq2, by first | trivial | omega⟩
     ·
      refine q_c (by omega) (by omega) ?_
      have cq148 : (sq1 45 14).toNatClampNeg = (sq1 45 14).toInt.toNat := rfl
      refine q_zV8 Rq2 ⟨by omega, fr8 rfl rfl⟩ (by unfold y8Ki y8N; omega) (fun sq149 Rq150 Eq151 Fq152 => ?_)
      have lq153 : (3 : Int32).toInt = 3 := rfl
      have gq154 := e_14 (Rq150).1
      have eq155 : (sq149 45 14).toInt = (sq1 45 14).toInt := congrArg Int32.toInt (Fq152 _ _ (by omega))
      try have aq156 : ((3 : Int32) * (sq149 45 14)).toInt = 3 * (sq149 45 14).toInt := i_mulk rfl (by omega) (by omega)
      refine q_c (by omega) (by omega) ?_
      have cq157 : ((3 : Int32) * (sq149 45 14)).toNatClampNeg = ((3 : Int32) * (sq149 45 14)).toInt.toNat := rfl
      refine q_zV8 Rq150 ⟨by omega, i_lo _, show _ ≤ (65535 : Int) by omega⟩ (by unfold y8Ki y8N; omega) (fun sq158 Rq159 Eq160 Fq161 => ?_)
      have gq162 := e_14 (Rq159).1
      have eq163 : (sq158 45 14).toInt = (sq149 45 14).toInt := congrArg Int32.toInt (Fq161 _ _ (by omega))
      try have aq164 : ((3 : Int32) * (sq158 45 14)).toInt = 3 * (sq158 45 14).toInt := i_mulk rfl (by omega) (by omega)
      have lq165 : (1 : Int32).toInt = 1 := rfl
      try have aq166 : (((3 : Int32) * (sq158 45 14)) + (1 : Int32)).toInt = ((3 : Int32) * (sq158 45 14)).toInt + (1 : Int32).toInt := i_add (by omega) (by omega)
      refine q_c (by omega) (by omega) ?_
      have cq167 : (((3 : Int32) * (sq158 45 14)) + (1 : Int32)).toNatClampNeg = (((3 : Int32) * (sq158 45 14)) + (1 : Int32)).toInt.toNat := rfl
      refine q_zV8 Rq159 ⟨by omega, i_lo _, show _ ≤ (65535 : Int) by omega⟩ (by unfold y8Ki y8N; omega) (fun sq168 Rq169 Eq170 Fq171 => ?_)
      have gq172 := e_14 (Rq169).1
      have eq173 : (sq168 45 14).toInt = (sq158 45 14).toInt := congrArg Int32.toInt (Fq171 _ _ (by omega))
      try have aq174 : ((3 : Int32) * (sq168 45 14)).toInt = 3 * (sq168 45 14).toInt := i_mulk rfl (by omega) (by omega)
      have lq175 : (2 : Int32).toInt = 2 := rfl
      try have aq176 : (((3 : Int32) * (sq168 45 14)) + (2 : Int32)).toInt = ((3 : Int32) * (sq168 45 14)).toInt + (2 : Int32).toInt := i_add (by omega) (by omega)
      refine q_c (by omega) (by omega) ?_
      have cq177 : (((3 : Int32) * (sq168 45 14)) + (2 : Int32)).toNatClampNeg = (((3 : Int32) * (sq168 45 14)) + (2 : Int32)).toInt.toNat := rfl
      refine q_zV8 Rq169 ⟨by omega, i_lo _, show _ ≤ (65535 : Int) by omega⟩ (by unfold y8Ki y8N; omega) (fun sq178 Rq179 Eq180 Fq181 => ?_)
      have gq182 := e_14 (Rq179).1
      have eq183 : (sq178 45 14).toInt = (sq168 45 14).toInt := congrArg Int32.toInt (Fq181 _ _ (by omega))
      refine q_c (by omega) (by omega) ?_
      have cq184 : (sq178 45 14).toNatClampNeg = (sq178 45 14).toInt.toNat := rfl
      refine q_zV8 Rq179 ⟨by omega, fr8 rfl rfl⟩ (by unfold y8Ki y8N; omega) (fun sq185 Rq186 Eq187 Fq188 => ?_)
      have gq193 := e_14 (Rq186).1
      have eq194 : (sq185 45 14).toInt = (sq178 45 14).toInt := congrArg Int32.toInt (Fq188 _ _ (by omega))
      try have aq195 : ((sq185 45 14) + (1 : Int32)).toInt = (sq185 45 14).toInt + (1 : Int32).toInt := i_add (by omega) (by omega)
      refine q_zV8 Rq186 ⟨by omega, show (0 : Int) ≤ _ by omega, show _ ≤ (100 : Int) by omega⟩ (by unfold y8Ki y8N; omega) (fun sq189 Rq190 Eq191 Fq192 => ?_)
      have gq196 := e_14 (Rq190).1
      have eq197 := Eq191
      try have aq198 : ((sq189 45 14) - (1 : Int32)).toInt = (sq189 45 14).toInt - (1 : Int32).toInt := i_sub (by omega) (by omega)
      exact q_some ⟨Rq190, by first | trivial | omega⟩
   ·
    refine q_lt (fun hq199 => ?_) (fun hq199 => ?_)
    ·
     have lq200 : (0 : Int32).toInt = 0 := rfl
     refine q_eq (fun hq201 => ?_) (fun hq201 => ?_)
     ·
      have lq202 : (-2 : Int32).toInt = -2 := rfl
      have gq203 := e_14 (Rq2).1
      have eq204 : (sq1 45 14).toInt = (σ 45 14).toInt := congrArg Int32.toInt (Fq4 _ _ (by omega))
      have gq205 := e_14 (h0).1
      exact q_some ⟨Rq2, by first | trivial | omega⟩
     ·
      have gq206 := e_14 (Rq2).1
      have eq207 : (sq1 45 14).toInt = (σ 45 14).toInt := congrArg Int32.toInt (Fq4 _ _ (by omega))
      have gq208 := e_14 (h0).1
      have lq209 : (100 : Int32).toInt = 100 := rfl
      refine q_eq (fun hq210 => ?_) (fun hq210 => ?_)
      ·
       have lq211 : (-3 : Int32).toInt = -3 := rfl
       exact q_some ⟨Rq2, by first | trivial | omega⟩
      ·
       refine q_c (by omega) (by omega) ?_
       have cq212 : (sq1 45 14).toNatClampNeg = (sq1 45 14).toInt.toNat := rfl
       refine q_zV8 Rq2 ⟨by omega, fr8 rfl rfl⟩ (by unfold y8Ki y8N; omega) (fun sq213 Rq214 Eq215 Fq216 => ?_)
       have lq217 : (3 : Int32).toInt = 3 := rfl
       have gq218 := e_14 (Rq214).1
       have eq219 : (sq213 45 14).toInt = (sq1 45 14).toInt := congrArg Int32.toInt (Fq216 _ _ (by omega))
       try have aq220 : ((3 : Int32) * (sq213 45 14)).toInt = 3 * (sq213 45 14).toInt := i_mulk rfl (by omega) (by omega)
       refine q_c (by omega) (by omega) ?_
       have cq221 : ((3 : Int32) * (sq213 45 14)).toNatClampNeg = ((3 : Int32) * (sq213 45 14)).toInt.toNat := rfl
       refine q_zV8 Rq214 ⟨by omega, i_lo _, show _ ≤ (65535 : Int) by omega⟩ (by unfold y8Ki y8N; omega) (fun sq222 Rq223 Eq224 Fq225 => ?_)
       have gq226 := e_14 (Rq223).1
       have eq227 : (sq222 45 14).toInt = (sq213 45 14).toInt := congrArg Int32.toInt (Fq225 _ _ (by omega))
       try have aq228 : ((3 : Int32) * (sq222 45 14)).toInt = 3 * (sq222 45 14).toInt := i_mulk rfl (by omega) (by omega)
       have lq229 : (1 : Int32).toInt = 1 := rfl
       try have aq230 : (((3 : Int32) * (sq222 45 14)) + (1 : Int32)).toInt = ((3 : Int32) * (sq222 45 14)).toInt + (1 : Int32).toInt := i_add (by omega) (by omega)
       refine q_c (by omega) (by omega) ?_
       have cq231 : (((3 : Int32) * (sq222 45 14)) + (1 : Int32)).toNatClampNeg = (((3 : Int32) * (sq222 45 14)) + (1 : Int32)).toInt.toNat := rfl
       refine q_zV8 Rq223 ⟨by omega, i_lo _, show _ ≤ (65535 : Int) by omega⟩ (by unfold y8Ki y8N; omega) (fun sq232 Rq233 Eq234 Fq235 => ?_)
       have gq236 := e_14 (Rq233).1
       have eq237 : (sq232 45 14).toInt = (sq222 45 14).toInt := congrArg Int32.toInt (Fq235 _ _ (by omega))
       try have aq238 : ((3 : Int32) * (sq232 45 14)).toInt = 3 * (sq232 45 14).toInt := i_mulk rfl (by omega) (by omega)
       have lq239 : (2 : Int32).toInt = 2 := rfl
       try have aq240 : (((3 : Int32) * (sq232 45 14)) + (2 : Int32)).toInt = ((3 : Int32) * (sq232 45 14)).toInt + (2 : Int32).toInt := i_add (by omega) (by omega)
       refine q_c (by omega) (by omega) ?_
       have cq241 : (((3 : Int32) * (sq232 45 14)) + (2 : Int32)).toNatClampNeg = (((3 : Int32) * (sq232 45 14)) + (2 : Int32)).toInt.toNat := rfl
       refine q_zV8 Rq233 ⟨by omega, i_lo _, show _ ≤ (65535 : Int) by omega⟩ (by unfold y8Ki y8N; omega) (fun sq242 Rq243 Eq244 Fq245 => ?_)
       have gq246 := e_14 (Rq243).1
       have eq247 : (sq242 45 14).toInt = (sq232 45 14).toInt := congrArg Int32.toInt (Fq245 _ _ (by omega))
       refine q_c (by omega) (by omega) ?_
       have cq248 : (sq242 45 14).toNatClampNeg = (sq242 45 14).toInt.toNat := rfl
       refine q_zV8 Rq243 ⟨by omega, fr8 rfl rfl⟩ (by unfold y8Ki y8N; omega) (fun sq249 Rq250 Eq251 Fq252 => ?_)
       have gq257 := e_14 (Rq250).1
       have eq258 : (sq249 45 14).toInt = (sq242 45 14).toInt := congrArg Int32.toInt (Fq252 _ _ (by omega))
       try have aq259 : ((sq249 45 14) + (1 : Int32)).toInt = (sq249 45 14).toInt + (1 : Int32).toInt := i_add (by omega) (by omega)
       refine q_zV8 Rq250 ⟨by omega, show (0 : Int) ≤ _ by omega, show _ ≤ (100 : Int) by omega⟩ (by unfold y8Ki y8N; omega) (fun sq253 Rq254 Eq255 Fq256 => ?_)
       have gq260 := e_14 (Rq254).1
       have eq261 := Eq255
       try have aq262 : ((sq253 45 14) - (1 : Int32)).toInt = (sq253 45 14).toInt - (1 : Int32).toInt := i_sub (by omega) (by omega)
       exact q_some ⟨Rq254, by first | trivial | omega⟩
    ·
     refine q_lt (fun hq263 => ?_) (fun hq263 => ?_)
     ·
      have lq264 : (0 : Int32).toInt = 0 := rfl
      refine q_eq (fun hq265 => ?_) (fun hq265 => ?_)
      ·
       have lq266 : (-2 : Int32).toInt = -2 := rfl
       have gq267 := e_14 (Rq2).1
       have eq268 : (sq1 45 14).toInt = (σ 45 14).toInt := congrArg Int32.toInt (Fq4 _ _ (by omega))
       have gq269 := e_14 (h0).1
       exact q_some ⟨Rq2, by first | trivial | omega⟩
      ·
       have gq270 := e_14 (Rq2).1
       have eq271 : (sq1 45 14).toInt = (σ 45 14).toInt := congrArg Int32.toInt (Fq4 _ _ (by omega))
       have gq272 := e_14 (h0).1
       have lq273 : (100 : Int32).toInt = 100 := rfl
       refine q_eq (fun hq274 => ?_) (fun hq274 => ?_)
       ·
        have lq275 : (-3 : Int32).toInt = -3 := rfl
        exact q_some ⟨Rq2, by first | trivial | omega⟩
       ·
        refine q_c (by omega) (by omega) ?_
        have cq276 : (sq1 45 14).toNatClampNeg = (sq1 45 14).toInt.toNat := rfl
        refine q_zV8 Rq2 ⟨by omega, fr8 rfl rfl⟩ (by unfold y8Ki y8N; omega) (fun sq277 Rq278 Eq279 Fq280 => ?_)
        have lq281 : (3 : Int32).toInt = 3 := rfl
        have gq282 := e_14 (Rq278).1
        have eq283 : (sq277 45 14).toInt = (sq1 45 14).toInt := congrArg Int32.toInt (Fq280 _ _ (by omega))
        try have aq284 : ((3 : Int32) * (sq277 45 14)).toInt = 3 * (sq277 45 14).toInt := i_mulk rfl (by omega) (by omega)
        refine q_c (by omega) (by omega) ?_
        have cq285 : ((3 : Int32) * (sq277 45 14)).toNatClampNeg = ((3 : Int32) * (sq277 45 14)).toInt.toNat := rfl
        refine q_zV8 Rq278 ⟨by omega, i_lo _, show _ ≤ (65535 : Int) by omega⟩ (by unfold y8Ki y8N; omega) (fun sq286 Rq287 Eq288 Fq289 => ?_)
        have gq290 := e_14 (Rq287).1
        have eq291 : (sq286 45 14).toInt = (sq277 45 14).toInt := congrArg Int32.toInt (Fq289 _ _ (by omega))
        try have aq292 : ((3 : Int32) * (sq286 45 14)).toInt = 3 * (sq286 45 14).toInt := i_mulk rfl (by omega) (by omega)
        have lq293 : (1 : Int32).toInt = 1 := rfl
        try have aq294 : (((3 : Int32) * (sq286 45 14)) + (1 : Int32)).toInt = ((3 : Int32) * (sq286 45 14)).toInt + (1 : Int32).toInt := i_add (by omega) (by omega)
        refine q_c (by omega) (by omega) ?_
        have cq295 : (((3 : Int32) * (sq286 45 14)) + (1 : Int32)).toNatClampNeg = (((3 : Int32) * (sq286 45 14)) + (1 : Int32)).toInt.toNat := rfl
        refine q_zV8 Rq287 ⟨by omega, i_lo _, show _ ≤ (65535 : Int) by omega⟩ (by unfold y8Ki y8N; omega) (fun sq296 Rq297 Eq298 Fq299 => ?_)
        have gq300 := e_14 (Rq297).1
        have eq301 : (sq296 45 14).toInt = (sq286 45 14).toInt := congrArg Int32.toInt (Fq299 _ _ (by omega))
        try have aq302 : ((3 : Int32) * (sq296 45 14)).toInt = 3 * (sq296 45 14).toInt := i_mulk rfl (by omega) (by omega)
        have lq303 : (2 : Int32).toInt = 2 := rfl
        try have aq304 : (((3 : Int32) * (sq296 45 14)) + (2 : Int32)).toInt = ((3 : Int32) * (sq296 45 14)).toInt + (2 : Int32).toInt := i_add (by omega) (by omega)
        refine q_c (by omega) (by omega) ?_
        have cq305 : (((3 : Int32) * (sq296 45 14)) + (2 : Int32)).toNatClampNeg = (((3 : Int32) * (sq296 45 14)) + (2 : Int32)).toInt.toNat := rfl
        refine q_zV8 Rq297 ⟨by omega, i_lo _, show _ ≤ (65535 : Int) by omega⟩ (by unfold y8Ki y8N; omega) (fun sq306 Rq307 Eq308 Fq309 => ?_)
        have gq310 := e_14 (Rq307).1
        have eq311 : (sq306 45 14).toInt = (sq296 45 14).toInt := congrArg Int32.toInt (Fq309 _ _ (by omega))
        refine q_c (by omega) (by omega) ?_
        have cq312 : (sq306 45 14).toNatClampNeg = (sq306 45 14).toInt.toNat := rfl
        refine q_zV8 Rq307 ⟨by omega, fr8 rfl rfl⟩ (by unfold y8Ki y8N; omega) (fun sq313 Rq314 Eq315 Fq316 => ?_)
        have gq321 := e_14 (Rq314).1
        have eq322 : (sq313 45 14).toInt = (sq306 45 14).toInt := congrArg Int32.toInt (Fq316 _ _ (by omega))
        try have aq323 : ((sq313 45 14) + (1 : Int32)).toInt = (sq313 45 14).toInt + (1 : Int32).toInt := i_add (by omega) (by omega)
        refine q_zV8 Rq314 ⟨by omega, show (0 : Int) ≤ _ by omega, show _ ≤ (100 : Int) by omega⟩ (by unfold y8Ki y8N; omega) (fun sq317 Rq318 Eq319 Fq320 => ?_)
        have gq324 := e_14 (Rq318).1
        have eq325 := Eq319
        try have aq326 : ((sq317 45 14) - (1 : Int32)).toInt = (sq317 45 14).toInt - (1 : Int32).toInt := i_sub (by omega) (by omega)
        exact q_some ⟨Rq318, by first | trivial | omega⟩
     ·
      refine q_lt (fun hq327 => ?_) (fun hq327 => ?_)
      ·
       have lq328 : (0 : Int32).toInt = 0 := rfl
       refine q_eq (fun hq329 => ?_) (fun hq329 => ?_)
       ·
        have lq330 : (-2 : Int32).toInt = -2 := rfl
        have gq331 := e_14 (Rq2).1
        have eq332 : (sq1 45 14).toInt = (σ 45 14).toInt := congrArg Int32.toInt (Fq4 _ _ (by omega))
        have gq333 := e_14 (h0).1
        exact q_some ⟨Rq2, by first | trivial | omega⟩
       ·
        have gq334 := e_14 (Rq2).1
        have eq335 : (sq1 45 14).toInt = (σ 45 14).toInt := congrArg Int32.toInt (Fq4 _ _ (by omega))
        have gq336 := e_14 (h0).1
        have lq337 : (100 : Int32).toInt = 100 := rfl
        refine q_eq (fun hq338 => ?_) (fun hq338 => ?_)
        ·
         have lq339 : (-3 : Int32).toInt = -3 := rfl
         exact q_some ⟨Rq2, by first | trivial | omega⟩
        ·
         refine q_c (by omega) (by omega) ?_
         have cq340 : (sq1 45 14).toNatClampNeg = (sq1 45 14).toInt.toNat := rfl
         refine q_zV8 Rq2 ⟨by omega, fr8 rfl rfl⟩ (by unfold y8Ki y8N; omega) (fun sq341 Rq342 Eq343 Fq344 => ?_)
         have lq345 : (3 : Int32).toInt = 3 := rfl
         have gq346 := e_14 (Rq342).1
         have eq347 : (sq341 45 14).toInt = (sq1 45 14).toInt := congrArg Int32.toInt (Fq344 _ _ (by omega))
         try have aq348 : ((3 : Int32) * (sq341 45 14)).toInt = 3 * (sq341 45 14).toInt := i_mulk rfl (by omega) (by omega)
         refine q_c (by omega) (by omega) ?_
         have cq349 : ((3 : Int32) * (sq341 45 14)).toNatClampNeg = ((3 : Int32) * (sq341 45 14)).toInt.toNat := rfl
         refine q_zV8 Rq342 ⟨by omega, i_lo _, show _ ≤ (65535 : Int) by omega⟩ (by unfold y8Ki y8N; omega) (fun sq350 Rq351 Eq352 Fq353 => ?_)
         have gq354 := e_14 (Rq351).1
         have eq355 : (sq350 45 14).toInt = (sq341 45 14).toInt := congrArg Int32.toInt (Fq353 _ _ (by omega))
         try have aq356 : ((3 : Int32) * (sq350 45 14)).toInt = 3 * (sq350 45 14).toInt := i_mulk rfl (by omega) (by omega)
         have lq357 : (1 : Int32).toInt = 1 := rfl
         try have aq358 : (((3 : Int32) * (sq350 45 14)) + (1 : Int32)).toInt = ((3 : Int32) * (sq350 45 14)).toInt + (1 : Int32).toInt := i_add (by omega) (by omega)
         refine q_c (by omega) (by omega) ?_
         have cq359 : (((3 : Int32) * (sq350 45 14)) + (1 : Int32)).toNatClampNeg = (((3 : Int32) * (sq350 45 14)) + (1 : Int32)).toInt.toNat := rfl
         refine q_zV8 Rq351 ⟨by omega, i_lo _, show _ ≤ (65535 : Int) by omega⟩ (by unfold y8Ki y8N; omega) (fun sq360 Rq361 Eq362 Fq363 => ?_)
         have gq364 := e_14 (Rq361).1
         have eq365 : (sq360 45 14).toInt = (sq350 45 14).toInt := congrArg Int32.toInt (Fq363 _ _ (by omega))
         try have aq366 : ((3 : Int32) * (sq360 45 14)).toInt = 3 * (sq360 45 14).toInt := i_mulk rfl (by omega) (by omega)
         have lq367 : (2 : Int32).toInt = 2 := rfl
         try have aq368 : (((3 : Int32) * (sq360 45 14)) + (2 : Int32)).toInt = ((3 : Int32) * (sq360 45 14)).toInt + (2 : Int32).toInt := i_add (by omega) (by omega)
         refine q_c (by omega) (by omega) ?_
         have cq369 : (((3 : Int32) * (sq360 45 14)) + (2 : Int32)).toNatClampNeg = (((3 : Int32) * (sq360 45 14)) + (2 : Int32)).toInt.toNat := rfl
         refine q_zV8 Rq361 ⟨by omega, i_lo _, show _ ≤ (65535 : Int) by omega⟩ (by unfold y8Ki y8N; omega) (fun sq370 Rq371 Eq372 Fq373 => ?_)
         have gq374 := e_14 (Rq371).1
         have eq375 : (sq370 45 14).toInt = (sq360 45 14).toInt := congrArg Int32.toInt (Fq373 _ _ (by omega))
         refine q_c (by omega) (by omega) ?_
         have cq376 : (sq370 45 14).toNatClampNeg = (sq370 45 14).toInt.toNat := rfl
         refine q_zV8 Rq371 ⟨by omega, fr8 rfl rfl⟩ (by unfold y8Ki y8N; omega) (fun sq377 Rq378 Eq379 Fq380 => ?_)
         have gq385 := e_14 (Rq378).1
         have eq386 : (sq377 45 14).toInt = (sq370 45 14).toInt := congrArg Int32.toInt (Fq380 _ _ (by omega))
         try have aq387 : ((sq377 45 14) + (1 : Int32)).toInt = (sq377 45 14).toInt + (1 : Int32).toInt := i_add (by omega) (by omega)
         refine q_zV8 Rq378 ⟨by omega, show (0 : Int) ≤ _ by omega, show _ ≤ (100 : Int) by omega⟩ (by unfold y8Ki y8N; omega) (fun sq381 Rq382 Eq383 Fq384 => ?_)
         have gq388 := e_14 (Rq382).1
         have eq389 := Eq383
         try have aq390 : ((sq381 45 14) - (1 : Int32)).toInt = (sq381 45 14).toInt - (1 : Int32).toInt := i_sub (by omega) (by omega)
         exact q_some ⟨Rq382, by first | trivial | omega⟩
      ·
       have lq391 : (-1 : Int32).toInt = -1 := rfl
       refine q_lt (fun hq392 => ?_) (fun hq392 => ?_)
       ·
        have lq393 : (0 : Int32).toInt = 0 := rfl
        refine q_eq (fun hq394 => ?_) (fun hq394 => ?_)
        ·
         have lq395 : (-2 : Int32).toInt = -2 := rfl
         have gq396 := e_14 (Rq2).1
         have eq397 : (sq1 45 14).toInt = (σ 45 14).toInt := congrArg Int32.toInt (Fq4 _ _ (by omega))
         have gq398 := e_14 (h0).1
         exact q_some ⟨Rq2, by first | trivial | omega⟩
        ·
         have gq399 := e_14 (Rq2).1
         have eq400 : (sq1 45 14).toInt = (σ 45 14).toInt := congrArg Int32.toInt (Fq4 _ _ (by omega))
         have gq401 := e_14 (h0).1
         have lq402 : (100 : Int32).toInt = 100 := rfl
         refine q_eq (fun hq403 => ?_) (fun hq403 => ?_)
         ·
          have lq404 : (-3 : Int32).toInt = -3 := rfl
          exact q_some ⟨Rq2, by first | trivial | omega⟩
         ·
          refine q_c (by omega) (by omega) ?_
          have cq405 : (sq1 45 14).toNatClampNeg = (sq1 45 14).toInt.toNat := rfl
          refine q_zV8 Rq2 ⟨by omega, fr8 rfl rfl⟩ (by unfold y8Ki y8N; omega) (fun sq406 Rq407 Eq408 Fq409 => ?_)
          have lq410 : (3 : Int32).toInt = 3 := rfl
          have gq411 := e_14 (Rq407).1
          have eq412 : (sq406 45 14).toInt = (sq1 45 14).toInt := congrArg Int32.toInt (Fq409 _ _ (by omega))
          try have aq413 : ((3 : Int32) * (sq406 45 14)).toInt = 3 * (sq406 45 14).toInt := i_mulk rfl (by omega) (by omega)
          refine q_c (by omega) (by omega) ?_
          have cq414 : ((3 : Int32) * (sq406 45 14)).toNatClampNeg = ((3 : Int32) * (sq406 45 14)).toInt.toNat := rfl
          refine q_zV8 Rq407 ⟨by omega, i_lo _, show _ ≤ (65535 : Int) by omega⟩ (by unfold y8Ki y8N; omega) (fun sq415 Rq416 Eq417 Fq418 => ?_)
          have gq419 := e_14 (Rq416).1
          have eq420 : (sq415 45 14).toInt = (sq406 45 14).toInt := congrArg Int32.toInt (Fq418 _ _ (by omega))
          try have aq421 : ((3 : Int32) * (sq415 45 14)).toInt = 3 * (sq415 45 14).toInt := i_mulk rfl (by omega) (by omega)
          have lq422 : (1 : Int32).toInt = 1 := rfl
          try have aq423 : (((3 : Int32) * (sq415 45 14)) + (1 : Int32)).toInt = ((3 : Int32) * (sq415 45 14)).toInt + (1 : Int32).toInt := i_add (by omega) (by omega)
          refine q_c (by omega) (by omega) ?_
          have cq424 : (((3 : Int32) * (sq415 45 14)) + (1 : Int32)).toNatClampNeg = (((3 : Int32) * (sq415 45 14)) + (1 : Int32)).toInt.toNat := rfl
          refine q_zV8 Rq416 ⟨by omega, i_lo _, show _ ≤ (65535 : Int) by omega⟩ (by unfold y8Ki y8N; omega) (fun sq425 Rq426 Eq427 Fq428 => ?_)
          have gq429 := e_14 (Rq426).1
          have eq430 : (sq425 45 14).toInt = (sq415 45 14).toInt := congrArg Int32.toInt (Fq428 _ _ (by omega))
          try have aq431 : ((3 : Int32) * (sq425 45 14)).toInt = 3 * (sq425 45 14).toInt := i_mulk rfl (by omega) (by omega)
          have lq432 : (2 : Int32).toInt = 2 := rfl
          try have aq433 : (((3 : Int32) * (sq425 45 14)) + (2 : Int32)).toInt = ((3 : Int32) * (sq425 45 14)).toInt + (2 : Int32).toInt := i_add (by omega) (by omega)
          refine q_c (by omega) (by omega) ?_
          have cq434 : (((3 : Int32) * (sq425 45 14)) + (2 : Int32)).toNatClampNeg = (((3 : Int32) * (sq425 45 14)) + (2 : Int32)).toInt.toNat := rfl
          refine q_zV8 Rq426 ⟨by omega, i_lo _, show _ ≤ (65535 : Int) by omega⟩ (by unfold y8Ki y8N; omega) (fun sq435 Rq436 Eq437 Fq438 => ?_)
          have gq439 := e_14 (Rq436).1
          have eq440 : (sq435 45 14).toInt = (sq425 45 14).toInt := congrArg Int32.toInt (Fq438 _ _ (by omega))
          refine q_c (by omega) (by omega) ?_
          have cq441 : (sq435 45 14).toNatClampNeg = (sq435 45 14).toInt.toNat := rfl
          refine q_zV8 Rq436 ⟨by omega, fr8 rfl rfl⟩ (by unfold y8Ki y8N; omega) (fun sq442 Rq443 Eq444 Fq445 => ?_)
          have gq450 := e_14 (Rq443).1
          have eq451 : (sq442 45 14).toInt = (sq435 45 14).toInt := congrArg Int32.toInt (Fq445 _ _ (by omega))
          try have aq452 : ((sq442 45 14) + (1 : Int32)).toInt = (sq442 45 14).toInt + (1 : Int32).toInt := i_add (by omega) (by omega)
          refine q_zV8 Rq443 ⟨by omega, show (0 : Int) ≤ _ by omega, show _ ≤ (100 : Int) by omega⟩ (by unfold y8Ki y8N; omega) (fun sq446 Rq447 Eq448 Fq449 => ?_)
          have gq453 := e_14 (Rq447).1
          have eq454 := Eq448
          try have aq455 : ((sq446 45 14) - (1 : Int32)).toInt = (sq446 45 14).toInt - (1 : Int32).toInt := i_sub (by omega) (by omega)
          exact q_some ⟨Rq447, by first | trivial | omega⟩
       ·
        have lq456 : (255 : Int32).toInt = 255 := rfl
        refine q_lt (fun hq457 => ?_) (fun hq457 => ?_)
        ·
         have lq458 : (0 : Int32).toInt = 0 := rfl
         refine q_eq (fun hq459 => ?_) (fun hq459 => ?_)
         ·
          have lq460 : (-2 : Int32).toInt = -2 := rfl
          have gq461 := e_14 (Rq2).1
          have eq462 : (sq1 45 14).toInt = (σ 45 14).toInt := congrArg Int32.toInt (Fq4 _ _ (by omega))
          have gq463 := e_14 (h0).1
          exact q_some ⟨Rq2, by first | trivial | omega⟩
         ·
          have gq464 := e_14 (Rq2).1
          have eq465 : (sq1 45 14).toInt = (σ 45 14).toInt := congrArg Int32.toInt (Fq4 _ _ (by omega))
          have gq466 := e_14 (h0).1
          have lq467 : (100 : Int32).toInt = 100 := rfl
          refine q_eq (fun hq468 => ?_) (fun hq468 => ?_)
          ·
           have lq469 : (-3 : Int32).toInt = -3 := rfl
           exact q_some ⟨Rq2, by first | trivial | omega⟩
          ·
           refine q_c (by omega) (by omega) ?_
           have cq470 : (sq1 45 14).toNatClampNeg = (sq1 45 14).toInt.toNat := rfl
           refine q_zV8 Rq2 ⟨by omega, fr8 rfl rfl⟩ (by unfold y8Ki y8N; omega) (fun sq471 Rq472 Eq473 Fq474 => ?_)
           have lq475 : (3 : Int32).toInt = 3 := rfl
           have gq476 := e_14 (Rq472).1
           have eq477 : (sq471 45 14).toInt = (sq1 45 14).toInt := congrArg Int32.toInt (Fq474 _ _ (by omega))
           try have aq478 : ((3 : Int32) * (sq471 45 14)).toInt = 3 * (sq471 45 14).toInt := i_mulk rfl (by omega) (by omega)
           refine q_c (by omega) (by omega) ?_
           have cq479 : ((3 : Int32) * (sq471 45 14)).toNatClampNeg = ((3 : Int32) * (sq471 45 14)).toInt.toNat := rfl
           refine q_zV8 Rq472 ⟨by omega, i_lo _, show _ ≤ (65535 : Int) by omega⟩ (by unfold y8Ki y8N; omega) (fun sq480 Rq481 Eq482 Fq483 => ?_)
           have gq484 := e_14 (Rq481).1
           have eq485 : (sq480 45 14).toInt = (sq471 45 14).toInt := congrArg Int32.toInt (Fq483 _ _ (by omega))
           try have aq486 : ((3 : Int32) * (sq480 45 14)).toInt = 3 * (sq480 45 14).toInt := i_mulk rfl (by omega) (by omega)
           have lq487 : (1 : Int32).toInt = 1 := rfl
           try have aq488 : (((3 : Int32) * (sq480 45 14)) + (1 : Int32)).toInt = ((3 : Int32) * (sq480 45 14)).toInt + (1 : Int32).toInt := i_add (by omega) (by omega)
           refine q_c (by omega) (by omega) ?_
           have cq489 : (((3 : Int32) * (sq480 45 14)) + (1 : Int32)).toNatClampNeg = (((3 : Int32) * (sq480 45 14)) + (1 : Int32)).toInt.toNat := rfl
           refine q_zV8 Rq481 ⟨by omega, i_lo _, show _ ≤ (65535 : Int) by omega⟩ (by unfold y8Ki y8N; omega) (fun sq490 Rq491 Eq492 Fq493 => ?_)
           have gq494 := e_14 (Rq491).1
           have eq495 : (sq490 45 14).toInt = (sq480 45 14).toInt := congrArg Int32.toInt (Fq493 _ _ (by omega))
           try have aq496 : ((3 : Int32) * (sq490 45 14)).toInt = 3 * (sq490 45 14).toInt := i_mulk rfl (by omega) (by omega)
           have lq497 : (2 : Int32).toInt = 2 := rfl
           try have aq498 : (((3 : Int32) * (sq490 45 14)) + (2 : Int32)).toInt = ((3 : Int32) * (sq490 45 14)).toInt + (2 : Int32).toInt := i_add (by omega) (by omega)
           refine q_c (by omega) (by omega) ?_
           have cq499 : (((3 : Int32) * (sq490 45 14)) + (2 : Int32)).toNatClampNeg = (((3 : Int32) * (sq490 45 14)) + (2 : Int32)).toInt.toNat := rfl
           refine q_zV8 Rq491 ⟨by omega, i_lo _, show _ ≤ (65535 : Int) by omega⟩ (by unfold y8Ki y8N; omega) (fun sq500 Rq501 Eq502 Fq503 => ?_)
           have gq504 := e_14 (Rq501).1
           have eq505 : (sq500 45 14).toInt = (sq490 45 14).toInt := congrArg Int32.toInt (Fq503 _ _ (by omega))
           refine q_c (by omega) (by omega) ?_
           have cq506 : (sq500 45 14).toNatClampNeg = (sq500 45 14).toInt.toNat := rfl
           refine q_zV8 Rq501 ⟨by omega, fr8 rfl rfl⟩ (by unfold y8Ki y8N; omega) (fun sq507 Rq508 Eq509 Fq510 => ?_)
           have gq515 := e_14 (Rq508).1
           have eq516 : (sq507 45 14).toInt = (sq500 45 14).toInt := congrArg Int32.toInt (Fq510 _ _ (by omega))
           try have aq517 : ((sq507 45 14) + (1 : Int32)).toInt = (sq507 45 14).toInt + (1 : Int32).toInt := i_add (by omega) (by omega)
           refine q_zV8 Rq508 ⟨by omega, show (0 : Int) ≤ _ by omega, show _ ≤ (100 : Int) by omega⟩ (by unfold y8Ki y8N; omega) (fun sq511 Rq512 Eq513 Fq514 => ?_)
           have gq518 := e_14 (Rq512).1
           have eq519 := Eq513
           try have aq520 : ((sq511 45 14) - (1 : Int32)).toInt = (sq511 45 14).toInt - (1 : Int32).toInt := i_sub (by omega) (by omega)
           exact q_some ⟨Rq512, by first | trivial | omega⟩
        ·
         have lq521 : (1 : Int32).toInt = 1 := rfl
         have lq522 : (0 : Int32).toInt = 0 := rfl
         refine q_eq (fun hq523 => ?_) (fun hq523 => ?_)
         ·
          have lq524 : (-2 : Int32).toInt = -2 := rfl
          have gq525 := e_14 (Rq2).1
          have eq526 : (sq1 45 14).toInt = (σ 45 14).toInt := congrArg Int32.toInt (Fq4 _ _ (by omega))
          have gq527 := e_14 (h0).1
          exact q_some ⟨Rq2, by first | trivial | omega⟩
         ·
          have gq528 := e_14 (Rq2).1
          have eq529 : (sq1 45 14).toInt = (σ 45 14).toInt := congrArg Int32.toInt (Fq4 _ _ (by omega))
          have gq530 := e_14 (h0).1
          have lq531 : (100 : Int32).toInt = 100 := rfl
          refine q_eq (fun hq532 => ?_) (fun hq532 => ?_)
          ·
           have lq533 : (-3 : Int32).toInt = -3 := rfl
           exact q_some ⟨Rq2, by first | trivial | omega⟩
          ·
           refine q_c (by omega) (by omega) ?_
           have cq534 : (sq1 45 14).toNatClampNeg = (sq1 45 14).toInt.toNat := rfl
           refine q_zV8 Rq2 ⟨by omega, fr8 rfl rfl⟩ (by unfold y8Ki y8N; omega) (fun sq535 Rq536 Eq537 Fq538 => ?_)
           have lq539 : (3 : Int32).toInt = 3 := rfl
           have gq540 := e_14 (Rq536).1
           have eq541 : (sq535 45 14).toInt = (sq1 45 14).toInt := congrArg Int32.toInt (Fq538 _ _ (by omega))
           try have aq542 : ((3 : Int32) * (sq535 45 14)).toInt = 3 * (sq535 45 14).toInt := i_mulk rfl (by omega) (by omega)
           refine q_c (by omega) (by omega) ?_
           have cq543 : ((3 : Int32) * (sq535 45 14)).toNatClampNeg = ((3 : Int32) * (sq535 45 14)).toInt.toNat := rfl
           refine q_zV8 Rq536 ⟨by omega, i_lo _, show _ ≤ (65535 : Int) by omega⟩ (by unfold y8Ki y8N; omega) (fun sq544 Rq545 Eq546 Fq547 => ?_)
           have gq548 := e_14 (Rq545).1
           have eq549 : (sq544 45 14).toInt = (sq535 45 14).toInt := congrArg Int32.toInt (Fq547 _ _ (by omega))
           try have aq550 : ((3 : Int32) * (sq544 45 14)).toInt = 3 * (sq544 45 14).toInt := i_mulk rfl (by omega) (by omega)
           try have aq551 : (((3 : Int32) * (sq544 45 14)) + (1 : Int32)).toInt = ((3 : Int32) * (sq544 45 14)).toInt + (1 : Int32).toInt := i_add (by omega) (by omega)
           refine q_c (by omega) (by omega) ?_
           have cq552 : (((3 : Int32) * (sq544 45 14)) + (1 : Int32)).toNatClampNeg = (((3 : Int32) * (sq544 45 14)) + (1 : Int32)).toInt.toNat := rfl
           refine q_zV8 Rq545 ⟨by omega, i_lo _, show _ ≤ (65535 : Int) by omega⟩ (by unfold y8Ki y8N; omega) (fun sq553 Rq554 Eq555 Fq556 => ?_)
           have gq557 := e_14 (Rq554).1
           have eq558 : (sq553 45 14).toInt = (sq544 45 14).toInt := congrArg Int32.toInt (Fq556 _ _ (by omega))
           try have aq559 : ((3 : Int32) * (sq553 45 14)).toInt = 3 * (sq553 45 14).toInt := i_mulk rfl (by omega) (by omega)
           have lq560 : (2 : Int32).toInt = 2 := rfl
           try have aq561 : (((3 : Int32) * (sq553 45 14)) + (2 : Int32)).toInt = ((3 : Int32) * (sq553 45 14)).toInt + (2 : Int32).toInt := i_add (by omega) (by omega)
           refine q_c (by omega) (by omega) ?_
           have cq562 : (((3 : Int32) * (sq553 45 14)) + (2 : Int32)).toNatClampNeg = (((3 : Int32) * (sq553 45 14)) + (2 : Int32)).toInt.toNat := rfl
           refine q_zV8 Rq554 ⟨by omega, i_lo _, show _ ≤ (65535 : Int) by omega⟩ (by unfold y8Ki y8N; omega) (fun sq563 Rq564 Eq565 Fq566 => ?_)
           have gq567 := e_14 (Rq564).1
           have eq568 : (sq563 45 14).toInt = (sq553 45 14).toInt := congrArg Int32.toInt (Fq566 _ _ (by omega))
           refine q_c (by omega) (by omega) ?_
           have cq569 : (sq563 45 14).toNatClampNeg = (sq563 45 14).toInt.toNat := rfl
           refine q_zV8 Rq564 ⟨by omega, fr8 rfl rfl⟩ (by unfold y8Ki y8N; omega) (fun sq570 Rq571 Eq572 Fq573 => ?_)
           have gq578 := e_14 (Rq571).1
           have eq579 : (sq570 45 14).toInt = (sq563 45 14).toInt := congrArg Int32.toInt (Fq573 _ _ (by omega))
           try have aq580 : ((sq570 45 14) + (1 : Int32)).toInt = (sq570 45 14).toInt + (1 : Int32).toInt := i_add (by omega) (by omega)
           refine q_zV8 Rq571 ⟨by omega, show (0 : Int) ≤ _ by omega, show _ ≤ (100 : Int) by omega⟩ (by unfold y8Ki y8N; omega) (fun sq574 Rq575 Eq576 Fq577 => ?_)
           have gq581 := e_14 (Rq575).1
           have eq582 := Eq576
           try have aq583 : ((sq574 45 14) - (1 : Int32)).toInt = (sq574 45 14).toInt - (1 : Int32).toInt := i_sub (by omega) (by omega)
           exact q_some ⟨Rq575, by first | trivial | omega⟩
theorem t_X8_routine (p0 : Int32) (p1 : Int32) (p2 : Int32) (p3 : Int32) {B F : Int} {σ : zS} (h00 : yR8 B F σ σ) : yT (f_X8_routine p0 p1 p2 p3 σ) (fun r τ => yV8 B F y8Kr σ τ ∧ (((p0.toInt < 0 ∨ 7 < p0.toInt) ∧ r.toInt = -1) ∨ (0 ≤ p0.toInt ∧ p0.toInt ≤ 7 ∧ (p1.toInt < 0 ∨ 99 < p1.toInt ∨ p2.toInt < 0 ∨ 15 < p2.toInt) ∧ r.toInt = -2) ∨ (0 ≤ p0.toInt ∧ p0.toInt ≤ 7 ∧ ¬ (p1.toInt < 0 ∨ 99 < p1.toInt ∨ p2.toInt < 0 ∨ 15 < p2.toInt) ∧ r.toInt = 1))) := by
 have h0 : yV8 B F y8Kr σ σ := ⟨h00, fun _ _ _ => rfl⟩
 unfold f_X8_routine
 refine q_zV8 h0 ⟨by omega, fr8 rfl rfl⟩ (by unfold y8Kr y8N; omega) (fun sq1 Rq2 Eq3 Fq4 => ?_)
 have lq5 : (0 : Int32).toInt = 0 := rfl
 refine q_lt (fun hq6 => ?_) (fun hq6 => ?_)
 ·
  have lq7 : (-1 : Int32).toInt = -1 := rfl
  exact q_some ⟨Rq2, by first | trivial | omega⟩
 ·
  have lq8 : (7 : Int32).toInt = 7 := rfl
  refine q_le (fun hq9 => ?_) (fun hq9 => ?_)
  ·
   refine q_lt (fun hq10 => ?_) (fun hq10 => ?_)
   ·
    have lq11 : (-2 : Int32).toInt = -2 := rfl
    exact q_some ⟨Rq2, by first | trivial | omega⟩
   ·
    have lq12 : (99 : Int32).toInt = 99 := rfl
    refine q_lt (fun hq13 => ?_) (fun hq13 => ?_)
    ·
     have lq14 : (-2 : Int32).toInt = -2 := rfl
     exact q_some ⟨Rq2, by first | trivial | omega⟩
    ·
     refine q_lt (fun hq15 => ?_) (fun hq15 => ?_)
     ·
      have lq16 : (-2 : Int32).toInt = -2 := rfl
      exact q_some ⟨Rq2, by first | trivial | omega⟩
     ·
      have lq17 : (15 : Int32).toInt = 15 := rfl
      refine q_le (fun hq18 => ?_) (fun hq18 => ?_)
      ·
       refine q_c (by omega) (by omega) ?_
       have cq19 : p0.toNatClampNeg = p0.toInt.toNat := rfl
       refine q_zV8 Rq2 ⟨by omega, fr8 rfl rfl⟩ (by unfold y8Kr y8N; omega) (fun sq20 Rq21 Eq22 Fq23 => ?_)
       refine q_c (by omega) (by omega) ?_
       refine q_zV8 Rq21 ⟨by omega, show (0 : Int) ≤ _ by omega, show _ ≤ (99 : Int) by omega⟩ (by unfold y8Kr y8N; omega) (fun sq24 Rq25 Eq26 Fq27 => ?_)
       refine q_c (by omega) (by omega) ?_
       refine q_zV8 Rq25 ⟨by omega, i_lo _, show _ ≤ (15 : Int) by omega⟩ (by unfold y8Kr y8N; omega) (fun sq28 Rq29 Eq30 Fq31 => ?_)
       refine q_c (by omega) (by omega) ?_
       refine q_zV8 Rq29 ⟨by omega, fr8 rfl rfl⟩ (by unfold y8Kr y8N; omega) (fun sq32 Rq33 Eq34 Fq35 => ?_)
       have lq36 : (1 : Int32).toInt = 1 := rfl
       exact q_some ⟨Rq33, by first | trivial | omega⟩
      ·
       have lq37 : (-2 : Int32).toInt = -2 := rfl
       exact q_some ⟨Rq2, by first | trivial | omega⟩
  ·
   have lq38 : (-1 : Int32).toInt = -1 := rfl
   exact q_some ⟨Rq2, by first | trivial | omega⟩
theorem t_X8_clear_L17 {B F : Int} {σ0 : zS} : ∀ (n : Nat) (x1 x2 : Int32) (σ : zS), (8 - x2.toInt).toNat < n → (0 ≤ x2.toInt) → yV8 B F y8Kc σ0 σ → yT (f_X8_clear_L17 n x1 x2 σ) (fun r τ => yV8 B F y8Kc σ0 τ ∧ (r.toInt = x1.toInt ∧ (τ 45 14).toInt = (σ 45 14).toInt)) := by
 intro n
 induction n with
 | zero => intro x1 x2 σ hm; omega
 | succ n ih =>
  intro x1 x2 σ hm hv h0
  rw [f_X8_clear_L17]
  have bx2 := i_hi x2
  have lq1 : (8 : Int32).toInt = 8 := rfl
  refine q_le (fun hq2 => ?_) (fun hq2 => ?_)
  ·
   have gq3 := e_14 (h0).1
   exact q_some ⟨h0, by first | trivial | omega⟩
  ·
   refine q_c (by omega) (by omega) ?_
   have cq4 : x2.toNatClampNeg = x2.toInt.toNat := rfl
   refine q_zV8 h0 ⟨by omega, fr8 rfl rfl⟩ (by unfold y8Kc y8N; omega) (fun sq5 Rq6 Eq7 Fq8 => ?_)
   have lq9 : (1 : Int32).toInt = 1 := rfl
   try have aq10 : (x2 + (1 : Int32)).toInt = x2.toInt + (1 : Int32).toInt := i_add (by omega) (by omega)
   have gq11 := e_14 (Rq6).1
   have eq12 : (sq5 45 14).toInt = (σ 45 14).toInt := congrArg Int32.toInt (Fq8 _ _ (by omega))
   have gq13 := e_14 (h0).1
   refine q_w (ih x1 (x2 + (1 : Int32)) sq5 (by omega) (by omega) Rq6) (fun _ _ h => ⟨h.1, by omega⟩)
theorem t_X8_clear  {B F : Int} {σ : zS} (h00 : yR8 B F σ σ) : yT (f_X8_clear  σ) (fun r τ => yV8 B F y8Kc σ τ ∧ (r.toInt = (σ 45 14).toInt ∧ (τ 45 14).toInt = 0)) := by
 have h0 : yV8 B F y8Kc σ σ := ⟨h00, fun _ _ _ => rfl⟩
 unfold f_X8_clear
 refine q_zV8 h0 ⟨by omega, fr8 rfl rfl⟩ (by unfold y8Kc y8N; omega) (fun sq1 Rq2 Eq3 Fq4 => ?_)
 have lq9 : (0 : Int32).toInt = 0 := rfl
 refine q_zV8 Rq2 ⟨by omega, show (0 : Int) ≤ _ by omega, show _ ≤ (100 : Int) by omega⟩ (by unfold y8Kc y8N; omega) (fun sq5 Rq6 Eq7 Fq8 => ?_)
 have gq10 := e_14 (Rq2).1
 have eq11 : (sq1 45 14).toInt = (σ 45 14).toInt := congrArg Int32.toInt (Fq4 _ _ (by omega))
 have gq12 := e_14 (h0).1
 have gq13 := e_14 (Rq6).1
 have eq14 := Eq7
 refine q_w (t_X8_clear_L17 zF (sq1 45 14) (0 : Int32) sq5 (by rw [zF_eq]; omega) (by omega) Rq6) (fun _ _ h => ⟨h.1, by omega⟩)
