/-! the class' memory: closed forms of its programs -/
theorem t_0 : (0 : Int32).toInt = 0 := rfl
theorem t_1 : (1 : Int32).toInt = 1 := rfl
theorem t_m12 : (-12 : Int32).toInt = -12 := rfl
theorem t_m13 : (-13 : Int32).toInt = -13 := rfl
/-- what holds of the class' memory -/
def zIM (σ : zS) : Prop := 0 ≤ (σ 1 2).toInt ∧ (σ 1 2).toInt ≤ (σ 1 1).toInt ∧ (σ 1 1).toInt ≤ 2000 ∧ ∀ j, 0 ≤ (σ 2 j).toInt ∧ (σ 2 j).toInt < 256
/-- a byte is there -/
def zin1 (σ : zS) (a : Int32) : Prop := 0 ≤ a.toInt ∧ a.toInt < (σ 1 1).toInt
theorem p_isOutside (a : Int32) (σ : zS) : (zin1 σ a → f_X3_isOutside a σ = some (0, σ)) ∧ (¬ zin1 σ a → f_X3_isOutside a σ = some (1, σ)) := by
  unfold f_X3_isOutside zin1
  refine ⟨fun h => ?_, fun h => ?_⟩
  · rw [if_neg (by rw [i_lt, t_0]; omega), if_pos (by rw [i_lt]; omega)]
  · by_cases h1 : a < 0
    · rw [if_pos h1]
    · rw [if_neg h1, if_neg]
      rw [i_lt, t_0] at h1
      rw [i_lt]
      omega
theorem p_byteAt {a : Int32} {σ : zS} (I : zIM σ) : (zin1 σ a → f_X3_byteAt a σ = some (σ 2 a.toInt.toNat, σ)) ∧ (¬ zin1 σ a → f_X3_byteAt a σ = some (-12, σ)) := by
  obtain ⟨I1, I2, I3, I4⟩ := I
  unfold f_X3_byteAt
  refine ⟨fun h => ?_, fun h => ?_⟩
  · rw [(p_isOutside a σ).1 h, zbind_some, if_pos rfl, zc_ok h.1 (by have := h.2; omega)]
    rfl
  · rw [(p_isOutside a σ).2 h, zbind_some, if_neg (by decide)]
theorem p_setByte {a v u : Int32} {σ : zS} (I : zIM σ) : (¬ zin1 σ a → f_X3_setByte a v u σ = some (-12, σ)) ∧ (zin1 σ a → (u = 0 ∧ (σ 1 2).toInt ≤ a.toInt → f_X3_setByte a v u σ = some (-13, σ)) ∧ (¬ (u = 0 ∧ (σ 1 2).toInt ≤ a.toInt) → f_X3_setByte a v u σ = some (1, zu σ 2 a.toInt.toNat (v &&& 255)))) := by
  obtain ⟨I1, I2, I3, I4⟩ := I
  unfold f_X3_setByte
  refine ⟨fun h => ?_, fun h => ⟨fun hs => ?_, fun hs => ?_⟩⟩
  · rw [(p_isOutside a σ).2 h, zbind_some, if_neg (by decide)]
  · rw [(p_isOutside a σ).1 h, zbind_some, if_pos rfl, if_pos hs.1, if_neg (by rw [i_lt]; have := hs.2; omega)]
  · rw [(p_isOutside a σ).1 h, zbind_some, if_pos rfl]
    by_cases hu : u = 0
    · have h3 : ¬ (σ 1 2).toInt ≤ a.toInt := fun q => hs ⟨hu, q⟩
      rw [if_pos hu, if_pos (by rw [i_lt]; omega), zc_ok h.1 (by have := h.2; omega)]
      rfl
    · rw [if_neg hu, zc_ok h.1 (by have := h.2; omega)]
      rfl
/-- a word is there -/
def zin2 (σ : zS) (a : Int32) : Prop := 0 ≤ a.toInt ∧ a.toInt + 1 < (σ 1 1).toInt
theorem zin2_1 {σ : zS} {a : Int32} (I : zIM σ) (h : zin2 σ a) : zin1 σ a ∧ zin1 σ (a + 1) ∧ (a + 1).toInt = a.toInt + 1 := by
  obtain ⟨I1, I2, I3, I4⟩ := I
  obtain ⟨h1, h2⟩ := h
  have e := i_1 (a := a) (by omega)
  refine ⟨⟨h1, by omega⟩, ⟨by omega, by omega⟩, e⟩
theorem zin2_n {σ : zS} {a : Int32} (I : zIM σ) (h : ¬ zin2 σ a) (h1 : zin1 σ a) : ¬ zin1 σ (a + 1) := by
  obtain ⟨I1, I2, I3, I4⟩ := I
  intro q
  have e := i_1 (a := a) (by have := h1.2; omega)
  exact h ⟨h1.1, by have := q.2; omega⟩
def zw2 (x y : Int32) : Int32 := (x <<< ((8 : Int32) &&& 31)) ||| y
theorem p_wordAt {a : Int32} {σ : zS} (I : zIM σ) : (zin2 σ a → f_X3_wordAt a σ = some (zw2 (σ 2 a.toInt.toNat) (σ 2 (a.toInt + 1).toNat), σ)) ∧ (¬ zin2 σ a → f_X3_wordAt a σ = some (-12, σ)) := by
  have I0 := I
  obtain ⟨I1, I2, I3, I4⟩ := I
  unfold f_X3_wordAt
  refine ⟨fun h => ?_, fun h => ?_⟩
  · obtain ⟨q1, q2, e⟩ := zin2_1 I0 h
    rw [(p_isOutside a σ).1 q1, zbind_some, if_pos rfl, (p_isOutside (a + 1) σ).1 q2, zbind_some, if_pos rfl, zc_ok q1.1 (by have := q1.2; omega), zc_ok q2.1 (by have := q2.2; omega), i_cl, i_cl, e]
    rfl
  · by_cases q1 : zin1 σ a
    · rw [(p_isOutside a σ).1 q1, zbind_some, if_pos rfl, (p_isOutside (a + 1) σ).2 (zin2_n I0 h q1), zbind_some, if_neg (by decide)]
    · rw [(p_isOutside a σ).2 q1, zbind_some, if_neg (by decide)]
def zhi (v : Int32) : Int32 := (v >>> ((8 : Int32) &&& 31)) &&& 255
theorem p_setWord {a v u : Int32} {σ : zS} (I : zIM σ) : (¬ zin2 σ a → f_X3_setWord a v u σ = some (-12, σ)) ∧ (zin2 σ a → (u = 0 ∧ (σ 1 2).toInt ≤ a.toInt + 1 → f_X3_setWord a v u σ = some (-13, σ)) ∧ (¬ (u = 0 ∧ (σ 1 2).toInt ≤ a.toInt + 1) → f_X3_setWord a v u σ = some (1, zu (zu σ 2 a.toInt.toNat (zhi v)) 2 (a.toInt + 1).toNat (v &&& 255)))) := by
  have I0 := I
  obtain ⟨I1, I2, I3, I4⟩ := I
  unfold f_X3_setWord
  refine ⟨fun h => ?_, fun h => ?_⟩
  · by_cases q1 : zin1 σ a
    · rw [(p_isOutside a σ).1 q1, zbind_some, if_pos rfl, (p_isOutside (a + 1) σ).2 (zin2_n I0 h q1), zbind_some, if_neg (by decide)]
    · rw [(p_isOutside a σ).2 q1, zbind_some, if_neg (by decide)]
  · obtain ⟨q1, q2, e⟩ := zin2_1 I0 h
    have z1 : ∀ (P : Option (Int32 × zS)), zc a 2000 P = P := fun P => zc_ok q1.1 (by have := q1.2; omega)
    have z2 : ∀ (P : Option (Int32 × zS)), zc (a + 1) 2000 P = P := fun P => zc_ok q2.1 (by have := q2.2; omega)
    refine ⟨fun hs => ?_, fun hs => ?_⟩
    · rw [(p_isOutside a σ).1 q1, zbind_some, if_pos rfl, (p_isOutside (a + 1) σ).1 q2, zbind_some, if_pos rfl, if_pos hs.1, if_neg (by rw [i_lt]; have := hs.2; omega)]
    · rw [(p_isOutside a σ).1 q1, zbind_some, if_pos rfl, (p_isOutside (a + 1) σ).1 q2, zbind_some, if_pos rfl]
      by_cases hu : u = 0
      · have h3 : ¬ (σ 1 2).toInt ≤ a.toInt + 1 := fun q => hs ⟨hu, q⟩
        rw [if_pos hu, if_pos (by rw [i_lt]; omega), z1]
        show zc (a + 1) 2000 _ = _
        rw [z2, i_cl, i_cl, e]
        rfl
      · rw [if_neg hu, z1]
        show zc (a + 1) 2000 _ = _
        rw [z2, i_cl, i_cl, e]
        rfl
