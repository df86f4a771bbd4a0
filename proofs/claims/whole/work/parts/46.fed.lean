theorem xa4 (m : xM) {k j : Nat} (h : k ≠ j) (a b c d : Nat → Int32) : xa (xa (xa (xa m k a) j b) k c) j d = xa (xa m k c) j d := by
  unfold xa
  refine Prod.ext (funext fun q => ?_) rfl
  by_cases h1 : q = j
  · simp [h1]
  · by_cases h2 : q = k
    · subst h2; simp [h]
    · simp [h1, h2]
theorem and255 (x : Int64) : (x &&& 255).toInt32 = (x.toInt32.toInt8.toInt32.toInt8.toInt32) &&& 255 := by
  apply Int32.toBitVec_inj.mp
  have e : (x.toInt32.toInt8.toInt32.toInt8.toInt32) = x.toInt32.toInt8.toInt32 := by rw [Int8.toInt8_toInt32]
  rw [e]
  simp only [Int32.toBitVec_and]
  apply BitVec.eq_of_getLsbD_eq
  intro i hi
  have e1 : (x &&& 255).toInt32.toBitVec = (x.toBitVec &&& 255#64).signExtend 32 := rfl
  have e2 : x.toInt32.toInt8.toInt32.toBitVec = ((x.toBitVec.signExtend 32).signExtend 8).signExtend 32 := rfl
  have e3 : (255 : Int32).toBitVec = 255#32 := rfl
  rw [e1, e2, e3]
  have h3 : (255#32).getLsbD i = decide (i < 8) := (by decide : ∀ i : Nat, i < 32 → (255#32).getLsbD i = decide (i < 8)) i hi
  have h4 : (255#64).getLsbD i = decide (i < 8) := (by decide : ∀ i : Nat, i < 32 → (255#64).getLsbD i = decide (i < 8)) i hi
  have hi6 : i < 64 := by omega
  by_cases h8 : i < 8
  · simp only [BitVec.getLsbD_and, BitVec.getLsbD_signExtend, h3, h4, hi, hi6, h8, decide_true, Bool.true_and, Bool.and_true, ↓reduceIte]
  · simp only [BitVec.getLsbD_and, BitVec.getLsbD_signExtend, h3, h4, hi, hi6, h8, decide_false, decide_true, Bool.true_and, Bool.and_false, ↓reduceIte]
theorem b_i8 (x : Int32) : bt (x.toInt8.toInt32) (-128) 127 := by
  unfold bt
  rw [Int8.toInt_toInt32]
  have h1 := x.toInt8.le_toInt
  have h2 := x.toInt8.toInt_lt
  exact ⟨by simpa using h1, by have : x.toInt8.toInt < 128 := by simpa using h2
                               omega⟩

