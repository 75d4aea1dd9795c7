-- the pure side: truth values, bits of words, Row's has
def bI (b : Bool) : Int32 := if b = true then 1 else 0
theorem bz_bI (b : Bool) : bz (bI b) = true := by cases b <;> decide
theorem bI_0 (b : Bool) : bI b = 0 ↔ b = false := by cases b <;> decide
theorem bI_inj {a b : Bool} : bI a = bI b ↔ a = b := by cases a <;> cases b <;> decide
theorem gd_t {γ : Type} (k : Option γ) : gd true k = k := rfl
theorem bz0 : bz 0 = true := by decide
theorem bz1 : bz 1 = true := by decide
def bit (w : Int64) (i : Nat) : Bool := w.toBitVec.getLsbD i
theorem lg_cmp0 {x y : Int64} : lg_cmp x y = 0 ↔ x = y := by
  unfold lg_cmp
  constructor
  · intro h
    rcases lg_tri x y with h1 | h1 | h1
    · have := lg_lt_not h1
      have h2 := lg_lt_ne h1
      simp [this, h2] at h
    · exact h1
    · simp [h1] at h
  · intro h
    subst h
    simp
theorem xor_sg (x y : Int32) : 0 ≤ x ^^^ y ↔ (0 ≤ x ↔ 0 ≤ y) := by
  have key : ∀ z : Int32, 0 ≤ z ↔ z.toBitVec.msb = false := by
    intro z
    rw [Int32.le_iff_toInt_le, Int32.toInt_zero]
    show 0 ≤ z.toBitVec.toInt ↔ _
    rw [BitVec.toInt_eq_msb_cond]
    cases h : z.toBitVec.msb
    · simp
    · have := z.toBitVec.isLt
      simp
      omega
  rw [key, key, key, Int32.toBitVec_xor, BitVec.msb_xor]
  cases x.toBitVec.msb <;> cases y.toBitVec.msb <;> simp
