theorem nz_sub {c k : Nat} (h : k ≤ c) : nI (c - k) = zI ((c : Int) - (k : Int)) := by
  rw [nI_zI]; congr 1; omega
section SP
variable {bd : Nat → Bool} {sg : Int} {a : Ac} {c d : Nat} {r q : List Nat}
theorem sp_v (hD : isD c = false) (hV : isV c = true) : sp_part bd sg a (c :: r) = if c = 120 ∨ bd (c - 120) = true then (true, r, ac_v a (c - 120) sg) else (false, c :: r, a) := by
  simp only [sp_part, hD, hV]; rfl
theorem sp_x (hD : isD c = false) (hV : isV c = false) : sp_part bd sg a (c :: r) = (false, c :: r, a) := by
  simp only [sp_part, hD, hV]; rfl
theorem sp_d0 (hD : isD c = true) : sp_part bd sg a [c] = (true, [], ac_n a (sg * ((c : Int) - 48))) := by
  simp only [sp_part, hD]; rfl
theorem sp_dd (hD : isD c = true) (hE : isD d = true) : sp_part bd sg a (c :: d :: q) = (true, q, ac_n a (sg * (10 * ((c : Int) - 48) + ((d : Int) - 48)))) := by
  simp only [sp_part, hD, hE]; rfl
theorem sp_dv (hD : isD c = true) (hE : isD d = false) (hV : isV d = true) (h12 : c = 49 ∨ c = 50) : sp_part bd sg a (c :: d :: q) = if d = 120 ∨ bd (d - 120) = true then (true, q, ac_v a (d - 120) (sg * ((c : Int) - 48))) else (false, d :: q, a) := by
  simp only [sp_part, hD, hE, hV]
  rw [if_pos (show True ∧ (c = 49 ∨ c = 50) from ⟨trivial, h12⟩)]
  rfl
theorem sp_dn (hD : isD c = true) (hE : isD d = false) (h : ¬ (isV d = true ∧ (c = 49 ∨ c = 50))) : sp_part bd sg a (c :: d :: q) = (true, d :: q, ac_n a (sg * ((c : Int) - 48))) := by
  simp only [sp_part, hD, hE]
  rw [if_neg h]
  rfl
end SP
theorem or120 {d : Nat} {P : Prop} (h : 120 ≤ d) : (d = 120 ∨ P) ↔ (d - 120 = 0 ∨ P) := by
  constructor
  · rintro (z | z)
    · left; omega
    · exact Or.inr z
  · rintro (z | z)
    · left; omega
    · exact Or.inr z
