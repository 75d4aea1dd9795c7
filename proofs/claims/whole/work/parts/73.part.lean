/-- the bits of x, y, z -/
def op3 (a b c : Bool) : Int32 := (if a = true then 1 else 0) ||| (if b = true then 2 else 0) ||| (if c = true then 4 else 0)
def opm (o : Nat → Bool) : Int32 := op3 (o 0) (o 1) (o 2)
theorem op3_or : ∀ a b c : Bool, (op3 a b c ||| (1 <<< (nI 0 &&& 31)) = op3 true b c) ∧ (op3 a b c ||| (1 <<< (nI 1 &&& 31)) = op3 a true c) ∧ (op3 a b c ||| (1 <<< (nI 2 &&& 31)) = op3 a b true) := by decide
theorem op3_bit : ∀ a b c : Bool, (((op3 a b c >>> (nI 0 &&& 31)) &&& 1) = 0 ↔ a = false) ∧ (((op3 a b c >>> (nI 1 &&& 31)) &&& 1) = 0 ↔ b = false) ∧ (((op3 a b c >>> (nI 2 &&& 31)) &&& 1) = 0 ↔ c = false) := by decide
theorem op3_0 : ∀ a b c : Bool, op3 a b c = 0 ↔ a = false ∧ b = false ∧ c = false := by decide
theorem opm_or (o : Nat → Bool) {v : Nat} (hv : v < 3) : opm o ||| (1 <<< (nI v &&& 31)) = opm (fun j => if j = v then true else o j) := by
  obtain ⟨h0, h1, h2⟩ := op3_or (o 0) (o 1) (o 2)
  rcases (show v = 0 ∨ v = 1 ∨ v = 2 by omega) with rfl | rfl | rfl
  · exact h0
  · exact h1
  · exact h2
theorem opm_bit (o : Nat → Bool) {v : Nat} (hv : v < 3) : ((opm o >>> (nI v &&& 31)) &&& 1) = 0 ↔ o v = false := by
  obtain ⟨h0, h1, h2⟩ := op3_bit (o 0) (o 1) (o 2)
  rcases (show v = 0 ∨ v = 1 ∨ v = 2 by omega) with rfl | rfl | rfl
  · exact h0
  · exact h1
  · exact h2
theorem opm_0 {o : Nat → Bool} : opm o = 0 ↔ ∀ v, v < 3 → o v = false := by
  unfold opm
  rw [op3_0]
  constructor
  · rintro ⟨a, b, c⟩ v hv
    rcases (show v = 0 ∨ v = 1 ∨ v = 2 by omega) with rfl | rfl | rfl
    · exact a
    · exact b
    · exact c
  · intro h
    exact ⟨h 0 (by omega), h 1 (by omega), h 2 (by omega)⟩
/-- the accumulator of the claim in [ ] at s -/
def AK (u : KS) (s : Nat) (a : Ac) : Prop := k_nu u s = zI a.2.1 ∧ (∀ v, v < 3 → k_fa u (s * 3 + v) = zI (a.1 v)) ∧ k_op u s = opm a.2.2
/-- all but the place and the accumulator at s stays -/
def fr (s : Nat) (a b : KS) : Prop := tx a b ∧ k_kd b = k_kd a ∧ k_sc b = k_sc a ∧ k_vr b = k_vr a ∧ k_dv b = k_dv a ∧ k_cn b = k_cn a ∧ k_br b = k_br a ∧ k_ne b = k_ne a ∧ k_va b = k_va a ∧ (∀ j, j ≠ s → k_nu b j = k_nu a j ∧ k_op b j = k_op a j) ∧ ∀ j, (j < s * 3 ∨ s * 3 + 3 ≤ j) → k_fa b j = k_fa a j
theorem fr_rf (s : Nat) (a : KS) : fr s a a := ⟨tx_rf a, rfl, rfl, rfl, rfl, rfl, rfl, rfl, rfl, fun _ _ => ⟨rfl, rfl⟩, fun _ _ => rfl⟩
theorem fr_tr {s : Nat} {a b c : KS} (h : fr s a b) (g : fr s b c) : fr s a c := by
  obtain ⟨h0, h1, h2, h3, h4, h5, h6, h7, h8, h9, h10⟩ := h
  obtain ⟨g0, g1, g2, g3, g4, g5, g6, g7, g8, g9, g10⟩ := g
  exact ⟨tx_tr h0 g0, g1.trans h1, g2.trans h2, g3.trans h3, g4.trans h4, g5.trans h5, g6.trans h6, g7.trans h7, g8.trans h8, fun j hj => ⟨(g9 j hj).1.trans (h9 j hj).1, (g9 j hj).2.trans (h9 j hj).2⟩, fun j hj => (g10 j hj).trans (h10 j hj)⟩
theorem fr_at (s : Nat) (x : Int32) (a : KS) : fr s a (k_p_at x a) := ⟨⟨rfl, rfl, rfl, rfl, rfl, rfl⟩, rfl, rfl, rfl, rfl, rfl, rfl, rfl, rfl, fun _ _ => ⟨rfl, rfl⟩, fun _ _ => rfl⟩
theorem AK_at {u : KS} {s : Nat} {a : Ac} (h : AK u s a) (x : Int32) : AK (k_p_at x u) s a := h
/-- a number is added -/
theorem st_n {u : KS} {cs ts : List Nat} {s m : Nat} {a : Ac} (hR : RK u cs ts) (hs : s < m) (hm : m ≤ 20) (hc : k_cn u = nI m) (hA : AK u s a) (z : Int) :
    ∃ u', f_C_addNumber (nI s) (zI z) u = some ((), u') ∧ RK u' cs ts ∧ AK u' s (ac_n a z) ∧ fr s u u' := by
  refine ⟨_, sC_addN hs hm hc _, RK_tx hR ⟨rfl, rfl, rfl, rfl, rfl, rfl⟩ rfl, ⟨?_, hA.2.1, hA.2.2⟩, ⟨⟨rfl, rfl, rfl, rfl, rfl, rfl⟩, rfl, rfl, rfl, rfl, rfl, rfl, rfl, rfl, fun j hj => ⟨?_, rfl⟩, fun _ _ => rfl⟩⟩
  · show upd (k_nu u) s (k_nu u s + zI z) s = _
    rw [pk_us, hA.1, zI_add]
    rfl
  · show upd (k_nu u) s (k_nu u s + zI z) j = _
    exact pk_un hj
/-- a variable is added -/
theorem st_v {u : KS} {cs ts : List Nat} {s m v : Nat} {a : Ac} (hR : RK u cs ts) (hs : s < m) (hm : m ≤ 20) (hc : k_cn u = nI m) (hA : AK u s a) (hv : v < 3) (z : Int) :
    ∃ u', f_C_addFactor (nI s) (nI v) (zI z) u = some ((), u') ∧ RK u' cs ts ∧ AK u' s (ac_v a v z) ∧ fr s u u' ∧ k_at u' = k_at u := by
  refine ⟨_, sC_addF hs hm hc hv _, RK_tx hR ⟨rfl, rfl, rfl, rfl, rfl, rfl⟩ rfl, ⟨hA.1, fun w hw => ?_, ?_⟩, ⟨⟨rfl, rfl, rfl, rfl, rfl, rfl⟩, rfl, rfl, rfl, rfl, rfl, rfl, rfl, rfl, fun j hj => ⟨rfl, ?_⟩, fun j hj => ?_⟩, rfl⟩
  · show upd (k_fa u) (s * 3 + v) (k_fa u (s * 3 + v) + zI z) (s * 3 + w) = zI (if w = v then a.1 w + z else a.1 w)
    by_cases h : w = v
    · subst h
      rw [pk_us, hA.2.1 w hw, zI_add, if_pos rfl]
    · rw [pk_un (by omega), if_neg h, hA.2.1 w hw]
  · show upd (k_op u) s (k_op u s ||| (1 <<< (nI v &&& 31))) s = _
    rw [pk_us, hA.2.2, opm_or _ hv]
    rfl
  · show upd (k_op u) s _ j = _
    exact pk_un hj
  · show upd (k_fa u) (s * 3 + v) _ j = _
    exact pk_un (by omega)
