def pf_t (b r : Int) : Int := if b = 1 then -r else if b = -1 then r else if b = 2 then -(r / 2) else r / 2
theorem pf_ok {b r : Int} (hb : b = -2 ∨ b = -1 ∨ b = 1 ∨ b = 2) : -1 ≤ b * pf_t b r + r ∧ b * pf_t b r + r ≤ 1 ∧ ((b = 1 ∨ b = -1) → b * pf_t b r + r = 0) := by
  unfold pf_t
  rcases hb with rfl | rfl | rfl | rfl <;> simp <;> omega
theorem dl_ok {a b t : Int} (hb : b = -2 ∨ b = -1 ∨ b = 1 ∨ b = 2) (ht : t = 12 ∨ t = -12) : ∃ dl, b * dl = -(a * t) := by
  rcases hb with rfl | rfl | rfl | rfl <;> rcases ht with rfl | rfl
  · exact ⟨6 * a, by omega⟩
  · exact ⟨-(6 * a), by omega⟩
  · exact ⟨12 * a, by omega⟩
  · exact ⟨-(12 * a), by omega⟩
  · exact ⟨-(12 * a), by omega⟩
  · exact ⟨12 * a, by omega⟩
  · exact ⟨-(6 * a), by omega⟩
  · exact ⟨6 * a, by omega⟩
/-- lines in two variables: kind, divisor, slope in v, slope in w, number -/
abbrev L2 : Type := Nat × Int × Int × Int × Int
def l2_h (q : L2) (v w : Int) : Prop := ln_h q.1 q.2.1 (q.2.2.1 * v + q.2.2.2.1 * w + q.2.2.2.2)
def l2_ok (q : L2) : Prop := (q.2.1 = 2 ∨ q.2.1 = 3) ∧ sm2 q.2.2.1 ∧ sm2 q.2.2.2.1 ∧ -15 ≤ q.2.2.2.2 ∧ q.2.2.2.2 ≤ 15
def l2_dep (L : List L2) (φ : Int → Int → Prop) : Prop := ∀ v w v' w', (∀ q ∈ L, l2_h q v w ↔ l2_h q v' w') → (φ v w ↔ φ v' w')
theorem tame_q1 {φ : Int → Int → Prop} {L : List L2} (hL : ∀ q ∈ L, l2_ok q) (hφ : l2_dep L φ) {v t : Int} (hv : far2 v t) : (∃ w, φ v w) → ∃ w, φ (v + t) w := by
  rintro ⟨w0, h0⟩
  have hn := ln_near (φ := φ v) (L.map fun q => (q.1, q.2.1, q.2.2.2.1, q.2.2.1 * v + q.2.2.2.2)) (fun r => pf_t r.2.2.1 r.2.2.2)
    (fun r hr => by obtain ⟨q, hq, rfl⟩ := List.mem_map.mp hr; exact (hL q hq).1)
    (fun r hr => by obtain ⟨q, hq, rfl⟩ := List.mem_map.mp hr; exact (hL q hq).2.2.1)
    (fun r hr h => by
      obtain ⟨q, hq, rfl⟩ := List.mem_map.mp hr
      have hb := (hL q hq).2.2.1
      have := pf_ok (r := q.2.2.1 * v + q.2.2.2.2) (b := q.2.2.2.1) (by rcases hb with e | e; exact absurd e h; exact e)
      exact ⟨this.1, this.2.1⟩)
    (fun w w' h => hφ v w v w' fun q hq => by
      have := h _ (List.mem_map.mpr ⟨q, hq, rfl⟩)
      have e : ∀ z, q.2.2.1 * v + q.2.2.2.1 * z + q.2.2.2.2 = q.2.2.2.1 * z + (q.2.2.1 * v + q.2.2.2.2) := fun z => by omega
      unfold l2_h
      rw [e w, e w']
      exact this)
    w0.natAbs w0 (Nat.le_refl _) h0
  obtain ⟨w, hw, h⟩ := hn
  rcases h with ⟨h1, h2⟩ | ⟨r, hr, hne, h1, h2⟩
  · exact ⟨w, (hφ v w (v + t) w fun q hq => by
      obtain ⟨a1, a2, a3, a4, a5⟩ := hL q hq
      exact ln_far0 a1 a2 a3 a4 a5 h1 h2 hv).mp hw⟩
  · obtain ⟨n, hn, rfl⟩ := List.mem_map.mp hr
    obtain ⟨b1, b2, b3, b4, b5⟩ := hL n hn
    have hb : n.2.2.2.1 = -2 ∨ n.2.2.2.1 = -1 ∨ n.2.2.2.1 = 1 ∨ n.2.2.2.1 = 2 := by rcases b3 with e | e; exact absurd e hne; exact e
    obtain ⟨p1, p2, p3⟩ := pf_ok (r := n.2.2.1 * v + n.2.2.2.2) hb
    obtain ⟨dl, hdl⟩ := dl_ok (a := n.2.2.1) hb hv.1
    refine ⟨w + dl, (hφ v w (v + t) (w + dl) fun q hq => ?_).mp hw⟩
    obtain ⟨a1, a2, a3, a4, a5⟩ := hL q hq
    have key := ln_far (k := q.1) (x := w - pf_t n.2.2.2.1 (n.2.2.1 * v + n.2.2.2.2)) a1 b2 a2 a3 hb b4 b5 a4 a5 h1 h2 (p := pf_t n.2.2.2.1 (n.2.2.1 * v + n.2.2.2.2)) rfl p1 p2 p3 hv hdl
    rw [show pf_t n.2.2.2.1 (n.2.2.1 * v + n.2.2.2.2) + (w - pf_t n.2.2.2.1 (n.2.2.1 * v + n.2.2.2.2)) = w by omega] at key
    exact key
theorem tame_q {φ : Int → Int → Prop} {L : List L2} (hL : ∀ q ∈ L, l2_ok q) (hφ : l2_dep L φ) : tame (fun v => ∃ w, φ v w) := by
  refine ⟨fun v hv => ⟨tame_q1 hL hφ ⟨Or.inl rfl, Or.inl ⟨hv, by omega⟩⟩, fun h => ?_⟩, fun v hv => ⟨fun h => ?_, fun h => ?_⟩⟩
  · have := tame_q1 hL hφ (v := v + 12) (t := -12) ⟨Or.inr rfl, Or.inl ⟨by omega, by omega⟩⟩ h
    rwa [show v + 12 + -12 = v by omega] at this
  · have := tame_q1 hL hφ (v := v) (t := -12) ⟨Or.inr rfl, Or.inr ⟨hv, by omega⟩⟩ h
    rwa [show v + -12 = v - 12 by omega] at this
  · have := tame_q1 hL hφ (v := v - 12) (t := 12) ⟨Or.inl rfl, Or.inr ⟨by omega, by omega⟩⟩ h
    rwa [show v - 12 + 12 = v by omega] at this
