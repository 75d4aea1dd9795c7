-- numbers: a line b*w + r with small b; its truth (below 0, 0, divided by d)
def ln_h (k : Nat) (d v : Int) : Prop := if k = 60 then v < 0 else if k = 61 then v = 0 else d ∣ v
theorem ln_c {k : Nat} {d x y : Int} (h6 : x < 0 ↔ y < 0) (h7 : x = 0 ↔ y = 0) (hd : d ∣ x ↔ d ∣ y) : ln_h k d x ↔ ln_h k d y := by
  unfold ln_h
  split
  · exact h6
  · split
    · exact h7
    · exact hd
theorem ln_step {k : Nat} {d b r p w w' : Int} (hb : b = -2 ∨ b = -1 ∨ b = 1 ∨ b = 2) (h1 : -1 ≤ b * p + r) (h2 : b * p + r ≤ 1) (hw : p + 8 ≤ w ∨ w ≤ p - 8) (hd : d = 2 ∨ d = 3) (hw' : w' = w + 6 ∨ w' = w - 6) : ln_h k d (b * w + r) ↔ ln_h k d (b * w' + r) := by
  refine ln_c ?_ ?_ ?_
  · rcases hb with rfl | rfl | rfl | rfl <;> rcases hw' with rfl | rfl <;> omega
  · rcases hb with rfl | rfl | rfl | rfl <;> rcases hw' with rfl | rfl <;> omega
  · rcases hb with rfl | rfl | rfl | rfl <;> rcases hw' with rfl | rfl <;> rcases hd with rfl | rfl <;> omega
/-- a truth over the whole numbers that lines decide has a witness near 0 or near a line's turn -/
theorem ln_near {φ : Int → Prop} (L : List (Nat × Int × Int × Int)) (P : Nat × Int × Int × Int → Int)
    (hd : ∀ q ∈ L, q.2.1 = 2 ∨ q.2.1 = 3) (hb : ∀ q ∈ L, q.2.2.1 = 0 ∨ q.2.2.1 = -2 ∨ q.2.2.1 = -1 ∨ q.2.2.1 = 1 ∨ q.2.2.1 = 2)
    (hP : ∀ q ∈ L, q.2.2.1 ≠ 0 → -1 ≤ q.2.2.1 * P q + q.2.2.2 ∧ q.2.2.1 * P q + q.2.2.2 ≤ 1)
    (hφ : ∀ w w', (∀ q ∈ L, ln_h q.1 q.2.1 (q.2.2.1 * w + q.2.2.2) ↔ ln_h q.1 q.2.1 (q.2.2.1 * w' + q.2.2.2)) → (φ w ↔ φ w')) :
    ∀ (n : Nat) (w : Int), w.natAbs ≤ n → φ w → ∃ w', φ w' ∧ ((-7 ≤ w' ∧ w' ≤ 7) ∨ ∃ q ∈ L, q.2.2.1 ≠ 0 ∧ -7 ≤ w' - P q ∧ w' - P q ≤ 7) := by
  intro n
  induction n with
  | zero => intro w hn h; exact ⟨w, h, Or.inl (by omega)⟩
  | succ n ih =>
    intro w hn h
    by_cases h0 : -7 ≤ w ∧ w ≤ 7
    · exact ⟨w, h, Or.inl h0⟩
    by_cases hq : ∃ q ∈ L, q.2.2.1 ≠ 0 ∧ -7 ≤ w - P q ∧ w - P q ≤ 7
    · exact ⟨w, h, Or.inr hq⟩
    have key : ∀ w', (w' = w + 6 ∨ w' = w - 6) → (φ w ↔ φ w') := by
      intro w' hw'
      refine hφ w w' fun q hqL => ?_
      rcases hb q hqL with e | e
      · rw [e]; simp
      · have hne : q.2.2.1 ≠ 0 := by omega
        have hfar : P q + 8 ≤ w ∨ w ≤ P q - 8 := by
          by_cases hc : -7 ≤ w - P q ∧ w - P q ≤ 7
          · exact absurd ⟨q, hqL, hne, hc⟩ hq
          · omega
        exact ln_step e (hP q hqL hne).1 (hP q hqL hne).2 hfar (hd q hqL) hw'
    rcases Int.lt_or_le w 0 with hneg | hpos
    · exact ih (w + 6) (by omega) ((key _ (Or.inl rfl)).mp h)
    · exact ih (w - 6) (by omega) ((key _ (Or.inr rfl)).mp h)
theorem ln_nearE {φ : Int → Prop} (L : List (Nat × Int × Int × Int)) (P : Nat × Int × Int × Int → Int)
    (hd : ∀ q ∈ L, q.2.1 = 2 ∨ q.2.1 = 3) (hb : ∀ q ∈ L, q.2.2.1 = 0 ∨ q.2.2.1 = -2 ∨ q.2.2.1 = -1 ∨ q.2.2.1 = 1 ∨ q.2.2.1 = 2)
    (hP : ∀ q ∈ L, q.2.2.1 ≠ 0 → -1 ≤ q.2.2.1 * P q + q.2.2.2 ∧ q.2.2.1 * P q + q.2.2.2 ≤ 1)
    (hφ : ∀ w w', (∀ q ∈ L, ln_h q.1 q.2.1 (q.2.2.1 * w + q.2.2.2) ↔ ln_h q.1 q.2.1 (q.2.2.1 * w' + q.2.2.2)) → (φ w ↔ φ w')) :
    (∃ w, φ w) ↔ ∃ w', φ w' ∧ ((-7 ≤ w' ∧ w' ≤ 7) ∨ ∃ q ∈ L, q.2.2.1 ≠ 0 ∧ -7 ≤ w' - P q ∧ w' - P q ≤ 7) :=
  ⟨fun ⟨w, h⟩ => ln_near L P hd hb hP hφ w.natAbs w (Nat.le_refl _) h, fun ⟨w, h, _⟩ => ⟨w, h⟩⟩
-- tame: from 61 up and from -61 down the truth comes again after 12
def tame (f : Int → Prop) : Prop := (∀ v, 60 < v → (f v ↔ f (v + 12))) ∧ ∀ v, v < -60 → (f v ↔ f (v - 12))
theorem tame_const (c : Prop) : tame (fun _ => c) := ⟨fun _ _ => Iff.rfl, fun _ _ => Iff.rfl⟩
theorem tame_not {f : Int → Prop} (h : tame f) : tame (fun v => ¬ f v) := ⟨fun v hv => not_congr (h.1 v hv), fun v hv => not_congr (h.2 v hv)⟩
theorem tame_and {f g : Int → Prop} (h : tame f) (h' : tame g) : tame (fun v => f v ∧ g v) := ⟨fun v hv => and_congr (h.1 v hv) (h'.1 v hv), fun v hv => and_congr (h.2 v hv) (h'.2 v hv)⟩
theorem tame_or {f g : Int → Prop} (h : tame f) (h' : tame g) : tame (fun v => f v ∨ g v) := ⟨fun v hv => or_congr (h.1 v hv) (h'.1 v hv), fun v hv => or_congr (h.2 v hv) (h'.2 v hv)⟩
theorem tame_imp {f g : Int → Prop} (h : tame f) (h' : tame g) : tame (fun v => f v → g v) := ⟨fun v hv => imp_congr (h.1 v hv) (h'.1 v hv), fun v hv => imp_congr (h.2 v hv) (h'.2 v hv)⟩
theorem tame_congr {f g : Int → Prop} (h : tame f) (e : ∀ v, f v ↔ g v) : tame g := ⟨fun v hv => by rw [← e v, ← e (v + 12)]; exact h.1 v hv, fun v hv => by rw [← e v, ← e (v - 12)]; exact h.2 v hv⟩
theorem tame_ln {k : Nat} {d a c : Int} (hd : d = 2 ∨ d = 3) (ha : a = 0 ∨ a = -2 ∨ a = -1 ∨ a = 1 ∨ a = 2) (h1 : -15 ≤ c) (h2 : c ≤ 15) : tame (fun v => ln_h k d (a * v + c)) := by
  refine ⟨fun v hv => ?_, fun v hv => ?_⟩
  · show ln_h k d (a * v + c) ↔ ln_h k d (a * (v + 12) + c)
    refine ln_c ?_ ?_ ?_ <;> rcases hd with rfl | rfl <;> rcases ha with rfl | rfl | rfl | rfl | rfl <;> omega
  · show ln_h k d (a * v + c) ↔ ln_h k d (a * (v - 12) + c)
    refine ln_c ?_ ?_ ?_ <;> rcases hd with rfl | rfl <;> rcases ha with rfl | rfl | rfl | rfl | rfl <;> omega
theorem tame_up {f : Int → Prop} (h : tame f) (n : Nat) : ∀ v, 60 < v → (f v ↔ f (v + 12 * n)) := by
  induction n with
  | zero => intro v _; simp
  | succ n ih => intro v hv; rw [ih v hv, h.1 (v + 12 * n) (by omega)]; exact iff_of_eq (congrArg f (by omega))
theorem tame_dn {f : Int → Prop} (h : tame f) (n : Nat) : ∀ v, v < -60 → (f v ↔ f (v - 12 * n)) := by
  induction n with
  | zero => intro v _; simp
  | succ n ih => intro v hv; rw [ih v hv, h.2 (v - 12 * n) (by omega)]; exact iff_of_eq (congrArg f (by omega))
/-- the number of a stretch from -lo to hi, with a whole 12 beyond 60 at each end, that is as v -/
theorem tame_in {f : Int → Prop} (h : tame f) {lo hi : Int} (hl : lo ≤ -72) (hh : 72 ≤ hi) (v : Int) : ∃ w, lo ≤ w ∧ w ≤ hi ∧ (f v ↔ f w) := by
  by_cases h1 : hi < v
  · have e : v = (v - 12 * ((v - hi + 11) / 12)) + 12 * (((v - hi + 11) / 12).toNat : Int) := by omega
    refine ⟨v - 12 * ((v - hi + 11) / 12), by omega, by omega, ?_⟩
    conv => lhs; rw [e]
    exact (tame_up h _ _ (by omega)).symm
  by_cases h2 : v < lo
  · have e : v = (v + 12 * ((lo - v + 11) / 12)) - 12 * (((lo - v + 11) / 12).toNat : Int) := by omega
    refine ⟨v + 12 * ((lo - v + 11) / 12), by omega, by omega, ?_⟩
    conv => lhs; rw [e]
    exact (tame_dn h _ _ (by omega)).symm
  exact ⟨v, by omega, by omega, Iff.rfl⟩
theorem tame_ex {f : Int → Prop} (h : tame f) {lo hi : Int} (hl : lo ≤ -72) (hh : 72 ≤ hi) : (∃ v, f v) ↔ ∃ v, lo ≤ v ∧ v ≤ hi ∧ f v :=
  ⟨fun ⟨v, hv⟩ => by obtain ⟨w, a, b, c⟩ := tame_in h hl hh v; exact ⟨w, a, b, c.mp hv⟩, fun ⟨v, _, _, hv⟩ => ⟨v, hv⟩⟩
theorem tame_al {f : Int → Prop} (h : tame f) {lo hi : Int} (hl : lo ≤ -72) (hh : 72 ≤ hi) : (∀ v, f v) ↔ ∀ v, lo ≤ v → v ≤ hi → f v :=
  ⟨fun H v _ _ => H v, fun H v => by obtain ⟨w, a, b, c⟩ := tame_in h hl hh v; exact c.mpr (H w a b)⟩
-- two variables: a quantifier over w in a claim about v
theorem ln_sg {k : Nat} {d x y : Int} (h6 : x % 6 = y % 6) (hs : (0 < x ∧ 0 < y) ∨ (x < 0 ∧ y < 0) ∨ x = y) (hd : d = 2 ∨ d = 3) : ln_h k d x ↔ ln_h k d y := by
  refine ln_c ?_ ?_ ?_
  · omega
  · omega
  · rcases hd with rfl | rfl <;> omega
def sm2 (a : Int) : Prop := a = 0 ∨ a = -2 ∨ a = -1 ∨ a = 1 ∨ a = 2
/-- both v and v + t far out on the same side -/
def far2 (v t : Int) : Prop := (t = 12 ∨ t = -12) ∧ ((60 < v ∧ 60 < v + t) ∨ (v < -60 ∧ v + t < -60))
theorem ln_far0 {k : Nat} {d a b c x v t : Int} (hd : d = 2 ∨ d = 3) (ha : sm2 a) (hb : sm2 b) (hc1 : -15 ≤ c) (hc2 : c ≤ 15) (hx1 : -7 ≤ x) (hx2 : x ≤ 7) (hv : far2 v t) :
    ln_h k d (a * v + b * x + c) ↔ ln_h k d (a * (v + t) + b * x + c) := by
  obtain ⟨ht, hv⟩ := hv
  refine ln_sg ?_ ?_ hd
  · rcases ha with rfl | rfl | rfl | rfl | rfl <;> rcases ht with rfl | rfl <;> omega
  · rcases ha with rfl | rfl | rfl | rfl | rfl <;> rcases hb with rfl | rfl | rfl | rfl | rfl <;> omega
theorem det_e (a a' b b' v : Int) : (a' * b - b' * a) * v = b * (a' * v) - b' * (a * v) := by
  rw [Int.sub_mul, Int.mul_comm a' b, Int.mul_assoc, Int.mul_assoc]
theorem sg1 {d0 v E : Int} (h1 : 1 ≤ d0 ∨ d0 ≤ -1) (hE : (-60 ≤ E ∧ E ≤ 60) ∨ ((2 ≤ d0 ∨ d0 ≤ -2) ∧ -120 ≤ E ∧ E ≤ 120)) (hv : 61 ≤ v ∨ v ≤ -61) : (0 < d0 * v + E ∧ (0 < d0 ↔ 0 < v)) ∨ (d0 * v + E < 0 ∧ ¬ (0 < d0 ↔ 0 < v)) := by
  rcases h1 with h1 | h1 <;> rcases hv with hv | hv
  · left
    have k1 := Int.mul_le_mul_of_nonneg_right h1 (show 0 ≤ v by omega)
    by_cases h2 : 2 ≤ d0
    · have k2 := Int.mul_le_mul_of_nonneg_right h2 (show 0 ≤ v by omega)
      omega
    · omega
  · right
    have k1 := Int.mul_le_mul_of_nonpos_right h1 (show v ≤ 0 by omega)
    by_cases h2 : 2 ≤ d0
    · have k2 := Int.mul_le_mul_of_nonpos_right h2 (show v ≤ 0 by omega)
      omega
    · omega
  · right
    have k1 := Int.mul_le_mul_of_nonneg_right h1 (show 0 ≤ v by omega)
    by_cases h2 : d0 ≤ -2
    · have k2 := Int.mul_le_mul_of_nonneg_right h2 (show 0 ≤ v by omega)
      omega
    · omega
  · left
    have k1 := Int.mul_le_mul_of_nonpos_right h1 (show v ≤ 0 by omega)
    by_cases h2 : d0 ≤ -2
    · have k2 := Int.mul_le_mul_of_nonpos_right h2 (show v ≤ 0 by omega)
      omega
    · omega
/-- the sum beside a turn, taken along with the turn: its sign is that of the slope -/
theorem ln_far {k : Nat} {d a b a' b' c c' s x v t dl p : Int} (hd : d = 2 ∨ d = 3) (ha : sm2 a) (ha' : sm2 a') (hb' : sm2 b') (hb : b = -2 ∨ b = -1 ∨ b = 1 ∨ b = 2) (hc1 : -15 ≤ c) (hc2 : c ≤ 15) (hc1' : -15 ≤ c') (hc2' : c' ≤ 15)
    (hx1 : -7 ≤ x) (hx2 : x ≤ 7) (hp : b * p + (a * v + c) = s) (hs1 : -1 ≤ s) (hs2 : s ≤ 1) (hs3 : (b = 1 ∨ b = -1) → s = 0) (hv : far2 v t) (hdl : b * dl = - (a * t)) :
    ln_h k d (a' * v + b' * (p + x) + c') ↔ ln_h k d (a' * (v + t) + b' * (p + x + dl) + c') := by
  obtain ⟨ht, hv⟩ := hv
  have hM := det_e a a' b b' v
  have hT := det_e a a' b b' t
  have hV : a' * (v + t) = a' * v + a' * t := Int.mul_add _ _ _
  have hM2 : (a' * b - b' * a) * (v + t) = (a' * b - b' * a) * v + (a' * b - b' * a) * t := Int.mul_add _ _ _
  have h6 : ∃ e, dl = 6 * e := by
    rcases ht with rfl | rfl <;> rcases hb with rfl | rfl | rfl | rfl
    · exact ⟨a, by omega⟩
    · exact ⟨2 * a, by omega⟩
    · exact ⟨-(2 * a), by omega⟩
    · exact ⟨-a, by omega⟩
    · exact ⟨-a, by omega⟩
    · exact ⟨-(2 * a), by omega⟩
    · exact ⟨2 * a, by omega⟩
    · exact ⟨a, by omega⟩
  refine ln_sg ?_ ?_ hd
  · obtain ⟨e, rfl⟩ := h6
    have h12 : ∃ g, a' * t = 6 * g := by
      rcases ht with rfl | rfl
      · exact ⟨2 * a', by omega⟩
      · exact ⟨-(2 * a'), by omega⟩
    obtain ⟨g, hg⟩ := h12
    rw [hV, hg]
    rcases hb' with rfl | rfl | rfl | rfl | rfl <;> omega
  · rw [hV]
    by_cases h0 : a' * b - b' * a = 0
    · right; right
      rw [h0, Int.zero_mul] at hT
      rcases hb with rfl | rfl | rfl | rfl <;> rcases hb' with rfl | rfl | rfl | rfl | rfl <;> omega
    · have g1 : ∀ w, (60 < w ∨ w < -60) → ((0 < (a' * b - b' * a) * w + (b' * (s - c) + b' * (b * x) + b * c') ∧ (0 < a' * b - b' * a ↔ 0 < w)) ∨ ((a' * b - b' * a) * w + (b' * (s - c) + b' * (b * x) + b * c') < 0 ∧ ¬ (0 < a' * b - b' * a ↔ 0 < w))) := by
        intro w hw
        refine sg1 (by omega) ?_ (by omega)
        rcases hb with rfl | rfl | rfl | rfl <;> rcases hb' with rfl | rfl | rfl | rfl | rfl <;> omega
      have g2 := g1 v (by omega)
      have g3 := g1 (v + t) (by omega)
      rw [hM2] at g3
      generalize (a' * b - b' * a) * v = M at hM g2 g3
      generalize (a' * b - b' * a) * t = Mt at hT g3
      generalize a' * b - b' * a = dt at g2 g3
      generalize a' * v = P at hM ⊢
      generalize a' * t = U at hT ⊢
      generalize a * v = Qv at hM hp
      generalize a * t = Qt at hT hdl
      rcases hb with rfl | rfl | rfl | rfl <;> rcases hb' with rfl | rfl | rfl | rfl | rfl <;> omega
