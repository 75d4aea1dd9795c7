theorem tB_up {f : Int → Bool} (ht : tameB f) (n : Nat) (v : Int) (hv : 60 < v) : f v = f (v + 12 * n) := by
  have := tame_up ht n v hv
  cases h1 : f v <;> cases h2 : f (v + 12 * n) <;> simp_all
theorem tB_dn {f : Int → Bool} (ht : tameB f) (n : Nat) (v : Int) (hv : v < -60) : f v = f (v - 12 * n) := by
  have := tame_dn ht n v hv
  cases h1 : f v <;> cases h2 : f (v - 12 * n) <;> simp_all
/-- far up, any two numbers with a difference of 12's are alike -/
theorem tB_m {f : Int → Bool} (ht : tameB f) {v w : Int} (hv : 60 < v) (hw : 60 < w) (hm : v % 12 = w % 12) : f v = f w := by
  rcases Int.le_total v w with h | h
  · rw [tB_up ht ((w - v) / 12).toNat v hv]; congr 1; omega
  · rw [tB_up ht ((v - w) / 12).toNat w hw]; congr 1; omega
theorem tB_n {f : Int → Bool} (ht : tameB f) {v w : Int} (hv : v < -60) (hw : w < -60) (hm : v % 12 = w % 12) : f v = f w := by
  rcases Int.le_total v w with h | h
  · rw [tB_dn ht ((w - v) / 12).toNat w hw]; congr 1; omega
  · rw [tB_dn ht ((v - w) / 12).toNat v hv]; congr 1; omega
def gA (a : Int32) (i : Int) : Int := if a = 0 then -96 + i else 95 - i
theorem sL_again {u : KS} {f : Int → Bool} (hr : rowOf u f) (ht : tameB f) (a : Int32) : ∀ (n : Nat) (i : Int), 12 - i < n → 0 ≤ i → i ≤ 12 →
    ∃ r : Bool, f_L_again_L2 (n + 1) a (zI i) u = some (bI r, u) ∧ (r = true ↔ ∃ j, i ≤ j ∧ j < 12 ∧ f (gA a j) = true) := by
  intro n
  induction n with
  | zero => intro i h1 h2 h3; omega
  | succ n ih =>
    intro i h1 h2 h3
    rw [q_L_again_L2]
    have e12 : 12 ≤ zI i ↔ 12 ≤ i := by
      rw [show (12 : Int32) = zI 12 from rfl]; exact zI_le (by omega) (by omega) (by omega) (by omega)
    by_cases hb : 12 ≤ i
    · rw [if_pos (e12.mpr hb)]
      exact ⟨false, rfl, by simp; intro j a b; omega⟩
    · rw [if_neg (fun h => hb (e12.mp h))]
      have key : ∀ t0 : Int32, t0 = zI (gA a i) → ∃ r : Bool, f_L_again_J27 (f_L_again_L2 (n + 1)) a (zI i) t0 u = some (bI r, u) ∧ (r = true ↔ ∃ j, i ≤ j ∧ j < 12 ∧ f (gA a j) = true) := by
        intro t0 ht0
        subst ht0
        unfold f_L_again_J27
        have hg : -200 ≤ gA a i ∧ gA a i ≤ 200 := by unfold gA; split <;> omega
        rw [ob_s (sK_has (by omega) (by omega) hr ht)]
        cases hf : f (gA a i)
        · rw [if_pos (by rfl)]
          simp only [lt_]
          rw [show zI i + 1 = zI (i + 1) from zI_add i 1]
          obtain ⟨r, e, h⟩ := ih (i + 1) (by omega) (by omega) (by omega)
          refine ⟨r, e, h.trans ⟨fun ⟨j, a1, b1, c1⟩ => ⟨j, by omega, b1, c1⟩, fun ⟨j, a1, b1, c1⟩ => ⟨j, ?_, b1, c1⟩⟩⟩
          rcases Int.lt_or_eq_of_le a1 with g | g
          · omega
          · subst g; rw [hf] at c1; cases c1
        · rw [if_neg (by decide)]
          exact ⟨true, rfl, by simp; exact ⟨i, by omega, by omega, hf⟩⟩
      by_cases h0 : a = 0
      · rw [if_pos h0]
        exact key _ (by unfold gA; rw [if_pos h0, show (-96 : Int32) = zI (-96) from rfl, zI_add])
      · rw [if_neg h0]
        exact key _ (by unfold gA; rw [if_neg h0, show (95 : Int32) = zI 95 from rfl, zI_sub])
theorem q_again {u : KS} {um : MS} {f : Int → Bool} {x : Bool} (hr : rowOf u f) (hc : CM um f x) (ht : tameB f) {a : Int32} : ∃ (r : Bool) (u' : MS), f_L_again a u = some (bI r, u) ∧ f_M_again a um = some (bI r, u') ∧ co um u' := by
  obtain ⟨r, e, h⟩ := sL_again hr ht a 4095 0 (by omega) (by omega) (by omega)
  have e : f_L_again a u = some (bI r, u) := e
  unfold f_M_again
  by_cases h0 : a = 0
  · rw [if_pos h0]
    unfold f_M_many
    obtain ⟨r2, u2, e2, c2, h2⟩ := sM_many1 hc 4095 (-150) (-162) um (by omega) (by omega) (by omega) (by omega) (by omega) (co_rf um)
    have e2 : f_M_many_L6 4096 (-150) 1 0 (-162) um = some (bI r2, u2) := e2
    rw [ob_s e2]
    have hrr : r = r2 := by
      have : r = true ↔ r2 = true := by
        rw [h, h2]
        constructor
        · rintro ⟨j, j1, j2, j3⟩
          unfold gA at j3
          rw [if_pos h0] at j3
          refine ⟨-161 + (j - 96 + 161) % 12, by omega, by omega, ?_⟩
          rw [← j3]; exact tB_n ht (by omega) (by omega) (by omega)
        · rintro ⟨w, w1, w2, w3⟩
          refine ⟨(w + 96) % 12, by omega, by omega, ?_⟩
          unfold gA
          rw [if_pos h0, ← w3]; exact tB_n ht (by omega) (by omega) (by omega)
      cases r <;> cases r2 <;> simp_all
    exact ⟨r, u2, e, by rw [hrr]; cases r2 <;> rfl, c2⟩
  · rw [if_neg h0]
    unfold f_M_many
    obtain ⟨r2, u2, e2, c2, h2⟩ := sM_many1 hc 4095 162 150 um (by omega) (by omega) (by omega) (by omega) (by omega) (co_rf um)
    have e2 : f_M_many_L6 4096 162 1 0 150 um = some (bI r2, u2) := e2
    rw [ob_s e2]
    have hrr : r = r2 := by
      have : r = true ↔ r2 = true := by
        rw [h, h2]
        constructor
        · rintro ⟨j, j1, j2, j3⟩
          unfold gA at j3
          rw [if_neg h0] at j3
          refine ⟨150 + (95 - j - 150) % 12, by omega, by omega, ?_⟩
          rw [← j3]; exact tB_m ht (by omega) (by omega) (by omega)
        · rintro ⟨w, w1, w2, w3⟩
          refine ⟨(95 - w) % 12, by omega, by omega, ?_⟩
          unfold gA
          rw [if_neg h0, ← w3]; exact tB_m ht (by omega) (by omega) (by omega)
      cases r <;> cases r2 <;> simp_all
    exact ⟨r, u2, e, by rw [hrr]; cases r2 <;> rfl, c2⟩
-- the period
def rep (f : Int → Bool) (p : Int) : Prop := ∀ w, 61 ≤ w → f w = f (w + p)
theorem rep_in {f : Int → Bool} (ht : tameB f) {p : Int} (hp : 0 ≤ p) {c : Int} (hc : 61 ≤ c) : (∀ w, c ≤ w → w < c + 12 → f w = f (w + p)) ↔ rep f p := by
  constructor
  · intro h w hw
    have h1 := h (c + (w - c) % 12) (by omega) (by omega)
    rw [tB_m ht (v := w) (w := c + (w - c) % 12) (by omega) (by omega) (by omega), h1]
    exact tB_m ht (by omega) (by omega) (by omega)
  · intro h w a b; exact h w (by omega)
theorem rep_12 {f : Int → Bool} (ht : tameB f) : rep f 12 := fun w hw => tB_m ht (by omega) (by omega) (by omega)
theorem sW_rep {u : KS} {f : Int → Bool} (hr : rowOf u f) (ht : tameB f) {p : Int} (h0 : 0 ≤ p) (h9 : p ≤ 20) : ∀ (n : Nat) (v : Int), 107 - v < n → 95 ≤ v → v ≤ 107 →
    ∃ r : Bool, f_W_repeatsAfter_L3 (n + 1) (zI p) (zI v) u = some (bI r, u) ∧ (r = true ↔ ∀ w, v ≤ w → w < 107 → f w = f (w + p)) := by
  intro n
  induction n with
  | zero => intro v h1 h2 h3; omega
  | succ n ih =>
    intro v h1 h2 h3
    rw [q_W_repeatsAfter_L3]
    have e12 : 107 ≤ zI v ↔ 107 ≤ v := by
      rw [show (107 : Int32) = zI 107 from rfl]; exact zI_le (by omega) (by omega) (by omega) (by omega)
    by_cases hb : 107 ≤ v
    · rw [if_pos (e12.mpr hb)]
      exact ⟨true, rfl, by simp; intro j a b; omega⟩
    · rw [if_neg (fun h => hb (e12.mp h)), ob_s (sK_has (by omega) (by omega) hr ht), zI_add, ob_s (sK_has (by omega) (by omega) hr ht)]
      by_cases hf : f v = f (v + p)
      · rw [if_pos (bI_inj.mpr hf)]
        simp only [lt_]
        rw [show zI v + 1 = zI (v + 1) from zI_add v 1]
        obtain ⟨r, e, h⟩ := ih (v + 1) (by omega) (by omega) (by omega)
        refine ⟨r, e, h.trans ⟨fun g w a b => ?_, fun g w a b => g w (by omega) b⟩⟩
        rcases Int.lt_or_eq_of_le a with q | q
        · exact g w (by omega) b
        · subst q; exact hf
      · rw [if_neg (fun h => hf (bI_inj.mp h))]
        exact ⟨false, rfl, ⟨fun h => (by cases h), fun g => absurd (g v (by omega) (by omega)) hf⟩⟩
def perP (f : Int → Bool) (r : Int) : Prop := 1 ≤ r ∧ r ≤ 12 ∧ rep f r ∧ ∀ q, 1 ≤ q → q < r → ¬ rep f q
theorem perP_u {f : Int → Bool} {r s : Int} (h : perP f r) (g : perP f s) : r = s := by
  rcases Int.lt_trichotomy r s with c | c | c
  · exact absurd h.2.2.1 (g.2.2.2 r h.1 c)
  · exact c
  · exact absurd g.2.2.1 (h.2.2.2 s g.1 c)
theorem sL_period {u : KS} {f : Int → Bool} (hr : rowOf u f) (ht : tameB f) : ∀ (n : Nat) (p : Int), 12 - p < n → 1 ≤ p → p ≤ 12 → (∀ q, 1 ≤ q → q < p → ¬ rep f q) →
    ∃ r : Int, f_L_period_L2 (n + 1) (zI p) u = some (zI r, u) ∧ perP f r := by
  intro n
  induction n with
  | zero => intro p h1 h2 h3; omega
  | succ n ih =>
    intro p h1 h2 h3 hq
    rw [q_L_period_L2]
    have e12 : 12 ≤ zI p ↔ 12 ≤ p := by
      rw [show (12 : Int32) = zI 12 from rfl]; exact zI_le (by omega) (by omega) (by omega) (by omega)
    by_cases hb : 12 ≤ p
    · rw [if_pos (e12.mpr hb)]
      refine ⟨12, rfl, by omega, by omega, rep_12 ht, ?_⟩
      rw [show (12 : Int) = p by omega]; exact hq
    · rw [if_neg (fun h => hb (e12.mp h))]
      obtain ⟨r, e, h⟩ := sW_rep hr ht (p := p) (by omega) (by omega) 4095 95 (by omega) (by omega) (by omega)
      have e : f_W_repeatsAfter (zI p) u = some (bI r, u) := e
      have hrep : r = true ↔ rep f p := by rw [h]; exact rep_in ht (by omega) (c := 95) (by omega)
      rw [ob_s e]
      cases r
      · rw [if_pos (by rfl)]
        simp only [lt_]
        rw [show zI p + 1 = zI (p + 1) from zI_add p 1]
        refine ih (p + 1) (by omega) (by omega) (by omega) (fun q a b => ?_)
        by_cases c : q < p
        · exact hq q a c
        · rw [show q = p by omega]; intro z; exact absurd (hrep.mpr z) (by decide)
      · rw [if_neg (by decide)]
        exact ⟨p, rfl, h2, h3, hrep.mp rfl, hq⟩
theorem sM_per1 {um : MS} {f : Int → Bool} {x : Bool} (hc : CM um f x) (k4 : Int32 → Int32 → MS → Option (Int32 × MS)) {p : Int} (p0 : 0 ≤ p) (p1 : p ≤ 20) : ∀ (n : Nat) (v : Int) (u : MS), 162 - v < n → 150 ≤ v → v ≤ 162 → co um u →
    ∃ (b : Bool) (u' : MS), f_M_period_L18 k4 (n + 1) (zI p) 1 (zI v) u = k4 (zI p) (bI b) u' ∧ co um u' ∧ (b = true ↔ ∀ w, v ≤ w → w < 162 → f w = f (w + p)) := by
  intro n
  induction n with
  | zero => intro v u h1 h2 h3; omega
  | succ n ih =>
    intro v u h1 h2 h3 hu
    rw [q_M_period_L18]
    have e12 : 162 ≤ zI v ↔ 162 ≤ v := by
      rw [show (162 : Int32) = zI 162 from rfl]; exact zI_le (by omega) (by omega) (by omega) (by omega)
    by_cases hb : 162 ≤ v
    · rw [if_pos (e12.mpr hb)]
      exact ⟨true, u, rfl, hu, by simp; intro j a b; omega⟩
    · obtain ⟨u1, e1, c1⟩ := hc.2 v u (by omega) (by omega) hu
      obtain ⟨u2, e2, c2⟩ := hc.2 (v + p) u1 (by omega) (by omega) c1
      rw [if_neg (fun h => hb (e12.mp h)), if_neg (by decide), ob_s e1, zI_add, ob_s e2]
      by_cases hf : f v = f (v + p)
      · rw [if_pos (bI_inj.mpr hf)]
        simp only [lt_]
        rw [show zI v + 1 = zI (v + 1) from zI_add v 1]
        obtain ⟨b, u3, e, c3, h⟩ := ih (v + 1) u2 (by omega) (by omega) (by omega) c2
        refine ⟨b, u3, e, c3, h.trans ⟨fun g w a b => ?_, fun g w a b => g w (by omega) b⟩⟩
        rcases Int.lt_or_eq_of_le a with q | q
        · exact g w (by omega) b
        · subst q; exact hf
      · rw [if_neg (fun h => hf (bI_inj.mp h))]
        simp only [lt_]
        rw [q_M_period_L18, if_pos (rfl : (0 : Int32) = 0)]
        refine ⟨false, u2, by split <;> rfl, c2, ⟨fun h => (by cases h), fun g => absurd (g v (by omega) (by omega)) hf⟩⟩
theorem sM_period {um : MS} {f : Int → Bool} {x : Bool} (hc : CM um f x) (ht : tameB f) : ∀ (n : Nat) (p : Int) (u : MS), 13 - p < n → 0 ≤ p → p < 12 → (∀ q, 1 ≤ q → q ≤ p → ¬ rep f q) → co um u →
    ∃ (r : Int) (u' : MS), f_M_period_L4 (n + 1) (zI p) 0 u = some (zI r, u') ∧ perP f r ∧ co um u' := by
  intro n
  induction n with
  | zero => intro p u h1 h2 h3; omega
  | succ n ih =>
    intro p u h1 h2 h3 hq hu
    rw [q_M_period_L4, if_pos rfl]
    simp only [lt_]
    rw [show zI p + 1 = zI (p + 1) from zI_add p 1]
    obtain ⟨b, u1, e, c1, h⟩ := sM_per1 hc (f_M_period_L4 (n + 1)) (p := p + 1) (by omega) (by omega) 4095 150 u (by omega) (by omega) (by omega) hu
    have e : f_M_period_L18 (f_M_period_L4 (n + 1)) 4096 (zI (p + 1)) 1 150 u = f_M_period_L4 (n + 1) (zI (p + 1)) (bI b) u1 := e
    have hrep : b = true ↔ rep f (p + 1) := by rw [h]; exact rep_in ht (by omega) (c := 150) (by omega)
    rw [e]
    cases b
    · have hn : ¬ rep f (p + 1) := fun z => absurd (hrep.mpr z) (by decide)
      have h12 : p + 1 ≠ 12 := fun z => hn (by rw [z]; exact rep_12 ht)
      exact ih (p + 1) u1 (by omega) (by omega) (by omega) (fun q a b => by
        by_cases c : q ≤ p
        · exact hq q a c
        · rw [show q = p + 1 by omega]; exact hn) c1
    · rw [q_M_period_L4, if_neg (by decide)]
      exact ⟨p + 1, u1, rfl, ⟨by omega, by omega, hrep.mp rfl, fun q a b => hq q a (by omega)⟩, c1⟩
theorem q_period {u : KS} {um : MS} {f : Int → Bool} {x : Bool} (hr : rowOf u f) (hc : CM um f x) (ht : tameB f) : ∃ (r : Int32) (u' : MS), f_L_period u = some (r, u) ∧ f_M_period um = some (r, u') ∧ co um u' := by
  obtain ⟨r, e, h⟩ := sL_period hr ht 4095 1 (by omega) (by omega) (by omega) (fun q a b => by omega)
  obtain ⟨r2, u2, e2, h2, c2⟩ := sM_period hc ht 4095 0 um (by omega) (by omega) (by omega) (fun q a b => by omega) (co_rf um)
  have := perP_u h h2
  subst this
  exact ⟨zI r, u2, e, e2, c2⟩
