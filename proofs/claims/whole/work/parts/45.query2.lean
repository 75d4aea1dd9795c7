theorem w_zero (w : Int64) : w = 0 ↔ ∀ i, i < 64 → bit w i = false := by
  constructor
  · rintro rfl i hi
    show (0#64).getLsbD i = false
    simp
  · intro h
    apply Int64.toBitVec_inj.mp
    apply BitVec.eq_of_getLsbD_eq
    intro i hi
    have := h i hi
    unfold bit at this
    rw [this]
    show false = (0#64).getLsbD i
    simp
theorem w_ones (w : Int64) : w = -1 ↔ ∀ i, i < 64 → bit w i = true := by
  constructor
  · rintro rfl i hi
    show (BitVec.allOnes 64).getLsbD i = true
    rw [BitVec.getLsbD_allOnes]; exact decide_eq_true hi
  · intro h
    apply Int64.toBitVec_inj.mp
    apply BitVec.eq_of_getLsbD_eq
    intro i hi
    have := h i hi
    unfold bit at this
    rw [this]
    show true = (BitVec.allOnes 64).getLsbD i
    rw [BitVec.getLsbD_allOnes]; exact (decide_eq_true hi).symm
theorem sW_one (u : KS) : f_W_hasOne u = some (bI (!(decide (k_wd u 0 = 0) && decide (k_wd u 1 = 0) && decide (k_wd u 2 = 0))), u) := by
  unfold f_W_hasOne
  rw [show (4096 : Nat) = 4092 + 1 + 1 + 1 + 1 from rfl, q_W_hasOne_L2, if_neg (by decide), gd_s (by decide), show (0 : Int32).toNatClampNeg = 0 from rfl]
  by_cases h0 : k_wd u 0 = 0
  · rw [if_pos (lg_cmp0.mpr h0)]
    simp only [lt_]
    rw [show (0 : Int32) + 1 = 1 from rfl, q_W_hasOne_L2, if_neg (by decide), gd_s (by decide), show (1 : Int32).toNatClampNeg = 1 from rfl]
    by_cases h1 : k_wd u 1 = 0
    · rw [if_pos (lg_cmp0.mpr h1)]
      simp only [lt_]
      rw [show (1 : Int32) + 1 = 2 from rfl, q_W_hasOne_L2, if_neg (by decide), gd_s (by decide), show (2 : Int32).toNatClampNeg = 2 from rfl]
      by_cases h2 : k_wd u 2 = 0
      · rw [if_pos (lg_cmp0.mpr h2)]
        simp only [lt_]
        rw [show (2 : Int32) + 1 = 3 from rfl, q_W_hasOne_L2, if_pos (by decide), gd_s (by decide), decide_eq_true h0, decide_eq_true h1, decide_eq_true h2]; rfl
      · rw [if_neg (fun h => h2 (lg_cmp0.mp h)), gd_s (by decide), decide_eq_false h2, Bool.and_false]; rfl
    · rw [if_neg (fun h => h1 (lg_cmp0.mp h)), gd_s (by decide), decide_eq_false h1, Bool.and_false, Bool.false_and]; rfl
  · rw [if_neg (fun h => h0 (lg_cmp0.mp h)), gd_s (by decide), decide_eq_false h0, Bool.false_and, Bool.false_and]; rfl
theorem sW_each (u : KS) : f_W_hasEach u = some (bI (decide (k_wd u 0 = -1) && decide (k_wd u 1 = -1) && decide (k_wd u 2 = -1)), u) := by
  unfold f_W_hasEach
  rw [show (4096 : Nat) = 4092 + 1 + 1 + 1 + 1 from rfl, q_W_hasEach_L2, if_neg (by decide), gd_s (by decide), show (0 : Int32).toNatClampNeg = 0 from rfl]
  by_cases h0 : k_wd u 0 = -1
  · rw [if_pos (lg_cmp0.mpr h0)]
    simp only [lt_]
    rw [show (0 : Int32) + 1 = 1 from rfl, q_W_hasEach_L2, if_neg (by decide), gd_s (by decide), show (1 : Int32).toNatClampNeg = 1 from rfl]
    by_cases h1 : k_wd u 1 = -1
    · rw [if_pos (lg_cmp0.mpr h1)]
      simp only [lt_]
      rw [show (1 : Int32) + 1 = 2 from rfl, q_W_hasEach_L2, if_neg (by decide), gd_s (by decide), show (2 : Int32).toNatClampNeg = 2 from rfl]
      by_cases h2 : k_wd u 2 = -1
      · rw [if_pos (lg_cmp0.mpr h2)]
        simp only [lt_]
        rw [show (2 : Int32) + 1 = 3 from rfl, q_W_hasEach_L2, if_pos (by decide), gd_s (by decide), decide_eq_true h0, decide_eq_true h1, decide_eq_true h2]; rfl
      · rw [if_neg (fun h => h2 (lg_cmp0.mp h)), gd_s (by decide), decide_eq_false h2, Bool.and_false]; rfl
    · rw [if_neg (fun h => h1 (lg_cmp0.mp h)), gd_s (by decide), decide_eq_false h1, Bool.and_false, Bool.false_and]; rfl
  · rw [if_neg (fun h => h0 (lg_cmp0.mp h)), gd_s (by decide), decide_eq_false h0, Bool.false_and, Bool.false_and]; rfl
theorem row_zero {u : KS} {f : Int → Bool} (hr : rowOf u f) : (k_wd u 0 = 0 ∧ k_wd u 1 = 0 ∧ k_wd u 2 = 0) ↔ ∀ v : Int, -96 ≤ v → v ≤ 95 → f v = false := by
  rw [w_zero, w_zero, w_zero]
  constructor
  · rintro ⟨h0, h1, h2⟩ v a b
    have hv := hr (v + 96).toNat (by omega)
    rw [show (-96 : Int) + ((v + 96).toNat : Int) = v by omega] at hv
    rw [← hv]
    rcases (show (v + 96).toNat / 64 = 0 ∨ (v + 96).toNat / 64 = 1 ∨ (v + 96).toNat / 64 = 2 by omega) with e | e | e <;> rw [e]
    · exact h0 _ (by omega)
    · exact h1 _ (by omega)
    · exact h2 _ (by omega)
  · intro h
    refine ⟨fun i hi => ?_, fun i hi => ?_, fun i hi => ?_⟩
    · have := hr i (by omega)
      rw [show i / 64 = 0 by omega, show i % 64 = i by omega] at this
      rw [this]; exact h _ (by omega) (by omega)
    · have := hr (64 + i) (by omega)
      rw [show (64 + i) / 64 = 1 by omega, show (64 + i) % 64 = i by omega] at this
      rw [this]; exact h _ (by omega) (by omega)
    · have := hr (128 + i) (by omega)
      rw [show (128 + i) / 64 = 2 by omega, show (128 + i) % 64 = i by omega] at this
      rw [this]; exact h _ (by omega) (by omega)
theorem row_ones {u : KS} {f : Int → Bool} (hr : rowOf u f) : (k_wd u 0 = -1 ∧ k_wd u 1 = -1 ∧ k_wd u 2 = -1) ↔ ∀ v : Int, -96 ≤ v → v ≤ 95 → f v = true := by
  rw [w_ones, w_ones, w_ones]
  constructor
  · rintro ⟨h0, h1, h2⟩ v a b
    have hv := hr (v + 96).toNat (by omega)
    rw [show (-96 : Int) + ((v + 96).toNat : Int) = v by omega] at hv
    rw [← hv]
    rcases (show (v + 96).toNat / 64 = 0 ∨ (v + 96).toNat / 64 = 1 ∨ (v + 96).toNat / 64 = 2 by omega) with e | e | e <;> rw [e]
    · exact h0 _ (by omega)
    · exact h1 _ (by omega)
    · exact h2 _ (by omega)
  · intro h
    refine ⟨fun i hi => ?_, fun i hi => ?_, fun i hi => ?_⟩
    · have := hr i (by omega)
      rw [show i / 64 = 0 by omega, show i % 64 = i by omega] at this
      rw [this]; exact h _ (by omega) (by omega)
    · have := hr (64 + i) (by omega)
      rw [show (64 + i) / 64 = 1 by omega, show (64 + i) % 64 = i by omega] at this
      rw [this]; exact h _ (by omega) (by omega)
    · have := hr (128 + i) (by omega)
      rw [show (128 + i) / 64 = 2 by omega, show (128 + i) % 64 = i by omega] at this
      rw [this]; exact h _ (by omega) (by omega)
theorem q_someK {u : KS} {f : Int → Bool} (hr : rowOf u f) (ht : tameB f) : ∃ r : Bool, f_L_some u = some (bI r, u) ∧ (r = true ↔ ∃ v, f v = true) := by
  unfold f_L_some
  rw [ob_s (sW_one u), bz_bI, gd_t]
  refine ⟨_, rfl, ?_⟩
  have h1 := row_zero hr
  rw [tame_ex ht (show (-96 : Int) ≤ -72 by omega) (show (72 : Int) ≤ 95 by omega)]
  constructor
  · intro h
    by_cases hx : ∃ v, -96 ≤ v ∧ v ≤ 95 ∧ f v = true
    · exact hx
    · obtain ⟨a, b, c⟩ := h1.mpr (fun v a b => by
        cases hf : f v
        · rfl
        · exact absurd ⟨v, a, b, hf⟩ hx)
      simp [a, b, c] at h
  · rintro ⟨v, a, b, hf⟩
    by_cases hx : k_wd u 0 = 0 ∧ k_wd u 1 = 0 ∧ k_wd u 2 = 0
    · have := h1.mp hx v a b
      rw [hf] at this; cases this
    · simp only [Bool.not_eq_true', Bool.and_eq_false_iff, decide_eq_false_iff_not]
      by_cases g0 : k_wd u 0 = 0
      · by_cases g1 : k_wd u 1 = 0
        · exact Or.inr (fun g2 => hx ⟨g0, g1, g2⟩)
        · exact Or.inl (Or.inr g1)
      · exact Or.inl (Or.inl g0)
theorem q_allK {u : KS} {f : Int → Bool} (hr : rowOf u f) (ht : tameB f) : ∃ r : Bool, f_L_all u = some (bI r, u) ∧ (r = true ↔ ∀ v, f v = true) := by
  unfold f_L_all
  rw [ob_s (sW_each u), bz_bI, gd_t]
  refine ⟨_, rfl, ?_⟩
  rw [tame_al ht (show (-96 : Int) ≤ -72 by omega) (show (72 : Int) ≤ 95 by omega), ← row_ones hr]
  simp only [Bool.and_eq_true, decide_eq_true_eq]
  exact ⟨fun h => ⟨h.1.1, h.1.2, h.2⟩, fun h => ⟨⟨h.1, h.2.1⟩, h.2.2⟩⟩
-- the reference's search and count
theorem sM_many1 {um : MS} {f : Int → Bool} {x : Bool} (hc : CM um f x) : ∀ (n : Nat) (b v : Int) (u : MS), b - v < n → -1200 ≤ v → v ≤ 1201 → -1200 ≤ b → b ≤ 1200 → co um u →
    ∃ (r : Bool) (u' : MS), f_M_many_L6 (n + 1) (zI b) 1 0 (zI v) u = some (bI r, u') ∧ co um u' ∧ (r = true ↔ ∃ w, v ≤ w ∧ w ≤ b ∧ f w = true) := by
  intro n
  induction n with
  | zero =>
    intro b v u h1 h2 h3 h4 h5 hu
    rw [q_M_many_L6, if_pos ((zI_lt (by omega) (by omega) (by omega) (by omega)).mpr (by omega))]
    exact ⟨false, u, rfl, hu, by simp; intro w a b; omega⟩
  | succ n ih =>
    intro b v u h1 h2 h3 h4 h5 hu
    rw [q_M_many_L6]
    by_cases hb : b < v
    · rw [if_pos ((zI_lt (by omega) (by omega) (by omega) (by omega)).mpr hb)]
      exact ⟨false, u, rfl, hu, by simp; intro w a b; omega⟩
    · rw [if_neg (fun h => hb ((zI_lt (by omega) (by omega) (by omega) (by omega)).mp h)), if_neg (by decide), if_neg (by decide)]
      unfold f_M_many_J21
      obtain ⟨u1, e1, c1⟩ := hc.2 v u h2 (by omega) hu
      rw [ob_s e1]
      cases hf : f v
      · rw [if_pos (by rfl)]
        simp only [lt_]
        rw [show zI v + 1 = zI (v + 1) from zI_add v 1]
        obtain ⟨r, u2, e2, c2, hr⟩ := ih b (v + 1) u1 (by omega) (by omega) (by omega) h4 h5 c1
        refine ⟨r, u2, e2, c2, hr.trans ⟨fun ⟨w, a, b, c⟩ => ⟨w, by omega, b, c⟩, fun ⟨w, a, b, c⟩ => ⟨w, ?_, b, c⟩⟩⟩
        rcases Int.lt_or_eq_of_le a with h | h
        · omega
        · subst h; rw [hf] at c; cases c
      · rw [if_neg (by decide)]
        simp only [lt_]
        rw [show (0 : Int32) + 1 = 1 from rfl, q_M_many_L6]
        refine ⟨true, u1, ?_, c1, by simp; exact ⟨v, by omega, by omega, hf⟩⟩
        rw [if_neg (by decide : ¬ (1 : Int32) = 0), if_pos (by decide : (0 : Int32) < 1)]
        split <;> rfl
def cnt (f : Int → Bool) : Int → Nat → Nat
  | _, 0 => 0
  | v, n + 1 => (if f v = true then 1 else 0) + cnt f (v + 1) n
theorem cnt_le (f : Int → Bool) : ∀ (n : Nat) (v : Int), cnt f v n ≤ n
  | 0, v => Nat.le_refl _
  | n + 1, v => by
    have := cnt_le f n (v + 1)
    unfold cnt
    split <;> omega
theorem cnt_all (f : Int → Bool) : ∀ (n : Nat) (v : Int), cnt f v n = n ↔ ∀ w, v ≤ w → w < v + n → f w = true
  | 0, v => by unfold cnt; simp; intro w a b; omega
  | n + 1, v => by
    have h1 := cnt_le f n (v + 1)
    have h2 := cnt_all f n (v + 1)
    unfold cnt
    by_cases hf : f v = true
    · rw [if_pos hf]
      constructor
      · intro h w a b
        rcases Int.lt_or_eq_of_le a with g | g
        · exact h2.mp (by omega) w (by omega) (by omega)
        · subst g; exact hf
      · intro h
        have := h2.mpr (fun w a b => h w (by omega) (by omega))
        omega
    · rw [if_neg hf]
      constructor
      · intro h; omega
      · intro h; exact absurd (h v (by omega) (by omega)) hf
theorem sM_many0 {um : MS} {f : Int → Bool} {x : Bool} (hc : CM um f x) : ∀ (n : Nat) (b v c : Int) (u : MS), b - v < n → -1200 ≤ v → v ≤ 1201 → -1200 ≤ b → b ≤ 1200 → co um u →
    ∃ (u' : MS), f_M_many_L6 (n + 1) (zI b) 0 (zI c) (zI v) u = some (zI (c + (cnt f v (b - v + 1).toNat : Int)), u') ∧ co um u' := by
  intro n
  induction n with
  | zero =>
    intro b v c u h1 h2 h3 h4 h5 hu
    rw [q_M_many_L6, if_pos ((zI_lt (by omega) (by omega) (by omega) (by omega)).mpr (by omega)), show (b - v + 1).toNat = 0 by omega]
    exact ⟨u, by unfold cnt; simp, hu⟩
  | succ n ih =>
    intro b v c u h1 h2 h3 h4 h5 hu
    rw [q_M_many_L6]
    by_cases hb : b < v
    · rw [if_pos ((zI_lt (by omega) (by omega) (by omega) (by omega)).mpr hb), show (b - v + 1).toNat = 0 by omega]
      exact ⟨u, by unfold cnt; simp, hu⟩
    · rw [if_neg (fun h => hb ((zI_lt (by omega) (by omega) (by omega) (by omega)).mp h)), if_pos rfl]
      unfold f_M_many_J21
      obtain ⟨u1, e1, c1⟩ := hc.2 v u h2 (by omega) hu
      rw [ob_s e1, show (b - v + 1).toNat = (b - (v + 1) + 1).toNat + 1 by omega, show cnt f v ((b - (v + 1) + 1).toNat + 1) = (if f v = true then 1 else 0) + cnt f (v + 1) (b - (v + 1) + 1).toNat from rfl]
      cases hf : f v
      · rw [if_pos (by rfl)]
        simp only [lt_]
        rw [show zI v + 1 = zI (v + 1) from zI_add v 1]
        obtain ⟨u2, e2, c2⟩ := ih b (v + 1) c u1 (by omega) (by omega) (by omega) h4 h5 c1
        refine ⟨u2, ?_, c2⟩
        rw [e2]
        simp
      · rw [if_neg (by decide)]
        simp only [lt_]
        rw [show zI v + 1 = zI (v + 1) from zI_add v 1, show zI c + 1 = zI (c + 1) from zI_add c 1]
        obtain ⟨u2, e2, c2⟩ := ih b (v + 1) (c + 1) u1 (by omega) (by omega) (by omega) h4 h5 c1
        refine ⟨u2, ?_, c2⟩
        rw [e2]
        congr 3
        simp
        omega
