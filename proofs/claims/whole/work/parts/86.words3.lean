theorem l64_dec : ∀ k, k < 64 → ∀ i, i < 64 → bit (((1 : Int64) <<< ((nI k).toInt64 &&& 63)) - 1) i = decide (i < k) := by decide +kernel
theorem o64_dec : ∀ k, k < 64 → ∀ i, i < 64 → bit ((1 : Int64) <<< ((nI k).toInt64 &&& 63)) i = decide (i = k) := by decide +kernel
theorem m2_dec : ∀ k, k < 2 → ∀ i, i < 64 → bit ((6148914691236517205 : Int64) <<< ((nI k).toInt64 &&& 63)) i = decide (i % 2 = k) := by decide +kernel
theorem m3_dec : ∀ k, k < 3 → ∀ i, i < 64 → bit ((-7905747460161236407 : Int64) <<< ((nI k).toInt64 &&& 63)) i = decide (i % 3 = k) := by decide +kernel
theorem bit_o (a b : Int64) (i : Nat) : bit (a ||| b) i = (bit a i || bit b i) := by
  unfold bit
  rw [Int64.toBitVec_or, BitVec.getLsbD_or]
theorem bit_a (a b : Int64) (i : Nat) : bit (a &&& b) i = (bit a i && bit b i) := by
  unfold bit
  rw [Int64.toBitVec_and, BitVec.getLsbD_and]
theorem bit_m1 {i : Nat} (hi : i < 64) : bit (-1) i = true := (w_ones (-1)).mp rfl i hi
theorem bit_0 {i : Nat} (hi : i < 64) : bit 0 i = false := (w_zero 0).mp rfl i hi
theorem bit_n (a : Int64) {i : Nat} (hi : i < 64) : bit (a ^^^ (-1)) i = !bit a i := by
  have h : bit (a ^^^ (-1)) i = (bit a i ^^ bit (-1) i) := by
    unfold bit
    rw [Int64.toBitVec_xor, BitVec.getLsbD_xor]
  rw [h, bit_m1 hi]
  cases bit a i <;> rfl
theorem zI_p {z : Int} (h1 : -2147483648 ≤ z) (h2 : z < 2147483648) : (0 : Int32) < zI z ↔ 0 < z := by
  rw [show (0 : Int32) = zI 0 from rfl, zI_lt (by omega) (by omega) h1 h2]
theorem zI_nn {z : Int} (h1 : -2147483648 ≤ z) (h2 : z < 2147483648) : (0 : Int32) ≤ zI z ↔ 0 ≤ z := by
  rw [show (0 : Int32) = zI 0 from rfl, zI_le (by omega) (by omega) h1 h2]
theorem zI_np {z : Int} (h1 : -2147483648 ≤ z) (h2 : z < 2147483648) : zI z ≤ (0 : Int32) ↔ z ≤ 0 := by
  rw [show (0 : Int32) = zI 0 from rfl, zI_le h1 h2 (by omega) (by omega)]
theorem zI_ng {z : Int} (h1 : -2147483648 ≤ z) (h2 : z < 2147483648) : zI z < (0 : Int32) ↔ z < 0 := by
  rw [show (0 : Int32) = zI 0 from rfl, zI_lt h1 h2 (by omega) (by omega)]
theorem zI_z {z : Int} (h1 : -2147483648 ≤ z) (h2 : z < 2147483648) : zI z = (0 : Int32) ↔ z = 0 := by
  rw [show (0 : Int32) = zI 0 from rfl, zI_eq h1 h2 (by omega) (by omega)]
theorem sC_low {z : Int} (h1 : -1000000 ≤ z) (h2 : z ≤ 1000000) (u : KS) : ∃ w, f_C_lowBits (zI z) u = some (w, u) ∧ ∀ i : Nat, i < 64 → (bit w i = true ↔ (i : Int) < z) := by
  unfold f_C_lowBits
  by_cases h0 : 0 < z
  · rw [if_pos ((zI_p (by omega) (by omega)).mpr h0)]
    by_cases h64 : z < 64
    · rw [if_pos (show zI z < 64 by rw [show (64 : Int32) = zI 64 from rfl, zI_lt (by omega) (by omega) (by omega) (by omega)]; exact h64), zI_nat (by omega)]
      refine ⟨_, rfl, fun i hi => ?_⟩
      rw [l64_dec _ (by omega) i hi, decide_eq_true_eq]
      omega
    · rw [if_neg (show ¬ zI z < 64 by rw [show (64 : Int32) = zI 64 from rfl, zI_lt (by omega) (by omega) (by omega) (by omega)]; exact h64)]
      refine ⟨_, rfl, fun i hi => ?_⟩
      rw [bit_m1 hi]
      constructor
      · intro _; omega
      · intro _; rfl
  · rw [if_neg (fun h => h0 ((zI_p (by omega) (by omega)).mp h))]
    refine ⟨_, rfl, fun i hi => ?_⟩
    rw [bit_0 hi]
    constructor
    · intro h; cases h
    · intro h; omega
theorem sJ_fd {a b : Int} (h1 : -1000000 ≤ a) (h2 : a ≤ 1000000) (hb : b = 1 ∨ b = 2) (u : KS) : ∃ q, f_J_floorDiv (zI a) (zI b) u = some (zI q, u) ∧ b * q ≤ a ∧ a < b * q + b := by
  obtain ⟨t1, t2, t3⟩ := tm_q (a := a) (d := b) (by omega)
  have hnz : nz (zI b) = true := by rcases hb with e | e <;> subst e <;> decide
  have hq1 : -1000000 ≤ a.tdiv b ∧ a.tdiv b ≤ 1000000 := by
    rcases Int.lt_or_le a 0 with h | h
    · have := t3 (by omega)
      rcases hb with e | e <;> subst e <;> omega
    · have := t2 (by omega)
      rcases hb with e | e <;> subst e <;> omega
  unfold f_J_floorDiv
  rw [hnz, gd_t, lt_q, zI_div (by omega) (by omega) (by omega) (by omega), zI_mul]
  have hx : 0 ≤ (zI a ^^^ zI b) ↔ 0 ≤ a := by
    rw [xor_sg, zI_nn (by omega) (by omega), zI_nn (by omega) (by omega)]
    constructor
    · intro h; exact h.mpr (by omega)
    · intro h; exact ⟨fun _ => by omega, fun _ => h⟩
  by_cases h0 : 0 ≤ a
  · rw [if_pos (hx.mpr h0)]
    have := t2 h0
    refine ⟨_, rfl, ?_, ?_⟩ <;> (rcases hb with e | e <;> subst e <;> omega)
  · rw [if_neg (fun h => h0 (hx.mp h))]
    have := t3 (by omega)
    by_cases he : a.tdiv b * b = a
    · rw [if_pos (show zI (a.tdiv b * b) = zI a by rw [he])]
      refine ⟨_, rfl, ?_, ?_⟩ <;> (rcases hb with e | e <;> subst e <;> omega)
    · rw [if_neg (show ¬ zI (a.tdiv b * b) = zI a by
        rw [zI_eq (by rcases hb with e | e <;> subst e <;> omega) (by rcases hb with e | e <;> subst e <;> omega) (by omega) (by omega)]
        exact he), show (1 : Int32) = zI 1 from rfl, zI_sub]
      refine ⟨_, rfl, ?_, ?_⟩ <;> (rcases hb with e | e <;> subst e <;> omega)
theorem sC_below {f s : Int} (hf : sm2 f) (h1 : -100000 ≤ s) (h2 : s ≤ 100000) (u : KS) : ∃ w, f_C_belowWord (zI f) (zI s) u = some (w, u) ∧ ∀ i : Nat, i < 64 → (bit w i = true ↔ s + f * i < 0) := by
  unfold f_C_belowWord
  have hf' : -2 ≤ f ∧ f ≤ 2 := by unfold sm2 at hf; omega
  by_cases hp : f ≤ 0
  · rw [if_pos ((zI_np (by omega) (by omega)).mpr hp)]
    by_cases hz : 0 ≤ f
    · have : f = 0 := by omega
      subst this
      rw [if_pos ((zI_nn (by omega) (by omega)).mpr hz)]
      by_cases hs : 0 ≤ s
      · rw [if_pos ((zI_nn (by omega) (by omega)).mpr hs)]
        refine ⟨_, rfl, fun i hi => ?_⟩
        rw [bit_0 hi]
        constructor
        · intro h; cases h
        · intro h; omega
      · rw [if_neg (fun h => hs ((zI_nn (by omega) (by omega)).mp h))]
        refine ⟨_, rfl, fun i hi => ?_⟩
        rw [bit_m1 hi]
        constructor
        · intro _; omega
        · intro _; rfl
    · rw [if_neg (fun h => hz ((zI_nn (by omega) (by omega)).mp h)), zI_neg]
      obtain ⟨q, e, q1, q2⟩ := sJ_fd (a := s) (b := -f) (by omega) (by omega) (by omega) u
      have qb : -200000 ≤ q ∧ q ≤ 200000 := by
        rcases (show f = -1 ∨ f = -2 by omega) with e | e <;> subst e <;> omega
      rw [ob_s e, show (1 : Int32) = zI 1 from rfl, zI_add]
      obtain ⟨w, e2, hw⟩ := sC_low (z := q + 1) (by omega) (by omega) u
      rw [ob_s e2]
      refine ⟨_, rfl, fun i hi => ?_⟩
      rw [bit_n w hi, Bool.not_eq_true', ← Bool.not_eq_true, hw i hi]
      rcases (show f = -1 ∨ f = -2 by omega) with e | e <;> subst e <;> omega
  · rw [if_neg (fun h => hp ((zI_np (by omega) (by omega)).mp h))]
    obtain ⟨q, e, q1, q2⟩ := sJ_fd (a := s) (b := f) (by omega) (by omega) (by omega) u
    have qb : -200000 ≤ q ∧ q ≤ 200000 := by
      rcases (show f = 1 ∨ f = 2 by omega) with e | e <;> subst e <;> omega
    rw [ob_s e, zI_neg]
    obtain ⟨w, e2, hw⟩ := sC_low (z := -q) (by omega) (by omega) u
    rw [ob_s e2]
    refine ⟨_, rfl, fun i hi => ?_⟩
    rw [hw i hi]
    rcases (show f = 1 ∨ f = 2 by omega) with e | e <;> subst e <;> omega
theorem sC_equal {f s : Int} (hf : sm2 f) (h1 : -100000 ≤ s) (h2 : s ≤ 100000) (u : KS) : ∃ w, f_C_equalWord (zI f) (zI s) u = some (w, u) ∧ ∀ i : Nat, i < 64 → (bit w i = true ↔ s + f * i = 0) := by
  unfold f_C_equalWord
  have hf' : -2 ≤ f ∧ f ≤ 2 := by unfold sm2 at hf; omega
  by_cases hz : f = 0
  · subst hz
    rw [if_pos ((zI_z (by omega) (by omega)).mpr rfl)]
    by_cases hs : s = 0
    · rw [if_pos ((zI_z (by omega) (by omega)).mpr hs)]
      refine ⟨_, rfl, fun i hi => ?_⟩
      rw [bit_m1 hi]
      constructor
      · intro _; omega
      · intro _; rfl
    · rw [if_neg (fun h => hs ((zI_z (by omega) (by omega)).mp h))]
      refine ⟨_, rfl, fun i hi => ?_⟩
      rw [bit_0 hi]
      constructor
      · intro h; cases h
      · intro h; omega
  · have hnz : nz (zI f) = true := by
      rcases (show f = -2 ∨ f = -1 ∨ f = 1 ∨ f = 2 by omega) with e | e | e | e <;> subst e <;> decide
    rw [if_neg (fun h => hz ((zI_z (by omega) (by omega)).mp h)), hnz, gd_t, lt_q, zI_neg, zI_div (by omega) (by omega) (by omega) (by omega), zI_mul]
    have key : ∀ i : Int, s + f * i = 0 → (-s).tdiv f = i := by
      intro i h
      rw [show -s = f * i by omega]
      exact Int.mul_tdiv_cancel_left _ hz
    have hb : -1000000 ≤ (-s).tdiv f ∧ (-s).tdiv f ≤ 1000000 := by
      rcases (show f = -2 ∨ f = -1 ∨ f = 1 ∨ f = 2 by omega) with e | e | e | e
      · subst e
        rw [show (-2 : Int) = -(2 : Int) from rfl, Int.tdiv_neg]
        obtain ⟨t1, t2, t3⟩ := tm_q (a := -s) (d := 2) (by omega)
        rcases Int.lt_or_le (-s) 0 with h | h
        · have := t3 (by omega); omega
        · have := t2 (by omega); omega
      · subst e
        rw [show (-1 : Int) = -(1 : Int) from rfl, Int.tdiv_neg]
        obtain ⟨t1, t2, t3⟩ := tm_q (a := -s) (d := 1) (by omega)
        rcases Int.lt_or_le (-s) 0 with h | h
        · have := t3 (by omega); omega
        · have := t2 (by omega); omega
      · subst e
        obtain ⟨t1, t2, t3⟩ := tm_q (a := -s) (d := 1) (by omega)
        rcases Int.lt_or_le (-s) 0 with h | h
        · have := t3 (by omega); omega
        · have := t2 (by omega); omega
      · subst e
        obtain ⟨t1, t2, t3⟩ := tm_q (a := -s) (d := 2) (by omega)
        rcases Int.lt_or_le (-s) 0 with h | h
        · have := t3 (by omega); omega
        · have := t2 (by omega); omega
    generalize (-s).tdiv f = x at key hb ⊢
    have hb2 : -2147483648 ≤ x * f ∧ x * f < 2147483648 := by
      rcases (show f = -2 ∨ f = -1 ∨ f = 1 ∨ f = 2 by omega) with e | e | e | e <;> subst e <;> omega
    by_cases he : x * f = -s
    · have hi0 : ∀ i : Int, s + f * i = 0 ↔ i = x := by
        intro i
        constructor
        · intro h; exact (key i h).symm
        · intro h; subst h; rw [Int.mul_comm] at he; omega
      rw [if_pos (show zI (x * f) = zI (-s) by rw [he])]
      by_cases hx0 : x < 0
      · rw [if_pos ((zI_ng (by omega) (by omega)).mpr hx0)]
        refine ⟨_, rfl, fun i hi => ?_⟩
        rw [bit_0 hi, hi0]
        constructor
        · intro h; cases h
        · intro h; omega
      · rw [if_neg (fun h => hx0 ((zI_ng (by omega) (by omega)).mp h))]
        by_cases h64 : 64 ≤ x
        · rw [if_pos (show (64 : Int32) ≤ zI x by rw [show (64 : Int32) = zI 64 from rfl, zI_le (by omega) (by omega) (by omega) (by omega)]; exact h64)]
          refine ⟨_, rfl, fun i hi => ?_⟩
          rw [bit_0 hi, hi0]
          constructor
          · intro h; cases h
          · intro h; omega
        · rw [if_neg (show ¬ (64 : Int32) ≤ zI x by rw [show (64 : Int32) = zI 64 from rfl, zI_le (by omega) (by omega) (by omega) (by omega)]; exact h64), zI_nat (by omega)]
          refine ⟨_, rfl, fun i hi => ?_⟩
          rw [o64_dec _ (by omega) i hi, decide_eq_true_eq, hi0]
          omega
    · rw [if_neg (show ¬ zI (x * f) = zI (-s) by rw [zI_eq hb2.1 hb2.2 (by omega) (by omega)]; exact he)]
      refine ⟨_, rfl, fun i hi => ?_⟩
      rw [bit_0 hi]
      constructor
      · intro h; cases h
      · intro h
        exfalso
        apply he
        rw [key i h, Int.mul_comm]
        omega
/-- the numbers 0 .. 63 that are k more than a multiple of d -/
def msk (d k : Nat) : Int64 := if d = 2 then (6148914691236517205 : Int64) <<< ((nI k).toInt64 &&& 63) else (-7905747460161236407 : Int64) <<< ((nI k).toInt64 &&& 63)
theorem msk_bit {d k i : Nat} (hd : d = 2 ∨ d = 3) (hk : k < d) (hi : i < 64) : bit (msk d k) i = decide (i % d = k) := by
  unfold msk
  rcases hd with e | e
  · subst e
    rw [if_pos rfl]
    exact m2_dec k hk i hi
  · subst e
    rw [if_neg (by omega)]
    exact m3_dec k hk i hi
theorem tmod_dvd {a d : Int} (hd : d = 2 ∨ d = 3) : a.tmod d = 0 ↔ d ∣ a := by
  obtain ⟨t1, t2, t3⟩ := tm_q (a := a) (d := d) (by omega)
  rcases Int.lt_or_le a 0 with h | h
  · have := t3 (by omega)
    rcases hd with e | e <;> subst e <;> omega
  · have := t2 (by omega)
    rcases hd with e | e <;> subst e <;> omega
theorem sC_dvS {n d k : Nat} {f s : Int} {w : Int64} {u : KS} (hd : d = 2 ∨ d = 3) (hk : k < d) (hf : sm2 f) (h1 : -100000 ≤ s) (h2 : s ≤ 100000) :
    f_C_dividesWord_L17 (n + 1) (nI d) (zI f) (zI s) w (nI k) u = f_C_dividesWord_L17 n (nI d) (zI f) (zI s) (if (d : Int) ∣ s + f * k then w ||| msk d k else w) (nI (k + 1)) u := by
  have hf' : -2 ≤ f ∧ f ≤ 2 := by unfold sm2 at hf; omega
  have hb : -300000 ≤ s + f * k ∧ s + f * k ≤ 300000 := by
    rcases (show f = -2 ∨ f = -1 ∨ f = 0 ∨ f = 1 ∨ f = 2 by omega) with e | e | e | e | e <;> subst e <;> omega
  have hnz : nz (nI d) = true := by rcases hd with e | e <;> subst e <;> decide
  have er : zI s + zI f * nI k - (zI s + zI f * nI k) / nI d * nI d = zI ((s + f * k).tmod d) := by
    rw [nI_zI k, nI_zI d, zI_mul, zI_add]
    exact zI_rem (by omega) (by omega) (by omega) (by omega)
  have hdz : (s + f * k).tmod d = 0 ↔ (d : Int) ∣ s + f * k := tmod_dvd (by omega)
  have htb : -2147483648 ≤ (s + f * k).tmod d ∧ (s + f * k).tmod d < 2147483648 := by
    obtain ⟨t1, t2, t3⟩ := tm_q (a := s + f * k) (d := (d : Int)) (by omega)
    rcases Int.lt_or_le (s + f * k) 0 with h | h
    · have := t3 (by omega); omega
    · have := t2 (by omega); omega
  rw [q_C_dividesWord_L17, if_neg (nI_ge hk (by omega)), hnz, gd_t, er]
  by_cases hdv : (d : Int) ∣ s + f * k
  · rw [if_pos ((zI_z htb.1 htb.2).mpr (hdz.mpr hdv)), if_pos hdv]
    rcases hd with e | e
    · subst e
      rw [if_pos (show nI 2 = 2 from rfl), lt_q, lt_q, nI_1]
      rfl
    · subst e
      rw [if_neg (show ¬ nI 3 = 2 by decide), lt_q, lt_q, nI_1]
      rfl
  · rw [if_neg (fun h => hdv (hdz.mp ((zI_z htb.1 htb.2).mp h))), if_neg hdv, lt_q, nI_1]
theorem sC_dvE {n d : Nat} {f s : Int} {w : Int64} {u : KS} (hd : d < 10) : f_C_dividesWord_L17 (n + 1) (nI d) (zI f) (zI s) w (nI d) u = some (w, u) := by
  rw [q_C_dividesWord_L17, if_pos (nI_le (Nat.le_refl d) (by omega))]
theorem sC_div {d : Nat} {f s : Int} (hd : d = 2 ∨ d = 3) (hf : sm2 f) (h1 : -100000 ≤ s) (h2 : s ≤ 100000) (u : KS) : ∃ w, f_C_dividesWord (nI d) (zI f) (zI s) u = some (w, u) ∧ ∀ i : Nat, i < 64 → (bit w i = true ↔ (d : Int) ∣ s + f * i) := by
  have hbit : ∀ (w : Int64) (k i : Nat), k < d → i < 64 → (bit (if (d : Int) ∣ s + f * k then w ||| msk d k else w) i = true ↔ bit w i = true ∨ (i % d = k ∧ (d : Int) ∣ s + f * k)) := by
    intro w k i hk hi
    by_cases h : (d : Int) ∣ s + f * k
    · rw [if_pos h, bit_o, msk_bit hd hk hi, Bool.or_eq_true, decide_eq_true_eq]
      constructor
      · rintro (a | a)
        · exact Or.inl a
        · exact Or.inr ⟨a, h⟩
      · rintro (a | a)
        · exact Or.inl a
        · exact Or.inr a.1
    · rw [if_neg h]
      constructor
      · exact Or.inl
      · rintro (a | a)
        · exact a
        · exact absurd a.2 h
  have e0 : ∃ w, f_C_dividesWord_L17 4096 (nI d) (zI f) (zI s) 0 (nI 0) u = some (w, u) ∧ ∀ i : Nat, i < 64 → (bit w i = true ↔ (d : Int) ∣ s + f * i) := by
    have hf' : f = -2 ∨ f = -1 ∨ f = 0 ∨ f = 1 ∨ f = 2 := by unfold sm2 at hf; omega
    rcases hd with e | e
    · subst e
      refine ⟨_, (sC_dvS (n := 4095) (k := 0) (Or.inl rfl) (by omega) hf h1 h2).trans ((sC_dvS (n := 4094) (k := 0 + 1) (Or.inl rfl) (by omega) hf h1 h2).trans (sC_dvE (n := 4093) (d := 2) (by omega))), fun i hi => ?_⟩
      rw [hbit _ (0 + 1) i (by omega) hi, hbit _ 0 i (by omega) hi, bit_0 hi]
      rcases hf' with e | e | e | e | e <;> subst e <;> simp <;> omega
    · subst e
      refine ⟨_, (sC_dvS (n := 4095) (k := 0) (Or.inr rfl) (by omega) hf h1 h2).trans ((sC_dvS (n := 4094) (k := 0 + 1) (Or.inr rfl) (by omega) hf h1 h2).trans ((sC_dvS (n := 4093) (k := 0 + 1 + 1) (Or.inr rfl) (by omega) hf h1 h2).trans (sC_dvE (n := 4092) (d := 3) (by omega)))), fun i hi => ?_⟩
      rw [hbit _ (0 + 1 + 1) i (by omega) hi, hbit _ (0 + 1) i (by omega) hi, hbit _ 0 i (by omega) hi, bit_0 hi]
      obtain ⟨m, r, hr, rfl⟩ : ∃ m r, r < 3 ∧ i = 3 * m + r := ⟨i / 3, i % 3, by omega, by omega⟩
      rcases (show r = 0 ∨ r = 1 ∨ r = 2 by omega) with z | z | z <;> subst z <;> rcases hf' with e | e | e | e | e <;> subst e <;> simp <;> omega
  rw [nI_0] at e0
  unfold f_C_dividesWord
  rcases hd with e | e
  · subst e
    rw [if_pos (show nI 2 = 2 from rfl)]
    exact e0
  · subst e
    rw [if_neg (show ¬ nI 3 = 2 by decide), if_pos (show nI 3 = 3 from rfl)]
    exact e0
