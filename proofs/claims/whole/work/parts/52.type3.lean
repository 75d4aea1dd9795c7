theorem sL_chk (w : Int32) (n : Nat) (hn : n ≤ 4) (u : KS) : ∀ (d i fu : Nat), i + d = n → d ≤ fu →
    f_L_type_L25 (fu + 1) w (nI n) (nI i) u = if aok w d i = true then f_L_type_L53 4096 w (zI ((n : Int) - 1)) u else some (0, u) := by
  intro d
  induction d with
  | zero =>
    intro i fu h1 h2
    rw [q_L_type_L25, if_pos (nI_le (by omega) (by omega)), if_pos (show aok w 0 i = true from rfl)]
    rw [lt_q, nI_zI, show (1 : Int32) = zI 1 from rfl, zI_sub]
  | succ d ih =>
    intro i fu h1 h2
    obtain ⟨fu, rfl⟩ : ∃ k, fu = k + 1 := ⟨fu - 1, by omega⟩
    rw [q_L_type_L25, if_neg (nI_ge (by omega) (by omega)), ob_s (byK w (by omega) u), ob_s (sT_allows (bN_lt w i) u)]
    by_cases ho : okb w i = true
    · rw [show (decide (32 ≤ bN w i) && decide (bN w i ≤ 126)) = true from ho, if_neg (by decide)]
      rw [lt_q, nI_1, ih (i + 1) fu (by omega) (by omega)]
      rw [show aok w (d + 1) i = aok w d (i + 1) by simp only [aok, ho, Bool.true_and]]
    · have hz : (decide (32 ≤ bN w i) && decide (bN w i ≤ 126)) = false := by
        cases h : (decide (32 ≤ bN w i) && decide (bN w i ≤ 126))
        · rfl
        · exact absurd h ho
      rw [hz, if_pos (by rfl), bz0, if_neg (fun h => ho (by simp only [aok, Bool.and_eq_true] at h; exact h.1))]
      rfl
theorem sM_zero (w v4 : Int32) (u : MS) : f_M_type_L69 4096 w 0 v4 u = some (0, u) := by
  rw [show (4096 : Nat) = 4095 + 1 from rfl, q_M_type_L69, bz0, if_pos (rfl : (0 : Int32) = 0), gd_t]
  split <;> rfl
theorem sM_chk0 (w a i : Int32) (u : MS) (fu : Nat) : f_M_type_L29 (fu + 1) w a 0 i u = some (0, u) := by
  rw [q_M_type_L29, lt_q, sM_zero, if_pos (rfl : (0 : Int32) = 0)]
  split <;> rfl
theorem sM_chk (w : Int32) (n : Nat) (hn : n ≤ 4) (u : MS) : ∀ (d i fu : Nat), i + d = n → d ≤ fu →
    f_M_type_L29 (fu + 1) w (nI n) 1 (nI i) u = if aok w d i = true then f_M_type_L69 4096 w 1 (zI ((n : Int) - 1)) u else some (0, u) := by
  intro d
  induction d with
  | zero =>
    intro i fu h1 h2
    rw [q_M_type_L29, if_pos (nI_le (by omega) (by omega)), if_pos (show aok w 0 i = true from rfl)]
    rw [lt_q, nI_zI, show (1 : Int32) = zI 1 from rfl, zI_sub]
  | succ d ih =>
    intro i fu h1 h2
    obtain ⟨fu, rfl⟩ : ∃ k, fu = k + 1 := ⟨fu - 1, by omega⟩
    have hb := bN_lt w i
    rw [q_M_type_L29, if_neg (nI_ge (by omega) (by omega)), if_neg (by decide), byM w (by omega), nI_zI (bN w i), show (32 : Int32) = zI 32 from rfl, show (126 : Int32) = zI 126 from rfl, ob_s (sM_in (by omega) (by omega) (by omega) (by omega) (by omega) (by omega) u)]
    have hob : (decide ((32 : Int) ≤ (bN w i : Int)) && decide ((bN w i : Int) ≤ 126)) = okb w i := by
      unfold okb
      congr 1 <;> (apply decide_eq_decide.mpr; omega)
    rw [hob, lt_q, nI_1]
    cases ho : okb w i
    · rw [show bI false = 0 from rfl, sM_chk0, if_neg (fun h => by simp only [aok, ho, Bool.false_and] at h; cases h)]
    · rw [show bI true = 1 from rfl, ih (i + 1) fu (by omega) (by omega)]
      rw [show aok w (d + 1) i = aok w d (i + 1) by simp only [aok, ho, Bool.true_and]]
theorem bys_ok {w : Int32} : ∀ {m : Nat}, (∀ j, 0 ≤ j → j < m → okb w j = true) → ∀ c ∈ bys w m, 32 ≤ c ∧ c ≤ 126
  | 0, _, c, hc => by simp [bys] at hc
  | m + 1, h, c, hc => by
    simp only [bys, List.mem_cons] at hc
    rcases hc with rfl | hc
    · exact okb_t.mp (h m (by omega) (by omega))
    · exact bys_ok (fun j a b => h j a (by omega)) c hc
theorem t_type {a b : Int32} {uk : KS} {um : MS} (h : Inv uk um) : ∃ (r : Int32) (uk1 : KS) (um1 : MS), f_L_type a b uk = some (r, uk1) ∧ f_M_type a b um = some (r, um1) ∧ Inv uk1 um1 := by
  have h0 := h
  obtain ⟨cs, f, x, h1, h2, h3, h4, h5, h6, h7, h8⟩ := h
  obtain ⟨s1, s2⟩ := i32_r b
  have hl := h1.1
  unfold f_L_type f_M_type
  have ein : f_M_in b 1 4 um = some (bI (decide (1 ≤ b.toInt) && decide (b.toInt ≤ 4)), um) := by
    conv => lhs; rw [zI_of b]
    exact sM_in s1 s2 (a := 1) (b := 4) (by omega) (by omega) (by omega) (by omega) um
  have e1 : b < 1 ↔ b.toInt < 1 := by
    conv => lhs; rw [zI_of b, show (1 : Int32) = zI 1 from rfl]
    exact zI_lt (by omega) (by omega) (by omega) (by omega)
  have e4 : 4 < b ↔ 4 < b.toInt := by
    conv => lhs; rw [zI_of b, show (4 : Int32) = zI 4 from rfl]
    exact zI_lt (by omega) (by omega) (by omega) (by omega)
  rw [ob_s ein]
  by_cases g1 : b.toInt < 1
  · rw [if_pos (e1.mpr g1), decide_eq_false (by omega), Bool.false_and, if_pos (by rfl), show (4096 : Nat) = 4095 + 1 from rfl, sM_chk0, bz0]
    exact ⟨0, uk, um, rfl, rfl, h0⟩
  rw [if_neg (fun z => g1 (e1.mp z))]
  by_cases g4 : 4 < b.toInt
  · rw [if_pos (e4.mpr g4), decide_eq_false (show ¬ b.toInt ≤ 4 by omega), Bool.and_false, if_pos (by rfl), show (4096 : Nat) = 4095 + 1 from rfl, sM_chk0, bz0]
    exact ⟨0, uk, um, rfl, rfl, h0⟩
  rw [if_neg (fun z => g4 (e4.mp z)), decide_eq_true (show 1 ≤ b.toInt by omega), decide_eq_true (show b.toInt ≤ 4 by omega), if_neg (by decide)]
  obtain ⟨n, hn⟩ : ∃ n : Nat, n = b.toInt.toNat := ⟨_, rfl⟩
  have eb : b = nI n := by rw [zI_of b, zI_nat (by omega), hn]
  have hn4 : 1 ≤ n ∧ n ≤ 4 := by omega
  rw [eb]
  have ek : f_T_hasRoomFor (nI n) uk = some (bI (decide (cs.length + n ≤ 120)), uk) := by
    unfold f_T_hasRoomFor
    rw [h2.1, nI_add, bz0, bz1, gd_t, gd_t, show (120 : Int32) = nI 120 from rfl]
    by_cases g : 120 < cs.length + n
    · rw [if_pos (nI_lt g (by omega)), decide_eq_false (by omega)]; rfl
    · rw [if_neg (nI_nlt (by omega) (by omega)), decide_eq_true (by omega)]; rfl
  rw [ob_s ek, h3.1, nI_add, show (120 : Int32) = nI 120 from rfl]
  by_cases g : cs.length + n ≤ 120
  · rw [decide_eq_true g, if_neg (by decide), if_neg (nI_nlt (by omega) (by omega)), show (4096 : Nat) = 4095 + 1 from rfl, show (0 : Int32) = nI 0 from rfl, sL_chk a n hn4.2 uk n 0 4095 (by omega) (by omega), sM_chk a n hn4.2 um n 0 4095 (by omega) (by omega)]
    by_cases ho : aok a n 0 = true
    · rw [if_pos ho, if_pos ho]
      obtain ⟨u1, a1, a2, a3, a4⟩ := sL_app a n 4095 uk cs hn4.2 (by omega) h2 g
      obtain ⟨u2, b1, b2, b3⟩ := sM_app a n 4095 um cs hn4.2 (by omega) h3 g
      refine ⟨1, u1, u2, a1, b1, cs ++ bys a n, f, x, ⟨by simp [bys_len]; omega, fun c hc => ?_⟩, a2, b2, h4, h5, fun i hi => by rw [a3]; exact h6 i hi, by rw [a4]; exact h7, CT_tb h8 b3⟩
      rcases List.mem_append.mp hc with z | z
      · exact h1.2 c z
      · exact bys_ok (fun j p q => aok_t ho j p (by omega)) c z
    · rw [if_neg ho, if_neg ho]
      exact ⟨0, uk, um, rfl, rfl, h0⟩
  · rw [decide_eq_false g, if_pos (by rfl), if_pos (nI_lt (by omega) (by omega)), show (4096 : Nat) = 4095 + 1 from rfl, sM_chk0, bz0]
    exact ⟨0, uk, um, rfl, rfl, h0⟩
