/-- whether a divisor and its colon stand there -/
def dvb (ts : List Nat) : Bool := (ts.headD 0 == 50 || ts.headD 0 == 51) && (ts.drop 1).headD 0 == 58
theorem sR_mark2 {u : KS} {cs ts : List Nat} (h : RK u cs ts) : f_T_markAt (k_at u + 1) u = some (nI ((ts.drop 1).headD 0), u) := by
  obtain ⟨h1, h2, k, h3, h4, h5⟩ := h
  have := tkF_len cs 0
  have := h2.1
  rw [toks_len] at h3
  rw [h4, nI_1, sT_mark h1 h2 (by omega), ← h5]
  congr 3
  rw [List.drop_drop, List.headD_eq_head?_getD, List.head?_drop, List.getD_eq_getElem?_getD]
theorem RK_hd2 {u : KS} {cs ts : List Nat} (h : RK u cs ts) : (ts.drop 1).headD 0 < 127 := by
  cases ts with
  | nil => decide
  | cons c r => exact RK_hd (RK_next h)
theorem sR_isDiv {u : KS} {cs ts : List Nat} (h : RK u cs ts) : f_R_isDivisor u = some (bI (dvb ts), u) := by
  have h1 := RK_hd h
  have h2 := RK_hd2 h
  have hJ : ∀ b : Bool, b = true → f_R_isDivisor_J18 u = some (bI (b && (ts.drop 1).headD 0 == 58), u) := by
    intro b hb
    subst hb
    unfold f_R_isDivisor_J18
    rw [ob_s (sR_mark2 h)]
    by_cases h58 : (ts.drop 1).headD 0 = 58
    · rw [h58, if_pos (show nI 58 = 58 from rfl), bz1, gd_t]
      rfl
    · rw [if_neg (ne_l (x := 58) (k := 58) rfl (by omega) (by omega) h58), bz0, gd_t, show ((ts.drop 1).headD 0 == 58) = false by simpa using h58]
      rfl
  unfold f_R_isDivisor dvb
  rw [ob_s (sR_mark h)]
  by_cases h50 : ts.headD 0 = 50
  · rw [if_pos (show nI (ts.headD 0) = 50 by rw [h50]; rfl)]
    exact hJ _ (by rw [h50]; rfl)
  · rw [if_neg (ne_l (x := 50) (k := 50) rfl (by omega) (by omega) h50), ob_s (sR_mark h)]
    by_cases h51 : ts.headD 0 = 51
    · rw [if_pos (show nI (ts.headD 0) = 51 by rw [h51]; rfl)]
      exact hJ _ (by rw [h51]; rfl)
    · rw [if_neg (ne_l (x := 51) (k := 51) rfl (by omega) (by omega) h51), bz0, gd_t, show (ts.headD 0 == 50) = false by simpa using h50, show (ts.headD 0 == 51) = false by simpa using h51]
      rfl
theorem sp_brk_d (bd : Nat → Bool) (ts : List Nat) : sp_brk bd ts = if dvb ts = true then sp_end 58 (ts.headD 0 - 48) (sp_sums bd 1 ac0 (ts.drop 2)) else sp_rel bd (sp_sums bd 1 ac0 ts) := by
  match ts with
  | [] => rfl
  | [c] =>
    rw [show dvb [c] = false by simp [dvb]]
    rfl
  | c :: d :: q =>
    show (if (c = 50 ∨ c = 51) ∧ d = 58 then sp_end 58 (c - 48) (sp_sums bd 1 ac0 q) else sp_rel bd (sp_sums bd 1 ac0 (c :: d :: q))) = _
    by_cases h : (c = 50 ∨ c = 51) ∧ d = 58
    · rw [if_pos h, if_pos (show dvb (c :: d :: q) = true by simpa [dvb] using h)]
      rfl
    · rw [if_neg h, if_neg (show ¬ dvb (c :: d :: q) = true from fun z => h (by simpa [dvb] using z))]
theorem ac_in_iff (a : Ac) : ac_in a = true ↔ (-2 ≤ a.1 0 ∧ a.1 0 ≤ 2) ∧ (-2 ≤ a.1 1 ∧ a.1 1 ≤ 2) ∧ (-2 ≤ a.1 2 ∧ a.1 2 ≤ 2) ∧ -15 ≤ a.2.1 ∧ a.2.1 ≤ 15 := by
  unfold ac_in
  simp only [Bool.and_eq_true, decide_eq_true_eq]
  constructor <;> intro h <;> omega
theorem sJ_abs {z : Int} (h1 : -100000 ≤ z) (h2 : z ≤ 100000) (u : KS) : f_J_abs (zI z) u = some (zI (if z < 0 then -z else z), u) := by
  unfold f_J_abs
  rw [show (0 : Int32) = zI 0 from rfl]
  by_cases h : z < 0
  · rw [if_neg (show ¬ zI 0 ≤ zI z by rw [zI_le (by omega) (by omega) (by omega) (by omega)]; omega), if_pos h, zI_neg]
  · rw [if_pos (show zI 0 ≤ zI z by rw [zI_le (by omega) (by omega) (by omega) (by omega)]; omega), if_neg h]
theorem sC_wS {u : KS} {s n v : Nat} {a : Ac} (hs : s < 20) (hv : v < 3) (hA : AK u s a) (h1 : -100000 ≤ a.1 v) (h2 : a.1 v ≤ 100000) : f_C_isWithin_L13 (n + 1) (nI s) 2 15 (nI v) u = if -2 ≤ a.1 v ∧ a.1 v ≤ 2 then f_C_isWithin_L13 n (nI s) 2 15 (nI (v + 1)) u else some (0, u) := by
  rw [q_C_isWithin_L13, if_neg (show ¬ (3 : Int32) ≤ nI v from nI_ge (b := 3) hv (by omega)), n3, gd_s (inb_nI (by omega) (by omega)), nI_clamp (by omega), hA.2.1 v hv, ob_s (sJ_abs h1 h2 u)]
  by_cases h : -2 ≤ a.1 v ∧ a.1 v ≤ 2
  · rw [if_pos (show zI (if a.1 v < 0 then -a.1 v else a.1 v) ≤ 2 by
      rw [show (2 : Int32) = zI 2 from rfl]
      split <;> (rw [zI_le (by omega) (by omega) (by omega) (by omega)]; omega)), if_pos h, lt_q, nI_1]
  · rw [if_neg (show ¬ zI (if a.1 v < 0 then -a.1 v else a.1 v) ≤ 2 by
      rw [show (2 : Int32) = zI 2 from rfl]
      split <;> (rw [zI_le (by omega) (by omega) (by omega) (by omega)]; omega)), if_neg h, bz0, gd_t]
theorem sC_wE {u : KS} {s n : Nat} {a : Ac} (hs : s < 20) (hA : AK u s a) (h1 : -100000 ≤ a.2.1) (h2 : a.2.1 ≤ 100000) : f_C_isWithin_L13 (n + 1) (nI s) 2 15 (nI 3) u = if -15 ≤ a.2.1 ∧ a.2.1 ≤ 15 then some (1, u) else some (0, u) := by
  rw [q_C_isWithin_L13, if_pos (show (3 : Int32) ≤ nI 3 by decide), gd_s (inb_nI (by omega) (by omega)), nI_clamp (by omega), hA.1, ob_s (sJ_abs h1 h2 u), bz0, bz1, gd_t, gd_t]
  by_cases h : -15 ≤ a.2.1 ∧ a.2.1 ≤ 15
  · rw [if_neg (show ¬ (15 : Int32) < zI (if a.2.1 < 0 then -a.2.1 else a.2.1) by
      rw [show (15 : Int32) = zI 15 from rfl]
      split <;> (rw [zI_lt (by omega) (by omega) (by omega) (by omega)]; omega)), if_pos h]
  · rw [if_pos (show (15 : Int32) < zI (if a.2.1 < 0 then -a.2.1 else a.2.1) by
      rw [show (15 : Int32) = zI 15 from rfl]
      split <;> (rw [zI_lt (by omega) (by omega) (by omega) (by omega)]; omega)), if_neg h]
theorem sC_within {u : KS} {s m : Nat} {a : Ac} {bd : Nat → Bool} {K : Int} (hs : s < m) (hm : m ≤ 20) (hc : k_cn u = nI m) (hA : AK u s a) (hI : acI bd K a) (hK : K ≤ 100000) : f_C_isWithin (nI s) 2 15 u = some (bI (ac_in a), u) := by
  obtain ⟨b1, b2, -, -⟩ := hI
  have c0 := b1 0
  have c1 := b1 (0 + 1)
  have c2 := b1 (0 + 1 + 1)
  have e : f_C_isWithin_L13 4096 (nI s) 2 15 (nI 0) u = some (bI (ac_in a), u) := by
    rw [show (4096 : Nat) = 4092 + 1 + 1 + 1 + 1 from rfl, sC_wS (by omega) (by omega) hA (by omega) (by omega), sC_wS (by omega) (by omega) hA (by omega) (by omega), sC_wS (by omega) (by omega) hA (by omega) (by omega), sC_wE (by omega) hA (by omega) (by omega)]
    cases h : ac_in a
    · have h' : ¬ ac_in a = true := by rw [h]; decide
      rw [ac_in_iff] at h'
      by_cases g0 : -2 ≤ a.1 0 ∧ a.1 0 ≤ 2
      · rw [if_pos g0]
        by_cases g1 : -2 ≤ a.1 (0 + 1) ∧ a.1 (0 + 1) ≤ 2
        · rw [if_pos g1]
          by_cases g2 : -2 ≤ a.1 (0 + 1 + 1) ∧ a.1 (0 + 1 + 1) ≤ 2
          · rw [if_pos g2, if_neg (fun g3 => h' ⟨g0, g1, g2, g3⟩)]
            rfl
          · rw [if_neg g2]; rfl
        · rw [if_neg g1]; rfl
      · rw [if_neg g0]; rfl
    · have h' := (ac_in_iff a).mp h
      rw [if_pos h'.1, if_pos h'.2.1, if_pos h'.2.2.1, if_pos h'.2.2.2]
      rfl
  unfold f_C_isWithin
  rw [ob_s (sC_has hs hm hc), if_neg (by decide)]
  rw [nI_0] at e
  exact e
/-- all below s, the text, the row and the values stay -/
def ge (s : Nat) (a b : KS) : Prop := tx a b ∧ k_va b = k_va a ∧ (∀ j, j < s → k_kd b j = k_kd a j ∧ k_sc b j = k_sc a j ∧ k_vr b j = k_vr a j ∧ k_dv b j = k_dv a j ∧ k_nu b j = k_nu a j ∧ k_op b j = k_op a j) ∧ ∀ j, j < s * 3 → k_fa b j = k_fa a j
theorem ge_rf (s : Nat) (a : KS) : ge s a a := ⟨tx_rf a, rfl, fun _ _ => ⟨rfl, rfl, rfl, rfl, rfl, rfl⟩, fun _ _ => rfl⟩
theorem ge_tr {s : Nat} {a b c : KS} (h : ge s a b) (g : ge s b c) : ge s a c := by
  obtain ⟨h1, h2, h3, h4⟩ := h
  obtain ⟨g1, g2, g3, g4⟩ := g
  refine ⟨tx_tr h1 g1, g2.trans h2, fun j hj => ?_, fun j hj => (g4 j hj).trans (h4 j hj)⟩
  obtain ⟨a1, a2, a3, a4, a5, a6⟩ := h3 j hj
  obtain ⟨b1, b2, b3, b4, b5, b6⟩ := g3 j hj
  exact ⟨b1.trans a1, b2.trans a2, b3.trans a3, b4.trans a4, b5.trans a5, b6.trans a6⟩
theorem ge_mono {s t : Nat} {a b : KS} (h : ge s a b) (ht : t ≤ s) : ge t a b := ⟨h.1, h.2.1, fun j hj => h.2.2.1 j (by omega), fun j hj => h.2.2.2 j (by omega)⟩
theorem ge_fr {s : Nat} {a b : KS} (h : fr s a b) : ge s a b := by
  obtain ⟨h0, h1, h2, h3, h4, h5, h6, h7, h8, h9, h10⟩ := h
  exact ⟨h0, h8, fun j hj => ⟨congrFun h1 j, congrFun h2 j, congrFun h3 j, congrFun h4 j, (h9 j (by omega)).1, (h9 j (by omega)).2⟩, fun j hj => h10 j (Or.inl hj)⟩
theorem ge_at (s : Nat) (x : Int32) (a : KS) : ge s a (k_p_at x a) := ⟨⟨rfl, rfl, rfl, rfl, rfl, rfl⟩, rfl, fun _ _ => ⟨rfl, rfl, rfl, rfl, rfl, rfl⟩, fun _ _ => rfl⟩
theorem ge_br (s : Nat) (x : Int32) (a : KS) : ge s a (k_p_br x a) := ⟨⟨rfl, rfl, rfl, rfl, rfl, rfl⟩, rfl, fun _ _ => ⟨rfl, rfl, rfl, rfl, rfl, rfl⟩, fun _ _ => rfl⟩
theorem ge_ne (s : Nat) (x : Int32) (a : KS) : ge s a (k_p_ne x a) := ⟨⟨rfl, rfl, rfl, rfl, rfl, rfl⟩, rfl, fun _ _ => ⟨rfl, rfl, rfl, rfl, rfl, rfl⟩, fun _ _ => rfl⟩
theorem ge_kd {s j : Nat} (h : s ≤ j) (x : Int32) (a : KS) : ge s a (k_p_kd (upd (k_kd a) j x) a) :=
  ⟨⟨rfl, rfl, rfl, rfl, rfl, rfl⟩, rfl, fun i hi => ⟨pk_un (show i ≠ j by omega), rfl, rfl, rfl, rfl, rfl⟩, fun _ _ => rfl⟩
theorem ge_sc {s j : Nat} (h : s ≤ j) (x : Int32) (a : KS) : ge s a (k_p_sc (upd (k_sc a) j x) a) :=
  ⟨⟨rfl, rfl, rfl, rfl, rfl, rfl⟩, rfl, fun i hi => ⟨rfl, pk_un (show i ≠ j by omega), rfl, rfl, rfl, rfl⟩, fun _ _ => rfl⟩
theorem ge_vr {s j : Nat} (h : s ≤ j) (x : Int32) (a : KS) : ge s a (k_p_vr (upd (k_vr a) j x) a) :=
  ⟨⟨rfl, rfl, rfl, rfl, rfl, rfl⟩, rfl, fun i hi => ⟨rfl, rfl, pk_un (show i ≠ j by omega), rfl, rfl, rfl⟩, fun _ _ => rfl⟩
theorem ge_dv {s j : Nat} (h : s ≤ j) (x : Int32) (a : KS) : ge s a (k_p_dv (upd (k_dv a) j x) a) :=
  ⟨⟨rfl, rfl, rfl, rfl, rfl, rfl⟩, rfl, fun i hi => ⟨rfl, rfl, rfl, pk_un (show i ≠ j by omega), rfl, rfl⟩, fun _ _ => rfl⟩
theorem sC_addS {u : KS} {m n v : Nat} (hm : m < 20) (hv : v < 3) : f_C_add_L71 (n + 1) (nI m) (nI v) u = f_C_add_L71 n (nI m) (nI (v + 1)) (k_p_fa (upd (k_fa u) (m * 3 + v) 0) u) := by
  rw [q_C_add_L71, if_neg (show ¬ (3 : Int32) ≤ nI v from nI_ge (b := 3) hv (by omega)), n3, gd_s (inb_nI (by omega) (by omega)), lt_q, lt_q, nI_1, nI_clamp (by omega)]
theorem sC_addE {u : KS} {m n : Nat} : f_C_add_L71 (n + 1) (nI m) (nI 3) u = some (nI m, u) := by
  rw [q_C_add_L71, if_pos (show (3 : Int32) ≤ nI 3 by decide)]
def sf (a b : KS) : Prop := tx a b ∧ k_kd b = k_kd a ∧ k_sc b = k_sc a ∧ k_vr b = k_vr a ∧ k_dv b = k_dv a ∧ k_nu b = k_nu a ∧ k_op b = k_op a ∧ k_cn b = k_cn a ∧ k_at b = k_at a ∧ k_br b = k_br a ∧ k_ne b = k_ne a ∧ k_va b = k_va a
theorem sf_fa (x : Nat → Int32) (a : KS) : sf a (k_p_fa x a) := ⟨⟨rfl, rfl, rfl, rfl, rfl, rfl⟩, rfl, rfl, rfl, rfl, rfl, rfl, rfl, rfl, rfl, rfl, rfl⟩
theorem sf_tr {a b c : KS} (h : sf a b) (g : sf b c) : sf a c := by
  obtain ⟨h0, h1, h2, h3, h4, h5, h6, h7, h8, h9, h10, h11⟩ := h
  obtain ⟨g0, g1, g2, g3, g4, g5, g6, g7, g8, g9, g10, g11⟩ := g
  exact ⟨tx_tr h0 g0, g1.trans h1, g2.trans h2, g3.trans h3, g4.trans h4, g5.trans h5, g6.trans h6, g7.trans h7, g8.trans h8, g9.trans h9, g10.trans h10, g11.trans h11⟩
theorem sC_add3 {m : Nat} (hm : m < 20) (U : KS) : ∃ U', f_C_add_L71 4096 (nI m) (nI 0) U = some (nI m, U') ∧ sf U U' ∧ k_fa U' = upd (upd (upd (k_fa U) (m * 3 + 0) 0) (m * 3 + 1) 0) (m * 3 + 2) 0 := by
  exact ⟨_, (sC_addS (n := 4095) (v := 0) hm (by omega)).trans ((sC_addS (n := 4094) (v := 0 + 1) hm (by omega)).trans ((sC_addS (n := 4093) (v := 0 + 1 + 1) hm (by omega)).trans (sC_addE (n := 4092)))), sf_tr (sf_tr (sf_fa _ _) (sf_fa _ _)) (sf_fa _ _), rfl⟩
theorem sC_add {u : KS} {m : Nat} (hm : m < 20) (hc : k_cn u = nI m) (z : Int32) : ∃ u', f_C_add z u = some (nI m, u') ∧ tx u u' ∧ k_at u' = k_at u ∧ k_br u' = k_br u ∧ k_ne u' = k_ne u ∧ k_cn u' = nI (m + 1) ∧ k_kd u' m = z ∧ AK u' m ac0 ∧ ge m u u' := by
  have key : ∀ U : KS, tx u U → k_at U = k_at u → k_br U = k_br u → k_ne U = k_ne u → k_va U = k_va u → k_cn U = nI (m + 1) → k_kd U = upd (k_kd u) m z → k_sc U = upd (k_sc u) m 20 → k_vr U = upd (k_vr u) m 0 → k_dv U = upd (k_dv u) m 0 → k_nu U = upd (k_nu u) m 0 → k_op U = upd (k_op u) m 0 → k_fa U = k_fa u →
      ∃ u', f_C_add_L71 4096 (nI m) 0 U = some (nI m, u') ∧ tx u u' ∧ k_at u' = k_at u ∧ k_br u' = k_br u ∧ k_ne u' = k_ne u ∧ k_cn u' = nI (m + 1) ∧ k_kd u' m = z ∧ AK u' m ac0 ∧ ge m u u' := by
    intro U a0 a1 a2 a3 a4 a5 a6 a7 a8 a9 a10 a11 a12
    obtain ⟨U', e, s, f⟩ := sC_add3 hm U
    rw [nI_0] at e
    obtain ⟨h0, h1, h2, h3, h4, h5, h6, h7, h8, h9, h10, h11⟩ := s
    refine ⟨U', e, tx_tr a0 h0, h8.trans a1, h9.trans a2, h10.trans a3, h7.trans a5, ?_, ⟨?_, fun v hv => ?_, ?_⟩, ⟨tx_tr a0 h0, h11.trans a4, fun j hj => ?_, fun j hj => ?_⟩⟩
    · rw [h1, a6, pk_us]
    · rw [h5, a10, pk_us]; rfl
    · rw [f]
      rcases (show v = 0 ∨ v = 1 ∨ v = 2 by omega) with e | e | e
      · subst e
        rw [pk_un (by omega), pk_un (by omega), pk_us]; rfl
      · subst e
        rw [pk_un (by omega), pk_us]; rfl
      · subst e
        rw [pk_us]; rfl
    · rw [h6, a11, pk_us]; rfl
    · rw [h1, a6, h2, a7, h3, a8, h4, a9, h5, a10, h6, a11]
      exact ⟨pk_un (by omega), pk_un (by omega), pk_un (by omega), pk_un (by omega), pk_un (by omega), pk_un (by omega)⟩
    · rw [f, pk_un (by omega), pk_un (by omega), pk_un (by omega), a12]
  unfold f_C_add
  rw [if_pos (show k_cn u < 20 by rw [hc]; exact nI_lt (b := 20) hm (by omega)), lt_q, hc, lt_q, gd_s (inb_nI (by omega) (by omega)), lt_q, gd_s (inb_nI (by omega) (by omega)), lt_q, gd_s (inb_nI (by omega) (by omega)), lt_q, gd_s (inb_nI (by omega) (by omega)), lt_q, gd_s (inb_nI (by omega) (by omega)), lt_q, gd_s (inb_nI (by omega) (by omega)), lt_q, nI_clamp (by omega)]
  refine key _ ⟨?_, ?_, ?_, ?_, ?_, ?_⟩ ?_ ?_ ?_ ?_ ?_ ?_ ?_ ?_ ?_ ?_ ?_ ?_ <;> simp only [kp_op, kp_nu, kp_dv, kp_vr, kp_sc, kp_kd, kp_cn, nI_1]
theorem sR_begin {u : KS} {cs r : List Nat} {c m : Nat} (hR : RK u cs (c :: r)) (hm : m < 20) (hc : k_cn u = nI m) : ∃ u', f_R_begin u = some (nI m, u') ∧ RK u' cs r ∧ k_br u' = k_br u ∧ k_ne u' = k_ne u ∧ k_cn u' = nI (m + 1) ∧ k_kd u' m = nI c ∧ AK u' m ac0 ∧ ge m u u' := by
  obtain ⟨u1, e1, b0, b1, b2, b3, b4, b5, b6, b7⟩ := sC_add hm hc (nI c)
  unfold f_R_begin
  rw [ob_s (sR_mark hR), show (c :: r).headD 0 = c from rfl, ob_s e1, lt_q]
  have R1 : RK u1 cs (c :: r) := RK_tx hR b0 b1
  exact ⟨_, rfl, RK_next R1, b2, b3, b4, b5, AK_at b6 _, ge_tr b7 (ge_at m _ _)⟩
