theorem sM_22S {n v : Nat} {u : MS} (hv : v < 3) : f_M_readClaims_L22 (n + 1) (nI v) u = f_M_readClaims_L22 n (nI (v + 1)) (m_p_he (upd (m_he u) v 0) u) := by
  rw [q_M_readClaims_L22, if_neg (show ¬ (3 : Int32) ≤ nI v from nI_ge (b := 3) hv (by omega)), gd_s (inb_nI (by omega) (by omega)), lt_q, lt_q, nI_1, nI_clamp (by omega)]
theorem sM_start {um : MS} {cs : List Nat} (hT : TM um cs) (ok : okT cs) : ∃ W, f_M_readClaims (m_p_fa (-1) (m_p_ty 0 (m_p_si (m_ty (m_p_at 0 um)) (m_p_at 0 um)))) = f_M_readClaims_L49 4096 0 (-1) 0 0 W ∧ SM cs W (toks cs) 0 0 0 false false (fun _ => 0) ∧ tb um W ∧ m_ty W = 0 := by
  have key : ∀ U : MS, m_si U = nI cs.length → (∀ i c, cs[i]? = some c → m_ch U i = nI c) → m_at U = 0 → m_fa U = -1 → tb um U → m_ty U = 0 → ∃ W, f_M_readClaims U = f_M_readClaims_L49 4096 0 (-1) 0 0 W ∧ SM cs W (toks cs) 0 0 0 false false (fun _ => 0) ∧ tb um W ∧ m_ty W = 0 := by
    intro U h1 h2 h3 h4 h5 h6
    unfold f_M_readClaims
    rw [lt_q, lt_q, lt_q, lt_q]
    have key2 : ∀ V : MS, m_si V = nI cs.length → (∀ i c, cs[i]? = some c → m_ch V i = nI c) → m_at V = 0 → m_fa V = -1 → tb um V → m_ty V = 0 → m_re V = 0 → m_rb V = 0 → m_rf V = 0 → m_dp V = 0 → ∃ W, f_M_readClaims_L22 4096 0 V = f_M_readClaims_L49 4096 0 (-1) 0 0 W ∧ SM cs W (toks cs) 0 0 0 false false (fun _ => 0) ∧ tb um W ∧ m_ty W = 0 := by
      intro V g1 g2 g3 g4 g5 g6 g7 g8 g9 g10
      have e := (sM_22S (n := 4095) (v := 0) (u := V) (by omega)).trans ((sM_22S (n := 4094) (v := 0 + 1) (by omega)).trans (sM_22S (n := 4093) (v := 0 + 1 + 1) (by omega)))
      have key3 : ∀ W : MS, m_si W = m_si V → m_ch W = m_ch V → m_at W = m_at V → m_fa W = m_fa V → tb V W → m_ty W = m_ty V → m_re W = m_re V → m_rb W = m_rb V → m_rf W = m_rf V → m_dp W = m_dp V → m_he W = upd (upd (upd (m_he V) 0 0) (0 + 1) 0) (0 + 1 + 1) 0 → f_M_readClaims_L22 4096 (nI 0) V = f_M_readClaims_L22 (4092 + 1) (nI 3) W → ∃ W, f_M_readClaims_L22 4096 0 V = f_M_readClaims_L49 4096 0 (-1) 0 0 W ∧ SM cs W (toks cs) 0 0 0 false false (fun _ => 0) ∧ tb um W ∧ m_ty W = 0 := by
        intro W a1 a2 a3 a4 a5 a6 a7 a8 a9 a10 a11 a12
        have e3 : f_M_readClaims_L22 (4092 + 1) (nI 3) W = f_M_readClaims_L49 4096 0 (-1) 0 0 W := by
          rw [q_M_readClaims_L22, if_pos (show (3 : Int32) ≤ nI 3 by decide)]
        rw [nI_0] at a12
        have a12 := a12.trans e3
        refine ⟨W, a12, ⟨⟨⟨ok, a1.trans g1, fun i c hi => by rw [a2]; exact g2 i c hi⟩, 0, Nat.zero_le _, a3.trans (g3.trans nI_0.symm), ?_⟩, a4.trans g4, a7.trans (g7.trans nI_0.symm), a8.trans (g8.trans nI_0.symm), a10.trans g10, a9.trans g9, fun v hv => ?_, fun j z1 z2 => by omega⟩, tb_tr g5 a5, a6.trans g6⟩
        · rw [toks_nsp]; rfl
        · rw [a11, nI_0]
          rcases (show v = 0 ∨ v = 1 ∨ v = 2 by omega) with z | z | z
          · subst z
            rw [pk_un (by omega), pk_un (by omega), pk_us]
          · subst z
            rw [pk_un (by omega), pk_us]
          · subst z
            rw [pk_us]
      refine key3 _ ?_ ?_ ?_ ?_ ⟨?_, ?_, ?_, ?_, ?_, ?_, ?_⟩ ?_ ?_ ?_ ?_ ?_ ?_ e <;> simp only [mp_he]
    refine key2 _ ?_ ?_ ?_ ?_ ⟨?_, ?_, ?_, ?_, ?_, ?_, ?_⟩ ?_ ?_ ?_ ?_ ?_ <;> simp only [mp_dp, mp_rf, mp_rb, mp_re]
    · exact h1
    · exact h2
    · exact h3
    · exact h4
    · exact h5.1
    · exact h5.2.1
    · exact h5.2.2.1
    · exact h5.2.2.2.1
    · exact h5.2.2.2.2.1
    · exact h5.2.2.2.2.2.1
    · exact h5.2.2.2.2.2.2
    · exact h6
  refine key _ ?_ ?_ ?_ ?_ ⟨?_, ?_, ?_, ?_, ?_, ?_, ?_⟩ ?_ <;> simp only [mp_fa, mp_ty, mp_si, mp_at]
  · exact hT.1
  · exact hT.2
theorem sM_read {um : MS} {cs : List Nat} (hT : TM um cs) (ok : okT cs) : ∃ u', f_M_readClaims (m_p_fa (-1) (m_p_ty 0 (m_p_si (m_ty (m_p_at 0 um)) (m_p_at 0 um)))) = some ((), u') ∧ tb um u' ∧ m_ty u' = 0 ∧ ((tkR cs).1 = false → m_fa u' = nI (fpl cs (tkR cs).2.1)) ∧ ((tkR cs).1 = true → SM cs u' (tkR cs).2.1 0 (tkR cs).2.2.1.length (tkR cs).2.2.2.1 (tkR cs).2.2.2.2 (an3 (fv (tkR cs).2.2.1 0)) (fun _ => 0) ∧ m_no u' 0 = -1 ∧ MT u' 0 (tkR cs).2.2.1) := by
  obtain ⟨W, e, hS, tW, yW⟩ := sM_start hT ok
  have okR := sp_cl_ok 32 (fun _ => false) 0 0 0 false (toks cs) (by omega) (by omega)
  obtain ⟨Q1, Q2⟩ := sM_claim (cs := cs) 32 (fun _ => false) 0 0 0 false (toks cs) 4096 0 (-1) (fun _ => 0) false W (by omega) (by omega) (by omega) (by omega) (by omega) (by omega) (fun v _ => ⟨Nat.le_refl _, rfl⟩) hS
  rw [nI_0] at Q1 Q2
  rw [e]
  change (tkR cs).1 = true → SOK (fun _ => false) 0 0 false (tkR cs) at okR
  change (tkR cs).1 = true → ∃ u' F' G, 4096 = F' + (tkR cs).2.2.1.length ∧ 4096 ≤ G + (tkR cs).2.2.1.length ∧ f_M_readClaims_L49 4096 0 (-1) 0 0 W = f_M_readClaims_L213 (f_M_readClaims_L49 F') G 0 (-1) 0 1 u' ∧ SM cs u' (tkR cs).2.1 0 (0 + (tkR cs).2.2.1.length) (tkR cs).2.2.2.1 (tkR cs).2.2.2.2 (false || frb (fun _ => false) (fv (tkR cs).2.2.1 0)) (fun _ => 0) ∧ gm 0 W u' ∧ sk 0 W u' ∧ m_no u' 0 = -1 ∧ MT u' 0 (tkR cs).2.2.1 at Q1
  change (tkR cs).1 = false → ∃ u', f_M_readClaims_L49 4096 0 (-1) 0 0 W = some ((), u') ∧ m_fa u' = nI (fpl cs (tkR cs).2.1) ∧ tb W u' ∧ m_ty u' = m_ty W at Q2
  generalize tkR cs = R at Q1 Q2 okR ⊢
  cases hR : R.1
  · obtain ⟨u', e2, f2, t2, y2⟩ := Q2 hR
    exact ⟨u', e2, tb_tr tW t2, y2.trans yW, fun _ => f2, fun z => (by cases z)⟩
  · obtain ⟨u', F', G, eF, eG, e2, S2, g2, k2, n2, T2⟩ := Q1 hR
    obtain ⟨o1, o2, -⟩ := okR hR
    obtain ⟨F', rfl⟩ : ∃ k, F' = k + 1 := ⟨F' - 1, by omega⟩
    obtain ⟨G, rfl⟩ : ∃ k, G = k + 1 := ⟨G - 1, by omega⟩
    have fa2 : m_fa u' = -1 := S2.2.1
    have e3 : f_M_readClaims_L213 (f_M_readClaims_L49 (F' + 1)) (G + 1) 0 (-1) 0 1 u' = some ((), u') := by
      rw [q_M_readClaims_L213, if_neg (show ¬ (1 : Int32) = 0 by decide), if_pos (show (0 : Int32) ≤ 0 by decide)]
      unfold f_M_readClaims_J330
      rw [if_pos (show (0 : Int32) = 0 from rfl), q_M_readClaims_L49, if_neg (show ¬ 0 ≤ m_fa u' by rw [fa2]; decide), if_neg (show ¬ (1 : Int32) = 0 by decide)]
    rw [Nat.zero_add, Bool.false_or, show frb (fun _ => false) (fv R.2.2.1 0) = an3 (fv R.2.2.1 0) by simp [frb, an3]] at S2
    exact ⟨u', e2.trans e3, tb_tr tW g2.1, g2.2.1.trans yW, fun z => (by cases z), fun _ => ⟨S2, n2, T2⟩⟩
/-- what copying leaves as it was -/
def cpf (a b : MS) : Prop := m_cl b = m_cl a ∧ m_br b = m_br a ∧ m_xf b = m_xf a ∧ m_ty b = m_ty a ∧ m_nk b = m_nk a ∧ m_no b = m_no a ∧ m_na b = m_na a ∧ m_ns b = m_ns a
theorem cpf_tr {a b c : MS} (h : cpf a b) (g : cpf b c) : cpf a c := by
  obtain ⟨h0, h1, h2, h3, h4, h5, h6, h7⟩ := h
  obtain ⟨g0, g1, g2, g3, g4, g5, g6, g7⟩ := g
  exact ⟨g0.trans h0, g1.trans h1, g2.trans h2, g3.trans h3, g4.trans h4, g5.trans h5, g6.trans h6, g7.trans h7⟩
/-- copied as far as j -/
def cpd (u : MS) (j : Nat) : Prop := ∀ i, i < j → m_ki u i = m_nk u i ∧ m_ow u i = m_no u i ∧ m_ab u i = m_na u i ∧ ∀ v, v < 4 → m_su u (4 * i + v) = m_ns u (4 * i + v)
theorem sM_160S {k : Int32 → MS → Option (Int32 × MS)} {n j v : Nat} {u : MS} (hj : j < 20) (hv : v < 4) : f_M_take_L160 k (n + 1) (nI j) (nI v) u = f_M_take_L160 k n (nI j) (nI (v + 1)) (m_p_su (upd (m_su u) (4 * j + v) (m_ns u (4 * j + v))) u) := by
  rw [q_M_take_L160, if_neg (show ¬ (4 : Int32) ≤ nI v from nI_ge (b := 4) hv (by omega)), n4, gd_s (inb_nI (by omega) (by omega)), gd_s (inb_nI (by omega) (by omega)), lt_q, lt_q, nI_1, nI_clamp (by omega)]
theorem sM_160 {k : Int32 → MS → Option (Int32 × MS)} {j : Nat} {u : MS} (hj : j < 20) : ∃ U, f_M_take_L160 k 4096 (nI j) 0 u = k (nI (j + 1)) U ∧ cpf u U ∧ m_ki U = m_ki u ∧ m_ow U = m_ow u ∧ m_ab U = m_ab u ∧ m_su U = upd (upd (upd (upd (m_su u) (4 * j + 0) (m_ns u (4 * j + 0))) (4 * j + (0 + 1)) (m_ns u (4 * j + (0 + 1)))) (4 * j + (0 + 1 + 1)) (m_ns u (4 * j + (0 + 1 + 1)))) (4 * j + (0 + 1 + 1 + 1)) (m_ns u (4 * j + (0 + 1 + 1 + 1))) := by
  have e5 : ∀ w : MS, f_M_take_L160 k (4091 + 1) (nI j) (nI (0 + 1 + 1 + 1 + 1)) w = k (nI (j + 1)) w := fun w => by
    rw [q_M_take_L160, if_pos (show (4 : Int32) ≤ nI (0 + 1 + 1 + 1 + 1) by decide), lt_q, nI_1]
  have e := (sM_160S (k := k) (n := 4095) (v := 0) (u := u) hj (by omega)).trans ((sM_160S (n := 4094) (v := 0 + 1) hj (by omega)).trans ((sM_160S (n := 4093) (v := 0 + 1 + 1) hj (by omega)).trans ((sM_160S (n := 4092) (v := 0 + 1 + 1 + 1) hj (by omega)).trans (e5 _))))
  have key : ∀ W : MS, cpf u W → m_ki W = m_ki u → m_ow W = m_ow u → m_ab W = m_ab u → m_su W = upd (upd (upd (upd (m_su u) (4 * j + 0) (m_ns u (4 * j + 0))) (4 * j + (0 + 1)) (m_ns u (4 * j + (0 + 1)))) (4 * j + (0 + 1 + 1)) (m_ns u (4 * j + (0 + 1 + 1)))) (4 * j + (0 + 1 + 1 + 1)) (m_ns u (4 * j + (0 + 1 + 1 + 1))) → f_M_take_L160 k 4096 (nI j) (nI 0) u = k (nI (j + 1)) W → ∃ U, f_M_take_L160 k 4096 (nI j) 0 u = k (nI (j + 1)) U ∧ cpf u U ∧ m_ki U = m_ki u ∧ m_ow U = m_ow u ∧ m_ab U = m_ab u ∧ m_su U = upd (upd (upd (upd (m_su u) (4 * j + 0) (m_ns u (4 * j + 0))) (4 * j + (0 + 1)) (m_ns u (4 * j + (0 + 1)))) (4 * j + (0 + 1 + 1)) (m_ns u (4 * j + (0 + 1 + 1)))) (4 * j + (0 + 1 + 1 + 1)) (m_ns u (4 * j + (0 + 1 + 1 + 1))) := by
    intro W a1 a2 a3 a4 a5 a6
    rw [nI_0] at a6
    exact ⟨W, a6, a1, a2, a3, a4, a5⟩
  refine key _ ⟨?_, ?_, ?_, ?_, ?_, ?_, ?_, ?_⟩ ?_ ?_ ?_ ?_ e <;> simp only [mp_su]
theorem sM_114 {L : Nat} (hL : L ≤ 20) : ∀ (m j n : Nat) (u : MS), j + m = L → m < n → m_cl u = nI L → cpd u j → ∃ n' u', f_M_take_L114 n (nI j) u = f_M_take_L114 (n' + 1) (nI L) u' ∧ cpf u u' ∧ cpd u' L := by
  intro m
  induction m with
  | zero =>
    intro j n u hj hn hc hd
    obtain ⟨n, rfl⟩ : ∃ k, n = k + 1 := ⟨n - 1, by omega⟩
    have : j = L := by omega
    subst this
    exact ⟨n, u, rfl, ⟨rfl, rfl, rfl, rfl, rfl, rfl, rfl, rfl⟩, hd⟩
  | succ m ih =>
    intro j n u hj hn hc hd
    obtain ⟨n, rfl⟩ : ∃ k, n = k + 1 := ⟨n - 1, by omega⟩
    rw [q_M_take_L114, if_neg (show ¬ m_cl u ≤ nI j by rw [hc]; exact nI_ge (by omega) (by omega)), gd_s (inb_nI (by omega) (by omega)), gd_s (inb_nI (by omega) (by omega)), lt_q, gd_s (inb_nI (by omega) (by omega)), gd_s (inb_nI (by omega) (by omega)), lt_q, gd_s (inb_nI (by omega) (by omega)), gd_s (inb_nI (by omega) (by omega)), lt_q, nI_clamp (by omega)]
    have key : ∀ U : MS, cpf u U → m_ki U = upd (m_ki u) j (m_nk u j) → m_ow U = upd (m_ow u) j (m_no u j) → m_ab U = upd (m_ab u) j (m_na u j) → m_su U = m_su u → ∃ n' u', f_M_take_L160 (f_M_take_L114 n) 4096 (nI j) 0 U = f_M_take_L114 (n' + 1) (nI L) u' ∧ cpf u u' ∧ cpd u' L := by
      intro U c1 k1 o1 a1 s1
      obtain ⟨V, e, c2, k2, o2, a2, s2⟩ := sM_160 (k := f_M_take_L114 n) (u := U) (show j < 20 by omega)
      have c12 := cpf_tr c1 c2
      obtain ⟨n', u', e3, c3, d3⟩ := ih (j + 1) n V (by omega) (by omega) (c12.1.trans hc) (fun i hi => by
        rw [k2, k1, o2, o1, a2, a1, s2, s1, c12.2.2.2.2.1, c12.2.2.2.2.2.1, c12.2.2.2.2.2.2.1, c12.2.2.2.2.2.2.2, c1.2.2.2.2.2.2.2]
        by_cases hij : i = j
        · subst hij
          refine ⟨pk_us, pk_us, pk_us, fun v hv => ?_⟩
          rcases (show v = 0 ∨ v = 1 ∨ v = 2 ∨ v = 3 by omega) with z | z | z | z
          · subst z
            rw [pk_un (by omega), pk_un (by omega), pk_un (by omega), pk_us]
          · subst z
            rw [pk_un (by omega), pk_un (by omega), pk_us]
          · subst z
            rw [pk_un (by omega), pk_us]
          · subst z
            rw [pk_us]
        · obtain ⟨b1, b2, b3, b4⟩ := hd i (by omega)
          refine ⟨by rw [pk_un hij]; exact b1, by rw [pk_un hij]; exact b2, by rw [pk_un hij]; exact b3, fun v hv => ?_⟩
          rw [pk_un (by omega), pk_un (by omega), pk_un (by omega), pk_un (by omega)]
          exact b4 v hv)
      exact ⟨n', u', e.trans e3, cpf_tr c12 c3, d3⟩
    refine key _ ⟨?_, ?_, ?_, ?_, ?_, ?_, ?_, ?_⟩ ?_ ?_ ?_ ?_ <;> simp only [mp_ki, mp_ow, mp_ab]
theorem ET_cp {u : MS} {N : List Nd} (oN : one N) (h20 : N.length ≤ 20) (hc : m_cl u = nI N.length) (hn : m_no u 0 = -1) (hT : MT u 0 N) (hd : cpd u N.length) : ET u N := by
  have ow_ : ∀ i, i < N.length → m_ow u i = m_no u i := fun i hi => (hd i hi).2.1
  refine ⟨hc, h20, by rw [ow_ 0 oN.2.2]; exact hn, fun i x hx => ?_⟩
  have hi := (List.getElem?_eq_some_iff.mp hx).1
  have hw := oN.1 i hi
  obtain ⟨⟨a1, a2, a3, a4⟩, b1, b2, b3⟩ := hT i x hx
  rw [Nat.zero_add] at a1 a2 a3 a4 b1 b2 b3
  obtain ⟨d1, d2, d3, d4⟩ := hd i hi
  refine ⟨⟨d1.trans a1, fun z => d3.trans (a2 z), fun z => d3.trans (a3 z), fun z y => ⟨fun v hv => (d4 v (by omega)).trans ((a4 z y).1 v hv), (d4 3 (by omega)).trans (a4 z y).2⟩⟩, fun hp => ?_, fun hk => ?_, fun hq => ?_⟩
  · rw [Nat.zero_add]
    obtain ⟨w1, w2⟩ := wf_1 hx hp hw
    obtain ⟨y, hy⟩ := wf_in w1
    obtain ⟨y2, hy2⟩ := wf_in w2
    rw [ow_ _ (List.getElem?_eq_some_iff.mp hy).1, ow_ _ (List.getElem?_eq_some_iff.mp hy2).1, ow_ i hi]
    exact b1 hp
  · rw [Nat.zero_add]
    obtain ⟨y, hy⟩ := wf_in (wf_2 hx (by rw [hk]; rfl) (by rw [hk]; rfl) hw)
    rw [ow_ _ (List.getElem?_eq_some_iff.mp hy).1, ow_ i hi]
    exact b2 hk
  · rw [Nat.zero_add]
    obtain ⟨y, hy⟩ := wf_in (wf_2 hx (kq_33 hq).2.1 (kq_33 hq).2.2 hw)
    rw [ow_ _ (List.getElem?_eq_some_iff.mp hy).1]
    exact b3 hq
