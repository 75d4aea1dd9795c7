def qst (u : MS) (cnt a : Nat) (b : Bool) : MS := m_p_dp (bI b) (m_p_he (upd (m_he u) a (m_he u a + 1)) (m_p_at (m_at u + 1) (m_p_na (upd (m_na u) cnt (nI a)) u)))
theorem qst_o (u : MS) (cnt a : Nat) (b : Bool) : m_ty (qst u cnt a b) = m_ty u ∧ m_si (qst u cnt a b) = m_si u ∧ m_ch (qst u cnt a b) = m_ch u ∧ m_at (qst u cnt a b) = m_at u + 1 ∧ m_fa (qst u cnt a b) = m_fa u ∧ m_re (qst u cnt a b) = m_re u ∧ m_rb (qst u cnt a b) = m_rb u ∧ m_rf (qst u cnt a b) = m_rf u ∧ m_dp (qst u cnt a b) = bI b ∧ m_nk (qst u cnt a b) = m_nk u ∧ m_no (qst u cnt a b) = m_no u ∧ m_na (qst u cnt a b) = upd (m_na u) cnt (nI a) ∧ m_ns (qst u cnt a b) = m_ns u ∧ m_he (qst u cnt a b) = upd (m_he u) a (m_he u a + 1) ∧ m_op (qst u cnt a b) = m_op u ∧ m_le (qst u cnt a b) = m_le u ∧ tb u (qst u cnt a b) := by
  unfold qst
  refine ⟨?_, ?_, ?_, ?_, ?_, ?_, ?_, ?_, ?_, ?_, ?_, ?_, ?_, ?_, ?_, ?_, ⟨?_, ?_, ?_, ?_, ?_, ?_, ?_⟩⟩ <;> simp only [mp_dp, mp_he, mp_at, mp_na]
theorem sM_496 {k49 : Int32 → Int32 → Int32 → Int32 → MS → Option (Unit × MS)} {v1 : Int32} {dp cnt a : Nat} {ne : Bool} {u : MS} (hcnt : cnt < 20) (ha : a < 3) (hdp : dp ≤ 10) (hd : m_dp u = bI ne) : f_M_readClaims_J496 k49 v1 (nI dp) 0 (nI cnt) (nI a) (nI cnt) u = k49 v1 (nI cnt) (nI (dp + 1)) 0 (qst u cnt a (ne || decide (0 < dp))) := by
  have h550 : ∀ b : Bool, ∀ w, f_M_readClaims_J550 k49 v1 (nI dp) 0 (nI cnt) (bI b) w = k49 v1 (nI cnt) (nI (dp + 1)) 0 (m_p_dp (bI b) w) := by
    intro b w
    unfold f_M_readClaims_J550
    rw [bz_bI, gd_t, lt_q, lt_q, nI_1]
  unfold f_M_readClaims_J496
  rw [gd_s (inb_nI (by omega) (by omega)), lt_q, lt_q, nI_clamp (n := cnt) (by omega), show m_na (m_p_at (m_at (m_p_na (upd (m_na u) cnt (nI a)) u) + 1) (m_p_na (upd (m_na u) cnt (nI a)) u)) cnt = nI a from pk_us, gd_s (inb_nI (by omega) (by omega)), gd_s (inb_nI (by omega) (by omega)), gd_s (inb_nI (by omega) (by omega)), gd_s (inb_nI (by omega) (by omega)), lt_q, nI_clamp (n := a) (by omega)]
  unfold qst
  have e : ∀ w : MS, m_dp w = bI ne → (if m_dp w = 0 then (if nI dp ≤ 0 then f_M_readClaims_J550 k49 v1 (nI dp) 0 (nI cnt) 0 w else f_M_readClaims_J550 k49 v1 (nI dp) 0 (nI cnt) 1 w) else f_M_readClaims_J550 k49 v1 (nI dp) 0 (nI cnt) 1 w) = k49 v1 (nI cnt) (nI (dp + 1)) 0 (m_p_dp (bI (ne || decide (0 < dp))) w) := by
    intro w hw
    rw [hw]
    cases ne
    · rw [if_pos (show bI false = 0 from rfl)]
      by_cases h0 : dp = 0
      · subst h0
        rw [if_pos (show nI 0 ≤ 0 by decide)]
        exact h550 false w
      · rw [if_neg (nI_nle (by omega) (by omega)), decide_eq_true (show 0 < dp by omega)]
        exact h550 true w
    · rw [if_neg (show ¬ bI true = 0 by decide)]
      exact h550 true w
  exact e _ hd
theorem sM_quanC {cs : List Nat} {n : Nat} (ih : IHc cs n) {bd : Nat → Bool} {dp cnt br c : Nat} {ne : Bool} {r : List Nat} {F t : Nat} {ow : Int32} {h : Nat → Nat} {rf0 : Bool} {U : MS} (hn : 21 ≤ n + 1 + cnt) (hF : 23 ≤ F + 1 + cnt) (hcnt : cnt < 20) (ht : t ≤ cnt) (hdp : ¬ 2 ≤ dp) (hbr : br ≤ 8) (hh : ∀ v, v < 3 → h v ≤ dp ∧ bd v = decide (0 < h v)) (hq : k_qu c = true) (hN : NS cs U (c :: r) t cnt br ne rf0 h ow) :
    QM cs (F + 1) t ow dp cnt bd rf0 h U (sp_cl (n + 1) bd dp cnt br ne (c :: r)) (ob (f_M_look (psh U cnt (kc c) t)) fun r59 u60 => ob (f_M_in r59 120 122 u60) fun r61 u62 => if r61 = 0 then (ob (f_M_fail u62) fun r64 u65 => f_M_readClaims_J472 (f_M_readClaims_L49 F) (nI (t + 1)) (nI dp) 0 (nI cnt) u65) else f_M_readClaims_J472 (f_M_readClaims_L49 F) (nI (t + 1)) (nI dp) 0 (nI cnt) u62) := by
  have hnf : ¬ 20 ≤ cnt := by omega
  have hkc : 4 ≤ kc c ∧ kc c < 6 := by rcases kq_or hq with e | e <;> subst e <;> decide
  obtain ⟨X, fa, re, rb, dpv, rf, H, ST, no⟩ := hN
  have R0 := psh_R (cnt := cnt) (code := kc c) (t := t) X
  have g0 := psh_g (u := U) (cnt := cnt) (code := kc c) (t := t) (Nat.le_refl cnt)
  obtain ⟨F, rfl⟩ : ∃ g, F = g + 1 := ⟨F - 1, by omega⟩
  obtain ⟨u1, e1, l1, X1⟩ := sM_look R0
  have fa1 : m_fa u1 = -1 := l1.2.2.2.2.1.trans ((psh_fa ..).trans fa)
  have dp1 : m_dp u1 = bI ne := l1.2.2.2.2.2.2.2.2.1.trans ((psh_dp ..).trans dpv)
  have i1 : f_M_in (zI (lk r)) (nI 120) (nI 122) u1 = some (bI (isV (r.headD 0)), u1) := sM_inC (MX_R X1) (by omega) (by omega) (by omega)
  rw [ob_s e1, show (120 : Int32) = nI 120 from rfl, show (122 : Int32) = nI 122 from rfl, ob_s i1]
  cases hV : isV (r.headD 0)
  · rw [if_pos (show bI false = 0 from rfl)]
    obtain ⟨u2, e2, l2, f2, B2⟩ := sM_fail (MX_R X1) fa1
    have hg := fpl_le cs r X1.1.1
    have f2' : 0 ≤ m_fa u2 := by rw [f2]; exact nI_pos' (by omega)
    rw [ob_s e2]
    unfold f_M_readClaims_J472
    rw [if_pos f2', show (0 : Int32) = nI 0 from nI_0.symm]
    have dp2 : m_dp u2 = bI ne := l2.2.2.2.2.2.2.2.1.trans dp1
    have e3 := sM_496 (k49 := f_M_readClaims_L49 (F + 1)) (v1 := nI (t + 1)) (dp := dp) hcnt (show 0 < 3 by omega) (by omega) dp2
    rw [nI_0] at e3 ⊢
    obtain ⟨w1, w2, w3, w4, w5, w6, w7, w8, w9, w10, w11, w12, w13, w14, w15, w16, w17⟩ := qst_o u2 cnt 0 (ne || decide (0 < dp))
    rw [e3]
    generalize qst u2 cnt 0 (ne || decide (0 < dp)) = W at w1 w2 w3 w4 w5 w6 w7 w8 w9 w10 w11 w12 w13 w14 w15 w16 w17 ⊢
    rw [L49_done (show 0 ≤ m_fa W by rw [w5]; exact f2')]
    have hsp : (sp_cl (n + 1) bd dp cnt br ne (c :: r)).1 = false ∧ (sp_cl (n + 1) bd dp cnt br ne (c :: r)).2.1 = r := by
      cases r with
      | nil => rw [zc_qn hnf hq hdp]; exact ⟨rfl, rfl⟩
      | cons v q => rw [zc_qx hnf hq hdp (show isV v = false from hV)]; exact ⟨rfl, rfl⟩
    refine QM_f hsp.1 ⟨W, rfl, ?_, ?_, ?_⟩
    · rw [hsp.2, w5]; exact f2
    · exact tb_tr g0.1 (tb_tr l1.1 (tb_tr l2.1 w17))
    · exact w1.trans (l2.2.1.trans (l1.2.1.trans g0.2.1))
  · cases r with
    | nil => cases hV
    | cons v q =>
      have hV : isV v = true := hV
      have hv := isV_lt hV
      rw [if_neg (show ¬ bI true = 0 by decide)]
      unfold f_M_readClaims_J472
      rw [if_neg (show ¬ 0 ≤ m_fa u1 by rw [fa1]; decide)]
      obtain ⟨u2, e2, l2, X2⟩ := sM_look (MX_R X1)
      have l12 := la_tr l1 l2
      have dp2 : m_dp u2 = bI ne := l2.2.2.2.2.2.2.2.2.1.trans dp1
      rw [ob_s e2, show zI (lk (v :: q)) = nI v from (nI_zI v).symm, show (120 : Int32) = nI 120 from rfl, pk_sub (by omega), sM_496 hcnt (show v - 120 < 3 by omega) (by omega) dp2, zc_qv hnf hq hdp hV]
      have ha : v - 120 < 3 := by omega
      generalize v - 120 = a at ha ⊢
      have he2 : ∀ w, w < 3 → m_he u2 w = nI (h w) := fun w hw => (congrFun l12.2.2.2.2.2.2.2.2.2.2.2.2.2.1 w).trans ((congrFun (psh_he ..) w).trans (H w hw))
      obtain ⟨w1, w2, w3, w4, w5, w6, w7, w8, w9, w10, w11, w12, w13, w14, w15, w16, w17⟩ := qst_o u2 cnt a (ne || decide (0 < dp))
      generalize qst u2 cnt a (ne || decide (0 < dp)) = W at w1 w2 w3 w4 w5 w6 w7 w8 w9 w10 w11 w12 w13 w14 w15 w16 w17 ⊢
      have eop : m_op W = m_op (psh U cnt (kc c) t) := w15.trans l12.2.2.2.2.2.2.2.2.2.2.2.2.2.2.1
      have ele : m_le W = m_le (psh U cnt (kc c) t) := w16.trans l12.2.2.2.2.2.2.2.2.2.2.2.2.2.2.2
      have enk : m_nk W = m_nk (psh U cnt (kc c) t) := w10.trans l12.2.2.2.2.2.2.2.2.2.1
      have ena : ∀ j, j ≠ cnt → m_na W j = m_na U j := fun j hj => by
        rw [w12, pk_un hj, l12.2.2.2.2.2.2.2.2.2.2.2.1, psh_na]
      have opW : m_op W (t + 1) = nI cnt := by rw [eop, psh_op]; exact pk_us
      have leW : m_le W (t + 1) = 1 := by
        rw [ele, psh_le, pk_us, if_pos (by omega)]
        rfl
      have nkW : m_nk W cnt = nI (kc c) := by rw [enk, psh_nk]; exact pk_us
      have naW : m_na W cnt = nI a := by rw [w12]; exact pk_us
      have noW : m_no W cnt = ow := by rw [w11, l12.2.2.2.2.2.2.2.2.2.2.1, psh_no]; exact no
      have gW : gm cnt U W := gm_tr g0 (gm_tr (gm_la l12) ⟨w17, w1, w2, w3, fun j hj => ⟨congrFun w10 j, by rw [w12]; exact pk_un (show j ≠ cnt by omega), congrFun w11 j⟩, fun j _ => congrFun w13 j⟩)
      have kW : sk t U W := sk_tr psh_k (fun j _ => ⟨congrFun eop j, congrFun ele j⟩)
      have SW : SM cs W q (t + 1) (cnt + 1) br (ne || decide (0 < dp)) rf0 (fun w => if w = a then h w + 1 else h w) := by
        refine ⟨MX_n2 X2 ⟨X2.1.1, w2.trans X2.1.2.1, fun i d hi => by rw [w3]; exact X2.1.2.2 i d hi⟩ w4, w5.trans (l12.2.2.2.2.1.trans ((psh_fa ..).trans fa)), w6.trans (l12.2.2.2.2.2.1.trans ((psh_re ..).trans re)), w7.trans (l12.2.2.2.2.2.2.1.trans ((psh_rb ..).trans rb)), w9, w8.trans (l12.2.2.2.2.2.2.2.1.trans ((psh_rf ..).trans rf)), fun w hw => ?_, fun j h3 h4 => ?_⟩
        · rw [w14]
          show upd (m_he u2) a (m_he u2 a + 1) w = nI (if w = a then h w + 1 else h w)
          by_cases hw2 : w = a
          · subst hw2
            rw [pk_us, he2 w hw, nI_1, if_pos rfl]
          · rw [pk_un hw2, he2 w hw, if_neg hw2]
        · by_cases hj : j = t + 1
          · subst hj
            exact ⟨cnt, by omega, opW, Or.inl leW, fun _ => ⟨a, ha, naW⟩⟩
          · obtain ⟨idx, a1, a2, a3, a4⟩ := ST j h3 (by omega)
            obtain ⟨k1, k2⟩ := kW j (by omega)
            obtain ⟨n1, n2, n3⟩ := gW.2.2.2.2.1 idx a1
            rw [k1, k2]
            exact ⟨idx, by omega, a2, a3, by rw [n1, n2]; exact a4⟩
      obtain ⟨Q1, Q2⟩ := ih (bdv bd a) (dp + 1) (cnt + 1) br (ne || decide (0 < dp)) q (F + 1) (t + 1) (nI cnt) (fun w => if w = a then h w + 1 else h w) rf0 W (by omega) (by omega) (by omega) (by omega) (by omega) hbr (fun w hw => by
        unfold bdv
        by_cases hwa : w = a
        · rw [if_pos hwa, if_pos hwa, decide_eq_true (show 0 < h w + 1 by omega)]
          have := (hh w hw).1
          exact ⟨by omega, rfl⟩
        · rw [if_neg hwa, if_neg hwa]
          have := (hh w hw).1
          exact ⟨by omega, (hh w hw).2⟩) SW
      have ok := sp_cl_ok n (bdv bd a) (dp + 1) (cnt + 1) br (ne || decide (0 < dp)) q (by omega) hbr
      unfold zc_1
      generalize sp_cl n (bdv bd a) (dp + 1) (cnt + 1) br (ne || decide (0 < dp)) q = R at Q1 Q2 ok ⊢
      refine ⟨fun hR => ?_, fun hR => ?_⟩
      · obtain ⟨u3, F', G, eF, eG, e, S3, g3, k3, no3, T3⟩ := Q1 hR
        obtain ⟨o1, o2, -⟩ := ok hR
        obtain ⟨kt1, kt2⟩ := k3 (t + 1) (Nat.le_refl _)
        obtain ⟨n31, n32, n33⟩ := g3.2.2.2.2.1 cnt (by omega)
        obtain ⟨G, rfl⟩ : ∃ g, G = g + 1 := ⟨G - 1, by omega⟩
        have k1 := kq_33 hq
        rw [e, sM_popQ (by omega) (by omega) ha (kt2.trans leW) (kt1.trans opW) (by rw [n31, nkW]; exact nI_nlt (b := 4) (by omega) (by omega)) (n32.trans naW), n33, noW, nI_p1]
        obtain ⟨lV, hV⟩ := lo1_he t (upd (m_he u3) a (m_he u3 a - 1)) 0 u3
        generalize m_p_he (upd (m_he u3) a (m_he u3 a - 1)) (m_p_le (upd (m_le u3) (t + 1) 0) u3) = V at lV hV ⊢
        have H3 := S3.2.2.2.2.2.2.1
        have S5 := SM_lo1 S3 lV (h := h) (fun w hw => by
          rw [hV]
          have hw3 : m_he u3 w = nI (if w = a then h w + 1 else h w) := H3 w hw
          by_cases hwa : w = a
          · subst hwa
            rw [if_pos rfl] at hw3
            rw [pk_us, hw3, nI_p1]
          · rw [if_neg hwa] at hw3
            rw [pk_un hwa, hw3])
        have noV : ∀ j, m_no V j = m_no u3 j := fun j => congrFun lV.2.2.2.2.2.2.2.2.2.2.2.1 j
        have nkV : m_nk V cnt = nI (kc c) := (congrFun lV.2.2.2.2.2.2.2.2.2.2.1 cnt).trans (n31.trans nkW)
        have naV : m_na V cnt = nI a := (congrFun lV.2.2.2.2.2.2.2.2.2.2.2.2.1 cnt).trans (n32.trans naW)
        refine ⟨V, F', G, ?_, ?_, rfl, ?_, ?_, ?_, (noV cnt).trans (n33.trans noW), ?_⟩
        · show F + 1 + 1 = F' + (R.2.2.1.length + 1)
          omega
        · show 4096 ≤ G + (R.2.2.1.length + 1)
          omega
        · show SM cs V R.2.1 t (cnt + (R.2.2.1.length + 1)) R.2.2.2.1 R.2.2.2.2 (rf0 || frb bd (fv (nd0 c a :: R.2.2.1) 0)) h
          have ef : fv (nd0 c a :: R.2.2.1) 0 = (fun v => fv R.2.2.1 0 v && !(v == a)) := by
            funext w
            rw [fv_un]
            show (if c = 33 then _ else if k_pr c = true then _ else if k_qu c = true then _ else _) = _
            rw [if_neg k1.1, if_neg (show ¬ k_pr c = true by rw [k1.2.1]; decide), if_pos hq]
            rfl
          rw [ef, ← frb_q bd _ ha, show cnt + (R.2.2.1.length + 1) = cnt + 1 + R.2.2.1.length by omega]
          exact S5
        · exact gm_tr gW (gm_tr (gm_mono g3 (by omega)) (gm_lo1 lV))
        · exact sk_tr kW (sk_tr (fun j hj => k3 j (by omega)) (sk_lo1 lV))
        · exact MT_un (x := nd0 c a) ⟨nkV, fun _ => naV, fun z => (by have z : c = 58 := z; rcases kq_or hq with e | e <;> omega), fun _ z => (by rw [show n_k (nd0 c a) = c from rfl, k1.2.2] at z; cases z)⟩ k1.2.1 (fun z => absurd z k1.1) (fun _ => (noV (cnt + 1)).trans no3) (MT_lo1 lV T3)
      · obtain ⟨u3, e, f3, t3, y3⟩ := Q2 hR
        exact ⟨u3, e, f3, tb_tr gW.1 t3, y3.trans gW.2.1⟩
