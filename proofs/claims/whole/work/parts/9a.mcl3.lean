def IHc (cs : List Nat) (n : Nat) : Prop := ∀ (bd : Nat → Bool) (dp cnt br : Nat) (ne : Bool) (ts : List Nat) (F t : Nat) (ow : Int32) (h : Nat → Nat) (rf0 : Bool) (u : MS), 21 ≤ n + cnt → 23 ≤ F + cnt → cnt ≤ 20 → t ≤ cnt → dp ≤ 2 → br ≤ 8 → (∀ v, v < 3 → h v ≤ dp ∧ bd v = decide (0 < h v)) → SM cs u ts t cnt br ne rf0 h → QM cs F t ow dp cnt bd rf0 h u (sp_cl n bd dp cnt br ne ts) (f_M_readClaims_L49 F (nI t) ow (nI dp) 0 u)
/-- a state in which a new node is begun -/
def NS (cs : List Nat) (U : MS) (ts : List Nat) (t cnt br : Nat) (ne rf0 : Bool) (h : Nat → Nat) (ow : Int32) : Prop := MX U cs ts ∧ m_fa U = -1 ∧ m_re U = nI (cnt + 1) ∧ m_rb U = nI br ∧ m_dp U = bI ne ∧ m_rf U = bI rf0 ∧ HH U h ∧ STK U t cnt ∧ m_no U cnt = ow
theorem NS_p {cs r : List Nat} {U : MS} {c t cnt br code : Nat} {ne rf0 : Bool} {h : Nat → Nat} {ow : Int32} (hN : NS cs U (c :: r) t cnt br ne rf0 h ow) (hc : code < 4) : SM cs (psh U cnt code t) r (t + 1) (cnt + 1) br ne rf0 h := by
  obtain ⟨X, fa, re, rb, dp, rf, H, ST, no⟩ := hN
  exact ⟨psh_R X, (psh_fa ..).trans fa, (psh_re ..).trans re, (psh_rb ..).trans rb, (psh_dp ..).trans dp, (psh_rf ..).trans rf, fun v hv => (congrFun (psh_he ..) v).trans (H v hv), psh_S ST hc⟩
theorem le_top {U u' : MS} {cnt code t : Nat} (k : sk (t + 1) (psh U cnt code t) u') : m_op u' (t + 1) = nI cnt ∧ m_le u' (t + 1) = nI (if 3 ≤ code then 1 else 2) := by
  obtain ⟨k1, k2⟩ := k (t + 1) (Nat.le_refl _)
  exact ⟨k1.trans ((congrFun (psh_op ..) _).trans pk_us), k2.trans ((congrFun (psh_le ..) _).trans pk_us)⟩
theorem nk_top {U u' : MS} {cnt code t : Nat} (g : gm (cnt + 1) (psh U cnt code t) u') : m_nk u' cnt = nI code ∧ m_no u' cnt = m_no U cnt := by
  obtain ⟨k1, k2, k3⟩ := g.2.2.2.2.1 cnt (by omega)
  exact ⟨k1.trans ((congrFun (psh_nk ..) _).trans pk_us), k3.trans (congrFun (psh_no ..) _)⟩
/-- only the top of the stack, and what is held, differ -/
def lo1 (t : Nat) (u W : MS) : Prop := tb u W ∧ m_ty W = m_ty u ∧ m_si W = m_si u ∧ m_ch W = m_ch u ∧ m_at W = m_at u ∧ m_fa W = m_fa u ∧ m_re W = m_re u ∧ m_rb W = m_rb u ∧ m_rf W = m_rf u ∧ m_dp W = m_dp u ∧ m_nk W = m_nk u ∧ m_no W = m_no u ∧ m_na W = m_na u ∧ m_ns W = m_ns u ∧ m_op W = m_op u ∧ ∀ j, j ≠ t + 1 → m_le W j = m_le u j
theorem lo1_le (t : Nat) (y : Int32) (u : MS) : lo1 t u (m_p_le (upd (m_le u) (t + 1) y) u) ∧ m_he (m_p_le (upd (m_le u) (t + 1) y) u) = m_he u ∧ m_le (m_p_le (upd (m_le u) (t + 1) y) u) (t + 1) = y := by
  obtain ⟨w1, w2, w3, w4, w5, w6, w7, w8, w9, w10, w11, w12, w13, w14, w15, w16, w17⟩ := le_o (upd (m_le u) (t + 1) y) u
  exact ⟨⟨w17, w1, w2, w3, w4, w5, w6, w7, w8, w9, w10, w11, w12, w13, w15, fun j hj => by rw [w16]; exact pk_un hj⟩, w14, by rw [w16]; exact pk_us⟩
theorem lo1_he (t : Nat) (x : Nat → Int32) (y : Int32) (u : MS) : lo1 t u (m_p_he x (m_p_le (upd (m_le u) (t + 1) y) u)) ∧ m_he (m_p_he x (m_p_le (upd (m_le u) (t + 1) y) u)) = x := by
  obtain ⟨w1, w2, w3, w4, w5, w6, w7, w8, w9, w10, w11, w12, w13, w14, w15, w16, w17⟩ := he_o x (upd (m_le u) (t + 1) y) u
  exact ⟨⟨w17, w1, w2, w3, w4, w5, w6, w7, w8, w9, w10, w11, w12, w13, w15, fun j hj => by rw [w16]; exact pk_un hj⟩, w14⟩
theorem gm_lo1 {t s : Nat} {u W : MS} (h : lo1 t u W) : gm s u W := by
  obtain ⟨h0, h1, h2, h3, h4, h5, h6, h7, h8, h9, h10, h11, h12, h13, h14, h15⟩ := h
  exact ⟨h0, h1, h2, h3, fun j _ => ⟨congrFun h10 j, congrFun h12 j, congrFun h11 j⟩, fun j _ => congrFun h13 j⟩
theorem sk_lo1 {t : Nat} {u W : MS} (h : lo1 t u W) : sk t u W := by
  obtain ⟨h0, h1, h2, h3, h4, h5, h6, h7, h8, h9, h10, h11, h12, h13, h14, h15⟩ := h
  exact fun j hj => ⟨congrFun h14 j, h15 j (by omega)⟩
theorem MR_lo1 {t : Nat} {u W : MS} {cs ts : List Nat} (h : lo1 t u W) (R : MR u cs ts) : MR W cs ts := by
  obtain ⟨h0, h1, h2, h3, h4, h5, h6, h7, h8, h9, h10, h11, h12, h13, h14, h15⟩ := h
  obtain ⟨⟨n1, n2, n3⟩, p, n4, n5, n6⟩ := R
  exact ⟨⟨n1, h2.trans n2, fun i c hi => by rw [h3]; exact n3 i c hi⟩, p, n4, h4.trans n5, n6⟩
theorem MT_lo1 {t s : Nat} {u W : MS} {N : List Nd} (h : lo1 t u W) (T : MT u s N) : MT W s N := by
  obtain ⟨h0, h1, h2, h3, h4, h5, h6, h7, h8, h9, h10, h11, h12, h13, h14, h15⟩ := h
  intro i x hx
  have g := T i x hx
  unfold MN at g ⊢
  rw [h10, h11, h12, h13]
  exact g
theorem SM_lo1 {cs ts : List Nat} {u W : MS} {t cnt br : Nat} {ne rf0 : Bool} {h h' : Nat → Nat} (S : SM cs u ts (t + 1) cnt br ne rf0 h') (l : lo1 t u W) (H : HH W h) : SM cs W ts t cnt br ne rf0 h := by
  obtain ⟨a1, a2, a3, a4, a5, a6, a7, a8⟩ := S
  have R := MR_lo1 l a1
  obtain ⟨h0, h1, h2, h3, h4, h5, h6, h7, h8, h9, h10, h11, h12, h13, h14, h15⟩ := l
  exact ⟨R, h5.trans a2, h6.trans a3, h7.trans a4, h9.trans a5, h8.trans a6, H, STK_le a8 (fun j hj => ⟨congrFun h14 j, h15 j (by omega)⟩) h10 h12⟩
theorem sM_not {cs : List Nat} {n : Nat} (ih : IHc cs n) {bd : Nat → Bool} {dp cnt br : Nat} {ne : Bool} {r : List Nat} {F t : Nat} {ow : Int32} {h : Nat → Nat} {rf0 : Bool} {U : MS} (hn : 21 ≤ n + 1 + cnt) (hF : 23 ≤ F + 1 + cnt) (hcnt : cnt < 20) (ht : t ≤ cnt) (hdp : dp ≤ 2) (hbr : br ≤ 8) (hh : ∀ v, v < 3 → h v ≤ dp ∧ bd v = decide (0 < h v)) (hN : NS cs U (33 :: r) t cnt br ne rf0 h ow) :
    QM cs (F + 1) t ow dp cnt bd rf0 h U (sp_cl (n + 1) bd dp cnt br ne (33 :: r)) (f_M_readClaims_L49 F (nI (t + 1)) ow (nI dp) 0 (psh U cnt 3 t)) := by
  obtain ⟨Q1, Q2⟩ := ih bd dp (cnt + 1) br ne r F (t + 1) ow h rf0 (psh U cnt 3 t) (by omega) (by omega) (by omega) (by omega) hdp hbr hh (NS_p hN (by omega))
  have ok := sp_cl_ok n bd dp (cnt + 1) br ne r hdp hbr
  rw [zc_not (show ¬ 20 ≤ cnt by omega)]
  generalize sp_cl n bd dp (cnt + 1) br ne r = R at Q1 Q2 ok ⊢
  refine ⟨fun hR => ?_, fun hR => ?_⟩
  · obtain ⟨u2, F', G, eF, eG, e, S2, g2, k2, no2, T2⟩ := Q1 hR
    obtain ⟨o1, o2, -⟩ := ok hR
    obtain ⟨op_, le_⟩ := le_top k2
    obtain ⟨nk_, no_⟩ := nk_top g2
    obtain ⟨G, rfl⟩ : ∃ g, G = g + 1 := ⟨G - 1, by omega⟩
    rw [e, sM_pop1 (by omega) (by omega) (show m_le u2 (t + 1) = 1 from le_) op_ (by rw [nk_]; decide)]
    obtain ⟨lW, hW, -⟩ := lo1_le t 0 u2
    generalize m_p_le (upd (m_le u2) (t + 1) 0) u2 = W at lW hW ⊢
    have S3 := SM_lo1 S2 lW (h := h) (fun v hv => (congrFun hW v).trans (S2.2.2.2.2.2.2.1 v hv))
    have noW : m_no W cnt = ow := (congrFun lW.2.2.2.2.2.2.2.2.2.2.2.1 cnt).trans (no_.trans hN.2.2.2.2.2.2.2.2)
    have noW' : m_no W (cnt + 1) = ow := (congrFun lW.2.2.2.2.2.2.2.2.2.2.2.1 (cnt + 1)).trans no2
    have nkW : m_nk W cnt = nI 3 := (congrFun lW.2.2.2.2.2.2.2.2.2.2.1 cnt).trans nk_
    refine ⟨W, F', G, ?_, ?_, rfl, ?_, ?_, ?_, noW, ?_⟩
    · show F + 1 = F' + (R.2.2.1.length + 1)
      omega
    · show 4096 ≤ G + (R.2.2.1.length + 1)
      omega
    · show SM cs W R.2.1 t (cnt + (R.2.2.1.length + 1)) R.2.2.2.1 R.2.2.2.2 (rf0 || frb bd (fv (nd0 33 0 :: R.2.2.1) 0)) h
      rw [show fv (nd0 33 0 :: R.2.2.1) 0 = fv R.2.2.1 0 by rw [fv_un]; rfl, show cnt + (R.2.2.1.length + 1) = cnt + 1 + R.2.2.1.length by omega]
      exact S3
    · exact gm_tr (psh_g (Nat.le_refl _)) (gm_tr (gm_mono g2 (by omega)) (gm_lo1 lW))
    · exact sk_tr psh_k (sk_tr (fun j hj => k2 j (by omega)) (sk_lo1 lW))
    · exact MT_un (x := nd0 33 0) ⟨nkW, fun z => (by cases z), fun z => (by cases z), fun _ z => (by cases z)⟩ rfl (fun _ => noW'.trans noW.symm) (fun z => (by cases z)) (MT_lo1 lW T2)
  · obtain ⟨u2, e, f2, t2, y2⟩ := Q2 hR
    exact ⟨u2, e, f2, tb_tr (psh_tb U cnt 3 t) t2, y2.trans (psh_ty U cnt 3 t)⟩
theorem sM_pairC {cs : List Nat} {n : Nat} (ih : IHc cs n) {bd : Nat → Bool} {dp cnt br c : Nat} {ne : Bool} {r : List Nat} {F t : Nat} {ow : Int32} {h : Nat → Nat} {rf0 : Bool} {U : MS} (hn : 21 ≤ n + 1 + cnt) (hF : 23 ≤ F + 1 + cnt) (hcnt : cnt < 20) (ht : t ≤ cnt) (hdp : dp ≤ 2) (hbr : br ≤ 8) (hh : ∀ v, v < 3 → h v ≤ dp ∧ bd v = decide (0 < h v)) (hp : k_pr c = true) (hN : NS cs U (c :: r) t cnt br ne rf0 h ow) :
    QM cs (F + 1) t ow dp cnt bd rf0 h U (sp_cl (n + 1) bd dp cnt br ne (c :: r)) (f_M_readClaims_L49 F (nI (t + 1)) ow (nI dp) 0 (psh U cnt (kc c) t)) := by
  have hkc : kc c < 3 := by rcases kp_or hp with e | e | e <;> subst e <;> decide
  obtain ⟨Q1, Q2⟩ := ih bd dp (cnt + 1) br ne r F (t + 1) ow h rf0 (psh U cnt (kc c) t) (by omega) (by omega) (by omega) (by omega) hdp hbr hh (NS_p hN (by omega))
  have ok := sp_cl_ok n bd dp (cnt + 1) br ne r hdp hbr
  have hnf : ¬ 20 ≤ cnt := by omega
  cases h1 : (sp_cl n bd dp (cnt + 1) br ne r).1
  · rw [zc_prF hnf hp h1]
    obtain ⟨u2, e, f2, t2, y2⟩ := Q2 h1
    exact QM_f h1 ⟨u2, e, f2, tb_tr (psh_tb U cnt (kc c) t) t2, y2.trans (psh_ty U cnt (kc c) t)⟩
  · rw [zc_prT hnf hp h1]
    obtain ⟨u2, F', G, eF, eG, e, S2, g2, k2, no2, T2⟩ := Q1 h1
    obtain ⟨o1, o2, o3, o4, o5, o6, o7⟩ := ok h1
    generalize sp_cl n bd dp (cnt + 1) br ne r = P at eF eG S2 T2 o1 o2 o6 ⊢
    obtain ⟨R2, fa2, re2, rb2, dp2, rf2, H2, ST2⟩ := S2
    obtain ⟨op_, le_⟩ := le_top k2
    obtain ⟨nk_, no_⟩ := nk_top g2
    rw [if_neg (show ¬ 3 ≤ kc c by omega)] at le_
    obtain ⟨G, rfl⟩ : ∃ g, G = g + 1 + 1 := ⟨G - 2, by omega⟩
    rw [e, sM_pop2 (by omega) (show m_le u2 (t + 1) = 2 from le_)]
    obtain ⟨lW, hW, tW⟩ := lo1_le t 1 u2
    generalize m_p_le (upd (m_le u2) (t + 1) 1) u2 = u3 at lW hW tW ⊢
    have S3 : SM cs u3 P.2.1 (t + 1) (cnt + 1 + P.2.2.1.length) P.2.2.2.1 P.2.2.2.2 (rf0 || frb bd (fv P.2.2.1 0)) h := by
      have R3 := MR_lo1 lW R2
      obtain ⟨h0, h1, h2, h3, h4, h5, h6, h7, h8, h9, h10, h11, h12, h13, h14, h15⟩ := lW
      refine ⟨R3, h5.trans fa2, h6.trans re2, h7.trans rb2, h9.trans dp2, h8.trans rf2, fun v hv => (congrFun hW v).trans (H2 v hv), fun j h3 h4 => ?_⟩
      obtain ⟨idx, a1, a2, a3, a4⟩ := ST2 j h3 h4
      rw [h10, h12, h14]
      by_cases hj : j = t + 1
      · subst hj
        exact ⟨idx, a1, a2, Or.inl tW, a4⟩
      · exact ⟨idx, a1, a2, by rw [h15 j hj]; exact a3, a4⟩
    have g3 : gm (cnt + 1) (psh U cnt (kc c) t) u3 := gm_tr g2 (gm_lo1 lW)
    have T3 : MT u3 (cnt + 1) P.2.2.1 := MT_lo1 lW T2
    have op3' : m_op u3 (t + 1) = nI cnt := (congrFun lW.2.2.2.2.2.2.2.2.2.2.2.2.2.2.1 _).trans op_
    have nk3 : m_nk u3 cnt = nI (kc c) := (congrFun lW.2.2.2.2.2.2.2.2.2.2.1 _).trans nk_
    have no3 : m_no u3 cnt = ow := (congrFun lW.2.2.2.2.2.2.2.2.2.2.2.1 _).trans (no_.trans hN.2.2.2.2.2.2.2.2)
    have no3' : m_no u3 (cnt + 1) = ow := (congrFun lW.2.2.2.2.2.2.2.2.2.2.2.1 _).trans no2
    have k3 : sk t U u3 := sk_tr psh_k (sk_tr (fun j hj => k2 j (by omega)) (sk_lo1 lW))
    obtain ⟨Q3, Q4⟩ := ih bd dp (cnt + 1 + P.2.2.1.length) P.2.2.2.1 P.2.2.2.2 P.2.1 F' (t + 1) ow h (rf0 || frb bd (fv P.2.2.1 0)) u3 (by omega) (by omega) o2 (by omega) hdp o6 hh S3
    have ok2 := sp_cl_ok n bd dp (cnt + 1 + P.2.2.1.length) P.2.2.2.1 P.2.2.2.2 P.2.1 hdp o6
    unfold zc_2
    generalize sp_cl n bd dp (cnt + 1 + P.2.2.1.length) P.2.2.2.1 P.2.2.2.2 P.2.1 = S at Q3 Q4 ok2 ⊢
    have tbU : tb U u3 := tb_tr (psh_g (u := U) (cnt := cnt) (code := kc c) (t := t) (Nat.le_refl _)).1 g3.1
    have tyU : m_ty u3 = m_ty U := g3.2.1.trans (psh_ty U cnt (kc c) t)
    refine ⟨fun hR => ?_, fun hR => ?_⟩
    · obtain ⟨u4, F2, G2, eF2, eG2, e4, S4, g4, k4, no4, T4⟩ := Q3 hR
      obtain ⟨p1, p2, -⟩ := ok2 hR
      obtain ⟨kt1, kt2⟩ := k4 (t + 1) (Nat.le_refl _)
      obtain ⟨n41, n42, n43⟩ := g4.2.2.2.2.1 cnt (by omega)
      obtain ⟨n51, n52, n53⟩ := g4.2.2.2.2.1 (cnt + 1) (by have := o1.2.2; omega)
      obtain ⟨G2, rfl⟩ : ∃ g, G2 = g + 1 := ⟨G2 - 1, by omega⟩
      rw [e4, sM_pop1 (by omega) (by omega) (kt2.trans tW) (kt1.trans op3') (by rw [n41, nk3]; exact nI_lt (b := 4) (by omega) (by omega))]
      obtain ⟨lV, hV, -⟩ := lo1_le t 0 u4
      generalize m_p_le (upd (m_le u4) (t + 1) 0) u4 = V at lV hV ⊢
      have S5 := SM_lo1 S4 lV (h := h) (fun v hv => (congrFun hV v).trans (S4.2.2.2.2.2.2.1 v hv))
      have noV : ∀ j, m_no V j = m_no u4 j := fun j => congrFun lV.2.2.2.2.2.2.2.2.2.2.2.1 j
      have nkV : m_nk V cnt = nI (kc c) := (congrFun lV.2.2.2.2.2.2.2.2.2.2.1 cnt).trans (n41.trans nk3)
      refine ⟨V, F2, G2, ?_, ?_, rfl, ?_, ?_, ?_, (noV cnt).trans (n43.trans no3), ?_⟩
      · show F + 1 = F2 + ((P.2.2.1 ++ S.2.2.1).length + 1)
        rw [List.length_append]; omega
      · show 4096 ≤ G2 + ((P.2.2.1 ++ S.2.2.1).length + 1)
        rw [List.length_append]; omega
      · show SM cs V S.2.1 t (cnt + ((P.2.2.1 ++ S.2.2.1).length + 1)) S.2.2.2.1 S.2.2.2.2 (rf0 || frb bd (fv (nd0 c 0 :: (P.2.2.1 ++ S.2.2.1)) 0)) h
        have ef : fv (nd0 c 0 :: (P.2.2.1 ++ S.2.2.1)) 0 = (fun v => fv P.2.2.1 0 v || fv S.2.2.1 0 v) := by
          funext w
          rw [fv_pr o1]
          show (if c = 33 then _ else if k_pr c = true then _ else _) = _
          rw [if_neg (kp_33 hp), if_pos hp]
        rw [ef, frb_or, ← Bool.or_assoc, List.length_append, show cnt + (P.2.2.1.length + S.2.2.1.length + 1) = cnt + 1 + P.2.2.1.length + S.2.2.1.length by omega]
        exact S5
      · exact gm_tr (psh_g (Nat.le_refl _)) (gm_tr (gm_mono g3 (by omega)) (gm_tr (gm_mono g4 (by omega)) (gm_lo1 lV)))
      · exact sk_tr k3 (sk_tr (fun j hj => k4 j (by omega)) (sk_lo1 lV))
      · refine MT_pr (x := nd0 c 0) ⟨nkV, fun z => (by rw [show n_k (nd0 c 0) = c from rfl, (show k_qu c = false by rcases kp_or hp with e | e | e <;> subst e <;> rfl)] at z; cases z), fun z => (by have z : c = 58 := z; rcases kp_or hp with e | e | e <;> omega), fun z => (by rw [show n_k (nd0 c 0) = c from rfl, hp] at z; cases z)⟩ hp o1 ?_ ?_ (MT_lo1 lV (MT_gm o1 T3 g4)) (MT_lo1 lV T4)
        · rw [noV, noV, n53, n43, no3, no3']
        · rw [noV, noV, no4, n43, no3]
    · obtain ⟨u4, e4, f4, t4, y4⟩ := Q4 hR
      exact ⟨u4, e4, f4, tb_tr tbU t4, y4.trans tyU⟩
