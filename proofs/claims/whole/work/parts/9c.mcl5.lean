theorem sM_claim {cs : List Nat} : ∀ n, IHc cs n := by
  intro n
  induction n with
  | zero => intro bd dp cnt br ne ts F t ow h rf0 u hn _ hcnt; omega
  | succ n ih =>
    intro bd dp cnt br ne ts F t ow h rf0 u hn hF hcnt ht hdp hbr hh hS
    obtain ⟨R, fa, re, rb, dpv, rf, H, ST⟩ := hS
    obtain ⟨F, rfl⟩ : ∃ g, F = g + 1 + 1 := ⟨F - 2, by omega⟩
    obtain ⟨u1, e1, l1, X1⟩ := sM_look R
    have fa1 : m_fa u1 = -1 := l1.2.2.2.2.1.trans fa
    have re1 : m_re u1 = nI cnt := l1.2.2.2.2.2.1.trans re
    rw [q_M_readClaims_L49, if_neg (show ¬ 0 ≤ m_fa u by rw [fa]; decide), if_pos (show (0 : Int32) = 0 from rfl), ob_s e1]
    have badly : ∀ (R' : Rs) (v5 v6 v7 : Int32) (b : Bool), R'.1 = false → R'.2.1 = ts → (b = false ∨ m_re u1 = nI 20) → QM cs (F + 1 + 1) t ow dp cnt bd rf0 h u R' (f_M_readClaims_J150 (f_M_readClaims_L49 (F + 1)) (nI t) ow (nI dp) 0 v5 v6 v7 (bI b) u1) := by
      intro R' v5 v6 v7 b h1 h2 h3
      obtain ⟨u2, e2, f2, t2, y2⟩ := sM_150F (F := F) (cnt := cnt) (v1 := nI t) (v2 := ow) (v3 := nI dp) (v5 := v5) (v6 := v6) (v7 := v7) (b := b) (MX_R X1) fa1 h3
      exact QM_f h1 ⟨u2, e2, by rw [h2]; exact f2, tb_tr l1.1 t2, y2.trans l1.2.1⟩
    cases ts with
    | nil =>
      have eJ : (if zI (lk []) = 65 then f_M_readClaims_J79 (f_M_readClaims_L49 (F + 1)) (nI t) ow (nI dp) 0 (zI (lk [])) 1 u1 else f_M_readClaims_J79 (f_M_readClaims_L49 (F + 1)) (nI t) ow (nI dp) 0 (zI (lk [])) 0 u1) = f_M_readClaims_J150 (f_M_readClaims_L49 (F + 1)) (nI t) ow (nI dp) 0 (zI (lk [])) 0 0 (bI false) u1 := by
        rw [if_neg (show ¬ zI (lk []) = 65 by decide)]
        unfold f_M_readClaims_J79
        rw [if_pos (show (0 : Int32) = 0 from rfl), if_neg (show ¬ zI (lk []) = 69 by decide)]
        unfold f_M_readClaims_J98
        rw [if_neg (show ¬ zI (lk []) = 38 by decide), if_neg (show ¬ zI (lk []) = 47 by decide), if_neg (show ¬ zI (lk []) = 62 by decide), if_neg (show ¬ zI (lk []) = 33 by decide), if_neg (show ¬ zI (lk []) = 91 by decide), if_pos (show (0 : Int32) = 0 from rfl)]
        rfl
      rw [eJ]
      refine badly _ _ _ _ _ ?_ ?_ (Or.inl rfl)
      · by_cases hf : 20 ≤ cnt
        · rw [zc_full hf]
        · rw [zc_nil hf]
      · by_cases hf : 20 ≤ cnt
        · rw [zc_full hf]
        · rw [zc_nil hf]
    | cons c r =>
      have hc := MR_hd R
      rw [show zI (lk (c :: r)) = nI c from (nI_zI c).symm, disp hc.2 (by omega)]
      by_cases hf : 20 ≤ cnt
      · have h20 : cnt = 20 := by omega
        refine badly _ _ _ _ _ ?_ ?_ (Or.inr (by rw [re1, h20]))
        · rw [zc_full hf]
        · rw [zc_full hf]
      have hNS : NS cs (nw u1 cnt ow) (c :: r) t cnt br ne rf0 h ow := by
        obtain ⟨h1, h2, h3, h4, h5, h6, h7, h8, h9, h10, h11, h12, h13, h14, h15, h16, h17⟩ := nw_o (u := u1) (cnt := cnt) (v2 := ow)
        refine ⟨?_, h4.trans fa1, ?_, ?_, ?_, ?_, fun v hv => ?_, ?_, by rw [h15]; exact pk_us⟩
        · obtain ⟨⟨n1, n2, n3⟩, p, n4, n5, n6, n7⟩ := X1
          exact ⟨⟨n1, h2.trans n2, fun i d hi => by rw [h8]; exact n3 i d hi⟩, p, n4, h3.trans n5, n6, n7⟩
        · rw [h16, re1, nI_1]
        · exact h5.trans (l1.2.2.2.2.2.2.1.trans rb)
        · exact h7.trans (l1.2.2.2.2.2.2.2.2.1.trans dpv)
        · exact h6.trans (l1.2.2.2.2.2.2.2.1.trans rf)
        · exact (congrFun h12 v).trans ((congrFun l1.2.2.2.2.2.2.2.2.2.2.2.2.2.1 v).trans (H v hv))
        · exact STK_tr (STK_tr ST (gm_la l1) (sk_fb (fb_la (m := 0) l1))) nw_g (fun j _ => ⟨congrFun h13 j, congrFun h14 j⟩)
      have gN : gm cnt u (nw u1 cnt ow) := gm_tr (gm_la l1) nw_g
      have kN : sk t u (nw u1 cnt ow) := sk_tr (sk_fb (fb_la (m := 0) l1)) (fun j _ => ⟨congrFun (nw_o (u := u1) (cnt := cnt) (v2 := ow)).2.2.2.2.2.2.2.2.2.2.2.2.1 j, congrFun (nw_o (u := u1) (cnt := cnt) (v2 := ow)).2.2.2.2.2.2.2.2.2.2.2.2.2.1 j⟩)
      have fin : ∀ {R' : Rs} {o : Option (Unit × MS)}, QM cs (F + 1 + 1) t ow dp cnt bd rf0 h (nw u1 cnt ow) R' o → QM cs (F + 1 + 1) t ow dp cnt bd rf0 h u R' o := by
        rintro R' o ⟨Q1, Q2⟩
        refine ⟨fun hR => ?_, fun hR => ?_⟩
        · obtain ⟨u2, F', G, a1, a2, a3, a4, a5, a6, a7⟩ := Q1 hR
          exact ⟨u2, F', G, a1, a2, a3, a4, gm_tr gN a5, sk_tr kN a6, a7⟩
        · obtain ⟨u2, a1, a2, a3, a4⟩ := Q2 hR
          exact ⟨u2, a1, a2, tb_tr gN.1 a3, a4.trans gN.2.1⟩
      by_cases h91 : c = 91
      · subst h91
        rw [show bI (k_pr 91 || 91 == 33 || 91 == 91 || (k_qu 91 && decide (dp < 2))) = 1 from rfl, sM_150 (by omega) re1, if_pos (show nI 91 = 91 from rfl)]
        refine fin ?_
        obtain ⟨X, fa2, re2, rb2, dp2, rf2, H2, ST2, no2⟩ := hNS
        have hE : HE (nw u1 cnt ow) bd := fun v hv => ⟨h v, by have := (hh v hv).1; omega, H2 v hv, (hh v hv).2⟩
        have pop_ : ∀ (w : MS) (g : Nat), fb cnt (nw u1 cnt ow) w → m_fa w = nI g → g ≤ 1000 → ∃ u', f_M_readClaims_L213 (f_M_readClaims_L49 (F + 1)) 4096 (nI t) ow (nI dp) 1 w = some ((), u') ∧ m_fa u' = nI g ∧ tb (nw u1 cnt ow) u' ∧ m_ty u' = m_ty (nw u1 cnt ow) := by
          intro w g Fw fw hg
          obtain ⟨u', e, b1, b2, b3⟩ := sM_popF (F := F) hcnt t 4096 ow (nI dp) w (by omega) (by omega) (STK_tr ST2 (gm_fb Fw (Nat.le_refl _)) (sk_fb Fw)) (by rw [fw]; exact nI_pos' (by omega))
          exact ⟨u', e, b3.trans fw, tb_tr Fw.1 b1, b2.trans Fw.2.1⟩
        by_cases h8 : 8 ≤ br
        · have hb8 : br = 8 := by omega
          obtain ⟨w, ew, Fw, fw⟩ := sM_brkF X (show cnt < 20 by omega) fa2 (by rw [rb2, hb8])
          have hg := fpl_le cs (91 :: r) X.1.1
          rw [ob_s ew, zc_b8 hf h8]
          exact QM_f rfl (pop_ w (fpl cs (91 :: r)) Fw fw (by omega))
        · obtain ⟨w, ew, Fw, gd1, bd1⟩ := sM_brk (bd := bd) (r0 := rf0) X (show cnt < 20 by omega) fa2 rb2 (by omega) rf2 hE
          rw [ob_s ew, zc_b hf h8]
          have hB := @sp_brk_ok bd r
          generalize sp_brk bd r = p at gd1 bd1 hB ⊢
          refine ⟨fun hR => ?_, fun hR => ?_⟩
          · obtain ⟨a1, a2, a3, a4, a5, a6⟩ := gd1 hR
            have hBx := hB hR
            obtain ⟨hok, hp, hu⟩ := bok_nok hBx
            have hqx := (kun_f hu).2
            have h33 := (kun_f hu).1
            refine ⟨w, F + 1, 4096, rfl, by omega, rfl, ⟨a2, a1, ?_, a3, ?_, ?_, ?_, ?_⟩, gm_fb Fw (Nat.le_refl _), sk_fb Fw, ?_, ?_⟩
            · show m_re w = nI (cnt + 1)
              rw [Fw.2.2.2.2.1]; exact re2
            · show m_dp w = bI ne
              rw [Fw.2.2.2.2.2.1]; exact dp2
            · show m_rf w = bI (rf0 || frb bd (fv [p.2.2] 0))
              rw [a6.2.2, show fv [p.2.2] 0 = n_o p.2.2 from ?_]
              · rfl
              · funext v
                rw [fv_un]
                show (if n_k p.2.2 = 33 then _ else if k_pr (n_k p.2.2) = true then _ else if k_qu (n_k p.2.2) = true then _ else _) = _
                rw [if_neg h33, if_neg (show ¬ k_pr (n_k p.2.2) = true by rw [hp]; decide), if_neg (show ¬ k_qu (n_k p.2.2) = true by rw [hqx]; decide)]
            · intro v hv
              rw [Fw.2.2.2.2.2.2.2.1]; exact H2 v hv
            · exact STK_mono (STK_tr ST2 (gm_fb Fw (Nat.le_refl _)) (sk_fb Fw)) (by omega)
            · rw [Fw.2.2.2.2.2.2.1]; exact no2
            · intro i x hx
              have hi : i = 0 := by
                have := (List.getElem?_eq_some_iff.mp hx).1
                simpa using this
              subst hi
              have : p.2.2 = x := by simpa using hx
              subst this
              exact ⟨⟨a4, fun z => (by rw [hqx] at z; cases z), a5, fun _ _ => ⟨fun v hv => a6.1 v hv, a6.2.1⟩⟩, fun z => (by rw [hp] at z; cases z), fun z => absurd z h33, fun z => (by rw [hqx] at z; cases z)⟩
          · have hg := fpl_le cs p.2.1 X.1.1
            exact pop_ w (fpl cs p.2.1) Fw (bd1 hR) (by omega)
      · have n91 := ne_l (c := c) (k := 91) (x := 91) rfl (by omega) (by omega) h91
        by_cases h33 : c = 33
        · subst h33
          rw [show bI (k_pr 33 || 33 == 33 || 33 == 91 || (k_qu 33 && decide (dp < 2))) = 1 from rfl, sM_150 (by omega) re1, if_neg n91, if_neg (show ¬ nI 33 = 38 by decide), if_neg (show ¬ nI 33 = 47 by decide), if_neg (show ¬ nI 33 = 62 by decide), if_pos (show nI 33 = 33 from rfl), show (3 : Int32) = nI 3 from rfl, sM_404 (by omega) (by omega) (by omega), if_pos (show bI (k_qu 33) = 0 from rfl)]
          exact fin (sM_not ih hn (by omega) (by omega) ht hdp hbr hh hNS)
        · have n33 := ne_l (c := c) (k := 33) (x := 33) rfl (by omega) (by omega) h33
          cases hp : k_pr c
          · cases hq : k_qu c
            · rw [show (false || c == 33 || c == 91 || (false && decide (dp < 2))) = false by rw [show (c == 33) = false from beq_eq_false_iff_ne.mpr h33, show (c == 91) = false from beq_eq_false_iff_ne.mpr h91]; rfl]
              refine badly _ _ _ _ _ ?_ ?_ (Or.inl rfl)
              · rw [zc_x hf h91 h33 hp hq]
              · rw [zc_x hf h91 h33 hp hq]
            · rw [show (false || c == 33 || c == 91 || (true && decide (dp < 2))) = decide (dp < 2) by rw [show (c == 33) = false from beq_eq_false_iff_ne.mpr h33, show (c == 91) = false from beq_eq_false_iff_ne.mpr h91]; rfl]
              by_cases hd : 2 ≤ dp
              · rw [decide_eq_false (show ¬ dp < 2 by omega)]
                refine badly _ _ _ _ _ ?_ ?_ (Or.inl rfl)
                · rw [zc_q2 hf hq hd]
                · rw [zc_q2 hf hq hd]
              · rw [decide_eq_true (show dp < 2 by omega), show bI true = 1 from rfl, sM_150 (by omega) re1, if_neg n91]
                have k2 := sM_quanC ih (F := F + 1) (c := c) hn (by omega) (by omega) ht hd hbr hh hq hNS
                rcases kq_or hq with e | e
                · subst e
                  rw [if_neg (show ¬ nI 69 = 38 by decide), if_neg (show ¬ nI 69 = 47 by decide), if_neg (show ¬ nI 69 = 62 by decide), if_neg n33, if_pos (show bI (69 == 65) = 0 from rfl), show (4 : Int32) = nI 4 from rfl, sM_404 (by omega) (by omega) (by omega), if_neg (show ¬ (1 : Int32) = 0 by decide)]
                  exact fin k2
                · subst e
                  rw [if_neg (show ¬ nI 65 = 38 by decide), if_neg (show ¬ nI 65 = 47 by decide), if_neg (show ¬ nI 65 = 62 by decide), if_neg n33, if_neg (show ¬ bI (65 == 65) = 0 by decide), show (5 : Int32) = nI 5 from rfl, sM_404 (by omega) (by omega) (by omega), if_neg (show ¬ (1 : Int32) = 0 by decide)]
                  exact fin k2
          · have hq : k_qu c = false := by rcases kp_or hp with e | e | e <;> subst e <;> rfl
            have k2 := sM_pairC ih (F := F + 1) (c := c) hn (by omega) (by omega) ht hdp hbr hh hp hNS
            rw [hq, show bI (true || c == 33 || c == 91 || (false && decide (dp < 2))) = 1 from rfl, sM_150 (by omega) re1, if_neg n91]
            rcases kp_or hp with e | e | e
            · subst e
              rw [if_pos (show nI 38 = 38 from rfl), show f_M_readClaims_J404 (f_M_readClaims_L49 (F + 1)) (nI t) ow (nI dp) 0 (bI false) (nI cnt) 0 (nI cnt) (nw u1 cnt ow) = f_M_readClaims_J404 (f_M_readClaims_L49 (F + 1)) (nI t) ow (nI dp) 0 (bI false) (nI cnt) (nI 0) (nI cnt) (nw u1 cnt ow) by rw [nI_0], sM_404 (by omega) (by omega) (by omega), if_pos (show bI false = 0 from rfl)]
              exact fin k2
            · subst e
              rw [if_neg (show ¬ nI 47 = 38 by decide), if_pos (show nI 47 = 47 from rfl), show f_M_readClaims_J404 (f_M_readClaims_L49 (F + 1)) (nI t) ow (nI dp) 0 (bI false) (nI cnt) 1 (nI cnt) (nw u1 cnt ow) = f_M_readClaims_J404 (f_M_readClaims_L49 (F + 1)) (nI t) ow (nI dp) 0 (bI false) (nI cnt) (nI 1) (nI cnt) (nw u1 cnt ow) from rfl, sM_404 (by omega) (by omega) (by omega), if_pos (show bI false = 0 from rfl)]
              exact fin k2
            · subst e
              rw [if_neg (show ¬ nI 62 = 38 by decide), if_neg (show ¬ nI 62 = 47 by decide), if_pos (show nI 62 = 62 from rfl), show f_M_readClaims_J404 (f_M_readClaims_L49 (F + 1)) (nI t) ow (nI dp) 0 (bI false) (nI cnt) 2 (nI cnt) (nw u1 cnt ow) = f_M_readClaims_J404 (f_M_readClaims_L49 (F + 1)) (nI t) ow (nI dp) 0 (bI false) (nI cnt) (nI 2) (nI cnt) (nw u1 cnt ow) from rfl, sM_404 (by omega) (by omega) (by omega), if_pos (show bI false = 0 from rfl)]
              exact fin k2
