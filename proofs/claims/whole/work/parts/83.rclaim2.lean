theorem sR_quan {cs : List Nat} {n : Nat} (ih : ∀ (bd : Nat → Bool) (dp cnt br : Nat) (ne : Bool) (ts : List Nat) (u : KS), 21 ≤ n + cnt → cnt ≤ 20 → dp ≤ 2 → br ≤ 8 → RK u cs ts → k_cn u = nI cnt → k_br u = nI br → k_ne u = bI ne → CK cs u cnt (sp_cl n bd dp cnt br ne ts) (f_R_readClaim n (opm bd) (nI dp) u))
    {bd : Nat → Bool} {dp cnt br c : Nat} {ne : Bool} {r : List Nat} {u : KS} (hn : 21 ≤ n + 1 + cnt) (hf : ¬ 20 ≤ cnt) (hdp : dp ≤ 2) (hbr : br ≤ 8) (hq : k_qu c = true) (hR : RK u cs (c :: r)) (hc : k_cn u = nI cnt) (hb : k_br u = nI br) (hne : k_ne u = bI ne) :
    CK cs u cnt (sp_cl (n + 1) bd dp cnt br ne (c :: r)) (f_R_readQuantified (f_R_readClaim n) (opm bd) (nI dp) u) := by
  have hJ : ∀ b : Bool, b = (ne || decide (0 < dp)) → ¬ 2 ≤ dp → CK cs u cnt (sp_cl (n + 1) bd dp cnt br ne (c :: r)) (f_R_readQuantified_J24 (f_R_readClaim n) (opm bd) (nI dp) (bI b) u) := by
    intro b hb' hd
    unfold f_R_readQuantified_J24
    rw [bz_bI, gd_t, lt_q]
    have R0 : RK (k_p_ne (bI b) u) cs (c :: r) := RK_tx hR ⟨rfl, rfl, rfl, rfl, rfl, rfl⟩ rfl
    obtain ⟨u1, e1, R1, b1, n1, c1, k1, A1, G1⟩ := sR_begin R0 (show cnt < 20 by omega) (show k_cn (k_p_ne (bI b) u) = nI cnt from hc)
    have G1' : ge cnt u u1 := ge_tr (ge_ne cnt _ _) G1
    have b1' : k_br u1 = nI br := b1.trans hb
    have n1' : k_ne u1 = bI b := n1
    have hh := RK_hd R1
    rw [ob_s e1, ob_s (sR_mark R1), ob_s (sR_var (by omega) u1)]
    cases r with
    | nil =>
      rw [show isV (([] : List Nat).headD 0) = false from rfl, if_neg ff_tt, if_neg (show ¬ (0 : Int32) ≤ -1 by decide), bz0, gd_t, zc_qn hf hq hd]
      exact CK_f R1 G1'
    | cons v q =>
      have hh : v < 127 := hh
      rw [show (v :: q).headD 0 = v from rfl]
      cases hv : isV v
      · rw [if_neg ff_tt, if_neg (show ¬ (0 : Int32) ≤ -1 by decide), bz0, gd_t, zc_qx hf hq hd hv]
        exact CK_f R1 G1'
      · have hv3 := isV_lt hv
        rw [if_pos (show true = true from rfl), if_pos (show (0 : Int32) ≤ nI (v - 120) from nI_pos' (by omega)), lt_q]
        have R2 := RK_next R1
        rw [ob_s (sC_putV (u := k_p_at (k_at u1 + 1) u1) (show cnt < cnt + 1 by omega) (by omega) c1 (nI (v - 120)))]
        have R3 : RK (k_p_vr (upd (k_vr (k_p_at (k_at u1 + 1) u1)) cnt (nI (v - 120))) (k_p_at (k_at u1 + 1) u1)) cs q := RK_tx R2 ⟨rfl, rfl, rfl, rfl, rfl, rfl⟩ rfl
        have c3 : k_cn (k_p_vr (upd (k_vr (k_p_at (k_at u1 + 1) u1)) cnt (nI (v - 120))) (k_p_at (k_at u1 + 1) u1)) = nI (cnt + 1) := c1
        have b3 : k_br (k_p_vr (upd (k_vr (k_p_at (k_at u1 + 1) u1)) cnt (nI (v - 120))) (k_p_at (k_at u1 + 1) u1)) = nI br := b1'
        have n3' : k_ne (k_p_vr (upd (k_vr (k_p_at (k_at u1 + 1) u1)) cnt (nI (v - 120))) (k_p_at (k_at u1 + 1) u1)) = bI (ne || decide (0 < dp)) := by rw [← hb']; exact n1'
        have G3 : ge cnt u (k_p_vr (upd (k_vr (k_p_at (k_at u1 + 1) u1)) cnt (nI (v - 120))) (k_p_at (k_at u1 + 1) u1)) := ge_tr G1' (ge_tr (ge_at cnt _ _) (ge_vr (Nat.le_refl _) _ _))
        have K3 : NK (k_p_vr (upd (k_vr (k_p_at (k_at u1 + 1) u1)) cnt (nI (v - 120))) (k_p_at (k_at u1 + 1) u1)) cnt (nd0 c (v - 120)) := nd0_NK k1 (fun _ => pk_us) (by rcases kq_or hq with e | e <;> omega) A1
        generalize k_p_vr (upd (k_vr (k_p_at (k_at u1 + 1) u1)) cnt (nI (v - 120))) (k_p_at (k_at u1 + 1) u1) = u3 at R3 c3 b3 n3' G3 K3 ⊢
        rw [opm_or bd (show v - 120 < 3 by omega), nI_1, zc_qv hf hq hd hv]
        obtain ⟨u4, e4, R4, G4, T4⟩ := ih (bdv bd (v - 120)) (dp + 1) (cnt + 1) br (ne || decide (0 < dp)) q u3 (by omega) (by omega) (by omega) hbr R3 c3 b3 n3'
        have e4' : f_R_readClaim n (opm fun j => if j = v - 120 then true else bd j) (nI (dp + 1)) u3 = some (bI (sp_cl n (bdv bd (v - 120)) (dp + 1) (cnt + 1) br (ne || decide (0 < dp)) q).1, u4) := e4
        rw [ob_s e4', bz_bI, gd_t]
        refine ⟨u4, rfl, R4, ge_tr G3 (ge_mono G4 (by omega)), fun h => ?_⟩
        obtain ⟨c5, b5, n5, T5⟩ := T4 h
        refine ⟨?_, b5, n5, TB_un (NK_ge K3 G4 (by omega)) (kq_33 hq).2.1 T5⟩
        rw [c5]
        congr 1
        show _ = cnt + (_ + 1)
        omega
  unfold f_R_readQuantified
  by_cases hd : 2 ≤ dp
  · rw [if_neg (show ¬ nI dp < 2 from nI_nlt (b := 2) hd (by omega)), bz0, gd_t, zc_q2 hf hq hd]
    exact CK_f hR (ge_rf _ _)
  · rw [if_pos (show nI dp < 2 from nI_lt (b := 2) (by omega) (by omega)), hne]
    cases ne
    · rw [if_pos (show bI false = 0 from rfl)]
      by_cases h0 : dp = 0
      · subst h0
        rw [if_pos (show nI 0 ≤ 0 by decide)]
        have g := hJ false rfl hd
        rw [show bI false = 0 from rfl] at g
        exact g
      · rw [if_neg (show ¬ nI dp ≤ 0 from nI_nle (by omega) (by omega))]
        have g := hJ true (by rw [decide_eq_true (show 0 < dp by omega)]; rfl) hd
        rw [show bI true = 1 from rfl] at g
        exact g
    · rw [if_neg (show ¬ bI true = 0 by decide)]
      have g := hJ true rfl hd
      rw [show bI true = 1 from rfl] at g
      exact g
theorem sR_claim {cs : List Nat} : ∀ (n : Nat) (bd : Nat → Bool) (dp cnt br : Nat) (ne : Bool) (ts : List Nat) (u : KS), 21 ≤ n + cnt → cnt ≤ 20 → dp ≤ 2 → br ≤ 8 → RK u cs ts → k_cn u = nI cnt → k_br u = nI br → k_ne u = bI ne → CK cs u cnt (sp_cl n bd dp cnt br ne ts) (f_R_readClaim n (opm bd) (nI dp) u) := by
  intro n
  induction n with
  | zero => intro bd dp cnt br ne ts u hn hcnt; omega
  | succ n ih =>
    intro bd dp cnt br ne ts u hn hcnt hdp hbr hR hc hb hne
    show CK cs u cnt (sp_cl (n + 1) bd dp cnt br ne ts) (f_R_readClaim1 (f_R_readClaim n) (opm bd) (nI dp) u)
    unfold f_R_readClaim1
    rw [ob_s (sC_full hcnt hc)]
    by_cases hf : 20 ≤ cnt
    · rw [decide_eq_true hf, if_neg (show ¬ bI true = 0 by decide), bz0, gd_t, zc_full hf]
      exact CK_f hR (ge_rf _ _)
    rw [decide_eq_false hf, if_pos (show bI false = 0 from rfl), ob_s (sR_mark hR)]
    cases ts with
    | nil =>
      rw [show nI (([] : List Nat).headD 0) = nI 0 from rfl, if_neg (show ¬ nI 0 = 33 by decide), if_neg (show ¬ nI 0 = 38 by decide), if_neg (show ¬ nI 0 = 47 by decide), if_neg (show ¬ nI 0 = 62 by decide), if_neg (show ¬ nI 0 = 65 by decide), if_neg (show ¬ nI 0 = 69 by decide), if_neg (show ¬ nI 0 = 91 by decide), bz0, gd_t, zc_nil hf]
      exact CK_f hR (ge_rf _ _)
    | cons c r =>
      have hh : c < 127 := RK_hd hR
      rw [show (c :: r).headD 0 = c from rfl]
      by_cases h33 : c = 33
      · subst h33
        rw [if_pos (show nI 33 = 33 from rfl)]
        obtain ⟨u1, e1, R1, b1, n1, c1, k1, A1, G1⟩ := sR_begin hR (show cnt < 20 by omega) hc
        obtain ⟨u2, e2, R2, G2, T2⟩ := ih bd dp (cnt + 1) br ne r u1 (by omega) (by omega) hdp hbr R1 c1 (b1.trans hb) (n1.trans hne)
        rw [ob_s e1, ob_s e2, bz_bI, gd_t, zc_not hf]
        refine ⟨u2, rfl, R2, ge_tr G1 (ge_mono G2 (by omega)), fun h => ?_⟩
        obtain ⟨c2, b2, n2, T2⟩ := T2 h
        refine ⟨?_, b2, n2, TB_un (NK_ge (nd0_NK (a := 0) k1 (fun z => by cases z) (by omega) A1) G2 (by omega)) rfl T2⟩
        rw [c2]
        congr 1
        show _ = cnt + (_ + 1)
        omega
      · rw [if_neg (ne_l (x := 33) (k := 33) rfl (by omega) (by omega) h33)]
        by_cases h38 : c = 38
        · subst h38
          rw [if_pos (show nI 38 = 38 from rfl)]
          exact CK_w (sR_pair ih hn hf hdp hbr rfl hR hc hb hne)
        · rw [if_neg (ne_l (x := 38) (k := 38) rfl (by omega) (by omega) h38)]
          by_cases h47 : c = 47
          · subst h47
            rw [if_pos (show nI 47 = 47 from rfl)]
            exact CK_w (sR_pair ih hn hf hdp hbr rfl hR hc hb hne)
          · rw [if_neg (ne_l (x := 47) (k := 47) rfl (by omega) (by omega) h47)]
            by_cases h62 : c = 62
            · subst h62
              rw [if_pos (show nI 62 = 62 from rfl)]
              exact CK_w (sR_pair ih hn hf hdp hbr rfl hR hc hb hne)
            · rw [if_neg (ne_l (x := 62) (k := 62) rfl (by omega) (by omega) h62)]
              by_cases h65 : c = 65
              · subst h65
                rw [if_pos (show nI 65 = 65 from rfl)]
                exact CK_w (sR_quan ih hn hf hdp hbr rfl hR hc hb hne)
              · rw [if_neg (ne_l (x := 65) (k := 65) rfl (by omega) (by omega) h65)]
                by_cases h69 : c = 69
                · subst h69
                  rw [if_pos (show nI 69 = 69 from rfl)]
                  exact CK_w (sR_quan ih hn hf hdp hbr rfl hR hc hb hne)
                · rw [if_neg (ne_l (x := 69) (k := 69) rfl (by omega) (by omega) h69)]
                  by_cases h91 : c = 91
                  · subst h91
                    rw [if_pos (show nI 91 = 91 from rfl)]
                    by_cases h8 : 8 ≤ br
                    · have e : f_R_readBracket (opm bd) u = some (0, u) := by
                        unfold f_R_readBracket
                        rw [if_neg (show ¬ k_br u < 8 by rw [hb]; exact nI_nlt (b := 8) h8 (by omega)), bz0, gd_t]
                      rw [ob_s e, bz0, gd_t, zc_b8 hf h8]
                      exact CK_f hR (ge_rf _ _)
                    · obtain ⟨u1, e1, R1, G1, c1, b1, n1, K1⟩ := sR_brk (bd := bd) hR (show cnt < 20 by omega) hc hb (by omega)
                      rw [ob_s e1, bz_bI, gd_t, zc_b hf h8]
                      refine ⟨u1, rfl, R1, G1, fun h => ⟨c1, b1, n1.trans hne, ?_⟩⟩
                      obtain ⟨k1, k2, k3⟩ := K1 h
                      obtain ⟨-, hp, hu⟩ := bok_nok (sp_brk_ok h)
                      have hq := (kun_f hu).2
                      intro i x hx
                      have hi : i = 0 := by
                        have := (List.getElem?_eq_some_iff.mp hx).1
                        simpa using this
                      subst hi
                      have : (sp_brk bd r).2.2 = x := by simpa using hx
                      subst this
                      exact ⟨⟨k1, fun z => (by rw [hq] at z; cases z), k2, k3⟩, fun z => (by rw [hp] at z; cases z)⟩
                  · rw [if_neg (ne_l (x := 91) (k := 91) rfl (by omega) (by omega) h91), bz0, gd_t, zc_x hf h91 h33 (by
                      cases hp : k_pr c
                      · rfl
                      · rcases kp_or hp with e | e | e <;> omega) (by
                      cases hq : k_qu c
                      · rfl
                      · rcases kq_or hq with e | e <;> omega)]
                    exact CK_f hR (ge_rf _ _)
