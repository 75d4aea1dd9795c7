/-- the node x is at i -/
def NK (u : KS) (i : Nat) (x : Nd) : Prop := k_kd u i = nI (n_k x) ∧ (k_qu (n_k x) = true → k_vr u i = nI (n_a x)) ∧ (n_k x = 58 → k_dv u i = nI (n_a x)) ∧ AK u i x.2.2
/-- the nodes N are at s and on -/
def TB (u : KS) (s : Nat) (N : List Nd) : Prop := ∀ i x, N[i]? = some x → NK u (s + i) x ∧ (k_pr (n_k x) = true → k_sc u (s + i) = nI (s + i + 1 + ln N (i + 1)))
theorem NK_ge {u u' : KS} {i t : Nat} {x : Nd} (h : NK u i x) (g : ge t u u') (hi : i < t) : NK u' i x := by
  obtain ⟨h1, h2, h3, h4, h5, h6⟩ := h
  obtain ⟨a1, a2, a3, a4, a5, a6⟩ := g.2.2.1 i hi
  exact ⟨a1.trans h1, fun z => a3.trans (h2 z), fun z => a4.trans (h3 z), a5.trans h4, fun v hv => (g.2.2.2 _ (by omega)).trans (h5 v hv), a6.trans h6⟩
theorem TB_ge {u u' : KS} {s : Nat} {N : List Nd} (h : TB u s N) (g : ge (s + N.length) u u') : TB u' s N := by
  intro i x hx
  have hi := (List.getElem?_eq_some_iff.mp hx).1
  obtain ⟨h1, h2⟩ := h i x hx
  exact ⟨NK_ge h1 g (by omega), fun z => (g.2.2.1 (s + i) (by omega)).2.1.trans (h2 z)⟩
theorem TB_un {u : KS} {s : Nat} {x : Nd} {N : List Nd} (hx : NK u s x) (hp : k_pr (n_k x) = false) (h : TB u (s + 1) N) : TB u s (x :: N) := by
  intro i y hy
  cases i with
  | zero =>
    have : x = y := by simpa using hy
    subst this
    exact ⟨hx, fun z => by rw [hp] at z; cases z⟩
  | succ i =>
    have hy : N[i]? = some y := hy
    have g := h i y hy
    rw [show s + 1 + i = s + (i + 1) by omega] at g
    exact g
theorem wf_1 {N : List Nd} {i : Nat} {x : Nd} (hx : N[i]? = some x) (hp : k_pr (n_k x) = true) (h : wf N i = true) : wf N (i + 1) = true ∧ wf N (i + 1 + ln N (i + 1)) = true := by
  rw [wf_eq hx] at h
  unfold g_wf at h
  rw [if_pos hp, Bool.and_eq_true] at h
  exact h
theorem wf_2 {N : List Nd} {i : Nat} {x : Nd} (hx : N[i]? = some x) (hp : k_pr (n_k x) = false) (hu : k_un (n_k x) = true) (h : wf N i = true) : wf N (i + 1) = true := by
  rw [wf_eq hx] at h
  unfold g_wf at h
  rw [if_neg (by rw [hp]; decide), if_pos hu] at h
  exact h
theorem ln_appr (P S : List Nd) (i : Nat) : ln (P ++ S) (P.length + i) = ln S i := congrArg Prod.fst (pat_appr (fun _ _ _ => ()) () P S i)
theorem TB_pr {u : KS} {s : Nat} {x : Nd} {P S : List Nd} (hx : NK u s x) (hsc : k_sc u s = nI (s + 1 + P.length)) (oP : one P) (hP : TB u (s + 1) P) (hS : TB u (s + 1 + P.length) S) : TB u s (x :: (P ++ S)) := by
  intro i y hy
  cases i with
  | zero =>
    have : x = y := by simpa using hy
    subst this
    refine ⟨hx, fun _ => ?_⟩
    rw [show ln (x :: (P ++ S)) (0 + 1) = ln (P ++ S) 0 from rfl, ln_app (oP.1 0 oP.2.2), oP.2.1]
    exact hsc
  | succ i =>
    have hy : (P ++ S)[i]? = some y := hy
    show NK u (s + (i + 1)) y ∧ (k_pr (n_k y) = true → k_sc u (s + (i + 1)) = nI (s + (i + 1) + 1 + ln (P ++ S) (i + 1)))
    rcases Nat.lt_or_ge i P.length with z | z
    · rw [List.getElem?_append_left z] at hy
      obtain ⟨g1, g2⟩ := hP i y hy
      rw [show s + 1 + i = s + (i + 1) by omega] at g1 g2
      refine ⟨g1, fun hp => ?_⟩
      rw [ln_app (wf_1 hy hp (oP.1 i z)).1]
      exact g2 hp
    · rw [List.getElem?_append_right z] at hy
      obtain ⟨g1, g2⟩ := hS (i - P.length) y hy
      rw [show s + 1 + P.length + (i - P.length) = s + (i + 1) by omega] at g1 g2
      refine ⟨g1, fun hp => ?_⟩
      have e := ln_appr P S (i - P.length + 1)
      rw [show P.length + (i - P.length + 1) = i + 1 by omega] at e
      rw [e]
      exact g2 hp
/-- what the class's reading of a claim has come to -/
def CK (cs : List Nat) (u : KS) (cnt : Nat) (R : Rs) (o : Option (Int32 × KS)) : Prop := ∃ u', o = some (bI R.1, u') ∧ RK u' cs R.2.1 ∧ ge cnt u u' ∧ (R.1 = true → k_cn u' = nI (cnt + R.2.2.1.length) ∧ k_br u' = nI R.2.2.2.1 ∧ k_ne u' = bI R.2.2.2.2 ∧ TB u' cnt R.2.2.1)
theorem CK_w {cs : List Nat} {u : KS} {cnt : Nat} {R : Rs} {o : Option (Int32 × KS)} (h : CK cs u cnt R o) : CK cs u cnt R (ob o fun r w => gd (bz r) (some (r, w))) := by
  obtain ⟨u', e, g⟩ := h
  exact ⟨u', by rw [ob_s e, bz_bI, gd_t], g⟩
theorem CK_f {cs : List Nat} {u u' : KS} {cnt : Nat} {t : List Nat} {R : List Nd × Nat × Bool} (h1 : RK u' cs t) (h2 : ge cnt u u') : CK cs u cnt (false, t, R) (some (0, u')) := ⟨u', rfl, h1, h2, fun h => (by cases h)⟩
theorem nd0_NK {u : KS} {i c a : Nat} (h1 : k_kd u i = nI c) (h2 : k_qu c = true → k_vr u i = nI a) (h3 : c ≠ 58) (h4 : AK u i ac0) : NK u i (nd0 c a) := ⟨h1, h2, fun z => absurd z h3, h4⟩
theorem sR_pair {cs : List Nat} {n : Nat} (ih : ∀ (bd : Nat → Bool) (dp cnt br : Nat) (ne : Bool) (ts : List Nat) (u : KS), 21 ≤ n + cnt → cnt ≤ 20 → dp ≤ 2 → br ≤ 8 → RK u cs ts → k_cn u = nI cnt → k_br u = nI br → k_ne u = bI ne → CK cs u cnt (sp_cl n bd dp cnt br ne ts) (f_R_readClaim n (opm bd) (nI dp) u))
    {bd : Nat → Bool} {dp cnt br c : Nat} {ne : Bool} {r : List Nat} {u : KS} (hn : 21 ≤ n + 1 + cnt) (hf : ¬ 20 ≤ cnt) (hdp : dp ≤ 2) (hbr : br ≤ 8) (hp : k_pr c = true) (hR : RK u cs (c :: r)) (hc : k_cn u = nI cnt) (hb : k_br u = nI br) (hne : k_ne u = bI ne) :
    CK cs u cnt (sp_cl (n + 1) bd dp cnt br ne (c :: r)) (f_R_readPair (f_R_readClaim n) (opm bd) (nI dp) u) := by
  unfold f_R_readPair
  obtain ⟨u1, e1, R1, b1, n1, c1, k1, A1, G1⟩ := sR_begin hR (show cnt < 20 by omega) hc
  obtain ⟨u2, e2, R2, G2, T2⟩ := ih bd dp (cnt + 1) br ne r u1 (by omega) (by omega) hdp hbr R1 c1 (b1.trans hb) (n1.trans hne)
  have ok2 := sp_cl_ok n bd dp (cnt + 1) br ne r hdp hbr
  rw [ob_s e1, ob_s e2]
  cases h1 : (sp_cl n bd dp (cnt + 1) br ne r).1
  · rw [zc_prF hf hp h1, if_pos (show bI false = 0 from rfl), bz0, gd_t]
    exact ⟨u2, by rw [h1]; rfl, R2, ge_tr G1 (ge_mono G2 (by omega)), fun h => by rw [h1] at h; cases h⟩
  · rw [zc_prT hf hp h1, if_neg (show ¬ bI true = 0 by decide)]
    obtain ⟨c2, b2, n2, T2⟩ := T2 h1
    obtain ⟨o1, o2, o3, o4, o5, o6, o7⟩ := ok2 h1
    generalize sp_cl n bd dp (cnt + 1) br ne r = P at R2 c2 b2 n2 T2 o1 o2 o6 ⊢
    rw [ob_s (sC_putS (show cnt < cnt + 1 + P.2.2.1.length by omega) o2 c2)]
    have R3 : RK (k_p_sc (upd (k_sc u2) cnt (k_cn u2)) u2) cs P.2.1 := RK_tx R2 ⟨rfl, rfl, rfl, rfl, rfl, rfl⟩ rfl
    have G3 : ge cnt u2 (k_p_sc (upd (k_sc u2) cnt (k_cn u2)) u2) := ge_sc (Nat.le_refl _) _ _
    obtain ⟨u4, e4, R4, G4, T4⟩ := ih bd dp (cnt + 1 + P.2.2.1.length) P.2.2.2.1 P.2.2.2.2 P.2.1 (k_p_sc (upd (k_sc u2) cnt (k_cn u2)) u2) (by omega) o2 hdp o6 R3 c2 b2 n2
    rw [ob_s e4, bz_bI, gd_t]
    refine ⟨u4, rfl, R4, ge_tr G1 (ge_tr (ge_mono G2 (by omega)) (ge_tr G3 (ge_mono G4 (by omega)))), fun h => ?_⟩
    obtain ⟨c5, b5, n5, T5⟩ := T4 h
    have K3 : NK (k_p_sc (upd (k_sc u2) cnt (k_cn u2)) u2) cnt (nd0 c 0) := by
      have k2 : NK u2 cnt (nd0 c 0) := NK_ge (nd0_NK (a := 0) k1 (fun z => by rcases kp_or hp with e | e | e <;> subst e <;> cases z) (by rcases kp_or hp with e | e | e <;> omega) A1) G2 (by omega)
      exact k2
    have S3 : k_sc (k_p_sc (upd (k_sc u2) cnt (k_cn u2)) u2) cnt = nI (cnt + 1 + P.2.2.1.length) := (pk_us (f := k_sc u2)).trans c2
    have T3 : TB (k_p_sc (upd (k_sc u2) cnt (k_cn u2)) u2) (cnt + 1) P.2.2.1 := by
      intro i x hx
      obtain ⟨g1, g2⟩ := T2 i x hx
      exact ⟨g1, fun z => (pk_un (show cnt + 1 + i ≠ cnt by omega)).trans (g2 z)⟩
    have S5 : k_sc u4 cnt = nI (cnt + 1 + P.2.2.1.length) := (G4.2.2.1 cnt (by omega)).2.1.trans S3
    refine ⟨?_, b5, n5, TB_pr (NK_ge K3 G4 (by omega)) S5 o1 (TB_ge T3 G4) T5⟩
    rw [c5]
    congr 1
    show _ = cnt + ((P.2.2.1 ++ _).length + 1)
    rw [List.length_append]
    omega
