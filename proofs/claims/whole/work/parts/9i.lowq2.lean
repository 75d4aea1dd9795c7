/-- where the reference looks -/
def cen (N : List Nd) (w : Nat → Int32) (e : Ev) (q a j : Nat) (c : Int) : Prop := (j = q ∧ c = 0) ∨ (q < j ∧ w j = nI q ∧ ∃ y, N[j]? = some y ∧ k_pr (n_k y) = false ∧ k_un (n_k y) = false ∧ n_c y a ≠ 0 ∧ c = fl_ (n_c y a) (n_v y (ev1 a 0 e)))
theorem sM_lowQ {u0 : MS} {N : List Nd} {q : Nat} {x : Nd} {e : Ev} (hE : ET u0 N) (oN : one N) (hN : ∀ n ∈ N, nok n) (hx : N[q]? = some x) (hq : k_qu (n_k x) = true) (hqf : qf N (q + 1) = true) (he : ∀ v, v < 3 → v ≠ n_a x → fv N (q + 1) v = true → m_nu u0 v = zI (e v) ∧ -1300 ≤ e v ∧ e v ≤ 1300) : ∃ u', f_M_lowQuantifier (nI q) u0 = some (bI (dS (sem N q e)), u') ∧ co u0 u' ∧ (∀ v, v < 3 → m_nu u' v = m_nu u0 v) ∧ mh u0 u' := by
  have hqi := (List.getElem?_eq_some_iff.mp hx).1
  have h20 := hE.2.1
  have k1 := kq_33 hq
  have hwq := oN.1 q hqi
  have hw1 := wf_2 hx k1.2.1 k1.2.2 hwq
  have hleq := ln_le (q + 1) hw1
  have nx := List.mem_of_getElem? hx
  have ha : n_a x < 3 := (hN x nx).2.2 hq
  obtain ⟨sq, fq, qq, dq_⟩ := n_qu hx hq
  obtain ⟨K1, K2, K3, K4⟩ := (hE.2.2.2 q x hx).1
  have m3 := (hE.2.2.2 q x hx).2.2.2 hq
  rw [Nat.zero_add] at m3
  generalize hae : n_a x = a at *
  let g : Int → Bool := fun w => dS (sem N (q + 1) (ev1 a w e))
  let S : MS → Prop := fun u => co u0 u ∧ (∀ v, v < 3 → v ≠ a → m_nu u v = m_nu u0 v) ∧ mh u0 u
  have T : ∀ u, S u → ET u N := fun u h => ET_tb hE (co_tb h.1)
  have body : ∀ j, j < N.length → m_ow u0 j = nI q → q + 1 ≤ j ∧ qf N j = true ∧ ∀ v, fv N j v = true → fv N (q + 1) v = true := by
    intro j hj ho
    obtain ⟨z1, z2⟩ := ow_root hE oN hj (by omega) ho
    obtain ⟨c, d⟩ := qf_in hN (q + 1) hw1 hw1 hqf j (by omega) (by omega)
    exact ⟨by omega, c, d⟩
  have low : ∀ (w : Int) (u : MS), -15000 ≤ w → w ≤ 15000 → S u → ∃ u', f_M_lowHolds (nI q) (m_p_nu (upd (m_nu u) a (zI w)) u) = some (bI (g w), u') ∧ S u' := by
    intro w u w1 w2 hS
    have hS1 : co u0 (m_p_nu (upd (m_nu u) a (zI w)) u) := co_tr hS.1 (co_p_nu _ _)
    obtain ⟨u', e1, c1, n1, h1, h2⟩ := sM_lowHolds (e := ev1 a w e) (ET_tb hE (co_tb hS1)) oN hN hx hq hqf (fun v hv hf => by
      show upd (m_nu u) a (zI w) v = zI (ev1 a w e v) ∧ _
      by_cases hva : v = a
      · subst hva
        rw [pk_us, ev1_s]
        exact ⟨rfl, by omega, by omega⟩
      · rw [pk_un hva, ev1_n hva, hS.2.1 v hv hva]
        have := he v hv hva hf
        exact ⟨this.1, by omega, by omega⟩)
    refine ⟨u', e1, co_tr hS1 c1, fun v hv hva => ?_, h1.trans hS.2.2.1, h2.trans hS.2.2.2⟩
    rw [n1]
    show upd (m_nu u) a (zI w) v = _
    rw [pk_un hva]
    exact hS.2.1 v hv hva
  have outer : ∀ (wt : Bool) (v4 : Int32) (m j n : Nat) (fl : Bool) (u : MS), j + m = N.length → m < n → q ≤ j → S u → ∃ u' fl', f_M_lowQuantifier_L37 n (nI q) (bI wt) (nI a) v4 (bI fl) (nI j) u = f_M_lowQuantifier_J197 (bI wt) (nI a) v4 (bI fl') u' ∧ S u' ∧ (fl' = true → fl = true ∨ ∃ w, g w = wt) ∧ (fl = true → fl' = true) ∧ (∀ j' c, j ≤ j' → j' < N.length → cen N (m_ow u0) e q a j' c → (∃ w, c - 7 ≤ w ∧ w ≤ c + 7 ∧ g w = wt) → fl' = true) := by
    intro wt v4 m
    induction m with
    | zero =>
      intro j n fl u hj hn hqj hS
      obtain ⟨n, rfl⟩ : ∃ k, n = k + 1 := ⟨n - 1, by omega⟩
      rw [q_M_lowQuantifier_L37, if_pos (show m_cl u ≤ nI j by rw [(T u hS).1]; exact nI_le (by omega) (by omega))]
      exact ⟨u, fl, rfl, hS, fun h => Or.inl h, fun h => h, fun j' c h1 h2 => by omega⟩
    | succ m ih =>
      intro j n fl u hj hn hqj hS
      obtain ⟨n, rfl⟩ : ∃ k, n = k + 1 := ⟨n - 1, by omega⟩
      rw [q_M_lowQuantifier_L37, if_neg (show ¬ m_cl u ≤ nI j by rw [(T u hS).1]; exact nI_ge (by omega) (by omega))]
      cases fl
      · rw [if_pos (show bI false = 0 from rfl)]
        have step : ∀ (act : Bool) (c : Int), -10000 ≤ c → c ≤ 10000 → (∀ c', cen N (m_ow u0) e q a j c' → c' = c ∧ (act = true ∨ j = q)) → ∃ u' fl', f_M_lowQuantifier_L135 (f_M_lowQuantifier_L37 n) 4096 (nI q) (bI wt) (nI a) v4 (bI false) (nI j) (bI act) (zI c) (-7) u = f_M_lowQuantifier_J197 (bI wt) (nI a) v4 (bI fl') u' ∧ S u' ∧ (fl' = true → false = true ∨ ∃ w, g w = wt) ∧ (false = true → fl' = true) ∧ (∀ j' c, j ≤ j' → j' < N.length → cen N (m_ow u0) e q a j' c → (∃ w, c - 7 ≤ w ∧ w ≤ c + 7 ∧ g w = wt) → fl' = true) := by
          intro act c c1 c2 hc
          obtain ⟨u1, fl1, e1, S1, h1⟩ := sM_135 (q := q) (a := a) (j := j) (wt := wt) (act := act) (v4 := v4) (c := c) (S := S) (g := g) (k37 := f_M_lowQuantifier_L37 n) ha (by omega) (by omega) c1 c2 low 15 4096 false u (by omega) (by omega) hS
          have e1 : f_M_lowQuantifier_L135 (f_M_lowQuantifier_L37 n) 4096 (nI q) (bI wt) (nI a) v4 (bI false) (nI j) (bI act) (zI c) (-7) u = f_M_lowQuantifier_L37 n (nI q) (bI wt) (nI a) v4 (bI fl1) (nI (j + 1)) u1 := e1
          obtain ⟨u2, fl2, e2, S2, a2, b2, c2'⟩ := ih (j + 1) n fl1 u1 (by omega) (by omega) (by omega) S1
          refine ⟨u2, fl2, e1.trans e2, S2, fun h => ?_, fun h => (by cases h), fun j' c' y1 y2 y3 y4 => ?_⟩
          · rcases a2 h with z | z
            · rcases h1.mp z with z | ⟨-, w, -, -, z⟩
              · exact Or.inl z
              · exact Or.inr ⟨w, z⟩
            · exact Or.inr z
          · by_cases hjj : j' = j
            · subst hjj
              obtain ⟨z1, z2⟩ := hc c' y3
              subst z1
              obtain ⟨w, w1, w2, w3⟩ := y4
              exact b2 (h1.mpr (Or.inr ⟨z2, w, by omega, w2, w3⟩))
            · exact c2' j' c' (by omega) y2 y3 y4
        have inact : (∀ c', cen N (m_ow u0) e q a j c' → c' = 0 ∧ j = q) → ∃ u' fl', f_M_lowQuantifier_J96 (f_M_lowQuantifier_L37 n) (nI q) (bI wt) (nI a) v4 (bI false) (nI j) 0 u = f_M_lowQuantifier_J197 (bI wt) (nI a) v4 (bI fl') u' ∧ S u' ∧ (fl' = true → false = true ∨ ∃ w, g w = wt) ∧ (false = true → fl' = true) ∧ (∀ j' c, j ≤ j' → j' < N.length → cen N (m_ow u0) e q a j' c → (∃ w, c - 7 ≤ w ∧ w ≤ c + 7 ∧ g w = wt) → fl' = true) := by
          intro hc
          unfold f_M_lowQuantifier_J96
          rw [if_pos (show (0 : Int32) = 0 from rfl)]
          exact step false 0 (by omega) (by omega) (fun c' z => ⟨(hc c' z).1, Or.inr (hc c' z).2⟩)
        by_cases hjq : j = q
        · rw [if_pos (show nI j ≤ nI q from nI_le (by omega) (by omega))]
          refine inact (fun c' z => ?_)
          rcases z with ⟨z1, z2⟩ | ⟨z1, -⟩
          · exact ⟨z2, z1⟩
          · omega
        · obtain ⟨y, hy⟩ : ∃ y, N[j]? = some y := ⟨_, List.getElem?_eq_getElem (by omega)⟩
          have ny := List.mem_of_getElem? hy
          rw [if_neg (show ¬ nI j ≤ nI q from nI_ge (by omega) (by omega)), gd_s (inb_nI (by omega) (by omega)), nI_clamp (by omega), cq_ow hS.1]
          by_cases ho : m_ow u0 j = nI q
          · rw [if_pos ho, ob_s (sM_isB (T u hS) hy)]
            by_cases h6 : 6 ≤ kc (n_k y)
            · have hbr : k_pr (n_k y) = false ∧ k_un (n_k y) = false ∧ brk y := by
                rcases kd_cases (hN y ny) with hk | hk | hk | hk
                · rw [hk] at h6; exact absurd h6 (by decide)
                · rcases kp_or hk with z | z | z <;> rw [z] at h6 <;> exact absurd h6 (by decide)
                · rcases kq_or hk with z | z <;> rw [z] at h6 <;> exact absurd h6 (by decide)
                · exact hk
              obtain ⟨hp, hu, hb⟩ := hbr
              obtain ⟨z1, z2, z3, z4⟩ := n_br hy hp hu hb
              have hsu := (((T u hS).2.2.2 j y hy).1.2.2.2 hp hu).1 a ha
              have hsm := hb.2.2.1 a ha
              have hsm' := hsm
              unfold sm2 at hsm'
              rw [decide_eq_true h6, if_neg (show ¬ bI true = 0 by decide), n4, gd_s (inb_nI (by omega) (by omega)), nI_clamp (by omega), hsu]
              by_cases h0 : n_c y a = 0
              · rw [if_pos (show zI (n_c y a) = 0 by rw [h0]; rfl)]
                refine inact (fun c' z => ?_)
                rcases z with ⟨z1, z2⟩ | ⟨-, -, y', hy', -, -, h0', -⟩
                · exact ⟨z2, z1⟩
                · rw [hy] at hy'
                  have : y = y' := by injection hy'
                  rw [← this] at h0'
                  exact absurd h0 h0'
              · rw [if_neg (fun z => h0 ((zI_z (by omega) (by omega)).mp z))]
                unfold f_M_lowQuantifier_J96
                have bnd : ∀ v, v < 3 → v ≠ a → n_c y v ≠ 0 → m_nu u v = zI (e v) ∧ -1300 ≤ e v ∧ e v ≤ 1300 := by
                  intro v hv hva hne
                  rw [hS.2.1 v hv hva]
                  exact he v hv hva ((body j (by omega) ho).2.2 v ((z2 v).trans ((hN y ny).1 v hv hne)))
                have er := sM_rest (a2 := nI a) (e := ev1 a 0 e) (T u hS) hy hp hu (fun v hv z => by
                    rw [nI_eq (by omega) (by omega)] at z
                    rw [z, ev1_s]) (fun v hv z hne => by
                    have hva : v ≠ a := fun y => z (by rw [y])
                    rw [ev1_n hva]
                    exact (bnd v hv hva hne).1)
                have bd := n_v_bd hb (e := ev1 a 0 e) (B := 1300) (by omega) (fun v hv hne => by
                    by_cases hva : v = a
                    · rw [hva, ev1_s]; omega
                    · rw [ev1_n hva]; exact (bnd v hv hva hne).2)
                have fb_ := fl_bd (r := n_v y (ev1 a 0 e)) (B := 7815) hsm h0 (by omega) (by omega) (by omega)
                rw [if_neg (show ¬ (1 : Int32) = 0 by decide), ob_s er, n4, gd_s (inb_nI (by omega) (by omega)), nI_clamp (by omega), hsu, zI_neg, ob_s (sM_floor hsm h0 (by omega) (by omega) u)]
                have st := step true (fl_ (n_c y a) (n_v y (ev1 a 0 e))) (by omega) (by omega) (fun c' z => by
                  rcases z with ⟨z1, z2⟩ | ⟨-, -, y', hy', -, -, h0', hc'⟩
                  · exact absurd z1 hjq
                  · rw [hy] at hy'
                    have : y = y' := by injection hy'
                    rw [← this] at hc'
                    exact ⟨hc', Or.inl rfl⟩)
                rw [show bI true = 1 from rfl] at st
                exact st
            · rw [decide_eq_false h6, if_pos (show bI false = 0 from rfl)]
              refine inact (fun c' z => ?_)
              rcases z with ⟨z1, z2⟩ | ⟨-, -, y', hy', hp', hu', h0', -⟩
              · exact ⟨z2, z1⟩
              · rw [hy] at hy'
                have : y = y' := by injection hy'
                rw [← this] at hp' hu'
                have hb := (hN y ny).2.1 hp' hu'
                rcases kc_br hb with ⟨_, z⟩ | ⟨_, z⟩ | ⟨_, z⟩ <;> omega
          · rw [if_neg ho]
            refine inact (fun c' z => ?_)
            rcases z with ⟨z1, z2⟩ | ⟨-, ho', -⟩
            · exact ⟨z2, z1⟩
            · exact absurd ho' ho
      · rw [if_neg (show ¬ bI true = 0 by decide)]
        exact ⟨u, true, rfl, hS, fun _ => Or.inl rfl, fun _ => rfl, fun _ _ _ _ _ _ => rfl⟩
  have found : ∀ wt : Bool, (∃ w, g w = wt) → ∃ j' c, q ≤ j' ∧ j' < N.length ∧ cen N (m_ow u0) e q a j' c ∧ ∃ w, c - 7 ≤ w ∧ w ≤ c + 7 ∧ g w = wt := by
    rintro wt ⟨w0, hw0⟩
    obtain ⟨w', hw', hc⟩ := ln_near (φ := fun w => g w = wt) ((ats N (q + 1)).map fun n => (n_k n, dv2 n, n_c n a, n_v n (ev1 a 0 e))) (fun r => fl_ r.2.2.1 r.2.2.2)
      (fun r hr => by
        obtain ⟨n, hn, rfl⟩ := List.mem_map.mp hr
        exact dv2_ok (ats_fv hN (q + 1) hw1 hqf n hn).2.1)
      (fun r hr => by
        obtain ⟨n, hn, rfl⟩ := List.mem_map.mp hr
        exact (ats_fv hN (q + 1) hw1 hqf n hn).2.1.2.2.1 a ha)
      (fun r hr h0 => by
        obtain ⟨n, hn, rfl⟩ := List.mem_map.mp hr
        exact fl_ok ((ats_fv hN (q + 1) hw1 hqf n hn).2.1.2.2.1 a ha) h0)
      (fun w w' h => by
        have hs : sem N (q + 1) (ev1 a w e) ↔ sem N (q + 1) (ev1 a w' e) := sem_ats (q + 1) hw1 hqf _ _ (fun n hn => by
          obtain ⟨a1, a2, a3⟩ := ats_fv hN (q + 1) hw1 hqf n hn
          have gg := h _ (List.mem_map.mpr ⟨n, hn, rfl⟩)
          have l1 := n_v_lin (x := n) ha 0 w e
          have l2 := n_v_lin (x := n) ha 0 w' e
          rw [Int.zero_add] at l1 l2
          rw [n_h_dv a2, n_h_dv a2, l1, l2, Int.add_comm, Int.add_comm (n_v n (ev1 a 0 e)) (n_c n a * w')]
          exact gg)
        show dS _ = wt ↔ dS _ = wt
        rw [dS_c hs]) w0.natAbs w0 (Nat.le_refl _) hw0
    rcases hc with hc | ⟨r, hr, h0, c1, c2⟩
    · exact ⟨q, 0, Nat.le_refl _, hqi, Or.inl ⟨rfl, rfl⟩, w', by omega, by omega, hw'⟩
    · obtain ⟨n, hn, rfl⟩ := List.mem_map.mp hr
      obtain ⟨j, j1, j2, j3, j4, j5⟩ := at_idx hN (q + 1) hw1 hw1 hqf n hn
      have hoj : m_ow u0 j = nI q := by
        rcases ow_in (fun i x hx => (hE.2.2.2 i x hx).2) (q + 1) hw1 hw1 j j1 j2 with z | ⟨q', y, g1, g2, g3, g4, g5, g6⟩
        · rw [z, m3]
        · have := (qf_in hN (q + 1) hw1 hw1 hqf q' g1 (by omega)).1
          rw [(n_qu g3 g4).2.2.1] at this
          cases this
      dsimp only at c1 c2 h0
      exact ⟨j, _, by omega, by omega, Or.inr ⟨by omega, hoj, n, j3, j4, j5, h0, rfl⟩, w', by omega, by omega, hw'⟩
  have main : ∀ wt : Bool, ∃ u', f_M_lowQuantifier_J15 (nI q) (bI wt) u0 = some (bI (decide ((dS (∃ w, g w = wt)) = wt)), u') ∧ co u0 u' ∧ (∀ v, v < 3 → m_nu u' v = m_nu u0 v) ∧ mh u0 u' := by
    intro wt
    unfold f_M_lowQuantifier_J15
    rw [gd_s (inb_nI (by omega) (by omega)), lt_q, nI_clamp (n := q) (by omega), K2 hq, gd_s (inb_nI (by omega) (by omega)), lt_q, nI_clamp (n := a) (by omega)]
    obtain ⟨u1, fl, e1, S1, a1, b1, c1⟩ := outer wt (m_nu u0 a) (N.length - q) q 4096 false u0 (by omega) (by omega) (Nat.le_refl _) ⟨co_rf u0, fun _ _ _ => rfl, rfl, rfl⟩
    rw [show bI false = 0 from rfl] at e1
    rw [e1]
    have hfl : fl = dS (∃ w, g w = wt) := by
      refine dS_e ⟨fun h => ?_, fun h => ?_⟩
      · rcases a1 h with z | z
        · cases z
        · exact z
      · obtain ⟨j', c, z1, z2, z3, z4⟩ := found wt h
        exact c1 j' c z1 z2 z3 z4
    unfold f_M_lowQuantifier_J197
    rw [gd_s (inb_nI (by omega) (by omega)), lt_q, nI_clamp (n := a) (by omega), bz0, bz1, gd_t, gd_t]
    have fin : co u0 (m_p_nu (upd (m_nu u1) a (m_nu u0 a)) u1) ∧ (∀ v, v < 3 → m_nu (m_p_nu (upd (m_nu u1) a (m_nu u0 a)) u1) v = m_nu u0 v) ∧ mh u0 (m_p_nu (upd (m_nu u1) a (m_nu u0 a)) u1) := by
      refine ⟨co_tr S1.1 (co_p_nu _ _), fun v hv => ?_, S1.2.2⟩
      show upd (m_nu u1) a (m_nu u0 a) v = _
      by_cases hva : v = a
      · subst hva; exact pk_us
      · rw [pk_un hva]; exact S1.2.1 v hv hva
    by_cases hw : fl = wt
    · rw [if_pos (show bI fl = bI wt by rw [hw]), ← hfl, decide_eq_true hw]
      exact ⟨_, rfl, fin.1, fin.2⟩
    · rw [if_neg (fun z => hw (bI_inj.mp z)), ← hfl, decide_eq_false hw]
      exact ⟨_, rfl, fin.1, fin.2⟩
  unfold f_M_lowQuantifier
  rw [gd_s (inb_nI (by omega) (by omega)), nI_clamp (by omega), K1]
  rcases kq_or hq with k | k
  · rw [k, if_pos (show nI (kc 69) = 4 from rfl)]
    obtain ⟨u', e1, c1, n1⟩ := main true
    rw [show bI true = 1 from rfl] at e1
    refine ⟨u', ?_, c1, n1⟩
    rw [e1]
    congr 3
    refine dS_e ?_
    rw [decide_eq_true_eq, dS_t, sq e, if_neg (show ¬ n_k x = 65 by omega)]
    constructor
    · rintro ⟨w, h⟩; exact ⟨w, dS_t.mp h⟩
    · rintro ⟨w, h⟩; exact ⟨w, dS_t.mpr h⟩
  · rw [k, if_neg (show ¬ nI (kc 65) = 4 by decide)]
    obtain ⟨u', e1, c1, n1⟩ := main false
    rw [show bI false = 0 from rfl] at e1
    refine ⟨u', ?_, c1, n1⟩
    rw [e1]
    congr 3
    refine dS_e ?_
    rw [decide_eq_true_eq, ← Bool.not_eq_true, dS_t, sq e, if_pos k]
    constructor
    · intro h w
      apply Classical.byContradiction
      intro hw
      exact h ⟨w, by
        cases hg : g w
        · rfl
        · exact absurd (dS_t.mp hg) hw⟩
    · rintro h ⟨w, hw⟩
      have : g w = true := dS_t.mpr (h w)
      rw [this] at hw
      cases hw
