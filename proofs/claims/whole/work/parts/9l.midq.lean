theorem sM_midQ {u0 : MS} {N : List Nd} {q : Nat} {x : Nd} {e : Ev} (hE : ET u0 N) (oN : one N) (hN : ∀ n ∈ N, nok n) (hx : N[q]? = some x) (hq : k_qu (n_k x) = true) (hd : dq N q ≤ 2) (hc : ∀ v, v < 3 → fv N q v = false) : ∃ u', f_M_middleQuantifier (nI q) u0 = some (bI (dS (sem N q e)), u') ∧ co u0 u' ∧ (∀ v, v < 3 → m_nu u' v = m_nu u0 v) ∧ m_hi u' = m_hi u0 := by
  have hqi := (List.getElem?_eq_some_iff.mp hx).1
  have h20 := hE.2.1
  have k1 := kq_33 hq
  have hwq := oN.1 q hqi
  have hw1 := wf_2 hx k1.2.1 k1.2.2 hwq
  have nx := List.mem_of_getElem? hx
  have ha : n_a x < 3 := (hN x nx).2.2 hq
  obtain ⟨sq, fq, qq, dq_⟩ := n_qu hx hq
  obtain ⟨K1, K2, K3, K4⟩ := (hE.2.2.2 q x hx).1
  generalize hae : n_a x = a at *
  have fvb : ∀ v, v < 3 → fv N (q + 1) v = true → v = a := by
    intro v hv h
    have z := hc v hv
    rw [fq, h, Bool.true_and] at z
    simpa using z
  have tm := tame_sem hN (q + 1) hw1 a ha (by omega) fvb e
  let g : Int → Bool := fun w => dS (sem N (q + 1) (ev1 a w e))
  let S : MS → Prop := fun u => co u0 u ∧ (∀ v, v < 3 → v ≠ a → m_nu u v = m_nu u0 v) ∧ m_hi u = m_hi u0
  have mid : ∀ (w : Int) (u : MS), -150 ≤ w → w ≤ 150 → S u → ∃ u', f_M_middleHolds (nI q) (m_p_nu (upd (m_nu u) a (zI w)) u) = some (bI (g w), u') ∧ S u' := by
    intro w u w1 w2 hS
    have hS1 : co u0 (m_p_nu (upd (m_nu u) a (zI w)) u) := co_tr hS.1 (co_p_nu _ _)
    obtain ⟨u', e1, c1, n1, h1⟩ := sM_midHolds (e := ev1 a w e) (ET_tb hE (co_tb hS1)) oN hN hx hq (by omega) (fun v hv hf => by
      have hva := fvb v hv hf
      subst hva
      show upd (m_nu u) v (zI w) v = zI (ev1 v w e v) ∧ _
      rw [pk_us, ev1_s]
      exact ⟨rfl, by omega, by omega⟩)
    refine ⟨u', e1, co_tr hS1 c1, fun v hv hva => ?_, h1.trans hS.2.2⟩
    rw [n1 v hv]
    show upd (m_nu u) a (zI w) v = _
    rw [pk_un hva]
    exact hS.2.1 v hv hva
  have loop : ∀ (wt : Bool) (v4 : Int32) (k n : Nat) (fl : Bool) (u : MS), k < n → k ≤ 301 → S u → ∃ u' fl', f_M_middleQuantifier_L39 n (nI q) (bI wt) (nI a) v4 (bI fl) (zI (151 - (k : Int))) u = f_M_middleQuantifier_J82 (bI wt) (nI a) v4 (bI fl') u' ∧ S u' ∧ (fl' = true ↔ fl = true ∨ ∃ w, 151 - (k : Int) ≤ w ∧ w ≤ 150 ∧ g w = wt) := by
    intro wt v4 k
    induction k with
    | zero =>
      intro n fl u hn _ hS
      obtain ⟨n, rfl⟩ : ∃ m, n = m + 1 := ⟨n - 1, by omega⟩
      rw [q_M_middleQuantifier_L39, if_pos (show (150 : Int32) < zI (151 - ((0 : Nat) : Int)) by decide)]
      refine ⟨u, fl, rfl, hS, ⟨Or.inl, ?_⟩⟩
      rintro (z | ⟨w, w1, w2, -⟩)
      · exact z
      · omega
    | succ k ih =>
      intro n fl u hn hk hS
      obtain ⟨n, rfl⟩ : ∃ m, n = m + 1 := ⟨n - 1, by omega⟩
      rw [q_M_middleQuantifier_L39, if_neg (show ¬ (150 : Int32) < zI (151 - ((k + 1 : Nat) : Int)) by rw [show (150 : Int32) = zI 150 from rfl, zI_lt (by omega) (by omega) (by omega) (by omega)]; omega)]
      cases fl
      · obtain ⟨u1, e1, S1⟩ := mid (151 - ((k + 1 : Nat) : Int)) u (by omega) (by omega) hS
        rw [if_pos (show bI false = 0 from rfl), gd_s (inb_nI (by omega) (by omega)), lt_q, nI_clamp (by omega), ob_s e1]
        have ez : zI (151 - ((k + 1 : Nat) : Int)) + 1 = zI (151 - (k : Int)) := by
          rw [show (1 : Int32) = zI 1 from rfl, zI_add]; exact congrArg zI (by omega)
        by_cases hg : g (151 - ((k + 1 : Nat) : Int)) = wt
        · rw [if_pos (show bI (g (151 - ((k + 1 : Nat) : Int))) = bI wt by rw [hg]), lt_q, ez]
          obtain ⟨u2, fl', e2, S2, h2⟩ := ih n true u1 (by omega) (by omega) S1
          rw [show bI true = 1 from rfl] at e2
          exact ⟨u2, fl', e2, S2, ⟨fun _ => Or.inr ⟨_, Int.le_refl _, by omega, hg⟩, fun _ => h2.mpr (Or.inl rfl)⟩⟩
        · rw [if_neg (fun z => hg (bI_inj.mp z)), lt_q, ez]
          obtain ⟨u2, fl', e2, S2, h2⟩ := ih n false u1 (by omega) (by omega) S1
          rw [show bI false = 0 from rfl] at e2
          refine ⟨u2, fl', e2, S2, h2.trans ?_⟩
          constructor
          · rintro (z | ⟨w, w1, w2, w3⟩)
            · exact Or.inl z
            · exact Or.inr ⟨w, by omega, w2, w3⟩
          · rintro (z | ⟨w, w1, w2, w3⟩)
            · exact Or.inl z
            · refine Or.inr ⟨w, ?_, w2, w3⟩
              rcases Int.lt_or_le (151 - ((k + 1 : Nat) : Int)) w with y | y
              · omega
              · have : w = 151 - ((k + 1 : Nat) : Int) := by omega
                rw [this] at w3; exact absurd w3 hg
      · rw [if_neg (show ¬ bI true = 0 by decide)]
        exact ⟨u, true, rfl, hS, ⟨fun _ => Or.inl rfl, fun _ => rfl⟩⟩
  have main : ∀ wt : Bool, ∃ u', f_M_middleQuantifier_J15 (nI q) (bI wt) u0 = some (bI (decide ((dS (∃ w, g w = wt)) = wt)), u') ∧ co u0 u' ∧ (∀ v, v < 3 → m_nu u' v = m_nu u0 v) ∧ m_hi u' = m_hi u0 := by
    intro wt
    unfold f_M_middleQuantifier_J15
    rw [gd_s (inb_nI (by omega) (by omega)), lt_q, nI_clamp (n := q) (by omega), K2 hq, gd_s (inb_nI (by omega) (by omega)), lt_q, nI_clamp (n := a) (by omega)]
    obtain ⟨u1, fl, e1, S1, h1⟩ := loop wt (m_nu u0 a) 301 4096 false u0 (by omega) (by omega) ⟨co_rf u0, fun _ _ _ => rfl, rfl⟩
    have e1 : f_M_middleQuantifier_L39 4096 (nI q) (bI wt) (nI a) (m_nu u0 a) 0 (-150) u0 = f_M_middleQuantifier_J82 (bI wt) (nI a) (m_nu u0 a) (bI fl) u1 := e1
    rw [e1]
    have hfl : fl = dS (∃ w, g w = wt) := by
      refine dS_e (h1.trans ?_)
      have tg : tame (fun w => g w = wt) := by
        cases wt
        · refine tame_congr (tame_not tm) (fun v => ?_)
          show ¬ sem N (q + 1) (ev1 a v e) ↔ dS (sem N (q + 1) (ev1 a v e)) = false
          rw [← Bool.not_eq_true, dS_t]
        · exact tame_congr tm (fun v => dS_t.symm)
      have tx_ := tame_ex tg (lo := -150) (hi := 150) (by omega) (by omega)
      constructor
      · rintro (z | ⟨w, -, -, z⟩)
        · cases z
        · exact ⟨w, z⟩
      · intro z
        obtain ⟨w, w1, w2, w3⟩ := tx_.mp z
        exact Or.inr ⟨w, by omega, w2, w3⟩
    unfold f_M_middleQuantifier_J82
    rw [gd_s (inb_nI (by omega) (by omega)), lt_q, nI_clamp (n := a) (by omega), bz0, bz1, gd_t, gd_t]
    have fin : co u0 (m_p_nu (upd (m_nu u1) a (m_nu u0 a)) u1) ∧ (∀ v, v < 3 → m_nu (m_p_nu (upd (m_nu u1) a (m_nu u0 a)) u1) v = m_nu u0 v) ∧ m_hi (m_p_nu (upd (m_nu u1) a (m_nu u0 a)) u1) = m_hi u0 := by
      refine ⟨co_tr S1.1 (co_p_nu _ _), fun v hv => ?_, S1.2.2⟩
      show upd (m_nu u1) a (m_nu u0 a) v = _
      by_cases hva : v = a
      · subst hva; exact pk_us
      · rw [pk_un hva]; exact S1.2.1 v hv hva
    by_cases hw : fl = wt
    · rw [if_pos (show bI fl = bI wt by rw [hw]), ← hfl, decide_eq_true hw]
      exact ⟨_, rfl, fin⟩
    · rw [if_neg (fun z => hw (bI_inj.mp z)), ← hfl, decide_eq_false hw]
      exact ⟨_, rfl, fin⟩
  unfold f_M_middleQuantifier
  rw [gd_s (inb_nI (by omega) (by omega)), nI_clamp (by omega), K1]
  rcases kq_or hq with k | k
  · rw [k, if_pos (show nI (kc 69) = 4 from rfl)]
    obtain ⟨u', e1, c1⟩ := main true
    rw [show bI true = 1 from rfl] at e1
    refine ⟨u', ?_, c1⟩
    rw [e1]
    congr 3
    refine dS_e ?_
    rw [decide_eq_true_eq, dS_t, sq e, if_neg (show ¬ n_k x = 65 by omega)]
    constructor
    · rintro ⟨w, h⟩; exact ⟨w, dS_t.mp h⟩
    · rintro ⟨w, h⟩; exact ⟨w, dS_t.mpr h⟩
  · rw [k, if_neg (show ¬ nI (kc 65) = 4 by decide)]
    obtain ⟨u', e1, c1⟩ := main false
    rw [show bI false = 0 from rfl] at e1
    refine ⟨u', ?_, c1⟩
    rw [e1]
    congr 3
    refine dS_e ?_
    rw [decide_eq_true_eq, ← Bool.not_eq_true, dS_t, sq e, if_pos k]
    constructor
    · intro h w
      apply Classical.byContradiction
      intro hw
      exact h ⟨w, by
        cases hg : g w
        · rfl
        · exact absurd (dS_t.mp hg) hw⟩
    · rintro h ⟨w, hw⟩
      have : g w = true := dS_t.mpr (h w)
      rw [this] at hw
      cases hw
/-- a claim with a quantifier has one of its owner's -/
theorem qf_ex {u : MS} {N : List Nd} (hE : ET u N) (hN : ∀ n ∈ N, nok n) : ∀ i, wf N i = true → wf N i = true → qf N i = false → ∃ j x, i ≤ j ∧ j < i + ln N i ∧ N[j]? = some x ∧ k_qu (n_k x) = true ∧ m_ow u j = m_ow u i := by
  refine cl_ind ?_
  intro i x hx hpr hun hw hqf
  have nx := List.mem_of_getElem? hx
  have mo := (hE.2.2.2 i x hx).2
  unfold MO at mo
  rw [Nat.zero_add] at mo
  rcases kd_cases (hN x nx) with hk | hk | hk | ⟨hp, hu, hb⟩
  · have hp : k_pr (n_k x) = false := by rw [hk]; rfl
    have hu : k_un (n_k x) = true := by rw [hk]; rfl
    obtain ⟨j, y, a, b, c, d, f⟩ := hun hp hu (wf_2 hx hp hu hw) ((n_33 hx hk).2.2.1 ▸ hqf)
    exact ⟨j, y, by omega, by rw [ln_un hx hp hu]; omega, c, d, by rw [f, mo.2.1 hk]⟩
  · obtain ⟨p1, p2⟩ := hpr hk
    obtain ⟨w1, w2⟩ := wf_1 hx hk hw
    obtain ⟨m1, m2⟩ := mo.1 hk
    rw [(n_pr hx hk).2.2.1, Bool.and_eq_false_iff] at hqf
    rcases hqf with z | z
    · obtain ⟨j, y, a, b, c, d, f⟩ := p1 w1 z
      exact ⟨j, y, by omega, by rw [ln_pr hx hk]; omega, c, d, by rw [f, m1]⟩
    · obtain ⟨j, y, a, b, c, d, f⟩ := p2 w2 z
      exact ⟨j, y, by omega, by rw [ln_pr hx hk]; omega, c, d, by rw [f, m2]⟩
  · have k1 := kq_33 hk
    exact ⟨i, x, Nat.le_refl _, by rw [ln_un hx k1.2.1 k1.2.2]; omega, hx, hk, rfl⟩
  · rw [(n_br hx hp hu hb).2.2.1] at hqf; cases hqf
theorem sM_hasQ {u : MS} {N : List Nd} {q : Nat} {x : Nd} (hE : ET u N) (oN : one N) (hN : ∀ n ∈ N, nok n) (hx : N[q]? = some x) (hq : k_qu (n_k x) = true) : f_M_hasQuantifier (nI q) u = some (bI (!qf N (q + 1)), u) := by
  have hqi := (List.getElem?_eq_some_iff.mp hx).1
  have h20 := hE.2.1
  have k1 := kq_33 hq
  have hwq := oN.1 q hqi
  have hw1 := wf_2 hx k1.2.1 k1.2.2 hwq
  have hle := ln_le (q + 1) hw1
  have m3 := (hE.2.2.2 q x hx).2.2.2 hq
  rw [Nat.zero_add] at m3
  have loop : ∀ (m j n : Nat) (fl : Bool), j + m = N.length → m < n → ∃ fl', f_M_hasQuantifier_L6 n (nI q) (bI fl) (nI j) u = some (bI fl', u) ∧ (fl' = true ↔ fl = true ∨ ∃ j' y, j ≤ j' ∧ N[j']? = some y ∧ k_qu (n_k y) = true ∧ m_ow u j' = nI q) := by
    intro m
    induction m with
    | zero =>
      intro j n fl hj hn
      obtain ⟨n, rfl⟩ : ∃ k, n = k + 1 := ⟨n - 1, by omega⟩
      rw [q_M_hasQuantifier_L6, if_pos (show m_cl u ≤ nI j by rw [hE.1]; exact nI_le (by omega) (by omega)), bz_bI, gd_t]
      refine ⟨fl, rfl, ⟨Or.inl, ?_⟩⟩
      rintro (z | ⟨j', y, a, b, -⟩)
      · exact z
      · have := (List.getElem?_eq_some_iff.mp b).1; omega
    | succ m ih =>
      intro j n fl hj hn
      obtain ⟨n, rfl⟩ : ∃ k, n = k + 1 := ⟨n - 1, by omega⟩
      obtain ⟨y, hy⟩ : ∃ y, N[j]? = some y := ⟨_, List.getElem?_eq_getElem (by omega)⟩
      have ny := List.mem_of_getElem? hy
      have hk := (hE.2.2.2 j y hy).1.1
      have h9 := kc_lt (n_k y)
      obtain ⟨kf1, kf2, kf3, kf4⟩ := kc_f (hN y ny)
      rw [q_M_hasQuantifier_L6, if_neg (show ¬ m_cl u ≤ nI j by rw [hE.1]; exact nI_ge (by omega) (by omega))]
      have go : ∀ f2 : Bool, (f2 = true ↔ fl = true ∨ (k_qu (n_k y) = true ∧ m_ow u j = nI q)) → ∃ fl', f_M_hasQuantifier_L6 n (nI q) (bI f2) (nI (j + 1)) u = some (bI fl', u) ∧ (fl' = true ↔ fl = true ∨ ∃ j' y, j ≤ j' ∧ N[j']? = some y ∧ k_qu (n_k y) = true ∧ m_ow u j' = nI q) := by
        intro f2 hf2
        obtain ⟨fl', e1, h1⟩ := ih (j + 1) n f2 (by omega) (by omega)
        refine ⟨fl', e1, h1.trans ?_⟩
        constructor
        · rintro (z | ⟨j', y', a, b, c⟩)
          · rcases hf2.mp z with z | ⟨z1, z2⟩
            · exact Or.inl z
            · exact Or.inr ⟨j, y, Nat.le_refl _, hy, z1, z2⟩
          · exact Or.inr ⟨j', y', by omega, b, c⟩
        · rintro (z | ⟨j', y', a, b, c⟩)
          · exact Or.inl (hf2.mpr (Or.inl z))
          · by_cases hjj : j' = j
            · subst hjj
              rw [hy] at b
              have : y = y' := by injection b
              subst this
              exact Or.inl (hf2.mpr (Or.inr c))
            · exact Or.inr ⟨j', y', by omega, b, c⟩
      cases fl
      · rw [if_pos (show bI false = 0 from rfl), gd_s (inb_nI (by omega) (by omega)), nI_clamp (by omega), hk]
        by_cases ho : m_ow u j = nI q
        · rw [if_pos ho, gd_s (inb_nI (by omega) (by omega))]
          by_cases h4 : kc (n_k y) = 4
          · rw [if_pos (show nI (kc (n_k y)) = 4 by rw [h4]; rfl), lt_q, nI_1]
            exact go true ⟨fun _ => Or.inr ⟨kf3.mpr (Or.inl h4), ho⟩, fun _ => rfl⟩
          · rw [if_neg (ne_l (x := 4) (k := 4) rfl (by omega) (by omega) h4), gd_s (inb_nI (by omega) (by omega))]
            by_cases h5 : kc (n_k y) = 5
            · rw [if_pos (show nI (kc (n_k y)) = 5 by rw [h5]; rfl), lt_q, nI_1]
              exact go true ⟨fun _ => Or.inr ⟨kf3.mpr (Or.inr h5), ho⟩, fun _ => rfl⟩
            · rw [if_neg (ne_l (x := 5) (k := 5) rfl (by omega) (by omega) h5), lt_q, nI_1]
              exact go false ⟨fun z => (by cases z), fun z => by
                rcases z with z | ⟨z, -⟩
                · exact z
                · rcases kf3.mp z with y | y
                  · exact absurd y h4
                  · exact absurd y h5⟩
        · rw [if_neg ho, lt_q, nI_1]
          exact go false ⟨fun z => (by cases z), fun z => by
            rcases z with z | ⟨-, z⟩
            · exact z
            · exact absurd z ho⟩
      · rw [if_neg (show ¬ bI true = 0 by decide), lt_q, nI_1]
        exact go true ⟨fun _ => Or.inl rfl, fun _ => rfl⟩
  unfold f_M_hasQuantifier
  rw [lt_q, nI_1]
  obtain ⟨fl', e1, h1⟩ := loop (N.length - (q + 1)) (q + 1) 4096 false (by omega) (by omega)
  rw [show bI false = 0 from rfl] at e1
  rw [e1]
  congr 3
  cases hqf : qf N (q + 1)
  · obtain ⟨j, y, a, b, c, d, f⟩ := qf_ex hE hN (q + 1) hw1 hw1 hqf
    exact h1.mpr (Or.inr ⟨j, y, a, c, d, f.trans m3⟩)
  · cases hf : fl'
    · rfl
    · rcases h1.mp hf with z | ⟨j, y, a, b, c, d⟩
      · cases z
      · have hj := (List.getElem?_eq_some_iff.mp b).1
        obtain ⟨z1, z2⟩ := ow_root hE oN hj (by omega) d
        have := (qf_in hN (q + 1) hw1 hw1 hqf j (by omega) (by omega)).1
        rw [(n_qu b c).2.2.1] at this
        cases this
