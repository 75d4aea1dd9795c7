theorem own_in {u : MS} {N : List Nd} (hE : ET u N) (oN : one N) (hN : ∀ n ∈ N, nok n) : ∀ i, wf N i = true → wf N i = true → ∀ j, i ≤ j → j < i + ln N i → m_ow u j = m_ow u i → dq N j ≤ dq N i ∧ ∀ v, fv N j v = true → fv N i v = true := by
  refine cl_ind ?_
  intro i x hx hpr hun hw j h1 h2 ho
  have nx := List.mem_of_getElem? hx
  by_cases hji : j = i
  · subst hji; exact ⟨Nat.le_refl _, fun v h => h⟩
  have mo := (hE.2.2.2 i x hx).2
  unfold MO at mo
  rw [Nat.zero_add] at mo
  rcases kd_cases (hN x nx) with hk | hk | hk | ⟨hp, hu, hb⟩
  · obtain ⟨e1, e2, e3, e4⟩ := n_33 hx hk
    have hp : k_pr (n_k x) = false := by rw [hk]; rfl
    have hu : k_un (n_k x) = true := by rw [hk]; rfl
    rw [ln_un hx hp hu] at h2
    obtain ⟨a, b⟩ := hun hp hu (wf_2 hx hp hu hw) j (by omega) (by omega) (by rw [mo.2.1 hk]; exact ho)
    exact ⟨by omega, fun v h => (e2 v).trans (b v h)⟩
  · obtain ⟨e1, e2, e3, e4⟩ := n_pr hx hk
    obtain ⟨p1, p2⟩ := hpr hk
    obtain ⟨w1, w2⟩ := wf_1 hx hk hw
    obtain ⟨m1, m2⟩ := mo.1 hk
    rw [ln_pr hx hk] at h2
    rcases Nat.lt_or_ge j (i + 1 + ln N (i + 1)) with z | z
    · obtain ⟨a, b⟩ := p1 w1 j (by omega) z (by rw [m1]; exact ho)
      exact ⟨by omega, fun v h => by rw [e2, b v h, Bool.true_or]⟩
    · obtain ⟨a, b⟩ := p2 w2 j z (by omega) (by rw [m2]; exact ho)
      exact ⟨by omega, fun v h => by rw [e2, b v h, Bool.or_true]⟩
  · exact absurd ho (ow_qin hE oN hx hk (by omega) h2)
  · rw [ln_br hx hp hu] at h2; omega
theorem mi_op {k9 : Int32 → Int32 → Int32 → MS → Option (Int32 × MS)} {u : MS} {N : List Nd} {q j : Nat} {x : Nd} (hE : ET u N) (hx : N[j]? = some x) (ho : m_ow u j = nI q) :
    (∀ (t : Nat) (b : Bool), n_k x = 33 → t < 24 → m_mi u t = bI b → f_M_middleHolds_J68 k9 (nI q) (nI (t + 1)) (nI j) u = k9 (nI q) (nI (t + 1)) (zI ((j : Int) - 1)) (m_p_mi (upd (m_mi u) t (bI (!b))) u)) ∧
    (∀ (t : Nat) (a b : Bool), k_pr (n_k x) = true → t + 1 < 24 → m_mi u (t + 1) = bI a → m_mi u t = bI b → f_M_middleHolds_J68 k9 (nI q) (nI (t + 1 + 1)) (nI j) u = k9 (nI q) (nI (t + 1)) (zI ((j : Int) - 1)) (m_p_mi (upd (m_mi u) t (bI (jn (n_k x) a b))) u)) := by
  have hi := (List.getElem?_eq_some_iff.mp hx).1
  have h20 := hE.2.1
  have hk := (hE.2.2.2 j x hx).1.1
  have hk9 := kc_lt (n_k x)
  constructor
  · intro t b h33 ht hb
    unfold f_M_middleHolds_J68
    rw [gd_s (inb_nI (by omega) (by omega)), nI_clamp (n := j) (by omega), ho, if_pos rfl, nI_p1, gd_s (inb_nI (by omega) (by omega)), lt_q, nI_clamp (n := t) (by omega), hb, gd_s (inb_nI (by omega) (by omega)), hk, h33, if_pos (show (3 : Int32) ≤ nI (kc 33) by decide)]
    unfold f_M_middleHolds_J114
    rw [gd_s (inb_nI (by omega) (by omega)), nI_clamp (n := j) (by omega), hk, h33, if_pos (show (3 : Int32) ≤ nI (kc 33) by decide)]
    unfold f_M_middleHolds_J133
    rw [gd_s (inb_nI (by omega) (by omega)), nI_clamp (n := j) (by omega), hk, h33]
    have e := sM_jnN b false u
    rw [show bI false = 0 from rfl] at e
    rw [ob_s e, nI_p1, gd_s (inb_nI (by omega) (by omega)), lt_q, lt_q, nI_clamp (n := t) (by omega), nar_b, nI_m1z]
  · intro t a b hp ht ha hb
    have hlt : kc (n_k x) < 3 := by rcases kp_or hp with e | e | e <;> rw [e] <;> decide
    have n3 : ¬ (3 : Int32) ≤ nI (kc (n_k x)) := nI_ge (b := 3) hlt (by omega)
    have h114 : f_M_middleHolds_J114 k9 (nI q) (nI (t + 1 + 1)) (nI j) (bI a) (bI b) u = k9 (nI q) (nI (t + 1)) (zI ((j : Int) - 1)) (m_p_mi (upd (m_mi u) t (bI (jn (n_k x) a b))) u) := by
      unfold f_M_middleHolds_J114
      rw [gd_s (inb_nI (by omega) (by omega)), nI_clamp (n := j) (by omega), hk, if_neg n3, nI_p1]
      unfold f_M_middleHolds_J133
      rw [gd_s (inb_nI (by omega) (by omega)), nI_clamp (n := j) (by omega), hk, ob_s (sM_jnP hp a b u), nI_p1, gd_s (inb_nI (by omega) (by omega)), lt_q, lt_q, nI_clamp (n := t) (by omega), nar_b, nI_m1z]
    unfold f_M_middleHolds_J68
    rw [gd_s (inb_nI (by omega) (by omega)), nI_clamp (n := j) (by omega), ho, if_pos rfl, nI_p1, gd_s (inb_nI (by omega) (by omega)), lt_q, nI_clamp (n := t + 1) (by omega), ha, gd_s (inb_nI (by omega) (by omega)), hk, if_neg n3, nI_p2, gd_s (inb_nI (by omega) (by omega)), nI_clamp (n := t) (by omega), hb]
    cases b
    · rw [if_pos (show bI false = 0 from rfl)]
      rw [show bI false = 0 from rfl] at h114
      exact h114
    · rw [if_neg (show ¬ bI true = 0 by decide)]
      rw [show bI true = 1 from rfl] at h114
      exact h114
theorem hi_op {k9 : Int32 → Int32 → MS → Option (Int32 × MS)} {u : MS} {N : List Nd} {j : Nat} {x : Nd} (hE : ET u N) (hx : N[j]? = some x) (ho : m_ow u j = -1) :
    (∀ (t : Nat) (b : Bool), n_k x = 33 → t < 24 → m_hi u t = bI b → f_M_workedOut_J90 k9 (nI (t + 1)) (nI j) u = k9 (nI (t + 1)) (zI ((j : Int) - 1)) (m_p_hi (upd (m_hi u) t (bI (!b))) u)) ∧
    (∀ (t : Nat) (a b : Bool), k_pr (n_k x) = true → t + 1 < 24 → m_hi u (t + 1) = bI a → m_hi u t = bI b → f_M_workedOut_J90 k9 (nI (t + 1 + 1)) (nI j) u = k9 (nI (t + 1)) (zI ((j : Int) - 1)) (m_p_hi (upd (m_hi u) t (bI (jn (n_k x) a b))) u)) := by
  have hi := (List.getElem?_eq_some_iff.mp hx).1
  have h20 := hE.2.1
  have hk := (hE.2.2.2 j x hx).1.1
  have hk9 := kc_lt (n_k x)
  constructor
  · intro t b h33 ht hb
    unfold f_M_workedOut_J90
    rw [gd_s (inb_nI (by omega) (by omega)), nI_clamp (n := j) (by omega), ho, if_pos rfl, nI_p1, gd_s (inb_nI (by omega) (by omega)), lt_q, nI_clamp (n := t) (by omega), hb, gd_s (inb_nI (by omega) (by omega)), hk, h33, if_pos (show (3 : Int32) ≤ nI (kc 33) by decide)]
    unfold f_M_workedOut_J136
    rw [gd_s (inb_nI (by omega) (by omega)), nI_clamp (n := j) (by omega), hk, h33, if_pos (show (3 : Int32) ≤ nI (kc 33) by decide)]
    unfold f_M_workedOut_J155
    rw [gd_s (inb_nI (by omega) (by omega)), nI_clamp (n := j) (by omega), hk, h33]
    have e := sM_jnN b false u
    rw [show bI false = 0 from rfl] at e
    rw [ob_s e, nI_p1, gd_s (inb_nI (by omega) (by omega)), lt_q, lt_q, nI_clamp (n := t) (by omega), nar_b, nI_m1z]
  · intro t a b hp ht ha hb
    have hlt : kc (n_k x) < 3 := by rcases kp_or hp with e | e | e <;> rw [e] <;> decide
    have n3 : ¬ (3 : Int32) ≤ nI (kc (n_k x)) := nI_ge (b := 3) hlt (by omega)
    have h136 : f_M_workedOut_J136 k9 (nI (t + 1 + 1)) (nI j) (bI a) (bI b) u = k9 (nI (t + 1)) (zI ((j : Int) - 1)) (m_p_hi (upd (m_hi u) t (bI (jn (n_k x) a b))) u) := by
      unfold f_M_workedOut_J136
      rw [gd_s (inb_nI (by omega) (by omega)), nI_clamp (n := j) (by omega), hk, if_neg n3, nI_p1]
      unfold f_M_workedOut_J155
      rw [gd_s (inb_nI (by omega) (by omega)), nI_clamp (n := j) (by omega), hk, ob_s (sM_jnP hp a b u), nI_p1, gd_s (inb_nI (by omega) (by omega)), lt_q, lt_q, nI_clamp (n := t) (by omega), nar_b, nI_m1z]
    unfold f_M_workedOut_J90
    rw [gd_s (inb_nI (by omega) (by omega)), nI_clamp (n := j) (by omega), ho, if_pos rfl, nI_p1, gd_s (inb_nI (by omega) (by omega)), lt_q, nI_clamp (n := t + 1) (by omega), ha, gd_s (inb_nI (by omega) (by omega)), hk, if_neg n3, nI_p2, gd_s (inb_nI (by omega) (by omega)), nI_clamp (n := t) (by omega), hb]
    cases b
    · rw [if_pos (show bI false = 0 from rfl)]
      rw [show bI false = 0 from rfl] at h136
      exact h136
    · rw [if_neg (show ¬ bI true = 0 by decide)]
      rw [show bI true = 1 from rfl] at h136
      exact h136
