theorem sM_midHolds {u0 : MS} {N : List Nd} {q : Nat} {x : Nd} {e : Ev} (hE : ET u0 N) (oN : one N) (hN : ∀ n ∈ N, nok n) (hx : N[q]? = some x) (hq : k_qu (n_k x) = true) (hd : dq N (q + 1) ≤ 1) (he : ∀ v, v < 3 → fv N (q + 1) v = true → m_nu u0 v = zI (e v) ∧ -1300 ≤ e v ∧ e v ≤ 1300) : ∃ u', f_M_middleHolds (nI q) u0 = some (bI (dS (sem N (q + 1) e)), u') ∧ co u0 u' ∧ (∀ v, v < 3 → m_nu u' v = m_nu u0 v) ∧ m_hi u' = m_hi u0 := by
  have hqi := (List.getElem?_eq_some_iff.mp hx).1
  have h20 := hE.2.1
  have k1 := kq_33 hq
  have hwq := oN.1 q hqi
  have hw1 := wf_2 hx k1.2.1 k1.2.2 hwq
  have hleq := ln_le (q + 1) hw1
  have m3 := (hE.2.2.2 q x hx).2.2.2 hq
  rw [Nat.zero_add] at m3
  have T : ∀ u, co u0 u ∧ (∀ v, v < 3 → m_nu u v = m_nu u0 v) ∧ m_hi u = m_hi u0 → ET u N := fun u h => ET_tb hE (co_tb h.1)
  have W : ∀ u, co u0 u ∧ (∀ v, v < 3 → m_nu u v = m_nu u0 v) ∧ m_hi u = m_hi u0 → m_ow u = m_ow u0 := fun u h => cq_ow h.1
  have body : ∀ j, j < N.length → m_ow u0 j = nI q → q + 1 ≤ j ∧ dq N j ≤ 1 ∧ ∀ v, fv N j v = true → fv N (q + 1) v = true := by
    intro j hj ho
    obtain ⟨a, b⟩ := ow_root hE oN hj (by omega) ho
    obtain ⟨c, d⟩ := own_in hE oN hN (q + 1) hw1 hw1 j (by omega) (by omega) (by rw [m3]; exact ho)
    exact ⟨by omega, by omega, d⟩
  have key := stk_seg (N := N) (E := fun n t j u => f_M_middleHolds_L9 n (nI q) (nI t) (zI ((j : Int) - 1)) u) (I := fun u => co u0 u ∧ (∀ v, v < 3 → m_nu u v = m_nu u0 v) ∧ m_hi u = m_hi u0) (st := m_mi) (own := fun j => m_ow u0 j = nI q) (leaf := fun j => ∃ y, N[j]? = some y ∧ ((k_pr (n_k y) = false ∧ k_un (n_k y) = false) ∨ k_qu (n_k y) = true)) (val := fun j => dS (sem N j e)) (lb := q + 1)
    (fun n t j u hI hlb hj ho => by
      show f_M_middleHolds_L9 (n + 1) (nI q) (nI t) (zI (((j + 1 : Nat) : Int) - 1)) u = _
      rw [zI_s1, q_M_middleHolds_L9, if_neg (nI_ge (by omega) (by omega)), gd_s (inb_nI (by omega) (by omega)), nI_clamp (by omega), W u hI, if_neg ho]
      unfold f_M_middleHolds_J68
      rw [gd_s (inb_nI (by omega) (by omega)), nI_clamp (by omega), W u hI, if_neg ho, lt_q, nI_m1z])
    (fun n t j u hI hlb hj ho hlf ht => by
      obtain ⟨y, hy, hlf⟩ := hlf
      have ny := List.mem_of_getElem? hy
      obtain ⟨b1, b2, b3⟩ := body j hj ho
      have hk := ((T u hI).2.2.2 j y hy).1.1
      have h9 := kc_lt (n_k y)
      have head : ∀ R, 4 ≤ kc (n_k y) → (if m_ki u j < 4 then f_M_middleHolds_J68 (f_M_middleHolds_L9 n) (nI q) (nI t) (nI j) u else R) = R := fun R h4 => if_neg (by rw [hk]; exact nI_nlt (b := 4) h4 (by omega))
      rcases hlf with ⟨hp, hu⟩ | hqy
      · have hb := (hN y ny).2.1 hp hu
        obtain ⟨e1, e2, e3, e4⟩ := n_br hy hp hu hb
        obtain ⟨b, eb, hbb⟩ := sM_bh (e := e) (T u hI) hy hp hu hb (fun v hv h0 => by
          rw [hI.2.1 v hv]
          have := he v hv (b3 v ((e2 v).trans ((hN y ny).1 v hv h0)))
          exact ⟨this.1, by omega, by omega⟩)
        have h6 : 6 ≤ kc (n_k y) := by rcases kc_br hb with ⟨_, z⟩ | ⟨_, z⟩ | ⟨_, z⟩ <;> omega
        refine ⟨m_p_mi (upd (m_mi u) t (bI b)) u, ?_, ⟨co_tr hI.1 (co_p_mi _ _), hI.2⟩, ?_, fun s hs => pk_un (by omega)⟩
        · show f_M_middleHolds_L9 (n + 1) (nI q) (nI t) (zI (((j + 1 : Nat) : Int) - 1)) u = _
          rw [zI_s1, q_M_middleHolds_L9, if_neg (nI_ge (by omega) (by omega)), gd_s (inb_nI (by omega) (by omega)), nI_clamp (by omega), W u hI, if_pos ho, gd_s (inb_nI (by omega) (by omega)), head _ (by omega), ob_s (sM_isB (T u hI) hy), decide_eq_true h6, if_neg (show ¬ bI true = 0 by decide), ob_s eb]
          unfold f_M_middleHolds_J60
          rw [gd_s (inb_nI (by omega) (by omega)), lt_q, lt_q, lt_q, nI_1, nI_m1z, nI_clamp (by omega), nar_b]
        · show upd (m_mi u) t (bI b) t = _
          rw [pk_us]
          congr 1
          exact dS_e (hbb.trans (e1 e).symm)
      · obtain ⟨e1, e2, e3, e4⟩ := n_qu hy hqy
        have ky := kq_33 hqy
        have hwj := oN.1 j hj
        have hwj1 := wf_2 hy ky.2.1 ky.2.2 hwj
        obtain ⟨u1, eb, c1, n1, h1, h2⟩ := sM_lowQ (e := e) (T u hI) oN hN hy hqy (dq_qf (j + 1) hwj1 (by omega)) (fun v hv hva hf => by
          rw [hI.2.1 v hv]
          exact he v hv (b3 v (by rw [e2, hf, Bool.true_and]; simpa using hva)))
        have h45 : kc (n_k y) = 4 ∨ kc (n_k y) = 5 := by rcases kq_or hqy with z | z <;> rw [z] <;> decide
        refine ⟨m_p_mi (upd (m_mi u1) t (bI (dS (sem N j e)))) u1, ?_, ⟨co_tr hI.1 (co_tr c1 (co_p_mi _ _)), fun v hv => (n1 v hv).trans (hI.2.1 v hv), h2.trans hI.2.2⟩, pk_us, fun s hs => ?_⟩
        · show f_M_middleHolds_L9 (n + 1) (nI q) (nI t) (zI (((j + 1 : Nat) : Int) - 1)) u = _
          rw [zI_s1, q_M_middleHolds_L9, if_neg (nI_ge (by omega) (by omega)), gd_s (inb_nI (by omega) (by omega)), nI_clamp (by omega), W u hI, if_pos ho, gd_s (inb_nI (by omega) (by omega)), head _ (by omega), ob_s (sM_isB (T u hI) hy), decide_eq_false (show ¬ 6 ≤ kc (n_k y) by omega), if_pos (show bI false = 0 from rfl), ob_s eb]
          unfold f_M_middleHolds_J60
          rw [gd_s (inb_nI (by omega) (by omega)), lt_q, lt_q, lt_q, nI_1, nI_m1z, nI_clamp (by omega), nar_b]
        · show upd (m_mi u1) t _ s = m_mi u s
          rw [pk_un (by omega), h1])
    (fun n t j y u b hI hlb hy h33 ho ht hb => by
      have hj := (List.getElem?_eq_some_iff.mp hy).1
      have ho' : m_ow u j = nI q := by rw [W u hI]; exact ho
      have hk := ((T u hI).2.2.2 j y hy).1.1
      refine ⟨m_p_mi (upd (m_mi u) t (bI (!b))) u, ?_, ⟨co_tr hI.1 (co_p_mi _ _), hI.2⟩, pk_us, fun s hs => pk_un (by omega)⟩
      show f_M_middleHolds_L9 (n + 1) (nI q) (nI (t + 1)) (zI (((j + 1 : Nat) : Int) - 1)) u = _
      rw [zI_s1, q_M_middleHolds_L9, if_neg (nI_ge (by omega) (by omega)), gd_s (inb_nI (by omega) (by omega)), nI_clamp (by omega), if_pos ho', gd_s (inb_nI (by omega) (by omega)), if_pos (show m_ki u j < 4 by rw [hk, h33]; decide)]
      exact (mi_op (T u hI) hy ho').1 t b h33 ht hb)
    (fun n t j y u a b hI hlb hy hp ho ht ha hb => by
      have hj := (List.getElem?_eq_some_iff.mp hy).1
      have ho' : m_ow u j = nI q := by rw [W u hI]; exact ho
      have hk := ((T u hI).2.2.2 j y hy).1.1
      have hlt : kc (n_k y) < 3 := by rcases kp_or hp with e | e | e <;> rw [e] <;> decide
      refine ⟨m_p_mi (upd (m_mi u) t (bI (jn (n_k y) a b))) u, ?_, ⟨co_tr hI.1 (co_p_mi _ _), hI.2⟩, pk_us, fun s hs => pk_un (by omega)⟩
      show f_M_middleHolds_L9 (n + 1) (nI q) (nI (t + 1 + 1)) (zI (((j + 1 : Nat) : Int) - 1)) u = _
      rw [zI_s1, q_M_middleHolds_L9, if_neg (nI_ge (by omega) (by omega)), gd_s (inb_nI (by omega) (by omega)), nI_clamp (by omega), if_pos ho', gd_s (inb_nI (by omega) (by omega)), if_pos (show m_ki u j < 4 by rw [hk]; exact nI_lt (b := 4) (by omega) (by omega))]
      exact (mi_op (T u hI) hy ho').2 t a b hp ht ha hb)
    (fun j y hlb hy h33 ho => by
      have mo := (hE.2.2.2 j y hy).2.2.1 h33
      rw [Nat.zero_add] at mo
      refine ⟨mo.trans ho, ?_⟩
      rw [← dS_not]
      exact dS_c ((n_33 hy h33).1 e))
    (fun j y hlb hy hp ho => by
      have mo := (hE.2.2.2 j y hy).2.1 hp
      rw [Nat.zero_add] at mo
      refine ⟨mo.1.trans ho, mo.2.trans ho, ?_⟩
      rw [← dS_jn hp]
      exact dS_c ((n_pr hy hp).1 e))
    (fun j y hlb hy hqy hwj ho => ⟨⟨y, hy, Or.inr hqy⟩, fun i h1 h2 z => ow_qin hE oN hy hqy h1 h2 (z.trans ho.symm)⟩)
    (fun j y hlb hy hp hu ho => ⟨y, hy, Or.inl ⟨hp, hu⟩⟩)
    (q + 1) hw1 hw1 (Nat.le_refl _) m3
  have skips : ∀ k n t j u, co u0 u ∧ (∀ v, v < 3 → m_nu u v = m_nu u0 v) ∧ m_hi u = m_hi u0 → q + 1 ≤ j → j + k ≤ N.length → (∀ i, j ≤ i → i < j + k → ¬ m_ow u0 i = nI q) → f_M_middleHolds_L9 (n + k) (nI q) (nI t) (zI (((j + k : Nat) : Int) - 1)) u = f_M_middleHolds_L9 n (nI q) (nI t) (zI ((j : Int) - 1)) u := by
    intro k
    induction k with
    | zero => intro n t j u _ _ _ _; rfl
    | succ k ih =>
      intro n t j u hI hlb hl ho
      rw [show n + (k + 1) = (n + k) + 1 by omega, show j + (k + 1) = (j + k) + 1 by omega, zI_s1, q_M_middleHolds_L9, if_neg (nI_ge (by omega) (by omega)), gd_s (inb_nI (by omega) (by omega)), nI_clamp (by omega), W u hI, if_neg (ho _ (by omega) (by omega))]
      unfold f_M_middleHolds_J68
      rw [gd_s (inb_nI (by omega) (by omega)), nI_clamp (by omega), W u hI, if_neg (ho _ (by omega) (by omega)), lt_q, nI_m1z]
      exact ih n t j u hI hlb (by omega) (fun i h1 h2 => ho i h1 (by omega))
  have I0 : co u0 u0 ∧ (∀ v, v < 3 → m_nu u0 v = m_nu u0 v) ∧ m_hi u0 = m_hi u0 := ⟨co_rf u0, fun _ _ => rfl, rfl⟩
  have hl0 : q + 1 + ln N (q + 1) + (N.length - (q + 1 + ln N (q + 1))) = N.length := by omega
  have e1 := skips (N.length - (q + 1 + ln N (q + 1))) (4096 - (N.length - (q + 1 + ln N (q + 1)))) 0 (q + 1 + ln N (q + 1)) u0 I0 (by omega) (by omega) (fun i h1 h2 z => by
    have := ow_root hE oN (by omega) (by omega) z
    omega)
  rw [hl0, show 4096 - (N.length - (q + 1 + ln N (q + 1))) + (N.length - (q + 1 + ln N (q + 1))) = 4096 by omega] at e1
  obtain ⟨u1, e2, I1, s1, -⟩ := key (4096 - (N.length - (q + 1 + ln N (q + 1))) - ln N (q + 1)) 0 u0 I0 (by omega)
  have e2 : f_M_middleHolds_L9 (4096 - (N.length - (q + 1 + ln N (q + 1))) - ln N (q + 1) + ln N (q + 1)) (nI q) (nI 0) (zI (((q + 1 + ln N (q + 1) : Nat) : Int) - 1)) u0 = f_M_middleHolds_L9 (4096 - (N.length - (q + 1 + ln N (q + 1))) - ln N (q + 1)) (nI q) (nI (0 + 1)) (zI (((q + 1 : Nat) : Int) - 1)) u1 := e2
  rw [show 4096 - (N.length - (q + 1 + ln N (q + 1))) - ln N (q + 1) + ln N (q + 1) = 4096 - (N.length - (q + 1 + ln N (q + 1))) by omega] at e2
  have e3 : ∀ n, f_M_middleHolds_L9 (n + 1) (nI q) (nI (0 + 1)) (zI (((q + 1 : Nat) : Int) - 1)) u1 = some (bI (dS (sem N (q + 1) e)), u1) := by
    intro n
    rw [zI_s1, q_M_middleHolds_L9, if_pos (nI_le (Nat.le_refl q) (by omega)), show (0 : Int32).toNatClampNeg = 0 from rfl, s1, bz_bI, gd_t]
  refine ⟨u1, ?_, I1.1, I1.2⟩
  unfold f_M_middleHolds
  rw [lt_q, hE.1, nI_zI N.length, show (1 : Int32) = zI 1 from rfl, zI_sub]
  rw [nI_0] at e1 e2
  rw [e1, e2]
  have e4 := e3 (4096 - (N.length - (q + 1 + ln N (q + 1))) - ln N (q + 1) - 1)
  rw [show 4096 - (N.length - (q + 1 + ln N (q + 1))) - ln N (q + 1) - 1 + 1 = 4096 - (N.length - (q + 1 + ln N (q + 1))) - ln N (q + 1) by omega] at e4
  exact e4
