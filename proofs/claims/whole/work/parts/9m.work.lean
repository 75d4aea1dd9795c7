theorem sM_worked0 {u0 : MS} {N : List Nd} {e : Ev} (hE : ET u0 N) (oN : one N) (hN : ∀ n ∈ N, nok n) (hd : dq N 0 ≤ 1 ∨ (an3 (fv N 0) = false ∧ dq N 0 ≤ 2)) (he : ∀ v, v < 3 → fv N 0 v = true → m_nu u0 v = zI (e v) ∧ -1300 ≤ e v ∧ e v ≤ 1300) : ∃ u', f_M_workedOut_L16 4096 0 (zI ((N.length : Int) - 1)) u0 = some (bI (dS (sem N 0 e)), u') ∧ co u0 u' := by
  have h20 := hE.2.1
  have hw0 := oN.1 0 oN.2.2
  have T : ∀ u, (co u0 u ∧ ∀ v, v < 3 → m_nu u v = m_nu u0 v) → ET u N := fun u h => ET_tb hE (co_tb h.1)
  have W : ∀ u, (co u0 u ∧ ∀ v, v < 3 → m_nu u v = m_nu u0 v) → m_ow u = m_ow u0 := fun u h => cq_ow h.1
  have body : ∀ j, j < N.length → m_ow u0 j = -1 → dq N j ≤ dq N 0 ∧ ∀ v, fv N j v = true → fv N 0 v = true := by
    intro j hj ho
    exact own_in hE oN hN 0 hw0 hw0 j (Nat.zero_le _) (by rw [oN.2.1]; omega) (by rw [hE.2.2.1]; exact ho)
  have key := stk_seg (N := N) (E := fun n t j u => f_M_workedOut_L16 n (nI t) (zI ((j : Int) - 1)) u) (I := fun u => co u0 u ∧ ∀ v, v < 3 → m_nu u v = m_nu u0 v) (st := m_hi) (own := fun j => m_ow u0 j = -1) (leaf := fun j => ∃ y, N[j]? = some y ∧ ((k_pr (n_k y) = false ∧ k_un (n_k y) = false) ∨ k_qu (n_k y) = true)) (val := fun j => dS (sem N j e)) (lb := 0)
    (fun n t j u hI hlb hj ho => by
      show f_M_workedOut_L16 (n + 1) (nI t) (zI (((j + 1 : Nat) : Int) - 1)) u = _
      rw [zI_s1, q_M_workedOut_L16, if_neg (nI_pos (by omega)), gd_s (inb_nI (by omega) (by omega)), nI_clamp (by omega), W u hI, if_neg ho]
      unfold f_M_workedOut_J90
      rw [gd_s (inb_nI (by omega) (by omega)), nI_clamp (by omega), W u hI, if_neg ho, lt_q, nI_m1z])
    (fun n t j u hI hlb hj ho hlf ht => by
      obtain ⟨y, hy, hlf⟩ := hlf
      have ny := List.mem_of_getElem? hy
      obtain ⟨b2, b3⟩ := body j hj ho
      have hk := ((T u hI).2.2.2 j y hy).1.1
      have h9 := kc_lt (n_k y)
      have head : ∀ R, 4 ≤ kc (n_k y) → (if m_ki u j < 4 then f_M_workedOut_J90 (f_M_workedOut_L16 n) (nI t) (nI j) u else R) = R := fun R h4 => if_neg (by rw [hk]; exact nI_nlt (b := 4) h4 (by omega))
      rcases hlf with ⟨hp, hu⟩ | hqy
      · have hb := (hN y ny).2.1 hp hu
        obtain ⟨e1, e2, e3, e4⟩ := n_br hy hp hu hb
        obtain ⟨b, eb, hbb⟩ := sM_bh (e := e) (T u hI) hy hp hu hb (fun v hv h0 => by
          rw [hI.2 v hv]
          have := he v hv (b3 v ((e2 v).trans ((hN y ny).1 v hv h0)))
          exact ⟨this.1, by omega, by omega⟩)
        have h6 : 6 ≤ kc (n_k y) := by rcases kc_br hb with ⟨_, z⟩ | ⟨_, z⟩ | ⟨_, z⟩ <;> omega
        refine ⟨m_p_hi (upd (m_hi u) t (bI b)) u, ?_, ⟨co_tr hI.1 (co_p_hi _ _), hI.2⟩, ?_, fun s hs => pk_un (by omega)⟩
        · show f_M_workedOut_L16 (n + 1) (nI t) (zI (((j + 1 : Nat) : Int) - 1)) u = _
          rw [zI_s1, q_M_workedOut_L16, if_neg (nI_pos (by omega)), gd_s (inb_nI (by omega) (by omega)), nI_clamp (by omega), W u hI, if_pos ho, gd_s (inb_nI (by omega) (by omega)), head _ (by omega), ob_s (sM_isB (T u hI) hy), decide_eq_true h6, if_neg (show ¬ bI true = 0 by decide), ob_s eb]
          unfold f_M_workedOut_J82
          rw [gd_s (inb_nI (by omega) (by omega)), lt_q, lt_q, lt_q, nI_1, nI_m1z, nI_clamp (by omega), nar_b]
        · show upd (m_hi u) t (bI b) t = _
          rw [pk_us]
          congr 1
          exact dS_e (hbb.trans (e1 e).symm)
      · obtain ⟨e1, e2, e3, e4⟩ := n_qu hy hqy
        have ky := kq_33 hqy
        have hwj := oN.1 j hj
        have hwj1 := wf_2 hy ky.2.1 ky.2.2 hwj
        have h45 : kc (n_k y) = 4 ∨ kc (n_k y) = 5 := by rcases kq_or hqy with z | z <;> rw [z] <;> decide
        have fin : ∀ (o : Option (Int32 × MS)), (∃ u1, o = some (bI (dS (sem N j e)), u1) ∧ co u u1 ∧ (∀ v, v < 3 → m_nu u1 v = m_nu u v) ∧ m_hi u1 = m_hi u) → ∃ u', (ob o fun r12 u13 => f_M_workedOut_J82 (f_M_workedOut_L16 n) (nI t) (nI j) r12 (nI t) u13) = f_M_workedOut_L16 n (nI (t + 1)) (zI ((j : Int) - 1)) u' ∧ (co u0 u' ∧ ∀ v, v < 3 → m_nu u' v = m_nu u0 v) ∧ m_hi u' t = bI (dS (sem N j e)) ∧ ∀ s, s < t → m_hi u' s = m_hi u s := by
          rintro o ⟨u1, eb, c1, n1, h1⟩
          rw [ob_s eb]
          unfold f_M_workedOut_J82
          rw [gd_s (inb_nI (by omega) (by omega)), lt_q, lt_q, lt_q, nI_1, nI_m1z, nI_clamp (by omega), nar_b]
          refine ⟨_, rfl, ⟨co_tr hI.1 (co_tr c1 (co_p_hi _ _)), fun v hv => (n1 v hv).trans (hI.2 v hv)⟩, pk_us, fun s hs => ?_⟩
          show upd (m_hi u1) t _ s = m_hi u s
          rw [pk_un (by omega), h1]
        show ∃ u', f_M_workedOut_L16 (n + 1) (nI t) (zI (((j + 1 : Nat) : Int) - 1)) u = f_M_workedOut_L16 n (nI (t + 1)) (zI ((j : Int) - 1)) u' ∧ (co u0 u' ∧ ∀ v, v < 3 → m_nu u' v = m_nu u0 v) ∧ m_hi u' t = bI (dS (sem N j e)) ∧ ∀ s, s < t → m_hi u' s = m_hi u s
        rw [zI_s1, q_M_workedOut_L16, if_neg (nI_pos (by omega)), gd_s (inb_nI (by omega) (by omega)), nI_clamp (by omega), W u hI, if_pos ho, gd_s (inb_nI (by omega) (by omega)), head _ (by omega), ob_s (sM_isB (T u hI) hy), decide_eq_false (show ¬ 6 ≤ kc (n_k y) by omega), if_pos (show bI false = 0 from rfl), ob_s (sM_hasQ (T u hI) oN hN hy hqy)]
        cases hqf : qf N (j + 1)
        · have hdj : ¬ dq N (j + 1) = 0 := fun z => by rw [dq_qf (j + 1) hwj1 z] at hqf; cases hqf
          have hcl : an3 (fv N 0) = false ∧ dq N 0 ≤ 2 := by
            rcases hd with z | z
            · omega
            · exact z
          rw [show bI (!false) = 1 from rfl, if_neg (show ¬ (1 : Int32) = 0 by decide)]
          obtain ⟨u1, z1, z2, z3, z4⟩ := sM_midQ (e := e) (T u hI) oN hN hy hqy (by omega) (fun v hv => by
            cases hf : fv N j v
            · rfl
            · have := b3 v hf
              rw [(an3_f.mp hcl.1) v hv] at this
              cases this)
          exact fin _ ⟨u1, z1, z2, z3, z4⟩
        · rw [show bI (!true) = 0 from rfl, if_pos (show (0 : Int32) = 0 from rfl)]
          obtain ⟨u1, z1, z2, z3, z4, z5⟩ := sM_lowQ (e := e) (T u hI) oN hN hy hqy hqf (fun v hv hva hf => by
            rw [hI.2 v hv]
            exact he v hv (b3 v (by rw [e2, hf, Bool.true_and]; simpa using hva)))
          exact fin _ ⟨u1, z1, z2, z3, z5⟩)
    (fun n t j y u b hI hlb hy h33 ho ht hb => by
      have hj := (List.getElem?_eq_some_iff.mp hy).1
      have ho' : m_ow u j = -1 := by rw [W u hI]; exact ho
      have hk := ((T u hI).2.2.2 j y hy).1.1
      refine ⟨m_p_hi (upd (m_hi u) t (bI (!b))) u, ?_, ⟨co_tr hI.1 (co_p_hi _ _), hI.2⟩, pk_us, fun s hs => pk_un (by omega)⟩
      show f_M_workedOut_L16 (n + 1) (nI (t + 1)) (zI (((j + 1 : Nat) : Int) - 1)) u = _
      rw [zI_s1, q_M_workedOut_L16, if_neg (nI_pos (by omega)), gd_s (inb_nI (by omega) (by omega)), nI_clamp (by omega), if_pos ho', gd_s (inb_nI (by omega) (by omega)), if_pos (show m_ki u j < 4 by rw [hk, h33]; decide)]
      exact (hi_op (T u hI) hy ho').1 t b h33 ht hb)
    (fun n t j y u a b hI hlb hy hp ho ht ha hb => by
      have hj := (List.getElem?_eq_some_iff.mp hy).1
      have ho' : m_ow u j = -1 := by rw [W u hI]; exact ho
      have hk := ((T u hI).2.2.2 j y hy).1.1
      have hlt : kc (n_k y) < 3 := by rcases kp_or hp with e | e | e <;> rw [e] <;> decide
      refine ⟨m_p_hi (upd (m_hi u) t (bI (jn (n_k y) a b))) u, ?_, ⟨co_tr hI.1 (co_p_hi _ _), hI.2⟩, pk_us, fun s hs => pk_un (by omega)⟩
      show f_M_workedOut_L16 (n + 1) (nI (t + 1 + 1)) (zI (((j + 1 : Nat) : Int) - 1)) u = _
      rw [zI_s1, q_M_workedOut_L16, if_neg (nI_pos (by omega)), gd_s (inb_nI (by omega) (by omega)), nI_clamp (by omega), if_pos ho', gd_s (inb_nI (by omega) (by omega)), if_pos (show m_ki u j < 4 by rw [hk]; exact nI_lt (b := 4) (by omega) (by omega))]
      exact (hi_op (T u hI) hy ho').2 t a b hp ht ha hb)
    (fun j y hlb hy h33 ho => by
      have mo := (hE.2.2.2 j y hy).2.2.1 h33
      rw [Nat.zero_add] at mo
      refine ⟨mo.trans ho, ?_⟩
      rw [← dS_not]
      exact dS_c ((n_33 hy h33).1 e))
    (fun j y hlb hy hp ho => by
      have mo := (hE.2.2.2 j y hy).2.1 hp
      rw [Nat.zero_add] at mo
      refine ⟨mo.1.trans ho, mo.2.trans ho, ?_⟩
      rw [← dS_jn hp]
      exact dS_c ((n_pr hy hp).1 e))
    (fun j y hlb hy hqy hwj ho => ⟨⟨y, hy, Or.inr hqy⟩, fun i h1 h2 z => ow_qin hE oN hy hqy h1 h2 (z.trans ho.symm)⟩)
    (fun j y hlb hy hp hu ho => ⟨y, hy, Or.inl ⟨hp, hu⟩⟩)
    0 hw0 hw0 (Nat.le_refl _) hE.2.2.1
  have I0 : co u0 u0 ∧ ∀ v, v < 3 → m_nu u0 v = m_nu u0 v := ⟨co_rf u0, fun _ _ => rfl⟩
  obtain ⟨u1, e2, I1, s1, -⟩ := key (4096 - N.length) 0 u0 I0 (by rw [oN.2.1]; omega)
  rw [oN.2.1] at e2
  have e2 : f_M_workedOut_L16 (4096 - N.length + N.length) (nI 0) (zI (((0 + N.length : Nat) : Int) - 1)) u0 = f_M_workedOut_L16 (4096 - N.length) (nI (0 + 1)) (zI (((0 : Nat) : Int) - 1)) u1 := e2
  rw [show 4096 - N.length + N.length = 4096 by omega, Nat.zero_add, nI_0] at e2
  refine ⟨u1, ?_, I1.1⟩
  rw [e2, show 4096 - N.length = (4095 - N.length) + 1 by omega, q_M_workedOut_L16, if_pos zI_m1, show (0 : Int32).toNatClampNeg = 0 from rfl, s1, bz_bI, gd_t]
theorem sM_worked {u : MS} {N : List Nd} (hE : ET u N) (oN : one N) (hN : ∀ n ∈ N, nok n) (hf : ∀ v, v < 3 → fv N 0 v = true → v = 0) (hd : dq N 0 ≤ 1 ∨ (an3 (fv N 0) = false ∧ dq N 0 ≤ 2)) {v : Int} (v1 : -1200 ≤ v) (v2 : v ≤ 1200) : ∃ u', f_M_workedOut (zI v) u = some (bI (fS N v), u') ∧ co u u' := by
  unfold f_M_workedOut
  rw [lt_q, show (0 : Int32).toNatClampNeg = 0 from rfl, lt_q, show m_cl (m_p_nu (upd (m_nu u) 0 (zI v)) u) = nI N.length from hE.1, nI_zI N.length, show (1 : Int32) = zI 1 from rfl, zI_sub]
  have hc : co u (m_p_nu (upd (m_nu u) 0 (zI v)) u) := co_p_nu _ _
  obtain ⟨u', e1, c1⟩ := sM_worked0 (u0 := m_p_nu (upd (m_nu u) 0 (zI v)) u) (e := ev1 0 v (fun _ => 0)) (ET_tb hE (co_tb hc)) oN hN hd (fun w hw hfw => by
    rw [hf w hw hfw, ev1_s]
    exact ⟨(show upd (m_nu u) 0 (zI v) 0 = zI v from pk_us), by omega, by omega⟩)
  refine ⟨u', ?_, co_tr hc c1⟩
  rw [e1, show dS (sem N 0 (ev1 0 v (fun _ => 0))) = fS N v from (dS_e fS_t).symm]
