theorem op3_or2 : ∀ a b c a' b' c' : Bool, op3 a b c ||| op3 a' b' c' = op3 (a || a') (b || b') (c || c') := by decide
theorem op3_an : ∀ a b c : Bool, (op3 a b c &&& ((1 <<< (nI 0 &&& 31)) ^^^ (-1)) = op3 false b c) ∧ (op3 a b c &&& ((1 <<< (nI 1 &&& 31)) ^^^ (-1)) = op3 a false c) ∧ (op3 a b c &&& ((1 <<< (nI 2 &&& 31)) ^^^ (-1)) = op3 a b false) := by decide
theorem opm_or2 (o p : Nat → Bool) : opm o ||| opm p = opm (fun v => o v || p v) := op3_or2 _ _ _ _ _ _
theorem opm_an (o : Nat → Bool) {q : Nat} (hq : q < 3) : opm o &&& ((1 <<< (nI q &&& 31)) ^^^ (-1)) = opm (fun v => o v && !(v == q)) := by
  obtain ⟨h0, h1, h2⟩ := op3_an (o 0) (o 1) (o 2)
  rcases (show q = 0 ∨ q = 1 ∨ q = 2 by omega) with e | e | e
  · subst e
    refine Eq.trans h0 ?_
    unfold opm
    simp
  · subst e
    refine Eq.trans h1 ?_
    unfold opm
    simp
  · subst e
    refine Eq.trans h2 ?_
    unfold opm
    simp
/-- whether one of x, y, z stands in it -/
def an3 (o : Nat → Bool) : Bool := o 0 || o 1 || o 2
theorem an3_f {o : Nat → Bool} : an3 o = false ↔ ∀ v, v < 3 → o v = false := by
  unfold an3
  rw [Bool.or_eq_false_iff, Bool.or_eq_false_iff]
  constructor
  · rintro ⟨⟨a, b⟩, c⟩ v hv
    rcases (show v = 0 ∨ v = 1 ∨ v = 2 by omega) with e | e | e
    · rw [e]; exact a
    · rw [e]; exact b
    · rw [e]; exact c
  · intro h
    exact ⟨⟨h 0 (by omega), h 1 (by omega)⟩, h 2 (by omega)⟩
theorem opm_a3 (o : Nat → Bool) : opm o = 0 ↔ an3 o = false := opm_0.trans an3_f.symm
/-- the table, but for what is open -/
def CS (u : KS) (N : List Nd) : Prop := k_cn u = nI N.length ∧ N.length ≤ 20 ∧ ∀ i x, N[i]? = some x → k_kd u i = nI (n_k x) ∧ (k_qu (n_k x) = true → k_vr u i = nI (n_a x)) ∧ (n_k x = 58 → k_dv u i = nI (n_a x)) ∧ k_nu u i = zI (n_n x) ∧ (∀ v, v < 3 → k_fa u (i * 3 + v) = zI (n_c x v)) ∧ (k_pr (n_k x) = true → k_sc u i = nI (i + 1 + ln N (i + 1)))
/-- the table -/
def CV (u : KS) (N : List Nd) : Prop := CS u N ∧ ∀ i, i < N.length → k_op u i = opm (fv N i)
/-- all but what is open stays -/
def fo (a b : KS) : Prop := tx a b ∧ k_kd b = k_kd a ∧ k_sc b = k_sc a ∧ k_vr b = k_vr a ∧ k_dv b = k_dv a ∧ k_nu b = k_nu a ∧ k_fa b = k_fa a ∧ k_cn b = k_cn a ∧ k_at b = k_at a ∧ k_br b = k_br a ∧ k_ne b = k_ne a ∧ k_va b = k_va a
theorem fo_rf (a : KS) : fo a a := ⟨tx_rf a, rfl, rfl, rfl, rfl, rfl, rfl, rfl, rfl, rfl, rfl, rfl⟩
theorem fo_op (x : Nat → Int32) (a : KS) : fo a (k_p_op x a) := ⟨⟨rfl, rfl, rfl, rfl, rfl, rfl⟩, rfl, rfl, rfl, rfl, rfl, rfl, rfl, rfl, rfl, rfl, rfl⟩
theorem fo_tr {a b c : KS} (h : fo a b) (g : fo b c) : fo a c := by
  obtain ⟨h0, h1, h2, h3, h4, h5, h6, h7, h8, h9, h10, h11⟩ := h
  obtain ⟨g0, g1, g2, g3, g4, g5, g6, g7, g8, g9, g10, g11⟩ := g
  exact ⟨tx_tr h0 g0, g1.trans h1, g2.trans h2, g3.trans h3, g4.trans h4, g5.trans h5, g6.trans h6, g7.trans h7, g8.trans h8, g9.trans h9, g10.trans h10, g11.trans h11⟩
theorem CS_fo {a b : KS} {N : List Nd} (h : CS a N) (g : fo a b) : CS b N := by
  obtain ⟨g0, g1, g2, g3, g4, g5, g6, g7, g8, g9, g10, g11⟩ := g
  obtain ⟨h1, h2, h3⟩ := h
  refine ⟨g7.trans h1, h2, fun i x hx => ?_⟩
  rw [g1, g2, g3, g4, g5, g6]
  exact h3 i x hx
theorem sC_openOf {u : KS} {i m : Nat} (hi : i < m) (hm : m ≤ 20) (hc : k_cn u = nI m) : f_C_openOf (nI i) u = some (k_op u i, u) := by
  unfold f_C_openOf
  rw [ob_s (sC_has hi hm hc), if_neg (by decide), gd_s (inb_nI (by omega) (by omega)), nI_clamp (by omega)]
theorem sC_isOpen {u : KS} {i m : Nat} {o : Nat → Bool} (hi : i < m) (hm : m ≤ 20) (hc : k_cn u = nI m) (ho : k_op u i = opm o) : f_C_isOpen (nI i) u = some (bI (an3 o), u) := by
  unfold f_C_isOpen
  rw [ob_s (sC_has hi hm hc), if_neg (by decide), gd_s (inb_nI (by omega) (by omega)), nI_clamp (by omega), ho, bz0, bz1, gd_t, gd_t]
  cases h : an3 o
  · rw [if_pos ((opm_a3 o).mpr h)]; rfl
  · rw [if_neg (fun z => by rw [(opm_a3 o).mp z] at h; cases h)]; rfl
theorem kd_cases {x : Nd} (h : nok x) : n_k x = 33 ∨ k_pr (n_k x) = true ∨ k_qu (n_k x) = true ∨ (k_pr (n_k x) = false ∧ k_un (n_k x) = false ∧ brk x) := by
  cases hp : k_pr (n_k x)
  · cases hu : k_un (n_k x)
    · exact Or.inr (Or.inr (Or.inr ⟨rfl, rfl, h.2.1 hp hu⟩))
    · rcases ku_or hu with e | e | e
      · exact Or.inl e
      · right; right; left; rw [e]; rfl
      · right; right; left; rw [e]; rfl
  · exact Or.inr (Or.inl rfl)
theorem sC_findL {N : List Nd} (oN : one N) (hN : ∀ x ∈ N, nok x) : ∀ (j n : Nat) (u : KS), j < n → j ≤ N.length → CS u N → (∀ i, j ≤ i → i < N.length → k_op u i = opm (fv N i)) → (∀ i x, i < j → N[i]? = some x → k_op u i = opm (n_o x)) →
    ∃ u', f_C_findOpen_L7 n (zI ((j : Int) - 1)) u = some ((), u') ∧ fo u u' ∧ ∀ i, i < N.length → k_op u' i = opm (fv N i) := by
  intro j
  induction j with
  | zero =>
    intro n u hn _ hS h1 _
    obtain ⟨n, rfl⟩ : ∃ k, n = k + 1 := ⟨n - 1, by omega⟩
    rw [q_C_findOpen_L7, if_pos zI_m1]
    exact ⟨u, rfl, fo_rf u, fun i hi => h1 i (by omega) hi⟩
  | succ j ih =>
    intro n u hn hj hS h1 h2
    obtain ⟨n, rfl⟩ : ∃ k, n = k + 1 := ⟨n - 1, by omega⟩
    obtain ⟨x, hx⟩ : ∃ x, N[j]? = some x := ⟨_, List.getElem?_eq_getElem (by omega)⟩
    have hw := oN.1 j (by omega)
    have hS' := hS
    obtain ⟨s1, s2, s3⟩ := hS'
    obtain ⟨t1, t2, t3, t4, t5, t6⟩ := s3 j x hx
    have upd_ : ∀ z : Int32, z = opm (fv N j) → ∃ u', f_C_findOpen_L7 n (nI j + (-1)) (k_p_op (upd (k_op u) j z) u) = some ((), u') ∧ fo u u' ∧ ∀ i, i < N.length → k_op u' i = opm (fv N i) := by
      intro z hz
      rw [nI_m1z]
      obtain ⟨u', e, f, g⟩ := ih n (k_p_op (upd (k_op u) j z) u) (by omega) (by omega) (CS_fo hS (fo_op _ _)) (fun i hi hl => by
        show upd (k_op u) j z i = _
        by_cases hij : i = j
        · subst hij
          rw [pk_us, hz]
        · rw [pk_un hij]
          exact h1 i (by omega) hl) (fun i y hi hy => by
        show upd (k_op u) j z i = _
        rw [pk_un (by omega)]
        exact h2 i y (by omega) hy)
      exact ⟨u', e, fo_tr (fo_op _ _) f, g⟩
    have fe := fv_eq hx
    have nx := List.mem_of_getElem? hx
    rw [zI_s1, q_C_findOpen_L7, if_neg (nI_pos (by omega)), gd_s (inb_nI (by omega) (by omega)), nI_clamp (by omega), t1]
    rcases kd_cases (hN x nx) with hk | hk | hk | hk
    · have hw1 := wf_2 hx (by rw [hk]; rfl) (by rw [hk]; rfl) hw
      obtain ⟨y, hy⟩ := wf_in hw1
      have hl := (List.getElem?_eq_some_iff.mp hy).1
      rw [hk, if_pos (show nI 33 = 33 from rfl), nI_1, ob_s (sC_openOf hl s2 s1), gd_s (inb_nI (by omega) (by omega)), lt_q, lt_q]
      refine upd_ _ ?_
      rw [h1 (j + 1) (by omega) hl, fe]
      congr 1
      funext v
      show _ = (if n_k x = 33 then _ else _)
      rw [if_pos hk]
    · obtain ⟨hw1, hw2⟩ := wf_1 hx hk hw
      obtain ⟨y, hy⟩ := wf_in hw1
      obtain ⟨y2, hy2⟩ := wf_in hw2
      have hl := (List.getElem?_eq_some_iff.mp hy).1
      have hl2 := (List.getElem?_eq_some_iff.mp hy2).1
      have e92 : ∃ u', f_C_findOpen_J92 (f_C_findOpen_L7 n) (nI j) u = some ((), u') ∧ fo u u' ∧ ∀ i, i < N.length → k_op u' i = opm (fv N i) := by
        unfold f_C_findOpen_J92
        rw [nI_1, ob_s (sC_openOf hl s2 s1), gd_s (inb_nI (by omega) (by omega)), nI_clamp (by omega), t6 hk, ob_s (sC_openOf hl2 s2 s1), gd_s (inb_nI (by omega) (by omega)), lt_q, lt_q]
        refine upd_ _ ?_
        rw [h1 (j + 1) (by omega) hl, h1 (j + 1 + ln N (j + 1)) (by omega) hl2, opm_or2, fe]
        congr 1
        funext v
        show _ = (if n_k x = 33 then _ else if k_pr (n_k x) = true then _ else _)
        rw [if_neg (kp_33 hk), if_pos hk]
      rcases kp_or hk with e | e | e
      · rw [e, if_neg (show ¬ nI 38 = 33 by decide), if_pos (show nI 38 = 38 from rfl)]
        exact e92
      · rw [e, if_neg (show ¬ nI 47 = 33 by decide), if_neg (show ¬ nI 47 = 38 by decide), if_pos (show nI 47 = 47 from rfl)]
        exact e92
      · rw [e, if_neg (show ¬ nI 62 = 33 by decide), if_neg (show ¬ nI 62 = 38 by decide), if_neg (show ¬ nI 62 = 47 by decide), if_pos (show nI 62 = 62 from rfl)]
        exact e92
    · have k1 := kq_33 hk
      have hw1 := wf_2 hx k1.2.1 k1.2.2 hw
      obtain ⟨y, hy⟩ := wf_in hw1
      have hl := (List.getElem?_eq_some_iff.mp hy).1
      have hv3 := (hN x nx).2.2 hk
      have e119 : ∃ u', f_C_findOpen_J119 (f_C_findOpen_L7 n) (nI j) u = some ((), u') ∧ fo u u' ∧ ∀ i, i < N.length → k_op u' i = opm (fv N i) := by
        unfold f_C_findOpen_J119
        rw [nI_1, ob_s (sC_openOf hl s2 s1), gd_s (inb_nI (by omega) (by omega)), gd_s (inb_nI (by omega) (by omega)), nI_clamp (by omega), t2 hk, lt_q, lt_q]
        refine upd_ _ ?_
        rw [h1 (j + 1) (by omega) hl, opm_an _ hv3, fe]
        congr 1
        funext v
        show _ = (if n_k x = 33 then _ else if k_pr (n_k x) = true then _ else if k_qu (n_k x) = true then _ else _)
        rw [if_neg k1.1, if_neg (show ¬ k_pr (n_k x) = true by rw [k1.2.1]; decide), if_pos hk]
      rcases kq_or hk with e | e
      · rw [e, if_neg (show ¬ nI 69 = 33 by decide), if_neg (show ¬ nI 69 = 38 by decide), if_neg (show ¬ nI 69 = 47 by decide), if_neg (show ¬ nI 69 = 62 by decide), if_neg (show ¬ nI 69 = 65 by decide), if_pos (show nI 69 = 69 from rfl)]
        exact e119
      · rw [e, if_neg (show ¬ nI 65 = 33 by decide), if_neg (show ¬ nI 65 = 38 by decide), if_neg (show ¬ nI 65 = 47 by decide), if_neg (show ¬ nI 65 = 62 by decide), if_pos (show nI 65 = 65 from rfl)]
        exact e119
    · obtain ⟨hp, hu, hb⟩ := hk
      obtain ⟨u33, uq⟩ := kun_f hu
      have hop : k_op u j = opm (fv N j) := by
        rw [h2 j x (by omega) hx, fe]
        congr 1
        funext v
        show _ = (if n_k x = 33 then _ else if k_pr (n_k x) = true then _ else if k_qu (n_k x) = true then _ else _)
        rw [if_neg u33, if_neg (show ¬ k_pr (n_k x) = true by rw [hp]; decide), if_neg (show ¬ k_qu (n_k x) = true by rw [uq]; decide)]
      have hc : ∀ k : Nat, k < 1000 → n_k x ≠ k → ¬ nI (n_k x) = nI k := fun k h1 h2 => ne_l (k := k) rfl (by rcases hb.1 with e | e | e <;> omega) h1 h2
      have hne : n_k x ≠ 33 ∧ n_k x ≠ 38 ∧ n_k x ≠ 47 ∧ n_k x ≠ 62 ∧ n_k x ≠ 65 ∧ n_k x ≠ 69 := by rcases hb.1 with e | e | e <;> omega
      rw [if_neg (show ¬ nI (n_k x) = 33 from hc 33 (by omega) hne.1), if_neg (show ¬ nI (n_k x) = 38 from hc 38 (by omega) hne.2.1), if_neg (show ¬ nI (n_k x) = 47 from hc 47 (by omega) hne.2.2.1), if_neg (show ¬ nI (n_k x) = 62 from hc 62 (by omega) hne.2.2.2.1), if_neg (show ¬ nI (n_k x) = 65 from hc 65 (by omega) hne.2.2.2.2.1), if_neg (show ¬ nI (n_k x) = 69 from hc 69 (by omega) hne.2.2.2.2.2), lt_q, nI_m1z]
      exact ih n u (by omega) (by omega) hS (fun i hi hl => by
        by_cases hij : i = j
        · rw [hij]; exact hop
        · exact h1 i (by omega) hl) (fun i y hi hy => h2 i y (by omega) hy)
