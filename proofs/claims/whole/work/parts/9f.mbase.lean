theorem nI_m1 {v : Nat} (hv : v < 1000) : ¬ nI v = -1 := by
  intro z
  have := nI_pos (n := v) (by omega)
  rw [z] at this
  exact this (by decide)
theorem sM_restS {u : MS} {N : List Nd} {i v n : Nat} {x : Nd} {a2 : Int32} {e : Ev} {acc : Int} (hE : ET u N) (hx : N[i]? = some x) (hp : k_pr (n_k x) = false) (hu : k_un (n_k x) = false) (hv : v < 3) (hs : nI v = a2 → e v = 0) (hn : ¬ nI v = a2 → n_c x v ≠ 0 → m_nu u v = zI (e v)) :
    f_M_rest_L14 (n + 1) (nI i) a2 (zI acc) (nI v) u = f_M_rest_L14 n (nI i) a2 (zI (acc + n_c x v * e v)) (nI (v + 1)) u := by
  have hi := (List.getElem?_eq_some_iff.mp hx).1
  have h20 := hE.2.1
  have hsu := ((hE.2.2.2 i x hx).1.2.2.2 hp hu).1 v hv
  rw [q_M_rest_L14, if_neg (show ¬ (3 : Int32) ≤ nI v from nI_ge (b := 3) hv (by omega))]
  by_cases ha : nI v = a2
  · rw [if_pos ha, lt_q, nI_1, hs ha, Int.mul_zero, Int.add_zero]
  · rw [if_neg ha, n4, gd_s (inb_nI (by omega) (by omega)), gd_s (inb_nI (by omega) (by omega)), lt_q, lt_q, nI_1, nI_clamp (n := 4 * i + v) (by omega), nI_clamp (n := v) (by omega), hsu]
    by_cases h0 : n_c x v = 0
    · rw [zI_of (m_nu u v), zI_mul, zI_add, h0, Int.zero_mul, Int.zero_mul]
    · rw [hn ha h0, zI_mul, zI_add]
theorem sM_rest {u : MS} {N : List Nd} {i : Nat} {x : Nd} {a2 : Int32} {e : Ev} (hE : ET u N) (hx : N[i]? = some x) (hp : k_pr (n_k x) = false) (hu : k_un (n_k x) = false) (hs : ∀ v, v < 3 → nI v = a2 → e v = 0) (hn : ∀ v, v < 3 → ¬ nI v = a2 → n_c x v ≠ 0 → m_nu u v = zI (e v)) : f_M_rest (nI i) a2 u = some (zI (n_v x e), u) := by
  have hi := (List.getElem?_eq_some_iff.mp hx).1
  have h20 := hE.2.1
  have g : f_M_rest_L14 4096 (nI i) a2 (zI (n_n x)) (nI 0) u = some (zI (n_v x e), u) := by
    rw [show (4096 : Nat) = 4092 + 1 + 1 + 1 + 1 from rfl, sM_restS hE hx hp hu (by omega) (hs 0 (by omega)) (hn 0 (by omega)), sM_restS hE hx hp hu (by omega) (hs (0 + 1) (by omega)) (hn (0 + 1) (by omega)), sM_restS hE hx hp hu (by omega) (hs (0 + 1 + 1) (by omega)) (hn (0 + 1 + 1) (by omega)), q_M_rest_L14, if_pos (show (3 : Int32) ≤ nI (0 + 1 + 1 + 1) by decide)]
    unfold n_v
    congr 3
    show n_n x + n_c x 0 * e 0 + n_c x 1 * e 1 + n_c x 2 * e 2 = n_c x 0 * e 0 + n_c x 1 * e 1 + n_c x 2 * e 2 + n_n x
    omega
  rw [nI_0] at g
  unfold f_M_rest
  rw [show (3 : Int32) = nI 3 from rfl, n4, gd_s (inb_nI (by omega) (by omega)), nI_clamp (by omega), ((hE.2.2.2 i x hx).1.2.2.2 hp hu).2, lt_q]
  exact g
theorem kc_br {x : Nd} (hb : brk x) : (n_k x = 60 ∧ kc (n_k x) = 6) ∨ (n_k x = 61 ∧ kc (n_k x) = 7) ∨ (n_k x = 58 ∧ kc (n_k x) = 8) := by
  rcases hb.1 with e | e | e
  · left; exact ⟨e, by rw [e]; rfl⟩
  · right; left; exact ⟨e, by rw [e]; rfl⟩
  · right; right; exact ⟨e, by rw [e]; rfl⟩
theorem sM_bh {u : MS} {N : List Nd} {i : Nat} {x : Nd} {e : Ev} (hE : ET u N) (hx : N[i]? = some x) (hp : k_pr (n_k x) = false) (hu : k_un (n_k x) = false) (hb : brk x) (hn : ∀ v, v < 3 → n_c x v ≠ 0 → m_nu u v = zI (e v) ∧ -20000 ≤ e v ∧ e v ≤ 20000) : ∃ b : Bool, f_M_bracketHolds (nI i) u = some (bI b, u) ∧ (b = true ↔ n_h x e) := by
  have hi := (List.getElem?_eq_some_iff.mp hx).1
  have h20 := hE.2.1
  have er := sM_rest (a2 := -1) (e := e) hE hx hp hu (fun v hv z => absurd z (nI_m1 (by omega))) (fun v hv _ h0 => (hn v hv h0).1)
  have bd := n_v_bd hb (e := e) (B := 20000) (by omega) (fun v hv h0 => (hn v hv h0).2)
  obtain ⟨k1, k2, k3, k4⟩ := (hE.2.2.2 i x hx).1
  unfold f_M_bracketHolds
  rw [ob_s er, gd_s (inb_nI (by omega) (by omega)), nI_clamp (by omega), k1, bz0, bz1]
  unfold n_h ln_h
  generalize n_v x e = s at bd ⊢
  rcases kc_br hb with ⟨k, kk⟩ | ⟨k, kk⟩ | ⟨k, kk⟩
  · rw [kk, if_pos (show nI 6 = 6 from rfl), gd_t, gd_t, if_pos k]
    by_cases h0 : 0 ≤ s
    · rw [if_pos ((zI_nn (by omega) (by omega)).mpr h0)]
      exact ⟨false, rfl, by constructor; intro z; cases z; intro z; omega⟩
    · rw [if_neg (fun z => h0 ((zI_nn (by omega) (by omega)).mp z))]
      exact ⟨true, rfl, by constructor; intro _; omega; intro _; rfl⟩
  · rw [kk, if_neg (show ¬ nI 7 = 6 by decide), gd_s (inb_nI (by omega) (by omega)), if_pos (show nI 7 = 7 from rfl), gd_t, gd_t, if_neg (show ¬ n_k x = 60 by omega), if_pos k]
    by_cases h0 : s = 0
    · rw [if_pos ((zI_z (by omega) (by omega)).mpr h0)]
      exact ⟨true, rfl, by constructor; intro _; exact h0; intro _; rfl⟩
    · rw [if_neg (fun z => h0 ((zI_z (by omega) (by omega)).mp z))]
      exact ⟨false, rfl, by constructor; intro z; cases z; intro z; exact absurd z h0⟩
  · have hd := hb.2.1 k
    have hnz : nz (nI (n_a x)) = true := by rcases hd with z | z <;> rw [z] <;> decide
    have er2 : zI s - zI s / nI (n_a x) * nI (n_a x) = zI (s.tmod (n_a x)) := by
      rw [nI_zI]
      exact zI_rem (by omega) (by omega) (by omega) (by omega)
    have hdz : s.tmod (n_a x) = 0 ↔ ((n_a x : Nat) : Int) ∣ s := tmod_dvd (by omega)
    have htb : -2147483648 ≤ s.tmod (n_a x) ∧ s.tmod (n_a x) < 2147483648 := by
      obtain ⟨t1, t2, t3⟩ := tm_q (a := s) (d := ((n_a x : Nat) : Int)) (by omega)
      rcases Int.lt_or_le s 0 with h | h
      · have := t3 (by omega); omega
      · have := t2 (by omega); omega
    rw [kk, if_neg (show ¬ nI 8 = 6 by decide), gd_s (inb_nI (by omega) (by omega)), if_neg (show ¬ nI 8 = 7 by decide), gd_s (inb_nI (by omega) (by omega)), k3 k, hnz, gd_t, gd_t, gd_t, er2, if_neg (show ¬ n_k x = 60 by omega), if_neg (show ¬ n_k x = 61 by omega)]
    by_cases h0 : ((n_a x : Nat) : Int) ∣ s
    · rw [if_pos ((zI_z htb.1 htb.2).mpr (hdz.mpr h0))]
      exact ⟨true, rfl, by constructor; intro _; exact h0; intro _; rfl⟩
    · rw [if_neg (fun z => h0 (hdz.mp ((zI_z htb.1 htb.2).mp z)))]
      exact ⟨false, rfl, by constructor; intro z; cases z; intro z; exact absurd z h0⟩
theorem kc_lt (k : Nat) : kc k < 9 := by
  unfold kc
  repeat' split
  all_goals omega
theorem kc_f {x : Nd} (h : nok x) : (k_pr (n_k x) = true ↔ kc (n_k x) < 3) ∧ (n_k x = 33 ↔ kc (n_k x) = 3) ∧ (k_qu (n_k x) = true ↔ kc (n_k x) = 4 ∨ kc (n_k x) = 5) ∧ (kc (n_k x) = 4 ↔ n_k x = 69) := by
  rcases kd_cases h with hk | hk | hk | ⟨hp, hu, hb⟩
  · rw [hk]; decide
  · rcases kp_or hk with e | e | e <;> rw [e] <;> decide
  · rcases kq_or hk with e | e <;> rw [e] <;> decide
  · rcases hb.1 with e | e | e <;> rw [e] <;> decide
theorem sM_isB {u : MS} {N : List Nd} {i : Nat} {x : Nd} (hE : ET u N) (hx : N[i]? = some x) : f_M_isBracket (nI i) u = some (bI (decide (6 ≤ kc (n_k x))), u) := by
  have hi := (List.getElem?_eq_some_iff.mp hx).1
  have h20 := hE.2.1
  have hk := kc_lt (n_k x)
  unfold f_M_isBracket
  rw [gd_s (inb_nI (by omega) (by omega)), nI_clamp (by omega), (hE.2.2.2 i x hx).1.1, bz0, bz1, gd_t, gd_t]
  by_cases h : 6 ≤ kc (n_k x)
  · rw [if_neg (show ¬ nI (kc (n_k x)) < 6 from nI_nlt (b := 6) h (by omega)), decide_eq_true h]; rfl
  · rw [if_pos (show nI (kc (n_k x)) < 6 from nI_lt (b := 6) (by omega) (by omega)), decide_eq_false h]; rfl
theorem sM_jnP {k : Nat} (hk : k_pr k = true) (a b : Bool) (u : MS) : f_M_joined (nI (kc k)) (bI a) (bI b) u = some (bI (jn k a b), u) := by
  unfold f_M_joined
  rcases kp_or hk with e | e | e <;> subst e <;> cases a <;> cases b <;> rfl
theorem sM_jnN (a b : Bool) (u : MS) : f_M_joined (nI (kc 33)) (bI a) (bI b) u = some (bI (!a), u) := by
  unfold f_M_joined
  cases a <;> cases b <;> rfl
theorem nar_b (b : Bool) : vp_nar .boolean (bI b) = bI b := by cases b <;> rfl
theorem nI_p2 (t : Nat) : nI (t + 1 + 1) - 2 = nI t := by
  rw [show (2 : Int32) = nI 2 from rfl, pk_sub (by omega), show t + 1 + 1 - 2 = t by omega]
/-- the nodes of a claim without quantifiers -/
theorem qf_in {N : List Nd} (hN : ∀ n ∈ N, nok n) : ∀ i, wf N i = true → wf N i = true → qf N i = true → ∀ j, i ≤ j → j < i + ln N i → qf N j = true ∧ ∀ v, fv N j v = true → fv N i v = true := by
  refine cl_ind ?_
  intro i x hx hpr hun hw hqf j h1 h2
  have nx := List.mem_of_getElem? hx
  by_cases hji : j = i
  · subst hji; exact ⟨hqf, fun v h => h⟩
  rcases kd_cases (hN x nx) with hk | hk | hk | ⟨hp, hu, hb⟩
  · obtain ⟨e1, e2, e3, e4⟩ := n_33 hx hk
    have hp : k_pr (n_k x) = false := by rw [hk]; rfl
    have hu : k_un (n_k x) = true := by rw [hk]; rfl
    rw [ln_un hx hp hu] at h2
    obtain ⟨a, b⟩ := hun hp hu (wf_2 hx hp hu hw) (e3 ▸ hqf) j (by omega) (by omega)
    exact ⟨a, fun v h => (e2 v).trans (b v h)⟩
  · obtain ⟨e1, e2, e3, e4⟩ := n_pr hx hk
    rw [e3, Bool.and_eq_true] at hqf
    obtain ⟨p1, p2⟩ := hpr hk
    obtain ⟨w1, w2⟩ := wf_1 hx hk hw
    rw [ln_pr hx hk] at h2
    rcases Nat.lt_or_ge j (i + 1 + ln N (i + 1)) with z | z
    · obtain ⟨a, b⟩ := p1 w1 hqf.1 j (by omega) z
      exact ⟨a, fun v h => by rw [e2, b v h, Bool.true_or]⟩
    · obtain ⟨a, b⟩ := p2 w2 hqf.2 j z (by omega)
      exact ⟨a, fun v h => by rw [e2, b v h, Bool.or_true]⟩
  · obtain ⟨e1, e2, e3, e4⟩ := n_qu hx hk
    rw [e3] at hqf; cases hqf
  · rw [ln_br hx hp hu] at h2; omega
noncomputable def dS (P : Prop) : Bool := @decide P (Classical.propDecidable P)
theorem dS_t {P : Prop} : dS P = true ↔ P := by
  exact @decide_eq_true_iff _ (Classical.propDecidable _)
theorem dS_e {P : Prop} {b : Bool} (h : b = true ↔ P) : b = dS P := by
  cases b
  · cases h2 : dS P
    · rfl
    · have := h.mpr (dS_t.mp h2); cases this
  · exact (dS_t.mpr (h.mp rfl)).symm
theorem dS_not {P : Prop} : dS (¬ P) = !dS P := by
  refine (dS_e ?_).symm
  rw [Bool.not_eq_true', ← Bool.not_eq_true, dS_t]
theorem dS_jn {k : Nat} {P Q : Prop} (hk : k_pr k = true) : dS (g_jn k P Q) = jn k (dS P) (dS Q) := by
  refine (dS_e ?_).symm
  unfold g_jn jn
  rcases kp_or hk with e | e | e
  · subst e
    show (dS P && dS Q) = true ↔ P ∧ Q
    rw [Bool.and_eq_true, dS_t, dS_t]
  · subst e
    show (dS P || dS Q) = true ↔ P ∨ Q
    rw [Bool.or_eq_true, dS_t, dS_t]
  · subst e
    show (!dS P || dS Q) = true ↔ (P → Q)
    rw [Bool.or_eq_true, Bool.not_eq_true', ← Bool.not_eq_true, dS_t, dS_t]
    constructor
    · rintro (h | h) p
      · exact absurd p h
      · exact h
    · intro h
      by_cases p : P
      · exact Or.inr (h p)
      · exact Or.inl p
theorem dS_c {P Q : Prop} (h : P ↔ Q) : dS P = dS Q := dS_e (dS_t.trans h)
