theorem L49_done {F : Nat} {a b c d : Int32} {w : MS} (h : 0 ≤ m_fa w) : f_M_readClaims_L49 (F + 1) a b c d w = some ((), w) := by
  rw [q_M_readClaims_L49, if_pos h]
theorem nI_p1 (t : Nat) : nI (t + 1) - 1 = nI t := by
  rw [show (1 : Int32) = nI 1 from rfl, pk_sub (by omega), Nat.add_sub_cancel]
/-- the open claims of the reference's stack, all before s -/
def STK (u : MS) (t s : Nat) : Prop := ∀ j, 1 ≤ j → j ≤ t → ∃ idx : Nat, idx < s ∧ m_op u j = nI idx ∧ (m_le u j = 1 ∨ m_le u j = 2) ∧ (¬ m_nk u idx < 4 → ∃ a : Nat, a < 3 ∧ m_na u idx = nI a)
theorem le_o (y : Nat → Int32) (u : MS) : m_ty (m_p_le y u) = m_ty u ∧ m_si (m_p_le y u) = m_si u ∧ m_ch (m_p_le y u) = m_ch u ∧ m_at (m_p_le y u) = m_at u ∧ m_fa (m_p_le y u) = m_fa u ∧ m_re (m_p_le y u) = m_re u ∧ m_rb (m_p_le y u) = m_rb u ∧ m_rf (m_p_le y u) = m_rf u ∧ m_dp (m_p_le y u) = m_dp u ∧ m_nk (m_p_le y u) = m_nk u ∧ m_no (m_p_le y u) = m_no u ∧ m_na (m_p_le y u) = m_na u ∧ m_ns (m_p_le y u) = m_ns u ∧ m_he (m_p_le y u) = m_he u ∧ m_op (m_p_le y u) = m_op u ∧ m_le (m_p_le y u) = y ∧ tb u (m_p_le y u) := by
  refine ⟨?_, ?_, ?_, ?_, ?_, ?_, ?_, ?_, ?_, ?_, ?_, ?_, ?_, ?_, ?_, ?_, ⟨?_, ?_, ?_, ?_, ?_, ?_, ?_⟩⟩ <;> simp only [mp_le]
theorem he_o (x y : Nat → Int32) (u : MS) : m_ty (m_p_he x (m_p_le y u)) = m_ty u ∧ m_si (m_p_he x (m_p_le y u)) = m_si u ∧ m_ch (m_p_he x (m_p_le y u)) = m_ch u ∧ m_at (m_p_he x (m_p_le y u)) = m_at u ∧ m_fa (m_p_he x (m_p_le y u)) = m_fa u ∧ m_re (m_p_he x (m_p_le y u)) = m_re u ∧ m_rb (m_p_he x (m_p_le y u)) = m_rb u ∧ m_rf (m_p_he x (m_p_le y u)) = m_rf u ∧ m_dp (m_p_he x (m_p_le y u)) = m_dp u ∧ m_nk (m_p_he x (m_p_le y u)) = m_nk u ∧ m_no (m_p_he x (m_p_le y u)) = m_no u ∧ m_na (m_p_he x (m_p_le y u)) = m_na u ∧ m_ns (m_p_he x (m_p_le y u)) = m_ns u ∧ m_he (m_p_he x (m_p_le y u)) = x ∧ m_op (m_p_he x (m_p_le y u)) = m_op u ∧ m_le (m_p_he x (m_p_le y u)) = y ∧ tb u (m_p_he x (m_p_le y u)) := by
  refine ⟨?_, ?_, ?_, ?_, ?_, ?_, ?_, ?_, ?_, ?_, ?_, ?_, ?_, ?_, ?_, ?_, ⟨?_, ?_, ?_, ?_, ?_, ?_, ?_⟩⟩ <;> simp only [mp_he, mp_le]
section POP
variable {k49 : Int32 → Int32 → Int32 → Int32 → MS → Option (Unit × MS)} {G t idx : Nat} {v2 v3 : Int32} {u : MS}
theorem sM_pop1 (ht : t < 20) (hi : idx < 20) (hl : m_le u (t + 1) = 1) (ho : m_op u (t + 1) = nI idx) (hk : m_nk u idx < 4) : f_M_readClaims_L213 k49 (G + 1) (nI (t + 1)) v2 v3 1 u = f_M_readClaims_L213 k49 G (nI t) v2 v3 1 (m_p_le (upd (m_le u) (t + 1) 0) u) := by
  rw [q_M_readClaims_L213, if_neg (show ¬ (1 : Int32) = 0 by decide), if_neg (nI_nle (by omega) (by omega)), gd_s (inb_nI (by omega) (by omega)), gd_s (inb_nI (by omega) (by omega)), lt_q, gd_s (inb_nI (by omega) (by omega)), nI_clamp (by omega), hl, show (1 : Int32) - 1 = 0 from rfl]
  obtain ⟨w1, w2, w3, w4, w5, w6, w7, w8, w9, w10, w11, w12, w13, w14, w15, w16, w17⟩ := le_o (upd (m_le u) (t + 1) 0) u
  generalize m_p_le (upd (m_le u) (t + 1) 0) u = W at w1 w2 w3 w4 w5 w6 w7 w8 w9 w10 w11 w12 w13 w14 w15 w16 w17 ⊢
  rw [if_pos (show m_le W (t + 1) = 0 by rw [w16]; exact pk_us)]
  unfold f_M_readClaims_J250
  rw [gd_s (inb_nI (by omega) (by omega)), lt_q, if_neg (show ¬ (1 : Int32) = 0 by decide), nI_clamp (by omega), w15, ho, gd_s (inb_nI (by omega) (by omega)), nI_clamp (by omega), if_pos (show m_nk W idx < 4 by rw [w10]; exact hk)]
  unfold f_M_readClaims_J314
  rw [if_neg (show ¬ (1 : Int32) = 0 by decide), lt_q, nI_p1]
theorem sM_pop2 (ht : t < 20) (hl : m_le u (t + 1) = 2) : f_M_readClaims_L213 k49 (G + 1 + 1) (nI (t + 1)) v2 v3 1 u = k49 (nI (t + 1)) v2 v3 0 (m_p_le (upd (m_le u) (t + 1) 1) u) := by
  rw [q_M_readClaims_L213, if_neg (show ¬ (1 : Int32) = 0 by decide), if_neg (nI_nle (by omega) (by omega)), gd_s (inb_nI (by omega) (by omega)), gd_s (inb_nI (by omega) (by omega)), lt_q, gd_s (inb_nI (by omega) (by omega)), nI_clamp (by omega), hl, show (2 : Int32) - 1 = 1 from rfl]
  obtain ⟨w1, w2, w3, w4, w5, w6, w7, w8, w9, w10, w11, w12, w13, w14, w15, w16, w17⟩ := le_o (upd (m_le u) (t + 1) 1) u
  generalize m_p_le (upd (m_le u) (t + 1) 1) u = W at w1 w2 w3 w4 w5 w6 w7 w8 w9 w10 w11 w12 w13 w14 w15 w16 w17 ⊢
  rw [if_neg (show ¬ m_le W (t + 1) = 0 by rw [w16, pk_us]; decide)]
  unfold f_M_readClaims_J250
  rw [gd_s (inb_nI (by omega) (by omega)), lt_q, if_pos (show (0 : Int32) = 0 from rfl)]
  unfold f_M_readClaims_J314
  rw [if_pos (show (0 : Int32) = 0 from rfl), q_M_readClaims_L213, if_pos (show (0 : Int32) = 0 from rfl)]
  unfold f_M_readClaims_J330
  rw [if_neg (nI_ne0 (by omega) (by omega))]
theorem sM_popQ {a : Nat} (ht : t < 20) (hi : idx < 20) (ha : a < 3) (hl : m_le u (t + 1) = 1) (ho : m_op u (t + 1) = nI idx) (hk : ¬ m_nk u idx < 4) (hn : m_na u idx = nI a) : f_M_readClaims_L213 k49 (G + 1) (nI (t + 1)) v2 v3 1 u = f_M_readClaims_L213 k49 G (nI t) (m_no u idx) (v3 - 1) 1 (m_p_he (upd (m_he u) a (m_he u a - 1)) (m_p_le (upd (m_le u) (t + 1) 0) u)) := by
  rw [q_M_readClaims_L213, if_neg (show ¬ (1 : Int32) = 0 by decide), if_neg (nI_nle (by omega) (by omega)), gd_s (inb_nI (by omega) (by omega)), gd_s (inb_nI (by omega) (by omega)), lt_q, gd_s (inb_nI (by omega) (by omega)), nI_clamp (by omega), hl, show (1 : Int32) - 1 = 0 from rfl]
  obtain ⟨w1, w2, w3, w4, w5, w6, w7, w8, w9, w10, w11, w12, w13, w14, w15, w16, w17⟩ := le_o (upd (m_le u) (t + 1) 0) u
  generalize m_p_le (upd (m_le u) (t + 1) 0) u = W at w1 w2 w3 w4 w5 w6 w7 w8 w9 w10 w11 w12 w13 w14 w15 w16 w17 ⊢
  rw [if_pos (show m_le W (t + 1) = 0 by rw [w16]; exact pk_us)]
  unfold f_M_readClaims_J250
  rw [gd_s (inb_nI (by omega) (by omega)), lt_q, if_neg (show ¬ (1 : Int32) = 0 by decide), nI_clamp (by omega), w15, ho, gd_s (inb_nI (by omega) (by omega)), nI_clamp (by omega), if_neg (show ¬ m_nk W idx < 4 by rw [w10]; exact hk), gd_s (inb_nI (by omega) (by omega)), gd_s (inb_nI (by omega) (by omega)), w12, hn, gd_s (inb_nI (by omega) (by omega)), gd_s (inb_nI (by omega) (by omega)), lt_q, gd_s (inb_nI (by omega) (by omega)), lt_q, lt_q, nI_clamp (by omega), w14]
  unfold f_M_readClaims_J314
  rw [if_neg (show ¬ (1 : Int32) = 0 by decide), lt_q, nI_p1]
  simp only [mp_he]
  rw [w11]
end POP
theorem STK_le {u u' : MS} {t s : Nat} (h : STK u (t + 1) s) (e1 : ∀ j, j ≤ t → m_op u' j = m_op u j ∧ m_le u' j = m_le u j) (e2 : m_nk u' = m_nk u) (e3 : m_na u' = m_na u) : STK u' t s := by
  intro j h1 h2
  obtain ⟨idx, a1, a2, a3, a4⟩ := h j h1 (by omega)
  rw [(e1 j h2).1, (e1 j h2).2, e2, e3]
  exact ⟨idx, a1, a2, a3, a4⟩
/-- after a fault the reader leaves its loops -/
theorem sM_popF {F s : Nat} (hs : s ≤ 20) : ∀ (t G : Nat) (v2 v3 : Int32) (u : MS), t + 1 < G → t ≤ 20 → STK u t s → 0 ≤ m_fa u → ∃ u', f_M_readClaims_L213 (f_M_readClaims_L49 (F + 1)) G (nI t) v2 v3 1 u = some ((), u') ∧ tb u u' ∧ m_ty u' = m_ty u ∧ m_fa u' = m_fa u := by
  intro t
  induction t with
  | zero =>
    intro G v2 v3 u hG _ _ hf
    obtain ⟨G, rfl⟩ : ∃ g, G = g + 1 := ⟨G - 1, by omega⟩
    rw [q_M_readClaims_L213, if_neg (show ¬ (1 : Int32) = 0 by decide), if_pos (show nI 0 ≤ 0 by decide)]
    unfold f_M_readClaims_J330
    rw [if_pos nI_0, L49_done hf]
    exact ⟨u, rfl, tb_rf u, rfl, rfl⟩
  | succ t ih =>
    intro G v2 v3 u hG ht hS hf
    obtain ⟨idx, a1, a2, a3, a4⟩ := hS (t + 1) (by omega) (Nat.le_refl _)
    obtain ⟨G, rfl⟩ : ∃ g, G = g + 1 + 1 := ⟨G - 2, by omega⟩
    rcases a3 with a3 | a3
    · by_cases hk : m_nk u idx < 4
      · rw [sM_pop1 (by omega) (by omega) a3 a2 hk]
        obtain ⟨w1, w2, w3, w4, w5, w6, w7, w8, w9, w10, w11, w12, w13, w14, w15, w16, w17⟩ := le_o (upd (m_le u) (t + 1) 0) u
        generalize m_p_le (upd (m_le u) (t + 1) 0) u = W at w1 w2 w3 w4 w5 w6 w7 w8 w9 w10 w11 w12 w13 w14 w15 w16 w17 ⊢
        obtain ⟨u', e, b1, b2, b3⟩ := ih (G + 1) v2 v3 W (by omega) (by omega) (STK_le hS (fun j hj => ⟨congrFun w15 j, by rw [w16]; exact pk_un (by omega)⟩) w10 w12) (by rw [w5]; exact hf)
        exact ⟨u', e, tb_tr w17 b1, b2.trans w1, b3.trans w5⟩
      · obtain ⟨a, ha, hn⟩ := a4 hk
        rw [sM_popQ (by omega) (by omega) ha a3 a2 hk hn]
        obtain ⟨w1, w2, w3, w4, w5, w6, w7, w8, w9, w10, w11, w12, w13, w14, w15, w16, w17⟩ := he_o (upd (m_he u) a (m_he u a - 1)) (upd (m_le u) (t + 1) 0) u
        generalize m_p_he (upd (m_he u) a (m_he u a - 1)) (m_p_le (upd (m_le u) (t + 1) 0) u) = W at w1 w2 w3 w4 w5 w6 w7 w8 w9 w10 w11 w12 w13 w14 w15 w16 w17 ⊢
        obtain ⟨u', e, b1, b2, b3⟩ := ih (G + 1) (m_no u idx) (v3 - 1) W (by omega) (by omega) (STK_le hS (fun j hj => ⟨congrFun w15 j, by rw [w16]; exact pk_un (by omega)⟩) w10 w12) (by rw [w5]; exact hf)
        exact ⟨u', e, tb_tr w17 b1, b2.trans w1, b3.trans w5⟩
    · rw [sM_pop2 (by omega) a3]
      obtain ⟨w1, w2, w3, w4, w5, w6, w7, w8, w9, w10, w11, w12, w13, w14, w15, w16, w17⟩ := le_o (upd (m_le u) (t + 1) 1) u
      generalize m_p_le (upd (m_le u) (t + 1) 1) u = W at w1 w2 w3 w4 w5 w6 w7 w8 w9 w10 w11 w12 w13 w14 w15 w16 w17 ⊢
      rw [L49_done (show 0 ≤ m_fa W by rw [w5]; exact hf)]
      exact ⟨W, rfl, w17, w1, w5⟩
/-- the nodes before s and the text stay -/
def gm (s : Nat) (a b : MS) : Prop := tb a b ∧ m_ty b = m_ty a ∧ m_si b = m_si a ∧ m_ch b = m_ch a ∧ (∀ j, j < s → m_nk b j = m_nk a j ∧ m_na b j = m_na a j ∧ m_no b j = m_no a j) ∧ ∀ j, j < 4 * s → m_ns b j = m_ns a j
theorem gm_tr {s : Nat} {a b c : MS} (h : gm s a b) (g : gm s b c) : gm s a c := by
  obtain ⟨h0, h1, h2, h3, h4, h5⟩ := h
  obtain ⟨g0, g1, g2, g3, g4, g5⟩ := g
  exact ⟨tb_tr h0 g0, g1.trans h1, g2.trans h2, g3.trans h3, fun j hj => ⟨(g4 j hj).1.trans (h4 j hj).1, (g4 j hj).2.1.trans (h4 j hj).2.1, (g4 j hj).2.2.trans (h4 j hj).2.2⟩, fun j hj => (g5 j hj).trans (h5 j hj)⟩
theorem gm_mono {s t : Nat} {a b : MS} (h : gm s a b) (ht : t ≤ s) : gm t a b := by
  obtain ⟨h0, h1, h2, h3, h4, h5⟩ := h
  exact ⟨h0, h1, h2, h3, fun j hj => h4 j (by omega), fun j hj => h5 j (by omega)⟩
theorem gm_fb {s m : Nat} {a b : MS} (h : fb m a b) (hs : s ≤ m) : gm s a b := by
  obtain ⟨h0, h1, h2, h3, h4, h5, h6, h7, h8, h9, h10, h11⟩ := h
  exact ⟨h0, h1, h2, h3, fun j hj => ⟨(h10 j (by omega)).1, (h10 j (by omega)).2, congrFun h6 j⟩, fun j hj => h11 j (Or.inl (by omega))⟩
theorem gm_la {s : Nat} {a b : MS} (h : la a b) : gm s a b := gm_fb (fb_la h) (Nat.le_refl s)
def sk (t : Nat) (a b : MS) : Prop := ∀ j, j ≤ t → m_op b j = m_op a j ∧ m_le b j = m_le a j
theorem sk_tr {t : Nat} {a b c : MS} (h : sk t a b) (g : sk t b c) : sk t a c := fun j hj => ⟨(g j hj).1.trans (h j hj).1, (g j hj).2.trans (h j hj).2⟩
theorem sk_fb {t m : Nat} {a b : MS} (h : fb m a b) : sk t a b := fun j _ => ⟨congrFun h.2.2.2.2.2.2.2.2.1 j, congrFun h.2.2.2.2.2.2.2.2.2.1 j⟩
theorem STK_tr {u u' : MS} {t s : Nat} (h : STK u t s) (g : gm s u u') (k : sk t u u') : STK u' t s := by
  intro j h1 h2
  obtain ⟨idx, a1, a2, a3, a4⟩ := h j h1 h2
  obtain ⟨n1, n2, n3⟩ := g.2.2.2.2.1 idx a1
  rw [(k j h2).1, (k j h2).2]
  exact ⟨idx, a1, a2, a3, by rw [n1, n2]; exact a4⟩
theorem STK_mono {u : MS} {t s s' : Nat} (h : STK u t s) (hs : s ≤ s') : STK u t s' := by
  intro j h1 h2
  obtain ⟨idx, a1, a2⟩ := h j h1 h2
  exact ⟨idx, by omega, a2⟩
def HH (u : MS) (h : Nat → Nat) : Prop := ∀ v, v < 3 → m_he u v = nI (h v)
/-- the reference's node -/
def MN (u : MS) (i : Nat) (x : Nd) : Prop := m_nk u i = nI (kc (n_k x)) ∧ (k_qu (n_k x) = true → m_na u i = nI (n_a x)) ∧ (n_k x = 58 → m_na u i = nI (n_a x)) ∧ (k_pr (n_k x) = false → k_un (n_k x) = false → (∀ v, v < 3 → m_ns u (4 * i + v) = zI (n_c x v)) ∧ m_ns u (4 * i + 3) = zI (n_n x))
/-- whose a node is -/
def MO (w : Nat → Int32) (s : Nat) (N : List Nd) (i : Nat) (x : Nd) : Prop := (k_pr (n_k x) = true → w (s + i + 1) = w (s + i) ∧ w (s + i + 1 + ln N (i + 1)) = w (s + i)) ∧ (n_k x = 33 → w (s + i + 1) = w (s + i)) ∧ (k_qu (n_k x) = true → w (s + i + 1) = nI (s + i))
def MT (u : MS) (s : Nat) (N : List Nd) : Prop := ∀ i x, N[i]? = some x → MN u (s + i) x ∧ MO (m_no u) s N i x
theorem MN_gm {u u' : MS} {i t : Nat} {x : Nd} (h : MN u i x) (g : gm t u u') (hi : i < t) : MN u' i x := by
  obtain ⟨h1, h2, h3, h4⟩ := h
  obtain ⟨a1, a2, a3⟩ := g.2.2.2.2.1 i hi
  exact ⟨a1.trans h1, fun z => a2.trans (h2 z), fun z => a2.trans (h3 z), fun z y => ⟨fun v hv => (g.2.2.2.2.2 _ (by omega)).trans ((h4 z y).1 v hv), (g.2.2.2.2.2 _ (by omega)).trans (h4 z y).2⟩⟩
theorem MT_gm {u u' : MS} {s : Nat} {N : List Nd} (o : one N) (h : MT u s N) (g : gm (s + N.length) u u') : MT u' s N := by
  intro i x hx
  have hi := (List.getElem?_eq_some_iff.mp hx).1
  have hw := o.1 i hi
  obtain ⟨h1, h2, h3, h4⟩ := h i x hx
  have no_ : ∀ j, j < s + N.length → m_no u' j = m_no u j := fun j hj => (g.2.2.2.2.1 j hj).2.2
  refine ⟨MN_gm h1 g (by omega), fun hp => ?_, fun hk => ?_, fun hq => ?_⟩
  · obtain ⟨w1, w2⟩ := wf_1 hx hp hw
    obtain ⟨y, hy⟩ := wf_in w1
    obtain ⟨y2, hy2⟩ := wf_in w2
    have l1 := (List.getElem?_eq_some_iff.mp hy).1
    have l2 := (List.getElem?_eq_some_iff.mp hy2).1
    rw [no_ _ (by omega), no_ _ (by omega), no_ _ (by omega)]
    exact h2 hp
  · obtain ⟨y, hy⟩ := wf_in (wf_2 hx (by rw [hk]; rfl) (by rw [hk]; rfl) hw)
    have l1 := (List.getElem?_eq_some_iff.mp hy).1
    rw [no_ _ (by omega), no_ _ (by omega)]
    exact h3 hk
  · obtain ⟨y, hy⟩ := wf_in (wf_2 hx (kq_33 hq).2.1 (kq_33 hq).2.2 hw)
    have l1 := (List.getElem?_eq_some_iff.mp hy).1
    rw [no_ _ (by omega)]
    exact h4 hq
theorem MT_un {u : MS} {s : Nat} {x : Nd} {N : List Nd} (hx : MN u s x) (hp : k_pr (n_k x) = false) (h33 : n_k x = 33 → m_no u (s + 1) = m_no u s) (hq : k_qu (n_k x) = true → m_no u (s + 1) = nI s) (h : MT u (s + 1) N) : MT u s (x :: N) := by
  intro i y hy
  cases i with
  | zero =>
    have : x = y := by simpa using hy
    subst this
    exact ⟨hx, fun z => (by rw [hp] at z; cases z), h33, hq⟩
  | succ i =>
    have hy : N[i]? = some y := hy
    obtain ⟨g1, g2⟩ := h i y hy
    unfold MO at g2
    rw [show s + 1 + i = s + (i + 1) by omega] at g1 g2
    exact ⟨g1, g2⟩
theorem MT_pr {u : MS} {s : Nat} {x : Nd} {P S : List Nd} (hx : MN u s x) (hk : k_pr (n_k x) = true) (oP : one P) (n1 : m_no u (s + 1) = m_no u s) (n2 : m_no u (s + 1 + P.length) = m_no u s) (hP : MT u (s + 1) P) (hS : MT u (s + 1 + P.length) S) : MT u s (x :: (P ++ S)) := by
  intro i y hy
  cases i with
  | zero =>
    have : x = y := by simpa using hy
    subst this
    refine ⟨hx, fun _ => ?_, fun z => absurd z (kp_33 hk), fun z => (by rw [(kq_33 z).2.1] at hk; cases hk)⟩
    rw [show ln (x :: (P ++ S)) (0 + 1) = ln (P ++ S) 0 from rfl, ln_app (oP.1 0 oP.2.2), oP.2.1]
    exact ⟨n1, n2⟩
  | succ i =>
    have hy : (P ++ S)[i]? = some y := hy
    show MN u (s + (i + 1)) y ∧ MO (m_no u) s (x :: (P ++ S)) (i + 1) y
    unfold MO
    rw [show ln (x :: (P ++ S)) (i + 1 + 1) = ln (P ++ S) (i + 1) from rfl]
    rcases Nat.lt_or_ge i P.length with z | z
    · rw [List.getElem?_append_left z] at hy
      obtain ⟨g1, g2⟩ := hP i y hy
      unfold MO at g2
      rw [show s + 1 + i = s + (i + 1) by omega] at g1 g2
      refine ⟨g1, fun hp => ?_, g2.2.1, g2.2.2⟩
      rw [ln_app (wf_1 hy hp (oP.1 i z)).1]
      exact g2.1 hp
    · rw [List.getElem?_append_right z] at hy
      obtain ⟨g1, g2⟩ := hS (i - P.length) y hy
      unfold MO at g2
      rw [show s + 1 + P.length + (i - P.length) = s + (i + 1) by omega] at g1 g2
      refine ⟨g1, fun hp => ?_, g2.2.1, g2.2.2⟩
      have e := ln_appr P S (i - P.length + 1)
      rw [show P.length + (i - P.length + 1) = i + 1 by omega] at e
      rw [e]
      exact g2.1 hp
theorem frb_or2 : ∀ a b c a' b' c' d e f : Bool, (((a || a') && !d) || ((b || b') && !e) || ((c || c') && !f)) = (((a && !d) || (b && !e) || (c && !f)) || ((a' && !d) || (b' && !e) || (c' && !f))) := by decide
theorem frb_or (bd o p : Nat → Bool) : frb bd (fun v => o v || p v) = (frb bd o || frb bd p) := frb_or2 _ _ _ _ _ _ _ _ _
theorem frb_q (bd o : Nat → Bool) {q : Nat} (hq : q < 3) : frb (bdv bd q) o = frb bd (fun v => o v && !(v == q)) := by
  unfold frb bdv
  rcases (show q = 0 ∨ q = 1 ∨ q = 2 by omega) with e | e | e
  · subst e; simp
  · subst e; simp
  · subst e; simp
