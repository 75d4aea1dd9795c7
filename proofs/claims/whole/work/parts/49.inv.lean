-- what is typed: the characters; those that are no spaces, with their places
def tkF : Nat → List Nat → List (Nat × Nat)
  | _, [] => []
  | k, c :: r => if c = 32 then tkF (k + 1) r else (c, k) :: tkF (k + 1) r
theorem tkF_app (c : Nat) : ∀ (a : List Nat) (k : Nat), tkF k (a ++ [c]) = tkF k a ++ (if c = 32 then [] else [(c, k + a.length)])
  | [], k => by simp only [List.nil_append, tkF, List.length_nil, Nat.add_zero]
  | d :: a, k => by
    simp only [List.cons_append, tkF, List.length_cons]
    rw [tkF_app c a (k + 1), show k + 1 + a.length = k + (a.length + 1) by omega]
    split <;> simp
theorem tkF_len : ∀ (a : List Nat) (k : Nat), (tkF k a).length ≤ a.length
  | [], k => Nat.le_refl _
  | d :: a, k => by
    have := tkF_len a (k + 1)
    simp only [tkF, List.length_cons]
    split
    · omega
    · simp only [List.length_cons]; omega
def okT (cs : List Nat) : Prop := cs.length ≤ 120 ∧ ∀ c ∈ cs, 32 ≤ c ∧ c ≤ 126
def TK (u : KS) (cs : List Nat) : Prop := k_ln u = nI cs.length ∧ k_sz u = nI (tkF 0 cs).length ∧ ∀ (i : Nat) (q : Nat × Nat), (tkF 0 cs)[i]? = some q → k_mk u i = nI q.1 ∧ k_pl u i = nI q.2
def TM (u : MS) (cs : List Nat) : Prop := m_ty u = nI cs.length ∧ ∀ (i c : Nat), cs[i]? = some c → m_ch u i = nI c
/-- the reference's table stays -/
def tb (a b : MS) : Prop := m_cl b = m_cl a ∧ m_xf b = m_xf a ∧ m_tr b = m_tr a ∧ m_ki b = m_ki a ∧ m_ow b = m_ow a ∧ m_ab b = m_ab a ∧ m_su b = m_su a
theorem co_tb {a b : MS} (h : co a b) : tb a b := ⟨cq_cl h, cq_xf h, cq_tr h, cq_ki h, cq_ow h, cq_ab h, cq_su h⟩
theorem tb_tr {a b c : MS} (h : tb a b) (g : tb b c) : tb a c := ⟨g.1.trans h.1, g.2.1.trans h.2.1, g.2.2.1.trans h.2.2.1, g.2.2.2.1.trans h.2.2.2.1, g.2.2.2.2.1.trans h.2.2.2.2.1, g.2.2.2.2.2.1.trans h.2.2.2.2.2.1, g.2.2.2.2.2.2.trans h.2.2.2.2.2.2⟩
theorem tb_sy {a b : MS} (h : tb a b) : tb b a := ⟨h.1.symm, h.2.1.symm, h.2.2.1.symm, h.2.2.2.1.symm, h.2.2.2.2.1.symm, h.2.2.2.2.2.1.symm, h.2.2.2.2.2.2.symm⟩
def CT (um : MS) (f : Int → Bool) (x : Bool) : Prop := m_xf um = bI x ∧ ∀ (v : Int) (u : MS), -1200 ≤ v → v ≤ 1200 → tb um u → ∃ u', f_M_isSo (zI v) u = some (bI (f v), u') ∧ co u u'
theorem CT_M {um : MS} {f : Int → Bool} {x : Bool} (h : CT um f x) : CM um f x := ⟨h.1, fun v u a b c => by
  obtain ⟨u', e, c'⟩ := h.2 v u a b (co_tb c)
  exact ⟨u', e, co_tr c c'⟩⟩
theorem CT_tb {um u : MS} {f : Int → Bool} {x : Bool} (h : CT um f x) (hc : tb um u) : CT u f x :=
  ⟨by rw [hc.2.1]; exact h.1, fun v u1 a b c => h.2 v u1 a b (tb_tr hc c)⟩
theorem TM_co {a b : MS} {cs : List Nat} (h : TM a cs) (hc : co a b) : TM b cs := ⟨by rw [cq_ty hc]; exact h.1, fun i c hi => by rw [cq_ch hc]; exact h.2 i c hi⟩
def Inv (uk : KS) (um : MS) : Prop := ∃ (cs : List Nat) (f : Int → Bool) (x : Bool), okT cs ∧ TK uk cs ∧ TM um cs ∧ tameB f ∧ (x = false → ∀ v, f v = f 0) ∧ rowOf uk f ∧ k_xf uk = bI x ∧ CT um f x
theorem Inv_co {uk : KS} {um um1 : MS} (h : Inv uk um) (hc : co um um1) : Inv uk um1 := by
  obtain ⟨cs, f, x, h1, h2, h3, h4, h5, h6, h7, h8⟩ := h
  exact ⟨cs, f, x, h1, h2, TM_co h3 hc, h4, h5, h6, h7, CT_tb h8 (co_tb hc)⟩
theorem t_free {uk : KS} {um : MS} (h : Inv uk um) : ∃ (r : Int32) (uk1 : KS) (um1 : MS), f_L_free uk = some (r, uk1) ∧ f_M_free um = some (r, um1) ∧ Inv uk1 um1 := by
  have h0 := h
  obtain ⟨cs, f, x, h1, h2, h3, h4, h5, h6, h7, h8⟩ := h
  refine ⟨bI x, uk, um, ?_, ?_, h0⟩
  · unfold f_L_free; rw [h7, bz_bI]; rfl
  · unfold f_M_free; rw [h8.1, bz_bI]; rfl
theorem t_holds {a : Int32} {uk : KS} {um : MS} (h : Inv uk um) : ∃ (r : Int32) (uk1 : KS) (um1 : MS), f_L_holds a uk = some (r, uk1) ∧ f_M_holds a um = some (r, um1) ∧ Inv uk1 um1 := by
  have h0 := h
  obtain ⟨cs, f, x, h1, h2, h3, h4, h5, h6, h7, h8⟩ := h
  obtain ⟨u', e, c⟩ := q_holdsM (CT_M h8) a
  exact ⟨_, uk, u', q_holdsK h6 h4 a, e, Inv_co h0 c⟩
theorem t_some {uk : KS} {um : MS} (h : Inv uk um) : ∃ (r : Int32) (uk1 : KS) (um1 : MS), f_L_some uk = some (r, uk1) ∧ f_M_some um = some (r, um1) ∧ Inv uk1 um1 := by
  have h0 := h
  obtain ⟨cs, f, x, h1, h2, h3, h4, h5, h6, h7, h8⟩ := h
  obtain ⟨r, e, g⟩ := q_someK h6 h4
  obtain ⟨r2, u', e2, c, g2⟩ := q_someM (CT_M h8) h4 h5
  have : r = r2 := by
    have := g.trans g2.symm
    cases r <;> cases r2 <;> simp_all
  subst this
  exact ⟨_, uk, u', e, e2, Inv_co h0 c⟩
theorem t_all {uk : KS} {um : MS} (h : Inv uk um) : ∃ (r : Int32) (uk1 : KS) (um1 : MS), f_L_all uk = some (r, uk1) ∧ f_M_all um = some (r, um1) ∧ Inv uk1 um1 := by
  have h0 := h
  obtain ⟨cs, f, x, h1, h2, h3, h4, h5, h6, h7, h8⟩ := h
  obtain ⟨r, e, g⟩ := q_allK h6 h4
  obtain ⟨r2, u', e2, c, g2⟩ := q_allM (CT_M h8) h4 h5
  have : r = r2 := by
    have := g.trans g2.symm
    cases r <;> cases r2 <;> simp_all
  subst this
  exact ⟨_, uk, u', e, e2, Inv_co h0 c⟩
theorem t_next {a : Int32} {uk : KS} {um : MS} (h : Inv uk um) : ∃ (r : Int32) (uk1 : KS) (um1 : MS), f_L_next a uk = some (r, uk1) ∧ f_M_next a um = some (r, um1) ∧ Inv uk1 um1 := by
  have h0 := h
  obtain ⟨cs, f, x, h1, h2, h3, h4, h5, h6, h7, h8⟩ := h
  obtain ⟨u', e, c⟩ := q_nextM (CT_M h8) h4 a
  exact ⟨_, uk, u', q_nextK h6 h4 a, e, Inv_co h0 c⟩
theorem t_last {a : Int32} {uk : KS} {um : MS} (h : Inv uk um) : ∃ (r : Int32) (uk1 : KS) (um1 : MS), f_L_last a uk = some (r, uk1) ∧ f_M_last a um = some (r, um1) ∧ Inv uk1 um1 := by
  have h0 := h
  obtain ⟨cs, f, x, h1, h2, h3, h4, h5, h6, h7, h8⟩ := h
  obtain ⟨u', e, c⟩ := q_lastM (CT_M h8) h4 a
  exact ⟨_, uk, u', q_lastK h6 h4 a, e, Inv_co h0 c⟩
theorem t_again {a : Int32} {uk : KS} {um : MS} (_ : a = 0 ∨ a = 1) (h : Inv uk um) : ∃ (r : Int32) (uk1 : KS) (um1 : MS), f_L_again a uk = some (r, uk1) ∧ f_M_again a um = some (r, um1) ∧ Inv uk1 um1 := by
  have h0 := h
  obtain ⟨cs, f, x, h1, h2, h3, h4, h5, h6, h7, h8⟩ := h
  obtain ⟨r, u', e, e2, c⟩ := q_again h6 (CT_M h8) h4 (a := a)
  exact ⟨_, uk, u', e, e2, Inv_co h0 c⟩
theorem t_count {a b : Int32} {uk : KS} {um : MS} (h : Inv uk um) : ∃ (r : Int32) (uk1 : KS) (um1 : MS), f_L_count a b uk = some (r, uk1) ∧ f_M_count a b um = some (r, um1) ∧ Inv uk1 um1 := by
  have h0 := h
  obtain ⟨cs, f, x, h1, h2, h3, h4, h5, h6, h7, h8⟩ := h
  obtain ⟨u', e, c⟩ := q_countM (CT_M h8) a b
  exact ⟨_, uk, u', q_countK h6 h4 a b, e, Inv_co h0 c⟩
theorem t_period {uk : KS} {um : MS} (h : Inv uk um) : ∃ (r : Int32) (uk1 : KS) (um1 : MS), f_L_period uk = some (r, uk1) ∧ f_M_period um = some (r, um1) ∧ Inv uk1 um1 := by
  have h0 := h
  obtain ⟨cs, f, x, h1, h2, h3, h4, h5, h6, h7, h8⟩ := h
  obtain ⟨r, u', e, e2, c⟩ := q_period h6 (CT_M h8) h4
  exact ⟨_, uk, u', e, e2, Inv_co h0 c⟩
theorem Inv0 : Inv k0 m0 := by
  refine ⟨[], fun _ => true, false, ⟨by decide, by simp⟩, ⟨by rfl, by rfl, fun i q h => ?_⟩, ⟨by rfl, fun i c h => ?_⟩, tame_const _, fun _ _ => rfl, fun i hi => ?_, by rfl, by rfl, fun v u _ _ ht => ?_⟩
  · simp [tkF] at h
  · simp at h
  · have : ∀ k, k < 3 → k_wd k0 k = -1 := by decide
    rw [this _ (by omega)]
    exact (w_ones (-1)).mp rfl _ (by omega)
  · refine ⟨u, ?_, co_rf u⟩
    unfold f_M_isSo
    have e1 : m_xf u = 0 := ht.2.1
    have e2 : m_tr u = 1 := ht.2.2.1
    rw [e1, if_pos rfl, e2]
    rfl
