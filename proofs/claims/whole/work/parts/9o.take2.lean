theorem fpl_nil (cs : List Nat) : fpl cs [] = cs.length := fpl_at (Nat.le_refl _) (Or.inl rfl) (by rw [List.drop_length]; rfl)
theorem tb_at (x : Int32) (u : MS) : tb u (m_p_at x u) := ⟨rfl, rfl, rfl, rfl, rfl, rfl, rfl⟩
/-- what the reference's reading of a text comes to, as far as its take's end -/
theorem sM_whole {um : MS} {cs : List Nat} (hT : TM um cs) (ok : okT cs) : ∃ u', f_M_take um = f_M_take_J74 u' ∧ tb um u' ∧ m_ty u' = 0 ∧ (tkG (tkR cs) = false → m_fa u' = nI (fpl cs (tkR cs).2.1)) ∧ (tkG (tkR cs) = true → m_fa u' = -1 ∧ m_re u' = nI (tkR cs).2.2.1.length ∧ m_rb u' = nI (tkR cs).2.2.2.1 ∧ m_rf u' = bI (an3 (fv (tkR cs).2.2.1 0)) ∧ m_no u' 0 = -1 ∧ MT u' 0 (tkR cs).2.2.1) := by
  obtain ⟨u1, e1, t1, y1, F1, S1⟩ := sM_read hT ok
  unfold f_M_take
  rw [lt_q, lt_q, lt_q, lt_q, ob_s e1]
  have hg := fpl_le cs (tkR cs).2.1 ok
  have hg0 := fpl_le cs [] ok
  generalize tkR cs = R at F1 S1 hg ⊢
  obtain ⟨b, t, N, br, ne⟩ := R
  cases b
  · have f1 : m_fa u1 = nI (fpl cs t) := F1 rfl
    have hg : fpl cs t ≤ 120 := hg
    have p1 : 0 ≤ m_fa u1 := by rw [f1]; exact nI_pos' (by omega)
    rw [if_pos p1]
    unfold f_M_take_J45
    rw [if_pos p1]
    exact ⟨u1, rfl, t1, y1, fun _ => f1, fun z => (by cases z)⟩
  · obtain ⟨⟨R1, fa1, re1, rb1, dp1, rf1, H1, ST1⟩, n1, T1⟩ := S1 rfl
    have R1 : MR u1 cs t := R1
    have re1 : m_re u1 = nI N.length := re1
    have rb1 : m_rb u1 = nI br := rb1
    have dp1 : m_dp u1 = bI ne := dp1
    have rf1 : m_rf u1 = bI (an3 (fv N 0)) := rf1
    have T1 : MT u1 0 N := T1
    obtain ⟨u2, e2, l2, X2⟩ := sM_look R1
    have fa2 : m_fa u2 = -1 := l2.2.2.2.2.1.trans fa1
    have re2 : m_re u2 = nI N.length := l2.2.2.2.2.2.1.trans re1
    have rb2 : m_rb u2 = nI br := l2.2.2.2.2.2.2.1.trans rb1
    have rf2 : m_rf u2 = bI (an3 (fv N 0)) := l2.2.2.2.2.2.2.2.1.trans rf1
    have dp2 : m_dp u2 = bI ne := l2.2.2.2.2.2.2.2.2.1.trans dp1
    have no2 : m_no u2 0 = -1 := (congrFun l2.2.2.2.2.2.2.2.2.2.2.1 0).trans n1
    have T2 : MT u2 0 N := by
      intro i x hx
      have g := T1 i x hx
      unfold MN at g ⊢
      rw [l2.2.2.2.2.2.2.2.2.2.1, l2.2.2.2.2.2.2.2.2.2.2.1, l2.2.2.2.2.2.2.2.2.2.2.2.1, l2.2.2.2.2.2.2.2.2.2.2.2.2.1]
      exact g
    have si2 : m_si u2 = nI cs.length := X2.1.2.1
    have t2 : tb um u2 := tb_tr t1 l2.1
    have y2 : m_ty u2 = 0 := l2.2.1.trans y1
    rw [if_neg (show ¬ 0 ≤ m_fa u1 by rw [fa1]; decide), ob_s e2]
    cases t with
    | cons c q =>
      have hh := MR_hd R1
      have hg : fpl cs (c :: q) ≤ 120 := hg
      obtain ⟨u3, e3, l3, f3, B3⟩ := sM_fail (MX_R X2) fa2
      have p3 : 0 ≤ m_fa u3 := by rw [f3]; exact nI_pos' (by omega)
      rw [show zI (lk (c :: q)) = nI c from (nI_zI c).symm, if_neg (nI_pos (by omega)), ob_s e3]
      unfold f_M_take_J45
      rw [if_pos p3]
      refine ⟨u3, rfl, tb_tr t2 l3.1, l3.2.1.trans y2, fun _ => f3, fun z => ?_⟩
      have z : (true && false && !(ne && an3 (fv N 0))) = true := z
      cases z
    | nil =>
      rw [if_pos (show zI (lk []) < 0 by decide)]
      unfold f_M_take_J45
      rw [if_neg (show ¬ 0 ≤ m_fa u2 by rw [fa2]; decide), rf2, dp2]
      have hG : tkG (true, [], N, br, ne) = !(ne && an3 (fv N 0)) := by
        show (true && true && !(ne && an3 (fv N 0))) = _
        rfl
      rw [hG]
      have good : tb um u2 ∧ m_ty u2 = 0 ∧ m_fa u2 = -1 ∧ m_re u2 = nI N.length ∧ m_rb u2 = nI br ∧ m_rf u2 = bI (an3 (fv N 0)) ∧ m_no u2 0 = -1 ∧ MT u2 0 N := ⟨t2, y2, fa2, re2, rb2, rf2, no2, T2⟩
      cases ha : an3 (fv N 0)
      · rw [ha] at good
        rw [if_pos (show bI false = 0 from rfl)]
        refine ⟨u2, rfl, good.1, good.2.1, fun z => ?_, fun _ => ?_⟩
        · rw [Bool.and_false] at z; cases z
        · exact good.2.2
      · rw [ha] at good
        rw [if_neg (show ¬ bI true = 0 by decide)]
        cases ne
        · rw [if_pos (show bI false = 0 from rfl)]
          refine ⟨u2, rfl, good.1, good.2.1, fun z => (by cases z), fun _ => ?_⟩
          exact good.2.2
        · rw [if_neg (show ¬ bI true = 0 by decide), lt_q]
          refine ⟨m_p_fa (m_si u2) u2, rfl, t2, y2, fun _ => ?_, fun z => (by cases z)⟩
          show m_si u2 = nI (fpl cs [])
          rw [fpl_nil, si2]
theorem m_take0 {um : MS} {cs : List Nat} (hT : TM um cs) (ok : okT cs) (hG : tkG (tkR cs) = false) : ∃ u', f_M_take um = some (-1 - nI (fpl cs (tkR cs).2.1), u') ∧ tb um u' ∧ m_ty u' = 0 := by
  obtain ⟨u1, e1, t1, y1, F1, -⟩ := sM_whole hT ok
  have f1 := F1 hG
  have hg := fpl_le cs (tkR cs).2.1 ok
  refine ⟨u1, ?_, t1, y1⟩
  rw [e1]
  unfold f_M_take_J74
  rw [f1, if_neg (nI_pos (by omega))]
theorem m_take1 {um : MS} {cs : List Nat} (hT : TM um cs) (ok : okT cs) (hG : tkG (tkR cs) = true) : ∃ u', f_M_take um = some (nI (tkR cs).2.2.2.1, u') ∧ m_ty u' = 0 ∧ CT u' (fS (tkR cs).2.2.1) (an3 (fv (tkR cs).2.2.1 0)) := by
  obtain ⟨u1, e1, t1, y1, -, S1⟩ := sM_whole hT ok
  obtain ⟨f1, re1, rb1, rf1, no1, T1⟩ := S1 hG
  obtain ⟨o1, o2, o3, o4, o5, -, -⟩ := tk_ok hG
  rw [e1]
  generalize tkR cs = R at re1 rb1 rf1 T1 o1 o2 o3 o4 o5 ⊢
  obtain ⟨b, t, N, br, ne⟩ := R
  have re1 : m_re u1 = nI N.length := re1
  have rb1 : m_rb u1 = nI br := rb1
  have rf1 : m_rf u1 = bI (an3 (fv N 0)) := rf1
  have T1 : MT u1 0 N := T1
  have o1 : one N := o1
  have o2 : N.length ≤ 20 := o2
  have o3 : ∀ x ∈ N, nok x := o3
  have o4 : ∀ v, v < 3 → fv N 0 v = true → v = 0 := o4
  have o5 : dq N 0 ≤ 1 ∨ (an3 (fv N 0) = false ∧ dq N 0 ≤ 2) := o5
  show ∃ u', f_M_take_J74 u1 = some (nI br, u') ∧ m_ty u' = 0 ∧ CT u' (fS N) (an3 (fv N 0))
  unfold f_M_take_J74
  rw [if_pos (show m_fa u1 < 0 by rw [f1]; decide), lt_q, lt_q]
  have key : ∀ U : MS, m_cl U = nI N.length → m_br U = nI br → m_rf U = bI (an3 (fv N 0)) → m_no U 0 = -1 → m_ty U = 0 → MT U 0 N → ∃ u', (gd (bz (m_rf U)) (lt_ (m_p_xf (m_rf U) U) fun u20 => f_M_take_L114 4096 0 u20)) = some (nI br, u') ∧ m_ty u' = 0 ∧ CT u' (fS N) (an3 (fv N 0)) := by
    intro U c1 b1 r1 n1 y1 T1
    rw [r1, bz_bI, gd_t, lt_q]
    have key2 : ∀ V : MS, m_cl V = nI N.length → m_br V = nI br → m_xf V = bI (an3 (fv N 0)) → m_no V 0 = -1 → m_ty V = 0 → MT V 0 N → ∃ u', f_M_take_L114 4096 0 V = some (nI br, u') ∧ m_ty u' = 0 ∧ CT u' (fS N) (an3 (fv N 0)) := by
      intro V c1 b1 x1 n1 y1 T1
      obtain ⟨n', w, e2, c2, d2⟩ := sM_114 o2 N.length 0 4096 V (by omega) (by omega) c1 (fun i hi => by omega)
      rw [nI_0] at e2
      obtain ⟨c20, c21, c22, c23, c24, c25, c26, c27⟩ := c2
      have T2 : MT w 0 N := by
        intro i x hx
        have g := T1 i x hx
        unfold MN at g ⊢
        rw [c24, c25, c26, c27]
        exact g
      have E2 : ET w N := ET_cp o1 o2 (c20.trans c1) (by rw [c25]; exact n1) T2 d2
      have x2 : m_xf w = bI (an3 (fv N 0)) := c22.trans x1
      have b2 : m_br w = nI br := c21.trans b1
      have y2 : m_ty w = 0 := c23.trans y1
      rw [e2, q_M_take_L114, if_pos (show m_cl w ≤ nI N.length by rw [E2.1]; exact nI_le (Nat.le_refl _) (by omega)), x2]
      cases ha : an3 (fv N 0)
      · rw [ha] at x2 o5
        obtain ⟨w', e3, c3⟩ := sM_worked (v := 0) E2 o1 o3 o4 (by rw [ha]; exact o5) (by omega) (by omega)
        rw [show zI 0 = 0 from rfl] at e3
        rw [if_pos (show bI false = 0 from rfl), ob_s e3]
        have hw0 := o1.1 0 o1.2.2
        have fin : ∀ tv : Bool, tv = fS N 0 → CT (m_p_tr (bI tv) w') (fS N) false := by
          intro tv htv
          refine ⟨(cq_xf c3).trans x2, fun v u v1 v2 ht => ⟨u, ?_, co_rf u⟩⟩
          have xu : m_xf u = 0 := ht.2.1.trans ((cq_xf c3).trans x2)
          have tu : m_tr u = bI tv := ht.2.2.1
          unfold f_M_isSo
          rw [if_pos xu, tu, bz_bI, gd_t, htv, fS_c o3 hw0 ha v]
        cases hf : fS N 0
        · rw [if_pos (show bI false = 0 from rfl), lt_q]
          refine ⟨_, ?_, ?_, fin false hf.symm⟩
          · show some (m_br w', m_p_tr 0 w') = _
            rw [cq_br c3, b2]
            rfl
          · exact (cq_ty c3).trans y2
        · rw [if_neg (show ¬ bI true = 0 by decide), lt_q]
          refine ⟨_, ?_, ?_, fin true hf.symm⟩
          · show some (m_br w', m_p_tr 1 w') = _
            rw [cq_br c3, b2]
            rfl
          · exact (cq_ty c3).trans y2
      · rw [ha] at x2
        rw [if_neg (show ¬ bI true = 0 by decide), lt_q]
        refine ⟨m_p_tr 0 w, ?_, y2, x2, fun v u v1 v2 ht => ?_⟩
        · show some (m_br w, m_p_tr 0 w) = _
          rw [b2]
        · have xu : m_xf u = bI true := ht.2.1.trans x2
          have Eu : ET u N := by
            have h0 : ET (m_p_tr 0 w) N := by
              obtain ⟨h1, h2, h3, h4⟩ := E2
              exact ⟨h1, h2, h3, h4⟩
            exact ET_tb h0 ht
          obtain ⟨u', e4, c4⟩ := sM_worked (v := v) Eu o1 o3 o4 o5 v1 v2
          refine ⟨u', ?_, c4⟩
          unfold f_M_isSo
          rw [xu, if_neg (show ¬ bI true = 0 by decide), ob_s e4, bz_bI, gd_t]
    exact key2 _ c1 b1 rfl n1 y1 T1
  exact key _ re1 rb1 rf1 no1 y1 T1
theorem tame_fS {N : List Nd} (o1 : one N) (o3 : ∀ x ∈ N, nok x) (o4 : ∀ v, v < 3 → fv N 0 v = true → v = 0) (o5 : dq N 0 ≤ 1 ∨ (an3 (fv N 0) = false ∧ dq N 0 ≤ 2)) : tameB (fS N) := by
  have hw0 := o1.1 0 o1.2.2
  rcases o5 with z | ⟨z, -⟩
  · exact tame_congr (tame_sem o3 0 hw0 0 (by omega) z o4 (fun _ => 0)) (fun v => fS_t.symm)
  · refine tame_congr (tame_const (fS N 0 = true)) (fun v => ?_)
    rw [fS_c o3 hw0 z v]
theorem t_take {uk : KS} {um : MS} (h : Inv uk um) : ∃ (r : Int32) (uk1 : KS) (um1 : MS), f_L_take uk = some (r, uk1) ∧ f_M_take um = some (r, um1) ∧ Inv uk1 um1 := by
  obtain ⟨cs, f, x, h1, h2, h3, h4, h5, h6, h7, h8⟩ := h
  have ok0 : okT [] := ⟨by decide, by simp⟩
  cases hG : tkG (tkR cs)
  · obtain ⟨uk1, e1, T1, w1, x1⟩ := k_take0 h2 h1 hG
    obtain ⟨um1, e2, t2, y2⟩ := m_take0 h3 h1 hG
    refine ⟨_, uk1, um1, e1, e2, [], f, x, ok0, T1, ⟨y2.trans nI_0.symm, fun i c hi => by simp at hi⟩, h4, h5, ?_, x1.trans h7, CT_tb h8 t2⟩
    intro i hi
    rw [w1]
    exact h6 i hi
  · obtain ⟨uk1, e1, T1, x1, r1⟩ := k_take1 h2 h1 hG
    obtain ⟨um1, e2, y2, c2⟩ := m_take1 h3 h1 hG
    obtain ⟨o1, o2, o3, o4, o5, -, -⟩ := tk_ok hG
    exact ⟨_, uk1, um1, e1, e2, [], fS (tkR cs).2.2.1, an3 (fv (tkR cs).2.2.1 0), ok0, T1, ⟨y2.trans nI_0.symm, fun i c hi => by simp at hi⟩, tame_fS o1 o3 o4 o5, fun hx v => fS_c o3 (o1.1 0 o1.2.2) hx v, r1, x1, c2⟩
