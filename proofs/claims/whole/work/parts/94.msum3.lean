theorem L39_done {n : Nat} {v1 v2 v3 v4 : Int32} {w : MS} (h : v4 = 0 ∨ 0 ≤ m_fa w) : f_M_readSum_L39 (n + 1) v1 v2 v3 v4 w = some ((), w) := by
  rw [q_M_readSum_L39]
  by_cases h0 : v4 = 0
  · rw [if_pos h0]
  · rw [if_neg h0, if_pos (h.resolve_left h0)]
theorem FB_at {u : MS} {cs : List Nat} {B : Nat} (h : FB u cs B) : FB (m_p_at (m_at u) u) cs B := by
  obtain ⟨h1, p, h2, h3⟩ := h
  exact ⟨h1, p, h2, h3⟩
theorem sM_J91F {n g B : Nat} {cs : List Nat} {v1 v2 v5 t0 : Int32} {w : MS} (hF : FB w cs B) (hf : m_fa w = nI g) (hg : g ≤ 1000) : ∃ w', f_M_readSum_J91 (f_M_readSum_L39 (n + 1)) v1 v2 v5 t0 w = some ((), w') ∧ la w w' ∧ FB w' cs (B + 1) := by
  have h105 : ∀ t1 : Int32, ∃ w', f_M_readSum_J105 (f_M_readSum_L39 (n + 1)) v1 v2 t0 t1 w = some ((), w') ∧ la w w' ∧ FB w' cs (B + 1) := by
    intro t1
    unfold f_M_readSum_J105
    by_cases h0 : t0 = 0
    · rw [if_pos h0, lt_q, L39_done (Or.inr (show 0 ≤ m_fa (m_p_at (m_at w) w) by show 0 ≤ m_fa w; rw [hf]; exact nI_pos' (by omega)))]
      exact ⟨_, rfl, la_at _ _, FB_m (FB_at hF) (by omega)⟩
    · rw [if_neg h0, lt_q, L39_done (Or.inr (show 0 ≤ m_fa (m_p_at (m_at w + 1) w) by show 0 ≤ m_fa w; rw [hf]; exact nI_pos' (by omega)))]
      exact ⟨_, rfl, la_at _ _, FB_1 hF⟩
  unfold f_M_readSum_J91
  by_cases h45 : v5 = 45
  · rw [if_pos h45]; exact h105 1
  · rw [if_neg h45]; exact h105 0
theorem zlk_ne {c k : Nat} {x : Int32} {r : List Nat} (hx : x = nI k) (hc : c < 1000) (hk : k < 1000) (h : c ≠ k) : ¬ zI (lk (c :: r)) = x := by
  rw [show zI (lk (c :: r)) = nI c from (nI_zI c).symm]
  exact ne_l hx hc hk h
theorem sM_sumL {cs : List Nat} {m : Nat} {bd : Nat → Bool} {r0 : Bool} {sd : Int} (hm : m < 20) : ∀ (n f : Nat) (ts : List Nat) (neg : Bool) (a : Ac) (u : MS), ts.length + 1 < n → ts.length < f → MR u cs ts → AS u m bd r0 a → m_fa u = -1 → HE u bd → PM cs u m bd r0 122 (sp_sum bd sd f (if neg = true then -sd else sd) a ts) (f_M_readSum_L39 n (nI m) (zI sd) (bI neg) 1 u) := by
  intro n
  induction n with
  | zero => intro f ts neg a u h; omega
  | succ n ih =>
    intro f ts neg a u hn hfu R hA hf hE
    obtain ⟨f, rfl⟩ : ∃ g, f = g + 1 := ⟨f - 1, by omega⟩
    obtain ⟨n, rfl⟩ : ∃ g, n = g + 1 := ⟨n - 1, by omega⟩
    have key : ∀ sg : Int, PM cs u m bd r0 122 (sp_sum bd sd (f + 1) sg a ts) (f_M_readSum_J63 (f_M_readSum_L39 (n + 1)) (nI m) (zI sd) (zI sg) (nI m) u) := by
      intro sg
      unfold f_M_readSum_J63
      obtain ⟨u1, e1, F1, rb1, nk1, na1, good, bad⟩ := sM_part (sg := sg) R hm hA hf hE
      have hl := sp_part_len bd sg a ts
      rw [ob_s e1, sp_sum_s]
      generalize sp_part bd sg a ts = p at good bad hl ⊢
      obtain ⟨b, rest, a1⟩ := p
      cases b
      · obtain ⟨fa1, FB1⟩ := bad rfl
        obtain ⟨r, u2, e2, l2, F2⟩ := sM_lookF FB1 (by omega) (by omega)
        have fa2 : m_fa u2 = nI (fpl cs rest) := l2.2.2.2.2.1.trans fa1
        have hg := fpl_le cs rest FB1.1.1
        rw [ob_s e2, sb_f]
        have fin : ∀ t0 : Int32, PM cs u m bd r0 122 (false, rest, a1) (f_M_readSum_J91 (f_M_readSum_L39 (n + 1)) (nI m) (zI sd) r t0 u2) := by
          intro t0
          obtain ⟨w', e3, l3, F3⟩ := sM_J91F (n := n) (v1 := nI m) (v2 := zI sd) (v5 := r) (t0 := t0) F2 fa2 (by omega)
          rw [e3]
          exact PM_f F1 rb1 nk1 na1 rfl fa1 (la_tr l2 l3) F3
        by_cases h43 : r = 43
        · rw [if_pos h43]; exact fin 1
        · rw [if_neg h43]
          by_cases h45 : r = 45
          · rw [if_pos h45]; exact fin 1
          · rw [if_neg h45]; exact fin 0
      · obtain ⟨fa1, R1, A1⟩ := good rfl
        have R1 : MR u1 cs rest := R1
        have A1 : AS u1 m bd r0 a1 := A1
        have hl : rest.length ≤ ts.length := hl
        obtain ⟨u2, e2, l2, X2⟩ := sM_look R1
        have fa2 : m_fa u2 = -1 := l2.2.2.2.2.1.trans fa1
        have A2 := AS_lf A1 (la_lf l2)
        have E2 : HE u2 bd := HE_fb (HE_fb (m := m) hE F1) (fb_la (m := m) l2)
        have up : ∀ {p : Bool × List Nat × Ac} {o : Option (Unit × MS)}, PM cs u2 m bd r0 122 p o → PM cs u m bd r0 122 p o := by
          rintro p o ⟨w, c1, c2, c3, c4, c5, c6, c7⟩
          exact ⟨w, c1, fb_tr F1 (fb_tr (fb_la l2) c2), c3.trans (l2.2.2.2.2.2.2.1.trans rb1), c4.trans (l2.2.2.2.2.2.2.2.2.2.1.trans nk1), c5.trans (l2.2.2.2.2.2.2.2.2.2.2.2.1.trans na1), c6, c7⟩
        rw [ob_s e2]
        refine up ?_
        have stop : PM cs u2 m bd r0 122 (true, rest, a1) (f_M_readSum_J105 (f_M_readSum_L39 (n + 1)) (nI m) (zI sd) 0 0 u2) := by
          unfold f_M_readSum_J105
          rw [if_pos (show (0 : Int32) = 0 from rfl), lt_q, L39_done (Or.inl rfl)]
          exact PM_up (la_lf (la_at _ _)) ⟨_, rfl, fb_lf (la_lf (la_rf _)), rfl, rfl, rfl, fun _ => ⟨fa2, MX_R (MX_at X2), AS_lf A2 (la_lf (la_at _ _))⟩, fun h => (by cases h)⟩
        cases rest with
        | nil =>
          rw [if_neg (show ¬ zI (lk []) = 43 by decide), if_neg (show ¬ zI (lk []) = 45 by decide), sb_n]
          unfold f_M_readSum_J91
          rw [if_neg (show ¬ zI (lk []) = 45 by decide)]
          exact stop
        | cons c q =>
          have hh := MR_hd R1
          have hq : q.length < ts.length := by
            rw [List.length_cons] at hl
            omega
          have next : ∀ ng : Bool, PM cs u2 m bd r0 122 (sp_sum bd sd f (if ng = true then -sd else sd) a1 q) (f_M_readSum_J105 (f_M_readSum_L39 (n + 1)) (nI m) (zI sd) 1 (bI ng) u2) := by
            intro ng
            unfold f_M_readSum_J105
            rw [if_neg (show ¬ (1 : Int32) = 0 by decide), lt_q]
            exact PM_up (la_lf (la_at _ _)) (ih f q ng a1 (m_p_at (m_at u2 + 1) u2) (by omega) (by omega) (MX_n X2) (AS_lf A2 (la_lf (la_at _ _))) fa2 (HE_fb (m := m) E2 (fb_la (la_at _ _))))
          by_cases h43 : c = 43
          · subst h43
            rw [if_pos (show zI (lk (43 :: q)) = 43 from (nI_zI 43).symm), sb_p]
            unfold f_M_readSum_J91
            rw [if_neg (zlk_ne (x := 45) (k := 45) rfl (by omega) (by omega) (by omega))]
            have g := next false
            rw [if_neg ff_tt, show bI false = 0 from rfl] at g
            exact g
          · rw [if_neg (zlk_ne (x := 43) (k := 43) rfl (by omega) (by omega) h43)]
            by_cases h45 : c = 45
            · subst h45
              rw [if_pos (show zI (lk (45 :: q)) = 45 from (nI_zI 45).symm), sb_m]
              unfold f_M_readSum_J91
              rw [if_pos (show zI (lk (45 :: q)) = 45 from (nI_zI 45).symm)]
              have g := next true
              rw [if_pos (show true = true from rfl), show bI true = 1 from rfl] at g
              exact g
            · rw [if_neg (zlk_ne (x := 45) (k := 45) rfl (by omega) (by omega) h45), sb_o h43 h45]
              unfold f_M_readSum_J91
              rw [if_neg (zlk_ne (x := 45) (k := 45) rfl (by omega) (by omega) h45)]
              exact stop
    rw [q_M_readSum_L39, if_neg (show ¬ (1 : Int32) = 0 by decide), if_neg (show ¬ 0 ≤ m_fa u by rw [hf]; decide)]
    cases neg
    · rw [if_pos (show bI false = 0 from rfl), if_neg ff_tt]
      exact key sd
    · rw [if_neg (show ¬ bI true = 0 by decide), if_pos (show true = true from rfl), zI_neg]
      exact key (-sd)
theorem MR_len {u : MS} {cs ts : List Nat} (h : MR u cs ts) : ts.length ≤ 120 := by
  obtain ⟨h1, p, h2, h3, h4⟩ := h
  have a := nsp_drop cs p
  have b := nsp_len cs
  have := h1.1.1
  rw [h4] at a
  omega
theorem sM_sum {u : MS} {cs ts : List Nat} {m : Nat} {sd : Int} {bd : Nat → Bool} {r0 : Bool} {a : Ac} (R : MR u cs ts) (hm : m < 20) (hA : AS u m bd r0 a) (hf : m_fa u = -1) (hE : HE u bd) : PM cs u m bd r0 122 (sp_sums bd sd a ts) (f_M_readSum (nI m) (zI sd) u) := by
  obtain ⟨u1, e1, l1, X1⟩ := sM_look R
  have hl := MR_len R
  have A1 := AS_lf hA (la_lf l1)
  have f1 : m_fa u1 = -1 := l1.2.2.2.2.1.trans hf
  have E1 : HE u1 bd := HE_fb (m := m) hE (fb_la l1)
  unfold f_M_readSum
  rw [ob_s e1]
  refine PM_up (la_lf l1) ?_
  have plain : PM cs u1 m bd r0 122 (sp_sum bd sd 130 sd a ts) (f_M_readSum_J14 (nI m) (zI sd) 0 u1) := by
    unfold f_M_readSum_J14
    rw [if_pos (show (0 : Int32) = 0 from rfl), lt_q]
    have g := sM_sumL (bd := bd) (r0 := r0) (sd := sd) hm 4096 130 ts false a (m_p_at (m_at u1) u1) (by omega) (by omega) (MX_R (MX_at X1)) (AS_lf A1 (la_lf (la_at _ _))) f1 (HE_fb (m := m) E1 (fb_la (la_at _ _)))
    rw [if_neg ff_tt, show bI false = 0 from rfl] at g
    exact PM_up (la_lf (la_at _ _)) g
  cases ts with
  | nil =>
    rw [if_neg (show ¬ zI (lk []) = 45 by decide), sp_sums_0]
    exact plain
  | cons c q =>
    have hh := MR_hd R
    by_cases h45 : c = 45
    · subst h45
      rw [if_pos (show zI (lk (45 :: q)) = 45 from (nI_zI 45).symm), sp_sums_m]
      unfold f_M_readSum_J14
      rw [if_neg (show ¬ (1 : Int32) = 0 by decide), lt_q]
      rw [List.length_cons] at hl
      have g := sM_sumL (bd := bd) (r0 := r0) (sd := sd) hm 4096 130 q true a (m_p_at (m_at u1 + 1) u1) (by omega) (by omega) (MX_n X1) (AS_lf A1 (la_lf (la_at _ _))) f1 (HE_fb (m := m) E1 (fb_la (la_at _ _)))
      rw [if_pos (show true = true from rfl), show bI true = 1 from rfl] at g
      exact PM_up (la_lf (la_at _ _)) g
    · rw [if_neg (zlk_ne (x := 45) (k := 45) rfl (by omega) (by omega) h45), sp_sums_c h45]
      exact plain
/-- a sum after a fault -/
theorem sM_sumF {u : MS} {cs : List Nat} {B g : Nat} {v1 v2 : Int32} (h : FB u cs B) (hB : 120 ≤ B) (hB2 : B ≤ 1000) (hf : m_fa u = nI g) (hg : g ≤ 1000) : ∃ u', f_M_readSum v1 v2 u = some ((), u') ∧ la u u' ∧ FB u' cs (B + 1) := by
  obtain ⟨r, u1, e1, l1, F1⟩ := sM_lookF h hB hB2
  have f1 : m_fa u1 = nI g := l1.2.2.2.2.1.trans hf
  have fn : ∀ x, 0 ≤ m_fa (m_p_at x u1) := fun x => by show 0 ≤ m_fa u1; rw [f1]; exact nI_pos' (by omega)
  unfold f_M_readSum
  rw [ob_s e1]
  have e0 : ∀ v3 x, f_M_readSum_L39 4096 v1 v2 v3 1 (m_p_at x u1) = some ((), m_p_at x u1) := fun v3 x => L39_done (n := 4095) (Or.inr (fn x))
  by_cases h45 : r = 45
  · rw [if_pos h45]
    unfold f_M_readSum_J14
    rw [if_neg (show ¬ (1 : Int32) = 0 by decide), lt_q, e0]
    exact ⟨_, rfl, la_tr l1 (la_at _ _), FB_1 F1⟩
  · rw [if_neg h45]
    unfold f_M_readSum_J14
    rw [if_pos (show (0 : Int32) = 0 from rfl), lt_q, e0]
    exact ⟨_, rfl, la_tr l1 (la_at _ _), FB_m (FB_at F1) (by omega)⟩
