/-- whether a variable that stands in it is held by no quantifier round it -/
def frb (bd o : Nat → Bool) : Bool := (o 0 && !bd 0) || (o 1 && !bd 1) || (o 2 && !bd 2)
theorem frb_b : ∀ a b c d e f : Bool, (((true && !d) || (b && !e) || (c && !f)) = (((a && !d) || (b && !e) || (c && !f)) || !d)) ∧ (((a && !d) || (true && !e) || (c && !f)) = (((a && !d) || (b && !e) || (c && !f)) || !e)) ∧ (((a && !d) || (b && !e) || (true && !f)) = (((a && !d) || (b && !e) || (c && !f)) || !f)) := by decide
theorem frb_v (bd o : Nat → Bool) {v : Nat} (hv : v < 3) : frb bd (fun j => if j = v then true else o j) = (frb bd o || !bd v) := by
  obtain ⟨h0, h1, h2⟩ := frb_b (o 0) (o 1) (o 2) (bd 0) (bd 1) (bd 2)
  rcases (show v = 0 ∨ v = 1 ∨ v = 2 by omega) with e | e | e
  · subst e; exact h0
  · subst e; exact h1
  · subst e; exact h2
theorem nsp_mem : ∀ (cs : List Nat) (c : Nat), c ∈ nsp cs → c ∈ cs ∧ c ≠ 32
  | [], c, h => by cases h
  | d :: r, c, h => by
    simp only [nsp] at h
    by_cases hd : d = 32
    · rw [if_pos hd] at h
      obtain ⟨a, b⟩ := nsp_mem r c h
      exact ⟨List.mem_cons_of_mem _ a, b⟩
    · rw [if_neg hd] at h
      rcases List.mem_cons.mp h with z | z
      · rw [z]; exact ⟨List.mem_cons_self, hd⟩
      · obtain ⟨a, b⟩ := nsp_mem r c z
        exact ⟨List.mem_cons_of_mem _ a, b⟩
theorem MR_hd {u : MS} {cs r : List Nat} {c : Nat} (h : MR u cs (c :: r)) : 32 < c ∧ c < 127 := by
  obtain ⟨h1, p, h2, h3, h4⟩ := h
  obtain ⟨a, b⟩ := nsp_mem (cs.drop p) c (by rw [h4]; exact List.mem_cons_self)
  have := h1.1.2 c (List.mem_of_mem_drop a)
  omega
theorem lk_b {u : MS} {cs ts : List Nat} (h : MR u cs ts) : -1 ≤ lk ts ∧ lk ts ≤ 126 ∧ ts.headD 0 < 127 := by
  cases ts with
  | nil => exact ⟨by decide, by decide, by decide⟩
  | cons c r =>
    have := MR_hd h
    refine ⟨?_, ?_, ?_⟩
    · show -1 ≤ (c : Int); omega
    · show (c : Int) ≤ 126; omega
    · show c < 127; omega
theorem lk_in (ts : List Nat) {a b : Nat} (ha : 0 < a) : (decide ((a : Int) ≤ lk ts) && decide (lk ts ≤ (b : Int))) = (decide (a ≤ ts.headD 0) && decide (ts.headD 0 ≤ b)) := by
  cases ts with
  | nil =>
    rw [decide_eq_false (show ¬ (a : Int) ≤ lk [] by show ¬ (a : Int) ≤ -1; omega), decide_eq_false (show ¬ a ≤ ([] : List Nat).headD 0 by show ¬ a ≤ 0; omega)]
    rfl
  | cons c r =>
    show (decide ((a : Int) ≤ (c : Int)) && decide ((c : Int) ≤ (b : Int))) = (decide (a ≤ c) && decide (c ≤ b))
    rw [decide_eq_decide.mpr (show (a : Int) ≤ (c : Int) ↔ a ≤ c by omega), decide_eq_decide.mpr (show (c : Int) ≤ (b : Int) ↔ c ≤ b by omega)]
theorem sM_inC {u w : MS} {cs ts : List Nat} (h : MR u cs ts) {a b : Nat} (ha : 0 < a) (ha2 : a < 1000) (hb : b < 1000) : f_M_in (zI (lk ts)) (nI a) (nI b) w = some (bI (decide (a ≤ ts.headD 0) && decide (ts.headD 0 ≤ b)), w) := by
  have := lk_b h
  rw [nI_zI a, nI_zI b, sM_in (by omega) (by omega) (by omega) (by omega) (by omega) (by omega), lk_in ts ha]
theorem n4 (s v : Nat) : 4 * nI s + nI v = nI (4 * s + v) := by
  rw [show (4 : Int32) = nI 4 from rfl, pk_mul, nI_add]
/-- inside a claim in [ ] at m -/
def fb (m : Nat) (a b : MS) : Prop := tb a b ∧ m_ty b = m_ty a ∧ m_si b = m_si a ∧ m_ch b = m_ch a ∧ m_re b = m_re a ∧ m_dp b = m_dp a ∧ m_no b = m_no a ∧ m_he b = m_he a ∧ m_op b = m_op a ∧ m_le b = m_le a ∧ (∀ j, j ≠ m → m_nk b j = m_nk a j ∧ m_na b j = m_na a j) ∧ ∀ j, (j < 4 * m ∨ 4 * m + 4 ≤ j) → m_ns b j = m_ns a j
theorem fb_tr {m : Nat} {a b c : MS} (h : fb m a b) (g : fb m b c) : fb m a c := by
  obtain ⟨h0, h1, h2, h3, h4, h5, h6, h7, h8, h9, h10, h11⟩ := h
  obtain ⟨g0, g1, g2, g3, g4, g5, g6, g7, g8, g9, g10, g11⟩ := g
  exact ⟨tb_tr h0 g0, g1.trans h1, g2.trans h2, g3.trans h3, g4.trans h4, g5.trans h5, g6.trans h6, g7.trans h7, g8.trans h8, g9.trans h9, fun j hj => ⟨(g10 j hj).1.trans (h10 j hj).1, (g10 j hj).2.trans (h10 j hj).2⟩, fun j hj => (g11 j hj).trans (h11 j hj)⟩
theorem fb_lf {m : Nat} {a b : MS} (h : lf a b) : fb m a b := by
  obtain ⟨h0, h1, h2, h3, h4, h5, h6, h7, h8, h9, h10, h11, h12, h13, h14⟩ := h
  exact ⟨h0, h1, h2, h3, h4, h7, h9, h12, h13, h14, fun j _ => ⟨congrFun h8 j, congrFun h10 j⟩, fun j _ => congrFun h11 j⟩
theorem fb_la {m : Nat} {a b : MS} (h : la a b) : fb m a b := fb_lf (la_lf h)
theorem MB_fb {m : Nat} {a b : MS} {cs : List Nat} (h : MB a cs) (g : fb m a b) : MB b cs := ⟨h.1, g.2.2.1.trans h.2.1, fun i c hi => by rw [g.2.2.2.1]; exact h.2.2 i c hi⟩
/-- the sum so far, and whether a variable was free -/
def AS (u : MS) (m : Nat) (bd : Nat → Bool) (r0 : Bool) (a : Ac) : Prop := (∀ v, v < 3 → m_ns u (4 * m + v) = zI (a.1 v)) ∧ m_ns u (4 * m + 3) = zI a.2.1 ∧ m_rf u = bI (r0 || frb bd a.2.2)
theorem AS_lf {m : Nat} {a b : MS} {bd : Nat → Bool} {r0 : Bool} {c : Ac} (h : AS a m bd r0 c) (g : lf a b) : AS b m bd r0 c := by
  obtain ⟨g0, g1, g2, g3, g4, g5, g6, g7, g8, g9, g10, g11, g12, g13, g14⟩ := g
  exact ⟨fun v hv => by rw [g11]; exact h.1 v hv, by rw [g11]; exact h.2.1, by rw [g6]; exact h.2.2⟩
/-- which variables are held -/
def HE (u : MS) (bd : Nat → Bool) : Prop := ∀ v, v < 3 → ∃ k : Nat, k ≤ 100 ∧ m_he u v = nI k ∧ bd v = decide (0 < k)
theorem HE_fb {m : Nat} {a b : MS} {bd : Nat → Bool} (h : HE a bd) (g : fb m a b) : HE b bd := fun v hv => by rw [g.2.2.2.2.2.2.2.1]; exact h v hv
/-- what reading a sum has come to -/
def PM (cs : List Nat) (u : MS) (m : Nat) (bd : Nat → Bool) (r0 : Bool) (b : Nat) (p : Bool × List Nat × Ac) (o : Option (Unit × MS)) : Prop := ∃ u', o = some ((), u') ∧ fb m u u' ∧ m_rb u' = m_rb u ∧ m_nk u' = m_nk u ∧ m_na u' = m_na u ∧ (p.1 = true → m_fa u' = -1 ∧ MR u' cs p.2.1 ∧ AS u' m bd r0 p.2.2) ∧ (p.1 = false → m_fa u' = nI (fpl cs p.2.1) ∧ FB u' cs b)
theorem PM_up {cs : List Nat} {u u1 : MS} {m : Nat} {bd : Nat → Bool} {r0 : Bool} {b : Nat} {p : Bool × List Nat × Ac} {o : Option (Unit × MS)} (l : lf u u1) (h : PM cs u1 m bd r0 b p o) : PM cs u m bd r0 b p o := by
  obtain ⟨u', h1, h2, h3, h4, h5, h6, h7⟩ := h
  obtain ⟨g0, g1, g2, g3, g4, g5, g6, g7, g8, g9, g10, g11, g12, g13, g14⟩ := l
  exact ⟨u', h1, fb_tr (fb_lf ⟨g0, g1, g2, g3, g4, g5, g6, g7, g8, g9, g10, g11, g12, g13, g14⟩) h2, h3.trans g5, h4.trans g8, h5.trans g10, h6, h7⟩
theorem PM_w {cs : List Nat} {u : MS} {m : Nat} {bd : Nat → Bool} {r0 : Bool} {b : Nat} {p : Bool × List Nat × Ac} {o : Option (Unit × MS)} (h : PM cs u m bd r0 b p o) : PM cs u m bd r0 b p (ob o fun _ w => some ((), w)) := by
  obtain ⟨u', h1, h2⟩ := h
  exact ⟨u', by rw [ob_s h1], h2⟩
theorem sM_J47 {w : MS} {m v : Nat} {z : Int32} (t : Bool) (hm : m < 20) (hv : v < 3) : f_M_addVariable_J47 (nI m) z (nI v) (bI t) w = some ((), m_p_at (m_at w + 1) (m_p_ns (upd (m_ns w) (4 * m + v) (m_ns w (4 * m + v) + z)) (m_p_rf (bI t) w))) := by
  unfold f_M_addVariable_J47
  rw [bz_bI, gd_t, lt_q, n4, gd_s (inb_nI (by omega) (by omega)), gd_s (inb_nI (by omega) (by omega)), lt_q, lt_q, nI_clamp (by omega)]
  rfl
theorem sM_J25 {w : MS} {m v k : Nat} {z : Int32} {t : Bool} (hm : m < 20) (hv : v < 3) (hk : k ≤ 100) (he : m_he w v = nI k) (ht : m_rf w = bI t) : f_M_addVariable_J25 (nI m) z (nI v) w = some ((), m_p_at (m_at w + 1) (m_p_ns (upd (m_ns w) (4 * m + v) (m_ns w (4 * m + v) + z)) (m_p_rf (bI (t || !decide (0 < k))) w))) := by
  unfold f_M_addVariable_J25
  rw [ht]
  cases t
  · rw [if_pos (show bI false = 0 from rfl), gd_s (inb_nI (by omega) (by omega)), nI_clamp (by omega), he]
    by_cases h0 : k = 0
    · subst h0
      rw [if_pos nI_0]
      exact sM_J47 true hm hv
    · rw [if_neg (nI_ne0 (by omega) (by omega)), decide_eq_true (show 0 < k by omega)]
      exact sM_J47 false hm hv
  · rw [if_neg (show ¬ bI true = 0 by decide)]
    exact sM_J47 true hm hv
theorem vs_f (x : Int32) (j : Nat) (y z : Int32) (w : MS) : m_at (m_p_at x (m_p_ns (upd (m_ns w) j y) (m_p_rf z w))) = x ∧ m_ns (m_p_at x (m_p_ns (upd (m_ns w) j y) (m_p_rf z w))) = upd (m_ns w) j y ∧ m_rf (m_p_at x (m_p_ns (upd (m_ns w) j y) (m_p_rf z w))) = z ∧ m_fa (m_p_at x (m_p_ns (upd (m_ns w) j y) (m_p_rf z w))) = m_fa w ∧ m_rb (m_p_at x (m_p_ns (upd (m_ns w) j y) (m_p_rf z w))) = m_rb w ∧ m_nk (m_p_at x (m_p_ns (upd (m_ns w) j y) (m_p_rf z w))) = m_nk w ∧ m_na (m_p_at x (m_p_ns (upd (m_ns w) j y) (m_p_rf z w))) = m_na w := by
  refine ⟨?_, ?_, ?_, ?_, ?_, ?_, ?_⟩ <;> simp only [mp_at, mp_ns, mp_rf]
theorem fb_vs {m : Nat} (x : Int32) {j : Nat} (hj : 4 * m ≤ j) (hj2 : j < 4 * m + 4) (y z : Int32) (w : MS) : fb m w (m_p_at x (m_p_ns (upd (m_ns w) j y) (m_p_rf z w))) := by
  refine ⟨⟨?_, ?_, ?_, ?_, ?_, ?_, ?_⟩, ?_, ?_, ?_, ?_, ?_, ?_, ?_, ?_, ?_, fun i _ => ⟨?_, ?_⟩, fun i hi => ?_⟩
  rotate_right
  · rw [(vs_f x j y z w).2.1]
    exact pk_un (show i ≠ j by omega)
  all_goals simp only [mp_at, mp_ns, mp_rf]
theorem MX_n2 {u W : MS} {cs r : List Nat} {c : Nat} (h : MX u cs (c :: r)) (hB : MB W cs) (ha : m_at W = m_at u + 1) : MR W cs r := by
  obtain ⟨n1, p, n2, n3, n4⟩ := MX_n h
  exact ⟨hB, p, n2, ha.trans n3, n4⟩
theorem FB_2 {u W : MS} {cs : List Nat} {B : Nat} (h : FB u cs B) (hB : MB W cs) (ha : m_at W = m_at u + 1) : FB W cs (B + 1) := by
  obtain ⟨n1, p, n2, n3⟩ := h
  exact ⟨hB, p + 1, by omega, by rw [ha, n3, nI_1]⟩
theorem sM_addV {u : MS} {cs r : List Nat} {c m : Nat} {z : Int} {bd : Nat → Bool} {r0 : Bool} {a : Ac} (X : MX u cs (c :: r)) (hV : isV c = true) (hm : m < 20) (hA : AS u m bd r0 a) (hf : m_fa u = -1) (hE : HE u bd) :
    PM cs u m bd r0 121 (if c = 120 ∨ bd (c - 120) = true then (true, r, ac_v a (c - 120) z) else (false, c :: r, a)) (f_M_addVariable (nI m) (zI z) u) := by
  have hv := isV_lt hV
  obtain ⟨u1, e1, l1, X1⟩ := sM_look (MX_R X)
  refine PM_up (la_lf l1) ?_
  have hA1 := AS_lf hA (la_lf l1)
  have hf1 : m_fa u1 = -1 := l1.2.2.2.2.1.trans hf
  have hE1 : HE u1 bd := HE_fb (m := m) hE (fb_la l1)
  obtain ⟨k, hk, hek, hbk⟩ := hE1 (c - 120) (by omega)
  unfold f_M_addVariable
  rw [ob_s e1, show zI (lk (c :: r)) = nI c from (nI_zI c).symm, show (120 : Int32) = nI 120 from rfl, pk_sub (by omega), lt_q]
  have good : (c = 120 ∨ bd (c - 120) = true) → PM cs u1 m bd r0 121 (if c = 120 ∨ bd (c - 120) = true then (true, r, ac_v a (c - 120) z) else (false, c :: r, a)) (f_M_addVariable_J25 (nI m) (zI z) (nI (c - 120)) u1) := by
    intro hg
    rw [if_pos hg, sM_J25 hm (by omega) hk hek hA1.2.2]
    have Wf := vs_f (m_at u1 + 1) (4 * m + (c - 120)) (m_ns u1 (4 * m + (c - 120)) + zI z) (bI ((r0 || frb bd a.2.2) || !decide (0 < k))) u1
    have Fw : fb m u1 (m_p_at (m_at u1 + 1) (m_p_ns (upd (m_ns u1) (4 * m + (c - 120)) (m_ns u1 (4 * m + (c - 120)) + zI z)) (m_p_rf (bI ((r0 || frb bd a.2.2) || !decide (0 < k))) u1))) := fb_vs _ (by omega) (by omega) _ _ _
    generalize m_p_at (m_at u1 + 1) (m_p_ns (upd (m_ns u1) (4 * m + (c - 120)) (m_ns u1 (4 * m + (c - 120)) + zI z)) (m_p_rf (bI ((r0 || frb bd a.2.2) || !decide (0 < k))) u1)) = W at Wf Fw ⊢
    obtain ⟨w1, w2, w3, w4, w5, w6, w7⟩ := Wf
    refine ⟨W, rfl, Fw, w5, w6, w7, fun _ => ⟨w4.trans hf1, MX_n2 X1 (MB_fb X1.1 Fw) w1, fun w hw => ?_, ?_, ?_⟩, fun h => (by cases h)⟩
    · rw [w2]
      show upd (m_ns u1) (4 * m + (c - 120)) (m_ns u1 (4 * m + (c - 120)) + zI z) (4 * m + w) = zI (if w = c - 120 then a.1 w + z else a.1 w)
      by_cases e : w = c - 120
      · subst e
        rw [pk_us, hA1.1 _ hw, zI_add, if_pos rfl]
      · rw [pk_un (by omega), if_neg e, hA1.1 w hw]
    · rw [w2, pk_un (by omega)]
      exact hA1.2.1
    · rw [w3]
      show bI ((r0 || frb bd a.2.2) || !decide (0 < k)) = bI (r0 || frb bd (fun j => if j = c - 120 then true else a.2.2 j))
      rw [frb_v bd a.2.2 (by omega), hbk, Bool.or_assoc]
  by_cases h120 : c = 120
  · rw [if_pos (show nI (c - 120) ≤ 0 by rw [h120]; decide)]
    exact good (Or.inl h120)
  · rw [if_neg (nI_nle (by omega) (by omega)), gd_s (inb_nI (by omega) (by omega)), nI_clamp (by omega), hek]
    by_cases h0 : k = 0
    · have hb0 : bd (c - 120) = false := by rw [hbk, h0]; rfl
      obtain ⟨u2, e2, l2, f2, F2⟩ := sM_fail (MX_R X1) hf1
      rw [if_pos (show nI k = 0 by rw [h0]; exact nI_0), ob_s e2, if_neg (show ¬ (c = 120 ∨ bd (c - 120) = true) by rw [hb0]; simp [h120])]
      have hA2 := AS_lf hA1 l2
      have he2 : m_he u2 (c - 120) = nI k := by rw [l2.2.2.2.2.2.2.2.2.2.2.2.2.1]; exact hek
      rw [sM_J25 hm (by omega) hk he2 hA2.2.2]
      have Wf := vs_f (m_at u2 + 1) (4 * m + (c - 120)) (m_ns u2 (4 * m + (c - 120)) + zI z) (bI ((r0 || frb bd a.2.2) || !decide (0 < k))) u2
      have Fw : fb m u2 (m_p_at (m_at u2 + 1) (m_p_ns (upd (m_ns u2) (4 * m + (c - 120)) (m_ns u2 (4 * m + (c - 120)) + zI z)) (m_p_rf (bI ((r0 || frb bd a.2.2) || !decide (0 < k))) u2))) := fb_vs _ (by omega) (by omega) _ _ _
      generalize m_p_at (m_at u2 + 1) (m_p_ns (upd (m_ns u2) (4 * m + (c - 120)) (m_ns u2 (4 * m + (c - 120)) + zI z)) (m_p_rf (bI ((r0 || frb bd a.2.2) || !decide (0 < k))) u2)) = W at Wf Fw ⊢
      obtain ⟨w1, w2, w3, w4, w5, w6, w7⟩ := Wf
      exact PM_up l2 ⟨W, rfl, Fw, w5, w6, w7, fun h => (by cases h), fun _ => ⟨w4.trans f2, FB_2 F2 (MB_fb F2.1 Fw) w1⟩⟩
    · rw [if_neg (nI_ne0 (by omega) (by omega))]
      exact good (Or.inr (by rw [hbk]; exact decide_eq_true (by omega)))
