theorem sM_divL {cs : List Nat} {v1 : Int32} {w : MS} (hB : MB w cs) : ∀ (n p : Nat), cs.length - p < n → p ≤ 1000 → ∃ p', f_M_isDivisor_L12 n v1 (nI p) w = f_M_isDivisor_J38 v1 (nI p') w ∧ p' ≤ 1000 ∧ (p ≤ cs.length → p' ≤ cs.length ∧ nsp (cs.drop p') = nsp (cs.drop p) ∧ (p' = cs.length ∨ ∃ c, cs[p']? = some c ∧ c ≠ 32)) := by
  intro n
  have h120 := hB.1.1
  induction n with
  | zero => intro p h; omega
  | succ n ih =>
    intro p hn hp
    rw [q_M_isDivisor_L12]
    by_cases hl : cs.length ≤ p
    · rw [if_pos (show m_si w ≤ nI p by rw [hB.2.1]; exact nI_le hl (by omega))]
      exact ⟨p, rfl, hp, fun h => ⟨h, rfl, Or.inl (by omega)⟩⟩
    · obtain ⟨c, hc⟩ : ∃ c, cs[p]? = some c := ⟨_, List.getElem?_eq_getElem (by omega)⟩
      have hcb := hB.1.2 c (List.mem_of_getElem? hc)
      rw [if_neg (show ¬ m_si w ≤ nI p by rw [hB.2.1]; exact nI_ge (by omega) (by omega)), gd_s (inb_nI (by omega) (by omega)), nI_clamp (by omega), hB.2.2 p c hc]
      by_cases h32 : c = 32
      · rw [if_pos (show nI c = 32 by rw [h32]; rfl), lt_q, nI_1]
        obtain ⟨p', e, h1, h2⟩ := ih (p + 1) (by omega) (by omega)
        refine ⟨p', e, h1, fun _ => ?_⟩
        obtain ⟨a, b, c'⟩ := h2 (by omega)
        exact ⟨a, by rw [b, nsp_at hc, if_pos h32], c'⟩
      · rw [if_neg (ne_l (x := 32) (k := 32) rfl (by omega) (by omega) h32)]
        exact ⟨p, rfl, hp, fun h => ⟨h, rfl, Or.inr ⟨c, hc, h32⟩⟩⟩
theorem sM_div {u : MS} {cs ts : List Nat} (R : MR u cs ts) : ∃ u', f_M_isDivisor u = some (bI (dvb ts), u') ∧ la u u' ∧ MX u' cs ts := by
  obtain ⟨u1, e1, l1, X1⟩ := sM_look R
  refine ⟨u1, ?_, l1, X1⟩
  unfold f_M_isDivisor
  rw [ob_s e1, lt_q]
  have hB := X1.1
  have h120 := hB.1.1
  obtain ⟨-, p, hp, ha, ht, hx⟩ := X1
  rw [ha, nI_1]
  obtain ⟨p', e, h1, h2⟩ := sM_divL (v1 := zI (lk ts)) hB 4096 (p + 1) (by omega) (by omega)
  rw [e]
  unfold f_M_isDivisor_J38
  have R1 : MR u1 cs ts := ⟨hB, p, hp, ha, ht⟩
  rw [show (50 : Int32) = nI 50 from rfl, show (51 : Int32) = nI 51 from rfl, ob_s (sM_inC R1 (by omega) (by omega) (by omega))]
  have e51 : (decide (50 ≤ ts.headD 0) && decide (ts.headD 0 ≤ 51)) = (ts.headD 0 == 50 || ts.headD 0 == 51) := by
    by_cases z : ts.headD 0 = 50 ∨ ts.headD 0 = 51
    · rw [decide_eq_true (show 50 ≤ ts.headD 0 by omega), decide_eq_true (show ts.headD 0 ≤ 51 by omega)]
      rcases z with z | z <;> rw [z] <;> rfl
    · have : (ts.headD 0 == 50 || ts.headD 0 == 51) = false := by
        rw [Bool.or_eq_false_iff, beq_eq_false_iff_ne, beq_eq_false_iff_ne]; omega
      rw [this, Bool.and_eq_false_iff, decide_eq_false_iff_not, decide_eq_false_iff_not]
      omega
  rw [e51]
  cases hd : (ts.headD 0 == 50 || ts.headD 0 == 51)
  · rw [if_pos (show bI false = 0 from rfl), bz0, gd_t]
    unfold dvb
    rw [hd]
    rfl
  · rw [if_neg (show ¬ bI true = 0 by decide)]
    have hdv : dvb ts = ((ts.drop 1).headD 0 == 58) := by
      unfold dvb
      rw [hd, Bool.true_and]
    rw [hdv]
    cases ts with
    | nil => cases hd
    | cons c r =>
      rcases hx with hx | ⟨d, hx, hd32⟩
      · rw [hx, List.drop_length] at ht; cases ht
      · rw [nsp_at hx, if_neg hd32] at ht
        have hp1 := (List.getElem?_eq_some_iff.mp hx).1
        have hr : nsp (cs.drop (p + 1)) = r := by injection ht
        obtain ⟨b1, b2, b3⟩ := h2 (by omega)
        rw [hr] at b2
        rw [hB.2.1, show (c :: r).drop 1 = r from rfl]
        rcases b3 with b3 | ⟨d2, b3, b4⟩
        · rw [if_pos (nI_le (by omega) (by omega)), bz0, gd_t]
          rw [b3, List.drop_length] at b2
          rw [← b2]
          rfl
        · have hp2 := (List.getElem?_eq_some_iff.mp b3).1
          have hcb := hB.1.2 d2 (List.mem_of_getElem? b3)
          rw [nsp_at b3, if_neg b4] at b2
          rw [if_neg (nI_ge hp2 (by omega)), gd_s (inb_nI (by omega) (by omega)), nI_clamp (by omega), hB.2.2 p' d2 b3, ← b2, show (d2 :: nsp (cs.drop (p' + 1))).headD 0 = d2 from rfl]
          by_cases h58 : d2 = 58
          · rw [if_pos (show nI d2 = 58 by rw [h58]; rfl), bz1, gd_t, h58]
            rfl
          · rw [if_neg (ne_l (x := 58) (k := 58) rfl (by omega) (by omega) h58), bz0, gd_t, show (d2 == 58) = false from beq_eq_false_iff_ne.mpr h58]
            rfl
theorem sM_divF {u : MS} {cs : List Nat} {B : Nat} (h : FB u cs B) (hB : 120 ≤ B) (hB2 : B ≤ 900) : ∃ r u', f_M_isDivisor u = some (r, u') ∧ la u u' ∧ FB u' cs B := by
  obtain ⟨r, u1, e1, l1, F1⟩ := sM_lookF h hB (by omega)
  unfold f_M_isDivisor
  rw [ob_s e1, lt_q]
  obtain ⟨hM, p, hp, ha⟩ := F1
  have h120 := hM.1.1
  rw [ha, nI_1]
  obtain ⟨p', e, h1, h2⟩ := sM_divL (v1 := r) hM 4096 (p + 1) (by omega) (by omega)
  rw [e]
  unfold f_M_isDivisor_J38
  have hi : ∃ b : Bool, f_M_in r 50 51 u1 = some (bI b, u1) := by
    unfold f_M_in
    rw [bz0, bz1, gd_t, gd_t]
    by_cases a1 : r < 50
    · rw [if_pos a1]; exact ⟨false, rfl⟩
    · rw [if_neg a1]
      by_cases a2 : 51 < r
      · rw [if_pos a2]; exact ⟨false, rfl⟩
      · rw [if_neg a2]; exact ⟨true, rfl⟩
  obtain ⟨b, hb⟩ := hi
  rw [ob_s hb]
  have hF : FB u1 cs B := ⟨hM, p, hp, ha⟩
  cases b
  · rw [if_pos (show bI false = 0 from rfl), bz0, gd_t]
    exact ⟨_, u1, rfl, l1, hF⟩
  · rw [if_neg (show ¬ bI true = 0 by decide), hM.2.1]
    by_cases hl : cs.length ≤ p'
    · rw [if_pos (nI_le hl (by omega)), bz0, gd_t]
      exact ⟨_, u1, rfl, l1, hF⟩
    · rw [if_neg (nI_ge (by omega) (by omega)), gd_s (inb_nI (by omega) (by omega))]
      by_cases h58 : m_ch u1 (nI p').toNatClampNeg = 58
      · rw [if_pos h58, bz1, gd_t]
        exact ⟨_, u1, rfl, l1, hF⟩
      · rw [if_neg h58, bz0, gd_t]
        exact ⟨_, u1, rfl, l1, hF⟩
/-- the end of a claim in [ ]: the three coefficients -/
theorem sM_225S {n v m : Nat} {b : Bool} {w : MS} {z : Int} (hm : m < 20) (hv : v < 3) (hz : m_ns w (4 * m + v) = zI z) (h1 : -100000 ≤ z) (h2 : z ≤ 100000) : f_M_readBracket_L225 (n + 1) (nI m) (bI b) (nI v) w = f_M_readBracket_L225 n (nI m) (bI (b && (decide (-2 ≤ z) && decide (z ≤ 2)))) (nI (v + 1)) w := by
  rw [q_M_readBracket_L225, if_neg (show ¬ (3 : Int32) ≤ nI v from nI_ge (b := 3) hv (by omega))]
  cases b
  · rw [if_pos (show bI false = 0 from rfl), lt_q, nI_1]
    rfl
  · rw [if_neg (show ¬ bI true = 0 by decide), n4, gd_s (inb_nI (by omega) (by omega)), nI_clamp (by omega), hz, show (-2 : Int32) = zI (-2) from rfl, show (2 : Int32) = zI 2 from rfl, ob_s (sM_in (by omega) (by omega) (by omega) (by omega) (by omega) (by omega) w), Bool.true_and]
    cases h : (decide (-2 ≤ z) && decide (z ≤ 2))
    · rw [if_pos (show bI false = 0 from rfl), lt_q, nI_1]
      rfl
    · rw [if_neg (show ¬ bI true = 0 by decide), lt_q, nI_1]
      rfl
/-- after a fault the end of a claim in [ ] does nothing more -/
theorem sM_225F {m : Nat} {w : MS} : f_M_readBracket_L225 4096 (nI m) 0 0 w = ob (f_M_fail w) fun _ u39 => f_M_readBracket_J273 u39 := by
  have s : ∀ n v : Nat, v < 3 → f_M_readBracket_L225 (n + 1) (nI m) 0 (nI v) w = f_M_readBracket_L225 n (nI m) 0 (nI (v + 1)) w := by
    intro n v hv
    rw [q_M_readBracket_L225, if_neg (show ¬ (3 : Int32) ≤ nI v from nI_ge (b := 3) hv (by omega)), if_pos (show (0 : Int32) = 0 from rfl), lt_q, nI_1]
  have e : f_M_readBracket_L225 4096 (nI m) 0 (nI 0) w = ob (f_M_fail w) fun _ u39 => f_M_readBracket_J273 u39 := by
    rw [show (4096 : Nat) = 4092 + 1 + 1 + 1 + 1 from rfl, s _ 0 (by omega), s _ (0 + 1) (by omega), s _ (0 + 1 + 1) (by omega), q_M_readBracket_L225, if_pos (show (3 : Int32) ≤ nI (0 + 1 + 1 + 1) by decide), if_pos (show (0 : Int32) = 0 from rfl)]
  rw [nI_0] at e
  exact e
/-- what reading a claim in [ ] has come to -/
def BM (cs : List Nat) (u : MS) (m : Nat) (bd : Nat → Bool) (r0 : Bool) (p : Bool × List Nat × Nd) (o : Option (Unit × MS)) : Prop := ∃ u', o = some ((), u') ∧ fb m u u' ∧ (p.1 = true → m_fa u' = -1 ∧ MR u' cs p.2.1 ∧ m_rb u' = m_rb u ∧ m_nk u' m = m_nk u m ∧ m_na u' m = m_na u m ∧ AS u' m bd r0 p.2.2.2.2) ∧ (p.1 = false → m_fa u' = nI (fpl cs p.2.1) ∧ FB u' cs 200)
theorem BM_up {cs : List Nat} {u u1 : MS} {m : Nat} {bd : Nat → Bool} {r0 : Bool} {p : Bool × List Nat × Nd} {o : Option (Unit × MS)} (F : fb m u u1) (h1 : m_rb u1 = m_rb u) (h2 : m_nk u1 m = m_nk u m) (h3 : m_na u1 m = m_na u m) (h : BM cs u1 m bd r0 p o) : BM cs u m bd r0 p o := by
  obtain ⟨w, a1, a2, a3, a4⟩ := h
  refine ⟨w, a1, fb_tr F a2, fun hp => ?_, a4⟩
  obtain ⟨b1, b2, b3, b4, b5, b6⟩ := a3 hp
  exact ⟨b1, b2, b3.trans h1, b4.trans h2, b5.trans h3, b6⟩
theorem sM_inA (x a b : Int32) (w : MS) : ∃ t : Bool, f_M_in x a b w = some (bI t, w) := by
  unfold f_M_in
  rw [bz0, bz1, gd_t, gd_t]
  by_cases a1 : x < a
  · rw [if_pos a1]; exact ⟨false, rfl⟩
  · rw [if_neg a1]
    by_cases a2 : b < x
    · rw [if_pos a2]; exact ⟨false, rfl⟩
    · rw [if_neg a2]; exact ⟨true, rfl⟩
theorem sM_225E {n m : Nat} (b : Bool) (w : MS) : f_M_readBracket_L225 (n + 1) (nI m) (bI b) (nI 3) w = if b = true then f_M_readBracket_J273 w else ob (f_M_fail w) fun _ u39 => f_M_readBracket_J273 u39 := by
  rw [q_M_readBracket_L225, if_pos (show (3 : Int32) ≤ nI 3 by decide)]
  cases b
  · rw [if_pos (show bI false = 0 from rfl), if_neg ff_tt]
  · rw [if_neg (show ¬ bI true = 0 by decide), if_pos (show true = true from rfl)]
theorem sM_225A {m : Nat} (hm : m < 20) (b : Bool) (w : MS) : ∃ t : Bool, f_M_readBracket_L225 4096 (nI m) (bI b) 0 w = if t = true then f_M_readBracket_J273 w else ob (f_M_fail w) fun _ u39 => f_M_readBracket_J273 u39 := by
  have s : ∀ (n v : Nat) (b : Bool), v < 3 → ∃ t : Bool, f_M_readBracket_L225 (n + 1) (nI m) (bI b) (nI v) w = f_M_readBracket_L225 n (nI m) (bI t) (nI (v + 1)) w := by
    intro n v b hv
    rw [q_M_readBracket_L225, if_neg (show ¬ (3 : Int32) ≤ nI v from nI_ge (b := 3) hv (by omega))]
    cases b
    · rw [if_pos (show bI false = 0 from rfl), lt_q, nI_1]
      exact ⟨false, rfl⟩
    · rw [if_neg (show ¬ bI true = 0 by decide), n4, gd_s (inb_nI (by omega) (by omega))]
      obtain ⟨t, e⟩ := sM_inA (m_ns w (nI (4 * m + v)).toNatClampNeg) (-2) 2 w
      rw [ob_s e]
      cases t
      · rw [if_pos (show bI false = 0 from rfl), lt_q, nI_1]
        exact ⟨false, rfl⟩
      · rw [if_neg (show ¬ bI true = 0 by decide), lt_q, nI_1]
        exact ⟨true, rfl⟩
  obtain ⟨t1, e1⟩ := s 4095 0 b (by omega)
  obtain ⟨t2, e2⟩ := s 4094 (0 + 1) t1 (by omega)
  obtain ⟨t3, e3⟩ := s 4093 (0 + 1 + 1) t2 (by omega)
  have e4 := sM_225E (n := 4092) (m := m) t3 w
  have e : f_M_readBracket_L225 4096 (nI m) (bI b) (nI 0) w = if t3 = true then f_M_readBracket_J273 w else ob (f_M_fail w) fun _ u39 => f_M_readBracket_J273 u39 := e1.trans (e2.trans (e3.trans e4))
  rw [nI_0] at e
  exact ⟨t3, e⟩
/-- after a fault -/
theorem sM_188F {u : MS} {cs : List Nat} {B g m : Nat} (hm : m < 20) (h : FB u cs B) (hB : 120 ≤ B) (hB2 : B ≤ 900) (hf : m_fa u = nI g) (hg : g ≤ 1000) : ∃ u', f_M_readBracket_J188 (nI m) u = some ((), u') ∧ lf u u' ∧ m_fa u' = nI g ∧ FB u' cs (B + 1) := by
  obtain ⟨r, u1, e1, l1, F1⟩ := sM_lookF h hB (by omega)
  have f1 : m_fa u1 = nI g := l1.2.2.2.2.1.trans hf
  have end_ : ∀ t : Bool, ∃ u', (if t = true then f_M_readBracket_J273 u1 else ob (f_M_fail u1) fun _ u39 => f_M_readBracket_J273 u39) = some ((), u') ∧ lf u u' ∧ m_fa u' = nI g ∧ FB u' cs (B + 1) := by
    intro t
    cases t
    · obtain ⟨u2, e2, l2, f2, F2⟩ := sM_failF F1 hB (by omega) f1 hg
      rw [if_neg ff_tt, ob_s e2]
      unfold f_M_readBracket_J273
      rw [lt_q]
      exact ⟨_, rfl, lf_tr (la_lf l1) (lf_tr l2 (la_lf (la_at _ _))), f2, FB_1 F2⟩
    · rw [if_pos (show true = true from rfl)]
      unfold f_M_readBracket_J273
      rw [lt_q]
      exact ⟨_, rfl, lf_tr (la_lf l1) (la_lf (la_at _ _)), f1, FB_1 F1⟩
  unfold f_M_readBracket_J188
  rw [ob_s e1]
  by_cases h93 : r = 93
  · obtain ⟨t, et⟩ := sM_inA (m_ns u1 (4 * nI m + 3).toNatClampNeg) (-15) 15 u1
    rw [if_pos h93, show inb (4 * nI m + 3) 80 = true by rw [show (3 : Int32) = nI 3 from rfl, n4]; exact inb_nI (by omega) (by omega), gd_t, ob_s et]
    cases t
    · rw [if_pos (show bI false = 0 from rfl)]
      obtain ⟨t2, e2⟩ := sM_225A hm false u1
      rw [show bI false = 0 from rfl] at e2
      rw [e2]
      exact end_ t2
    · rw [if_neg (show ¬ bI true = 0 by decide)]
      obtain ⟨t2, e2⟩ := sM_225A hm true u1
      rw [show bI true = 1 from rfl] at e2
      rw [e2]
      exact end_ t2
  · rw [if_neg h93]
    obtain ⟨t2, e2⟩ := sM_225A hm false u1
    rw [show bI false = 0 from rfl] at e2
    rw [e2]
    exact end_ t2
theorem sM_188 {u : MS} {cs ts : List Nat} {m k d : Nat} {bd : Nat → Bool} {r0 : Bool} {a : Ac} {K : Int} (R : MR u cs ts) (hm : m < 20) (hA : AS u m bd r0 a) (hf : m_fa u = -1) (hI : acI bd K a) (hK : K ≤ 50000) : BM cs u m bd r0 (sp_end k d (true, ts, a)) (f_M_readBracket_J188 (nI m) u) := by
  obtain ⟨u1, e1, l1, X1⟩ := sM_look R
  have A1 := AS_lf hA (la_lf l1)
  have f1 : m_fa u1 = -1 := l1.2.2.2.2.1.trans hf
  obtain ⟨b1, b2, -, -⟩ := hI
  have c0 := b1 0
  have c1 := b1 (0 + 1)
  have c2 := b1 (0 + 1 + 1)
  have no_ : ∀ p : Bool × List Nat × Nd, p.1 = false → p.2.1 = ts → BM cs u m bd r0 p (ob (f_M_fail u1) fun _ u39 => f_M_readBracket_J273 u39) := by
    intro p hp ht
    obtain ⟨u2, e2, l2, f2, F2⟩ := sM_fail (MX_R X1) f1
    rw [ob_s e2]
    unfold f_M_readBracket_J273
    rw [lt_q]
    refine ⟨_, rfl, fb_lf (lf_tr (la_lf l1) (lf_tr l2 (la_lf (la_at _ _)))), fun h => (by rw [hp] at h; cases h), fun _ => ⟨?_, FB_m (FB_1 F2) (by omega)⟩⟩
    rw [ht]
    exact f2
  unfold f_M_readBracket_J188
  rw [ob_s e1]
  cases ts with
  | nil =>
    rw [if_neg (show ¬ zI (lk []) = 93 by decide), sM_225F, se_n]
    exact no_ _ rfl rfl
  | cons c q =>
    have hh := MR_hd R
    by_cases h93 : c = 93
    · subst h93
      rw [if_pos (show zI (lk (93 :: q)) = 93 from (nI_zI 93).symm), show (3 : Int32) = nI 3 from rfl, n4, gd_s (inb_nI (by omega) (by omega)), nI_clamp (by omega), A1.2.1, show (-15 : Int32) = zI (-15) from rfl, show (15 : Int32) = zI 15 from rfl, ob_s (sM_in (by omega) (by omega) (by omega) (by omega) (by omega) (by omega) u1)]
      have e225 : ∀ t : Bool, f_M_readBracket_L225 4096 (nI m) (bI t) 0 u1 = if (((t && (decide (-2 ≤ a.1 0) && decide (a.1 0 ≤ 2))) && (decide (-2 ≤ a.1 (0 + 1)) && decide (a.1 (0 + 1) ≤ 2))) && (decide (-2 ≤ a.1 (0 + 1 + 1)) && decide (a.1 (0 + 1 + 1) ≤ 2))) = true then f_M_readBracket_J273 u1 else ob (f_M_fail u1) fun _ u39 => f_M_readBracket_J273 u39 := by
        intro t
        have e : f_M_readBracket_L225 4096 (nI m) (bI t) (nI 0) u1 = if (((t && (decide (-2 ≤ a.1 0) && decide (a.1 0 ≤ 2))) && (decide (-2 ≤ a.1 (0 + 1)) && decide (a.1 (0 + 1) ≤ 2))) && (decide (-2 ≤ a.1 (0 + 1 + 1)) && decide (a.1 (0 + 1 + 1) ≤ 2))) = true then f_M_readBracket_J273 u1 else ob (f_M_fail u1) fun _ u39 => f_M_readBracket_J273 u39 := by
          rw [show (4096 : Nat) = 4092 + 1 + 1 + 1 + 1 from rfl, sM_225S hm (by omega) (A1.1 0 (by omega)) (by omega) (by omega), sM_225S hm (by omega) (A1.1 (0 + 1) (by omega)) (by omega) (by omega), sM_225S hm (by omega) (A1.1 (0 + 1 + 1) (by omega)) (by omega) (by omega)]
          exact sM_225E _ u1
        rw [nI_0] at e
        exact e
      have fin : ∀ t : Bool, (decide (-15 ≤ a.2.1) && decide (a.2.1 ≤ 15)) = t → BM cs u m bd r0 (sp_end k d (true, 93 :: q, a)) (f_M_readBracket_L225 4096 (nI m) (bI t) 0 u1) := by
        intro t ht
        rw [e225]
        have hin : (((t && (decide (-2 ≤ a.1 0) && decide (a.1 0 ≤ 2))) && (decide (-2 ≤ a.1 (0 + 1)) && decide (a.1 (0 + 1) ≤ 2))) && (decide (-2 ≤ a.1 (0 + 1 + 1)) && decide (a.1 (0 + 1 + 1) ≤ 2))) = ac_in a := by
          rw [← ht]
          unfold ac_in
          simp only [Bool.and_assoc, Nat.zero_add]
          cases decide (-15 ≤ a.2.1) <;> cases decide (a.2.1 ≤ 15) <;> simp
        rw [hin]
        cases hac : ac_in a
        · rw [if_neg ff_tt, se_no (fun h => by rw [hac] at h; cases h.2)]
          exact no_ _ rfl rfl
        · rw [if_pos (show true = true from rfl), se_y hac]
          unfold f_M_readBracket_J273
          rw [lt_q]
          refine ⟨_, rfl, fb_la (la_tr l1 (la_at _ _)), fun _ => ⟨f1, MX_n X1, l1.2.2.2.2.2.2.1, congrFun l1.2.2.2.2.2.2.2.2.2.1 m, congrFun l1.2.2.2.2.2.2.2.2.2.2.2.1 m, AS_lf A1 (la_lf (la_at _ _))⟩, fun h => (by cases h)⟩
      cases ht : (decide (-15 ≤ a.2.1) && decide (a.2.1 ≤ 15))
      · rw [if_pos (show bI false = 0 from rfl)]
        have g := fin false ht
        rw [show bI false = 0 from rfl] at g
        exact g
      · rw [if_neg (show ¬ bI true = 0 by decide)]
        have g := fin true ht
        rw [show bI true = 1 from rfl] at g
        exact g
    · rw [if_neg (zlk_ne (x := 93) (k := 93) rfl (by omega) (by omega) h93), sM_225F, se_no (fun h => h93 h.1)]
      exact no_ _ rfl rfl
