/-- the reference's number of a kind -/
def kc (k : Nat) : Nat := if k = 38 then 0 else if k = 47 then 1 else if k = 62 then 2 else if k = 33 then 3 else if k = 69 then 4 else if k = 65 then 5 else if k = 60 then 6 else if k = 61 then 7 else 8
theorem fb_nk {m : Nat} (y : Int32) (w : MS) : fb m w (m_p_nk (upd (m_nk w) m y) w) :=
  ⟨⟨rfl, rfl, rfl, rfl, rfl, rfl, rfl⟩, rfl, rfl, rfl, rfl, rfl, rfl, rfl, rfl, rfl, fun j hj => ⟨pk_un hj, rfl⟩, fun _ _ => rfl⟩
theorem fb_na {m : Nat} (y : Int32) (w : MS) : fb m w (m_p_na (upd (m_na w) m y) w) :=
  ⟨⟨rfl, rfl, rfl, rfl, rfl, rfl, rfl⟩, rfl, rfl, rfl, rfl, rfl, rfl, rfl, rfl, rfl, fun j hj => ⟨rfl, pk_un hj⟩, fun _ _ => rfl⟩
theorem fb_ns {m j : Nat} (h1 : 4 * m ≤ j) (h2 : j < 4 * m + 4) (y : Int32) (w : MS) : fb m w (m_p_ns (upd (m_ns w) j y) w) :=
  ⟨⟨rfl, rfl, rfl, rfl, rfl, rfl, rfl⟩, rfl, rfl, rfl, rfl, rfl, rfl, rfl, rfl, rfl, fun _ _ => ⟨rfl, rfl⟩, fun i hi => pk_un (show i ≠ j by omega)⟩
theorem fb_rf (m : Nat) (w : MS) : fb m w w := fb_la (la_rf w)
theorem FB_g {u w : MS} {cs : List Nat} {B m : Nat} (h : FB u cs B) (g : fb m u w) (ha : m_at w = m_at u) : FB w cs B := by
  obtain ⟨h1, p, h2, h3⟩ := h
  exact ⟨MB_fb h1 g, p, h2, ha.trans h3⟩
theorem MX_g {u w : MS} {cs ts : List Nat} {m : Nat} (h : MX u cs ts) (g : fb m u w) (ha : m_at w = m_at u) : MX w cs ts := by
  obtain ⟨h1, p, h2, h3, h4, h5⟩ := h
  exact ⟨MB_fb h1 g, p, h2, ha.trans h3, h4, h5⟩
/-- what reading a claim in [ ] has come to, with its kind -/
def BF (cs : List Nat) (u : MS) (m : Nat) (bd : Nat → Bool) (r0 : Bool) (p : Bool × List Nat × Nd) (o : Option (Unit × MS)) : Prop := ∃ u', o = some ((), u') ∧ fb m u u' ∧ (p.1 = true → m_fa u' = -1 ∧ MR u' cs p.2.1 ∧ m_rb u' = m_rb u ∧ m_nk u' m = nI (kc p.2.2.1) ∧ (p.2.2.1 = 58 → m_na u' m = nI p.2.2.2.1) ∧ AS u' m bd r0 p.2.2.2.2) ∧ (p.1 = false → m_fa u' = nI (fpl cs p.2.1))
theorem BF_up {cs : List Nat} {u u1 : MS} {m : Nat} {bd : Nat → Bool} {r0 : Bool} {p : Bool × List Nat × Nd} {o : Option (Unit × MS)} (F : fb m u u1) (h1 : m_rb u1 = m_rb u) (h : BF cs u1 m bd r0 p o) : BF cs u m bd r0 p o := by
  obtain ⟨w, a1, a2, a3, a4⟩ := h
  refine ⟨w, a1, fb_tr F a2, fun hp => ?_, a4⟩
  obtain ⟨b1, b2, b3, b4⟩ := a3 hp
  exact ⟨b1, b2, b3.trans h1, b4⟩
/-- a sum and the end behind it -/
theorem sM_end {u : MS} {cs ts : List Nat} {m k d : Nat} {sd K : Int} {bd : Nat → Bool} {r0 : Bool} {a : Ac} (R : MR u cs ts) (hm : m < 20) (hA : AS u m bd r0 a) (hf : m_fa u = -1) (hE : HE u bd) (hI : acI bd K a) (hK : K ≤ 20000) (hsd : sd = 1 ∨ sd = -1) (hk : m_nk u m = nI (kc k)) (hd : k = 58 → m_na u m = nI d) :
    BF cs u m bd r0 (sp_end k d (sp_sums bd sd a ts)) (ob (f_M_readSum (nI m) (zI sd) u) fun _ w => f_M_readBracket_J188 (nI m) w) := by
  obtain ⟨u1, e1, F1, rb1, nk1, na1, good, bad⟩ := sM_sum (sd := sd) R hm hA hf hE
  have I1 := sp_sums_I hsd hI ts
  have ok := R.1.1
  rw [ob_s e1]
  generalize sp_sums bd sd a ts = p at good bad I1 ⊢
  obtain ⟨b, rest, a1⟩ := p
  cases b
  · obtain ⟨fa1, FB1⟩ := bad rfl
    have fa1 : m_fa u1 = nI (fpl cs rest) := fa1
    have hg := fpl_le cs rest ok
    obtain ⟨u2, e2, l2, f2, F2⟩ := sM_188F hm FB1 (by omega) (by omega) fa1 (by omega)
    rw [e2, se_f]
    exact ⟨u2, rfl, fb_tr F1 (fb_lf l2), fun h => (by cases h), fun _ => f2⟩
  · obtain ⟨fa1, R1, A1⟩ := good rfl
    obtain ⟨u2, e2, F2, g2, b2⟩ := sM_188 (k := k) (d := d) R1 hm A1 fa1 I1 (by omega)
    have e2 : f_M_readBracket_J188 (nI m) u1 = some ((), u2) := e2
    rw [e2]
    refine ⟨u2, rfl, fb_tr F1 F2, fun h => ?_, fun h => (b2 h).1⟩
    obtain ⟨c1, c2, c3, c4, c5, c6⟩ := g2 h
    have hnd := sp_end_nd k d (true, rest, a1)
    refine ⟨c1, c2, c3.trans rb1, ?_, fun z => ?_, c6⟩
    · rw [hnd, c4, nk1]; exact hk
    · rw [hnd] at z ⊢
      rw [c5, na1]; exact hd z
theorem sM_164F {u : MS} {cs : List Nat} {B g m : Nat} {t0 : Int32} (hm : m < 20) (h : FB u cs B) (hB : 120 ≤ B) (hB2 : B ≤ 800) (hf : m_fa u = nI g) (hg : g ≤ 1000) : ∃ u', f_M_readBracket_J164 (nI m) t0 (nI m) u = some ((), u') ∧ fb m u u' ∧ m_fa u' = nI g := by
  unfold f_M_readBracket_J164
  rw [gd_s (inb_nI (by omega) (by omega)), lt_q, lt_q, nI_clamp (by omega)]
  have F1 : fb m u (m_p_at (m_at (m_p_nk (upd (m_nk u) m t0) u) + 1) (m_p_nk (upd (m_nk u) m t0) u)) := fb_tr (fb_nk _ _) (fb_la (la_at _ _))
  have f1 : m_fa (m_p_at (m_at (m_p_nk (upd (m_nk u) m t0) u) + 1) (m_p_nk (upd (m_nk u) m t0) u)) = nI g := hf
  have B1 : FB (m_p_at (m_at (m_p_nk (upd (m_nk u) m t0) u) + 1) (m_p_nk (upd (m_nk u) m t0) u)) cs (B + 1) := FB_1 (FB_g h (fb_nk (m := m) _ _) rfl)
  generalize m_p_at (m_at (m_p_nk (upd (m_nk u) m t0) u) + 1) (m_p_nk (upd (m_nk u) m t0) u) = w at F1 f1 B1 ⊢
  rw [if_pos (show 0 ≤ m_fa w by rw [f1]; exact nI_pos' (by omega))]
  obtain ⟨u2, e2, l2, f2, F2⟩ := sM_188F hm B1 (by omega) (by omega) f1 hg
  rw [e2]
  exact ⟨u2, rfl, fb_tr F1 (fb_lf l2), f2⟩
theorem sM_164 {u : MS} {cs q : List Nat} {m c : Nat} {K : Int} {bd : Nat → Bool} {r0 : Bool} {a : Ac} (X : MX u cs (c :: q)) (hm : m < 20) (hA : AS u m bd r0 a) (hf : m_fa u = -1) (hE : HE u bd) (hI : acI bd K a) (hK : K ≤ 20000) (hc : c ≠ 58) : BF cs u m bd r0 (sp_end c 0 (sp_sums bd (-1) a q)) (f_M_readBracket_J164 (nI m) (nI (kc c)) (nI m) u) := by
  unfold f_M_readBracket_J164
  rw [gd_s (inb_nI (by omega) (by omega)), lt_q, lt_q, nI_clamp (by omega)]
  have F0 : fb m u (m_p_nk (upd (m_nk u) m (nI (kc c))) u) := fb_nk _ _
  have X0 : MX (m_p_nk (upd (m_nk u) m (nI (kc c))) u) cs (c :: q) := MX_g X F0 rfl
  have R1 := MX_n X0
  have F1 : fb m u (m_p_at (m_at (m_p_nk (upd (m_nk u) m (nI (kc c))) u) + 1) (m_p_nk (upd (m_nk u) m (nI (kc c))) u)) := fb_tr F0 (fb_la (la_at _ _))
  have f1 : m_fa (m_p_at (m_at (m_p_nk (upd (m_nk u) m (nI (kc c))) u) + 1) (m_p_nk (upd (m_nk u) m (nI (kc c))) u)) = -1 := hf
  have r1 : m_rb (m_p_at (m_at (m_p_nk (upd (m_nk u) m (nI (kc c))) u) + 1) (m_p_nk (upd (m_nk u) m (nI (kc c))) u)) = m_rb u := rfl
  have k1 : m_nk (m_p_at (m_at (m_p_nk (upd (m_nk u) m (nI (kc c))) u) + 1) (m_p_nk (upd (m_nk u) m (nI (kc c))) u)) m = nI (kc c) := pk_us
  have A1 : AS (m_p_at (m_at (m_p_nk (upd (m_nk u) m (nI (kc c))) u) + 1) (m_p_nk (upd (m_nk u) m (nI (kc c))) u)) m bd r0 a := hA
  generalize m_p_at (m_at (m_p_nk (upd (m_nk u) m (nI (kc c))) u) + 1) (m_p_nk (upd (m_nk u) m (nI (kc c))) u) = w at R1 F1 f1 r1 k1 A1 ⊢
  rw [if_neg (show ¬ 0 ≤ m_fa w by rw [f1]; decide), show (-1 : Int32) = zI (-1) from rfl]
  exact BF_up F1 r1 (sM_end R1 hm A1 f1 (HE_fb hE F1) hI hK (Or.inr rfl) k1 (fun z => absurd z hc))
theorem sM_rel {u : MS} {cs ts : List Nat} {m : Nat} {bd : Nat → Bool} {r0 : Bool} (R : MR u cs ts) (hm : m < 20) (hA : AS u m bd r0 ac0) (hf : m_fa u = -1) (hE : HE u bd) :
    BF cs u m bd r0 (sp_rel bd (sp_sums bd 1 ac0 ts)) (ob (f_M_readSum (nI m) 1 u) fun r10 u11 => ob (f_M_look u11) fun r12 u13 => if r12 = 60 then f_M_readBracket_J146 (nI m) r12 u13 else (if r12 = 61 then f_M_readBracket_J146 (nI m) r12 u13 else (ob (f_M_fail u13) fun r16 u17 => f_M_readBracket_J146 (nI m) r12 u17))) := by
  obtain ⟨u1, e1, F1, rb1, nk1, na1, good, bad⟩ := sM_sum (sd := 1) R hm hA hf hE
  have I1 := sp_sums_I (sd := 1) (Or.inl rfl) (ac0_I bd) ts
  have ok := R.1.1
  rw [show (1 : Int32) = zI 1 from rfl, ob_s e1]
  generalize sp_sums bd 1 ac0 ts = p at good bad I1 ⊢
  obtain ⟨b, rest, a1⟩ := p
  have flt : ∀ (g B : Nat) (r : Int32) (w : MS), fb m u w → m_fa w = nI g → g ≤ 1000 → FB w cs B → 120 ≤ B → B ≤ 800 → ∃ u', f_M_readBracket_J146 (nI m) r w = some ((), u') ∧ fb m u u' ∧ m_fa u' = nI g := by
    intro g B r w F f hg FBw hB hB2
    unfold f_M_readBracket_J146
    by_cases h60 : r = 60
    · obtain ⟨u', e, F', f'⟩ := sM_164F (t0 := 6) hm FBw hB hB2 f hg
      rw [if_pos h60, e]
      exact ⟨u', rfl, fb_tr F F', f'⟩
    · obtain ⟨u', e, F', f'⟩ := sM_164F (t0 := 7) hm FBw hB hB2 f hg
      rw [if_neg h60, e]
      exact ⟨u', rfl, fb_tr F F', f'⟩
  cases b
  · obtain ⟨fa1, FB1⟩ := bad rfl
    have hg := fpl_le cs rest ok
    obtain ⟨r, u2, e2, l2, F2⟩ := sM_lookF FB1 (by omega) (by omega)
    have fa2 : m_fa u2 = nI (fpl cs rest) := l2.2.2.2.2.1.trans fa1
    have F12 : fb m u u2 := fb_tr F1 (fb_la l2)
    rw [ob_s e2, sl_f]
    by_cases h60 : r = 60
    · rw [if_pos h60]
      obtain ⟨u', e, F', f'⟩ := flt _ _ r u2 F12 fa2 (by omega) F2 (by omega) (by omega)
      rw [e]
      exact ⟨u', rfl, F', fun h => (by cases h), fun _ => f'⟩
    · rw [if_neg h60]
      by_cases h61 : r = 61
      · rw [if_pos h61]
        obtain ⟨u', e, F', f'⟩ := flt _ _ r u2 F12 fa2 (by omega) F2 (by omega) (by omega)
        rw [e]
        exact ⟨u', rfl, F', fun h => (by cases h), fun _ => f'⟩
      · obtain ⟨u3, e3, l3, f3, F3⟩ := sM_failF F2 (by omega) (by omega) fa2 (by omega)
        rw [if_neg h61, ob_s e3]
        obtain ⟨u', e, F', f'⟩ := flt _ _ r u3 (fb_tr F12 (fb_lf l3)) f3 (by omega) F3 (by omega) (by omega)
        rw [e]
        exact ⟨u', rfl, F', fun h => (by cases h), fun _ => f'⟩
  · obtain ⟨fa1, R1, A1⟩ := good rfl
    have R1 : MR u1 cs rest := R1
    have A1 : AS u1 m bd r0 a1 := A1
    have I1 : acI bd (0 + 12870) a1 := I1
    obtain ⟨u2, e2, l2, X2⟩ := sM_look R1
    have fa2 : m_fa u2 = -1 := l2.2.2.2.2.1.trans fa1
    have A2 := AS_lf A1 (la_lf l2)
    have F12 : fb m u u2 := fb_tr F1 (fb_la l2)
    have E2 : HE u2 bd := HE_fb hE F12
    have rb2 : m_rb u2 = m_rb u := l2.2.2.2.2.2.2.1.trans rb1
    rw [ob_s e2]
    have no_ : ∀ p : Bool × List Nat × Nd, p.1 = false → p.2.1 = rest → BF cs u m bd r0 p (ob (f_M_fail u2) fun r16 u17 => f_M_readBracket_J146 (nI m) (zI (lk rest)) u17) := by
      intro p hp ht
      obtain ⟨u3, e3, l3, f3, F3⟩ := sM_fail (MX_R X2) fa2
      have hg := fpl_le cs rest ok
      rw [ob_s e3]
      obtain ⟨u', e, F', f'⟩ := flt _ _ (zI (lk rest)) u3 (fb_tr F12 (fb_lf l3)) f3 (by omega) F3 (by omega) (by omega)
      rw [e]
      exact ⟨u', rfl, F', fun h => (by rw [hp] at h; cases h), fun _ => by rw [ht]; exact f'⟩
    cases rest with
    | nil =>
      rw [if_neg (show ¬ zI (lk []) = 60 by decide), if_neg (show ¬ zI (lk []) = 61 by decide), sl_n]
      exact no_ _ rfl rfl
    | cons c q =>
      have hh := MR_hd R1
      by_cases h60 : c = 60
      · subst h60
        rw [if_pos (show zI (lk (60 :: q)) = 60 from (nI_zI 60).symm), sl_y (Or.inl rfl)]
        unfold f_M_readBracket_J146
        rw [if_pos (show zI (lk (60 :: q)) = 60 from (nI_zI 60).symm)]
        exact BF_up F12 rb2 (sM_164 X2 hm A2 fa2 E2 I1 (by omega) (by omega))
      · rw [if_neg (zlk_ne (x := 60) (k := 60) rfl (by omega) (by omega) h60)]
        by_cases h61 : c = 61
        · subst h61
          rw [if_pos (show zI (lk (61 :: q)) = 61 from (nI_zI 61).symm), sl_y (Or.inr rfl)]
          unfold f_M_readBracket_J146
          rw [if_neg (zlk_ne (x := 60) (k := 60) rfl (by omega) (by omega) (by omega))]
          exact BF_up F12 rb2 (sM_164 X2 hm A2 fa2 E2 I1 (by omega) (by omega))
        · rw [if_neg (zlk_ne (x := 61) (k := 61) rfl (by omega) (by omega) h61), sl_no (fun h => by omega)]
          exact no_ _ rfl rfl
theorem sM_35S {n v m : Nat} {u : MS} (hm : m < 20) (hv : v < 4) : f_M_readBracket_L35 (n + 1) (nI m) (nI v) u = f_M_readBracket_L35 n (nI m) (nI (v + 1)) (m_p_ns (upd (m_ns u) (4 * m + v) 0) u) := by
  rw [q_M_readBracket_L35, if_neg (show ¬ (4 : Int32) ≤ nI v from nI_ge (b := 4) hv (by omega)), n4, gd_s (inb_nI (by omega) (by omega)), lt_q, lt_q, nI_1, nI_clamp (by omega)]
/-- all but the sums at m stays -/
theorem sM_35 {m : Nat} (hm : m < 20) (u : MS) : ∃ U, f_M_readBracket_L35 4096 (nI m) 0 u = f_M_readBracket_L35 (4091 + 1) (nI m) (nI 4) U ∧ fb m u U ∧ m_at U = m_at u ∧ m_fa U = m_fa u ∧ m_rb U = m_rb u ∧ m_rf U = m_rf u ∧ ∀ v, v < 4 → m_ns U (4 * m + v) = 0 := by
  have e := (sM_35S (n := 4095) (v := 0) (u := u) hm (by omega)).trans ((sM_35S (n := 4094) (v := 0 + 1) hm (by omega)).trans ((sM_35S (n := 4093) (v := 0 + 1 + 1) hm (by omega)).trans (sM_35S (n := 4092) (v := 0 + 1 + 1 + 1) hm (by omega))))
  have e : f_M_readBracket_L35 4096 (nI m) (nI 0) u = f_M_readBracket_L35 (4091 + 1) (nI m) (nI 4) _ := e
  rw [nI_0] at e
  refine ⟨_, e, ?_, ?_, ?_, ?_, ?_, fun v hv => ?_⟩
  · exact fb_tr (fb_tr (fb_tr (fb_ns (by omega) (by omega) _ _) (fb_ns (by omega) (by omega) _ _)) (fb_ns (by omega) (by omega) _ _)) (fb_ns (by omega) (by omega) _ _)
  · simp only [mp_ns]
  · simp only [mp_ns]
  · simp only [mp_ns]
  · simp only [mp_ns]
  · show upd (upd (upd (upd (m_ns u) (4 * m + 0) 0) (4 * m + (0 + 1)) 0) (4 * m + (0 + 1 + 1)) 0) (4 * m + (0 + 1 + 1 + 1)) 0 (4 * m + v) = 0
    rcases (show v = 0 ∨ v = 1 ∨ v = 2 ∨ v = 3 by omega) with z | z | z | z
    · subst z
      rw [pk_un (by omega), pk_un (by omega), pk_un (by omega), pk_us]
    · subst z
      rw [pk_un (by omega), pk_un (by omega), pk_us]
    · subst z
      rw [pk_un (by omega), pk_us]
    · subst z
      rw [pk_us]
