theorem fb_p_rb (m : Nat) (x : Int32) (w : MS) : fb m w (m_p_rb x w) := ⟨⟨rfl, rfl, rfl, rfl, rfl, rfl, rfl⟩, rfl, rfl, rfl, rfl, rfl, rfl, rfl, rfl, rfl, fun _ _ => ⟨rfl, rfl⟩, fun _ _ => rfl⟩
theorem sM_brk {u : MS} {cs r : List Nat} {m br : Nat} {bd : Nat → Bool} {r0 : Bool} (X : MX u cs (91 :: r)) (hm : m < 20) (hf : m_fa u = -1) (hb : m_rb u = nI br) (h8 : br < 8) (hr : m_rf u = bI r0) (hE : HE u bd) :
    ∃ u', f_M_readBracket (nI m) u = some ((), u') ∧ fb m u u' ∧ ((sp_brk bd r).1 = true → m_fa u' = -1 ∧ MR u' cs (sp_brk bd r).2.1 ∧ m_rb u' = nI (br + 1) ∧ m_nk u' m = nI (kc (sp_brk bd r).2.2.1) ∧ ((sp_brk bd r).2.2.1 = 58 → m_na u' m = nI (sp_brk bd r).2.2.2.1) ∧ AS u' m bd r0 (sp_brk bd r).2.2.2.2) ∧ ((sp_brk bd r).1 = false → m_fa u' = nI (fpl cs (sp_brk bd r).2.1)) := by
  unfold f_M_readBracket
  rw [if_neg (show ¬ m_rb u = 8 by rw [hb]; exact ne_l (x := 8) (k := 8) rfl (by omega) (by omega) (by omega))]
  unfold f_M_readBracket_J13
  rw [lt_q, lt_q]
  have F0 : fb m u (m_p_rb (m_rb u + 1) u) := fb_p_rb m _ _
  have R1 := MX_n (MX_g X F0 rfl)
  have F1 : fb m u (m_p_at (m_at (m_p_rb (m_rb u + 1) u) + 1) (m_p_rb (m_rb u + 1) u)) := fb_tr F0 (fb_la (la_at _ _))
  have f1 : m_fa (m_p_at (m_at (m_p_rb (m_rb u + 1) u) + 1) (m_p_rb (m_rb u + 1) u)) = -1 := hf
  have b1 : m_rb (m_p_at (m_at (m_p_rb (m_rb u + 1) u) + 1) (m_p_rb (m_rb u + 1) u)) = nI (br + 1) := by
    show m_rb u + 1 = _
    rw [hb, nI_1]
  have r1 : m_rf (m_p_at (m_at (m_p_rb (m_rb u + 1) u) + 1) (m_p_rb (m_rb u + 1) u)) = bI r0 := hr
  generalize m_p_at (m_at (m_p_rb (m_rb u + 1) u) + 1) (m_p_rb (m_rb u + 1) u) = u1 at R1 F1 f1 b1 r1 ⊢
  obtain ⟨U, eU, FU, atU, faU, rbU, rfU, nsU⟩ := sM_35 hm u1
  have RU : MR U cs r := by
    obtain ⟨n1, p, n2, n3, n4⟩ := R1
    exact ⟨MB_fb n1 FU, p, n2, atU.trans n3, n4⟩
  have AU : AS U m bd r0 ac0 := by
    refine ⟨fun v hv => (nsU v (by omega)).trans rfl, (nsU 3 (by omega)).trans rfl, ?_⟩
    rw [rfU, r1, show frb bd ac0.2.2 = false from rfl, Bool.or_false]
  obtain ⟨u2, e2, l2, X2⟩ := sM_div RU
  rw [eU, q_M_readBracket_L35, if_pos (show (4 : Int32) ≤ nI 4 by decide), ob_s e2]
  have F2 : fb m u u2 := fb_tr F1 (fb_tr FU (fb_la l2))
  have A2 := AS_lf AU (la_lf l2)
  have f2 : m_fa u2 = -1 := l2.2.2.2.2.1.trans (faU.trans f1)
  have rb2 : m_rb u2 = nI (br + 1) := l2.2.2.2.2.2.2.1.trans (rbU.trans b1)
  have E2 : HE u2 bd := HE_fb hE F2
  have fin : ∀ {p : Bool × List Nat × Nd} {o : Option (Unit × MS)}, BF cs u2 m bd r0 p o → ∃ u', o = some ((), u') ∧ fb m u u' ∧ (p.1 = true → m_fa u' = -1 ∧ MR u' cs p.2.1 ∧ m_rb u' = nI (br + 1) ∧ m_nk u' m = nI (kc p.2.2.1) ∧ (p.2.2.1 = 58 → m_na u' m = nI p.2.2.2.1) ∧ AS u' m bd r0 p.2.2.2.2) ∧ (p.1 = false → m_fa u' = nI (fpl cs p.2.1)) := by
    rintro p o ⟨w, a1, a2, a3, a4⟩
    refine ⟨w, a1, fb_tr F2 a2, fun h => ?_, a4⟩
    obtain ⟨c1, c2, c3, c4⟩ := a3 h
    exact ⟨c1, c2, c3.trans rb2, c4⟩
  refine fin ?_
  rw [sp_brk_d]
  cases hd : dvb r
  · rw [if_pos (show bI false = 0 from rfl), if_neg ff_tt]
    exact sM_rel (MX_R X2) hm A2 f2 E2
  · rw [if_neg (show ¬ bI true = 0 by decide), if_pos (show true = true from rfl)]
    obtain ⟨c1, d1, q, rfl⟩ : ∃ c1 d1 q, r = c1 :: d1 :: q := by
      match r, hd with
      | c1 :: d1 :: q, _ => exact ⟨c1, d1, q, rfl⟩
      | [], h => exact absurd h (by decide)
      | [c1], h => simp [dvb] at h
    have hcd : (c1 = 50 ∨ c1 = 51) ∧ d1 = 58 := by simpa [dvb] using hd
    obtain ⟨hc1, rfl⟩ := hcd
    rw [gd_s (inb_nI (by omega) (by omega)), lt_q, nI_clamp (by omega)]
    have F3 : fb m u2 (m_p_nk (upd (m_nk u2) m 8) u2) := fb_nk _ _
    have X3 : MX (m_p_nk (upd (m_nk u2) m 8) u2) cs (c1 :: 58 :: q) := MX_g X2 F3 rfl
    have A3 : AS (m_p_nk (upd (m_nk u2) m 8) u2) m bd r0 ac0 := A2
    have f3 : m_fa (m_p_nk (upd (m_nk u2) m 8) u2) = -1 := f2
    have k3 : m_nk (m_p_nk (upd (m_nk u2) m 8) u2) m = nI (kc 58) := pk_us
    have b3 : m_rb (m_p_nk (upd (m_nk u2) m 8) u2) = m_rb u2 := rfl
    generalize m_p_nk (upd (m_nk u2) m 8) u2 = u3 at F3 X3 A3 f3 k3 b3 ⊢
    obtain ⟨u4, e4, l4, X4⟩ := sM_look (MX_R X3)
    have hh := MR_hd (MX_R X4)
    rw [ob_s e4, gd_s (inb_nI (by omega) (by omega)), lt_q, show zI (lk (c1 :: 58 :: q)) = nI c1 from (nI_zI c1).symm, show (48 : Int32) = nI 48 from rfl, pk_sub (by omega)]
    have F5 : fb m u4 (m_p_na (upd (m_na u4) m (nI (c1 - 48))) u4) := fb_na _ _
    have X5 : MX (m_p_na (upd (m_na u4) m (nI (c1 - 48))) u4) cs (c1 :: 58 :: q) := MX_g X4 F5 rfl
    have A4 : AS u4 m bd r0 ac0 := AS_lf A3 (la_lf l4)
    have A5 : AS (m_p_na (upd (m_na u4) m (nI (c1 - 48))) u4) m bd r0 ac0 := A4
    have f5 : m_fa (m_p_na (upd (m_na u4) m (nI (c1 - 48))) u4) = -1 := l4.2.2.2.2.1.trans f3
    have k5 : m_nk (m_p_na (upd (m_na u4) m (nI (c1 - 48))) u4) m = nI (kc 58) := (congrFun l4.2.2.2.2.2.2.2.2.2.1 m).trans k3
    have a5 : m_na (m_p_na (upd (m_na u4) m (nI (c1 - 48))) u4) m = nI (c1 - 48) := pk_us
    have b5 : m_rb (m_p_na (upd (m_na u4) m (nI (c1 - 48))) u4) = m_rb u2 := l4.2.2.2.2.2.2.1.trans b3
    generalize m_p_na (upd (m_na u4) m (nI (c1 - 48))) u4 = u5 at F5 X5 A5 f5 k5 a5 b5 ⊢
    rw [lt_q]
    have R6 := MX_n X5
    have l6 : la u5 (m_p_at (m_at u5 + 1) u5) := la_at _ _
    generalize m_p_at (m_at u5 + 1) u5 = u6 at R6 l6 ⊢
    obtain ⟨u7, e7, l7, X7⟩ := sM_look R6
    rw [ob_s e7, lt_q]
    have R8 := MX_n X7
    have l8 : la u5 (m_p_at (m_at u7 + 1) u7) := la_tr l6 (la_tr l7 (la_at _ _))
    generalize m_p_at (m_at u7 + 1) u7 = u8 at R8 l8 ⊢
    have F8 : fb m u2 u8 := fb_tr F3 (fb_tr (fb_la l4) (fb_tr F5 (fb_la l8)))
    rw [show (1 : Int32) = zI 1 from rfl]
    exact BF_up F8 (l8.2.2.2.2.2.2.1.trans b5) (sM_end R8 hm (AS_lf A5 (la_lf l8)) (l8.2.2.2.2.1.trans f5) (HE_fb E2 F8) (ac0_I bd) (by omega) (Or.inl rfl) ((congrFun l8.2.2.2.2.2.2.2.2.2.1 m).trans k5) (fun _ => (congrFun l8.2.2.2.2.2.2.2.2.2.2.2.1 m).trans a5))
/-- the ninth claim in [ ] is a fault -/
theorem sM_brkF {u : MS} {cs r : List Nat} {m : Nat} (X : MX u cs (91 :: r)) (hm : m < 20) (hf : m_fa u = -1) (hb : m_rb u = nI 8) : ∃ u', f_M_readBracket (nI m) u = some ((), u') ∧ fb m u u' ∧ m_fa u' = nI (fpl cs (91 :: r)) := by
  have ok := X.1.1
  have hg := fpl_le cs (91 :: r) ok
  obtain ⟨u0, e0, l0, f0, B0⟩ := sM_fail (MX_R X) hf
  unfold f_M_readBracket
  rw [if_pos (show m_rb u = 8 by rw [hb]; rfl), ob_s e0]
  unfold f_M_readBracket_J13
  rw [lt_q, lt_q]
  have F1 : fb m u (m_p_at (m_at (m_p_rb (m_rb u0 + 1) u0) + 1) (m_p_rb (m_rb u0 + 1) u0)) := fb_tr (fb_lf l0) (fb_tr (fb_p_rb m _ _) (fb_la (la_at _ _)))
  have B1 : FB (m_p_at (m_at (m_p_rb (m_rb u0 + 1) u0) + 1) (m_p_rb (m_rb u0 + 1) u0)) cs 121 := FB_1 (FB_g B0 (fb_p_rb m _ _) rfl)
  have f1 : m_fa (m_p_at (m_at (m_p_rb (m_rb u0 + 1) u0) + 1) (m_p_rb (m_rb u0 + 1) u0)) = nI (fpl cs (91 :: r)) := f0
  generalize m_p_at (m_at (m_p_rb (m_rb u0 + 1) u0) + 1) (m_p_rb (m_rb u0 + 1) u0) = u1 at F1 B1 f1 ⊢
  generalize fpl cs (91 :: r) = g at f1 hg ⊢
  obtain ⟨U, eU, FU, atU, faU, rbU, rfU, nsU⟩ := sM_35 hm u1
  obtain ⟨d, u2, e2, l2, B2⟩ := sM_divF (FB_g B1 FU atU) (by omega) (by omega)
  rw [eU, q_M_readBracket_L35, if_pos (show (4 : Int32) ≤ nI 4 by decide), ob_s e2]
  have F2 : fb m u u2 := fb_tr F1 (fb_tr FU (fb_la l2))
  have f2 : m_fa u2 = nI g := l2.2.2.2.2.1.trans (faU.trans f1)
  by_cases hd : d = 0
  · obtain ⟨u3, e3, l3, B3⟩ := sM_sumF (v1 := nI m) (v2 := 1) B2 (by omega) (by omega) f2 (by omega)
    have f3 : m_fa u3 = nI g := l3.2.2.2.2.1.trans f2
    obtain ⟨c, u4, e4, l4, B4⟩ := sM_lookF B3 (by omega) (by omega)
    have f4 : m_fa u4 = nI g := l4.2.2.2.2.1.trans f3
    have F4 : fb m u u4 := fb_tr F2 (fb_tr (fb_la l3) (fb_la l4))
    rw [if_pos hd, ob_s e3, ob_s e4]
    have flt : ∀ (B : Nat) (w : MS), fb m u w → m_fa w = nI g → FB w cs B → 120 ≤ B → B ≤ 800 → ∃ u', f_M_readBracket_J146 (nI m) c w = some ((), u') ∧ fb m u u' ∧ m_fa u' = nI g := by
      intro B w F f FBw hB hB2
      unfold f_M_readBracket_J146
      by_cases h60 : c = 60
      · obtain ⟨u', e, F', f'⟩ := sM_164F (t0 := 6) hm FBw hB hB2 f (by omega)
        rw [if_pos h60, e]
        exact ⟨u', rfl, fb_tr F F', f'⟩
      · obtain ⟨u', e, F', f'⟩ := sM_164F (t0 := 7) hm FBw hB hB2 f (by omega)
        rw [if_neg h60, e]
        exact ⟨u', rfl, fb_tr F F', f'⟩
    by_cases h60 : c = 60
    · rw [if_pos h60]
      exact flt _ u4 F4 f4 B4 (by omega) (by omega)
    · rw [if_neg h60]
      by_cases h61 : c = 61
      · rw [if_pos h61]
        exact flt _ u4 F4 f4 B4 (by omega) (by omega)
      · obtain ⟨u5, e5, l5, f5, B5⟩ := sM_failF B4 (by omega) (by omega) f4 (by omega)
        rw [if_neg h61, ob_s e5]
        exact flt _ u5 (fb_tr F4 (fb_lf l5)) f5 B5 (by omega) (by omega)
  · rw [if_neg hd, gd_s (inb_nI (by omega) (by omega)), lt_q, nI_clamp (by omega)]
    have F3 : fb m u2 (m_p_nk (upd (m_nk u2) m 8) u2) := fb_nk _ _
    have B3 := FB_g B2 F3 rfl
    have f3 : m_fa (m_p_nk (upd (m_nk u2) m 8) u2) = nI g := f2
    generalize m_p_nk (upd (m_nk u2) m 8) u2 = u3 at F3 B3 f3 ⊢
    obtain ⟨c, u4, e4, l4, B4⟩ := sM_lookF B3 (by omega) (by omega)
    rw [ob_s e4, gd_s (inb_nI (by omega) (by omega)), lt_q, lt_q]
    have F5 : fb m u4 (m_p_na (upd (m_na u4) m (c - 48)) u4) := fb_na _ _
    have B5 := FB_1 (FB_g B4 F5 rfl)
    have F5' : fb m u4 (m_p_at (m_at (m_p_na (upd (m_na u4) m (c - 48)) u4) + 1) (m_p_na (upd (m_na u4) m (c - 48)) u4)) := fb_tr F5 (fb_la (la_at _ _))
    have f5 : m_fa (m_p_at (m_at (m_p_na (upd (m_na u4) m (c - 48)) u4) + 1) (m_p_na (upd (m_na u4) m (c - 48)) u4)) = nI g := l4.2.2.2.2.1.trans f3
    generalize m_p_at (m_at (m_p_na (upd (m_na u4) m (c - 48)) u4) + 1) (m_p_na (upd (m_na u4) m (c - 48)) u4) = u5 at B5 F5' f5 ⊢
    obtain ⟨c2, u6, e6, l6, B6⟩ := sM_lookF B5 (by omega) (by omega)
    rw [ob_s e6, lt_q]
    have B7 := FB_1 B6
    have l7 : la u5 (m_p_at (m_at u6 + 1) u6) := la_tr l6 (la_at _ _)
    generalize m_p_at (m_at u6 + 1) u6 = u7 at B7 l7 ⊢
    have f7 : m_fa u7 = nI g := l7.2.2.2.2.1.trans f5
    obtain ⟨u8, e8, l8, B8⟩ := sM_sumF (v1 := nI m) (v2 := 1) B7 (by omega) (by omega) f7 (by omega)
    rw [ob_s e8]
    obtain ⟨u9, e9, l9, f9, B9⟩ := sM_188F hm B8 (by omega) (by omega) (l8.2.2.2.2.1.trans f7) (by omega)
    rw [e9]
    exact ⟨u9, rfl, fb_tr F2 (fb_tr F3 (fb_tr (fb_la l4) (fb_tr F5' (fb_tr (fb_la (la_tr l7 l8)) (fb_lf l9))))), f9⟩
