theorem sM_inN {c a b : Nat} (hc : c < 1000) (ha : a < 1000) (hb : b < 1000) (w : MS) : f_M_in (nI c) (nI a) (nI b) w = some (bI (decide (a ≤ c) && decide (c ≤ b)), w) := by
  rw [nI_zI a, nI_zI b, nI_zI c, sM_in (by omega) (by omega) (by omega) (by omega) (by omega) (by omega), decide_eq_decide.mpr (show (a : Int) ≤ (c : Int) ↔ a ≤ c by omega), decide_eq_decide.mpr (show (c : Int) ≤ (b : Int) ↔ c ≤ b by omega)]
theorem fb_n3 {m : Nat} (y : Int32) (w : MS) : fb m w (m_p_ns (upd (m_ns w) (4 * m + 3) y) w) :=
  ⟨⟨rfl, rfl, rfl, rfl, rfl, rfl, rfl⟩, rfl, rfl, rfl, rfl, rfl, rfl, rfl, rfl, rfl, fun _ _ => ⟨rfl, rfl⟩, fun i hi => pk_un (show i ≠ 4 * m + 3 by omega)⟩
theorem sM_num {w : MS} {cs ts : List Nat} {m : Nat} {z : Int} {bd : Nat → Bool} {r0 : Bool} {a : Ac} (hm : m < 20) (R : MR w cs ts) (hA : AS w m bd r0 a) (hf : m_fa w = -1) : PM cs w m bd r0 121 (true, ts, ac_n a z) (some ((), m_p_ns (upd (m_ns w) (4 * m + 3) (m_ns w (4 * m + 3) + zI z)) w)) := by
  refine ⟨_, rfl, fb_n3 _ _, rfl, rfl, rfl, fun _ => ⟨hf, ?_, fun v hv => ?_, ?_, hA.2.2⟩, fun h => (by cases h)⟩
  · obtain ⟨n1, p, n2, n3, n4⟩ := R
    exact ⟨n1, p, n2, n3, n4⟩
  · show upd (m_ns w) (4 * m + 3) _ (4 * m + v) = _
    rw [pk_un (by omega)]
    exact hA.1 v hv
  · show upd (m_ns w) (4 * m + 3) (m_ns w (4 * m + 3) + zI z) (4 * m + 3) = zI (a.2.1 + z)
    rw [pk_us, hA.2.1, zI_add]
theorem sM_J127a {w : MS} {cs ts : List Nat} {m c : Nat} {v4 : Int32} {sg : Int} {bd : Nat → Bool} {r0 : Bool} {a : Ac} (hc : 48 ≤ c) (hm : m < 20) (R : MR w cs ts) (hA : AS w m bd r0 a) (hf : m_fa w = -1) : PM cs w m bd r0 121 (true, ts, ac_n a (sg * ((c : Int) - 48))) (f_M_readPart_J127 (nI m) (zI sg) (nI c) v4 0 w) := by
  unfold f_M_readPart_J127
  rw [show (3 : Int32) = nI 3 from rfl, n4, gd_s (inb_nI (by omega) (by omega)), if_pos (show (0 : Int32) = 0 from rfl), gd_s (inb_nI (by omega) (by omega)), lt_q, nI_clamp (by omega), show (48 : Int32) = nI 48 from rfl, pk_sub hc, nz48 hc, zI_mul]
  exact sM_num hm R hA hf
theorem sM_J127b {w : MS} {cs ts : List Nat} {m c d : Nat} {sg : Int} {bd : Nat → Bool} {r0 : Bool} {a : Ac} (hc : 48 ≤ c) (hm : m < 20) (R : MR w cs ts) (hA : AS w m bd r0 a) (hf : m_fa w = -1) : PM cs w m bd r0 121 (true, ts, ac_n a (sg * (10 * ((c : Int) - 48) + ((d : Int) - 48)))) (f_M_readPart_J127 (nI m) (zI sg) (nI c) (zI (d : Int)) 1 w) := by
  unfold f_M_readPart_J127
  rw [show (3 : Int32) = nI 3 from rfl, n4, gd_s (inb_nI (by omega) (by omega)), if_neg (show ¬ (1 : Int32) = 0 by decide), gd_s (inb_nI (by omega) (by omega)), lt_q, nI_clamp (by omega), show (48 : Int32) = nI 48 from rfl, pk_sub hc, nz48 hc, show (10 : Int32) = zI 10 from rfl, zI_mul, zI_add, nI_zI 48, zI_sub, zI_mul, show (10 * ((c : Int) - 48) + ((d : Int) - 48)) = 10 * ((c : Int) - 48) + (d : Int) - ((48 : Nat) : Int) by omega]
  exact sM_num hm R hA hf
theorem MX_at {w : MS} {cs ts : List Nat} (h : MX w cs ts) : MX (m_p_at (m_at w) w) cs ts := by
  obtain ⟨n1, p, n2, n3, n4, n5⟩ := h
  exact ⟨n1, p, n2, n3, n4, n5⟩
theorem dv_no {c : Nat} (h : isV c = true) : isD c = false := by
  have := isV_lt h
  cases hd : isD c
  · rfl
  · have := isD_lt hd; omega
theorem sM_part {u : MS} {cs ts : List Nat} {m : Nat} {sg : Int} {bd : Nat → Bool} {r0 : Bool} {a : Ac} (R : MR u cs ts) (hm : m < 20) (hA : AS u m bd r0 a) (hf : m_fa u = -1) (hE : HE u bd) : PM cs u m bd r0 121 (sp_part bd sg a ts) (f_M_readPart (nI m) (zI sg) u) := by
  obtain ⟨u1, e1, l1, X1⟩ := sM_look R
  refine PM_up (la_lf l1) ?_
  have A1 := AS_lf hA (la_lf l1)
  have f1 : m_fa u1 = -1 := l1.2.2.2.2.1.trans hf
  have E1 : HE u1 bd := HE_fb (m := m) hE (fb_la l1)
  have i1 : f_M_in (zI (lk ts)) (nI 120) (nI 122) u1 = some (bI (isV (ts.headD 0)), u1) := sM_inC (MX_R X1) (by omega) (by omega) (by omega)
  have i2 : f_M_in (zI (lk ts)) (nI 48) (nI 57) u1 = some (bI (isD (ts.headD 0)), u1) := sM_inC (MX_R X1) (by omega) (by omega) (by omega)
  unfold f_M_readPart
  rw [ob_s e1, show (120 : Int32) = nI 120 from rfl, show (122 : Int32) = nI 122 from rfl, show (48 : Int32) = nI 48 from rfl, show (57 : Int32) = nI 57 from rfl, ob_s i1]
  cases hV : isV (ts.headD 0)
  · rw [if_pos (show bI false = 0 from rfl), ob_s i2]
    cases hD : isD (ts.headD 0)
    · rw [if_pos (show bI false = 0 from rfl)]
      have es : sp_part bd sg a ts = (false, ts, a) := by
        cases ts with
        | nil => rfl
        | cons c r => exact sp_x hD hV
      rw [es]
      obtain ⟨u2, e2, l2, f2, F2⟩ := sM_fail (MX_R X1) f1
      rw [ob_s e2]
      exact PM_up l2 ⟨u2, rfl, fb_lf ⟨tb_rf u2, rfl, rfl, rfl, rfl, rfl, rfl, rfl, rfl, rfl, rfl, rfl, rfl, rfl, rfl⟩, rfl, rfl, rfl, fun h => (by cases h), fun _ => ⟨f2, FB_m F2 (by omega)⟩⟩
    · cases ts with
      | nil => cases hD
      | cons c r =>
        have hDc : isD c = true := hD
        clear hD
        have hd := isD_lt hDc
        rw [if_neg (show ¬ bI true = 0 by decide), lt_q, show zI (lk (c :: r)) = nI c from (nI_zI c).symm]
        have R2 := MX_n X1
        have l2 : la u1 (m_p_at (m_at u1 + 1) u1) := la_at _ _
        generalize m_p_at (m_at u1 + 1) u1 = u2 at R2 l2 ⊢
        obtain ⟨u3, e3, l3, X3⟩ := sM_look R2
        have l13 := la_tr l2 l3
        have i3 : f_M_in (zI (lk r)) (nI 48) (nI 57) u3 = some (bI (isD (r.headD 0)), u3) := sM_inC (MX_R X3) (by omega) (by omega) (by omega)
        rw [ob_s e3, ob_s i3]
        refine PM_up (la_lf l13) ?_
        have A3 := AS_lf A1 (la_lf l13)
        have f3 : m_fa u3 = -1 := l13.2.2.2.2.1.trans f1
        have E3 : HE u3 bd := HE_fb (m := m) E1 (fb_la l13)
        cases hD2 : isD (r.headD 0)
        · rw [if_pos (show bI false = 0 from rfl)]
          unfold f_M_readPart_J82
          rw [lt_q, if_pos (show bI false = 0 from rfl)]
          have X4 := MX_at X3
          have l4 : la u3 (m_p_at (m_at u3) u3) := la_at _ _
          generalize m_p_at (m_at u3) u3 = u4 at X4 l4 ⊢
          refine PM_up (la_lf l4) ?_
          have A4 := AS_lf A3 (la_lf l4)
          have f4 : m_fa u4 = -1 := l4.2.2.2.2.1.trans f3
          have E4 : HE u4 bd := HE_fb (m := m) E3 (fb_la l4)
          have one_ : ¬ (isV (r.headD 0) = true ∧ (c = 49 ∨ c = 50)) → PM cs u4 m bd r0 121 (sp_part bd sg a (c :: r)) (f_M_readPart_J127 (nI m) (zI sg) (nI c) (zI (lk r)) 0 u4) := by
            intro h12
            have es : sp_part bd sg a (c :: r) = (true, r, ac_n a (sg * ((c : Int) - 48))) := by
              cases r with
              | nil => exact sp_d0 hDc
              | cons d q => exact sp_dn hDc hD2 h12
            rw [es]
            exact sM_J127a hd.1 hm (MX_R X4) A4 f4
          rw [show (49 : Int32) = nI 49 from rfl, show (50 : Int32) = nI 50 from rfl, ob_s (sM_inN (by omega) (by omega) (by omega) u4)]
          cases h49 : (decide (49 ≤ c) && decide (c ≤ 50))
          · rw [if_pos (show bI false = 0 from rfl), show bI false = 0 from rfl]
            refine one_ (fun z => ?_)
            rw [Bool.and_eq_false_iff, decide_eq_false_iff_not, decide_eq_false_iff_not] at h49
            omega
          · rw [if_neg (show ¬ bI true = 0 by decide)]
            have h49 : c = 49 ∨ c = 50 := by
              rw [Bool.and_eq_true, decide_eq_true_eq, decide_eq_true_eq] at h49
              omega
            have i4 : f_M_in (zI (lk r)) (nI 120) (nI 122) u4 = some (bI (isV (r.headD 0)), u4) := sM_inC (MX_R X4) (by omega) (by omega) (by omega)
            rw [show (120 : Int32) = nI 120 from rfl, show (122 : Int32) = nI 122 from rfl, ob_s i4]
            cases hV2 : isV (r.headD 0)
            · rw [if_pos (show bI false = 0 from rfl), show bI false = 0 from rfl]
              exact one_ (fun z => by rw [hV2] at z; cases z.1)
            · cases r with
              | nil => cases hV2
              | cons d q =>
                rw [if_neg (show ¬ bI true = 0 by decide), show (48 : Int32) = nI 48 from rfl, pk_sub hd.1, nz48 hd.1, zI_mul, sp_dv hDc (show isD d = false from hD2) (show isV d = true from hV2) h49]
                exact PM_w (sM_addV X4 hV2 hm A4 f4 E4)
        · cases r with
          | nil => cases hD2
          | cons d q =>
            have hD2 : isD d = true := hD2
            rw [if_neg (show ¬ bI true = 0 by decide), sp_dd hDc hD2]
            unfold f_M_readPart_J82
            rw [lt_q, if_neg (show ¬ bI true = 0 by decide), show bI true = 1 from rfl]
            have R4 := MX_n X3
            have l4 : la u3 (m_p_at (m_at u3 + 1) u3) := la_at _ _
            generalize m_p_at (m_at u3 + 1) u3 = u4 at R4 l4 ⊢
            exact PM_up (la_lf l4) (sM_J127b hd.1 hm R4 (AS_lf A3 (la_lf l4)) (l4.2.2.2.2.1.trans f3))
  · cases ts with
    | nil => cases hV
    | cons c r =>
      have hV : isV c = true := hV
      rw [if_neg (show ¬ bI true = 0 by decide), sp_v (dv_no hV) hV]
      exact PM_w (sM_addV X1 hV hm A1 f1 E1)
theorem PM_f {cs : List Nat} {u u1 u2 : MS} {m : Nat} {bd : Nat → Bool} {r0 : Bool} {b : Nat} {p : Bool × List Nat × Ac} (h1 : fb m u u1) (h2 : m_rb u1 = m_rb u) (h3 : m_nk u1 = m_nk u) (h4 : m_na u1 = m_na u) (hp : p.1 = false) (h5 : m_fa u1 = nI (fpl cs p.2.1)) (l : la u1 u2) (hF : FB u2 cs b) : PM cs u m bd r0 b p (some ((), u2)) := by
  obtain ⟨g0, g1, g2, g3, g4, g5, g6, g7, g8, g9, g10, g11, g12, g13, g14, g15⟩ := l
  exact ⟨u2, rfl, fb_tr h1 (fb_la ⟨g0, g1, g2, g3, g4, g5, g6, g7, g8, g9, g10, g11, g12, g13, g14, g15⟩), g6.trans h2, g9.trans h3, g11.trans h4, fun h => (by rw [hp] at h; cases h), fun _ => ⟨g4.trans h5, hF⟩⟩
