def PE (u : KS) (cs : List Nat) (s : Nat) (p : Bool × List Nat × Nd) (o : Option (Int32 × KS)) : Prop := ∃ u', o = some (bI p.1, u') ∧ RK u' cs p.2.1 ∧ (p.1 = true → AK u' s p.2.2.2.2) ∧ fr s u u'
section SE
variable {k d c : Nat} {q : List Nat} {a : Ac}
theorem se_f (r : List Nat) : sp_end k d (false, r, a) = (false, r, (k, d, a.1, a.2.1, a.2.2)) := rfl
theorem se_n : sp_end k d (true, [], a) = (false, [], (k, d, a.1, a.2.1, a.2.2)) := rfl
theorem se_no (h : ¬ (c = 93 ∧ ac_in a = true)) : sp_end k d (true, c :: q, a) = (false, c :: q, (k, d, a.1, a.2.1, a.2.2)) := by
  show (if c = 93 ∧ ac_in a = true then _ else _) = _
  rw [if_neg h]
theorem se_y (h : ac_in a = true) : sp_end k d (true, 93 :: q, a) = (true, q, (k, d, a.1, a.2.1, a.2.2)) := by
  show (if 93 = 93 ∧ ac_in a = true then _ else _) = _
  rw [if_pos ⟨rfl, h⟩]
end SE
theorem sp_end_nd (k d : Nat) (s : Bool × List Nat × Ac) : (sp_end k d s).2.2 = (k, d, s.2.2.1, s.2.2.2.1, s.2.2.2.2) := by
  obtain ⟨b, r, a⟩ := s
  cases b
  · rw [se_f]
  · cases r with
    | nil => rw [se_n]
    | cons c q =>
      by_cases h : c = 93 ∧ ac_in a = true
      · obtain ⟨rfl, h2⟩ := h
        rw [se_y h2]
      · rw [se_no h]
theorem sR_J133 {u : KS} {cs ts : List Nat} {m : Nat} {a : Ac} {bd : Nat → Bool} {sd K : Int} {k d : Nat} (hR : RK u cs ts) (hm : m < 20) (hc : k_cn u = nI (m + 1)) (hA : AK u m a) (hI : acI bd K a) (hK : K ≤ 50000) (hsd : sd = 1 ∨ sd = -1) :
    PE u cs m (sp_end k d (sp_sums bd sd a ts)) (f_R_readBracket_J133 (nI m) (zI sd) (opm bd) (nI m) u) := by
  unfold f_R_readBracket_J133
  obtain ⟨u1, e1, R1, A1, F1⟩ := sR_sum (bd := bd) (sd := sd) hR (show m < m + 1 by omega) (by omega) hc hA
  have I1 := sp_sums_I hsd hI ts
  have hc1 : k_cn u1 = nI (m + 1) := F1.2.2.2.2.2.1.trans hc
  rw [ob_s e1]
  generalize sp_sums bd sd a ts = p at e1 R1 A1 I1 ⊢
  obtain ⟨b, rest, a1⟩ := p
  dsimp only at R1 A1 I1 ⊢
  cases b
  · rw [if_pos (show bI false = 0 from rfl), bz0, gd_t, se_f]
    exact ⟨u1, rfl, R1, fun h => (by cases h), F1⟩
  · rw [if_neg (show ¬ bI true = 0 by decide), ob_s (sR_mark R1)]
    cases rest with
    | nil =>
      rw [if_neg (show ¬ nI (([] : List Nat).headD 0) = 93 by decide), bz0, gd_t, se_n]
      exact ⟨u1, rfl, R1, fun h => (by cases h), F1⟩
    | cons c q =>
      have hh : c < 127 := RK_hd R1
      rw [show (c :: q).headD 0 = c from rfl]
      by_cases h93 : c = 93
      · subst h93
        rw [if_pos (show nI 93 = 93 from rfl), ob_s (sC_within (s := m) (m := m + 1) (by omega) (by omega) hc1 (A1 rfl) I1 (by omega))]
        cases hin : ac_in a1
        · rw [if_pos (show bI false = 0 from rfl), bz0, gd_t, se_no (fun h => by rw [hin] at h; cases h.2)]
          exact ⟨u1, rfl, R1, fun h => (by cases h), F1⟩
        · rw [if_neg (show ¬ bI true = 0 by decide), lt_q, bz1, gd_t, se_y hin]
          exact ⟨_, rfl, RK_next R1, fun _ => A1 rfl, fr_tr F1 (fr_at m _ _)⟩
      · rw [if_neg (ne_l (x := 93) (k := 93) rfl (by omega) (by omega) h93), bz0, gd_t, se_no (fun h => h93 h.1)]
        exact ⟨u1, rfl, R1, fun h => (by cases h), F1⟩
/-- inside a claim in [ ] -/
def gx (s : Nat) (a b : KS) : Prop := ge s a b ∧ k_cn b = k_cn a ∧ k_br b = k_br a ∧ k_ne b = k_ne a
theorem gx_tr {s : Nat} {a b c : KS} (h : gx s a b) (g : gx s b c) : gx s a c := ⟨ge_tr h.1 g.1, g.2.1.trans h.2.1, g.2.2.1.trans h.2.2.1, g.2.2.2.trans h.2.2.2⟩
theorem gx_fr {s : Nat} {a b : KS} (h : fr s a b) : gx s a b := ⟨ge_fr h, h.2.2.2.2.2.1, h.2.2.2.2.2.2.1, h.2.2.2.2.2.2.2.1⟩
/-- a claim in [ ] has come to p; its node is at s -/
def PB (u : KS) (cs : List Nat) (s : Nat) (p : Bool × List Nat × Nd) (o : Option (Int32 × KS)) : Prop := ∃ u', o = some (bI p.1, u') ∧ RK u' cs p.2.1 ∧ gx s u u' ∧ (p.1 = true → k_kd u' s = nI p.2.2.1 ∧ (p.2.2.1 = 58 → k_dv u' s = nI p.2.2.2.1) ∧ AK u' s p.2.2.2.2)
theorem PB_up {u u1 : KS} {cs : List Nat} {s : Nat} {p : Bool × List Nat × Nd} {o : Option (Int32 × KS)} (F : gx s u u1) (h : PB u1 cs s p o) : PB u cs s p o := by
  obtain ⟨w, a1, a2, a3, a4⟩ := h
  exact ⟨w, a1, a2, gx_tr F a3, a4⟩
theorem sR_J101 {u : KS} {cs q : List Nat} {m c : Nat} {a : Ac} {bd : Nat → Bool} {K : Int} {d : Nat} (dv : Bool) (hR : RK u cs (c :: q)) (hm : m < 20) (hc : k_cn u = nI (m + 1)) (hA : AK u m a) (hI : acI bd K a) (hK : K ≤ 50000) (h58 : c = 58 → k_dv u m = nI d) :
    PB u cs m (sp_end c d (sp_sums bd (if dv = true then 1 else -1) a q)) (f_R_readBracket_J101 (opm bd) (nI m) (bI dv) (nI c) u) := by
  unfold f_R_readBracket_J101
  rw [ob_s (sC_putK (show m < m + 1 by omega) (by omega) hc (nI c)), lt_q]
  have R1 : RK (k_p_kd (upd (k_kd u) m (nI c)) u) cs (c :: q) := RK_tx hR ⟨rfl, rfl, rfl, rfl, rfl, rfl⟩ rfl
  have R2 := RK_next R1
  have X2 : gx m u (k_p_at (k_at (k_p_kd (upd (k_kd u) m (nI c)) u) + 1) (k_p_kd (upd (k_kd u) m (nI c)) u)) := ⟨ge_tr (ge_kd (Nat.le_refl m) _ _) (ge_at m _ _), rfl, rfl, rfl⟩
  have c2 : k_cn (k_p_at (k_at (k_p_kd (upd (k_kd u) m (nI c)) u) + 1) (k_p_kd (upd (k_kd u) m (nI c)) u)) = nI (m + 1) := hc
  have A2 : AK (k_p_at (k_at (k_p_kd (upd (k_kd u) m (nI c)) u) + 1) (k_p_kd (upd (k_kd u) m (nI c)) u)) m a := hA
  have K2 : k_kd (k_p_at (k_at (k_p_kd (upd (k_kd u) m (nI c)) u) + 1) (k_p_kd (upd (k_kd u) m (nI c)) u)) m = nI c := pk_us
  have D2 : c = 58 → k_dv (k_p_at (k_at (k_p_kd (upd (k_kd u) m (nI c)) u) + 1) (k_p_kd (upd (k_kd u) m (nI c)) u)) m = nI d := h58
  generalize k_p_at (k_at (k_p_kd (upd (k_kd u) m (nI c)) u) + 1) (k_p_kd (upd (k_kd u) m (nI c)) u) = u2 at R2 X2 c2 A2 K2 D2 ⊢
  have fin : ∀ {sd : Int} {o : Option (Int32 × KS)}, PE u2 cs m (sp_end c d (sp_sums bd sd a q)) o → PB u cs m (sp_end c d (sp_sums bd sd a q)) o := by
    rintro sd o ⟨w, b1, b2, b3, b4⟩
    refine ⟨w, b1, b2, gx_tr X2 (gx_fr b4), fun h => ?_⟩
    rw [sp_end_nd] at b3 ⊢
    exact ⟨(congrFun b4.2.1 m).trans K2, fun h58 => (congrFun b4.2.2.2.2.1 m).trans (D2 h58), b3 h⟩
  cases dv
  · rw [if_pos (show bI false = 0 from rfl), if_neg ff_tt]
    exact fin (sR_J133 R2 hm c2 A2 hI hK (Or.inr rfl))
  · rw [if_neg (show ¬ bI true = 0 by decide), if_pos (show true = true from rfl)]
    exact fin (sR_J133 R2 hm c2 A2 hI hK (Or.inl rfl))
section SRel
variable {bd : Nat → Bool} {c : Nat} {q : List Nat} {a : Ac}
theorem sl_f (r : List Nat) : sp_rel bd (false, r, a) = (false, r, (60, 0, a.1, a.2.1, a.2.2)) := rfl
theorem sl_n : sp_rel bd (true, [], a) = (false, [], (60, 0, a.1, a.2.1, a.2.2)) := rfl
theorem sl_no (h : ¬ (c = 60 ∨ c = 61)) : sp_rel bd (true, c :: q, a) = (false, c :: q, (60, 0, a.1, a.2.1, a.2.2)) := by
  show (if c = 60 ∨ c = 61 then _ else _) = _
  rw [if_neg h]
theorem sl_y (h : c = 60 ∨ c = 61) : sp_rel bd (true, c :: q, a) = sp_end c 0 (sp_sums bd (-1) a q) := by
  show (if c = 60 ∨ c = 61 then _ else _) = _
  rw [if_pos h]
end SRel
theorem ac0_I (bd : Nat → Bool) : acI bd 0 ac0 := ⟨fun v => ⟨Int.le_refl _, Int.le_refl _⟩, ⟨Int.le_refl _, Int.le_refl _⟩, fun v h => absurd rfl h, fun v h => (by cases h)⟩
theorem sR_rel {u : KS} {cs ts : List Nat} {m : Nat} {bd : Nat → Bool} (hR : RK u cs ts) (hm : m < 20) (hc : k_cn u = nI (m + 1)) (hA : AK u m ac0) :
    PB u cs m (sp_rel bd (sp_sums bd 1 ac0 ts)) (ob (f_R_readSum (nI m) (opm bd) 1 u) fun r8 u9 => if r8 = 0 then (gd (bz 0) (some (0, u9))) else f_R_readBracket_J75 (opm bd) (nI m) 0 u9) := by
  obtain ⟨u1, e1, R1, A1, F1⟩ := sR_sum (bd := bd) (sd := 1) hR (show m < m + 1 by omega) (by omega) hc hA
  have I1 := sp_sums_I (sd := 1) (Or.inl rfl) (ac0_I bd) ts
  have hc1 : k_cn u1 = nI (m + 1) := F1.2.2.2.2.2.1.trans hc
  rw [show (1 : Int32) = zI 1 from rfl, ob_s e1]
  generalize sp_sums bd 1 ac0 ts = p at e1 R1 A1 I1 ⊢
  obtain ⟨b, rest, a1⟩ := p
  dsimp only at R1 A1 I1 ⊢
  cases b
  · rw [if_pos (show bI false = 0 from rfl), bz0, gd_t, sl_f]
    exact ⟨u1, rfl, R1, gx_fr F1, fun h => (by cases h)⟩
  · rw [if_neg (show ¬ bI true = 0 by decide)]
    unfold f_R_readBracket_J75
    rw [ob_s (sR_mark R1), if_pos (show (0 : Int32) = 0 from rfl)]
    cases rest with
    | nil =>
      rw [if_neg (show ¬ nI (([] : List Nat).headD 0) = 60 by decide), if_neg (show ¬ nI (([] : List Nat).headD 0) = 61 by decide), bz0, gd_t, sl_n]
      exact ⟨u1, rfl, R1, gx_fr F1, fun h => (by cases h)⟩
    | cons c q =>
      have hh : c < 127 := RK_hd R1
      rw [show (c :: q).headD 0 = c from rfl]
      have g := sR_J101 (d := 0) (bd := bd) false R1 hm hc1 (A1 rfl) I1 (by omega)
      rw [if_neg ff_tt, show bI false = 0 from rfl] at g
      by_cases h60 : c = 60
      · rw [if_pos (show nI c = 60 by rw [h60]; rfl), sl_y (Or.inl h60)]
        exact PB_up (gx_fr F1) (g (fun h => by omega))
      · rw [if_neg (ne_l (x := 60) (k := 60) rfl (by omega) (by omega) h60)]
        by_cases h61 : c = 61
        · rw [if_pos (show nI c = 61 by rw [h61]; rfl), sl_y (Or.inr h61)]
          exact PB_up (gx_fr F1) (g (fun h => by omega))
        · rw [if_neg (ne_l (x := 61) (k := 61) rfl (by omega) (by omega) h61), bz0, gd_t, sl_no (fun h => by omega)]
          exact ⟨u1, rfl, R1, gx_fr F1, fun h => (by cases h)⟩
theorem sR_brk {u : KS} {cs r : List Nat} {m br c : Nat} {bd : Nat → Bool} (hR : RK u cs (c :: r)) (hm : m < 20) (hc : k_cn u = nI m) (hb : k_br u = nI br) (h8 : br < 8) :
    ∃ u', f_R_readBracket (opm bd) u = some (bI (sp_brk bd r).1, u') ∧ RK u' cs (sp_brk bd r).2.1 ∧ ge m u u' ∧ k_cn u' = nI (m + 1) ∧ k_br u' = nI (br + 1) ∧ k_ne u' = k_ne u ∧ ((sp_brk bd r).1 = true → k_kd u' m = nI (sp_brk bd r).2.2.1 ∧ ((sp_brk bd r).2.2.1 = 58 → k_dv u' m = nI (sp_brk bd r).2.2.2.1) ∧ AK u' m (sp_brk bd r).2.2.2.2) := by
  unfold f_R_readBracket
  rw [if_pos (show k_br u < 8 by rw [hb]; exact nI_lt (b := 8) h8 (by omega)), lt_q]
  have R1 : RK (k_p_br (k_br u + 1) u) cs (c :: r) := RK_tx hR ⟨rfl, rfl, rfl, rfl, rfl, rfl⟩ rfl
  obtain ⟨u2, e2, R2, br2, ne2, cn2, kd2, A2, G2⟩ := sR_begin R1 hm (show k_cn (k_p_br (k_br u + 1) u) = nI m from hc)
  have br2' : k_br u2 = nI (br + 1) := br2.trans (show k_br u + 1 = nI (br + 1) by rw [hb, nI_1])
  have ne2' : k_ne u2 = k_ne u := ne2
  have G2' : ge m u u2 := ge_tr (ge_br m _ _) G2
  rw [ob_s e2, ob_s (sR_isDiv R2)]
  have fin : ∀ {p : Bool × List Nat × Nd} {o : Option (Int32 × KS)}, PB u2 cs m p o → ∃ u', o = some (bI p.1, u') ∧ RK u' cs p.2.1 ∧ ge m u u' ∧ k_cn u' = nI (m + 1) ∧ k_br u' = nI (br + 1) ∧ k_ne u' = k_ne u ∧ (p.1 = true → k_kd u' m = nI p.2.2.1 ∧ (p.2.2.1 = 58 → k_dv u' m = nI p.2.2.2.1) ∧ AK u' m p.2.2.2.2) := by
    rintro p o ⟨w, b1, b2, b3, b4⟩
    exact ⟨w, b1, b2, ge_tr G2' b3.1, b3.2.1.trans cn2, b3.2.2.1.trans br2', b3.2.2.2.trans ne2', b4⟩
  refine fin ?_
  rw [sp_brk_d]
  cases hd : dvb r
  · rw [show bI false = 0 from rfl, if_pos (show (0 : Int32) = 0 from rfl), if_neg ff_tt]
    exact sR_rel R2 hm cn2 A2
  · rw [if_neg (show ¬ bI true = 0 by decide), if_pos (show true = true from rfl), ob_s (sR_mark R2)]
    obtain ⟨c1, d1, q, rfl⟩ : ∃ c1 d1 q, r = c1 :: d1 :: q := by
      match r, hd with
      | c1 :: d1 :: q, _ => exact ⟨c1, d1, q, rfl⟩
      | [], h => exact absurd h (by decide)
      | [c1], h => simp [dvb] at h
    have hcd : (c1 = 50 ∨ c1 = 51) ∧ d1 = 58 := by simpa [dvb] using hd
    obtain ⟨hc1, rfl⟩ := hcd
    have hh : c1 < 127 := RK_hd R2
    rw [show (c1 :: 58 :: q).headD 0 = c1 from rfl, show (c1 :: 58 :: q).drop 2 = q from rfl, show (48 : Int32) = nI 48 from rfl, pk_sub (by omega), ob_s (sC_putD (show m < m + 1 by omega) (by omega) cn2 (nI (c1 - 48))), lt_q]
    have R3 : RK (k_p_dv (upd (k_dv u2) m (nI (c1 - 48))) u2) cs (c1 :: 58 :: q) := RK_tx R2 ⟨rfl, rfl, rfl, rfl, rfl, rfl⟩ rfl
    have R4 := RK_next R3
    have X4 : gx m u2 (k_p_at (k_at (k_p_dv (upd (k_dv u2) m (nI (c1 - 48))) u2) + 1) (k_p_dv (upd (k_dv u2) m (nI (c1 - 48))) u2)) := ⟨ge_tr (ge_dv (Nat.le_refl m) _ _) (ge_at m _ _), rfl, rfl, rfl⟩
    have c4 : k_cn (k_p_at (k_at (k_p_dv (upd (k_dv u2) m (nI (c1 - 48))) u2) + 1) (k_p_dv (upd (k_dv u2) m (nI (c1 - 48))) u2)) = nI (m + 1) := cn2
    have A4 : AK (k_p_at (k_at (k_p_dv (upd (k_dv u2) m (nI (c1 - 48))) u2) + 1) (k_p_dv (upd (k_dv u2) m (nI (c1 - 48))) u2)) m ac0 := A2
    have D4 : k_dv (k_p_at (k_at (k_p_dv (upd (k_dv u2) m (nI (c1 - 48))) u2) + 1) (k_p_dv (upd (k_dv u2) m (nI (c1 - 48))) u2)) m = nI (c1 - 48) := pk_us
    generalize k_p_at (k_at (k_p_dv (upd (k_dv u2) m (nI (c1 - 48))) u2) + 1) (k_p_dv (upd (k_dv u2) m (nI (c1 - 48))) u2) = u4 at R4 X4 c4 A4 D4 ⊢
    unfold f_R_readBracket_J75
    rw [ob_s (sR_mark R4), if_neg (show ¬ bI true = 0 by decide)]
    have g := sR_J101 (d := c1 - 48) (bd := bd) true R4 hm c4 A4 (ac0_I bd) (by omega) (fun _ => D4)
    rw [if_pos (show true = true from rfl)] at g
    exact PB_up X4 g
