theorem disp {k49 : Int32 → Int32 → Int32 → Int32 → MS → Option (Unit × MS)} {v1 v2 : Int32} {dp c : Nat} {u : MS} (hc : c < 127) (hdp : dp ≤ 10) : (if nI c = 65 then f_M_readClaims_J79 k49 v1 v2 (nI dp) 0 (nI c) 1 u else f_M_readClaims_J79 k49 v1 v2 (nI dp) 0 (nI c) 0 u) = f_M_readClaims_J150 k49 v1 v2 (nI dp) 0 (nI c) (bI (c == 65)) (bI (k_qu c)) (bI (k_pr c || c == 33 || c == 91 || (k_qu c && decide (dp < 2)))) u := by
  by_cases h65 : c = 65
  · subst h65
    rw [if_pos (show nI 65 = 65 from rfl)]
    unfold f_M_readClaims_J79
    rw [if_neg (show ¬ (1 : Int32) = 0 by decide)]
    unfold f_M_readClaims_J98
    rw [if_neg (show ¬ nI 65 = 38 by decide), if_neg (show ¬ nI 65 = 47 by decide), if_neg (show ¬ nI 65 = 62 by decide), if_neg (show ¬ nI 65 = 33 by decide), if_neg (show ¬ nI 65 = 91 by decide), if_neg (show ¬ (1 : Int32) = 0 by decide)]
    by_cases hd : 2 ≤ dp
    · rw [if_pos (show (2 : Int32) ≤ nI dp from nI_le (a := 2) hd (by omega)), decide_eq_false (show ¬ dp < 2 by omega)]
      rfl
    · rw [if_neg (show ¬ (2 : Int32) ≤ nI dp from nI_ge (b := 2) (by omega) (by omega)), decide_eq_true (show dp < 2 by omega)]
      rfl
  · rw [if_neg (ne_l (x := 65) (k := 65) rfl (by omega) (by omega) h65)]
    unfold f_M_readClaims_J79
    rw [if_pos (show (0 : Int32) = 0 from rfl)]
    by_cases h69 : c = 69
    · subst h69
      rw [if_pos (show nI 69 = 69 from rfl)]
      unfold f_M_readClaims_J98
      rw [if_neg (show ¬ nI 69 = 38 by decide), if_neg (show ¬ nI 69 = 47 by decide), if_neg (show ¬ nI 69 = 62 by decide), if_neg (show ¬ nI 69 = 33 by decide), if_neg (show ¬ nI 69 = 91 by decide), if_neg (show ¬ (1 : Int32) = 0 by decide)]
      by_cases hd : 2 ≤ dp
      · rw [if_pos (show (2 : Int32) ≤ nI dp from nI_le (a := 2) hd (by omega)), decide_eq_false (show ¬ dp < 2 by omega)]
        rfl
      · rw [if_neg (show ¬ (2 : Int32) ≤ nI dp from nI_ge (b := 2) (by omega) (by omega)), decide_eq_true (show dp < 2 by omega)]
        rfl
    · have hq : k_qu c = false := by
        cases z : k_qu c
        · rfl
        · rcases kq_or z with e | e <;> omega
      rw [if_neg (ne_l (x := 69) (k := 69) rfl (by omega) (by omega) h69), hq, show (c == 65) = false from beq_eq_false_iff_ne.mpr h65]
      unfold f_M_readClaims_J98
      by_cases h38 : c = 38
      · subst h38
        rw [if_pos (show nI 38 = 38 from rfl)]
        rfl
      · rw [if_neg (ne_l (x := 38) (k := 38) rfl (by omega) (by omega) h38)]
        by_cases h47 : c = 47
        · subst h47
          rw [if_pos (show nI 47 = 47 from rfl)]
          rfl
        · rw [if_neg (ne_l (x := 47) (k := 47) rfl (by omega) (by omega) h47)]
          by_cases h62 : c = 62
          · subst h62
            rw [if_pos (show nI 62 = 62 from rfl)]
            rfl
          · rw [if_neg (ne_l (x := 62) (k := 62) rfl (by omega) (by omega) h62)]
            by_cases h33 : c = 33
            · subst h33
              rw [if_pos (show nI 33 = 33 from rfl)]
              rfl
            · rw [if_neg (ne_l (x := 33) (k := 33) rfl (by omega) (by omega) h33)]
              by_cases h91 : c = 91
              · subst h91
                rw [if_pos (show nI 91 = 91 from rfl)]
                rfl
              · have hp : k_pr c = false := by
                  cases z : k_pr c
                  · rfl
                  · rcases kp_or z with e | e | e <;> omega
                rw [if_neg (ne_l (x := 91) (k := 91) rfl (by omega) (by omega) h91), if_pos (show (0 : Int32) = 0 from rfl), hp, show (c == 33) = false from beq_eq_false_iff_ne.mpr h33, show (c == 91) = false from beq_eq_false_iff_ne.mpr h91]
                rfl
def psh0 (u : MS) (cnt code : Nat) : MS := m_p_nk (upd (m_nk u) cnt (nI code)) u
def psh1 (u : MS) (cnt code : Nat) : MS := m_p_at (m_at (psh0 u cnt code) + 1) (psh0 u cnt code)
def psh2 (u : MS) (cnt code t : Nat) : MS := m_p_op (upd (m_op (psh1 u cnt code)) (t + 1) (nI cnt)) (psh1 u cnt code)
/-- a claim that has parts is put onto the stack -/
def psh (u : MS) (cnt code t : Nat) : MS := m_p_le (upd (m_le (psh2 u cnt code t)) (t + 1) (nI (if 3 ≤ code then 1 else 2))) (psh2 u cnt code t)
theorem sM_404 {k49 : Int32 → Int32 → Int32 → Int32 → MS → Option (Unit × MS)} {t cnt code : Nat} {v2 v3 v4 v7 : Int32} {u : MS} (ht : t < 20) (hcnt : cnt < 20) (hcode : code < 10) : f_M_readClaims_J404 k49 (nI t) v2 v3 v4 v7 (nI cnt) (nI code) (nI cnt) u = (if v7 = 0 then k49 (nI (t + 1)) v2 v3 v4 (psh u cnt code t) else (ob (f_M_look (psh u cnt code t)) fun r59 u60 => ob (f_M_in r59 120 122 u60) fun r61 u62 => if r61 = 0 then (ob (f_M_fail u62) fun r64 u65 => f_M_readClaims_J472 k49 (nI (t + 1)) v3 v4 (nI cnt) u65) else f_M_readClaims_J472 k49 (nI (t + 1)) v3 v4 (nI cnt) u62)) := by
  unfold f_M_readClaims_J404
  rw [gd_s (inb_nI (by omega) (by omega)), lt_q, lt_q, lt_q, nI_1, gd_s (inb_nI (by omega) (by omega)), lt_q, gd_s (inb_nI (by omega) (by omega)), nI_clamp (n := cnt) (by omega), nI_clamp (n := t + 1) (by omega)]
  change (if 3 ≤ m_nk (psh2 u cnt code t) cnt then f_M_readClaims_J448 k49 (nI (t + 1)) v2 v3 v4 v7 (nI cnt) 1 (nI (t + 1)) (psh2 u cnt code t) else f_M_readClaims_J448 k49 (nI (t + 1)) v2 v3 v4 v7 (nI cnt) 2 (nI (t + 1)) (psh2 u cnt code t)) = _
  rw [show m_nk (psh2 u cnt code t) cnt = nI code by unfold psh2 psh1 psh0; simp only [mp_op, mp_at, mp_nk]; exact pk_us]
  unfold psh
  by_cases h3 : 3 ≤ code
  · rw [if_pos (show (3 : Int32) ≤ nI code from nI_le (a := 3) h3 (by omega)), if_pos h3]
    unfold f_M_readClaims_J448
    rw [gd_s (inb_nI (by omega) (by omega)), lt_q, nI_clamp (n := t + 1) (by omega)]
    rfl
  · rw [if_neg (show ¬ (3 : Int32) ≤ nI code from nI_ge (b := 3) (by omega) (by omega)), if_neg h3]
    unfold f_M_readClaims_J448
    rw [gd_s (inb_nI (by omega) (by omega)), lt_q, nI_clamp (n := t + 1) (by omega)]
    rfl
theorem psh_fa (u : MS) (cnt code t : Nat) : m_fa (psh u cnt code t) = m_fa u := by
  unfold psh psh2 psh1 psh0
  simp only [mp_le, mp_op, mp_at, mp_nk]
theorem psh_re (u : MS) (cnt code t : Nat) : m_re (psh u cnt code t) = m_re u := by
  unfold psh psh2 psh1 psh0
  simp only [mp_le, mp_op, mp_at, mp_nk]
theorem psh_rb (u : MS) (cnt code t : Nat) : m_rb (psh u cnt code t) = m_rb u := by
  unfold psh psh2 psh1 psh0
  simp only [mp_le, mp_op, mp_at, mp_nk]
theorem psh_dp (u : MS) (cnt code t : Nat) : m_dp (psh u cnt code t) = m_dp u := by
  unfold psh psh2 psh1 psh0
  simp only [mp_le, mp_op, mp_at, mp_nk]
theorem psh_rf (u : MS) (cnt code t : Nat) : m_rf (psh u cnt code t) = m_rf u := by
  unfold psh psh2 psh1 psh0
  simp only [mp_le, mp_op, mp_at, mp_nk]
theorem psh_he (u : MS) (cnt code t : Nat) : m_he (psh u cnt code t) = m_he u := by
  unfold psh psh2 psh1 psh0
  simp only [mp_le, mp_op, mp_at, mp_nk]
theorem psh_no (u : MS) (cnt code t : Nat) : m_no (psh u cnt code t) = m_no u := by
  unfold psh psh2 psh1 psh0
  simp only [mp_le, mp_op, mp_at, mp_nk]
theorem psh_na (u : MS) (cnt code t : Nat) : m_na (psh u cnt code t) = m_na u := by
  unfold psh psh2 psh1 psh0
  simp only [mp_le, mp_op, mp_at, mp_nk]
theorem psh_ns (u : MS) (cnt code t : Nat) : m_ns (psh u cnt code t) = m_ns u := by
  unfold psh psh2 psh1 psh0
  simp only [mp_le, mp_op, mp_at, mp_nk]
theorem psh_ty (u : MS) (cnt code t : Nat) : m_ty (psh u cnt code t) = m_ty u := by
  unfold psh psh2 psh1 psh0
  simp only [mp_le, mp_op, mp_at, mp_nk]
theorem psh_si (u : MS) (cnt code t : Nat) : m_si (psh u cnt code t) = m_si u := by
  unfold psh psh2 psh1 psh0
  simp only [mp_le, mp_op, mp_at, mp_nk]
theorem psh_ch (u : MS) (cnt code t : Nat) : m_ch (psh u cnt code t) = m_ch u := by
  unfold psh psh2 psh1 psh0
  simp only [mp_le, mp_op, mp_at, mp_nk]
theorem psh_cl (u : MS) (cnt code t : Nat) : m_cl (psh u cnt code t) = m_cl u := by
  unfold psh psh2 psh1 psh0
  simp only [mp_le, mp_op, mp_at, mp_nk]
theorem psh_xf (u : MS) (cnt code t : Nat) : m_xf (psh u cnt code t) = m_xf u := by
  unfold psh psh2 psh1 psh0
  simp only [mp_le, mp_op, mp_at, mp_nk]
theorem psh_tr (u : MS) (cnt code t : Nat) : m_tr (psh u cnt code t) = m_tr u := by
  unfold psh psh2 psh1 psh0
  simp only [mp_le, mp_op, mp_at, mp_nk]
theorem psh_ki (u : MS) (cnt code t : Nat) : m_ki (psh u cnt code t) = m_ki u := by
  unfold psh psh2 psh1 psh0
  simp only [mp_le, mp_op, mp_at, mp_nk]
theorem psh_ow (u : MS) (cnt code t : Nat) : m_ow (psh u cnt code t) = m_ow u := by
  unfold psh psh2 psh1 psh0
  simp only [mp_le, mp_op, mp_at, mp_nk]
theorem psh_ab (u : MS) (cnt code t : Nat) : m_ab (psh u cnt code t) = m_ab u := by
  unfold psh psh2 psh1 psh0
  simp only [mp_le, mp_op, mp_at, mp_nk]
theorem psh_su (u : MS) (cnt code t : Nat) : m_su (psh u cnt code t) = m_su u := by
  unfold psh psh2 psh1 psh0
  simp only [mp_le, mp_op, mp_at, mp_nk]
theorem psh_at (u : MS) (cnt code t : Nat) : m_at (psh u cnt code t) = m_at u + 1 := by
  unfold psh psh2 psh1 psh0
  simp only [mp_le, mp_op, mp_at, mp_nk]
theorem psh_nk (u : MS) (cnt code t : Nat) : m_nk (psh u cnt code t) = upd (m_nk u) cnt (nI code) := by
  unfold psh psh2 psh1 psh0
  simp only [mp_le, mp_op, mp_at, mp_nk]
theorem psh_op (u : MS) (cnt code t : Nat) : m_op (psh u cnt code t) = upd (m_op u) (t + 1) (nI cnt) := by
  unfold psh psh2 psh1 psh0
  simp only [mp_le, mp_op, mp_at, mp_nk]
theorem psh_le (u : MS) (cnt code t : Nat) : m_le (psh u cnt code t) = upd (m_le u) (t + 1) (nI (if 3 ≤ code then 1 else 2)) := by
  unfold psh psh2 psh1 psh0
  simp only [mp_le, mp_op, mp_at, mp_nk]
theorem psh_tb (u : MS) (cnt code t : Nat) : tb u (psh u cnt code t) := ⟨psh_cl .., psh_xf .., psh_tr .., psh_ki .., psh_ow .., psh_ab .., psh_su ..⟩
theorem psh_g {u : MS} {cnt code t s : Nat} (hs : s ≤ cnt) : gm s u (psh u cnt code t) := ⟨psh_tb .., psh_ty .., psh_si .., psh_ch .., fun j hj => ⟨by rw [psh_nk]; exact pk_un (show j ≠ cnt by omega), by rw [psh_na], by rw [psh_no]⟩, fun _ _ => by rw [psh_ns]⟩
theorem psh_k {u : MS} {cnt code t : Nat} : sk t u (psh u cnt code t) := fun j hj => ⟨by rw [psh_op]; exact pk_un (show j ≠ t + 1 by omega), by rw [psh_le]; exact pk_un (show j ≠ t + 1 by omega)⟩
theorem psh_R {u : MS} {cs r : List Nat} {c cnt code t : Nat} (X : MX u cs (c :: r)) : MR (psh u cnt code t) cs r := MX_n2 X ⟨X.1.1, (psh_si ..).trans X.1.2.1, fun i d hi => by rw [psh_ch]; exact X.1.2.2 i d hi⟩ (psh_at ..)
theorem psh_S {u : MS} {cnt code t : Nat} (h : STK u t cnt) (ht : code < 4) : STK (psh u cnt code t) (t + 1) (cnt + 1) := by
  intro j h1 h2
  by_cases hj : j = t + 1
  · subst hj
    refine ⟨cnt, by omega, by rw [psh_op]; exact pk_us, ?_, fun z => ?_⟩
    · have e : m_le (psh u cnt code t) (t + 1) = nI (if 3 ≤ code then 1 else 2) := by rw [psh_le]; exact pk_us
      rw [e]
      by_cases h3 : 3 ≤ code
      · rw [if_pos h3]; exact Or.inl rfl
      · rw [if_neg h3]; exact Or.inr rfl
    · exfalso
      apply z
      rw [show m_nk (psh u cnt code t) cnt = nI code by rw [psh_nk]; exact pk_us]
      exact nI_lt (b := 4) (by omega) (by omega)
  · obtain ⟨idx, a1, a2, a3, a4⟩ := h j h1 (by omega)
    obtain ⟨k1, k2⟩ := psh_k (u := u) (cnt := cnt) (code := code) (t := t) j (by omega)
    obtain ⟨n1, n2, n3⟩ := (psh_g (u := u) (cnt := cnt) (code := code) (t := t) (s := cnt) (Nat.le_refl _)).2.2.2.2.1 idx a1
    rw [k1, k2]
    exact ⟨idx, by omega, a2, a3, by rw [n1, n2]; exact a4⟩
/-- the reference's state while it reads claims -/
def SM (cs : List Nat) (u : MS) (ts : List Nat) (t cnt br : Nat) (ne rf0 : Bool) (h : Nat → Nat) : Prop := MR u cs ts ∧ m_fa u = -1 ∧ m_re u = nI cnt ∧ m_rb u = nI br ∧ m_dp u = bI ne ∧ m_rf u = bI rf0 ∧ HH u h ∧ STK u t cnt
/-- what its reading of a claim comes to -/
def QM (cs : List Nat) (F t : Nat) (ow : Int32) (dp cnt : Nat) (bd : Nat → Bool) (rf0 : Bool) (h : Nat → Nat) (u : MS) (R : Rs) (o : Option (Unit × MS)) : Prop :=
  (R.1 = true → ∃ u' F' G, F = F' + R.2.2.1.length ∧ 4096 ≤ G + R.2.2.1.length ∧ o = f_M_readClaims_L213 (f_M_readClaims_L49 F') G (nI t) ow (nI dp) 1 u' ∧ SM cs u' R.2.1 t (cnt + R.2.2.1.length) R.2.2.2.1 R.2.2.2.2 (rf0 || frb bd (fv R.2.2.1 0)) h ∧ gm cnt u u' ∧ sk t u u' ∧ m_no u' cnt = ow ∧ MT u' cnt R.2.2.1) ∧ (R.1 = false → ∃ u', o = some ((), u') ∧ m_fa u' = nI (fpl cs R.2.1) ∧ tb u u' ∧ m_ty u' = m_ty u)
theorem QM_f {cs : List Nat} {F t dp cnt : Nat} {ow : Int32} {bd : Nat → Bool} {rf0 : Bool} {h : Nat → Nat} {u : MS} {R : Rs} {o : Option (Unit × MS)} (hR : R.1 = false) (g : ∃ u', o = some ((), u') ∧ m_fa u' = nI (fpl cs R.2.1) ∧ tb u u' ∧ m_ty u' = m_ty u) : QM cs F t ow dp cnt bd rf0 h u R o := ⟨fun z => (by rw [hR] at z; cases z), fun _ => g⟩
/-- a new node of the owner v2 -/
def nw (u : MS) (cnt : Nat) (v2 : Int32) : MS := m_p_no (upd (m_no u) cnt v2) (m_p_re (m_re u + 1) u)
theorem nw_o {u : MS} {cnt : Nat} {v2 : Int32} : m_ty (nw u cnt v2) = m_ty u ∧ m_si (nw u cnt v2) = m_si u ∧ m_at (nw u cnt v2) = m_at u ∧ m_fa (nw u cnt v2) = m_fa u ∧ m_rb (nw u cnt v2) = m_rb u ∧ m_rf (nw u cnt v2) = m_rf u ∧ m_dp (nw u cnt v2) = m_dp u ∧ m_ch (nw u cnt v2) = m_ch u ∧ m_nk (nw u cnt v2) = m_nk u ∧ m_na (nw u cnt v2) = m_na u ∧ m_ns (nw u cnt v2) = m_ns u ∧ m_he (nw u cnt v2) = m_he u ∧ m_op (nw u cnt v2) = m_op u ∧ m_le (nw u cnt v2) = m_le u ∧ m_no (nw u cnt v2) = upd (m_no u) cnt v2 ∧ m_re (nw u cnt v2) = m_re u + 1 ∧ tb u (nw u cnt v2) := by
  unfold nw
  refine ⟨?_, ?_, ?_, ?_, ?_, ?_, ?_, ?_, ?_, ?_, ?_, ?_, ?_, ?_, ?_, ?_, ⟨?_, ?_, ?_, ?_, ?_, ?_, ?_⟩⟩ <;> simp only [mp_no, mp_re]
theorem nw_g {u : MS} {cnt : Nat} {v2 : Int32} : gm cnt u (nw u cnt v2) := by
  obtain ⟨h1, h2, h3, h4, h5, h6, h7, h8, h9, h10, h11, h12, h13, h14, h15, h16, h17⟩ := nw_o (u := u) (cnt := cnt) (v2 := v2)
  exact ⟨h17, h1, h2, h8, fun j hj => ⟨congrFun h9 j, congrFun h10 j, by rw [h15]; exact pk_un (show j ≠ cnt by omega)⟩, fun j _ => congrFun h11 j⟩
theorem sM_150 {k49 : Int32 → Int32 → Int32 → Int32 → MS → Option (Unit × MS)} {v1 v2 v3 v5 v6 v7 : Int32} {cnt : Nat} {u : MS} (hcnt : cnt < 20) (hre : m_re u = nI cnt) : f_M_readClaims_J150 k49 v1 v2 v3 0 v5 v6 v7 1 u = (if v5 = 91 then (ob (f_M_readBracket (nI cnt) (nw u cnt v2)) fun r35 u36 => f_M_readClaims_L213 k49 4096 v1 v2 v3 1 u36) else (if v5 = 38 then f_M_readClaims_J404 k49 v1 v2 v3 0 v7 (nI cnt) 0 (nI cnt) (nw u cnt v2) else (if v5 = 47 then f_M_readClaims_J404 k49 v1 v2 v3 0 v7 (nI cnt) 1 (nI cnt) (nw u cnt v2) else (if v5 = 62 then f_M_readClaims_J404 k49 v1 v2 v3 0 v7 (nI cnt) 2 (nI cnt) (nw u cnt v2) else (if v5 = 33 then f_M_readClaims_J404 k49 v1 v2 v3 0 v7 (nI cnt) 3 (nI cnt) (nw u cnt v2) else (if v6 = 0 then f_M_readClaims_J404 k49 v1 v2 v3 0 v7 (nI cnt) 4 (nI cnt) (nw u cnt v2) else f_M_readClaims_J404 k49 v1 v2 v3 0 v7 (nI cnt) 5 (nI cnt) (nw u cnt v2))))))) := by
  unfold f_M_readClaims_J150
  rw [if_neg (show ¬ (1 : Int32) = 0 by decide), if_neg (show ¬ m_re u = 20 by rw [hre]; exact ne_l (x := 20) (k := 20) rfl (by omega) (by omega) (by omega)), lt_q, lt_q, hre, gd_s (inb_nI (by omega) (by omega)), lt_q, nI_clamp (n := cnt) (by omega)]
  unfold nw
  rw [hre]
  rfl
theorem sM_150F {F cnt : Nat} {cs ts : List Nat} {v1 v2 v3 v5 v6 v7 : Int32} {b : Bool} {u : MS} (R : MR u cs ts) (hf : m_fa u = -1) (hb : b = false ∨ m_re u = nI 20) : ∃ u', f_M_readClaims_J150 (f_M_readClaims_L49 (F + 1)) v1 v2 v3 0 v5 v6 v7 (bI b) u = some ((), u') ∧ m_fa u' = nI (fpl cs ts) ∧ tb u u' ∧ m_ty u' = m_ty u := by
  have hg := fpl_le cs ts R.1.1
  obtain ⟨u1, e1, l1, f1, B1⟩ := sM_fail R hf
  have e : (ob (f_M_fail u) fun r23 u24 => f_M_readClaims_L49 (F + 1) v1 v2 v3 0 u24) = some ((), u1) := by
    rw [ob_s e1]
    exact L49_done (by rw [f1]; exact nI_pos' (by omega))
  unfold f_M_readClaims_J150
  cases b
  · rw [if_pos (show bI false = 0 from rfl)]
    exact ⟨u1, e, f1, l1.1, l1.2.1⟩
  · rw [if_neg (show ¬ bI true = 0 by decide), if_pos (show m_re u = 20 by rw [hb.resolve_left (by decide)]; rfl)]
    exact ⟨u1, e, f1, l1.1, l1.2.1⟩
