def tx0 (a b : KS) : Prop := k_ln b = k_ln a ∧ k_sz b = k_sz a ∧ k_mk b = k_mk a ∧ k_pl b = k_pl a ∧ k_xf b = k_xf a
theorem tx0_tr {a b c : KS} (h : tx0 a b) (g : tx0 b c) : tx0 a c := ⟨g.1.trans h.1, g.2.1.trans h.2.1, g.2.2.1.trans h.2.2.1, g.2.2.2.1.trans h.2.2.2.1, g.2.2.2.2.trans h.2.2.2.2⟩
theorem tx0_tx {a b : KS} (h : tx a b) : tx0 a b := ⟨h.1, h.2.1, h.2.2.1, h.2.2.2.1, h.2.2.2.2.2⟩
theorem tx0_wd (x : Nat → Int64) (a : KS) : tx0 a (k_p_wd x a) := ⟨rfl, rfl, rfl, rfl, rfl⟩
theorem CV_wd {u : KS} {N : List Nd} (x : Nat → Int64) (h : CV u N) : CV (k_p_wd x u) N := by
  obtain ⟨⟨h1, h2, h3⟩, h4⟩ := h
  exact ⟨⟨h1, h2, h3⟩, h4⟩
/-- the j-th word of the row is right -/
def okw (u : KS) (f : Int → Bool) (j : Nat) : Prop := ∀ b : Nat, b < 64 → bit (k_wd u j) b = f (-96 + (j : Int) * 64 + b)
theorem sW_fillS {N : List Nd} {f : Int → Bool} {xf : Bool} (h : ∀ u, CV u N → ∀ k : Nat, k < 3 → WD (vf u) (f_C_word 32 (nI 0) (nI 0) (zI (-96 + (k : Int) * 64))) (fun b => f (-96 + (k : Int) * 64 + b) = true)) (hx : xf = false → ∀ v, f v = f 0) {n k : Nat} {u : KS} (hk : k < 3) (hV : CV u N) (hw : ∀ j, j < k → okw u f j) :
    ∃ u', f_W_fill_L2 (n + 1) (bI xf) (nI k) u = f_W_fill_L2 n (bI xf) (nI (k + 1)) u' ∧ CV u' N ∧ tx0 u u' ∧ ∀ j, j < k + 1 → okw u' f j := by
  have ea : (-96 : Int32) + nI k * 64 = zI (-96 + (k : Int) * 64) := by
    rw [nI_zI, show (64 : Int32) = zI 64 from rfl, zI_mul, show (-96 : Int32) = zI (-96) from rfl, zI_add]
  have J0 : ∃ u', f_W_fill_J20 (f_W_fill_L2 n) (bI xf) (nI k) 0 u = f_W_fill_L2 n (bI xf) (nI (k + 1)) u' ∧ CV u' N ∧ tx0 u u' ∧ ∀ j, j < k + 1 → okw u' f j := by
    obtain ⟨w, u1, e, hu, hb⟩ := h u hV k hk u (vf_rf u)
    rw [nI_0] at e
    unfold f_W_fill_J20
    rw [if_pos (show (0 : Int32) = 0 from rfl), ea, ob_s e, gd_s (inb_nI (by omega) (by omega)), lt_q, lt_q, nI_1, nI_clamp (by omega)]
    refine ⟨_, rfl, CV_wd _ (CV_vf hV hu), tx0_tr (tx0_tx hu.1) (tx0_wd _ _), fun j hj b hb' => ?_⟩
    show bit (vp_updL (k_wd u1) k w j) b = _
    by_cases hjk : j = k
    · subst hjk
      rw [show vp_updL (k_wd u1) j w j = w from if_pos rfl]
      have this : bit w b = true ↔ f (-96 + (j : Int) * 64 + b) = true := hb b hb'
      cases hf : f (-96 + (j : Int) * 64 + b)
      · rw [hf] at this
        cases hbw : bit w b
        · rfl
        · exact absurd (this.mp hbw) (by decide)
      · exact this.mpr hf
    · rw [show vp_updL (k_wd u1) k w j = k_wd u1 j from if_neg hjk, hu.1.2.2.2.2.1]
      exact hw j (by omega) b hb'
  rw [q_W_fill_L2, if_neg (show ¬ (3 : Int32) ≤ nI k from nI_ge (b := 3) hk (by omega))]
  by_cases h0 : k = 0
  · rw [if_pos (show nI k ≤ 0 by rw [h0]; decide)]
    exact J0
  · rw [if_neg (nI_nle (by omega) (by omega))]
    cases xf
    · rw [if_pos (show bI false = 0 from rfl)]
      unfold f_W_fill_J20
      rw [if_neg (show ¬ (1 : Int32) = 0 by decide), gd_s (inb_nI (by omega) (by omega)), lt_q, lt_q, nI_1, nI_clamp (by omega), show (0 : Int32).toNatClampNeg = 0 from rfl]
      refine ⟨_, rfl, CV_wd _ hV, tx0_wd _ _, fun j hj b hb' => ?_⟩
      show bit (vp_updL (k_wd u) k (k_wd u 0) j) b = _
      by_cases hjk : j = k
      · subst hjk
        rw [show vp_updL (k_wd u) j (k_wd u 0) j = k_wd u 0 from if_pos rfl, hw 0 (by omega) b hb', hx rfl, hx rfl (-96 + (j : Int) * 64 + b)]
      · rw [show vp_updL (k_wd u) k (k_wd u 0) j = k_wd u j from if_neg hjk]
        exact hw j (by omega) b hb'
    · rw [if_neg (show ¬ bI true = 0 by decide)]
      exact J0
theorem sW_fill {N : List Nd} {f : Int → Bool} {xf : Bool} (h : ∀ u, CV u N → ∀ k : Nat, k < 3 → WD (vf u) (f_C_word 32 (nI 0) (nI 0) (zI (-96 + (k : Int) * 64))) (fun b => f (-96 + (k : Int) * 64 + b) = true)) (hx : xf = false → ∀ v, f v = f 0) {u : KS} (hV : CV u N) : ∃ u', f_W_fill (bI xf) u = some ((), u') ∧ tx0 u u' ∧ rowOf u' f := by
  obtain ⟨u1, e1, V1, t1, w1⟩ := sW_fillS h hx (n := 4095) (k := 0) (u := u) (by omega) hV (fun j hj => by omega)
  obtain ⟨u2, e2, V2, t2, w2⟩ := sW_fillS h hx (n := 4094) (k := 0 + 1) (u := u1) (by omega) V1 w1
  obtain ⟨u3, e3, V3, t3, w3⟩ := sW_fillS h hx (n := 4093) (k := 0 + 1 + 1) (u := u2) (by omega) V2 w2
  refine ⟨u3, ?_, tx0_tr t1 (tx0_tr t2 t3), fun i hi => ?_⟩
  · have e4 : f_W_fill_L2 (4092 + 1) (bI xf) (nI (0 + 1 + 1 + 1)) u3 = some ((), u3) := by
      rw [q_W_fill_L2, if_pos (show (3 : Int32) ≤ nI (0 + 1 + 1 + 1) by decide)]
    have e : f_W_fill_L2 4096 (bI xf) (nI 0) u = some ((), u3) := e1.trans (e2.trans (e3.trans e4))
    rw [nI_0] at e
    unfold f_W_fill
    exact e
  · have g := w3 (i / 64) (by omega) (i % 64) (by omega)
    rw [g]
    congr 1
    omega
/-- for which x the claim is so -/
noncomputable def fS (N : List Nd) : Int → Bool := fun v => @decide (sem N 0 (ev1 0 v (fun _ => 0))) (Classical.propDecidable _)
theorem fS_t {N : List Nd} {v : Int} : fS N v = true ↔ sem N 0 (ev1 0 v (fun _ => 0)) := by
  exact @decide_eq_true_iff _ (Classical.propDecidable _)
theorem fS_c {N : List Nd} (hN : ∀ n ∈ N, nok n) (hw : wf N 0 = true) (hc : an3 (fv N 0) = false) (v : Int) : fS N v = fS N 0 := by
  have h : sem N 0 (ev1 0 v (fun _ => 0)) ↔ sem N 0 (ev1 0 0 (fun _ => 0)) := sem_fv (fun n hn => (hN n hn).1) 0 hw _ _ (fun w hw hf => by rw [(an3_f.mp hc) w hw] at hf; cases hf)
  cases h1 : fS N v
  · cases h2 : fS N 0
    · rfl
    · rw [fS_t] at h2
      rw [fS_t.mpr (h.mpr h2)] at h1
      cases h1
  · exact (fS_t.mpr (h.mp (fS_t.mp h1))).symm
/-- what a text that was read well tells -/
theorem tk_ok {cs : List Nat} (h : tkG (tkR cs) = true) : one (tkR cs).2.2.1 ∧ (tkR cs).2.2.1.length ≤ 20 ∧ (∀ x ∈ (tkR cs).2.2.1, nok x) ∧ (∀ v, v < 3 → fv (tkR cs).2.2.1 0 v = true → v = 0) ∧ (dq (tkR cs).2.2.1 0 ≤ 1 ∨ (an3 (fv (tkR cs).2.2.1 0) = false ∧ dq (tkR cs).2.2.1 0 ≤ 2)) ∧ (tkR cs).1 = true ∧ (tkR cs).2.1 = [] := by
  have okR := sp_cl_ok 32 (fun _ => false) 0 0 0 false (toks cs) (by omega) (by omega)
  change (tkR cs).1 = true → SOK (fun _ => false) 0 0 false (tkR cs) at okR
  generalize tkR cs = R at h okR ⊢
  unfold tkG at h
  rw [Bool.and_eq_true, Bool.and_eq_true] at h
  obtain ⟨⟨h1, h2⟩, h3⟩ := h
  obtain ⟨o1, o2, o3, o4, o5, o6, o7⟩ := okR h1
  refine ⟨o1, by omega, o3, fun v hv hf => ?_, ?_, h1, by simpa using h2⟩
  · rcases (o4 v hf).2 with z | z
    · exact z
    · cases z
  · cases hn : R.2.2.2.2
    · exact Or.inl ((o7 hn).2.1 rfl)
    · rw [hn, Bool.true_and] at h3
      exact Or.inr ⟨by simpa using h3, by omega⟩
theorem k_take0 {u : KS} {cs : List Nat} (hT : TK u cs) (ok : okT cs) (hG : tkG (tkR cs) = false) : ∃ u', f_L_take u = some (-1 - nI (fpl cs (tkR cs).2.1), u') ∧ TK u' [] ∧ k_wd u' = k_wd u ∧ k_xf u' = k_xf u := by
  obtain ⟨u1, e1, x1, R1, V1⟩ := sR_whole hT ok
  rw [hG] at e1
  unfold f_L_take
  rw [ob_s e1, if_pos (show bI false = 0 from rfl), ob_s (sR_fault R1)]
  unfold f_L_take_J31 f_T_clear
  rw [lt_q, lt_q, ob_s rfl, if_pos (show bI false = 0 from rfl)]
  exact ⟨_, rfl, ⟨nI_0.symm, nI_0.symm, fun i q h => by simp [tkF] at h⟩, x1.2.2.2.2.1, x1.2.2.2.2.2⟩
theorem k_take1 {u : KS} {cs : List Nat} (hT : TK u cs) (ok : okT cs) (hG : tkG (tkR cs) = true) : ∃ u', f_L_take u = some (nI (tkR cs).2.2.2.1, u') ∧ TK u' [] ∧ k_xf u' = bI (an3 (fv (tkR cs).2.2.1 0)) ∧ rowOf u' (fS (tkR cs).2.2.1) := by
  obtain ⟨u1, e1, x1, R1, V1⟩ := sR_whole hT ok
  obtain ⟨V1, b1⟩ := V1 hG
  obtain ⟨o1, o2, o3, o4, o5, -, -⟩ := tk_ok hG
  rw [hG] at e1
  generalize tkR cs = R at V1 b1 o1 o2 o3 o4 o5 ⊢
  unfold f_L_take f_R_bracketsRead
  rw [ob_s e1, if_neg (show ¬ bI true = 0 by decide), ob_s rfl, b1]
  unfold f_L_take_J31 f_T_clear
  rw [lt_q, lt_q, ob_s rfl, if_neg (show ¬ bI true = 0 by decide)]
  have V2 : CV (k_p_ln 0 (k_p_sz 0 u1)) R.2.2.1 := by
    obtain ⟨⟨h1, h2, h3⟩, h4⟩ := V1
    exact ⟨⟨h1, h2, h3⟩, h4⟩
  have T2 : k_ln (k_p_ln 0 (k_p_sz 0 u1)) = 0 ∧ k_sz (k_p_ln 0 (k_p_sz 0 u1)) = 0 := ⟨rfl, rfl⟩
  generalize k_p_ln 0 (k_p_sz 0 u1) = u2 at V2 T2 ⊢
  have hop : f_C_isOpen 0 u2 = some (bI (an3 (fv R.2.2.1 0)), u2) := by
    have := sC_isOpen (i := 0) (m := R.2.2.1.length) o1.2.2 o2 V2.1.1 (V2.2 0 o1.2.2)
    rw [nI_0] at this
    exact this
  rw [ob_s hop, bz_bI, gd_t, lt_q]
  have V3 : CV (k_p_xf (bI (an3 (fv R.2.2.1 0))) u2) R.2.2.1 := by
    obtain ⟨⟨h1, h2, h3⟩, h4⟩ := V2
    exact ⟨⟨h1, h2, h3⟩, h4⟩
  have T3 : k_ln (k_p_xf (bI (an3 (fv R.2.2.1 0))) u2) = 0 ∧ k_sz (k_p_xf (bI (an3 (fv R.2.2.1 0))) u2) = 0 ∧ k_xf (k_p_xf (bI (an3 (fv R.2.2.1 0))) u2) = bI (an3 (fv R.2.2.1 0)) := ⟨T2.1, T2.2, rfl⟩
  generalize k_p_xf (bI (an3 (fv R.2.2.1 0))) u2 = u3 at V3 T3 ⊢
  rw [T3.2.2]
  have hw0 := o1.1 0 o1.2.2
  obtain ⟨u4, e4, t4, r4⟩ := sW_fill (N := R.2.2.1) (f := fS R.2.2.1) (xf := an3 (fv R.2.2.1 0)) (fun u hV k hk => WD_c (sC_wordO o3 hV (fun _ => 0) 0 hw0 hw0 32 0 (-96 + (k : Int) * 64) (by omega) (by omega) (by omega) (by omega) o4 o5) (fun b _ => fS_t.symm)) (fun hc v => fS_c o3 hw0 hc v) V3
  rw [ob_s e4]
  exact ⟨u4, rfl, ⟨t4.1.trans (T3.1.trans nI_0.symm), t4.2.1.trans (T3.2.1.trans nI_0.symm), fun i q h => by simp [tkF] at h⟩, t4.2.2.2.2.trans T3.2.2, r4⟩
