/-- the place at which ts is left -/
def fpl (cs ts : List Nat) : Nat := plc cs ((toks cs).length - ts.length)
theorem sR_fault {u : KS} {cs ts : List Nat} (h : RK u cs ts) : f_R_faultPlace u = some (nI (fpl cs ts), u) := by
  obtain ⟨h1, h2, k, h3, h4, h5⟩ := h
  have := tkF_len cs 0
  have := h2.1
  have hl := toks_len cs
  unfold f_R_faultPlace fpl
  rw [h4, ob_s (sT_place h1 h2 (by omega)), ← h5, List.length_drop, show (toks cs).length - ((toks cs).length - k) = k by omega]
/-- what reading a whole text comes to -/
def tkR (cs : List Nat) : Rs := sp_cl 32 (fun _ => false) 0 0 0 false (toks cs)
def tkG (R : Rs) : Bool := R.1 && R.2.1.isEmpty && !(R.2.2.2.2 && an3 (fv R.2.2.1 0))
theorem sR_whole {u : KS} {cs : List Nat} (hT : TK u cs) (ok : okT cs) : ∃ u', f_R_readWhole u = some (bI (tkG (tkR cs)), u') ∧ tx u u' ∧ RK u' cs (tkR cs).2.1 ∧ (tkG (tkR cs) = true → CV u' (tkR cs).2.2.1 ∧ k_br u' = nI (tkR cs).2.2.2.1) := by
  unfold f_R_readWhole f_C_clear
  rw [lt_q, lt_q, lt_q, lt_q, ob_s rfl]
  have x0 : tx u (k_p_cn 0 (k_p_ne 0 (k_p_br 0 (k_p_at 0 u)))) := by
    refine ⟨?_, ?_, ?_, ?_, ?_, ?_⟩ <;> simp only [kp_cn, kp_ne, kp_br, kp_at]
  have a0 : k_at (k_p_cn 0 (k_p_ne 0 (k_p_br 0 (k_p_at 0 u)))) = nI 0 := by
    simp only [kp_cn, kp_ne, kp_br, kp_at]; exact nI_0.symm
  have c0 : k_cn (k_p_cn 0 (k_p_ne 0 (k_p_br 0 (k_p_at 0 u)))) = nI 0 := by
    simp only [kp_cn]; exact nI_0.symm
  have b0 : k_br (k_p_cn 0 (k_p_ne 0 (k_p_br 0 (k_p_at 0 u)))) = nI 0 := by
    simp only [kp_cn, kp_ne, kp_br]; exact nI_0.symm
  have n0 : k_ne (k_p_cn 0 (k_p_ne 0 (k_p_br 0 (k_p_at 0 u)))) = bI false := by
    simp only [kp_cn, kp_ne]; rfl
  generalize k_p_cn 0 (k_p_ne 0 (k_p_br 0 (k_p_at 0 u))) = u0 at x0 a0 c0 b0 n0 ⊢
  have R0 : RK u0 cs (toks cs) := ⟨TK_tx hT x0, ok, 0, Nat.zero_le _, a0, rfl⟩
  have g := sR_claim (cs := cs) 32 (fun _ => false) 0 0 0 false (toks cs) u0 (by omega) (by omega) (by omega) (by omega) R0 c0 b0 n0
  have okR := sp_cl_ok 32 (fun _ => false) 0 0 0 false (toks cs) (by omega) (by omega)
  rw [show opm (fun _ => false) = 0 by decide, nI_0, show sp_cl 32 (fun _ => false) 0 0 0 false (toks cs) = tkR cs from rfl] at g
  rw [show sp_cl 32 (fun _ => false) 0 0 0 false (toks cs) = tkR cs from rfl] at okR
  generalize tkR cs = R at g okR ⊢
  obtain ⟨b, t, N, br, ne⟩ := R
  obtain ⟨u1, e1, R1, G1, T1⟩ := g
  have e1 : f_R_readClaim 32 0 0 u0 = some (bI b, u1) := e1
  have R1 : RK u1 cs t := R1
  have x1 : tx u u1 := tx_tr x0 G1.1
  rw [ob_s e1]
  cases b
  · rw [if_pos (show bI false = 0 from rfl), bz0, gd_t]
    exact ⟨u1, rfl, x1, R1, fun h => (by cases h)⟩
  · rw [if_neg (show ¬ bI true = 0 by decide), ob_s (sR_mark R1)]
    cases t with
    | cons c q =>
      have hm : 32 ≤ c := by
        obtain ⟨h1, h2, k, h3, h4, h5⟩ := R1
        have hc : c ∈ toks cs := List.mem_of_mem_drop (by rw [h5]; exact List.mem_cons_self)
        unfold toks at hc
        obtain ⟨q', hq, rfl⟩ := List.mem_map.mp hc
        have key : ∀ (l : List Nat) (k : Nat), q' ∈ tkF k l → q'.1 ∈ l := by
          intro l
          induction l with
          | nil => intro k h; simp [tkF] at h
          | cons d l ih =>
            intro k h
            simp only [tkF] at h
            split at h
            · exact List.mem_cons_of_mem _ (ih _ h)
            · rcases List.mem_cons.mp h with z | z
              · rw [z]; exact List.mem_cons_self
              · exact List.mem_cons_of_mem _ (ih _ z)
        exact (h2.2 q'.1 (key cs 0 hq)).1
      have hh : c < 127 := RK_hd R1
      rw [show (c :: q).headD 0 = c from rfl, if_neg (nI_ne0 (by omega) (by omega)), bz0, gd_t]
      exact ⟨u1, rfl, x1, R1, fun h => (by cases h)⟩
    | nil =>
      rw [show nI (([] : List Nat).headD 0) = 0 from nI_0, if_pos (show (0 : Int32) = 0 from rfl)]
      obtain ⟨c1, b1, n1, T1⟩ := T1 rfl
      obtain ⟨o1, o2, o3, o4, o5, o6, o7⟩ := okR rfl
      have c1 : k_cn u1 = nI N.length := by
        rw [c1]; congr 1; show 0 + N.length = _; omega
      have T1 : TB u1 0 N := T1
      have o1 : one N := o1
      have o2 : N.length ≤ 20 := by have : 0 + N.length ≤ 20 := o2; omega
      have o3 : ∀ x ∈ N, nok x := o3
      have S1 : CS u1 N := by
        refine ⟨c1, o2, fun i x hx => ?_⟩
        obtain ⟨⟨a1, a2, a3, a4, a5, a6⟩, a7⟩ := T1 i x hx
        rw [Nat.zero_add] at a1 a2 a3 a4 a5 a6 a7
        exact ⟨a1, a2, a3, a4, a5, a7⟩
      obtain ⟨u2, e2, f2, g2⟩ := sC_findL o1 o3 N.length 4096 u1 (by omega) (Nat.le_refl _) S1 (fun i h1 h2 => by omega) (fun i x h1 hx => by
        obtain ⟨⟨a1, a2, a3, a4, a5, a6⟩, a7⟩ := T1 i x hx
        rw [Nat.zero_add] at a6
        exact a6)
      have e2' : f_C_findOpen u1 = some ((), u2) := by
        unfold f_C_findOpen
        rw [lt_q, c1, nI_zI, show (1 : Int32) = zI 1 from rfl, zI_sub]
        exact e2
      have V2 : CV u2 N := ⟨CS_fo S1 f2, g2⟩
      have x2 : tx u u2 := tx_tr x1 f2.1
      have R2 : RK u2 cs [] := RK_tx R1 f2.1 f2.2.2.2.2.2.2.2.2.1
      have n2 : k_ne u2 = bI ne := f2.2.2.2.2.2.2.2.2.2.2.1.trans n1
      have b2 : k_br u2 = nI br := f2.2.2.2.2.2.2.2.2.2.1.trans b1
      rw [ob_s e2', n2]
      have hop : f_C_isOpen 0 u2 = some (bI (an3 (fv N 0)), u2) := by
        have := sC_isOpen (i := 0) (m := N.length) o1.2.2 o2 V2.1.1 (g2 0 o1.2.2)
        rw [nI_0] at this
        exact this
      cases ne
      · rw [if_pos (show bI false = 0 from rfl), bz1, gd_t]
        exact ⟨u2, rfl, x2, R2, fun _ => ⟨V2, b2⟩⟩
      · rw [if_neg (show ¬ bI true = 0 by decide), ob_s hop]
        cases ha : an3 (fv N 0)
        · rw [if_pos (show bI false = 0 from rfl), bz1, gd_t]
          have hG : tkG (true, [], N, br, true) = true := by
            show (true && true && !(true && an3 (fv N 0))) = true
            rw [ha]; rfl
          rw [hG]
          exact ⟨u2, rfl, x2, R2, fun _ => ⟨V2, b2⟩⟩
        · rw [if_neg (show ¬ bI true = 0 by decide), bz0, gd_t]
          have hG : tkG (true, [], N, br, true) = false := by
            show (true && true && !(true && an3 (fv N 0))) = false
            rw [ha]; rfl
          rw [hG]
          exact ⟨u2, rfl, x2, R2, fun h => (by cases h)⟩
