theorem ne_l {c k : Nat} {x : Int32} (hx : x = nI k) (hc : c < 1000) (hk : k < 1000) (h : c ≠ k) : ¬ nI c = x := by
  subst hx
  rw [nI_eq (by omega) (by omega)]
  exact h
/-- what a part of a sum can come to -/
theorem sp_ind {bd : Nat → Bool} {sg : Int} {a : Ac} {P : Bool × List Nat × Ac → Prop} (ts : List Nat) (h0 : ∀ r : List Nat, r.length ≤ ts.length → P (false, r, a))
    (hn : ∀ (z : Int) (r : List Nat), 0 ≤ z → z ≤ 99 → r.length < ts.length → P (true, r, ac_n a (sg * z)))
    (hv : ∀ (v : Nat) (z : Int) (r : List Nat), v < 3 → (v = 0 ∨ bd v = true) → (z = 1 ∨ z = 2) → r.length < ts.length → P (true, r, ac_v a v (sg * z))) : P (sp_part bd sg a ts) := by
  cases ts with
  | nil => exact h0 [] (Nat.le_refl _)
  | cons c r =>
    cases hD : isD c
    · cases hV : isV c
      · rw [sp_x hD hV]
        exact h0 _ (Nat.le_refl _)
      · have hv3 := isV_lt hV
        rw [sp_v hD hV]
        by_cases hb : c = 120 ∨ bd (c - 120) = true
        · rw [if_pos hb]
          have g := hv (c - 120) 1 r (by omega) ((or120 hv3.1).mp hb) (Or.inl rfl) (by simp only [List.length_cons]; omega)
          rwa [Int.mul_one] at g
        · rw [if_neg hb]
          exact h0 _ (Nat.le_refl _)
    · have hd := isD_lt hD
      cases r with
      | nil =>
        rw [sp_d0 hD]
        exact hn _ _ (by omega) (by omega) (by simp only [List.length_cons]; omega)
      | cons d q =>
        cases hD2 : isD d
        · by_cases h12 : isV d = true ∧ (c = 49 ∨ c = 50)
          · have hv3 := isV_lt h12.1
            rw [sp_dv hD hD2 h12.1 h12.2]
            by_cases hb : d = 120 ∨ bd (d - 120) = true
            · rw [if_pos hb]
              exact hv (d - 120) ((c : Int) - 48) q (by omega) ((or120 hv3.1).mp hb) (by omega) (by simp only [List.length_cons]; omega)
            · rw [if_neg hb]
              exact h0 _ (by simp only [List.length_cons]; omega)
          · rw [sp_dn hD hD2 h12]
            exact hn _ _ (by omega) (by omega) (by simp only [List.length_cons]; omega)
        · have hd2 := isD_lt hD2
          rw [sp_dd hD hD2]
          exact hn _ _ (by omega) (by omega) (by simp only [List.length_cons]; omega)
theorem sp_part_len (bd : Nat → Bool) (sg : Int) (a : Ac) (ts : List Nat) : (sp_part bd sg a ts).2.1.length ≤ ts.length :=
  sp_ind (P := fun p => p.2.1.length ≤ ts.length) ts (fun _ h => h) (fun _ _ _ _ h => Nat.le_of_lt h) (fun _ _ _ _ _ _ h => Nat.le_of_lt h)
/-- bounds of a sum; what stands in it -/
def acI (bd : Nat → Bool) (K : Int) (a : Ac) : Prop := (∀ v, -K ≤ a.1 v ∧ a.1 v ≤ K) ∧ (-K ≤ a.2.1 ∧ a.2.1 ≤ K) ∧ (∀ v, a.1 v ≠ 0 → a.2.2 v = true) ∧ ∀ v, a.2.2 v = true → v < 3 ∧ (v = 0 ∨ bd v = true)
theorem acI_mono {bd : Nat → Bool} {K K' : Int} {a : Ac} (h : acI bd K a) (hK : K ≤ K') : acI bd K' a := by
  obtain ⟨h1, h2, h3, h4⟩ := h
  refine ⟨fun v => ?_, ?_, h3, h4⟩
  · have := h1 v
    omega
  · omega
theorem acI_n {bd : Nat → Bool} {K z : Int} {a : Ac} (h : acI bd K a) (z1 : -99 ≤ z) (z2 : z ≤ 99) : acI bd (K + 99) (ac_n a z) := by
  obtain ⟨h1, h2, h3, h4⟩ := h
  refine ⟨fun v => ?_, ?_, h3, h4⟩
  · have := h1 v
    show -(K + 99) ≤ a.1 v ∧ a.1 v ≤ K + 99
    omega
  · show -(K + 99) ≤ a.2.1 + z ∧ a.2.1 + z ≤ K + 99
    omega
theorem acI_v {bd : Nat → Bool} {K z : Int} {a : Ac} {v : Nat} (h : acI bd K a) (hv : v < 3) (hb : v = 0 ∨ bd v = true) (z1 : -99 ≤ z) (z2 : z ≤ 99) : acI bd (K + 99) (ac_v a v z) := by
  obtain ⟨h1, h2, h3, h4⟩ := h
  refine ⟨fun w => ?_, ?_, fun w => ?_, fun w => ?_⟩
  · show -(K + 99) ≤ (if w = v then a.1 w + z else a.1 w) ∧ (if w = v then a.1 w + z else a.1 w) ≤ K + 99
    have := h1 w
    by_cases e : w = v
    · rw [if_pos e]; omega
    · rw [if_neg e]; omega
  · show -(K + 99) ≤ a.2.1 ∧ a.2.1 ≤ K + 99
    omega
  · show (if w = v then a.1 w + z else a.1 w) ≠ 0 → (if w = v then true else a.2.2 w) = true
    by_cases e : w = v
    · rw [if_pos e, if_pos e]; exact fun _ => rfl
    · rw [if_neg e, if_neg e]; exact h3 w
  · show (if w = v then true else a.2.2 w) = true → w < 3 ∧ (w = 0 ∨ bd w = true)
    by_cases e : w = v
    · subst e
      exact fun _ => ⟨hv, hb⟩
    · rw [if_neg e]; exact h4 w
theorem sp_part_I {bd : Nat → Bool} {K sg : Int} {a : Ac} (hs : sg = 1 ∨ sg = -1) (h : acI bd K a) (ts : List Nat) : acI bd (K + 99) (sp_part bd sg a ts).2.2 :=
  sp_ind (P := fun p => acI bd (K + 99) p.2.2) ts (fun _ _ => acI_mono h (by omega))
    (fun z _ z1 z2 _ => acI_n h (by rcases hs with e | e <;> rw [e] <;> omega) (by rcases hs with e | e <;> rw [e] <;> omega))
    (fun v z _ hv hb hz _ => acI_v h hv hb (by rcases hs with e | e <;> rw [e] <;> omega) (by rcases hs with e | e <;> rw [e] <;> omega))
def sp_sumB (bd : Nat → Bool) (sd : Int) (f : Nat) (p : Bool × List Nat × Ac) : Bool × List Nat × Ac :=
  if p.1 = true then
    match p.2.1 with
    | [] => (true, [], p.2.2)
    | c :: q => if c = 43 then sp_sum bd sd f sd p.2.2 q else if c = 45 then sp_sum bd sd f (-sd) p.2.2 q else (true, c :: q, p.2.2)
  else p
theorem sp_sum_s (bd : Nat → Bool) (sd : Int) (f : Nat) (sg : Int) (a : Ac) (ts : List Nat) : sp_sum bd sd (f + 1) sg a ts = sp_sumB bd sd f (sp_part bd sg a ts) := rfl
section SB
variable {bd : Nat → Bool} {sd : Int} {f : Nat} {a : Ac} {c : Nat} {q : List Nat}
theorem sb_f (r : List Nat) : sp_sumB bd sd f (false, r, a) = (false, r, a) := rfl
theorem sb_n : sp_sumB bd sd f (true, [], a) = (true, [], a) := rfl
theorem sb_p : sp_sumB bd sd f (true, 43 :: q, a) = sp_sum bd sd f sd a q := rfl
theorem sb_m : sp_sumB bd sd f (true, 45 :: q, a) = sp_sum bd sd f (-sd) a q := rfl
theorem sb_o (h1 : c ≠ 43) (h2 : c ≠ 45) : sp_sumB bd sd f (true, c :: q, a) = (true, c :: q, a) := by
  show (if c = 43 then _ else if c = 45 then _ else _) = _
  rw [if_neg h1, if_neg h2]
end SB
theorem sp_sum_I {bd : Nat → Bool} {sd : Int} (hd : sd = 1 ∨ sd = -1) : ∀ (f : Nat) (K sg : Int) (a : Ac) (ts : List Nat), (sg = 1 ∨ sg = -1) → acI bd K a → acI bd (K + 99 * (f : Int)) (sp_sum bd sd f sg a ts).2.2 := by
  intro f
  induction f with
  | zero => intro K sg a ts _ h; exact acI_mono h (by omega)
  | succ f ih =>
    intro K sg a ts hs h
    have g := sp_part_I hs h ts
    rw [sp_sum_s]
    generalize sp_part bd sg a ts = p at g ⊢
    obtain ⟨b, rest, a1⟩ := p
    have g : acI bd (K + 99) a1 := g
    cases b
    · rw [sb_f]
      exact acI_mono g (by omega)
    · cases rest with
      | nil =>
        rw [sb_n]
        exact acI_mono g (by omega)
      | cons c q =>
        by_cases h43 : c = 43
        · subst h43
          rw [sb_p]
          exact acI_mono (ih (K + 99) sd a1 q hd g) (by omega)
        · by_cases h45 : c = 45
          · subst h45
            rw [sb_m]
            exact acI_mono (ih (K + 99) (-sd) a1 q (by omega) g) (by omega)
          · rw [sb_o h43 h45]
            exact acI_mono g (by omega)
theorem sp_sums_c {bd : Nat → Bool} {sd : Int} {a : Ac} {c : Nat} {q : List Nat} (h : c ≠ 45) : sp_sums bd sd a (c :: q) = sp_sum bd sd 130 sd a (c :: q) := by
  show (if c = 45 then _ else _) = _
  rw [if_neg h]
theorem sp_sums_m {bd : Nat → Bool} {sd : Int} {a : Ac} {q : List Nat} : sp_sums bd sd a (45 :: q) = sp_sum bd sd 130 (-sd) a q := rfl
theorem sp_sums_0 {bd : Nat → Bool} {sd : Int} {a : Ac} : sp_sums bd sd a [] = sp_sum bd sd 130 sd a [] := rfl
theorem sp_sums_I {bd : Nat → Bool} {K sd : Int} {a : Ac} (hd : sd = 1 ∨ sd = -1) (h : acI bd K a) (ts : List Nat) : acI bd (K + 12870) (sp_sums bd sd a ts).2.2 := by
  cases ts with
  | nil =>
    rw [sp_sums_0]
    exact acI_mono (sp_sum_I hd 130 K sd a [] hd h) (by omega)
  | cons c q =>
    by_cases h45 : c = 45
    · subst h45
      rw [sp_sums_m]
      exact acI_mono (sp_sum_I hd 130 K (-sd) a q (by omega) h) (by omega)
    · rw [sp_sums_c h45]
      exact acI_mono (sp_sum_I hd 130 K sd a (c :: q) hd h) (by omega)
theorem PK_up {u u1 : KS} {cs : List Nat} {s : Nat} {p : Bool × List Nat × Ac} {o : Option (Int32 × KS)} (F : fr s u u1) (h : PK u1 cs s p o) : PK u cs s p o := by
  obtain ⟨w, a1, a2, a3, a4⟩ := h
  exact ⟨w, a1, a2, a3, fr_tr F a4⟩
theorem sR_sumL {cs : List Nat} {bd : Nat → Bool} {sd : Int} {s m : Nat} (hs : s < m) (hm : m ≤ 20) : ∀ (n k f : Nat) (ts : List Nat) (sg : Int) (a : Ac) (u : KS), ts.length < n → k + ts.length ≤ 120 → ts.length < f → RK u cs ts → k_cn u = nI m → AK u s a → PK u cs s (sp_sum bd sd f sg a ts) (f_R_readSum_L29 n (nI s) (opm bd) (zI sd) (zI sg) (nI k) u) := by
  intro n
  induction n with
  | zero => intro k f ts sg a u h; omega
  | succ n ih =>
    intro k f ts sg a u hn hk hf hR hc hA
    obtain ⟨f, rfl⟩ : ∃ g, f = g + 1 := ⟨f - 1, by omega⟩
    rw [q_R_readSum_L29, show (120 : Int32) = nI 120 from rfl]
    by_cases h120 : 120 ≤ k
    · rw [if_pos (nI_le h120 (by omega)), bz0, gd_t]
      have : ts = [] := by
        cases ts with
        | nil => rfl
        | cons c r => simp only [List.length_cons] at hk; omega
      subst this
      exact ⟨u, rfl, hR, fun h => (by cases h), fr_rf s u⟩
    · rw [if_neg (nI_ge (by omega) (by omega))]
      obtain ⟨u1, e1, R1, A1, F1⟩ := sR_part (bd := bd) (sg := sg) hR hs hm hc hA
      have hl := sp_part_len bd sg a ts
      have hc1 : k_cn u1 = nI m := F1.2.2.2.2.2.1.trans hc
      rw [ob_s e1, sp_sum_s]
      generalize sp_part bd sg a ts = p at e1 R1 A1 hl ⊢
      obtain ⟨b, rest, a1⟩ := p
      dsimp only at R1 A1 hl ⊢
      cases b
      · rw [if_pos (show bI false = 0 from rfl), bz0, gd_t, sb_f]
        exact ⟨u1, rfl, R1, fun h => (by cases h), F1⟩
      · rw [if_neg (show ¬ bI true = 0 by decide), ob_s (sR_mark R1)]
        cases rest with
        | nil =>
          rw [if_neg (show ¬ nI (([] : List Nat).headD 0) = 43 by decide), if_neg (show ¬ nI (([] : List Nat).headD 0) = 45 by decide), bz1, gd_t, sb_n]
          exact ⟨u1, rfl, R1, fun _ => A1 rfl, F1⟩
        | cons c q =>
          have hh : c < 127 := RK_hd R1
          rw [show (c :: q).headD 0 = c from rfl]
          have hq : q.length < ts.length := by
            simp only [List.length_cons] at hl
            omega
          by_cases h43 : c = 43
          · subst h43
            rw [if_pos (show nI 43 = 43 from rfl), sb_p]
            unfold f_R_readSum_J71
            rw [if_pos (show nI 43 = 43 from rfl)]
            unfold f_R_readSum_J84
            rw [lt_q, lt_q, nI_1]
            exact PK_up (fr_tr F1 (fr_at s _ _)) (ih (k + 1) f q sd a1 _ (by omega) (by omega) (by omega) (RK_next R1) hc1 (A1 rfl))
          · rw [if_neg (ne_l (x := 43) (k := 43) rfl (by omega) (by omega) h43)]
            by_cases h45 : c = 45
            · subst h45
              rw [if_pos (show nI 45 = 45 from rfl), sb_m]
              unfold f_R_readSum_J71
              rw [if_neg (show ¬ nI 45 = 43 by decide)]
              unfold f_R_readSum_J84
              rw [lt_q, lt_q, nI_1, zI_neg]
              exact PK_up (fr_tr F1 (fr_at s _ _)) (ih (k + 1) f q (-sd) a1 _ (by omega) (by omega) (by omega) (RK_next R1) hc1 (A1 rfl))
            · rw [if_neg (ne_l (x := 45) (k := 45) rfl (by omega) (by omega) h45), bz1, gd_t, sb_o h43 h45]
              exact ⟨u1, rfl, R1, fun _ => A1 rfl, F1⟩
theorem RK_len {u : KS} {cs ts : List Nat} (h : RK u cs ts) : ts.length ≤ 120 := by
  obtain ⟨h1, h2, k, h3, h4, h5⟩ := h
  have := tkF_len cs 0
  have := h2.1
  rw [← h5, List.length_drop, toks_len]
  omega
theorem sR_sum {u : KS} {cs ts : List Nat} {s m : Nat} {a : Ac} {bd : Nat → Bool} {sd : Int} (hR : RK u cs ts) (hs : s < m) (hm : m ≤ 20) (hc : k_cn u = nI m) (hA : AK u s a) : PK u cs s (sp_sums bd sd a ts) (f_R_readSum (nI s) (opm bd) (zI sd) u) := by
  have hl := RK_len hR
  unfold f_R_readSum
  rw [ob_s (sR_mark hR)]
  cases ts with
  | nil =>
    rw [if_neg (show ¬ nI (([] : List Nat).headD 0) = 45 by decide), sp_sums_0]
    have g := sR_sumL (bd := bd) (sd := sd) hs hm 4096 0 130 [] sd a u (by simp) (by simp) (by simp) hR hc hA
    rw [nI_0] at g
    exact g
  | cons c q =>
    have hh : c < 127 := RK_hd hR
    simp only [List.length_cons] at hl
    rw [show (c :: q).headD 0 = c from rfl]
    by_cases h45 : c = 45
    · subst h45
      rw [if_pos (show nI 45 = 45 from rfl), lt_q, lt_q, zI_neg, sp_sums_m]
      have g := sR_sumL (bd := bd) (sd := sd) hs hm 4096 0 130 q (-sd) a _ (by omega) (by omega) (by omega) (RK_next hR) hc hA
      rw [nI_0] at g
      exact PK_up (fr_at s _ _) g
    · rw [if_neg (ne_l (x := 45) (k := 45) rfl (by omega) (by omega) h45), sp_sums_c h45]
      have g := sR_sumL (bd := bd) (sd := sd) hs hm 4096 0 130 (c :: q) sd a u (by simp only [List.length_cons]; omega) (by simp only [List.length_cons]; omega) (by simp only [List.length_cons]; omega) hR hc hA
      rw [nI_0] at g
      exact g
