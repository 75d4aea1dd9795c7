/-- all but the values stays -/
def vf (a b : KS) : Prop := tx a b ∧ k_kd b = k_kd a ∧ k_sc b = k_sc a ∧ k_vr b = k_vr a ∧ k_dv b = k_dv a ∧ k_nu b = k_nu a ∧ k_fa b = k_fa a ∧ k_op b = k_op a ∧ k_cn b = k_cn a ∧ k_at b = k_at a ∧ k_br b = k_br a ∧ k_ne b = k_ne a
theorem vf_rf (a : KS) : vf a a := ⟨tx_rf a, rfl, rfl, rfl, rfl, rfl, rfl, rfl, rfl, rfl, rfl, rfl⟩
theorem vf_va (x : Nat → Int32) (a : KS) : vf a (k_p_va x a) := ⟨⟨rfl, rfl, rfl, rfl, rfl, rfl⟩, rfl, rfl, rfl, rfl, rfl, rfl, rfl, rfl, rfl, rfl, rfl⟩
theorem vf_tr {a b c : KS} (h : vf a b) (g : vf b c) : vf a c := by
  obtain ⟨h0, h1, h2, h3, h4, h5, h6, h7, h8, h9, h10, h11⟩ := h
  obtain ⟨g0, g1, g2, g3, g4, g5, g6, g7, g8, g9, g10, g11⟩ := g
  exact ⟨tx_tr h0 g0, g1.trans h1, g2.trans h2, g3.trans h3, g4.trans h4, g5.trans h5, g6.trans h6, g7.trans h7, g8.trans h8, g9.trans h9, g10.trans h10, g11.trans h11⟩
theorem CV_vf {a b : KS} {N : List Nd} (h : CV a N) (g : vf a b) : CV b N := by
  obtain ⟨g0, g1, g2, g3, g4, g5, g6, g7, g8, g9, g10, g11⟩ := g
  obtain ⟨⟨h1, h2, h3⟩, h4⟩ := h
  refine ⟨⟨g8.trans h1, h2, fun i x hx => ?_⟩, fun i hi => ?_⟩
  · rw [g1, g2, g3, g4, g5, g6]
    exact h3 i x hx
  · rw [g7]
    exact h4 i hi
theorem sC_fac {u : KS} {N : List Nd} {i o : Nat} {x : Nd} (h : CS u N) (hx : N[i]? = some x) (ho : o < 3) : f_C_factorOf (nI i) (nI o) u = some (zI (n_c x o), u) := by
  have hi := (List.getElem?_eq_some_iff.mp hx).1
  have h2 := h.2.1
  unfold f_C_factorOf
  rw [lt_q, n3, if_neg (nI_pos (by omega)), if_neg (show ¬ (60 : Int32) ≤ nI (i * 3 + o) from nI_ge (b := 60) (by omega) (by omega)), gd_s (inb_nI (by omega) (by omega)), nI_clamp (by omega), (h.2.2 i x hx).2.2.2.2.1 o ho]
theorem sC_sumS {u : KS} {N : List Nd} {i o v n : Nat} {x : Nd} {e : Ev} {st acc : Int} (h : CS u N) (hx : N[i]? = some x) (ho : o < 3) (hv : v < 3) (he : v ≠ o → n_c x v ≠ 0 → k_va u v = zI (e v)) :
    f_C_sumAt_L11 (n + 1) (nI i) (nI o) (zI st) (zI acc) (nI v) u = f_C_sumAt_L11 n (nI i) (nI o) (zI st) (zI (acc + n_c x v * ev1 o st e v)) (nI (v + 1)) u := by
  have hi := (List.getElem?_eq_some_iff.mp hx).1
  have h2 := h.2.1
  have hfa := (h.2.2 i x hx).2.2.2.2.1 v hv
  have key : ∀ t : Int, (n_c x v ≠ 0 → t = ev1 o st e v) → f_C_sumAt_J34 (f_C_sumAt_L11 n) (nI i) (nI o) (zI st) (zI acc) (nI v) (zI t) u = f_C_sumAt_L11 n (nI i) (nI o) (zI st) (zI (acc + n_c x v * ev1 o st e v)) (nI (v + 1)) u := by
    intro t ht
    unfold f_C_sumAt_J34
    rw [n3, gd_s (inb_nI (by omega) (by omega)), nI_clamp (by omega), hfa, zI_mul, zI_add, lt_q, lt_q, nI_1]
    by_cases h0 : n_c x v = 0
    · rw [h0, Int.zero_mul, Int.zero_mul]
    · rw [ht h0]
  rw [q_C_sumAt_L11, if_neg (show ¬ (3 : Int32) ≤ nI v from nI_ge (b := 3) hv (by omega))]
  by_cases hvo : v = o
  · rw [if_pos (show nI v = nI o by rw [hvo])]
    exact key st (fun _ => by rw [hvo, ev1_s])
  · rw [if_neg (show ¬ nI v = nI o by rw [nI_eq (by omega) (by omega)]; exact hvo), gd_s (inb_nI (by omega) (by omega)), nI_clamp (by omega)]
    by_cases h0 : n_c x v = 0
    · rw [zI_of (k_va u v)]
      exact key _ (fun h => absurd h0 h)
    · rw [he hvo h0]
      exact key _ (fun _ => (ev1_n hvo _ _).symm)
theorem sC_sum {u : KS} {N : List Nd} {i o : Nat} {x : Nd} {e : Ev} {st : Int} (h : CS u N) (hx : N[i]? = some x) (ho : o < 3) (he : ∀ v, v < 3 → v ≠ o → n_c x v ≠ 0 → k_va u v = zI (e v)) :
    f_C_sumAt (nI i) (nI o) (zI st) u = some (zI (n_v x (ev1 o st e)), u) := by
  have hi := (List.getElem?_eq_some_iff.mp hx).1
  have h2 := h.2.1
  have g : f_C_sumAt_L11 4096 (nI i) (nI o) (zI st) (zI (n_n x)) (nI 0) u = some (zI (n_v x (ev1 o st e)), u) := by
    rw [show (4096 : Nat) = 4092 + 1 + 1 + 1 + 1 from rfl, sC_sumS h hx ho (by omega) (he 0 (by omega)), sC_sumS h hx ho (by omega) (he (0 + 1) (by omega)), sC_sumS h hx ho (by omega) (he (0 + 1 + 1) (by omega)), q_C_sumAt_L11, if_pos (show (3 : Int32) ≤ nI (0 + 1 + 1 + 1) by decide)]
    unfold n_v
    congr 3
    show n_n x + n_c x 0 * ev1 o st e 0 + n_c x 1 * ev1 o st e 1 + n_c x 2 * ev1 o st e 2 = n_c x 0 * ev1 o st e 0 + n_c x 1 * ev1 o st e 1 + n_c x 2 * ev1 o st e 2 + n_n x
    omega
  rw [nI_0] at g
  unfold f_C_sumAt
  rw [gd_s (inb_nI (by omega) (by omega)), nI_clamp (by omega), (h.2.2 i x hx).2.2.2.1, lt_q]
  exact g
theorem n_v_lin {x : Nd} {o : Nat} (ho : o < 3) (s b : Int) (e : Ev) : n_v x (ev1 o (s + b) e) = n_v x (ev1 o s e) + n_c x o * b := by
  unfold n_v
  rcases (show o = 0 ∨ o = 1 ∨ o = 2 by omega) with z | z | z
  · subst z
    rw [ev1_s, ev1_s, ev1_n (show 1 ≠ 0 by omega), ev1_n (show 2 ≠ 0 by omega), ev1_n (show 1 ≠ 0 by omega), ev1_n (show 2 ≠ 0 by omega), Int.mul_add]
    omega
  · subst z
    rw [ev1_s, ev1_s, ev1_n (show 0 ≠ 1 by omega), ev1_n (show 2 ≠ 1 by omega), ev1_n (show 0 ≠ 1 by omega), ev1_n (show 2 ≠ 1 by omega), Int.mul_add]
    omega
  · subst z
    rw [ev1_s, ev1_s, ev1_n (show 0 ≠ 2 by omega), ev1_n (show 1 ≠ 2 by omega), ev1_n (show 0 ≠ 2 by omega), ev1_n (show 1 ≠ 2 by omega), Int.mul_add]
    omega
theorem sm2_bd {c z B : Int} (hc : sm2 c) (h : c ≠ 0 → -B ≤ z ∧ z ≤ B) (hB : 0 ≤ B) : -(2 * B) ≤ c * z ∧ c * z ≤ 2 * B := by
  by_cases h0 : c = 0
  · subst h0
    rw [Int.zero_mul]; omega
  · have := h h0
    unfold sm2 at hc
    rcases hc with e | e | e | e | e <;> subst e <;> omega
theorem n_v_bd {x : Nd} (hb : brk x) {e : Ev} {B : Int} (hB : 0 ≤ B) (h : ∀ v, v < 3 → n_c x v ≠ 0 → -B ≤ e v ∧ e v ≤ B) : -(6 * B + 15) ≤ n_v x e ∧ n_v x e ≤ 6 * B + 15 := by
  have h0 := sm2_bd (hb.2.2.1 0 (by omega)) (h 0 (by omega)) hB
  have h1 := sm2_bd (hb.2.2.1 1 (by omega)) (h 1 (by omega)) hB
  have h2 := sm2_bd (hb.2.2.1 2 (by omega)) (h 2 (by omega)) hB
  have h3 := hb.2.2.2
  unfold n_v
  omega
/-- what a method gives of words, over the states S -/
def WD (S : KS → Prop) (g : KS → Option (Int64 × KS)) (A : Nat → Prop) : Prop := ∀ u, S u → ∃ w u', g u = some (w, u') ∧ S u' ∧ ∀ b, b < 64 → (bit w b = true ↔ A b)
theorem WD_c {S : KS → Prop} {g : KS → Option (Int64 × KS)} {A B : Nat → Prop} (h : WD S g A) (e : ∀ b, b < 64 → (A b ↔ B b)) : WD S g B := by
  intro u hu
  obtain ⟨w, u', a, b, c⟩ := h u hu
  exact ⟨w, u', a, b, fun i hi => (c i hi).trans (e i hi)⟩
section WDs
variable {S : KS → Prop} {wo : Int32 → Int32 → Int32 → KS → Option (Int64 × KS)} {N : List Nd} {i o : Nat} {x : Nd} {st : Int} {A B : Nat → Prop}
theorem wd_not (hS : ∀ w, S w → CS w N) (hx : N[i]? = some x) (hk : n_k x = 33) (h : WD S (wo (nI (i + 1)) (nI o) (zI st)) A) : WD S (f_C_word1 wo (nI i) (nI o) (zI st)) (fun b => ¬ A b) := by
  intro u hu
  obtain ⟨w, u', e, hu', hw⟩ := h u hu
  have hi := (List.getElem?_eq_some_iff.mp hx).1
  obtain ⟨s1, s2, s3⟩ := hS u hu
  unfold f_C_word1
  rw [ob_s (sC_has hi s2 s1), if_neg (show ¬ (1 : Int32) = 0 by decide), gd_s (inb_nI (by omega) (by omega)), nI_clamp (by omega), (s3 i x hx).1, hk, if_pos (show nI 33 = 33 from rfl), nI_1, ob_s e]
  refine ⟨_, u', rfl, hu', fun b hb => ?_⟩
  rw [bit_n w hb, Bool.not_eq_true', ← Bool.not_eq_true, hw b hb]
def g_jn (k : Nat) (a b : Prop) : Prop := if k = 38 then a ∧ b else if k = 47 then a ∨ b else (a → b)
theorem wd_pr (hS : ∀ w, S w → CS w N) (hx : N[i]? = some x) (hk : k_pr (n_k x) = true) (h1 : WD S (wo (nI (i + 1)) (nI o) (zI st)) A) (h2 : WD S (wo (nI (i + 1 + ln N (i + 1))) (nI o) (zI st)) B) : WD S (f_C_word1 wo (nI i) (nI o) (zI st)) (fun b => g_jn (n_k x) (A b) (B b)) := by
  have hi := (List.getElem?_eq_some_iff.mp hx).1
  have hP : WD S (f_C_pairWord wo (nI i) (nI o) (zI st)) (fun b => g_jn (n_k x) (A b) (B b)) := by
    intro u hu
    obtain ⟨w1, u1, e1, hu1, b1⟩ := h1 u hu
    obtain ⟨w2, u2, e2, hu2, b2⟩ := h2 u1 hu1
    obtain ⟨s1, s2, s3⟩ := hS u1 hu1
    obtain ⟨t1, t2, t3, t4, t5, t6⟩ := s3 i x hx
    unfold f_C_pairWord
    rw [nI_1, ob_s e1, gd_s (inb_nI (by omega) (by omega)), nI_clamp (by omega), t1]
    rcases kp_or hk with e | e | e
    · rw [e, if_neg (show ¬ nI 38 = 47 by decide), gd_s (inb_nI (by omega) (by omega)), if_neg (show ¬ nI 38 = 62 by decide)]
      by_cases hw : w1 = 0
      · rw [if_pos (lg_cmp0.mpr hw)]
        refine ⟨_, u1, rfl, hu1, fun b hb => ?_⟩
        show bit w1 b = true ↔ A b ∧ B b
        rw [← b1 b hb, hw, bit_0 hb]
        constructor
        · intro h; cases h
        · intro h; cases h.1
      · rw [if_neg (fun h => hw (lg_cmp0.mp h)), gd_s (inb_nI (by omega) (by omega)), t6 hk, ob_s e2]
        refine ⟨_, u2, rfl, hu2, fun b hb => ?_⟩
        show _ ↔ A b ∧ B b
        rw [bit_a, Bool.and_eq_true, b1 b hb, b2 b hb]
    · rw [e, if_pos (show nI 47 = 47 from rfl)]
      by_cases hw : w1 = -1
      · rw [if_pos (lg_cmp0.mpr hw)]
        refine ⟨_, u1, rfl, hu1, fun b hb => ?_⟩
        show bit w1 b = true ↔ A b ∨ B b
        have hA : A b := (b1 b hb).mp (by rw [hw]; exact bit_m1 hb)
        rw [hw, bit_m1 hb]
        exact ⟨fun _ => Or.inl hA, fun _ => rfl⟩
      · rw [if_neg (fun h => hw (lg_cmp0.mp h)), gd_s (inb_nI (by omega) (by omega)), t6 hk, ob_s e2]
        refine ⟨_, u2, rfl, hu2, fun b hb => ?_⟩
        show _ ↔ A b ∨ B b
        rw [bit_o, Bool.or_eq_true, b1 b hb, b2 b hb]
    · rw [e, if_neg (show ¬ nI 62 = 47 by decide), gd_s (inb_nI (by omega) (by omega)), if_pos (show nI 62 = 62 from rfl)]
      by_cases hw : w1 = 0
      · rw [if_pos (lg_cmp0.mpr hw)]
        refine ⟨_, u1, rfl, hu1, fun b hb => ?_⟩
        show bit (-1) b = true ↔ (A b → B b)
        rw [bit_m1 hb, ← b1 b hb, hw, bit_0 hb]
        exact ⟨fun _ h => (by cases h), fun _ => rfl⟩
      · rw [if_neg (fun h => hw (lg_cmp0.mp h)), gd_s (inb_nI (by omega) (by omega)), t6 hk, ob_s e2]
        refine ⟨_, u2, rfl, hu2, fun b hb => ?_⟩
        show _ ↔ (A b → B b)
        rw [bit_o, Bool.or_eq_true, bit_n w1 hb, Bool.not_eq_true', ← Bool.not_eq_true, b1 b hb, b2 b hb]
        constructor
        · rintro (h | h) hA
          · exact absurd hA h
          · exact h
        · intro h
          by_cases hA : A b
          · exact Or.inr (h hA)
          · exact Or.inl hA
  intro u hu
  obtain ⟨w, u', e', hu', hw⟩ := hP u hu
  obtain ⟨s1, s2, s3⟩ := hS u hu
  unfold f_C_word1
  rw [ob_s (sC_has hi s2 s1), if_neg (show ¬ (1 : Int32) = 0 by decide), gd_s (inb_nI (by omega) (by omega)), nI_clamp (by omega), (s3 i x hx).1]
  have eJ : f_C_word1_J106 wo (nI i) (nI o) (zI st) u = some (w, u') := by
    unfold f_C_word1_J106
    rw [ob_s e']
  have fin : ∃ w u', f_C_word1_J106 wo (nI i) (nI o) (zI st) u = some (w, u') ∧ S u' ∧ ∀ b, b < 64 → (bit w b = true ↔ g_jn (n_k x) (A b) (B b)) := ⟨w, u', eJ, hu', hw⟩
  rcases kp_or hk with e | e | e
  · rw [show nI (n_k x) = nI 38 by rw [e], if_neg (show ¬ nI 38 = 33 by decide), if_pos (show nI 38 = 38 from rfl)]
    exact fin
  · rw [show nI (n_k x) = nI 47 by rw [e], if_neg (show ¬ nI 47 = 33 by decide), if_neg (show ¬ nI 47 = 38 by decide), if_pos (show nI 47 = 47 from rfl)]
    exact fin
  · rw [show nI (n_k x) = nI 62 by rw [e], if_neg (show ¬ nI 62 = 33 by decide), if_neg (show ¬ nI 62 = 38 by decide), if_neg (show ¬ nI 62 = 47 by decide), if_neg (show ¬ nI 62 = 60 by decide), if_neg (show ¬ nI 62 = 61 by decide), if_pos (show nI 62 = 62 from rfl)]
    exact fin
theorem wd_br (hS : ∀ w, S w → CS w N) (hx : N[i]? = some x) (hb : brk x) (ho : o < 3) {e : Ev} (h1 : -1000 ≤ st) (h2 : st ≤ 1000) (he : ∀ w, S w → ∀ v, v < 3 → v ≠ o → n_c x v ≠ 0 → k_va w v = zI (e v) ∧ -1000 ≤ e v ∧ e v ≤ 1000) : WD S (f_C_word1 wo (nI i) (nI o) (zI st)) (fun b => n_h x (ev1 o (st + b) e)) := by
  intro u hu
  have hi := (List.getElem?_eq_some_iff.mp hx).1
  have hS' := hS u hu
  obtain ⟨s1, s2, s3⟩ := hS'
  obtain ⟨t1, t2, t3, t4, t5, t6⟩ := s3 i x hx
  have es := sC_sum (st := st) (hS u hu) hx ho (fun v h3 h4 h5 => (he u hu v h3 h4 h5).1)
  have ef := sC_fac (hS u hu) hx ho
  have bd := n_v_bd hb (e := ev1 o st e) (B := 1000) (by omega) (fun v h3 h5 => by
    by_cases hv : v = o
    · rw [hv, ev1_s]; omega
    · rw [ev1_n hv]; exact (he u hu v h3 hv h5).2)
  have lin : ∀ b : Nat, n_v x (ev1 o (st + b) e) = n_v x (ev1 o st e) + n_c x o * b := fun b => n_v_lin ho st b e
  have hf := hb.2.2.1 o ho
  unfold f_C_word1
  rw [ob_s (sC_has hi s2 s1), if_neg (show ¬ (1 : Int32) = 0 by decide), gd_s (inb_nI (by omega) (by omega)), nI_clamp (by omega), t1]
  generalize n_v x (ev1 o st e) = s at es bd lin
  rcases hb.1 with k | k | k
  · rw [show nI (n_k x) = nI 60 by rw [k], if_neg (show ¬ nI 60 = 33 by decide), if_neg (show ¬ nI 60 = 38 by decide), if_neg (show ¬ nI 60 = 47 by decide), if_pos (show nI 60 = 60 from rfl), ob_s ef, ob_s es]
    obtain ⟨w, ew, hw⟩ := sC_below hf (s := s) (by omega) (by omega) u
    rw [ob_s ew]
    refine ⟨w, u, rfl, hu, fun b hb => ?_⟩
    rw [hw b hb]
    show _ ↔ n_h x (ev1 o (st + (b : Int)) e)
    unfold n_h ln_h
    rw [if_pos k, lin]
  · rw [show nI (n_k x) = nI 61 by rw [k], if_neg (show ¬ nI 61 = 33 by decide), if_neg (show ¬ nI 61 = 38 by decide), if_neg (show ¬ nI 61 = 47 by decide), if_neg (show ¬ nI 61 = 60 by decide), if_pos (show nI 61 = 61 from rfl), ob_s ef, ob_s es]
    obtain ⟨w, ew, hw⟩ := sC_equal hf (s := s) (by omega) (by omega) u
    rw [ob_s ew]
    refine ⟨w, u, rfl, hu, fun b hb => ?_⟩
    rw [hw b hb]
    show _ ↔ n_h x (ev1 o (st + (b : Int)) e)
    unfold n_h ln_h
    rw [if_neg (show ¬ n_k x = 60 by omega), if_pos k, lin]
  · rw [show nI (n_k x) = nI 58 by rw [k], if_neg (show ¬ nI 58 = 33 by decide), if_neg (show ¬ nI 58 = 38 by decide), if_neg (show ¬ nI 58 = 47 by decide), if_neg (show ¬ nI 58 = 60 by decide), if_neg (show ¬ nI 58 = 61 by decide), if_neg (show ¬ nI 58 = 62 by decide), if_neg (show ¬ nI 58 = 65 by decide), if_neg (show ¬ nI 58 = 69 by decide), gd_s (inb_nI (by omega) (by omega)), t3 k, ob_s ef, ob_s es]
    obtain ⟨w, ew, hw⟩ := sC_div (hb.2.1 k) hf (s := s) (by omega) (by omega) u
    rw [ob_s ew]
    refine ⟨w, u, rfl, hu, fun b hb => ?_⟩
    rw [hw b hb]
    show _ ↔ n_h x (ev1 o (st + (b : Int)) e)
    unfold n_h ln_h
    rw [if_neg (show ¬ n_k x = 60 by omega), if_neg (show ¬ n_k x = 61 by omega), lin]
end WDs
