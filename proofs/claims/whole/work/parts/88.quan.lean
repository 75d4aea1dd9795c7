/-- all or one of the numbers a .. b - 1 -/
def rg (fa : Bool) (a b : Int) (φ : Int → Prop) : Prop := if fa = true then ∀ v, a ≤ v → v < b → φ v else ∃ v, a ≤ v ∧ v < b ∧ φ v
section IS
variable {S : KS → Prop} {wo : Int32 → Int32 → Int32 → KS → Option (Int64 × KS)} {N : List Nd} {i : Nat} {x : Nd} {first : Int} {words : Nat} {φ : Int → Prop}
theorem sC_isSoL (hS : ∀ w, S w → CS w N) (hx : N[i]? = some x) (hq : k_qu (n_k x) = true) (hw : words ≤ 10) (fa : Bool) (h : ∀ k : Nat, k < words → WD S (wo (nI (i + 1)) (nI (n_a x)) (zI (first + (k : Int) * 64))) (fun b => φ (first + (k : Int) * 64 + b))) :
    ∀ (n k : Nat) (u : KS), words - k < n → k ≤ words → S u → ∃ r u', f_C_isSo_L35 wo n (nI i) (zI first) (nI words) (bI fa) (if fa = true then -1 else 0) (nI k) u = some (bI r, u') ∧ S u' ∧ (r = true ↔ rg fa (first + (k : Int) * 64) (first + (words : Int) * 64) φ) := by
  intro n
  induction n with
  | zero => intro k u h; omega
  | succ n ih =>
    intro k u hn hk hu
    have hi := (List.getElem?_eq_some_iff.mp hx).1
    obtain ⟨s1, s2, s3⟩ := hS u hu
    rw [q_C_isSo_L35]
    by_cases hkw : words ≤ k
    · rw [if_pos (nI_le hkw (by omega)), bz_bI, gd_t]
      refine ⟨fa, u, rfl, hu, ?_⟩
      unfold rg
      cases fa
      · rw [if_neg ff_tt]
        constructor
        · intro h; cases h
        · rintro ⟨v, a, b, c⟩; omega
      · rw [if_pos rfl]
        exact ⟨fun _ v a b => by omega, fun _ => rfl⟩
    · obtain ⟨w, u1, e1, hu1, b1⟩ := h k (by omega) u hu
      have ea : zI first + nI k * 64 = zI (first + (k : Int) * 64) := by
        rw [nI_zI, show (64 : Int32) = zI 64 from rfl, zI_mul, zI_add]
      rw [if_neg (nI_ge (by omega) (by omega)), gd_s (inb_nI (by omega) (by omega)), nI_clamp (by omega), (s3 i x hx).2.1 hq, nI_1, ea, ob_s e1]
      have blk : ∀ v : Int, first + (k : Int) * 64 ≤ v → v < first + ((k + 1 : Nat) : Int) * 64 → ∃ b : Nat, b < 64 ∧ v = first + (k : Int) * 64 + b := fun v a b => ⟨(v - (first + (k : Int) * 64)).toNat, by omega, by omega⟩
      cases fa
      · rw [if_neg ff_tt]
        by_cases h0 : w = 0
        · rw [if_pos (lg_cmp0.mpr h0), lt_q, nI_1]
          obtain ⟨r, u2, e2, hu2, hr⟩ := ih (k + 1) u1 (by omega) (by omega) hu1
          rw [if_neg ff_tt] at e2
          refine ⟨r, u2, e2, hu2, hr.trans ?_⟩
          unfold rg
          rw [if_neg ff_tt, if_neg ff_tt]
          constructor
          · rintro ⟨v, a, b, c⟩
            exact ⟨v, by omega, b, c⟩
          · rintro ⟨v, a, b, c⟩
            rcases Int.lt_or_le v (first + ((k + 1 : Nat) : Int) * 64) with z | z
            · obtain ⟨d, hd, e⟩ := blk v a z
              subst e
              have := (b1 d hd).mpr c
              rw [h0, bit_0 hd] at this
              cases this
            · exact ⟨v, z, b, c⟩
        · rw [if_neg (fun z => h0 (lg_cmp0.mp z)), if_pos (show bI false = 0 from rfl), bz1, gd_t]
          refine ⟨true, u1, rfl, hu1, ?_⟩
          unfold rg
          rw [if_neg ff_tt]
          refine ⟨fun _ => ?_, fun _ => rfl⟩
          by_cases hall : ∀ d, d < 64 → bit w d = false
          · exact absurd ((w_zero w).mpr hall) h0
          · obtain ⟨d, hd⟩ := Classical.not_forall.mp hall
            obtain ⟨hd, hb⟩ := Classical.not_imp.mp hd
            have hb : bit w d = true := by simpa using hb
            exact ⟨first + (k : Int) * 64 + d, by omega, by omega, (b1 d hd).mp hb⟩
      · rw [if_pos (show true = true from rfl)]
        by_cases h0 : w = -1
        · rw [if_pos (lg_cmp0.mpr h0), lt_q, nI_1]
          obtain ⟨r, u2, e2, hu2, hr⟩ := ih (k + 1) u1 (by omega) (by omega) hu1
          rw [if_pos (show true = true from rfl)] at e2
          refine ⟨r, u2, e2, hu2, hr.trans ?_⟩
          unfold rg
          rw [if_pos (show true = true from rfl), if_pos (show true = true from rfl)]
          constructor
          · intro H v a b
            rcases Int.lt_or_le v (first + ((k + 1 : Nat) : Int) * 64) with z | z
            · obtain ⟨d, hd, e⟩ := blk v a z
              subst e
              exact (b1 d hd).mp (by rw [h0]; exact bit_m1 hd)
            · exact H v z b
          · intro H v a b
            exact H v (by omega) b
        · rw [if_neg (fun z => h0 (lg_cmp0.mp z)), if_neg (show ¬ bI true = 0 by decide), bz0, gd_t]
          refine ⟨false, u1, rfl, hu1, ?_⟩
          unfold rg
          rw [if_pos (show true = true from rfl)]
          refine ⟨fun z => (by cases z), fun H => ?_⟩
          exfalso
          apply h0
          rw [w_ones]
          intro d hd
          exact (b1 d hd).mpr (H _ (by omega) (by omega))
theorem sC_isSo (hS : ∀ w, S w → CS w N) (hx : N[i]? = some x) (hq : k_qu (n_k x) = true) (hw : words ≤ 10) (h : ∀ k : Nat, k < words → WD S (wo (nI (i + 1)) (nI (n_a x)) (zI (first + (k : Int) * 64))) (fun b => φ (first + (k : Int) * 64 + b))) :
    ∀ u, S u → ∃ r u', f_C_isSo wo (nI i) (zI first) (nI words) u = some (bI r, u') ∧ S u' ∧ (r = true ↔ rg (n_k x == 65) first (first + (words : Int) * 64) φ) := by
  intro u hu
  have hi := (List.getElem?_eq_some_iff.mp hx).1
  obtain ⟨s1, s2, s3⟩ := hS u hu
  obtain ⟨r, u', e, hu', hr⟩ := sC_isSoL hS hx hq hw (n_k x == 65) h 4096 0 u (by omega) (by omega) hu
  rw [show first + ((0 : Nat) : Int) * 64 = first by omega] at hr
  refine ⟨r, u', ?_, hu', hr⟩
  rw [nI_0] at e
  unfold f_C_isSo
  rw [gd_s (inb_nI (by omega) (by omega)), nI_clamp (by omega), (s3 i x hx).1]
  rcases kq_or hq with k | k
  · rw [show (n_k x == 65) = false by rw [k]; rfl, if_neg ff_tt, show bI false = 0 from rfl] at e
    rw [show nI (n_k x) = nI 69 by rw [k], if_neg (show ¬ nI 69 = 65 by decide)]
    unfold f_C_isSo_J16
    rw [if_pos (show (0 : Int32) = 0 from rfl)]
    exact e
  · rw [show (n_k x == 65) = true by rw [k]; rfl, if_pos (show true = true from rfl), show bI true = 1 from rfl] at e
    rw [show nI (n_k x) = nI 65 by rw [k], if_pos (show nI 65 = 65 from rfl)]
    unfold f_C_isSo_J16
    rw [if_neg (show ¬ (1 : Int32) = 0 by decide)]
    exact e
end IS
section QW
variable {S : KS → Prop} {wo : Int32 → Int32 → Int32 → KS → Option (Int64 × KS)} {N : List Nd} {i o : Nat} {x : Nd} {st : Int}
theorem wd_qu {A : Nat → Prop} (hS : ∀ w, S w → CS w N) (hx : N[i]? = some x) (hq : k_qu (n_k x) = true) (h : WD S (f_C_quantifiedWord wo (nI i) (nI o) (zI st)) A) : WD S (f_C_word1 wo (nI i) (nI o) (zI st)) A := by
  intro u hu
  have hi := (List.getElem?_eq_some_iff.mp hx).1
  obtain ⟨s1, s2, s3⟩ := hS u hu
  obtain ⟨w, u', e, hu', hw⟩ := h u hu
  unfold f_C_word1
  rw [ob_s (sC_has hi s2 s1), if_neg (show ¬ (1 : Int32) = 0 by decide), gd_s (inb_nI (by omega) (by omega)), nI_clamp (by omega), (s3 i x hx).1]
  have eJ : f_C_word1_J114 wo (nI i) (nI o) (zI st) u = some (w, u') := by
    unfold f_C_word1_J114
    rw [ob_s e]
  rcases kq_or hq with k | k
  · rw [show nI (n_k x) = nI 69 by rw [k], if_neg (show ¬ nI 69 = 33 by decide), if_neg (show ¬ nI 69 = 38 by decide), if_neg (show ¬ nI 69 = 47 by decide), if_neg (show ¬ nI 69 = 60 by decide), if_neg (show ¬ nI 69 = 61 by decide), if_neg (show ¬ nI 69 = 62 by decide), if_neg (show ¬ nI 69 = 65 by decide), if_pos (show nI 69 = 69 from rfl)]
    exact ⟨w, u', eJ, hu', hw⟩
  · rw [show nI (n_k x) = nI 65 by rw [k], if_neg (show ¬ nI 65 = 33 by decide), if_neg (show ¬ nI 65 = 38 by decide), if_neg (show ¬ nI 65 = 47 by decide), if_neg (show ¬ nI 65 = 60 by decide), if_neg (show ¬ nI 65 = 61 by decide), if_neg (show ¬ nI 65 = 62 by decide), if_pos (show nI 65 = 65 from rfl)]
    exact ⟨w, u', eJ, hu', hw⟩
theorem wd_qc {φ : Int → Prop} (hS : ∀ w, S w → CV w N) (hx : N[i]? = some x) (hq : k_qu (n_k x) = true) (hc : an3 (fv N i) = false) (h : ∀ k : Nat, k < 3 → WD S (wo (nI (i + 1)) (nI (n_a x)) (zI (-96 + (k : Int) * 64))) (fun b => φ (-96 + (k : Int) * 64 + b))) : WD S (f_C_quantifiedWord wo (nI i) (nI o) (zI st)) (fun _ => rg (n_k x == 65) (-96) 96 φ) := by
  intro u hu
  have hi := (List.getElem?_eq_some_iff.mp hx).1
  obtain ⟨⟨s1, s2, s3⟩, s4⟩ := hS u hu
  obtain ⟨r, u', e, hu', hr⟩ := sC_isSo (fun w hw => (hS w hw).1) hx hq (words := 3) (by omega) h u hu
  have e : f_C_isSo wo (nI i) (-96) 3 u = some (bI r, u') := e
  unfold f_C_quantifiedWord
  rw [ob_s (sC_isOpen hi s2 s1 (s4 i hi)), hc, if_pos (show bI false = 0 from rfl), ob_s e]
  cases r
  · rw [if_pos (show bI false = 0 from rfl)]
    refine ⟨0, u', rfl, hu', fun b hb => ?_⟩
    rw [bit_0 hb]
    exact hr
  · rw [if_neg (show ¬ bI true = 0 by decide)]
    refine ⟨-1, u', rfl, hu', fun b hb => ?_⟩
    rw [bit_m1 hb]
    exact hr
theorem sC_qwL {ψ : Nat → Prop} (ho : o < 3) (h : ∀ b : Nat, b < 64 → ∀ u, S u → ∃ r u', f_C_isSo wo (nI i) (-224) 7 (k_p_va (upd (k_va u) o (zI (st + b))) u) = some (bI r, u') ∧ S u' ∧ (r = true ↔ ψ b)) :
    ∀ (n b : Nat) (w : Int64) (u : KS), 64 - b < n → b ≤ 64 → S u → ∃ w' u', f_C_quantifiedWord_L44 wo n (nI i) (nI o) (zI st) w (nI b) u = some (w', u') ∧ S u' ∧ ∀ j, j < 64 → (bit w' j = true ↔ bit w j = true ∨ (b ≤ j ∧ ψ j)) := by
  intro n
  induction n with
  | zero => intro b w u h; omega
  | succ n ih =>
    intro b w u hn hb hu
    rw [q_C_quantifiedWord_L44]
    by_cases h64 : 64 ≤ b
    · rw [if_pos (show (64 : Int32) ≤ nI b from nI_le (a := 64) h64 (by omega))]
      refine ⟨w, u, rfl, hu, fun j hj => ⟨Or.inl, ?_⟩⟩
      rintro (z | z)
      · exact z
      · omega
    · have ea : zI st + nI b = zI (st + b) := by rw [nI_zI, zI_add]
      obtain ⟨r, u1, e1, hu1, hr⟩ := h b (by omega) u hu
      rw [if_neg (show ¬ (64 : Int32) ≤ nI b from nI_ge (b := 64) (by omega) (by omega)), gd_s (inb_nI (by omega) (by omega)), lt_q, nI_clamp (by omega), ea, ob_s e1]
      cases r
      · rw [if_pos (show bI false = 0 from rfl), lt_q, nI_1]
        obtain ⟨w', u2, e2, hu2, hw⟩ := ih (b + 1) w u1 (by omega) (by omega) hu1
        refine ⟨w', u2, e2, hu2, fun j hj => (hw j hj).trans ?_⟩
        have : ¬ ψ b := fun z => by cases hr.mpr z
        constructor
        · rintro (z | ⟨z, y⟩)
          · exact Or.inl z
          · exact Or.inr ⟨by omega, y⟩
        · rintro (z | ⟨z, y⟩)
          · exact Or.inl z
          · by_cases hj2 : j = b
            · rw [hj2] at y; exact absurd y this
            · exact Or.inr ⟨by omega, y⟩
      · rw [if_neg (show ¬ bI true = 0 by decide), lt_q, lt_q, nI_1]
        obtain ⟨w', u2, e2, hu2, hw⟩ := ih (b + 1) (w ||| ((1 : Int64) <<< ((nI b).toInt64 &&& 63))) u1 (by omega) (by omega) hu1
        refine ⟨w', u2, e2, hu2, fun j hj => (hw j hj).trans ?_⟩
        have hψ : ψ b := hr.mp rfl
        rw [bit_o, o64_dec b (by omega) j hj, Bool.or_eq_true, decide_eq_true_eq]
        constructor
        · rintro ((z | z) | ⟨z, y⟩)
          · exact Or.inl z
          · exact Or.inr ⟨by omega, by rw [z]; exact hψ⟩
          · exact Or.inr ⟨by omega, y⟩
        · rintro (z | ⟨z, y⟩)
          · exact Or.inl (Or.inl z)
          · by_cases hj2 : j = b
            · exact Or.inl (Or.inr hj2)
            · exact Or.inr ⟨by omega, y⟩
theorem wd_qo {ψ : Nat → Prop} (hS : ∀ w, S w → CV w N) (hx : N[i]? = some x) (ho : o < 3) (hc : an3 (fv N i) = true) (h : ∀ b : Nat, b < 64 → ∀ u, S u → ∃ r u', f_C_isSo wo (nI i) (-224) 7 (k_p_va (upd (k_va u) o (zI (st + b))) u) = some (bI r, u') ∧ S u' ∧ (r = true ↔ ψ b)) : WD S (f_C_quantifiedWord wo (nI i) (nI o) (zI st)) ψ := by
  intro u hu
  have hi := (List.getElem?_eq_some_iff.mp hx).1
  obtain ⟨⟨s1, s2, s3⟩, s4⟩ := hS u hu
  obtain ⟨w', u2, e2, hu2, hw⟩ := sC_qwL ho h 4096 0 0 u (by omega) (by omega) hu
  rw [nI_0] at e2
  unfold f_C_quantifiedWord
  rw [ob_s (sC_isOpen hi s2 s1 (s4 i hi)), hc, if_neg (show ¬ bI true = 0 by decide), if_neg (nI_pos (by omega)), if_pos (show nI o < 3 from nI_lt (b := 3) ho (by omega)), e2]
  refine ⟨w', u2, rfl, hu2, fun b hb => (hw b hb).trans ?_⟩
  rw [bit_0 hb]
  constructor
  · rintro (z | z)
    · cases z
    · exact z.2
  · intro z
    exact Or.inr ⟨Nat.zero_le _, z⟩
end QW
