theorem inb_nI {n N : Nat} (h : n < N) (hN : N < 2 ^ 31) : inb (nI n) N = true := by
  unfold inb
  rw [nI_toInt (by omega)]
  simp only [Bool.and_eq_true, decide_eq_true_eq]
  omega
/-- the i-th byte of a word -/
def bN (w : Int32) (i : Nat) : Nat := w.toBitVec.toNat / 2 ^ (8 * i) % 256
theorem bN_lt (w : Int32) (i : Nat) : bN w i < 256 := Nat.mod_lt _ (by decide)
theorem byK (w : Int32) {i : Nat} (hi : i < 4) (u : KS) : f_L_byteOf w (nI i) u = some (nI (bN w i), u) := by
  unfold f_L_byteOf bN
  rcases (show i = 0 ∨ i = 1 ∨ i = 2 ∨ i = 3 by omega) with rfl | rfl | rfl | rfl
  · rw [pk_and _ 8 (by decide), pk_ushr w (8 * nI 0) 0 (by decide)]
  · rw [pk_and _ 8 (by decide), pk_ushr w (8 * nI 1) 8 (by decide)]
  · rw [pk_and _ 8 (by decide), pk_ushr w (8 * nI 2) 16 (by decide)]
  · rw [pk_and _ 8 (by decide), pk_ushr w (8 * nI 3) 24 (by decide)]
theorem tN_toInt (x : Int32) : (x.toBitVec.toNat : Int) = if 0 ≤ x.toInt then x.toInt else x.toInt + 4294967296 := by
  have h : x.toInt = x.toBitVec.toInt := rfl
  rw [h, BitVec.toInt_eq_toNat_cond]
  have := x.toBitVec.isLt
  split <;> split <;> omega
theorem byM0 (w : Int32) (s : Int32) (k : Nat) (hk : k = 0 ∨ k = 8 ∨ k = 16 ∨ k = 24) (hs : (s.toBitVec.smod 32).toNat = k) : (w >>> s).toBitVec.toNat % 256 = w.toBitVec.toNat / 2 ^ k % 256 := by
  have h1 := pk_shr w s k hs
  rw [Int.shiftRight_eq_div_pow] at h1
  have h2 := tN_toInt (w >>> s)
  have h3 := tN_toInt w
  have h4 := i32_r w
  rw [h1] at h2
  generalize (w >>> s).toBitVec.toNat = p at h2 ⊢
  generalize w.toBitVec.toNat = q at h3 ⊢
  generalize w.toInt = z at h2 h3 h4
  rcases hk with rfl | rfl | rfl | rfl <;> split at h2 <;> split at h3 <;> omega
theorem byM (w : Int32) {i : Nat} (hi : i < 4) : (w >>> ((8 * nI i) &&& 31)) &&& 255 = nI (bN w i) := by
  unfold bN
  rw [pk_and _ 8 (by decide)]
  rcases (show i = 0 ∨ i = 1 ∨ i = 2 ∨ i = 3 by omega) with rfl | rfl | rfl | rfl
  · rw [byM0 w _ 0 (by omega) (by decide)]
  · rw [byM0 w _ 8 (by omega) (by decide)]
  · rw [byM0 w _ 16 (by omega) (by decide)]
  · rw [byM0 w _ 24 (by omega) (by decide)]
def bys (w : Int32) : Nat → List Nat
  | 0 => []
  | m + 1 => bN w m :: bys w m
theorem bys_len (w : Int32) : ∀ m, (bys w m).length = m
  | 0 => rfl
  | m + 1 => by simp [bys, bys_len w m]
def okb (w : Int32) (j : Nat) : Bool := decide (32 ≤ bN w j) && decide (bN w j ≤ 126)
theorem okb_t {w : Int32} {j : Nat} : okb w j = true ↔ 32 ≤ bN w j ∧ bN w j ≤ 126 := by unfold okb; simp
theorem sT_allows {c : Nat} (hc : c < 256) (u : KS) : f_T_allows (nI c) u = some (bI (decide (32 ≤ c) && decide (c ≤ 126)), u) := by
  unfold f_T_allows
  rw [bz0, bz1, gd_t, gd_t, show (32 : Int32) = nI 32 from rfl, show (126 : Int32) = nI 126 from rfl]
  by_cases h : c < 32
  · rw [if_pos ((nI_ltI (by omega) (by omega)).mpr h), decide_eq_false (by omega)]; rfl
  · rw [if_neg (fun g => h ((nI_ltI (by omega) (by omega)).mp g)), decide_eq_true (show 32 ≤ c by omega)]
    by_cases h2 : 126 < c
    · rw [if_pos ((nI_ltI (by omega) (by omega)).mpr h2), decide_eq_false (by omega)]; rfl
    · rw [if_neg (fun g => h2 ((nI_ltI (by omega) (by omega)).mp g)), decide_eq_true (show c ≤ 126 by omega)]; rfl
theorem sT_append {c : Nat} (hc : c < 256) {u : KS} {cs : List Nat} (hT : TK u cs) (hl : cs.length < 120) : ∃ u', f_T_append (nI c) u = some ((), u') ∧ TK u' (cs ++ [c]) ∧ k_wd u' = k_wd u ∧ k_xf u' = k_xf u := by
  obtain ⟨h1, h2, h3⟩ := hT
  have hlen := tkF_len cs 0
  unfold f_T_append
  rw [h1, if_pos (by rw [show (120 : Int32) = nI 120 from rfl]; exact nI_lt hl (by omega))]
  by_cases h32 : c = 32
  · rw [if_pos (by rw [h32]; rfl)]
    unfold f_T_append_J49
    simp only [lt_]
    refine ⟨_, rfl, ⟨?_, ?_, ?_⟩, rfl, rfl⟩
    · show k_ln u + 1 = _
      rw [h1, nI_1]; simp
    · show k_sz u = _
      rw [h2, tkF_app, if_pos h32, List.append_nil]
    · rw [tkF_app, if_pos h32, List.append_nil]
      exact h3
  · rw [if_neg (by rw [show (32 : Int32) = nI 32 from rfl, nI_eq (by omega) (by omega)]; exact h32)]
    have hi : inb (k_sz u) 120 = true := by rw [h2]; exact inb_nI (by omega) (by omega)
    unfold f_T_append_J49
    simp only [lt_]
    rw [gd_s hi]
    rw [gd_s (show inb (k_sz (k_p_mk (upd (k_mk u) (k_sz u).toNatClampNeg (nI c)) u)) 120 = true from hi)]
    refine ⟨_, rfl, ⟨?_, ?_, ?_⟩, rfl, rfl⟩
    · show k_ln u + 1 = _
      rw [h1, nI_1]; simp
    · show k_sz u + 1 = _
      rw [h2, tkF_app, if_neg h32, nI_1]; simp
    · intro i q hq
      show upd (k_mk u) (k_sz u).toNatClampNeg (nI c) i = _ ∧ upd (k_pl u) (k_sz u).toNatClampNeg (k_ln u) i = _
      rw [h2, nI_clamp (by omega)]
      rw [tkF_app, if_neg h32, List.getElem?_append] at hq
      split at hq
      · rename_i hlt
        rw [pk_un (by omega), pk_un (by omega)]
        exact h3 i q hq
      · rename_i hge
        have hi0 : i - (tkF 0 cs).length = 0 := by
          rcases Nat.eq_zero_or_pos (i - (tkF 0 cs).length) with e | e
          · exact e
          · rw [List.getElem?_eq_none (by simp; omega)] at hq; cases hq
        rw [hi0] at hq
        cases hq
        rw [show i = (tkF 0 cs).length by omega, pk_us, pk_us, h1, Nat.zero_add]
        exact ⟨rfl, rfl⟩
theorem zI_m1 : zI (((0 : Nat) : Int) - 1) < 0 := by
  rw [show (0 : Int32) = zI 0 from rfl, zI_lt (by omega) (by omega) (by omega) (by omega)]
  omega
theorem nI_m1z (m : Nat) : nI m + (-1) = zI ((m : Int) - 1) := by
  rw [nI_zI, show (-1 : Int32) = zI (-1) from rfl, zI_add]
  congr 1
def aok (w : Int32) : Nat → Nat → Bool
  | 0, _ => true
  | d + 1, i => okb w i && aok w d (i + 1)
theorem aok_t {w : Int32} : ∀ {d i : Nat}, aok w d i = true → ∀ j, i ≤ j → j < i + d → okb w j = true
  | 0, i, _, j, a, b => by omega
  | d + 1, i, h, j, a, b => by
    simp only [aok, Bool.and_eq_true] at h
    rcases Nat.lt_or_ge i j with g | g
    · exact aok_t h.2 j (by omega) (by omega)
    · rw [show j = i by omega]; exact h.1
