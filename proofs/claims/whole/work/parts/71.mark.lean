/-- the class's text and row stay -/
def tx (a b : KS) : Prop := k_ln b = k_ln a ∧ k_sz b = k_sz a ∧ k_mk b = k_mk a ∧ k_pl b = k_pl a ∧ k_wd b = k_wd a ∧ k_xf b = k_xf a
theorem tx_rf (a : KS) : tx a a := ⟨rfl, rfl, rfl, rfl, rfl, rfl⟩
theorem tx_tr {a b c : KS} (h : tx a b) (g : tx b c) : tx a c := ⟨g.1.trans h.1, g.2.1.trans h.2.1, g.2.2.1.trans h.2.2.1, g.2.2.2.1.trans h.2.2.2.1, g.2.2.2.2.1.trans h.2.2.2.2.1, g.2.2.2.2.2.trans h.2.2.2.2.2⟩
theorem TK_tx {a b : KS} {cs : List Nat} (h : TK a cs) (g : tx a b) : TK b cs := ⟨by rw [g.1]; exact h.1, by rw [g.2.1]; exact h.2.1, fun i q hq => by rw [g.2.2.1, g.2.2.2.1]; exact h.2.2 i q hq⟩
def toks (cs : List Nat) : List Nat := (tkF 0 cs).map Prod.fst
theorem toks_len (cs : List Nat) : (toks cs).length = (tkF 0 cs).length := List.length_map ..
theorem sT_mark {u : KS} {cs : List Nat} (hT : TK u cs) (ok : okT cs) {j : Nat} (hj : j < 1000) : f_T_markAt (nI j) u = some (nI ((toks cs).getD j 0), u) := by
  have hl := tkF_len cs 0
  have h120 := ok.1
  unfold f_T_markAt
  rw [if_neg (nI_pos (by omega)), hT.2.1]
  by_cases h : (tkF 0 cs).length ≤ j
  · rw [if_pos (nI_le h (by omega)), List.getD_eq_getElem?_getD, List.getElem?_eq_none (by rw [toks_len]; exact h)]
    rfl
  · rw [if_neg (nI_ge (by omega) (by omega)), gd_s (inb_nI (by omega) (by omega)), nI_clamp (by omega)]
    obtain ⟨q, hq⟩ : ∃ q, (tkF 0 cs)[j]? = some q := ⟨_, List.getElem?_eq_getElem (by omega)⟩
    rw [(hT.2.2 j q hq).1, List.getD_eq_getElem?_getD]
    unfold toks
    rw [List.getElem?_map, hq]
    rfl
/-- the place of the j-th character that is no space; the length behind the last one -/
def plc (cs : List Nat) (j : Nat) : Nat := ((tkF 0 cs).map Prod.snd).getD j cs.length
theorem sT_place {u : KS} {cs : List Nat} (hT : TK u cs) (ok : okT cs) {j : Nat} (hj : j < 1000) : f_T_placeOf (nI j) u = some (nI (plc cs j), u) := by
  have hl := tkF_len cs 0
  have h120 := ok.1
  unfold f_T_placeOf plc
  rw [if_neg (nI_pos (by omega)), hT.2.1]
  by_cases h : (tkF 0 cs).length ≤ j
  · rw [if_pos (nI_le h (by omega)), List.getD_eq_getElem?_getD, List.getElem?_eq_none (by simp; exact h), hT.1]
    rfl
  · rw [if_neg (nI_ge (by omega) (by omega)), gd_s (inb_nI (by omega) (by omega)), nI_clamp (by omega)]
    obtain ⟨q, hq⟩ : ∃ q, (tkF 0 cs)[j]? = some q := ⟨_, List.getElem?_eq_getElem (by omega)⟩
    rw [(hT.2.2 j q hq).2, List.getD_eq_getElem?_getD, List.getElem?_map, hq]
    rfl
/-- the class reads: ts is left -/
def RK (u : KS) (cs ts : List Nat) : Prop := TK u cs ∧ okT cs ∧ ∃ k, k ≤ (toks cs).length ∧ k_at u = nI k ∧ (toks cs).drop k = ts
theorem RK_tx {a b : KS} {cs ts : List Nat} (h : RK a cs ts) (g : tx a b) (hat : k_at b = k_at a) : RK b cs ts := by
  obtain ⟨h1, h2, k, h3, h4, h5⟩ := h
  exact ⟨TK_tx h1 g, h2, k, h3, hat.trans h4, h5⟩
theorem sR_mark {u : KS} {cs ts : List Nat} (h : RK u cs ts) : f_R_mark u = some (nI (ts.headD 0), u) := by
  obtain ⟨h1, h2, k, h3, h4, h5⟩ := h
  have := tkF_len cs 0
  have := h2.1
  rw [toks_len] at h3
  unfold f_R_mark
  rw [h4, ob_s (sT_mark h1 h2 (by omega)), ← h5]
  congr 3
  rw [List.headD_eq_head?_getD, List.head?_drop, List.getD_eq_getElem?_getD]
theorem RK_next {u : KS} {cs ts : List Nat} {c : Nat} (h : RK u cs (c :: ts)) : RK (k_p_at (k_at u + 1) u) cs ts := by
  obtain ⟨h1, h2, k, h3, h4, h5⟩ := h
  have hk : k < (toks cs).length := by
    rcases Nat.lt_or_ge k (toks cs).length with g | g
    · exact g
    · rw [List.drop_eq_nil_of_le g] at h5; cases h5
  refine ⟨TK_tx h1 ⟨rfl, rfl, rfl, rfl, rfl, rfl⟩, h2, k + 1, hk, ?_, ?_⟩
  · show k_at u + 1 = _
    rw [h4, nI_1]
  · rw [← List.drop_drop, h5]
    rfl
