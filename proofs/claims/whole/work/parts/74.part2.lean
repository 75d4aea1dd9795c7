/-- what reading on has come to: the answer, what is left, the accumulator -/
def PK (u : KS) (cs : List Nat) (s : Nat) (p : Bool × List Nat × Ac) (o : Option (Int32 × KS)) : Prop := ∃ u', o = some (bI p.1, u') ∧ RK u' cs p.2.1 ∧ (p.1 = true → AK u' s p.2.2) ∧ fr s u u'
theorem st_J169 {u : KS} {cs q : List Nat} {s m v d : Nat} {a : Ac} (hR : RK u cs (d :: q)) (hs : s < m) (hm : m ≤ 20) (hc : k_cn u = nI m) (hA : AK u s a) (hv : v < 3) (z : Int) :
    PK u cs s (true, q, ac_v a v z) (f_R_readPart_J169 (zI z) (nI v) (nI s) u) := by
  obtain ⟨u1, e1, R1, A1, F1, at1⟩ := st_v hR hs hm hc hA hv z
  unfold f_R_readPart_J169
  rw [ob_s e1, lt_q, bz1, gd_t]
  exact ⟨_, rfl, RK_next R1, fun _ => AK_at A1 _, fr_tr F1 (fr_at s _ _)⟩
theorem st_J128 {u : KS} {cs q : List Nat} {s m v d : Nat} {a : Ac} {bd : Nat → Bool} {sg dg : Int} {v7 : Int32} (hR : RK u cs (d :: q)) (hs : s < m) (hm : m ≤ 20) (hc : k_cn u = nI m) (hA : AK u s a) (hv : v < 3) :
    PK u cs s (if v = 0 ∨ bd v = true then (true, q, ac_v a v (if v7 = 0 then sg else sg * dg)) else (false, d :: q, a)) (f_R_readPart_J128 (nI s) (opm bd) (zI sg) (zI dg) (nI v) v7 u) := by
  have key : PK u cs s (true, q, ac_v a v (if v7 = 0 then sg else sg * dg)) (f_R_readPart_J149 (nI s) (zI sg) (zI dg) (nI v) v7 u) := by
    unfold f_R_readPart_J149
    by_cases h7 : v7 = 0
    · rw [if_pos h7, if_pos h7]
      exact st_J169 hR hs hm hc hA hv sg
    · rw [if_neg h7, if_neg h7, zI_mul]
      exact st_J169 hR hs hm hc hA hv (sg * dg)
  unfold f_R_readPart_J128
  rw [if_neg (nI_pos (by omega))]
  by_cases h0 : v = 0
  · rw [if_pos (show nI v = 0 by rw [h0]; rfl), if_pos (show v = 0 ∨ bd v = true from Or.inl h0)]
    exact key
  · rw [if_neg (nI_ne0 (by omega) (by omega))]
    cases hb : bd v
    · rw [if_pos ((opm_bit bd hv).mpr hb), if_neg (show ¬ (v = 0 ∨ false = true) by simp [h0]), bz0, gd_t]
      exact ⟨u, rfl, hR, fun h => (by cases h), fr_rf s u⟩
    · rw [if_neg (show ¬ ((opm bd >>> (nI v &&& 31)) &&& 1) = 0 from fun h => by rw [(opm_bit bd hv).mp h] at hb; cases hb), if_pos (show v = 0 ∨ true = true from Or.inr rfl)]
      exact key
theorem st_num {u : KS} {cs ts : List Nat} {s m : Nat} {a : Ac} (hR : RK u cs ts) (hs : s < m) (hm : m ≤ 20) (hc : k_cn u = nI m) (hA : AK u s a) (z : Int) {F : Unit → KS → Option (Int32 × KS)} (hF : ∀ r w, F r w = some (1, w)) :
    PK u cs s (true, ts, ac_n a z) (ob (f_C_addNumber (nI s) (zI z) u) F) := by
  obtain ⟨u1, e1, R1, A1, F1⟩ := st_n hR hs hm hc hA z
  rw [ob_s e1, hF]
  exact ⟨u1, rfl, R1, fun _ => A1, F1⟩
theorem isV_lt {c : Nat} (h : isV c = true) : 120 ≤ c ∧ c ≤ 122 := by unfold isV at h; simpa using h
theorem isD_lt {c : Nat} (h : isD c = true) : 48 ≤ c ∧ c ≤ 57 := by unfold isD at h; simpa using h
theorem RK_hd {u : KS} {cs ts : List Nat} (h : RK u cs ts) : ts.headD 0 < 127 := by
  obtain ⟨h1, h2, k, h3, h4, h5⟩ := h
  cases ts with
  | nil => decide
  | cons c r =>
    have hc : c ∈ toks cs := List.mem_of_mem_drop (by rw [h5]; exact List.mem_cons_self)
    unfold toks at hc
    obtain ⟨q, hq, rfl⟩ := List.mem_map.mp hc
    have key : ∀ (l : List Nat) (k : Nat), q ∈ tkF k l → q.1 ∈ l := by
      intro l
      induction l with
      | nil => intro k h; simp [tkF] at h
      | cons d l ih =>
        intro k h
        simp only [tkF] at h
        split at h
        · exact List.mem_cons_of_mem _ (ih _ h)
        · rcases List.mem_cons.mp h with z | z
          · rw [z]; exact List.mem_cons_self
          · exact List.mem_cons_of_mem _ (ih _ z)
    have := h2.2 q.1 (key cs 0 hq)
    show q.1 < 127
    omega
