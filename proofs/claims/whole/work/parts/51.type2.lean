theorem lt_q {α β : Type} (a : α) (f : α → β) : lt_ a f = f a := by
  unfold lt_
  rfl
theorem zI_s1 (m : Nat) : zI (((m + 1 : Nat) : Int) - 1) = nI m := by
  rw [nI_zI]
  congr 1
  omega
theorem bys_0 (w : Int32) (cs : List Nat) : cs ++ bys w 0 = cs := List.append_nil cs
theorem bys_s (w : Int32) (cs : List Nat) (m : Nat) : cs ++ bys w (m + 1) = cs ++ [bN w m] ++ bys w m := by
  rw [List.append_assoc]
  congr 1
theorem sL_app (w : Int32) : ∀ (m fu : Nat) (u : KS) (cs : List Nat), m ≤ 4 → m ≤ fu → TK u cs → cs.length + m ≤ 120 →
    ∃ u', f_L_type_L53 (fu + 1) w (zI ((m : Int) - 1)) u = some (1, u') ∧ TK u' (cs ++ bys w m) ∧ k_wd u' = k_wd u ∧ k_xf u' = k_xf u := by
  intro m
  induction m with
  | zero =>
    intro fu u cs h1 h2 hT hl
    rw [q_L_type_L53, if_pos zI_m1, bz1, gd_t]
    exact ⟨u, rfl, by rw [bys_0]; exact hT, rfl, rfl⟩
  | succ m ih =>
    intro fu u cs h1 h2 hT hl
    obtain ⟨fu, rfl⟩ : ∃ k, fu = k + 1 := ⟨fu - 1, by omega⟩
    rw [zI_s1, q_L_type_L53 (fu + 1) w (nI m) u, if_neg (nI_pos (by omega)), ob_s (byK w (by omega) u)]
    obtain ⟨u1, e1, T1, w1, x1⟩ := sT_append (bN_lt w m) hT (by omega)
    rw [ob_s e1]
    rw [lt_q, nI_m1z]
    obtain ⟨u2, e2, T2, w2, x2⟩ := ih fu u1 (cs ++ [bN w m]) (by omega) (by omega) T1 (by simp; omega)
    refine ⟨u2, e2, ?_, w2.trans w1, x2.trans x1⟩
    rw [bys_s]
    exact T2
theorem sM_app (w : Int32) : ∀ (m fu : Nat) (u : MS) (cs : List Nat), m ≤ 4 → m ≤ fu → TM u cs → cs.length + m ≤ 120 →
    ∃ u', f_M_type_L69 (fu + 1) w 1 (zI ((m : Int) - 1)) u = some (1, u') ∧ TM u' (cs ++ bys w m) ∧ tb u u' := by
  intro m
  induction m with
  | zero =>
    intro fu u cs h1 h2 hT hl
    rw [q_M_type_L69, if_pos zI_m1, bz1, gd_t]
    exact ⟨u, rfl, by rw [bys_0]; exact hT, rfl, rfl, rfl, rfl, rfl, rfl, rfl⟩
  | succ m ih =>
    intro fu u cs h1 h2 hT hl
    obtain ⟨fu, rfl⟩ : ∃ k, fu = k + 1 := ⟨fu - 1, by omega⟩
    rw [zI_s1, q_M_type_L69 (fu + 1) w 1 (nI m) u, if_neg (nI_pos (by omega)), if_neg (by decide)]
    have hi : inb (m_ty u) 120 = true := by rw [hT.1]; exact inb_nI (by omega) (by omega)
    rw [gd_s hi, lt_q, lt_q, lt_q, byM w (by omega)]
    have T1 : TM (m_p_ty (m_ty (m_p_ch (upd (m_ch u) (m_ty u).toNatClampNeg (nI (bN w m))) u) + 1) (m_p_ch (upd (m_ch u) (m_ty u).toNatClampNeg (nI (bN w m))) u)) (cs ++ [bN w m]) := by
      refine ⟨?_, fun i c hc => ?_⟩
      · show m_ty u + 1 = _
        rw [hT.1, nI_1]; simp
      · show upd (m_ch u) (m_ty u).toNatClampNeg (nI (bN w m)) i = _
        rw [hT.1, nI_clamp (by omega)]
        rw [List.getElem?_append] at hc
        split at hc
        · rename_i hlt
          rw [pk_un (by omega)]
          exact hT.2 i c hc
        · have hi0 : i - cs.length = 0 := by
            rcases Nat.eq_zero_or_pos (i - cs.length) with e | e
            · exact e
            · rw [List.getElem?_eq_none (by simp; omega)] at hc; cases hc
          rw [hi0] at hc
          cases hc
          rw [show i = cs.length by omega, pk_us]
    rw [nI_m1z]
    obtain ⟨u2, e2, T2, b2⟩ := ih fu _ (cs ++ [bN w m]) (by omega) (by omega) T1 (by simp; omega)
    refine ⟨u2, e2, ?_, b2⟩
    rw [bys_s]
    exact T2
