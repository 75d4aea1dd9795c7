theorem nz48 {c : Nat} (h : 48 ≤ c) : nI (c - 48) = zI ((c : Int) - 48) := by
  rw [nI_zI]; congr 1; omega
theorem m1_neg : (-1 : Int32) < 0 := by decide
theorem ff_tt : ¬ (false = true) := by decide
theorem st_novar {u : KS} {cs ts : List Nat} {s : Nat} {a : Ac} {v2 v3 v7 : Int32} (hR : RK u cs ts) : PK u cs s (false, ts, a) (f_R_readPart_J128 (nI s) v2 v3 (-1) (-1) v7 u) := by
  unfold f_R_readPart_J128
  rw [if_pos m1_neg, bz0, gd_t]
  exact ⟨u, rfl, hR, fun h => (by cases h), fr_rf s u⟩
theorem st_J102n {u : KS} {cs ts : List Nat} {s m : Nat} {a : Ac} {v2 v6 : Int32} {sg dg : Int} (hR : RK u cs ts) (hs : s < m) (hm : m ≤ 20) (hc : k_cn u = nI m) (hA : AK u s a) (h0 : ¬ zI dg < 0) : PK u cs s (true, ts, ac_n a (sg * dg)) (f_R_readPart_J102 (nI s) v2 (zI sg) (zI dg) v6 0 u) := by
  unfold f_R_readPart_J102
  rw [if_neg h0, if_pos (show (0 : Int32) = 0 from rfl), zI_mul]
  exact st_num hR hs hm hc hA _ (fun r w => by rw [bz1]; rfl)
theorem st_J36d {u : KS} {cs q : List Nat} {d s m : Nat} {a : Ac} {v2 : Int32} {sg dg lo : Int} (hR : RK u cs (d :: q)) (hs : s < m) (hm : m ≤ 20) (hc : k_cn u = nI m) (hA : AK u s a) (h0 : ¬ zI lo < 0) : PK u cs s (true, q, ac_n a (sg * (10 * dg + lo))) (f_R_readPart_J36 (nI s) v2 (zI sg) (zI dg) (zI lo) u) := by
  unfold f_R_readPart_J36
  rw [if_neg h0, lt_q, show (10 : Int32) = zI 10 from rfl, zI_mul, zI_add, zI_mul]
  have R2 := RK_next hR
  have hc2 : k_cn (k_p_at (k_at u + 1) u) = nI m := hc
  have A2 : AK (k_p_at (k_at u + 1) u) s a := hA
  have F2 := fr_at s (k_at u + 1) u
  generalize k_p_at (k_at u + 1) u = u2 at R2 hc2 A2 F2 ⊢
  obtain ⟨w, b1, b2, b3, b4⟩ := st_num R2 hs hm hc2 A2 (sg * (10 * dg + lo)) (F := fun r20 u21 => gd (bz 1) (some (1, u21))) (fun r w => by rw [bz1]; rfl)
  exact ⟨w, b1, b2, b3, fr_tr F2 b4⟩
theorem sR_part {u : KS} {cs ts : List Nat} {s m : Nat} {a : Ac} {bd : Nat → Bool} {sg : Int} (hR : RK u cs ts) (hs : s < m) (hm : m ≤ 20) (hc : k_cn u = nI m) (hA : AK u s a) :
    PK u cs s (sp_part bd sg a ts) (f_R_readPart (nI s) (opm bd) (zI sg) u) := by
  unfold f_R_readPart
  have hh := RK_hd hR
  rw [ob_s (sR_mark hR), ob_s (sR_dig (by omega) u)]
  cases ts with
  | nil =>
    rw [show (([] : List Nat).headD 0) = 0 from rfl, show isD 0 = false from rfl, if_neg ff_tt, if_pos m1_neg]
    unfold f_R_readPart_J36
    rw [if_pos m1_neg, ob_s (sR_mark hR), ob_s (sR_var (by decide) u), show isV (([] : List Nat).headD 0) = false from rfl, if_neg ff_tt, if_pos m1_neg]
    unfold f_R_readPart_J102
    rw [if_pos m1_neg]
    exact st_novar hR
  | cons c r =>
    have hh : c < 127 := hh
    rw [show ((c :: r).headD 0) = c from rfl]
    cases hD : isD c
    · rw [if_neg ff_tt, if_pos m1_neg]
      unfold f_R_readPart_J36
      rw [if_pos m1_neg, ob_s (sR_mark hR), show ((c :: r).headD 0) = c from rfl, ob_s (sR_var (by omega) u)]
      cases hV : isV c
      · rw [sp_x hD hV, if_neg ff_tt, if_pos m1_neg]
        unfold f_R_readPart_J102
        rw [if_pos m1_neg]
        exact st_novar hR
      · have hv := isV_lt hV
        rw [sp_v hD hV, if_pos (show true = true from rfl), if_neg (show ¬ nI (c - 120) < 0 from nI_pos (by omega)), if_neg (show ¬ (-1 : Int32) = 1 by decide), if_neg (show ¬ (-1 : Int32) = 2 by decide)]
        unfold f_R_readPart_J102
        rw [if_pos m1_neg]
        have g := st_J128 (bd := bd) (sg := sg) (dg := -1) (v7 := 0) hR hs hm hc hA (v := c - 120) (by omega)
        rw [if_pos (show (0 : Int32) = 0 from rfl)] at g
        simp only [or120 hv.1]
        exact g
    · have hd := isD_lt hD
      have R1 := RK_next hR
      have hc1 : k_cn (k_p_at (k_at u + 1) u) = nI m := hc
      have A1 : AK (k_p_at (k_at u + 1) u) s a := hA
      have F1 := fr_at s (k_at u + 1) u
      have hh1 := RK_hd R1
      rw [if_pos (show true = true from rfl), if_neg (show ¬ nI (c - 48) < 0 from nI_pos (by omega)), lt_q, ob_s (sR_mark R1), ob_s (sR_dig (by omega) _), nz48 hd.1]
      generalize k_p_at (k_at u + 1) u = u1 at R1 hc1 A1 F1 hh1 ⊢
      have up : ∀ {p : Bool × List Nat × Ac} {o : Option (Int32 × KS)}, PK u1 cs s p o → PK u cs s p o := fun ⟨w, a1, a2, a3, a4⟩ => ⟨w, a1, a2, a3, fr_tr F1 a4⟩
      refine up ?_
      have n0 : ¬ zI ((c : Int) - 48) < 0 := by
        rw [← nz48 hd.1]; exact nI_pos (by omega)
      cases r with
      | nil =>
        unfold f_R_readPart_J36
        rw [sp_d0 hD, show (([] : List Nat).headD 0) = 0 from rfl, show isD 0 = false from rfl, if_neg ff_tt, if_pos m1_neg, ob_s (sR_mark R1), ob_s (sR_var (by decide) u1), show isV (([] : List Nat).headD 0) = false from rfl, if_neg ff_tt, if_pos m1_neg]
        exact st_J102n R1 hs hm hc1 A1 n0
      | cons d q =>
        have hh1 : d < 127 := hh1
        rw [show ((d :: q).headD 0) = d from rfl]
        cases hD2 : isD d
        · unfold f_R_readPart_J36
          rw [if_neg ff_tt, if_pos m1_neg, ob_s (sR_mark R1), show ((d :: q).headD 0) = d from rfl, ob_s (sR_var (by omega) u1)]
          cases hV : isV d
          · rw [sp_dn hD hD2 (fun z => by rw [hV] at z; exact ff_tt z.1), if_neg ff_tt, if_pos m1_neg]
            exact st_J102n R1 hs hm hc1 A1 n0
          · have hv := isV_lt hV
            rw [if_pos (show true = true from rfl), if_neg (show ¬ nI (d - 120) < 0 from nI_pos (by omega))]
            have g := st_J128 (bd := bd) (sg := sg) (dg := (c : Int) - 48) (v7 := 1) R1 hs hm hc1 A1 (v := d - 120) (by omega)
            rw [if_neg (show ¬ (1 : Int32) = 0 by decide)] at g
            have k1 : f_R_readPart_J102 (nI s) (opm bd) (zI sg) (zI ((c : Int) - 48)) (nI (d - 120)) 1 u1 = f_R_readPart_J128 (nI s) (opm bd) (zI sg) (zI ((c : Int) - 48)) (nI (d - 120)) 1 u1 := by
              unfold f_R_readPart_J102
              rw [if_neg n0, if_neg (show ¬ (1 : Int32) = 0 by decide)]
            by_cases h1 : c = 49
            · rw [sp_dv hD hD2 hV (Or.inl h1), if_pos (show zI ((c : Int) - 48) = 1 by rw [h1]; rfl), k1]
              simp only [or120 hv.1]
              exact g
            · rw [if_neg (show ¬ zI ((c : Int) - 48) = 1 by rw [show (1 : Int32) = zI 1 from rfl, zI_eq (by omega) (by omega) (by omega) (by omega)]; omega)]
              by_cases h2 : c = 50
              · rw [sp_dv hD hD2 hV (Or.inr h2), if_pos (show zI ((c : Int) - 48) = 2 by rw [h2]; rfl), k1]
                simp only [or120 hv.1]
                exact g
              · rw [if_neg (show ¬ zI ((c : Int) - 48) = 2 by rw [show (2 : Int32) = zI 2 from rfl, zI_eq (by omega) (by omega) (by omega) (by omega)]; omega), sp_dn hD hD2 (fun z => by rcases z.2 with y | y; exact h1 y; exact h2 y)]
                exact st_J102n R1 hs hm hc1 A1 n0
        · have hd2 := isD_lt hD2
          rw [sp_dd hD hD2, if_pos (show true = true from rfl), nz48 hd2.1]
          exact st_J36d R1 hs hm hc1 A1 (by rw [← nz48 hd2.1]; exact nI_pos (by omega))
