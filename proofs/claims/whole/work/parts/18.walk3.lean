def f_T_placeOf (a1 : Int32) (u : KS) : Option (Int32 × KS) := if a1 < 0 then some (k_ln u, u) else (if (k_sz u) ≤ a1 then some (k_ln u, u) else (gd (inb a1 120) (some (k_pl u a1.toNatClampNeg, u))))
set_option maxRecDepth 100000 in
set_option maxHeartbeats 4000000 in
theorem c_T_placeOf (l : Launch) (D : va_G) (ad : Nat → Nat) (cA : Nat → ClassId) {a1 : Int32} {u u0 : KS} {r0 : Int32} (h : f_T_placeOf a1 u = some (r0, u0)) : g_M l y_T_placeOf w_T_placeOf { frames := 0, cells := 0, slots := 0, locals := 0 } D vwCl (k_T cA) (k_W ad cA u) [.ref (ad 1), .int a1] (some (.int r0)) (k_W ad cA u0) := by
  refine g_ofW (cc := c0_T_placeOf) (maxL := 2) (ret := (some .int)) (by decide) rfl (Nat.le_of_ble_eq_true rfl) ?_
  intro p e s m below meth c A ls hx hb hr hml hown hts hlk hK hA hI hl
  have hts : ∀ w ∈ gW, w.before ([.ref (ad 1), .int a1] : List Value).toArray s = true := fun w h => hts w (List.mem_cons_of_mem _ h)
  have hown : s.vm.findClass R_T = some m.cls := hown
  have hl : lv_has ls 2 [(0, .ref (ad 1)), (1, .int a1)] := hl
  dsimp only [f_T_placeOf] at h
  refine lv_iload_n hx hb d_T_placeOf_0 rfl (lv_at hl 1 rfl) ?_
  refine lv_if_lt (tgt := 21) hx hb d_T_placeOf_1 rfl (fun hc1 => ?_) (fun hc1 => ?_)
  · rw [if_pos hc1] at h
    refine lv_aload_n hx hb d_T_placeOf_21 rfl (lv_at hl 0 rfl) ?_
    refine g_get (v := .int (k_ln u)) hx hb hts in_T hown hK hI 1 rfl rfl 3 (by decide) (hts _ wd_25) rfl d_T_placeOf_22 ?_
    exact g_iret (Wd := k_W ad cA) hx hb hr hlk hK hI h d_T_placeOf_25
  · rw [if_neg hc1] at h
    refine lv_iload_n hx hb d_T_placeOf_4 rfl (lv_at hl 1 rfl) ?_
    refine lv_aload_n hx hb d_T_placeOf_5 rfl (lv_at hl 0 rfl) ?_
    refine g_get (v := .int (k_sz u)) hx hb hts in_T hown hK hI 1 rfl rfl 2 (by decide) (hts _ wd_24) rfl d_T_placeOf_6 ?_
    refine lv_icmp_ge (tgt := 21) hx hb d_T_placeOf_9 rfl (fun hc2 => ?_) (fun hc2 => ?_)
    · rw [if_pos hc2] at h
      refine lv_aload_n hx hb d_T_placeOf_21 rfl (lv_at hl 0 rfl) ?_
      refine g_get (v := .int (k_ln u)) hx hb hts in_T hown hK hI 1 rfl rfl 3 (by decide) (hts _ wd_25) rfl d_T_placeOf_22 ?_
      exact g_iret (Wd := k_W ad cA) hx hb hr hlk hK hI h d_T_placeOf_25
    · rw [if_neg hc2] at h
      refine lv_aload_n hx hb d_T_placeOf_12 rfl (lv_at hl 0 rfl) ?_
      refine g_get (v := .ref (ad 3)) hx hb hts in_T hown hK hI 1 rfl rfl 1 (by decide) (hts _ wd_23) rfl d_T_placeOf_13 ?_
      refine lv_iload_n hx hb d_T_placeOf_16 rfl (lv_at hl 1 rfl) ?_
      obtain ⟨hg, h⟩ := gd_e h
      refine g_iald hx hb hK hI 3 1 rfl rfl hg d_T_placeOf_17 ?_
      refine lv_goto (tgt := 25) hx hb d_T_placeOf_18 rfl ?_
      exact g_iret (Wd := k_W ad cA) hx hb hr hlk hK hI h d_T_placeOf_25
def f_R_faultPlace (u : KS) : Option (Int32 × KS) := ob (f_T_placeOf (k_at u) u) fun r1 u2 => some (r1, u2)
set_option maxRecDepth 100000 in
set_option maxHeartbeats 4000000 in
theorem c_R_faultPlace (l : Launch) (D : va_G) (ad : Nat → Nat) (cA : Nat → ClassId) {u u0 : KS} {r0 : Int32} (h : f_R_faultPlace u = some (r0, u0)) : g_M l y_R_faultPlace w_R_faultPlace { frames := 1, cells := 0, slots := 0, locals := 21 } D vwCl (k_T cA) (k_W ad cA u) [.ref (ad 13)] (some (.int r0)) (k_W ad cA u0) := by
  refine g_ofW (cc := c0_R_faultPlace) (maxL := 1) (ret := (some .int)) (by decide) rfl (Nat.le_of_ble_eq_true rfl) ?_
  intro p e s m below meth c A ls hx hb hr hml hown hts hlk hK hA hI hl
  have hts : ∀ w ∈ gW, w.before ([.ref (ad 13)] : List Value).toArray s = true := fun w h => hts w (List.mem_cons_of_mem _ h)
  have hown : s.vm.findClass R_R = some m.cls := hown
  have hl : lv_has ls 1 [(0, .ref (ad 13))] := hl
  dsimp only [f_R_faultPlace] at h
  refine lv_aload_n hx hb d_R_faultPlace_0 rfl (lv_at hl 0 rfl) ?_
  refine g_get (v := .ref (ad 1)) hx hb hts in_R hown hK hI 13 rfl rfl 0 (by decide) (hts _ wd_76) rfl d_R_faultPlace_1 ?_
  refine lv_aload_n hx hb d_R_faultPlace_4 rfl (lv_at hl 0 rfl) ?_
  refine g_get (v := .int (k_at u)) hx hb hts in_R hown hK hI 13 rfl rfl 2 (by decide) (hts _ wd_78) rfl d_R_faultPlace_5 ?_
  obtain ⟨r1, u2, hc, h⟩ := ob_e h
  refine g_callV (As := [.int (k_at u)]) (rest := []) (w' := k_W ad cA u2) (o := some (.int r1)) ⟨hx, hb, hml, hown, hts⟩ (c_T_placeOf l D ad cA hc) (cwV 1 hts gq_R_48 rfl rfl rfl (by decide +kernel) ⟨Nat.le_of_ble_eq_true rfl, Nat.le_of_ble_eq_true rfl⟩) hK hI hA 1 1 rfl rfl rfl hl.1 rfl (Nat.le_of_ble_eq_true rfl) d_R_faultPlace_8 ⟨Nat.zero_le _, Nat.zero_le _⟩ rfl (fun H locs hI => ?_)
  exact g_iret (Wd := k_W ad cA) hx hb hr hlk hK hI h d_R_faultPlace_11
def f_T_clear (u : KS) : Option (Unit × KS) := lt_ (k_p_sz 0 u) fun u1 => lt_ (k_p_ln 0 u1) fun u2 => some ((), u2)
set_option maxRecDepth 100000 in
set_option maxHeartbeats 4000000 in
theorem c_T_clear (l : Launch) (D : va_G) (ad : Nat → Nat) (cA : Nat → ClassId) {u u0 : KS} {r0 : Unit} (h : f_T_clear u = some (r0, u0)) : g_M l y_T_clear w_T_clear { frames := 0, cells := 0, slots := 0, locals := 0 } D vwCl (k_T cA) (k_W ad cA u) [.ref (ad 1)] none (k_W ad cA u0) := by
  refine g_ofW (cc := c0_T_clear) (maxL := 1) (ret := none) (by decide) rfl (Nat.le_of_ble_eq_true rfl) ?_
  intro p e s m below meth c A ls hx hb hr hml hown hts hlk hK hA hI hl
  have hts : ∀ w ∈ gW, w.before ([.ref (ad 1)] : List Value).toArray s = true := fun w h => hts w (List.mem_cons_of_mem _ h)
  have hown : s.vm.findClass R_T = some m.cls := hown
  have hl : lv_has ls 1 [(0, .ref (ad 1))] := hl
  dsimp only [f_T_clear] at h
  refine lv_aload_n hx hb d_T_clear_0 rfl (lv_at hl 0 rfl) ?_
  refine lv_iconst (v := 0) hx hb d_T_clear_1 (by decide) ?_
  obtain ⟨u1, e_u1, h⟩ := lt_e h
  refine g_put (t := .int) (w' := k_W ad cA u1) hx hb hts in_T ty_T tyok_T nm_T hown hK hI 1 rfl rfl 2 (by decide) (hts _ wd_24) rfl (by decide +kernel) rfl rfl (Nat.le_of_ble_eq_true rfl) d_T_clear_2 (by subst e_u1; rfl) (fun H locs hI => ?_)
  refine lv_aload_n hx hb d_T_clear_5 rfl (lv_at hl 0 rfl) ?_
  refine lv_iconst (v := 0) hx hb d_T_clear_6 (by decide) ?_
  obtain ⟨u2, e_u2, h⟩ := lt_e h
  refine g_put (t := .int) (w' := k_W ad cA u2) hx hb hts in_T ty_T tyok_T nm_T hown hK hI 1 rfl rfl 3 (by decide) (hts _ wd_25) rfl (by decide +kernel) rfl rfl (Nat.le_of_ble_eq_true rfl) d_T_clear_7 (by subst e_u2; rfl) (fun H locs hI => ?_)
  exact g_vret (Wd := k_W ad cA) hx hb hr hlk hK hI h d_T_clear_10
def f_C_pairWord (wo : Int32 → Int32 → Int32 → KS → Option (Int64 × KS)) (a1 : Int32) (a2 : Int32) (a3 : Int32) (u : KS) : Option (Int64 × KS) := ob (wo (a1 + 1) a2 a3 u) fun r1 u2 => gd (inb a1 20) (if (k_kd u2 a1.toNatClampNeg) = 47 then (if (lg_cmp r1 ((-1))) = 0 then some (r1, u2) else (gd (inb a1 20) (ob (wo (k_sc u2 a1.toNatClampNeg) a2 a3 u2) fun r12 u13 => some (r1 ||| r12, u13)))) else (gd (inb a1 20) (if (k_kd u2 a1.toNatClampNeg) = 62 then (if (lg_cmp r1 0) = 0 then some ((-1), u2) else (gd (inb a1 20) (ob (wo (k_sc u2 a1.toNatClampNeg) a2 a3 u2) fun r9 u10 => some ((r1 ^^^ ((-1))) ||| r9, u10)))) else (if (lg_cmp r1 0) = 0 then some (r1, u2) else (gd (inb a1 20) (ob (wo (k_sc u2 a1.toNatClampNeg) a2 a3 u2) fun r6 u7 => some (r1 &&& r6, u7)))))))
set_option maxRecDepth 100000 in
set_option maxHeartbeats 4000000 in
theorem c_C_pairWord (l : Launch) (D : va_G) (ad : Nat → Nat) (cA : Nat → ClassId) (N : Nat) (wo : Int32 → Int32 → Int32 → KS → Option (Int64 × KS)) (hwo : ∀ {b1 b2 b3 : Int32} {v v0 : KS} {r1 : Int64}, wo b1 b2 b3 v = some (r1, v0) → g_M l y_C_word w_C_word { frames := 3 * N + 2, cells := 0, slots := 0, locals := 77 * N + 43 } D vwCl (k_T cA) (k_W ad cA v) [.ref (ad 4), .int b1, .int b2, .int b3] (some (.long r1)) (k_W ad cA v0)) {a1 : Int32} {a2 : Int32} {a3 : Int32} {u u0 : KS} {r0 : Int64} (h : f_C_pairWord wo a1 a2 a3 u = some (r0, u0)) : g_M l y_C_pairWord w_C_pairWord { frames := 3 * N + 3, cells := 0, slots := 0, locals := 77 * N + 66 } D vwCl (k_T cA) (k_W ad cA u) [.ref (ad 4), .int a1, .int a2, .int a3] (some (.long r0)) (k_W ad cA u0) := by
  refine g_ofW (cc := c0_C_pairWord) (maxL := 6) (ret := (some .long)) (by decide) rfl (Nat.le_of_ble_eq_true rfl) ?_
  intro p e s m below meth c A ls hx hb hr hml hown hts hlk hK hA hI hl
  have hts : ∀ w ∈ gW, w.before ([.ref (ad 4), .int a1, .int a2, .int a3] : List Value).toArray s = true := fun w h => hts w (List.mem_cons_of_mem _ h)
  have hown : s.vm.findClass R_C = some m.cls := hown
  have hl : lv_has ls 6 [(0, .ref (ad 4)), (1, .int a1), (2, .int a2), (3, .int a3)] := hl
  dsimp only [f_C_pairWord] at h
  refine lv_aload_n hx hb d_C_pairWord_0 rfl (lv_at hl 0 rfl) ?_
  refine lv_iload_n hx hb d_C_pairWord_1 rfl (lv_at hl 1 rfl) ?_
  refine lv_iconst (v := 1) hx hb d_C_pairWord_2 (by decide) ?_
  refine lv_iadd hx hb d_C_pairWord_3 ?_
  refine lv_iload_n hx hb d_C_pairWord_4 rfl (lv_at hl 2 rfl) ?_
  refine lv_iload_n hx hb d_C_pairWord_5 rfl (lv_at hl 3 rfl) ?_
  obtain ⟨r1, u2, hc, h⟩ := ob_e h
  refine g_callV (As := [.int (a1 + 1), .int a2, .int a3]) (rest := []) (w' := k_W ad cA u2) (o := some (.long r1)) ⟨hx, hb, hml, hown, hts⟩ (hwo hc) (cwV 3 hts gq_C_53 rfl rfl rfl (by decide +kernel) ⟨by dsimp only; omega, by dsimp only; omega⟩) hK hI hA 4 2 rfl rfl rfl hl.1 rfl (Nat.le_of_ble_eq_true rfl) d_C_pairWord_6 ⟨Nat.zero_le _, Nat.zero_le _⟩ rfl (fun H locs hI => ?_)
  refine lv_lstore (lv' := [(4, .long r1), (0, .ref (ad 4)), (1, .int a1), (2, .int a2), (3, .int a3)]) hx hb d_C_pairWord_9 hl (by decide) rfl (fun ls hl => ?_)
  refine lv_aload_n hx hb d_C_pairWord_11 rfl (lv_at hl 1 rfl) ?_
  refine g_get (v := .ref (ad 5)) hx hb hts in_C hown hK hI 4 rfl rfl 0 (by decide) (hts _ wd_42) rfl d_C_pairWord_12 ?_
  refine lv_iload_n hx hb d_C_pairWord_15 rfl (lv_at hl 2 rfl) ?_
  obtain ⟨hg, h⟩ := gd_e h
  refine g_iald hx hb hK hI 5 2 rfl rfl hg d_C_pairWord_16 ?_
  refine lv_bipush (v := 47) hx hb d_C_pairWord_17 (by decide) ?_
  refine lv_icmp_ne (tgt := 52) hx hb d_C_pairWord_19 rfl (fun hc3 => ?_) (fun hc3 => ?_)
  · rw [if_neg hc3] at h
    refine lv_aload_n hx hb d_C_pairWord_52 rfl (lv_at hl 1 rfl) ?_
    refine g_get (v := .ref (ad 5)) hx hb hts in_C hown hK hI 4 rfl rfl 0 (by decide) (hts _ wd_42) rfl d_C_pairWord_53 ?_
    refine lv_iload_n hx hb d_C_pairWord_56 rfl (lv_at hl 2 rfl) ?_
    obtain ⟨hg, h⟩ := gd_e h
    refine g_iald hx hb hK hI 5 2 rfl rfl hg d_C_pairWord_57 ?_
    refine lv_bipush (v := 62) hx hb d_C_pairWord_58 (by decide) ?_
    refine lv_icmp_ne (tgt := 96) hx hb d_C_pairWord_60 rfl (fun hc4 => ?_) (fun hc4 => ?_)
    · rw [if_neg hc4] at h
      refine lv_lload hx hb d_C_pairWord_96 (lv_at hl 0 rfl) ?_
      refine lv_lconst (v := 0) hx hb d_C_pairWord_98 (by decide) ?_
      refine W.lcmp hx hb d_C_pairWord_99 ?_
      refine lv_if_ne (tgt := 108) hx hb d_C_pairWord_100 rfl (fun hc5 => ?_) (fun hc5 => ?_)
      · rw [if_neg hc5] at h
        refine lv_lload hx hb d_C_pairWord_108 (lv_at hl 0 rfl) ?_
        refine lv_aload_n hx hb d_C_pairWord_110 rfl (lv_at hl 1 rfl) ?_
        refine lv_aload_n hx hb d_C_pairWord_111 rfl (lv_at hl 1 rfl) ?_
        refine g_get (v := .ref (ad 6)) hx hb hts in_C hown hK hI 4 rfl rfl 1 (by decide) (hts _ wd_43) rfl d_C_pairWord_112 ?_
        refine lv_iload_n hx hb d_C_pairWord_115 rfl (lv_at hl 2 rfl) ?_
        obtain ⟨hg, h⟩ := gd_e h
        refine g_iald hx hb hK hI 6 3 rfl rfl hg d_C_pairWord_116 ?_
        refine lv_iload_n hx hb d_C_pairWord_117 rfl (lv_at hl 3 rfl) ?_
        refine lv_iload_n hx hb d_C_pairWord_118 rfl (lv_at hl 4 rfl) ?_
        obtain ⟨r6, u7, hc, h⟩ := ob_e h
        refine g_callV (As := [.int (k_sc u2 a1.toNatClampNeg), .int a2, .int a3]) (rest := [.long r1]) (w' := k_W ad cA u7) (o := some (.long r6)) ⟨hx, hb, hml, hown, hts⟩ (hwo hc) (cwV 3 hts gq_C_53 rfl rfl rfl (by decide +kernel) ⟨by dsimp only; omega, by dsimp only; omega⟩) hK hI hA 4 2 rfl rfl rfl hl.1 rfl (Nat.le_of_ble_eq_true rfl) d_C_pairWord_119 ⟨Nat.zero_le _, Nat.zero_le _⟩ rfl (fun H locs hI => ?_)
        refine lv_land hx hb d_C_pairWord_122 ?_
        exact g_lret (Wd := k_W ad cA) hx hb hr hlk hK hI h d_C_pairWord_123
      · rw [if_pos hc5] at h
        refine lv_lload hx hb d_C_pairWord_103 (lv_at hl 0 rfl) ?_
        refine lv_goto (tgt := 123) hx hb d_C_pairWord_105 rfl ?_
        exact g_lret (Wd := k_W ad cA) hx hb hr hlk hK hI h d_C_pairWord_123
    · rw [if_pos hc4] at h
      refine lv_lload hx hb d_C_pairWord_63 (lv_at hl 0 rfl) ?_
      refine lv_lconst (v := 0) hx hb d_C_pairWord_65 (by decide) ?_
      refine W.lcmp hx hb d_C_pairWord_66 ?_
      refine lv_if_ne (tgt := 76) hx hb d_C_pairWord_67 rfl (fun hc8 => ?_) (fun hc8 => ?_)
      · rw [if_neg hc8] at h
        refine lv_lload hx hb d_C_pairWord_76 (lv_at hl 0 rfl) ?_
        refine lv_ldc2 (v := (-1)) hx hb hown (hts _ wd_277) d_C_pairWord_78 ?_
        refine lv_lxor hx hb d_C_pairWord_81 ?_
        refine lv_aload_n hx hb d_C_pairWord_82 rfl (lv_at hl 1 rfl) ?_
        refine lv_aload_n hx hb d_C_pairWord_83 rfl (lv_at hl 1 rfl) ?_
        refine g_get (v := .ref (ad 6)) hx hb hts in_C hown hK hI 4 rfl rfl 1 (by decide) (hts _ wd_43) rfl d_C_pairWord_84 ?_
        refine lv_iload_n hx hb d_C_pairWord_87 rfl (lv_at hl 2 rfl) ?_
        obtain ⟨hg, h⟩ := gd_e h
        refine g_iald hx hb hK hI 6 3 rfl rfl hg d_C_pairWord_88 ?_
        refine lv_iload_n hx hb d_C_pairWord_89 rfl (lv_at hl 3 rfl) ?_
        refine lv_iload_n hx hb d_C_pairWord_90 rfl (lv_at hl 4 rfl) ?_
        obtain ⟨r9, u10, hc, h⟩ := ob_e h
        refine g_callV (As := [.int (k_sc u2 a1.toNatClampNeg), .int a2, .int a3]) (rest := [.long (r1 ^^^ ((-1)))]) (w' := k_W ad cA u10) (o := some (.long r9)) ⟨hx, hb, hml, hown, hts⟩ (hwo hc) (cwV 3 hts gq_C_53 rfl rfl rfl (by decide +kernel) ⟨by dsimp only; omega, by dsimp only; omega⟩) hK hI hA 4 2 rfl rfl rfl hl.1 rfl (Nat.le_of_ble_eq_true rfl) d_C_pairWord_91 ⟨Nat.zero_le _, Nat.zero_le _⟩ rfl (fun H locs hI => ?_)
        refine lv_lor hx hb d_C_pairWord_94 ?_
        exact g_lret (Wd := k_W ad cA) hx hb hr hlk hK hI h d_C_pairWord_95
      · rw [if_pos hc8] at h
        refine lv_ldc2 (v := (-1)) hx hb hown (hts _ wd_277) d_C_pairWord_70 ?_
        refine lv_goto (tgt := 95) hx hb d_C_pairWord_73 rfl ?_
        exact g_lret (Wd := k_W ad cA) hx hb hr hlk hK hI h d_C_pairWord_95
  · rw [if_pos hc3] at h
    refine lv_lload hx hb d_C_pairWord_22 (lv_at hl 0 rfl) ?_
    refine lv_ldc2 (v := (-1)) hx hb hown (hts _ wd_277) d_C_pairWord_24 ?_
    refine W.lcmp hx hb d_C_pairWord_27 ?_
    refine lv_if_ne (tgt := 36) hx hb d_C_pairWord_28 rfl (fun hc11 => ?_) (fun hc11 => ?_)
    · rw [if_neg hc11] at h
      refine lv_lload hx hb d_C_pairWord_36 (lv_at hl 0 rfl) ?_
      refine lv_aload_n hx hb d_C_pairWord_38 rfl (lv_at hl 1 rfl) ?_
      refine lv_aload_n hx hb d_C_pairWord_39 rfl (lv_at hl 1 rfl) ?_
      refine g_get (v := .ref (ad 6)) hx hb hts in_C hown hK hI 4 rfl rfl 1 (by decide) (hts _ wd_43) rfl d_C_pairWord_40 ?_
      refine lv_iload_n hx hb d_C_pairWord_43 rfl (lv_at hl 2 rfl) ?_
      obtain ⟨hg, h⟩ := gd_e h
      refine g_iald hx hb hK hI 6 3 rfl rfl hg d_C_pairWord_44 ?_
      refine lv_iload_n hx hb d_C_pairWord_45 rfl (lv_at hl 3 rfl) ?_
      refine lv_iload_n hx hb d_C_pairWord_46 rfl (lv_at hl 4 rfl) ?_
      obtain ⟨r12, u13, hc, h⟩ := ob_e h
      refine g_callV (As := [.int (k_sc u2 a1.toNatClampNeg), .int a2, .int a3]) (rest := [.long r1]) (w' := k_W ad cA u13) (o := some (.long r12)) ⟨hx, hb, hml, hown, hts⟩ (hwo hc) (cwV 3 hts gq_C_53 rfl rfl rfl (by decide +kernel) ⟨by dsimp only; omega, by dsimp only; omega⟩) hK hI hA 4 2 rfl rfl rfl hl.1 rfl (Nat.le_of_ble_eq_true rfl) d_C_pairWord_47 ⟨Nat.zero_le _, Nat.zero_le _⟩ rfl (fun H locs hI => ?_)
      refine lv_lor hx hb d_C_pairWord_50 ?_
      exact g_lret (Wd := k_W ad cA) hx hb hr hlk hK hI h d_C_pairWord_51
    · rw [if_pos hc11] at h
      refine lv_lload hx hb d_C_pairWord_31 (lv_at hl 0 rfl) ?_
      refine lv_goto (tgt := 51) hx hb d_C_pairWord_33 rfl ?_
      exact g_lret (Wd := k_W ad cA) hx hb hr hlk hK hI h d_C_pairWord_51
def f_C_isSo_L35 (wo : Int32 → Int32 → Int32 → KS → Option (Int64 × KS)) (n : Nat) : Int32 → Int32 → Int32 → Int32 → Int64 → Int32 → KS → Option (Int32 × KS) := match n with
  | 0 => fun _ _ _ _ _ _ _ => none
  | n + 1 => fun v1 v2 v3 v4 v5 v7 u => if v3 ≤ v7 then (gd (bz v4) (some (v4, u))) else (gd (inb v1 20) (ob (wo (v1 + 1) (k_vr u v1.toNatClampNeg) (v2 + (v7 * 64)) u) fun r4 u5 => if (lg_cmp r4 v5) = 0 then (lt_ (v7 + 1) fun x7 => f_C_isSo_L35 wo n v1 v2 v3 v4 v5 x7 u5) else (if v4 = 0 then (gd (bz 1) (some (1, u5))) else (gd (bz 0) (some (0, u5))))))
def f_C_isSo_J16 (wo : Int32 → Int32 → Int32 → KS → Option (Int64 × KS)) (v1 : Int32) (v2 : Int32) (v3 : Int32) (t0 : Int32) (u : KS) : Option (Int32 × KS) := if t0 = 0 then f_C_isSo_L35 wo 4096 v1 v2 v3 t0 0 0 u else f_C_isSo_L35 wo 4096 v1 v2 v3 t0 ((-1)) 0 u
def f_C_isSo (wo : Int32 → Int32 → Int32 → KS → Option (Int64 × KS)) (a1 : Int32) (a2 : Int32) (a3 : Int32) (u : KS) : Option (Int32 × KS) := gd (inb a1 20) (if (k_kd u a1.toNatClampNeg) = 65 then f_C_isSo_J16 wo a1 a2 a3 1 u else f_C_isSo_J16 wo a1 a2 a3 0 u)
set_option maxRecDepth 100000 in
set_option maxHeartbeats 4000000 in
theorem c_C_isSo (l : Launch) (D : va_G) (ad : Nat → Nat) (cA : Nat → ClassId) (N : Nat) (wo : Int32 → Int32 → Int32 → KS → Option (Int64 × KS)) (hwo : ∀ {b1 b2 b3 : Int32} {v v0 : KS} {r1 : Int64}, wo b1 b2 b3 v = some (r1, v0) → g_M l y_C_word w_C_word { frames := 3 * N + 2, cells := 0, slots := 0, locals := 77 * N + 43 } D vwCl (k_T cA) (k_W ad cA v) [.ref (ad 4), .int b1, .int b2, .int b3] (some (.long r1)) (k_W ad cA v0)) {a1 : Int32} {a2 : Int32} {a3 : Int32} {u u0 : KS} {r0 : Int32} (h : f_C_isSo wo a1 a2 a3 u = some (r0, u0)) : g_M l y_C_isSo w_C_isSo { frames := 3 * N + 3, cells := 0, slots := 0, locals := 77 * N + 66 } D vwCl (k_T cA) (k_W ad cA u) [.ref (ad 4), .int a1, .int a2, .int a3] (some (.int r0)) (k_W ad cA u0) := by
  refine g_ofW (cc := c0_C_isSo) (maxL := 8) (ret := (some .boolean)) (by decide) rfl (Nat.le_of_ble_eq_true rfl) ?_
  intro p e s m below meth c A ls hx hb hr hml hown hts hlk hK hA hI hl
  have hts : ∀ w ∈ gW, w.before ([.ref (ad 4), .int a1, .int a2, .int a3] : List Value).toArray s = true := fun w h => hts w (List.mem_cons_of_mem _ h)
  have hown : s.vm.findClass R_C = some m.cls := hown
  have hl : lv_has ls 8 [(0, .ref (ad 4)), (1, .int a1), (2, .int a2), (3, .int a3)] := hl
  have w35 : ∀ (n : Nat) (v1 : Int32) (v2 : Int32) (v3 : Int32) (v4 : Int32) (v5 : Int64) (v7 : Int32) (u : KS) (H : Heap) (locs : List Loc) (ls : Array Slot), lv_has ls 8 [(0, .ref (ad 4)), (1, .int v1), (2, .int v2), (3, .int v3), (4, .int v4), (5, .long v5), (7, .int v7)] → g_I D vwCl A s.heap H locs (k_W ad cA u) → f_C_isSo_L35 wo n v1 v2 v3 v4 v5 v7 u = some (r0, u0) → W p l e { frames := 3 * N + 3, cells := 0, slots := 0, locals := 77 * N + 66 } s m ([.ref (ad 4), .int a1, .int a2, .int a3] : List Value).toArray below meth c H locs 0 0 (MQ below (g_Q D vwCl (k_T cA) (k_W ad cA u0) A (some (.int r0))) ([.ref (ad 4), .int a1, .int a2, .int a3] : List Value).toArray s 0 0 A) (F0 m 35 ls []) := by
    intro  n
    induction n with
    | zero => intro v1 v2 v3 v4 v5 v7 u H locs ls hl hI h; cases h
    | succ n ih =>
      intro v1 v2 v3 v4 v5 v7 u H locs ls hl hI h
      dsimp only [f_C_isSo_L35] at h
      refine lv_iload hx hb d_C_isSo_35 (lv_at hl 6 rfl) ?_
      refine lv_iload_n hx hb d_C_isSo_37 rfl (lv_at hl 3 rfl) ?_
      refine lv_icmp_ge (tgt := 84) hx hb d_C_isSo_38 rfl (fun hc3 => ?_) (fun hc3 => ?_)
      · rw [if_pos hc3] at h
        refine lv_iload hx hb d_C_isSo_84 (lv_at hl 4 rfl) ?_
        exact g_zret (Wd := k_W ad cA) hx hb hr hlk hK hI h d_C_isSo_86
      · rw [if_neg hc3] at h
        refine lv_aload_n hx hb d_C_isSo_41 rfl (lv_at hl 0 rfl) ?_
        refine lv_iload_n hx hb d_C_isSo_42 rfl (lv_at hl 1 rfl) ?_
        refine lv_iconst (v := 1) hx hb d_C_isSo_43 (by decide) ?_
        refine lv_iadd hx hb d_C_isSo_44 ?_
        refine lv_aload_n hx hb d_C_isSo_45 rfl (lv_at hl 0 rfl) ?_
        refine g_get (v := .ref (ad 7)) hx hb hts in_C hown hK hI 4 rfl rfl 2 (by decide) (hts _ wd_44) rfl d_C_isSo_46 ?_
        refine lv_iload_n hx hb d_C_isSo_49 rfl (lv_at hl 1 rfl) ?_
        obtain ⟨hg, h⟩ := gd_e h
        refine g_iald hx hb hK hI 7 4 rfl rfl hg d_C_isSo_50 ?_
        refine lv_iload_n hx hb d_C_isSo_51 rfl (lv_at hl 2 rfl) ?_
        refine lv_iload hx hb d_C_isSo_52 (lv_at hl 6 rfl) ?_
        refine lv_bipush (v := 64) hx hb d_C_isSo_54 (by decide) ?_
        refine lv_imul hx hb d_C_isSo_56 ?_
        refine lv_iadd hx hb d_C_isSo_57 ?_
        obtain ⟨r4, u5, hc, h⟩ := ob_e h
        refine g_callV (As := [.int (v1 + 1), .int (k_vr u v1.toNatClampNeg), .int (v2 + (v7 * 64))]) (rest := []) (w' := k_W ad cA u5) (o := some (.long r4)) ⟨hx, hb, hml, hown, hts⟩ (hwo hc) (cwV 3 hts gq_C_53 rfl rfl rfl (by decide +kernel) ⟨by dsimp only; omega, by dsimp only; omega⟩) hK hI hA 4 2 rfl rfl rfl hl.1 rfl (Nat.le_of_ble_eq_true rfl) d_C_isSo_58 ⟨Nat.zero_le _, Nat.zero_le _⟩ rfl (fun H locs hI => ?_)
        refine lv_lload hx hb d_C_isSo_61 (lv_at hl 5 rfl) ?_
        refine W.lcmp hx hb d_C_isSo_63 ?_
        refine lv_if_eq (tgt := 78) hx hb d_C_isSo_64 rfl (fun hc6 => ?_) (fun hc6 => ?_)
        · rw [if_pos hc6] at h
          obtain ⟨x7, e_x7, h⟩ := lt_e h
          refine lv_iinc (v := x7) (k := 6) hx hb d_C_isSo_78 hl rfl (by subst e_x7; rfl) (by decide) rfl (fun ls hl => ?_)
          refine lv_goto (tgt := 35) hx hb d_C_isSo_81 rfl ?_
          exact ih v1 v2 v3 v4 v5 x7 u5 _ _ _ (lv_sub hl [1, 2, 3, 4, 5, 6, 0] rfl) hI h
        · rw [if_neg hc6] at h
          refine lv_iload hx hb d_C_isSo_67 (lv_at hl 4 rfl) ?_
          refine lv_if_ne (tgt := 76) hx hb d_C_isSo_69 rfl (fun hc8 => ?_) (fun hc8 => ?_)
          · rw [if_neg hc8] at h
            refine lv_iconst (v := 0) hx hb d_C_isSo_76 (by decide) ?_
            exact g_zret (Wd := k_W ad cA) hx hb hr hlk hK hI h d_C_isSo_77
          · rw [if_pos hc8] at h
            refine lv_iconst (v := 1) hx hb d_C_isSo_72 (by decide) ?_
            refine lv_goto (tgt := 77) hx hb d_C_isSo_73 rfl ?_
            exact g_zret (Wd := k_W ad cA) hx hb hr hlk hK hI h d_C_isSo_77
  have w16 : ∀ (v1 : Int32) (v2 : Int32) (v3 : Int32) (t0 : Int32) (u : KS) (H : Heap) (locs : List Loc) (ls : Array Slot), lv_has ls 8 [(0, .ref (ad 4)), (1, .int v1), (2, .int v2), (3, .int v3)] → g_I D vwCl A s.heap H locs (k_W ad cA u) → f_C_isSo_J16 wo v1 v2 v3 t0 u = some (r0, u0) → W p l e { frames := 3 * N + 3, cells := 0, slots := 0, locals := 77 * N + 66 } s m ([.ref (ad 4), .int a1, .int a2, .int a3] : List Value).toArray below meth c H locs 0 0 (MQ below (g_Q D vwCl (k_T cA) (k_W ad cA u0) A (some (.int r0))) ([.ref (ad 4), .int a1, .int a2, .int a3] : List Value).toArray s 0 0 A) (F0 m 16 ls [.int t0]) := by
    intro  v1 v2 v3 t0 u H locs ls hl hI h
    dsimp only [f_C_isSo_J16] at h
    refine lv_istore (lv' := [(4, .int t0), (0, .ref (ad 4)), (1, .int v1), (2, .int v2), (3, .int v3)]) hx hb d_C_isSo_16 hl (by decide) rfl (fun ls hl => ?_)
    refine lv_iload hx hb d_C_isSo_18 (lv_at hl 0 rfl) ?_
    refine lv_if_eq (tgt := 29) hx hb d_C_isSo_20 rfl (fun hc2 => ?_) (fun hc2 => ?_)
    · rw [if_pos hc2] at h
      refine lv_lconst (v := 0) hx hb d_C_isSo_29 (by decide) ?_
      refine lv_lstore (lv' := [(5, .long 0), (4, .int t0), (0, .ref (ad 4)), (1, .int v1), (2, .int v2), (3, .int v3)]) hx hb d_C_isSo_30 hl (by decide) rfl (fun ls hl => ?_)
      refine lv_iconst (v := 0) hx hb d_C_isSo_32 (by decide) ?_
      refine lv_istore (lv' := [(7, .int 0), (5, .long 0), (4, .int t0), (0, .ref (ad 4)), (1, .int v1), (2, .int v2), (3, .int v3)]) hx hb d_C_isSo_33 hl (by decide) rfl (fun ls hl => ?_)
      exact w35 4096 v1 v2 v3 t0 0 0 u _ _ _ (lv_sub hl [3, 4, 5, 6, 2, 1, 0] rfl) hI h
    · rw [if_neg hc2] at h
      refine lv_ldc2 (v := (-1)) hx hb hown (hts _ wd_277) d_C_isSo_23 ?_
      refine lv_goto (tgt := 30) hx hb d_C_isSo_26 rfl ?_
      refine lv_lstore (lv' := [(5, .long ((-1))), (4, .int t0), (0, .ref (ad 4)), (1, .int v1), (2, .int v2), (3, .int v3)]) hx hb d_C_isSo_30 hl (by decide) rfl (fun ls hl => ?_)
      refine lv_iconst (v := 0) hx hb d_C_isSo_32 (by decide) ?_
      refine lv_istore (lv' := [(7, .int 0), (5, .long ((-1))), (4, .int t0), (0, .ref (ad 4)), (1, .int v1), (2, .int v2), (3, .int v3)]) hx hb d_C_isSo_33 hl (by decide) rfl (fun ls hl => ?_)
      exact w35 4096 v1 v2 v3 t0 ((-1)) 0 u _ _ _ (lv_sub hl [3, 4, 5, 6, 2, 1, 0] rfl) hI h
  dsimp only [f_C_isSo] at h
  refine lv_aload_n hx hb d_C_isSo_0 rfl (lv_at hl 0 rfl) ?_
  refine g_get (v := .ref (ad 5)) hx hb hts in_C hown hK hI 4 rfl rfl 0 (by decide) (hts _ wd_42) rfl d_C_isSo_1 ?_
  refine lv_iload_n hx hb d_C_isSo_4 rfl (lv_at hl 1 rfl) ?_
  obtain ⟨hg, h⟩ := gd_e h
  refine g_iald hx hb hK hI 5 2 rfl rfl hg d_C_isSo_5 ?_
  refine lv_bipush (v := 65) hx hb d_C_isSo_6 (by decide) ?_
  refine lv_icmp_ne (tgt := 15) hx hb d_C_isSo_8 rfl (fun hc1 => ?_) (fun hc1 => ?_)
  · rw [if_neg hc1] at h
    refine lv_iconst (v := 0) hx hb d_C_isSo_15 (by decide) ?_
    exact w16 a1 a2 a3 0 u _ _ _ (lv_sub hl [0, 1, 2, 3] rfl) hI h
  · rw [if_pos hc1] at h
    refine lv_iconst (v := 1) hx hb d_C_isSo_11 (by decide) ?_
    refine lv_goto (tgt := 16) hx hb d_C_isSo_12 rfl ?_
    exact w16 a1 a2 a3 1 u _ _ _ (lv_sub hl [0, 1, 2, 3] rfl) hI h
def f_C_quantifiedWord_L44 (wo : Int32 → Int32 → Int32 → KS → Option (Int64 × KS)) (n : Nat) : Int32 → Int32 → Int32 → Int64 → Int32 → KS → Option (Int64 × KS) := match n with
  | 0 => fun _ _ _ _ _ _ => none
  | n + 1 => fun v1 v2 v3 v4 v6 u => if 64 ≤ v6 then some (v4, u) else (gd (inb v2 3) (lt_ (k_p_va (upd (k_va u) v2.toNatClampNeg (v3 + v6)) u) fun u10 => ob (f_C_isSo wo v1 ((-224)) 7 u10) fun r11 u12 => if r11 = 0 then (lt_ (v6 + 1) fun x14 => f_C_quantifiedWord_L44 wo n v1 v2 v3 v4 x14 u12) else (lt_ (v4 ||| ((1 : Int64) <<< (v6.toInt64 &&& 63))) fun x15 => lt_ (v6 + 1) fun x16 => f_C_quantifiedWord_L44 wo n v1 v2 v3 x15 x16 u12)))
def f_C_quantifiedWord (wo : Int32 → Int32 → Int32 → KS → Option (Int64 × KS)) (a1 : Int32) (a2 : Int32) (a3 : Int32) (u : KS) : Option (Int64 × KS) := ob (f_C_isOpen a1 u) fun r1 u2 => if r1 = 0 then (ob (f_C_isSo wo a1 ((-96)) 3 u2) fun r6 u7 => if r6 = 0 then some (0, u7) else some ((-1), u7)) else (if a2 < 0 then some (0, u2) else (if a2 < 3 then f_C_quantifiedWord_L44 wo 4096 a1 a2 a3 0 0 u2 else some (0, u2)))
set_option maxRecDepth 100000 in
set_option maxHeartbeats 4000000 in
theorem c_C_quantifiedWord (l : Launch) (D : va_G) (ad : Nat → Nat) (cA : Nat → ClassId) (N : Nat) (wo : Int32 → Int32 → Int32 → KS → Option (Int64 × KS)) (hwo : ∀ {b1 b2 b3 : Int32} {v v0 : KS} {r1 : Int64}, wo b1 b2 b3 v = some (r1, v0) → g_M l y_C_word w_C_word { frames := 3 * N + 2, cells := 0, slots := 0, locals := 77 * N + 43 } D vwCl (k_T cA) (k_W ad cA v) [.ref (ad 4), .int b1, .int b2, .int b3] (some (.long r1)) (k_W ad cA v0)) {a1 : Int32} {a2 : Int32} {a3 : Int32} {u u0 : KS} {r0 : Int64} (h : f_C_quantifiedWord wo a1 a2 a3 u = some (r0, u0)) : g_M l y_C_quantifiedWord w_C_quantifiedWord { frames := 3 * N + 4, cells := 0, slots := 0, locals := 77 * N + 93 } D vwCl (k_T cA) (k_W ad cA u) [.ref (ad 4), .int a1, .int a2, .int a3] (some (.long r0)) (k_W ad cA u0) := by
  refine g_ofW (cc := c0_C_quantifiedWord) (maxL := 7) (ret := (some .long)) (by decide) rfl (Nat.le_of_ble_eq_true rfl) ?_
  intro p e s m below meth c A ls hx hb hr hml hown hts hlk hK hA hI hl
  have hts : ∀ w ∈ gW, w.before ([.ref (ad 4), .int a1, .int a2, .int a3] : List Value).toArray s = true := fun w h => hts w (List.mem_cons_of_mem _ h)
  have hown : s.vm.findClass R_C = some m.cls := hown
  have hl : lv_has ls 7 [(0, .ref (ad 4)), (1, .int a1), (2, .int a2), (3, .int a3)] := hl
  have w44 : ∀ (n : Nat) (v1 : Int32) (v2 : Int32) (v3 : Int32) (v4 : Int64) (v6 : Int32) (u : KS) (H : Heap) (locs : List Loc) (ls : Array Slot), lv_has ls 7 [(0, .ref (ad 4)), (1, .int v1), (2, .int v2), (3, .int v3), (4, .long v4), (6, .int v6)] → g_I D vwCl A s.heap H locs (k_W ad cA u) → f_C_quantifiedWord_L44 wo n v1 v2 v3 v4 v6 u = some (r0, u0) → W p l e { frames := 3 * N + 4, cells := 0, slots := 0, locals := 77 * N + 93 } s m ([.ref (ad 4), .int a1, .int a2, .int a3] : List Value).toArray below meth c H locs 0 0 (MQ below (g_Q D vwCl (k_T cA) (k_W ad cA u0) A (some (.long r0))) ([.ref (ad 4), .int a1, .int a2, .int a3] : List Value).toArray s 0 0 A) (F0 m 44 ls []) := by
    intro  n
    induction n with
    | zero => intro v1 v2 v3 v4 v6 u H locs ls hl hI h; cases h
    | succ n ih =>
      intro v1 v2 v3 v4 v6 u H locs ls hl hI h
      dsimp only [f_C_quantifiedWord_L44] at h
      refine lv_iload hx hb d_C_quantifiedWord_44 (lv_at hl 5 rfl) ?_
      refine lv_bipush (v := 64) hx hb d_C_quantifiedWord_46 (by decide) ?_
      refine lv_icmp_ge (tgt := 89) hx hb d_C_quantifiedWord_48 rfl (fun hc9 => ?_) (fun hc9 => ?_)
      · rw [if_pos hc9] at h
        refine lv_lload hx hb d_C_quantifiedWord_89 (lv_at hl 4 rfl) ?_
        exact g_lret (Wd := k_W ad cA) hx hb hr hlk hK hI h d_C_quantifiedWord_91
      · rw [if_neg hc9] at h
        refine lv_aload_n hx hb d_C_quantifiedWord_51 rfl (lv_at hl 0 rfl) ?_
        refine g_get (v := .ref (ad 12)) hx hb hts in_C hown hK hI 4 rfl rfl 7 (by decide) (hts _ wd_49) rfl d_C_quantifiedWord_52 ?_
        refine lv_iload_n hx hb d_C_quantifiedWord_55 rfl (lv_at hl 2 rfl) ?_
        refine lv_iload_n hx hb d_C_quantifiedWord_56 rfl (lv_at hl 3 rfl) ?_
        refine lv_iload hx hb d_C_quantifiedWord_57 (lv_at hl 5 rfl) ?_
        refine lv_iadd hx hb d_C_quantifiedWord_59 ?_
        obtain ⟨hg, h⟩ := gd_e h
        obtain ⟨u10, e_u10, h⟩ := lt_e h
        refine g_iast (w' := k_W ad cA u10) hx hb hK hI 12 9 rfl rfl hg d_C_quantifiedWord_60 (by subst e_u10; rfl) (fun H locs hI => ?_)
        refine lv_aload_n hx hb d_C_quantifiedWord_61 rfl (lv_at hl 0 rfl) ?_
        refine lv_iload_n hx hb d_C_quantifiedWord_62 rfl (lv_at hl 1 rfl) ?_
        refine lv_sipush (v := (-224)) hx hb d_C_quantifiedWord_63 (by decide) ?_
        refine lv_bipush (v := 7) hx hb d_C_quantifiedWord_66 (by decide) ?_
        obtain ⟨r11, u12, hc, h⟩ := ob_e h
        refine g_callV (As := [.int v1, .int ((-224)), .int 7]) (rest := []) (w' := k_W ad cA u12) (o := some (.int r11)) ⟨hx, hb, hml, hown, hts⟩ (c_C_isSo l D ad cA N wo hwo hc) (cwV 3 hts gq_C_88 rfl rfl rfl (by decide +kernel) ⟨by dsimp only; omega, by dsimp only; omega⟩) hK hI hA 4 2 rfl rfl rfl hl.1 rfl (Nat.le_of_ble_eq_true rfl) d_C_quantifiedWord_68 ⟨Nat.zero_le _, Nat.zero_le _⟩ rfl (fun H locs hI => ?_)
        refine lv_if_eq (tgt := 83) hx hb d_C_quantifiedWord_71 rfl (fun hc13 => ?_) (fun hc13 => ?_)
        · rw [if_pos hc13] at h
          obtain ⟨x14, e_x14, h⟩ := lt_e h
          refine lv_iinc (v := x14) (k := 5) hx hb d_C_quantifiedWord_83 hl rfl (by subst e_x14; rfl) (by decide) rfl (fun ls hl => ?_)
          refine lv_goto (tgt := 44) hx hb d_C_quantifiedWord_86 rfl ?_
          exact ih v1 v2 v3 v4 x14 u12 _ _ _ (lv_sub hl [1, 2, 3, 4, 5, 0] rfl) hI h
        · rw [if_neg hc13] at h
          refine lv_lload hx hb d_C_quantifiedWord_74 (lv_at hl 4 rfl) ?_
          refine lv_lconst (v := 1) hx hb d_C_quantifiedWord_76 (by decide) ?_
          refine lv_iload hx hb d_C_quantifiedWord_77 (lv_at hl 5 rfl) ?_
          refine lv_lshl hx hb d_C_quantifiedWord_79 rfl ?_
          refine lv_lor hx hb d_C_quantifiedWord_80 ?_
          obtain ⟨x15, e_x15, h⟩ := lt_e h
          refine lv_lstore (lv' := [(4, .long x15), (0, .ref (ad 4)), (1, .int v1), (2, .int v2), (3, .int v3), (6, .int v6)]) hx hb d_C_quantifiedWord_81 hl (by decide) (by subst e_x15; rfl) (fun ls hl => ?_)
          obtain ⟨x16, e_x16, h⟩ := lt_e h
          refine lv_iinc (v := x16) (k := 5) hx hb d_C_quantifiedWord_83 hl rfl (by subst e_x16; rfl) (by decide) rfl (fun ls hl => ?_)
          refine lv_goto (tgt := 44) hx hb d_C_quantifiedWord_86 rfl ?_
          exact ih v1 v2 v3 x15 x16 u12 _ _ _ (lv_sub hl [2, 3, 4, 5, 1, 0] rfl) hI h
  dsimp only [f_C_quantifiedWord] at h
  refine lv_aload_n hx hb d_C_quantifiedWord_0 rfl (lv_at hl 0 rfl) ?_
  refine lv_iload_n hx hb d_C_quantifiedWord_1 rfl (lv_at hl 1 rfl) ?_
  obtain ⟨r1, u2, hc, h⟩ := ob_e h
  refine g_callV (As := [.int a1]) (rest := []) (w' := k_W ad cA u2) (o := some (.int r1)) ⟨hx, hb, hml, hown, hts⟩ (c_C_isOpen l D ad cA hc) (cwV 1 hts gq_C_83 rfl rfl rfl (by decide +kernel) ⟨by dsimp only; omega, by dsimp only; omega⟩) hK hI hA 4 2 rfl rfl rfl hl.1 rfl (Nat.le_of_ble_eq_true rfl) d_C_quantifiedWord_2 ⟨Nat.zero_le _, Nat.zero_le _⟩ rfl (fun H locs hI => ?_)
  refine lv_if_ne (tgt := 27) hx hb d_C_quantifiedWord_5 rfl (fun hc3 => ?_) (fun hc3 => ?_)
  · rw [if_neg hc3] at h
    refine lv_iload_n hx hb d_C_quantifiedWord_27 rfl (lv_at hl 2 rfl) ?_
    refine lv_if_lt (tgt := 36) hx hb d_C_quantifiedWord_28 rfl (fun hc4 => ?_) (fun hc4 => ?_)
    · rw [if_pos hc4] at h
      refine lv_lconst (v := 0) hx hb d_C_quantifiedWord_36 (by decide) ?_
      exact g_lret (Wd := k_W ad cA) hx hb hr hlk hK hI h d_C_quantifiedWord_37
    · rw [if_neg hc4] at h
      refine lv_iload_n hx hb d_C_quantifiedWord_31 rfl (lv_at hl 2 rfl) ?_
      refine lv_iconst (v := 3) hx hb d_C_quantifiedWord_32 (by decide) ?_
      refine lv_icmp_lt (tgt := 38) hx hb d_C_quantifiedWord_33 rfl (fun hc5 => ?_) (fun hc5 => ?_)
      · rw [if_pos hc5] at h
        refine lv_lconst (v := 0) hx hb d_C_quantifiedWord_38 (by decide) ?_
        refine lv_lstore (lv' := [(4, .long 0), (0, .ref (ad 4)), (1, .int a1), (2, .int a2), (3, .int a3)]) hx hb d_C_quantifiedWord_39 hl (by decide) rfl (fun ls hl => ?_)
        refine lv_iconst (v := 0) hx hb d_C_quantifiedWord_41 (by decide) ?_
        refine lv_istore (lv' := [(6, .int 0), (4, .long 0), (0, .ref (ad 4)), (1, .int a1), (2, .int a2), (3, .int a3)]) hx hb d_C_quantifiedWord_42 hl (by decide) rfl (fun ls hl => ?_)
        exact w44 4096 a1 a2 a3 0 0 u2 _ _ _ (lv_sub hl [2, 3, 4, 5, 1, 0] rfl) hI h
      · rw [if_neg hc5] at h
        refine lv_lconst (v := 0) hx hb d_C_quantifiedWord_36 (by decide) ?_
        exact g_lret (Wd := k_W ad cA) hx hb hr hlk hK hI h d_C_quantifiedWord_37
  · rw [if_pos hc3] at h
    refine lv_aload_n hx hb d_C_quantifiedWord_8 rfl (lv_at hl 0 rfl) ?_
    refine lv_iload_n hx hb d_C_quantifiedWord_9 rfl (lv_at hl 1 rfl) ?_
    refine lv_bipush (v := (-96)) hx hb d_C_quantifiedWord_10 (by decide) ?_
    refine lv_iconst (v := 3) hx hb d_C_quantifiedWord_12 (by decide) ?_
    obtain ⟨r6, u7, hc, h⟩ := ob_e h
    refine g_callV (As := [.int a1, .int ((-96)), .int 3]) (rest := []) (w' := k_W ad cA u7) (o := some (.int r6)) ⟨hx, hb, hml, hown, hts⟩ (c_C_isSo l D ad cA N wo hwo hc) (cwV 3 hts gq_C_88 rfl rfl rfl (by decide +kernel) ⟨by dsimp only; omega, by dsimp only; omega⟩) hK hI hA 4 2 rfl rfl rfl hl.1 rfl (Nat.le_of_ble_eq_true rfl) d_C_quantifiedWord_13 ⟨Nat.zero_le _, Nat.zero_le _⟩ rfl (fun H locs hI => ?_)
    refine lv_if_eq (tgt := 25) hx hb d_C_quantifiedWord_16 rfl (fun hc8 => ?_) (fun hc8 => ?_)
    · rw [if_pos hc8] at h
      refine lv_lconst (v := 0) hx hb d_C_quantifiedWord_25 (by decide) ?_
      exact g_lret (Wd := k_W ad cA) hx hb hr hlk hK hI h d_C_quantifiedWord_26
    · rw [if_neg hc8] at h
      refine lv_ldc2 (v := (-1)) hx hb hown (hts _ wd_277) d_C_quantifiedWord_19 ?_
      refine lv_goto (tgt := 26) hx hb d_C_quantifiedWord_22 rfl ?_
      exact g_lret (Wd := k_W ad cA) hx hb hr hlk hK hI h d_C_quantifiedWord_26
def f_C_factorOf (a1 : Int32) (a2 : Int32) (u : KS) : Option (Int32 × KS) := lt_ ((a1 * 3) + a2) fun x1 => if x1 < 0 then some (0, u) else (if 60 ≤ x1 then some (0, u) else (gd (inb x1 60) (some (k_fa u x1.toNatClampNeg, u))))
set_option maxRecDepth 100000 in
set_option maxHeartbeats 4000000 in
theorem c_C_factorOf (l : Launch) (D : va_G) (ad : Nat → Nat) (cA : Nat → ClassId) {a1 : Int32} {a2 : Int32} {u u0 : KS} {r0 : Int32} (h : f_C_factorOf a1 a2 u = some (r0, u0)) : g_M l y_C_factorOf w_C_factorOf { frames := 0, cells := 0, slots := 0, locals := 0 } D vwCl (k_T cA) (k_W ad cA u) [.ref (ad 4), .int a1, .int a2] (some (.int r0)) (k_W ad cA u0) := by
  refine g_ofW (cc := c0_C_factorOf) (maxL := 4) (ret := (some .int)) (by decide) rfl (Nat.le_of_ble_eq_true rfl) ?_
  intro p e s m below meth c A ls hx hb hr hml hown hts hlk hK hA hI hl
  have hts : ∀ w ∈ gW, w.before ([.ref (ad 4), .int a1, .int a2] : List Value).toArray s = true := fun w h => hts w (List.mem_cons_of_mem _ h)
  have hown : s.vm.findClass R_C = some m.cls := hown
  have hl : lv_has ls 4 [(0, .ref (ad 4)), (1, .int a1), (2, .int a2)] := hl
  dsimp only [f_C_factorOf] at h
  refine lv_iload_n hx hb d_C_factorOf_0 rfl (lv_at hl 1 rfl) ?_
  refine lv_iconst (v := 3) hx hb d_C_factorOf_1 (by decide) ?_
  refine lv_imul hx hb d_C_factorOf_2 ?_
  refine lv_iload_n hx hb d_C_factorOf_3 rfl (lv_at hl 2 rfl) ?_
  refine lv_iadd hx hb d_C_factorOf_4 ?_
  obtain ⟨x1, e_x1, h⟩ := lt_e h
  refine lv_istore_n (lv' := [(3, .int x1), (0, .ref (ad 4)), (1, .int a1), (2, .int a2)]) hx hb d_C_factorOf_5 rfl hl (by decide) (by subst e_x1; rfl) (fun ls hl => ?_)
  refine lv_iload_n hx hb d_C_factorOf_6 rfl (lv_at hl 0 rfl) ?_
  refine lv_if_lt (tgt := 28) hx hb d_C_factorOf_7 rfl (fun hc2 => ?_) (fun hc2 => ?_)
  · rw [if_pos hc2] at h
    refine lv_iconst (v := 0) hx hb d_C_factorOf_28 (by decide) ?_
    exact g_iret (Wd := k_W ad cA) hx hb hr hlk hK hI h d_C_factorOf_29
  · rw [if_neg hc2] at h
    refine lv_iload_n hx hb d_C_factorOf_10 rfl (lv_at hl 0 rfl) ?_
    refine lv_aload_n hx hb d_C_factorOf_11 rfl (lv_at hl 1 rfl) ?_
    refine g_get (v := .ref (ad 10)) hx hb hts in_C hown hK hI 4 rfl rfl 5 (by decide) (hts _ wd_47) rfl d_C_factorOf_12 ?_
    refine g_alen (v := 60) hx hb hK hI 10 7 rfl rfl (by show Int32.ofNat 60 = 60; decide) d_C_factorOf_15 ?_
    refine lv_icmp_ge (tgt := 28) hx hb d_C_factorOf_16 rfl (fun hc3 => ?_) (fun hc3 => ?_)
    · rw [if_pos hc3] at h
      refine lv_iconst (v := 0) hx hb d_C_factorOf_28 (by decide) ?_
      exact g_iret (Wd := k_W ad cA) hx hb hr hlk hK hI h d_C_factorOf_29
    · rw [if_neg hc3] at h
      refine lv_aload_n hx hb d_C_factorOf_19 rfl (lv_at hl 1 rfl) ?_
      refine g_get (v := .ref (ad 10)) hx hb hts in_C hown hK hI 4 rfl rfl 5 (by decide) (hts _ wd_47) rfl d_C_factorOf_20 ?_
      refine lv_iload_n hx hb d_C_factorOf_23 rfl (lv_at hl 0 rfl) ?_
      obtain ⟨hg, h⟩ := gd_e h
      refine g_iald hx hb hK hI 10 7 rfl rfl hg d_C_factorOf_24 ?_
      refine lv_goto (tgt := 29) hx hb d_C_factorOf_25 rfl ?_
      exact g_iret (Wd := k_W ad cA) hx hb hr hlk hK hI h d_C_factorOf_29
def f_C_sumAt_J34 (k11 : Int32 → Int32 → Int32 → Int32 → Int32 → KS → Option (Int32 × KS)) (v1 : Int32) (v2 : Int32) (v3 : Int32) (v4 : Int32) (v5 : Int32) (t0 : Int32) (u : KS) : Option (Int32 × KS) := gd (inb ((v1 * 3) + v5) 60) (lt_ (v4 + ((k_fa u ((v1 * 3) + v5).toNatClampNeg) * t0)) fun x4 => lt_ (v5 + 1) fun x5 => k11 v1 v2 v3 x4 x5 u)
def f_C_sumAt_L11 (n : Nat) : Int32 → Int32 → Int32 → Int32 → Int32 → KS → Option (Int32 × KS) := match n with
  | 0 => fun _ _ _ _ _ _ => none
  | n + 1 => fun v1 v2 v3 v4 v5 u => if 3 ≤ v5 then some (v4, u) else (if v5 = v2 then f_C_sumAt_J34 (f_C_sumAt_L11 n) v1 v2 v3 v4 v5 v3 u else (gd (inb v5 3) (f_C_sumAt_J34 (f_C_sumAt_L11 n) v1 v2 v3 v4 v5 (k_va u v5.toNatClampNeg) u)))
def f_C_sumAt (a1 : Int32) (a2 : Int32) (a3 : Int32) (u : KS) : Option (Int32 × KS) := gd (inb a1 20) (lt_ (k_nu u a1.toNatClampNeg) fun x1 => f_C_sumAt_L11 4096 a1 a2 a3 x1 0 u)
set_option maxRecDepth 100000 in
set_option maxHeartbeats 4000000 in
theorem c_C_sumAt (l : Launch) (D : va_G) (ad : Nat → Nat) (cA : Nat → ClassId) {a1 : Int32} {a2 : Int32} {a3 : Int32} {u u0 : KS} {r0 : Int32} (h : f_C_sumAt a1 a2 a3 u = some (r0, u0)) : g_M l y_C_sumAt w_C_sumAt { frames := 0, cells := 0, slots := 0, locals := 0 } D vwCl (k_T cA) (k_W ad cA u) [.ref (ad 4), .int a1, .int a2, .int a3] (some (.int r0)) (k_W ad cA u0) := by
  refine g_ofW (cc := c0_C_sumAt) (maxL := 7) (ret := (some .int)) (by decide) rfl (Nat.le_of_ble_eq_true rfl) ?_
  intro p e s m below meth c A ls hx hb hr hml hown hts hlk hK hA hI hl
  have hts : ∀ w ∈ gW, w.before ([.ref (ad 4), .int a1, .int a2, .int a3] : List Value).toArray s = true := fun w h => hts w (List.mem_cons_of_mem _ h)
  have hown : s.vm.findClass R_C = some m.cls := hown
  have hl : lv_has ls 7 [(0, .ref (ad 4)), (1, .int a1), (2, .int a2), (3, .int a3)] := hl
  have w34 : ∀ (k11 : Int32 → Int32 → Int32 → Int32 → Int32 → KS → Option (Int32 × KS)) (hk11 : ∀ (v1 : Int32) (v2 : Int32) (v3 : Int32) (v4 : Int32) (v5 : Int32) (u : KS) (H : Heap) (locs : List Loc) (ls : Array Slot), lv_has ls 7 [(0, .ref (ad 4)), (1, .int v1), (2, .int v2), (3, .int v3), (4, .int v4), (5, .int v5)] → g_I D vwCl A s.heap H locs (k_W ad cA u) → k11 v1 v2 v3 v4 v5 u = some (r0, u0) → W p l e { frames := 0, cells := 0, slots := 0, locals := 0 } s m ([.ref (ad 4), .int a1, .int a2, .int a3] : List Value).toArray below meth c H locs 0 0 (MQ below (g_Q D vwCl (k_T cA) (k_W ad cA u0) A (some (.int r0))) ([.ref (ad 4), .int a1, .int a2, .int a3] : List Value).toArray s 0 0 A) (F0 m 11 ls [])) (v1 : Int32) (v2 : Int32) (v3 : Int32) (v4 : Int32) (v5 : Int32) (t0 : Int32) (u : KS) (H : Heap) (locs : List Loc) (ls : Array Slot), lv_has ls 7 [(0, .ref (ad 4)), (1, .int v1), (2, .int v2), (3, .int v3), (4, .int v4), (5, .int v5)] → g_I D vwCl A s.heap H locs (k_W ad cA u) → f_C_sumAt_J34 k11 v1 v2 v3 v4 v5 t0 u = some (r0, u0) → W p l e { frames := 0, cells := 0, slots := 0, locals := 0 } s m ([.ref (ad 4), .int a1, .int a2, .int a3] : List Value).toArray below meth c H locs 0 0 (MQ below (g_Q D vwCl (k_T cA) (k_W ad cA u0) A (some (.int r0))) ([.ref (ad 4), .int a1, .int a2, .int a3] : List Value).toArray s 0 0 A) (F0 m 34 ls [.int t0]) := by
    intro k11 hk11 v1 v2 v3 v4 v5 t0 u H locs ls hl hI h
    dsimp only [f_C_sumAt_J34] at h
    refine lv_istore (lv' := [(6, .int t0), (0, .ref (ad 4)), (1, .int v1), (2, .int v2), (3, .int v3), (4, .int v4), (5, .int v5)]) hx hb d_C_sumAt_34 hl (by decide) rfl (fun ls hl => ?_)
    refine lv_iload hx hb d_C_sumAt_36 (lv_at hl 5 rfl) ?_
    refine lv_aload_n hx hb d_C_sumAt_38 rfl (lv_at hl 1 rfl) ?_
    refine g_get (v := .ref (ad 10)) hx hb hts in_C hown hK hI 4 rfl rfl 5 (by decide) (hts _ wd_47) rfl d_C_sumAt_39 ?_
    refine lv_iload_n hx hb d_C_sumAt_42 rfl (lv_at hl 2 rfl) ?_
    refine lv_iconst (v := 3) hx hb d_C_sumAt_43 (by decide) ?_
    refine lv_imul hx hb d_C_sumAt_44 ?_
    refine lv_iload hx hb d_C_sumAt_45 (lv_at hl 6 rfl) ?_
    refine lv_iadd hx hb d_C_sumAt_47 ?_
    obtain ⟨hg, h⟩ := gd_e h
    refine g_iald hx hb hK hI 10 7 rfl rfl hg d_C_sumAt_48 ?_
    refine lv_iload hx hb d_C_sumAt_49 (lv_at hl 0 rfl) ?_
    refine lv_imul hx hb d_C_sumAt_51 ?_
    refine lv_iadd hx hb d_C_sumAt_52 ?_
    obtain ⟨x4, e_x4, h⟩ := lt_e h
    refine lv_istore (lv' := [(4, .int x4), (6, .int t0), (0, .ref (ad 4)), (1, .int v1), (2, .int v2), (3, .int v3), (5, .int v5)]) hx hb d_C_sumAt_53 hl (by decide) (by subst e_x4; rfl) (fun ls hl => ?_)
    obtain ⟨x5, e_x5, h⟩ := lt_e h
    refine lv_iinc (v := x5) (k := 6) hx hb d_C_sumAt_55 hl rfl (by subst e_x5; rfl) (by decide) rfl (fun ls hl => ?_)
    refine lv_goto (tgt := 11) hx hb d_C_sumAt_58 rfl ?_
    exact hk11 v1 v2 v3 x4 x5 u _ _ _ (lv_sub hl [3, 4, 5, 6, 1, 0] rfl) hI h
  have w11 : ∀ (n : Nat) (v1 : Int32) (v2 : Int32) (v3 : Int32) (v4 : Int32) (v5 : Int32) (u : KS) (H : Heap) (locs : List Loc) (ls : Array Slot), lv_has ls 7 [(0, .ref (ad 4)), (1, .int v1), (2, .int v2), (3, .int v3), (4, .int v4), (5, .int v5)] → g_I D vwCl A s.heap H locs (k_W ad cA u) → f_C_sumAt_L11 n v1 v2 v3 v4 v5 u = some (r0, u0) → W p l e { frames := 0, cells := 0, slots := 0, locals := 0 } s m ([.ref (ad 4), .int a1, .int a2, .int a3] : List Value).toArray below meth c H locs 0 0 (MQ below (g_Q D vwCl (k_T cA) (k_W ad cA u0) A (some (.int r0))) ([.ref (ad 4), .int a1, .int a2, .int a3] : List Value).toArray s 0 0 A) (F0 m 11 ls []) := by
    intro  n
    induction n with
    | zero => intro v1 v2 v3 v4 v5 u H locs ls hl hI h; cases h
    | succ n ih =>
      intro v1 v2 v3 v4 v5 u H locs ls hl hI h
      dsimp only [f_C_sumAt_L11] at h
      refine lv_iload hx hb d_C_sumAt_11 (lv_at hl 5 rfl) ?_
      refine lv_iconst (v := 3) hx hb d_C_sumAt_13 (by decide) ?_
      refine lv_icmp_ge (tgt := 61) hx hb d_C_sumAt_14 rfl (fun hc2 => ?_) (fun hc2 => ?_)
      · rw [if_pos hc2] at h
        refine lv_iload hx hb d_C_sumAt_61 (lv_at hl 4 rfl) ?_
        exact g_iret (Wd := k_W ad cA) hx hb hr hlk hK hI h d_C_sumAt_63
      · rw [if_neg hc2] at h
        refine lv_iload hx hb d_C_sumAt_17 (lv_at hl 5 rfl) ?_
        refine lv_iload_n hx hb d_C_sumAt_19 rfl (lv_at hl 2 rfl) ?_
        refine lv_icmp_ne (tgt := 27) hx hb d_C_sumAt_20 rfl (fun hc3 => ?_) (fun hc3 => ?_)
        · rw [if_neg hc3] at h
          refine lv_aload_n hx hb d_C_sumAt_27 rfl (lv_at hl 0 rfl) ?_
          refine g_get (v := .ref (ad 12)) hx hb hts in_C hown hK hI 4 rfl rfl 7 (by decide) (hts _ wd_49) rfl d_C_sumAt_28 ?_
          refine lv_iload hx hb d_C_sumAt_31 (lv_at hl 5 rfl) ?_
          obtain ⟨hg, h⟩ := gd_e h
          refine g_iald hx hb hK hI 12 9 rfl rfl hg d_C_sumAt_33 ?_
          exact w34 (f_C_sumAt_L11 n) ih v1 v2 v3 v4 v5 (k_va u v5.toNatClampNeg) u _ _ _ (lv_sub hl [0, 1, 2, 3, 4, 5] rfl) hI h
        · rw [if_pos hc3] at h
          refine lv_iload_n hx hb d_C_sumAt_23 rfl (lv_at hl 3 rfl) ?_
          refine lv_goto (tgt := 34) hx hb d_C_sumAt_24 rfl ?_
          exact w34 (f_C_sumAt_L11 n) ih v1 v2 v3 v4 v5 v3 u _ _ _ (lv_sub hl [0, 1, 2, 3, 4, 5] rfl) hI h
  dsimp only [f_C_sumAt] at h
  refine lv_aload_n hx hb d_C_sumAt_0 rfl (lv_at hl 0 rfl) ?_
  refine g_get (v := .ref (ad 9)) hx hb hts in_C hown hK hI 4 rfl rfl 4 (by decide) (hts _ wd_46) rfl d_C_sumAt_1 ?_
  refine lv_iload_n hx hb d_C_sumAt_4 rfl (lv_at hl 1 rfl) ?_
  obtain ⟨hg, h⟩ := gd_e h
  refine g_iald hx hb hK hI 9 6 rfl rfl hg d_C_sumAt_5 ?_
  obtain ⟨x1, e_x1, h⟩ := lt_e h
  refine lv_istore (lv' := [(4, .int x1), (0, .ref (ad 4)), (1, .int a1), (2, .int a2), (3, .int a3)]) hx hb d_C_sumAt_6 hl (by decide) (by subst e_x1; rfl) (fun ls hl => ?_)
  refine lv_iconst (v := 0) hx hb d_C_sumAt_8 (by decide) ?_
  refine lv_istore (lv' := [(5, .int 0), (4, .int x1), (0, .ref (ad 4)), (1, .int a1), (2, .int a2), (3, .int a3)]) hx hb d_C_sumAt_9 hl (by decide) rfl (fun ls hl => ?_)
  exact w11 4096 a1 a2 a3 x1 0 u _ _ _ (lv_sub hl [2, 3, 4, 5, 1, 0] rfl) hI h
def f_J_floorDiv (a0 : Int32) (a1 : Int32) (u : KS) : Option (Int32 × KS) := gd (nz a1) (lt_ (a0 / a1) fun x1 => if 0 ≤ (a0 ^^^ a1) then some (x1, u) else (if (x1 * a1) = a0 then some (x1, u) else some (x1 - 1, u)))
set_option maxRecDepth 100000 in
set_option maxHeartbeats 4000000 in
theorem c_J_floorDiv (l : Launch) (D : va_G) (ad : Nat → Nat) (cA : Nat → ClassId) {a0 : Int32} {a1 : Int32} {u u0 : KS} {r0 : Int32} (h : f_J_floorDiv a0 a1 u = some (r0, u0)) : g_M l y_J_floorDiv w_J_floorDiv { frames := 0, cells := 0, slots := 0, locals := 0 } D vwCl (k_T cA) (k_W ad cA u) [.int a0, .int a1] (some (.int r0)) (k_W ad cA u0) := by
  refine g_ofF (cc := c0_J_floorDiv) (maxL := 3) (ret := (some .int)) (by decide +kernel) rfl (Nat.le_of_ble_eq_true rfl) ?_
  intro p e s m below meth c A ls hx hb hr hml hown hts hlk hK hA hI hl
  have hts : ∀ w ∈ gW, w.before ([.int a0, .int a1] : List Value).toArray s = true := fun w h => hts w (List.mem_cons_of_mem _ h)
  have hown : s.vm.findClass R_J = some m.cls := hown
  have hl : lv_has ls 3 [(0, .int a0), (1, .int a1)] := hl
  dsimp only [f_J_floorDiv] at h
  refine lv_iload_n hx hb d_J_floorDiv_0 rfl (lv_at hl 0 rfl) ?_
  refine lv_iload_n hx hb d_J_floorDiv_1 rfl (lv_at hl 1 rfl) ?_
  obtain ⟨hg, h⟩ := gd_e h
  refine lv_idiv hx hb d_J_floorDiv_2 (nz_e hg) ?_
  obtain ⟨x1, e_x1, h⟩ := lt_e h
  refine lv_istore_n (lv' := [(2, .int x1), (0, .int a0), (1, .int a1)]) hx hb d_J_floorDiv_3 rfl hl (by decide) (by subst e_x1; rfl) (fun ls hl => ?_)
  refine lv_iload_n hx hb d_J_floorDiv_4 rfl (lv_at hl 1 rfl) ?_
  refine lv_iload_n hx hb d_J_floorDiv_5 rfl (lv_at hl 2 rfl) ?_
  refine lv_ixor hx hb d_J_floorDiv_6 ?_
  refine lv_if_ge (tgt := 21) hx hb d_J_floorDiv_7 rfl (fun hc2 => ?_) (fun hc2 => ?_)
  · rw [if_pos hc2] at h
    refine lv_iload_n hx hb d_J_floorDiv_21 rfl (lv_at hl 0 rfl) ?_
    exact g_iret (Wd := k_W ad cA) hx hb hr hlk hK hI h d_J_floorDiv_22
  · rw [if_neg hc2] at h
    refine lv_iload_n hx hb d_J_floorDiv_10 rfl (lv_at hl 0 rfl) ?_
    refine lv_iload_n hx hb d_J_floorDiv_11 rfl (lv_at hl 2 rfl) ?_
    refine lv_imul hx hb d_J_floorDiv_12 ?_
    refine lv_iload_n hx hb d_J_floorDiv_13 rfl (lv_at hl 1 rfl) ?_
    refine lv_icmp_eq (tgt := 21) hx hb d_J_floorDiv_14 rfl (fun hc3 => ?_) (fun hc3 => ?_)
    · rw [if_pos hc3] at h
      refine lv_iload_n hx hb d_J_floorDiv_21 rfl (lv_at hl 0 rfl) ?_
      exact g_iret (Wd := k_W ad cA) hx hb hr hlk hK hI h d_J_floorDiv_22
    · rw [if_neg hc3] at h
      refine lv_iload_n hx hb d_J_floorDiv_17 rfl (lv_at hl 0 rfl) ?_
      refine lv_iconst (v := 1) hx hb d_J_floorDiv_18 (by decide) ?_
      refine lv_isub hx hb d_J_floorDiv_19 ?_
      exact g_iret (Wd := k_W ad cA) hx hb hr hlk hK hI h d_J_floorDiv_20
def f_C_lowBits (a0 : Int32) (u : KS) : Option (Int64 × KS) := if 0 < a0 then (if a0 < 64 then some (((1 : Int64) <<< (a0.toInt64 &&& 63)) - 1, u) else some ((-1), u)) else some (0, u)
set_option maxRecDepth 100000 in
set_option maxHeartbeats 4000000 in
theorem c_C_lowBits (l : Launch) (D : va_G) (ad : Nat → Nat) (cA : Nat → ClassId) {a0 : Int32} {u u0 : KS} {r0 : Int64} (h : f_C_lowBits a0 u = some (r0, u0)) : g_M l y_C_lowBits w_C_lowBits { frames := 0, cells := 0, slots := 0, locals := 0 } D vwCl (k_T cA) (k_W ad cA u) [.int a0] (some (.long r0)) (k_W ad cA u0) := by
  refine g_ofW (cc := c0_C_lowBits) (maxL := 1) (ret := (some .long)) (by decide) rfl (Nat.le_of_ble_eq_true rfl) ?_
  intro p e s m below meth c A ls hx hb hr hml hown hts hlk hK hA hI hl
  have hts : ∀ w ∈ gW, w.before ([.int a0] : List Value).toArray s = true := fun w h => hts w (List.mem_cons_of_mem _ h)
  have hown : s.vm.findClass R_C = some m.cls := hown
  have hl : lv_has ls 1 [(0, .int a0)] := hl
  dsimp only [f_C_lowBits] at h
  refine lv_iload_n hx hb d_C_lowBits_0 rfl (lv_at hl 0 rfl) ?_
  refine lv_if_gt (tgt := 6) hx hb d_C_lowBits_1 rfl (fun hc1 => ?_) (fun hc1 => ?_)
  · rw [if_pos hc1] at h
    refine lv_iload_n hx hb d_C_lowBits_6 rfl (lv_at hl 0 rfl) ?_
    refine lv_bipush (v := 64) hx hb d_C_lowBits_7 (by decide) ?_
    refine lv_icmp_lt (tgt := 18) hx hb d_C_lowBits_9 rfl (fun hc2 => ?_) (fun hc2 => ?_)
    · rw [if_pos hc2] at h
      refine lv_lconst (v := 1) hx hb d_C_lowBits_18 (by decide) ?_
      refine lv_iload_n hx hb d_C_lowBits_19 rfl (lv_at hl 0 rfl) ?_
      refine lv_lshl hx hb d_C_lowBits_20 rfl ?_
      refine lv_lconst (v := 1) hx hb d_C_lowBits_21 (by decide) ?_
      refine lv_lsub hx hb d_C_lowBits_22 ?_
      exact g_lret (Wd := k_W ad cA) hx hb hr hlk hK hI h d_C_lowBits_23
    · rw [if_neg hc2] at h
      refine lv_ldc2 (v := (-1)) hx hb hown (hts _ wd_277) d_C_lowBits_12 ?_
      refine lv_goto (tgt := 23) hx hb d_C_lowBits_15 rfl ?_
      exact g_lret (Wd := k_W ad cA) hx hb hr hlk hK hI h d_C_lowBits_23
  · rw [if_neg hc1] at h
    refine lv_lconst (v := 0) hx hb d_C_lowBits_4 (by decide) ?_
    exact g_lret (Wd := k_W ad cA) hx hb hr hlk hK hI h d_C_lowBits_5
def f_C_belowWord (a0 : Int32) (a1 : Int32) (u : KS) : Option (Int64 × KS) := if a0 ≤ 0 then (if 0 ≤ a0 then (if 0 ≤ a1 then some (0, u) else some ((-1), u)) else (ob (f_J_floorDiv a1 (-a0) u) fun r4 u5 => ob (f_C_lowBits (r4 + 1) u5) fun r6 u7 => some (r6 ^^^ ((-1)), u7))) else (ob (f_J_floorDiv a1 a0 u) fun r8 u9 => ob (f_C_lowBits (-r8) u9) fun r10 u11 => some (r10, u11))
set_option maxRecDepth 100000 in
set_option maxHeartbeats 4000000 in
theorem c_C_belowWord (l : Launch) (D : va_G) (ad : Nat → Nat) (cA : Nat → ClassId) {a0 : Int32} {a1 : Int32} {u u0 : KS} {r0 : Int64} (h : f_C_belowWord a0 a1 u = some (r0, u0)) : g_M l y_C_belowWord w_C_belowWord { frames := 1, cells := 0, slots := 0, locals := 22 } D vwCl (k_T cA) (k_W ad cA u) [.int a0, .int a1] (some (.long r0)) (k_W ad cA u0) := by
  refine g_ofW (cc := c0_C_belowWord) (maxL := 2) (ret := (some .long)) (by decide) rfl (Nat.le_of_ble_eq_true rfl) ?_
  intro p e s m below meth c A ls hx hb hr hml hown hts hlk hK hA hI hl
  have hts : ∀ w ∈ gW, w.before ([.int a0, .int a1] : List Value).toArray s = true := fun w h => hts w (List.mem_cons_of_mem _ h)
  have hown : s.vm.findClass R_C = some m.cls := hown
  have hl : lv_has ls 2 [(0, .int a0), (1, .int a1)] := hl
  dsimp only [f_C_belowWord] at h
  refine lv_iload_n hx hb d_C_belowWord_0 rfl (lv_at hl 0 rfl) ?_
  refine lv_if_le (tgt := 14) hx hb d_C_belowWord_1 rfl (fun hc1 => ?_) (fun hc1 => ?_)
  · rw [if_pos hc1] at h
    refine lv_iload_n hx hb d_C_belowWord_14 rfl (lv_at hl 0 rfl) ?_
    refine lv_if_ge (tgt := 34) hx hb d_C_belowWord_15 rfl (fun hc2 => ?_) (fun hc2 => ?_)
    · rw [if_pos hc2] at h
      refine lv_iload_n hx hb d_C_belowWord_34 rfl (lv_at hl 1 rfl) ?_
      refine lv_if_ge (tgt := 44) hx hb d_C_belowWord_35 rfl (fun hc3 => ?_) (fun hc3 => ?_)
      · rw [if_pos hc3] at h
        refine lv_lconst (v := 0) hx hb d_C_belowWord_44 (by decide) ?_
        exact g_lret (Wd := k_W ad cA) hx hb hr hlk hK hI h d_C_belowWord_45
      · rw [if_neg hc3] at h
        refine lv_ldc2 (v := (-1)) hx hb hown (hts _ wd_277) d_C_belowWord_38 ?_
        refine lv_goto (tgt := 45) hx hb d_C_belowWord_41 rfl ?_
        exact g_lret (Wd := k_W ad cA) hx hb hr hlk hK hI h d_C_belowWord_45
    · rw [if_neg hc2] at h
      refine lv_iload_n hx hb d_C_belowWord_18 rfl (lv_at hl 1 rfl) ?_
      refine lv_iload_n hx hb d_C_belowWord_19 rfl (lv_at hl 0 rfl) ?_
      refine lv_ineg hx hb d_C_belowWord_20 ?_
      obtain ⟨r4, u5, hc, h⟩ := ob_e h
      refine g_callS (As := [.int a1, .int (-a0)]) (rest := []) (w' := k_W ad cA u5) (o := some (.int r4)) ⟨hx, hb, hml, hown, hts⟩ (c_J_floorDiv l D ad cA hc) (va_cwS 2 hts gq_C_92 rfl rfl rfl (by decide +kernel) ⟨Nat.le_of_ble_eq_true rfl, Nat.le_of_ble_eq_true rfl⟩) hK hI hA rfl hl.1 rfl (Nat.le_of_ble_eq_true rfl) d_C_belowWord_21 ⟨Nat.zero_le _, Nat.zero_le _⟩ rfl (fun H locs hI => ?_)
      refine lv_iconst (v := 1) hx hb d_C_belowWord_24 (by decide) ?_
      refine lv_iadd hx hb d_C_belowWord_25 ?_
      obtain ⟨r6, u7, hc, h⟩ := ob_e h
      refine g_callS (As := [.int (r4 + 1)]) (rest := []) (w' := k_W ad cA u7) (o := some (.long r6)) ⟨hx, hb, hml, hown, hts⟩ (c_C_lowBits l D ad cA hc) (va_cwS 1 hts gq_C_95 rfl rfl rfl (by decide +kernel) ⟨Nat.le_of_ble_eq_true rfl, Nat.le_of_ble_eq_true rfl⟩) hK hI hA rfl hl.1 rfl (Nat.le_of_ble_eq_true rfl) d_C_belowWord_26 ⟨Nat.zero_le _, Nat.zero_le _⟩ rfl (fun H locs hI => ?_)
      refine lv_ldc2 (v := (-1)) hx hb hown (hts _ wd_277) d_C_belowWord_29 ?_
      refine lv_lxor hx hb d_C_belowWord_32 ?_
      exact g_lret (Wd := k_W ad cA) hx hb hr hlk hK hI h d_C_belowWord_33
  · rw [if_neg hc1] at h
    refine lv_iload_n hx hb d_C_belowWord_4 rfl (lv_at hl 1 rfl) ?_
    refine lv_iload_n hx hb d_C_belowWord_5 rfl (lv_at hl 0 rfl) ?_
    obtain ⟨r8, u9, hc, h⟩ := ob_e h
    refine g_callS (As := [.int a1, .int a0]) (rest := []) (w' := k_W ad cA u9) (o := some (.int r8)) ⟨hx, hb, hml, hown, hts⟩ (c_J_floorDiv l D ad cA hc) (va_cwS 2 hts gq_C_92 rfl rfl rfl (by decide +kernel) ⟨Nat.le_of_ble_eq_true rfl, Nat.le_of_ble_eq_true rfl⟩) hK hI hA rfl hl.1 rfl (Nat.le_of_ble_eq_true rfl) d_C_belowWord_6 ⟨Nat.zero_le _, Nat.zero_le _⟩ rfl (fun H locs hI => ?_)
    refine lv_ineg hx hb d_C_belowWord_9 ?_
    obtain ⟨r10, u11, hc, h⟩ := ob_e h
    refine g_callS (As := [.int (-r8)]) (rest := []) (w' := k_W ad cA u11) (o := some (.long r10)) ⟨hx, hb, hml, hown, hts⟩ (c_C_lowBits l D ad cA hc) (va_cwS 1 hts gq_C_95 rfl rfl rfl (by decide +kernel) ⟨Nat.le_of_ble_eq_true rfl, Nat.le_of_ble_eq_true rfl⟩) hK hI hA rfl hl.1 rfl (Nat.le_of_ble_eq_true rfl) d_C_belowWord_10 ⟨Nat.zero_le _, Nat.zero_le _⟩ rfl (fun H locs hI => ?_)
    exact g_lret (Wd := k_W ad cA) hx hb hr hlk hK hI h d_C_belowWord_13
def f_C_equalWord (a0 : Int32) (a1 : Int32) (u : KS) : Option (Int64 × KS) := if a0 = 0 then (if a1 = 0 then some ((-1), u) else some (0, u)) else (gd (nz a0) (lt_ ((-a1) / a0) fun x2 => if (x2 * a0) = (-a1) then (if x2 < 0 then some (0, u) else (if 64 ≤ x2 then some (0, u) else some ((1 : Int64) <<< (x2.toInt64 &&& 63), u))) else some (0, u)))
set_option maxRecDepth 100000 in
set_option maxHeartbeats 4000000 in
theorem c_C_equalWord (l : Launch) (D : va_G) (ad : Nat → Nat) (cA : Nat → ClassId) {a0 : Int32} {a1 : Int32} {u u0 : KS} {r0 : Int64} (h : f_C_equalWord a0 a1 u = some (r0, u0)) : g_M l y_C_equalWord w_C_equalWord { frames := 0, cells := 0, slots := 0, locals := 0 } D vwCl (k_T cA) (k_W ad cA u) [.int a0, .int a1] (some (.long r0)) (k_W ad cA u0) := by
  refine g_ofW (cc := c0_C_equalWord) (maxL := 3) (ret := (some .long)) (by decide) rfl (Nat.le_of_ble_eq_true rfl) ?_
  intro p e s m below meth c A ls hx hb hr hml hown hts hlk hK hA hI hl
  have hts : ∀ w ∈ gW, w.before ([.int a0, .int a1] : List Value).toArray s = true := fun w h => hts w (List.mem_cons_of_mem _ h)
  have hown : s.vm.findClass R_C = some m.cls := hown
  have hl : lv_has ls 3 [(0, .int a0), (1, .int a1)] := hl
  dsimp only [f_C_equalWord] at h
  refine lv_iload_n hx hb d_C_equalWord_0 rfl (lv_at hl 0 rfl) ?_
  refine lv_if_ne (tgt := 16) hx hb d_C_equalWord_1 rfl (fun hc1 => ?_) (fun hc1 => ?_)
  · rw [if_neg hc1] at h
    refine lv_iload_n hx hb d_C_equalWord_16 rfl (lv_at hl 1 rfl) ?_
    refine lv_ineg hx hb d_C_equalWord_17 ?_
    refine lv_iload_n hx hb d_C_equalWord_18 rfl (lv_at hl 0 rfl) ?_
    obtain ⟨hg, h⟩ := gd_e h
    refine lv_idiv hx hb d_C_equalWord_19 (nz_e hg) ?_
    obtain ⟨x2, e_x2, h⟩ := lt_e h
    refine lv_istore_n (lv' := [(2, .int x2), (0, .int a0), (1, .int a1)]) hx hb d_C_equalWord_20 rfl hl (by decide) (by subst e_x2; rfl) (fun ls hl => ?_)
    refine lv_iload_n hx hb d_C_equalWord_21 rfl (lv_at hl 0 rfl) ?_
    refine lv_iload_n hx hb d_C_equalWord_22 rfl (lv_at hl 1 rfl) ?_
    refine lv_imul hx hb d_C_equalWord_23 ?_
    refine lv_iload_n hx hb d_C_equalWord_24 rfl (lv_at hl 2 rfl) ?_
    refine lv_ineg hx hb d_C_equalWord_25 ?_
    refine lv_icmp_ne (tgt := 45) hx hb d_C_equalWord_26 rfl (fun hc3 => ?_) (fun hc3 => ?_)
    · rw [if_neg hc3] at h
      refine lv_lconst (v := 0) hx hb d_C_equalWord_45 (by decide) ?_
      exact g_lret (Wd := k_W ad cA) hx hb hr hlk hK hI h d_C_equalWord_46
    · rw [if_pos hc3] at h
      refine lv_iload_n hx hb d_C_equalWord_29 rfl (lv_at hl 0 rfl) ?_
      refine lv_if_lt (tgt := 45) hx hb d_C_equalWord_30 rfl (fun hc4 => ?_) (fun hc4 => ?_)
      · rw [if_pos hc4] at h
        refine lv_lconst (v := 0) hx hb d_C_equalWord_45 (by decide) ?_
        exact g_lret (Wd := k_W ad cA) hx hb hr hlk hK hI h d_C_equalWord_46
      · rw [if_neg hc4] at h
        refine lv_iload_n hx hb d_C_equalWord_33 rfl (lv_at hl 0 rfl) ?_
        refine lv_bipush (v := 64) hx hb d_C_equalWord_34 (by decide) ?_
        refine lv_icmp_ge (tgt := 45) hx hb d_C_equalWord_36 rfl (fun hc5 => ?_) (fun hc5 => ?_)
        · rw [if_pos hc5] at h
          refine lv_lconst (v := 0) hx hb d_C_equalWord_45 (by decide) ?_
          exact g_lret (Wd := k_W ad cA) hx hb hr hlk hK hI h d_C_equalWord_46
        · rw [if_neg hc5] at h
          refine lv_lconst (v := 1) hx hb d_C_equalWord_39 (by decide) ?_
          refine lv_iload_n hx hb d_C_equalWord_40 rfl (lv_at hl 0 rfl) ?_
          refine lv_lshl hx hb d_C_equalWord_41 rfl ?_
          refine lv_goto (tgt := 46) hx hb d_C_equalWord_42 rfl ?_
          exact g_lret (Wd := k_W ad cA) hx hb hr hlk hK hI h d_C_equalWord_46
  · rw [if_pos hc1] at h
    refine lv_iload_n hx hb d_C_equalWord_4 rfl (lv_at hl 1 rfl) ?_
    refine lv_if_ne (tgt := 14) hx hb d_C_equalWord_5 rfl (fun hc6 => ?_) (fun hc6 => ?_)
    · rw [if_neg hc6] at h
      refine lv_lconst (v := 0) hx hb d_C_equalWord_14 (by decide) ?_
      exact g_lret (Wd := k_W ad cA) hx hb hr hlk hK hI h d_C_equalWord_15
    · rw [if_pos hc6] at h
      refine lv_ldc2 (v := (-1)) hx hb hown (hts _ wd_277) d_C_equalWord_8 ?_
      refine lv_goto (tgt := 15) hx hb d_C_equalWord_11 rfl ?_
      exact g_lret (Wd := k_W ad cA) hx hb hr hlk hK hI h d_C_equalWord_15
