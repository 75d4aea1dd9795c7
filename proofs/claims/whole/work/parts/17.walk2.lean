def f_C_putSecond (a1 : Int32) (u : KS) : Option (Unit × KS) := ob (f_C_has a1 u) fun r1 u2 => if r1 = 0 then some ((), u2) else (gd (inb a1 20) (lt_ (k_p_sc (upd (k_sc u2) a1.toNatClampNeg (k_cn u2)) u2) fun u4 => some ((), u4)))
set_option maxRecDepth 100000 in
set_option maxHeartbeats 4000000 in
theorem c_C_putSecond (l : Launch) (D : va_G) (ad : Nat → Nat) (cA : Nat → ClassId) {a1 : Int32} {u u0 : KS} {r0 : Unit} (h : f_C_putSecond a1 u = some (r0, u0)) : g_M l y_C_putSecond w_C_putSecond { frames := 1, cells := 0, slots := 0, locals := 21 } D vwCl (k_T cA) (k_W ad cA u) [.ref (ad 4), .int a1] none (k_W ad cA u0) := by
  refine g_ofW (cc := c0_C_putSecond) (maxL := 2) (ret := none) (by decide) rfl (Nat.le_of_ble_eq_true rfl) ?_
  intro p e s m below meth c A ls hx hb hr hml hown hts hlk hK hA hI hl
  have hts : ∀ w ∈ gW, w.before ([.ref (ad 4), .int a1] : List Value).toArray s = true := fun w h => hts w (List.mem_cons_of_mem _ h)
  have hown : s.vm.findClass R_C = some m.cls := hown
  have hl : lv_has ls 2 [(0, .ref (ad 4)), (1, .int a1)] := hl
  dsimp only [f_C_putSecond] at h
  refine lv_aload_n hx hb d_C_putSecond_0 rfl (lv_at hl 0 rfl) ?_
  refine lv_iload_n hx hb d_C_putSecond_1 rfl (lv_at hl 1 rfl) ?_
  obtain ⟨r1, u2, hc, h⟩ := ob_e h
  refine g_callV (As := [.int a1]) (rest := []) (w' := k_W ad cA u2) (o := some (.int r1)) ⟨hx, hb, hml, hown, hts⟩ (c_C_has l D ad cA hc) (cwV 1 hts gq_C_40 rfl rfl rfl (by decide +kernel) ⟨Nat.le_of_ble_eq_true rfl, Nat.le_of_ble_eq_true rfl⟩) hK hI hA 4 2 rfl rfl rfl hl.1 rfl (Nat.le_of_ble_eq_true rfl) d_C_putSecond_2 ⟨Nat.zero_le _, Nat.zero_le _⟩ rfl (fun H locs hI => ?_)
  refine lv_if_eq (tgt := 18) hx hb d_C_putSecond_5 rfl (fun hc3 => ?_) (fun hc3 => ?_)
  · rw [if_pos hc3] at h
    exact g_vret (Wd := k_W ad cA) hx hb hr hlk hK hI h d_C_putSecond_18
  · rw [if_neg hc3] at h
    refine lv_aload_n hx hb d_C_putSecond_8 rfl (lv_at hl 0 rfl) ?_
    refine g_get (v := .ref (ad 6)) hx hb hts in_C hown hK hI 4 rfl rfl 1 (by decide) (hts _ wd_43) rfl d_C_putSecond_9 ?_
    refine lv_iload_n hx hb d_C_putSecond_12 rfl (lv_at hl 1 rfl) ?_
    refine lv_aload_n hx hb d_C_putSecond_13 rfl (lv_at hl 0 rfl) ?_
    refine g_get (v := .int (k_cn u2)) hx hb hts in_C hown hK hI 4 rfl rfl 8 (by decide) (hts _ wd_50) rfl d_C_putSecond_14 ?_
    obtain ⟨hg, h⟩ := gd_e h
    obtain ⟨u4, e_u4, h⟩ := lt_e h
    refine g_iast (w' := k_W ad cA u4) hx hb hK hI 6 3 rfl rfl hg d_C_putSecond_17 (by subst e_u4; rfl) (fun H locs hI => ?_)
    exact g_vret (Wd := k_W ad cA) hx hb hr hlk hK hI h d_C_putSecond_18
def f_R_readPair (rc : Int32 → Int32 → KS → Option (Int32 × KS)) (a1 : Int32) (a2 : Int32) (u : KS) : Option (Int32 × KS) := ob (f_R_begin u) fun r1 u2 => ob (rc a1 a2 u2) fun r3 u4 => if r3 = 0 then (gd (bz 0) (some (0, u4))) else (ob (f_C_putSecond r1 u4) fun r6 u7 => ob (rc a1 a2 u7) fun r8 u9 => gd (bz r8) (some (r8, u9)))
set_option maxRecDepth 100000 in
set_option maxHeartbeats 4000000 in
theorem c_R_readPair (l : Launch) (D : va_G) (ad : Nat → Nat) (cA : Nat → ClassId) (N : Nat) (rc : Int32 → Int32 → KS → Option (Int32 × KS)) (hrc : ∀ {b1 b2 : Int32} {v v0 : KS} {r1 : Int32}, rc b1 b2 v = some (r1, v0) → g_M l y_R_readClaim w_R_readClaim { frames := 2 * N + 5, cells := 0, slots := 0, locals := 46 * N + 121 } D vwCl (k_T cA) (k_W ad cA v) [.ref (ad 13), .int b1, .int b2] (some (.int r1)) (k_W ad cA v0)) {a1 : Int32} {a2 : Int32} {u u0 : KS} {r0 : Int32} (h : f_R_readPair rc a1 a2 u = some (r0, u0)) : g_M l y_R_readPair w_R_readPair { frames := 2 * N + 6, cells := 0, slots := 0, locals := 46 * N + 143 } D vwCl (k_T cA) (k_W ad cA u) [.ref (ad 13), .int a1, .int a2] (some (.int r0)) (k_W ad cA u0) := by
  refine g_ofW (cc := c0_R_readPair) (maxL := 4) (ret := (some .boolean)) (by decide) rfl (Nat.le_of_ble_eq_true rfl) ?_
  intro p e s m below meth c A ls hx hb hr hml hown hts hlk hK hA hI hl
  have hts : ∀ w ∈ gW, w.before ([.ref (ad 13), .int a1, .int a2] : List Value).toArray s = true := fun w h => hts w (List.mem_cons_of_mem _ h)
  have hown : s.vm.findClass R_R = some m.cls := hown
  have hl : lv_has ls 4 [(0, .ref (ad 13)), (1, .int a1), (2, .int a2)] := hl
  dsimp only [f_R_readPair] at h
  refine lv_aload_n hx hb d_R_readPair_0 rfl (lv_at hl 0 rfl) ?_
  obtain ⟨r1, u2, hc, h⟩ := ob_e h
  refine g_callV (As := []) (rest := []) (w' := k_W ad cA u2) (o := some (.int r1)) ⟨hx, hb, hml, hown, hts⟩ (c_R_begin l D ad cA hc) (cwV 0 hts gq_R_64 rfl rfl rfl (by decide +kernel) ⟨by dsimp only; omega, by dsimp only; omega⟩) hK hI hA 13 3 rfl rfl rfl hl.1 rfl (Nat.le_of_ble_eq_true rfl) d_R_readPair_1 ⟨Nat.zero_le _, Nat.zero_le _⟩ rfl (fun H locs hI => ?_)
  refine lv_istore_n (lv' := [(3, .int r1), (0, .ref (ad 13)), (1, .int a1), (2, .int a2)]) hx hb d_R_readPair_4 rfl hl (by decide) rfl (fun ls hl => ?_)
  refine lv_aload_n hx hb d_R_readPair_5 rfl (lv_at hl 1 rfl) ?_
  refine lv_iload_n hx hb d_R_readPair_6 rfl (lv_at hl 2 rfl) ?_
  refine lv_iload_n hx hb d_R_readPair_7 rfl (lv_at hl 3 rfl) ?_
  obtain ⟨r3, u4, hc, h⟩ := ob_e h
  refine g_callV (As := [.int a1, .int a2]) (rest := []) (w' := k_W ad cA u4) (o := some (.int r3)) ⟨hx, hb, hml, hown, hts⟩ (hrc hc) (cwV 2 hts gq_R_33 rfl rfl rfl (by decide +kernel) ⟨by dsimp only; omega, by dsimp only; omega⟩) hK hI hA 13 3 rfl rfl rfl hl.1 rfl (Nat.le_of_ble_eq_true rfl) d_R_readPair_8 ⟨Nat.zero_le _, Nat.zero_le _⟩ rfl (fun H locs hI => ?_)
  refine lv_if_ne (tgt := 16) hx hb d_R_readPair_11 rfl (fun hc5 => ?_) (fun hc5 => ?_)
  · rw [if_neg hc5] at h
    refine lv_aload_n hx hb d_R_readPair_16 rfl (lv_at hl 1 rfl) ?_
    refine g_get (v := .ref (ad 4)) hx hb hts in_R hown hK hI 13 rfl rfl 1 (by decide) (hts _ wd_77) rfl d_R_readPair_17 ?_
    refine lv_iload_n hx hb d_R_readPair_20 rfl (lv_at hl 0 rfl) ?_
    obtain ⟨r6, u7, hc, h⟩ := ob_e h
    refine g_callV (As := [.int r1]) (rest := []) (w' := k_W ad cA u7) (o := none) ⟨hx, hb, hml, hown, hts⟩ (c_C_putSecond l D ad cA hc) (cwV 1 hts gq_R_76 rfl rfl rfl (by decide +kernel) ⟨by dsimp only; omega, by dsimp only; omega⟩) hK hI hA 4 2 rfl rfl rfl hl.1 rfl (Nat.le_of_ble_eq_true rfl) d_R_readPair_21 ⟨Nat.zero_le _, Nat.zero_le _⟩ rfl (fun H locs hI => ?_)
    refine lv_aload_n hx hb d_R_readPair_24 rfl (lv_at hl 1 rfl) ?_
    refine lv_iload_n hx hb d_R_readPair_25 rfl (lv_at hl 2 rfl) ?_
    refine lv_iload_n hx hb d_R_readPair_26 rfl (lv_at hl 3 rfl) ?_
    obtain ⟨r8, u9, hc, h⟩ := ob_e h
    refine g_callV (As := [.int a1, .int a2]) (rest := []) (w' := k_W ad cA u9) (o := some (.int r8)) ⟨hx, hb, hml, hown, hts⟩ (hrc hc) (cwV 2 hts gq_R_33 rfl rfl rfl (by decide +kernel) ⟨by dsimp only; omega, by dsimp only; omega⟩) hK hI hA 13 3 rfl rfl rfl hl.1 rfl (Nat.le_of_ble_eq_true rfl) d_R_readPair_27 ⟨Nat.zero_le _, Nat.zero_le _⟩ rfl (fun H locs hI => ?_)
    exact g_zret (Wd := k_W ad cA) hx hb hr hlk hK hI h d_R_readPair_30
  · rw [if_pos hc5] at h
    refine lv_iconst (v := 0) hx hb d_R_readPair_14 (by decide) ?_
    exact g_zret (Wd := k_W ad cA) hx hb hr hlk hK hI h d_R_readPair_15
def f_C_putVariable (a1 : Int32) (a2 : Int32) (u : KS) : Option (Unit × KS) := ob (f_C_has a1 u) fun r1 u2 => if r1 = 0 then some ((), u2) else (gd (inb a1 20) (lt_ (k_p_vr (upd (k_vr u2) a1.toNatClampNeg a2) u2) fun u4 => some ((), u4)))
set_option maxRecDepth 100000 in
set_option maxHeartbeats 4000000 in
theorem c_C_putVariable (l : Launch) (D : va_G) (ad : Nat → Nat) (cA : Nat → ClassId) {a1 : Int32} {a2 : Int32} {u u0 : KS} {r0 : Unit} (h : f_C_putVariable a1 a2 u = some (r0, u0)) : g_M l y_C_putVariable w_C_putVariable { frames := 1, cells := 0, slots := 0, locals := 21 } D vwCl (k_T cA) (k_W ad cA u) [.ref (ad 4), .int a1, .int a2] none (k_W ad cA u0) := by
  refine g_ofW (cc := c0_C_putVariable) (maxL := 3) (ret := none) (by decide) rfl (Nat.le_of_ble_eq_true rfl) ?_
  intro p e s m below meth c A ls hx hb hr hml hown hts hlk hK hA hI hl
  have hts : ∀ w ∈ gW, w.before ([.ref (ad 4), .int a1, .int a2] : List Value).toArray s = true := fun w h => hts w (List.mem_cons_of_mem _ h)
  have hown : s.vm.findClass R_C = some m.cls := hown
  have hl : lv_has ls 3 [(0, .ref (ad 4)), (1, .int a1), (2, .int a2)] := hl
  dsimp only [f_C_putVariable] at h
  refine lv_aload_n hx hb d_C_putVariable_0 rfl (lv_at hl 0 rfl) ?_
  refine lv_iload_n hx hb d_C_putVariable_1 rfl (lv_at hl 1 rfl) ?_
  obtain ⟨r1, u2, hc, h⟩ := ob_e h
  refine g_callV (As := [.int a1]) (rest := []) (w' := k_W ad cA u2) (o := some (.int r1)) ⟨hx, hb, hml, hown, hts⟩ (c_C_has l D ad cA hc) (cwV 1 hts gq_C_40 rfl rfl rfl (by decide +kernel) ⟨Nat.le_of_ble_eq_true rfl, Nat.le_of_ble_eq_true rfl⟩) hK hI hA 4 2 rfl rfl rfl hl.1 rfl (Nat.le_of_ble_eq_true rfl) d_C_putVariable_2 ⟨Nat.zero_le _, Nat.zero_le _⟩ rfl (fun H locs hI => ?_)
  refine lv_if_eq (tgt := 15) hx hb d_C_putVariable_5 rfl (fun hc3 => ?_) (fun hc3 => ?_)
  · rw [if_pos hc3] at h
    exact g_vret (Wd := k_W ad cA) hx hb hr hlk hK hI h d_C_putVariable_15
  · rw [if_neg hc3] at h
    refine lv_aload_n hx hb d_C_putVariable_8 rfl (lv_at hl 0 rfl) ?_
    refine g_get (v := .ref (ad 7)) hx hb hts in_C hown hK hI 4 rfl rfl 2 (by decide) (hts _ wd_44) rfl d_C_putVariable_9 ?_
    refine lv_iload_n hx hb d_C_putVariable_12 rfl (lv_at hl 1 rfl) ?_
    refine lv_iload_n hx hb d_C_putVariable_13 rfl (lv_at hl 2 rfl) ?_
    obtain ⟨hg, h⟩ := gd_e h
    obtain ⟨u4, e_u4, h⟩ := lt_e h
    refine g_iast (w' := k_W ad cA u4) hx hb hK hI 7 4 rfl rfl hg d_C_putVariable_14 (by subst e_u4; rfl) (fun H locs hI => ?_)
    exact g_vret (Wd := k_W ad cA) hx hb hr hlk hK hI h d_C_putVariable_15
def f_R_readQuantified_J24 (rc : Int32 → Int32 → KS → Option (Int32 × KS)) (v1 : Int32) (v2 : Int32) (t0 : Int32) (u : KS) : Option (Int32 × KS) := gd (bz t0) (lt_ (k_p_ne t0 u) fun u4 => ob (f_R_begin u4) fun r5 u6 => ob (f_R_mark u6) fun r7 u8 => ob (f_R_variableOf r7 u8) fun r9 u10 => if 0 ≤ r9 then (lt_ (k_p_at ((k_at u10) + 1) u10) fun u12 => ob (f_C_putVariable r5 r9 u12) fun r13 u14 => ob (rc (v1 ||| (1 <<< (r9 &&& 31))) (v2 + 1) u14) fun r15 u16 => gd (bz r15) (some (r15, u16))) else (gd (bz 0) (some (0, u10))))
def f_R_readQuantified (rc : Int32 → Int32 → KS → Option (Int32 × KS)) (a1 : Int32) (a2 : Int32) (u : KS) : Option (Int32 × KS) := if a2 < 2 then (if (k_ne u) = 0 then (if a2 ≤ 0 then f_R_readQuantified_J24 rc a1 a2 0 u else f_R_readQuantified_J24 rc a1 a2 1 u) else f_R_readQuantified_J24 rc a1 a2 1 u) else (gd (bz 0) (some (0, u)))
set_option maxRecDepth 100000 in
set_option maxHeartbeats 4000000 in
theorem c_R_readQuantified (l : Launch) (D : va_G) (ad : Nat → Nat) (cA : Nat → ClassId) (N : Nat) (rc : Int32 → Int32 → KS → Option (Int32 × KS)) (hrc : ∀ {b1 b2 : Int32} {v v0 : KS} {r1 : Int32}, rc b1 b2 v = some (r1, v0) → g_M l y_R_readClaim w_R_readClaim { frames := 2 * N + 5, cells := 0, slots := 0, locals := 46 * N + 121 } D vwCl (k_T cA) (k_W ad cA v) [.ref (ad 13), .int b1, .int b2] (some (.int r1)) (k_W ad cA v0)) {a1 : Int32} {a2 : Int32} {u u0 : KS} {r0 : Int32} (h : f_R_readQuantified rc a1 a2 u = some (r0, u0)) : g_M l y_R_readQuantified w_R_readQuantified { frames := 2 * N + 6, cells := 0, slots := 0, locals := 46 * N + 143 } D vwCl (k_T cA) (k_W ad cA u) [.ref (ad 13), .int a1, .int a2] (some (.int r0)) (k_W ad cA u0) := by
  refine g_ofW (cc := c0_R_readQuantified) (maxL := 5) (ret := (some .boolean)) (by decide) rfl (Nat.le_of_ble_eq_true rfl) ?_
  intro p e s m below meth c A ls hx hb hr hml hown hts hlk hK hA hI hl
  have hts : ∀ w ∈ gW, w.before ([.ref (ad 13), .int a1, .int a2] : List Value).toArray s = true := fun w h => hts w (List.mem_cons_of_mem _ h)
  have hown : s.vm.findClass R_R = some m.cls := hown
  have hl : lv_has ls 5 [(0, .ref (ad 13)), (1, .int a1), (2, .int a2)] := hl
  have w24 : ∀ (v1 : Int32) (v2 : Int32) (t0 : Int32) (u : KS) (H : Heap) (locs : List Loc) (ls : Array Slot), lv_has ls 5 [(0, .ref (ad 13)), (1, .int v1), (2, .int v2)] → g_I D vwCl A s.heap H locs (k_W ad cA u) → f_R_readQuantified_J24 rc v1 v2 t0 u = some (r0, u0) → W p l e { frames := 2 * N + 6, cells := 0, slots := 0, locals := 46 * N + 143 } s m ([.ref (ad 13), .int a1, .int a2] : List Value).toArray below meth c H locs 0 0 (MQ below (g_Q D vwCl (k_T cA) (k_W ad cA u0) A (some (.int r0))) ([.ref (ad 13), .int a1, .int a2] : List Value).toArray s 0 0 A) (F0 m 24 ls [.int t0, .ref (ad 13)]) := by
    intro  v1 v2 t0 u H locs ls hl hI h
    dsimp only [f_R_readQuantified_J24] at h
    obtain ⟨hg, h⟩ := gd_e h
    obtain ⟨u4, e_u4, h⟩ := lt_e h
    refine g_put (t := .boolean) (w' := k_W ad cA u4) hx hb hts in_R ty_R tyok_R nm_R hown hK hI 13 rfl rfl 4 (by decide) (hts _ wd_80) rfl (by decide +kernel) (bz_n hg) (bz_f hg) (Nat.le_of_ble_eq_true rfl) d_R_readQuantified_24 (by subst e_u4; rfl) (fun H locs hI => ?_)
    refine lv_aload_n hx hb d_R_readQuantified_27 rfl (lv_at hl 0 rfl) ?_
    obtain ⟨r5, u6, hc, h⟩ := ob_e h
    refine g_callV (As := []) (rest := []) (w' := k_W ad cA u6) (o := some (.int r5)) ⟨hx, hb, hml, hown, hts⟩ (c_R_begin l D ad cA hc) (cwV 0 hts gq_R_64 rfl rfl rfl (by decide +kernel) ⟨by dsimp only; omega, by dsimp only; omega⟩) hK hI hA 13 3 rfl rfl rfl hl.1 rfl (Nat.le_of_ble_eq_true rfl) d_R_readQuantified_28 ⟨Nat.zero_le _, Nat.zero_le _⟩ rfl (fun H locs hI => ?_)
    refine lv_istore_n (lv' := [(3, .int r5), (0, .ref (ad 13)), (1, .int v1), (2, .int v2)]) hx hb d_R_readQuantified_31 rfl hl (by decide) rfl (fun ls hl => ?_)
    refine lv_aload_n hx hb d_R_readQuantified_32 rfl (lv_at hl 1 rfl) ?_
    obtain ⟨r7, u8, hc, h⟩ := ob_e h
    refine g_callV (As := []) (rest := []) (w' := k_W ad cA u8) (o := some (.int r7)) ⟨hx, hb, hml, hown, hts⟩ (c_R_mark l D ad cA hc) (cwV 0 hts gq_R_37 rfl rfl rfl (by decide +kernel) ⟨by dsimp only; omega, by dsimp only; omega⟩) hK hI hA 13 3 rfl rfl rfl hl.1 rfl (Nat.le_of_ble_eq_true rfl) d_R_readQuantified_33 ⟨Nat.zero_le _, Nat.zero_le _⟩ rfl (fun H locs hI => ?_)
    obtain ⟨r9, u10, hc, h⟩ := ob_e h
    refine g_callS (As := [.int r7]) (rest := []) (w' := k_W ad cA u10) (o := some (.int r9)) ⟨hx, hb, hml, hown, hts⟩ (c_R_variableOf l D ad cA hc) (va_cwS 1 hts gq_R_80 rfl rfl rfl (by decide +kernel) ⟨by dsimp only; omega, by dsimp only; omega⟩) hK hI hA rfl hl.1 rfl (Nat.le_of_ble_eq_true rfl) d_R_readQuantified_36 ⟨Nat.zero_le _, Nat.zero_le _⟩ rfl (fun H locs hI => ?_)
    refine lv_istore (lv' := [(4, .int r9), (3, .int r5), (0, .ref (ad 13)), (1, .int v1), (2, .int v2)]) hx hb d_R_readQuantified_39 hl (by decide) rfl (fun ls hl => ?_)
    refine lv_iload hx hb d_R_readQuantified_41 (lv_at hl 0 rfl) ?_
    refine lv_if_ge (tgt := 48) hx hb d_R_readQuantified_43 rfl (fun hc11 => ?_) (fun hc11 => ?_)
    · rw [if_pos hc11] at h
      refine lv_aload_n hx hb d_R_readQuantified_48 rfl (lv_at hl 2 rfl) ?_
      refine lv_dup hx hb d_R_readQuantified_49 rfl ?_
      refine g_get (v := .int (k_at u10)) hx hb hts in_R hown hK hI 13 rfl rfl 2 (by decide) (hts _ wd_78) rfl d_R_readQuantified_50 ?_
      refine lv_iconst (v := 1) hx hb d_R_readQuantified_53 (by decide) ?_
      refine lv_iadd hx hb d_R_readQuantified_54 ?_
      obtain ⟨u12, e_u12, h⟩ := lt_e h
      refine g_put (t := .int) (w' := k_W ad cA u12) hx hb hts in_R ty_R tyok_R nm_R hown hK hI 13 rfl rfl 2 (by decide) (hts _ wd_78) rfl (by decide +kernel) rfl rfl (Nat.le_of_ble_eq_true rfl) d_R_readQuantified_55 (by subst e_u12; rfl) (fun H locs hI => ?_)
      refine lv_aload_n hx hb d_R_readQuantified_58 rfl (lv_at hl 2 rfl) ?_
      refine g_get (v := .ref (ad 4)) hx hb hts in_R hown hK hI 13 rfl rfl 1 (by decide) (hts _ wd_77) rfl d_R_readQuantified_59 ?_
      refine lv_iload_n hx hb d_R_readQuantified_62 rfl (lv_at hl 1 rfl) ?_
      refine lv_iload hx hb d_R_readQuantified_63 (lv_at hl 0 rfl) ?_
      obtain ⟨r13, u14, hc, h⟩ := ob_e h
      refine g_callV (As := [.int r5, .int r9]) (rest := []) (w' := k_W ad cA u14) (o := none) ⟨hx, hb, hml, hown, hts⟩ (c_C_putVariable l D ad cA hc) (cwV 2 hts gq_R_83 rfl rfl rfl (by decide +kernel) ⟨by dsimp only; omega, by dsimp only; omega⟩) hK hI hA 4 2 rfl rfl rfl hl.1 rfl (Nat.le_of_ble_eq_true rfl) d_R_readQuantified_65 ⟨Nat.zero_le _, Nat.zero_le _⟩ rfl (fun H locs hI => ?_)
      refine lv_aload_n hx hb d_R_readQuantified_68 rfl (lv_at hl 2 rfl) ?_
      refine lv_iload_n hx hb d_R_readQuantified_69 rfl (lv_at hl 3 rfl) ?_
      refine lv_iconst (v := 1) hx hb d_R_readQuantified_70 (by decide) ?_
      refine lv_iload hx hb d_R_readQuantified_71 (lv_at hl 0 rfl) ?_
      refine lv_ishl hx hb d_R_readQuantified_73 ?_
      refine lv_ior hx hb d_R_readQuantified_74 ?_
      refine lv_iload_n hx hb d_R_readQuantified_75 rfl (lv_at hl 4 rfl) ?_
      refine lv_iconst (v := 1) hx hb d_R_readQuantified_76 (by decide) ?_
      refine lv_iadd hx hb d_R_readQuantified_77 ?_
      obtain ⟨r15, u16, hc, h⟩ := ob_e h
      refine g_callV (As := [.int (v1 ||| (1 <<< (r9 &&& 31))), .int (v2 + 1)]) (rest := []) (w' := k_W ad cA u16) (o := some (.int r15)) ⟨hx, hb, hml, hown, hts⟩ (hrc hc) (cwV 2 hts gq_R_33 rfl rfl rfl (by decide +kernel) ⟨by dsimp only; omega, by dsimp only; omega⟩) hK hI hA 13 3 rfl rfl rfl hl.1 rfl (Nat.le_of_ble_eq_true rfl) d_R_readQuantified_78 ⟨Nat.zero_le _, Nat.zero_le _⟩ rfl (fun H locs hI => ?_)
      exact g_zret (Wd := k_W ad cA) hx hb hr hlk hK hI h d_R_readQuantified_81
    · rw [if_neg hc11] at h
      refine lv_iconst (v := 0) hx hb d_R_readQuantified_46 (by decide) ?_
      exact g_zret (Wd := k_W ad cA) hx hb hr hlk hK hI h d_R_readQuantified_47
  dsimp only [f_R_readQuantified] at h
  refine lv_iload_n hx hb d_R_readQuantified_0 rfl (lv_at hl 2 rfl) ?_
  refine lv_iconst (v := 2) hx hb d_R_readQuantified_1 (by decide) ?_
  refine lv_icmp_lt (tgt := 7) hx hb d_R_readQuantified_2 rfl (fun hc1 => ?_) (fun hc1 => ?_)
  · rw [if_pos hc1] at h
    refine lv_aload_n hx hb d_R_readQuantified_7 rfl (lv_at hl 0 rfl) ?_
    refine lv_aload_n hx hb d_R_readQuantified_8 rfl (lv_at hl 0 rfl) ?_
    refine g_get (v := .int (k_ne u)) hx hb hts in_R hown hK hI 13 rfl rfl 4 (by decide) (hts _ wd_80) rfl d_R_readQuantified_9 ?_
    refine lv_if_ne (tgt := 19) hx hb d_R_readQuantified_12 rfl (fun hc2 => ?_) (fun hc2 => ?_)
    · rw [if_neg hc2] at h
      refine lv_iconst (v := 1) hx hb d_R_readQuantified_19 (by decide) ?_
      refine lv_goto (tgt := 24) hx hb d_R_readQuantified_20 rfl ?_
      exact w24 a1 a2 1 u _ _ _ (lv_sub hl [0, 1, 2] rfl) hI h
    · rw [if_pos hc2] at h
      refine lv_iload_n hx hb d_R_readQuantified_15 rfl (lv_at hl 2 rfl) ?_
      refine lv_if_le (tgt := 23) hx hb d_R_readQuantified_16 rfl (fun hc3 => ?_) (fun hc3 => ?_)
      · rw [if_pos hc3] at h
        refine lv_iconst (v := 0) hx hb d_R_readQuantified_23 (by decide) ?_
        exact w24 a1 a2 0 u _ _ _ (lv_sub hl [0, 1, 2] rfl) hI h
      · rw [if_neg hc3] at h
        refine lv_iconst (v := 1) hx hb d_R_readQuantified_19 (by decide) ?_
        refine lv_goto (tgt := 24) hx hb d_R_readQuantified_20 rfl ?_
        exact w24 a1 a2 1 u _ _ _ (lv_sub hl [0, 1, 2] rfl) hI h
  · rw [if_neg hc1] at h
    refine lv_iconst (v := 0) hx hb d_R_readQuantified_5 (by decide) ?_
    exact g_zret (Wd := k_W ad cA) hx hb hr hlk hK hI h d_R_readQuantified_6
def f_R_readClaim1 (rc : Int32 → Int32 → KS → Option (Int32 × KS)) (a1 : Int32) (a2 : Int32) (u : KS) : Option (Int32 × KS) := ob (f_C_isFull u) fun r1 u2 => if r1 = 0 then (ob (f_R_mark u2) fun r4 u5 => if r4 = 33 then (ob (f_R_begin u5) fun r7 u8 => ob (rc a1 a2 u8) fun r9 u10 => gd (bz r9) (some (r9, u10))) else if r4 = 38 then (ob (f_R_readPair rc a1 a2 u5) fun r12 u13 => gd (bz r12) (some (r12, u13))) else if r4 = 47 then (ob (f_R_readPair rc a1 a2 u5) fun r15 u16 => gd (bz r15) (some (r15, u16))) else if r4 = 62 then (ob (f_R_readPair rc a1 a2 u5) fun r18 u19 => gd (bz r18) (some (r18, u19))) else if r4 = 65 then (ob (f_R_readQuantified rc a1 a2 u5) fun r21 u22 => gd (bz r21) (some (r21, u22))) else if r4 = 69 then (ob (f_R_readQuantified rc a1 a2 u5) fun r24 u25 => gd (bz r24) (some (r24, u25))) else if r4 = 91 then (ob (f_R_readBracket a1 u5) fun r27 u28 => gd (bz r27) (some (r27, u28))) else (gd (bz 0) (some (0, u5)))) else (gd (bz 0) (some (0, u2)))
set_option maxRecDepth 100000 in
set_option maxHeartbeats 4000000 in
theorem c_R_readClaim1 (l : Launch) (D : va_G) (ad : Nat → Nat) (cA : Nat → ClassId) (N : Nat) (rc : Int32 → Int32 → KS → Option (Int32 × KS)) (hrc : ∀ {b1 b2 : Int32} {v v0 : KS} {r1 : Int32}, rc b1 b2 v = some (r1, v0) → g_M l y_R_readClaim w_R_readClaim { frames := 2 * N + 5, cells := 0, slots := 0, locals := 46 * N + 121 } D vwCl (k_T cA) (k_W ad cA v) [.ref (ad 13), .int b1, .int b2] (some (.int r1)) (k_W ad cA v0)) {a1 : Int32} {a2 : Int32} {u u0 : KS} {r0 : Int32} (h : f_R_readClaim1 rc a1 a2 u = some (r0, u0)) : g_M l y_R_readClaim w_R_readClaim { frames := 2 * N + 7, cells := 0, slots := 0, locals := 46 * N + 167 } D vwCl (k_T cA) (k_W ad cA u) [.ref (ad 13), .int a1, .int a2] (some (.int r0)) (k_W ad cA u0) := by
  refine g_ofW (cc := c0_R_readClaim) (maxL := 3) (ret := (some .boolean)) (by decide) rfl (Nat.le_of_ble_eq_true rfl) ?_
  intro p e s m below meth c A ls hx hb hr hml hown hts hlk hK hA hI hl
  have hts : ∀ w ∈ gW, w.before ([.ref (ad 13), .int a1, .int a2] : List Value).toArray s = true := fun w h => hts w (List.mem_cons_of_mem _ h)
  have hown : s.vm.findClass R_R = some m.cls := hown
  have hl : lv_has ls 3 [(0, .ref (ad 13)), (1, .int a1), (2, .int a2)] := hl
  dsimp only [f_R_readClaim1] at h
  refine lv_aload_n hx hb d_R_readClaim_0 rfl (lv_at hl 0 rfl) ?_
  refine g_get (v := .ref (ad 4)) hx hb hts in_R hown hK hI 13 rfl rfl 1 (by decide) (hts _ wd_77) rfl d_R_readClaim_1 ?_
  obtain ⟨r1, u2, hc, h⟩ := ob_e h
  refine g_callV (As := []) (rest := []) (w' := k_W ad cA u2) (o := some (.int r1)) ⟨hx, hb, hml, hown, hts⟩ (c_C_isFull l D ad cA hc) (cwV 0 hts gq_R_57 rfl rfl rfl (by decide +kernel) ⟨by dsimp only; omega, by dsimp only; omega⟩) hK hI hA 4 2 rfl rfl rfl hl.1 rfl (Nat.le_of_ble_eq_true rfl) d_R_readClaim_4 ⟨Nat.zero_le _, Nat.zero_le _⟩ rfl (fun H locs hI => ?_)
  refine lv_if_eq (tgt := 12) hx hb d_R_readClaim_7 rfl (fun hc3 => ?_) (fun hc3 => ?_)
  · rw [if_pos hc3] at h
    refine lv_aload_n hx hb d_R_readClaim_12 rfl (lv_at hl 0 rfl) ?_
    obtain ⟨r4, u5, hc, h⟩ := ob_e h
    refine g_callV (As := []) (rest := []) (w' := k_W ad cA u5) (o := some (.int r4)) ⟨hx, hb, hml, hown, hts⟩ (c_R_mark l D ad cA hc) (cwV 0 hts gq_R_37 rfl rfl rfl (by decide +kernel) ⟨by dsimp only; omega, by dsimp only; omega⟩) hK hI hA 13 3 rfl rfl rfl hl.1 rfl (Nat.le_of_ble_eq_true rfl) d_R_readClaim_13 ⟨Nat.zero_le _, Nat.zero_le _⟩ rfl (fun H locs hI => ?_)
    by_cases hc6 : r4 = 33
    · rw [if_pos hc6] at h
      refine lv_lookup (off := 74) (tgt := 90) hx hb d_R_readClaim_16 (by decide) (by rw [hc6]; decide +kernel) rfl ?_
      refine lv_aload_n hx hb d_R_readClaim_90 rfl (lv_at hl 0 rfl) ?_
      obtain ⟨r7, u8, hc, h⟩ := ob_e h
      refine g_callV (As := []) (rest := []) (w' := k_W ad cA u8) (o := some (.int r7)) ⟨hx, hb, hml, hown, hts⟩ (c_R_begin l D ad cA hc) (cwV 0 hts gq_R_64 rfl rfl rfl (by decide +kernel) ⟨by dsimp only; omega, by dsimp only; omega⟩) hK hI hA 13 3 rfl rfl rfl hl.1 rfl (Nat.le_of_ble_eq_true rfl) d_R_readClaim_91 ⟨Nat.zero_le _, Nat.zero_le _⟩ rfl (fun H locs hI => ?_)
      refine lv_pop hx hb d_R_readClaim_94 rfl ?_
      refine lv_aload_n hx hb d_R_readClaim_95 rfl (lv_at hl 0 rfl) ?_
      refine lv_iload_n hx hb d_R_readClaim_96 rfl (lv_at hl 1 rfl) ?_
      refine lv_iload_n hx hb d_R_readClaim_97 rfl (lv_at hl 2 rfl) ?_
      obtain ⟨r9, u10, hc, h⟩ := ob_e h
      refine g_callV (As := [.int a1, .int a2]) (rest := []) (w' := k_W ad cA u10) (o := some (.int r9)) ⟨hx, hb, hml, hown, hts⟩ (hrc hc) (cwV 2 hts gq_R_33 rfl rfl rfl (by decide +kernel) ⟨by dsimp only; omega, by dsimp only; omega⟩) hK hI hA 13 3 rfl rfl rfl hl.1 rfl (Nat.le_of_ble_eq_true rfl) d_R_readClaim_98 ⟨Nat.zero_le _, Nat.zero_le _⟩ rfl (fun H locs hI => ?_)
      exact g_zret (Wd := k_W ad cA) hx hb hr hlk hK hI h d_R_readClaim_101
    · rw [if_neg hc6] at h
      by_cases hc11 : r4 = 38
      · rw [if_pos hc11] at h
        refine lv_lookup (off := 86) (tgt := 102) hx hb d_R_readClaim_16 (by decide) (by rw [hc11]; decide +kernel) rfl ?_
        refine lv_aload_n hx hb d_R_readClaim_102 rfl (lv_at hl 0 rfl) ?_
        refine lv_iload_n hx hb d_R_readClaim_103 rfl (lv_at hl 1 rfl) ?_
        refine lv_iload_n hx hb d_R_readClaim_104 rfl (lv_at hl 2 rfl) ?_
        obtain ⟨r12, u13, hc, h⟩ := ob_e h
        refine g_callV (As := [.int a1, .int a2]) (rest := []) (w' := k_W ad cA u13) (o := some (.int r12)) ⟨hx, hb, hml, hown, hts⟩ (c_R_readPair l D ad cA N rc hrc hc) (cwV 2 hts gq_R_67 rfl rfl rfl (by decide +kernel) ⟨by dsimp only; omega, by dsimp only; omega⟩) hK hI hA 13 3 rfl rfl rfl hl.1 rfl (Nat.le_of_ble_eq_true rfl) d_R_readClaim_105 ⟨Nat.zero_le _, Nat.zero_le _⟩ rfl (fun H locs hI => ?_)
        exact g_zret (Wd := k_W ad cA) hx hb hr hlk hK hI h d_R_readClaim_108
      · rw [if_neg hc11] at h
        by_cases hc14 : r4 = 47
        · rw [if_pos hc14] at h
          refine lv_lookup (off := 86) (tgt := 102) hx hb d_R_readClaim_16 (by decide) (by rw [hc14]; decide +kernel) rfl ?_
          refine lv_aload_n hx hb d_R_readClaim_102 rfl (lv_at hl 0 rfl) ?_
          refine lv_iload_n hx hb d_R_readClaim_103 rfl (lv_at hl 1 rfl) ?_
          refine lv_iload_n hx hb d_R_readClaim_104 rfl (lv_at hl 2 rfl) ?_
          obtain ⟨r15, u16, hc, h⟩ := ob_e h
          refine g_callV (As := [.int a1, .int a2]) (rest := []) (w' := k_W ad cA u16) (o := some (.int r15)) ⟨hx, hb, hml, hown, hts⟩ (c_R_readPair l D ad cA N rc hrc hc) (cwV 2 hts gq_R_67 rfl rfl rfl (by decide +kernel) ⟨by dsimp only; omega, by dsimp only; omega⟩) hK hI hA 13 3 rfl rfl rfl hl.1 rfl (Nat.le_of_ble_eq_true rfl) d_R_readClaim_105 ⟨Nat.zero_le _, Nat.zero_le _⟩ rfl (fun H locs hI => ?_)
          exact g_zret (Wd := k_W ad cA) hx hb hr hlk hK hI h d_R_readClaim_108
        · rw [if_neg hc14] at h
          by_cases hc17 : r4 = 62
          · rw [if_pos hc17] at h
            refine lv_lookup (off := 86) (tgt := 102) hx hb d_R_readClaim_16 (by decide) (by rw [hc17]; decide +kernel) rfl ?_
            refine lv_aload_n hx hb d_R_readClaim_102 rfl (lv_at hl 0 rfl) ?_
            refine lv_iload_n hx hb d_R_readClaim_103 rfl (lv_at hl 1 rfl) ?_
            refine lv_iload_n hx hb d_R_readClaim_104 rfl (lv_at hl 2 rfl) ?_
            obtain ⟨r18, u19, hc, h⟩ := ob_e h
            refine g_callV (As := [.int a1, .int a2]) (rest := []) (w' := k_W ad cA u19) (o := some (.int r18)) ⟨hx, hb, hml, hown, hts⟩ (c_R_readPair l D ad cA N rc hrc hc) (cwV 2 hts gq_R_67 rfl rfl rfl (by decide +kernel) ⟨by dsimp only; omega, by dsimp only; omega⟩) hK hI hA 13 3 rfl rfl rfl hl.1 rfl (Nat.le_of_ble_eq_true rfl) d_R_readClaim_105 ⟨Nat.zero_le _, Nat.zero_le _⟩ rfl (fun H locs hI => ?_)
            exact g_zret (Wd := k_W ad cA) hx hb hr hlk hK hI h d_R_readClaim_108
          · rw [if_neg hc17] at h
            by_cases hc20 : r4 = 65
            · rw [if_pos hc20] at h
              refine lv_lookup (off := 93) (tgt := 109) hx hb d_R_readClaim_16 (by decide) (by rw [hc20]; decide +kernel) rfl ?_
              refine lv_aload_n hx hb d_R_readClaim_109 rfl (lv_at hl 0 rfl) ?_
              refine lv_iload_n hx hb d_R_readClaim_110 rfl (lv_at hl 1 rfl) ?_
              refine lv_iload_n hx hb d_R_readClaim_111 rfl (lv_at hl 2 rfl) ?_
              obtain ⟨r21, u22, hc, h⟩ := ob_e h
              refine g_callV (As := [.int a1, .int a2]) (rest := []) (w' := k_W ad cA u22) (o := some (.int r21)) ⟨hx, hb, hml, hown, hts⟩ (c_R_readQuantified l D ad cA N rc hrc hc) (cwV 2 hts gq_R_70 rfl rfl rfl (by decide +kernel) ⟨by dsimp only; omega, by dsimp only; omega⟩) hK hI hA 13 3 rfl rfl rfl hl.1 rfl (Nat.le_of_ble_eq_true rfl) d_R_readClaim_112 ⟨Nat.zero_le _, Nat.zero_le _⟩ rfl (fun H locs hI => ?_)
              exact g_zret (Wd := k_W ad cA) hx hb hr hlk hK hI h d_R_readClaim_115
            · rw [if_neg hc20] at h
              by_cases hc23 : r4 = 69
              · rw [if_pos hc23] at h
                refine lv_lookup (off := 93) (tgt := 109) hx hb d_R_readClaim_16 (by decide) (by rw [hc23]; decide +kernel) rfl ?_
                refine lv_aload_n hx hb d_R_readClaim_109 rfl (lv_at hl 0 rfl) ?_
                refine lv_iload_n hx hb d_R_readClaim_110 rfl (lv_at hl 1 rfl) ?_
                refine lv_iload_n hx hb d_R_readClaim_111 rfl (lv_at hl 2 rfl) ?_
                obtain ⟨r24, u25, hc, h⟩ := ob_e h
                refine g_callV (As := [.int a1, .int a2]) (rest := []) (w' := k_W ad cA u25) (o := some (.int r24)) ⟨hx, hb, hml, hown, hts⟩ (c_R_readQuantified l D ad cA N rc hrc hc) (cwV 2 hts gq_R_70 rfl rfl rfl (by decide +kernel) ⟨by dsimp only; omega, by dsimp only; omega⟩) hK hI hA 13 3 rfl rfl rfl hl.1 rfl (Nat.le_of_ble_eq_true rfl) d_R_readClaim_112 ⟨Nat.zero_le _, Nat.zero_le _⟩ rfl (fun H locs hI => ?_)
                exact g_zret (Wd := k_W ad cA) hx hb hr hlk hK hI h d_R_readClaim_115
              · rw [if_neg hc23] at h
                by_cases hc26 : r4 = 91
                · rw [if_pos hc26] at h
                  refine lv_lookup (off := 68) (tgt := 84) hx hb d_R_readClaim_16 (by decide) (by rw [hc26]; decide +kernel) rfl ?_
                  refine lv_aload_n hx hb d_R_readClaim_84 rfl (lv_at hl 0 rfl) ?_
                  refine lv_iload_n hx hb d_R_readClaim_85 rfl (lv_at hl 1 rfl) ?_
                  obtain ⟨r27, u28, hc, h⟩ := ob_e h
                  refine g_callV (As := [.int a1]) (rest := []) (w' := k_W ad cA u28) (o := some (.int r27)) ⟨hx, hb, hml, hown, hts⟩ (c_R_readBracket l D ad cA hc) (cwV 1 hts gq_R_61 rfl rfl rfl (by decide +kernel) ⟨by dsimp only; omega, by dsimp only; omega⟩) hK hI hA 13 3 rfl rfl rfl hl.1 rfl (Nat.le_of_ble_eq_true rfl) d_R_readClaim_86 ⟨Nat.zero_le _, Nat.zero_le _⟩ rfl (fun H locs hI => ?_)
                  exact g_zret (Wd := k_W ad cA) hx hb hr hlk hK hI h d_R_readClaim_89
                · rw [if_neg hc26] at h
                  refine lv_lookup (off := 100) (tgt := 116) hx hb d_R_readClaim_16 (by decide) ((lv_osw hc6 (by decide)).trans ((lv_osw hc11 (by decide)).trans ((lv_osw hc14 (by decide)).trans ((lv_osw hc17 (by decide)).trans ((lv_osw hc20 (by decide)).trans ((lv_osw hc23 (by decide)).trans ((lv_osw hc26 (by decide)).trans rfl))))))) rfl ?_
                  refine lv_iconst (v := 0) hx hb d_R_readClaim_116 (by decide) ?_
                  exact g_zret (Wd := k_W ad cA) hx hb hr hlk hK hI h d_R_readClaim_117
  · rw [if_neg hc3] at h
    refine lv_iconst (v := 0) hx hb d_R_readClaim_10 (by decide) ?_
    exact g_zret (Wd := k_W ad cA) hx hb hr hlk hK hI h d_R_readClaim_11
def f_R_readClaim (n : Nat) : Int32 → Int32 → KS → Option (Int32 × KS) := match n with
  | 0 => fun _ _ _ => none
  | n + 1 => f_R_readClaim1 (f_R_readClaim n)
theorem c_R_readClaim (l : Launch) (D : va_G) (ad : Nat → Nat) (cA : Nat → ClassId) : ∀ (N : Nat) {a1 a2 : Int32} {u u0 : KS} {r0 : Int32}, f_R_readClaim N a1 a2 u = some (r0, u0) → g_M l y_R_readClaim w_R_readClaim { frames := 2 * N + 5, cells := 0, slots := 0, locals := 46 * N + 121 } D vwCl (k_T cA) (k_W ad cA u) [.ref (ad 13), .int a1, .int a2] (some (.int r0)) (k_W ad cA u0) := by
  intro N
  induction N with
  | zero => intro a1 a2 u u0 r0 h; cases h
  | succ N ih =>
    intro a1 a2 u u0 r0 h
    have h2 := c_R_readClaim1 l D ad cA N (f_R_readClaim N) (fun h => ih h) h
    have e1 : 2 * (N + 1) + 5 = 2 * N + 7 := by omega
    have e2 : 46 * (N + 1) + 121 = 46 * N + 167 := by omega
    rw [e1, e2]
    exact h2
def f_C_openOf (a1 : Int32) (u : KS) : Option (Int32 × KS) := ob (f_C_has a1 u) fun r1 u2 => if r1 = 0 then some (0, u2) else (gd (inb a1 20) (some (k_op u2 a1.toNatClampNeg, u2)))
set_option maxRecDepth 100000 in
set_option maxHeartbeats 4000000 in
theorem c_C_openOf (l : Launch) (D : va_G) (ad : Nat → Nat) (cA : Nat → ClassId) {a1 : Int32} {u u0 : KS} {r0 : Int32} (h : f_C_openOf a1 u = some (r0, u0)) : g_M l y_C_openOf w_C_openOf { frames := 1, cells := 0, slots := 0, locals := 21 } D vwCl (k_T cA) (k_W ad cA u) [.ref (ad 4), .int a1] (some (.int r0)) (k_W ad cA u0) := by
  refine g_ofW (cc := c0_C_openOf) (maxL := 2) (ret := (some .int)) (by decide) rfl (Nat.le_of_ble_eq_true rfl) ?_
  intro p e s m below meth c A ls hx hb hr hml hown hts hlk hK hA hI hl
  have hts : ∀ w ∈ gW, w.before ([.ref (ad 4), .int a1] : List Value).toArray s = true := fun w h => hts w (List.mem_cons_of_mem _ h)
  have hown : s.vm.findClass R_C = some m.cls := hown
  have hl : lv_has ls 2 [(0, .ref (ad 4)), (1, .int a1)] := hl
  dsimp only [f_C_openOf] at h
  refine lv_aload_n hx hb d_C_openOf_0 rfl (lv_at hl 0 rfl) ?_
  refine lv_iload_n hx hb d_C_openOf_1 rfl (lv_at hl 1 rfl) ?_
  obtain ⟨r1, u2, hc, h⟩ := ob_e h
  refine g_callV (As := [.int a1]) (rest := []) (w' := k_W ad cA u2) (o := some (.int r1)) ⟨hx, hb, hml, hown, hts⟩ (c_C_has l D ad cA hc) (cwV 1 hts gq_C_40 rfl rfl rfl (by decide +kernel) ⟨Nat.le_of_ble_eq_true rfl, Nat.le_of_ble_eq_true rfl⟩) hK hI hA 4 2 rfl rfl rfl hl.1 rfl (Nat.le_of_ble_eq_true rfl) d_C_openOf_2 ⟨Nat.zero_le _, Nat.zero_le _⟩ rfl (fun H locs hI => ?_)
  refine lv_if_eq (tgt := 17) hx hb d_C_openOf_5 rfl (fun hc3 => ?_) (fun hc3 => ?_)
  · rw [if_pos hc3] at h
    refine lv_iconst (v := 0) hx hb d_C_openOf_17 (by decide) ?_
    exact g_iret (Wd := k_W ad cA) hx hb hr hlk hK hI h d_C_openOf_18
  · rw [if_neg hc3] at h
    refine lv_aload_n hx hb d_C_openOf_8 rfl (lv_at hl 0 rfl) ?_
    refine g_get (v := .ref (ad 11)) hx hb hts in_C hown hK hI 4 rfl rfl 6 (by decide) (hts _ wd_48) rfl d_C_openOf_9 ?_
    refine lv_iload_n hx hb d_C_openOf_12 rfl (lv_at hl 1 rfl) ?_
    obtain ⟨hg, h⟩ := gd_e h
    refine g_iald hx hb hK hI 11 8 rfl rfl hg d_C_openOf_13 ?_
    refine lv_goto (tgt := 18) hx hb d_C_openOf_14 rfl ?_
    exact g_iret (Wd := k_W ad cA) hx hb hr hlk hK hI h d_C_openOf_18
def f_C_findOpen_J92 (k7 : Int32 → KS → Option (Unit × KS)) (v1 : Int32) (u : KS) : Option (Unit × KS) := ob (f_C_openOf (v1 + 1) u) fun r18 u19 => gd (inb v1 20) (ob (f_C_openOf (k_sc u19 v1.toNatClampNeg) u19) fun r20 u21 => gd (inb v1 20) (lt_ (k_p_op (upd (k_op u21) v1.toNatClampNeg (r18 ||| r20)) u21) fun u22 => lt_ (v1 + (-1)) fun x23 => k7 x23 u22))
def f_C_findOpen_J119 (k7 : Int32 → KS → Option (Unit × KS)) (v1 : Int32) (u : KS) : Option (Unit × KS) := ob (f_C_openOf (v1 + 1) u) fun r14 u15 => gd (inb v1 20) (gd (inb v1 20) (lt_ (k_p_op (upd (k_op u15) v1.toNatClampNeg (r14 &&& ((1 <<< ((k_vr u15 v1.toNatClampNeg) &&& 31)) ^^^ ((-1))))) u15) fun u16 => lt_ (v1 + (-1)) fun x17 => k7 x17 u16))
def f_C_findOpen_L7 (n : Nat) : Int32 → KS → Option (Unit × KS) := match n with
  | 0 => fun _ _ => none
  | n + 1 => fun v1 u => if v1 < 0 then some ((), u) else (gd (inb v1 20) (if (k_kd u v1.toNatClampNeg) = 33 then (ob (f_C_openOf (v1 + 1) u) fun r4 u5 => gd (inb v1 20) (lt_ (k_p_op (upd (k_op u5) v1.toNatClampNeg r4) u5) fun u6 => lt_ (v1 + (-1)) fun x7 => f_C_findOpen_L7 n x7 u6)) else if (k_kd u v1.toNatClampNeg) = 38 then f_C_findOpen_J92 (f_C_findOpen_L7 n) v1 u else if (k_kd u v1.toNatClampNeg) = 47 then f_C_findOpen_J92 (f_C_findOpen_L7 n) v1 u else if (k_kd u v1.toNatClampNeg) = 62 then f_C_findOpen_J92 (f_C_findOpen_L7 n) v1 u else if (k_kd u v1.toNatClampNeg) = 65 then f_C_findOpen_J119 (f_C_findOpen_L7 n) v1 u else if (k_kd u v1.toNatClampNeg) = 69 then f_C_findOpen_J119 (f_C_findOpen_L7 n) v1 u else (lt_ (v1 + (-1)) fun x13 => f_C_findOpen_L7 n x13 u)))
def f_C_findOpen (u : KS) : Option (Unit × KS) := lt_ ((k_cn u) - 1) fun x1 => f_C_findOpen_L7 4096 x1 u
set_option maxRecDepth 100000 in
set_option maxHeartbeats 4000000 in
theorem c_C_findOpen (l : Launch) (D : va_G) (ad : Nat → Nat) (cA : Nat → ClassId) {u u0 : KS} {r0 : Unit} (h : f_C_findOpen u = some (r0, u0)) : g_M l y_C_findOpen w_C_findOpen { frames := 2, cells := 0, slots := 0, locals := 42 } D vwCl (k_T cA) (k_W ad cA u) [.ref (ad 4)] none (k_W ad cA u0) := by
  refine g_ofW (cc := c0_C_findOpen) (maxL := 2) (ret := none) (by decide) rfl (Nat.le_of_ble_eq_true rfl) ?_
  intro p e s m below meth c A ls hx hb hr hml hown hts hlk hK hA hI hl
  have hts : ∀ w ∈ gW, w.before ([.ref (ad 4)] : List Value).toArray s = true := fun w h => hts w (List.mem_cons_of_mem _ h)
  have hown : s.vm.findClass R_C = some m.cls := hown
  have hl : lv_has ls 2 [(0, .ref (ad 4))] := hl
  have w92 : ∀ (k7 : Int32 → KS → Option (Unit × KS)) (hk7 : ∀ (v1 : Int32) (u : KS) (H : Heap) (locs : List Loc) (ls : Array Slot), lv_has ls 2 [(0, .ref (ad 4)), (1, .int v1)] → g_I D vwCl A s.heap H locs (k_W ad cA u) → k7 v1 u = some (r0, u0) → W p l e { frames := 2, cells := 0, slots := 0, locals := 42 } s m ([.ref (ad 4)] : List Value).toArray below meth c H locs 0 0 (MQ below (g_Q D vwCl (k_T cA) (k_W ad cA u0) A none) ([.ref (ad 4)] : List Value).toArray s 0 0 A) (F0 m 7 ls [])) (v1 : Int32) (u : KS) (H : Heap) (locs : List Loc) (ls : Array Slot), lv_has ls 2 [(0, .ref (ad 4)), (1, .int v1)] → g_I D vwCl A s.heap H locs (k_W ad cA u) → f_C_findOpen_J92 k7 v1 u = some (r0, u0) → W p l e { frames := 2, cells := 0, slots := 0, locals := 42 } s m ([.ref (ad 4)] : List Value).toArray below meth c H locs 0 0 (MQ below (g_Q D vwCl (k_T cA) (k_W ad cA u0) A none) ([.ref (ad 4)] : List Value).toArray s 0 0 A) (F0 m 92 ls []) := by
    intro k7 hk7 v1 u H locs ls hl hI h
    dsimp only [f_C_findOpen_J92] at h
    refine lv_aload_n hx hb d_C_findOpen_92 rfl (lv_at hl 0 rfl) ?_
    refine g_get (v := .ref (ad 11)) hx hb hts in_C hown hK hI 4 rfl rfl 6 (by decide) (hts _ wd_48) rfl d_C_findOpen_93 ?_
    refine lv_iload_n hx hb d_C_findOpen_96 rfl (lv_at hl 1 rfl) ?_
    refine lv_aload_n hx hb d_C_findOpen_97 rfl (lv_at hl 0 rfl) ?_
    refine lv_iload_n hx hb d_C_findOpen_98 rfl (lv_at hl 1 rfl) ?_
    refine lv_iconst (v := 1) hx hb d_C_findOpen_99 (by decide) ?_
    refine lv_iadd hx hb d_C_findOpen_100 ?_
    obtain ⟨r18, u19, hc, h⟩ := ob_e h
    refine g_callV (As := [.int (v1 + 1)]) (rest := [.int v1, .ref (ad 11)]) (w' := k_W ad cA u19) (o := some (.int r18)) ⟨hx, hb, hml, hown, hts⟩ (c_C_openOf l D ad cA hc) (cwV 1 hts gq_C_50 rfl rfl rfl (by decide +kernel) ⟨Nat.le_of_ble_eq_true rfl, Nat.le_of_ble_eq_true rfl⟩) hK hI hA 4 2 rfl rfl rfl hl.1 rfl (Nat.le_of_ble_eq_true rfl) d_C_findOpen_101 ⟨Nat.zero_le _, Nat.zero_le _⟩ rfl (fun H locs hI => ?_)
    refine lv_aload_n hx hb d_C_findOpen_104 rfl (lv_at hl 0 rfl) ?_
    refine lv_aload_n hx hb d_C_findOpen_105 rfl (lv_at hl 0 rfl) ?_
    refine g_get (v := .ref (ad 6)) hx hb hts in_C hown hK hI 4 rfl rfl 1 (by decide) (hts _ wd_43) rfl d_C_findOpen_106 ?_
    refine lv_iload_n hx hb d_C_findOpen_109 rfl (lv_at hl 1 rfl) ?_
    obtain ⟨hg, h⟩ := gd_e h
    refine g_iald hx hb hK hI 6 3 rfl rfl hg d_C_findOpen_110 ?_
    obtain ⟨r20, u21, hc, h⟩ := ob_e h
    refine g_callV (As := [.int (k_sc u19 v1.toNatClampNeg)]) (rest := [.int r18, .int v1, .ref (ad 11)]) (w' := k_W ad cA u21) (o := some (.int r20)) ⟨hx, hb, hml, hown, hts⟩ (c_C_openOf l D ad cA hc) (cwV 1 hts gq_C_50 rfl rfl rfl (by decide +kernel) ⟨Nat.le_of_ble_eq_true rfl, Nat.le_of_ble_eq_true rfl⟩) hK hI hA 4 2 rfl rfl rfl hl.1 rfl (Nat.le_of_ble_eq_true rfl) d_C_findOpen_111 ⟨Nat.zero_le _, Nat.zero_le _⟩ rfl (fun H locs hI => ?_)
    refine lv_ior hx hb d_C_findOpen_114 ?_
    obtain ⟨hg, h⟩ := gd_e h
    obtain ⟨u22, e_u22, h⟩ := lt_e h
    refine g_iast (w' := k_W ad cA u22) hx hb hK hI 11 8 rfl rfl hg d_C_findOpen_115 (by subst e_u22; rfl) (fun H locs hI => ?_)
    refine lv_goto (tgt := 146) hx hb d_C_findOpen_116 rfl ?_
    obtain ⟨x23, e_x23, h⟩ := lt_e h
    refine lv_iinc (v := x23) (k := 1) hx hb d_C_findOpen_146 hl rfl (by subst e_x23; rfl) (by decide) rfl (fun ls hl => ?_)
    refine lv_goto (tgt := 7) hx hb d_C_findOpen_149 rfl ?_
    exact hk7 x23 u22 _ _ _ (lv_sub hl [1, 0] rfl) hI h
  have w119 : ∀ (k7 : Int32 → KS → Option (Unit × KS)) (hk7 : ∀ (v1 : Int32) (u : KS) (H : Heap) (locs : List Loc) (ls : Array Slot), lv_has ls 2 [(0, .ref (ad 4)), (1, .int v1)] → g_I D vwCl A s.heap H locs (k_W ad cA u) → k7 v1 u = some (r0, u0) → W p l e { frames := 2, cells := 0, slots := 0, locals := 42 } s m ([.ref (ad 4)] : List Value).toArray below meth c H locs 0 0 (MQ below (g_Q D vwCl (k_T cA) (k_W ad cA u0) A none) ([.ref (ad 4)] : List Value).toArray s 0 0 A) (F0 m 7 ls [])) (v1 : Int32) (u : KS) (H : Heap) (locs : List Loc) (ls : Array Slot), lv_has ls 2 [(0, .ref (ad 4)), (1, .int v1)] → g_I D vwCl A s.heap H locs (k_W ad cA u) → f_C_findOpen_J119 k7 v1 u = some (r0, u0) → W p l e { frames := 2, cells := 0, slots := 0, locals := 42 } s m ([.ref (ad 4)] : List Value).toArray below meth c H locs 0 0 (MQ below (g_Q D vwCl (k_T cA) (k_W ad cA u0) A none) ([.ref (ad 4)] : List Value).toArray s 0 0 A) (F0 m 119 ls []) := by
    intro k7 hk7 v1 u H locs ls hl hI h
    dsimp only [f_C_findOpen_J119] at h
    refine lv_aload_n hx hb d_C_findOpen_119 rfl (lv_at hl 0 rfl) ?_
    refine g_get (v := .ref (ad 11)) hx hb hts in_C hown hK hI 4 rfl rfl 6 (by decide) (hts _ wd_48) rfl d_C_findOpen_120 ?_
    refine lv_iload_n hx hb d_C_findOpen_123 rfl (lv_at hl 1 rfl) ?_
    refine lv_aload_n hx hb d_C_findOpen_124 rfl (lv_at hl 0 rfl) ?_
    refine lv_iload_n hx hb d_C_findOpen_125 rfl (lv_at hl 1 rfl) ?_
    refine lv_iconst (v := 1) hx hb d_C_findOpen_126 (by decide) ?_
    refine lv_iadd hx hb d_C_findOpen_127 ?_
    obtain ⟨r14, u15, hc, h⟩ := ob_e h
    refine g_callV (As := [.int (v1 + 1)]) (rest := [.int v1, .ref (ad 11)]) (w' := k_W ad cA u15) (o := some (.int r14)) ⟨hx, hb, hml, hown, hts⟩ (c_C_openOf l D ad cA hc) (cwV 1 hts gq_C_50 rfl rfl rfl (by decide +kernel) ⟨Nat.le_of_ble_eq_true rfl, Nat.le_of_ble_eq_true rfl⟩) hK hI hA 4 2 rfl rfl rfl hl.1 rfl (Nat.le_of_ble_eq_true rfl) d_C_findOpen_128 ⟨Nat.zero_le _, Nat.zero_le _⟩ rfl (fun H locs hI => ?_)
    refine lv_iconst (v := 1) hx hb d_C_findOpen_131 (by decide) ?_
    refine lv_aload_n hx hb d_C_findOpen_132 rfl (lv_at hl 0 rfl) ?_
    refine g_get (v := .ref (ad 7)) hx hb hts in_C hown hK hI 4 rfl rfl 2 (by decide) (hts _ wd_44) rfl d_C_findOpen_133 ?_
    refine lv_iload_n hx hb d_C_findOpen_136 rfl (lv_at hl 1 rfl) ?_
    obtain ⟨hg, h⟩ := gd_e h
    refine g_iald hx hb hK hI 7 4 rfl rfl hg d_C_findOpen_137 ?_
    refine lv_ishl hx hb d_C_findOpen_138 ?_
    refine lv_iconst (v := (-1)) hx hb d_C_findOpen_139 (by decide) ?_
    refine lv_ixor hx hb d_C_findOpen_140 ?_
    refine lv_iand hx hb d_C_findOpen_141 ?_
    obtain ⟨hg, h⟩ := gd_e h
    obtain ⟨u16, e_u16, h⟩ := lt_e h
    refine g_iast (w' := k_W ad cA u16) hx hb hK hI 11 8 rfl rfl hg d_C_findOpen_142 (by subst e_u16; rfl) (fun H locs hI => ?_)
    refine lv_goto (tgt := 146) hx hb d_C_findOpen_143 rfl ?_
    obtain ⟨x17, e_x17, h⟩ := lt_e h
    refine lv_iinc (v := x17) (k := 1) hx hb d_C_findOpen_146 hl rfl (by subst e_x17; rfl) (by decide) rfl (fun ls hl => ?_)
    refine lv_goto (tgt := 7) hx hb d_C_findOpen_149 rfl ?_
    exact hk7 x17 u16 _ _ _ (lv_sub hl [1, 0] rfl) hI h
  have w7 : ∀ (n : Nat) (v1 : Int32) (u : KS) (H : Heap) (locs : List Loc) (ls : Array Slot), lv_has ls 2 [(0, .ref (ad 4)), (1, .int v1)] → g_I D vwCl A s.heap H locs (k_W ad cA u) → f_C_findOpen_L7 n v1 u = some (r0, u0) → W p l e { frames := 2, cells := 0, slots := 0, locals := 42 } s m ([.ref (ad 4)] : List Value).toArray below meth c H locs 0 0 (MQ below (g_Q D vwCl (k_T cA) (k_W ad cA u0) A none) ([.ref (ad 4)] : List Value).toArray s 0 0 A) (F0 m 7 ls []) := by
    intro  n
    induction n with
    | zero => intro v1 u H locs ls hl hI h; cases h
    | succ n ih =>
      intro v1 u H locs ls hl hI h
      dsimp only [f_C_findOpen_L7] at h
      refine lv_iload_n hx hb d_C_findOpen_7 rfl (lv_at hl 1 rfl) ?_
      refine lv_if_lt (tgt := 152) hx hb d_C_findOpen_8 rfl (fun hc2 => ?_) (fun hc2 => ?_)
      · rw [if_pos hc2] at h
        exact g_vret (Wd := k_W ad cA) hx hb hr hlk hK hI h d_C_findOpen_152
      · rw [if_neg hc2] at h
        refine lv_aload_n hx hb d_C_findOpen_11 rfl (lv_at hl 0 rfl) ?_
        refine g_get (v := .ref (ad 5)) hx hb hts in_C hown hK hI 4 rfl rfl 0 (by decide) (hts _ wd_42) rfl d_C_findOpen_12 ?_
        refine lv_iload_n hx hb d_C_findOpen_15 rfl (lv_at hl 1 rfl) ?_
        obtain ⟨hg, h⟩ := gd_e h
        refine g_iald hx hb hK hI 5 2 rfl rfl hg d_C_findOpen_16 ?_
        by_cases hc3 : (k_kd u v1.toNatClampNeg) = 33
        · rw [if_pos hc3] at h
          refine lv_lookup (off := 59) (tgt := 76) hx hb d_C_findOpen_17 (by decide) (by rw [hc3]; decide +kernel) rfl ?_
          refine lv_aload_n hx hb d_C_findOpen_76 rfl (lv_at hl 0 rfl) ?_
          refine g_get (v := .ref (ad 11)) hx hb hts in_C hown hK hI 4 rfl rfl 6 (by decide) (hts _ wd_48) rfl d_C_findOpen_77 ?_
          refine lv_iload_n hx hb d_C_findOpen_80 rfl (lv_at hl 1 rfl) ?_
          refine lv_aload_n hx hb d_C_findOpen_81 rfl (lv_at hl 0 rfl) ?_
          refine lv_iload_n hx hb d_C_findOpen_82 rfl (lv_at hl 1 rfl) ?_
          refine lv_iconst (v := 1) hx hb d_C_findOpen_83 (by decide) ?_
          refine lv_iadd hx hb d_C_findOpen_84 ?_
          obtain ⟨r4, u5, hc, h⟩ := ob_e h
          refine g_callV (As := [.int (v1 + 1)]) (rest := [.int v1, .ref (ad 11)]) (w' := k_W ad cA u5) (o := some (.int r4)) ⟨hx, hb, hml, hown, hts⟩ (c_C_openOf l D ad cA hc) (cwV 1 hts gq_C_50 rfl rfl rfl (by decide +kernel) ⟨Nat.le_of_ble_eq_true rfl, Nat.le_of_ble_eq_true rfl⟩) hK hI hA 4 2 rfl rfl rfl hl.1 rfl (Nat.le_of_ble_eq_true rfl) d_C_findOpen_85 ⟨Nat.zero_le _, Nat.zero_le _⟩ rfl (fun H locs hI => ?_)
          obtain ⟨hg, h⟩ := gd_e h
          obtain ⟨u6, e_u6, h⟩ := lt_e h
          refine g_iast (w' := k_W ad cA u6) hx hb hK hI 11 8 rfl rfl hg d_C_findOpen_88 (by subst e_u6; rfl) (fun H locs hI => ?_)
          refine lv_goto (tgt := 146) hx hb d_C_findOpen_89 rfl ?_
          obtain ⟨x7, e_x7, h⟩ := lt_e h
          refine lv_iinc (v := x7) (k := 1) hx hb d_C_findOpen_146 hl rfl (by subst e_x7; rfl) (by decide) rfl (fun ls hl => ?_)
          refine lv_goto (tgt := 7) hx hb d_C_findOpen_149 rfl ?_
          exact ih x7 u6 _ _ _ (lv_sub hl [1, 0] rfl) hI h
        · rw [if_neg hc3] at h
          by_cases hc8 : (k_kd u v1.toNatClampNeg) = 38
          · rw [if_pos hc8] at h
            refine lv_lookup (off := 75) (tgt := 92) hx hb d_C_findOpen_17 (by decide) (by rw [hc8]; decide +kernel) rfl ?_
            exact w92 (f_C_findOpen_L7 n) ih v1 u _ _ _ (lv_sub hl [0, 1] rfl) hI h
          · rw [if_neg hc8] at h
            by_cases hc9 : (k_kd u v1.toNatClampNeg) = 47
            · rw [if_pos hc9] at h
              refine lv_lookup (off := 75) (tgt := 92) hx hb d_C_findOpen_17 (by decide) (by rw [hc9]; decide +kernel) rfl ?_
              exact w92 (f_C_findOpen_L7 n) ih v1 u _ _ _ (lv_sub hl [0, 1] rfl) hI h
            · rw [if_neg hc9] at h
              by_cases hc10 : (k_kd u v1.toNatClampNeg) = 62
              · rw [if_pos hc10] at h
                refine lv_lookup (off := 75) (tgt := 92) hx hb d_C_findOpen_17 (by decide) (by rw [hc10]; decide +kernel) rfl ?_
                exact w92 (f_C_findOpen_L7 n) ih v1 u _ _ _ (lv_sub hl [0, 1] rfl) hI h
              · rw [if_neg hc10] at h
                by_cases hc11 : (k_kd u v1.toNatClampNeg) = 65
                · rw [if_pos hc11] at h
                  refine lv_lookup (off := 102) (tgt := 119) hx hb d_C_findOpen_17 (by decide) (by rw [hc11]; decide +kernel) rfl ?_
                  exact w119 (f_C_findOpen_L7 n) ih v1 u _ _ _ (lv_sub hl [0, 1] rfl) hI h
                · rw [if_neg hc11] at h
                  by_cases hc12 : (k_kd u v1.toNatClampNeg) = 69
                  · rw [if_pos hc12] at h
                    refine lv_lookup (off := 102) (tgt := 119) hx hb d_C_findOpen_17 (by decide) (by rw [hc12]; decide +kernel) rfl ?_
                    exact w119 (f_C_findOpen_L7 n) ih v1 u _ _ _ (lv_sub hl [0, 1] rfl) hI h
                  · rw [if_neg hc12] at h
                    refine lv_lookup (off := 129) (tgt := 146) hx hb d_C_findOpen_17 (by decide) ((lv_osw hc3 (by decide)).trans ((lv_osw hc8 (by decide)).trans ((lv_osw hc9 (by decide)).trans ((lv_osw hc10 (by decide)).trans ((lv_osw hc11 (by decide)).trans ((lv_osw hc12 (by decide)).trans rfl)))))) rfl ?_
                    obtain ⟨x13, e_x13, h⟩ := lt_e h
                    refine lv_iinc (v := x13) (k := 1) hx hb d_C_findOpen_146 hl rfl (by subst e_x13; rfl) (by decide) rfl (fun ls hl => ?_)
                    refine lv_goto (tgt := 7) hx hb d_C_findOpen_149 rfl ?_
                    exact ih x13 u _ _ _ (lv_sub hl [1, 0] rfl) hI h
  dsimp only [f_C_findOpen] at h
  refine lv_aload_n hx hb d_C_findOpen_0 rfl (lv_at hl 0 rfl) ?_
  refine g_get (v := .int (k_cn u)) hx hb hts in_C hown hK hI 4 rfl rfl 8 (by decide) (hts _ wd_50) rfl d_C_findOpen_1 ?_
  refine lv_iconst (v := 1) hx hb d_C_findOpen_4 (by decide) ?_
  refine lv_isub hx hb d_C_findOpen_5 ?_
  obtain ⟨x1, e_x1, h⟩ := lt_e h
  refine lv_istore_n (lv' := [(1, .int x1), (0, .ref (ad 4))]) hx hb d_C_findOpen_6 rfl hl (by decide) (by subst e_x1; rfl) (fun ls hl => ?_)
  exact w7 4096 x1 u _ _ _ (lv_sub hl [1, 0] rfl) hI h
def f_C_isOpen (a1 : Int32) (u : KS) : Option (Int32 × KS) := ob (f_C_has a1 u) fun r1 u2 => if r1 = 0 then (gd (bz 0) (some (0, u2))) else (gd (inb a1 20) (if (k_op u2 a1.toNatClampNeg) = 0 then (gd (bz 0) (some (0, u2))) else (gd (bz 1) (some (1, u2)))))
set_option maxRecDepth 100000 in
set_option maxHeartbeats 4000000 in
theorem c_C_isOpen (l : Launch) (D : va_G) (ad : Nat → Nat) (cA : Nat → ClassId) {a1 : Int32} {u u0 : KS} {r0 : Int32} (h : f_C_isOpen a1 u = some (r0, u0)) : g_M l y_C_isOpen w_C_isOpen { frames := 1, cells := 0, slots := 0, locals := 21 } D vwCl (k_T cA) (k_W ad cA u) [.ref (ad 4), .int a1] (some (.int r0)) (k_W ad cA u0) := by
  refine g_ofW (cc := c0_C_isOpen) (maxL := 2) (ret := (some .boolean)) (by decide) rfl (Nat.le_of_ble_eq_true rfl) ?_
  intro p e s m below meth c A ls hx hb hr hml hown hts hlk hK hA hI hl
  have hts : ∀ w ∈ gW, w.before ([.ref (ad 4), .int a1] : List Value).toArray s = true := fun w h => hts w (List.mem_cons_of_mem _ h)
  have hown : s.vm.findClass R_C = some m.cls := hown
  have hl : lv_has ls 2 [(0, .ref (ad 4)), (1, .int a1)] := hl
  dsimp only [f_C_isOpen] at h
  refine lv_aload_n hx hb d_C_isOpen_0 rfl (lv_at hl 0 rfl) ?_
  refine lv_iload_n hx hb d_C_isOpen_1 rfl (lv_at hl 1 rfl) ?_
  obtain ⟨r1, u2, hc, h⟩ := ob_e h
  refine g_callV (As := [.int a1]) (rest := []) (w' := k_W ad cA u2) (o := some (.int r1)) ⟨hx, hb, hml, hown, hts⟩ (c_C_has l D ad cA hc) (cwV 1 hts gq_C_40 rfl rfl rfl (by decide +kernel) ⟨Nat.le_of_ble_eq_true rfl, Nat.le_of_ble_eq_true rfl⟩) hK hI hA 4 2 rfl rfl rfl hl.1 rfl (Nat.le_of_ble_eq_true rfl) d_C_isOpen_2 ⟨Nat.zero_le _, Nat.zero_le _⟩ rfl (fun H locs hI => ?_)
  refine lv_if_eq (tgt := 21) hx hb d_C_isOpen_5 rfl (fun hc3 => ?_) (fun hc3 => ?_)
  · rw [if_pos hc3] at h
    refine lv_iconst (v := 0) hx hb d_C_isOpen_21 (by decide) ?_
    exact g_zret (Wd := k_W ad cA) hx hb hr hlk hK hI h d_C_isOpen_22
  · rw [if_neg hc3] at h
    refine lv_aload_n hx hb d_C_isOpen_8 rfl (lv_at hl 0 rfl) ?_
    refine g_get (v := .ref (ad 11)) hx hb hts in_C hown hK hI 4 rfl rfl 6 (by decide) (hts _ wd_48) rfl d_C_isOpen_9 ?_
    refine lv_iload_n hx hb d_C_isOpen_12 rfl (lv_at hl 1 rfl) ?_
    obtain ⟨hg, h⟩ := gd_e h
    refine g_iald hx hb hK hI 11 8 rfl rfl hg d_C_isOpen_13 ?_
    refine lv_if_eq (tgt := 21) hx hb d_C_isOpen_14 rfl (fun hc4 => ?_) (fun hc4 => ?_)
    · rw [if_pos hc4] at h
      refine lv_iconst (v := 0) hx hb d_C_isOpen_21 (by decide) ?_
      exact g_zret (Wd := k_W ad cA) hx hb hr hlk hK hI h d_C_isOpen_22
    · rw [if_neg hc4] at h
      refine lv_iconst (v := 1) hx hb d_C_isOpen_17 (by decide) ?_
      refine lv_goto (tgt := 22) hx hb d_C_isOpen_18 rfl ?_
      exact g_zret (Wd := k_W ad cA) hx hb hr hlk hK hI h d_C_isOpen_22
def f_R_readWhole (u : KS) : Option (Int32 × KS) := lt_ (k_p_at 0 u) fun u1 => lt_ (k_p_br 0 u1) fun u2 => lt_ (k_p_ne 0 u2) fun u3 => ob (f_C_clear u3) fun r4 u5 => ob (f_R_readClaim 32 0 0 u5) fun r6 u7 => if r6 = 0 then (gd (bz 0) (some (0, u7))) else (ob (f_R_mark u7) fun r9 u10 => if r9 = 0 then (ob (f_C_findOpen u10) fun r12 u13 => if (k_ne u13) = 0 then (gd (bz 1) (some (1, u13))) else (ob (f_C_isOpen 0 u13) fun r15 u16 => if r15 = 0 then (gd (bz 1) (some (1, u16))) else (gd (bz 0) (some (0, u16))))) else (gd (bz 0) (some (0, u10))))
set_option maxRecDepth 100000 in
set_option maxHeartbeats 4000000 in
theorem c_R_readWhole (l : Launch) (D : va_G) (ad : Nat → Nat) (cA : Nat → ClassId) {u u0 : KS} {r0 : Int32} (h : f_R_readWhole u = some (r0, u0)) : g_M l y_R_readWhole w_R_readWhole { frames := 70, cells := 0, slots := 0, locals := 1615 } D vwCl (k_T cA) (k_W ad cA u) [.ref (ad 13)] (some (.int r0)) (k_W ad cA u0) := by
  refine g_ofW (cc := c0_R_readWhole) (maxL := 1) (ret := (some .boolean)) (by decide) rfl (Nat.le_of_ble_eq_true rfl) ?_
  intro p e s m below meth c A ls hx hb hr hml hown hts hlk hK hA hI hl
  have hts : ∀ w ∈ gW, w.before ([.ref (ad 13)] : List Value).toArray s = true := fun w h => hts w (List.mem_cons_of_mem _ h)
  have hown : s.vm.findClass R_R = some m.cls := hown
  have hl : lv_has ls 1 [(0, .ref (ad 13))] := hl
  dsimp only [f_R_readWhole] at h
  refine lv_aload_n hx hb d_R_readWhole_0 rfl (lv_at hl 0 rfl) ?_
  refine lv_iconst (v := 0) hx hb d_R_readWhole_1 (by decide) ?_
  obtain ⟨u1, e_u1, h⟩ := lt_e h
  refine g_put (t := .int) (w' := k_W ad cA u1) hx hb hts in_R ty_R tyok_R nm_R hown hK hI 13 rfl rfl 2 (by decide) (hts _ wd_78) rfl (by decide +kernel) rfl rfl (Nat.le_of_ble_eq_true rfl) d_R_readWhole_2 (by subst e_u1; rfl) (fun H locs hI => ?_)
  refine lv_aload_n hx hb d_R_readWhole_5 rfl (lv_at hl 0 rfl) ?_
  refine lv_iconst (v := 0) hx hb d_R_readWhole_6 (by decide) ?_
  obtain ⟨u2, e_u2, h⟩ := lt_e h
  refine g_put (t := .int) (w' := k_W ad cA u2) hx hb hts in_R ty_R tyok_R nm_R hown hK hI 13 rfl rfl 3 (by decide) (hts _ wd_79) rfl (by decide +kernel) rfl rfl (Nat.le_of_ble_eq_true rfl) d_R_readWhole_7 (by subst e_u2; rfl) (fun H locs hI => ?_)
  refine lv_aload_n hx hb d_R_readWhole_10 rfl (lv_at hl 0 rfl) ?_
  refine lv_iconst (v := 0) hx hb d_R_readWhole_11 (by decide) ?_
  obtain ⟨u3, e_u3, h⟩ := lt_e h
  refine g_put (t := .boolean) (w' := k_W ad cA u3) hx hb hts in_R ty_R tyok_R nm_R hown hK hI 13 rfl rfl 4 (by decide) (hts _ wd_80) rfl (by decide +kernel) (by decide +kernel) (by decide +kernel) (Nat.le_of_ble_eq_true rfl) d_R_readWhole_12 (by subst e_u3; rfl) (fun H locs hI => ?_)
  refine lv_aload_n hx hb d_R_readWhole_15 rfl (lv_at hl 0 rfl) ?_
  refine g_get (v := .ref (ad 4)) hx hb hts in_R hown hK hI 13 rfl rfl 1 (by decide) (hts _ wd_77) rfl d_R_readWhole_16 ?_
  obtain ⟨r4, u5, hc, h⟩ := ob_e h
  refine g_callV (As := []) (rest := []) (w' := k_W ad cA u5) (o := none) ⟨hx, hb, hml, hown, hts⟩ (c_C_clear l D ad cA hc) (cwV 0 hts gq_R_28 rfl rfl rfl (by decide +kernel) ⟨Nat.le_of_ble_eq_true rfl, Nat.le_of_ble_eq_true rfl⟩) hK hI hA 4 2 rfl rfl rfl hl.1 rfl (Nat.le_of_ble_eq_true rfl) d_R_readWhole_19 ⟨Nat.zero_le _, Nat.zero_le _⟩ rfl (fun H locs hI => ?_)
  refine lv_aload_n hx hb d_R_readWhole_22 rfl (lv_at hl 0 rfl) ?_
  refine lv_iconst (v := 0) hx hb d_R_readWhole_23 (by decide) ?_
  refine lv_iconst (v := 0) hx hb d_R_readWhole_24 (by decide) ?_
  obtain ⟨r6, u7, hc, h⟩ := ob_e h
  refine g_callV (As := [.int 0, .int 0]) (rest := []) (w' := k_W ad cA u7) (o := some (.int r6)) ⟨hx, hb, hml, hown, hts⟩ (c_R_readClaim l D ad cA 32 hc) (cwV 2 hts gq_R_33 rfl rfl rfl (by decide +kernel) ⟨Nat.le_of_ble_eq_true rfl, Nat.le_of_ble_eq_true rfl⟩) hK hI hA 13 3 rfl rfl rfl hl.1 rfl (Nat.le_of_ble_eq_true rfl) d_R_readWhole_25 ⟨Nat.zero_le _, Nat.zero_le _⟩ rfl (fun H locs hI => ?_)
  refine lv_if_eq (tgt := 38) hx hb d_R_readWhole_28 rfl (fun hc8 => ?_) (fun hc8 => ?_)
  · rw [if_pos hc8] at h
    refine lv_iconst (v := 0) hx hb d_R_readWhole_38 (by decide) ?_
    exact g_zret (Wd := k_W ad cA) hx hb hr hlk hK hI h d_R_readWhole_39
  · rw [if_neg hc8] at h
    refine lv_aload_n hx hb d_R_readWhole_31 rfl (lv_at hl 0 rfl) ?_
    obtain ⟨r9, u10, hc, h⟩ := ob_e h
    refine g_callV (As := []) (rest := []) (w' := k_W ad cA u10) (o := some (.int r9)) ⟨hx, hb, hml, hown, hts⟩ (c_R_mark l D ad cA hc) (cwV 0 hts gq_R_37 rfl rfl rfl (by decide +kernel) ⟨Nat.le_of_ble_eq_true rfl, Nat.le_of_ble_eq_true rfl⟩) hK hI hA 13 3 rfl rfl rfl hl.1 rfl (Nat.le_of_ble_eq_true rfl) d_R_readWhole_32 ⟨Nat.zero_le _, Nat.zero_le _⟩ rfl (fun H locs hI => ?_)
    refine lv_if_eq (tgt := 40) hx hb d_R_readWhole_35 rfl (fun hc11 => ?_) (fun hc11 => ?_)
    · rw [if_pos hc11] at h
      refine lv_aload_n hx hb d_R_readWhole_40 rfl (lv_at hl 0 rfl) ?_
      refine g_get (v := .ref (ad 4)) hx hb hts in_R hown hK hI 13 rfl rfl 1 (by decide) (hts _ wd_77) rfl d_R_readWhole_41 ?_
      obtain ⟨r12, u13, hc, h⟩ := ob_e h
      refine g_callV (As := []) (rest := []) (w' := k_W ad cA u13) (o := none) ⟨hx, hb, hml, hown, hts⟩ (c_C_findOpen l D ad cA hc) (cwV 0 hts gq_R_41 rfl rfl rfl (by decide +kernel) ⟨Nat.le_of_ble_eq_true rfl, Nat.le_of_ble_eq_true rfl⟩) hK hI hA 4 2 rfl rfl rfl hl.1 rfl (Nat.le_of_ble_eq_true rfl) d_R_readWhole_44 ⟨Nat.zero_le _, Nat.zero_le _⟩ rfl (fun H locs hI => ?_)
      refine lv_aload_n hx hb d_R_readWhole_47 rfl (lv_at hl 0 rfl) ?_
      refine g_get (v := .int (k_ne u13)) hx hb hts in_R hown hK hI 13 rfl rfl 4 (by decide) (hts _ wd_80) rfl d_R_readWhole_48 ?_
      refine lv_if_eq (tgt := 65) hx hb d_R_readWhole_51 rfl (fun hc14 => ?_) (fun hc14 => ?_)
      · rw [if_pos hc14] at h
        refine lv_iconst (v := 1) hx hb d_R_readWhole_65 (by decide) ?_
        refine lv_goto (tgt := 70) hx hb d_R_readWhole_66 rfl ?_
        exact g_zret (Wd := k_W ad cA) hx hb hr hlk hK hI h d_R_readWhole_70
      · rw [if_neg hc14] at h
        refine lv_aload_n hx hb d_R_readWhole_54 rfl (lv_at hl 0 rfl) ?_
        refine g_get (v := .ref (ad 4)) hx hb hts in_R hown hK hI 13 rfl rfl 1 (by decide) (hts _ wd_77) rfl d_R_readWhole_55 ?_
        refine lv_iconst (v := 0) hx hb d_R_readWhole_58 (by decide) ?_
        obtain ⟨r15, u16, hc, h⟩ := ob_e h
        refine g_callV (As := [.int 0]) (rest := []) (w' := k_W ad cA u16) (o := some (.int r15)) ⟨hx, hb, hml, hown, hts⟩ (c_C_isOpen l D ad cA hc) (cwV 1 hts gq_R_44 rfl rfl rfl (by decide +kernel) ⟨Nat.le_of_ble_eq_true rfl, Nat.le_of_ble_eq_true rfl⟩) hK hI hA 4 2 rfl rfl rfl hl.1 rfl (Nat.le_of_ble_eq_true rfl) d_R_readWhole_59 ⟨Nat.zero_le _, Nat.zero_le _⟩ rfl (fun H locs hI => ?_)
        refine lv_if_ne (tgt := 69) hx hb d_R_readWhole_62 rfl (fun hc17 => ?_) (fun hc17 => ?_)
        · rw [if_neg hc17] at h
          refine lv_iconst (v := 0) hx hb d_R_readWhole_69 (by decide) ?_
          exact g_zret (Wd := k_W ad cA) hx hb hr hlk hK hI h d_R_readWhole_70
        · rw [if_pos hc17] at h
          refine lv_iconst (v := 1) hx hb d_R_readWhole_65 (by decide) ?_
          refine lv_goto (tgt := 70) hx hb d_R_readWhole_66 rfl ?_
          exact g_zret (Wd := k_W ad cA) hx hb hr hlk hK hI h d_R_readWhole_70
    · rw [if_neg hc11] at h
      refine lv_iconst (v := 0) hx hb d_R_readWhole_38 (by decide) ?_
      exact g_zret (Wd := k_W ad cA) hx hb hr hlk hK hI h d_R_readWhole_39
def f_R_bracketsRead (u : KS) : Option (Int32 × KS) := some (k_br u, u)
set_option maxRecDepth 100000 in
set_option maxHeartbeats 4000000 in
theorem c_R_bracketsRead (l : Launch) (D : va_G) (ad : Nat → Nat) (cA : Nat → ClassId) {u u0 : KS} {r0 : Int32} (h : f_R_bracketsRead u = some (r0, u0)) : g_M l y_R_bracketsRead w_R_bracketsRead { frames := 0, cells := 0, slots := 0, locals := 0 } D vwCl (k_T cA) (k_W ad cA u) [.ref (ad 13)] (some (.int r0)) (k_W ad cA u0) := by
  refine g_ofW (cc := c0_R_bracketsRead) (maxL := 1) (ret := (some .int)) (by decide) rfl (Nat.le_of_ble_eq_true rfl) ?_
  intro p e s m below meth c A ls hx hb hr hml hown hts hlk hK hA hI hl
  have hts : ∀ w ∈ gW, w.before ([.ref (ad 13)] : List Value).toArray s = true := fun w h => hts w (List.mem_cons_of_mem _ h)
  have hown : s.vm.findClass R_R = some m.cls := hown
  have hl : lv_has ls 1 [(0, .ref (ad 13))] := hl
  dsimp only [f_R_bracketsRead] at h
  refine lv_aload_n hx hb d_R_bracketsRead_0 rfl (lv_at hl 0 rfl) ?_
  refine g_get (v := .int (k_br u)) hx hb hts in_R hown hK hI 13 rfl rfl 3 (by decide) (hts _ wd_79) rfl d_R_bracketsRead_1 ?_
  exact g_iret (Wd := k_W ad cA) hx hb hr hlk hK hI h d_R_bracketsRead_4
