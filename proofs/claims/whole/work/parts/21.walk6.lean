def f_M_fail (u : MS) : Option (Unit × MS) := ob (f_M_look u) fun r1 u2 => if 0 ≤ (m_fa u2) then (lt_ (m_p_fa (m_fa u2) u2) fun u4 => some ((), u4)) else (lt_ (m_p_fa (m_at u2) u2) fun u5 => some ((), u5))
set_option maxRecDepth 100000 in
set_option maxHeartbeats 4000000 in
theorem c_M_fail (l : Launch) (D : va_G) (ad : Nat → Nat) (cA : Nat → ClassId) {u u0 : MS} {r0 : Unit} (h : f_M_fail u = some (r0, u0)) : g_M l y_M_fail w_M_fail { frames := 1, cells := 0, slots := 0, locals := 20 } D vwCl (m_T cA) (m_W ad cA u) [.ref (ad 0)] none (m_W ad cA u0) := by
  refine g_ofW (cc := c0_M_fail) (maxL := 1) (ret := none) (by decide) rfl (Nat.le_of_ble_eq_true rfl) ?_
  intro p e s m below meth c A ls hx hb hr hml hown hts hlk hK hA hI hl
  have hts : ∀ w ∈ gW, w.before ([.ref (ad 0)] : List Value).toArray s = true := fun w h => hts w (List.mem_cons_of_mem _ h)
  have hown : s.vm.findClass R_M = some m.cls := hown
  have hl : lv_has ls 1 [(0, .ref (ad 0))] := hl
  dsimp only [f_M_fail] at h
  refine lv_aload_n hx hb d_M_fail_0 rfl (lv_at hl 0 rfl) ?_
  obtain ⟨r1, u2, hc, h⟩ := ob_e h
  refine g_callV (As := []) (rest := []) (w' := m_W ad cA u2) (o := some (.int r1)) ⟨hx, hb, hml, hown, hts⟩ (c_M_look l D ad cA hc) (cwV 0 hts gq_M_83 rfl rfl rfl (by decide +kernel) ⟨Nat.le_of_ble_eq_true rfl, Nat.le_of_ble_eq_true rfl⟩) hK hI hA 0 5 rfl rfl rfl hl.1 rfl (Nat.le_of_ble_eq_true rfl) d_M_fail_1 ⟨Nat.zero_le _, Nat.zero_le _⟩ rfl (fun H locs hI => ?_)
  refine lv_pop hx hb d_M_fail_4 rfl ?_
  refine lv_aload_n hx hb d_M_fail_5 rfl (lv_at hl 0 rfl) ?_
  refine lv_aload_n hx hb d_M_fail_6 rfl (lv_at hl 0 rfl) ?_
  refine g_get (v := .int (m_fa u2)) hx hb hts in_M hown hK hI 0 rfl rfl 4 (by decide) (hts _ wd_396) rfl d_M_fail_7 ?_
  refine lv_if_ge (tgt := 20) hx hb d_M_fail_10 rfl (fun hc3 => ?_) (fun hc3 => ?_)
  · rw [if_pos hc3] at h
    refine lv_aload_n hx hb d_M_fail_20 rfl (lv_at hl 0 rfl) ?_
    refine g_get (v := .int (m_fa u2)) hx hb hts in_M hown hK hI 0 rfl rfl 4 (by decide) (hts _ wd_396) rfl d_M_fail_21 ?_
    obtain ⟨u4, e_u4, h⟩ := lt_e h
    refine g_put (t := .int) (w' := m_W ad cA u4) hx hb hts in_M ty_M tyok_M nm_M hown hK hI 0 rfl rfl 4 (by decide) (hts _ wd_396) rfl (by decide +kernel) rfl rfl (Nat.le_of_ble_eq_true rfl) d_M_fail_24 (by subst e_u4; rfl) (fun H locs hI => ?_)
    exact g_vret (Wd := m_W ad cA) hx hb hr hlk hK hI h d_M_fail_27
  · rw [if_neg hc3] at h
    refine lv_aload_n hx hb d_M_fail_13 rfl (lv_at hl 0 rfl) ?_
    refine g_get (v := .int (m_at u2)) hx hb hts in_M hown hK hI 0 rfl rfl 3 (by decide) (hts _ wd_395) rfl d_M_fail_14 ?_
    refine lv_goto (tgt := 24) hx hb d_M_fail_17 rfl ?_
    obtain ⟨u5, e_u5, h⟩ := lt_e h
    refine g_put (t := .int) (w' := m_W ad cA u5) hx hb hts in_M ty_M tyok_M nm_M hown hK hI 0 rfl rfl 4 (by decide) (hts _ wd_396) rfl (by decide +kernel) rfl rfl (Nat.le_of_ble_eq_true rfl) d_M_fail_24 (by subst e_u5; rfl) (fun H locs hI => ?_)
    exact g_vret (Wd := m_W ad cA) hx hb hr hlk hK hI h d_M_fail_27
def f_M_addVariable_J47 (v1 : Int32) (v2 : Int32) (v3 : Int32) (t0 : Int32) (u : MS) : Option (Unit × MS) := gd (bz t0) (lt_ (m_p_rf t0 u) fun u10 => gd (inb ((4 * v1) + v3) 80) (gd (inb ((4 * v1) + v3) 80) (lt_ (m_p_ns (upd (m_ns u10) ((4 * v1) + v3).toNatClampNeg ((m_ns u10 ((4 * v1) + v3).toNatClampNeg) + v2)) u10) fun u11 => lt_ (m_p_at ((m_at u11) + 1) u11) fun u12 => some ((), u12))))
def f_M_addVariable_J25 (v1 : Int32) (v2 : Int32) (v3 : Int32) (u : MS) : Option (Unit × MS) := if (m_rf u) = 0 then (gd (inb v3 3) (if (m_he u v3.toNatClampNeg) = 0 then f_M_addVariable_J47 v1 v2 v3 1 u else f_M_addVariable_J47 v1 v2 v3 0 u)) else f_M_addVariable_J47 v1 v2 v3 1 u
def f_M_addVariable (a1 : Int32) (a2 : Int32) (u : MS) : Option (Unit × MS) := ob (f_M_look u) fun r1 u2 => lt_ (r1 - 120) fun x3 => if x3 ≤ 0 then f_M_addVariable_J25 a1 a2 x3 u2 else (gd (inb x3 3) (if (m_he u2 x3.toNatClampNeg) = 0 then (ob (f_M_fail u2) fun r6 u7 => f_M_addVariable_J25 a1 a2 x3 u7) else f_M_addVariable_J25 a1 a2 x3 u2))
set_option maxRecDepth 100000 in
set_option maxHeartbeats 4000000 in
theorem c_M_addVariable (l : Launch) (D : va_G) (ad : Nat → Nat) (cA : Nat → ClassId) {a1 : Int32} {a2 : Int32} {u u0 : MS} {r0 : Unit} (h : f_M_addVariable a1 a2 u = some (r0, u0)) : g_M l y_M_addVariable w_M_addVariable { frames := 2, cells := 0, slots := 0, locals := 40 } D vwCl (m_T cA) (m_W ad cA u) [.ref (ad 0), .int a1, .int a2] none (m_W ad cA u0) := by
  refine g_ofW (cc := c0_M_addVariable) (maxL := 4) (ret := none) (by decide) rfl (Nat.le_of_ble_eq_true rfl) ?_
  intro p e s m below meth c A ls hx hb hr hml hown hts hlk hK hA hI hl
  have hts : ∀ w ∈ gW, w.before ([.ref (ad 0), .int a1, .int a2] : List Value).toArray s = true := fun w h => hts w (List.mem_cons_of_mem _ h)
  have hown : s.vm.findClass R_M = some m.cls := hown
  have hl : lv_has ls 4 [(0, .ref (ad 0)), (1, .int a1), (2, .int a2)] := hl
  have w47 : ∀ (v1 : Int32) (v2 : Int32) (v3 : Int32) (t0 : Int32) (u : MS) (H : Heap) (locs : List Loc) (ls : Array Slot), lv_has ls 4 [(0, .ref (ad 0)), (1, .int v1), (2, .int v2), (3, .int v3)] → g_I D vwCl A s.heap H locs (m_W ad cA u) → f_M_addVariable_J47 v1 v2 v3 t0 u = some (r0, u0) → W p l e { frames := 2, cells := 0, slots := 0, locals := 40 } s m ([.ref (ad 0), .int a1, .int a2] : List Value).toArray below meth c H locs 0 0 (MQ below (g_Q D vwCl (m_T cA) (m_W ad cA u0) A none) ([.ref (ad 0), .int a1, .int a2] : List Value).toArray s 0 0 A) (F0 m 47 ls [.int t0, .ref (ad 0)]) := by
    intro  v1 v2 v3 t0 u H locs ls hl hI h
    dsimp only [f_M_addVariable_J47] at h
    obtain ⟨hg, h⟩ := gd_e h
    obtain ⟨u10, e_u10, h⟩ := lt_e h
    refine g_put (t := .boolean) (w' := m_W ad cA u10) hx hb hts in_M ty_M tyok_M nm_M hown hK hI 0 rfl rfl 15 (by decide) (hts _ wd_407) rfl (by decide +kernel) (bz_n hg) (bz_f hg) (Nat.le_of_ble_eq_true rfl) d_M_addVariable_47 (by subst e_u10; rfl) (fun H locs hI => ?_)
    refine lv_aload_n hx hb d_M_addVariable_50 rfl (lv_at hl 0 rfl) ?_
    refine g_get (v := .ref (ad 9)) hx hb hts in_M hown hK hI 0 rfl rfl 20 (by decide) (hts _ wd_412) rfl d_M_addVariable_51 ?_
    refine lv_iconst (v := 4) hx hb d_M_addVariable_54 (by decide) ?_
    refine lv_iload_n hx hb d_M_addVariable_55 rfl (lv_at hl 1 rfl) ?_
    refine lv_imul hx hb d_M_addVariable_56 ?_
    refine lv_iload_n hx hb d_M_addVariable_57 rfl (lv_at hl 3 rfl) ?_
    refine lv_iadd hx hb d_M_addVariable_58 ?_
    refine lv_aload_n hx hb d_M_addVariable_59 rfl (lv_at hl 0 rfl) ?_
    refine g_get (v := .ref (ad 9)) hx hb hts in_M hown hK hI 0 rfl rfl 20 (by decide) (hts _ wd_412) rfl d_M_addVariable_60 ?_
    refine lv_iconst (v := 4) hx hb d_M_addVariable_63 (by decide) ?_
    refine lv_iload_n hx hb d_M_addVariable_64 rfl (lv_at hl 1 rfl) ?_
    refine lv_imul hx hb d_M_addVariable_65 ?_
    refine lv_iload_n hx hb d_M_addVariable_66 rfl (lv_at hl 3 rfl) ?_
    refine lv_iadd hx hb d_M_addVariable_67 ?_
    obtain ⟨hg, h⟩ := gd_e h
    refine g_iald hx hb hK hI 9 8 rfl rfl hg d_M_addVariable_68 ?_
    refine lv_iload_n hx hb d_M_addVariable_69 rfl (lv_at hl 2 rfl) ?_
    refine lv_iadd hx hb d_M_addVariable_70 ?_
    obtain ⟨hg, h⟩ := gd_e h
    obtain ⟨u11, e_u11, h⟩ := lt_e h
    refine g_iast (w' := m_W ad cA u11) hx hb hK hI 9 8 rfl rfl hg d_M_addVariable_71 (by subst e_u11; rfl) (fun H locs hI => ?_)
    refine lv_aload_n hx hb d_M_addVariable_72 rfl (lv_at hl 0 rfl) ?_
    refine lv_aload_n hx hb d_M_addVariable_73 rfl (lv_at hl 0 rfl) ?_
    refine g_get (v := .int (m_at u11)) hx hb hts in_M hown hK hI 0 rfl rfl 3 (by decide) (hts _ wd_395) rfl d_M_addVariable_74 ?_
    refine lv_iconst (v := 1) hx hb d_M_addVariable_77 (by decide) ?_
    refine lv_iadd hx hb d_M_addVariable_78 ?_
    obtain ⟨u12, e_u12, h⟩ := lt_e h
    refine g_put (t := .int) (w' := m_W ad cA u12) hx hb hts in_M ty_M tyok_M nm_M hown hK hI 0 rfl rfl 3 (by decide) (hts _ wd_395) rfl (by decide +kernel) rfl rfl (Nat.le_of_ble_eq_true rfl) d_M_addVariable_79 (by subst e_u12; rfl) (fun H locs hI => ?_)
    exact g_vret (Wd := m_W ad cA) hx hb hr hlk hK hI h d_M_addVariable_82
  have w25 : ∀ (v1 : Int32) (v2 : Int32) (v3 : Int32) (u : MS) (H : Heap) (locs : List Loc) (ls : Array Slot), lv_has ls 4 [(0, .ref (ad 0)), (1, .int v1), (2, .int v2), (3, .int v3)] → g_I D vwCl A s.heap H locs (m_W ad cA u) → f_M_addVariable_J25 v1 v2 v3 u = some (r0, u0) → W p l e { frames := 2, cells := 0, slots := 0, locals := 40 } s m ([.ref (ad 0), .int a1, .int a2] : List Value).toArray below meth c H locs 0 0 (MQ below (g_Q D vwCl (m_T cA) (m_W ad cA u0) A none) ([.ref (ad 0), .int a1, .int a2] : List Value).toArray s 0 0 A) (F0 m 25 ls []) := by
    intro  v1 v2 v3 u H locs ls hl hI h
    dsimp only [f_M_addVariable_J25] at h
    refine lv_aload_n hx hb d_M_addVariable_25 rfl (lv_at hl 0 rfl) ?_
    refine lv_aload_n hx hb d_M_addVariable_26 rfl (lv_at hl 0 rfl) ?_
    refine g_get (v := .int (m_rf u)) hx hb hts in_M hown hK hI 0 rfl rfl 15 (by decide) (hts _ wd_407) rfl d_M_addVariable_27 ?_
    refine lv_if_ne (tgt := 42) hx hb d_M_addVariable_30 rfl (fun hc8 => ?_) (fun hc8 => ?_)
    · rw [if_neg hc8] at h
      refine lv_iconst (v := 1) hx hb d_M_addVariable_42 (by decide) ?_
      refine lv_goto (tgt := 47) hx hb d_M_addVariable_43 rfl ?_
      exact w47 v1 v2 v3 1 u _ _ _ (lv_sub hl [0, 1, 2, 3] rfl) hI h
    · rw [if_pos hc8] at h
      refine lv_aload_n hx hb d_M_addVariable_33 rfl (lv_at hl 0 rfl) ?_
      refine g_get (v := .ref (ad 10)) hx hb hts in_M hown hK hI 0 rfl rfl 21 (by decide) (hts _ wd_413) rfl d_M_addVariable_34 ?_
      refine lv_iload_n hx hb d_M_addVariable_37 rfl (lv_at hl 3 rfl) ?_
      obtain ⟨hg, h⟩ := gd_e h
      refine g_iald hx hb hK hI 10 9 rfl rfl hg d_M_addVariable_38 ?_
      refine lv_if_ne (tgt := 46) hx hb d_M_addVariable_39 rfl (fun hc9 => ?_) (fun hc9 => ?_)
      · rw [if_neg hc9] at h
        refine lv_iconst (v := 0) hx hb d_M_addVariable_46 (by decide) ?_
        exact w47 v1 v2 v3 0 u _ _ _ (lv_sub hl [0, 1, 2, 3] rfl) hI h
      · rw [if_pos hc9] at h
        refine lv_iconst (v := 1) hx hb d_M_addVariable_42 (by decide) ?_
        refine lv_goto (tgt := 47) hx hb d_M_addVariable_43 rfl ?_
        exact w47 v1 v2 v3 1 u _ _ _ (lv_sub hl [0, 1, 2, 3] rfl) hI h
  dsimp only [f_M_addVariable] at h
  refine lv_aload_n hx hb d_M_addVariable_0 rfl (lv_at hl 0 rfl) ?_
  obtain ⟨r1, u2, hc, h⟩ := ob_e h
  refine g_callV (As := []) (rest := []) (w' := m_W ad cA u2) (o := some (.int r1)) ⟨hx, hb, hml, hown, hts⟩ (c_M_look l D ad cA hc) (cwV 0 hts gq_M_83 rfl rfl rfl (by decide +kernel) ⟨Nat.le_of_ble_eq_true rfl, Nat.le_of_ble_eq_true rfl⟩) hK hI hA 0 5 rfl rfl rfl hl.1 rfl (Nat.le_of_ble_eq_true rfl) d_M_addVariable_1 ⟨Nat.zero_le _, Nat.zero_le _⟩ rfl (fun H locs hI => ?_)
  refine lv_bipush (v := 120) hx hb d_M_addVariable_4 (by decide) ?_
  refine lv_isub hx hb d_M_addVariable_6 ?_
  obtain ⟨x3, e_x3, h⟩ := lt_e h
  refine lv_istore_n (lv' := [(3, .int x3), (0, .ref (ad 0)), (1, .int a1), (2, .int a2)]) hx hb d_M_addVariable_7 rfl hl (by decide) (by subst e_x3; rfl) (fun ls hl => ?_)
  refine lv_iload_n hx hb d_M_addVariable_8 rfl (lv_at hl 0 rfl) ?_
  refine lv_if_le (tgt := 25) hx hb d_M_addVariable_9 rfl (fun hc4 => ?_) (fun hc4 => ?_)
  · rw [if_pos hc4] at h
    exact w25 a1 a2 x3 u2 _ _ _ (lv_sub hl [1, 2, 3, 0] rfl) hI h
  · rw [if_neg hc4] at h
    refine lv_aload_n hx hb d_M_addVariable_12 rfl (lv_at hl 1 rfl) ?_
    refine g_get (v := .ref (ad 10)) hx hb hts in_M hown hK hI 0 rfl rfl 21 (by decide) (hts _ wd_413) rfl d_M_addVariable_13 ?_
    refine lv_iload_n hx hb d_M_addVariable_16 rfl (lv_at hl 0 rfl) ?_
    obtain ⟨hg, h⟩ := gd_e h
    refine g_iald hx hb hK hI 10 9 rfl rfl hg d_M_addVariable_17 ?_
    refine lv_if_ne (tgt := 25) hx hb d_M_addVariable_18 rfl (fun hc5 => ?_) (fun hc5 => ?_)
    · rw [if_neg hc5] at h
      exact w25 a1 a2 x3 u2 _ _ _ (lv_sub hl [1, 2, 3, 0] rfl) hI h
    · rw [if_pos hc5] at h
      refine lv_aload_n hx hb d_M_addVariable_21 rfl (lv_at hl 1 rfl) ?_
      obtain ⟨r6, u7, hc, h⟩ := ob_e h
      refine g_callV (As := []) (rest := []) (w' := m_W ad cA u7) (o := none) ⟨hx, hb, hml, hown, hts⟩ (c_M_fail l D ad cA hc) (cwV 0 hts gq_M_90 rfl rfl rfl (by decide +kernel) ⟨Nat.le_of_ble_eq_true rfl, Nat.le_of_ble_eq_true rfl⟩) hK hI hA 0 5 rfl rfl rfl hl.1 rfl (Nat.le_of_ble_eq_true rfl) d_M_addVariable_22 ⟨Nat.zero_le _, Nat.zero_le _⟩ rfl (fun H locs hI => ?_)
      exact w25 a1 a2 x3 u7 _ _ _ (lv_sub hl [1, 2, 3, 0] rfl) hI h
def f_M_readPart_J127 (v1 : Int32) (v2 : Int32) (v3 : Int32) (v4 : Int32) (v5 : Int32) (u : MS) : Option (Unit × MS) := gd (inb ((4 * v1) + 3) 80) (if v5 = 0 then (gd (inb ((4 * v1) + 3) 80) (lt_ (m_p_ns (upd (m_ns u) ((4 * v1) + 3).toNatClampNeg ((m_ns u ((4 * v1) + 3).toNatClampNeg) + (v2 * (v3 - 48)))) u) fun u30 => some ((), u30))) else (gd (inb ((4 * v1) + 3) 80) (lt_ (m_p_ns (upd (m_ns u) ((4 * v1) + 3).toNatClampNeg ((m_ns u ((4 * v1) + 3).toNatClampNeg) + (v2 * (((10 * (v3 - 48)) + v4) - 48)))) u) fun u31 => some ((), u31))))
def f_M_readPart_J82 (v1 : Int32) (v2 : Int32) (v3 : Int32) (v4 : Int32) (v5 : Int32) (t0 : Int32) (u : MS) : Option (Unit × MS) := lt_ (m_p_at t0 u) fun u19 => if v5 = 0 then (ob (f_M_in v3 49 50 u19) fun r21 u22 => if r21 = 0 then f_M_readPart_J127 v1 v2 v3 v4 v5 u22 else (ob (f_M_in v4 120 122 u22) fun r24 u25 => if r24 = 0 then f_M_readPart_J127 v1 v2 v3 v4 v5 u25 else (ob (f_M_addVariable v1 (v2 * (v3 - 48)) u25) fun r27 u28 => some ((), u28)))) else f_M_readPart_J127 v1 v2 v3 v4 v5 u19
def f_M_readPart (a1 : Int32) (a2 : Int32) (u : MS) : Option (Unit × MS) := ob (f_M_look u) fun r1 u2 => ob (f_M_in r1 120 122 u2) fun r3 u4 => if r3 = 0 then (ob (f_M_in r1 48 57 u4) fun r6 u7 => if r6 = 0 then (ob (f_M_fail u7) fun r9 u10 => some ((), u10)) else (lt_ (m_p_at ((m_at u7) + 1) u7) fun u11 => ob (f_M_look u11) fun r12 u13 => ob (f_M_in r12 48 57 u13) fun r14 u15 => if r14 = 0 then f_M_readPart_J82 a1 a2 r1 r12 r14 (m_at u15) u15 else f_M_readPart_J82 a1 a2 r1 r12 r14 ((m_at u15) + 1) u15)) else (ob (f_M_addVariable a1 a2 u4) fun r17 u18 => some ((), u18))
set_option maxRecDepth 100000 in
set_option maxHeartbeats 4000000 in
theorem c_M_readPart (l : Launch) (D : va_G) (ad : Nat → Nat) (cA : Nat → ClassId) {a1 : Int32} {a2 : Int32} {u u0 : MS} {r0 : Unit} (h : f_M_readPart a1 a2 u = some (r0, u0)) : g_M l y_M_readPart w_M_readPart { frames := 3, cells := 0, slots := 0, locals := 63 } D vwCl (m_T cA) (m_W ad cA u) [.ref (ad 0), .int a1, .int a2] none (m_W ad cA u0) := by
  refine g_ofW (cc := c0_M_readPart) (maxL := 6) (ret := none) (by decide) rfl (Nat.le_of_ble_eq_true rfl) ?_
  intro p e s m below meth c A ls hx hb hr hml hown hts hlk hK hA hI hl
  have hts : ∀ w ∈ gW, w.before ([.ref (ad 0), .int a1, .int a2] : List Value).toArray s = true := fun w h => hts w (List.mem_cons_of_mem _ h)
  have hown : s.vm.findClass R_M = some m.cls := hown
  have hl : lv_has ls 6 [(0, .ref (ad 0)), (1, .int a1), (2, .int a2)] := hl
  have w127 : ∀ (v1 : Int32) (v2 : Int32) (v3 : Int32) (v4 : Int32) (v5 : Int32) (u : MS) (H : Heap) (locs : List Loc) (ls : Array Slot), lv_has ls 6 [(0, .ref (ad 0)), (1, .int v1), (2, .int v2), (3, .int v3), (4, .int v4), (5, .int v5)] → g_I D vwCl A s.heap H locs (m_W ad cA u) → f_M_readPart_J127 v1 v2 v3 v4 v5 u = some (r0, u0) → W p l e { frames := 3, cells := 0, slots := 0, locals := 63 } s m ([.ref (ad 0), .int a1, .int a2] : List Value).toArray below meth c H locs 0 0 (MQ below (g_Q D vwCl (m_T cA) (m_W ad cA u0) A none) ([.ref (ad 0), .int a1, .int a2] : List Value).toArray s 0 0 A) (F0 m 127 ls []) := by
    intro  v1 v2 v3 v4 v5 u H locs ls hl hI h
    dsimp only [f_M_readPart_J127] at h
    refine lv_aload_n hx hb d_M_readPart_127 rfl (lv_at hl 0 rfl) ?_
    refine g_get (v := .ref (ad 9)) hx hb hts in_M hown hK hI 0 rfl rfl 20 (by decide) (hts _ wd_412) rfl d_M_readPart_128 ?_
    refine lv_iconst (v := 4) hx hb d_M_readPart_131 (by decide) ?_
    refine lv_iload_n hx hb d_M_readPart_132 rfl (lv_at hl 1 rfl) ?_
    refine lv_imul hx hb d_M_readPart_133 ?_
    refine lv_iconst (v := 3) hx hb d_M_readPart_134 (by decide) ?_
    refine lv_iadd hx hb d_M_readPart_135 ?_
    refine lv_aload_n hx hb d_M_readPart_136 rfl (lv_at hl 0 rfl) ?_
    refine g_get (v := .ref (ad 9)) hx hb hts in_M hown hK hI 0 rfl rfl 20 (by decide) (hts _ wd_412) rfl d_M_readPart_137 ?_
    refine lv_iconst (v := 4) hx hb d_M_readPart_140 (by decide) ?_
    refine lv_iload_n hx hb d_M_readPart_141 rfl (lv_at hl 1 rfl) ?_
    refine lv_imul hx hb d_M_readPart_142 ?_
    refine lv_iconst (v := 3) hx hb d_M_readPart_143 (by decide) ?_
    refine lv_iadd hx hb d_M_readPart_144 ?_
    obtain ⟨hg, h⟩ := gd_e h
    refine g_iald hx hb hK hI 9 8 rfl rfl hg d_M_readPart_145 ?_
    refine lv_iload_n hx hb d_M_readPart_146 rfl (lv_at hl 2 rfl) ?_
    refine lv_iload hx hb d_M_readPart_147 (lv_at hl 5 rfl) ?_
    refine lv_if_eq (tgt := 168) hx hb d_M_readPart_149 rfl (fun hc29 => ?_) (fun hc29 => ?_)
    · rw [if_pos hc29] at h
      refine lv_iload_n hx hb d_M_readPart_168 rfl (lv_at hl 3 rfl) ?_
      refine lv_bipush (v := 48) hx hb d_M_readPart_169 (by decide) ?_
      refine lv_isub hx hb d_M_readPart_171 ?_
      refine lv_imul hx hb d_M_readPart_172 ?_
      refine lv_iadd hx hb d_M_readPart_173 ?_
      obtain ⟨hg, h⟩ := gd_e h
      obtain ⟨u30, e_u30, h⟩ := lt_e h
      refine g_iast (w' := m_W ad cA u30) hx hb hK hI 9 8 rfl rfl hg d_M_readPart_174 (by subst e_u30; rfl) (fun H locs hI => ?_)
      refine lv_goto (tgt := 182) hx hb d_M_readPart_175 rfl ?_
      exact g_vret (Wd := m_W ad cA) hx hb hr hlk hK hI h d_M_readPart_182
    · rw [if_neg hc29] at h
      refine lv_bipush (v := 10) hx hb d_M_readPart_152 (by decide) ?_
      refine lv_iload_n hx hb d_M_readPart_154 rfl (lv_at hl 3 rfl) ?_
      refine lv_bipush (v := 48) hx hb d_M_readPart_155 (by decide) ?_
      refine lv_isub hx hb d_M_readPart_157 ?_
      refine lv_imul hx hb d_M_readPart_158 ?_
      refine lv_iload hx hb d_M_readPart_159 (lv_at hl 4 rfl) ?_
      refine lv_iadd hx hb d_M_readPart_161 ?_
      refine lv_bipush (v := 48) hx hb d_M_readPart_162 (by decide) ?_
      refine lv_isub hx hb d_M_readPart_164 ?_
      refine lv_goto (tgt := 172) hx hb d_M_readPart_165 rfl ?_
      refine lv_imul hx hb d_M_readPart_172 ?_
      refine lv_iadd hx hb d_M_readPart_173 ?_
      obtain ⟨hg, h⟩ := gd_e h
      obtain ⟨u31, e_u31, h⟩ := lt_e h
      refine g_iast (w' := m_W ad cA u31) hx hb hK hI 9 8 rfl rfl hg d_M_readPart_174 (by subst e_u31; rfl) (fun H locs hI => ?_)
      refine lv_goto (tgt := 182) hx hb d_M_readPart_175 rfl ?_
      exact g_vret (Wd := m_W ad cA) hx hb hr hlk hK hI h d_M_readPart_182
  have w82 : ∀ (v1 : Int32) (v2 : Int32) (v3 : Int32) (v4 : Int32) (v5 : Int32) (t0 : Int32) (u : MS) (H : Heap) (locs : List Loc) (ls : Array Slot), lv_has ls 6 [(0, .ref (ad 0)), (1, .int v1), (2, .int v2), (3, .int v3), (4, .int v4), (5, .int v5)] → g_I D vwCl A s.heap H locs (m_W ad cA u) → f_M_readPart_J82 v1 v2 v3 v4 v5 t0 u = some (r0, u0) → W p l e { frames := 3, cells := 0, slots := 0, locals := 63 } s m ([.ref (ad 0), .int a1, .int a2] : List Value).toArray below meth c H locs 0 0 (MQ below (g_Q D vwCl (m_T cA) (m_W ad cA u0) A none) ([.ref (ad 0), .int a1, .int a2] : List Value).toArray s 0 0 A) (F0 m 82 ls [.int t0, .ref (ad 0)]) := by
    intro  v1 v2 v3 v4 v5 t0 u H locs ls hl hI h
    dsimp only [f_M_readPart_J82] at h
    obtain ⟨u19, e_u19, h⟩ := lt_e h
    refine g_put (t := .int) (w' := m_W ad cA u19) hx hb hts in_M ty_M tyok_M nm_M hown hK hI 0 rfl rfl 3 (by decide) (hts _ wd_395) rfl (by decide +kernel) rfl rfl (Nat.le_of_ble_eq_true rfl) d_M_readPart_82 (by subst e_u19; rfl) (fun H locs hI => ?_)
    refine lv_iload hx hb d_M_readPart_85 (lv_at hl 5 rfl) ?_
    refine lv_if_ne (tgt := 127) hx hb d_M_readPart_87 rfl (fun hc20 => ?_) (fun hc20 => ?_)
    · rw [if_neg hc20] at h
      exact w127 v1 v2 v3 v4 v5 u19 _ _ _ (lv_sub hl [0, 1, 2, 3, 4, 5] rfl) hI h
    · rw [if_pos hc20] at h
      refine lv_iload_n hx hb d_M_readPart_90 rfl (lv_at hl 3 rfl) ?_
      refine lv_bipush (v := 49) hx hb d_M_readPart_91 (by decide) ?_
      refine lv_bipush (v := 50) hx hb d_M_readPart_93 (by decide) ?_
      obtain ⟨r21, u22, hc, h⟩ := ob_e h
      refine g_callS (As := [.int v3, .int 49, .int 50]) (rest := []) (w' := m_W ad cA u22) (o := some (.int r21)) ⟨hx, hb, hml, hown, hts⟩ (c_M_in l D ad cA hc) (va_cwS 3 hts gq_M_70 rfl rfl rfl (by decide +kernel) ⟨Nat.le_of_ble_eq_true rfl, Nat.le_of_ble_eq_true rfl⟩) hK hI hA rfl hl.1 rfl (Nat.le_of_ble_eq_true rfl) d_M_readPart_95 ⟨Nat.zero_le _, Nat.zero_le _⟩ rfl (fun H locs hI => ?_)
      refine lv_if_eq (tgt := 127) hx hb d_M_readPart_98 rfl (fun hc23 => ?_) (fun hc23 => ?_)
      · rw [if_pos hc23] at h
        exact w127 v1 v2 v3 v4 v5 u22 _ _ _ (lv_sub hl [0, 1, 2, 3, 4, 5] rfl) hI h
      · rw [if_neg hc23] at h
        refine lv_iload hx hb d_M_readPart_101 (lv_at hl 4 rfl) ?_
        refine lv_bipush (v := 120) hx hb d_M_readPart_103 (by decide) ?_
        refine lv_bipush (v := 122) hx hb d_M_readPart_105 (by decide) ?_
        obtain ⟨r24, u25, hc, h⟩ := ob_e h
        refine g_callS (As := [.int v4, .int 120, .int 122]) (rest := []) (w' := m_W ad cA u25) (o := some (.int r24)) ⟨hx, hb, hml, hown, hts⟩ (c_M_in l D ad cA hc) (va_cwS 3 hts gq_M_70 rfl rfl rfl (by decide +kernel) ⟨Nat.le_of_ble_eq_true rfl, Nat.le_of_ble_eq_true rfl⟩) hK hI hA rfl hl.1 rfl (Nat.le_of_ble_eq_true rfl) d_M_readPart_107 ⟨Nat.zero_le _, Nat.zero_le _⟩ rfl (fun H locs hI => ?_)
        refine lv_if_eq (tgt := 127) hx hb d_M_readPart_110 rfl (fun hc26 => ?_) (fun hc26 => ?_)
        · rw [if_pos hc26] at h
          exact w127 v1 v2 v3 v4 v5 u25 _ _ _ (lv_sub hl [0, 1, 2, 3, 4, 5] rfl) hI h
        · rw [if_neg hc26] at h
          refine lv_aload_n hx hb d_M_readPart_113 rfl (lv_at hl 0 rfl) ?_
          refine lv_iload_n hx hb d_M_readPart_114 rfl (lv_at hl 1 rfl) ?_
          refine lv_iload_n hx hb d_M_readPart_115 rfl (lv_at hl 2 rfl) ?_
          refine lv_iload_n hx hb d_M_readPart_116 rfl (lv_at hl 3 rfl) ?_
          refine lv_bipush (v := 48) hx hb d_M_readPart_117 (by decide) ?_
          refine lv_isub hx hb d_M_readPart_119 ?_
          refine lv_imul hx hb d_M_readPart_120 ?_
          obtain ⟨r27, u28, hc, h⟩ := ob_e h
          refine g_callV (As := [.int v1, .int (v2 * (v3 - 48))]) (rest := []) (w' := m_W ad cA u28) (o := none) ⟨hx, hb, hml, hown, hts⟩ (c_M_addVariable l D ad cA hc) (cwV 2 hts gq_M_96 rfl rfl rfl (by decide +kernel) ⟨Nat.le_of_ble_eq_true rfl, Nat.le_of_ble_eq_true rfl⟩) hK hI hA 0 5 rfl rfl rfl hl.1 rfl (Nat.le_of_ble_eq_true rfl) d_M_readPart_121 ⟨Nat.zero_le _, Nat.zero_le _⟩ rfl (fun H locs hI => ?_)
          refine lv_goto (tgt := 175) hx hb d_M_readPart_124 rfl ?_
          refine lv_goto (tgt := 182) hx hb d_M_readPart_175 rfl ?_
          exact g_vret (Wd := m_W ad cA) hx hb hr hlk hK hI h d_M_readPart_182
  dsimp only [f_M_readPart] at h
  refine lv_aload_n hx hb d_M_readPart_0 rfl (lv_at hl 0 rfl) ?_
  obtain ⟨r1, u2, hc, h⟩ := ob_e h
  refine g_callV (As := []) (rest := []) (w' := m_W ad cA u2) (o := some (.int r1)) ⟨hx, hb, hml, hown, hts⟩ (c_M_look l D ad cA hc) (cwV 0 hts gq_M_83 rfl rfl rfl (by decide +kernel) ⟨Nat.le_of_ble_eq_true rfl, Nat.le_of_ble_eq_true rfl⟩) hK hI hA 0 5 rfl rfl rfl hl.1 rfl (Nat.le_of_ble_eq_true rfl) d_M_readPart_1 ⟨Nat.zero_le _, Nat.zero_le _⟩ rfl (fun H locs hI => ?_)
  refine lv_istore_n (lv' := [(3, .int r1), (0, .ref (ad 0)), (1, .int a1), (2, .int a2)]) hx hb d_M_readPart_4 rfl hl (by decide) rfl (fun ls hl => ?_)
  refine lv_iload_n hx hb d_M_readPart_5 rfl (lv_at hl 0 rfl) ?_
  refine lv_bipush (v := 120) hx hb d_M_readPart_6 (by decide) ?_
  refine lv_bipush (v := 122) hx hb d_M_readPart_8 (by decide) ?_
  obtain ⟨r3, u4, hc, h⟩ := ob_e h
  refine g_callS (As := [.int r1, .int 120, .int 122]) (rest := []) (w' := m_W ad cA u4) (o := some (.int r3)) ⟨hx, hb, hml, hown, hts⟩ (c_M_in l D ad cA hc) (va_cwS 3 hts gq_M_70 rfl rfl rfl (by decide +kernel) ⟨Nat.le_of_ble_eq_true rfl, Nat.le_of_ble_eq_true rfl⟩) hK hI hA rfl hl.1 rfl (Nat.le_of_ble_eq_true rfl) d_M_readPart_10 ⟨Nat.zero_le _, Nat.zero_le _⟩ rfl (fun H locs hI => ?_)
  refine lv_if_eq (tgt := 25) hx hb d_M_readPart_13 rfl (fun hc5 => ?_) (fun hc5 => ?_)
  · rw [if_pos hc5] at h
    refine lv_iload_n hx hb d_M_readPart_25 rfl (lv_at hl 0 rfl) ?_
    refine lv_bipush (v := 48) hx hb d_M_readPart_26 (by decide) ?_
    refine lv_bipush (v := 57) hx hb d_M_readPart_28 (by decide) ?_
    obtain ⟨r6, u7, hc, h⟩ := ob_e h
    refine g_callS (As := [.int r1, .int 48, .int 57]) (rest := []) (w' := m_W ad cA u7) (o := some (.int r6)) ⟨hx, hb, hml, hown, hts⟩ (c_M_in l D ad cA hc) (va_cwS 3 hts gq_M_70 rfl rfl rfl (by decide +kernel) ⟨Nat.le_of_ble_eq_true rfl, Nat.le_of_ble_eq_true rfl⟩) hK hI hA rfl hl.1 rfl (Nat.le_of_ble_eq_true rfl) d_M_readPart_30 ⟨Nat.zero_le _, Nat.zero_le _⟩ rfl (fun H locs hI => ?_)
    refine lv_if_eq (tgt := 178) hx hb d_M_readPart_33 rfl (fun hc8 => ?_) (fun hc8 => ?_)
    · rw [if_pos hc8] at h
      refine lv_aload_n hx hb d_M_readPart_178 rfl (lv_at hl 1 rfl) ?_
      obtain ⟨r9, u10, hc, h⟩ := ob_e h
      refine g_callV (As := []) (rest := []) (w' := m_W ad cA u10) (o := none) ⟨hx, hb, hml, hown, hts⟩ (c_M_fail l D ad cA hc) (cwV 0 hts gq_M_90 rfl rfl rfl (by decide +kernel) ⟨Nat.le_of_ble_eq_true rfl, Nat.le_of_ble_eq_true rfl⟩) hK hI hA 0 5 rfl rfl rfl hl.1 rfl (Nat.le_of_ble_eq_true rfl) d_M_readPart_179 ⟨Nat.zero_le _, Nat.zero_le _⟩ rfl (fun H locs hI => ?_)
      exact g_vret (Wd := m_W ad cA) hx hb hr hlk hK hI h d_M_readPart_182
    · rw [if_neg hc8] at h
      refine lv_aload_n hx hb d_M_readPart_36 rfl (lv_at hl 1 rfl) ?_
      refine lv_aload_n hx hb d_M_readPart_37 rfl (lv_at hl 1 rfl) ?_
      refine g_get (v := .int (m_at u7)) hx hb hts in_M hown hK hI 0 rfl rfl 3 (by decide) (hts _ wd_395) rfl d_M_readPart_38 ?_
      refine lv_iconst (v := 1) hx hb d_M_readPart_41 (by decide) ?_
      refine lv_iadd hx hb d_M_readPart_42 ?_
      obtain ⟨u11, e_u11, h⟩ := lt_e h
      refine g_put (t := .int) (w' := m_W ad cA u11) hx hb hts in_M ty_M tyok_M nm_M hown hK hI 0 rfl rfl 3 (by decide) (hts _ wd_395) rfl (by decide +kernel) rfl rfl (Nat.le_of_ble_eq_true rfl) d_M_readPart_43 (by subst e_u11; rfl) (fun H locs hI => ?_)
      refine lv_aload_n hx hb d_M_readPart_46 rfl (lv_at hl 1 rfl) ?_
      obtain ⟨r12, u13, hc, h⟩ := ob_e h
      refine g_callV (As := []) (rest := []) (w' := m_W ad cA u13) (o := some (.int r12)) ⟨hx, hb, hml, hown, hts⟩ (c_M_look l D ad cA hc) (cwV 0 hts gq_M_83 rfl rfl rfl (by decide +kernel) ⟨Nat.le_of_ble_eq_true rfl, Nat.le_of_ble_eq_true rfl⟩) hK hI hA 0 5 rfl rfl rfl hl.1 rfl (Nat.le_of_ble_eq_true rfl) d_M_readPart_47 ⟨Nat.zero_le _, Nat.zero_le _⟩ rfl (fun H locs hI => ?_)
      refine lv_istore (lv' := [(4, .int r12), (3, .int r1), (0, .ref (ad 0)), (1, .int a1), (2, .int a2)]) hx hb d_M_readPart_50 hl (by decide) rfl (fun ls hl => ?_)
      refine lv_iload hx hb d_M_readPart_52 (lv_at hl 0 rfl) ?_
      refine lv_bipush (v := 48) hx hb d_M_readPart_54 (by decide) ?_
      refine lv_bipush (v := 57) hx hb d_M_readPart_56 (by decide) ?_
      obtain ⟨r14, u15, hc, h⟩ := ob_e h
      refine g_callS (As := [.int r12, .int 48, .int 57]) (rest := []) (w' := m_W ad cA u15) (o := some (.int r14)) ⟨hx, hb, hml, hown, hts⟩ (c_M_in l D ad cA hc) (va_cwS 3 hts gq_M_70 rfl rfl rfl (by decide +kernel) ⟨Nat.le_of_ble_eq_true rfl, Nat.le_of_ble_eq_true rfl⟩) hK hI hA rfl hl.1 rfl (Nat.le_of_ble_eq_true rfl) d_M_readPart_58 ⟨Nat.zero_le _, Nat.zero_le _⟩ rfl (fun H locs hI => ?_)
      refine lv_istore (lv' := [(5, .int r14), (4, .int r12), (3, .int r1), (0, .ref (ad 0)), (1, .int a1), (2, .int a2)]) hx hb d_M_readPart_61 hl (by decide) rfl (fun ls hl => ?_)
      refine lv_aload_n hx hb d_M_readPart_63 rfl (lv_at hl 3 rfl) ?_
      refine lv_iload hx hb d_M_readPart_64 (lv_at hl 0 rfl) ?_
      refine lv_if_eq (tgt := 78) hx hb d_M_readPart_66 rfl (fun hc16 => ?_) (fun hc16 => ?_)
      · rw [if_pos hc16] at h
        refine lv_aload_n hx hb d_M_readPart_78 rfl (lv_at hl 3 rfl) ?_
        refine g_get (v := .int (m_at u15)) hx hb hts in_M hown hK hI 0 rfl rfl 3 (by decide) (hts _ wd_395) rfl d_M_readPart_79 ?_
        exact w82 a1 a2 r1 r12 r14 (m_at u15) u15 _ _ _ (lv_sub hl [3, 4, 5, 2, 1, 0] rfl) hI h
      · rw [if_neg hc16] at h
        refine lv_aload_n hx hb d_M_readPart_69 rfl (lv_at hl 3 rfl) ?_
        refine g_get (v := .int (m_at u15)) hx hb hts in_M hown hK hI 0 rfl rfl 3 (by decide) (hts _ wd_395) rfl d_M_readPart_70 ?_
        refine lv_iconst (v := 1) hx hb d_M_readPart_73 (by decide) ?_
        refine lv_iadd hx hb d_M_readPart_74 ?_
        refine lv_goto (tgt := 82) hx hb d_M_readPart_75 rfl ?_
        exact w82 a1 a2 r1 r12 r14 ((m_at u15) + 1) u15 _ _ _ (lv_sub hl [3, 4, 5, 2, 1, 0] rfl) hI h
  · rw [if_neg hc5] at h
    refine lv_aload_n hx hb d_M_readPart_16 rfl (lv_at hl 1 rfl) ?_
    refine lv_iload_n hx hb d_M_readPart_17 rfl (lv_at hl 2 rfl) ?_
    refine lv_iload_n hx hb d_M_readPart_18 rfl (lv_at hl 3 rfl) ?_
    obtain ⟨r17, u18, hc, h⟩ := ob_e h
    refine g_callV (As := [.int a1, .int a2]) (rest := []) (w' := m_W ad cA u18) (o := none) ⟨hx, hb, hml, hown, hts⟩ (c_M_addVariable l D ad cA hc) (cwV 2 hts gq_M_96 rfl rfl rfl (by decide +kernel) ⟨Nat.le_of_ble_eq_true rfl, Nat.le_of_ble_eq_true rfl⟩) hK hI hA 0 5 rfl rfl rfl hl.1 rfl (Nat.le_of_ble_eq_true rfl) d_M_readPart_19 ⟨Nat.zero_le _, Nat.zero_le _⟩ rfl (fun H locs hI => ?_)
    refine lv_goto (tgt := 182) hx hb d_M_readPart_22 rfl ?_
    exact g_vret (Wd := m_W ad cA) hx hb hr hlk hK hI h d_M_readPart_182
def f_M_readSum_J105 (k39 : Int32 → Int32 → Int32 → Int32 → MS → Option (Unit × MS)) (v1 : Int32) (v2 : Int32) (v4 : Int32) (t0 : Int32) (u : MS) : Option (Unit × MS) := if v4 = 0 then (lt_ (m_p_at (m_at u) u) fun u18 => k39 v1 v2 t0 v4 u18) else (lt_ (m_p_at ((m_at u) + 1) u) fun u19 => k39 v1 v2 t0 v4 u19)
def f_M_readSum_J91 (k39 : Int32 → Int32 → Int32 → Int32 → MS → Option (Unit × MS)) (v1 : Int32) (v2 : Int32) (v5 : Int32) (t0 : Int32) (u : MS) : Option (Unit × MS) := if v5 = 45 then f_M_readSum_J105 k39 v1 v2 t0 1 u else f_M_readSum_J105 k39 v1 v2 t0 0 u
def f_M_readSum_J63 (k39 : Int32 → Int32 → Int32 → Int32 → MS → Option (Unit × MS)) (v1 : Int32) (v2 : Int32) (t0 : Int32) (t1 : Int32) (u : MS) : Option (Unit × MS) := ob (f_M_readPart t1 t0 u) fun r10 u11 => ob (f_M_look u11) fun r12 u13 => if r12 = 43 then f_M_readSum_J91 k39 v1 v2 r12 1 u13 else (if r12 = 45 then f_M_readSum_J91 k39 v1 v2 r12 1 u13 else f_M_readSum_J91 k39 v1 v2 r12 0 u13)
def f_M_readSum_L39 (n : Nat) : Int32 → Int32 → Int32 → Int32 → MS → Option (Unit × MS) := match n with
  | 0 => fun _ _ _ _ _ => none
  | n + 1 => fun v1 v2 v3 v4 u => if v4 = 0 then some ((), u) else (if 0 ≤ (m_fa u) then some ((), u) else (if v3 = 0 then f_M_readSum_J63 (f_M_readSum_L39 n) v1 v2 v2 v1 u else f_M_readSum_J63 (f_M_readSum_L39 n) v1 v2 (-v2) v1 u))
def f_M_readSum_J14 (v1 : Int32) (v2 : Int32) (t0 : Int32) (u : MS) : Option (Unit × MS) := if t0 = 0 then (lt_ (m_p_at (m_at u) u) fun u5 => f_M_readSum_L39 4096 v1 v2 t0 1 u5) else (lt_ (m_p_at ((m_at u) + 1) u) fun u6 => f_M_readSum_L39 4096 v1 v2 t0 1 u6)
def f_M_readSum (a1 : Int32) (a2 : Int32) (u : MS) : Option (Unit × MS) := ob (f_M_look u) fun r1 u2 => if r1 = 45 then f_M_readSum_J14 a1 a2 1 u2 else f_M_readSum_J14 a1 a2 0 u2
set_option maxRecDepth 100000 in
set_option maxHeartbeats 4000000 in
theorem c_M_readSum (l : Launch) (D : va_G) (ad : Nat → Nat) (cA : Nat → ClassId) {a1 : Int32} {a2 : Int32} {u u0 : MS} {r0 : Unit} (h : f_M_readSum a1 a2 u = some (r0, u0)) : g_M l y_M_readSum w_M_readSum { frames := 4, cells := 0, slots := 0, locals := 88 } D vwCl (m_T cA) (m_W ad cA u) [.ref (ad 0), .int a1, .int a2] none (m_W ad cA u0) := by
  refine g_ofW (cc := c0_M_readSum) (maxL := 6) (ret := none) (by decide) rfl (Nat.le_of_ble_eq_true rfl) ?_
  intro p e s m below meth c A ls hx hb hr hml hown hts hlk hK hA hI hl
  have hts : ∀ w ∈ gW, w.before ([.ref (ad 0), .int a1, .int a2] : List Value).toArray s = true := fun w h => hts w (List.mem_cons_of_mem _ h)
  have hown : s.vm.findClass R_M = some m.cls := hown
  have hl : lv_has ls 6 [(0, .ref (ad 0)), (1, .int a1), (2, .int a2)] := hl
  have w105 : ∀ (k39 : Int32 → Int32 → Int32 → Int32 → MS → Option (Unit × MS)) (hk39 : ∀ (v1 : Int32) (v2 : Int32) (v3 : Int32) (v4 : Int32) (u : MS) (H : Heap) (locs : List Loc) (ls : Array Slot), lv_has ls 6 [(0, .ref (ad 0)), (1, .int v1), (2, .int v2), (3, .int v3), (4, .int v4)] → g_I D vwCl A s.heap H locs (m_W ad cA u) → k39 v1 v2 v3 v4 u = some (r0, u0) → W p l e { frames := 4, cells := 0, slots := 0, locals := 88 } s m ([.ref (ad 0), .int a1, .int a2] : List Value).toArray below meth c H locs 0 0 (MQ below (g_Q D vwCl (m_T cA) (m_W ad cA u0) A none) ([.ref (ad 0), .int a1, .int a2] : List Value).toArray s 0 0 A) (F0 m 39 ls [])) (v1 : Int32) (v2 : Int32) (v4 : Int32) (t0 : Int32) (u : MS) (H : Heap) (locs : List Loc) (ls : Array Slot), lv_has ls 6 [(0, .ref (ad 0)), (1, .int v1), (2, .int v2), (4, .int v4)] → g_I D vwCl A s.heap H locs (m_W ad cA u) → f_M_readSum_J105 k39 v1 v2 v4 t0 u = some (r0, u0) → W p l e { frames := 4, cells := 0, slots := 0, locals := 88 } s m ([.ref (ad 0), .int a1, .int a2] : List Value).toArray below meth c H locs 0 0 (MQ below (g_Q D vwCl (m_T cA) (m_W ad cA u0) A none) ([.ref (ad 0), .int a1, .int a2] : List Value).toArray s 0 0 A) (F0 m 105 ls [.int t0]) := by
    intro k39 hk39 v1 v2 v4 t0 u H locs ls hl hI h
    dsimp only [f_M_readSum_J105] at h
    refine lv_istore_n (lv' := [(3, .int t0), (0, .ref (ad 0)), (1, .int v1), (2, .int v2), (4, .int v4)]) hx hb d_M_readSum_105 rfl hl (by decide) rfl (fun ls hl => ?_)
    refine lv_aload_n hx hb d_M_readSum_106 rfl (lv_at hl 1 rfl) ?_
    refine lv_iload hx hb d_M_readSum_107 (lv_at hl 4 rfl) ?_
    refine lv_if_eq (tgt := 121) hx hb d_M_readSum_109 rfl (fun hc17 => ?_) (fun hc17 => ?_)
    · rw [if_pos hc17] at h
      refine lv_aload_n hx hb d_M_readSum_121 rfl (lv_at hl 1 rfl) ?_
      refine g_get (v := .int (m_at u)) hx hb hts in_M hown hK hI 0 rfl rfl 3 (by decide) (hts _ wd_395) rfl d_M_readSum_122 ?_
      obtain ⟨u18, e_u18, h⟩ := lt_e h
      refine g_put (t := .int) (w' := m_W ad cA u18) hx hb hts in_M ty_M tyok_M nm_M hown hK hI 0 rfl rfl 3 (by decide) (hts _ wd_395) rfl (by decide +kernel) rfl rfl (Nat.le_of_ble_eq_true rfl) d_M_readSum_125 (by subst e_u18; rfl) (fun H locs hI => ?_)
      refine lv_goto (tgt := 39) hx hb d_M_readSum_128 rfl ?_
      exact hk39 v1 v2 t0 v4 u18 _ _ _ (lv_sub hl [1, 2, 3, 0, 4] rfl) hI h
    · rw [if_neg hc17] at h
      refine lv_aload_n hx hb d_M_readSum_112 rfl (lv_at hl 1 rfl) ?_
      refine g_get (v := .int (m_at u)) hx hb hts in_M hown hK hI 0 rfl rfl 3 (by decide) (hts _ wd_395) rfl d_M_readSum_113 ?_
      refine lv_iconst (v := 1) hx hb d_M_readSum_116 (by decide) ?_
      refine lv_iadd hx hb d_M_readSum_117 ?_
      refine lv_goto (tgt := 125) hx hb d_M_readSum_118 rfl ?_
      obtain ⟨u19, e_u19, h⟩ := lt_e h
      refine g_put (t := .int) (w' := m_W ad cA u19) hx hb hts in_M ty_M tyok_M nm_M hown hK hI 0 rfl rfl 3 (by decide) (hts _ wd_395) rfl (by decide +kernel) rfl rfl (Nat.le_of_ble_eq_true rfl) d_M_readSum_125 (by subst e_u19; rfl) (fun H locs hI => ?_)
      refine lv_goto (tgt := 39) hx hb d_M_readSum_128 rfl ?_
      exact hk39 v1 v2 t0 v4 u19 _ _ _ (lv_sub hl [1, 2, 3, 0, 4] rfl) hI h
  have w91 : ∀ (k39 : Int32 → Int32 → Int32 → Int32 → MS → Option (Unit × MS)) (hk39 : ∀ (v1 : Int32) (v2 : Int32) (v3 : Int32) (v4 : Int32) (u : MS) (H : Heap) (locs : List Loc) (ls : Array Slot), lv_has ls 6 [(0, .ref (ad 0)), (1, .int v1), (2, .int v2), (3, .int v3), (4, .int v4)] → g_I D vwCl A s.heap H locs (m_W ad cA u) → k39 v1 v2 v3 v4 u = some (r0, u0) → W p l e { frames := 4, cells := 0, slots := 0, locals := 88 } s m ([.ref (ad 0), .int a1, .int a2] : List Value).toArray below meth c H locs 0 0 (MQ below (g_Q D vwCl (m_T cA) (m_W ad cA u0) A none) ([.ref (ad 0), .int a1, .int a2] : List Value).toArray s 0 0 A) (F0 m 39 ls [])) (v1 : Int32) (v2 : Int32) (v5 : Int32) (t0 : Int32) (u : MS) (H : Heap) (locs : List Loc) (ls : Array Slot), lv_has ls 6 [(0, .ref (ad 0)), (1, .int v1), (2, .int v2), (5, .int v5)] → g_I D vwCl A s.heap H locs (m_W ad cA u) → f_M_readSum_J91 k39 v1 v2 v5 t0 u = some (r0, u0) → W p l e { frames := 4, cells := 0, slots := 0, locals := 88 } s m ([.ref (ad 0), .int a1, .int a2] : List Value).toArray below meth c H locs 0 0 (MQ below (g_Q D vwCl (m_T cA) (m_W ad cA u0) A none) ([.ref (ad 0), .int a1, .int a2] : List Value).toArray s 0 0 A) (F0 m 91 ls [.int t0]) := by
    intro k39 hk39 v1 v2 v5 t0 u H locs ls hl hI h
    dsimp only [f_M_readSum_J91] at h
    refine lv_istore (lv' := [(4, .int t0), (0, .ref (ad 0)), (1, .int v1), (2, .int v2), (5, .int v5)]) hx hb d_M_readSum_91 hl (by decide) rfl (fun ls hl => ?_)
    refine lv_iload hx hb d_M_readSum_93 (lv_at hl 4 rfl) ?_
    refine lv_bipush (v := 45) hx hb d_M_readSum_95 (by decide) ?_
    refine lv_icmp_ne (tgt := 104) hx hb d_M_readSum_97 rfl (fun hc16 => ?_) (fun hc16 => ?_)
    · rw [if_neg hc16] at h
      refine lv_iconst (v := 0) hx hb d_M_readSum_104 (by decide) ?_
      exact w105 k39 hk39 v1 v2 t0 0 u _ _ _ (lv_sub hl [1, 2, 3, 0] rfl) hI h
    · rw [if_pos hc16] at h
      refine lv_iconst (v := 1) hx hb d_M_readSum_100 (by decide) ?_
      refine lv_goto (tgt := 105) hx hb d_M_readSum_101 rfl ?_
      exact w105 k39 hk39 v1 v2 t0 1 u _ _ _ (lv_sub hl [1, 2, 3, 0] rfl) hI h
  have w63 : ∀ (k39 : Int32 → Int32 → Int32 → Int32 → MS → Option (Unit × MS)) (hk39 : ∀ (v1 : Int32) (v2 : Int32) (v3 : Int32) (v4 : Int32) (u : MS) (H : Heap) (locs : List Loc) (ls : Array Slot), lv_has ls 6 [(0, .ref (ad 0)), (1, .int v1), (2, .int v2), (3, .int v3), (4, .int v4)] → g_I D vwCl A s.heap H locs (m_W ad cA u) → k39 v1 v2 v3 v4 u = some (r0, u0) → W p l e { frames := 4, cells := 0, slots := 0, locals := 88 } s m ([.ref (ad 0), .int a1, .int a2] : List Value).toArray below meth c H locs 0 0 (MQ below (g_Q D vwCl (m_T cA) (m_W ad cA u0) A none) ([.ref (ad 0), .int a1, .int a2] : List Value).toArray s 0 0 A) (F0 m 39 ls [])) (v1 : Int32) (v2 : Int32) (t0 : Int32) (t1 : Int32) (u : MS) (H : Heap) (locs : List Loc) (ls : Array Slot), lv_has ls 6 [(0, .ref (ad 0)), (1, .int v1), (2, .int v2)] → g_I D vwCl A s.heap H locs (m_W ad cA u) → f_M_readSum_J63 k39 v1 v2 t0 t1 u = some (r0, u0) → W p l e { frames := 4, cells := 0, slots := 0, locals := 88 } s m ([.ref (ad 0), .int a1, .int a2] : List Value).toArray below meth c H locs 0 0 (MQ below (g_Q D vwCl (m_T cA) (m_W ad cA u0) A none) ([.ref (ad 0), .int a1, .int a2] : List Value).toArray s 0 0 A) (F0 m 63 ls [.int t0, .int t1, .ref (ad 0)]) := by
    intro k39 hk39 v1 v2 t0 t1 u H locs ls hl hI h
    dsimp only [f_M_readSum_J63] at h
    obtain ⟨r10, u11, hc, h⟩ := ob_e h
    refine g_callV (As := [.int t1, .int t0]) (rest := []) (w' := m_W ad cA u11) (o := none) ⟨hx, hb, hml, hown, hts⟩ (c_M_readPart l D ad cA hc) (cwV 2 hts gq_M_100 rfl rfl rfl (by decide +kernel) ⟨Nat.le_of_ble_eq_true rfl, Nat.le_of_ble_eq_true rfl⟩) hK hI hA 0 5 rfl rfl rfl hl.1 rfl (Nat.le_of_ble_eq_true rfl) d_M_readSum_63 ⟨Nat.zero_le _, Nat.zero_le _⟩ rfl (fun H locs hI => ?_)
    refine lv_aload_n hx hb d_M_readSum_66 rfl (lv_at hl 0 rfl) ?_
    obtain ⟨r12, u13, hc, h⟩ := ob_e h
    refine g_callV (As := []) (rest := []) (w' := m_W ad cA u13) (o := some (.int r12)) ⟨hx, hb, hml, hown, hts⟩ (c_M_look l D ad cA hc) (cwV 0 hts gq_M_83 rfl rfl rfl (by decide +kernel) ⟨Nat.le_of_ble_eq_true rfl, Nat.le_of_ble_eq_true rfl⟩) hK hI hA 0 5 rfl rfl rfl hl.1 rfl (Nat.le_of_ble_eq_true rfl) d_M_readSum_67 ⟨Nat.zero_le _, Nat.zero_le _⟩ rfl (fun H locs hI => ?_)
    refine lv_istore (lv' := [(5, .int r12), (0, .ref (ad 0)), (1, .int v1), (2, .int v2)]) hx hb d_M_readSum_70 hl (by decide) rfl (fun ls hl => ?_)
    refine lv_iload hx hb d_M_readSum_72 (lv_at hl 0 rfl) ?_
    refine lv_bipush (v := 43) hx hb d_M_readSum_74 (by decide) ?_
    refine lv_icmp_eq (tgt := 86) hx hb d_M_readSum_76 rfl (fun hc14 => ?_) (fun hc14 => ?_)
    · rw [if_pos hc14] at h
      refine lv_iconst (v := 1) hx hb d_M_readSum_86 (by decide) ?_
      refine lv_goto (tgt := 91) hx hb d_M_readSum_87 rfl ?_
      exact w91 k39 hk39 v1 v2 r12 1 u13 _ _ _ (lv_sub hl [1, 2, 3, 0] rfl) hI h
    · rw [if_neg hc14] at h
      refine lv_iload hx hb d_M_readSum_79 (lv_at hl 0 rfl) ?_
      refine lv_bipush (v := 45) hx hb d_M_readSum_81 (by decide) ?_
      refine lv_icmp_ne (tgt := 90) hx hb d_M_readSum_83 rfl (fun hc15 => ?_) (fun hc15 => ?_)
      · rw [if_neg hc15] at h
        refine lv_iconst (v := 0) hx hb d_M_readSum_90 (by decide) ?_
        exact w91 k39 hk39 v1 v2 r12 0 u13 _ _ _ (lv_sub hl [1, 2, 3, 0] rfl) hI h
      · rw [if_pos hc15] at h
        refine lv_iconst (v := 1) hx hb d_M_readSum_86 (by decide) ?_
        refine lv_goto (tgt := 91) hx hb d_M_readSum_87 rfl ?_
        exact w91 k39 hk39 v1 v2 r12 1 u13 _ _ _ (lv_sub hl [1, 2, 3, 0] rfl) hI h
  have w39 : ∀ (n : Nat) (v1 : Int32) (v2 : Int32) (v3 : Int32) (v4 : Int32) (u : MS) (H : Heap) (locs : List Loc) (ls : Array Slot), lv_has ls 6 [(0, .ref (ad 0)), (1, .int v1), (2, .int v2), (3, .int v3), (4, .int v4)] → g_I D vwCl A s.heap H locs (m_W ad cA u) → f_M_readSum_L39 n v1 v2 v3 v4 u = some (r0, u0) → W p l e { frames := 4, cells := 0, slots := 0, locals := 88 } s m ([.ref (ad 0), .int a1, .int a2] : List Value).toArray below meth c H locs 0 0 (MQ below (g_Q D vwCl (m_T cA) (m_W ad cA u0) A none) ([.ref (ad 0), .int a1, .int a2] : List Value).toArray s 0 0 A) (F0 m 39 ls []) := by
    intro  n
    induction n with
    | zero => intro v1 v2 v3 v4 u H locs ls hl hI h; cases h
    | succ n ih =>
      intro v1 v2 v3 v4 u H locs ls hl hI h
      dsimp only [f_M_readSum_L39] at h
      refine lv_iload hx hb d_M_readSum_39 (lv_at hl 4 rfl) ?_
      refine lv_if_eq (tgt := 131) hx hb d_M_readSum_41 rfl (fun hc7 => ?_) (fun hc7 => ?_)
      · rw [if_pos hc7] at h
        exact g_vret (Wd := m_W ad cA) hx hb hr hlk hK hI h d_M_readSum_131
      · rw [if_neg hc7] at h
        refine lv_aload_n hx hb d_M_readSum_44 rfl (lv_at hl 0 rfl) ?_
        refine g_get (v := .int (m_fa u)) hx hb hts in_M hown hK hI 0 rfl rfl 4 (by decide) (hts _ wd_396) rfl d_M_readSum_45 ?_
        refine lv_if_ge (tgt := 131) hx hb d_M_readSum_48 rfl (fun hc8 => ?_) (fun hc8 => ?_)
        · rw [if_pos hc8] at h
          exact g_vret (Wd := m_W ad cA) hx hb hr hlk hK hI h d_M_readSum_131
        · rw [if_neg hc8] at h
          refine lv_aload_n hx hb d_M_readSum_51 rfl (lv_at hl 0 rfl) ?_
          refine lv_iload_n hx hb d_M_readSum_52 rfl (lv_at hl 1 rfl) ?_
          refine lv_iload_n hx hb d_M_readSum_53 rfl (lv_at hl 3 rfl) ?_
          refine lv_if_eq (tgt := 62) hx hb d_M_readSum_54 rfl (fun hc9 => ?_) (fun hc9 => ?_)
          · rw [if_pos hc9] at h
            refine lv_iload_n hx hb d_M_readSum_62 rfl (lv_at hl 2 rfl) ?_
            exact w63 (f_M_readSum_L39 n) ih v1 v2 v2 v1 u _ _ _ (lv_sub hl [0, 1, 2] rfl) hI h
          · rw [if_neg hc9] at h
            refine lv_iload_n hx hb d_M_readSum_57 rfl (lv_at hl 2 rfl) ?_
            refine lv_ineg hx hb d_M_readSum_58 ?_
            refine lv_goto (tgt := 63) hx hb d_M_readSum_59 rfl ?_
            exact w63 (f_M_readSum_L39 n) ih v1 v2 (-v2) v1 u _ _ _ (lv_sub hl [0, 1, 2] rfl) hI h
  have w14 : ∀ (v1 : Int32) (v2 : Int32) (t0 : Int32) (u : MS) (H : Heap) (locs : List Loc) (ls : Array Slot), lv_has ls 6 [(0, .ref (ad 0)), (1, .int v1), (2, .int v2)] → g_I D vwCl A s.heap H locs (m_W ad cA u) → f_M_readSum_J14 v1 v2 t0 u = some (r0, u0) → W p l e { frames := 4, cells := 0, slots := 0, locals := 88 } s m ([.ref (ad 0), .int a1, .int a2] : List Value).toArray below meth c H locs 0 0 (MQ below (g_Q D vwCl (m_T cA) (m_W ad cA u0) A none) ([.ref (ad 0), .int a1, .int a2] : List Value).toArray s 0 0 A) (F0 m 14 ls [.int t0]) := by
    intro  v1 v2 t0 u H locs ls hl hI h
    dsimp only [f_M_readSum_J14] at h
    refine lv_istore_n (lv' := [(3, .int t0), (0, .ref (ad 0)), (1, .int v1), (2, .int v2)]) hx hb d_M_readSum_14 rfl hl (by decide) rfl (fun ls hl => ?_)
    refine lv_aload_n hx hb d_M_readSum_15 rfl (lv_at hl 1 rfl) ?_
    refine lv_iload_n hx hb d_M_readSum_16 rfl (lv_at hl 0 rfl) ?_
    refine lv_if_eq (tgt := 29) hx hb d_M_readSum_17 rfl (fun hc4 => ?_) (fun hc4 => ?_)
    · rw [if_pos hc4] at h
      refine lv_aload_n hx hb d_M_readSum_29 rfl (lv_at hl 1 rfl) ?_
      refine g_get (v := .int (m_at u)) hx hb hts in_M hown hK hI 0 rfl rfl 3 (by decide) (hts _ wd_395) rfl d_M_readSum_30 ?_
      obtain ⟨u5, e_u5, h⟩ := lt_e h
      refine g_put (t := .int) (w' := m_W ad cA u5) hx hb hts in_M ty_M tyok_M nm_M hown hK hI 0 rfl rfl 3 (by decide) (hts _ wd_395) rfl (by decide +kernel) rfl rfl (Nat.le_of_ble_eq_true rfl) d_M_readSum_33 (by subst e_u5; rfl) (fun H locs hI => ?_)
      refine lv_iconst (v := 1) hx hb d_M_readSum_36 (by decide) ?_
      refine lv_istore (lv' := [(4, .int 1), (3, .int t0), (0, .ref (ad 0)), (1, .int v1), (2, .int v2)]) hx hb d_M_readSum_37 hl (by decide) rfl (fun ls hl => ?_)
      exact w39 4096 v1 v2 t0 1 u5 _ _ _ (lv_sub hl [2, 3, 4, 1, 0] rfl) hI h
    · rw [if_neg hc4] at h
      refine lv_aload_n hx hb d_M_readSum_20 rfl (lv_at hl 1 rfl) ?_
      refine g_get (v := .int (m_at u)) hx hb hts in_M hown hK hI 0 rfl rfl 3 (by decide) (hts _ wd_395) rfl d_M_readSum_21 ?_
      refine lv_iconst (v := 1) hx hb d_M_readSum_24 (by decide) ?_
      refine lv_iadd hx hb d_M_readSum_25 ?_
      refine lv_goto (tgt := 33) hx hb d_M_readSum_26 rfl ?_
      obtain ⟨u6, e_u6, h⟩ := lt_e h
      refine g_put (t := .int) (w' := m_W ad cA u6) hx hb hts in_M ty_M tyok_M nm_M hown hK hI 0 rfl rfl 3 (by decide) (hts _ wd_395) rfl (by decide +kernel) rfl rfl (Nat.le_of_ble_eq_true rfl) d_M_readSum_33 (by subst e_u6; rfl) (fun H locs hI => ?_)
      refine lv_iconst (v := 1) hx hb d_M_readSum_36 (by decide) ?_
      refine lv_istore (lv' := [(4, .int 1), (3, .int t0), (0, .ref (ad 0)), (1, .int v1), (2, .int v2)]) hx hb d_M_readSum_37 hl (by decide) rfl (fun ls hl => ?_)
      exact w39 4096 v1 v2 t0 1 u6 _ _ _ (lv_sub hl [2, 3, 4, 1, 0] rfl) hI h
  dsimp only [f_M_readSum] at h
  refine lv_aload_n hx hb d_M_readSum_0 rfl (lv_at hl 0 rfl) ?_
  obtain ⟨r1, u2, hc, h⟩ := ob_e h
  refine g_callV (As := []) (rest := []) (w' := m_W ad cA u2) (o := some (.int r1)) ⟨hx, hb, hml, hown, hts⟩ (c_M_look l D ad cA hc) (cwV 0 hts gq_M_83 rfl rfl rfl (by decide +kernel) ⟨Nat.le_of_ble_eq_true rfl, Nat.le_of_ble_eq_true rfl⟩) hK hI hA 0 5 rfl rfl rfl hl.1 rfl (Nat.le_of_ble_eq_true rfl) d_M_readSum_1 ⟨Nat.zero_le _, Nat.zero_le _⟩ rfl (fun H locs hI => ?_)
  refine lv_bipush (v := 45) hx hb d_M_readSum_4 (by decide) ?_
  refine lv_icmp_ne (tgt := 13) hx hb d_M_readSum_6 rfl (fun hc3 => ?_) (fun hc3 => ?_)
  · rw [if_neg hc3] at h
    refine lv_iconst (v := 0) hx hb d_M_readSum_13 (by decide) ?_
    exact w14 a1 a2 0 u2 _ _ _ (lv_sub hl [0, 1, 2] rfl) hI h
  · rw [if_pos hc3] at h
    refine lv_iconst (v := 1) hx hb d_M_readSum_9 (by decide) ?_
    refine lv_goto (tgt := 14) hx hb d_M_readSum_10 rfl ?_
    exact w14 a1 a2 1 u2 _ _ _ (lv_sub hl [0, 1, 2] rfl) hI h
def f_M_isDivisor_J38 (v1 : Int32) (v2 : Int32) (u : MS) : Option (Int32 × MS) := ob (f_M_in v1 50 51 u) fun r7 u8 => if r7 = 0 then (gd (bz 0) (some (0, u8))) else (if (m_si u8) ≤ v2 then (gd (bz 0) (some (0, u8))) else (gd (inb v2 120) (if (m_ch u8 v2.toNatClampNeg) = 58 then (gd (bz 1) (some (1, u8))) else (gd (bz 0) (some (0, u8))))))
def f_M_isDivisor_L12 (n : Nat) : Int32 → Int32 → MS → Option (Int32 × MS) := match n with
  | 0 => fun _ _ _ => none
  | n + 1 => fun v1 v2 u => if (m_si u) ≤ v2 then f_M_isDivisor_J38 v1 v2 u else (gd (inb v2 120) (if (m_ch u v2.toNatClampNeg) = 32 then (lt_ (v2 + 1) fun x6 => f_M_isDivisor_L12 n v1 x6 u) else f_M_isDivisor_J38 v1 v2 u))
def f_M_isDivisor (u : MS) : Option (Int32 × MS) := ob (f_M_look u) fun r1 u2 => lt_ ((m_at u2) + 1) fun x3 => f_M_isDivisor_L12 4096 r1 x3 u2
set_option maxRecDepth 100000 in
set_option maxHeartbeats 4000000 in
theorem c_M_isDivisor (l : Launch) (D : va_G) (ad : Nat → Nat) (cA : Nat → ClassId) {u u0 : MS} {r0 : Int32} (h : f_M_isDivisor u = some (r0, u0)) : g_M l y_M_isDivisor w_M_isDivisor { frames := 1, cells := 0, slots := 0, locals := 22 } D vwCl (m_T cA) (m_W ad cA u) [.ref (ad 0)] (some (.int r0)) (m_W ad cA u0) := by
  refine g_ofW (cc := c0_M_isDivisor) (maxL := 3) (ret := (some .boolean)) (by decide) rfl (Nat.le_of_ble_eq_true rfl) ?_
  intro p e s m below meth c A ls hx hb hr hml hown hts hlk hK hA hI hl
  have hts : ∀ w ∈ gW, w.before ([.ref (ad 0)] : List Value).toArray s = true := fun w h => hts w (List.mem_cons_of_mem _ h)
  have hown : s.vm.findClass R_M = some m.cls := hown
  have hl : lv_has ls 3 [(0, .ref (ad 0))] := hl
  have w38 : ∀ (v1 : Int32) (v2 : Int32) (u : MS) (H : Heap) (locs : List Loc) (ls : Array Slot), lv_has ls 3 [(0, .ref (ad 0)), (1, .int v1), (2, .int v2)] → g_I D vwCl A s.heap H locs (m_W ad cA u) → f_M_isDivisor_J38 v1 v2 u = some (r0, u0) → W p l e { frames := 1, cells := 0, slots := 0, locals := 22 } s m ([.ref (ad 0)] : List Value).toArray below meth c H locs 0 0 (MQ below (g_Q D vwCl (m_T cA) (m_W ad cA u0) A (some (.int r0))) ([.ref (ad 0)] : List Value).toArray s 0 0 A) (F0 m 38 ls []) := by
    intro  v1 v2 u H locs ls hl hI h
    dsimp only [f_M_isDivisor_J38] at h
    refine lv_iload_n hx hb d_M_isDivisor_38 rfl (lv_at hl 1 rfl) ?_
    refine lv_bipush (v := 50) hx hb d_M_isDivisor_39 (by decide) ?_
    refine lv_bipush (v := 51) hx hb d_M_isDivisor_41 (by decide) ?_
    obtain ⟨r7, u8, hc, h⟩ := ob_e h
    refine g_callS (As := [.int v1, .int 50, .int 51]) (rest := []) (w' := m_W ad cA u8) (o := some (.int r7)) ⟨hx, hb, hml, hown, hts⟩ (c_M_in l D ad cA hc) (va_cwS 3 hts gq_M_70 rfl rfl rfl (by decide +kernel) ⟨Nat.le_of_ble_eq_true rfl, Nat.le_of_ble_eq_true rfl⟩) hK hI hA rfl hl.1 rfl (Nat.le_of_ble_eq_true rfl) d_M_isDivisor_43 ⟨Nat.zero_le _, Nat.zero_le _⟩ rfl (fun H locs hI => ?_)
    refine lv_if_eq (tgt := 72) hx hb d_M_isDivisor_46 rfl (fun hc9 => ?_) (fun hc9 => ?_)
    · rw [if_pos hc9] at h
      refine lv_iconst (v := 0) hx hb d_M_isDivisor_72 (by decide) ?_
      exact g_zret (Wd := m_W ad cA) hx hb hr hlk hK hI h d_M_isDivisor_73
    · rw [if_neg hc9] at h
      refine lv_iload_n hx hb d_M_isDivisor_49 rfl (lv_at hl 2 rfl) ?_
      refine lv_aload_n hx hb d_M_isDivisor_50 rfl (lv_at hl 0 rfl) ?_
      refine g_get (v := .int (m_si u8)) hx hb hts in_M hown hK hI 0 rfl rfl 2 (by decide) (hts _ wd_394) rfl d_M_isDivisor_51 ?_
      refine lv_icmp_ge (tgt := 72) hx hb d_M_isDivisor_54 rfl (fun hc10 => ?_) (fun hc10 => ?_)
      · rw [if_pos hc10] at h
        refine lv_iconst (v := 0) hx hb d_M_isDivisor_72 (by decide) ?_
        exact g_zret (Wd := m_W ad cA) hx hb hr hlk hK hI h d_M_isDivisor_73
      · rw [if_neg hc10] at h
        refine lv_aload_n hx hb d_M_isDivisor_57 rfl (lv_at hl 0 rfl) ?_
        refine g_get (v := .ref (ad 1)) hx hb hts in_M hown hK hI 0 rfl rfl 0 (by decide) (hts _ wd_392) rfl d_M_isDivisor_58 ?_
        refine lv_iload_n hx hb d_M_isDivisor_61 rfl (lv_at hl 2 rfl) ?_
        obtain ⟨hg, h⟩ := gd_e h
        refine g_iald hx hb hK hI 1 0 rfl rfl hg d_M_isDivisor_62 ?_
        refine lv_bipush (v := 58) hx hb d_M_isDivisor_63 (by decide) ?_
        refine lv_icmp_ne (tgt := 72) hx hb d_M_isDivisor_65 rfl (fun hc11 => ?_) (fun hc11 => ?_)
        · rw [if_neg hc11] at h
          refine lv_iconst (v := 0) hx hb d_M_isDivisor_72 (by decide) ?_
          exact g_zret (Wd := m_W ad cA) hx hb hr hlk hK hI h d_M_isDivisor_73
        · rw [if_pos hc11] at h
          refine lv_iconst (v := 1) hx hb d_M_isDivisor_68 (by decide) ?_
          refine lv_goto (tgt := 73) hx hb d_M_isDivisor_69 rfl ?_
          exact g_zret (Wd := m_W ad cA) hx hb hr hlk hK hI h d_M_isDivisor_73
  have w12 : ∀ (n : Nat) (v1 : Int32) (v2 : Int32) (u : MS) (H : Heap) (locs : List Loc) (ls : Array Slot), lv_has ls 3 [(0, .ref (ad 0)), (1, .int v1), (2, .int v2)] → g_I D vwCl A s.heap H locs (m_W ad cA u) → f_M_isDivisor_L12 n v1 v2 u = some (r0, u0) → W p l e { frames := 1, cells := 0, slots := 0, locals := 22 } s m ([.ref (ad 0)] : List Value).toArray below meth c H locs 0 0 (MQ below (g_Q D vwCl (m_T cA) (m_W ad cA u0) A (some (.int r0))) ([.ref (ad 0)] : List Value).toArray s 0 0 A) (F0 m 12 ls []) := by
    intro  n
    induction n with
    | zero => intro v1 v2 u H locs ls hl hI h; cases h
    | succ n ih =>
      intro v1 v2 u H locs ls hl hI h
      dsimp only [f_M_isDivisor_L12] at h
      refine lv_iload_n hx hb d_M_isDivisor_12 rfl (lv_at hl 2 rfl) ?_
      refine lv_aload_n hx hb d_M_isDivisor_13 rfl (lv_at hl 0 rfl) ?_
      refine g_get (v := .int (m_si u)) hx hb hts in_M hown hK hI 0 rfl rfl 2 (by decide) (hts _ wd_394) rfl d_M_isDivisor_14 ?_
      refine lv_icmp_ge (tgt := 38) hx hb d_M_isDivisor_17 rfl (fun hc4 => ?_) (fun hc4 => ?_)
      · rw [if_pos hc4] at h
        exact w38 v1 v2 u _ _ _ (lv_sub hl [0, 1, 2] rfl) hI h
      · rw [if_neg hc4] at h
        refine lv_aload_n hx hb d_M_isDivisor_20 rfl (lv_at hl 0 rfl) ?_
        refine g_get (v := .ref (ad 1)) hx hb hts in_M hown hK hI 0 rfl rfl 0 (by decide) (hts _ wd_392) rfl d_M_isDivisor_21 ?_
        refine lv_iload_n hx hb d_M_isDivisor_24 rfl (lv_at hl 2 rfl) ?_
        obtain ⟨hg, h⟩ := gd_e h
        refine g_iald hx hb hK hI 1 0 rfl rfl hg d_M_isDivisor_25 ?_
        refine lv_bipush (v := 32) hx hb d_M_isDivisor_26 (by decide) ?_
        refine lv_icmp_ne (tgt := 38) hx hb d_M_isDivisor_28 rfl (fun hc5 => ?_) (fun hc5 => ?_)
        · rw [if_neg hc5] at h
          exact w38 v1 v2 u _ _ _ (lv_sub hl [0, 1, 2] rfl) hI h
        · rw [if_pos hc5] at h
          refine lv_iload_n hx hb d_M_isDivisor_31 rfl (lv_at hl 2 rfl) ?_
          refine lv_iconst (v := 1) hx hb d_M_isDivisor_32 (by decide) ?_
          refine lv_iadd hx hb d_M_isDivisor_33 ?_
          obtain ⟨x6, e_x6, h⟩ := lt_e h
          refine lv_istore_n (lv' := [(2, .int x6), (0, .ref (ad 0)), (1, .int v1)]) hx hb d_M_isDivisor_34 rfl hl (by decide) (by subst e_x6; rfl) (fun ls hl => ?_)
          refine lv_goto (tgt := 12) hx hb d_M_isDivisor_35 rfl ?_
          exact ih v1 x6 u _ _ _ (lv_sub hl [1, 2, 0] rfl) hI h
  dsimp only [f_M_isDivisor] at h
  refine lv_aload_n hx hb d_M_isDivisor_0 rfl (lv_at hl 0 rfl) ?_
  obtain ⟨r1, u2, hc, h⟩ := ob_e h
  refine g_callV (As := []) (rest := []) (w' := m_W ad cA u2) (o := some (.int r1)) ⟨hx, hb, hml, hown, hts⟩ (c_M_look l D ad cA hc) (cwV 0 hts gq_M_83 rfl rfl rfl (by decide +kernel) ⟨Nat.le_of_ble_eq_true rfl, Nat.le_of_ble_eq_true rfl⟩) hK hI hA 0 5 rfl rfl rfl hl.1 rfl (Nat.le_of_ble_eq_true rfl) d_M_isDivisor_1 ⟨Nat.zero_le _, Nat.zero_le _⟩ rfl (fun H locs hI => ?_)
  refine lv_istore_n (lv' := [(1, .int r1), (0, .ref (ad 0))]) hx hb d_M_isDivisor_4 rfl hl (by decide) rfl (fun ls hl => ?_)
  refine lv_aload_n hx hb d_M_isDivisor_5 rfl (lv_at hl 1 rfl) ?_
  refine g_get (v := .int (m_at u2)) hx hb hts in_M hown hK hI 0 rfl rfl 3 (by decide) (hts _ wd_395) rfl d_M_isDivisor_6 ?_
  refine lv_iconst (v := 1) hx hb d_M_isDivisor_9 (by decide) ?_
  refine lv_iadd hx hb d_M_isDivisor_10 ?_
  obtain ⟨x3, e_x3, h⟩ := lt_e h
  refine lv_istore_n (lv' := [(2, .int x3), (1, .int r1), (0, .ref (ad 0))]) hx hb d_M_isDivisor_11 rfl hl (by decide) (by subst e_x3; rfl) (fun ls hl => ?_)
  exact w12 4096 r1 x3 u2 _ _ _ (lv_sub hl [2, 1, 0] rfl) hI h
def f_M_readBracket_J273 (u : MS) : Option (Unit × MS) := lt_ (m_p_at ((m_at u) + 1) u) fun u47 => some ((), u47)
def f_M_readBracket_L225 (n : Nat) : Int32 → Int32 → Int32 → MS → Option (Unit × MS) := match n with
  | 0 => fun _ _ _ _ => none
  | n + 1 => fun v1 v2 v3 u => if 3 ≤ v3 then (if v2 = 0 then (ob (f_M_fail u) fun r38 u39 => f_M_readBracket_J273 u39) else f_M_readBracket_J273 u) else (if v2 = 0 then (lt_ (v3 + 1) fun x41 => f_M_readBracket_L225 n v1 0 x41 u) else (gd (inb ((4 * v1) + v3) 80) (ob (f_M_in (m_ns u ((4 * v1) + v3).toNatClampNeg) ((-2)) 2 u) fun r42 u43 => if r42 = 0 then (lt_ (v3 + 1) fun x45 => f_M_readBracket_L225 n v1 0 x45 u43) else (lt_ (v3 + 1) fun x46 => f_M_readBracket_L225 n v1 1 x46 u43))))
def f_M_readBracket_J188 (v1 : Int32) (u : MS) : Option (Unit × MS) := ob (f_M_look u) fun r30 u31 => if r30 = 93 then (gd (inb ((4 * v1) + 3) 80) (ob (f_M_in (m_ns u31 ((4 * v1) + 3).toNatClampNeg) ((-15)) 15 u31) fun r33 u34 => if r33 = 0 then f_M_readBracket_L225 4096 v1 0 0 u34 else f_M_readBracket_L225 4096 v1 1 0 u34)) else f_M_readBracket_L225 4096 v1 0 0 u31
def f_M_readBracket_J164 (v1 : Int32) (t0 : Int32) (t1 : Int32) (u : MS) : Option (Unit × MS) := gd (inb t1 20) (lt_ (m_p_nk (upd (m_nk u) t1.toNatClampNeg t0) u) fun u49 => lt_ (m_p_at ((m_at u49) + 1) u49) fun u50 => if 0 ≤ (m_fa u50) then f_M_readBracket_J188 v1 u50 else (ob (f_M_readSum v1 ((-1)) u50) fun r52 u53 => f_M_readBracket_J188 v1 u53))
def f_M_readBracket_J146 (v1 : Int32) (v2 : Int32) (u : MS) : Option (Unit × MS) := if v2 = 60 then f_M_readBracket_J164 v1 6 v1 u else f_M_readBracket_J164 v1 7 v1 u
def f_M_readBracket_L35 (n : Nat) : Int32 → Int32 → MS → Option (Unit × MS) := match n with
  | 0 => fun _ _ _ => none
  | n + 1 => fun v1 v2 u => if 4 ≤ v2 then (ob (f_M_isDivisor u) fun r7 u8 => if r7 = 0 then (ob (f_M_readSum v1 1 u8) fun r10 u11 => ob (f_M_look u11) fun r12 u13 => if r12 = 60 then f_M_readBracket_J146 v1 r12 u13 else (if r12 = 61 then f_M_readBracket_J146 v1 r12 u13 else (ob (f_M_fail u13) fun r16 u17 => f_M_readBracket_J146 v1 r12 u17))) else (gd (inb v1 20) (lt_ (m_p_nk (upd (m_nk u8) v1.toNatClampNeg 8) u8) fun u18 => ob (f_M_look u18) fun r19 u20 => gd (inb v1 20) (lt_ (m_p_na (upd (m_na u20) v1.toNatClampNeg (r19 - 48)) u20) fun u21 => lt_ (m_p_at ((m_at u21) + 1) u21) fun u22 => ob (f_M_look u22) fun r23 u24 => lt_ (m_p_at ((m_at u24) + 1) u24) fun u25 => ob (f_M_readSum v1 1 u25) fun r26 u27 => f_M_readBracket_J188 v1 u27)))) else (gd (inb ((4 * v1) + v2) 80) (lt_ (m_p_ns (upd (m_ns u) ((4 * v1) + v2).toNatClampNeg 0) u) fun u28 => lt_ (v2 + 1) fun x29 => f_M_readBracket_L35 n v1 x29 u28))
def f_M_readBracket_J13 (v1 : Int32) (u : MS) : Option (Unit × MS) := lt_ (m_p_rb ((m_rb u) + 1) u) fun u4 => lt_ (m_p_at ((m_at u4) + 1) u4) fun u5 => f_M_readBracket_L35 4096 v1 0 u5
def f_M_readBracket (a1 : Int32) (u : MS) : Option (Unit × MS) := if (m_rb u) = 8 then (ob (f_M_fail u) fun r2 u3 => f_M_readBracket_J13 a1 u3) else f_M_readBracket_J13 a1 u
set_option maxRecDepth 100000 in
set_option maxHeartbeats 4000000 in
theorem c_M_readBracket (l : Launch) (D : va_G) (ad : Nat → Nat) (cA : Nat → ClassId) {a1 : Int32} {u u0 : MS} {r0 : Unit} (h : f_M_readBracket a1 u = some (r0, u0)) : g_M l y_M_readBracket w_M_readBracket { frames := 5, cells := 0, slots := 0, locals := 113 } D vwCl (m_T cA) (m_W ad cA u) [.ref (ad 0), .int a1] none (m_W ad cA u0) := by
  refine g_ofW (cc := c0_M_readBracket) (maxL := 4) (ret := none) (by decide) rfl (Nat.le_of_ble_eq_true rfl) ?_
  intro p e s m below meth c A ls hx hb hr hml hown hts hlk hK hA hI hl
  have hts : ∀ w ∈ gW, w.before ([.ref (ad 0), .int a1] : List Value).toArray s = true := fun w h => hts w (List.mem_cons_of_mem _ h)
  have hown : s.vm.findClass R_M = some m.cls := hown
  have hl : lv_has ls 4 [(0, .ref (ad 0)), (1, .int a1)] := hl
  have w273 : ∀ (u : MS) (H : Heap) (locs : List Loc) (ls : Array Slot), lv_has ls 4 [(0, .ref (ad 0))] → g_I D vwCl A s.heap H locs (m_W ad cA u) → f_M_readBracket_J273 u = some (r0, u0) → W p l e { frames := 5, cells := 0, slots := 0, locals := 113 } s m ([.ref (ad 0), .int a1] : List Value).toArray below meth c H locs 0 0 (MQ below (g_Q D vwCl (m_T cA) (m_W ad cA u0) A none) ([.ref (ad 0), .int a1] : List Value).toArray s 0 0 A) (F0 m 273 ls []) := by
    intro  u H locs ls hl hI h
    dsimp only [f_M_readBracket_J273] at h
    refine lv_aload_n hx hb d_M_readBracket_273 rfl (lv_at hl 0 rfl) ?_
    refine lv_aload_n hx hb d_M_readBracket_274 rfl (lv_at hl 0 rfl) ?_
    refine g_get (v := .int (m_at u)) hx hb hts in_M hown hK hI 0 rfl rfl 3 (by decide) (hts _ wd_395) rfl d_M_readBracket_275 ?_
    refine lv_iconst (v := 1) hx hb d_M_readBracket_278 (by decide) ?_
    refine lv_iadd hx hb d_M_readBracket_279 ?_
    obtain ⟨u47, e_u47, h⟩ := lt_e h
    refine g_put (t := .int) (w' := m_W ad cA u47) hx hb hts in_M ty_M tyok_M nm_M hown hK hI 0 rfl rfl 3 (by decide) (hts _ wd_395) rfl (by decide +kernel) rfl rfl (Nat.le_of_ble_eq_true rfl) d_M_readBracket_280 (by subst e_u47; rfl) (fun H locs hI => ?_)
    exact g_vret (Wd := m_W ad cA) hx hb hr hlk hK hI h d_M_readBracket_283
  have w225 : ∀ (n : Nat) (v1 : Int32) (v2 : Int32) (v3 : Int32) (u : MS) (H : Heap) (locs : List Loc) (ls : Array Slot), lv_has ls 4 [(0, .ref (ad 0)), (1, .int v1), (2, .int v2), (3, .int v3)] → g_I D vwCl A s.heap H locs (m_W ad cA u) → f_M_readBracket_L225 n v1 v2 v3 u = some (r0, u0) → W p l e { frames := 5, cells := 0, slots := 0, locals := 113 } s m ([.ref (ad 0), .int a1] : List Value).toArray below meth c H locs 0 0 (MQ below (g_Q D vwCl (m_T cA) (m_W ad cA u0) A none) ([.ref (ad 0), .int a1] : List Value).toArray s 0 0 A) (F0 m 225 ls []) := by
    intro  n
    induction n with
    | zero => intro v1 v2 v3 u H locs ls hl hI h; cases h
    | succ n ih =>
      intro v1 v2 v3 u H locs ls hl hI h
      dsimp only [f_M_readBracket_L225] at h
      refine lv_iload_n hx hb d_M_readBracket_225 rfl (lv_at hl 3 rfl) ?_
      refine lv_iconst (v := 3) hx hb d_M_readBracket_226 (by decide) ?_
      refine lv_icmp_ge (tgt := 265) hx hb d_M_readBracket_227 rfl (fun hc36 => ?_) (fun hc36 => ?_)
      · rw [if_pos hc36] at h
        refine lv_iload_n hx hb d_M_readBracket_265 rfl (lv_at hl 2 rfl) ?_
        refine lv_if_ne (tgt := 273) hx hb d_M_readBracket_266 rfl (fun hc37 => ?_) (fun hc37 => ?_)
        · rw [if_neg hc37] at h
          exact w273 u _ _ _ (lv_sub hl [0] rfl) hI h
        · rw [if_pos hc37] at h
          refine lv_aload_n hx hb d_M_readBracket_269 rfl (lv_at hl 0 rfl) ?_
          obtain ⟨r38, u39, hc, h⟩ := ob_e h
          refine g_callV (As := []) (rest := []) (w' := m_W ad cA u39) (o := none) ⟨hx, hb, hml, hown, hts⟩ (c_M_fail l D ad cA hc) (cwV 0 hts gq_M_90 rfl rfl rfl (by decide +kernel) ⟨Nat.le_of_ble_eq_true rfl, Nat.le_of_ble_eq_true rfl⟩) hK hI hA 0 5 rfl rfl rfl hl.1 rfl (Nat.le_of_ble_eq_true rfl) d_M_readBracket_270 ⟨Nat.zero_le _, Nat.zero_le _⟩ rfl (fun H locs hI => ?_)
          exact w273 u39 _ _ _ (lv_sub hl [0] rfl) hI h
      · rw [if_neg hc36] at h
        refine lv_iload_n hx hb d_M_readBracket_230 rfl (lv_at hl 2 rfl) ?_
        refine lv_if_eq (tgt := 257) hx hb d_M_readBracket_231 rfl (fun hc40 => ?_) (fun hc40 => ?_)
        · rw [if_pos hc40] at h
          refine lv_iconst (v := 0) hx hb d_M_readBracket_257 (by decide) ?_
          refine lv_istore_n (lv' := [(2, .int 0), (0, .ref (ad 0)), (1, .int v1), (3, .int v3)]) hx hb d_M_readBracket_258 rfl hl (by decide) rfl (fun ls hl => ?_)
          obtain ⟨x41, e_x41, h⟩ := lt_e h
          refine lv_iinc (v := x41) (k := 3) hx hb d_M_readBracket_259 hl rfl (by subst e_x41; rfl) (by decide) rfl (fun ls hl => ?_)
          refine lv_goto (tgt := 225) hx hb d_M_readBracket_262 rfl ?_
          exact ih v1 0 x41 u _ _ _ (lv_sub hl [2, 3, 1, 0] rfl) hI h
        · rw [if_neg hc40] at h
          refine lv_aload_n hx hb d_M_readBracket_234 rfl (lv_at hl 0 rfl) ?_
          refine g_get (v := .ref (ad 9)) hx hb hts in_M hown hK hI 0 rfl rfl 20 (by decide) (hts _ wd_412) rfl d_M_readBracket_235 ?_
          refine lv_iconst (v := 4) hx hb d_M_readBracket_238 (by decide) ?_
          refine lv_iload_n hx hb d_M_readBracket_239 rfl (lv_at hl 1 rfl) ?_
          refine lv_imul hx hb d_M_readBracket_240 ?_
          refine lv_iload_n hx hb d_M_readBracket_241 rfl (lv_at hl 3 rfl) ?_
          refine lv_iadd hx hb d_M_readBracket_242 ?_
          obtain ⟨hg, h⟩ := gd_e h
          refine g_iald hx hb hK hI 9 8 rfl rfl hg d_M_readBracket_243 ?_
          refine lv_bipush (v := (-2)) hx hb d_M_readBracket_244 (by decide) ?_
          refine lv_iconst (v := 2) hx hb d_M_readBracket_246 (by decide) ?_
          obtain ⟨r42, u43, hc, h⟩ := ob_e h
          refine g_callS (As := [.int (m_ns u ((4 * v1) + v3).toNatClampNeg), .int ((-2)), .int 2]) (rest := []) (w' := m_W ad cA u43) (o := some (.int r42)) ⟨hx, hb, hml, hown, hts⟩ (c_M_in l D ad cA hc) (va_cwS 3 hts gq_M_70 rfl rfl rfl (by decide +kernel) ⟨Nat.le_of_ble_eq_true rfl, Nat.le_of_ble_eq_true rfl⟩) hK hI hA rfl hl.1 rfl (Nat.le_of_ble_eq_true rfl) d_M_readBracket_247 ⟨Nat.zero_le _, Nat.zero_le _⟩ rfl (fun H locs hI => ?_)
          refine lv_if_eq (tgt := 257) hx hb d_M_readBracket_250 rfl (fun hc44 => ?_) (fun hc44 => ?_)
          · rw [if_pos hc44] at h
            refine lv_iconst (v := 0) hx hb d_M_readBracket_257 (by decide) ?_
            refine lv_istore_n (lv' := [(2, .int 0), (0, .ref (ad 0)), (1, .int v1), (3, .int v3)]) hx hb d_M_readBracket_258 rfl hl (by decide) rfl (fun ls hl => ?_)
            obtain ⟨x45, e_x45, h⟩ := lt_e h
            refine lv_iinc (v := x45) (k := 3) hx hb d_M_readBracket_259 hl rfl (by subst e_x45; rfl) (by decide) rfl (fun ls hl => ?_)
            refine lv_goto (tgt := 225) hx hb d_M_readBracket_262 rfl ?_
            exact ih v1 0 x45 u43 _ _ _ (lv_sub hl [2, 3, 1, 0] rfl) hI h
          · rw [if_neg hc44] at h
            refine lv_iconst (v := 1) hx hb d_M_readBracket_253 (by decide) ?_
            refine lv_goto (tgt := 258) hx hb d_M_readBracket_254 rfl ?_
            refine lv_istore_n (lv' := [(2, .int 1), (0, .ref (ad 0)), (1, .int v1), (3, .int v3)]) hx hb d_M_readBracket_258 rfl hl (by decide) rfl (fun ls hl => ?_)
            obtain ⟨x46, e_x46, h⟩ := lt_e h
            refine lv_iinc (v := x46) (k := 3) hx hb d_M_readBracket_259 hl rfl (by subst e_x46; rfl) (by decide) rfl (fun ls hl => ?_)
            refine lv_goto (tgt := 225) hx hb d_M_readBracket_262 rfl ?_
            exact ih v1 1 x46 u43 _ _ _ (lv_sub hl [2, 3, 1, 0] rfl) hI h
  have w188 : ∀ (v1 : Int32) (u : MS) (H : Heap) (locs : List Loc) (ls : Array Slot), lv_has ls 4 [(0, .ref (ad 0)), (1, .int v1)] → g_I D vwCl A s.heap H locs (m_W ad cA u) → f_M_readBracket_J188 v1 u = some (r0, u0) → W p l e { frames := 5, cells := 0, slots := 0, locals := 113 } s m ([.ref (ad 0), .int a1] : List Value).toArray below meth c H locs 0 0 (MQ below (g_Q D vwCl (m_T cA) (m_W ad cA u0) A none) ([.ref (ad 0), .int a1] : List Value).toArray s 0 0 A) (F0 m 188 ls []) := by
    intro  v1 u H locs ls hl hI h
    dsimp only [f_M_readBracket_J188] at h
    refine lv_aload_n hx hb d_M_readBracket_188 rfl (lv_at hl 0 rfl) ?_
    obtain ⟨r30, u31, hc, h⟩ := ob_e h
    refine g_callV (As := []) (rest := []) (w' := m_W ad cA u31) (o := some (.int r30)) ⟨hx, hb, hml, hown, hts⟩ (c_M_look l D ad cA hc) (cwV 0 hts gq_M_83 rfl rfl rfl (by decide +kernel) ⟨Nat.le_of_ble_eq_true rfl, Nat.le_of_ble_eq_true rfl⟩) hK hI hA 0 5 rfl rfl rfl hl.1 rfl (Nat.le_of_ble_eq_true rfl) d_M_readBracket_189 ⟨Nat.zero_le _, Nat.zero_le _⟩ rfl (fun H locs hI => ?_)
    refine lv_bipush (v := 93) hx hb d_M_readBracket_192 (by decide) ?_
    refine lv_icmp_ne (tgt := 221) hx hb d_M_readBracket_194 rfl (fun hc32 => ?_) (fun hc32 => ?_)
    · rw [if_neg hc32] at h
      refine lv_iconst (v := 0) hx hb d_M_readBracket_221 (by decide) ?_
      refine lv_istore_n (lv' := [(2, .int 0), (0, .ref (ad 0)), (1, .int v1)]) hx hb d_M_readBracket_222 rfl hl (by decide) rfl (fun ls hl => ?_)
      refine lv_iconst (v := 0) hx hb d_M_readBracket_223 (by decide) ?_
      refine lv_istore_n (lv' := [(3, .int 0), (2, .int 0), (0, .ref (ad 0)), (1, .int v1)]) hx hb d_M_readBracket_224 rfl hl (by decide) rfl (fun ls hl => ?_)
      exact w225 4096 v1 0 0 u31 _ _ _ (lv_sub hl [2, 3, 1, 0] rfl) hI h
    · rw [if_pos hc32] at h
      refine lv_aload_n hx hb d_M_readBracket_197 rfl (lv_at hl 0 rfl) ?_
      refine g_get (v := .ref (ad 9)) hx hb hts in_M hown hK hI 0 rfl rfl 20 (by decide) (hts _ wd_412) rfl d_M_readBracket_198 ?_
      refine lv_iconst (v := 4) hx hb d_M_readBracket_201 (by decide) ?_
      refine lv_iload_n hx hb d_M_readBracket_202 rfl (lv_at hl 1 rfl) ?_
      refine lv_imul hx hb d_M_readBracket_203 ?_
      refine lv_iconst (v := 3) hx hb d_M_readBracket_204 (by decide) ?_
      refine lv_iadd hx hb d_M_readBracket_205 ?_
      obtain ⟨hg, h⟩ := gd_e h
      refine g_iald hx hb hK hI 9 8 rfl rfl hg d_M_readBracket_206 ?_
      refine lv_bipush (v := (-15)) hx hb d_M_readBracket_207 (by decide) ?_
      refine lv_bipush (v := 15) hx hb d_M_readBracket_209 (by decide) ?_
      obtain ⟨r33, u34, hc, h⟩ := ob_e h
      refine g_callS (As := [.int (m_ns u31 ((4 * v1) + 3).toNatClampNeg), .int ((-15)), .int 15]) (rest := []) (w' := m_W ad cA u34) (o := some (.int r33)) ⟨hx, hb, hml, hown, hts⟩ (c_M_in l D ad cA hc) (va_cwS 3 hts gq_M_70 rfl rfl rfl (by decide +kernel) ⟨Nat.le_of_ble_eq_true rfl, Nat.le_of_ble_eq_true rfl⟩) hK hI hA rfl hl.1 rfl (Nat.le_of_ble_eq_true rfl) d_M_readBracket_211 ⟨Nat.zero_le _, Nat.zero_le _⟩ rfl (fun H locs hI => ?_)
      refine lv_if_eq (tgt := 221) hx hb d_M_readBracket_214 rfl (fun hc35 => ?_) (fun hc35 => ?_)
      · rw [if_pos hc35] at h
        refine lv_iconst (v := 0) hx hb d_M_readBracket_221 (by decide) ?_
        refine lv_istore_n (lv' := [(2, .int 0), (0, .ref (ad 0)), (1, .int v1)]) hx hb d_M_readBracket_222 rfl hl (by decide) rfl (fun ls hl => ?_)
        refine lv_iconst (v := 0) hx hb d_M_readBracket_223 (by decide) ?_
        refine lv_istore_n (lv' := [(3, .int 0), (2, .int 0), (0, .ref (ad 0)), (1, .int v1)]) hx hb d_M_readBracket_224 rfl hl (by decide) rfl (fun ls hl => ?_)
        exact w225 4096 v1 0 0 u34 _ _ _ (lv_sub hl [2, 3, 1, 0] rfl) hI h
      · rw [if_neg hc35] at h
        refine lv_iconst (v := 1) hx hb d_M_readBracket_217 (by decide) ?_
        refine lv_goto (tgt := 222) hx hb d_M_readBracket_218 rfl ?_
        refine lv_istore_n (lv' := [(2, .int 1), (0, .ref (ad 0)), (1, .int v1)]) hx hb d_M_readBracket_222 rfl hl (by decide) rfl (fun ls hl => ?_)
        refine lv_iconst (v := 0) hx hb d_M_readBracket_223 (by decide) ?_
        refine lv_istore_n (lv' := [(3, .int 0), (2, .int 1), (0, .ref (ad 0)), (1, .int v1)]) hx hb d_M_readBracket_224 rfl hl (by decide) rfl (fun ls hl => ?_)
        exact w225 4096 v1 1 0 u34 _ _ _ (lv_sub hl [2, 3, 1, 0] rfl) hI h
  have w164 : ∀ (v1 : Int32) (t0 : Int32) (t1 : Int32) (u : MS) (H : Heap) (locs : List Loc) (ls : Array Slot), lv_has ls 4 [(0, .ref (ad 0)), (1, .int v1)] → g_I D vwCl A s.heap H locs (m_W ad cA u) → f_M_readBracket_J164 v1 t0 t1 u = some (r0, u0) → W p l e { frames := 5, cells := 0, slots := 0, locals := 113 } s m ([.ref (ad 0), .int a1] : List Value).toArray below meth c H locs 0 0 (MQ below (g_Q D vwCl (m_T cA) (m_W ad cA u0) A none) ([.ref (ad 0), .int a1] : List Value).toArray s 0 0 A) (F0 m 164 ls [.int t0, .int t1, .ref (ad 6)]) := by
    intro  v1 t0 t1 u H locs ls hl hI h
    dsimp only [f_M_readBracket_J164] at h
    obtain ⟨hg, h⟩ := gd_e h
    obtain ⟨u49, e_u49, h⟩ := lt_e h
    refine g_iast (w' := m_W ad cA u49) hx hb hK hI 6 5 rfl rfl hg d_M_readBracket_164 (by subst e_u49; rfl) (fun H locs hI => ?_)
    refine lv_aload_n hx hb d_M_readBracket_165 rfl (lv_at hl 0 rfl) ?_
    refine lv_aload_n hx hb d_M_readBracket_166 rfl (lv_at hl 0 rfl) ?_
    refine g_get (v := .int (m_at u49)) hx hb hts in_M hown hK hI 0 rfl rfl 3 (by decide) (hts _ wd_395) rfl d_M_readBracket_167 ?_
    refine lv_iconst (v := 1) hx hb d_M_readBracket_170 (by decide) ?_
    refine lv_iadd hx hb d_M_readBracket_171 ?_
    obtain ⟨u50, e_u50, h⟩ := lt_e h
    refine g_put (t := .int) (w' := m_W ad cA u50) hx hb hts in_M ty_M tyok_M nm_M hown hK hI 0 rfl rfl 3 (by decide) (hts _ wd_395) rfl (by decide +kernel) rfl rfl (Nat.le_of_ble_eq_true rfl) d_M_readBracket_172 (by subst e_u50; rfl) (fun H locs hI => ?_)
    refine lv_aload_n hx hb d_M_readBracket_175 rfl (lv_at hl 0 rfl) ?_
    refine g_get (v := .int (m_fa u50)) hx hb hts in_M hown hK hI 0 rfl rfl 4 (by decide) (hts _ wd_396) rfl d_M_readBracket_176 ?_
    refine lv_if_ge (tgt := 188) hx hb d_M_readBracket_179 rfl (fun hc51 => ?_) (fun hc51 => ?_)
    · rw [if_pos hc51] at h
      exact w188 v1 u50 _ _ _ (lv_sub hl [0, 1] rfl) hI h
    · rw [if_neg hc51] at h
      refine lv_aload_n hx hb d_M_readBracket_182 rfl (lv_at hl 0 rfl) ?_
      refine lv_iload_n hx hb d_M_readBracket_183 rfl (lv_at hl 1 rfl) ?_
      refine lv_iconst (v := (-1)) hx hb d_M_readBracket_184 (by decide) ?_
      obtain ⟨r52, u53, hc, h⟩ := ob_e h
      refine g_callV (As := [.int v1, .int ((-1))]) (rest := []) (w' := m_W ad cA u53) (o := none) ⟨hx, hb, hml, hown, hts⟩ (c_M_readSum l D ad cA hc) (cwV 2 hts gq_M_110 rfl rfl rfl (by decide +kernel) ⟨Nat.le_of_ble_eq_true rfl, Nat.le_of_ble_eq_true rfl⟩) hK hI hA 0 5 rfl rfl rfl hl.1 rfl (Nat.le_of_ble_eq_true rfl) d_M_readBracket_185 ⟨Nat.zero_le _, Nat.zero_le _⟩ rfl (fun H locs hI => ?_)
      exact w188 v1 u53 _ _ _ (lv_sub hl [0, 1] rfl) hI h
  have w146 : ∀ (v1 : Int32) (v2 : Int32) (u : MS) (H : Heap) (locs : List Loc) (ls : Array Slot), lv_has ls 4 [(0, .ref (ad 0)), (1, .int v1), (2, .int v2)] → g_I D vwCl A s.heap H locs (m_W ad cA u) → f_M_readBracket_J146 v1 v2 u = some (r0, u0) → W p l e { frames := 5, cells := 0, slots := 0, locals := 113 } s m ([.ref (ad 0), .int a1] : List Value).toArray below meth c H locs 0 0 (MQ below (g_Q D vwCl (m_T cA) (m_W ad cA u0) A none) ([.ref (ad 0), .int a1] : List Value).toArray s 0 0 A) (F0 m 146 ls []) := by
    intro  v1 v2 u H locs ls hl hI h
    dsimp only [f_M_readBracket_J146] at h
    refine lv_aload_n hx hb d_M_readBracket_146 rfl (lv_at hl 0 rfl) ?_
    refine g_get (v := .ref (ad 6)) hx hb hts in_M hown hK hI 0 rfl rfl 17 (by decide) (hts _ wd_409) rfl d_M_readBracket_147 ?_
    refine lv_iload_n hx hb d_M_readBracket_150 rfl (lv_at hl 1 rfl) ?_
    refine lv_iload_n hx hb d_M_readBracket_151 rfl (lv_at hl 2 rfl) ?_
    refine lv_bipush (v := 60) hx hb d_M_readBracket_152 (by decide) ?_
    refine lv_icmp_ne (tgt := 162) hx hb d_M_readBracket_154 rfl (fun hc48 => ?_) (fun hc48 => ?_)
    · rw [if_neg hc48] at h
      refine lv_bipush (v := 7) hx hb d_M_readBracket_162 (by decide) ?_
      exact w164 v1 7 v1 u _ _ _ (lv_sub hl [0, 1] rfl) hI h
    · rw [if_pos hc48] at h
      refine lv_bipush (v := 6) hx hb d_M_readBracket_157 (by decide) ?_
      refine lv_goto (tgt := 164) hx hb d_M_readBracket_159 rfl ?_
      exact w164 v1 6 v1 u _ _ _ (lv_sub hl [0, 1] rfl) hI h
  have w35 : ∀ (n : Nat) (v1 : Int32) (v2 : Int32) (u : MS) (H : Heap) (locs : List Loc) (ls : Array Slot), lv_has ls 4 [(0, .ref (ad 0)), (1, .int v1), (2, .int v2)] → g_I D vwCl A s.heap H locs (m_W ad cA u) → f_M_readBracket_L35 n v1 v2 u = some (r0, u0) → W p l e { frames := 5, cells := 0, slots := 0, locals := 113 } s m ([.ref (ad 0), .int a1] : List Value).toArray below meth c H locs 0 0 (MQ below (g_Q D vwCl (m_T cA) (m_W ad cA u0) A none) ([.ref (ad 0), .int a1] : List Value).toArray s 0 0 A) (F0 m 35 ls []) := by
    intro  n
    induction n with
    | zero => intro v1 v2 u H locs ls hl hI h; cases h
    | succ n ih =>
      intro v1 v2 u H locs ls hl hI h
      dsimp only [f_M_readBracket_L35] at h
      refine lv_iload_n hx hb d_M_readBracket_35 rfl (lv_at hl 2 rfl) ?_
      refine lv_iconst (v := 4) hx hb d_M_readBracket_36 (by decide) ?_
      refine lv_icmp_ge (tgt := 57) hx hb d_M_readBracket_37 rfl (fun hc6 => ?_) (fun hc6 => ?_)
      · rw [if_pos hc6] at h
        refine lv_aload_n hx hb d_M_readBracket_57 rfl (lv_at hl 0 rfl) ?_
        obtain ⟨r7, u8, hc, h⟩ := ob_e h
        refine g_callV (As := []) (rest := []) (w' := m_W ad cA u8) (o := some (.int r7)) ⟨hx, hb, hml, hown, hts⟩ (c_M_isDivisor l D ad cA hc) (cwV 0 hts gq_M_106 rfl rfl rfl (by decide +kernel) ⟨Nat.le_of_ble_eq_true rfl, Nat.le_of_ble_eq_true rfl⟩) hK hI hA 0 5 rfl rfl rfl hl.1 rfl (Nat.le_of_ble_eq_true rfl) d_M_readBracket_58 ⟨Nat.zero_le _, Nat.zero_le _⟩ rfl (fun H locs hI => ?_)
        refine lv_if_eq (tgt := 119) hx hb d_M_readBracket_61 rfl (fun hc9 => ?_) (fun hc9 => ?_)
        · rw [if_pos hc9] at h
          refine lv_aload_n hx hb d_M_readBracket_119 rfl (lv_at hl 0 rfl) ?_
          refine lv_iload_n hx hb d_M_readBracket_120 rfl (lv_at hl 1 rfl) ?_
          refine lv_iconst (v := 1) hx hb d_M_readBracket_121 (by decide) ?_
          obtain ⟨r10, u11, hc, h⟩ := ob_e h
          refine g_callV (As := [.int v1, .int 1]) (rest := []) (w' := m_W ad cA u11) (o := none) ⟨hx, hb, hml, hown, hts⟩ (c_M_readSum l D ad cA hc) (cwV 2 hts gq_M_110 rfl rfl rfl (by decide +kernel) ⟨Nat.le_of_ble_eq_true rfl, Nat.le_of_ble_eq_true rfl⟩) hK hI hA 0 5 rfl rfl rfl hl.1 rfl (Nat.le_of_ble_eq_true rfl) d_M_readBracket_122 ⟨Nat.zero_le _, Nat.zero_le _⟩ rfl (fun H locs hI => ?_)
          refine lv_aload_n hx hb d_M_readBracket_125 rfl (lv_at hl 0 rfl) ?_
          obtain ⟨r12, u13, hc, h⟩ := ob_e h
          refine g_callV (As := []) (rest := []) (w' := m_W ad cA u13) (o := some (.int r12)) ⟨hx, hb, hml, hown, hts⟩ (c_M_look l D ad cA hc) (cwV 0 hts gq_M_83 rfl rfl rfl (by decide +kernel) ⟨Nat.le_of_ble_eq_true rfl, Nat.le_of_ble_eq_true rfl⟩) hK hI hA 0 5 rfl rfl rfl hl.1 rfl (Nat.le_of_ble_eq_true rfl) d_M_readBracket_126 ⟨Nat.zero_le _, Nat.zero_le _⟩ rfl (fun H locs hI => ?_)
          refine lv_istore_n (lv' := [(2, .int r12), (0, .ref (ad 0)), (1, .int v1)]) hx hb d_M_readBracket_129 rfl hl (by decide) rfl (fun ls hl => ?_)
          refine lv_iload_n hx hb d_M_readBracket_130 rfl (lv_at hl 0 rfl) ?_
          refine lv_bipush (v := 60) hx hb d_M_readBracket_131 (by decide) ?_
          refine lv_icmp_eq (tgt := 146) hx hb d_M_readBracket_133 rfl (fun hc14 => ?_) (fun hc14 => ?_)
          · rw [if_pos hc14] at h
            exact w146 v1 r12 u13 _ _ _ (lv_sub hl [1, 2, 0] rfl) hI h
          · rw [if_neg hc14] at h
            refine lv_iload_n hx hb d_M_readBracket_136 rfl (lv_at hl 0 rfl) ?_
            refine lv_bipush (v := 61) hx hb d_M_readBracket_137 (by decide) ?_
            refine lv_icmp_eq (tgt := 146) hx hb d_M_readBracket_139 rfl (fun hc15 => ?_) (fun hc15 => ?_)
            · rw [if_pos hc15] at h
              exact w146 v1 r12 u13 _ _ _ (lv_sub hl [1, 2, 0] rfl) hI h
            · rw [if_neg hc15] at h
              refine lv_aload_n hx hb d_M_readBracket_142 rfl (lv_at hl 1 rfl) ?_
              obtain ⟨r16, u17, hc, h⟩ := ob_e h
              refine g_callV (As := []) (rest := []) (w' := m_W ad cA u17) (o := none) ⟨hx, hb, hml, hown, hts⟩ (c_M_fail l D ad cA hc) (cwV 0 hts gq_M_90 rfl rfl rfl (by decide +kernel) ⟨Nat.le_of_ble_eq_true rfl, Nat.le_of_ble_eq_true rfl⟩) hK hI hA 0 5 rfl rfl rfl hl.1 rfl (Nat.le_of_ble_eq_true rfl) d_M_readBracket_143 ⟨Nat.zero_le _, Nat.zero_le _⟩ rfl (fun H locs hI => ?_)
              exact w146 v1 r12 u17 _ _ _ (lv_sub hl [1, 2, 0] rfl) hI h
        · rw [if_neg hc9] at h
          refine lv_aload_n hx hb d_M_readBracket_64 rfl (lv_at hl 0 rfl) ?_
          refine g_get (v := .ref (ad 6)) hx hb hts in_M hown hK hI 0 rfl rfl 17 (by decide) (hts _ wd_409) rfl d_M_readBracket_65 ?_
          refine lv_iload_n hx hb d_M_readBracket_68 rfl (lv_at hl 1 rfl) ?_
          refine lv_bipush (v := 8) hx hb d_M_readBracket_69 (by decide) ?_
          obtain ⟨hg, h⟩ := gd_e h
          obtain ⟨u18, e_u18, h⟩ := lt_e h
          refine g_iast (w' := m_W ad cA u18) hx hb hK hI 6 5 rfl rfl hg d_M_readBracket_71 (by subst e_u18; rfl) (fun H locs hI => ?_)
          refine lv_aload_n hx hb d_M_readBracket_72 rfl (lv_at hl 0 rfl) ?_
          refine g_get (v := .ref (ad 8)) hx hb hts in_M hown hK hI 0 rfl rfl 19 (by decide) (hts _ wd_411) rfl d_M_readBracket_73 ?_
          refine lv_iload_n hx hb d_M_readBracket_76 rfl (lv_at hl 1 rfl) ?_
          refine lv_aload_n hx hb d_M_readBracket_77 rfl (lv_at hl 0 rfl) ?_
          obtain ⟨r19, u20, hc, h⟩ := ob_e h
          refine g_callV (As := []) (rest := [.int v1, .ref (ad 8)]) (w' := m_W ad cA u20) (o := some (.int r19)) ⟨hx, hb, hml, hown, hts⟩ (c_M_look l D ad cA hc) (cwV 0 hts gq_M_83 rfl rfl rfl (by decide +kernel) ⟨Nat.le_of_ble_eq_true rfl, Nat.le_of_ble_eq_true rfl⟩) hK hI hA 0 5 rfl rfl rfl hl.1 rfl (Nat.le_of_ble_eq_true rfl) d_M_readBracket_78 ⟨Nat.zero_le _, Nat.zero_le _⟩ rfl (fun H locs hI => ?_)
          refine lv_bipush (v := 48) hx hb d_M_readBracket_81 (by decide) ?_
          refine lv_isub hx hb d_M_readBracket_83 ?_
          obtain ⟨hg, h⟩ := gd_e h
          obtain ⟨u21, e_u21, h⟩ := lt_e h
          refine g_iast (w' := m_W ad cA u21) hx hb hK hI 8 7 rfl rfl hg d_M_readBracket_84 (by subst e_u21; rfl) (fun H locs hI => ?_)
          refine lv_aload_n hx hb d_M_readBracket_85 rfl (lv_at hl 0 rfl) ?_
          refine lv_aload_n hx hb d_M_readBracket_86 rfl (lv_at hl 0 rfl) ?_
          refine g_get (v := .int (m_at u21)) hx hb hts in_M hown hK hI 0 rfl rfl 3 (by decide) (hts _ wd_395) rfl d_M_readBracket_87 ?_
          refine lv_iconst (v := 1) hx hb d_M_readBracket_90 (by decide) ?_
          refine lv_iadd hx hb d_M_readBracket_91 ?_
          obtain ⟨u22, e_u22, h⟩ := lt_e h
          refine g_put (t := .int) (w' := m_W ad cA u22) hx hb hts in_M ty_M tyok_M nm_M hown hK hI 0 rfl rfl 3 (by decide) (hts _ wd_395) rfl (by decide +kernel) rfl rfl (Nat.le_of_ble_eq_true rfl) d_M_readBracket_92 (by subst e_u22; rfl) (fun H locs hI => ?_)
          refine lv_aload_n hx hb d_M_readBracket_95 rfl (lv_at hl 0 rfl) ?_
          obtain ⟨r23, u24, hc, h⟩ := ob_e h
          refine g_callV (As := []) (rest := []) (w' := m_W ad cA u24) (o := some (.int r23)) ⟨hx, hb, hml, hown, hts⟩ (c_M_look l D ad cA hc) (cwV 0 hts gq_M_83 rfl rfl rfl (by decide +kernel) ⟨Nat.le_of_ble_eq_true rfl, Nat.le_of_ble_eq_true rfl⟩) hK hI hA 0 5 rfl rfl rfl hl.1 rfl (Nat.le_of_ble_eq_true rfl) d_M_readBracket_96 ⟨Nat.zero_le _, Nat.zero_le _⟩ rfl (fun H locs hI => ?_)
          refine lv_pop hx hb d_M_readBracket_99 rfl ?_
          refine lv_aload_n hx hb d_M_readBracket_100 rfl (lv_at hl 0 rfl) ?_
          refine lv_aload_n hx hb d_M_readBracket_101 rfl (lv_at hl 0 rfl) ?_
          refine g_get (v := .int (m_at u24)) hx hb hts in_M hown hK hI 0 rfl rfl 3 (by decide) (hts _ wd_395) rfl d_M_readBracket_102 ?_
          refine lv_iconst (v := 1) hx hb d_M_readBracket_105 (by decide) ?_
          refine lv_iadd hx hb d_M_readBracket_106 ?_
          obtain ⟨u25, e_u25, h⟩ := lt_e h
          refine g_put (t := .int) (w' := m_W ad cA u25) hx hb hts in_M ty_M tyok_M nm_M hown hK hI 0 rfl rfl 3 (by decide) (hts _ wd_395) rfl (by decide +kernel) rfl rfl (Nat.le_of_ble_eq_true rfl) d_M_readBracket_107 (by subst e_u25; rfl) (fun H locs hI => ?_)
          refine lv_aload_n hx hb d_M_readBracket_110 rfl (lv_at hl 0 rfl) ?_
          refine lv_iload_n hx hb d_M_readBracket_111 rfl (lv_at hl 1 rfl) ?_
          refine lv_iconst (v := 1) hx hb d_M_readBracket_112 (by decide) ?_
          obtain ⟨r26, u27, hc, h⟩ := ob_e h
          refine g_callV (As := [.int v1, .int 1]) (rest := []) (w' := m_W ad cA u27) (o := none) ⟨hx, hb, hml, hown, hts⟩ (c_M_readSum l D ad cA hc) (cwV 2 hts gq_M_110 rfl rfl rfl (by decide +kernel) ⟨Nat.le_of_ble_eq_true rfl, Nat.le_of_ble_eq_true rfl⟩) hK hI hA 0 5 rfl rfl rfl hl.1 rfl (Nat.le_of_ble_eq_true rfl) d_M_readBracket_113 ⟨Nat.zero_le _, Nat.zero_le _⟩ rfl (fun H locs hI => ?_)
          refine lv_goto (tgt := 188) hx hb d_M_readBracket_116 rfl ?_
          exact w188 v1 u27 _ _ _ (lv_sub hl [0, 1] rfl) hI h
      · rw [if_neg hc6] at h
        refine lv_aload_n hx hb d_M_readBracket_40 rfl (lv_at hl 0 rfl) ?_
        refine g_get (v := .ref (ad 9)) hx hb hts in_M hown hK hI 0 rfl rfl 20 (by decide) (hts _ wd_412) rfl d_M_readBracket_41 ?_
        refine lv_iconst (v := 4) hx hb d_M_readBracket_44 (by decide) ?_
        refine lv_iload_n hx hb d_M_readBracket_45 rfl (lv_at hl 1 rfl) ?_
        refine lv_imul hx hb d_M_readBracket_46 ?_
        refine lv_iload_n hx hb d_M_readBracket_47 rfl (lv_at hl 2 rfl) ?_
        refine lv_iadd hx hb d_M_readBracket_48 ?_
        refine lv_iconst (v := 0) hx hb d_M_readBracket_49 (by decide) ?_
        obtain ⟨hg, h⟩ := gd_e h
        obtain ⟨u28, e_u28, h⟩ := lt_e h
        refine g_iast (w' := m_W ad cA u28) hx hb hK hI 9 8 rfl rfl hg d_M_readBracket_50 (by subst e_u28; rfl) (fun H locs hI => ?_)
        obtain ⟨x29, e_x29, h⟩ := lt_e h
        refine lv_iinc (v := x29) (k := 2) hx hb d_M_readBracket_51 hl rfl (by subst e_x29; rfl) (by decide) rfl (fun ls hl => ?_)
        refine lv_goto (tgt := 35) hx hb d_M_readBracket_54 rfl ?_
        exact ih v1 x29 u28 _ _ _ (lv_sub hl [1, 2, 0] rfl) hI h
  have w13 : ∀ (v1 : Int32) (u : MS) (H : Heap) (locs : List Loc) (ls : Array Slot), lv_has ls 4 [(0, .ref (ad 0)), (1, .int v1)] → g_I D vwCl A s.heap H locs (m_W ad cA u) → f_M_readBracket_J13 v1 u = some (r0, u0) → W p l e { frames := 5, cells := 0, slots := 0, locals := 113 } s m ([.ref (ad 0), .int a1] : List Value).toArray below meth c H locs 0 0 (MQ below (g_Q D vwCl (m_T cA) (m_W ad cA u0) A none) ([.ref (ad 0), .int a1] : List Value).toArray s 0 0 A) (F0 m 13 ls []) := by
    intro  v1 u H locs ls hl hI h
    dsimp only [f_M_readBracket_J13] at h
    refine lv_aload_n hx hb d_M_readBracket_13 rfl (lv_at hl 0 rfl) ?_
    refine lv_aload_n hx hb d_M_readBracket_14 rfl (lv_at hl 0 rfl) ?_
    refine g_get (v := .int (m_rb u)) hx hb hts in_M hown hK hI 0 rfl rfl 14 (by decide) (hts _ wd_406) rfl d_M_readBracket_15 ?_
    refine lv_iconst (v := 1) hx hb d_M_readBracket_18 (by decide) ?_
    refine lv_iadd hx hb d_M_readBracket_19 ?_
    obtain ⟨u4, e_u4, h⟩ := lt_e h
    refine g_put (t := .int) (w' := m_W ad cA u4) hx hb hts in_M ty_M tyok_M nm_M hown hK hI 0 rfl rfl 14 (by decide) (hts _ wd_406) rfl (by decide +kernel) rfl rfl (Nat.le_of_ble_eq_true rfl) d_M_readBracket_20 (by subst e_u4; rfl) (fun H locs hI => ?_)
    refine lv_aload_n hx hb d_M_readBracket_23 rfl (lv_at hl 0 rfl) ?_
    refine lv_aload_n hx hb d_M_readBracket_24 rfl (lv_at hl 0 rfl) ?_
    refine g_get (v := .int (m_at u4)) hx hb hts in_M hown hK hI 0 rfl rfl 3 (by decide) (hts _ wd_395) rfl d_M_readBracket_25 ?_
    refine lv_iconst (v := 1) hx hb d_M_readBracket_28 (by decide) ?_
    refine lv_iadd hx hb d_M_readBracket_29 ?_
    obtain ⟨u5, e_u5, h⟩ := lt_e h
    refine g_put (t := .int) (w' := m_W ad cA u5) hx hb hts in_M ty_M tyok_M nm_M hown hK hI 0 rfl rfl 3 (by decide) (hts _ wd_395) rfl (by decide +kernel) rfl rfl (Nat.le_of_ble_eq_true rfl) d_M_readBracket_30 (by subst e_u5; rfl) (fun H locs hI => ?_)
    refine lv_iconst (v := 0) hx hb d_M_readBracket_33 (by decide) ?_
    refine lv_istore_n (lv' := [(2, .int 0), (0, .ref (ad 0)), (1, .int v1)]) hx hb d_M_readBracket_34 rfl hl (by decide) rfl (fun ls hl => ?_)
    exact w35 4096 v1 0 u5 _ _ _ (lv_sub hl [1, 2, 0] rfl) hI h
  dsimp only [f_M_readBracket] at h
  refine lv_aload_n hx hb d_M_readBracket_0 rfl (lv_at hl 0 rfl) ?_
  refine g_get (v := .int (m_rb u)) hx hb hts in_M hown hK hI 0 rfl rfl 14 (by decide) (hts _ wd_406) rfl d_M_readBracket_1 ?_
  refine lv_bipush (v := 8) hx hb d_M_readBracket_4 (by decide) ?_
  refine lv_icmp_ne (tgt := 13) hx hb d_M_readBracket_6 rfl (fun hc1 => ?_) (fun hc1 => ?_)
  · rw [if_neg hc1] at h
    exact w13 a1 u _ _ _ (lv_sub hl [0, 1] rfl) hI h
  · rw [if_pos hc1] at h
    refine lv_aload_n hx hb d_M_readBracket_9 rfl (lv_at hl 0 rfl) ?_
    obtain ⟨r2, u3, hc, h⟩ := ob_e h
    refine g_callV (As := []) (rest := []) (w' := m_W ad cA u3) (o := none) ⟨hx, hb, hml, hown, hts⟩ (c_M_fail l D ad cA hc) (cwV 0 hts gq_M_90 rfl rfl rfl (by decide +kernel) ⟨Nat.le_of_ble_eq_true rfl, Nat.le_of_ble_eq_true rfl⟩) hK hI hA 0 5 rfl rfl rfl hl.1 rfl (Nat.le_of_ble_eq_true rfl) d_M_readBracket_10 ⟨Nat.zero_le _, Nat.zero_le _⟩ rfl (fun H locs hI => ?_)
    exact w13 a1 u3 _ _ _ (lv_sub hl [0, 1] rfl) hI h
