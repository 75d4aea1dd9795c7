def f_R_readPart_J169 (t0 : Int32) (t1 : Int32) (t2 : Int32) (u : KS) : Option (Int32 × KS) := ob (f_C_addFactor t2 t1 t0 u) fun r30 u31 => lt_ (k_p_at ((k_at u31) + 1) u31) fun u32 => gd (bz 1) (some (1, u32))
def f_R_readPart_J149 (v1 : Int32) (v3 : Int32) (v4 : Int32) (v6 : Int32) (v7 : Int32) (u : KS) : Option (Int32 × KS) := if v7 = 0 then f_R_readPart_J169 v3 v6 v1 u else f_R_readPart_J169 (v3 * v4) v6 v1 u
def f_R_readPart_J128 (v1 : Int32) (v2 : Int32) (v3 : Int32) (v4 : Int32) (v6 : Int32) (v7 : Int32) (u : KS) : Option (Int32 × KS) := if v6 < 0 then (gd (bz 0) (some (0, u))) else (if v6 = 0 then f_R_readPart_J149 v1 v3 v4 v6 v7 u else (if ((v2 >>> (v6 &&& 31)) &&& 1) = 0 then (gd (bz 0) (some (0, u))) else f_R_readPart_J149 v1 v3 v4 v6 v7 u))
def f_R_readPart_J102 (v1 : Int32) (v2 : Int32) (v3 : Int32) (v4 : Int32) (v6 : Int32) (t0 : Int32) (u : KS) : Option (Int32 × KS) := if v4 < 0 then f_R_readPart_J128 v1 v2 v3 v4 v6 t0 u else (if t0 = 0 then (ob (f_C_addNumber v1 (v3 * v4) u) fun r24 u25 => gd (bz 1) (some (1, u25))) else f_R_readPart_J128 v1 v2 v3 v4 v6 t0 u)
def f_R_readPart_J36 (v1 : Int32) (v2 : Int32) (v3 : Int32) (v4 : Int32) (v5 : Int32) (u : KS) : Option (Int32 × KS) := if v5 < 0 then (ob (f_R_mark u) fun r12 u13 => ob (f_R_variableOf r12 u13) fun r14 u15 => if r14 < 0 then f_R_readPart_J102 v1 v2 v3 v4 r14 0 u15 else (if v4 = 1 then f_R_readPart_J102 v1 v2 v3 v4 r14 1 u15 else (if v4 = 2 then f_R_readPart_J102 v1 v2 v3 v4 r14 1 u15 else f_R_readPart_J102 v1 v2 v3 v4 r14 0 u15))) else (lt_ (k_p_at ((k_at u) + 1) u) fun u19 => ob (f_C_addNumber v1 (v3 * ((10 * v4) + v5)) u19) fun r20 u21 => gd (bz 1) (some (1, u21)))
def f_R_readPart (a1 : Int32) (a2 : Int32) (a3 : Int32) (u : KS) : Option (Int32 × KS) := ob (f_R_mark u) fun r1 u2 => ob (f_R_digitOf r1 u2) fun r3 u4 => if r3 < 0 then f_R_readPart_J36 a1 a2 a3 r3 ((-1)) u4 else (lt_ (k_p_at ((k_at u4) + 1) u4) fun u6 => ob (f_R_mark u6) fun r7 u8 => ob (f_R_digitOf r7 u8) fun r9 u10 => f_R_readPart_J36 a1 a2 a3 r3 r9 u10)
set_option maxRecDepth 100000 in
set_option maxHeartbeats 4000000 in
theorem c_R_readPart (l : Launch) (D : va_G) (ad : Nat → Nat) (cA : Nat → ClassId) {a1 : Int32} {a2 : Int32} {a3 : Int32} {u u0 : KS} {r0 : Int32} (h : f_R_readPart a1 a2 a3 u = some (r0, u0)) : g_M l y_R_readPart w_R_readPart { frames := 2, cells := 0, slots := 0, locals := 44 } D vwCl (k_T cA) (k_W ad cA u) [.ref (ad 13), .int a1, .int a2, .int a3] (some (.int r0)) (k_W ad cA u0) := by
  refine g_ofW (cc := c0_R_readPart) (maxL := 8) (ret := (some .boolean)) (by decide) rfl (Nat.le_of_ble_eq_true rfl) ?_
  intro p e s m below meth c A ls hx hb hr hml hown hts hlk hK hA hI hl
  have hts : ∀ w ∈ gW, w.before ([.ref (ad 13), .int a1, .int a2, .int a3] : List Value).toArray s = true := fun w h => hts w (List.mem_cons_of_mem _ h)
  have hown : s.vm.findClass R_R = some m.cls := hown
  have hl : lv_has ls 8 [(0, .ref (ad 13)), (1, .int a1), (2, .int a2), (3, .int a3)] := hl
  have w169 : ∀ (t0 : Int32) (t1 : Int32) (t2 : Int32) (u : KS) (H : Heap) (locs : List Loc) (ls : Array Slot), lv_has ls 8 [(0, .ref (ad 13))] → g_I D vwCl A s.heap H locs (k_W ad cA u) → f_R_readPart_J169 t0 t1 t2 u = some (r0, u0) → W p l e { frames := 2, cells := 0, slots := 0, locals := 44 } s m ([.ref (ad 13), .int a1, .int a2, .int a3] : List Value).toArray below meth c H locs 0 0 (MQ below (g_Q D vwCl (k_T cA) (k_W ad cA u0) A (some (.int r0))) ([.ref (ad 13), .int a1, .int a2, .int a3] : List Value).toArray s 0 0 A) (F0 m 169 ls [.int t0, .int t1, .int t2, .ref (ad 4)]) := by
    intro  t0 t1 t2 u H locs ls hl hI h
    dsimp only [f_R_readPart_J169] at h
    obtain ⟨r30, u31, hc, h⟩ := ob_e h
    refine g_callV (As := [.int t2, .int t1, .int t0]) (rest := []) (w' := k_W ad cA u31) (o := none) ⟨hx, hb, hml, hown, hts⟩ (c_C_addFactor l D ad cA hc) (cwV 3 hts gq_R_112 rfl rfl rfl (by decide +kernel) ⟨Nat.le_of_ble_eq_true rfl, Nat.le_of_ble_eq_true rfl⟩) hK hI hA 4 2 rfl rfl rfl hl.1 rfl (Nat.le_of_ble_eq_true rfl) d_R_readPart_169 ⟨Nat.zero_le _, Nat.zero_le _⟩ rfl (fun H locs hI => ?_)
    refine lv_aload_n hx hb d_R_readPart_172 rfl (lv_at hl 0 rfl) ?_
    refine lv_dup hx hb d_R_readPart_173 rfl ?_
    refine g_get (v := .int (k_at u31)) hx hb hts in_R hown hK hI 13 rfl rfl 2 (by decide) (hts _ wd_78) rfl d_R_readPart_174 ?_
    refine lv_iconst (v := 1) hx hb d_R_readPart_177 (by decide) ?_
    refine lv_iadd hx hb d_R_readPart_178 ?_
    obtain ⟨u32, e_u32, h⟩ := lt_e h
    refine g_put (t := .int) (w' := k_W ad cA u32) hx hb hts in_R ty_R tyok_R nm_R hown hK hI 13 rfl rfl 2 (by decide) (hts _ wd_78) rfl (by decide +kernel) rfl rfl (Nat.le_of_ble_eq_true rfl) d_R_readPart_179 (by subst e_u32; rfl) (fun H locs hI => ?_)
    refine lv_iconst (v := 1) hx hb d_R_readPart_182 (by decide) ?_
    exact g_zret (Wd := k_W ad cA) hx hb hr hlk hK hI h d_R_readPart_183
  have w149 : ∀ (v1 : Int32) (v3 : Int32) (v4 : Int32) (v6 : Int32) (v7 : Int32) (u : KS) (H : Heap) (locs : List Loc) (ls : Array Slot), lv_has ls 8 [(0, .ref (ad 13)), (1, .int v1), (3, .int v3), (4, .int v4), (6, .int v6), (7, .int v7)] → g_I D vwCl A s.heap H locs (k_W ad cA u) → f_R_readPart_J149 v1 v3 v4 v6 v7 u = some (r0, u0) → W p l e { frames := 2, cells := 0, slots := 0, locals := 44 } s m ([.ref (ad 13), .int a1, .int a2, .int a3] : List Value).toArray below meth c H locs 0 0 (MQ below (g_Q D vwCl (k_T cA) (k_W ad cA u0) A (some (.int r0))) ([.ref (ad 13), .int a1, .int a2, .int a3] : List Value).toArray s 0 0 A) (F0 m 149 ls []) := by
    intro  v1 v3 v4 v6 v7 u H locs ls hl hI h
    dsimp only [f_R_readPart_J149] at h
    refine lv_aload_n hx hb d_R_readPart_149 rfl (lv_at hl 0 rfl) ?_
    refine g_get (v := .ref (ad 4)) hx hb hts in_R hown hK hI 13 rfl rfl 1 (by decide) (hts _ wd_77) rfl d_R_readPart_150 ?_
    refine lv_iload_n hx hb d_R_readPart_153 rfl (lv_at hl 1 rfl) ?_
    refine lv_iload hx hb d_R_readPart_154 (lv_at hl 4 rfl) ?_
    refine lv_iload hx hb d_R_readPart_156 (lv_at hl 5 rfl) ?_
    refine lv_if_eq (tgt := 168) hx hb d_R_readPart_158 rfl (fun hc29 => ?_) (fun hc29 => ?_)
    · rw [if_pos hc29] at h
      refine lv_iload_n hx hb d_R_readPart_168 rfl (lv_at hl 2 rfl) ?_
      exact w169 v3 v6 v1 u _ _ _ (lv_sub hl [0] rfl) hI h
    · rw [if_neg hc29] at h
      refine lv_iload_n hx hb d_R_readPart_161 rfl (lv_at hl 2 rfl) ?_
      refine lv_iload hx hb d_R_readPart_162 (lv_at hl 3 rfl) ?_
      refine lv_imul hx hb d_R_readPart_164 ?_
      refine lv_goto (tgt := 169) hx hb d_R_readPart_165 rfl ?_
      exact w169 (v3 * v4) v6 v1 u _ _ _ (lv_sub hl [0] rfl) hI h
  have w128 : ∀ (v1 : Int32) (v2 : Int32) (v3 : Int32) (v4 : Int32) (v6 : Int32) (v7 : Int32) (u : KS) (H : Heap) (locs : List Loc) (ls : Array Slot), lv_has ls 8 [(0, .ref (ad 13)), (1, .int v1), (2, .int v2), (3, .int v3), (4, .int v4), (6, .int v6), (7, .int v7)] → g_I D vwCl A s.heap H locs (k_W ad cA u) → f_R_readPart_J128 v1 v2 v3 v4 v6 v7 u = some (r0, u0) → W p l e { frames := 2, cells := 0, slots := 0, locals := 44 } s m ([.ref (ad 13), .int a1, .int a2, .int a3] : List Value).toArray below meth c H locs 0 0 (MQ below (g_Q D vwCl (k_T cA) (k_W ad cA u0) A (some (.int r0))) ([.ref (ad 13), .int a1, .int a2, .int a3] : List Value).toArray s 0 0 A) (F0 m 128 ls []) := by
    intro  v1 v2 v3 v4 v6 v7 u H locs ls hl hI h
    dsimp only [f_R_readPart_J128] at h
    refine lv_iload hx hb d_R_readPart_128 (lv_at hl 5 rfl) ?_
    refine lv_if_lt (tgt := 147) hx hb d_R_readPart_130 rfl (fun hc26 => ?_) (fun hc26 => ?_)
    · rw [if_pos hc26] at h
      refine lv_iconst (v := 0) hx hb d_R_readPart_147 (by decide) ?_
      exact g_zret (Wd := k_W ad cA) hx hb hr hlk hK hI h d_R_readPart_148
    · rw [if_neg hc26] at h
      refine lv_iload hx hb d_R_readPart_133 (lv_at hl 5 rfl) ?_
      refine lv_if_eq (tgt := 149) hx hb d_R_readPart_135 rfl (fun hc27 => ?_) (fun hc27 => ?_)
      · rw [if_pos hc27] at h
        exact w149 v1 v3 v4 v6 v7 u _ _ _ (lv_sub hl [0, 1, 3, 4, 5, 6] rfl) hI h
      · rw [if_neg hc27] at h
        refine lv_iload_n hx hb d_R_readPart_138 rfl (lv_at hl 2 rfl) ?_
        refine lv_iload hx hb d_R_readPart_139 (lv_at hl 5 rfl) ?_
        refine lv_ishr hx hb d_R_readPart_141 ?_
        refine lv_iconst (v := 1) hx hb d_R_readPart_142 (by decide) ?_
        refine lv_iand hx hb d_R_readPart_143 ?_
        refine lv_if_ne (tgt := 149) hx hb d_R_readPart_144 rfl (fun hc28 => ?_) (fun hc28 => ?_)
        · rw [if_neg hc28] at h
          exact w149 v1 v3 v4 v6 v7 u _ _ _ (lv_sub hl [0, 1, 3, 4, 5, 6] rfl) hI h
        · rw [if_pos hc28] at h
          refine lv_iconst (v := 0) hx hb d_R_readPart_147 (by decide) ?_
          exact g_zret (Wd := k_W ad cA) hx hb hr hlk hK hI h d_R_readPart_148
  have w102 : ∀ (v1 : Int32) (v2 : Int32) (v3 : Int32) (v4 : Int32) (v6 : Int32) (t0 : Int32) (u : KS) (H : Heap) (locs : List Loc) (ls : Array Slot), lv_has ls 8 [(0, .ref (ad 13)), (1, .int v1), (2, .int v2), (3, .int v3), (4, .int v4), (6, .int v6)] → g_I D vwCl A s.heap H locs (k_W ad cA u) → f_R_readPart_J102 v1 v2 v3 v4 v6 t0 u = some (r0, u0) → W p l e { frames := 2, cells := 0, slots := 0, locals := 44 } s m ([.ref (ad 13), .int a1, .int a2, .int a3] : List Value).toArray below meth c H locs 0 0 (MQ below (g_Q D vwCl (k_T cA) (k_W ad cA u0) A (some (.int r0))) ([.ref (ad 13), .int a1, .int a2, .int a3] : List Value).toArray s 0 0 A) (F0 m 102 ls [.int t0]) := by
    intro  v1 v2 v3 v4 v6 t0 u H locs ls hl hI h
    dsimp only [f_R_readPart_J102] at h
    refine lv_istore (lv' := [(7, .int t0), (0, .ref (ad 13)), (1, .int v1), (2, .int v2), (3, .int v3), (4, .int v4), (6, .int v6)]) hx hb d_R_readPart_102 hl (by decide) rfl (fun ls hl => ?_)
    refine lv_iload hx hb d_R_readPart_104 (lv_at hl 5 rfl) ?_
    refine lv_if_lt (tgt := 128) hx hb d_R_readPart_106 rfl (fun hc22 => ?_) (fun hc22 => ?_)
    · rw [if_pos hc22] at h
      exact w128 v1 v2 v3 v4 v6 t0 u _ _ _ (lv_sub hl [1, 2, 3, 4, 5, 6, 0] rfl) hI h
    · rw [if_neg hc22] at h
      refine lv_iload hx hb d_R_readPart_109 (lv_at hl 0 rfl) ?_
      refine lv_if_ne (tgt := 128) hx hb d_R_readPart_111 rfl (fun hc23 => ?_) (fun hc23 => ?_)
      · rw [if_neg hc23] at h
        exact w128 v1 v2 v3 v4 v6 t0 u _ _ _ (lv_sub hl [1, 2, 3, 4, 5, 6, 0] rfl) hI h
      · rw [if_pos hc23] at h
        refine lv_aload_n hx hb d_R_readPart_114 rfl (lv_at hl 1 rfl) ?_
        refine g_get (v := .ref (ad 4)) hx hb hts in_R hown hK hI 13 rfl rfl 1 (by decide) (hts _ wd_77) rfl d_R_readPart_115 ?_
        refine lv_iload_n hx hb d_R_readPart_118 rfl (lv_at hl 2 rfl) ?_
        refine lv_iload_n hx hb d_R_readPart_119 rfl (lv_at hl 4 rfl) ?_
        refine lv_iload hx hb d_R_readPart_120 (lv_at hl 5 rfl) ?_
        refine lv_imul hx hb d_R_readPart_122 ?_
        obtain ⟨r24, u25, hc, h⟩ := ob_e h
        refine g_callV (As := [.int v1, .int (v3 * v4)]) (rest := []) (w' := k_W ad cA u25) (o := none) ⟨hx, hb, hml, hown, hts⟩ (c_C_addNumber l D ad cA hc) (cwV 2 hts gq_R_109 rfl rfl rfl (by decide +kernel) ⟨Nat.le_of_ble_eq_true rfl, Nat.le_of_ble_eq_true rfl⟩) hK hI hA 4 2 rfl rfl rfl hl.1 rfl (Nat.le_of_ble_eq_true rfl) d_R_readPart_123 ⟨Nat.zero_le _, Nat.zero_le _⟩ rfl (fun H locs hI => ?_)
        refine lv_iconst (v := 1) hx hb d_R_readPart_126 (by decide) ?_
        exact g_zret (Wd := k_W ad cA) hx hb hr hlk hK hI h d_R_readPart_127
  have w36 : ∀ (v1 : Int32) (v2 : Int32) (v3 : Int32) (v4 : Int32) (v5 : Int32) (u : KS) (H : Heap) (locs : List Loc) (ls : Array Slot), lv_has ls 8 [(0, .ref (ad 13)), (1, .int v1), (2, .int v2), (3, .int v3), (4, .int v4), (5, .int v5)] → g_I D vwCl A s.heap H locs (k_W ad cA u) → f_R_readPart_J36 v1 v2 v3 v4 v5 u = some (r0, u0) → W p l e { frames := 2, cells := 0, slots := 0, locals := 44 } s m ([.ref (ad 13), .int a1, .int a2, .int a3] : List Value).toArray below meth c H locs 0 0 (MQ below (g_Q D vwCl (k_T cA) (k_W ad cA u0) A (some (.int r0))) ([.ref (ad 13), .int a1, .int a2, .int a3] : List Value).toArray s 0 0 A) (F0 m 36 ls []) := by
    intro  v1 v2 v3 v4 v5 u H locs ls hl hI h
    dsimp only [f_R_readPart_J36] at h
    refine lv_iload hx hb d_R_readPart_36 (lv_at hl 5 rfl) ?_
    refine lv_if_lt (tgt := 71) hx hb d_R_readPart_38 rfl (fun hc11 => ?_) (fun hc11 => ?_)
    · rw [if_pos hc11] at h
      refine lv_aload_n hx hb d_R_readPart_71 rfl (lv_at hl 0 rfl) ?_
      obtain ⟨r12, u13, hc, h⟩ := ob_e h
      refine g_callV (As := []) (rest := []) (w' := k_W ad cA u13) (o := some (.int r12)) ⟨hx, hb, hml, hown, hts⟩ (c_R_mark l D ad cA hc) (cwV 0 hts gq_R_37 rfl rfl rfl (by decide +kernel) ⟨Nat.le_of_ble_eq_true rfl, Nat.le_of_ble_eq_true rfl⟩) hK hI hA 13 3 rfl rfl rfl hl.1 rfl (Nat.le_of_ble_eq_true rfl) d_R_readPart_72 ⟨Nat.zero_le _, Nat.zero_le _⟩ rfl (fun H locs hI => ?_)
      obtain ⟨r14, u15, hc, h⟩ := ob_e h
      refine g_callS (As := [.int r12]) (rest := []) (w' := k_W ad cA u15) (o := some (.int r14)) ⟨hx, hb, hml, hown, hts⟩ (c_R_variableOf l D ad cA hc) (va_cwS 1 hts gq_R_80 rfl rfl rfl (by decide +kernel) ⟨Nat.le_of_ble_eq_true rfl, Nat.le_of_ble_eq_true rfl⟩) hK hI hA rfl hl.1 rfl (Nat.le_of_ble_eq_true rfl) d_R_readPart_75 ⟨Nat.zero_le _, Nat.zero_le _⟩ rfl (fun H locs hI => ?_)
      refine lv_istore (lv' := [(6, .int r14), (0, .ref (ad 13)), (1, .int v1), (2, .int v2), (3, .int v3), (4, .int v4), (5, .int v5)]) hx hb d_R_readPart_78 hl (by decide) rfl (fun ls hl => ?_)
      refine lv_iload hx hb d_R_readPart_80 (lv_at hl 0 rfl) ?_
      refine lv_if_lt (tgt := 101) hx hb d_R_readPart_82 rfl (fun hc16 => ?_) (fun hc16 => ?_)
      · rw [if_pos hc16] at h
        refine lv_iconst (v := 0) hx hb d_R_readPart_101 (by decide) ?_
        exact w102 v1 v2 v3 v4 r14 0 u15 _ _ _ (lv_sub hl [1, 2, 3, 4, 5, 0] rfl) hI h
      · rw [if_neg hc16] at h
        refine lv_iload hx hb d_R_readPart_85 (lv_at hl 5 rfl) ?_
        refine lv_iconst (v := 1) hx hb d_R_readPart_87 (by decide) ?_
        refine lv_icmp_eq (tgt := 97) hx hb d_R_readPart_88 rfl (fun hc17 => ?_) (fun hc17 => ?_)
        · rw [if_pos hc17] at h
          refine lv_iconst (v := 1) hx hb d_R_readPart_97 (by decide) ?_
          refine lv_goto (tgt := 102) hx hb d_R_readPart_98 rfl ?_
          exact w102 v1 v2 v3 v4 r14 1 u15 _ _ _ (lv_sub hl [1, 2, 3, 4, 5, 0] rfl) hI h
        · rw [if_neg hc17] at h
          refine lv_iload hx hb d_R_readPart_91 (lv_at hl 5 rfl) ?_
          refine lv_iconst (v := 2) hx hb d_R_readPart_93 (by decide) ?_
          refine lv_icmp_ne (tgt := 101) hx hb d_R_readPart_94 rfl (fun hc18 => ?_) (fun hc18 => ?_)
          · rw [if_neg hc18] at h
            refine lv_iconst (v := 0) hx hb d_R_readPart_101 (by decide) ?_
            exact w102 v1 v2 v3 v4 r14 0 u15 _ _ _ (lv_sub hl [1, 2, 3, 4, 5, 0] rfl) hI h
          · rw [if_pos hc18] at h
            refine lv_iconst (v := 1) hx hb d_R_readPart_97 (by decide) ?_
            refine lv_goto (tgt := 102) hx hb d_R_readPart_98 rfl ?_
            exact w102 v1 v2 v3 v4 r14 1 u15 _ _ _ (lv_sub hl [1, 2, 3, 4, 5, 0] rfl) hI h
    · rw [if_neg hc11] at h
      refine lv_aload_n hx hb d_R_readPart_41 rfl (lv_at hl 0 rfl) ?_
      refine lv_dup hx hb d_R_readPart_42 rfl ?_
      refine g_get (v := .int (k_at u)) hx hb hts in_R hown hK hI 13 rfl rfl 2 (by decide) (hts _ wd_78) rfl d_R_readPart_43 ?_
      refine lv_iconst (v := 1) hx hb d_R_readPart_46 (by decide) ?_
      refine lv_iadd hx hb d_R_readPart_47 ?_
      obtain ⟨u19, e_u19, h⟩ := lt_e h
      refine g_put (t := .int) (w' := k_W ad cA u19) hx hb hts in_R ty_R tyok_R nm_R hown hK hI 13 rfl rfl 2 (by decide) (hts _ wd_78) rfl (by decide +kernel) rfl rfl (Nat.le_of_ble_eq_true rfl) d_R_readPart_48 (by subst e_u19; rfl) (fun H locs hI => ?_)
      refine lv_aload_n hx hb d_R_readPart_51 rfl (lv_at hl 0 rfl) ?_
      refine g_get (v := .ref (ad 4)) hx hb hts in_R hown hK hI 13 rfl rfl 1 (by decide) (hts _ wd_77) rfl d_R_readPart_52 ?_
      refine lv_iload_n hx hb d_R_readPart_55 rfl (lv_at hl 1 rfl) ?_
      refine lv_iload_n hx hb d_R_readPart_56 rfl (lv_at hl 3 rfl) ?_
      refine lv_bipush (v := 10) hx hb d_R_readPart_57 (by decide) ?_
      refine lv_iload hx hb d_R_readPart_59 (lv_at hl 4 rfl) ?_
      refine lv_imul hx hb d_R_readPart_61 ?_
      refine lv_iload hx hb d_R_readPart_62 (lv_at hl 5 rfl) ?_
      refine lv_iadd hx hb d_R_readPart_64 ?_
      refine lv_imul hx hb d_R_readPart_65 ?_
      obtain ⟨r20, u21, hc, h⟩ := ob_e h
      refine g_callV (As := [.int v1, .int (v3 * ((10 * v4) + v5))]) (rest := []) (w' := k_W ad cA u21) (o := none) ⟨hx, hb, hml, hown, hts⟩ (c_C_addNumber l D ad cA hc) (cwV 2 hts gq_R_109 rfl rfl rfl (by decide +kernel) ⟨Nat.le_of_ble_eq_true rfl, Nat.le_of_ble_eq_true rfl⟩) hK hI hA 4 2 rfl rfl rfl hl.1 rfl (Nat.le_of_ble_eq_true rfl) d_R_readPart_66 ⟨Nat.zero_le _, Nat.zero_le _⟩ rfl (fun H locs hI => ?_)
      refine lv_iconst (v := 1) hx hb d_R_readPart_69 (by decide) ?_
      exact g_zret (Wd := k_W ad cA) hx hb hr hlk hK hI h d_R_readPart_70
  dsimp only [f_R_readPart] at h
  refine lv_aload_n hx hb d_R_readPart_0 rfl (lv_at hl 0 rfl) ?_
  obtain ⟨r1, u2, hc, h⟩ := ob_e h
  refine g_callV (As := []) (rest := []) (w' := k_W ad cA u2) (o := some (.int r1)) ⟨hx, hb, hml, hown, hts⟩ (c_R_mark l D ad cA hc) (cwV 0 hts gq_R_37 rfl rfl rfl (by decide +kernel) ⟨Nat.le_of_ble_eq_true rfl, Nat.le_of_ble_eq_true rfl⟩) hK hI hA 13 3 rfl rfl rfl hl.1 rfl (Nat.le_of_ble_eq_true rfl) d_R_readPart_1 ⟨Nat.zero_le _, Nat.zero_le _⟩ rfl (fun H locs hI => ?_)
  obtain ⟨r3, u4, hc, h⟩ := ob_e h
  refine g_callS (As := [.int r1]) (rest := []) (w' := k_W ad cA u4) (o := some (.int r3)) ⟨hx, hb, hml, hown, hts⟩ (c_R_digitOf l D ad cA hc) (va_cwS 1 hts gq_R_106 rfl rfl rfl (by decide +kernel) ⟨Nat.le_of_ble_eq_true rfl, Nat.le_of_ble_eq_true rfl⟩) hK hI hA rfl hl.1 rfl (Nat.le_of_ble_eq_true rfl) d_R_readPart_4 ⟨Nat.zero_le _, Nat.zero_le _⟩ rfl (fun H locs hI => ?_)
  refine lv_istore (lv' := [(4, .int r3), (0, .ref (ad 13)), (1, .int a1), (2, .int a2), (3, .int a3)]) hx hb d_R_readPart_7 hl (by decide) rfl (fun ls hl => ?_)
  refine lv_iconst (v := (-1)) hx hb d_R_readPart_9 (by decide) ?_
  refine lv_istore (lv' := [(5, .int ((-1))), (4, .int r3), (0, .ref (ad 13)), (1, .int a1), (2, .int a2), (3, .int a3)]) hx hb d_R_readPart_10 hl (by decide) rfl (fun ls hl => ?_)
  refine lv_iload hx hb d_R_readPart_12 (lv_at hl 1 rfl) ?_
  refine lv_if_lt (tgt := 36) hx hb d_R_readPart_14 rfl (fun hc5 => ?_) (fun hc5 => ?_)
  · rw [if_pos hc5] at h
    exact w36 a1 a2 a3 r3 ((-1)) u4 _ _ _ (lv_sub hl [2, 3, 4, 5, 1, 0] rfl) hI h
  · rw [if_neg hc5] at h
    refine lv_aload_n hx hb d_R_readPart_17 rfl (lv_at hl 2 rfl) ?_
    refine lv_dup hx hb d_R_readPart_18 rfl ?_
    refine g_get (v := .int (k_at u4)) hx hb hts in_R hown hK hI 13 rfl rfl 2 (by decide) (hts _ wd_78) rfl d_R_readPart_19 ?_
    refine lv_iconst (v := 1) hx hb d_R_readPart_22 (by decide) ?_
    refine lv_iadd hx hb d_R_readPart_23 ?_
    obtain ⟨u6, e_u6, h⟩ := lt_e h
    refine g_put (t := .int) (w' := k_W ad cA u6) hx hb hts in_R ty_R tyok_R nm_R hown hK hI 13 rfl rfl 2 (by decide) (hts _ wd_78) rfl (by decide +kernel) rfl rfl (Nat.le_of_ble_eq_true rfl) d_R_readPart_24 (by subst e_u6; rfl) (fun H locs hI => ?_)
    refine lv_aload_n hx hb d_R_readPart_27 rfl (lv_at hl 2 rfl) ?_
    obtain ⟨r7, u8, hc, h⟩ := ob_e h
    refine g_callV (As := []) (rest := []) (w' := k_W ad cA u8) (o := some (.int r7)) ⟨hx, hb, hml, hown, hts⟩ (c_R_mark l D ad cA hc) (cwV 0 hts gq_R_37 rfl rfl rfl (by decide +kernel) ⟨Nat.le_of_ble_eq_true rfl, Nat.le_of_ble_eq_true rfl⟩) hK hI hA 13 3 rfl rfl rfl hl.1 rfl (Nat.le_of_ble_eq_true rfl) d_R_readPart_28 ⟨Nat.zero_le _, Nat.zero_le _⟩ rfl (fun H locs hI => ?_)
    obtain ⟨r9, u10, hc, h⟩ := ob_e h
    refine g_callS (As := [.int r7]) (rest := []) (w' := k_W ad cA u10) (o := some (.int r9)) ⟨hx, hb, hml, hown, hts⟩ (c_R_digitOf l D ad cA hc) (va_cwS 1 hts gq_R_106 rfl rfl rfl (by decide +kernel) ⟨Nat.le_of_ble_eq_true rfl, Nat.le_of_ble_eq_true rfl⟩) hK hI hA rfl hl.1 rfl (Nat.le_of_ble_eq_true rfl) d_R_readPart_31 ⟨Nat.zero_le _, Nat.zero_le _⟩ rfl (fun H locs hI => ?_)
    refine lv_istore (lv' := [(5, .int r9), (4, .int r3), (0, .ref (ad 13)), (1, .int a1), (2, .int a2), (3, .int a3)]) hx hb d_R_readPart_34 hl (by decide) rfl (fun ls hl => ?_)
    exact w36 a1 a2 a3 r3 r9 u10 _ _ _ (lv_sub hl [2, 3, 4, 5, 1, 0] rfl) hI h
def f_R_readSum_J84 (k29 : Int32 → Int32 → Int32 → Int32 → Int32 → KS → Option (Int32 × KS)) (v1 : Int32) (v2 : Int32) (v3 : Int32) (v5 : Int32) (t0 : Int32) (u : KS) : Option (Int32 × KS) := lt_ (k_p_at ((k_at u) + 1) u) fun u15 => lt_ (v5 + 1) fun x16 => k29 v1 v2 v3 t0 x16 u15
def f_R_readSum_J71 (k29 : Int32 → Int32 → Int32 → Int32 → Int32 → KS → Option (Int32 × KS)) (v1 : Int32) (v2 : Int32) (v3 : Int32) (v5 : Int32) (v6 : Int32) (u : KS) : Option (Int32 × KS) := if v6 = 43 then f_R_readSum_J84 k29 v1 v2 v3 v5 v3 u else f_R_readSum_J84 k29 v1 v2 v3 v5 (-v3) u
def f_R_readSum_L29 (n : Nat) : Int32 → Int32 → Int32 → Int32 → Int32 → KS → Option (Int32 × KS) := match n with
  | 0 => fun _ _ _ _ _ _ => none
  | n + 1 => fun v1 v2 v3 v4 v5 u => if 120 ≤ v5 then (gd (bz 0) (some (0, u))) else (ob (f_R_readPart v1 v2 v4 u) fun r7 u8 => if r7 = 0 then (gd (bz 0) (some (0, u8))) else (ob (f_R_mark u8) fun r10 u11 => if r10 = 43 then f_R_readSum_J71 (f_R_readSum_L29 n) v1 v2 v3 v5 r10 u11 else (if r10 = 45 then f_R_readSum_J71 (f_R_readSum_L29 n) v1 v2 v3 v5 r10 u11 else (gd (bz 1) (some (1, u11))))))
def f_R_readSum (a1 : Int32) (a2 : Int32) (a3 : Int32) (u : KS) : Option (Int32 × KS) := ob (f_R_mark u) fun r1 u2 => if r1 = 45 then (lt_ (-a3) fun x4 => lt_ (k_p_at ((k_at u2) + 1) u2) fun u5 => f_R_readSum_L29 4096 a1 a2 a3 x4 0 u5) else f_R_readSum_L29 4096 a1 a2 a3 a3 0 u2
set_option maxRecDepth 100000 in
set_option maxHeartbeats 4000000 in
theorem c_R_readSum (l : Launch) (D : va_G) (ad : Nat → Nat) (cA : Nat → ClassId) {a1 : Int32} {a2 : Int32} {a3 : Int32} {u u0 : KS} {r0 : Int32} (h : f_R_readSum a1 a2 a3 u = some (r0, u0)) : g_M l y_R_readSum w_R_readSum { frames := 3, cells := 0, slots := 0, locals := 71 } D vwCl (k_T cA) (k_W ad cA u) [.ref (ad 13), .int a1, .int a2, .int a3] (some (.int r0)) (k_W ad cA u0) := by
  refine g_ofW (cc := c0_R_readSum) (maxL := 7) (ret := (some .boolean)) (by decide) rfl (Nat.le_of_ble_eq_true rfl) ?_
  intro p e s m below meth c A ls hx hb hr hml hown hts hlk hK hA hI hl
  have hts : ∀ w ∈ gW, w.before ([.ref (ad 13), .int a1, .int a2, .int a3] : List Value).toArray s = true := fun w h => hts w (List.mem_cons_of_mem _ h)
  have hown : s.vm.findClass R_R = some m.cls := hown
  have hl : lv_has ls 7 [(0, .ref (ad 13)), (1, .int a1), (2, .int a2), (3, .int a3)] := hl
  have w84 : ∀ (k29 : Int32 → Int32 → Int32 → Int32 → Int32 → KS → Option (Int32 × KS)) (hk29 : ∀ (v1 : Int32) (v2 : Int32) (v3 : Int32) (v4 : Int32) (v5 : Int32) (u : KS) (H : Heap) (locs : List Loc) (ls : Array Slot), lv_has ls 7 [(0, .ref (ad 13)), (1, .int v1), (2, .int v2), (3, .int v3), (4, .int v4), (5, .int v5)] → g_I D vwCl A s.heap H locs (k_W ad cA u) → k29 v1 v2 v3 v4 v5 u = some (r0, u0) → W p l e { frames := 3, cells := 0, slots := 0, locals := 71 } s m ([.ref (ad 13), .int a1, .int a2, .int a3] : List Value).toArray below meth c H locs 0 0 (MQ below (g_Q D vwCl (k_T cA) (k_W ad cA u0) A (some (.int r0))) ([.ref (ad 13), .int a1, .int a2, .int a3] : List Value).toArray s 0 0 A) (F0 m 29 ls [])) (v1 : Int32) (v2 : Int32) (v3 : Int32) (v5 : Int32) (t0 : Int32) (u : KS) (H : Heap) (locs : List Loc) (ls : Array Slot), lv_has ls 7 [(0, .ref (ad 13)), (1, .int v1), (2, .int v2), (3, .int v3), (5, .int v5)] → g_I D vwCl A s.heap H locs (k_W ad cA u) → f_R_readSum_J84 k29 v1 v2 v3 v5 t0 u = some (r0, u0) → W p l e { frames := 3, cells := 0, slots := 0, locals := 71 } s m ([.ref (ad 13), .int a1, .int a2, .int a3] : List Value).toArray below meth c H locs 0 0 (MQ below (g_Q D vwCl (k_T cA) (k_W ad cA u0) A (some (.int r0))) ([.ref (ad 13), .int a1, .int a2, .int a3] : List Value).toArray s 0 0 A) (F0 m 84 ls [.int t0]) := by
    intro k29 hk29 v1 v2 v3 v5 t0 u H locs ls hl hI h
    dsimp only [f_R_readSum_J84] at h
    refine lv_istore (lv' := [(4, .int t0), (0, .ref (ad 13)), (1, .int v1), (2, .int v2), (3, .int v3), (5, .int v5)]) hx hb d_R_readSum_84 hl (by decide) rfl (fun ls hl => ?_)
    refine lv_aload_n hx hb d_R_readSum_86 rfl (lv_at hl 1 rfl) ?_
    refine lv_dup hx hb d_R_readSum_87 rfl ?_
    refine g_get (v := .int (k_at u)) hx hb hts in_R hown hK hI 13 rfl rfl 2 (by decide) (hts _ wd_78) rfl d_R_readSum_88 ?_
    refine lv_iconst (v := 1) hx hb d_R_readSum_91 (by decide) ?_
    refine lv_iadd hx hb d_R_readSum_92 ?_
    obtain ⟨u15, e_u15, h⟩ := lt_e h
    refine g_put (t := .int) (w' := k_W ad cA u15) hx hb hts in_R ty_R tyok_R nm_R hown hK hI 13 rfl rfl 2 (by decide) (hts _ wd_78) rfl (by decide +kernel) rfl rfl (Nat.le_of_ble_eq_true rfl) d_R_readSum_93 (by subst e_u15; rfl) (fun H locs hI => ?_)
    obtain ⟨x16, e_x16, h⟩ := lt_e h
    refine lv_iinc (v := x16) (k := 5) hx hb d_R_readSum_96 hl rfl (by subst e_x16; rfl) (by decide) rfl (fun ls hl => ?_)
    refine lv_goto (tgt := 29) hx hb d_R_readSum_99 rfl ?_
    exact hk29 v1 v2 v3 t0 x16 u15 _ _ _ (lv_sub hl [2, 3, 4, 5, 1, 0] rfl) hI h
  have w71 : ∀ (k29 : Int32 → Int32 → Int32 → Int32 → Int32 → KS → Option (Int32 × KS)) (hk29 : ∀ (v1 : Int32) (v2 : Int32) (v3 : Int32) (v4 : Int32) (v5 : Int32) (u : KS) (H : Heap) (locs : List Loc) (ls : Array Slot), lv_has ls 7 [(0, .ref (ad 13)), (1, .int v1), (2, .int v2), (3, .int v3), (4, .int v4), (5, .int v5)] → g_I D vwCl A s.heap H locs (k_W ad cA u) → k29 v1 v2 v3 v4 v5 u = some (r0, u0) → W p l e { frames := 3, cells := 0, slots := 0, locals := 71 } s m ([.ref (ad 13), .int a1, .int a2, .int a3] : List Value).toArray below meth c H locs 0 0 (MQ below (g_Q D vwCl (k_T cA) (k_W ad cA u0) A (some (.int r0))) ([.ref (ad 13), .int a1, .int a2, .int a3] : List Value).toArray s 0 0 A) (F0 m 29 ls [])) (v1 : Int32) (v2 : Int32) (v3 : Int32) (v5 : Int32) (v6 : Int32) (u : KS) (H : Heap) (locs : List Loc) (ls : Array Slot), lv_has ls 7 [(0, .ref (ad 13)), (1, .int v1), (2, .int v2), (3, .int v3), (5, .int v5), (6, .int v6)] → g_I D vwCl A s.heap H locs (k_W ad cA u) → f_R_readSum_J71 k29 v1 v2 v3 v5 v6 u = some (r0, u0) → W p l e { frames := 3, cells := 0, slots := 0, locals := 71 } s m ([.ref (ad 13), .int a1, .int a2, .int a3] : List Value).toArray below meth c H locs 0 0 (MQ below (g_Q D vwCl (k_T cA) (k_W ad cA u0) A (some (.int r0))) ([.ref (ad 13), .int a1, .int a2, .int a3] : List Value).toArray s 0 0 A) (F0 m 71 ls []) := by
    intro k29 hk29 v1 v2 v3 v5 v6 u H locs ls hl hI h
    dsimp only [f_R_readSum_J71] at h
    refine lv_iload hx hb d_R_readSum_71 (lv_at hl 5 rfl) ?_
    refine lv_bipush (v := 43) hx hb d_R_readSum_73 (by decide) ?_
    refine lv_icmp_ne (tgt := 82) hx hb d_R_readSum_75 rfl (fun hc14 => ?_) (fun hc14 => ?_)
    · rw [if_neg hc14] at h
      refine lv_iload_n hx hb d_R_readSum_82 rfl (lv_at hl 3 rfl) ?_
      refine lv_ineg hx hb d_R_readSum_83 ?_
      exact w84 k29 hk29 v1 v2 v3 v5 (-v3) u _ _ _ (lv_sub hl [0, 1, 2, 3, 4] rfl) hI h
    · rw [if_pos hc14] at h
      refine lv_iload_n hx hb d_R_readSum_78 rfl (lv_at hl 3 rfl) ?_
      refine lv_goto (tgt := 84) hx hb d_R_readSum_79 rfl ?_
      exact w84 k29 hk29 v1 v2 v3 v5 v3 u _ _ _ (lv_sub hl [0, 1, 2, 3, 4] rfl) hI h
  have w29 : ∀ (n : Nat) (v1 : Int32) (v2 : Int32) (v3 : Int32) (v4 : Int32) (v5 : Int32) (u : KS) (H : Heap) (locs : List Loc) (ls : Array Slot), lv_has ls 7 [(0, .ref (ad 13)), (1, .int v1), (2, .int v2), (3, .int v3), (4, .int v4), (5, .int v5)] → g_I D vwCl A s.heap H locs (k_W ad cA u) → f_R_readSum_L29 n v1 v2 v3 v4 v5 u = some (r0, u0) → W p l e { frames := 3, cells := 0, slots := 0, locals := 71 } s m ([.ref (ad 13), .int a1, .int a2, .int a3] : List Value).toArray below meth c H locs 0 0 (MQ below (g_Q D vwCl (k_T cA) (k_W ad cA u0) A (some (.int r0))) ([.ref (ad 13), .int a1, .int a2, .int a3] : List Value).toArray s 0 0 A) (F0 m 29 ls []) := by
    intro  n
    induction n with
    | zero => intro v1 v2 v3 v4 v5 u H locs ls hl hI h; cases h
    | succ n ih =>
      intro v1 v2 v3 v4 v5 u H locs ls hl hI h
      dsimp only [f_R_readSum_L29] at h
      refine lv_iload hx hb d_R_readSum_29 (lv_at hl 5 rfl) ?_
      refine lv_bipush (v := 120) hx hb d_R_readSum_31 (by decide) ?_
      refine lv_icmp_ge (tgt := 102) hx hb d_R_readSum_33 rfl (fun hc6 => ?_) (fun hc6 => ?_)
      · rw [if_pos hc6] at h
        refine lv_iconst (v := 0) hx hb d_R_readSum_102 (by decide) ?_
        exact g_zret (Wd := k_W ad cA) hx hb hr hlk hK hI h d_R_readSum_103
      · rw [if_neg hc6] at h
        refine lv_aload_n hx hb d_R_readSum_36 rfl (lv_at hl 0 rfl) ?_
        refine lv_iload_n hx hb d_R_readSum_37 rfl (lv_at hl 1 rfl) ?_
        refine lv_iload_n hx hb d_R_readSum_38 rfl (lv_at hl 2 rfl) ?_
        refine lv_iload hx hb d_R_readSum_39 (lv_at hl 4 rfl) ?_
        obtain ⟨r7, u8, hc, h⟩ := ob_e h
        refine g_callV (As := [.int v1, .int v2, .int v4]) (rest := []) (w' := k_W ad cA u8) (o := some (.int r7)) ⟨hx, hb, hml, hown, hts⟩ (c_R_readPart l D ad cA hc) (cwV 3 hts gq_R_103 rfl rfl rfl (by decide +kernel) ⟨Nat.le_of_ble_eq_true rfl, Nat.le_of_ble_eq_true rfl⟩) hK hI hA 13 3 rfl rfl rfl hl.1 rfl (Nat.le_of_ble_eq_true rfl) d_R_readSum_41 ⟨Nat.zero_le _, Nat.zero_le _⟩ rfl (fun H locs hI => ?_)
        refine lv_if_ne (tgt := 49) hx hb d_R_readSum_44 rfl (fun hc9 => ?_) (fun hc9 => ?_)
        · rw [if_neg hc9] at h
          refine lv_aload_n hx hb d_R_readSum_49 rfl (lv_at hl 0 rfl) ?_
          obtain ⟨r10, u11, hc, h⟩ := ob_e h
          refine g_callV (As := []) (rest := []) (w' := k_W ad cA u11) (o := some (.int r10)) ⟨hx, hb, hml, hown, hts⟩ (c_R_mark l D ad cA hc) (cwV 0 hts gq_R_37 rfl rfl rfl (by decide +kernel) ⟨Nat.le_of_ble_eq_true rfl, Nat.le_of_ble_eq_true rfl⟩) hK hI hA 13 3 rfl rfl rfl hl.1 rfl (Nat.le_of_ble_eq_true rfl) d_R_readSum_50 ⟨Nat.zero_le _, Nat.zero_le _⟩ rfl (fun H locs hI => ?_)
          refine lv_istore (lv' := [(6, .int r10), (0, .ref (ad 13)), (1, .int v1), (2, .int v2), (3, .int v3), (4, .int v4), (5, .int v5)]) hx hb d_R_readSum_53 hl (by decide) rfl (fun ls hl => ?_)
          refine lv_iload hx hb d_R_readSum_55 (lv_at hl 0 rfl) ?_
          refine lv_bipush (v := 43) hx hb d_R_readSum_57 (by decide) ?_
          refine lv_icmp_eq (tgt := 71) hx hb d_R_readSum_59 rfl (fun hc12 => ?_) (fun hc12 => ?_)
          · rw [if_pos hc12] at h
            exact w71 (f_R_readSum_L29 n) ih v1 v2 v3 v5 r10 u11 _ _ _ (lv_sub hl [1, 2, 3, 4, 6, 0] rfl) hI h
          · rw [if_neg hc12] at h
            refine lv_iload hx hb d_R_readSum_62 (lv_at hl 0 rfl) ?_
            refine lv_bipush (v := 45) hx hb d_R_readSum_64 (by decide) ?_
            refine lv_icmp_eq (tgt := 71) hx hb d_R_readSum_66 rfl (fun hc13 => ?_) (fun hc13 => ?_)
            · rw [if_pos hc13] at h
              exact w71 (f_R_readSum_L29 n) ih v1 v2 v3 v5 r10 u11 _ _ _ (lv_sub hl [1, 2, 3, 4, 6, 0] rfl) hI h
            · rw [if_neg hc13] at h
              refine lv_iconst (v := 1) hx hb d_R_readSum_69 (by decide) ?_
              exact g_zret (Wd := k_W ad cA) hx hb hr hlk hK hI h d_R_readSum_70
        · rw [if_pos hc9] at h
          refine lv_iconst (v := 0) hx hb d_R_readSum_47 (by decide) ?_
          exact g_zret (Wd := k_W ad cA) hx hb hr hlk hK hI h d_R_readSum_48
  dsimp only [f_R_readSum] at h
  refine lv_iload_n hx hb d_R_readSum_0 rfl (lv_at hl 3 rfl) ?_
  refine lv_istore (lv' := [(4, .int a3), (0, .ref (ad 13)), (1, .int a1), (2, .int a2), (3, .int a3)]) hx hb d_R_readSum_1 hl (by decide) rfl (fun ls hl => ?_)
  refine lv_aload_n hx hb d_R_readSum_3 rfl (lv_at hl 1 rfl) ?_
  obtain ⟨r1, u2, hc, h⟩ := ob_e h
  refine g_callV (As := []) (rest := []) (w' := k_W ad cA u2) (o := some (.int r1)) ⟨hx, hb, hml, hown, hts⟩ (c_R_mark l D ad cA hc) (cwV 0 hts gq_R_37 rfl rfl rfl (by decide +kernel) ⟨Nat.le_of_ble_eq_true rfl, Nat.le_of_ble_eq_true rfl⟩) hK hI hA 13 3 rfl rfl rfl hl.1 rfl (Nat.le_of_ble_eq_true rfl) d_R_readSum_4 ⟨Nat.zero_le _, Nat.zero_le _⟩ rfl (fun H locs hI => ?_)
  refine lv_bipush (v := 45) hx hb d_R_readSum_7 (by decide) ?_
  refine lv_icmp_ne (tgt := 26) hx hb d_R_readSum_9 rfl (fun hc3 => ?_) (fun hc3 => ?_)
  · rw [if_neg hc3] at h
    refine lv_iconst (v := 0) hx hb d_R_readSum_26 (by decide) ?_
    refine lv_istore (lv' := [(5, .int 0), (4, .int a3), (0, .ref (ad 13)), (1, .int a1), (2, .int a2), (3, .int a3)]) hx hb d_R_readSum_27 hl (by decide) rfl (fun ls hl => ?_)
    exact w29 4096 a1 a2 a3 a3 0 u2 _ _ _ (lv_sub hl [2, 3, 4, 5, 1, 0] rfl) hI h
  · rw [if_pos hc3] at h
    refine lv_iload_n hx hb d_R_readSum_12 rfl (lv_at hl 4 rfl) ?_
    refine lv_ineg hx hb d_R_readSum_13 ?_
    obtain ⟨x4, e_x4, h⟩ := lt_e h
    refine lv_istore (lv' := [(4, .int x4), (0, .ref (ad 13)), (1, .int a1), (2, .int a2), (3, .int a3)]) hx hb d_R_readSum_14 hl (by decide) (by subst e_x4; rfl) (fun ls hl => ?_)
    refine lv_aload_n hx hb d_R_readSum_16 rfl (lv_at hl 1 rfl) ?_
    refine lv_dup hx hb d_R_readSum_17 rfl ?_
    refine g_get (v := .int (k_at u2)) hx hb hts in_R hown hK hI 13 rfl rfl 2 (by decide) (hts _ wd_78) rfl d_R_readSum_18 ?_
    refine lv_iconst (v := 1) hx hb d_R_readSum_21 (by decide) ?_
    refine lv_iadd hx hb d_R_readSum_22 ?_
    obtain ⟨u5, e_u5, h⟩ := lt_e h
    refine g_put (t := .int) (w' := k_W ad cA u5) hx hb hts in_R ty_R tyok_R nm_R hown hK hI 13 rfl rfl 2 (by decide) (hts _ wd_78) rfl (by decide +kernel) rfl rfl (Nat.le_of_ble_eq_true rfl) d_R_readSum_23 (by subst e_u5; rfl) (fun H locs hI => ?_)
    refine lv_iconst (v := 0) hx hb d_R_readSum_26 (by decide) ?_
    refine lv_istore (lv' := [(5, .int 0), (4, .int x4), (0, .ref (ad 13)), (1, .int a1), (2, .int a2), (3, .int a3)]) hx hb d_R_readSum_27 hl (by decide) rfl (fun ls hl => ?_)
    exact w29 4096 a1 a2 a3 x4 0 u5 _ _ _ (lv_sub hl [2, 3, 4, 5, 1, 0] rfl) hI h
def f_C_putKind (a1 : Int32) (a2 : Int32) (u : KS) : Option (Unit × KS) := ob (f_C_has a1 u) fun r1 u2 => if r1 = 0 then some ((), u2) else (gd (inb a1 20) (lt_ (k_p_kd (upd (k_kd u2) a1.toNatClampNeg a2) u2) fun u4 => some ((), u4)))
set_option maxRecDepth 100000 in
set_option maxHeartbeats 4000000 in
theorem c_C_putKind (l : Launch) (D : va_G) (ad : Nat → Nat) (cA : Nat → ClassId) {a1 : Int32} {a2 : Int32} {u u0 : KS} {r0 : Unit} (h : f_C_putKind a1 a2 u = some (r0, u0)) : g_M l y_C_putKind w_C_putKind { frames := 1, cells := 0, slots := 0, locals := 21 } D vwCl (k_T cA) (k_W ad cA u) [.ref (ad 4), .int a1, .int a2] none (k_W ad cA u0) := by
  refine g_ofW (cc := c0_C_putKind) (maxL := 3) (ret := none) (by decide) rfl (Nat.le_of_ble_eq_true rfl) ?_
  intro p e s m below meth c A ls hx hb hr hml hown hts hlk hK hA hI hl
  have hts : ∀ w ∈ gW, w.before ([.ref (ad 4), .int a1, .int a2] : List Value).toArray s = true := fun w h => hts w (List.mem_cons_of_mem _ h)
  have hown : s.vm.findClass R_C = some m.cls := hown
  have hl : lv_has ls 3 [(0, .ref (ad 4)), (1, .int a1), (2, .int a2)] := hl
  dsimp only [f_C_putKind] at h
  refine lv_aload_n hx hb d_C_putKind_0 rfl (lv_at hl 0 rfl) ?_
  refine lv_iload_n hx hb d_C_putKind_1 rfl (lv_at hl 1 rfl) ?_
  obtain ⟨r1, u2, hc, h⟩ := ob_e h
  refine g_callV (As := [.int a1]) (rest := []) (w' := k_W ad cA u2) (o := some (.int r1)) ⟨hx, hb, hml, hown, hts⟩ (c_C_has l D ad cA hc) (cwV 1 hts gq_C_40 rfl rfl rfl (by decide +kernel) ⟨Nat.le_of_ble_eq_true rfl, Nat.le_of_ble_eq_true rfl⟩) hK hI hA 4 2 rfl rfl rfl hl.1 rfl (Nat.le_of_ble_eq_true rfl) d_C_putKind_2 ⟨Nat.zero_le _, Nat.zero_le _⟩ rfl (fun H locs hI => ?_)
  refine lv_if_eq (tgt := 15) hx hb d_C_putKind_5 rfl (fun hc3 => ?_) (fun hc3 => ?_)
  · rw [if_pos hc3] at h
    exact g_vret (Wd := k_W ad cA) hx hb hr hlk hK hI h d_C_putKind_15
  · rw [if_neg hc3] at h
    refine lv_aload_n hx hb d_C_putKind_8 rfl (lv_at hl 0 rfl) ?_
    refine g_get (v := .ref (ad 5)) hx hb hts in_C hown hK hI 4 rfl rfl 0 (by decide) (hts _ wd_42) rfl d_C_putKind_9 ?_
    refine lv_iload_n hx hb d_C_putKind_12 rfl (lv_at hl 1 rfl) ?_
    refine lv_iload_n hx hb d_C_putKind_13 rfl (lv_at hl 2 rfl) ?_
    obtain ⟨hg, h⟩ := gd_e h
    obtain ⟨u4, e_u4, h⟩ := lt_e h
    refine g_iast (w' := k_W ad cA u4) hx hb hK hI 5 2 rfl rfl hg d_C_putKind_14 (by subst e_u4; rfl) (fun H locs hI => ?_)
    exact g_vret (Wd := k_W ad cA) hx hb hr hlk hK hI h d_C_putKind_15
def f_J_abs (a0 : Int32) (u : KS) : Option (Int32 × KS) := if 0 ≤ a0 then some (a0, u) else some (-a0, u)
set_option maxRecDepth 100000 in
set_option maxHeartbeats 4000000 in
theorem c_J_abs (l : Launch) (D : va_G) (ad : Nat → Nat) (cA : Nat → ClassId) {a0 : Int32} {u u0 : KS} {r0 : Int32} (h : f_J_abs a0 u = some (r0, u0)) : g_M l y_J_abs w_J_abs { frames := 0, cells := 0, slots := 0, locals := 0 } D vwCl (k_T cA) (k_W ad cA u) [.int a0] (some (.int r0)) (k_W ad cA u0) := by
  refine g_ofF (cc := c0_J_abs) (maxL := 1) (ret := (some .int)) (by decide +kernel) rfl (Nat.le_of_ble_eq_true rfl) ?_
  intro p e s m below meth c A ls hx hb hr hml hown hts hlk hK hA hI hl
  have hts : ∀ w ∈ gW, w.before ([.int a0] : List Value).toArray s = true := fun w h => hts w (List.mem_cons_of_mem _ h)
  have hown : s.vm.findClass R_J = some m.cls := hown
  have hl : lv_has ls 1 [(0, .int a0)] := hl
  dsimp only [f_J_abs] at h
  refine lv_iload_n hx hb d_J_abs_0 rfl (lv_at hl 0 rfl) ?_
  refine lv_if_ge (tgt := 9) hx hb d_J_abs_1 rfl (fun hc1 => ?_) (fun hc1 => ?_)
  · rw [if_pos hc1] at h
    refine lv_iload_n hx hb d_J_abs_9 rfl (lv_at hl 0 rfl) ?_
    exact g_iret (Wd := k_W ad cA) hx hb hr hlk hK hI h d_J_abs_10
  · rw [if_neg hc1] at h
    refine lv_iload_n hx hb d_J_abs_4 rfl (lv_at hl 0 rfl) ?_
    refine lv_ineg hx hb d_J_abs_5 ?_
    refine lv_goto (tgt := 10) hx hb d_J_abs_6 rfl ?_
    exact g_iret (Wd := k_W ad cA) hx hb hr hlk hK hI h d_J_abs_10
def f_C_isWithin_L13 (n : Nat) : Int32 → Int32 → Int32 → Int32 → KS → Option (Int32 × KS) := match n with
  | 0 => fun _ _ _ _ _ => none
  | n + 1 => fun v1 v2 v3 v4 u => if 3 ≤ v4 then (gd (inb v1 20) (ob (f_J_abs (k_nu u v1.toNatClampNeg) u) fun r5 u6 => if v3 < r5 then (gd (bz 0) (some (0, u6))) else (gd (bz 1) (some (1, u6))))) else (gd (inb ((v1 * 3) + v4) 60) (ob (f_J_abs (k_fa u ((v1 * 3) + v4).toNatClampNeg) u) fun r8 u9 => if r8 ≤ v2 then (lt_ (v4 + 1) fun x11 => f_C_isWithin_L13 n v1 v2 v3 x11 u9) else (gd (bz 0) (some (0, u9)))))
def f_C_isWithin (a1 : Int32) (a2 : Int32) (a3 : Int32) (u : KS) : Option (Int32 × KS) := ob (f_C_has a1 u) fun r1 u2 => if r1 = 0 then (gd (bz 0) (some (0, u2))) else f_C_isWithin_L13 4096 a1 a2 a3 0 u2
set_option maxRecDepth 100000 in
set_option maxHeartbeats 4000000 in
theorem c_C_isWithin (l : Launch) (D : va_G) (ad : Nat → Nat) (cA : Nat → ClassId) {a1 : Int32} {a2 : Int32} {a3 : Int32} {u u0 : KS} {r0 : Int32} (h : f_C_isWithin a1 a2 a3 u = some (r0, u0)) : g_M l y_C_isWithin w_C_isWithin { frames := 1, cells := 0, slots := 0, locals := 21 } D vwCl (k_T cA) (k_W ad cA u) [.ref (ad 4), .int a1, .int a2, .int a3] (some (.int r0)) (k_W ad cA u0) := by
  refine g_ofW (cc := c0_C_isWithin) (maxL := 5) (ret := (some .boolean)) (by decide) rfl (Nat.le_of_ble_eq_true rfl) ?_
  intro p e s m below meth c A ls hx hb hr hml hown hts hlk hK hA hI hl
  have hts : ∀ w ∈ gW, w.before ([.ref (ad 4), .int a1, .int a2, .int a3] : List Value).toArray s = true := fun w h => hts w (List.mem_cons_of_mem _ h)
  have hown : s.vm.findClass R_C = some m.cls := hown
  have hl : lv_has ls 5 [(0, .ref (ad 4)), (1, .int a1), (2, .int a2), (3, .int a3)] := hl
  have w13 : ∀ (n : Nat) (v1 : Int32) (v2 : Int32) (v3 : Int32) (v4 : Int32) (u : KS) (H : Heap) (locs : List Loc) (ls : Array Slot), lv_has ls 5 [(0, .ref (ad 4)), (1, .int v1), (2, .int v2), (3, .int v3), (4, .int v4)] → g_I D vwCl A s.heap H locs (k_W ad cA u) → f_C_isWithin_L13 n v1 v2 v3 v4 u = some (r0, u0) → W p l e { frames := 1, cells := 0, slots := 0, locals := 21 } s m ([.ref (ad 4), .int a1, .int a2, .int a3] : List Value).toArray below meth c H locs 0 0 (MQ below (g_Q D vwCl (k_T cA) (k_W ad cA u0) A (some (.int r0))) ([.ref (ad 4), .int a1, .int a2, .int a3] : List Value).toArray s 0 0 A) (F0 m 13 ls []) := by
    intro  n
    induction n with
    | zero => intro v1 v2 v3 v4 u H locs ls hl hI h; cases h
    | succ n ih =>
      intro v1 v2 v3 v4 u H locs ls hl hI h
      dsimp only [f_C_isWithin_L13] at h
      refine lv_iload hx hb d_C_isWithin_13 (lv_at hl 4 rfl) ?_
      refine lv_iconst (v := 3) hx hb d_C_isWithin_15 (by decide) ?_
      refine lv_icmp_ge (tgt := 45) hx hb d_C_isWithin_16 rfl (fun hc4 => ?_) (fun hc4 => ?_)
      · rw [if_pos hc4] at h
        refine lv_aload_n hx hb d_C_isWithin_45 rfl (lv_at hl 0 rfl) ?_
        refine g_get (v := .ref (ad 9)) hx hb hts in_C hown hK hI 4 rfl rfl 4 (by decide) (hts _ wd_46) rfl d_C_isWithin_46 ?_
        refine lv_iload_n hx hb d_C_isWithin_49 rfl (lv_at hl 1 rfl) ?_
        obtain ⟨hg, h⟩ := gd_e h
        refine g_iald hx hb hK hI 9 6 rfl rfl hg d_C_isWithin_50 ?_
        obtain ⟨r5, u6, hc, h⟩ := ob_e h
        refine g_callS (As := [.int (k_nu u v1.toNatClampNeg)]) (rest := []) (w' := k_W ad cA u6) (o := some (.int r5)) ⟨hx, hb, hml, hown, hts⟩ (c_J_abs l D ad cA hc) (va_cwS 1 hts gq_C_44 rfl rfl rfl (by decide +kernel) ⟨Nat.le_of_ble_eq_true rfl, Nat.le_of_ble_eq_true rfl⟩) hK hI hA rfl hl.1 rfl (Nat.le_of_ble_eq_true rfl) d_C_isWithin_51 ⟨Nat.zero_le _, Nat.zero_le _⟩ rfl (fun H locs hI => ?_)
        refine lv_iload_n hx hb d_C_isWithin_54 rfl (lv_at hl 3 rfl) ?_
        refine lv_icmp_gt (tgt := 62) hx hb d_C_isWithin_55 rfl (fun hc7 => ?_) (fun hc7 => ?_)
        · rw [if_pos hc7] at h
          refine lv_iconst (v := 0) hx hb d_C_isWithin_62 (by decide) ?_
          exact g_zret (Wd := k_W ad cA) hx hb hr hlk hK hI h d_C_isWithin_63
        · rw [if_neg hc7] at h
          refine lv_iconst (v := 1) hx hb d_C_isWithin_58 (by decide) ?_
          refine lv_goto (tgt := 63) hx hb d_C_isWithin_59 rfl ?_
          exact g_zret (Wd := k_W ad cA) hx hb hr hlk hK hI h d_C_isWithin_63
      · rw [if_neg hc4] at h
        refine lv_aload_n hx hb d_C_isWithin_19 rfl (lv_at hl 0 rfl) ?_
        refine g_get (v := .ref (ad 10)) hx hb hts in_C hown hK hI 4 rfl rfl 5 (by decide) (hts _ wd_47) rfl d_C_isWithin_20 ?_
        refine lv_iload_n hx hb d_C_isWithin_23 rfl (lv_at hl 1 rfl) ?_
        refine lv_iconst (v := 3) hx hb d_C_isWithin_24 (by decide) ?_
        refine lv_imul hx hb d_C_isWithin_25 ?_
        refine lv_iload hx hb d_C_isWithin_26 (lv_at hl 4 rfl) ?_
        refine lv_iadd hx hb d_C_isWithin_28 ?_
        obtain ⟨hg, h⟩ := gd_e h
        refine g_iald hx hb hK hI 10 7 rfl rfl hg d_C_isWithin_29 ?_
        obtain ⟨r8, u9, hc, h⟩ := ob_e h
        refine g_callS (As := [.int (k_fa u ((v1 * 3) + v4).toNatClampNeg)]) (rest := []) (w' := k_W ad cA u9) (o := some (.int r8)) ⟨hx, hb, hml, hown, hts⟩ (c_J_abs l D ad cA hc) (va_cwS 1 hts gq_C_44 rfl rfl rfl (by decide +kernel) ⟨Nat.le_of_ble_eq_true rfl, Nat.le_of_ble_eq_true rfl⟩) hK hI hA rfl hl.1 rfl (Nat.le_of_ble_eq_true rfl) d_C_isWithin_30 ⟨Nat.zero_le _, Nat.zero_le _⟩ rfl (fun H locs hI => ?_)
        refine lv_iload_n hx hb d_C_isWithin_33 rfl (lv_at hl 2 rfl) ?_
        refine lv_icmp_le (tgt := 39) hx hb d_C_isWithin_34 rfl (fun hc10 => ?_) (fun hc10 => ?_)
        · rw [if_pos hc10] at h
          obtain ⟨x11, e_x11, h⟩ := lt_e h
          refine lv_iinc (v := x11) (k := 4) hx hb d_C_isWithin_39 hl rfl (by subst e_x11; rfl) (by decide) rfl (fun ls hl => ?_)
          refine lv_goto (tgt := 13) hx hb d_C_isWithin_42 rfl ?_
          exact ih v1 v2 v3 x11 u9 _ _ _ (lv_sub hl [1, 2, 3, 4, 0] rfl) hI h
        · rw [if_neg hc10] at h
          refine lv_iconst (v := 0) hx hb d_C_isWithin_37 (by decide) ?_
          exact g_zret (Wd := k_W ad cA) hx hb hr hlk hK hI h d_C_isWithin_38
  dsimp only [f_C_isWithin] at h
  refine lv_aload_n hx hb d_C_isWithin_0 rfl (lv_at hl 0 rfl) ?_
  refine lv_iload_n hx hb d_C_isWithin_1 rfl (lv_at hl 1 rfl) ?_
  obtain ⟨r1, u2, hc, h⟩ := ob_e h
  refine g_callV (As := [.int a1]) (rest := []) (w' := k_W ad cA u2) (o := some (.int r1)) ⟨hx, hb, hml, hown, hts⟩ (c_C_has l D ad cA hc) (cwV 1 hts gq_C_40 rfl rfl rfl (by decide +kernel) ⟨Nat.le_of_ble_eq_true rfl, Nat.le_of_ble_eq_true rfl⟩) hK hI hA 4 2 rfl rfl rfl hl.1 rfl (Nat.le_of_ble_eq_true rfl) d_C_isWithin_2 ⟨Nat.zero_le _, Nat.zero_le _⟩ rfl (fun H locs hI => ?_)
  refine lv_if_ne (tgt := 10) hx hb d_C_isWithin_5 rfl (fun hc3 => ?_) (fun hc3 => ?_)
  · rw [if_neg hc3] at h
    refine lv_iconst (v := 0) hx hb d_C_isWithin_10 (by decide) ?_
    refine lv_istore (lv' := [(4, .int 0), (0, .ref (ad 4)), (1, .int a1), (2, .int a2), (3, .int a3)]) hx hb d_C_isWithin_11 hl (by decide) rfl (fun ls hl => ?_)
    exact w13 4096 a1 a2 a3 0 u2 _ _ _ (lv_sub hl [1, 2, 3, 4, 0] rfl) hI h
  · rw [if_pos hc3] at h
    refine lv_iconst (v := 0) hx hb d_C_isWithin_8 (by decide) ?_
    exact g_zret (Wd := k_W ad cA) hx hb hr hlk hK hI h d_C_isWithin_9
def f_R_readBracket_J133 (v2 : Int32) (t0 : Int32) (t1 : Int32) (t2 : Int32) (u : KS) : Option (Int32 × KS) := ob (f_R_readSum t2 t1 t0 u) fun r25 u26 => if r25 = 0 then (gd (bz 0) (some (0, u26))) else (ob (f_R_mark u26) fun r28 u29 => if r28 = 93 then (ob (f_C_isWithin v2 2 15 u29) fun r31 u32 => if r31 = 0 then (gd (bz 0) (some (0, u32))) else (lt_ (k_p_at ((k_at u32) + 1) u32) fun u34 => gd (bz 1) (some (1, u34)))) else (gd (bz 0) (some (0, u29))))
def f_R_readBracket_J101 (v1 : Int32) (v2 : Int32) (v3 : Int32) (v4 : Int32) (u : KS) : Option (Int32 × KS) := ob (f_C_putKind v2 v4 u) fun r21 u22 => lt_ (k_p_at ((k_at u22) + 1) u22) fun u23 => if v3 = 0 then f_R_readBracket_J133 v2 ((-1)) v1 v2 u23 else f_R_readBracket_J133 v2 1 v1 v2 u23
def f_R_readBracket_J75 (v1 : Int32) (v2 : Int32) (v3 : Int32) (u : KS) : Option (Int32 × KS) := ob (f_R_mark u) fun r16 u17 => if v3 = 0 then (if r16 = 60 then f_R_readBracket_J101 v1 v2 v3 r16 u17 else (if r16 = 61 then f_R_readBracket_J101 v1 v2 v3 r16 u17 else (gd (bz 0) (some (0, u17))))) else f_R_readBracket_J101 v1 v2 v3 r16 u17
def f_R_readBracket (a1 : Int32) (u : KS) : Option (Int32 × KS) := if (k_br u) < 8 then (lt_ (k_p_br ((k_br u) + 1) u) fun u2 => ob (f_R_begin u2) fun r3 u4 => ob (f_R_isDivisor u4) fun r5 u6 => if r5 = 0 then (ob (f_R_readSum r3 a1 1 u6) fun r8 u9 => if r8 = 0 then (gd (bz 0) (some (0, u9))) else f_R_readBracket_J75 a1 r3 r5 u9) else (ob (f_R_mark u6) fun r11 u12 => ob (f_C_putDivisor r3 (r11 - 48) u12) fun r13 u14 => lt_ (k_p_at ((k_at u14) + 1) u14) fun u15 => f_R_readBracket_J75 a1 r3 r5 u15)) else (gd (bz 0) (some (0, u)))
set_option maxRecDepth 100000 in
set_option maxHeartbeats 4000000 in
theorem c_R_readBracket (l : Launch) (D : va_G) (ad : Nat → Nat) (cA : Nat → ClassId) {a1 : Int32} {u u0 : KS} {r0 : Int32} (h : f_R_readBracket a1 u = some (r0, u0)) : g_M l y_R_readBracket w_R_readBracket { frames := 4, cells := 0, slots := 0, locals := 97 } D vwCl (k_T cA) (k_W ad cA u) [.ref (ad 13), .int a1] (some (.int r0)) (k_W ad cA u0) := by
  refine g_ofW (cc := c0_R_readBracket) (maxL := 5) (ret := (some .boolean)) (by decide) rfl (Nat.le_of_ble_eq_true rfl) ?_
  intro p e s m below meth c A ls hx hb hr hml hown hts hlk hK hA hI hl
  have hts : ∀ w ∈ gW, w.before ([.ref (ad 13), .int a1] : List Value).toArray s = true := fun w h => hts w (List.mem_cons_of_mem _ h)
  have hown : s.vm.findClass R_R = some m.cls := hown
  have hl : lv_has ls 5 [(0, .ref (ad 13)), (1, .int a1)] := hl
  have w133 : ∀ (v2 : Int32) (t0 : Int32) (t1 : Int32) (t2 : Int32) (u : KS) (H : Heap) (locs : List Loc) (ls : Array Slot), lv_has ls 5 [(0, .ref (ad 13)), (2, .int v2)] → g_I D vwCl A s.heap H locs (k_W ad cA u) → f_R_readBracket_J133 v2 t0 t1 t2 u = some (r0, u0) → W p l e { frames := 4, cells := 0, slots := 0, locals := 97 } s m ([.ref (ad 13), .int a1] : List Value).toArray below meth c H locs 0 0 (MQ below (g_Q D vwCl (k_T cA) (k_W ad cA u0) A (some (.int r0))) ([.ref (ad 13), .int a1] : List Value).toArray s 0 0 A) (F0 m 133 ls [.int t0, .int t1, .int t2, .ref (ad 13)]) := by
    intro  v2 t0 t1 t2 u H locs ls hl hI h
    dsimp only [f_R_readBracket_J133] at h
    obtain ⟨r25, u26, hc, h⟩ := ob_e h
    refine g_callV (As := [.int t2, .int t1, .int t0]) (rest := []) (w' := k_W ad cA u26) (o := some (.int r25)) ⟨hx, hb, hml, hown, hts⟩ (c_R_readSum l D ad cA hc) (cwV 3 hts gq_R_93 rfl rfl rfl (by decide +kernel) ⟨Nat.le_of_ble_eq_true rfl, Nat.le_of_ble_eq_true rfl⟩) hK hI hA 13 3 rfl rfl rfl hl.1 rfl (Nat.le_of_ble_eq_true rfl) d_R_readBracket_133 ⟨Nat.zero_le _, Nat.zero_le _⟩ rfl (fun H locs hI => ?_)
    refine lv_if_eq (tgt := 148) hx hb d_R_readBracket_136 rfl (fun hc27 => ?_) (fun hc27 => ?_)
    · rw [if_pos hc27] at h
      refine lv_iconst (v := 0) hx hb d_R_readBracket_148 (by decide) ?_
      exact g_zret (Wd := k_W ad cA) hx hb hr hlk hK hI h d_R_readBracket_149
    · rw [if_neg hc27] at h
      refine lv_aload_n hx hb d_R_readBracket_139 rfl (lv_at hl 0 rfl) ?_
      obtain ⟨r28, u29, hc, h⟩ := ob_e h
      refine g_callV (As := []) (rest := []) (w' := k_W ad cA u29) (o := some (.int r28)) ⟨hx, hb, hml, hown, hts⟩ (c_R_mark l D ad cA hc) (cwV 0 hts gq_R_37 rfl rfl rfl (by decide +kernel) ⟨Nat.le_of_ble_eq_true rfl, Nat.le_of_ble_eq_true rfl⟩) hK hI hA 13 3 rfl rfl rfl hl.1 rfl (Nat.le_of_ble_eq_true rfl) d_R_readBracket_140 ⟨Nat.zero_le _, Nat.zero_le _⟩ rfl (fun H locs hI => ?_)
      refine lv_bipush (v := 93) hx hb d_R_readBracket_143 (by decide) ?_
      refine lv_icmp_eq (tgt := 150) hx hb d_R_readBracket_145 rfl (fun hc30 => ?_) (fun hc30 => ?_)
      · rw [if_pos hc30] at h
        refine lv_aload_n hx hb d_R_readBracket_150 rfl (lv_at hl 0 rfl) ?_
        refine g_get (v := .ref (ad 4)) hx hb hts in_R hown hK hI 13 rfl rfl 1 (by decide) (hts _ wd_77) rfl d_R_readBracket_151 ?_
        refine lv_iload_n hx hb d_R_readBracket_154 rfl (lv_at hl 1 rfl) ?_
        refine lv_iconst (v := 2) hx hb d_R_readBracket_155 (by decide) ?_
        refine lv_bipush (v := 15) hx hb d_R_readBracket_156 (by decide) ?_
        obtain ⟨r31, u32, hc, h⟩ := ob_e h
        refine g_callV (As := [.int v2, .int 2, .int 15]) (rest := []) (w' := k_W ad cA u32) (o := some (.int r31)) ⟨hx, hb, hml, hown, hts⟩ (c_C_isWithin l D ad cA hc) (cwV 3 hts gq_R_100 rfl rfl rfl (by decide +kernel) ⟨Nat.le_of_ble_eq_true rfl, Nat.le_of_ble_eq_true rfl⟩) hK hI hA 4 2 rfl rfl rfl hl.1 rfl (Nat.le_of_ble_eq_true rfl) d_R_readBracket_158 ⟨Nat.zero_le _, Nat.zero_le _⟩ rfl (fun H locs hI => ?_)
        refine lv_if_ne (tgt := 166) hx hb d_R_readBracket_161 rfl (fun hc33 => ?_) (fun hc33 => ?_)
        · rw [if_neg hc33] at h
          refine lv_aload_n hx hb d_R_readBracket_166 rfl (lv_at hl 0 rfl) ?_
          refine lv_dup hx hb d_R_readBracket_167 rfl ?_
          refine g_get (v := .int (k_at u32)) hx hb hts in_R hown hK hI 13 rfl rfl 2 (by decide) (hts _ wd_78) rfl d_R_readBracket_168 ?_
          refine lv_iconst (v := 1) hx hb d_R_readBracket_171 (by decide) ?_
          refine lv_iadd hx hb d_R_readBracket_172 ?_
          obtain ⟨u34, e_u34, h⟩ := lt_e h
          refine g_put (t := .int) (w' := k_W ad cA u34) hx hb hts in_R ty_R tyok_R nm_R hown hK hI 13 rfl rfl 2 (by decide) (hts _ wd_78) rfl (by decide +kernel) rfl rfl (Nat.le_of_ble_eq_true rfl) d_R_readBracket_173 (by subst e_u34; rfl) (fun H locs hI => ?_)
          refine lv_iconst (v := 1) hx hb d_R_readBracket_176 (by decide) ?_
          exact g_zret (Wd := k_W ad cA) hx hb hr hlk hK hI h d_R_readBracket_177
        · rw [if_pos hc33] at h
          refine lv_iconst (v := 0) hx hb d_R_readBracket_164 (by decide) ?_
          exact g_zret (Wd := k_W ad cA) hx hb hr hlk hK hI h d_R_readBracket_165
      · rw [if_neg hc30] at h
        refine lv_iconst (v := 0) hx hb d_R_readBracket_148 (by decide) ?_
        exact g_zret (Wd := k_W ad cA) hx hb hr hlk hK hI h d_R_readBracket_149
  have w101 : ∀ (v1 : Int32) (v2 : Int32) (v3 : Int32) (v4 : Int32) (u : KS) (H : Heap) (locs : List Loc) (ls : Array Slot), lv_has ls 5 [(0, .ref (ad 13)), (1, .int v1), (2, .int v2), (3, .int v3), (4, .int v4)] → g_I D vwCl A s.heap H locs (k_W ad cA u) → f_R_readBracket_J101 v1 v2 v3 v4 u = some (r0, u0) → W p l e { frames := 4, cells := 0, slots := 0, locals := 97 } s m ([.ref (ad 13), .int a1] : List Value).toArray below meth c H locs 0 0 (MQ below (g_Q D vwCl (k_T cA) (k_W ad cA u0) A (some (.int r0))) ([.ref (ad 13), .int a1] : List Value).toArray s 0 0 A) (F0 m 101 ls []) := by
    intro  v1 v2 v3 v4 u H locs ls hl hI h
    dsimp only [f_R_readBracket_J101] at h
    refine lv_aload_n hx hb d_R_readBracket_101 rfl (lv_at hl 0 rfl) ?_
    refine g_get (v := .ref (ad 4)) hx hb hts in_R hown hK hI 13 rfl rfl 1 (by decide) (hts _ wd_77) rfl d_R_readBracket_102 ?_
    refine lv_iload_n hx hb d_R_readBracket_105 rfl (lv_at hl 2 rfl) ?_
    refine lv_iload hx hb d_R_readBracket_106 (lv_at hl 4 rfl) ?_
    obtain ⟨r21, u22, hc, h⟩ := ob_e h
    refine g_callV (As := [.int v2, .int v4]) (rest := []) (w' := k_W ad cA u22) (o := none) ⟨hx, hb, hml, hown, hts⟩ (c_C_putKind l D ad cA hc) (cwV 2 hts gq_R_97 rfl rfl rfl (by decide +kernel) ⟨Nat.le_of_ble_eq_true rfl, Nat.le_of_ble_eq_true rfl⟩) hK hI hA 4 2 rfl rfl rfl hl.1 rfl (Nat.le_of_ble_eq_true rfl) d_R_readBracket_108 ⟨Nat.zero_le _, Nat.zero_le _⟩ rfl (fun H locs hI => ?_)
    refine lv_aload_n hx hb d_R_readBracket_111 rfl (lv_at hl 0 rfl) ?_
    refine lv_dup hx hb d_R_readBracket_112 rfl ?_
    refine g_get (v := .int (k_at u22)) hx hb hts in_R hown hK hI 13 rfl rfl 2 (by decide) (hts _ wd_78) rfl d_R_readBracket_113 ?_
    refine lv_iconst (v := 1) hx hb d_R_readBracket_116 (by decide) ?_
    refine lv_iadd hx hb d_R_readBracket_117 ?_
    obtain ⟨u23, e_u23, h⟩ := lt_e h
    refine g_put (t := .int) (w' := k_W ad cA u23) hx hb hts in_R ty_R tyok_R nm_R hown hK hI 13 rfl rfl 2 (by decide) (hts _ wd_78) rfl (by decide +kernel) rfl rfl (Nat.le_of_ble_eq_true rfl) d_R_readBracket_118 (by subst e_u23; rfl) (fun H locs hI => ?_)
    refine lv_aload_n hx hb d_R_readBracket_121 rfl (lv_at hl 0 rfl) ?_
    refine lv_iload_n hx hb d_R_readBracket_122 rfl (lv_at hl 2 rfl) ?_
    refine lv_iload_n hx hb d_R_readBracket_123 rfl (lv_at hl 1 rfl) ?_
    refine lv_iload_n hx hb d_R_readBracket_124 rfl (lv_at hl 3 rfl) ?_
    refine lv_if_eq (tgt := 132) hx hb d_R_readBracket_125 rfl (fun hc24 => ?_) (fun hc24 => ?_)
    · rw [if_pos hc24] at h
      refine lv_iconst (v := (-1)) hx hb d_R_readBracket_132 (by decide) ?_
      exact w133 v2 ((-1)) v1 v2 u23 _ _ _ (lv_sub hl [0, 2] rfl) hI h
    · rw [if_neg hc24] at h
      refine lv_iconst (v := 1) hx hb d_R_readBracket_128 (by decide) ?_
      refine lv_goto (tgt := 133) hx hb d_R_readBracket_129 rfl ?_
      exact w133 v2 1 v1 v2 u23 _ _ _ (lv_sub hl [0, 2] rfl) hI h
  have w75 : ∀ (v1 : Int32) (v2 : Int32) (v3 : Int32) (u : KS) (H : Heap) (locs : List Loc) (ls : Array Slot), lv_has ls 5 [(0, .ref (ad 13)), (1, .int v1), (2, .int v2), (3, .int v3)] → g_I D vwCl A s.heap H locs (k_W ad cA u) → f_R_readBracket_J75 v1 v2 v3 u = some (r0, u0) → W p l e { frames := 4, cells := 0, slots := 0, locals := 97 } s m ([.ref (ad 13), .int a1] : List Value).toArray below meth c H locs 0 0 (MQ below (g_Q D vwCl (k_T cA) (k_W ad cA u0) A (some (.int r0))) ([.ref (ad 13), .int a1] : List Value).toArray s 0 0 A) (F0 m 75 ls []) := by
    intro  v1 v2 v3 u H locs ls hl hI h
    dsimp only [f_R_readBracket_J75] at h
    refine lv_aload_n hx hb d_R_readBracket_75 rfl (lv_at hl 0 rfl) ?_
    obtain ⟨r16, u17, hc, h⟩ := ob_e h
    refine g_callV (As := []) (rest := []) (w' := k_W ad cA u17) (o := some (.int r16)) ⟨hx, hb, hml, hown, hts⟩ (c_R_mark l D ad cA hc) (cwV 0 hts gq_R_37 rfl rfl rfl (by decide +kernel) ⟨Nat.le_of_ble_eq_true rfl, Nat.le_of_ble_eq_true rfl⟩) hK hI hA 13 3 rfl rfl rfl hl.1 rfl (Nat.le_of_ble_eq_true rfl) d_R_readBracket_76 ⟨Nat.zero_le _, Nat.zero_le _⟩ rfl (fun H locs hI => ?_)
    refine lv_istore (lv' := [(4, .int r16), (0, .ref (ad 13)), (1, .int v1), (2, .int v2), (3, .int v3)]) hx hb d_R_readBracket_79 hl (by decide) rfl (fun ls hl => ?_)
    refine lv_iload_n hx hb d_R_readBracket_81 rfl (lv_at hl 4 rfl) ?_
    refine lv_if_ne (tgt := 101) hx hb d_R_readBracket_82 rfl (fun hc18 => ?_) (fun hc18 => ?_)
    · rw [if_neg hc18] at h
      exact w101 v1 v2 v3 r16 u17 _ _ _ (lv_sub hl [1, 2, 3, 4, 0] rfl) hI h
    · rw [if_pos hc18] at h
      refine lv_iload hx hb d_R_readBracket_85 (lv_at hl 0 rfl) ?_
      refine lv_bipush (v := 60) hx hb d_R_readBracket_87 (by decide) ?_
      refine lv_icmp_eq (tgt := 101) hx hb d_R_readBracket_89 rfl (fun hc19 => ?_) (fun hc19 => ?_)
      · rw [if_pos hc19] at h
        exact w101 v1 v2 v3 r16 u17 _ _ _ (lv_sub hl [1, 2, 3, 4, 0] rfl) hI h
      · rw [if_neg hc19] at h
        refine lv_iload hx hb d_R_readBracket_92 (lv_at hl 0 rfl) ?_
        refine lv_bipush (v := 61) hx hb d_R_readBracket_94 (by decide) ?_
        refine lv_icmp_eq (tgt := 101) hx hb d_R_readBracket_96 rfl (fun hc20 => ?_) (fun hc20 => ?_)
        · rw [if_pos hc20] at h
          exact w101 v1 v2 v3 r16 u17 _ _ _ (lv_sub hl [1, 2, 3, 4, 0] rfl) hI h
        · rw [if_neg hc20] at h
          refine lv_iconst (v := 0) hx hb d_R_readBracket_99 (by decide) ?_
          exact g_zret (Wd := k_W ad cA) hx hb hr hlk hK hI h d_R_readBracket_100
  dsimp only [f_R_readBracket] at h
  refine lv_aload_n hx hb d_R_readBracket_0 rfl (lv_at hl 0 rfl) ?_
  refine g_get (v := .int (k_br u)) hx hb hts in_R hown hK hI 13 rfl rfl 3 (by decide) (hts _ wd_79) rfl d_R_readBracket_1 ?_
  refine lv_bipush (v := 8) hx hb d_R_readBracket_4 (by decide) ?_
  refine lv_icmp_lt (tgt := 11) hx hb d_R_readBracket_6 rfl (fun hc1 => ?_) (fun hc1 => ?_)
  · rw [if_pos hc1] at h
    refine lv_aload_n hx hb d_R_readBracket_11 rfl (lv_at hl 0 rfl) ?_
    refine lv_dup hx hb d_R_readBracket_12 rfl ?_
    refine g_get (v := .int (k_br u)) hx hb hts in_R hown hK hI 13 rfl rfl 3 (by decide) (hts _ wd_79) rfl d_R_readBracket_13 ?_
    refine lv_iconst (v := 1) hx hb d_R_readBracket_16 (by decide) ?_
    refine lv_iadd hx hb d_R_readBracket_17 ?_
    obtain ⟨u2, e_u2, h⟩ := lt_e h
    refine g_put (t := .int) (w' := k_W ad cA u2) hx hb hts in_R ty_R tyok_R nm_R hown hK hI 13 rfl rfl 3 (by decide) (hts _ wd_79) rfl (by decide +kernel) rfl rfl (Nat.le_of_ble_eq_true rfl) d_R_readBracket_18 (by subst e_u2; rfl) (fun H locs hI => ?_)
    refine lv_aload_n hx hb d_R_readBracket_21 rfl (lv_at hl 0 rfl) ?_
    obtain ⟨r3, u4, hc, h⟩ := ob_e h
    refine g_callV (As := []) (rest := []) (w' := k_W ad cA u4) (o := some (.int r3)) ⟨hx, hb, hml, hown, hts⟩ (c_R_begin l D ad cA hc) (cwV 0 hts gq_R_64 rfl rfl rfl (by decide +kernel) ⟨Nat.le_of_ble_eq_true rfl, Nat.le_of_ble_eq_true rfl⟩) hK hI hA 13 3 rfl rfl rfl hl.1 rfl (Nat.le_of_ble_eq_true rfl) d_R_readBracket_22 ⟨Nat.zero_le _, Nat.zero_le _⟩ rfl (fun H locs hI => ?_)
    refine lv_istore_n (lv' := [(2, .int r3), (0, .ref (ad 13)), (1, .int a1)]) hx hb d_R_readBracket_25 rfl hl (by decide) rfl (fun ls hl => ?_)
    refine lv_aload_n hx hb d_R_readBracket_26 rfl (lv_at hl 1 rfl) ?_
    obtain ⟨r5, u6, hc, h⟩ := ob_e h
    refine g_callV (As := []) (rest := []) (w' := k_W ad cA u6) (o := some (.int r5)) ⟨hx, hb, hml, hown, hts⟩ (c_R_isDivisor l D ad cA hc) (cwV 0 hts gq_R_87 rfl rfl rfl (by decide +kernel) ⟨Nat.le_of_ble_eq_true rfl, Nat.le_of_ble_eq_true rfl⟩) hK hI hA 13 3 rfl rfl rfl hl.1 rfl (Nat.le_of_ble_eq_true rfl) d_R_readBracket_27 ⟨Nat.zero_le _, Nat.zero_le _⟩ rfl (fun H locs hI => ?_)
    refine lv_istore_n (lv' := [(3, .int r5), (2, .int r3), (0, .ref (ad 13)), (1, .int a1)]) hx hb d_R_readBracket_30 rfl hl (by decide) rfl (fun ls hl => ?_)
    refine lv_iload_n hx hb d_R_readBracket_31 rfl (lv_at hl 0 rfl) ?_
    refine lv_if_eq (tgt := 63) hx hb d_R_readBracket_32 rfl (fun hc7 => ?_) (fun hc7 => ?_)
    · rw [if_pos hc7] at h
      refine lv_aload_n hx hb d_R_readBracket_63 rfl (lv_at hl 2 rfl) ?_
      refine lv_iload_n hx hb d_R_readBracket_64 rfl (lv_at hl 1 rfl) ?_
      refine lv_iload_n hx hb d_R_readBracket_65 rfl (lv_at hl 3 rfl) ?_
      refine lv_iconst (v := 1) hx hb d_R_readBracket_66 (by decide) ?_
      obtain ⟨r8, u9, hc, h⟩ := ob_e h
      refine g_callV (As := [.int r3, .int a1, .int 1]) (rest := []) (w' := k_W ad cA u9) (o := some (.int r8)) ⟨hx, hb, hml, hown, hts⟩ (c_R_readSum l D ad cA hc) (cwV 3 hts gq_R_93 rfl rfl rfl (by decide +kernel) ⟨Nat.le_of_ble_eq_true rfl, Nat.le_of_ble_eq_true rfl⟩) hK hI hA 13 3 rfl rfl rfl hl.1 rfl (Nat.le_of_ble_eq_true rfl) d_R_readBracket_67 ⟨Nat.zero_le _, Nat.zero_le _⟩ rfl (fun H locs hI => ?_)
      refine lv_if_ne (tgt := 75) hx hb d_R_readBracket_70 rfl (fun hc10 => ?_) (fun hc10 => ?_)
      · rw [if_neg hc10] at h
        exact w75 a1 r3 r5 u9 _ _ _ (lv_sub hl [2, 3, 1, 0] rfl) hI h
      · rw [if_pos hc10] at h
        refine lv_iconst (v := 0) hx hb d_R_readBracket_73 (by decide) ?_
        exact g_zret (Wd := k_W ad cA) hx hb hr hlk hK hI h d_R_readBracket_74
    · rw [if_neg hc7] at h
      refine lv_aload_n hx hb d_R_readBracket_35 rfl (lv_at hl 2 rfl) ?_
      refine g_get (v := .ref (ad 4)) hx hb hts in_R hown hK hI 13 rfl rfl 1 (by decide) (hts _ wd_77) rfl d_R_readBracket_36 ?_
      refine lv_iload_n hx hb d_R_readBracket_39 rfl (lv_at hl 1 rfl) ?_
      refine lv_aload_n hx hb d_R_readBracket_40 rfl (lv_at hl 2 rfl) ?_
      obtain ⟨r11, u12, hc, h⟩ := ob_e h
      refine g_callV (As := []) (rest := [.int r3, .ref (ad 4)]) (w' := k_W ad cA u12) (o := some (.int r11)) ⟨hx, hb, hml, hown, hts⟩ (c_R_mark l D ad cA hc) (cwV 0 hts gq_R_37 rfl rfl rfl (by decide +kernel) ⟨Nat.le_of_ble_eq_true rfl, Nat.le_of_ble_eq_true rfl⟩) hK hI hA 13 3 rfl rfl rfl hl.1 rfl (Nat.le_of_ble_eq_true rfl) d_R_readBracket_41 ⟨Nat.zero_le _, Nat.zero_le _⟩ rfl (fun H locs hI => ?_)
      refine lv_bipush (v := 48) hx hb d_R_readBracket_44 (by decide) ?_
      refine lv_isub hx hb d_R_readBracket_46 ?_
      obtain ⟨r13, u14, hc, h⟩ := ob_e h
      refine g_callV (As := [.int r3, .int (r11 - 48)]) (rest := []) (w' := k_W ad cA u14) (o := none) ⟨hx, hb, hml, hown, hts⟩ (c_C_putDivisor l D ad cA hc) (cwV 2 hts gq_R_90 rfl rfl rfl (by decide +kernel) ⟨Nat.le_of_ble_eq_true rfl, Nat.le_of_ble_eq_true rfl⟩) hK hI hA 4 2 rfl rfl rfl hl.1 rfl (Nat.le_of_ble_eq_true rfl) d_R_readBracket_47 ⟨Nat.zero_le _, Nat.zero_le _⟩ rfl (fun H locs hI => ?_)
      refine lv_aload_n hx hb d_R_readBracket_50 rfl (lv_at hl 2 rfl) ?_
      refine lv_dup hx hb d_R_readBracket_51 rfl ?_
      refine g_get (v := .int (k_at u14)) hx hb hts in_R hown hK hI 13 rfl rfl 2 (by decide) (hts _ wd_78) rfl d_R_readBracket_52 ?_
      refine lv_iconst (v := 1) hx hb d_R_readBracket_55 (by decide) ?_
      refine lv_iadd hx hb d_R_readBracket_56 ?_
      obtain ⟨u15, e_u15, h⟩ := lt_e h
      refine g_put (t := .int) (w' := k_W ad cA u15) hx hb hts in_R ty_R tyok_R nm_R hown hK hI 13 rfl rfl 2 (by decide) (hts _ wd_78) rfl (by decide +kernel) rfl rfl (Nat.le_of_ble_eq_true rfl) d_R_readBracket_57 (by subst e_u15; rfl) (fun H locs hI => ?_)
      refine lv_goto (tgt := 75) hx hb d_R_readBracket_60 rfl ?_
      exact w75 a1 r3 r5 u15 _ _ _ (lv_sub hl [2, 3, 1, 0] rfl) hI h
  · rw [if_neg hc1] at h
    refine lv_iconst (v := 0) hx hb d_R_readBracket_9 (by decide) ?_
    exact g_zret (Wd := k_W ad cA) hx hb hr hlk hK hI h d_R_readBracket_10
