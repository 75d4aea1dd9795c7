def f_M_middleHolds_J60 (k9 : Int32 → Int32 → Int32 → MS → Option (Int32 × MS)) (v1 : Int32) (v2 : Int32) (v3 : Int32) (t0 : Int32) (t1 : Int32) (u : MS) : Option (Int32 × MS) := gd (inb t1 24) (lt_ (m_p_mi (upd (m_mi u) t1.toNatClampNeg (vp_nar .boolean t0)) u) fun u12 => lt_ (v2 + 1) fun x13 => lt_ (v3 + (-1)) fun x14 => k9 v1 x13 x14 u12)
def f_M_middleHolds_J133 (k9 : Int32 → Int32 → Int32 → MS → Option (Int32 × MS)) (v1 : Int32) (v3 : Int32) (v4 : Int32) (v5 : Int32) (t0 : Int32) (u : MS) : Option (Int32 × MS) := gd (inb v3 20) (ob (f_M_joined (m_ki u v3.toNatClampNeg) v4 v5 u) fun r21 u22 => gd (inb (t0 - 1) 24) (lt_ (m_p_mi (upd (m_mi u22) (t0 - 1).toNatClampNeg (vp_nar .boolean r21)) u22) fun u23 => lt_ (v3 + (-1)) fun x24 => k9 v1 t0 x24 u23))
def f_M_middleHolds_J114 (k9 : Int32 → Int32 → Int32 → MS → Option (Int32 × MS)) (v1 : Int32) (v2 : Int32) (v3 : Int32) (v4 : Int32) (t0 : Int32) (u : MS) : Option (Int32 × MS) := gd (inb v3 20) (if 3 ≤ (m_ki u v3.toNatClampNeg) then f_M_middleHolds_J133 k9 v1 v3 v4 t0 v2 u else f_M_middleHolds_J133 k9 v1 v3 v4 t0 (v2 - 1) u)
def f_M_middleHolds_J68 (k9 : Int32 → Int32 → Int32 → MS → Option (Int32 × MS)) (v1 : Int32) (v2 : Int32) (v3 : Int32) (u : MS) : Option (Int32 × MS) := gd (inb v3 20) (if (m_ow u v3.toNatClampNeg) = v1 then (gd (inb (v2 - 1) 24) (lt_ (m_mi u (v2 - 1).toNatClampNeg) fun x17 => gd (inb v3 20) (if 3 ≤ (m_ki u v3.toNatClampNeg) then f_M_middleHolds_J114 k9 v1 v2 v3 x17 0 u else (gd (inb (v2 - 2) 24) (if (m_mi u (v2 - 2).toNatClampNeg) = 0 then f_M_middleHolds_J114 k9 v1 v2 v3 x17 0 u else f_M_middleHolds_J114 k9 v1 v2 v3 x17 1 u))))) else (lt_ (v3 + (-1)) fun x16 => k9 v1 v2 x16 u))
def f_M_middleHolds_L9 (n : Nat) : Int32 → Int32 → Int32 → MS → Option (Int32 × MS) := match n with
  | 0 => fun _ _ _ _ => none
  | n + 1 => fun v1 v2 v3 u => if v3 ≤ v1 then (gd (bz (m_mi u (0 : Int32).toNatClampNeg)) (some (m_mi u (0 : Int32).toNatClampNeg, u))) else (gd (inb v3 20) (if (m_ow u v3.toNatClampNeg) = v1 then (gd (inb v3 20) (if (m_ki u v3.toNatClampNeg) < 4 then f_M_middleHolds_J68 (f_M_middleHolds_L9 n) v1 v2 v3 u else (ob (f_M_isBracket v3 u) fun r5 u6 => if r5 = 0 then (ob (f_M_lowQuantifier v3 u6) fun r8 u9 => f_M_middleHolds_J60 (f_M_middleHolds_L9 n) v1 v2 v3 r8 v2 u9) else (ob (f_M_bracketHolds v3 u6) fun r10 u11 => f_M_middleHolds_J60 (f_M_middleHolds_L9 n) v1 v2 v3 r10 v2 u11)))) else f_M_middleHolds_J68 (f_M_middleHolds_L9 n) v1 v2 v3 u))
def f_M_middleHolds (a1 : Int32) (u : MS) : Option (Int32 × MS) := lt_ ((m_cl u) - 1) fun x1 => f_M_middleHolds_L9 4096 a1 0 x1 u
set_option maxRecDepth 100000 in
set_option maxHeartbeats 4000000 in
theorem c_M_middleHolds (l : Launch) (D : va_G) (ad : Nat → Nat) (cA : Nat → ClassId) {a1 : Int32} {u u0 : MS} {r0 : Int32} (h : f_M_middleHolds a1 u = some (r0, u0)) : g_M l y_M_middleHolds w_M_middleHolds { frames := 4, cells := 0, slots := 0, locals := 100 } D vwCl (m_T cA) (m_W ad cA u) [.ref (ad 0), .int a1] (some (.int r0)) (m_W ad cA u0) := by
  refine g_ofW (cc := c0_M_middleHolds) (maxL := 6) (ret := (some .boolean)) (by decide) rfl (Nat.le_of_ble_eq_true rfl) ?_
  intro p e s m below meth c A ls hx hb hr hml hown hts hlk hK hA hI hl
  have hts : ∀ w ∈ gW, w.before ([.ref (ad 0), .int a1] : List Value).toArray s = true := fun w h => hts w (List.mem_cons_of_mem _ h)
  have hown : s.vm.findClass R_M = some m.cls := hown
  have hl : lv_has ls 6 [(0, .ref (ad 0)), (1, .int a1)] := hl
  have w60 : ∀ (k9 : Int32 → Int32 → Int32 → MS → Option (Int32 × MS)) (hk9 : ∀ (v1 : Int32) (v2 : Int32) (v3 : Int32) (u : MS) (H : Heap) (locs : List Loc) (ls : Array Slot), lv_has ls 6 [(0, .ref (ad 0)), (1, .int v1), (2, .int v2), (3, .int v3)] → g_I D vwCl A s.heap H locs (m_W ad cA u) → k9 v1 v2 v3 u = some (r0, u0) → W p l e { frames := 4, cells := 0, slots := 0, locals := 100 } s m ([.ref (ad 0), .int a1] : List Value).toArray below meth c H locs 0 0 (MQ below (g_Q D vwCl (m_T cA) (m_W ad cA u0) A (some (.int r0))) ([.ref (ad 0), .int a1] : List Value).toArray s 0 0 A) (F0 m 9 ls [])) (v1 : Int32) (v2 : Int32) (v3 : Int32) (t0 : Int32) (t1 : Int32) (u : MS) (H : Heap) (locs : List Loc) (ls : Array Slot), lv_has ls 6 [(0, .ref (ad 0)), (1, .int v1), (2, .int v2), (3, .int v3)] → g_I D vwCl A s.heap H locs (m_W ad cA u) → f_M_middleHolds_J60 k9 v1 v2 v3 t0 t1 u = some (r0, u0) → W p l e { frames := 4, cells := 0, slots := 0, locals := 100 } s m ([.ref (ad 0), .int a1] : List Value).toArray below meth c H locs 0 0 (MQ below (g_Q D vwCl (m_T cA) (m_W ad cA u0) A (some (.int r0))) ([.ref (ad 0), .int a1] : List Value).toArray s 0 0 A) (F0 m 60 ls [.int t0, .int t1, .ref (ad 15)]) := by
    intro k9 hk9 v1 v2 v3 t0 t1 u H locs ls hl hI h
    dsimp only [f_M_middleHolds_J60] at h
    obtain ⟨hg, h⟩ := gd_e h
    obtain ⟨u12, e_u12, h⟩ := lt_e h
    refine g_zast (w' := m_W ad cA u12) hx hb hK hI 15 14 rfl rfl hg d_M_middleHolds_60 (by subst e_u12; rfl) (fun H locs hI => ?_)
    refine lv_iload_n hx hb d_M_middleHolds_61 rfl (lv_at hl 2 rfl) ?_
    refine lv_iconst (v := 1) hx hb d_M_middleHolds_62 (by decide) ?_
    refine lv_iadd hx hb d_M_middleHolds_63 ?_
    obtain ⟨x13, e_x13, h⟩ := lt_e h
    refine lv_istore_n (lv' := [(2, .int x13), (0, .ref (ad 0)), (1, .int v1), (3, .int v3)]) hx hb d_M_middleHolds_64 rfl hl (by decide) (by subst e_x13; rfl) (fun ls hl => ?_)
    refine lv_goto (tgt := 155) hx hb d_M_middleHolds_65 rfl ?_
    obtain ⟨x14, e_x14, h⟩ := lt_e h
    refine lv_iinc (v := x14) (k := 3) hx hb d_M_middleHolds_155 hl rfl (by subst e_x14; rfl) (by decide) rfl (fun ls hl => ?_)
    refine lv_goto (tgt := 9) hx hb d_M_middleHolds_158 rfl ?_
    exact hk9 v1 x13 x14 u12 _ _ _ (lv_sub hl [2, 3, 1, 0] rfl) hI h
  have w133 : ∀ (k9 : Int32 → Int32 → Int32 → MS → Option (Int32 × MS)) (hk9 : ∀ (v1 : Int32) (v2 : Int32) (v3 : Int32) (u : MS) (H : Heap) (locs : List Loc) (ls : Array Slot), lv_has ls 6 [(0, .ref (ad 0)), (1, .int v1), (2, .int v2), (3, .int v3)] → g_I D vwCl A s.heap H locs (m_W ad cA u) → k9 v1 v2 v3 u = some (r0, u0) → W p l e { frames := 4, cells := 0, slots := 0, locals := 100 } s m ([.ref (ad 0), .int a1] : List Value).toArray below meth c H locs 0 0 (MQ below (g_Q D vwCl (m_T cA) (m_W ad cA u0) A (some (.int r0))) ([.ref (ad 0), .int a1] : List Value).toArray s 0 0 A) (F0 m 9 ls [])) (v1 : Int32) (v3 : Int32) (v4 : Int32) (v5 : Int32) (t0 : Int32) (u : MS) (H : Heap) (locs : List Loc) (ls : Array Slot), lv_has ls 6 [(0, .ref (ad 0)), (1, .int v1), (3, .int v3), (4, .int v4), (5, .int v5)] → g_I D vwCl A s.heap H locs (m_W ad cA u) → f_M_middleHolds_J133 k9 v1 v3 v4 v5 t0 u = some (r0, u0) → W p l e { frames := 4, cells := 0, slots := 0, locals := 100 } s m ([.ref (ad 0), .int a1] : List Value).toArray below meth c H locs 0 0 (MQ below (g_Q D vwCl (m_T cA) (m_W ad cA u0) A (some (.int r0))) ([.ref (ad 0), .int a1] : List Value).toArray s 0 0 A) (F0 m 133 ls [.int t0]) := by
    intro k9 hk9 v1 v3 v4 v5 t0 u H locs ls hl hI h
    dsimp only [f_M_middleHolds_J133] at h
    refine lv_istore_n (lv' := [(2, .int t0), (0, .ref (ad 0)), (1, .int v1), (3, .int v3), (4, .int v4), (5, .int v5)]) hx hb d_M_middleHolds_133 rfl hl (by decide) rfl (fun ls hl => ?_)
    refine lv_aload_n hx hb d_M_middleHolds_134 rfl (lv_at hl 1 rfl) ?_
    refine g_get (v := .ref (ad 15)) hx hb hts in_M hown hK hI 0 rfl rfl 26 (by decide) (hts _ wd_418) rfl d_M_middleHolds_135 ?_
    refine lv_iload_n hx hb d_M_middleHolds_138 rfl (lv_at hl 0 rfl) ?_
    refine lv_iconst (v := 1) hx hb d_M_middleHolds_139 (by decide) ?_
    refine lv_isub hx hb d_M_middleHolds_140 ?_
    refine lv_aload_n hx hb d_M_middleHolds_141 rfl (lv_at hl 1 rfl) ?_
    refine g_get (v := .ref (ad 2)) hx hb hts in_M hown hK hI 0 rfl rfl 9 (by decide) (hts _ wd_401) rfl d_M_middleHolds_142 ?_
    refine lv_iload_n hx hb d_M_middleHolds_145 rfl (lv_at hl 3 rfl) ?_
    obtain ⟨hg, h⟩ := gd_e h
    refine g_iald hx hb hK hI 2 1 rfl rfl hg d_M_middleHolds_146 ?_
    refine lv_iload hx hb d_M_middleHolds_147 (lv_at hl 4 rfl) ?_
    refine lv_iload hx hb d_M_middleHolds_149 (lv_at hl 5 rfl) ?_
    obtain ⟨r21, u22, hc, h⟩ := ob_e h
    refine g_callS (As := [.int (m_ki u v3.toNatClampNeg), .int v4, .int v5]) (rest := [.int (t0 - 1), .ref (ad 15)]) (w' := m_W ad cA u22) (o := some (.int r21)) ⟨hx, hb, hml, hown, hts⟩ (c_M_joined l D ad cA hc) (va_cwS 3 hts gq_M_143 rfl rfl rfl (by decide +kernel) ⟨Nat.le_of_ble_eq_true rfl, Nat.le_of_ble_eq_true rfl⟩) hK hI hA rfl hl.1 rfl (Nat.le_of_ble_eq_true rfl) d_M_middleHolds_151 ⟨Nat.zero_le _, Nat.zero_le _⟩ rfl (fun H locs hI => ?_)
    obtain ⟨hg, h⟩ := gd_e h
    obtain ⟨u23, e_u23, h⟩ := lt_e h
    refine g_zast (w' := m_W ad cA u23) hx hb hK hI 15 14 rfl rfl hg d_M_middleHolds_154 (by subst e_u23; rfl) (fun H locs hI => ?_)
    obtain ⟨x24, e_x24, h⟩ := lt_e h
    refine lv_iinc (v := x24) (k := 3) hx hb d_M_middleHolds_155 hl rfl (by subst e_x24; rfl) (by decide) rfl (fun ls hl => ?_)
    refine lv_goto (tgt := 9) hx hb d_M_middleHolds_158 rfl ?_
    exact hk9 v1 t0 x24 u23 _ _ _ (lv_sub hl [2, 3, 1, 0] rfl) hI h
  have w114 : ∀ (k9 : Int32 → Int32 → Int32 → MS → Option (Int32 × MS)) (hk9 : ∀ (v1 : Int32) (v2 : Int32) (v3 : Int32) (u : MS) (H : Heap) (locs : List Loc) (ls : Array Slot), lv_has ls 6 [(0, .ref (ad 0)), (1, .int v1), (2, .int v2), (3, .int v3)] → g_I D vwCl A s.heap H locs (m_W ad cA u) → k9 v1 v2 v3 u = some (r0, u0) → W p l e { frames := 4, cells := 0, slots := 0, locals := 100 } s m ([.ref (ad 0), .int a1] : List Value).toArray below meth c H locs 0 0 (MQ below (g_Q D vwCl (m_T cA) (m_W ad cA u0) A (some (.int r0))) ([.ref (ad 0), .int a1] : List Value).toArray s 0 0 A) (F0 m 9 ls [])) (v1 : Int32) (v2 : Int32) (v3 : Int32) (v4 : Int32) (t0 : Int32) (u : MS) (H : Heap) (locs : List Loc) (ls : Array Slot), lv_has ls 6 [(0, .ref (ad 0)), (1, .int v1), (2, .int v2), (3, .int v3), (4, .int v4)] → g_I D vwCl A s.heap H locs (m_W ad cA u) → f_M_middleHolds_J114 k9 v1 v2 v3 v4 t0 u = some (r0, u0) → W p l e { frames := 4, cells := 0, slots := 0, locals := 100 } s m ([.ref (ad 0), .int a1] : List Value).toArray below meth c H locs 0 0 (MQ below (g_Q D vwCl (m_T cA) (m_W ad cA u0) A (some (.int r0))) ([.ref (ad 0), .int a1] : List Value).toArray s 0 0 A) (F0 m 114 ls [.int t0]) := by
    intro k9 hk9 v1 v2 v3 v4 t0 u H locs ls hl hI h
    dsimp only [f_M_middleHolds_J114] at h
    refine lv_istore (lv' := [(5, .int t0), (0, .ref (ad 0)), (1, .int v1), (2, .int v2), (3, .int v3), (4, .int v4)]) hx hb d_M_middleHolds_114 hl (by decide) rfl (fun ls hl => ?_)
    refine lv_aload_n hx hb d_M_middleHolds_116 rfl (lv_at hl 1 rfl) ?_
    refine g_get (v := .ref (ad 2)) hx hb hts in_M hown hK hI 0 rfl rfl 9 (by decide) (hts _ wd_401) rfl d_M_middleHolds_117 ?_
    refine lv_iload_n hx hb d_M_middleHolds_120 rfl (lv_at hl 4 rfl) ?_
    obtain ⟨hg, h⟩ := gd_e h
    refine g_iald hx hb hK hI 2 1 rfl rfl hg d_M_middleHolds_121 ?_
    refine lv_iconst (v := 3) hx hb d_M_middleHolds_122 (by decide) ?_
    refine lv_icmp_ge (tgt := 132) hx hb d_M_middleHolds_123 rfl (fun hc20 => ?_) (fun hc20 => ?_)
    · rw [if_pos hc20] at h
      refine lv_iload_n hx hb d_M_middleHolds_132 rfl (lv_at hl 3 rfl) ?_
      exact w133 k9 hk9 v1 v3 v4 t0 v2 u _ _ _ (lv_sub hl [1, 2, 4, 5, 0] rfl) hI h
    · rw [if_neg hc20] at h
      refine lv_iload_n hx hb d_M_middleHolds_126 rfl (lv_at hl 3 rfl) ?_
      refine lv_iconst (v := 1) hx hb d_M_middleHolds_127 (by decide) ?_
      refine lv_isub hx hb d_M_middleHolds_128 ?_
      refine lv_goto (tgt := 133) hx hb d_M_middleHolds_129 rfl ?_
      exact w133 k9 hk9 v1 v3 v4 t0 (v2 - 1) u _ _ _ (lv_sub hl [1, 2, 4, 5, 0] rfl) hI h
  have w68 : ∀ (k9 : Int32 → Int32 → Int32 → MS → Option (Int32 × MS)) (hk9 : ∀ (v1 : Int32) (v2 : Int32) (v3 : Int32) (u : MS) (H : Heap) (locs : List Loc) (ls : Array Slot), lv_has ls 6 [(0, .ref (ad 0)), (1, .int v1), (2, .int v2), (3, .int v3)] → g_I D vwCl A s.heap H locs (m_W ad cA u) → k9 v1 v2 v3 u = some (r0, u0) → W p l e { frames := 4, cells := 0, slots := 0, locals := 100 } s m ([.ref (ad 0), .int a1] : List Value).toArray below meth c H locs 0 0 (MQ below (g_Q D vwCl (m_T cA) (m_W ad cA u0) A (some (.int r0))) ([.ref (ad 0), .int a1] : List Value).toArray s 0 0 A) (F0 m 9 ls [])) (v1 : Int32) (v2 : Int32) (v3 : Int32) (u : MS) (H : Heap) (locs : List Loc) (ls : Array Slot), lv_has ls 6 [(0, .ref (ad 0)), (1, .int v1), (2, .int v2), (3, .int v3)] → g_I D vwCl A s.heap H locs (m_W ad cA u) → f_M_middleHolds_J68 k9 v1 v2 v3 u = some (r0, u0) → W p l e { frames := 4, cells := 0, slots := 0, locals := 100 } s m ([.ref (ad 0), .int a1] : List Value).toArray below meth c H locs 0 0 (MQ below (g_Q D vwCl (m_T cA) (m_W ad cA u0) A (some (.int r0))) ([.ref (ad 0), .int a1] : List Value).toArray s 0 0 A) (F0 m 68 ls []) := by
    intro k9 hk9 v1 v2 v3 u H locs ls hl hI h
    dsimp only [f_M_middleHolds_J68] at h
    refine lv_aload_n hx hb d_M_middleHolds_68 rfl (lv_at hl 0 rfl) ?_
    refine g_get (v := .ref (ad 3)) hx hb hts in_M hown hK hI 0 rfl rfl 10 (by decide) (hts _ wd_402) rfl d_M_middleHolds_69 ?_
    refine lv_iload_n hx hb d_M_middleHolds_72 rfl (lv_at hl 3 rfl) ?_
    obtain ⟨hg, h⟩ := gd_e h
    refine g_iald hx hb hK hI 3 2 rfl rfl hg d_M_middleHolds_73 ?_
    refine lv_iload_n hx hb d_M_middleHolds_74 rfl (lv_at hl 1 rfl) ?_
    refine lv_icmp_ne (tgt := 155) hx hb d_M_middleHolds_75 rfl (fun hc15 => ?_) (fun hc15 => ?_)
    · rw [if_neg hc15] at h
      obtain ⟨x16, e_x16, h⟩ := lt_e h
      refine lv_iinc (v := x16) (k := 3) hx hb d_M_middleHolds_155 hl rfl (by subst e_x16; rfl) (by decide) rfl (fun ls hl => ?_)
      refine lv_goto (tgt := 9) hx hb d_M_middleHolds_158 rfl ?_
      exact hk9 v1 v2 x16 u _ _ _ (lv_sub hl [1, 2, 3, 0] rfl) hI h
    · rw [if_pos hc15] at h
      refine lv_aload_n hx hb d_M_middleHolds_78 rfl (lv_at hl 0 rfl) ?_
      refine g_get (v := .ref (ad 15)) hx hb hts in_M hown hK hI 0 rfl rfl 26 (by decide) (hts _ wd_418) rfl d_M_middleHolds_79 ?_
      refine lv_iload_n hx hb d_M_middleHolds_82 rfl (lv_at hl 2 rfl) ?_
      refine lv_iconst (v := 1) hx hb d_M_middleHolds_83 (by decide) ?_
      refine lv_isub hx hb d_M_middleHolds_84 ?_
      obtain ⟨hg, h⟩ := gd_e h
      refine g_zald hx hb hK hI 15 14 rfl rfl hg d_M_middleHolds_85 ?_
      obtain ⟨x17, e_x17, h⟩ := lt_e h
      refine lv_istore (lv' := [(4, .int x17), (0, .ref (ad 0)), (1, .int v1), (2, .int v2), (3, .int v3)]) hx hb d_M_middleHolds_86 hl (by decide) (by subst e_x17; rfl) (fun ls hl => ?_)
      refine lv_aload_n hx hb d_M_middleHolds_88 rfl (lv_at hl 1 rfl) ?_
      refine g_get (v := .ref (ad 2)) hx hb hts in_M hown hK hI 0 rfl rfl 9 (by decide) (hts _ wd_401) rfl d_M_middleHolds_89 ?_
      refine lv_iload_n hx hb d_M_middleHolds_92 rfl (lv_at hl 4 rfl) ?_
      obtain ⟨hg, h⟩ := gd_e h
      refine g_iald hx hb hK hI 2 1 rfl rfl hg d_M_middleHolds_93 ?_
      refine lv_iconst (v := 3) hx hb d_M_middleHolds_94 (by decide) ?_
      refine lv_icmp_ge (tgt := 113) hx hb d_M_middleHolds_95 rfl (fun hc18 => ?_) (fun hc18 => ?_)
      · rw [if_pos hc18] at h
        refine lv_iconst (v := 0) hx hb d_M_middleHolds_113 (by decide) ?_
        exact w114 k9 hk9 v1 v2 v3 x17 0 u _ _ _ (lv_sub hl [1, 2, 3, 4, 0] rfl) hI h
      · rw [if_neg hc18] at h
        refine lv_aload_n hx hb d_M_middleHolds_98 rfl (lv_at hl 1 rfl) ?_
        refine g_get (v := .ref (ad 15)) hx hb hts in_M hown hK hI 0 rfl rfl 26 (by decide) (hts _ wd_418) rfl d_M_middleHolds_99 ?_
        refine lv_iload_n hx hb d_M_middleHolds_102 rfl (lv_at hl 3 rfl) ?_
        refine lv_iconst (v := 2) hx hb d_M_middleHolds_103 (by decide) ?_
        refine lv_isub hx hb d_M_middleHolds_104 ?_
        obtain ⟨hg, h⟩ := gd_e h
        refine g_zald hx hb hK hI 15 14 rfl rfl hg d_M_middleHolds_105 ?_
        refine lv_if_eq (tgt := 113) hx hb d_M_middleHolds_106 rfl (fun hc19 => ?_) (fun hc19 => ?_)
        · rw [if_pos hc19] at h
          refine lv_iconst (v := 0) hx hb d_M_middleHolds_113 (by decide) ?_
          exact w114 k9 hk9 v1 v2 v3 x17 0 u _ _ _ (lv_sub hl [1, 2, 3, 4, 0] rfl) hI h
        · rw [if_neg hc19] at h
          refine lv_iconst (v := 1) hx hb d_M_middleHolds_109 (by decide) ?_
          refine lv_goto (tgt := 114) hx hb d_M_middleHolds_110 rfl ?_
          exact w114 k9 hk9 v1 v2 v3 x17 1 u _ _ _ (lv_sub hl [1, 2, 3, 4, 0] rfl) hI h
  have w9 : ∀ (n : Nat) (v1 : Int32) (v2 : Int32) (v3 : Int32) (u : MS) (H : Heap) (locs : List Loc) (ls : Array Slot), lv_has ls 6 [(0, .ref (ad 0)), (1, .int v1), (2, .int v2), (3, .int v3)] → g_I D vwCl A s.heap H locs (m_W ad cA u) → f_M_middleHolds_L9 n v1 v2 v3 u = some (r0, u0) → W p l e { frames := 4, cells := 0, slots := 0, locals := 100 } s m ([.ref (ad 0), .int a1] : List Value).toArray below meth c H locs 0 0 (MQ below (g_Q D vwCl (m_T cA) (m_W ad cA u0) A (some (.int r0))) ([.ref (ad 0), .int a1] : List Value).toArray s 0 0 A) (F0 m 9 ls []) := by
    intro  n
    induction n with
    | zero => intro v1 v2 v3 u H locs ls hl hI h; cases h
    | succ n ih =>
      intro v1 v2 v3 u H locs ls hl hI h
      dsimp only [f_M_middleHolds_L9] at h
      refine lv_iload_n hx hb d_M_middleHolds_9 rfl (lv_at hl 3 rfl) ?_
      refine lv_iload_n hx hb d_M_middleHolds_10 rfl (lv_at hl 1 rfl) ?_
      refine lv_icmp_le (tgt := 161) hx hb d_M_middleHolds_11 rfl (fun hc2 => ?_) (fun hc2 => ?_)
      · rw [if_pos hc2] at h
        refine lv_aload_n hx hb d_M_middleHolds_161 rfl (lv_at hl 0 rfl) ?_
        refine g_get (v := .ref (ad 15)) hx hb hts in_M hown hK hI 0 rfl rfl 26 (by decide) (hts _ wd_418) rfl d_M_middleHolds_162 ?_
        refine lv_iconst (v := 0) hx hb d_M_middleHolds_165 (by decide) ?_
        refine g_zald hx hb hK hI 15 14 rfl rfl (by decide) d_M_middleHolds_166 ?_
        exact g_zret (Wd := m_W ad cA) hx hb hr hlk hK hI h d_M_middleHolds_167
      · rw [if_neg hc2] at h
        refine lv_aload_n hx hb d_M_middleHolds_14 rfl (lv_at hl 0 rfl) ?_
        refine g_get (v := .ref (ad 3)) hx hb hts in_M hown hK hI 0 rfl rfl 10 (by decide) (hts _ wd_402) rfl d_M_middleHolds_15 ?_
        refine lv_iload_n hx hb d_M_middleHolds_18 rfl (lv_at hl 3 rfl) ?_
        obtain ⟨hg, h⟩ := gd_e h
        refine g_iald hx hb hK hI 3 2 rfl rfl hg d_M_middleHolds_19 ?_
        refine lv_iload_n hx hb d_M_middleHolds_20 rfl (lv_at hl 1 rfl) ?_
        refine lv_icmp_ne (tgt := 68) hx hb d_M_middleHolds_21 rfl (fun hc3 => ?_) (fun hc3 => ?_)
        · rw [if_neg hc3] at h
          exact w68 (f_M_middleHolds_L9 n) ih v1 v2 v3 u _ _ _ (lv_sub hl [0, 1, 2, 3] rfl) hI h
        · rw [if_pos hc3] at h
          refine lv_aload_n hx hb d_M_middleHolds_24 rfl (lv_at hl 0 rfl) ?_
          refine g_get (v := .ref (ad 2)) hx hb hts in_M hown hK hI 0 rfl rfl 9 (by decide) (hts _ wd_401) rfl d_M_middleHolds_25 ?_
          refine lv_iload_n hx hb d_M_middleHolds_28 rfl (lv_at hl 3 rfl) ?_
          obtain ⟨hg, h⟩ := gd_e h
          refine g_iald hx hb hK hI 2 1 rfl rfl hg d_M_middleHolds_29 ?_
          refine lv_iconst (v := 4) hx hb d_M_middleHolds_30 (by decide) ?_
          refine lv_icmp_lt (tgt := 68) hx hb d_M_middleHolds_31 rfl (fun hc4 => ?_) (fun hc4 => ?_)
          · rw [if_pos hc4] at h
            exact w68 (f_M_middleHolds_L9 n) ih v1 v2 v3 u _ _ _ (lv_sub hl [0, 1, 2, 3] rfl) hI h
          · rw [if_neg hc4] at h
            refine lv_aload_n hx hb d_M_middleHolds_34 rfl (lv_at hl 0 rfl) ?_
            refine g_get (v := .ref (ad 15)) hx hb hts in_M hown hK hI 0 rfl rfl 26 (by decide) (hts _ wd_418) rfl d_M_middleHolds_35 ?_
            refine lv_iload_n hx hb d_M_middleHolds_38 rfl (lv_at hl 2 rfl) ?_
            refine lv_aload_n hx hb d_M_middleHolds_39 rfl (lv_at hl 0 rfl) ?_
            refine lv_iload_n hx hb d_M_middleHolds_40 rfl (lv_at hl 3 rfl) ?_
            obtain ⟨r5, u6, hc, h⟩ := ob_e h
            refine g_callV (As := [.int v3]) (rest := [.int v2, .ref (ad 15)]) (w' := m_W ad cA u6) (o := some (.int r5)) ⟨hx, hb, hml, hown, hts⟩ (c_M_isBracket l D ad cA hc) (cwV 1 hts gq_M_137 rfl rfl rfl (by decide +kernel) ⟨Nat.le_of_ble_eq_true rfl, Nat.le_of_ble_eq_true rfl⟩) hK hI hA 0 5 rfl rfl rfl hl.1 rfl (Nat.le_of_ble_eq_true rfl) d_M_middleHolds_41 ⟨Nat.zero_le _, Nat.zero_le _⟩ rfl (fun H locs hI => ?_)
            refine lv_if_eq (tgt := 55) hx hb d_M_middleHolds_44 rfl (fun hc7 => ?_) (fun hc7 => ?_)
            · rw [if_pos hc7] at h
              refine lv_aload_n hx hb d_M_middleHolds_55 rfl (lv_at hl 0 rfl) ?_
              refine lv_iload_n hx hb d_M_middleHolds_56 rfl (lv_at hl 3 rfl) ?_
              obtain ⟨r8, u9, hc, h⟩ := ob_e h
              refine g_callV (As := [.int v3]) (rest := [.int v2, .ref (ad 15)]) (w' := m_W ad cA u9) (o := some (.int r8)) ⟨hx, hb, hml, hown, hts⟩ (c_M_lowQuantifier l D ad cA hc) (cwV 1 hts gq_M_153 rfl rfl rfl (by decide +kernel) ⟨Nat.le_of_ble_eq_true rfl, Nat.le_of_ble_eq_true rfl⟩) hK hI hA 0 5 rfl rfl rfl hl.1 rfl (Nat.le_of_ble_eq_true rfl) d_M_middleHolds_57 ⟨Nat.zero_le _, Nat.zero_le _⟩ rfl (fun H locs hI => ?_)
              exact w60 (f_M_middleHolds_L9 n) ih v1 v2 v3 r8 v2 u9 _ _ _ (lv_sub hl [0, 1, 2, 3] rfl) hI h
            · rw [if_neg hc7] at h
              refine lv_aload_n hx hb d_M_middleHolds_47 rfl (lv_at hl 0 rfl) ?_
              refine lv_iload_n hx hb d_M_middleHolds_48 rfl (lv_at hl 3 rfl) ?_
              obtain ⟨r10, u11, hc, h⟩ := ob_e h
              refine g_callV (As := [.int v3]) (rest := [.int v2, .ref (ad 15)]) (w' := m_W ad cA u11) (o := some (.int r10)) ⟨hx, hb, hml, hown, hts⟩ (c_M_bracketHolds l D ad cA hc) (cwV 1 hts gq_M_140 rfl rfl rfl (by decide +kernel) ⟨Nat.le_of_ble_eq_true rfl, Nat.le_of_ble_eq_true rfl⟩) hK hI hA 0 5 rfl rfl rfl hl.1 rfl (Nat.le_of_ble_eq_true rfl) d_M_middleHolds_49 ⟨Nat.zero_le _, Nat.zero_le _⟩ rfl (fun H locs hI => ?_)
              refine lv_goto (tgt := 60) hx hb d_M_middleHolds_52 rfl ?_
              exact w60 (f_M_middleHolds_L9 n) ih v1 v2 v3 r10 v2 u11 _ _ _ (lv_sub hl [0, 1, 2, 3] rfl) hI h
  dsimp only [f_M_middleHolds] at h
  refine lv_iconst (v := 0) hx hb d_M_middleHolds_0 (by decide) ?_
  refine lv_istore_n (lv' := [(2, .int 0), (0, .ref (ad 0)), (1, .int a1)]) hx hb d_M_middleHolds_1 rfl hl (by decide) rfl (fun ls hl => ?_)
  refine lv_aload_n hx hb d_M_middleHolds_2 rfl (lv_at hl 1 rfl) ?_
  refine g_get (v := .int (m_cl u)) hx hb hts in_M hown hK hI 0 rfl rfl 5 (by decide) (hts _ wd_397) rfl d_M_middleHolds_3 ?_
  refine lv_iconst (v := 1) hx hb d_M_middleHolds_6 (by decide) ?_
  refine lv_isub hx hb d_M_middleHolds_7 ?_
  obtain ⟨x1, e_x1, h⟩ := lt_e h
  refine lv_istore_n (lv' := [(3, .int x1), (2, .int 0), (0, .ref (ad 0)), (1, .int a1)]) hx hb d_M_middleHolds_8 rfl hl (by decide) (by subst e_x1; rfl) (fun ls hl => ?_)
  exact w9 4096 a1 0 x1 u _ _ _ (lv_sub hl [2, 3, 1, 0] rfl) hI h
def f_M_middleQuantifier_J82 (v2 : Int32) (v3 : Int32) (v4 : Int32) (v5 : Int32) (u : MS) : Option (Int32 × MS) := gd (inb v3 3) (lt_ (m_p_nu (upd (m_nu u) v3.toNatClampNeg v4) u) fun u12 => if v5 = v2 then (gd (bz 1) (some (1, u12))) else (gd (bz 0) (some (0, u12))))
def f_M_middleQuantifier_L39 (n : Nat) : Int32 → Int32 → Int32 → Int32 → Int32 → Int32 → MS → Option (Int32 × MS) := match n with
  | 0 => fun _ _ _ _ _ _ _ => none
  | n + 1 => fun v1 v2 v3 v4 v5 v6 u => if 150 < v6 then f_M_middleQuantifier_J82 v2 v3 v4 v5 u else (if v5 = 0 then (gd (inb v3 3) (lt_ (m_p_nu (upd (m_nu u) v3.toNatClampNeg v6) u) fun u6 => ob (f_M_middleHolds v1 u6) fun r7 u8 => if r7 = v2 then (lt_ (v6 + 1) fun x11 => f_M_middleQuantifier_L39 n v1 v2 v3 v4 1 x11 u8) else (lt_ (v6 + 1) fun x10 => f_M_middleQuantifier_L39 n v1 v2 v3 v4 0 x10 u8))) else f_M_middleQuantifier_J82 v2 v3 v4 v5 u)
def f_M_middleQuantifier_J15 (v1 : Int32) (t0 : Int32) (u : MS) : Option (Int32 × MS) := gd (inb v1 20) (lt_ (m_ab u v1.toNatClampNeg) fun x2 => gd (inb x2 3) (lt_ (m_nu u x2.toNatClampNeg) fun x3 => f_M_middleQuantifier_L39 4096 v1 t0 x2 x3 0 ((-150)) u))
def f_M_middleQuantifier (a1 : Int32) (u : MS) : Option (Int32 × MS) := gd (inb a1 20) (if (m_ki u a1.toNatClampNeg) = 4 then f_M_middleQuantifier_J15 a1 1 u else f_M_middleQuantifier_J15 a1 0 u)
set_option maxRecDepth 100000 in
set_option maxHeartbeats 4000000 in
theorem c_M_middleQuantifier (l : Launch) (D : va_G) (ad : Nat → Nat) (cA : Nat → ClassId) {a1 : Int32} {u u0 : MS} {r0 : Int32} (h : f_M_middleQuantifier a1 u = some (r0, u0)) : g_M l y_M_middleQuantifier w_M_middleQuantifier { frames := 5, cells := 0, slots := 0, locals := 125 } D vwCl (m_T cA) (m_W ad cA u) [.ref (ad 0), .int a1] (some (.int r0)) (m_W ad cA u0) := by
  refine g_ofW (cc := c0_M_middleQuantifier) (maxL := 7) (ret := (some .boolean)) (by decide) rfl (Nat.le_of_ble_eq_true rfl) ?_
  intro p e s m below meth c A ls hx hb hr hml hown hts hlk hK hA hI hl
  have hts : ∀ w ∈ gW, w.before ([.ref (ad 0), .int a1] : List Value).toArray s = true := fun w h => hts w (List.mem_cons_of_mem _ h)
  have hown : s.vm.findClass R_M = some m.cls := hown
  have hl : lv_has ls 7 [(0, .ref (ad 0)), (1, .int a1)] := hl
  have w82 : ∀ (v2 : Int32) (v3 : Int32) (v4 : Int32) (v5 : Int32) (u : MS) (H : Heap) (locs : List Loc) (ls : Array Slot), lv_has ls 7 [(0, .ref (ad 0)), (2, .int v2), (3, .int v3), (4, .int v4), (5, .int v5)] → g_I D vwCl A s.heap H locs (m_W ad cA u) → f_M_middleQuantifier_J82 v2 v3 v4 v5 u = some (r0, u0) → W p l e { frames := 5, cells := 0, slots := 0, locals := 125 } s m ([.ref (ad 0), .int a1] : List Value).toArray below meth c H locs 0 0 (MQ below (g_Q D vwCl (m_T cA) (m_W ad cA u0) A (some (.int r0))) ([.ref (ad 0), .int a1] : List Value).toArray s 0 0 A) (F0 m 82 ls []) := by
    intro  v2 v3 v4 v5 u H locs ls hl hI h
    dsimp only [f_M_middleQuantifier_J82] at h
    refine lv_aload_n hx hb d_M_middleQuantifier_82 rfl (lv_at hl 0 rfl) ?_
    refine g_get (v := .ref (ad 13)) hx hb hts in_M hown hK hI 0 rfl rfl 24 (by decide) (hts _ wd_416) rfl d_M_middleQuantifier_83 ?_
    refine lv_iload_n hx hb d_M_middleQuantifier_86 rfl (lv_at hl 2 rfl) ?_
    refine lv_iload hx hb d_M_middleQuantifier_87 (lv_at hl 3 rfl) ?_
    obtain ⟨hg, h⟩ := gd_e h
    obtain ⟨u12, e_u12, h⟩ := lt_e h
    refine g_iast (w' := m_W ad cA u12) hx hb hK hI 13 12 rfl rfl hg d_M_middleQuantifier_89 (by subst e_u12; rfl) (fun H locs hI => ?_)
    refine lv_iload hx hb d_M_middleQuantifier_90 (lv_at hl 4 rfl) ?_
    refine lv_iload_n hx hb d_M_middleQuantifier_92 rfl (lv_at hl 1 rfl) ?_
    refine lv_icmp_ne (tgt := 100) hx hb d_M_middleQuantifier_93 rfl (fun hc13 => ?_) (fun hc13 => ?_)
    · rw [if_neg hc13] at h
      refine lv_iconst (v := 0) hx hb d_M_middleQuantifier_100 (by decide) ?_
      exact g_zret (Wd := m_W ad cA) hx hb hr hlk hK hI h d_M_middleQuantifier_101
    · rw [if_pos hc13] at h
      refine lv_iconst (v := 1) hx hb d_M_middleQuantifier_96 (by decide) ?_
      refine lv_goto (tgt := 101) hx hb d_M_middleQuantifier_97 rfl ?_
      exact g_zret (Wd := m_W ad cA) hx hb hr hlk hK hI h d_M_middleQuantifier_101
  have w39 : ∀ (n : Nat) (v1 : Int32) (v2 : Int32) (v3 : Int32) (v4 : Int32) (v5 : Int32) (v6 : Int32) (u : MS) (H : Heap) (locs : List Loc) (ls : Array Slot), lv_has ls 7 [(0, .ref (ad 0)), (1, .int v1), (2, .int v2), (3, .int v3), (4, .int v4), (5, .int v5), (6, .int v6)] → g_I D vwCl A s.heap H locs (m_W ad cA u) → f_M_middleQuantifier_L39 n v1 v2 v3 v4 v5 v6 u = some (r0, u0) → W p l e { frames := 5, cells := 0, slots := 0, locals := 125 } s m ([.ref (ad 0), .int a1] : List Value).toArray below meth c H locs 0 0 (MQ below (g_Q D vwCl (m_T cA) (m_W ad cA u0) A (some (.int r0))) ([.ref (ad 0), .int a1] : List Value).toArray s 0 0 A) (F0 m 39 ls []) := by
    intro  n
    induction n with
    | zero => intro v1 v2 v3 v4 v5 v6 u H locs ls hl hI h; cases h
    | succ n ih =>
      intro v1 v2 v3 v4 v5 v6 u H locs ls hl hI h
      dsimp only [f_M_middleQuantifier_L39] at h
      refine lv_iload hx hb d_M_middleQuantifier_39 (lv_at hl 6 rfl) ?_
      refine lv_sipush (v := 150) hx hb d_M_middleQuantifier_41 (by decide) ?_
      refine lv_icmp_gt (tgt := 82) hx hb d_M_middleQuantifier_44 rfl (fun hc4 => ?_) (fun hc4 => ?_)
      · rw [if_pos hc4] at h
        exact w82 v2 v3 v4 v5 u _ _ _ (lv_sub hl [0, 2, 3, 4, 5] rfl) hI h
      · rw [if_neg hc4] at h
        refine lv_iload hx hb d_M_middleQuantifier_47 (lv_at hl 5 rfl) ?_
        refine lv_if_ne (tgt := 82) hx hb d_M_middleQuantifier_49 rfl (fun hc5 => ?_) (fun hc5 => ?_)
        · rw [if_neg hc5] at h
          exact w82 v2 v3 v4 v5 u _ _ _ (lv_sub hl [0, 2, 3, 4, 5] rfl) hI h
        · rw [if_pos hc5] at h
          refine lv_aload_n hx hb d_M_middleQuantifier_52 rfl (lv_at hl 0 rfl) ?_
          refine g_get (v := .ref (ad 13)) hx hb hts in_M hown hK hI 0 rfl rfl 24 (by decide) (hts _ wd_416) rfl d_M_middleQuantifier_53 ?_
          refine lv_iload_n hx hb d_M_middleQuantifier_56 rfl (lv_at hl 3 rfl) ?_
          refine lv_iload hx hb d_M_middleQuantifier_57 (lv_at hl 6 rfl) ?_
          obtain ⟨hg, h⟩ := gd_e h
          obtain ⟨u6, e_u6, h⟩ := lt_e h
          refine g_iast (w' := m_W ad cA u6) hx hb hK hI 13 12 rfl rfl hg d_M_middleQuantifier_59 (by subst e_u6; rfl) (fun H locs hI => ?_)
          refine lv_aload_n hx hb d_M_middleQuantifier_60 rfl (lv_at hl 0 rfl) ?_
          refine lv_iload_n hx hb d_M_middleQuantifier_61 rfl (lv_at hl 1 rfl) ?_
          obtain ⟨r7, u8, hc, h⟩ := ob_e h
          refine g_callV (As := [.int v1]) (rest := []) (w' := m_W ad cA u8) (o := some (.int r7)) ⟨hx, hb, hml, hown, hts⟩ (c_M_middleHolds l D ad cA hc) (cwV 1 hts gq_M_156 rfl rfl rfl (by decide +kernel) ⟨Nat.le_of_ble_eq_true rfl, Nat.le_of_ble_eq_true rfl⟩) hK hI hA 0 5 rfl rfl rfl hl.1 rfl (Nat.le_of_ble_eq_true rfl) d_M_middleQuantifier_62 ⟨Nat.zero_le _, Nat.zero_le _⟩ rfl (fun H locs hI => ?_)
          refine lv_iload_n hx hb d_M_middleQuantifier_65 rfl (lv_at hl 2 rfl) ?_
          refine lv_icmp_ne (tgt := 73) hx hb d_M_middleQuantifier_66 rfl (fun hc9 => ?_) (fun hc9 => ?_)
          · rw [if_neg hc9] at h
            refine lv_iconst (v := 0) hx hb d_M_middleQuantifier_73 (by decide) ?_
            refine lv_istore (lv' := [(5, .int 0), (0, .ref (ad 0)), (1, .int v1), (2, .int v2), (3, .int v3), (4, .int v4), (6, .int v6)]) hx hb d_M_middleQuantifier_74 hl (by decide) rfl (fun ls hl => ?_)
            obtain ⟨x10, e_x10, h⟩ := lt_e h
            refine lv_iinc (v := x10) (k := 6) hx hb d_M_middleQuantifier_76 hl rfl (by subst e_x10; rfl) (by decide) rfl (fun ls hl => ?_)
            refine lv_goto (tgt := 39) hx hb d_M_middleQuantifier_79 rfl ?_
            exact ih v1 v2 v3 v4 0 x10 u8 _ _ _ (lv_sub hl [2, 3, 4, 5, 6, 1, 0] rfl) hI h
          · rw [if_pos hc9] at h
            refine lv_iconst (v := 1) hx hb d_M_middleQuantifier_69 (by decide) ?_
            refine lv_goto (tgt := 74) hx hb d_M_middleQuantifier_70 rfl ?_
            refine lv_istore (lv' := [(5, .int 1), (0, .ref (ad 0)), (1, .int v1), (2, .int v2), (3, .int v3), (4, .int v4), (6, .int v6)]) hx hb d_M_middleQuantifier_74 hl (by decide) rfl (fun ls hl => ?_)
            obtain ⟨x11, e_x11, h⟩ := lt_e h
            refine lv_iinc (v := x11) (k := 6) hx hb d_M_middleQuantifier_76 hl rfl (by subst e_x11; rfl) (by decide) rfl (fun ls hl => ?_)
            refine lv_goto (tgt := 39) hx hb d_M_middleQuantifier_79 rfl ?_
            exact ih v1 v2 v3 v4 1 x11 u8 _ _ _ (lv_sub hl [2, 3, 4, 5, 6, 1, 0] rfl) hI h
  have w15 : ∀ (v1 : Int32) (t0 : Int32) (u : MS) (H : Heap) (locs : List Loc) (ls : Array Slot), lv_has ls 7 [(0, .ref (ad 0)), (1, .int v1)] → g_I D vwCl A s.heap H locs (m_W ad cA u) → f_M_middleQuantifier_J15 v1 t0 u = some (r0, u0) → W p l e { frames := 5, cells := 0, slots := 0, locals := 125 } s m ([.ref (ad 0), .int a1] : List Value).toArray below meth c H locs 0 0 (MQ below (g_Q D vwCl (m_T cA) (m_W ad cA u0) A (some (.int r0))) ([.ref (ad 0), .int a1] : List Value).toArray s 0 0 A) (F0 m 15 ls [.int t0]) := by
    intro  v1 t0 u H locs ls hl hI h
    dsimp only [f_M_middleQuantifier_J15] at h
    refine lv_istore_n (lv' := [(2, .int t0), (0, .ref (ad 0)), (1, .int v1)]) hx hb d_M_middleQuantifier_15 rfl hl (by decide) rfl (fun ls hl => ?_)
    refine lv_aload_n hx hb d_M_middleQuantifier_16 rfl (lv_at hl 1 rfl) ?_
    refine g_get (v := .ref (ad 4)) hx hb hts in_M hown hK hI 0 rfl rfl 11 (by decide) (hts _ wd_403) rfl d_M_middleQuantifier_17 ?_
    refine lv_iload_n hx hb d_M_middleQuantifier_20 rfl (lv_at hl 2 rfl) ?_
    obtain ⟨hg, h⟩ := gd_e h
    refine g_iald hx hb hK hI 4 3 rfl rfl hg d_M_middleQuantifier_21 ?_
    obtain ⟨x2, e_x2, h⟩ := lt_e h
    refine lv_istore_n (lv' := [(3, .int x2), (2, .int t0), (0, .ref (ad 0)), (1, .int v1)]) hx hb d_M_middleQuantifier_22 rfl hl (by decide) (by subst e_x2; rfl) (fun ls hl => ?_)
    refine lv_aload_n hx hb d_M_middleQuantifier_23 rfl (lv_at hl 2 rfl) ?_
    refine g_get (v := .ref (ad 13)) hx hb hts in_M hown hK hI 0 rfl rfl 24 (by decide) (hts _ wd_416) rfl d_M_middleQuantifier_24 ?_
    refine lv_iload_n hx hb d_M_middleQuantifier_27 rfl (lv_at hl 0 rfl) ?_
    obtain ⟨hg, h⟩ := gd_e h
    refine g_iald hx hb hK hI 13 12 rfl rfl hg d_M_middleQuantifier_28 ?_
    obtain ⟨x3, e_x3, h⟩ := lt_e h
    refine lv_istore (lv' := [(4, .int x3), (3, .int x2), (2, .int t0), (0, .ref (ad 0)), (1, .int v1)]) hx hb d_M_middleQuantifier_29 hl (by decide) (by subst e_x3; rfl) (fun ls hl => ?_)
    refine lv_iconst (v := 0) hx hb d_M_middleQuantifier_31 (by decide) ?_
    refine lv_istore (lv' := [(5, .int 0), (4, .int x3), (3, .int x2), (2, .int t0), (0, .ref (ad 0)), (1, .int v1)]) hx hb d_M_middleQuantifier_32 hl (by decide) rfl (fun ls hl => ?_)
    refine lv_sipush (v := (-150)) hx hb d_M_middleQuantifier_34 (by decide) ?_
    refine lv_istore (lv' := [(6, .int ((-150))), (5, .int 0), (4, .int x3), (3, .int x2), (2, .int t0), (0, .ref (ad 0)), (1, .int v1)]) hx hb d_M_middleQuantifier_37 hl (by decide) rfl (fun ls hl => ?_)
    exact w39 4096 v1 t0 x2 x3 0 ((-150)) u _ _ _ (lv_sub hl [5, 6, 4, 3, 2, 1, 0] rfl) hI h
  dsimp only [f_M_middleQuantifier] at h
  refine lv_aload_n hx hb d_M_middleQuantifier_0 rfl (lv_at hl 0 rfl) ?_
  refine g_get (v := .ref (ad 2)) hx hb hts in_M hown hK hI 0 rfl rfl 9 (by decide) (hts _ wd_401) rfl d_M_middleQuantifier_1 ?_
  refine lv_iload_n hx hb d_M_middleQuantifier_4 rfl (lv_at hl 1 rfl) ?_
  obtain ⟨hg, h⟩ := gd_e h
  refine g_iald hx hb hK hI 2 1 rfl rfl hg d_M_middleQuantifier_5 ?_
  refine lv_iconst (v := 4) hx hb d_M_middleQuantifier_6 (by decide) ?_
  refine lv_icmp_ne (tgt := 14) hx hb d_M_middleQuantifier_7 rfl (fun hc1 => ?_) (fun hc1 => ?_)
  · rw [if_neg hc1] at h
    refine lv_iconst (v := 0) hx hb d_M_middleQuantifier_14 (by decide) ?_
    exact w15 a1 0 u _ _ _ (lv_sub hl [0, 1] rfl) hI h
  · rw [if_pos hc1] at h
    refine lv_iconst (v := 1) hx hb d_M_middleQuantifier_10 (by decide) ?_
    refine lv_goto (tgt := 15) hx hb d_M_middleQuantifier_11 rfl ?_
    exact w15 a1 1 u _ _ _ (lv_sub hl [0, 1] rfl) hI h
def f_M_workedOut_J82 (k16 : Int32 → Int32 → MS → Option (Int32 × MS)) (v2 : Int32) (v3 : Int32) (t0 : Int32) (t1 : Int32) (u : MS) : Option (Int32 × MS) := gd (inb t1 24) (lt_ (m_p_hi (upd (m_hi u) t1.toNatClampNeg (vp_nar .boolean t0)) u) fun u18 => lt_ (v2 + 1) fun x19 => lt_ (v3 + (-1)) fun x20 => k16 x19 x20 u18)
def f_M_workedOut_J155 (k16 : Int32 → Int32 → MS → Option (Int32 × MS)) (v3 : Int32) (v4 : Int32) (v5 : Int32) (t0 : Int32) (u : MS) : Option (Int32 × MS) := gd (inb v3 20) (ob (f_M_joined (m_ki u v3.toNatClampNeg) v4 v5 u) fun r27 u28 => gd (inb (t0 - 1) 24) (lt_ (m_p_hi (upd (m_hi u28) (t0 - 1).toNatClampNeg (vp_nar .boolean r27)) u28) fun u29 => lt_ (v3 + (-1)) fun x30 => k16 t0 x30 u29))
def f_M_workedOut_J136 (k16 : Int32 → Int32 → MS → Option (Int32 × MS)) (v2 : Int32) (v3 : Int32) (v4 : Int32) (t0 : Int32) (u : MS) : Option (Int32 × MS) := gd (inb v3 20) (if 3 ≤ (m_ki u v3.toNatClampNeg) then f_M_workedOut_J155 k16 v3 v4 t0 v2 u else f_M_workedOut_J155 k16 v3 v4 t0 (v2 - 1) u)
def f_M_workedOut_J90 (k16 : Int32 → Int32 → MS → Option (Int32 × MS)) (v2 : Int32) (v3 : Int32) (u : MS) : Option (Int32 × MS) := gd (inb v3 20) (if (m_ow u v3.toNatClampNeg) = ((-1)) then (gd (inb (v2 - 1) 24) (lt_ (m_hi u (v2 - 1).toNatClampNeg) fun x23 => gd (inb v3 20) (if 3 ≤ (m_ki u v3.toNatClampNeg) then f_M_workedOut_J136 k16 v2 v3 x23 0 u else (gd (inb (v2 - 2) 24) (if (m_hi u (v2 - 2).toNatClampNeg) = 0 then f_M_workedOut_J136 k16 v2 v3 x23 0 u else f_M_workedOut_J136 k16 v2 v3 x23 1 u))))) else (lt_ (v3 + (-1)) fun x22 => k16 v2 x22 u))
def f_M_workedOut_L16 (n : Nat) : Int32 → Int32 → MS → Option (Int32 × MS) := match n with
  | 0 => fun _ _ _ => none
  | n + 1 => fun v2 v3 u => if v3 < 0 then (gd (bz (m_hi u (0 : Int32).toNatClampNeg)) (some (m_hi u (0 : Int32).toNatClampNeg, u))) else (gd (inb v3 20) (if (m_ow u v3.toNatClampNeg) = ((-1)) then (gd (inb v3 20) (if (m_ki u v3.toNatClampNeg) < 4 then f_M_workedOut_J90 (f_M_workedOut_L16 n) v2 v3 u else (ob (f_M_isBracket v3 u) fun r6 u7 => if r6 = 0 then (ob (f_M_hasQuantifier v3 u7) fun r9 u10 => if r9 = 0 then (ob (f_M_lowQuantifier v3 u10) fun r12 u13 => f_M_workedOut_J82 (f_M_workedOut_L16 n) v2 v3 r12 v2 u13) else (ob (f_M_middleQuantifier v3 u10) fun r14 u15 => f_M_workedOut_J82 (f_M_workedOut_L16 n) v2 v3 r14 v2 u15)) else (ob (f_M_bracketHolds v3 u7) fun r16 u17 => f_M_workedOut_J82 (f_M_workedOut_L16 n) v2 v3 r16 v2 u17)))) else f_M_workedOut_J90 (f_M_workedOut_L16 n) v2 v3 u))
def f_M_workedOut (a1 : Int32) (u : MS) : Option (Int32 × MS) := lt_ (m_p_nu (upd (m_nu u) (0 : Int32).toNatClampNeg a1) u) fun u1 => lt_ ((m_cl u1) - 1) fun x2 => f_M_workedOut_L16 4096 0 x2 u1
set_option maxRecDepth 100000 in
set_option maxHeartbeats 4000000 in
theorem c_M_workedOut (l : Launch) (D : va_G) (ad : Nat → Nat) (cA : Nat → ClassId) {a1 : Int32} {u u0 : MS} {r0 : Int32} (h : f_M_workedOut a1 u = some (r0, u0)) : g_M l y_M_workedOut w_M_workedOut { frames := 6, cells := 0, slots := 0, locals := 151 } D vwCl (m_T cA) (m_W ad cA u) [.ref (ad 0), .int a1] (some (.int r0)) (m_W ad cA u0) := by
  refine g_ofW (cc := c0_M_workedOut) (maxL := 6) (ret := (some .boolean)) (by decide) rfl (Nat.le_of_ble_eq_true rfl) ?_
  intro p e s m below meth c A ls hx hb hr hml hown hts hlk hK hA hI hl
  have hts : ∀ w ∈ gW, w.before ([.ref (ad 0), .int a1] : List Value).toArray s = true := fun w h => hts w (List.mem_cons_of_mem _ h)
  have hown : s.vm.findClass R_M = some m.cls := hown
  have hl : lv_has ls 6 [(0, .ref (ad 0)), (1, .int a1)] := hl
  have w82 : ∀ (k16 : Int32 → Int32 → MS → Option (Int32 × MS)) (hk16 : ∀ (v2 : Int32) (v3 : Int32) (u : MS) (H : Heap) (locs : List Loc) (ls : Array Slot), lv_has ls 6 [(0, .ref (ad 0)), (2, .int v2), (3, .int v3)] → g_I D vwCl A s.heap H locs (m_W ad cA u) → k16 v2 v3 u = some (r0, u0) → W p l e { frames := 6, cells := 0, slots := 0, locals := 151 } s m ([.ref (ad 0), .int a1] : List Value).toArray below meth c H locs 0 0 (MQ below (g_Q D vwCl (m_T cA) (m_W ad cA u0) A (some (.int r0))) ([.ref (ad 0), .int a1] : List Value).toArray s 0 0 A) (F0 m 16 ls [])) (v2 : Int32) (v3 : Int32) (t0 : Int32) (t1 : Int32) (u : MS) (H : Heap) (locs : List Loc) (ls : Array Slot), lv_has ls 6 [(0, .ref (ad 0)), (2, .int v2), (3, .int v3)] → g_I D vwCl A s.heap H locs (m_W ad cA u) → f_M_workedOut_J82 k16 v2 v3 t0 t1 u = some (r0, u0) → W p l e { frames := 6, cells := 0, slots := 0, locals := 151 } s m ([.ref (ad 0), .int a1] : List Value).toArray below meth c H locs 0 0 (MQ below (g_Q D vwCl (m_T cA) (m_W ad cA u0) A (some (.int r0))) ([.ref (ad 0), .int a1] : List Value).toArray s 0 0 A) (F0 m 82 ls [.int t0, .int t1, .ref (ad 16)]) := by
    intro k16 hk16 v2 v3 t0 t1 u H locs ls hl hI h
    dsimp only [f_M_workedOut_J82] at h
    obtain ⟨hg, h⟩ := gd_e h
    obtain ⟨u18, e_u18, h⟩ := lt_e h
    refine g_zast (w' := m_W ad cA u18) hx hb hK hI 16 15 rfl rfl hg d_M_workedOut_82 (by subst e_u18; rfl) (fun H locs hI => ?_)
    refine lv_iload_n hx hb d_M_workedOut_83 rfl (lv_at hl 1 rfl) ?_
    refine lv_iconst (v := 1) hx hb d_M_workedOut_84 (by decide) ?_
    refine lv_iadd hx hb d_M_workedOut_85 ?_
    obtain ⟨x19, e_x19, h⟩ := lt_e h
    refine lv_istore_n (lv' := [(2, .int x19), (0, .ref (ad 0)), (3, .int v3)]) hx hb d_M_workedOut_86 rfl hl (by decide) (by subst e_x19; rfl) (fun ls hl => ?_)
    refine lv_goto (tgt := 177) hx hb d_M_workedOut_87 rfl ?_
    obtain ⟨x20, e_x20, h⟩ := lt_e h
    refine lv_iinc (v := x20) (k := 2) hx hb d_M_workedOut_177 hl rfl (by subst e_x20; rfl) (by decide) rfl (fun ls hl => ?_)
    refine lv_goto (tgt := 16) hx hb d_M_workedOut_180 rfl ?_
    exact hk16 x19 x20 u18 _ _ _ (lv_sub hl [2, 1, 0] rfl) hI h
  have w155 : ∀ (k16 : Int32 → Int32 → MS → Option (Int32 × MS)) (hk16 : ∀ (v2 : Int32) (v3 : Int32) (u : MS) (H : Heap) (locs : List Loc) (ls : Array Slot), lv_has ls 6 [(0, .ref (ad 0)), (2, .int v2), (3, .int v3)] → g_I D vwCl A s.heap H locs (m_W ad cA u) → k16 v2 v3 u = some (r0, u0) → W p l e { frames := 6, cells := 0, slots := 0, locals := 151 } s m ([.ref (ad 0), .int a1] : List Value).toArray below meth c H locs 0 0 (MQ below (g_Q D vwCl (m_T cA) (m_W ad cA u0) A (some (.int r0))) ([.ref (ad 0), .int a1] : List Value).toArray s 0 0 A) (F0 m 16 ls [])) (v3 : Int32) (v4 : Int32) (v5 : Int32) (t0 : Int32) (u : MS) (H : Heap) (locs : List Loc) (ls : Array Slot), lv_has ls 6 [(0, .ref (ad 0)), (3, .int v3), (4, .int v4), (5, .int v5)] → g_I D vwCl A s.heap H locs (m_W ad cA u) → f_M_workedOut_J155 k16 v3 v4 v5 t0 u = some (r0, u0) → W p l e { frames := 6, cells := 0, slots := 0, locals := 151 } s m ([.ref (ad 0), .int a1] : List Value).toArray below meth c H locs 0 0 (MQ below (g_Q D vwCl (m_T cA) (m_W ad cA u0) A (some (.int r0))) ([.ref (ad 0), .int a1] : List Value).toArray s 0 0 A) (F0 m 155 ls [.int t0]) := by
    intro k16 hk16 v3 v4 v5 t0 u H locs ls hl hI h
    dsimp only [f_M_workedOut_J155] at h
    refine lv_istore_n (lv' := [(2, .int t0), (0, .ref (ad 0)), (3, .int v3), (4, .int v4), (5, .int v5)]) hx hb d_M_workedOut_155 rfl hl (by decide) rfl (fun ls hl => ?_)
    refine lv_aload_n hx hb d_M_workedOut_156 rfl (lv_at hl 1 rfl) ?_
    refine g_get (v := .ref (ad 16)) hx hb hts in_M hown hK hI 0 rfl rfl 27 (by decide) (hts _ wd_419) rfl d_M_workedOut_157 ?_
    refine lv_iload_n hx hb d_M_workedOut_160 rfl (lv_at hl 0 rfl) ?_
    refine lv_iconst (v := 1) hx hb d_M_workedOut_161 (by decide) ?_
    refine lv_isub hx hb d_M_workedOut_162 ?_
    refine lv_aload_n hx hb d_M_workedOut_163 rfl (lv_at hl 1 rfl) ?_
    refine g_get (v := .ref (ad 2)) hx hb hts in_M hown hK hI 0 rfl rfl 9 (by decide) (hts _ wd_401) rfl d_M_workedOut_164 ?_
    refine lv_iload_n hx hb d_M_workedOut_167 rfl (lv_at hl 2 rfl) ?_
    obtain ⟨hg, h⟩ := gd_e h
    refine g_iald hx hb hK hI 2 1 rfl rfl hg d_M_workedOut_168 ?_
    refine lv_iload hx hb d_M_workedOut_169 (lv_at hl 3 rfl) ?_
    refine lv_iload hx hb d_M_workedOut_171 (lv_at hl 4 rfl) ?_
    obtain ⟨r27, u28, hc, h⟩ := ob_e h
    refine g_callS (As := [.int (m_ki u v3.toNatClampNeg), .int v4, .int v5]) (rest := [.int (t0 - 1), .ref (ad 16)]) (w' := m_W ad cA u28) (o := some (.int r27)) ⟨hx, hb, hml, hown, hts⟩ (c_M_joined l D ad cA hc) (va_cwS 3 hts gq_M_143 rfl rfl rfl (by decide +kernel) ⟨Nat.le_of_ble_eq_true rfl, Nat.le_of_ble_eq_true rfl⟩) hK hI hA rfl hl.1 rfl (Nat.le_of_ble_eq_true rfl) d_M_workedOut_173 ⟨Nat.zero_le _, Nat.zero_le _⟩ rfl (fun H locs hI => ?_)
    obtain ⟨hg, h⟩ := gd_e h
    obtain ⟨u29, e_u29, h⟩ := lt_e h
    refine g_zast (w' := m_W ad cA u29) hx hb hK hI 16 15 rfl rfl hg d_M_workedOut_176 (by subst e_u29; rfl) (fun H locs hI => ?_)
    obtain ⟨x30, e_x30, h⟩ := lt_e h
    refine lv_iinc (v := x30) (k := 2) hx hb d_M_workedOut_177 hl rfl (by subst e_x30; rfl) (by decide) rfl (fun ls hl => ?_)
    refine lv_goto (tgt := 16) hx hb d_M_workedOut_180 rfl ?_
    exact hk16 t0 x30 u29 _ _ _ (lv_sub hl [2, 1, 0] rfl) hI h
  have w136 : ∀ (k16 : Int32 → Int32 → MS → Option (Int32 × MS)) (hk16 : ∀ (v2 : Int32) (v3 : Int32) (u : MS) (H : Heap) (locs : List Loc) (ls : Array Slot), lv_has ls 6 [(0, .ref (ad 0)), (2, .int v2), (3, .int v3)] → g_I D vwCl A s.heap H locs (m_W ad cA u) → k16 v2 v3 u = some (r0, u0) → W p l e { frames := 6, cells := 0, slots := 0, locals := 151 } s m ([.ref (ad 0), .int a1] : List Value).toArray below meth c H locs 0 0 (MQ below (g_Q D vwCl (m_T cA) (m_W ad cA u0) A (some (.int r0))) ([.ref (ad 0), .int a1] : List Value).toArray s 0 0 A) (F0 m 16 ls [])) (v2 : Int32) (v3 : Int32) (v4 : Int32) (t0 : Int32) (u : MS) (H : Heap) (locs : List Loc) (ls : Array Slot), lv_has ls 6 [(0, .ref (ad 0)), (2, .int v2), (3, .int v3), (4, .int v4)] → g_I D vwCl A s.heap H locs (m_W ad cA u) → f_M_workedOut_J136 k16 v2 v3 v4 t0 u = some (r0, u0) → W p l e { frames := 6, cells := 0, slots := 0, locals := 151 } s m ([.ref (ad 0), .int a1] : List Value).toArray below meth c H locs 0 0 (MQ below (g_Q D vwCl (m_T cA) (m_W ad cA u0) A (some (.int r0))) ([.ref (ad 0), .int a1] : List Value).toArray s 0 0 A) (F0 m 136 ls [.int t0]) := by
    intro k16 hk16 v2 v3 v4 t0 u H locs ls hl hI h
    dsimp only [f_M_workedOut_J136] at h
    refine lv_istore (lv' := [(5, .int t0), (0, .ref (ad 0)), (2, .int v2), (3, .int v3), (4, .int v4)]) hx hb d_M_workedOut_136 hl (by decide) rfl (fun ls hl => ?_)
    refine lv_aload_n hx hb d_M_workedOut_138 rfl (lv_at hl 1 rfl) ?_
    refine g_get (v := .ref (ad 2)) hx hb hts in_M hown hK hI 0 rfl rfl 9 (by decide) (hts _ wd_401) rfl d_M_workedOut_139 ?_
    refine lv_iload_n hx hb d_M_workedOut_142 rfl (lv_at hl 3 rfl) ?_
    obtain ⟨hg, h⟩ := gd_e h
    refine g_iald hx hb hK hI 2 1 rfl rfl hg d_M_workedOut_143 ?_
    refine lv_iconst (v := 3) hx hb d_M_workedOut_144 (by decide) ?_
    refine lv_icmp_ge (tgt := 154) hx hb d_M_workedOut_145 rfl (fun hc26 => ?_) (fun hc26 => ?_)
    · rw [if_pos hc26] at h
      refine lv_iload_n hx hb d_M_workedOut_154 rfl (lv_at hl 2 rfl) ?_
      exact w155 k16 hk16 v3 v4 t0 v2 u _ _ _ (lv_sub hl [1, 3, 4, 0] rfl) hI h
    · rw [if_neg hc26] at h
      refine lv_iload_n hx hb d_M_workedOut_148 rfl (lv_at hl 2 rfl) ?_
      refine lv_iconst (v := 1) hx hb d_M_workedOut_149 (by decide) ?_
      refine lv_isub hx hb d_M_workedOut_150 ?_
      refine lv_goto (tgt := 155) hx hb d_M_workedOut_151 rfl ?_
      exact w155 k16 hk16 v3 v4 t0 (v2 - 1) u _ _ _ (lv_sub hl [1, 3, 4, 0] rfl) hI h
  have w90 : ∀ (k16 : Int32 → Int32 → MS → Option (Int32 × MS)) (hk16 : ∀ (v2 : Int32) (v3 : Int32) (u : MS) (H : Heap) (locs : List Loc) (ls : Array Slot), lv_has ls 6 [(0, .ref (ad 0)), (2, .int v2), (3, .int v3)] → g_I D vwCl A s.heap H locs (m_W ad cA u) → k16 v2 v3 u = some (r0, u0) → W p l e { frames := 6, cells := 0, slots := 0, locals := 151 } s m ([.ref (ad 0), .int a1] : List Value).toArray below meth c H locs 0 0 (MQ below (g_Q D vwCl (m_T cA) (m_W ad cA u0) A (some (.int r0))) ([.ref (ad 0), .int a1] : List Value).toArray s 0 0 A) (F0 m 16 ls [])) (v2 : Int32) (v3 : Int32) (u : MS) (H : Heap) (locs : List Loc) (ls : Array Slot), lv_has ls 6 [(0, .ref (ad 0)), (2, .int v2), (3, .int v3)] → g_I D vwCl A s.heap H locs (m_W ad cA u) → f_M_workedOut_J90 k16 v2 v3 u = some (r0, u0) → W p l e { frames := 6, cells := 0, slots := 0, locals := 151 } s m ([.ref (ad 0), .int a1] : List Value).toArray below meth c H locs 0 0 (MQ below (g_Q D vwCl (m_T cA) (m_W ad cA u0) A (some (.int r0))) ([.ref (ad 0), .int a1] : List Value).toArray s 0 0 A) (F0 m 90 ls []) := by
    intro k16 hk16 v2 v3 u H locs ls hl hI h
    dsimp only [f_M_workedOut_J90] at h
    refine lv_aload_n hx hb d_M_workedOut_90 rfl (lv_at hl 0 rfl) ?_
    refine g_get (v := .ref (ad 3)) hx hb hts in_M hown hK hI 0 rfl rfl 10 (by decide) (hts _ wd_402) rfl d_M_workedOut_91 ?_
    refine lv_iload_n hx hb d_M_workedOut_94 rfl (lv_at hl 2 rfl) ?_
    obtain ⟨hg, h⟩ := gd_e h
    refine g_iald hx hb hK hI 3 2 rfl rfl hg d_M_workedOut_95 ?_
    refine lv_iconst (v := (-1)) hx hb d_M_workedOut_96 (by decide) ?_
    refine lv_icmp_ne (tgt := 177) hx hb d_M_workedOut_97 rfl (fun hc21 => ?_) (fun hc21 => ?_)
    · rw [if_neg hc21] at h
      obtain ⟨x22, e_x22, h⟩ := lt_e h
      refine lv_iinc (v := x22) (k := 2) hx hb d_M_workedOut_177 hl rfl (by subst e_x22; rfl) (by decide) rfl (fun ls hl => ?_)
      refine lv_goto (tgt := 16) hx hb d_M_workedOut_180 rfl ?_
      exact hk16 v2 x22 u _ _ _ (lv_sub hl [1, 2, 0] rfl) hI h
    · rw [if_pos hc21] at h
      refine lv_aload_n hx hb d_M_workedOut_100 rfl (lv_at hl 0 rfl) ?_
      refine g_get (v := .ref (ad 16)) hx hb hts in_M hown hK hI 0 rfl rfl 27 (by decide) (hts _ wd_419) rfl d_M_workedOut_101 ?_
      refine lv_iload_n hx hb d_M_workedOut_104 rfl (lv_at hl 1 rfl) ?_
      refine lv_iconst (v := 1) hx hb d_M_workedOut_105 (by decide) ?_
      refine lv_isub hx hb d_M_workedOut_106 ?_
      obtain ⟨hg, h⟩ := gd_e h
      refine g_zald hx hb hK hI 16 15 rfl rfl hg d_M_workedOut_107 ?_
      obtain ⟨x23, e_x23, h⟩ := lt_e h
      refine lv_istore (lv' := [(4, .int x23), (0, .ref (ad 0)), (2, .int v2), (3, .int v3)]) hx hb d_M_workedOut_108 hl (by decide) (by subst e_x23; rfl) (fun ls hl => ?_)
      refine lv_aload_n hx hb d_M_workedOut_110 rfl (lv_at hl 1 rfl) ?_
      refine g_get (v := .ref (ad 2)) hx hb hts in_M hown hK hI 0 rfl rfl 9 (by decide) (hts _ wd_401) rfl d_M_workedOut_111 ?_
      refine lv_iload_n hx hb d_M_workedOut_114 rfl (lv_at hl 3 rfl) ?_
      obtain ⟨hg, h⟩ := gd_e h
      refine g_iald hx hb hK hI 2 1 rfl rfl hg d_M_workedOut_115 ?_
      refine lv_iconst (v := 3) hx hb d_M_workedOut_116 (by decide) ?_
      refine lv_icmp_ge (tgt := 135) hx hb d_M_workedOut_117 rfl (fun hc24 => ?_) (fun hc24 => ?_)
      · rw [if_pos hc24] at h
        refine lv_iconst (v := 0) hx hb d_M_workedOut_135 (by decide) ?_
        exact w136 k16 hk16 v2 v3 x23 0 u _ _ _ (lv_sub hl [1, 2, 3, 0] rfl) hI h
      · rw [if_neg hc24] at h
        refine lv_aload_n hx hb d_M_workedOut_120 rfl (lv_at hl 1 rfl) ?_
        refine g_get (v := .ref (ad 16)) hx hb hts in_M hown hK hI 0 rfl rfl 27 (by decide) (hts _ wd_419) rfl d_M_workedOut_121 ?_
        refine lv_iload_n hx hb d_M_workedOut_124 rfl (lv_at hl 2 rfl) ?_
        refine lv_iconst (v := 2) hx hb d_M_workedOut_125 (by decide) ?_
        refine lv_isub hx hb d_M_workedOut_126 ?_
        obtain ⟨hg, h⟩ := gd_e h
        refine g_zald hx hb hK hI 16 15 rfl rfl hg d_M_workedOut_127 ?_
        refine lv_if_eq (tgt := 135) hx hb d_M_workedOut_128 rfl (fun hc25 => ?_) (fun hc25 => ?_)
        · rw [if_pos hc25] at h
          refine lv_iconst (v := 0) hx hb d_M_workedOut_135 (by decide) ?_
          exact w136 k16 hk16 v2 v3 x23 0 u _ _ _ (lv_sub hl [1, 2, 3, 0] rfl) hI h
        · rw [if_neg hc25] at h
          refine lv_iconst (v := 1) hx hb d_M_workedOut_131 (by decide) ?_
          refine lv_goto (tgt := 136) hx hb d_M_workedOut_132 rfl ?_
          exact w136 k16 hk16 v2 v3 x23 1 u _ _ _ (lv_sub hl [1, 2, 3, 0] rfl) hI h
  have w16 : ∀ (n : Nat) (v2 : Int32) (v3 : Int32) (u : MS) (H : Heap) (locs : List Loc) (ls : Array Slot), lv_has ls 6 [(0, .ref (ad 0)), (2, .int v2), (3, .int v3)] → g_I D vwCl A s.heap H locs (m_W ad cA u) → f_M_workedOut_L16 n v2 v3 u = some (r0, u0) → W p l e { frames := 6, cells := 0, slots := 0, locals := 151 } s m ([.ref (ad 0), .int a1] : List Value).toArray below meth c H locs 0 0 (MQ below (g_Q D vwCl (m_T cA) (m_W ad cA u0) A (some (.int r0))) ([.ref (ad 0), .int a1] : List Value).toArray s 0 0 A) (F0 m 16 ls []) := by
    intro  n
    induction n with
    | zero => intro v2 v3 u H locs ls hl hI h; cases h
    | succ n ih =>
      intro v2 v3 u H locs ls hl hI h
      dsimp only [f_M_workedOut_L16] at h
      refine lv_iload_n hx hb d_M_workedOut_16 rfl (lv_at hl 2 rfl) ?_
      refine lv_if_lt (tgt := 183) hx hb d_M_workedOut_17 rfl (fun hc3 => ?_) (fun hc3 => ?_)
      · rw [if_pos hc3] at h
        refine lv_aload_n hx hb d_M_workedOut_183 rfl (lv_at hl 0 rfl) ?_
        refine g_get (v := .ref (ad 16)) hx hb hts in_M hown hK hI 0 rfl rfl 27 (by decide) (hts _ wd_419) rfl d_M_workedOut_184 ?_
        refine lv_iconst (v := 0) hx hb d_M_workedOut_187 (by decide) ?_
        refine g_zald hx hb hK hI 16 15 rfl rfl (by decide) d_M_workedOut_188 ?_
        exact g_zret (Wd := m_W ad cA) hx hb hr hlk hK hI h d_M_workedOut_189
      · rw [if_neg hc3] at h
        refine lv_aload_n hx hb d_M_workedOut_20 rfl (lv_at hl 0 rfl) ?_
        refine g_get (v := .ref (ad 3)) hx hb hts in_M hown hK hI 0 rfl rfl 10 (by decide) (hts _ wd_402) rfl d_M_workedOut_21 ?_
        refine lv_iload_n hx hb d_M_workedOut_24 rfl (lv_at hl 2 rfl) ?_
        obtain ⟨hg, h⟩ := gd_e h
        refine g_iald hx hb hK hI 3 2 rfl rfl hg d_M_workedOut_25 ?_
        refine lv_iconst (v := (-1)) hx hb d_M_workedOut_26 (by decide) ?_
        refine lv_icmp_ne (tgt := 90) hx hb d_M_workedOut_27 rfl (fun hc4 => ?_) (fun hc4 => ?_)
        · rw [if_neg hc4] at h
          exact w90 (f_M_workedOut_L16 n) ih v2 v3 u _ _ _ (lv_sub hl [0, 1, 2] rfl) hI h
        · rw [if_pos hc4] at h
          refine lv_aload_n hx hb d_M_workedOut_30 rfl (lv_at hl 0 rfl) ?_
          refine g_get (v := .ref (ad 2)) hx hb hts in_M hown hK hI 0 rfl rfl 9 (by decide) (hts _ wd_401) rfl d_M_workedOut_31 ?_
          refine lv_iload_n hx hb d_M_workedOut_34 rfl (lv_at hl 2 rfl) ?_
          obtain ⟨hg, h⟩ := gd_e h
          refine g_iald hx hb hK hI 2 1 rfl rfl hg d_M_workedOut_35 ?_
          refine lv_iconst (v := 4) hx hb d_M_workedOut_36 (by decide) ?_
          refine lv_icmp_lt (tgt := 90) hx hb d_M_workedOut_37 rfl (fun hc5 => ?_) (fun hc5 => ?_)
          · rw [if_pos hc5] at h
            exact w90 (f_M_workedOut_L16 n) ih v2 v3 u _ _ _ (lv_sub hl [0, 1, 2] rfl) hI h
          · rw [if_neg hc5] at h
            refine lv_aload_n hx hb d_M_workedOut_40 rfl (lv_at hl 0 rfl) ?_
            refine g_get (v := .ref (ad 16)) hx hb hts in_M hown hK hI 0 rfl rfl 27 (by decide) (hts _ wd_419) rfl d_M_workedOut_41 ?_
            refine lv_iload_n hx hb d_M_workedOut_44 rfl (lv_at hl 1 rfl) ?_
            refine lv_aload_n hx hb d_M_workedOut_45 rfl (lv_at hl 0 rfl) ?_
            refine lv_iload_n hx hb d_M_workedOut_46 rfl (lv_at hl 2 rfl) ?_
            obtain ⟨r6, u7, hc, h⟩ := ob_e h
            refine g_callV (As := [.int v3]) (rest := [.int v2, .ref (ad 16)]) (w' := m_W ad cA u7) (o := some (.int r6)) ⟨hx, hb, hml, hown, hts⟩ (c_M_isBracket l D ad cA hc) (cwV 1 hts gq_M_137 rfl rfl rfl (by decide +kernel) ⟨Nat.le_of_ble_eq_true rfl, Nat.le_of_ble_eq_true rfl⟩) hK hI hA 0 5 rfl rfl rfl hl.1 rfl (Nat.le_of_ble_eq_true rfl) d_M_workedOut_47 ⟨Nat.zero_le _, Nat.zero_le _⟩ rfl (fun H locs hI => ?_)
            refine lv_if_eq (tgt := 61) hx hb d_M_workedOut_50 rfl (fun hc8 => ?_) (fun hc8 => ?_)
            · rw [if_pos hc8] at h
              refine lv_aload_n hx hb d_M_workedOut_61 rfl (lv_at hl 0 rfl) ?_
              refine lv_iload_n hx hb d_M_workedOut_62 rfl (lv_at hl 2 rfl) ?_
              obtain ⟨r9, u10, hc, h⟩ := ob_e h
              refine g_callV (As := [.int v3]) (rest := [.int v2, .ref (ad 16)]) (w' := m_W ad cA u10) (o := some (.int r9)) ⟨hx, hb, hml, hown, hts⟩ (c_M_hasQuantifier l D ad cA hc) (cwV 1 hts gq_M_159 rfl rfl rfl (by decide +kernel) ⟨Nat.le_of_ble_eq_true rfl, Nat.le_of_ble_eq_true rfl⟩) hK hI hA 0 5 rfl rfl rfl hl.1 rfl (Nat.le_of_ble_eq_true rfl) d_M_workedOut_63 ⟨Nat.zero_le _, Nat.zero_le _⟩ rfl (fun H locs hI => ?_)
              refine lv_if_eq (tgt := 77) hx hb d_M_workedOut_66 rfl (fun hc11 => ?_) (fun hc11 => ?_)
              · rw [if_pos hc11] at h
                refine lv_aload_n hx hb d_M_workedOut_77 rfl (lv_at hl 0 rfl) ?_
                refine lv_iload_n hx hb d_M_workedOut_78 rfl (lv_at hl 2 rfl) ?_
                obtain ⟨r12, u13, hc, h⟩ := ob_e h
                refine g_callV (As := [.int v3]) (rest := [.int v2, .ref (ad 16)]) (w' := m_W ad cA u13) (o := some (.int r12)) ⟨hx, hb, hml, hown, hts⟩ (c_M_lowQuantifier l D ad cA hc) (cwV 1 hts gq_M_153 rfl rfl rfl (by decide +kernel) ⟨Nat.le_of_ble_eq_true rfl, Nat.le_of_ble_eq_true rfl⟩) hK hI hA 0 5 rfl rfl rfl hl.1 rfl (Nat.le_of_ble_eq_true rfl) d_M_workedOut_79 ⟨Nat.zero_le _, Nat.zero_le _⟩ rfl (fun H locs hI => ?_)
                exact w82 (f_M_workedOut_L16 n) ih v2 v3 r12 v2 u13 _ _ _ (lv_sub hl [0, 1, 2] rfl) hI h
              · rw [if_neg hc11] at h
                refine lv_aload_n hx hb d_M_workedOut_69 rfl (lv_at hl 0 rfl) ?_
                refine lv_iload_n hx hb d_M_workedOut_70 rfl (lv_at hl 2 rfl) ?_
                obtain ⟨r14, u15, hc, h⟩ := ob_e h
                refine g_callV (As := [.int v3]) (rest := [.int v2, .ref (ad 16)]) (w' := m_W ad cA u15) (o := some (.int r14)) ⟨hx, hb, hml, hown, hts⟩ (c_M_middleQuantifier l D ad cA hc) (cwV 1 hts gq_M_162 rfl rfl rfl (by decide +kernel) ⟨Nat.le_of_ble_eq_true rfl, Nat.le_of_ble_eq_true rfl⟩) hK hI hA 0 5 rfl rfl rfl hl.1 rfl (Nat.le_of_ble_eq_true rfl) d_M_workedOut_71 ⟨Nat.zero_le _, Nat.zero_le _⟩ rfl (fun H locs hI => ?_)
                refine lv_goto (tgt := 82) hx hb d_M_workedOut_74 rfl ?_
                exact w82 (f_M_workedOut_L16 n) ih v2 v3 r14 v2 u15 _ _ _ (lv_sub hl [0, 1, 2] rfl) hI h
            · rw [if_neg hc8] at h
              refine lv_aload_n hx hb d_M_workedOut_53 rfl (lv_at hl 0 rfl) ?_
              refine lv_iload_n hx hb d_M_workedOut_54 rfl (lv_at hl 2 rfl) ?_
              obtain ⟨r16, u17, hc, h⟩ := ob_e h
              refine g_callV (As := [.int v3]) (rest := [.int v2, .ref (ad 16)]) (w' := m_W ad cA u17) (o := some (.int r16)) ⟨hx, hb, hml, hown, hts⟩ (c_M_bracketHolds l D ad cA hc) (cwV 1 hts gq_M_140 rfl rfl rfl (by decide +kernel) ⟨Nat.le_of_ble_eq_true rfl, Nat.le_of_ble_eq_true rfl⟩) hK hI hA 0 5 rfl rfl rfl hl.1 rfl (Nat.le_of_ble_eq_true rfl) d_M_workedOut_55 ⟨Nat.zero_le _, Nat.zero_le _⟩ rfl (fun H locs hI => ?_)
              refine lv_goto (tgt := 82) hx hb d_M_workedOut_58 rfl ?_
              exact w82 (f_M_workedOut_L16 n) ih v2 v3 r16 v2 u17 _ _ _ (lv_sub hl [0, 1, 2] rfl) hI h
  dsimp only [f_M_workedOut] at h
  refine lv_aload_n hx hb d_M_workedOut_0 rfl (lv_at hl 0 rfl) ?_
  refine g_get (v := .ref (ad 13)) hx hb hts in_M hown hK hI 0 rfl rfl 24 (by decide) (hts _ wd_416) rfl d_M_workedOut_1 ?_
  refine lv_iconst (v := 0) hx hb d_M_workedOut_4 (by decide) ?_
  refine lv_iload_n hx hb d_M_workedOut_5 rfl (lv_at hl 1 rfl) ?_
  obtain ⟨u1, e_u1, h⟩ := lt_e h
  refine g_iast (w' := m_W ad cA u1) hx hb hK hI 13 12 rfl rfl (by decide) d_M_workedOut_6 (by subst e_u1; rfl) (fun H locs hI => ?_)
  refine lv_iconst (v := 0) hx hb d_M_workedOut_7 (by decide) ?_
  refine lv_istore_n (lv' := [(2, .int 0), (0, .ref (ad 0)), (1, .int a1)]) hx hb d_M_workedOut_8 rfl hl (by decide) rfl (fun ls hl => ?_)
  refine lv_aload_n hx hb d_M_workedOut_9 rfl (lv_at hl 1 rfl) ?_
  refine g_get (v := .int (m_cl u1)) hx hb hts in_M hown hK hI 0 rfl rfl 5 (by decide) (hts _ wd_397) rfl d_M_workedOut_10 ?_
  refine lv_iconst (v := 1) hx hb d_M_workedOut_13 (by decide) ?_
  refine lv_isub hx hb d_M_workedOut_14 ?_
  obtain ⟨x2, e_x2, h⟩ := lt_e h
  refine lv_istore_n (lv' := [(3, .int x2), (2, .int 0), (0, .ref (ad 0)), (1, .int a1)]) hx hb d_M_workedOut_15 rfl hl (by decide) (by subst e_x2; rfl) (fun ls hl => ?_)
  exact w16 4096 0 x2 u1 _ _ _ (lv_sub hl [2, 1, 0] rfl) hI h
def f_M_take_L160 (k114 : Int32 → MS → Option (Int32 × MS)) (n : Nat) : Int32 → Int32 → MS → Option (Int32 × MS) := match n with
  | 0 => fun _ _ _ => none
  | n + 1 => fun v1 v2 u => if 4 ≤ v2 then (lt_ (v1 + 1) fun x33 => k114 x33 u) else (gd (inb ((4 * v1) + v2) 80) (gd (inb ((4 * v1) + v2) 80) (lt_ (m_p_su (upd (m_su u) ((4 * v1) + v2).toNatClampNeg (m_ns u ((4 * v1) + v2).toNatClampNeg)) u) fun u34 => lt_ (v2 + 1) fun x35 => f_M_take_L160 k114 n v1 x35 u34)))
def f_M_take_L114 (n : Nat) : Int32 → MS → Option (Int32 × MS) := match n with
  | 0 => fun _ _ => none
  | n + 1 => fun v1 u => if (m_cl u) ≤ v1 then (if (m_xf u) = 0 then (ob (f_M_workedOut 0 u) fun r24 u25 => if r24 = 0 then (lt_ (m_p_tr 0 u25) fun u27 => some (m_br u27, u27)) else (lt_ (m_p_tr 1 u25) fun u28 => some (m_br u28, u28))) else (lt_ (m_p_tr 0 u) fun u23 => some (m_br u23, u23))) else (gd (inb v1 20) (gd (inb v1 20) (lt_ (m_p_ki (upd (m_ki u) v1.toNatClampNeg (m_nk u v1.toNatClampNeg)) u) fun u29 => gd (inb v1 20) (gd (inb v1 20) (lt_ (m_p_ow (upd (m_ow u29) v1.toNatClampNeg (m_no u29 v1.toNatClampNeg)) u29) fun u30 => gd (inb v1 20) (gd (inb v1 20) (lt_ (m_p_ab (upd (m_ab u30) v1.toNatClampNeg (m_na u30 v1.toNatClampNeg)) u30) fun u31 => f_M_take_L160 (f_M_take_L114 n) 4096 v1 0 u31)))))))
def f_M_take_J74 (u : MS) : Option (Int32 × MS) := if (m_fa u) < 0 then (lt_ (m_p_cl (m_re u) u) fun u18 => lt_ (m_p_br (m_rb u18) u18) fun u19 => gd (bz (m_rf u19)) (lt_ (m_p_xf (m_rf u19) u19) fun u20 => f_M_take_L114 4096 0 u20)) else some (((-1)) - (m_fa u), u)
def f_M_take_J45 (u : MS) : Option (Int32 × MS) := if 0 ≤ (m_fa u) then f_M_take_J74 u else (if (m_rf u) = 0 then f_M_take_J74 u else (if (m_dp u) = 0 then f_M_take_J74 u else (lt_ (m_p_fa (m_si u) u) fun u16 => f_M_take_J74 u16)))
def f_M_take (u : MS) : Option (Int32 × MS) := lt_ (m_p_at 0 u) fun u1 => lt_ (m_p_si (m_ty u1) u1) fun u2 => lt_ (m_p_ty 0 u2) fun u3 => lt_ (m_p_fa ((-1)) u3) fun u4 => ob (f_M_readClaims u4) fun r5 u6 => if 0 ≤ (m_fa u6) then f_M_take_J45 u6 else (ob (f_M_look u6) fun r8 u9 => if r8 < 0 then f_M_take_J45 u9 else (ob (f_M_fail u9) fun r11 u12 => f_M_take_J45 u12))
set_option maxRecDepth 100000 in
set_option maxHeartbeats 4000000 in
theorem c_M_take (l : Launch) (D : va_G) (ad : Nat → Nat) (cA : Nat → ClassId) {u u0 : MS} {r0 : Int32} (h : f_M_take u = some (r0, u0)) : g_M l y_M_take w_M_take { frames := 7, cells := 0, slots := 0, locals := 176 } D vwCl (m_T cA) (m_W ad cA u) [.ref (ad 0)] (some (.int r0)) (m_W ad cA u0) := by
  refine g_ofW (cc := c0_M_take) (maxL := 3) (ret := (some .int)) (by decide) rfl (Nat.le_of_ble_eq_true rfl) ?_
  intro p e s m below meth c A ls hx hb hr hml hown hts hlk hK hA hI hl
  have hts : ∀ w ∈ gW, w.before ([.ref (ad 0)] : List Value).toArray s = true := fun w h => hts w (List.mem_cons_of_mem _ h)
  have hown : s.vm.findClass R_M = some m.cls := hown
  have hl : lv_has ls 3 [(0, .ref (ad 0))] := hl
  have w160 : ∀ (k114 : Int32 → MS → Option (Int32 × MS)) (hk114 : ∀ (v1 : Int32) (u : MS) (H : Heap) (locs : List Loc) (ls : Array Slot), lv_has ls 3 [(0, .ref (ad 0)), (1, .int v1)] → g_I D vwCl A s.heap H locs (m_W ad cA u) → k114 v1 u = some (r0, u0) → W p l e { frames := 7, cells := 0, slots := 0, locals := 176 } s m ([.ref (ad 0)] : List Value).toArray below meth c H locs 0 0 (MQ below (g_Q D vwCl (m_T cA) (m_W ad cA u0) A (some (.int r0))) ([.ref (ad 0)] : List Value).toArray s 0 0 A) (F0 m 114 ls [])) (n : Nat) (v1 : Int32) (v2 : Int32) (u : MS) (H : Heap) (locs : List Loc) (ls : Array Slot), lv_has ls 3 [(0, .ref (ad 0)), (1, .int v1), (2, .int v2)] → g_I D vwCl A s.heap H locs (m_W ad cA u) → f_M_take_L160 k114 n v1 v2 u = some (r0, u0) → W p l e { frames := 7, cells := 0, slots := 0, locals := 176 } s m ([.ref (ad 0)] : List Value).toArray below meth c H locs 0 0 (MQ below (g_Q D vwCl (m_T cA) (m_W ad cA u0) A (some (.int r0))) ([.ref (ad 0)] : List Value).toArray s 0 0 A) (F0 m 160 ls []) := by
    intro k114 hk114 n
    induction n with
    | zero => intro v1 v2 u H locs ls hl hI h; cases h
    | succ n ih =>
      intro v1 v2 u H locs ls hl hI h
      dsimp only [f_M_take_L160] at h
      refine lv_iload_n hx hb d_M_take_160 rfl (lv_at hl 2 rfl) ?_
      refine lv_iconst (v := 4) hx hb d_M_take_161 (by decide) ?_
      refine lv_icmp_ge (tgt := 191) hx hb d_M_take_162 rfl (fun hc32 => ?_) (fun hc32 => ?_)
      · rw [if_pos hc32] at h
        obtain ⟨x33, e_x33, h⟩ := lt_e h
        refine lv_iinc (v := x33) (k := 1) hx hb d_M_take_191 hl rfl (by subst e_x33; rfl) (by decide) rfl (fun ls hl => ?_)
        refine lv_goto (tgt := 114) hx hb d_M_take_194 rfl ?_
        exact hk114 x33 u _ _ _ (lv_sub hl [1, 0] rfl) hI h
      · rw [if_neg hc32] at h
        refine lv_aload_n hx hb d_M_take_165 rfl (lv_at hl 0 rfl) ?_
        refine g_get (v := .ref (ad 5)) hx hb hts in_M hown hK hI 0 rfl rfl 12 (by decide) (hts _ wd_404) rfl d_M_take_166 ?_
        refine lv_iconst (v := 4) hx hb d_M_take_169 (by decide) ?_
        refine lv_iload_n hx hb d_M_take_170 rfl (lv_at hl 1 rfl) ?_
        refine lv_imul hx hb d_M_take_171 ?_
        refine lv_iload_n hx hb d_M_take_172 rfl (lv_at hl 2 rfl) ?_
        refine lv_iadd hx hb d_M_take_173 ?_
        refine lv_aload_n hx hb d_M_take_174 rfl (lv_at hl 0 rfl) ?_
        refine g_get (v := .ref (ad 9)) hx hb hts in_M hown hK hI 0 rfl rfl 20 (by decide) (hts _ wd_412) rfl d_M_take_175 ?_
        refine lv_iconst (v := 4) hx hb d_M_take_178 (by decide) ?_
        refine lv_iload_n hx hb d_M_take_179 rfl (lv_at hl 1 rfl) ?_
        refine lv_imul hx hb d_M_take_180 ?_
        refine lv_iload_n hx hb d_M_take_181 rfl (lv_at hl 2 rfl) ?_
        refine lv_iadd hx hb d_M_take_182 ?_
        obtain ⟨hg, h⟩ := gd_e h
        refine g_iald hx hb hK hI 9 8 rfl rfl hg d_M_take_183 ?_
        obtain ⟨hg, h⟩ := gd_e h
        obtain ⟨u34, e_u34, h⟩ := lt_e h
        refine g_iast (w' := m_W ad cA u34) hx hb hK hI 5 4 rfl rfl hg d_M_take_184 (by subst e_u34; rfl) (fun H locs hI => ?_)
        obtain ⟨x35, e_x35, h⟩ := lt_e h
        refine lv_iinc (v := x35) (k := 2) hx hb d_M_take_185 hl rfl (by subst e_x35; rfl) (by decide) rfl (fun ls hl => ?_)
        refine lv_goto (tgt := 160) hx hb d_M_take_188 rfl ?_
        exact ih v1 x35 u34 _ _ _ (lv_sub hl [1, 2, 0] rfl) hI h
  have w114 : ∀ (n : Nat) (v1 : Int32) (u : MS) (H : Heap) (locs : List Loc) (ls : Array Slot), lv_has ls 3 [(0, .ref (ad 0)), (1, .int v1)] → g_I D vwCl A s.heap H locs (m_W ad cA u) → f_M_take_L114 n v1 u = some (r0, u0) → W p l e { frames := 7, cells := 0, slots := 0, locals := 176 } s m ([.ref (ad 0)] : List Value).toArray below meth c H locs 0 0 (MQ below (g_Q D vwCl (m_T cA) (m_W ad cA u0) A (some (.int r0))) ([.ref (ad 0)] : List Value).toArray s 0 0 A) (F0 m 114 ls []) := by
    intro  n
    induction n with
    | zero => intro v1 u H locs ls hl hI h; cases h
    | succ n ih =>
      intro v1 u H locs ls hl hI h
      dsimp only [f_M_take_L114] at h
      refine lv_iload_n hx hb d_M_take_114 rfl (lv_at hl 1 rfl) ?_
      refine lv_aload_n hx hb d_M_take_115 rfl (lv_at hl 0 rfl) ?_
      refine g_get (v := .int (m_cl u)) hx hb hts in_M hown hK hI 0 rfl rfl 5 (by decide) (hts _ wd_397) rfl d_M_take_116 ?_
      refine lv_icmp_ge (tgt := 197) hx hb d_M_take_119 rfl (fun hc21 => ?_) (fun hc21 => ?_)
      · rw [if_pos hc21] at h
        refine lv_aload_n hx hb d_M_take_197 rfl (lv_at hl 0 rfl) ?_
        refine lv_aload_n hx hb d_M_take_198 rfl (lv_at hl 0 rfl) ?_
        refine g_get (v := .int (m_xf u)) hx hb hts in_M hown hK hI 0 rfl rfl 7 (by decide) (hts _ wd_399) rfl d_M_take_199 ?_
        refine lv_if_ne (tgt := 217) hx hb d_M_take_202 rfl (fun hc22 => ?_) (fun hc22 => ?_)
        · rw [if_neg hc22] at h
          refine lv_iconst (v := 0) hx hb d_M_take_217 (by decide) ?_
          obtain ⟨u23, e_u23, h⟩ := lt_e h
          refine g_put (t := .boolean) (w' := m_W ad cA u23) hx hb hts in_M ty_M tyok_M nm_M hown hK hI 0 rfl rfl 8 (by decide) (hts _ wd_400) rfl (by decide +kernel) (by decide +kernel) (by decide +kernel) (Nat.le_of_ble_eq_true rfl) d_M_take_218 (by subst e_u23; rfl) (fun H locs hI => ?_)
          refine lv_aload_n hx hb d_M_take_221 rfl (lv_at hl 0 rfl) ?_
          refine g_get (v := .int (m_br u23)) hx hb hts in_M hown hK hI 0 rfl rfl 6 (by decide) (hts _ wd_398) rfl d_M_take_222 ?_
          exact g_iret (Wd := m_W ad cA) hx hb hr hlk hK hI h d_M_take_225
        · rw [if_pos hc22] at h
          refine lv_aload_n hx hb d_M_take_205 rfl (lv_at hl 0 rfl) ?_
          refine lv_iconst (v := 0) hx hb d_M_take_206 (by decide) ?_
          obtain ⟨r24, u25, hc, h⟩ := ob_e h
          refine g_callV (As := [.int 0]) (rest := [.ref (ad 0)]) (w' := m_W ad cA u25) (o := some (.int r24)) ⟨hx, hb, hml, hown, hts⟩ (c_M_workedOut l D ad cA hc) (cwV 1 hts gq_M_129 rfl rfl rfl (by decide +kernel) ⟨Nat.le_of_ble_eq_true rfl, Nat.le_of_ble_eq_true rfl⟩) hK hI hA 0 5 rfl rfl rfl hl.1 rfl (Nat.le_of_ble_eq_true rfl) d_M_take_207 ⟨Nat.zero_le _, Nat.zero_le _⟩ rfl (fun H locs hI => ?_)
          refine lv_if_eq (tgt := 217) hx hb d_M_take_210 rfl (fun hc26 => ?_) (fun hc26 => ?_)
          · rw [if_pos hc26] at h
            refine lv_iconst (v := 0) hx hb d_M_take_217 (by decide) ?_
            obtain ⟨u27, e_u27, h⟩ := lt_e h
            refine g_put (t := .boolean) (w' := m_W ad cA u27) hx hb hts in_M ty_M tyok_M nm_M hown hK hI 0 rfl rfl 8 (by decide) (hts _ wd_400) rfl (by decide +kernel) (by decide +kernel) (by decide +kernel) (Nat.le_of_ble_eq_true rfl) d_M_take_218 (by subst e_u27; rfl) (fun H locs hI => ?_)
            refine lv_aload_n hx hb d_M_take_221 rfl (lv_at hl 0 rfl) ?_
            refine g_get (v := .int (m_br u27)) hx hb hts in_M hown hK hI 0 rfl rfl 6 (by decide) (hts _ wd_398) rfl d_M_take_222 ?_
            exact g_iret (Wd := m_W ad cA) hx hb hr hlk hK hI h d_M_take_225
          · rw [if_neg hc26] at h
            refine lv_iconst (v := 1) hx hb d_M_take_213 (by decide) ?_
            refine lv_goto (tgt := 218) hx hb d_M_take_214 rfl ?_
            obtain ⟨u28, e_u28, h⟩ := lt_e h
            refine g_put (t := .boolean) (w' := m_W ad cA u28) hx hb hts in_M ty_M tyok_M nm_M hown hK hI 0 rfl rfl 8 (by decide) (hts _ wd_400) rfl (by decide +kernel) (by decide +kernel) (by decide +kernel) (Nat.le_of_ble_eq_true rfl) d_M_take_218 (by subst e_u28; rfl) (fun H locs hI => ?_)
            refine lv_aload_n hx hb d_M_take_221 rfl (lv_at hl 0 rfl) ?_
            refine g_get (v := .int (m_br u28)) hx hb hts in_M hown hK hI 0 rfl rfl 6 (by decide) (hts _ wd_398) rfl d_M_take_222 ?_
            exact g_iret (Wd := m_W ad cA) hx hb hr hlk hK hI h d_M_take_225
      · rw [if_neg hc21] at h
        refine lv_aload_n hx hb d_M_take_122 rfl (lv_at hl 0 rfl) ?_
        refine g_get (v := .ref (ad 2)) hx hb hts in_M hown hK hI 0 rfl rfl 9 (by decide) (hts _ wd_401) rfl d_M_take_123 ?_
        refine lv_iload_n hx hb d_M_take_126 rfl (lv_at hl 1 rfl) ?_
        refine lv_aload_n hx hb d_M_take_127 rfl (lv_at hl 0 rfl) ?_
        refine g_get (v := .ref (ad 6)) hx hb hts in_M hown hK hI 0 rfl rfl 17 (by decide) (hts _ wd_409) rfl d_M_take_128 ?_
        refine lv_iload_n hx hb d_M_take_131 rfl (lv_at hl 1 rfl) ?_
        obtain ⟨hg, h⟩ := gd_e h
        refine g_iald hx hb hK hI 6 5 rfl rfl hg d_M_take_132 ?_
        obtain ⟨hg, h⟩ := gd_e h
        obtain ⟨u29, e_u29, h⟩ := lt_e h
        refine g_iast (w' := m_W ad cA u29) hx hb hK hI 2 1 rfl rfl hg d_M_take_133 (by subst e_u29; rfl) (fun H locs hI => ?_)
        refine lv_aload_n hx hb d_M_take_134 rfl (lv_at hl 0 rfl) ?_
        refine g_get (v := .ref (ad 3)) hx hb hts in_M hown hK hI 0 rfl rfl 10 (by decide) (hts _ wd_402) rfl d_M_take_135 ?_
        refine lv_iload_n hx hb d_M_take_138 rfl (lv_at hl 1 rfl) ?_
        refine lv_aload_n hx hb d_M_take_139 rfl (lv_at hl 0 rfl) ?_
        refine g_get (v := .ref (ad 7)) hx hb hts in_M hown hK hI 0 rfl rfl 18 (by decide) (hts _ wd_410) rfl d_M_take_140 ?_
        refine lv_iload_n hx hb d_M_take_143 rfl (lv_at hl 1 rfl) ?_
        obtain ⟨hg, h⟩ := gd_e h
        refine g_iald hx hb hK hI 7 6 rfl rfl hg d_M_take_144 ?_
        obtain ⟨hg, h⟩ := gd_e h
        obtain ⟨u30, e_u30, h⟩ := lt_e h
        refine g_iast (w' := m_W ad cA u30) hx hb hK hI 3 2 rfl rfl hg d_M_take_145 (by subst e_u30; rfl) (fun H locs hI => ?_)
        refine lv_aload_n hx hb d_M_take_146 rfl (lv_at hl 0 rfl) ?_
        refine g_get (v := .ref (ad 4)) hx hb hts in_M hown hK hI 0 rfl rfl 11 (by decide) (hts _ wd_403) rfl d_M_take_147 ?_
        refine lv_iload_n hx hb d_M_take_150 rfl (lv_at hl 1 rfl) ?_
        refine lv_aload_n hx hb d_M_take_151 rfl (lv_at hl 0 rfl) ?_
        refine g_get (v := .ref (ad 8)) hx hb hts in_M hown hK hI 0 rfl rfl 19 (by decide) (hts _ wd_411) rfl d_M_take_152 ?_
        refine lv_iload_n hx hb d_M_take_155 rfl (lv_at hl 1 rfl) ?_
        obtain ⟨hg, h⟩ := gd_e h
        refine g_iald hx hb hK hI 8 7 rfl rfl hg d_M_take_156 ?_
        obtain ⟨hg, h⟩ := gd_e h
        obtain ⟨u31, e_u31, h⟩ := lt_e h
        refine g_iast (w' := m_W ad cA u31) hx hb hK hI 4 3 rfl rfl hg d_M_take_157 (by subst e_u31; rfl) (fun H locs hI => ?_)
        refine lv_iconst (v := 0) hx hb d_M_take_158 (by decide) ?_
        refine lv_istore_n (lv' := [(2, .int 0), (0, .ref (ad 0)), (1, .int v1)]) hx hb d_M_take_159 rfl hl (by decide) rfl (fun ls hl => ?_)
        exact w160 (f_M_take_L114 n) ih 4096 v1 0 u31 _ _ _ (lv_sub hl [1, 2, 0] rfl) hI h
  have w74 : ∀ (u : MS) (H : Heap) (locs : List Loc) (ls : Array Slot), lv_has ls 3 [(0, .ref (ad 0))] → g_I D vwCl A s.heap H locs (m_W ad cA u) → f_M_take_J74 u = some (r0, u0) → W p l e { frames := 7, cells := 0, slots := 0, locals := 176 } s m ([.ref (ad 0)] : List Value).toArray below meth c H locs 0 0 (MQ below (g_Q D vwCl (m_T cA) (m_W ad cA u0) A (some (.int r0))) ([.ref (ad 0)] : List Value).toArray s 0 0 A) (F0 m 74 ls []) := by
    intro  u H locs ls hl hI h
    dsimp only [f_M_take_J74] at h
    refine lv_aload_n hx hb d_M_take_74 rfl (lv_at hl 0 rfl) ?_
    refine g_get (v := .int (m_fa u)) hx hb hts in_M hown hK hI 0 rfl rfl 4 (by decide) (hts _ wd_396) rfl d_M_take_75 ?_
    refine lv_if_lt (tgt := 88) hx hb d_M_take_78 rfl (fun hc17 => ?_) (fun hc17 => ?_)
    · rw [if_pos hc17] at h
      refine lv_aload_n hx hb d_M_take_88 rfl (lv_at hl 0 rfl) ?_
      refine lv_aload_n hx hb d_M_take_89 rfl (lv_at hl 0 rfl) ?_
      refine g_get (v := .int (m_re u)) hx hb hts in_M hown hK hI 0 rfl rfl 13 (by decide) (hts _ wd_405) rfl d_M_take_90 ?_
      obtain ⟨u18, e_u18, h⟩ := lt_e h
      refine g_put (t := .int) (w' := m_W ad cA u18) hx hb hts in_M ty_M tyok_M nm_M hown hK hI 0 rfl rfl 5 (by decide) (hts _ wd_397) rfl (by decide +kernel) rfl rfl (Nat.le_of_ble_eq_true rfl) d_M_take_93 (by subst e_u18; rfl) (fun H locs hI => ?_)
      refine lv_aload_n hx hb d_M_take_96 rfl (lv_at hl 0 rfl) ?_
      refine lv_aload_n hx hb d_M_take_97 rfl (lv_at hl 0 rfl) ?_
      refine g_get (v := .int (m_rb u18)) hx hb hts in_M hown hK hI 0 rfl rfl 14 (by decide) (hts _ wd_406) rfl d_M_take_98 ?_
      obtain ⟨u19, e_u19, h⟩ := lt_e h
      refine g_put (t := .int) (w' := m_W ad cA u19) hx hb hts in_M ty_M tyok_M nm_M hown hK hI 0 rfl rfl 6 (by decide) (hts _ wd_398) rfl (by decide +kernel) rfl rfl (Nat.le_of_ble_eq_true rfl) d_M_take_101 (by subst e_u19; rfl) (fun H locs hI => ?_)
      refine lv_aload_n hx hb d_M_take_104 rfl (lv_at hl 0 rfl) ?_
      refine lv_aload_n hx hb d_M_take_105 rfl (lv_at hl 0 rfl) ?_
      refine g_get (v := .int (m_rf u19)) hx hb hts in_M hown hK hI 0 rfl rfl 15 (by decide) (hts _ wd_407) rfl d_M_take_106 ?_
      obtain ⟨hg, h⟩ := gd_e h
      obtain ⟨u20, e_u20, h⟩ := lt_e h
      refine g_put (t := .boolean) (w' := m_W ad cA u20) hx hb hts in_M ty_M tyok_M nm_M hown hK hI 0 rfl rfl 7 (by decide) (hts _ wd_399) rfl (by decide +kernel) (bz_n hg) (bz_f hg) (Nat.le_of_ble_eq_true rfl) d_M_take_109 (by subst e_u20; rfl) (fun H locs hI => ?_)
      refine lv_iconst (v := 0) hx hb d_M_take_112 (by decide) ?_
      refine lv_istore_n (lv' := [(1, .int 0), (0, .ref (ad 0))]) hx hb d_M_take_113 rfl hl (by decide) rfl (fun ls hl => ?_)
      exact w114 4096 0 u20 _ _ _ (lv_sub hl [1, 0] rfl) hI h
    · rw [if_neg hc17] at h
      refine lv_iconst (v := (-1)) hx hb d_M_take_81 (by decide) ?_
      refine lv_aload_n hx hb d_M_take_82 rfl (lv_at hl 0 rfl) ?_
      refine g_get (v := .int (m_fa u)) hx hb hts in_M hown hK hI 0 rfl rfl 4 (by decide) (hts _ wd_396) rfl d_M_take_83 ?_
      refine lv_isub hx hb d_M_take_86 ?_
      exact g_iret (Wd := m_W ad cA) hx hb hr hlk hK hI h d_M_take_87
  have w45 : ∀ (u : MS) (H : Heap) (locs : List Loc) (ls : Array Slot), lv_has ls 3 [(0, .ref (ad 0))] → g_I D vwCl A s.heap H locs (m_W ad cA u) → f_M_take_J45 u = some (r0, u0) → W p l e { frames := 7, cells := 0, slots := 0, locals := 176 } s m ([.ref (ad 0)] : List Value).toArray below meth c H locs 0 0 (MQ below (g_Q D vwCl (m_T cA) (m_W ad cA u0) A (some (.int r0))) ([.ref (ad 0)] : List Value).toArray s 0 0 A) (F0 m 45 ls []) := by
    intro  u H locs ls hl hI h
    dsimp only [f_M_take_J45] at h
    refine lv_aload_n hx hb d_M_take_45 rfl (lv_at hl 0 rfl) ?_
    refine g_get (v := .int (m_fa u)) hx hb hts in_M hown hK hI 0 rfl rfl 4 (by decide) (hts _ wd_396) rfl d_M_take_46 ?_
    refine lv_if_ge (tgt := 74) hx hb d_M_take_49 rfl (fun hc13 => ?_) (fun hc13 => ?_)
    · rw [if_pos hc13] at h
      exact w74 u _ _ _ (lv_sub hl [0] rfl) hI h
    · rw [if_neg hc13] at h
      refine lv_aload_n hx hb d_M_take_52 rfl (lv_at hl 0 rfl) ?_
      refine g_get (v := .int (m_rf u)) hx hb hts in_M hown hK hI 0 rfl rfl 15 (by decide) (hts _ wd_407) rfl d_M_take_53 ?_
      refine lv_if_eq (tgt := 74) hx hb d_M_take_56 rfl (fun hc14 => ?_) (fun hc14 => ?_)
      · rw [if_pos hc14] at h
        exact w74 u _ _ _ (lv_sub hl [0] rfl) hI h
      · rw [if_neg hc14] at h
        refine lv_aload_n hx hb d_M_take_59 rfl (lv_at hl 0 rfl) ?_
        refine g_get (v := .int (m_dp u)) hx hb hts in_M hown hK hI 0 rfl rfl 16 (by decide) (hts _ wd_408) rfl d_M_take_60 ?_
        refine lv_if_eq (tgt := 74) hx hb d_M_take_63 rfl (fun hc15 => ?_) (fun hc15 => ?_)
        · rw [if_pos hc15] at h
          exact w74 u _ _ _ (lv_sub hl [0] rfl) hI h
        · rw [if_neg hc15] at h
          refine lv_aload_n hx hb d_M_take_66 rfl (lv_at hl 0 rfl) ?_
          refine lv_aload_n hx hb d_M_take_67 rfl (lv_at hl 0 rfl) ?_
          refine g_get (v := .int (m_si u)) hx hb hts in_M hown hK hI 0 rfl rfl 2 (by decide) (hts _ wd_394) rfl d_M_take_68 ?_
          obtain ⟨u16, e_u16, h⟩ := lt_e h
          refine g_put (t := .int) (w' := m_W ad cA u16) hx hb hts in_M ty_M tyok_M nm_M hown hK hI 0 rfl rfl 4 (by decide) (hts _ wd_396) rfl (by decide +kernel) rfl rfl (Nat.le_of_ble_eq_true rfl) d_M_take_71 (by subst e_u16; rfl) (fun H locs hI => ?_)
          exact w74 u16 _ _ _ (lv_sub hl [0] rfl) hI h
  dsimp only [f_M_take] at h
  refine lv_aload_n hx hb d_M_take_0 rfl (lv_at hl 0 rfl) ?_
  refine lv_iconst (v := 0) hx hb d_M_take_1 (by decide) ?_
  obtain ⟨u1, e_u1, h⟩ := lt_e h
  refine g_put (t := .int) (w' := m_W ad cA u1) hx hb hts in_M ty_M tyok_M nm_M hown hK hI 0 rfl rfl 3 (by decide) (hts _ wd_395) rfl (by decide +kernel) rfl rfl (Nat.le_of_ble_eq_true rfl) d_M_take_2 (by subst e_u1; rfl) (fun H locs hI => ?_)
  refine lv_aload_n hx hb d_M_take_5 rfl (lv_at hl 0 rfl) ?_
  refine lv_aload_n hx hb d_M_take_6 rfl (lv_at hl 0 rfl) ?_
  refine g_get (v := .int (m_ty u1)) hx hb hts in_M hown hK hI 0 rfl rfl 1 (by decide) (hts _ wd_393) rfl d_M_take_7 ?_
  obtain ⟨u2, e_u2, h⟩ := lt_e h
  refine g_put (t := .int) (w' := m_W ad cA u2) hx hb hts in_M ty_M tyok_M nm_M hown hK hI 0 rfl rfl 2 (by decide) (hts _ wd_394) rfl (by decide +kernel) rfl rfl (Nat.le_of_ble_eq_true rfl) d_M_take_10 (by subst e_u2; rfl) (fun H locs hI => ?_)
  refine lv_aload_n hx hb d_M_take_13 rfl (lv_at hl 0 rfl) ?_
  refine lv_iconst (v := 0) hx hb d_M_take_14 (by decide) ?_
  obtain ⟨u3, e_u3, h⟩ := lt_e h
  refine g_put (t := .int) (w' := m_W ad cA u3) hx hb hts in_M ty_M tyok_M nm_M hown hK hI 0 rfl rfl 1 (by decide) (hts _ wd_393) rfl (by decide +kernel) rfl rfl (Nat.le_of_ble_eq_true rfl) d_M_take_15 (by subst e_u3; rfl) (fun H locs hI => ?_)
  refine lv_aload_n hx hb d_M_take_18 rfl (lv_at hl 0 rfl) ?_
  refine lv_iconst (v := (-1)) hx hb d_M_take_19 (by decide) ?_
  obtain ⟨u4, e_u4, h⟩ := lt_e h
  refine g_put (t := .int) (w' := m_W ad cA u4) hx hb hts in_M ty_M tyok_M nm_M hown hK hI 0 rfl rfl 4 (by decide) (hts _ wd_396) rfl (by decide +kernel) rfl rfl (Nat.le_of_ble_eq_true rfl) d_M_take_20 (by subst e_u4; rfl) (fun H locs hI => ?_)
  refine lv_aload_n hx hb d_M_take_23 rfl (lv_at hl 0 rfl) ?_
  obtain ⟨r5, u6, hc, h⟩ := ob_e h
  refine g_callV (As := []) (rest := []) (w' := m_W ad cA u6) (o := none) ⟨hx, hb, hml, hown, hts⟩ (c_M_readClaims l D ad cA hc) (cwV 0 hts gq_M_123 rfl rfl rfl (by decide +kernel) ⟨Nat.le_of_ble_eq_true rfl, Nat.le_of_ble_eq_true rfl⟩) hK hI hA 0 5 rfl rfl rfl hl.1 rfl (Nat.le_of_ble_eq_true rfl) d_M_take_24 ⟨Nat.zero_le _, Nat.zero_le _⟩ rfl (fun H locs hI => ?_)
  refine lv_aload_n hx hb d_M_take_27 rfl (lv_at hl 0 rfl) ?_
  refine g_get (v := .int (m_fa u6)) hx hb hts in_M hown hK hI 0 rfl rfl 4 (by decide) (hts _ wd_396) rfl d_M_take_28 ?_
  refine lv_if_ge (tgt := 45) hx hb d_M_take_31 rfl (fun hc7 => ?_) (fun hc7 => ?_)
  · rw [if_pos hc7] at h
    exact w45 u6 _ _ _ (lv_sub hl [0] rfl) hI h
  · rw [if_neg hc7] at h
    refine lv_aload_n hx hb d_M_take_34 rfl (lv_at hl 0 rfl) ?_
    obtain ⟨r8, u9, hc, h⟩ := ob_e h
    refine g_callV (As := []) (rest := []) (w' := m_W ad cA u9) (o := some (.int r8)) ⟨hx, hb, hml, hown, hts⟩ (c_M_look l D ad cA hc) (cwV 0 hts gq_M_83 rfl rfl rfl (by decide +kernel) ⟨Nat.le_of_ble_eq_true rfl, Nat.le_of_ble_eq_true rfl⟩) hK hI hA 0 5 rfl rfl rfl hl.1 rfl (Nat.le_of_ble_eq_true rfl) d_M_take_35 ⟨Nat.zero_le _, Nat.zero_le _⟩ rfl (fun H locs hI => ?_)
    refine lv_if_lt (tgt := 45) hx hb d_M_take_38 rfl (fun hc10 => ?_) (fun hc10 => ?_)
    · rw [if_pos hc10] at h
      exact w45 u9 _ _ _ (lv_sub hl [0] rfl) hI h
    · rw [if_neg hc10] at h
      refine lv_aload_n hx hb d_M_take_41 rfl (lv_at hl 0 rfl) ?_
      obtain ⟨r11, u12, hc, h⟩ := ob_e h
      refine g_callV (As := []) (rest := []) (w' := m_W ad cA u12) (o := none) ⟨hx, hb, hml, hown, hts⟩ (c_M_fail l D ad cA hc) (cwV 0 hts gq_M_90 rfl rfl rfl (by decide +kernel) ⟨Nat.le_of_ble_eq_true rfl, Nat.le_of_ble_eq_true rfl⟩) hK hI hA 0 5 rfl rfl rfl hl.1 rfl (Nat.le_of_ble_eq_true rfl) d_M_take_42 ⟨Nat.zero_le _, Nat.zero_le _⟩ rfl (fun H locs hI => ?_)
      exact w45 u12 _ _ _ (lv_sub hl [0] rfl) hI h
