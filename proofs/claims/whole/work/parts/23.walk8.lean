def f_M_isBracket (a1 : Int32) (u : MS) : Option (Int32 × MS) := gd (inb a1 20) (if (m_ki u a1.toNatClampNeg) < 6 then (gd (bz 0) (some (0, u))) else (gd (bz 1) (some (1, u))))
set_option maxRecDepth 100000 in
set_option maxHeartbeats 4000000 in
theorem c_M_isBracket (l : Launch) (D : va_G) (ad : Nat → Nat) (cA : Nat → ClassId) {a1 : Int32} {u u0 : MS} {r0 : Int32} (h : f_M_isBracket a1 u = some (r0, u0)) : g_M l y_M_isBracket w_M_isBracket { frames := 0, cells := 0, slots := 0, locals := 0 } D vwCl (m_T cA) (m_W ad cA u) [.ref (ad 0), .int a1] (some (.int r0)) (m_W ad cA u0) := by
  refine g_ofW (cc := c0_M_isBracket) (maxL := 2) (ret := (some .boolean)) (by decide) rfl (Nat.le_of_ble_eq_true rfl) ?_
  intro p e s m below meth c A ls hx hb hr hml hown hts hlk hK hA hI hl
  have hts : ∀ w ∈ gW, w.before ([.ref (ad 0), .int a1] : List Value).toArray s = true := fun w h => hts w (List.mem_cons_of_mem _ h)
  have hown : s.vm.findClass R_M = some m.cls := hown
  have hl : lv_has ls 2 [(0, .ref (ad 0)), (1, .int a1)] := hl
  dsimp only [f_M_isBracket] at h
  refine lv_aload_n hx hb d_M_isBracket_0 rfl (lv_at hl 0 rfl) ?_
  refine g_get (v := .ref (ad 2)) hx hb hts in_M hown hK hI 0 rfl rfl 9 (by decide) (hts _ wd_401) rfl d_M_isBracket_1 ?_
  refine lv_iload_n hx hb d_M_isBracket_4 rfl (lv_at hl 1 rfl) ?_
  obtain ⟨hg, h⟩ := gd_e h
  refine g_iald hx hb hK hI 2 1 rfl rfl hg d_M_isBracket_5 ?_
  refine lv_bipush (v := 6) hx hb d_M_isBracket_6 (by decide) ?_
  refine lv_icmp_lt (tgt := 15) hx hb d_M_isBracket_8 rfl (fun hc1 => ?_) (fun hc1 => ?_)
  · rw [if_pos hc1] at h
    refine lv_iconst (v := 0) hx hb d_M_isBracket_15 (by decide) ?_
    exact g_zret (Wd := m_W ad cA) hx hb hr hlk hK hI h d_M_isBracket_16
  · rw [if_neg hc1] at h
    refine lv_iconst (v := 1) hx hb d_M_isBracket_11 (by decide) ?_
    refine lv_goto (tgt := 16) hx hb d_M_isBracket_12 rfl ?_
    exact g_zret (Wd := m_W ad cA) hx hb hr hlk hK hI h d_M_isBracket_16
def f_M_rest_L14 (n : Nat) : Int32 → Int32 → Int32 → Int32 → MS → Option (Int32 × MS) := match n with
  | 0 => fun _ _ _ _ _ => none
  | n + 1 => fun v1 v2 v3 v4 u => if 3 ≤ v4 then some (v3, u) else (if v4 = v2 then (lt_ (v4 + 1) fun x6 => f_M_rest_L14 n v1 v2 v3 x6 u) else (gd (inb ((4 * v1) + v4) 80) (gd (inb v4 3) (lt_ (v3 + ((m_su u ((4 * v1) + v4).toNatClampNeg) * (m_nu u v4.toNatClampNeg))) fun x4 => lt_ (v4 + 1) fun x5 => f_M_rest_L14 n v1 v2 x4 x5 u))))
def f_M_rest (a1 : Int32) (a2 : Int32) (u : MS) : Option (Int32 × MS) := gd (inb ((4 * a1) + 3) 80) (lt_ (m_su u ((4 * a1) + 3).toNatClampNeg) fun x1 => f_M_rest_L14 4096 a1 a2 x1 0 u)
set_option maxRecDepth 100000 in
set_option maxHeartbeats 4000000 in
theorem c_M_rest (l : Launch) (D : va_G) (ad : Nat → Nat) (cA : Nat → ClassId) {a1 : Int32} {a2 : Int32} {u u0 : MS} {r0 : Int32} (h : f_M_rest a1 a2 u = some (r0, u0)) : g_M l y_M_rest w_M_rest { frames := 0, cells := 0, slots := 0, locals := 0 } D vwCl (m_T cA) (m_W ad cA u) [.ref (ad 0), .int a1, .int a2] (some (.int r0)) (m_W ad cA u0) := by
  refine g_ofW (cc := c0_M_rest) (maxL := 5) (ret := (some .int)) (by decide) rfl (Nat.le_of_ble_eq_true rfl) ?_
  intro p e s m below meth c A ls hx hb hr hml hown hts hlk hK hA hI hl
  have hts : ∀ w ∈ gW, w.before ([.ref (ad 0), .int a1, .int a2] : List Value).toArray s = true := fun w h => hts w (List.mem_cons_of_mem _ h)
  have hown : s.vm.findClass R_M = some m.cls := hown
  have hl : lv_has ls 5 [(0, .ref (ad 0)), (1, .int a1), (2, .int a2)] := hl
  have w14 : ∀ (n : Nat) (v1 : Int32) (v2 : Int32) (v3 : Int32) (v4 : Int32) (u : MS) (H : Heap) (locs : List Loc) (ls : Array Slot), lv_has ls 5 [(0, .ref (ad 0)), (1, .int v1), (2, .int v2), (3, .int v3), (4, .int v4)] → g_I D vwCl A s.heap H locs (m_W ad cA u) → f_M_rest_L14 n v1 v2 v3 v4 u = some (r0, u0) → W p l e { frames := 0, cells := 0, slots := 0, locals := 0 } s m ([.ref (ad 0), .int a1, .int a2] : List Value).toArray below meth c H locs 0 0 (MQ below (g_Q D vwCl (m_T cA) (m_W ad cA u0) A (some (.int r0))) ([.ref (ad 0), .int a1, .int a2] : List Value).toArray s 0 0 A) (F0 m 14 ls []) := by
    intro  n
    induction n with
    | zero => intro v1 v2 v3 v4 u H locs ls hl hI h; cases h
    | succ n ih =>
      intro v1 v2 v3 v4 u H locs ls hl hI h
      dsimp only [f_M_rest_L14] at h
      refine lv_iload hx hb d_M_rest_14 (lv_at hl 4 rfl) ?_
      refine lv_iconst (v := 3) hx hb d_M_rest_16 (by decide) ?_
      refine lv_icmp_ge (tgt := 58) hx hb d_M_rest_17 rfl (fun hc2 => ?_) (fun hc2 => ?_)
      · rw [if_pos hc2] at h
        refine lv_iload_n hx hb d_M_rest_58 rfl (lv_at hl 3 rfl) ?_
        exact g_iret (Wd := m_W ad cA) hx hb hr hlk hK hI h d_M_rest_59
      · rw [if_neg hc2] at h
        refine lv_iload hx hb d_M_rest_20 (lv_at hl 4 rfl) ?_
        refine lv_iload_n hx hb d_M_rest_22 rfl (lv_at hl 2 rfl) ?_
        refine lv_icmp_ne (tgt := 30) hx hb d_M_rest_23 rfl (fun hc3 => ?_) (fun hc3 => ?_)
        · rw [if_neg hc3] at h
          refine lv_iload_n hx hb d_M_rest_30 rfl (lv_at hl 3 rfl) ?_
          refine lv_aload_n hx hb d_M_rest_31 rfl (lv_at hl 0 rfl) ?_
          refine g_get (v := .ref (ad 5)) hx hb hts in_M hown hK hI 0 rfl rfl 12 (by decide) (hts _ wd_404) rfl d_M_rest_32 ?_
          refine lv_iconst (v := 4) hx hb d_M_rest_35 (by decide) ?_
          refine lv_iload_n hx hb d_M_rest_36 rfl (lv_at hl 1 rfl) ?_
          refine lv_imul hx hb d_M_rest_37 ?_
          refine lv_iload hx hb d_M_rest_38 (lv_at hl 4 rfl) ?_
          refine lv_iadd hx hb d_M_rest_40 ?_
          obtain ⟨hg, h⟩ := gd_e h
          refine g_iald hx hb hK hI 5 4 rfl rfl hg d_M_rest_41 ?_
          refine lv_aload_n hx hb d_M_rest_42 rfl (lv_at hl 0 rfl) ?_
          refine g_get (v := .ref (ad 13)) hx hb hts in_M hown hK hI 0 rfl rfl 24 (by decide) (hts _ wd_416) rfl d_M_rest_43 ?_
          refine lv_iload hx hb d_M_rest_46 (lv_at hl 4 rfl) ?_
          obtain ⟨hg, h⟩ := gd_e h
          refine g_iald hx hb hK hI 13 12 rfl rfl hg d_M_rest_48 ?_
          refine lv_imul hx hb d_M_rest_49 ?_
          refine lv_iadd hx hb d_M_rest_50 ?_
          obtain ⟨x4, e_x4, h⟩ := lt_e h
          refine lv_istore_n (lv' := [(3, .int x4), (0, .ref (ad 0)), (1, .int v1), (2, .int v2), (4, .int v4)]) hx hb d_M_rest_51 rfl hl (by decide) (by subst e_x4; rfl) (fun ls hl => ?_)
          obtain ⟨x5, e_x5, h⟩ := lt_e h
          refine lv_iinc (v := x5) (k := 4) hx hb d_M_rest_52 hl rfl (by subst e_x5; rfl) (by decide) rfl (fun ls hl => ?_)
          refine lv_goto (tgt := 14) hx hb d_M_rest_55 rfl ?_
          exact ih v1 v2 x4 x5 u _ _ _ (lv_sub hl [2, 3, 4, 1, 0] rfl) hI h
        · rw [if_pos hc3] at h
          refine lv_iload_n hx hb d_M_rest_26 rfl (lv_at hl 3 rfl) ?_
          refine lv_goto (tgt := 51) hx hb d_M_rest_27 rfl ?_
          refine lv_istore_n (lv' := [(3, .int v3), (0, .ref (ad 0)), (1, .int v1), (2, .int v2), (4, .int v4)]) hx hb d_M_rest_51 rfl hl (by decide) rfl (fun ls hl => ?_)
          obtain ⟨x6, e_x6, h⟩ := lt_e h
          refine lv_iinc (v := x6) (k := 4) hx hb d_M_rest_52 hl rfl (by subst e_x6; rfl) (by decide) rfl (fun ls hl => ?_)
          refine lv_goto (tgt := 14) hx hb d_M_rest_55 rfl ?_
          exact ih v1 v2 v3 x6 u _ _ _ (lv_sub hl [2, 3, 4, 1, 0] rfl) hI h
  dsimp only [f_M_rest] at h
  refine lv_aload_n hx hb d_M_rest_0 rfl (lv_at hl 0 rfl) ?_
  refine g_get (v := .ref (ad 5)) hx hb hts in_M hown hK hI 0 rfl rfl 12 (by decide) (hts _ wd_404) rfl d_M_rest_1 ?_
  refine lv_iconst (v := 4) hx hb d_M_rest_4 (by decide) ?_
  refine lv_iload_n hx hb d_M_rest_5 rfl (lv_at hl 1 rfl) ?_
  refine lv_imul hx hb d_M_rest_6 ?_
  refine lv_iconst (v := 3) hx hb d_M_rest_7 (by decide) ?_
  refine lv_iadd hx hb d_M_rest_8 ?_
  obtain ⟨hg, h⟩ := gd_e h
  refine g_iald hx hb hK hI 5 4 rfl rfl hg d_M_rest_9 ?_
  obtain ⟨x1, e_x1, h⟩ := lt_e h
  refine lv_istore_n (lv' := [(3, .int x1), (0, .ref (ad 0)), (1, .int a1), (2, .int a2)]) hx hb d_M_rest_10 rfl hl (by decide) (by subst e_x1; rfl) (fun ls hl => ?_)
  refine lv_iconst (v := 0) hx hb d_M_rest_11 (by decide) ?_
  refine lv_istore (lv' := [(4, .int 0), (3, .int x1), (0, .ref (ad 0)), (1, .int a1), (2, .int a2)]) hx hb d_M_rest_12 hl (by decide) rfl (fun ls hl => ?_)
  exact w14 4096 a1 a2 x1 0 u _ _ _ (lv_sub hl [2, 3, 4, 1, 0] rfl) hI h
def f_M_bracketHolds (a1 : Int32) (u : MS) : Option (Int32 × MS) := ob (f_M_rest a1 ((-1)) u) fun r1 u2 => gd (inb a1 20) (if (m_ki u2 a1.toNatClampNeg) = 6 then (if 0 ≤ r1 then (gd (bz 0) (some (0, u2))) else (gd (bz 1) (some (1, u2)))) else (gd (inb a1 20) (if (m_ki u2 a1.toNatClampNeg) = 7 then (if r1 = 0 then (gd (bz 1) (some (1, u2))) else (gd (bz 0) (some (0, u2)))) else (gd (inb a1 20) (gd (nz (m_ab u2 a1.toNatClampNeg)) (if (r1 - r1 / (m_ab u2 a1.toNatClampNeg) * (m_ab u2 a1.toNatClampNeg)) = 0 then (gd (bz 1) (some (1, u2))) else (gd (bz 0) (some (0, u2)))))))))
set_option maxRecDepth 100000 in
set_option maxHeartbeats 4000000 in
theorem c_M_bracketHolds (l : Launch) (D : va_G) (ad : Nat → Nat) (cA : Nat → ClassId) {a1 : Int32} {u u0 : MS} {r0 : Int32} (h : f_M_bracketHolds a1 u = some (r0, u0)) : g_M l y_M_bracketHolds w_M_bracketHolds { frames := 1, cells := 0, slots := 0, locals := 24 } D vwCl (m_T cA) (m_W ad cA u) [.ref (ad 0), .int a1] (some (.int r0)) (m_W ad cA u0) := by
  refine g_ofW (cc := c0_M_bracketHolds) (maxL := 3) (ret := (some .boolean)) (by decide) rfl (Nat.le_of_ble_eq_true rfl) ?_
  intro p e s m below meth c A ls hx hb hr hml hown hts hlk hK hA hI hl
  have hts : ∀ w ∈ gW, w.before ([.ref (ad 0), .int a1] : List Value).toArray s = true := fun w h => hts w (List.mem_cons_of_mem _ h)
  have hown : s.vm.findClass R_M = some m.cls := hown
  have hl : lv_has ls 3 [(0, .ref (ad 0)), (1, .int a1)] := hl
  dsimp only [f_M_bracketHolds] at h
  refine lv_aload_n hx hb d_M_bracketHolds_0 rfl (lv_at hl 0 rfl) ?_
  refine lv_iload_n hx hb d_M_bracketHolds_1 rfl (lv_at hl 1 rfl) ?_
  refine lv_iconst (v := (-1)) hx hb d_M_bracketHolds_2 (by decide) ?_
  obtain ⟨r1, u2, hc, h⟩ := ob_e h
  refine g_callV (As := [.int a1, .int ((-1))]) (rest := []) (w' := m_W ad cA u2) (o := some (.int r1)) ⟨hx, hb, hml, hown, hts⟩ (c_M_rest l D ad cA hc) (cwV 2 hts gq_M_133 rfl rfl rfl (by decide +kernel) ⟨Nat.le_of_ble_eq_true rfl, Nat.le_of_ble_eq_true rfl⟩) hK hI hA 0 5 rfl rfl rfl hl.1 rfl (Nat.le_of_ble_eq_true rfl) d_M_bracketHolds_3 ⟨Nat.zero_le _, Nat.zero_le _⟩ rfl (fun H locs hI => ?_)
  refine lv_istore_n (lv' := [(2, .int r1), (0, .ref (ad 0)), (1, .int a1)]) hx hb d_M_bracketHolds_6 rfl hl (by decide) rfl (fun ls hl => ?_)
  refine lv_aload_n hx hb d_M_bracketHolds_7 rfl (lv_at hl 1 rfl) ?_
  refine g_get (v := .ref (ad 2)) hx hb hts in_M hown hK hI 0 rfl rfl 9 (by decide) (hts _ wd_401) rfl d_M_bracketHolds_8 ?_
  refine lv_iload_n hx hb d_M_bracketHolds_11 rfl (lv_at hl 2 rfl) ?_
  obtain ⟨hg, h⟩ := gd_e h
  refine g_iald hx hb hK hI 2 1 rfl rfl hg d_M_bracketHolds_12 ?_
  refine lv_bipush (v := 6) hx hb d_M_bracketHolds_13 (by decide) ?_
  refine lv_icmp_ne (tgt := 30) hx hb d_M_bracketHolds_15 rfl (fun hc3 => ?_) (fun hc3 => ?_)
  · rw [if_neg hc3] at h
    refine lv_aload_n hx hb d_M_bracketHolds_30 rfl (lv_at hl 1 rfl) ?_
    refine g_get (v := .ref (ad 2)) hx hb hts in_M hown hK hI 0 rfl rfl 9 (by decide) (hts _ wd_401) rfl d_M_bracketHolds_31 ?_
    refine lv_iload_n hx hb d_M_bracketHolds_34 rfl (lv_at hl 2 rfl) ?_
    obtain ⟨hg, h⟩ := gd_e h
    refine g_iald hx hb hK hI 2 1 rfl rfl hg d_M_bracketHolds_35 ?_
    refine lv_bipush (v := 7) hx hb d_M_bracketHolds_36 (by decide) ?_
    refine lv_icmp_ne (tgt := 53) hx hb d_M_bracketHolds_38 rfl (fun hc4 => ?_) (fun hc4 => ?_)
    · rw [if_neg hc4] at h
      refine lv_iload_n hx hb d_M_bracketHolds_53 rfl (lv_at hl 0 rfl) ?_
      refine lv_aload_n hx hb d_M_bracketHolds_54 rfl (lv_at hl 1 rfl) ?_
      refine g_get (v := .ref (ad 4)) hx hb hts in_M hown hK hI 0 rfl rfl 11 (by decide) (hts _ wd_403) rfl d_M_bracketHolds_55 ?_
      refine lv_iload_n hx hb d_M_bracketHolds_58 rfl (lv_at hl 2 rfl) ?_
      obtain ⟨hg, h⟩ := gd_e h
      refine g_iald hx hb hK hI 4 3 rfl rfl hg d_M_bracketHolds_59 ?_
      obtain ⟨hg, h⟩ := gd_e h
      refine lv_irem hx hb d_M_bracketHolds_60 (nz_e hg) ?_
      refine lv_if_ne (tgt := 68) hx hb d_M_bracketHolds_61 rfl (fun hc5 => ?_) (fun hc5 => ?_)
      · rw [if_neg hc5] at h
        refine lv_iconst (v := 0) hx hb d_M_bracketHolds_68 (by decide) ?_
        exact g_zret (Wd := m_W ad cA) hx hb hr hlk hK hI h d_M_bracketHolds_69
      · rw [if_pos hc5] at h
        refine lv_iconst (v := 1) hx hb d_M_bracketHolds_64 (by decide) ?_
        refine lv_goto (tgt := 69) hx hb d_M_bracketHolds_65 rfl ?_
        exact g_zret (Wd := m_W ad cA) hx hb hr hlk hK hI h d_M_bracketHolds_69
    · rw [if_pos hc4] at h
      refine lv_iload_n hx hb d_M_bracketHolds_41 rfl (lv_at hl 0 rfl) ?_
      refine lv_if_ne (tgt := 49) hx hb d_M_bracketHolds_42 rfl (fun hc6 => ?_) (fun hc6 => ?_)
      · rw [if_neg hc6] at h
        refine lv_iconst (v := 0) hx hb d_M_bracketHolds_49 (by decide) ?_
        refine lv_goto (tgt := 69) hx hb d_M_bracketHolds_50 rfl ?_
        exact g_zret (Wd := m_W ad cA) hx hb hr hlk hK hI h d_M_bracketHolds_69
      · rw [if_pos hc6] at h
        refine lv_iconst (v := 1) hx hb d_M_bracketHolds_45 (by decide) ?_
        refine lv_goto (tgt := 69) hx hb d_M_bracketHolds_46 rfl ?_
        exact g_zret (Wd := m_W ad cA) hx hb hr hlk hK hI h d_M_bracketHolds_69
  · rw [if_pos hc3] at h
    refine lv_iload_n hx hb d_M_bracketHolds_18 rfl (lv_at hl 0 rfl) ?_
    refine lv_if_ge (tgt := 26) hx hb d_M_bracketHolds_19 rfl (fun hc7 => ?_) (fun hc7 => ?_)
    · rw [if_pos hc7] at h
      refine lv_iconst (v := 0) hx hb d_M_bracketHolds_26 (by decide) ?_
      refine lv_goto (tgt := 69) hx hb d_M_bracketHolds_27 rfl ?_
      exact g_zret (Wd := m_W ad cA) hx hb hr hlk hK hI h d_M_bracketHolds_69
    · rw [if_neg hc7] at h
      refine lv_iconst (v := 1) hx hb d_M_bracketHolds_22 (by decide) ?_
      refine lv_goto (tgt := 69) hx hb d_M_bracketHolds_23 rfl ?_
      exact g_zret (Wd := m_W ad cA) hx hb hr hlk hK hI h d_M_bracketHolds_69
def f_M_hasQuantifier_L6 (n : Nat) : Int32 → Int32 → Int32 → MS → Option (Int32 × MS) := match n with
  | 0 => fun _ _ _ _ => none
  | n + 1 => fun v1 v2 v3 u => if (m_cl u) ≤ v3 then (gd (bz v2) (some (v2, u))) else (if v2 = 0 then (gd (inb v3 20) (if (m_ow u v3.toNatClampNeg) = v1 then (gd (inb v3 20) (if (m_ki u v3.toNatClampNeg) = 4 then (lt_ (v3 + 1) fun x8 => f_M_hasQuantifier_L6 n v1 1 x8 u) else (gd (inb v3 20) (if (m_ki u v3.toNatClampNeg) = 5 then (lt_ (v3 + 1) fun x11 => f_M_hasQuantifier_L6 n v1 1 x11 u) else (lt_ (v3 + 1) fun x10 => f_M_hasQuantifier_L6 n v1 0 x10 u))))) else (lt_ (v3 + 1) fun x6 => f_M_hasQuantifier_L6 n v1 0 x6 u))) else (lt_ (v3 + 1) fun x4 => f_M_hasQuantifier_L6 n v1 1 x4 u))
def f_M_hasQuantifier (a1 : Int32) (u : MS) : Option (Int32 × MS) := lt_ (a1 + 1) fun x1 => f_M_hasQuantifier_L6 4096 a1 0 x1 u
set_option maxRecDepth 100000 in
set_option maxHeartbeats 4000000 in
theorem c_M_hasQuantifier (l : Launch) (D : va_G) (ad : Nat → Nat) (cA : Nat → ClassId) {a1 : Int32} {u u0 : MS} {r0 : Int32} (h : f_M_hasQuantifier a1 u = some (r0, u0)) : g_M l y_M_hasQuantifier w_M_hasQuantifier { frames := 0, cells := 0, slots := 0, locals := 0 } D vwCl (m_T cA) (m_W ad cA u) [.ref (ad 0), .int a1] (some (.int r0)) (m_W ad cA u0) := by
  refine g_ofW (cc := c0_M_hasQuantifier) (maxL := 4) (ret := (some .boolean)) (by decide) rfl (Nat.le_of_ble_eq_true rfl) ?_
  intro p e s m below meth c A ls hx hb hr hml hown hts hlk hK hA hI hl
  have hts : ∀ w ∈ gW, w.before ([.ref (ad 0), .int a1] : List Value).toArray s = true := fun w h => hts w (List.mem_cons_of_mem _ h)
  have hown : s.vm.findClass R_M = some m.cls := hown
  have hl : lv_has ls 4 [(0, .ref (ad 0)), (1, .int a1)] := hl
  have w6 : ∀ (n : Nat) (v1 : Int32) (v2 : Int32) (v3 : Int32) (u : MS) (H : Heap) (locs : List Loc) (ls : Array Slot), lv_has ls 4 [(0, .ref (ad 0)), (1, .int v1), (2, .int v2), (3, .int v3)] → g_I D vwCl A s.heap H locs (m_W ad cA u) → f_M_hasQuantifier_L6 n v1 v2 v3 u = some (r0, u0) → W p l e { frames := 0, cells := 0, slots := 0, locals := 0 } s m ([.ref (ad 0), .int a1] : List Value).toArray below meth c H locs 0 0 (MQ below (g_Q D vwCl (m_T cA) (m_W ad cA u0) A (some (.int r0))) ([.ref (ad 0), .int a1] : List Value).toArray s 0 0 A) (F0 m 6 ls []) := by
    intro  n
    induction n with
    | zero => intro v1 v2 v3 u H locs ls hl hI h; cases h
    | succ n ih =>
      intro v1 v2 v3 u H locs ls hl hI h
      dsimp only [f_M_hasQuantifier_L6] at h
      refine lv_iload_n hx hb d_M_hasQuantifier_6 rfl (lv_at hl 3 rfl) ?_
      refine lv_aload_n hx hb d_M_hasQuantifier_7 rfl (lv_at hl 0 rfl) ?_
      refine g_get (v := .int (m_cl u)) hx hb hts in_M hown hK hI 0 rfl rfl 5 (by decide) (hts _ wd_397) rfl d_M_hasQuantifier_8 ?_
      refine lv_icmp_ge (tgt := 60) hx hb d_M_hasQuantifier_11 rfl (fun hc2 => ?_) (fun hc2 => ?_)
      · rw [if_pos hc2] at h
        refine lv_iload_n hx hb d_M_hasQuantifier_60 rfl (lv_at hl 2 rfl) ?_
        exact g_zret (Wd := m_W ad cA) hx hb hr hlk hK hI h d_M_hasQuantifier_61
      · rw [if_neg hc2] at h
        refine lv_iload_n hx hb d_M_hasQuantifier_14 rfl (lv_at hl 2 rfl) ?_
        refine lv_if_ne (tgt := 48) hx hb d_M_hasQuantifier_15 rfl (fun hc3 => ?_) (fun hc3 => ?_)
        · rw [if_neg hc3] at h
          refine lv_iconst (v := 1) hx hb d_M_hasQuantifier_48 (by decide) ?_
          refine lv_goto (tgt := 53) hx hb d_M_hasQuantifier_49 rfl ?_
          refine lv_istore_n (lv' := [(2, .int 1), (0, .ref (ad 0)), (1, .int v1), (3, .int v3)]) hx hb d_M_hasQuantifier_53 rfl hl (by decide) rfl (fun ls hl => ?_)
          obtain ⟨x4, e_x4, h⟩ := lt_e h
          refine lv_iinc (v := x4) (k := 3) hx hb d_M_hasQuantifier_54 hl rfl (by subst e_x4; rfl) (by decide) rfl (fun ls hl => ?_)
          refine lv_goto (tgt := 6) hx hb d_M_hasQuantifier_57 rfl ?_
          exact ih v1 1 x4 u _ _ _ (lv_sub hl [2, 3, 1, 0] rfl) hI h
        · rw [if_pos hc3] at h
          refine lv_aload_n hx hb d_M_hasQuantifier_18 rfl (lv_at hl 0 rfl) ?_
          refine g_get (v := .ref (ad 3)) hx hb hts in_M hown hK hI 0 rfl rfl 10 (by decide) (hts _ wd_402) rfl d_M_hasQuantifier_19 ?_
          refine lv_iload_n hx hb d_M_hasQuantifier_22 rfl (lv_at hl 3 rfl) ?_
          obtain ⟨hg, h⟩ := gd_e h
          refine g_iald hx hb hK hI 3 2 rfl rfl hg d_M_hasQuantifier_23 ?_
          refine lv_iload_n hx hb d_M_hasQuantifier_24 rfl (lv_at hl 1 rfl) ?_
          refine lv_icmp_ne (tgt := 52) hx hb d_M_hasQuantifier_25 rfl (fun hc5 => ?_) (fun hc5 => ?_)
          · rw [if_neg hc5] at h
            refine lv_iconst (v := 0) hx hb d_M_hasQuantifier_52 (by decide) ?_
            refine lv_istore_n (lv' := [(2, .int 0), (0, .ref (ad 0)), (1, .int v1), (3, .int v3)]) hx hb d_M_hasQuantifier_53 rfl hl (by decide) rfl (fun ls hl => ?_)
            obtain ⟨x6, e_x6, h⟩ := lt_e h
            refine lv_iinc (v := x6) (k := 3) hx hb d_M_hasQuantifier_54 hl rfl (by subst e_x6; rfl) (by decide) rfl (fun ls hl => ?_)
            refine lv_goto (tgt := 6) hx hb d_M_hasQuantifier_57 rfl ?_
            exact ih v1 0 x6 u _ _ _ (lv_sub hl [2, 3, 1, 0] rfl) hI h
          · rw [if_pos hc5] at h
            refine lv_aload_n hx hb d_M_hasQuantifier_28 rfl (lv_at hl 0 rfl) ?_
            refine g_get (v := .ref (ad 2)) hx hb hts in_M hown hK hI 0 rfl rfl 9 (by decide) (hts _ wd_401) rfl d_M_hasQuantifier_29 ?_
            refine lv_iload_n hx hb d_M_hasQuantifier_32 rfl (lv_at hl 3 rfl) ?_
            obtain ⟨hg, h⟩ := gd_e h
            refine g_iald hx hb hK hI 2 1 rfl rfl hg d_M_hasQuantifier_33 ?_
            refine lv_iconst (v := 4) hx hb d_M_hasQuantifier_34 (by decide) ?_
            refine lv_icmp_eq (tgt := 48) hx hb d_M_hasQuantifier_35 rfl (fun hc7 => ?_) (fun hc7 => ?_)
            · rw [if_pos hc7] at h
              refine lv_iconst (v := 1) hx hb d_M_hasQuantifier_48 (by decide) ?_
              refine lv_goto (tgt := 53) hx hb d_M_hasQuantifier_49 rfl ?_
              refine lv_istore_n (lv' := [(2, .int 1), (0, .ref (ad 0)), (1, .int v1), (3, .int v3)]) hx hb d_M_hasQuantifier_53 rfl hl (by decide) rfl (fun ls hl => ?_)
              obtain ⟨x8, e_x8, h⟩ := lt_e h
              refine lv_iinc (v := x8) (k := 3) hx hb d_M_hasQuantifier_54 hl rfl (by subst e_x8; rfl) (by decide) rfl (fun ls hl => ?_)
              refine lv_goto (tgt := 6) hx hb d_M_hasQuantifier_57 rfl ?_
              exact ih v1 1 x8 u _ _ _ (lv_sub hl [2, 3, 1, 0] rfl) hI h
            · rw [if_neg hc7] at h
              refine lv_aload_n hx hb d_M_hasQuantifier_38 rfl (lv_at hl 0 rfl) ?_
              refine g_get (v := .ref (ad 2)) hx hb hts in_M hown hK hI 0 rfl rfl 9 (by decide) (hts _ wd_401) rfl d_M_hasQuantifier_39 ?_
              refine lv_iload_n hx hb d_M_hasQuantifier_42 rfl (lv_at hl 3 rfl) ?_
              obtain ⟨hg, h⟩ := gd_e h
              refine g_iald hx hb hK hI 2 1 rfl rfl hg d_M_hasQuantifier_43 ?_
              refine lv_iconst (v := 5) hx hb d_M_hasQuantifier_44 (by decide) ?_
              refine lv_icmp_ne (tgt := 52) hx hb d_M_hasQuantifier_45 rfl (fun hc9 => ?_) (fun hc9 => ?_)
              · rw [if_neg hc9] at h
                refine lv_iconst (v := 0) hx hb d_M_hasQuantifier_52 (by decide) ?_
                refine lv_istore_n (lv' := [(2, .int 0), (0, .ref (ad 0)), (1, .int v1), (3, .int v3)]) hx hb d_M_hasQuantifier_53 rfl hl (by decide) rfl (fun ls hl => ?_)
                obtain ⟨x10, e_x10, h⟩ := lt_e h
                refine lv_iinc (v := x10) (k := 3) hx hb d_M_hasQuantifier_54 hl rfl (by subst e_x10; rfl) (by decide) rfl (fun ls hl => ?_)
                refine lv_goto (tgt := 6) hx hb d_M_hasQuantifier_57 rfl ?_
                exact ih v1 0 x10 u _ _ _ (lv_sub hl [2, 3, 1, 0] rfl) hI h
              · rw [if_pos hc9] at h
                refine lv_iconst (v := 1) hx hb d_M_hasQuantifier_48 (by decide) ?_
                refine lv_goto (tgt := 53) hx hb d_M_hasQuantifier_49 rfl ?_
                refine lv_istore_n (lv' := [(2, .int 1), (0, .ref (ad 0)), (1, .int v1), (3, .int v3)]) hx hb d_M_hasQuantifier_53 rfl hl (by decide) rfl (fun ls hl => ?_)
                obtain ⟨x11, e_x11, h⟩ := lt_e h
                refine lv_iinc (v := x11) (k := 3) hx hb d_M_hasQuantifier_54 hl rfl (by subst e_x11; rfl) (by decide) rfl (fun ls hl => ?_)
                refine lv_goto (tgt := 6) hx hb d_M_hasQuantifier_57 rfl ?_
                exact ih v1 1 x11 u _ _ _ (lv_sub hl [2, 3, 1, 0] rfl) hI h
  dsimp only [f_M_hasQuantifier] at h
  refine lv_iconst (v := 0) hx hb d_M_hasQuantifier_0 (by decide) ?_
  refine lv_istore_n (lv' := [(2, .int 0), (0, .ref (ad 0)), (1, .int a1)]) hx hb d_M_hasQuantifier_1 rfl hl (by decide) rfl (fun ls hl => ?_)
  refine lv_iload_n hx hb d_M_hasQuantifier_2 rfl (lv_at hl 2 rfl) ?_
  refine lv_iconst (v := 1) hx hb d_M_hasQuantifier_3 (by decide) ?_
  refine lv_iadd hx hb d_M_hasQuantifier_4 ?_
  obtain ⟨x1, e_x1, h⟩ := lt_e h
  refine lv_istore_n (lv' := [(3, .int x1), (2, .int 0), (0, .ref (ad 0)), (1, .int a1)]) hx hb d_M_hasQuantifier_5 rfl hl (by decide) (by subst e_x1; rfl) (fun ls hl => ?_)
  exact w6 4096 a1 0 x1 u _ _ _ (lv_sub hl [2, 3, 1, 0] rfl) hI h
def f_M_floor_J28 (v2 : Int32) (t0 : Int32) (t1 : Int32) (u : MS) : Option (Int32 × MS) := if t1 = t0 then some (v2, u) else some (v2 - 1, u)
def f_M_floor_J19 (v1 : Int32) (v2 : Int32) (t0 : Int32) (u : MS) : Option (Int32 × MS) := if 0 ≤ v1 then f_M_floor_J28 v2 0 t0 u else f_M_floor_J28 v2 1 t0 u
def f_M_floor (a0 : Int32) (a1 : Int32) (u : MS) : Option (Int32 × MS) := gd (nz a1) (lt_ (a0 / a1) fun x1 => gd (nz a1) (if (a0 - a0 / a1 * a1) = 0 then some (x1, u) else (if 0 ≤ a0 then f_M_floor_J19 a1 x1 0 u else f_M_floor_J19 a1 x1 1 u)))
set_option maxRecDepth 100000 in
set_option maxHeartbeats 4000000 in
theorem c_M_floor (l : Launch) (D : va_G) (ad : Nat → Nat) (cA : Nat → ClassId) {a0 : Int32} {a1 : Int32} {u u0 : MS} {r0 : Int32} (h : f_M_floor a0 a1 u = some (r0, u0)) : g_M l y_M_floor w_M_floor { frames := 0, cells := 0, slots := 0, locals := 0 } D vwCl (m_T cA) (m_W ad cA u) [.int a0, .int a1] (some (.int r0)) (m_W ad cA u0) := by
  refine g_ofW (cc := c0_M_floor) (maxL := 3) (ret := (some .int)) (by decide) rfl (Nat.le_of_ble_eq_true rfl) ?_
  intro p e s m below meth c A ls hx hb hr hml hown hts hlk hK hA hI hl
  have hts : ∀ w ∈ gW, w.before ([.int a0, .int a1] : List Value).toArray s = true := fun w h => hts w (List.mem_cons_of_mem _ h)
  have hown : s.vm.findClass R_M = some m.cls := hown
  have hl : lv_has ls 3 [(0, .int a0), (1, .int a1)] := hl
  have w28 : ∀ (v2 : Int32) (t0 : Int32) (t1 : Int32) (u : MS) (H : Heap) (locs : List Loc) (ls : Array Slot), lv_has ls 3 [(2, .int v2)] → g_I D vwCl A s.heap H locs (m_W ad cA u) → f_M_floor_J28 v2 t0 t1 u = some (r0, u0) → W p l e { frames := 0, cells := 0, slots := 0, locals := 0 } s m ([.int a0, .int a1] : List Value).toArray below meth c H locs 0 0 (MQ below (g_Q D vwCl (m_T cA) (m_W ad cA u0) A (some (.int r0))) ([.int a0, .int a1] : List Value).toArray s 0 0 A) (F0 m 28 ls [.int t0, .int t1]) := by
    intro  v2 t0 t1 u H locs ls hl hI h
    dsimp only [f_M_floor_J28] at h
    refine lv_icmp_eq (tgt := 37) hx hb d_M_floor_28 rfl (fun hc5 => ?_) (fun hc5 => ?_)
    · rw [if_pos hc5] at h
      refine lv_iload_n hx hb d_M_floor_37 rfl (lv_at hl 0 rfl) ?_
      exact g_iret (Wd := m_W ad cA) hx hb hr hlk hK hI h d_M_floor_38
    · rw [if_neg hc5] at h
      refine lv_iload_n hx hb d_M_floor_31 rfl (lv_at hl 0 rfl) ?_
      refine lv_iconst (v := 1) hx hb d_M_floor_32 (by decide) ?_
      refine lv_isub hx hb d_M_floor_33 ?_
      refine lv_goto (tgt := 38) hx hb d_M_floor_34 rfl ?_
      exact g_iret (Wd := m_W ad cA) hx hb hr hlk hK hI h d_M_floor_38
  have w19 : ∀ (v1 : Int32) (v2 : Int32) (t0 : Int32) (u : MS) (H : Heap) (locs : List Loc) (ls : Array Slot), lv_has ls 3 [(1, .int v1), (2, .int v2)] → g_I D vwCl A s.heap H locs (m_W ad cA u) → f_M_floor_J19 v1 v2 t0 u = some (r0, u0) → W p l e { frames := 0, cells := 0, slots := 0, locals := 0 } s m ([.int a0, .int a1] : List Value).toArray below meth c H locs 0 0 (MQ below (g_Q D vwCl (m_T cA) (m_W ad cA u0) A (some (.int r0))) ([.int a0, .int a1] : List Value).toArray s 0 0 A) (F0 m 19 ls [.int t0]) := by
    intro  v1 v2 t0 u H locs ls hl hI h
    dsimp only [f_M_floor_J19] at h
    refine lv_iload_n hx hb d_M_floor_19 rfl (lv_at hl 0 rfl) ?_
    refine lv_if_ge (tgt := 27) hx hb d_M_floor_20 rfl (fun hc4 => ?_) (fun hc4 => ?_)
    · rw [if_pos hc4] at h
      refine lv_iconst (v := 0) hx hb d_M_floor_27 (by decide) ?_
      exact w28 v2 0 t0 u _ _ _ (lv_sub hl [1] rfl) hI h
    · rw [if_neg hc4] at h
      refine lv_iconst (v := 1) hx hb d_M_floor_23 (by decide) ?_
      refine lv_goto (tgt := 28) hx hb d_M_floor_24 rfl ?_
      exact w28 v2 1 t0 u _ _ _ (lv_sub hl [1] rfl) hI h
  dsimp only [f_M_floor] at h
  refine lv_iload_n hx hb d_M_floor_0 rfl (lv_at hl 0 rfl) ?_
  refine lv_iload_n hx hb d_M_floor_1 rfl (lv_at hl 1 rfl) ?_
  obtain ⟨hg, h⟩ := gd_e h
  refine lv_idiv hx hb d_M_floor_2 (nz_e hg) ?_
  obtain ⟨x1, e_x1, h⟩ := lt_e h
  refine lv_istore_n (lv' := [(2, .int x1), (0, .int a0), (1, .int a1)]) hx hb d_M_floor_3 rfl hl (by decide) (by subst e_x1; rfl) (fun ls hl => ?_)
  refine lv_iload_n hx hb d_M_floor_4 rfl (lv_at hl 1 rfl) ?_
  refine lv_iload_n hx hb d_M_floor_5 rfl (lv_at hl 2 rfl) ?_
  obtain ⟨hg, h⟩ := gd_e h
  refine lv_irem hx hb d_M_floor_6 (nz_e hg) ?_
  refine lv_if_eq (tgt := 37) hx hb d_M_floor_7 rfl (fun hc2 => ?_) (fun hc2 => ?_)
  · rw [if_pos hc2] at h
    refine lv_iload_n hx hb d_M_floor_37 rfl (lv_at hl 0 rfl) ?_
    exact g_iret (Wd := m_W ad cA) hx hb hr hlk hK hI h d_M_floor_38
  · rw [if_neg hc2] at h
    refine lv_iload_n hx hb d_M_floor_10 rfl (lv_at hl 1 rfl) ?_
    refine lv_if_ge (tgt := 18) hx hb d_M_floor_11 rfl (fun hc3 => ?_) (fun hc3 => ?_)
    · rw [if_pos hc3] at h
      refine lv_iconst (v := 0) hx hb d_M_floor_18 (by decide) ?_
      exact w19 a1 x1 0 u _ _ _ (lv_sub hl [2, 0] rfl) hI h
    · rw [if_neg hc3] at h
      refine lv_iconst (v := 1) hx hb d_M_floor_14 (by decide) ?_
      refine lv_goto (tgt := 19) hx hb d_M_floor_15 rfl ?_
      exact w19 a1 x1 1 u _ _ _ (lv_sub hl [2, 0] rfl) hI h
def f_M_joined (a0 : Int32) (a1 : Int32) (a2 : Int32) (u : MS) : Option (Int32 × MS) := if a0 = 0 then (if a1 = 0 then (gd (bz 0) (some (0, u))) else (if a2 = 0 then (gd (bz 0) (some (0, u))) else (gd (bz 1) (some (1, u))))) else (if a0 = 1 then (if a1 = 0 then (if a2 = 0 then (gd (bz 0) (some (0, u))) else (gd (bz 1) (some (1, u)))) else (gd (bz 1) (some (1, u)))) else (if a0 = 2 then (if a1 = 0 then (gd (bz 1) (some (1, u))) else (if a2 = 0 then (gd (bz 0) (some (0, u))) else (gd (bz 1) (some (1, u))))) else (if a1 = 0 then (gd (bz 1) (some (1, u))) else (gd (bz 0) (some (0, u))))))
set_option maxRecDepth 100000 in
set_option maxHeartbeats 4000000 in
theorem c_M_joined (l : Launch) (D : va_G) (ad : Nat → Nat) (cA : Nat → ClassId) {a0 : Int32} {a1 : Int32} {a2 : Int32} {u u0 : MS} {r0 : Int32} (h : f_M_joined a0 a1 a2 u = some (r0, u0)) : g_M l y_M_joined w_M_joined { frames := 0, cells := 0, slots := 0, locals := 0 } D vwCl (m_T cA) (m_W ad cA u) [.int a0, .int a1, .int a2] (some (.int r0)) (m_W ad cA u0) := by
  refine g_ofW (cc := c0_M_joined) (maxL := 3) (ret := (some .boolean)) (by decide) rfl (Nat.le_of_ble_eq_true rfl) ?_
  intro p e s m below meth c A ls hx hb hr hml hown hts hlk hK hA hI hl
  have hts : ∀ w ∈ gW, w.before ([.int a0, .int a1, .int a2] : List Value).toArray s = true := fun w h => hts w (List.mem_cons_of_mem _ h)
  have hown : s.vm.findClass R_M = some m.cls := hown
  have hl : lv_has ls 3 [(0, .int a0), (1, .int a1), (2, .int a2)] := hl
  dsimp only [f_M_joined] at h
  refine lv_iload_n hx hb d_M_joined_0 rfl (lv_at hl 0 rfl) ?_
  refine lv_if_ne (tgt := 20) hx hb d_M_joined_1 rfl (fun hc1 => ?_) (fun hc1 => ?_)
  · rw [if_neg hc1] at h
    refine lv_iload_n hx hb d_M_joined_20 rfl (lv_at hl 0 rfl) ?_
    refine lv_iconst (v := 1) hx hb d_M_joined_21 (by decide) ?_
    refine lv_icmp_ne (tgt := 41) hx hb d_M_joined_22 rfl (fun hc2 => ?_) (fun hc2 => ?_)
    · rw [if_neg hc2] at h
      refine lv_iload_n hx hb d_M_joined_41 rfl (lv_at hl 0 rfl) ?_
      refine lv_iconst (v := 2) hx hb d_M_joined_42 (by decide) ?_
      refine lv_icmp_ne (tgt := 62) hx hb d_M_joined_43 rfl (fun hc3 => ?_) (fun hc3 => ?_)
      · rw [if_neg hc3] at h
        refine lv_iload_n hx hb d_M_joined_62 rfl (lv_at hl 1 rfl) ?_
        refine lv_if_ne (tgt := 70) hx hb d_M_joined_63 rfl (fun hc4 => ?_) (fun hc4 => ?_)
        · rw [if_neg hc4] at h
          refine lv_iconst (v := 0) hx hb d_M_joined_70 (by decide) ?_
          exact g_zret (Wd := m_W ad cA) hx hb hr hlk hK hI h d_M_joined_71
        · rw [if_pos hc4] at h
          refine lv_iconst (v := 1) hx hb d_M_joined_66 (by decide) ?_
          refine lv_goto (tgt := 71) hx hb d_M_joined_67 rfl ?_
          exact g_zret (Wd := m_W ad cA) hx hb hr hlk hK hI h d_M_joined_71
      · rw [if_pos hc3] at h
        refine lv_iload_n hx hb d_M_joined_46 rfl (lv_at hl 1 rfl) ?_
        refine lv_if_eq (tgt := 54) hx hb d_M_joined_47 rfl (fun hc5 => ?_) (fun hc5 => ?_)
        · rw [if_pos hc5] at h
          refine lv_iconst (v := 1) hx hb d_M_joined_54 (by decide) ?_
          refine lv_goto (tgt := 71) hx hb d_M_joined_55 rfl ?_
          exact g_zret (Wd := m_W ad cA) hx hb hr hlk hK hI h d_M_joined_71
        · rw [if_neg hc5] at h
          refine lv_iload_n hx hb d_M_joined_50 rfl (lv_at hl 2 rfl) ?_
          refine lv_if_eq (tgt := 58) hx hb d_M_joined_51 rfl (fun hc6 => ?_) (fun hc6 => ?_)
          · rw [if_pos hc6] at h
            refine lv_iconst (v := 0) hx hb d_M_joined_58 (by decide) ?_
            refine lv_goto (tgt := 71) hx hb d_M_joined_59 rfl ?_
            exact g_zret (Wd := m_W ad cA) hx hb hr hlk hK hI h d_M_joined_71
          · rw [if_neg hc6] at h
            refine lv_iconst (v := 1) hx hb d_M_joined_54 (by decide) ?_
            refine lv_goto (tgt := 71) hx hb d_M_joined_55 rfl ?_
            exact g_zret (Wd := m_W ad cA) hx hb hr hlk hK hI h d_M_joined_71
    · rw [if_pos hc2] at h
      refine lv_iload_n hx hb d_M_joined_25 rfl (lv_at hl 1 rfl) ?_
      refine lv_if_ne (tgt := 33) hx hb d_M_joined_26 rfl (fun hc7 => ?_) (fun hc7 => ?_)
      · rw [if_neg hc7] at h
        refine lv_iconst (v := 1) hx hb d_M_joined_33 (by decide) ?_
        refine lv_goto (tgt := 71) hx hb d_M_joined_34 rfl ?_
        exact g_zret (Wd := m_W ad cA) hx hb hr hlk hK hI h d_M_joined_71
      · rw [if_pos hc7] at h
        refine lv_iload_n hx hb d_M_joined_29 rfl (lv_at hl 2 rfl) ?_
        refine lv_if_eq (tgt := 37) hx hb d_M_joined_30 rfl (fun hc8 => ?_) (fun hc8 => ?_)
        · rw [if_pos hc8] at h
          refine lv_iconst (v := 0) hx hb d_M_joined_37 (by decide) ?_
          refine lv_goto (tgt := 71) hx hb d_M_joined_38 rfl ?_
          exact g_zret (Wd := m_W ad cA) hx hb hr hlk hK hI h d_M_joined_71
        · rw [if_neg hc8] at h
          refine lv_iconst (v := 1) hx hb d_M_joined_33 (by decide) ?_
          refine lv_goto (tgt := 71) hx hb d_M_joined_34 rfl ?_
          exact g_zret (Wd := m_W ad cA) hx hb hr hlk hK hI h d_M_joined_71
  · rw [if_pos hc1] at h
    refine lv_iload_n hx hb d_M_joined_4 rfl (lv_at hl 1 rfl) ?_
    refine lv_if_eq (tgt := 16) hx hb d_M_joined_5 rfl (fun hc9 => ?_) (fun hc9 => ?_)
    · rw [if_pos hc9] at h
      refine lv_iconst (v := 0) hx hb d_M_joined_16 (by decide) ?_
      refine lv_goto (tgt := 71) hx hb d_M_joined_17 rfl ?_
      exact g_zret (Wd := m_W ad cA) hx hb hr hlk hK hI h d_M_joined_71
    · rw [if_neg hc9] at h
      refine lv_iload_n hx hb d_M_joined_8 rfl (lv_at hl 2 rfl) ?_
      refine lv_if_eq (tgt := 16) hx hb d_M_joined_9 rfl (fun hc10 => ?_) (fun hc10 => ?_)
      · rw [if_pos hc10] at h
        refine lv_iconst (v := 0) hx hb d_M_joined_16 (by decide) ?_
        refine lv_goto (tgt := 71) hx hb d_M_joined_17 rfl ?_
        exact g_zret (Wd := m_W ad cA) hx hb hr hlk hK hI h d_M_joined_71
      · rw [if_neg hc10] at h
        refine lv_iconst (v := 1) hx hb d_M_joined_12 (by decide) ?_
        refine lv_goto (tgt := 71) hx hb d_M_joined_13 rfl ?_
        exact g_zret (Wd := m_W ad cA) hx hb hr hlk hK hI h d_M_joined_71
def f_M_lowHolds_J115 (k9 : Int32 → Int32 → Int32 → MS → Option (Int32 × MS)) (v1 : Int32) (v3 : Int32) (v4 : Int32) (v5 : Int32) (t0 : Int32) (u : MS) : Option (Int32 × MS) := gd (inb v3 20) (ob (f_M_joined (m_ki u v3.toNatClampNeg) v4 v5 u) fun r18 u19 => gd (inb (t0 - 1) 24) (lt_ (m_p_lo (upd (m_lo u19) (t0 - 1).toNatClampNeg (vp_nar .boolean r18)) u19) fun u20 => lt_ (v3 + (-1)) fun x21 => k9 v1 t0 x21 u20))
def f_M_lowHolds_J96 (k9 : Int32 → Int32 → Int32 → MS → Option (Int32 × MS)) (v1 : Int32) (v2 : Int32) (v3 : Int32) (v4 : Int32) (t0 : Int32) (u : MS) : Option (Int32 × MS) := gd (inb v3 20) (if 3 ≤ (m_ki u v3.toNatClampNeg) then f_M_lowHolds_J115 k9 v1 v3 v4 t0 v2 u else f_M_lowHolds_J115 k9 v1 v3 v4 t0 (v2 - 1) u)
def f_M_lowHolds_J50 (k9 : Int32 → Int32 → Int32 → MS → Option (Int32 × MS)) (v1 : Int32) (v2 : Int32) (v3 : Int32) (u : MS) : Option (Int32 × MS) := gd (inb v3 20) (if (m_ow u v3.toNatClampNeg) = v1 then (gd (inb (v2 - 1) 24) (lt_ (m_lo u (v2 - 1).toNatClampNeg) fun x14 => gd (inb v3 20) (if 3 ≤ (m_ki u v3.toNatClampNeg) then f_M_lowHolds_J96 k9 v1 v2 v3 x14 0 u else (gd (inb (v2 - 2) 24) (if (m_lo u (v2 - 2).toNatClampNeg) = 0 then f_M_lowHolds_J96 k9 v1 v2 v3 x14 0 u else f_M_lowHolds_J96 k9 v1 v2 v3 x14 1 u))))) else (lt_ (v3 + (-1)) fun x13 => k9 v1 v2 x13 u))
def f_M_lowHolds_L9 (n : Nat) : Int32 → Int32 → Int32 → MS → Option (Int32 × MS) := match n with
  | 0 => fun _ _ _ _ => none
  | n + 1 => fun v1 v2 v3 u => if v3 ≤ v1 then (gd (bz (m_lo u (0 : Int32).toNatClampNeg)) (some (m_lo u (0 : Int32).toNatClampNeg, u))) else (gd (inb v3 20) (if (m_ow u v3.toNatClampNeg) = v1 then (ob (f_M_isBracket v3 u) fun r4 u5 => if r4 = 0 then f_M_lowHolds_J50 (f_M_lowHolds_L9 n) v1 v2 v3 u5 else (ob (f_M_bracketHolds v3 u5) fun r7 u8 => gd (inb v2 24) (lt_ (m_p_lo (upd (m_lo u8) v2.toNatClampNeg (vp_nar .boolean r7)) u8) fun u9 => lt_ (v2 + 1) fun x10 => lt_ (v3 + (-1)) fun x11 => f_M_lowHolds_L9 n v1 x10 x11 u9))) else f_M_lowHolds_J50 (f_M_lowHolds_L9 n) v1 v2 v3 u))
def f_M_lowHolds (a1 : Int32) (u : MS) : Option (Int32 × MS) := lt_ ((m_cl u) - 1) fun x1 => f_M_lowHolds_L9 4096 a1 0 x1 u
set_option maxRecDepth 100000 in
set_option maxHeartbeats 4000000 in
theorem c_M_lowHolds (l : Launch) (D : va_G) (ad : Nat → Nat) (cA : Nat → ClassId) {a1 : Int32} {u u0 : MS} {r0 : Int32} (h : f_M_lowHolds a1 u = some (r0, u0)) : g_M l y_M_lowHolds w_M_lowHolds { frames := 2, cells := 0, slots := 0, locals := 46 } D vwCl (m_T cA) (m_W ad cA u) [.ref (ad 0), .int a1] (some (.int r0)) (m_W ad cA u0) := by
  refine g_ofW (cc := c0_M_lowHolds) (maxL := 6) (ret := (some .boolean)) (by decide) rfl (Nat.le_of_ble_eq_true rfl) ?_
  intro p e s m below meth c A ls hx hb hr hml hown hts hlk hK hA hI hl
  have hts : ∀ w ∈ gW, w.before ([.ref (ad 0), .int a1] : List Value).toArray s = true := fun w h => hts w (List.mem_cons_of_mem _ h)
  have hown : s.vm.findClass R_M = some m.cls := hown
  have hl : lv_has ls 6 [(0, .ref (ad 0)), (1, .int a1)] := hl
  have w115 : ∀ (k9 : Int32 → Int32 → Int32 → MS → Option (Int32 × MS)) (hk9 : ∀ (v1 : Int32) (v2 : Int32) (v3 : Int32) (u : MS) (H : Heap) (locs : List Loc) (ls : Array Slot), lv_has ls 6 [(0, .ref (ad 0)), (1, .int v1), (2, .int v2), (3, .int v3)] → g_I D vwCl A s.heap H locs (m_W ad cA u) → k9 v1 v2 v3 u = some (r0, u0) → W p l e { frames := 2, cells := 0, slots := 0, locals := 46 } s m ([.ref (ad 0), .int a1] : List Value).toArray below meth c H locs 0 0 (MQ below (g_Q D vwCl (m_T cA) (m_W ad cA u0) A (some (.int r0))) ([.ref (ad 0), .int a1] : List Value).toArray s 0 0 A) (F0 m 9 ls [])) (v1 : Int32) (v3 : Int32) (v4 : Int32) (v5 : Int32) (t0 : Int32) (u : MS) (H : Heap) (locs : List Loc) (ls : Array Slot), lv_has ls 6 [(0, .ref (ad 0)), (1, .int v1), (3, .int v3), (4, .int v4), (5, .int v5)] → g_I D vwCl A s.heap H locs (m_W ad cA u) → f_M_lowHolds_J115 k9 v1 v3 v4 v5 t0 u = some (r0, u0) → W p l e { frames := 2, cells := 0, slots := 0, locals := 46 } s m ([.ref (ad 0), .int a1] : List Value).toArray below meth c H locs 0 0 (MQ below (g_Q D vwCl (m_T cA) (m_W ad cA u0) A (some (.int r0))) ([.ref (ad 0), .int a1] : List Value).toArray s 0 0 A) (F0 m 115 ls [.int t0]) := by
    intro k9 hk9 v1 v3 v4 v5 t0 u H locs ls hl hI h
    dsimp only [f_M_lowHolds_J115] at h
    refine lv_istore_n (lv' := [(2, .int t0), (0, .ref (ad 0)), (1, .int v1), (3, .int v3), (4, .int v4), (5, .int v5)]) hx hb d_M_lowHolds_115 rfl hl (by decide) rfl (fun ls hl => ?_)
    refine lv_aload_n hx hb d_M_lowHolds_116 rfl (lv_at hl 1 rfl) ?_
    refine g_get (v := .ref (ad 14)) hx hb hts in_M hown hK hI 0 rfl rfl 25 (by decide) (hts _ wd_417) rfl d_M_lowHolds_117 ?_
    refine lv_iload_n hx hb d_M_lowHolds_120 rfl (lv_at hl 0 rfl) ?_
    refine lv_iconst (v := 1) hx hb d_M_lowHolds_121 (by decide) ?_
    refine lv_isub hx hb d_M_lowHolds_122 ?_
    refine lv_aload_n hx hb d_M_lowHolds_123 rfl (lv_at hl 1 rfl) ?_
    refine g_get (v := .ref (ad 2)) hx hb hts in_M hown hK hI 0 rfl rfl 9 (by decide) (hts _ wd_401) rfl d_M_lowHolds_124 ?_
    refine lv_iload_n hx hb d_M_lowHolds_127 rfl (lv_at hl 3 rfl) ?_
    obtain ⟨hg, h⟩ := gd_e h
    refine g_iald hx hb hK hI 2 1 rfl rfl hg d_M_lowHolds_128 ?_
    refine lv_iload hx hb d_M_lowHolds_129 (lv_at hl 4 rfl) ?_
    refine lv_iload hx hb d_M_lowHolds_131 (lv_at hl 5 rfl) ?_
    obtain ⟨r18, u19, hc, h⟩ := ob_e h
    refine g_callS (As := [.int (m_ki u v3.toNatClampNeg), .int v4, .int v5]) (rest := [.int (t0 - 1), .ref (ad 14)]) (w' := m_W ad cA u19) (o := some (.int r18)) ⟨hx, hb, hml, hown, hts⟩ (c_M_joined l D ad cA hc) (va_cwS 3 hts gq_M_143 rfl rfl rfl (by decide +kernel) ⟨Nat.le_of_ble_eq_true rfl, Nat.le_of_ble_eq_true rfl⟩) hK hI hA rfl hl.1 rfl (Nat.le_of_ble_eq_true rfl) d_M_lowHolds_133 ⟨Nat.zero_le _, Nat.zero_le _⟩ rfl (fun H locs hI => ?_)
    obtain ⟨hg, h⟩ := gd_e h
    obtain ⟨u20, e_u20, h⟩ := lt_e h
    refine g_zast (w' := m_W ad cA u20) hx hb hK hI 14 13 rfl rfl hg d_M_lowHolds_136 (by subst e_u20; rfl) (fun H locs hI => ?_)
    obtain ⟨x21, e_x21, h⟩ := lt_e h
    refine lv_iinc (v := x21) (k := 3) hx hb d_M_lowHolds_137 hl rfl (by subst e_x21; rfl) (by decide) rfl (fun ls hl => ?_)
    refine lv_goto (tgt := 9) hx hb d_M_lowHolds_140 rfl ?_
    exact hk9 v1 t0 x21 u20 _ _ _ (lv_sub hl [2, 3, 1, 0] rfl) hI h
  have w96 : ∀ (k9 : Int32 → Int32 → Int32 → MS → Option (Int32 × MS)) (hk9 : ∀ (v1 : Int32) (v2 : Int32) (v3 : Int32) (u : MS) (H : Heap) (locs : List Loc) (ls : Array Slot), lv_has ls 6 [(0, .ref (ad 0)), (1, .int v1), (2, .int v2), (3, .int v3)] → g_I D vwCl A s.heap H locs (m_W ad cA u) → k9 v1 v2 v3 u = some (r0, u0) → W p l e { frames := 2, cells := 0, slots := 0, locals := 46 } s m ([.ref (ad 0), .int a1] : List Value).toArray below meth c H locs 0 0 (MQ below (g_Q D vwCl (m_T cA) (m_W ad cA u0) A (some (.int r0))) ([.ref (ad 0), .int a1] : List Value).toArray s 0 0 A) (F0 m 9 ls [])) (v1 : Int32) (v2 : Int32) (v3 : Int32) (v4 : Int32) (t0 : Int32) (u : MS) (H : Heap) (locs : List Loc) (ls : Array Slot), lv_has ls 6 [(0, .ref (ad 0)), (1, .int v1), (2, .int v2), (3, .int v3), (4, .int v4)] → g_I D vwCl A s.heap H locs (m_W ad cA u) → f_M_lowHolds_J96 k9 v1 v2 v3 v4 t0 u = some (r0, u0) → W p l e { frames := 2, cells := 0, slots := 0, locals := 46 } s m ([.ref (ad 0), .int a1] : List Value).toArray below meth c H locs 0 0 (MQ below (g_Q D vwCl (m_T cA) (m_W ad cA u0) A (some (.int r0))) ([.ref (ad 0), .int a1] : List Value).toArray s 0 0 A) (F0 m 96 ls [.int t0]) := by
    intro k9 hk9 v1 v2 v3 v4 t0 u H locs ls hl hI h
    dsimp only [f_M_lowHolds_J96] at h
    refine lv_istore (lv' := [(5, .int t0), (0, .ref (ad 0)), (1, .int v1), (2, .int v2), (3, .int v3), (4, .int v4)]) hx hb d_M_lowHolds_96 hl (by decide) rfl (fun ls hl => ?_)
    refine lv_aload_n hx hb d_M_lowHolds_98 rfl (lv_at hl 1 rfl) ?_
    refine g_get (v := .ref (ad 2)) hx hb hts in_M hown hK hI 0 rfl rfl 9 (by decide) (hts _ wd_401) rfl d_M_lowHolds_99 ?_
    refine lv_iload_n hx hb d_M_lowHolds_102 rfl (lv_at hl 4 rfl) ?_
    obtain ⟨hg, h⟩ := gd_e h
    refine g_iald hx hb hK hI 2 1 rfl rfl hg d_M_lowHolds_103 ?_
    refine lv_iconst (v := 3) hx hb d_M_lowHolds_104 (by decide) ?_
    refine lv_icmp_ge (tgt := 114) hx hb d_M_lowHolds_105 rfl (fun hc17 => ?_) (fun hc17 => ?_)
    · rw [if_pos hc17] at h
      refine lv_iload_n hx hb d_M_lowHolds_114 rfl (lv_at hl 3 rfl) ?_
      exact w115 k9 hk9 v1 v3 v4 t0 v2 u _ _ _ (lv_sub hl [1, 2, 4, 5, 0] rfl) hI h
    · rw [if_neg hc17] at h
      refine lv_iload_n hx hb d_M_lowHolds_108 rfl (lv_at hl 3 rfl) ?_
      refine lv_iconst (v := 1) hx hb d_M_lowHolds_109 (by decide) ?_
      refine lv_isub hx hb d_M_lowHolds_110 ?_
      refine lv_goto (tgt := 115) hx hb d_M_lowHolds_111 rfl ?_
      exact w115 k9 hk9 v1 v3 v4 t0 (v2 - 1) u _ _ _ (lv_sub hl [1, 2, 4, 5, 0] rfl) hI h
  have w50 : ∀ (k9 : Int32 → Int32 → Int32 → MS → Option (Int32 × MS)) (hk9 : ∀ (v1 : Int32) (v2 : Int32) (v3 : Int32) (u : MS) (H : Heap) (locs : List Loc) (ls : Array Slot), lv_has ls 6 [(0, .ref (ad 0)), (1, .int v1), (2, .int v2), (3, .int v3)] → g_I D vwCl A s.heap H locs (m_W ad cA u) → k9 v1 v2 v3 u = some (r0, u0) → W p l e { frames := 2, cells := 0, slots := 0, locals := 46 } s m ([.ref (ad 0), .int a1] : List Value).toArray below meth c H locs 0 0 (MQ below (g_Q D vwCl (m_T cA) (m_W ad cA u0) A (some (.int r0))) ([.ref (ad 0), .int a1] : List Value).toArray s 0 0 A) (F0 m 9 ls [])) (v1 : Int32) (v2 : Int32) (v3 : Int32) (u : MS) (H : Heap) (locs : List Loc) (ls : Array Slot), lv_has ls 6 [(0, .ref (ad 0)), (1, .int v1), (2, .int v2), (3, .int v3)] → g_I D vwCl A s.heap H locs (m_W ad cA u) → f_M_lowHolds_J50 k9 v1 v2 v3 u = some (r0, u0) → W p l e { frames := 2, cells := 0, slots := 0, locals := 46 } s m ([.ref (ad 0), .int a1] : List Value).toArray below meth c H locs 0 0 (MQ below (g_Q D vwCl (m_T cA) (m_W ad cA u0) A (some (.int r0))) ([.ref (ad 0), .int a1] : List Value).toArray s 0 0 A) (F0 m 50 ls []) := by
    intro k9 hk9 v1 v2 v3 u H locs ls hl hI h
    dsimp only [f_M_lowHolds_J50] at h
    refine lv_aload_n hx hb d_M_lowHolds_50 rfl (lv_at hl 0 rfl) ?_
    refine g_get (v := .ref (ad 3)) hx hb hts in_M hown hK hI 0 rfl rfl 10 (by decide) (hts _ wd_402) rfl d_M_lowHolds_51 ?_
    refine lv_iload_n hx hb d_M_lowHolds_54 rfl (lv_at hl 3 rfl) ?_
    obtain ⟨hg, h⟩ := gd_e h
    refine g_iald hx hb hK hI 3 2 rfl rfl hg d_M_lowHolds_55 ?_
    refine lv_iload_n hx hb d_M_lowHolds_56 rfl (lv_at hl 1 rfl) ?_
    refine lv_icmp_ne (tgt := 137) hx hb d_M_lowHolds_57 rfl (fun hc12 => ?_) (fun hc12 => ?_)
    · rw [if_neg hc12] at h
      obtain ⟨x13, e_x13, h⟩ := lt_e h
      refine lv_iinc (v := x13) (k := 3) hx hb d_M_lowHolds_137 hl rfl (by subst e_x13; rfl) (by decide) rfl (fun ls hl => ?_)
      refine lv_goto (tgt := 9) hx hb d_M_lowHolds_140 rfl ?_
      exact hk9 v1 v2 x13 u _ _ _ (lv_sub hl [1, 2, 3, 0] rfl) hI h
    · rw [if_pos hc12] at h
      refine lv_aload_n hx hb d_M_lowHolds_60 rfl (lv_at hl 0 rfl) ?_
      refine g_get (v := .ref (ad 14)) hx hb hts in_M hown hK hI 0 rfl rfl 25 (by decide) (hts _ wd_417) rfl d_M_lowHolds_61 ?_
      refine lv_iload_n hx hb d_M_lowHolds_64 rfl (lv_at hl 2 rfl) ?_
      refine lv_iconst (v := 1) hx hb d_M_lowHolds_65 (by decide) ?_
      refine lv_isub hx hb d_M_lowHolds_66 ?_
      obtain ⟨hg, h⟩ := gd_e h
      refine g_zald hx hb hK hI 14 13 rfl rfl hg d_M_lowHolds_67 ?_
      obtain ⟨x14, e_x14, h⟩ := lt_e h
      refine lv_istore (lv' := [(4, .int x14), (0, .ref (ad 0)), (1, .int v1), (2, .int v2), (3, .int v3)]) hx hb d_M_lowHolds_68 hl (by decide) (by subst e_x14; rfl) (fun ls hl => ?_)
      refine lv_aload_n hx hb d_M_lowHolds_70 rfl (lv_at hl 1 rfl) ?_
      refine g_get (v := .ref (ad 2)) hx hb hts in_M hown hK hI 0 rfl rfl 9 (by decide) (hts _ wd_401) rfl d_M_lowHolds_71 ?_
      refine lv_iload_n hx hb d_M_lowHolds_74 rfl (lv_at hl 4 rfl) ?_
      obtain ⟨hg, h⟩ := gd_e h
      refine g_iald hx hb hK hI 2 1 rfl rfl hg d_M_lowHolds_75 ?_
      refine lv_iconst (v := 3) hx hb d_M_lowHolds_76 (by decide) ?_
      refine lv_icmp_ge (tgt := 95) hx hb d_M_lowHolds_77 rfl (fun hc15 => ?_) (fun hc15 => ?_)
      · rw [if_pos hc15] at h
        refine lv_iconst (v := 0) hx hb d_M_lowHolds_95 (by decide) ?_
        exact w96 k9 hk9 v1 v2 v3 x14 0 u _ _ _ (lv_sub hl [1, 2, 3, 4, 0] rfl) hI h
      · rw [if_neg hc15] at h
        refine lv_aload_n hx hb d_M_lowHolds_80 rfl (lv_at hl 1 rfl) ?_
        refine g_get (v := .ref (ad 14)) hx hb hts in_M hown hK hI 0 rfl rfl 25 (by decide) (hts _ wd_417) rfl d_M_lowHolds_81 ?_
        refine lv_iload_n hx hb d_M_lowHolds_84 rfl (lv_at hl 3 rfl) ?_
        refine lv_iconst (v := 2) hx hb d_M_lowHolds_85 (by decide) ?_
        refine lv_isub hx hb d_M_lowHolds_86 ?_
        obtain ⟨hg, h⟩ := gd_e h
        refine g_zald hx hb hK hI 14 13 rfl rfl hg d_M_lowHolds_87 ?_
        refine lv_if_eq (tgt := 95) hx hb d_M_lowHolds_88 rfl (fun hc16 => ?_) (fun hc16 => ?_)
        · rw [if_pos hc16] at h
          refine lv_iconst (v := 0) hx hb d_M_lowHolds_95 (by decide) ?_
          exact w96 k9 hk9 v1 v2 v3 x14 0 u _ _ _ (lv_sub hl [1, 2, 3, 4, 0] rfl) hI h
        · rw [if_neg hc16] at h
          refine lv_iconst (v := 1) hx hb d_M_lowHolds_91 (by decide) ?_
          refine lv_goto (tgt := 96) hx hb d_M_lowHolds_92 rfl ?_
          exact w96 k9 hk9 v1 v2 v3 x14 1 u _ _ _ (lv_sub hl [1, 2, 3, 4, 0] rfl) hI h
  have w9 : ∀ (n : Nat) (v1 : Int32) (v2 : Int32) (v3 : Int32) (u : MS) (H : Heap) (locs : List Loc) (ls : Array Slot), lv_has ls 6 [(0, .ref (ad 0)), (1, .int v1), (2, .int v2), (3, .int v3)] → g_I D vwCl A s.heap H locs (m_W ad cA u) → f_M_lowHolds_L9 n v1 v2 v3 u = some (r0, u0) → W p l e { frames := 2, cells := 0, slots := 0, locals := 46 } s m ([.ref (ad 0), .int a1] : List Value).toArray below meth c H locs 0 0 (MQ below (g_Q D vwCl (m_T cA) (m_W ad cA u0) A (some (.int r0))) ([.ref (ad 0), .int a1] : List Value).toArray s 0 0 A) (F0 m 9 ls []) := by
    intro  n
    induction n with
    | zero => intro v1 v2 v3 u H locs ls hl hI h; cases h
    | succ n ih =>
      intro v1 v2 v3 u H locs ls hl hI h
      dsimp only [f_M_lowHolds_L9] at h
      refine lv_iload_n hx hb d_M_lowHolds_9 rfl (lv_at hl 3 rfl) ?_
      refine lv_iload_n hx hb d_M_lowHolds_10 rfl (lv_at hl 1 rfl) ?_
      refine lv_icmp_le (tgt := 143) hx hb d_M_lowHolds_11 rfl (fun hc2 => ?_) (fun hc2 => ?_)
      · rw [if_pos hc2] at h
        refine lv_aload_n hx hb d_M_lowHolds_143 rfl (lv_at hl 0 rfl) ?_
        refine g_get (v := .ref (ad 14)) hx hb hts in_M hown hK hI 0 rfl rfl 25 (by decide) (hts _ wd_417) rfl d_M_lowHolds_144 ?_
        refine lv_iconst (v := 0) hx hb d_M_lowHolds_147 (by decide) ?_
        refine g_zald hx hb hK hI 14 13 rfl rfl (by decide) d_M_lowHolds_148 ?_
        exact g_zret (Wd := m_W ad cA) hx hb hr hlk hK hI h d_M_lowHolds_149
      · rw [if_neg hc2] at h
        refine lv_aload_n hx hb d_M_lowHolds_14 rfl (lv_at hl 0 rfl) ?_
        refine g_get (v := .ref (ad 3)) hx hb hts in_M hown hK hI 0 rfl rfl 10 (by decide) (hts _ wd_402) rfl d_M_lowHolds_15 ?_
        refine lv_iload_n hx hb d_M_lowHolds_18 rfl (lv_at hl 3 rfl) ?_
        obtain ⟨hg, h⟩ := gd_e h
        refine g_iald hx hb hK hI 3 2 rfl rfl hg d_M_lowHolds_19 ?_
        refine lv_iload_n hx hb d_M_lowHolds_20 rfl (lv_at hl 1 rfl) ?_
        refine lv_icmp_ne (tgt := 50) hx hb d_M_lowHolds_21 rfl (fun hc3 => ?_) (fun hc3 => ?_)
        · rw [if_neg hc3] at h
          exact w50 (f_M_lowHolds_L9 n) ih v1 v2 v3 u _ _ _ (lv_sub hl [0, 1, 2, 3] rfl) hI h
        · rw [if_pos hc3] at h
          refine lv_aload_n hx hb d_M_lowHolds_24 rfl (lv_at hl 0 rfl) ?_
          refine lv_iload_n hx hb d_M_lowHolds_25 rfl (lv_at hl 3 rfl) ?_
          obtain ⟨r4, u5, hc, h⟩ := ob_e h
          refine g_callV (As := [.int v3]) (rest := []) (w' := m_W ad cA u5) (o := some (.int r4)) ⟨hx, hb, hml, hown, hts⟩ (c_M_isBracket l D ad cA hc) (cwV 1 hts gq_M_137 rfl rfl rfl (by decide +kernel) ⟨Nat.le_of_ble_eq_true rfl, Nat.le_of_ble_eq_true rfl⟩) hK hI hA 0 5 rfl rfl rfl hl.1 rfl (Nat.le_of_ble_eq_true rfl) d_M_lowHolds_26 ⟨Nat.zero_le _, Nat.zero_le _⟩ rfl (fun H locs hI => ?_)
          refine lv_if_eq (tgt := 50) hx hb d_M_lowHolds_29 rfl (fun hc6 => ?_) (fun hc6 => ?_)
          · rw [if_pos hc6] at h
            exact w50 (f_M_lowHolds_L9 n) ih v1 v2 v3 u5 _ _ _ (lv_sub hl [0, 1, 2, 3] rfl) hI h
          · rw [if_neg hc6] at h
            refine lv_aload_n hx hb d_M_lowHolds_32 rfl (lv_at hl 0 rfl) ?_
            refine g_get (v := .ref (ad 14)) hx hb hts in_M hown hK hI 0 rfl rfl 25 (by decide) (hts _ wd_417) rfl d_M_lowHolds_33 ?_
            refine lv_iload_n hx hb d_M_lowHolds_36 rfl (lv_at hl 2 rfl) ?_
            refine lv_aload_n hx hb d_M_lowHolds_37 rfl (lv_at hl 0 rfl) ?_
            refine lv_iload_n hx hb d_M_lowHolds_38 rfl (lv_at hl 3 rfl) ?_
            obtain ⟨r7, u8, hc, h⟩ := ob_e h
            refine g_callV (As := [.int v3]) (rest := [.int v2, .ref (ad 14)]) (w' := m_W ad cA u8) (o := some (.int r7)) ⟨hx, hb, hml, hown, hts⟩ (c_M_bracketHolds l D ad cA hc) (cwV 1 hts gq_M_140 rfl rfl rfl (by decide +kernel) ⟨Nat.le_of_ble_eq_true rfl, Nat.le_of_ble_eq_true rfl⟩) hK hI hA 0 5 rfl rfl rfl hl.1 rfl (Nat.le_of_ble_eq_true rfl) d_M_lowHolds_39 ⟨Nat.zero_le _, Nat.zero_le _⟩ rfl (fun H locs hI => ?_)
            obtain ⟨hg, h⟩ := gd_e h
            obtain ⟨u9, e_u9, h⟩ := lt_e h
            refine g_zast (w' := m_W ad cA u9) hx hb hK hI 14 13 rfl rfl hg d_M_lowHolds_42 (by subst e_u9; rfl) (fun H locs hI => ?_)
            refine lv_iload_n hx hb d_M_lowHolds_43 rfl (lv_at hl 2 rfl) ?_
            refine lv_iconst (v := 1) hx hb d_M_lowHolds_44 (by decide) ?_
            refine lv_iadd hx hb d_M_lowHolds_45 ?_
            obtain ⟨x10, e_x10, h⟩ := lt_e h
            refine lv_istore_n (lv' := [(2, .int x10), (0, .ref (ad 0)), (1, .int v1), (3, .int v3)]) hx hb d_M_lowHolds_46 rfl hl (by decide) (by subst e_x10; rfl) (fun ls hl => ?_)
            refine lv_goto (tgt := 137) hx hb d_M_lowHolds_47 rfl ?_
            obtain ⟨x11, e_x11, h⟩ := lt_e h
            refine lv_iinc (v := x11) (k := 3) hx hb d_M_lowHolds_137 hl rfl (by subst e_x11; rfl) (by decide) rfl (fun ls hl => ?_)
            refine lv_goto (tgt := 9) hx hb d_M_lowHolds_140 rfl ?_
            exact ih v1 x10 x11 u9 _ _ _ (lv_sub hl [2, 3, 1, 0] rfl) hI h
  dsimp only [f_M_lowHolds] at h
  refine lv_iconst (v := 0) hx hb d_M_lowHolds_0 (by decide) ?_
  refine lv_istore_n (lv' := [(2, .int 0), (0, .ref (ad 0)), (1, .int a1)]) hx hb d_M_lowHolds_1 rfl hl (by decide) rfl (fun ls hl => ?_)
  refine lv_aload_n hx hb d_M_lowHolds_2 rfl (lv_at hl 1 rfl) ?_
  refine g_get (v := .int (m_cl u)) hx hb hts in_M hown hK hI 0 rfl rfl 5 (by decide) (hts _ wd_397) rfl d_M_lowHolds_3 ?_
  refine lv_iconst (v := 1) hx hb d_M_lowHolds_6 (by decide) ?_
  refine lv_isub hx hb d_M_lowHolds_7 ?_
  obtain ⟨x1, e_x1, h⟩ := lt_e h
  refine lv_istore_n (lv' := [(3, .int x1), (2, .int 0), (0, .ref (ad 0)), (1, .int a1)]) hx hb d_M_lowHolds_8 rfl hl (by decide) (by subst e_x1; rfl) (fun ls hl => ?_)
  exact w9 4096 a1 0 x1 u _ _ _ (lv_sub hl [2, 3, 1, 0] rfl) hI h
def f_M_lowQuantifier_J158 (k37 : Int32 → Int32 → Int32 → Int32 → Int32 → Int32 → MS → Option (Int32 × MS)) (k135 : Int32 → Int32 → Int32 → Int32 → Int32 → Int32 → Int32 → Int32 → Int32 → MS → Option (Int32 × MS)) (v1 : Int32) (v2 : Int32) (v3 : Int32) (v4 : Int32) (v6 : Int32) (v7 : Int32) (v8 : Int32) (v9 : Int32) (u : MS) : Option (Int32 × MS) := gd (inb v3 3) (lt_ (m_p_nu (upd (m_nu u) v3.toNatClampNeg (v8 + v9)) u) fun u26 => ob (f_M_lowHolds v1 u26) fun r27 u28 => if r27 = v2 then (lt_ (v9 + 1) fun x31 => k135 v1 v2 v3 v4 1 v6 v7 v8 x31 u28) else (lt_ (v9 + 1) fun x30 => k135 v1 v2 v3 v4 0 v6 v7 v8 x30 u28))
def f_M_lowQuantifier_L135 (k37 : Int32 → Int32 → Int32 → Int32 → Int32 → Int32 → MS → Option (Int32 × MS)) (n : Nat) : Int32 → Int32 → Int32 → Int32 → Int32 → Int32 → Int32 → Int32 → Int32 → MS → Option (Int32 × MS) := match n with
  | 0 => fun _ _ _ _ _ _ _ _ _ _ => none
  | n + 1 => fun v1 v2 v3 v4 v5 v6 v7 v8 v9 u => if 7 < v9 then (lt_ (v6 + 1) fun x20 => k37 v1 v2 v3 v4 v5 x20 u) else (if v5 = 0 then (if v7 = 0 then (if v6 = v1 then f_M_lowQuantifier_J158 k37 (f_M_lowQuantifier_L135 k37 n) v1 v2 v3 v4 v6 v7 v8 v9 u else (lt_ (v6 + 1) fun x25 => k37 v1 v2 v3 v4 v5 x25 u)) else f_M_lowQuantifier_J158 k37 (f_M_lowQuantifier_L135 k37 n) v1 v2 v3 v4 v6 v7 v8 v9 u) else (lt_ (v6 + 1) fun x22 => k37 v1 v2 v3 v4 v5 x22 u))
def f_M_lowQuantifier_J96 (k37 : Int32 → Int32 → Int32 → Int32 → Int32 → Int32 → MS → Option (Int32 × MS)) (v1 : Int32) (v2 : Int32) (v3 : Int32) (v4 : Int32) (v5 : Int32) (v6 : Int32) (t0 : Int32) (u : MS) : Option (Int32 × MS) := if t0 = 0 then f_M_lowQuantifier_L135 k37 4096 v1 v2 v3 v4 v5 v6 t0 0 ((-7)) u else (ob (f_M_rest v6 v3 u) fun r15 u16 => gd (inb ((4 * v6) + v3) 80) (ob (f_M_floor (-r15) (m_su u16 ((4 * v6) + v3).toNatClampNeg) u16) fun r17 u18 => f_M_lowQuantifier_L135 k37 4096 v1 v2 v3 v4 v5 v6 t0 r17 ((-7)) u18))
def f_M_lowQuantifier_J197 (v2 : Int32) (v3 : Int32) (v4 : Int32) (v5 : Int32) (u : MS) : Option (Int32 × MS) := gd (inb v3 3) (lt_ (m_p_nu (upd (m_nu u) v3.toNatClampNeg v4) u) fun u12 => if v5 = v2 then (gd (bz 1) (some (1, u12))) else (gd (bz 0) (some (0, u12))))
def f_M_lowQuantifier_L37 (n : Nat) : Int32 → Int32 → Int32 → Int32 → Int32 → Int32 → MS → Option (Int32 × MS) := match n with
  | 0 => fun _ _ _ _ _ _ _ => none
  | n + 1 => fun v1 v2 v3 v4 v5 v6 u => if (m_cl u) ≤ v6 then f_M_lowQuantifier_J197 v2 v3 v4 v5 u else (if v5 = 0 then (if v6 ≤ v1 then f_M_lowQuantifier_J96 (f_M_lowQuantifier_L37 n) v1 v2 v3 v4 v5 v6 0 u else (gd (inb v6 20) (if (m_ow u v6.toNatClampNeg) = v1 then (ob (f_M_isBracket v6 u) fun r8 u9 => if r8 = 0 then f_M_lowQuantifier_J96 (f_M_lowQuantifier_L37 n) v1 v2 v3 v4 v5 v6 0 u9 else (gd (inb ((4 * v6) + v3) 80) (if (m_su u9 ((4 * v6) + v3).toNatClampNeg) = 0 then f_M_lowQuantifier_J96 (f_M_lowQuantifier_L37 n) v1 v2 v3 v4 v5 v6 0 u9 else f_M_lowQuantifier_J96 (f_M_lowQuantifier_L37 n) v1 v2 v3 v4 v5 v6 1 u9))) else f_M_lowQuantifier_J96 (f_M_lowQuantifier_L37 n) v1 v2 v3 v4 v5 v6 0 u))) else f_M_lowQuantifier_J197 v2 v3 v4 v5 u)
def f_M_lowQuantifier_J15 (v1 : Int32) (t0 : Int32) (u : MS) : Option (Int32 × MS) := gd (inb v1 20) (lt_ (m_ab u v1.toNatClampNeg) fun x2 => gd (inb x2 3) (lt_ (m_nu u x2.toNatClampNeg) fun x3 => f_M_lowQuantifier_L37 4096 v1 t0 x2 x3 0 v1 u))
def f_M_lowQuantifier (a1 : Int32) (u : MS) : Option (Int32 × MS) := gd (inb a1 20) (if (m_ki u a1.toNatClampNeg) = 4 then f_M_lowQuantifier_J15 a1 1 u else f_M_lowQuantifier_J15 a1 0 u)
set_option maxRecDepth 100000 in
set_option maxHeartbeats 4000000 in
theorem c_M_lowQuantifier (l : Launch) (D : va_G) (ad : Nat → Nat) (cA : Nat → ClassId) {a1 : Int32} {u u0 : MS} {r0 : Int32} (h : f_M_lowQuantifier a1 u = some (r0, u0)) : g_M l y_M_lowQuantifier w_M_lowQuantifier { frames := 3, cells := 0, slots := 0, locals := 71 } D vwCl (m_T cA) (m_W ad cA u) [.ref (ad 0), .int a1] (some (.int r0)) (m_W ad cA u0) := by
  refine g_ofW (cc := c0_M_lowQuantifier) (maxL := 10) (ret := (some .boolean)) (by decide) rfl (Nat.le_of_ble_eq_true rfl) ?_
  intro p e s m below meth c A ls hx hb hr hml hown hts hlk hK hA hI hl
  have hts : ∀ w ∈ gW, w.before ([.ref (ad 0), .int a1] : List Value).toArray s = true := fun w h => hts w (List.mem_cons_of_mem _ h)
  have hown : s.vm.findClass R_M = some m.cls := hown
  have hl : lv_has ls 10 [(0, .ref (ad 0)), (1, .int a1)] := hl
  have w158 : ∀ (k37 : Int32 → Int32 → Int32 → Int32 → Int32 → Int32 → MS → Option (Int32 × MS)) (hk37 : ∀ (v1 : Int32) (v2 : Int32) (v3 : Int32) (v4 : Int32) (v5 : Int32) (v6 : Int32) (u : MS) (H : Heap) (locs : List Loc) (ls : Array Slot), lv_has ls 10 [(0, .ref (ad 0)), (1, .int v1), (2, .int v2), (3, .int v3), (4, .int v4), (5, .int v5), (6, .int v6)] → g_I D vwCl A s.heap H locs (m_W ad cA u) → k37 v1 v2 v3 v4 v5 v6 u = some (r0, u0) → W p l e { frames := 3, cells := 0, slots := 0, locals := 71 } s m ([.ref (ad 0), .int a1] : List Value).toArray below meth c H locs 0 0 (MQ below (g_Q D vwCl (m_T cA) (m_W ad cA u0) A (some (.int r0))) ([.ref (ad 0), .int a1] : List Value).toArray s 0 0 A) (F0 m 37 ls [])) (k135 : Int32 → Int32 → Int32 → Int32 → Int32 → Int32 → Int32 → Int32 → Int32 → MS → Option (Int32 × MS)) (hk135 : ∀ (v1 : Int32) (v2 : Int32) (v3 : Int32) (v4 : Int32) (v5 : Int32) (v6 : Int32) (v7 : Int32) (v8 : Int32) (v9 : Int32) (u : MS) (H : Heap) (locs : List Loc) (ls : Array Slot), lv_has ls 10 [(0, .ref (ad 0)), (1, .int v1), (2, .int v2), (3, .int v3), (4, .int v4), (5, .int v5), (6, .int v6), (7, .int v7), (8, .int v8), (9, .int v9)] → g_I D vwCl A s.heap H locs (m_W ad cA u) → k135 v1 v2 v3 v4 v5 v6 v7 v8 v9 u = some (r0, u0) → W p l e { frames := 3, cells := 0, slots := 0, locals := 71 } s m ([.ref (ad 0), .int a1] : List Value).toArray below meth c H locs 0 0 (MQ below (g_Q D vwCl (m_T cA) (m_W ad cA u0) A (some (.int r0))) ([.ref (ad 0), .int a1] : List Value).toArray s 0 0 A) (F0 m 135 ls [])) (v1 : Int32) (v2 : Int32) (v3 : Int32) (v4 : Int32) (v6 : Int32) (v7 : Int32) (v8 : Int32) (v9 : Int32) (u : MS) (H : Heap) (locs : List Loc) (ls : Array Slot), lv_has ls 10 [(0, .ref (ad 0)), (1, .int v1), (2, .int v2), (3, .int v3), (4, .int v4), (6, .int v6), (7, .int v7), (8, .int v8), (9, .int v9)] → g_I D vwCl A s.heap H locs (m_W ad cA u) → f_M_lowQuantifier_J158 k37 k135 v1 v2 v3 v4 v6 v7 v8 v9 u = some (r0, u0) → W p l e { frames := 3, cells := 0, slots := 0, locals := 71 } s m ([.ref (ad 0), .int a1] : List Value).toArray below meth c H locs 0 0 (MQ below (g_Q D vwCl (m_T cA) (m_W ad cA u0) A (some (.int r0))) ([.ref (ad 0), .int a1] : List Value).toArray s 0 0 A) (F0 m 158 ls []) := by
    intro k37 hk37 k135 hk135 v1 v2 v3 v4 v6 v7 v8 v9 u H locs ls hl hI h
    dsimp only [f_M_lowQuantifier_J158] at h
    refine lv_aload_n hx hb d_M_lowQuantifier_158 rfl (lv_at hl 0 rfl) ?_
    refine g_get (v := .ref (ad 13)) hx hb hts in_M hown hK hI 0 rfl rfl 24 (by decide) (hts _ wd_416) rfl d_M_lowQuantifier_159 ?_
    refine lv_iload_n hx hb d_M_lowQuantifier_162 rfl (lv_at hl 3 rfl) ?_
    refine lv_iload hx hb d_M_lowQuantifier_163 (lv_at hl 7 rfl) ?_
    refine lv_iload hx hb d_M_lowQuantifier_165 (lv_at hl 8 rfl) ?_
    refine lv_iadd hx hb d_M_lowQuantifier_167 ?_
    obtain ⟨hg, h⟩ := gd_e h
    obtain ⟨u26, e_u26, h⟩ := lt_e h
    refine g_iast (w' := m_W ad cA u26) hx hb hK hI 13 12 rfl rfl hg d_M_lowQuantifier_168 (by subst e_u26; rfl) (fun H locs hI => ?_)
    refine lv_aload_n hx hb d_M_lowQuantifier_169 rfl (lv_at hl 0 rfl) ?_
    refine lv_iload_n hx hb d_M_lowQuantifier_170 rfl (lv_at hl 1 rfl) ?_
    obtain ⟨r27, u28, hc, h⟩ := ob_e h
    refine g_callV (As := [.int v1]) (rest := []) (w' := m_W ad cA u28) (o := some (.int r27)) ⟨hx, hb, hml, hown, hts⟩ (c_M_lowHolds l D ad cA hc) (cwV 1 hts gq_M_150 rfl rfl rfl (by decide +kernel) ⟨Nat.le_of_ble_eq_true rfl, Nat.le_of_ble_eq_true rfl⟩) hK hI hA 0 5 rfl rfl rfl hl.1 rfl (Nat.le_of_ble_eq_true rfl) d_M_lowQuantifier_171 ⟨Nat.zero_le _, Nat.zero_le _⟩ rfl (fun H locs hI => ?_)
    refine lv_iload_n hx hb d_M_lowQuantifier_174 rfl (lv_at hl 2 rfl) ?_
    refine lv_icmp_ne (tgt := 182) hx hb d_M_lowQuantifier_175 rfl (fun hc29 => ?_) (fun hc29 => ?_)
    · rw [if_neg hc29] at h
      refine lv_iconst (v := 0) hx hb d_M_lowQuantifier_182 (by decide) ?_
      refine lv_istore (lv' := [(5, .int 0), (0, .ref (ad 0)), (1, .int v1), (2, .int v2), (3, .int v3), (4, .int v4), (6, .int v6), (7, .int v7), (8, .int v8), (9, .int v9)]) hx hb d_M_lowQuantifier_183 hl (by decide) rfl (fun ls hl => ?_)
      obtain ⟨x30, e_x30, h⟩ := lt_e h
      refine lv_iinc (v := x30) (k := 9) hx hb d_M_lowQuantifier_185 hl rfl (by subst e_x30; rfl) (by decide) rfl (fun ls hl => ?_)
      refine lv_goto (tgt := 135) hx hb d_M_lowQuantifier_188 rfl ?_
      exact hk135 v1 v2 v3 v4 0 v6 v7 v8 x30 u28 _ _ _ (lv_sub hl [2, 3, 4, 5, 6, 1, 7, 8, 9, 0] rfl) hI h
    · rw [if_pos hc29] at h
      refine lv_iconst (v := 1) hx hb d_M_lowQuantifier_178 (by decide) ?_
      refine lv_goto (tgt := 183) hx hb d_M_lowQuantifier_179 rfl ?_
      refine lv_istore (lv' := [(5, .int 1), (0, .ref (ad 0)), (1, .int v1), (2, .int v2), (3, .int v3), (4, .int v4), (6, .int v6), (7, .int v7), (8, .int v8), (9, .int v9)]) hx hb d_M_lowQuantifier_183 hl (by decide) rfl (fun ls hl => ?_)
      obtain ⟨x31, e_x31, h⟩ := lt_e h
      refine lv_iinc (v := x31) (k := 9) hx hb d_M_lowQuantifier_185 hl rfl (by subst e_x31; rfl) (by decide) rfl (fun ls hl => ?_)
      refine lv_goto (tgt := 135) hx hb d_M_lowQuantifier_188 rfl ?_
      exact hk135 v1 v2 v3 v4 1 v6 v7 v8 x31 u28 _ _ _ (lv_sub hl [2, 3, 4, 5, 6, 1, 7, 8, 9, 0] rfl) hI h
  have w135 : ∀ (k37 : Int32 → Int32 → Int32 → Int32 → Int32 → Int32 → MS → Option (Int32 × MS)) (hk37 : ∀ (v1 : Int32) (v2 : Int32) (v3 : Int32) (v4 : Int32) (v5 : Int32) (v6 : Int32) (u : MS) (H : Heap) (locs : List Loc) (ls : Array Slot), lv_has ls 10 [(0, .ref (ad 0)), (1, .int v1), (2, .int v2), (3, .int v3), (4, .int v4), (5, .int v5), (6, .int v6)] → g_I D vwCl A s.heap H locs (m_W ad cA u) → k37 v1 v2 v3 v4 v5 v6 u = some (r0, u0) → W p l e { frames := 3, cells := 0, slots := 0, locals := 71 } s m ([.ref (ad 0), .int a1] : List Value).toArray below meth c H locs 0 0 (MQ below (g_Q D vwCl (m_T cA) (m_W ad cA u0) A (some (.int r0))) ([.ref (ad 0), .int a1] : List Value).toArray s 0 0 A) (F0 m 37 ls [])) (n : Nat) (v1 : Int32) (v2 : Int32) (v3 : Int32) (v4 : Int32) (v5 : Int32) (v6 : Int32) (v7 : Int32) (v8 : Int32) (v9 : Int32) (u : MS) (H : Heap) (locs : List Loc) (ls : Array Slot), lv_has ls 10 [(0, .ref (ad 0)), (1, .int v1), (2, .int v2), (3, .int v3), (4, .int v4), (5, .int v5), (6, .int v6), (7, .int v7), (8, .int v8), (9, .int v9)] → g_I D vwCl A s.heap H locs (m_W ad cA u) → f_M_lowQuantifier_L135 k37 n v1 v2 v3 v4 v5 v6 v7 v8 v9 u = some (r0, u0) → W p l e { frames := 3, cells := 0, slots := 0, locals := 71 } s m ([.ref (ad 0), .int a1] : List Value).toArray below meth c H locs 0 0 (MQ below (g_Q D vwCl (m_T cA) (m_W ad cA u0) A (some (.int r0))) ([.ref (ad 0), .int a1] : List Value).toArray s 0 0 A) (F0 m 135 ls []) := by
    intro k37 hk37 n
    induction n with
    | zero => intro v1 v2 v3 v4 v5 v6 v7 v8 v9 u H locs ls hl hI h; cases h
    | succ n ih =>
      intro v1 v2 v3 v4 v5 v6 v7 v8 v9 u H locs ls hl hI h
      dsimp only [f_M_lowQuantifier_L135] at h
      refine lv_iload hx hb d_M_lowQuantifier_135 (lv_at hl 9 rfl) ?_
      refine lv_bipush (v := 7) hx hb d_M_lowQuantifier_137 (by decide) ?_
      refine lv_icmp_gt (tgt := 191) hx hb d_M_lowQuantifier_139 rfl (fun hc19 => ?_) (fun hc19 => ?_)
      · rw [if_pos hc19] at h
        obtain ⟨x20, e_x20, h⟩ := lt_e h
        refine lv_iinc (v := x20) (k := 6) hx hb d_M_lowQuantifier_191 hl rfl (by subst e_x20; rfl) (by decide) rfl (fun ls hl => ?_)
        refine lv_goto (tgt := 37) hx hb d_M_lowQuantifier_194 rfl ?_
        exact hk37 v1 v2 v3 v4 v5 x20 u _ _ _ (lv_sub hl [1, 2, 3, 4, 5, 6, 0] rfl) hI h
      · rw [if_neg hc19] at h
        refine lv_iload hx hb d_M_lowQuantifier_142 (lv_at hl 5 rfl) ?_
        refine lv_if_ne (tgt := 191) hx hb d_M_lowQuantifier_144 rfl (fun hc21 => ?_) (fun hc21 => ?_)
        · rw [if_neg hc21] at h
          obtain ⟨x22, e_x22, h⟩ := lt_e h
          refine lv_iinc (v := x22) (k := 6) hx hb d_M_lowQuantifier_191 hl rfl (by subst e_x22; rfl) (by decide) rfl (fun ls hl => ?_)
          refine lv_goto (tgt := 37) hx hb d_M_lowQuantifier_194 rfl ?_
          exact hk37 v1 v2 v3 v4 v5 x22 u _ _ _ (lv_sub hl [1, 2, 3, 4, 5, 6, 0] rfl) hI h
        · rw [if_pos hc21] at h
          refine lv_iload hx hb d_M_lowQuantifier_147 (lv_at hl 7 rfl) ?_
          refine lv_if_ne (tgt := 158) hx hb d_M_lowQuantifier_149 rfl (fun hc23 => ?_) (fun hc23 => ?_)
          · rw [if_neg hc23] at h
            exact w158 k37 hk37 (f_M_lowQuantifier_L135 k37 n) ih v1 v2 v3 v4 v6 v7 v8 v9 u _ _ _ (lv_sub hl [0, 1, 2, 3, 4, 6, 7, 8, 9] rfl) hI h
          · rw [if_pos hc23] at h
            refine lv_iload hx hb d_M_lowQuantifier_152 (lv_at hl 6 rfl) ?_
            refine lv_iload_n hx hb d_M_lowQuantifier_154 rfl (lv_at hl 1 rfl) ?_
            refine lv_icmp_ne (tgt := 191) hx hb d_M_lowQuantifier_155 rfl (fun hc24 => ?_) (fun hc24 => ?_)
            · rw [if_neg hc24] at h
              obtain ⟨x25, e_x25, h⟩ := lt_e h
              refine lv_iinc (v := x25) (k := 6) hx hb d_M_lowQuantifier_191 hl rfl (by subst e_x25; rfl) (by decide) rfl (fun ls hl => ?_)
              refine lv_goto (tgt := 37) hx hb d_M_lowQuantifier_194 rfl ?_
              exact hk37 v1 v2 v3 v4 v5 x25 u _ _ _ (lv_sub hl [1, 2, 3, 4, 5, 6, 0] rfl) hI h
            · rw [if_pos hc24] at h
              exact w158 k37 hk37 (f_M_lowQuantifier_L135 k37 n) ih v1 v2 v3 v4 v6 v7 v8 v9 u _ _ _ (lv_sub hl [0, 1, 2, 3, 4, 6, 7, 8, 9] rfl) hI h
  have w96 : ∀ (k37 : Int32 → Int32 → Int32 → Int32 → Int32 → Int32 → MS → Option (Int32 × MS)) (hk37 : ∀ (v1 : Int32) (v2 : Int32) (v3 : Int32) (v4 : Int32) (v5 : Int32) (v6 : Int32) (u : MS) (H : Heap) (locs : List Loc) (ls : Array Slot), lv_has ls 10 [(0, .ref (ad 0)), (1, .int v1), (2, .int v2), (3, .int v3), (4, .int v4), (5, .int v5), (6, .int v6)] → g_I D vwCl A s.heap H locs (m_W ad cA u) → k37 v1 v2 v3 v4 v5 v6 u = some (r0, u0) → W p l e { frames := 3, cells := 0, slots := 0, locals := 71 } s m ([.ref (ad 0), .int a1] : List Value).toArray below meth c H locs 0 0 (MQ below (g_Q D vwCl (m_T cA) (m_W ad cA u0) A (some (.int r0))) ([.ref (ad 0), .int a1] : List Value).toArray s 0 0 A) (F0 m 37 ls [])) (v1 : Int32) (v2 : Int32) (v3 : Int32) (v4 : Int32) (v5 : Int32) (v6 : Int32) (t0 : Int32) (u : MS) (H : Heap) (locs : List Loc) (ls : Array Slot), lv_has ls 10 [(0, .ref (ad 0)), (1, .int v1), (2, .int v2), (3, .int v3), (4, .int v4), (5, .int v5), (6, .int v6)] → g_I D vwCl A s.heap H locs (m_W ad cA u) → f_M_lowQuantifier_J96 k37 v1 v2 v3 v4 v5 v6 t0 u = some (r0, u0) → W p l e { frames := 3, cells := 0, slots := 0, locals := 71 } s m ([.ref (ad 0), .int a1] : List Value).toArray below meth c H locs 0 0 (MQ below (g_Q D vwCl (m_T cA) (m_W ad cA u0) A (some (.int r0))) ([.ref (ad 0), .int a1] : List Value).toArray s 0 0 A) (F0 m 96 ls [.int t0]) := by
    intro k37 hk37 v1 v2 v3 v4 v5 v6 t0 u H locs ls hl hI h
    dsimp only [f_M_lowQuantifier_J96] at h
    refine lv_istore (lv' := [(7, .int t0), (0, .ref (ad 0)), (1, .int v1), (2, .int v2), (3, .int v3), (4, .int v4), (5, .int v5), (6, .int v6)]) hx hb d_M_lowQuantifier_96 hl (by decide) rfl (fun ls hl => ?_)
    refine lv_iload hx hb d_M_lowQuantifier_98 (lv_at hl 0 rfl) ?_
    refine lv_if_eq (tgt := 128) hx hb d_M_lowQuantifier_100 rfl (fun hc14 => ?_) (fun hc14 => ?_)
    · rw [if_pos hc14] at h
      refine lv_iconst (v := 0) hx hb d_M_lowQuantifier_128 (by decide) ?_
      refine lv_istore (lv' := [(8, .int 0), (7, .int t0), (0, .ref (ad 0)), (1, .int v1), (2, .int v2), (3, .int v3), (4, .int v4), (5, .int v5), (6, .int v6)]) hx hb d_M_lowQuantifier_129 hl (by decide) rfl (fun ls hl => ?_)
      refine lv_bipush (v := (-7)) hx hb d_M_lowQuantifier_131 (by decide) ?_
      refine lv_istore (lv' := [(9, .int ((-7))), (8, .int 0), (7, .int t0), (0, .ref (ad 0)), (1, .int v1), (2, .int v2), (3, .int v3), (4, .int v4), (5, .int v5), (6, .int v6)]) hx hb d_M_lowQuantifier_133 hl (by decide) rfl (fun ls hl => ?_)
      exact w135 k37 hk37 4096 v1 v2 v3 v4 v5 v6 t0 0 ((-7)) u _ _ _ (lv_sub hl [3, 4, 5, 6, 7, 8, 9, 2, 1, 0] rfl) hI h
    · rw [if_neg hc14] at h
      refine lv_aload_n hx hb d_M_lowQuantifier_103 rfl (lv_at hl 1 rfl) ?_
      refine lv_iload hx hb d_M_lowQuantifier_104 (lv_at hl 7 rfl) ?_
      refine lv_iload_n hx hb d_M_lowQuantifier_106 rfl (lv_at hl 4 rfl) ?_
      obtain ⟨r15, u16, hc, h⟩ := ob_e h
      refine g_callV (As := [.int v6, .int v3]) (rest := []) (w' := m_W ad cA u16) (o := some (.int r15)) ⟨hx, hb, hml, hown, hts⟩ (c_M_rest l D ad cA hc) (cwV 2 hts gq_M_133 rfl rfl rfl (by decide +kernel) ⟨Nat.le_of_ble_eq_true rfl, Nat.le_of_ble_eq_true rfl⟩) hK hI hA 0 5 rfl rfl rfl hl.1 rfl (Nat.le_of_ble_eq_true rfl) d_M_lowQuantifier_107 ⟨Nat.zero_le _, Nat.zero_le _⟩ rfl (fun H locs hI => ?_)
      refine lv_ineg hx hb d_M_lowQuantifier_110 ?_
      refine lv_aload_n hx hb d_M_lowQuantifier_111 rfl (lv_at hl 1 rfl) ?_
      refine g_get (v := .ref (ad 5)) hx hb hts in_M hown hK hI 0 rfl rfl 12 (by decide) (hts _ wd_404) rfl d_M_lowQuantifier_112 ?_
      refine lv_iconst (v := 4) hx hb d_M_lowQuantifier_115 (by decide) ?_
      refine lv_iload hx hb d_M_lowQuantifier_116 (lv_at hl 7 rfl) ?_
      refine lv_imul hx hb d_M_lowQuantifier_118 ?_
      refine lv_iload_n hx hb d_M_lowQuantifier_119 rfl (lv_at hl 4 rfl) ?_
      refine lv_iadd hx hb d_M_lowQuantifier_120 ?_
      obtain ⟨hg, h⟩ := gd_e h
      refine g_iald hx hb hK hI 5 4 rfl rfl hg d_M_lowQuantifier_121 ?_
      obtain ⟨r17, u18, hc, h⟩ := ob_e h
      refine g_callS (As := [.int (-r15), .int (m_su u16 ((4 * v6) + v3).toNatClampNeg)]) (rest := []) (w' := m_W ad cA u18) (o := some (.int r17)) ⟨hx, hb, hml, hown, hts⟩ (c_M_floor l D ad cA hc) (va_cwS 2 hts gq_M_147 rfl rfl rfl (by decide +kernel) ⟨Nat.le_of_ble_eq_true rfl, Nat.le_of_ble_eq_true rfl⟩) hK hI hA rfl hl.1 rfl (Nat.le_of_ble_eq_true rfl) d_M_lowQuantifier_122 ⟨Nat.zero_le _, Nat.zero_le _⟩ rfl (fun H locs hI => ?_)
      refine lv_goto (tgt := 129) hx hb d_M_lowQuantifier_125 rfl ?_
      refine lv_istore (lv' := [(8, .int r17), (7, .int t0), (0, .ref (ad 0)), (1, .int v1), (2, .int v2), (3, .int v3), (4, .int v4), (5, .int v5), (6, .int v6)]) hx hb d_M_lowQuantifier_129 hl (by decide) rfl (fun ls hl => ?_)
      refine lv_bipush (v := (-7)) hx hb d_M_lowQuantifier_131 (by decide) ?_
      refine lv_istore (lv' := [(9, .int ((-7))), (8, .int r17), (7, .int t0), (0, .ref (ad 0)), (1, .int v1), (2, .int v2), (3, .int v3), (4, .int v4), (5, .int v5), (6, .int v6)]) hx hb d_M_lowQuantifier_133 hl (by decide) rfl (fun ls hl => ?_)
      exact w135 k37 hk37 4096 v1 v2 v3 v4 v5 v6 t0 r17 ((-7)) u18 _ _ _ (lv_sub hl [3, 4, 5, 6, 7, 8, 9, 2, 1, 0] rfl) hI h
  have w197 : ∀ (v2 : Int32) (v3 : Int32) (v4 : Int32) (v5 : Int32) (u : MS) (H : Heap) (locs : List Loc) (ls : Array Slot), lv_has ls 10 [(0, .ref (ad 0)), (2, .int v2), (3, .int v3), (4, .int v4), (5, .int v5)] → g_I D vwCl A s.heap H locs (m_W ad cA u) → f_M_lowQuantifier_J197 v2 v3 v4 v5 u = some (r0, u0) → W p l e { frames := 3, cells := 0, slots := 0, locals := 71 } s m ([.ref (ad 0), .int a1] : List Value).toArray below meth c H locs 0 0 (MQ below (g_Q D vwCl (m_T cA) (m_W ad cA u0) A (some (.int r0))) ([.ref (ad 0), .int a1] : List Value).toArray s 0 0 A) (F0 m 197 ls []) := by
    intro  v2 v3 v4 v5 u H locs ls hl hI h
    dsimp only [f_M_lowQuantifier_J197] at h
    refine lv_aload_n hx hb d_M_lowQuantifier_197 rfl (lv_at hl 0 rfl) ?_
    refine g_get (v := .ref (ad 13)) hx hb hts in_M hown hK hI 0 rfl rfl 24 (by decide) (hts _ wd_416) rfl d_M_lowQuantifier_198 ?_
    refine lv_iload_n hx hb d_M_lowQuantifier_201 rfl (lv_at hl 2 rfl) ?_
    refine lv_iload hx hb d_M_lowQuantifier_202 (lv_at hl 3 rfl) ?_
    obtain ⟨hg, h⟩ := gd_e h
    obtain ⟨u12, e_u12, h⟩ := lt_e h
    refine g_iast (w' := m_W ad cA u12) hx hb hK hI 13 12 rfl rfl hg d_M_lowQuantifier_204 (by subst e_u12; rfl) (fun H locs hI => ?_)
    refine lv_iload hx hb d_M_lowQuantifier_205 (lv_at hl 4 rfl) ?_
    refine lv_iload_n hx hb d_M_lowQuantifier_207 rfl (lv_at hl 1 rfl) ?_
    refine lv_icmp_ne (tgt := 215) hx hb d_M_lowQuantifier_208 rfl (fun hc13 => ?_) (fun hc13 => ?_)
    · rw [if_neg hc13] at h
      refine lv_iconst (v := 0) hx hb d_M_lowQuantifier_215 (by decide) ?_
      exact g_zret (Wd := m_W ad cA) hx hb hr hlk hK hI h d_M_lowQuantifier_216
    · rw [if_pos hc13] at h
      refine lv_iconst (v := 1) hx hb d_M_lowQuantifier_211 (by decide) ?_
      refine lv_goto (tgt := 216) hx hb d_M_lowQuantifier_212 rfl ?_
      exact g_zret (Wd := m_W ad cA) hx hb hr hlk hK hI h d_M_lowQuantifier_216
  have w37 : ∀ (n : Nat) (v1 : Int32) (v2 : Int32) (v3 : Int32) (v4 : Int32) (v5 : Int32) (v6 : Int32) (u : MS) (H : Heap) (locs : List Loc) (ls : Array Slot), lv_has ls 10 [(0, .ref (ad 0)), (1, .int v1), (2, .int v2), (3, .int v3), (4, .int v4), (5, .int v5), (6, .int v6)] → g_I D vwCl A s.heap H locs (m_W ad cA u) → f_M_lowQuantifier_L37 n v1 v2 v3 v4 v5 v6 u = some (r0, u0) → W p l e { frames := 3, cells := 0, slots := 0, locals := 71 } s m ([.ref (ad 0), .int a1] : List Value).toArray below meth c H locs 0 0 (MQ below (g_Q D vwCl (m_T cA) (m_W ad cA u0) A (some (.int r0))) ([.ref (ad 0), .int a1] : List Value).toArray s 0 0 A) (F0 m 37 ls []) := by
    intro  n
    induction n with
    | zero => intro v1 v2 v3 v4 v5 v6 u H locs ls hl hI h; cases h
    | succ n ih =>
      intro v1 v2 v3 v4 v5 v6 u H locs ls hl hI h
      dsimp only [f_M_lowQuantifier_L37] at h
      refine lv_iload hx hb d_M_lowQuantifier_37 (lv_at hl 6 rfl) ?_
      refine lv_aload_n hx hb d_M_lowQuantifier_39 rfl (lv_at hl 0 rfl) ?_
      refine g_get (v := .int (m_cl u)) hx hb hts in_M hown hK hI 0 rfl rfl 5 (by decide) (hts _ wd_397) rfl d_M_lowQuantifier_40 ?_
      refine lv_icmp_ge (tgt := 197) hx hb d_M_lowQuantifier_43 rfl (fun hc4 => ?_) (fun hc4 => ?_)
      · rw [if_pos hc4] at h
        exact w197 v2 v3 v4 v5 u _ _ _ (lv_sub hl [0, 2, 3, 4, 5] rfl) hI h
      · rw [if_neg hc4] at h
        refine lv_iload hx hb d_M_lowQuantifier_46 (lv_at hl 5 rfl) ?_
        refine lv_if_ne (tgt := 197) hx hb d_M_lowQuantifier_48 rfl (fun hc5 => ?_) (fun hc5 => ?_)
        · rw [if_neg hc5] at h
          exact w197 v2 v3 v4 v5 u _ _ _ (lv_sub hl [0, 2, 3, 4, 5] rfl) hI h
        · rw [if_pos hc5] at h
          refine lv_iload hx hb d_M_lowQuantifier_51 (lv_at hl 6 rfl) ?_
          refine lv_iload_n hx hb d_M_lowQuantifier_53 rfl (lv_at hl 1 rfl) ?_
          refine lv_icmp_le (tgt := 95) hx hb d_M_lowQuantifier_54 rfl (fun hc6 => ?_) (fun hc6 => ?_)
          · rw [if_pos hc6] at h
            refine lv_iconst (v := 0) hx hb d_M_lowQuantifier_95 (by decide) ?_
            exact w96 (f_M_lowQuantifier_L37 n) ih v1 v2 v3 v4 v5 v6 0 u _ _ _ (lv_sub hl [0, 1, 2, 3, 4, 5, 6] rfl) hI h
          · rw [if_neg hc6] at h
            refine lv_aload_n hx hb d_M_lowQuantifier_57 rfl (lv_at hl 0 rfl) ?_
            refine g_get (v := .ref (ad 3)) hx hb hts in_M hown hK hI 0 rfl rfl 10 (by decide) (hts _ wd_402) rfl d_M_lowQuantifier_58 ?_
            refine lv_iload hx hb d_M_lowQuantifier_61 (lv_at hl 6 rfl) ?_
            obtain ⟨hg, h⟩ := gd_e h
            refine g_iald hx hb hK hI 3 2 rfl rfl hg d_M_lowQuantifier_63 ?_
            refine lv_iload_n hx hb d_M_lowQuantifier_64 rfl (lv_at hl 1 rfl) ?_
            refine lv_icmp_ne (tgt := 95) hx hb d_M_lowQuantifier_65 rfl (fun hc7 => ?_) (fun hc7 => ?_)
            · rw [if_neg hc7] at h
              refine lv_iconst (v := 0) hx hb d_M_lowQuantifier_95 (by decide) ?_
              exact w96 (f_M_lowQuantifier_L37 n) ih v1 v2 v3 v4 v5 v6 0 u _ _ _ (lv_sub hl [0, 1, 2, 3, 4, 5, 6] rfl) hI h
            · rw [if_pos hc7] at h
              refine lv_aload_n hx hb d_M_lowQuantifier_68 rfl (lv_at hl 0 rfl) ?_
              refine lv_iload hx hb d_M_lowQuantifier_69 (lv_at hl 6 rfl) ?_
              obtain ⟨r8, u9, hc, h⟩ := ob_e h
              refine g_callV (As := [.int v6]) (rest := []) (w' := m_W ad cA u9) (o := some (.int r8)) ⟨hx, hb, hml, hown, hts⟩ (c_M_isBracket l D ad cA hc) (cwV 1 hts gq_M_137 rfl rfl rfl (by decide +kernel) ⟨Nat.le_of_ble_eq_true rfl, Nat.le_of_ble_eq_true rfl⟩) hK hI hA 0 5 rfl rfl rfl hl.1 rfl (Nat.le_of_ble_eq_true rfl) d_M_lowQuantifier_71 ⟨Nat.zero_le _, Nat.zero_le _⟩ rfl (fun H locs hI => ?_)
              refine lv_if_eq (tgt := 95) hx hb d_M_lowQuantifier_74 rfl (fun hc10 => ?_) (fun hc10 => ?_)
              · rw [if_pos hc10] at h
                refine lv_iconst (v := 0) hx hb d_M_lowQuantifier_95 (by decide) ?_
                exact w96 (f_M_lowQuantifier_L37 n) ih v1 v2 v3 v4 v5 v6 0 u9 _ _ _ (lv_sub hl [0, 1, 2, 3, 4, 5, 6] rfl) hI h
              · rw [if_neg hc10] at h
                refine lv_aload_n hx hb d_M_lowQuantifier_77 rfl (lv_at hl 0 rfl) ?_
                refine g_get (v := .ref (ad 5)) hx hb hts in_M hown hK hI 0 rfl rfl 12 (by decide) (hts _ wd_404) rfl d_M_lowQuantifier_78 ?_
                refine lv_iconst (v := 4) hx hb d_M_lowQuantifier_81 (by decide) ?_
                refine lv_iload hx hb d_M_lowQuantifier_82 (lv_at hl 6 rfl) ?_
                refine lv_imul hx hb d_M_lowQuantifier_84 ?_
                refine lv_iload_n hx hb d_M_lowQuantifier_85 rfl (lv_at hl 3 rfl) ?_
                refine lv_iadd hx hb d_M_lowQuantifier_86 ?_
                obtain ⟨hg, h⟩ := gd_e h
                refine g_iald hx hb hK hI 5 4 rfl rfl hg d_M_lowQuantifier_87 ?_
                refine lv_if_eq (tgt := 95) hx hb d_M_lowQuantifier_88 rfl (fun hc11 => ?_) (fun hc11 => ?_)
                · rw [if_pos hc11] at h
                  refine lv_iconst (v := 0) hx hb d_M_lowQuantifier_95 (by decide) ?_
                  exact w96 (f_M_lowQuantifier_L37 n) ih v1 v2 v3 v4 v5 v6 0 u9 _ _ _ (lv_sub hl [0, 1, 2, 3, 4, 5, 6] rfl) hI h
                · rw [if_neg hc11] at h
                  refine lv_iconst (v := 1) hx hb d_M_lowQuantifier_91 (by decide) ?_
                  refine lv_goto (tgt := 96) hx hb d_M_lowQuantifier_92 rfl ?_
                  exact w96 (f_M_lowQuantifier_L37 n) ih v1 v2 v3 v4 v5 v6 1 u9 _ _ _ (lv_sub hl [0, 1, 2, 3, 4, 5, 6] rfl) hI h
  have w15 : ∀ (v1 : Int32) (t0 : Int32) (u : MS) (H : Heap) (locs : List Loc) (ls : Array Slot), lv_has ls 10 [(0, .ref (ad 0)), (1, .int v1)] → g_I D vwCl A s.heap H locs (m_W ad cA u) → f_M_lowQuantifier_J15 v1 t0 u = some (r0, u0) → W p l e { frames := 3, cells := 0, slots := 0, locals := 71 } s m ([.ref (ad 0), .int a1] : List Value).toArray below meth c H locs 0 0 (MQ below (g_Q D vwCl (m_T cA) (m_W ad cA u0) A (some (.int r0))) ([.ref (ad 0), .int a1] : List Value).toArray s 0 0 A) (F0 m 15 ls [.int t0]) := by
    intro  v1 t0 u H locs ls hl hI h
    dsimp only [f_M_lowQuantifier_J15] at h
    refine lv_istore_n (lv' := [(2, .int t0), (0, .ref (ad 0)), (1, .int v1)]) hx hb d_M_lowQuantifier_15 rfl hl (by decide) rfl (fun ls hl => ?_)
    refine lv_aload_n hx hb d_M_lowQuantifier_16 rfl (lv_at hl 1 rfl) ?_
    refine g_get (v := .ref (ad 4)) hx hb hts in_M hown hK hI 0 rfl rfl 11 (by decide) (hts _ wd_403) rfl d_M_lowQuantifier_17 ?_
    refine lv_iload_n hx hb d_M_lowQuantifier_20 rfl (lv_at hl 2 rfl) ?_
    obtain ⟨hg, h⟩ := gd_e h
    refine g_iald hx hb hK hI 4 3 rfl rfl hg d_M_lowQuantifier_21 ?_
    obtain ⟨x2, e_x2, h⟩ := lt_e h
    refine lv_istore_n (lv' := [(3, .int x2), (2, .int t0), (0, .ref (ad 0)), (1, .int v1)]) hx hb d_M_lowQuantifier_22 rfl hl (by decide) (by subst e_x2; rfl) (fun ls hl => ?_)
    refine lv_aload_n hx hb d_M_lowQuantifier_23 rfl (lv_at hl 2 rfl) ?_
    refine g_get (v := .ref (ad 13)) hx hb hts in_M hown hK hI 0 rfl rfl 24 (by decide) (hts _ wd_416) rfl d_M_lowQuantifier_24 ?_
    refine lv_iload_n hx hb d_M_lowQuantifier_27 rfl (lv_at hl 0 rfl) ?_
    obtain ⟨hg, h⟩ := gd_e h
    refine g_iald hx hb hK hI 13 12 rfl rfl hg d_M_lowQuantifier_28 ?_
    obtain ⟨x3, e_x3, h⟩ := lt_e h
    refine lv_istore (lv' := [(4, .int x3), (3, .int x2), (2, .int t0), (0, .ref (ad 0)), (1, .int v1)]) hx hb d_M_lowQuantifier_29 hl (by decide) (by subst e_x3; rfl) (fun ls hl => ?_)
    refine lv_iconst (v := 0) hx hb d_M_lowQuantifier_31 (by decide) ?_
    refine lv_istore (lv' := [(5, .int 0), (4, .int x3), (3, .int x2), (2, .int t0), (0, .ref (ad 0)), (1, .int v1)]) hx hb d_M_lowQuantifier_32 hl (by decide) rfl (fun ls hl => ?_)
    refine lv_iload_n hx hb d_M_lowQuantifier_34 rfl (lv_at hl 5 rfl) ?_
    refine lv_istore (lv' := [(6, .int v1), (5, .int 0), (4, .int x3), (3, .int x2), (2, .int t0), (0, .ref (ad 0)), (1, .int v1)]) hx hb d_M_lowQuantifier_35 hl (by decide) rfl (fun ls hl => ?_)
    exact w37 4096 v1 t0 x2 x3 0 v1 u _ _ _ (lv_sub hl [5, 6, 4, 3, 2, 1, 0] rfl) hI h
  dsimp only [f_M_lowQuantifier] at h
  refine lv_aload_n hx hb d_M_lowQuantifier_0 rfl (lv_at hl 0 rfl) ?_
  refine g_get (v := .ref (ad 2)) hx hb hts in_M hown hK hI 0 rfl rfl 9 (by decide) (hts _ wd_401) rfl d_M_lowQuantifier_1 ?_
  refine lv_iload_n hx hb d_M_lowQuantifier_4 rfl (lv_at hl 1 rfl) ?_
  obtain ⟨hg, h⟩ := gd_e h
  refine g_iald hx hb hK hI 2 1 rfl rfl hg d_M_lowQuantifier_5 ?_
  refine lv_iconst (v := 4) hx hb d_M_lowQuantifier_6 (by decide) ?_
  refine lv_icmp_ne (tgt := 14) hx hb d_M_lowQuantifier_7 rfl (fun hc1 => ?_) (fun hc1 => ?_)
  · rw [if_neg hc1] at h
    refine lv_iconst (v := 0) hx hb d_M_lowQuantifier_14 (by decide) ?_
    exact w15 a1 0 u _ _ _ (lv_sub hl [0, 1] rfl) hI h
  · rw [if_pos hc1] at h
    refine lv_iconst (v := 1) hx hb d_M_lowQuantifier_10 (by decide) ?_
    refine lv_goto (tgt := 15) hx hb d_M_lowQuantifier_11 rfl ?_
    exact w15 a1 1 u _ _ _ (lv_sub hl [0, 1] rfl) hI h
