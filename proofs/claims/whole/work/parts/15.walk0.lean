def f_T_hasRoomFor (a1 : Int32) (u : KS) : Option (Int32 × KS) := if 120 < ((k_ln u) + a1) then (gd (bz 0) (some (0, u))) else (gd (bz 1) (some (1, u)))
set_option maxRecDepth 100000 in
set_option maxHeartbeats 4000000 in
theorem c_T_hasRoomFor (l : Launch) (D : va_G) (ad : Nat → Nat) (cA : Nat → ClassId) {a1 : Int32} {u u0 : KS} {r0 : Int32} (h : f_T_hasRoomFor a1 u = some (r0, u0)) : g_M l y_T_hasRoomFor w_T_hasRoomFor { frames := 0, cells := 0, slots := 0, locals := 0 } D vwCl (k_T cA) (k_W ad cA u) [.ref (ad 1), .int a1] (some (.int r0)) (k_W ad cA u0) := by
  refine g_ofW (cc := c0_T_hasRoomFor) (maxL := 2) (ret := (some .boolean)) (by decide) rfl (Nat.le_of_ble_eq_true rfl) ?_
  intro p e s m below meth c A ls hx hb hr hml hown hts hlk hK hA hI hl
  have hts : ∀ w ∈ gW, w.before ([.ref (ad 1), .int a1] : List Value).toArray s = true := fun w h => hts w (List.mem_cons_of_mem _ h)
  have hown : s.vm.findClass R_T = some m.cls := hown
  have hl : lv_has ls 2 [(0, .ref (ad 1)), (1, .int a1)] := hl
  dsimp only [f_T_hasRoomFor] at h
  refine lv_aload_n hx hb d_T_hasRoomFor_0 rfl (lv_at hl 0 rfl) ?_
  refine g_get (v := .int (k_ln u)) hx hb hts in_T hown hK hI 1 rfl rfl 3 (by decide) (hts _ wd_25) rfl d_T_hasRoomFor_1 ?_
  refine lv_iload_n hx hb d_T_hasRoomFor_4 rfl (lv_at hl 1 rfl) ?_
  refine lv_iadd hx hb d_T_hasRoomFor_5 ?_
  refine lv_bipush (v := 120) hx hb d_T_hasRoomFor_6 (by decide) ?_
  refine lv_icmp_gt (tgt := 15) hx hb d_T_hasRoomFor_8 rfl (fun hc1 => ?_) (fun hc1 => ?_)
  · rw [if_pos hc1] at h
    refine lv_iconst (v := 0) hx hb d_T_hasRoomFor_15 (by decide) ?_
    exact g_zret (Wd := k_W ad cA) hx hb hr hlk hK hI h d_T_hasRoomFor_16
  · rw [if_neg hc1] at h
    refine lv_iconst (v := 1) hx hb d_T_hasRoomFor_11 (by decide) ?_
    refine lv_goto (tgt := 16) hx hb d_T_hasRoomFor_12 rfl ?_
    exact g_zret (Wd := k_W ad cA) hx hb hr hlk hK hI h d_T_hasRoomFor_16
def f_L_byteOf (a0 : Int32) (a1 : Int32) (u : KS) : Option (Int32 × KS) := some (((a0.toUInt32 >>> ((8 * a1).toUInt32 &&& Int32.toUInt32 31)).toInt32) &&& 255, u)
set_option maxRecDepth 100000 in
set_option maxHeartbeats 4000000 in
theorem c_L_byteOf (l : Launch) (D : va_G) (ad : Nat → Nat) (cA : Nat → ClassId) {a0 : Int32} {a1 : Int32} {u u0 : KS} {r0 : Int32} (h : f_L_byteOf a0 a1 u = some (r0, u0)) : g_M l y_L_byteOf w_L_byteOf { frames := 0, cells := 0, slots := 0, locals := 0 } D vwCl (k_T cA) (k_W ad cA u) [.int a0, .int a1] (some (.int r0)) (k_W ad cA u0) := by
  refine g_ofW (cc := c0_L_byteOf) (maxL := 2) (ret := (some .int)) (by decide) rfl (Nat.le_of_ble_eq_true rfl) ?_
  intro p e s m below meth c A ls hx hb hr hml hown hts hlk hK hA hI hl
  have hts : ∀ w ∈ gW, w.before ([.int a0, .int a1] : List Value).toArray s = true := fun w h => hts w (List.mem_cons_of_mem _ h)
  have hown : s.vm.findClass R_L = some m.cls := hown
  have hl : lv_has ls 2 [(0, .int a0), (1, .int a1)] := hl
  dsimp only [f_L_byteOf] at h
  refine lv_iload_n hx hb d_L_byteOf_0 rfl (lv_at hl 0 rfl) ?_
  refine lv_bipush (v := 8) hx hb d_L_byteOf_1 (by decide) ?_
  refine lv_iload_n hx hb d_L_byteOf_3 rfl (lv_at hl 1 rfl) ?_
  refine lv_imul hx hb d_L_byteOf_4 ?_
  refine lv_iushr hx hb d_L_byteOf_5 rfl ?_
  refine lv_sipush (v := 255) hx hb d_L_byteOf_6 (by decide) ?_
  refine lv_iand hx hb d_L_byteOf_9 ?_
  exact g_iret (Wd := k_W ad cA) hx hb hr hlk hK hI h d_L_byteOf_10
def f_T_allows (a0 : Int32) (u : KS) : Option (Int32 × KS) := if a0 < 32 then (gd (bz 0) (some (0, u))) else (if 126 < a0 then (gd (bz 0) (some (0, u))) else (gd (bz 1) (some (1, u))))
set_option maxRecDepth 100000 in
set_option maxHeartbeats 4000000 in
theorem c_T_allows (l : Launch) (D : va_G) (ad : Nat → Nat) (cA : Nat → ClassId) {a0 : Int32} {u u0 : KS} {r0 : Int32} (h : f_T_allows a0 u = some (r0, u0)) : g_M l y_T_allows w_T_allows { frames := 0, cells := 0, slots := 0, locals := 0 } D vwCl (k_T cA) (k_W ad cA u) [.int a0] (some (.int r0)) (k_W ad cA u0) := by
  refine g_ofW (cc := c0_T_allows) (maxL := 1) (ret := (some .boolean)) (by decide) rfl (Nat.le_of_ble_eq_true rfl) ?_
  intro p e s m below meth c A ls hx hb hr hml hown hts hlk hK hA hI hl
  have hts : ∀ w ∈ gW, w.before ([.int a0] : List Value).toArray s = true := fun w h => hts w (List.mem_cons_of_mem _ h)
  have hown : s.vm.findClass R_T = some m.cls := hown
  have hl : lv_has ls 1 [(0, .int a0)] := hl
  dsimp only [f_T_allows] at h
  refine lv_iload_n hx hb d_T_allows_0 rfl (lv_at hl 0 rfl) ?_
  refine lv_bipush (v := 32) hx hb d_T_allows_1 (by decide) ?_
  refine lv_icmp_lt (tgt := 16) hx hb d_T_allows_3 rfl (fun hc1 => ?_) (fun hc1 => ?_)
  · rw [if_pos hc1] at h
    refine lv_iconst (v := 0) hx hb d_T_allows_16 (by decide) ?_
    exact g_zret (Wd := k_W ad cA) hx hb hr hlk hK hI h d_T_allows_17
  · rw [if_neg hc1] at h
    refine lv_iload_n hx hb d_T_allows_6 rfl (lv_at hl 0 rfl) ?_
    refine lv_bipush (v := 126) hx hb d_T_allows_7 (by decide) ?_
    refine lv_icmp_gt (tgt := 16) hx hb d_T_allows_9 rfl (fun hc2 => ?_) (fun hc2 => ?_)
    · rw [if_pos hc2] at h
      refine lv_iconst (v := 0) hx hb d_T_allows_16 (by decide) ?_
      exact g_zret (Wd := k_W ad cA) hx hb hr hlk hK hI h d_T_allows_17
    · rw [if_neg hc2] at h
      refine lv_iconst (v := 1) hx hb d_T_allows_12 (by decide) ?_
      refine lv_goto (tgt := 17) hx hb d_T_allows_13 rfl ?_
      exact g_zret (Wd := k_W ad cA) hx hb hr hlk hK hI h d_T_allows_17
def f_T_append_J49 (u : KS) : Option (Unit × KS) := lt_ (k_p_ln ((k_ln u) + 1) u) fun u6 => some ((), u6)
def f_T_append (a1 : Int32) (u : KS) : Option (Unit × KS) := if (k_ln u) < 120 then (if a1 = 32 then f_T_append_J49 u else (gd (inb (k_sz u) 120) (lt_ (k_p_mk (upd (k_mk u) (k_sz u).toNatClampNeg a1) u) fun u3 => gd (inb (k_sz u3) 120) (lt_ (k_p_pl (upd (k_pl u3) (k_sz u3).toNatClampNeg (k_ln u3)) u3) fun u4 => lt_ (k_p_sz ((k_sz u4) + 1) u4) fun u5 => f_T_append_J49 u5)))) else some ((), u)
set_option maxRecDepth 100000 in
set_option maxHeartbeats 4000000 in
theorem c_T_append (l : Launch) (D : va_G) (ad : Nat → Nat) (cA : Nat → ClassId) {a1 : Int32} {u u0 : KS} {r0 : Unit} (h : f_T_append a1 u = some (r0, u0)) : g_M l y_T_append w_T_append { frames := 0, cells := 0, slots := 0, locals := 0 } D vwCl (k_T cA) (k_W ad cA u) [.ref (ad 1), .int a1] none (k_W ad cA u0) := by
  refine g_ofW (cc := c0_T_append) (maxL := 2) (ret := none) (by decide) rfl (Nat.le_of_ble_eq_true rfl) ?_
  intro p e s m below meth c A ls hx hb hr hml hown hts hlk hK hA hI hl
  have hts : ∀ w ∈ gW, w.before ([.ref (ad 1), .int a1] : List Value).toArray s = true := fun w h => hts w (List.mem_cons_of_mem _ h)
  have hown : s.vm.findClass R_T = some m.cls := hown
  have hl : lv_has ls 2 [(0, .ref (ad 1)), (1, .int a1)] := hl
  have w49 : ∀ (u : KS) (H : Heap) (locs : List Loc) (ls : Array Slot), lv_has ls 2 [(0, .ref (ad 1))] → g_I D vwCl A s.heap H locs (k_W ad cA u) → f_T_append_J49 u = some (r0, u0) → W p l e { frames := 0, cells := 0, slots := 0, locals := 0 } s m ([.ref (ad 1), .int a1] : List Value).toArray below meth c H locs 0 0 (MQ below (g_Q D vwCl (k_T cA) (k_W ad cA u0) A none) ([.ref (ad 1), .int a1] : List Value).toArray s 0 0 A) (F0 m 49 ls []) := by
    intro  u H locs ls hl hI h
    dsimp only [f_T_append_J49] at h
    refine lv_aload_n hx hb d_T_append_49 rfl (lv_at hl 0 rfl) ?_
    refine lv_dup hx hb d_T_append_50 rfl ?_
    refine g_get (v := .int (k_ln u)) hx hb hts in_T hown hK hI 1 rfl rfl 3 (by decide) (hts _ wd_25) rfl d_T_append_51 ?_
    refine lv_iconst (v := 1) hx hb d_T_append_54 (by decide) ?_
    refine lv_iadd hx hb d_T_append_55 ?_
    obtain ⟨u6, e_u6, h⟩ := lt_e h
    refine g_put (t := .int) (w' := k_W ad cA u6) hx hb hts in_T ty_T tyok_T nm_T hown hK hI 1 rfl rfl 3 (by decide) (hts _ wd_25) rfl (by decide +kernel) rfl rfl (Nat.le_of_ble_eq_true rfl) d_T_append_56 (by subst e_u6; rfl) (fun H locs hI => ?_)
    exact g_vret (Wd := k_W ad cA) hx hb hr hlk hK hI h d_T_append_59
  dsimp only [f_T_append] at h
  refine lv_aload_n hx hb d_T_append_0 rfl (lv_at hl 0 rfl) ?_
  refine g_get (v := .int (k_ln u)) hx hb hts in_T hown hK hI 1 rfl rfl 3 (by decide) (hts _ wd_25) rfl d_T_append_1 ?_
  refine lv_bipush (v := 120) hx hb d_T_append_4 (by decide) ?_
  refine lv_icmp_lt (tgt := 10) hx hb d_T_append_6 rfl (fun hc1 => ?_) (fun hc1 => ?_)
  · rw [if_pos hc1] at h
    refine lv_iload_n hx hb d_T_append_10 rfl (lv_at hl 1 rfl) ?_
    refine lv_bipush (v := 32) hx hb d_T_append_11 (by decide) ?_
    refine lv_icmp_eq (tgt := 49) hx hb d_T_append_13 rfl (fun hc2 => ?_) (fun hc2 => ?_)
    · rw [if_pos hc2] at h
      exact w49 u _ _ _ (lv_sub hl [0] rfl) hI h
    · rw [if_neg hc2] at h
      refine lv_aload_n hx hb d_T_append_16 rfl (lv_at hl 0 rfl) ?_
      refine g_get (v := .ref (ad 2)) hx hb hts in_T hown hK hI 1 rfl rfl 0 (by decide) (hts _ wd_22) rfl d_T_append_17 ?_
      refine lv_aload_n hx hb d_T_append_20 rfl (lv_at hl 0 rfl) ?_
      refine g_get (v := .int (k_sz u)) hx hb hts in_T hown hK hI 1 rfl rfl 2 (by decide) (hts _ wd_24) rfl d_T_append_21 ?_
      refine lv_iload_n hx hb d_T_append_24 rfl (lv_at hl 1 rfl) ?_
      obtain ⟨hg, h⟩ := gd_e h
      obtain ⟨u3, e_u3, h⟩ := lt_e h
      refine g_iast (w' := k_W ad cA u3) hx hb hK hI 2 0 rfl rfl hg d_T_append_25 (by subst e_u3; rfl) (fun H locs hI => ?_)
      refine lv_aload_n hx hb d_T_append_26 rfl (lv_at hl 0 rfl) ?_
      refine g_get (v := .ref (ad 3)) hx hb hts in_T hown hK hI 1 rfl rfl 1 (by decide) (hts _ wd_23) rfl d_T_append_27 ?_
      refine lv_aload_n hx hb d_T_append_30 rfl (lv_at hl 0 rfl) ?_
      refine g_get (v := .int (k_sz u3)) hx hb hts in_T hown hK hI 1 rfl rfl 2 (by decide) (hts _ wd_24) rfl d_T_append_31 ?_
      refine lv_aload_n hx hb d_T_append_34 rfl (lv_at hl 0 rfl) ?_
      refine g_get (v := .int (k_ln u3)) hx hb hts in_T hown hK hI 1 rfl rfl 3 (by decide) (hts _ wd_25) rfl d_T_append_35 ?_
      obtain ⟨hg, h⟩ := gd_e h
      obtain ⟨u4, e_u4, h⟩ := lt_e h
      refine g_iast (w' := k_W ad cA u4) hx hb hK hI 3 1 rfl rfl hg d_T_append_38 (by subst e_u4; rfl) (fun H locs hI => ?_)
      refine lv_aload_n hx hb d_T_append_39 rfl (lv_at hl 0 rfl) ?_
      refine lv_dup hx hb d_T_append_40 rfl ?_
      refine g_get (v := .int (k_sz u4)) hx hb hts in_T hown hK hI 1 rfl rfl 2 (by decide) (hts _ wd_24) rfl d_T_append_41 ?_
      refine lv_iconst (v := 1) hx hb d_T_append_44 (by decide) ?_
      refine lv_iadd hx hb d_T_append_45 ?_
      obtain ⟨u5, e_u5, h⟩ := lt_e h
      refine g_put (t := .int) (w' := k_W ad cA u5) hx hb hts in_T ty_T tyok_T nm_T hown hK hI 1 rfl rfl 2 (by decide) (hts _ wd_24) rfl (by decide +kernel) rfl rfl (Nat.le_of_ble_eq_true rfl) d_T_append_46 (by subst e_u5; rfl) (fun H locs hI => ?_)
      exact w49 u5 _ _ _ (lv_sub hl [0] rfl) hI h
  · rw [if_neg hc1] at h
    exact g_vret (Wd := k_W ad cA) hx hb hr hlk hK hI h d_T_append_9
def f_L_type_L53 (n : Nat) : Int32 → Int32 → KS → Option (Int32 × KS) := match n with
  | 0 => fun _ _ _ => none
  | n + 1 => fun v1 v3 u => if v3 < 0 then (gd (bz 1) (some (1, u))) else (ob (f_L_byteOf v1 v3 u) fun r15 u16 => ob (f_T_append r15 u16) fun r17 u18 => lt_ (v3 + (-1)) fun x19 => f_L_type_L53 n v1 x19 u18)
def f_L_type_L25 (n : Nat) : Int32 → Int32 → Int32 → KS → Option (Int32 × KS) := match n with
  | 0 => fun _ _ _ _ => none
  | n + 1 => fun v1 v2 v3 u => if v2 ≤ v3 then (lt_ (v2 - 1) fun x7 => f_L_type_L53 4096 v1 x7 u) else (ob (f_L_byteOf v1 v3 u) fun r8 u9 => ob (f_T_allows r8 u9) fun r10 u11 => if r10 = 0 then (gd (bz 0) (some (0, u11))) else (lt_ (v3 + 1) fun x13 => f_L_type_L25 n v1 v2 x13 u11))
def f_L_type (a1 : Int32) (a2 : Int32) (u : KS) : Option (Int32 × KS) := if a2 < 1 then (gd (bz 0) (some (0, u))) else (if 4 < a2 then (gd (bz 0) (some (0, u))) else (ob (f_T_hasRoomFor a2 u) fun r3 u4 => if r3 = 0 then (gd (bz 0) (some (0, u4))) else f_L_type_L25 4096 a1 a2 0 u4))
set_option maxRecDepth 100000 in
set_option maxHeartbeats 4000000 in
theorem c_L_type (l : Launch) (D : va_G) (ad : Nat → Nat) (cA : Nat → ClassId) {a1 : Int32} {a2 : Int32} {u u0 : KS} {r0 : Int32} (h : f_L_type a1 a2 u = some (r0, u0)) : g_M l y_L_type w_L_type { frames := 1, cells := 0, slots := 0, locals := 21 } D vwCl (k_T cA) (k_W ad cA u) [.ref (ad 0), .int a1, .int a2] (some (.int r0)) (k_W ad cA u0) := by
  refine g_ofW (cc := c0_L_type) (maxL := 4) (ret := (some .boolean)) (by decide) rfl (Nat.le_of_ble_eq_true rfl) ?_
  intro p e s m below meth c A ls hx hb hr hml hown hts hlk hK hA hI hl
  have hts : ∀ w ∈ gW, w.before ([.ref (ad 0), .int a1, .int a2] : List Value).toArray s = true := fun w h => hts w (List.mem_cons_of_mem _ h)
  have hown : s.vm.findClass R_L = some m.cls := hown
  have hl : lv_has ls 4 [(0, .ref (ad 0)), (1, .int a1), (2, .int a2)] := hl
  have w53 : ∀ (n : Nat) (v1 : Int32) (v3 : Int32) (u : KS) (H : Heap) (locs : List Loc) (ls : Array Slot), lv_has ls 4 [(0, .ref (ad 0)), (1, .int v1), (3, .int v3)] → g_I D vwCl A s.heap H locs (k_W ad cA u) → f_L_type_L53 n v1 v3 u = some (r0, u0) → W p l e { frames := 1, cells := 0, slots := 0, locals := 21 } s m ([.ref (ad 0), .int a1, .int a2] : List Value).toArray below meth c H locs 0 0 (MQ below (g_Q D vwCl (k_T cA) (k_W ad cA u0) A (some (.int r0))) ([.ref (ad 0), .int a1, .int a2] : List Value).toArray s 0 0 A) (F0 m 53 ls []) := by
    intro  n
    induction n with
    | zero => intro v1 v3 u H locs ls hl hI h; cases h
    | succ n ih =>
      intro v1 v3 u H locs ls hl hI h
      dsimp only [f_L_type_L53] at h
      refine lv_iload_n hx hb d_L_type_53 rfl (lv_at hl 2 rfl) ?_
      refine lv_if_lt (tgt := 75) hx hb d_L_type_54 rfl (fun hc14 => ?_) (fun hc14 => ?_)
      · rw [if_pos hc14] at h
        refine lv_iconst (v := 1) hx hb d_L_type_75 (by decide) ?_
        exact g_zret (Wd := k_W ad cA) hx hb hr hlk hK hI h d_L_type_76
      · rw [if_neg hc14] at h
        refine lv_aload_n hx hb d_L_type_57 rfl (lv_at hl 0 rfl) ?_
        refine g_get (v := .ref (ad 1)) hx hb hts in_L hown hK hI 0 rfl rfl 0 (by decide) (hts _ wd_104) rfl d_L_type_58 ?_
        refine lv_iload_n hx hb d_L_type_61 rfl (lv_at hl 1 rfl) ?_
        refine lv_iload_n hx hb d_L_type_62 rfl (lv_at hl 2 rfl) ?_
        obtain ⟨r15, u16, hc, h⟩ := ob_e h
        refine g_callS (As := [.int v1, .int v3]) (rest := [.ref (ad 1)]) (w' := k_W ad cA u16) (o := some (.int r15)) ⟨hx, hb, hml, hown, hts⟩ (c_L_byteOf l D ad cA hc) (va_cwS 2 hts gq_L_47 rfl rfl rfl (by decide +kernel) ⟨Nat.le_of_ble_eq_true rfl, Nat.le_of_ble_eq_true rfl⟩) hK hI hA rfl hl.1 rfl (Nat.le_of_ble_eq_true rfl) d_L_type_63 ⟨Nat.zero_le _, Nat.zero_le _⟩ rfl (fun H locs hI => ?_)
        obtain ⟨r17, u18, hc, h⟩ := ob_e h
        refine g_callV (As := [.int r15]) (rest := []) (w' := k_W ad cA u18) (o := none) ⟨hx, hb, hml, hown, hts⟩ (c_T_append l D ad cA hc) (cwV 1 hts gq_L_54 rfl rfl rfl (by decide +kernel) ⟨Nat.le_of_ble_eq_true rfl, Nat.le_of_ble_eq_true rfl⟩) hK hI hA 1 1 rfl rfl rfl hl.1 rfl (Nat.le_of_ble_eq_true rfl) d_L_type_66 ⟨Nat.zero_le _, Nat.zero_le _⟩ rfl (fun H locs hI => ?_)
        obtain ⟨x19, e_x19, h⟩ := lt_e h
        refine lv_iinc (v := x19) (k := 2) hx hb d_L_type_69 hl rfl (by subst e_x19; rfl) (by decide) rfl (fun ls hl => ?_)
        refine lv_goto (tgt := 53) hx hb d_L_type_72 rfl ?_
        exact ih v1 x19 u18 _ _ _ (lv_sub hl [1, 2, 0] rfl) hI h
  have w25 : ∀ (n : Nat) (v1 : Int32) (v2 : Int32) (v3 : Int32) (u : KS) (H : Heap) (locs : List Loc) (ls : Array Slot), lv_has ls 4 [(0, .ref (ad 0)), (1, .int v1), (2, .int v2), (3, .int v3)] → g_I D vwCl A s.heap H locs (k_W ad cA u) → f_L_type_L25 n v1 v2 v3 u = some (r0, u0) → W p l e { frames := 1, cells := 0, slots := 0, locals := 21 } s m ([.ref (ad 0), .int a1, .int a2] : List Value).toArray below meth c H locs 0 0 (MQ below (g_Q D vwCl (k_T cA) (k_W ad cA u0) A (some (.int r0))) ([.ref (ad 0), .int a1, .int a2] : List Value).toArray s 0 0 A) (F0 m 25 ls []) := by
    intro  n
    induction n with
    | zero => intro v1 v2 v3 u H locs ls hl hI h; cases h
    | succ n ih =>
      intro v1 v2 v3 u H locs ls hl hI h
      dsimp only [f_L_type_L25] at h
      refine lv_iload_n hx hb d_L_type_25 rfl (lv_at hl 3 rfl) ?_
      refine lv_iload_n hx hb d_L_type_26 rfl (lv_at hl 2 rfl) ?_
      refine lv_icmp_ge (tgt := 49) hx hb d_L_type_27 rfl (fun hc6 => ?_) (fun hc6 => ?_)
      · rw [if_pos hc6] at h
        refine lv_iload_n hx hb d_L_type_49 rfl (lv_at hl 2 rfl) ?_
        refine lv_iconst (v := 1) hx hb d_L_type_50 (by decide) ?_
        refine lv_isub hx hb d_L_type_51 ?_
        obtain ⟨x7, e_x7, h⟩ := lt_e h
        refine lv_istore_n (lv' := [(3, .int x7), (0, .ref (ad 0)), (1, .int v1), (2, .int v2)]) hx hb d_L_type_52 rfl hl (by decide) (by subst e_x7; rfl) (fun ls hl => ?_)
        exact w53 4096 v1 x7 u _ _ _ (lv_sub hl [1, 2, 0] rfl) hI h
      · rw [if_neg hc6] at h
        refine lv_iload_n hx hb d_L_type_30 rfl (lv_at hl 1 rfl) ?_
        refine lv_iload_n hx hb d_L_type_31 rfl (lv_at hl 3 rfl) ?_
        obtain ⟨r8, u9, hc, h⟩ := ob_e h
        refine g_callS (As := [.int v1, .int v3]) (rest := []) (w' := k_W ad cA u9) (o := some (.int r8)) ⟨hx, hb, hml, hown, hts⟩ (c_L_byteOf l D ad cA hc) (va_cwS 2 hts gq_L_47 rfl rfl rfl (by decide +kernel) ⟨Nat.le_of_ble_eq_true rfl, Nat.le_of_ble_eq_true rfl⟩) hK hI hA rfl hl.1 rfl (Nat.le_of_ble_eq_true rfl) d_L_type_32 ⟨Nat.zero_le _, Nat.zero_le _⟩ rfl (fun H locs hI => ?_)
        obtain ⟨r10, u11, hc, h⟩ := ob_e h
        refine g_callS (As := [.int r8]) (rest := []) (w' := k_W ad cA u11) (o := some (.int r10)) ⟨hx, hb, hml, hown, hts⟩ (c_T_allows l D ad cA hc) (va_cwS 1 hts gq_L_51 rfl rfl rfl (by decide +kernel) ⟨Nat.le_of_ble_eq_true rfl, Nat.le_of_ble_eq_true rfl⟩) hK hI hA rfl hl.1 rfl (Nat.le_of_ble_eq_true rfl) d_L_type_35 ⟨Nat.zero_le _, Nat.zero_le _⟩ rfl (fun H locs hI => ?_)
        refine lv_if_ne (tgt := 43) hx hb d_L_type_38 rfl (fun hc12 => ?_) (fun hc12 => ?_)
        · rw [if_neg hc12] at h
          obtain ⟨x13, e_x13, h⟩ := lt_e h
          refine lv_iinc (v := x13) (k := 3) hx hb d_L_type_43 hl rfl (by subst e_x13; rfl) (by decide) rfl (fun ls hl => ?_)
          refine lv_goto (tgt := 25) hx hb d_L_type_46 rfl ?_
          exact ih v1 v2 x13 u11 _ _ _ (lv_sub hl [1, 2, 3, 0] rfl) hI h
        · rw [if_pos hc12] at h
          refine lv_iconst (v := 0) hx hb d_L_type_41 (by decide) ?_
          exact g_zret (Wd := k_W ad cA) hx hb hr hlk hK hI h d_L_type_42
  dsimp only [f_L_type] at h
  refine lv_iload_n hx hb d_L_type_0 rfl (lv_at hl 2 rfl) ?_
  refine lv_iconst (v := 1) hx hb d_L_type_1 (by decide) ?_
  refine lv_icmp_lt (tgt := 21) hx hb d_L_type_2 rfl (fun hc1 => ?_) (fun hc1 => ?_)
  · rw [if_pos hc1] at h
    refine lv_iconst (v := 0) hx hb d_L_type_21 (by decide) ?_
    exact g_zret (Wd := k_W ad cA) hx hb hr hlk hK hI h d_L_type_22
  · rw [if_neg hc1] at h
    refine lv_iload_n hx hb d_L_type_5 rfl (lv_at hl 2 rfl) ?_
    refine lv_iconst (v := 4) hx hb d_L_type_6 (by decide) ?_
    refine lv_icmp_gt (tgt := 21) hx hb d_L_type_7 rfl (fun hc2 => ?_) (fun hc2 => ?_)
    · rw [if_pos hc2] at h
      refine lv_iconst (v := 0) hx hb d_L_type_21 (by decide) ?_
      exact g_zret (Wd := k_W ad cA) hx hb hr hlk hK hI h d_L_type_22
    · rw [if_neg hc2] at h
      refine lv_aload_n hx hb d_L_type_10 rfl (lv_at hl 0 rfl) ?_
      refine g_get (v := .ref (ad 1)) hx hb hts in_L hown hK hI 0 rfl rfl 0 (by decide) (hts _ wd_104) rfl d_L_type_11 ?_
      refine lv_iload_n hx hb d_L_type_14 rfl (lv_at hl 2 rfl) ?_
      obtain ⟨r3, u4, hc, h⟩ := ob_e h
      refine g_callV (As := [.int a2]) (rest := []) (w' := k_W ad cA u4) (o := some (.int r3)) ⟨hx, hb, hml, hown, hts⟩ (c_T_hasRoomFor l D ad cA hc) (cwV 1 hts gq_L_43 rfl rfl rfl (by decide +kernel) ⟨Nat.le_of_ble_eq_true rfl, Nat.le_of_ble_eq_true rfl⟩) hK hI hA 1 1 rfl rfl rfl hl.1 rfl (Nat.le_of_ble_eq_true rfl) d_L_type_15 ⟨Nat.zero_le _, Nat.zero_le _⟩ rfl (fun H locs hI => ?_)
      refine lv_if_ne (tgt := 23) hx hb d_L_type_18 rfl (fun hc5 => ?_) (fun hc5 => ?_)
      · rw [if_neg hc5] at h
        refine lv_iconst (v := 0) hx hb d_L_type_23 (by decide) ?_
        refine lv_istore_n (lv' := [(3, .int 0), (0, .ref (ad 0)), (1, .int a1), (2, .int a2)]) hx hb d_L_type_24 rfl hl (by decide) rfl (fun ls hl => ?_)
        exact w25 4096 a1 a2 0 u4 _ _ _ (lv_sub hl [1, 2, 3, 0] rfl) hI h
      · rw [if_pos hc5] at h
        refine lv_iconst (v := 0) hx hb d_L_type_21 (by decide) ?_
        exact g_zret (Wd := k_W ad cA) hx hb hr hlk hK hI h d_L_type_22
def f_C_clear (u : KS) : Option (Unit × KS) := lt_ (k_p_cn 0 u) fun u1 => some ((), u1)
set_option maxRecDepth 100000 in
set_option maxHeartbeats 4000000 in
theorem c_C_clear (l : Launch) (D : va_G) (ad : Nat → Nat) (cA : Nat → ClassId) {u u0 : KS} {r0 : Unit} (h : f_C_clear u = some (r0, u0)) : g_M l y_C_clear w_C_clear { frames := 0, cells := 0, slots := 0, locals := 0 } D vwCl (k_T cA) (k_W ad cA u) [.ref (ad 4)] none (k_W ad cA u0) := by
  refine g_ofW (cc := c0_C_clear) (maxL := 1) (ret := none) (by decide) rfl (Nat.le_of_ble_eq_true rfl) ?_
  intro p e s m below meth c A ls hx hb hr hml hown hts hlk hK hA hI hl
  have hts : ∀ w ∈ gW, w.before ([.ref (ad 4)] : List Value).toArray s = true := fun w h => hts w (List.mem_cons_of_mem _ h)
  have hown : s.vm.findClass R_C = some m.cls := hown
  have hl : lv_has ls 1 [(0, .ref (ad 4))] := hl
  dsimp only [f_C_clear] at h
  refine lv_aload_n hx hb d_C_clear_0 rfl (lv_at hl 0 rfl) ?_
  refine lv_iconst (v := 0) hx hb d_C_clear_1 (by decide) ?_
  obtain ⟨u1, e_u1, h⟩ := lt_e h
  refine g_put (t := .int) (w' := k_W ad cA u1) hx hb hts in_C ty_C tyok_C nm_C hown hK hI 4 rfl rfl 8 (by decide) (hts _ wd_50) rfl (by decide +kernel) rfl rfl (Nat.le_of_ble_eq_true rfl) d_C_clear_2 (by subst e_u1; rfl) (fun H locs hI => ?_)
  exact g_vret (Wd := k_W ad cA) hx hb hr hlk hK hI h d_C_clear_5
def f_C_isFull (u : KS) : Option (Int32 × KS) := if (k_cn u) < 20 then (gd (bz 0) (some (0, u))) else (gd (bz 1) (some (1, u)))
set_option maxRecDepth 100000 in
set_option maxHeartbeats 4000000 in
theorem c_C_isFull (l : Launch) (D : va_G) (ad : Nat → Nat) (cA : Nat → ClassId) {u u0 : KS} {r0 : Int32} (h : f_C_isFull u = some (r0, u0)) : g_M l y_C_isFull w_C_isFull { frames := 0, cells := 0, slots := 0, locals := 0 } D vwCl (k_T cA) (k_W ad cA u) [.ref (ad 4)] (some (.int r0)) (k_W ad cA u0) := by
  refine g_ofW (cc := c0_C_isFull) (maxL := 1) (ret := (some .boolean)) (by decide) rfl (Nat.le_of_ble_eq_true rfl) ?_
  intro p e s m below meth c A ls hx hb hr hml hown hts hlk hK hA hI hl
  have hts : ∀ w ∈ gW, w.before ([.ref (ad 4)] : List Value).toArray s = true := fun w h => hts w (List.mem_cons_of_mem _ h)
  have hown : s.vm.findClass R_C = some m.cls := hown
  have hl : lv_has ls 1 [(0, .ref (ad 4))] := hl
  dsimp only [f_C_isFull] at h
  refine lv_aload_n hx hb d_C_isFull_0 rfl (lv_at hl 0 rfl) ?_
  refine g_get (v := .int (k_cn u)) hx hb hts in_C hown hK hI 4 rfl rfl 8 (by decide) (hts _ wd_50) rfl d_C_isFull_1 ?_
  refine lv_bipush (v := 20) hx hb d_C_isFull_4 (by decide) ?_
  refine lv_icmp_lt (tgt := 13) hx hb d_C_isFull_6 rfl (fun hc1 => ?_) (fun hc1 => ?_)
  · rw [if_pos hc1] at h
    refine lv_iconst (v := 0) hx hb d_C_isFull_13 (by decide) ?_
    exact g_zret (Wd := k_W ad cA) hx hb hr hlk hK hI h d_C_isFull_14
  · rw [if_neg hc1] at h
    refine lv_iconst (v := 1) hx hb d_C_isFull_9 (by decide) ?_
    refine lv_goto (tgt := 14) hx hb d_C_isFull_10 rfl ?_
    exact g_zret (Wd := k_W ad cA) hx hb hr hlk hK hI h d_C_isFull_14
def f_T_markAt (a1 : Int32) (u : KS) : Option (Int32 × KS) := if a1 < 0 then some (0, u) else (if (k_sz u) ≤ a1 then some (0, u) else (gd (inb a1 120) (some (k_mk u a1.toNatClampNeg, u))))
set_option maxRecDepth 100000 in
set_option maxHeartbeats 4000000 in
theorem c_T_markAt (l : Launch) (D : va_G) (ad : Nat → Nat) (cA : Nat → ClassId) {a1 : Int32} {u u0 : KS} {r0 : Int32} (h : f_T_markAt a1 u = some (r0, u0)) : g_M l y_T_markAt w_T_markAt { frames := 0, cells := 0, slots := 0, locals := 0 } D vwCl (k_T cA) (k_W ad cA u) [.ref (ad 1), .int a1] (some (.int r0)) (k_W ad cA u0) := by
  refine g_ofW (cc := c0_T_markAt) (maxL := 2) (ret := (some .int)) (by decide) rfl (Nat.le_of_ble_eq_true rfl) ?_
  intro p e s m below meth c A ls hx hb hr hml hown hts hlk hK hA hI hl
  have hts : ∀ w ∈ gW, w.before ([.ref (ad 1), .int a1] : List Value).toArray s = true := fun w h => hts w (List.mem_cons_of_mem _ h)
  have hown : s.vm.findClass R_T = some m.cls := hown
  have hl : lv_has ls 2 [(0, .ref (ad 1)), (1, .int a1)] := hl
  dsimp only [f_T_markAt] at h
  refine lv_iload_n hx hb d_T_markAt_0 rfl (lv_at hl 1 rfl) ?_
  refine lv_if_lt (tgt := 21) hx hb d_T_markAt_1 rfl (fun hc1 => ?_) (fun hc1 => ?_)
  · rw [if_pos hc1] at h
    refine lv_iconst (v := 0) hx hb d_T_markAt_21 (by decide) ?_
    exact g_iret (Wd := k_W ad cA) hx hb hr hlk hK hI h d_T_markAt_22
  · rw [if_neg hc1] at h
    refine lv_iload_n hx hb d_T_markAt_4 rfl (lv_at hl 1 rfl) ?_
    refine lv_aload_n hx hb d_T_markAt_5 rfl (lv_at hl 0 rfl) ?_
    refine g_get (v := .int (k_sz u)) hx hb hts in_T hown hK hI 1 rfl rfl 2 (by decide) (hts _ wd_24) rfl d_T_markAt_6 ?_
    refine lv_icmp_ge (tgt := 21) hx hb d_T_markAt_9 rfl (fun hc2 => ?_) (fun hc2 => ?_)
    · rw [if_pos hc2] at h
      refine lv_iconst (v := 0) hx hb d_T_markAt_21 (by decide) ?_
      exact g_iret (Wd := k_W ad cA) hx hb hr hlk hK hI h d_T_markAt_22
    · rw [if_neg hc2] at h
      refine lv_aload_n hx hb d_T_markAt_12 rfl (lv_at hl 0 rfl) ?_
      refine g_get (v := .ref (ad 2)) hx hb hts in_T hown hK hI 1 rfl rfl 0 (by decide) (hts _ wd_22) rfl d_T_markAt_13 ?_
      refine lv_iload_n hx hb d_T_markAt_16 rfl (lv_at hl 1 rfl) ?_
      obtain ⟨hg, h⟩ := gd_e h
      refine g_iald hx hb hK hI 2 0 rfl rfl hg d_T_markAt_17 ?_
      refine lv_goto (tgt := 22) hx hb d_T_markAt_18 rfl ?_
      exact g_iret (Wd := k_W ad cA) hx hb hr hlk hK hI h d_T_markAt_22
def f_R_mark (u : KS) : Option (Int32 × KS) := ob (f_T_markAt (k_at u) u) fun r1 u2 => some (r1, u2)
set_option maxRecDepth 100000 in
set_option maxHeartbeats 4000000 in
theorem c_R_mark (l : Launch) (D : va_G) (ad : Nat → Nat) (cA : Nat → ClassId) {u u0 : KS} {r0 : Int32} (h : f_R_mark u = some (r0, u0)) : g_M l y_R_mark w_R_mark { frames := 1, cells := 0, slots := 0, locals := 21 } D vwCl (k_T cA) (k_W ad cA u) [.ref (ad 13)] (some (.int r0)) (k_W ad cA u0) := by
  refine g_ofW (cc := c0_R_mark) (maxL := 1) (ret := (some .int)) (by decide) rfl (Nat.le_of_ble_eq_true rfl) ?_
  intro p e s m below meth c A ls hx hb hr hml hown hts hlk hK hA hI hl
  have hts : ∀ w ∈ gW, w.before ([.ref (ad 13)] : List Value).toArray s = true := fun w h => hts w (List.mem_cons_of_mem _ h)
  have hown : s.vm.findClass R_R = some m.cls := hown
  have hl : lv_has ls 1 [(0, .ref (ad 13))] := hl
  dsimp only [f_R_mark] at h
  refine lv_aload_n hx hb d_R_mark_0 rfl (lv_at hl 0 rfl) ?_
  refine g_get (v := .ref (ad 1)) hx hb hts in_R hown hK hI 13 rfl rfl 0 (by decide) (hts _ wd_76) rfl d_R_mark_1 ?_
  refine lv_aload_n hx hb d_R_mark_4 rfl (lv_at hl 0 rfl) ?_
  refine g_get (v := .int (k_at u)) hx hb hts in_R hown hK hI 13 rfl rfl 2 (by decide) (hts _ wd_78) rfl d_R_mark_5 ?_
  obtain ⟨r1, u2, hc, h⟩ := ob_e h
  refine g_callV (As := [.int (k_at u)]) (rest := []) (w' := k_W ad cA u2) (o := some (.int r1)) ⟨hx, hb, hml, hown, hts⟩ (c_T_markAt l D ad cA hc) (cwV 1 hts gq_R_54 rfl rfl rfl (by decide +kernel) ⟨Nat.le_of_ble_eq_true rfl, Nat.le_of_ble_eq_true rfl⟩) hK hI hA 1 1 rfl rfl rfl hl.1 rfl (Nat.le_of_ble_eq_true rfl) d_R_mark_8 ⟨Nat.zero_le _, Nat.zero_le _⟩ rfl (fun H locs hI => ?_)
  exact g_iret (Wd := k_W ad cA) hx hb hr hlk hK hI h d_R_mark_11
def f_C_add_L71 (n : Nat) : Int32 → Int32 → KS → Option (Int32 × KS) := match n with
  | 0 => fun _ _ _ => none
  | n + 1 => fun v2 v3 u => if 3 ≤ v3 then some (v2, u) else (gd (inb ((v2 * 3) + v3) 60) (lt_ (k_p_fa (upd (k_fa u) ((v2 * 3) + v3).toNatClampNeg 0) u) fun u11 => lt_ (v3 + 1) fun x12 => f_C_add_L71 n v2 x12 u11))
def f_C_add (a1 : Int32) (u : KS) : Option (Int32 × KS) := if (k_cn u) < 20 then (lt_ (k_cn u) fun x2 => lt_ (k_p_cn ((k_cn u) + 1) u) fun u3 => gd (inb x2 20) (lt_ (k_p_kd (upd (k_kd u3) x2.toNatClampNeg a1) u3) fun u4 => gd (inb x2 20) (lt_ (k_p_sc (upd (k_sc u4) x2.toNatClampNeg 20) u4) fun u5 => gd (inb x2 20) (lt_ (k_p_vr (upd (k_vr u5) x2.toNatClampNeg 0) u5) fun u6 => gd (inb x2 20) (lt_ (k_p_dv (upd (k_dv u6) x2.toNatClampNeg 0) u6) fun u7 => gd (inb x2 20) (lt_ (k_p_nu (upd (k_nu u7) x2.toNatClampNeg 0) u7) fun u8 => gd (inb x2 20) (lt_ (k_p_op (upd (k_op u8) x2.toNatClampNeg 0) u8) fun u9 => f_C_add_L71 4096 x2 0 u9))))))) else some ((-1), u)
set_option maxRecDepth 100000 in
set_option maxHeartbeats 4000000 in
theorem c_C_add (l : Launch) (D : va_G) (ad : Nat → Nat) (cA : Nat → ClassId) {a1 : Int32} {u u0 : KS} {r0 : Int32} (h : f_C_add a1 u = some (r0, u0)) : g_M l y_C_add w_C_add { frames := 0, cells := 0, slots := 0, locals := 0 } D vwCl (k_T cA) (k_W ad cA u) [.ref (ad 4), .int a1] (some (.int r0)) (k_W ad cA u0) := by
  refine g_ofW (cc := c0_C_add) (maxL := 4) (ret := (some .int)) (by decide) rfl (Nat.le_of_ble_eq_true rfl) ?_
  intro p e s m below meth c A ls hx hb hr hml hown hts hlk hK hA hI hl
  have hts : ∀ w ∈ gW, w.before ([.ref (ad 4), .int a1] : List Value).toArray s = true := fun w h => hts w (List.mem_cons_of_mem _ h)
  have hown : s.vm.findClass R_C = some m.cls := hown
  have hl : lv_has ls 4 [(0, .ref (ad 4)), (1, .int a1)] := hl
  have w71 : ∀ (n : Nat) (v2 : Int32) (v3 : Int32) (u : KS) (H : Heap) (locs : List Loc) (ls : Array Slot), lv_has ls 4 [(0, .ref (ad 4)), (2, .int v2), (3, .int v3)] → g_I D vwCl A s.heap H locs (k_W ad cA u) → f_C_add_L71 n v2 v3 u = some (r0, u0) → W p l e { frames := 0, cells := 0, slots := 0, locals := 0 } s m ([.ref (ad 4), .int a1] : List Value).toArray below meth c H locs 0 0 (MQ below (g_Q D vwCl (k_T cA) (k_W ad cA u0) A (some (.int r0))) ([.ref (ad 4), .int a1] : List Value).toArray s 0 0 A) (F0 m 71 ls []) := by
    intro  n
    induction n with
    | zero => intro v2 v3 u H locs ls hl hI h; cases h
    | succ n ih =>
      intro v2 v3 u H locs ls hl hI h
      dsimp only [f_C_add_L71] at h
      refine lv_iload_n hx hb d_C_add_71 rfl (lv_at hl 2 rfl) ?_
      refine lv_iconst (v := 3) hx hb d_C_add_72 (by decide) ?_
      refine lv_icmp_ge (tgt := 93) hx hb d_C_add_73 rfl (fun hc10 => ?_) (fun hc10 => ?_)
      · rw [if_pos hc10] at h
        refine lv_iload_n hx hb d_C_add_93 rfl (lv_at hl 1 rfl) ?_
        exact g_iret (Wd := k_W ad cA) hx hb hr hlk hK hI h d_C_add_94
      · rw [if_neg hc10] at h
        refine lv_aload_n hx hb d_C_add_76 rfl (lv_at hl 0 rfl) ?_
        refine g_get (v := .ref (ad 10)) hx hb hts in_C hown hK hI 4 rfl rfl 5 (by decide) (hts _ wd_47) rfl d_C_add_77 ?_
        refine lv_iload_n hx hb d_C_add_80 rfl (lv_at hl 1 rfl) ?_
        refine lv_iconst (v := 3) hx hb d_C_add_81 (by decide) ?_
        refine lv_imul hx hb d_C_add_82 ?_
        refine lv_iload_n hx hb d_C_add_83 rfl (lv_at hl 2 rfl) ?_
        refine lv_iadd hx hb d_C_add_84 ?_
        refine lv_iconst (v := 0) hx hb d_C_add_85 (by decide) ?_
        obtain ⟨hg, h⟩ := gd_e h
        obtain ⟨u11, e_u11, h⟩ := lt_e h
        refine g_iast (w' := k_W ad cA u11) hx hb hK hI 10 7 rfl rfl hg d_C_add_86 (by subst e_u11; rfl) (fun H locs hI => ?_)
        obtain ⟨x12, e_x12, h⟩ := lt_e h
        refine lv_iinc (v := x12) (k := 2) hx hb d_C_add_87 hl rfl (by subst e_x12; rfl) (by decide) rfl (fun ls hl => ?_)
        refine lv_goto (tgt := 71) hx hb d_C_add_90 rfl ?_
        exact ih v2 x12 u11 _ _ _ (lv_sub hl [1, 2, 0] rfl) hI h
  dsimp only [f_C_add] at h
  refine lv_aload_n hx hb d_C_add_0 rfl (lv_at hl 0 rfl) ?_
  refine g_get (v := .int (k_cn u)) hx hb hts in_C hown hK hI 4 rfl rfl 8 (by decide) (hts _ wd_50) rfl d_C_add_1 ?_
  refine lv_bipush (v := 20) hx hb d_C_add_4 (by decide) ?_
  refine lv_icmp_lt (tgt := 11) hx hb d_C_add_6 rfl (fun hc1 => ?_) (fun hc1 => ?_)
  · rw [if_pos hc1] at h
    refine lv_aload_n hx hb d_C_add_11 rfl (lv_at hl 0 rfl) ?_
    refine g_get (v := .int (k_cn u)) hx hb hts in_C hown hK hI 4 rfl rfl 8 (by decide) (hts _ wd_50) rfl d_C_add_12 ?_
    obtain ⟨x2, e_x2, h⟩ := lt_e h
    refine lv_istore_n (lv' := [(2, .int x2), (0, .ref (ad 4)), (1, .int a1)]) hx hb d_C_add_15 rfl hl (by decide) (by subst e_x2; rfl) (fun ls hl => ?_)
    refine lv_aload_n hx hb d_C_add_16 rfl (lv_at hl 1 rfl) ?_
    refine lv_dup hx hb d_C_add_17 rfl ?_
    refine g_get (v := .int (k_cn u)) hx hb hts in_C hown hK hI 4 rfl rfl 8 (by decide) (hts _ wd_50) rfl d_C_add_18 ?_
    refine lv_iconst (v := 1) hx hb d_C_add_21 (by decide) ?_
    refine lv_iadd hx hb d_C_add_22 ?_
    obtain ⟨u3, e_u3, h⟩ := lt_e h
    refine g_put (t := .int) (w' := k_W ad cA u3) hx hb hts in_C ty_C tyok_C nm_C hown hK hI 4 rfl rfl 8 (by decide) (hts _ wd_50) rfl (by decide +kernel) rfl rfl (Nat.le_of_ble_eq_true rfl) d_C_add_23 (by subst e_u3; rfl) (fun H locs hI => ?_)
    refine lv_aload_n hx hb d_C_add_26 rfl (lv_at hl 1 rfl) ?_
    refine g_get (v := .ref (ad 5)) hx hb hts in_C hown hK hI 4 rfl rfl 0 (by decide) (hts _ wd_42) rfl d_C_add_27 ?_
    refine lv_iload_n hx hb d_C_add_30 rfl (lv_at hl 0 rfl) ?_
    refine lv_iload_n hx hb d_C_add_31 rfl (lv_at hl 2 rfl) ?_
    obtain ⟨hg, h⟩ := gd_e h
    obtain ⟨u4, e_u4, h⟩ := lt_e h
    refine g_iast (w' := k_W ad cA u4) hx hb hK hI 5 2 rfl rfl hg d_C_add_32 (by subst e_u4; rfl) (fun H locs hI => ?_)
    refine lv_aload_n hx hb d_C_add_33 rfl (lv_at hl 1 rfl) ?_
    refine g_get (v := .ref (ad 6)) hx hb hts in_C hown hK hI 4 rfl rfl 1 (by decide) (hts _ wd_43) rfl d_C_add_34 ?_
    refine lv_iload_n hx hb d_C_add_37 rfl (lv_at hl 0 rfl) ?_
    refine lv_bipush (v := 20) hx hb d_C_add_38 (by decide) ?_
    obtain ⟨hg, h⟩ := gd_e h
    obtain ⟨u5, e_u5, h⟩ := lt_e h
    refine g_iast (w' := k_W ad cA u5) hx hb hK hI 6 3 rfl rfl hg d_C_add_40 (by subst e_u5; rfl) (fun H locs hI => ?_)
    refine lv_aload_n hx hb d_C_add_41 rfl (lv_at hl 1 rfl) ?_
    refine g_get (v := .ref (ad 7)) hx hb hts in_C hown hK hI 4 rfl rfl 2 (by decide) (hts _ wd_44) rfl d_C_add_42 ?_
    refine lv_iload_n hx hb d_C_add_45 rfl (lv_at hl 0 rfl) ?_
    refine lv_iconst (v := 0) hx hb d_C_add_46 (by decide) ?_
    obtain ⟨hg, h⟩ := gd_e h
    obtain ⟨u6, e_u6, h⟩ := lt_e h
    refine g_iast (w' := k_W ad cA u6) hx hb hK hI 7 4 rfl rfl hg d_C_add_47 (by subst e_u6; rfl) (fun H locs hI => ?_)
    refine lv_aload_n hx hb d_C_add_48 rfl (lv_at hl 1 rfl) ?_
    refine g_get (v := .ref (ad 8)) hx hb hts in_C hown hK hI 4 rfl rfl 3 (by decide) (hts _ wd_45) rfl d_C_add_49 ?_
    refine lv_iload_n hx hb d_C_add_52 rfl (lv_at hl 0 rfl) ?_
    refine lv_iconst (v := 0) hx hb d_C_add_53 (by decide) ?_
    obtain ⟨hg, h⟩ := gd_e h
    obtain ⟨u7, e_u7, h⟩ := lt_e h
    refine g_iast (w' := k_W ad cA u7) hx hb hK hI 8 5 rfl rfl hg d_C_add_54 (by subst e_u7; rfl) (fun H locs hI => ?_)
    refine lv_aload_n hx hb d_C_add_55 rfl (lv_at hl 1 rfl) ?_
    refine g_get (v := .ref (ad 9)) hx hb hts in_C hown hK hI 4 rfl rfl 4 (by decide) (hts _ wd_46) rfl d_C_add_56 ?_
    refine lv_iload_n hx hb d_C_add_59 rfl (lv_at hl 0 rfl) ?_
    refine lv_iconst (v := 0) hx hb d_C_add_60 (by decide) ?_
    obtain ⟨hg, h⟩ := gd_e h
    obtain ⟨u8, e_u8, h⟩ := lt_e h
    refine g_iast (w' := k_W ad cA u8) hx hb hK hI 9 6 rfl rfl hg d_C_add_61 (by subst e_u8; rfl) (fun H locs hI => ?_)
    refine lv_aload_n hx hb d_C_add_62 rfl (lv_at hl 1 rfl) ?_
    refine g_get (v := .ref (ad 11)) hx hb hts in_C hown hK hI 4 rfl rfl 6 (by decide) (hts _ wd_48) rfl d_C_add_63 ?_
    refine lv_iload_n hx hb d_C_add_66 rfl (lv_at hl 0 rfl) ?_
    refine lv_iconst (v := 0) hx hb d_C_add_67 (by decide) ?_
    obtain ⟨hg, h⟩ := gd_e h
    obtain ⟨u9, e_u9, h⟩ := lt_e h
    refine g_iast (w' := k_W ad cA u9) hx hb hK hI 11 8 rfl rfl hg d_C_add_68 (by subst e_u9; rfl) (fun H locs hI => ?_)
    refine lv_iconst (v := 0) hx hb d_C_add_69 (by decide) ?_
    refine lv_istore_n (lv' := [(3, .int 0), (2, .int x2), (0, .ref (ad 4)), (1, .int a1)]) hx hb d_C_add_70 rfl hl (by decide) rfl (fun ls hl => ?_)
    exact w71 4096 x2 0 u9 _ _ _ (lv_sub hl [2, 1, 0] rfl) hI h
  · rw [if_neg hc1] at h
    refine lv_iconst (v := (-1)) hx hb d_C_add_9 (by decide) ?_
    exact g_iret (Wd := k_W ad cA) hx hb hr hlk hK hI h d_C_add_10
def f_R_begin (u : KS) : Option (Int32 × KS) := ob (f_R_mark u) fun r1 u2 => ob (f_C_add r1 u2) fun r3 u4 => lt_ (k_p_at ((k_at u4) + 1) u4) fun u5 => some (r3, u5)
set_option maxRecDepth 100000 in
set_option maxHeartbeats 4000000 in
theorem c_R_begin (l : Launch) (D : va_G) (ad : Nat → Nat) (cA : Nat → ClassId) {u u0 : KS} {r0 : Int32} (h : f_R_begin u = some (r0, u0)) : g_M l y_R_begin w_R_begin { frames := 2, cells := 0, slots := 0, locals := 41 } D vwCl (k_T cA) (k_W ad cA u) [.ref (ad 13)] (some (.int r0)) (k_W ad cA u0) := by
  refine g_ofW (cc := c0_R_begin) (maxL := 2) (ret := (some .int)) (by decide) rfl (Nat.le_of_ble_eq_true rfl) ?_
  intro p e s m below meth c A ls hx hb hr hml hown hts hlk hK hA hI hl
  have hts : ∀ w ∈ gW, w.before ([.ref (ad 13)] : List Value).toArray s = true := fun w h => hts w (List.mem_cons_of_mem _ h)
  have hown : s.vm.findClass R_R = some m.cls := hown
  have hl : lv_has ls 2 [(0, .ref (ad 13))] := hl
  dsimp only [f_R_begin] at h
  refine lv_aload_n hx hb d_R_begin_0 rfl (lv_at hl 0 rfl) ?_
  refine g_get (v := .ref (ad 4)) hx hb hts in_R hown hK hI 13 rfl rfl 1 (by decide) (hts _ wd_77) rfl d_R_begin_1 ?_
  refine lv_aload_n hx hb d_R_begin_4 rfl (lv_at hl 0 rfl) ?_
  obtain ⟨r1, u2, hc, h⟩ := ob_e h
  refine g_callV (As := []) (rest := [.ref (ad 4)]) (w' := k_W ad cA u2) (o := some (.int r1)) ⟨hx, hb, hml, hown, hts⟩ (c_R_mark l D ad cA hc) (cwV 0 hts gq_R_37 rfl rfl rfl (by decide +kernel) ⟨Nat.le_of_ble_eq_true rfl, Nat.le_of_ble_eq_true rfl⟩) hK hI hA 13 3 rfl rfl rfl hl.1 rfl (Nat.le_of_ble_eq_true rfl) d_R_begin_5 ⟨Nat.zero_le _, Nat.zero_le _⟩ rfl (fun H locs hI => ?_)
  obtain ⟨r3, u4, hc, h⟩ := ob_e h
  refine g_callV (As := [.int r1]) (rest := []) (w' := k_W ad cA u4) (o := some (.int r3)) ⟨hx, hb, hml, hown, hts⟩ (c_C_add l D ad cA hc) (cwV 1 hts gq_R_73 rfl rfl rfl (by decide +kernel) ⟨Nat.le_of_ble_eq_true rfl, Nat.le_of_ble_eq_true rfl⟩) hK hI hA 4 2 rfl rfl rfl hl.1 rfl (Nat.le_of_ble_eq_true rfl) d_R_begin_8 ⟨Nat.zero_le _, Nat.zero_le _⟩ rfl (fun H locs hI => ?_)
  refine lv_istore_n (lv' := [(1, .int r3), (0, .ref (ad 13))]) hx hb d_R_begin_11 rfl hl (by decide) rfl (fun ls hl => ?_)
  refine lv_aload_n hx hb d_R_begin_12 rfl (lv_at hl 1 rfl) ?_
  refine lv_dup hx hb d_R_begin_13 rfl ?_
  refine g_get (v := .int (k_at u4)) hx hb hts in_R hown hK hI 13 rfl rfl 2 (by decide) (hts _ wd_78) rfl d_R_begin_14 ?_
  refine lv_iconst (v := 1) hx hb d_R_begin_17 (by decide) ?_
  refine lv_iadd hx hb d_R_begin_18 ?_
  obtain ⟨u5, e_u5, h⟩ := lt_e h
  refine g_put (t := .int) (w' := k_W ad cA u5) hx hb hts in_R ty_R tyok_R nm_R hown hK hI 13 rfl rfl 2 (by decide) (hts _ wd_78) rfl (by decide +kernel) rfl rfl (Nat.le_of_ble_eq_true rfl) d_R_begin_19 (by subst e_u5; rfl) (fun H locs hI => ?_)
  refine lv_iload_n hx hb d_R_begin_22 rfl (lv_at hl 0 rfl) ?_
  exact g_iret (Wd := k_W ad cA) hx hb hr hlk hK hI h d_R_begin_23
def f_R_isDivisor_J18 (u : KS) : Option (Int32 × KS) := ob (f_T_markAt ((k_at u) + 1) u) fun r7 u8 => if r7 = 58 then (gd (bz 1) (some (1, u8))) else (gd (bz 0) (some (0, u8)))
def f_R_isDivisor (u : KS) : Option (Int32 × KS) := ob (f_R_mark u) fun r1 u2 => if r1 = 50 then f_R_isDivisor_J18 u2 else (ob (f_R_mark u2) fun r4 u5 => if r4 = 51 then f_R_isDivisor_J18 u5 else (gd (bz 0) (some (0, u5))))
set_option maxRecDepth 100000 in
set_option maxHeartbeats 4000000 in
theorem c_R_isDivisor (l : Launch) (D : va_G) (ad : Nat → Nat) (cA : Nat → ClassId) {u u0 : KS} {r0 : Int32} (h : f_R_isDivisor u = some (r0, u0)) : g_M l y_R_isDivisor w_R_isDivisor { frames := 2, cells := 0, slots := 0, locals := 41 } D vwCl (k_T cA) (k_W ad cA u) [.ref (ad 13)] (some (.int r0)) (k_W ad cA u0) := by
  refine g_ofW (cc := c0_R_isDivisor) (maxL := 1) (ret := (some .boolean)) (by decide) rfl (Nat.le_of_ble_eq_true rfl) ?_
  intro p e s m below meth c A ls hx hb hr hml hown hts hlk hK hA hI hl
  have hts : ∀ w ∈ gW, w.before ([.ref (ad 13)] : List Value).toArray s = true := fun w h => hts w (List.mem_cons_of_mem _ h)
  have hown : s.vm.findClass R_R = some m.cls := hown
  have hl : lv_has ls 1 [(0, .ref (ad 13))] := hl
  have w18 : ∀ (u : KS) (H : Heap) (locs : List Loc) (ls : Array Slot), lv_has ls 1 [(0, .ref (ad 13))] → g_I D vwCl A s.heap H locs (k_W ad cA u) → f_R_isDivisor_J18 u = some (r0, u0) → W p l e { frames := 2, cells := 0, slots := 0, locals := 41 } s m ([.ref (ad 13)] : List Value).toArray below meth c H locs 0 0 (MQ below (g_Q D vwCl (k_T cA) (k_W ad cA u0) A (some (.int r0))) ([.ref (ad 13)] : List Value).toArray s 0 0 A) (F0 m 18 ls []) := by
    intro  u H locs ls hl hI h
    dsimp only [f_R_isDivisor_J18] at h
    refine lv_aload_n hx hb d_R_isDivisor_18 rfl (lv_at hl 0 rfl) ?_
    refine g_get (v := .ref (ad 1)) hx hb hts in_R hown hK hI 13 rfl rfl 0 (by decide) (hts _ wd_76) rfl d_R_isDivisor_19 ?_
    refine lv_aload_n hx hb d_R_isDivisor_22 rfl (lv_at hl 0 rfl) ?_
    refine g_get (v := .int (k_at u)) hx hb hts in_R hown hK hI 13 rfl rfl 2 (by decide) (hts _ wd_78) rfl d_R_isDivisor_23 ?_
    refine lv_iconst (v := 1) hx hb d_R_isDivisor_26 (by decide) ?_
    refine lv_iadd hx hb d_R_isDivisor_27 ?_
    obtain ⟨r7, u8, hc, h⟩ := ob_e h
    refine g_callV (As := [.int ((k_at u) + 1)]) (rest := []) (w' := k_W ad cA u8) (o := some (.int r7)) ⟨hx, hb, hml, hown, hts⟩ (c_T_markAt l D ad cA hc) (cwV 1 hts gq_R_54 rfl rfl rfl (by decide +kernel) ⟨Nat.le_of_ble_eq_true rfl, Nat.le_of_ble_eq_true rfl⟩) hK hI hA 1 1 rfl rfl rfl hl.1 rfl (Nat.le_of_ble_eq_true rfl) d_R_isDivisor_28 ⟨Nat.zero_le _, Nat.zero_le _⟩ rfl (fun H locs hI => ?_)
    refine lv_bipush (v := 58) hx hb d_R_isDivisor_31 (by decide) ?_
    refine lv_icmp_ne (tgt := 40) hx hb d_R_isDivisor_33 rfl (fun hc9 => ?_) (fun hc9 => ?_)
    · rw [if_neg hc9] at h
      refine lv_iconst (v := 0) hx hb d_R_isDivisor_40 (by decide) ?_
      exact g_zret (Wd := k_W ad cA) hx hb hr hlk hK hI h d_R_isDivisor_41
    · rw [if_pos hc9] at h
      refine lv_iconst (v := 1) hx hb d_R_isDivisor_36 (by decide) ?_
      refine lv_goto (tgt := 41) hx hb d_R_isDivisor_37 rfl ?_
      exact g_zret (Wd := k_W ad cA) hx hb hr hlk hK hI h d_R_isDivisor_41
  dsimp only [f_R_isDivisor] at h
  refine lv_aload_n hx hb d_R_isDivisor_0 rfl (lv_at hl 0 rfl) ?_
  obtain ⟨r1, u2, hc, h⟩ := ob_e h
  refine g_callV (As := []) (rest := []) (w' := k_W ad cA u2) (o := some (.int r1)) ⟨hx, hb, hml, hown, hts⟩ (c_R_mark l D ad cA hc) (cwV 0 hts gq_R_37 rfl rfl rfl (by decide +kernel) ⟨Nat.le_of_ble_eq_true rfl, Nat.le_of_ble_eq_true rfl⟩) hK hI hA 13 3 rfl rfl rfl hl.1 rfl (Nat.le_of_ble_eq_true rfl) d_R_isDivisor_1 ⟨Nat.zero_le _, Nat.zero_le _⟩ rfl (fun H locs hI => ?_)
  refine lv_bipush (v := 50) hx hb d_R_isDivisor_4 (by decide) ?_
  refine lv_icmp_eq (tgt := 18) hx hb d_R_isDivisor_6 rfl (fun hc3 => ?_) (fun hc3 => ?_)
  · rw [if_pos hc3] at h
    exact w18 u2 _ _ _ (lv_sub hl [0] rfl) hI h
  · rw [if_neg hc3] at h
    refine lv_aload_n hx hb d_R_isDivisor_9 rfl (lv_at hl 0 rfl) ?_
    obtain ⟨r4, u5, hc, h⟩ := ob_e h
    refine g_callV (As := []) (rest := []) (w' := k_W ad cA u5) (o := some (.int r4)) ⟨hx, hb, hml, hown, hts⟩ (c_R_mark l D ad cA hc) (cwV 0 hts gq_R_37 rfl rfl rfl (by decide +kernel) ⟨Nat.le_of_ble_eq_true rfl, Nat.le_of_ble_eq_true rfl⟩) hK hI hA 13 3 rfl rfl rfl hl.1 rfl (Nat.le_of_ble_eq_true rfl) d_R_isDivisor_10 ⟨Nat.zero_le _, Nat.zero_le _⟩ rfl (fun H locs hI => ?_)
    refine lv_bipush (v := 51) hx hb d_R_isDivisor_13 (by decide) ?_
    refine lv_icmp_ne (tgt := 40) hx hb d_R_isDivisor_15 rfl (fun hc6 => ?_) (fun hc6 => ?_)
    · rw [if_neg hc6] at h
      refine lv_iconst (v := 0) hx hb d_R_isDivisor_40 (by decide) ?_
      exact g_zret (Wd := k_W ad cA) hx hb hr hlk hK hI h d_R_isDivisor_41
    · rw [if_pos hc6] at h
      exact w18 u5 _ _ _ (lv_sub hl [0] rfl) hI h
def f_C_has (a1 : Int32) (u : KS) : Option (Int32 × KS) := if a1 < 0 then (gd (bz 0) (some (0, u))) else (if (k_cn u) ≤ a1 then (gd (bz 0) (some (0, u))) else (gd (bz 1) (some (1, u))))
set_option maxRecDepth 100000 in
set_option maxHeartbeats 4000000 in
theorem c_C_has (l : Launch) (D : va_G) (ad : Nat → Nat) (cA : Nat → ClassId) {a1 : Int32} {u u0 : KS} {r0 : Int32} (h : f_C_has a1 u = some (r0, u0)) : g_M l y_C_has w_C_has { frames := 0, cells := 0, slots := 0, locals := 0 } D vwCl (k_T cA) (k_W ad cA u) [.ref (ad 4), .int a1] (some (.int r0)) (k_W ad cA u0) := by
  refine g_ofW (cc := c0_C_has) (maxL := 2) (ret := (some .boolean)) (by decide) rfl (Nat.le_of_ble_eq_true rfl) ?_
  intro p e s m below meth c A ls hx hb hr hml hown hts hlk hK hA hI hl
  have hts : ∀ w ∈ gW, w.before ([.ref (ad 4), .int a1] : List Value).toArray s = true := fun w h => hts w (List.mem_cons_of_mem _ h)
  have hown : s.vm.findClass R_C = some m.cls := hown
  have hl : lv_has ls 2 [(0, .ref (ad 4)), (1, .int a1)] := hl
  dsimp only [f_C_has] at h
  refine lv_iload_n hx hb d_C_has_0 rfl (lv_at hl 1 rfl) ?_
  refine lv_if_lt (tgt := 16) hx hb d_C_has_1 rfl (fun hc1 => ?_) (fun hc1 => ?_)
  · rw [if_pos hc1] at h
    refine lv_iconst (v := 0) hx hb d_C_has_16 (by decide) ?_
    exact g_zret (Wd := k_W ad cA) hx hb hr hlk hK hI h d_C_has_17
  · rw [if_neg hc1] at h
    refine lv_iload_n hx hb d_C_has_4 rfl (lv_at hl 1 rfl) ?_
    refine lv_aload_n hx hb d_C_has_5 rfl (lv_at hl 0 rfl) ?_
    refine g_get (v := .int (k_cn u)) hx hb hts in_C hown hK hI 4 rfl rfl 8 (by decide) (hts _ wd_50) rfl d_C_has_6 ?_
    refine lv_icmp_ge (tgt := 16) hx hb d_C_has_9 rfl (fun hc2 => ?_) (fun hc2 => ?_)
    · rw [if_pos hc2] at h
      refine lv_iconst (v := 0) hx hb d_C_has_16 (by decide) ?_
      exact g_zret (Wd := k_W ad cA) hx hb hr hlk hK hI h d_C_has_17
    · rw [if_neg hc2] at h
      refine lv_iconst (v := 1) hx hb d_C_has_12 (by decide) ?_
      refine lv_goto (tgt := 17) hx hb d_C_has_13 rfl ?_
      exact g_zret (Wd := k_W ad cA) hx hb hr hlk hK hI h d_C_has_17
def f_C_putDivisor (a1 : Int32) (a2 : Int32) (u : KS) : Option (Unit × KS) := ob (f_C_has a1 u) fun r1 u2 => if r1 = 0 then some ((), u2) else (gd (inb a1 20) (lt_ (k_p_dv (upd (k_dv u2) a1.toNatClampNeg a2) u2) fun u4 => some ((), u4)))
set_option maxRecDepth 100000 in
set_option maxHeartbeats 4000000 in
theorem c_C_putDivisor (l : Launch) (D : va_G) (ad : Nat → Nat) (cA : Nat → ClassId) {a1 : Int32} {a2 : Int32} {u u0 : KS} {r0 : Unit} (h : f_C_putDivisor a1 a2 u = some (r0, u0)) : g_M l y_C_putDivisor w_C_putDivisor { frames := 1, cells := 0, slots := 0, locals := 21 } D vwCl (k_T cA) (k_W ad cA u) [.ref (ad 4), .int a1, .int a2] none (k_W ad cA u0) := by
  refine g_ofW (cc := c0_C_putDivisor) (maxL := 3) (ret := none) (by decide) rfl (Nat.le_of_ble_eq_true rfl) ?_
  intro p e s m below meth c A ls hx hb hr hml hown hts hlk hK hA hI hl
  have hts : ∀ w ∈ gW, w.before ([.ref (ad 4), .int a1, .int a2] : List Value).toArray s = true := fun w h => hts w (List.mem_cons_of_mem _ h)
  have hown : s.vm.findClass R_C = some m.cls := hown
  have hl : lv_has ls 3 [(0, .ref (ad 4)), (1, .int a1), (2, .int a2)] := hl
  dsimp only [f_C_putDivisor] at h
  refine lv_aload_n hx hb d_C_putDivisor_0 rfl (lv_at hl 0 rfl) ?_
  refine lv_iload_n hx hb d_C_putDivisor_1 rfl (lv_at hl 1 rfl) ?_
  obtain ⟨r1, u2, hc, h⟩ := ob_e h
  refine g_callV (As := [.int a1]) (rest := []) (w' := k_W ad cA u2) (o := some (.int r1)) ⟨hx, hb, hml, hown, hts⟩ (c_C_has l D ad cA hc) (cwV 1 hts gq_C_40 rfl rfl rfl (by decide +kernel) ⟨Nat.le_of_ble_eq_true rfl, Nat.le_of_ble_eq_true rfl⟩) hK hI hA 4 2 rfl rfl rfl hl.1 rfl (Nat.le_of_ble_eq_true rfl) d_C_putDivisor_2 ⟨Nat.zero_le _, Nat.zero_le _⟩ rfl (fun H locs hI => ?_)
  refine lv_if_eq (tgt := 15) hx hb d_C_putDivisor_5 rfl (fun hc3 => ?_) (fun hc3 => ?_)
  · rw [if_pos hc3] at h
    exact g_vret (Wd := k_W ad cA) hx hb hr hlk hK hI h d_C_putDivisor_15
  · rw [if_neg hc3] at h
    refine lv_aload_n hx hb d_C_putDivisor_8 rfl (lv_at hl 0 rfl) ?_
    refine g_get (v := .ref (ad 8)) hx hb hts in_C hown hK hI 4 rfl rfl 3 (by decide) (hts _ wd_45) rfl d_C_putDivisor_9 ?_
    refine lv_iload_n hx hb d_C_putDivisor_12 rfl (lv_at hl 1 rfl) ?_
    refine lv_iload_n hx hb d_C_putDivisor_13 rfl (lv_at hl 2 rfl) ?_
    obtain ⟨hg, h⟩ := gd_e h
    obtain ⟨u4, e_u4, h⟩ := lt_e h
    refine g_iast (w' := k_W ad cA u4) hx hb hK hI 8 5 rfl rfl hg d_C_putDivisor_14 (by subst e_u4; rfl) (fun H locs hI => ?_)
    exact g_vret (Wd := k_W ad cA) hx hb hr hlk hK hI h d_C_putDivisor_15
def f_R_digitOf (a0 : Int32) (u : KS) : Option (Int32 × KS) := if a0 < 48 then some ((-1), u) else (if 57 < a0 then some ((-1), u) else some (a0 - 48, u))
set_option maxRecDepth 100000 in
set_option maxHeartbeats 4000000 in
theorem c_R_digitOf (l : Launch) (D : va_G) (ad : Nat → Nat) (cA : Nat → ClassId) {a0 : Int32} {u u0 : KS} {r0 : Int32} (h : f_R_digitOf a0 u = some (r0, u0)) : g_M l y_R_digitOf w_R_digitOf { frames := 0, cells := 0, slots := 0, locals := 0 } D vwCl (k_T cA) (k_W ad cA u) [.int a0] (some (.int r0)) (k_W ad cA u0) := by
  refine g_ofW (cc := c0_R_digitOf) (maxL := 1) (ret := (some .int)) (by decide) rfl (Nat.le_of_ble_eq_true rfl) ?_
  intro p e s m below meth c A ls hx hb hr hml hown hts hlk hK hA hI hl
  have hts : ∀ w ∈ gW, w.before ([.int a0] : List Value).toArray s = true := fun w h => hts w (List.mem_cons_of_mem _ h)
  have hown : s.vm.findClass R_R = some m.cls := hown
  have hl : lv_has ls 1 [(0, .int a0)] := hl
  dsimp only [f_R_digitOf] at h
  refine lv_iload_n hx hb d_R_digitOf_0 rfl (lv_at hl 0 rfl) ?_
  refine lv_bipush (v := 48) hx hb d_R_digitOf_1 (by decide) ?_
  refine lv_icmp_lt (tgt := 19) hx hb d_R_digitOf_3 rfl (fun hc1 => ?_) (fun hc1 => ?_)
  · rw [if_pos hc1] at h
    refine lv_iconst (v := (-1)) hx hb d_R_digitOf_19 (by decide) ?_
    exact g_iret (Wd := k_W ad cA) hx hb hr hlk hK hI h d_R_digitOf_20
  · rw [if_neg hc1] at h
    refine lv_iload_n hx hb d_R_digitOf_6 rfl (lv_at hl 0 rfl) ?_
    refine lv_bipush (v := 57) hx hb d_R_digitOf_7 (by decide) ?_
    refine lv_icmp_gt (tgt := 19) hx hb d_R_digitOf_9 rfl (fun hc2 => ?_) (fun hc2 => ?_)
    · rw [if_pos hc2] at h
      refine lv_iconst (v := (-1)) hx hb d_R_digitOf_19 (by decide) ?_
      exact g_iret (Wd := k_W ad cA) hx hb hr hlk hK hI h d_R_digitOf_20
    · rw [if_neg hc2] at h
      refine lv_iload_n hx hb d_R_digitOf_12 rfl (lv_at hl 0 rfl) ?_
      refine lv_bipush (v := 48) hx hb d_R_digitOf_13 (by decide) ?_
      refine lv_isub hx hb d_R_digitOf_15 ?_
      refine lv_goto (tgt := 20) hx hb d_R_digitOf_16 rfl ?_
      exact g_iret (Wd := k_W ad cA) hx hb hr hlk hK hI h d_R_digitOf_20
def f_C_addNumber (a1 : Int32) (a2 : Int32) (u : KS) : Option (Unit × KS) := ob (f_C_has a1 u) fun r1 u2 => if r1 = 0 then some ((), u2) else (gd (inb a1 20) (gd (inb a1 20) (lt_ (k_p_nu (upd (k_nu u2) a1.toNatClampNeg ((k_nu u2 a1.toNatClampNeg) + a2)) u2) fun u4 => some ((), u4))))
set_option maxRecDepth 100000 in
set_option maxHeartbeats 4000000 in
theorem c_C_addNumber (l : Launch) (D : va_G) (ad : Nat → Nat) (cA : Nat → ClassId) {a1 : Int32} {a2 : Int32} {u u0 : KS} {r0 : Unit} (h : f_C_addNumber a1 a2 u = some (r0, u0)) : g_M l y_C_addNumber w_C_addNumber { frames := 1, cells := 0, slots := 0, locals := 21 } D vwCl (k_T cA) (k_W ad cA u) [.ref (ad 4), .int a1, .int a2] none (k_W ad cA u0) := by
  refine g_ofW (cc := c0_C_addNumber) (maxL := 3) (ret := none) (by decide) rfl (Nat.le_of_ble_eq_true rfl) ?_
  intro p e s m below meth c A ls hx hb hr hml hown hts hlk hK hA hI hl
  have hts : ∀ w ∈ gW, w.before ([.ref (ad 4), .int a1, .int a2] : List Value).toArray s = true := fun w h => hts w (List.mem_cons_of_mem _ h)
  have hown : s.vm.findClass R_C = some m.cls := hown
  have hl : lv_has ls 3 [(0, .ref (ad 4)), (1, .int a1), (2, .int a2)] := hl
  dsimp only [f_C_addNumber] at h
  refine lv_aload_n hx hb d_C_addNumber_0 rfl (lv_at hl 0 rfl) ?_
  refine lv_iload_n hx hb d_C_addNumber_1 rfl (lv_at hl 1 rfl) ?_
  obtain ⟨r1, u2, hc, h⟩ := ob_e h
  refine g_callV (As := [.int a1]) (rest := []) (w' := k_W ad cA u2) (o := some (.int r1)) ⟨hx, hb, hml, hown, hts⟩ (c_C_has l D ad cA hc) (cwV 1 hts gq_C_40 rfl rfl rfl (by decide +kernel) ⟨Nat.le_of_ble_eq_true rfl, Nat.le_of_ble_eq_true rfl⟩) hK hI hA 4 2 rfl rfl rfl hl.1 rfl (Nat.le_of_ble_eq_true rfl) d_C_addNumber_2 ⟨Nat.zero_le _, Nat.zero_le _⟩ rfl (fun H locs hI => ?_)
  refine lv_if_eq (tgt := 18) hx hb d_C_addNumber_5 rfl (fun hc3 => ?_) (fun hc3 => ?_)
  · rw [if_pos hc3] at h
    exact g_vret (Wd := k_W ad cA) hx hb hr hlk hK hI h d_C_addNumber_18
  · rw [if_neg hc3] at h
    refine lv_aload_n hx hb d_C_addNumber_8 rfl (lv_at hl 0 rfl) ?_
    refine g_get (v := .ref (ad 9)) hx hb hts in_C hown hK hI 4 rfl rfl 4 (by decide) (hts _ wd_46) rfl d_C_addNumber_9 ?_
    refine lv_iload_n hx hb d_C_addNumber_12 rfl (lv_at hl 1 rfl) ?_
    refine lv_dup2_11 hx hb d_C_addNumber_13 rfl rfl ?_
    obtain ⟨hg, h⟩ := gd_e h
    refine g_iald hx hb hK hI 9 6 rfl rfl hg d_C_addNumber_14 ?_
    refine lv_iload_n hx hb d_C_addNumber_15 rfl (lv_at hl 2 rfl) ?_
    refine lv_iadd hx hb d_C_addNumber_16 ?_
    obtain ⟨hg, h⟩ := gd_e h
    obtain ⟨u4, e_u4, h⟩ := lt_e h
    refine g_iast (w' := k_W ad cA u4) hx hb hK hI 9 6 rfl rfl hg d_C_addNumber_17 (by subst e_u4; rfl) (fun H locs hI => ?_)
    exact g_vret (Wd := k_W ad cA) hx hb hr hlk hK hI h d_C_addNumber_18
def f_R_variableOf (a0 : Int32) (u : KS) : Option (Int32 × KS) := if a0 < 120 then some ((-1), u) else (if 122 < a0 then some ((-1), u) else some (a0 - 120, u))
set_option maxRecDepth 100000 in
set_option maxHeartbeats 4000000 in
theorem c_R_variableOf (l : Launch) (D : va_G) (ad : Nat → Nat) (cA : Nat → ClassId) {a0 : Int32} {u u0 : KS} {r0 : Int32} (h : f_R_variableOf a0 u = some (r0, u0)) : g_M l y_R_variableOf w_R_variableOf { frames := 0, cells := 0, slots := 0, locals := 0 } D vwCl (k_T cA) (k_W ad cA u) [.int a0] (some (.int r0)) (k_W ad cA u0) := by
  refine g_ofW (cc := c0_R_variableOf) (maxL := 1) (ret := (some .int)) (by decide) rfl (Nat.le_of_ble_eq_true rfl) ?_
  intro p e s m below meth c A ls hx hb hr hml hown hts hlk hK hA hI hl
  have hts : ∀ w ∈ gW, w.before ([.int a0] : List Value).toArray s = true := fun w h => hts w (List.mem_cons_of_mem _ h)
  have hown : s.vm.findClass R_R = some m.cls := hown
  have hl : lv_has ls 1 [(0, .int a0)] := hl
  dsimp only [f_R_variableOf] at h
  refine lv_iload_n hx hb d_R_variableOf_0 rfl (lv_at hl 0 rfl) ?_
  refine lv_bipush (v := 120) hx hb d_R_variableOf_1 (by decide) ?_
  refine lv_icmp_lt (tgt := 19) hx hb d_R_variableOf_3 rfl (fun hc1 => ?_) (fun hc1 => ?_)
  · rw [if_pos hc1] at h
    refine lv_iconst (v := (-1)) hx hb d_R_variableOf_19 (by decide) ?_
    exact g_iret (Wd := k_W ad cA) hx hb hr hlk hK hI h d_R_variableOf_20
  · rw [if_neg hc1] at h
    refine lv_iload_n hx hb d_R_variableOf_6 rfl (lv_at hl 0 rfl) ?_
    refine lv_bipush (v := 122) hx hb d_R_variableOf_7 (by decide) ?_
    refine lv_icmp_gt (tgt := 19) hx hb d_R_variableOf_9 rfl (fun hc2 => ?_) (fun hc2 => ?_)
    · rw [if_pos hc2] at h
      refine lv_iconst (v := (-1)) hx hb d_R_variableOf_19 (by decide) ?_
      exact g_iret (Wd := k_W ad cA) hx hb hr hlk hK hI h d_R_variableOf_20
    · rw [if_neg hc2] at h
      refine lv_iload_n hx hb d_R_variableOf_12 rfl (lv_at hl 0 rfl) ?_
      refine lv_bipush (v := 120) hx hb d_R_variableOf_13 (by decide) ?_
      refine lv_isub hx hb d_R_variableOf_15 ?_
      refine lv_goto (tgt := 20) hx hb d_R_variableOf_16 rfl ?_
      exact g_iret (Wd := k_W ad cA) hx hb hr hlk hK hI h d_R_variableOf_20
def f_C_addFactor (a1 : Int32) (a2 : Int32) (a3 : Int32) (u : KS) : Option (Unit × KS) := ob (f_C_has a1 u) fun r1 u2 => if r1 = 0 then some ((), u2) else (if a2 < 0 then some ((), u2) else (if 3 ≤ a2 then some ((), u2) else (gd (inb ((a1 * 3) + a2) 60) (gd (inb ((a1 * 3) + a2) 60) (lt_ (k_p_fa (upd (k_fa u2) ((a1 * 3) + a2).toNatClampNeg ((k_fa u2 ((a1 * 3) + a2).toNatClampNeg) + a3)) u2) fun u6 => gd (inb a1 20) (gd (inb a1 20) (lt_ (k_p_op (upd (k_op u6) a1.toNatClampNeg ((k_op u6 a1.toNatClampNeg) ||| (1 <<< (a2 &&& 31)))) u6) fun u7 => some ((), u7))))))))
set_option maxRecDepth 100000 in
set_option maxHeartbeats 4000000 in
theorem c_C_addFactor (l : Launch) (D : va_G) (ad : Nat → Nat) (cA : Nat → ClassId) {a1 : Int32} {a2 : Int32} {a3 : Int32} {u u0 : KS} {r0 : Unit} (h : f_C_addFactor a1 a2 a3 u = some (r0, u0)) : g_M l y_C_addFactor w_C_addFactor { frames := 1, cells := 0, slots := 0, locals := 21 } D vwCl (k_T cA) (k_W ad cA u) [.ref (ad 4), .int a1, .int a2, .int a3] none (k_W ad cA u0) := by
  refine g_ofW (cc := c0_C_addFactor) (maxL := 4) (ret := none) (by decide) rfl (Nat.le_of_ble_eq_true rfl) ?_
  intro p e s m below meth c A ls hx hb hr hml hown hts hlk hK hA hI hl
  have hts : ∀ w ∈ gW, w.before ([.ref (ad 4), .int a1, .int a2, .int a3] : List Value).toArray s = true := fun w h => hts w (List.mem_cons_of_mem _ h)
  have hown : s.vm.findClass R_C = some m.cls := hown
  have hl : lv_has ls 4 [(0, .ref (ad 4)), (1, .int a1), (2, .int a2), (3, .int a3)] := hl
  dsimp only [f_C_addFactor] at h
  refine lv_aload_n hx hb d_C_addFactor_0 rfl (lv_at hl 0 rfl) ?_
  refine lv_iload_n hx hb d_C_addFactor_1 rfl (lv_at hl 1 rfl) ?_
  obtain ⟨r1, u2, hc, h⟩ := ob_e h
  refine g_callV (As := [.int a1]) (rest := []) (w' := k_W ad cA u2) (o := some (.int r1)) ⟨hx, hb, hml, hown, hts⟩ (c_C_has l D ad cA hc) (cwV 1 hts gq_C_40 rfl rfl rfl (by decide +kernel) ⟨Nat.le_of_ble_eq_true rfl, Nat.le_of_ble_eq_true rfl⟩) hK hI hA 4 2 rfl rfl rfl hl.1 rfl (Nat.le_of_ble_eq_true rfl) d_C_addFactor_2 ⟨Nat.zero_le _, Nat.zero_le _⟩ rfl (fun H locs hI => ?_)
  refine lv_if_eq (tgt := 43) hx hb d_C_addFactor_5 rfl (fun hc3 => ?_) (fun hc3 => ?_)
  · rw [if_pos hc3] at h
    exact g_vret (Wd := k_W ad cA) hx hb hr hlk hK hI h d_C_addFactor_43
  · rw [if_neg hc3] at h
    refine lv_iload_n hx hb d_C_addFactor_8 rfl (lv_at hl 2 rfl) ?_
    refine lv_if_lt (tgt := 43) hx hb d_C_addFactor_9 rfl (fun hc4 => ?_) (fun hc4 => ?_)
    · rw [if_pos hc4] at h
      exact g_vret (Wd := k_W ad cA) hx hb hr hlk hK hI h d_C_addFactor_43
    · rw [if_neg hc4] at h
      refine lv_iload_n hx hb d_C_addFactor_12 rfl (lv_at hl 2 rfl) ?_
      refine lv_iconst (v := 3) hx hb d_C_addFactor_13 (by decide) ?_
      refine lv_icmp_ge (tgt := 43) hx hb d_C_addFactor_14 rfl (fun hc5 => ?_) (fun hc5 => ?_)
      · rw [if_pos hc5] at h
        exact g_vret (Wd := k_W ad cA) hx hb hr hlk hK hI h d_C_addFactor_43
      · rw [if_neg hc5] at h
        refine lv_aload_n hx hb d_C_addFactor_17 rfl (lv_at hl 0 rfl) ?_
        refine g_get (v := .ref (ad 10)) hx hb hts in_C hown hK hI 4 rfl rfl 5 (by decide) (hts _ wd_47) rfl d_C_addFactor_18 ?_
        refine lv_iload_n hx hb d_C_addFactor_21 rfl (lv_at hl 1 rfl) ?_
        refine lv_iconst (v := 3) hx hb d_C_addFactor_22 (by decide) ?_
        refine lv_imul hx hb d_C_addFactor_23 ?_
        refine lv_iload_n hx hb d_C_addFactor_24 rfl (lv_at hl 2 rfl) ?_
        refine lv_iadd hx hb d_C_addFactor_25 ?_
        refine lv_dup2_11 hx hb d_C_addFactor_26 rfl rfl ?_
        obtain ⟨hg, h⟩ := gd_e h
        refine g_iald hx hb hK hI 10 7 rfl rfl hg d_C_addFactor_27 ?_
        refine lv_iload_n hx hb d_C_addFactor_28 rfl (lv_at hl 3 rfl) ?_
        refine lv_iadd hx hb d_C_addFactor_29 ?_
        obtain ⟨hg, h⟩ := gd_e h
        obtain ⟨u6, e_u6, h⟩ := lt_e h
        refine g_iast (w' := k_W ad cA u6) hx hb hK hI 10 7 rfl rfl hg d_C_addFactor_30 (by subst e_u6; rfl) (fun H locs hI => ?_)
        refine lv_aload_n hx hb d_C_addFactor_31 rfl (lv_at hl 0 rfl) ?_
        refine g_get (v := .ref (ad 11)) hx hb hts in_C hown hK hI 4 rfl rfl 6 (by decide) (hts _ wd_48) rfl d_C_addFactor_32 ?_
        refine lv_iload_n hx hb d_C_addFactor_35 rfl (lv_at hl 1 rfl) ?_
        refine lv_dup2_11 hx hb d_C_addFactor_36 rfl rfl ?_
        obtain ⟨hg, h⟩ := gd_e h
        refine g_iald hx hb hK hI 11 8 rfl rfl hg d_C_addFactor_37 ?_
        refine lv_iconst (v := 1) hx hb d_C_addFactor_38 (by decide) ?_
        refine lv_iload_n hx hb d_C_addFactor_39 rfl (lv_at hl 2 rfl) ?_
        refine lv_ishl hx hb d_C_addFactor_40 ?_
        refine lv_ior hx hb d_C_addFactor_41 ?_
        obtain ⟨hg, h⟩ := gd_e h
        obtain ⟨u7, e_u7, h⟩ := lt_e h
        refine g_iast (w' := k_W ad cA u7) hx hb hK hI 11 8 rfl rfl hg d_C_addFactor_42 (by subst e_u7; rfl) (fun H locs hI => ?_)
        exact g_vret (Wd := k_W ad cA) hx hb hr hlk hK hI h d_C_addFactor_43
