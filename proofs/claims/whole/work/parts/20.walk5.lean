def f_L_some (u : KS) : Option (Int32 × KS) := ob (f_W_hasOne u) fun r1 u2 => gd (bz r1) (some (r1, u2))
set_option maxRecDepth 100000 in
set_option maxHeartbeats 4000000 in
theorem c_L_some (l : Launch) (D : va_G) (ad : Nat → Nat) (cA : Nat → ClassId) {u u0 : KS} {r0 : Int32} (h : f_L_some u = some (r0, u0)) : g_M l y_L_some w_L_some { frames := 1, cells := 0, slots := 0, locals := 21 } D vwCl (k_T cA) (k_W ad cA u) [.ref (ad 0)] (some (.int r0)) (k_W ad cA u0) := by
  refine g_ofW (cc := c0_L_some) (maxL := 1) (ret := (some .boolean)) (by decide) rfl (Nat.le_of_ble_eq_true rfl) ?_
  intro p e s m below meth c A ls hx hb hr hml hown hts hlk hK hA hI hl
  have hts : ∀ w ∈ gW, w.before ([.ref (ad 0)] : List Value).toArray s = true := fun w h => hts w (List.mem_cons_of_mem _ h)
  have hown : s.vm.findClass R_L = some m.cls := hown
  have hl : lv_has ls 1 [(0, .ref (ad 0))] := hl
  dsimp only [f_L_some] at h
  refine lv_aload_n hx hb d_L_some_0 rfl (lv_at hl 0 rfl) ?_
  refine g_get (v := .ref (ad 14)) hx hb hts in_L hown hK hI 0 rfl rfl 3 (by decide) (hts _ wd_107) rfl d_L_some_1 ?_
  obtain ⟨r1, u2, hc, h⟩ := ob_e h
  refine g_callV (As := []) (rest := []) (w' := k_W ad cA u2) (o := some (.int r1)) ⟨hx, hb, hml, hown, hts⟩ (c_W_hasOne l D ad cA hc) (cwV 0 hts gq_L_85 rfl rfl rfl (by decide +kernel) ⟨Nat.le_of_ble_eq_true rfl, Nat.le_of_ble_eq_true rfl⟩) hK hI hA 14 4 rfl rfl rfl hl.1 rfl (Nat.le_of_ble_eq_true rfl) d_L_some_4 ⟨Nat.zero_le _, Nat.zero_le _⟩ rfl (fun H locs hI => ?_)
  exact g_zret (Wd := k_W ad cA) hx hb hr hlk hK hI h d_L_some_7
def f_W_hasEach_L2 (n : Nat) : Int32 → KS → Option (Int32 × KS) := match n with
  | 0 => fun _ _ => none
  | n + 1 => fun v1 u => if 3 ≤ v1 then (gd (bz 1) (some (1, u))) else (gd (inb v1 3) (if (lg_cmp (k_wd u v1.toNatClampNeg) ((-1))) = 0 then (lt_ (v1 + 1) fun x3 => f_W_hasEach_L2 n x3 u) else (gd (bz 0) (some (0, u)))))
def f_W_hasEach (u : KS) : Option (Int32 × KS) := f_W_hasEach_L2 4096 0 u
set_option maxRecDepth 100000 in
set_option maxHeartbeats 4000000 in
theorem c_W_hasEach (l : Launch) (D : va_G) (ad : Nat → Nat) (cA : Nat → ClassId) {u u0 : KS} {r0 : Int32} (h : f_W_hasEach u = some (r0, u0)) : g_M l y_W_hasEach w_W_hasEach { frames := 0, cells := 0, slots := 0, locals := 0 } D vwCl (k_T cA) (k_W ad cA u) [.ref (ad 14)] (some (.int r0)) (k_W ad cA u0) := by
  refine g_ofW (cc := c0_W_hasEach) (maxL := 2) (ret := (some .boolean)) (by decide) rfl (Nat.le_of_ble_eq_true rfl) ?_
  intro p e s m below meth c A ls hx hb hr hml hown hts hlk hK hA hI hl
  have hts : ∀ w ∈ gW, w.before ([.ref (ad 14)] : List Value).toArray s = true := fun w h => hts w (List.mem_cons_of_mem _ h)
  have hown : s.vm.findClass R_W = some m.cls := hown
  have hl : lv_has ls 2 [(0, .ref (ad 14))] := hl
  have w2 : ∀ (n : Nat) (v1 : Int32) (u : KS) (H : Heap) (locs : List Loc) (ls : Array Slot), lv_has ls 2 [(0, .ref (ad 14)), (1, .int v1)] → g_I D vwCl A s.heap H locs (k_W ad cA u) → f_W_hasEach_L2 n v1 u = some (r0, u0) → W p l e { frames := 0, cells := 0, slots := 0, locals := 0 } s m ([.ref (ad 14)] : List Value).toArray below meth c H locs 0 0 (MQ below (g_Q D vwCl (k_T cA) (k_W ad cA u0) A (some (.int r0))) ([.ref (ad 14)] : List Value).toArray s 0 0 A) (F0 m 2 ls []) := by
    intro  n
    induction n with
    | zero => intro v1 u H locs ls hl hI h; cases h
    | succ n ih =>
      intro v1 u H locs ls hl hI h
      dsimp only [f_W_hasEach_L2] at h
      refine lv_iload_n hx hb d_W_hasEach_2 rfl (lv_at hl 1 rfl) ?_
      refine lv_iconst (v := 3) hx hb d_W_hasEach_3 (by decide) ?_
      refine lv_icmp_ge (tgt := 28) hx hb d_W_hasEach_4 rfl (fun hc1 => ?_) (fun hc1 => ?_)
      · rw [if_pos hc1] at h
        refine lv_iconst (v := 1) hx hb d_W_hasEach_28 (by decide) ?_
        exact g_zret (Wd := k_W ad cA) hx hb hr hlk hK hI h d_W_hasEach_29
      · rw [if_neg hc1] at h
        refine lv_aload_n hx hb d_W_hasEach_7 rfl (lv_at hl 0 rfl) ?_
        refine g_get (v := .ref (ad 15)) hx hb hts in_W hown hK hI 14 rfl rfl 0 (by decide) (hts _ wd_99) rfl d_W_hasEach_8 ?_
        refine lv_iload_n hx hb d_W_hasEach_11 rfl (lv_at hl 1 rfl) ?_
        obtain ⟨hg, h⟩ := gd_e h
        refine g_lald hx hb hK hI 15 10 rfl rfl hg d_W_hasEach_12 ?_
        refine lv_ldc2 (v := (-1)) hx hb hown (hts _ wd_98) d_W_hasEach_13 ?_
        refine W.lcmp hx hb d_W_hasEach_16 ?_
        refine lv_if_eq (tgt := 22) hx hb d_W_hasEach_17 rfl (fun hc2 => ?_) (fun hc2 => ?_)
        · rw [if_pos hc2] at h
          obtain ⟨x3, e_x3, h⟩ := lt_e h
          refine lv_iinc (v := x3) (k := 1) hx hb d_W_hasEach_22 hl rfl (by subst e_x3; rfl) (by decide) rfl (fun ls hl => ?_)
          refine lv_goto (tgt := 2) hx hb d_W_hasEach_25 rfl ?_
          exact ih x3 u _ _ _ (lv_sub hl [1, 0] rfl) hI h
        · rw [if_neg hc2] at h
          refine lv_iconst (v := 0) hx hb d_W_hasEach_20 (by decide) ?_
          exact g_zret (Wd := k_W ad cA) hx hb hr hlk hK hI h d_W_hasEach_21
  dsimp only [f_W_hasEach] at h
  refine lv_iconst (v := 0) hx hb d_W_hasEach_0 (by decide) ?_
  refine lv_istore_n (lv' := [(1, .int 0), (0, .ref (ad 14))]) hx hb d_W_hasEach_1 rfl hl (by decide) rfl (fun ls hl => ?_)
  exact w2 4096 0 u _ _ _ (lv_sub hl [1, 0] rfl) hI h
def f_L_all (u : KS) : Option (Int32 × KS) := ob (f_W_hasEach u) fun r1 u2 => gd (bz r1) (some (r1, u2))
set_option maxRecDepth 100000 in
set_option maxHeartbeats 4000000 in
theorem c_L_all (l : Launch) (D : va_G) (ad : Nat → Nat) (cA : Nat → ClassId) {u u0 : KS} {r0 : Int32} (h : f_L_all u = some (r0, u0)) : g_M l y_L_all w_L_all { frames := 1, cells := 0, slots := 0, locals := 21 } D vwCl (k_T cA) (k_W ad cA u) [.ref (ad 0)] (some (.int r0)) (k_W ad cA u0) := by
  refine g_ofW (cc := c0_L_all) (maxL := 1) (ret := (some .boolean)) (by decide) rfl (Nat.le_of_ble_eq_true rfl) ?_
  intro p e s m below meth c A ls hx hb hr hml hown hts hlk hK hA hI hl
  have hts : ∀ w ∈ gW, w.before ([.ref (ad 0)] : List Value).toArray s = true := fun w h => hts w (List.mem_cons_of_mem _ h)
  have hown : s.vm.findClass R_L = some m.cls := hown
  have hl : lv_has ls 1 [(0, .ref (ad 0))] := hl
  dsimp only [f_L_all] at h
  refine lv_aload_n hx hb d_L_all_0 rfl (lv_at hl 0 rfl) ?_
  refine g_get (v := .ref (ad 14)) hx hb hts in_L hown hK hI 0 rfl rfl 3 (by decide) (hts _ wd_107) rfl d_L_all_1 ?_
  obtain ⟨r1, u2, hc, h⟩ := ob_e h
  refine g_callV (As := []) (rest := []) (w' := k_W ad cA u2) (o := some (.int r1)) ⟨hx, hb, hml, hown, hts⟩ (c_W_hasEach l D ad cA hc) (cwV 0 hts gq_L_88 rfl rfl rfl (by decide +kernel) ⟨Nat.le_of_ble_eq_true rfl, Nat.le_of_ble_eq_true rfl⟩) hK hI hA 14 4 rfl rfl rfl hl.1 rfl (Nat.le_of_ble_eq_true rfl) d_L_all_4 ⟨Nat.zero_le _, Nat.zero_le _⟩ rfl (fun H locs hI => ?_)
  exact g_zret (Wd := k_W ad cA) hx hb hr hlk hK hI h d_L_all_7
def f_J_max (a0 : Int32) (a1 : Int32) (u : KS) : Option (Int32 × KS) := if a0 < a1 then some (a1, u) else some (a0, u)
set_option maxRecDepth 100000 in
set_option maxHeartbeats 4000000 in
theorem c_J_max (l : Launch) (D : va_G) (ad : Nat → Nat) (cA : Nat → ClassId) {a0 : Int32} {a1 : Int32} {u u0 : KS} {r0 : Int32} (h : f_J_max a0 a1 u = some (r0, u0)) : g_M l y_J_max w_J_max { frames := 0, cells := 0, slots := 0, locals := 0 } D vwCl (k_T cA) (k_W ad cA u) [.int a0, .int a1] (some (.int r0)) (k_W ad cA u0) := by
  refine g_ofF (cc := c0_J_max) (maxL := 2) (ret := (some .int)) (by decide +kernel) rfl (Nat.le_of_ble_eq_true rfl) ?_
  intro p e s m below meth c A ls hx hb hr hml hown hts hlk hK hA hI hl
  have hts : ∀ w ∈ gW, w.before ([.int a0, .int a1] : List Value).toArray s = true := fun w h => hts w (List.mem_cons_of_mem _ h)
  have hown : s.vm.findClass R_J = some m.cls := hown
  have hl : lv_has ls 2 [(0, .int a0), (1, .int a1)] := hl
  dsimp only [f_J_max] at h
  refine lv_iload_n hx hb d_J_max_0 rfl (lv_at hl 0 rfl) ?_
  refine lv_iload_n hx hb d_J_max_1 rfl (lv_at hl 1 rfl) ?_
  refine lv_icmp_lt (tgt := 9) hx hb d_J_max_2 rfl (fun hc1 => ?_) (fun hc1 => ?_)
  · rw [if_pos hc1] at h
    refine lv_iload_n hx hb d_J_max_9 rfl (lv_at hl 1 rfl) ?_
    exact g_iret (Wd := k_W ad cA) hx hb hr hlk hK hI h d_J_max_10
  · rw [if_neg hc1] at h
    refine lv_iload_n hx hb d_J_max_5 rfl (lv_at hl 0 rfl) ?_
    refine lv_goto (tgt := 10) hx hb d_J_max_6 rfl ?_
    exact g_iret (Wd := k_W ad cA) hx hb hr hlk hK hI h d_J_max_10
def f_L_next_L22 (n : Nat) : Int32 → Int32 → KS → Option (Int32 × KS) := match n with
  | 0 => fun _ _ _ => none
  | n + 1 => fun v2 v3 u => if v2 < v3 then some (1000000, u) else (ob (f_W_has v3 u) fun r8 u9 => if r8 = 0 then (lt_ (v3 + 1) fun x11 => f_L_next_L22 n v2 x11 u9) else some (v3, u9))
def f_L_next (a1 : Int32) (u : KS) : Option (Int32 × KS) := ob (f_L_isNear a1 u) fun r1 u2 => if r1 = 0 then some (1000000, u2) else (ob (f_J_max a1 95 u2) fun r4 u5 => lt_ (r4 + 12) fun x6 => f_L_next_L22 4096 x6 a1 u5)
set_option maxRecDepth 100000 in
set_option maxHeartbeats 4000000 in
theorem c_L_next (l : Launch) (D : va_G) (ad : Nat → Nat) (cA : Nat → ClassId) {a1 : Int32} {u u0 : KS} {r0 : Int32} (h : f_L_next a1 u = some (r0, u0)) : g_M l y_L_next w_L_next { frames := 3, cells := 0, slots := 0, locals := 64 } D vwCl (k_T cA) (k_W ad cA u) [.ref (ad 0), .int a1] (some (.int r0)) (k_W ad cA u0) := by
  refine g_ofW (cc := c0_L_next) (maxL := 4) (ret := (some .int)) (by decide) rfl (Nat.le_of_ble_eq_true rfl) ?_
  intro p e s m below meth c A ls hx hb hr hml hown hts hlk hK hA hI hl
  have hts : ∀ w ∈ gW, w.before ([.ref (ad 0), .int a1] : List Value).toArray s = true := fun w h => hts w (List.mem_cons_of_mem _ h)
  have hown : s.vm.findClass R_L = some m.cls := hown
  have hl : lv_has ls 4 [(0, .ref (ad 0)), (1, .int a1)] := hl
  have w22 : ∀ (n : Nat) (v2 : Int32) (v3 : Int32) (u : KS) (H : Heap) (locs : List Loc) (ls : Array Slot), lv_has ls 4 [(0, .ref (ad 0)), (2, .int v2), (3, .int v3)] → g_I D vwCl A s.heap H locs (k_W ad cA u) → f_L_next_L22 n v2 v3 u = some (r0, u0) → W p l e { frames := 3, cells := 0, slots := 0, locals := 64 } s m ([.ref (ad 0), .int a1] : List Value).toArray below meth c H locs 0 0 (MQ below (g_Q D vwCl (k_T cA) (k_W ad cA u0) A (some (.int r0))) ([.ref (ad 0), .int a1] : List Value).toArray s 0 0 A) (F0 m 22 ls []) := by
    intro  n
    induction n with
    | zero => intro v2 v3 u H locs ls hl hI h; cases h
    | succ n ih =>
      intro v2 v3 u H locs ls hl hI h
      dsimp only [f_L_next_L22] at h
      refine lv_iload_n hx hb d_L_next_22 rfl (lv_at hl 2 rfl) ?_
      refine lv_iload_n hx hb d_L_next_23 rfl (lv_at hl 1 rfl) ?_
      refine lv_icmp_gt (tgt := 46) hx hb d_L_next_24 rfl (fun hc7 => ?_) (fun hc7 => ?_)
      · rw [if_pos hc7] at h
        refine lv_ldc (v := 1000000) hx hb hown (hts _ wd_357) d_L_next_46 ?_
        exact g_iret (Wd := k_W ad cA) hx hb hr hlk hK hI h d_L_next_48
      · rw [if_neg hc7] at h
        refine lv_aload_n hx hb d_L_next_27 rfl (lv_at hl 0 rfl) ?_
        refine g_get (v := .ref (ad 14)) hx hb hts in_L hown hK hI 0 rfl rfl 3 (by decide) (hts _ wd_107) rfl d_L_next_28 ?_
        refine lv_iload_n hx hb d_L_next_31 rfl (lv_at hl 2 rfl) ?_
        obtain ⟨r8, u9, hc, h⟩ := ob_e h
        refine g_callV (As := [.int v3]) (rest := []) (w' := k_W ad cA u9) (o := some (.int r8)) ⟨hx, hb, hml, hown, hts⟩ (c_W_has l D ad cA hc) (cwV 1 hts gq_L_82 rfl rfl rfl (by decide +kernel) ⟨Nat.le_of_ble_eq_true rfl, Nat.le_of_ble_eq_true rfl⟩) hK hI hA 14 4 rfl rfl rfl hl.1 rfl (Nat.le_of_ble_eq_true rfl) d_L_next_32 ⟨Nat.zero_le _, Nat.zero_le _⟩ rfl (fun H locs hI => ?_)
        refine lv_if_eq (tgt := 40) hx hb d_L_next_35 rfl (fun hc10 => ?_) (fun hc10 => ?_)
        · rw [if_pos hc10] at h
          obtain ⟨x11, e_x11, h⟩ := lt_e h
          refine lv_iinc (v := x11) (k := 2) hx hb d_L_next_40 hl rfl (by subst e_x11; rfl) (by decide) rfl (fun ls hl => ?_)
          refine lv_goto (tgt := 22) hx hb d_L_next_43 rfl ?_
          exact ih v2 x11 u9 _ _ _ (lv_sub hl [1, 2, 0] rfl) hI h
        · rw [if_neg hc10] at h
          refine lv_iload_n hx hb d_L_next_38 rfl (lv_at hl 2 rfl) ?_
          exact g_iret (Wd := k_W ad cA) hx hb hr hlk hK hI h d_L_next_39
  dsimp only [f_L_next] at h
  refine lv_iload_n hx hb d_L_next_0 rfl (lv_at hl 1 rfl) ?_
  obtain ⟨r1, u2, hc, h⟩ := ob_e h
  refine g_callS (As := [.int a1]) (rest := []) (w' := k_W ad cA u2) (o := some (.int r1)) ⟨hx, hb, hml, hown, hts⟩ (c_L_isNear l D ad cA hc) (va_cwS 1 hts gq_L_79 rfl rfl rfl (by decide +kernel) ⟨Nat.le_of_ble_eq_true rfl, Nat.le_of_ble_eq_true rfl⟩) hK hI hA rfl hl.1 rfl (Nat.le_of_ble_eq_true rfl) d_L_next_1 ⟨Nat.zero_le _, Nat.zero_le _⟩ rfl (fun H locs hI => ?_)
  refine lv_if_ne (tgt := 10) hx hb d_L_next_4 rfl (fun hc3 => ?_) (fun hc3 => ?_)
  · rw [if_neg hc3] at h
    refine lv_iload_n hx hb d_L_next_10 rfl (lv_at hl 1 rfl) ?_
    refine lv_bipush (v := 95) hx hb d_L_next_11 (by decide) ?_
    obtain ⟨r4, u5, hc, h⟩ := ob_e h
    refine g_callS (As := [.int a1, .int 95]) (rest := []) (w' := k_W ad cA u5) (o := some (.int r4)) ⟨hx, hb, hml, hown, hts⟩ (c_J_max l D ad cA hc) (va_cwS 2 hts gq_L_92 rfl rfl rfl (by decide +kernel) ⟨Nat.le_of_ble_eq_true rfl, Nat.le_of_ble_eq_true rfl⟩) hK hI hA rfl hl.1 rfl (Nat.le_of_ble_eq_true rfl) d_L_next_13 ⟨Nat.zero_le _, Nat.zero_le _⟩ rfl (fun H locs hI => ?_)
    refine lv_bipush (v := 12) hx hb d_L_next_16 (by decide) ?_
    refine lv_iadd hx hb d_L_next_18 ?_
    obtain ⟨x6, e_x6, h⟩ := lt_e h
    refine lv_istore_n (lv' := [(2, .int x6), (0, .ref (ad 0)), (1, .int a1)]) hx hb d_L_next_19 rfl hl (by decide) (by subst e_x6; rfl) (fun ls hl => ?_)
    refine lv_iload_n hx hb d_L_next_20 rfl (lv_at hl 2 rfl) ?_
    refine lv_istore_n (lv' := [(3, .int a1), (2, .int x6), (0, .ref (ad 0)), (1, .int a1)]) hx hb d_L_next_21 rfl hl (by decide) rfl (fun ls hl => ?_)
    exact w22 4096 x6 a1 u5 _ _ _ (lv_sub hl [2, 1, 0] rfl) hI h
  · rw [if_pos hc3] at h
    refine lv_ldc (v := 1000000) hx hb hown (hts _ wd_357) d_L_next_7 ?_
    exact g_iret (Wd := k_W ad cA) hx hb hr hlk hK hI h d_L_next_9
def f_J_min (a0 : Int32) (a1 : Int32) (u : KS) : Option (Int32 × KS) := if a1 < a0 then some (a1, u) else some (a0, u)
set_option maxRecDepth 100000 in
set_option maxHeartbeats 4000000 in
theorem c_J_min (l : Launch) (D : va_G) (ad : Nat → Nat) (cA : Nat → ClassId) {a0 : Int32} {a1 : Int32} {u u0 : KS} {r0 : Int32} (h : f_J_min a0 a1 u = some (r0, u0)) : g_M l y_J_min w_J_min { frames := 0, cells := 0, slots := 0, locals := 0 } D vwCl (k_T cA) (k_W ad cA u) [.int a0, .int a1] (some (.int r0)) (k_W ad cA u0) := by
  refine g_ofF (cc := c0_J_min) (maxL := 2) (ret := (some .int)) (by decide +kernel) rfl (Nat.le_of_ble_eq_true rfl) ?_
  intro p e s m below meth c A ls hx hb hr hml hown hts hlk hK hA hI hl
  have hts : ∀ w ∈ gW, w.before ([.int a0, .int a1] : List Value).toArray s = true := fun w h => hts w (List.mem_cons_of_mem _ h)
  have hown : s.vm.findClass R_J = some m.cls := hown
  have hl : lv_has ls 2 [(0, .int a0), (1, .int a1)] := hl
  dsimp only [f_J_min] at h
  refine lv_iload_n hx hb d_J_min_0 rfl (lv_at hl 0 rfl) ?_
  refine lv_iload_n hx hb d_J_min_1 rfl (lv_at hl 1 rfl) ?_
  refine lv_icmp_gt (tgt := 9) hx hb d_J_min_2 rfl (fun hc1 => ?_) (fun hc1 => ?_)
  · rw [if_pos hc1] at h
    refine lv_iload_n hx hb d_J_min_9 rfl (lv_at hl 1 rfl) ?_
    exact g_iret (Wd := k_W ad cA) hx hb hr hlk hK hI h d_J_min_10
  · rw [if_neg hc1] at h
    refine lv_iload_n hx hb d_J_min_5 rfl (lv_at hl 0 rfl) ?_
    refine lv_goto (tgt := 10) hx hb d_J_min_6 rfl ?_
    exact g_iret (Wd := k_W ad cA) hx hb hr hlk hK hI h d_J_min_10
def f_L_last_L22 (n : Nat) : Int32 → Int32 → KS → Option (Int32 × KS) := match n with
  | 0 => fun _ _ _ => none
  | n + 1 => fun v2 v3 u => if v3 < v2 then some ((-1000000), u) else (ob (f_W_has v3 u) fun r8 u9 => if r8 = 0 then (lt_ (v3 + (-1)) fun x11 => f_L_last_L22 n v2 x11 u9) else some (v3, u9))
def f_L_last (a1 : Int32) (u : KS) : Option (Int32 × KS) := ob (f_L_isNear a1 u) fun r1 u2 => if r1 = 0 then some ((-1000000), u2) else (ob (f_J_min a1 ((-96)) u2) fun r4 u5 => lt_ (r4 - 12) fun x6 => f_L_last_L22 4096 x6 a1 u5)
set_option maxRecDepth 100000 in
set_option maxHeartbeats 4000000 in
theorem c_L_last (l : Launch) (D : va_G) (ad : Nat → Nat) (cA : Nat → ClassId) {a1 : Int32} {u u0 : KS} {r0 : Int32} (h : f_L_last a1 u = some (r0, u0)) : g_M l y_L_last w_L_last { frames := 3, cells := 0, slots := 0, locals := 64 } D vwCl (k_T cA) (k_W ad cA u) [.ref (ad 0), .int a1] (some (.int r0)) (k_W ad cA u0) := by
  refine g_ofW (cc := c0_L_last) (maxL := 4) (ret := (some .int)) (by decide) rfl (Nat.le_of_ble_eq_true rfl) ?_
  intro p e s m below meth c A ls hx hb hr hml hown hts hlk hK hA hI hl
  have hts : ∀ w ∈ gW, w.before ([.ref (ad 0), .int a1] : List Value).toArray s = true := fun w h => hts w (List.mem_cons_of_mem _ h)
  have hown : s.vm.findClass R_L = some m.cls := hown
  have hl : lv_has ls 4 [(0, .ref (ad 0)), (1, .int a1)] := hl
  have w22 : ∀ (n : Nat) (v2 : Int32) (v3 : Int32) (u : KS) (H : Heap) (locs : List Loc) (ls : Array Slot), lv_has ls 4 [(0, .ref (ad 0)), (2, .int v2), (3, .int v3)] → g_I D vwCl A s.heap H locs (k_W ad cA u) → f_L_last_L22 n v2 v3 u = some (r0, u0) → W p l e { frames := 3, cells := 0, slots := 0, locals := 64 } s m ([.ref (ad 0), .int a1] : List Value).toArray below meth c H locs 0 0 (MQ below (g_Q D vwCl (k_T cA) (k_W ad cA u0) A (some (.int r0))) ([.ref (ad 0), .int a1] : List Value).toArray s 0 0 A) (F0 m 22 ls []) := by
    intro  n
    induction n with
    | zero => intro v2 v3 u H locs ls hl hI h; cases h
    | succ n ih =>
      intro v2 v3 u H locs ls hl hI h
      dsimp only [f_L_last_L22] at h
      refine lv_iload_n hx hb d_L_last_22 rfl (lv_at hl 2 rfl) ?_
      refine lv_iload_n hx hb d_L_last_23 rfl (lv_at hl 1 rfl) ?_
      refine lv_icmp_lt (tgt := 46) hx hb d_L_last_24 rfl (fun hc7 => ?_) (fun hc7 => ?_)
      · rw [if_pos hc7] at h
        refine lv_ldc (v := (-1000000)) hx hb hown (hts _ wd_365) d_L_last_46 ?_
        exact g_iret (Wd := k_W ad cA) hx hb hr hlk hK hI h d_L_last_48
      · rw [if_neg hc7] at h
        refine lv_aload_n hx hb d_L_last_27 rfl (lv_at hl 0 rfl) ?_
        refine g_get (v := .ref (ad 14)) hx hb hts in_L hown hK hI 0 rfl rfl 3 (by decide) (hts _ wd_107) rfl d_L_last_28 ?_
        refine lv_iload_n hx hb d_L_last_31 rfl (lv_at hl 2 rfl) ?_
        obtain ⟨r8, u9, hc, h⟩ := ob_e h
        refine g_callV (As := [.int v3]) (rest := []) (w' := k_W ad cA u9) (o := some (.int r8)) ⟨hx, hb, hml, hown, hts⟩ (c_W_has l D ad cA hc) (cwV 1 hts gq_L_82 rfl rfl rfl (by decide +kernel) ⟨Nat.le_of_ble_eq_true rfl, Nat.le_of_ble_eq_true rfl⟩) hK hI hA 14 4 rfl rfl rfl hl.1 rfl (Nat.le_of_ble_eq_true rfl) d_L_last_32 ⟨Nat.zero_le _, Nat.zero_le _⟩ rfl (fun H locs hI => ?_)
        refine lv_if_eq (tgt := 40) hx hb d_L_last_35 rfl (fun hc10 => ?_) (fun hc10 => ?_)
        · rw [if_pos hc10] at h
          obtain ⟨x11, e_x11, h⟩ := lt_e h
          refine lv_iinc (v := x11) (k := 2) hx hb d_L_last_40 hl rfl (by subst e_x11; rfl) (by decide) rfl (fun ls hl => ?_)
          refine lv_goto (tgt := 22) hx hb d_L_last_43 rfl ?_
          exact ih v2 x11 u9 _ _ _ (lv_sub hl [1, 2, 0] rfl) hI h
        · rw [if_neg hc10] at h
          refine lv_iload_n hx hb d_L_last_38 rfl (lv_at hl 2 rfl) ?_
          exact g_iret (Wd := k_W ad cA) hx hb hr hlk hK hI h d_L_last_39
  dsimp only [f_L_last] at h
  refine lv_iload_n hx hb d_L_last_0 rfl (lv_at hl 1 rfl) ?_
  obtain ⟨r1, u2, hc, h⟩ := ob_e h
  refine g_callS (As := [.int a1]) (rest := []) (w' := k_W ad cA u2) (o := some (.int r1)) ⟨hx, hb, hml, hown, hts⟩ (c_L_isNear l D ad cA hc) (va_cwS 1 hts gq_L_79 rfl rfl rfl (by decide +kernel) ⟨Nat.le_of_ble_eq_true rfl, Nat.le_of_ble_eq_true rfl⟩) hK hI hA rfl hl.1 rfl (Nat.le_of_ble_eq_true rfl) d_L_last_1 ⟨Nat.zero_le _, Nat.zero_le _⟩ rfl (fun H locs hI => ?_)
  refine lv_if_ne (tgt := 10) hx hb d_L_last_4 rfl (fun hc3 => ?_) (fun hc3 => ?_)
  · rw [if_neg hc3] at h
    refine lv_iload_n hx hb d_L_last_10 rfl (lv_at hl 1 rfl) ?_
    refine lv_bipush (v := (-96)) hx hb d_L_last_11 (by decide) ?_
    obtain ⟨r4, u5, hc, h⟩ := ob_e h
    refine g_callS (As := [.int a1, .int ((-96))]) (rest := []) (w' := k_W ad cA u5) (o := some (.int r4)) ⟨hx, hb, hml, hown, hts⟩ (c_J_min l D ad cA hc) (va_cwS 2 hts gq_L_98 rfl rfl rfl (by decide +kernel) ⟨Nat.le_of_ble_eq_true rfl, Nat.le_of_ble_eq_true rfl⟩) hK hI hA rfl hl.1 rfl (Nat.le_of_ble_eq_true rfl) d_L_last_13 ⟨Nat.zero_le _, Nat.zero_le _⟩ rfl (fun H locs hI => ?_)
    refine lv_bipush (v := 12) hx hb d_L_last_16 (by decide) ?_
    refine lv_isub hx hb d_L_last_18 ?_
    obtain ⟨x6, e_x6, h⟩ := lt_e h
    refine lv_istore_n (lv' := [(2, .int x6), (0, .ref (ad 0)), (1, .int a1)]) hx hb d_L_last_19 rfl hl (by decide) (by subst e_x6; rfl) (fun ls hl => ?_)
    refine lv_iload_n hx hb d_L_last_20 rfl (lv_at hl 2 rfl) ?_
    refine lv_istore_n (lv' := [(3, .int a1), (2, .int x6), (0, .ref (ad 0)), (1, .int a1)]) hx hb d_L_last_21 rfl hl (by decide) rfl (fun ls hl => ?_)
    exact w22 4096 x6 a1 u5 _ _ _ (lv_sub hl [2, 1, 0] rfl) hI h
  · rw [if_pos hc3] at h
    refine lv_ldc (v := (-1000000)) hx hb hown (hts _ wd_365) d_L_last_7 ?_
    exact g_iret (Wd := k_W ad cA) hx hb hr hlk hK hI h d_L_last_9
def f_L_again_J27 (k2 : Int32 → Int32 → KS → Option (Int32 × KS)) (v1 : Int32) (v2 : Int32) (t0 : Int32) (u : KS) : Option (Int32 × KS) := ob (f_W_has t0 u) fun r3 u4 => if r3 = 0 then (lt_ (v2 + 1) fun x6 => k2 v1 x6 u4) else (gd (bz 1) (some (1, u4)))
def f_L_again_L2 (n : Nat) : Int32 → Int32 → KS → Option (Int32 × KS) := match n with
  | 0 => fun _ _ _ => none
  | n + 1 => fun v1 v2 u => if 12 ≤ v2 then (gd (bz 0) (some (0, u))) else (if v1 = 0 then f_L_again_J27 (f_L_again_L2 n) v1 v2 (((-96)) + v2) u else f_L_again_J27 (f_L_again_L2 n) v1 v2 (95 - v2) u)
def f_L_again (a1 : Int32) (u : KS) : Option (Int32 × KS) := f_L_again_L2 4096 a1 0 u
set_option maxRecDepth 100000 in
set_option maxHeartbeats 4000000 in
theorem c_L_again (l : Launch) (D : va_G) (ad : Nat → Nat) (cA : Nat → ClassId) {a1 : Int32} {u u0 : KS} {r0 : Int32} (h : f_L_again a1 u = some (r0, u0)) : g_M l y_L_again w_L_again { frames := 3, cells := 0, slots := 0, locals := 64 } D vwCl (k_T cA) (k_W ad cA u) [.ref (ad 0), .int a1] (some (.int r0)) (k_W ad cA u0) := by
  refine g_ofW (cc := c0_L_again) (maxL := 3) (ret := (some .boolean)) (by decide) rfl (Nat.le_of_ble_eq_true rfl) ?_
  intro p e s m below meth c A ls hx hb hr hml hown hts hlk hK hA hI hl
  have hts : ∀ w ∈ gW, w.before ([.ref (ad 0), .int a1] : List Value).toArray s = true := fun w h => hts w (List.mem_cons_of_mem _ h)
  have hown : s.vm.findClass R_L = some m.cls := hown
  have hl : lv_has ls 3 [(0, .ref (ad 0)), (1, .int a1)] := hl
  have w27 : ∀ (k2 : Int32 → Int32 → KS → Option (Int32 × KS)) (hk2 : ∀ (v1 : Int32) (v2 : Int32) (u : KS) (H : Heap) (locs : List Loc) (ls : Array Slot), lv_has ls 3 [(0, .ref (ad 0)), (1, .int v1), (2, .int v2)] → g_I D vwCl A s.heap H locs (k_W ad cA u) → k2 v1 v2 u = some (r0, u0) → W p l e { frames := 3, cells := 0, slots := 0, locals := 64 } s m ([.ref (ad 0), .int a1] : List Value).toArray below meth c H locs 0 0 (MQ below (g_Q D vwCl (k_T cA) (k_W ad cA u0) A (some (.int r0))) ([.ref (ad 0), .int a1] : List Value).toArray s 0 0 A) (F0 m 2 ls [])) (v1 : Int32) (v2 : Int32) (t0 : Int32) (u : KS) (H : Heap) (locs : List Loc) (ls : Array Slot), lv_has ls 3 [(0, .ref (ad 0)), (1, .int v1), (2, .int v2)] → g_I D vwCl A s.heap H locs (k_W ad cA u) → f_L_again_J27 k2 v1 v2 t0 u = some (r0, u0) → W p l e { frames := 3, cells := 0, slots := 0, locals := 64 } s m ([.ref (ad 0), .int a1] : List Value).toArray below meth c H locs 0 0 (MQ below (g_Q D vwCl (k_T cA) (k_W ad cA u0) A (some (.int r0))) ([.ref (ad 0), .int a1] : List Value).toArray s 0 0 A) (F0 m 27 ls [.int t0, .ref (ad 14)]) := by
    intro k2 hk2 v1 v2 t0 u H locs ls hl hI h
    dsimp only [f_L_again_J27] at h
    obtain ⟨r3, u4, hc, h⟩ := ob_e h
    refine g_callV (As := [.int t0]) (rest := []) (w' := k_W ad cA u4) (o := some (.int r3)) ⟨hx, hb, hml, hown, hts⟩ (c_W_has l D ad cA hc) (cwV 1 hts gq_L_82 rfl rfl rfl (by decide +kernel) ⟨Nat.le_of_ble_eq_true rfl, Nat.le_of_ble_eq_true rfl⟩) hK hI hA 14 4 rfl rfl rfl hl.1 rfl (Nat.le_of_ble_eq_true rfl) d_L_again_27 ⟨Nat.zero_le _, Nat.zero_le _⟩ rfl (fun H locs hI => ?_)
    refine lv_if_eq (tgt := 35) hx hb d_L_again_30 rfl (fun hc5 => ?_) (fun hc5 => ?_)
    · rw [if_pos hc5] at h
      obtain ⟨x6, e_x6, h⟩ := lt_e h
      refine lv_iinc (v := x6) (k := 2) hx hb d_L_again_35 hl rfl (by subst e_x6; rfl) (by decide) rfl (fun ls hl => ?_)
      refine lv_goto (tgt := 2) hx hb d_L_again_38 rfl ?_
      exact hk2 v1 x6 u4 _ _ _ (lv_sub hl [1, 2, 0] rfl) hI h
    · rw [if_neg hc5] at h
      refine lv_iconst (v := 1) hx hb d_L_again_33 (by decide) ?_
      exact g_zret (Wd := k_W ad cA) hx hb hr hlk hK hI h d_L_again_34
  have w2 : ∀ (n : Nat) (v1 : Int32) (v2 : Int32) (u : KS) (H : Heap) (locs : List Loc) (ls : Array Slot), lv_has ls 3 [(0, .ref (ad 0)), (1, .int v1), (2, .int v2)] → g_I D vwCl A s.heap H locs (k_W ad cA u) → f_L_again_L2 n v1 v2 u = some (r0, u0) → W p l e { frames := 3, cells := 0, slots := 0, locals := 64 } s m ([.ref (ad 0), .int a1] : List Value).toArray below meth c H locs 0 0 (MQ below (g_Q D vwCl (k_T cA) (k_W ad cA u0) A (some (.int r0))) ([.ref (ad 0), .int a1] : List Value).toArray s 0 0 A) (F0 m 2 ls []) := by
    intro  n
    induction n with
    | zero => intro v1 v2 u H locs ls hl hI h; cases h
    | succ n ih =>
      intro v1 v2 u H locs ls hl hI h
      dsimp only [f_L_again_L2] at h
      refine lv_iload_n hx hb d_L_again_2 rfl (lv_at hl 2 rfl) ?_
      refine lv_bipush (v := 12) hx hb d_L_again_3 (by decide) ?_
      refine lv_icmp_ge (tgt := 41) hx hb d_L_again_5 rfl (fun hc1 => ?_) (fun hc1 => ?_)
      · rw [if_pos hc1] at h
        refine lv_iconst (v := 0) hx hb d_L_again_41 (by decide) ?_
        exact g_zret (Wd := k_W ad cA) hx hb hr hlk hK hI h d_L_again_42
      · rw [if_neg hc1] at h
        refine lv_aload_n hx hb d_L_again_8 rfl (lv_at hl 0 rfl) ?_
        refine g_get (v := .ref (ad 14)) hx hb hts in_L hown hK hI 0 rfl rfl 3 (by decide) (hts _ wd_107) rfl d_L_again_9 ?_
        refine lv_iload_n hx hb d_L_again_12 rfl (lv_at hl 1 rfl) ?_
        refine lv_if_eq (tgt := 23) hx hb d_L_again_13 rfl (fun hc2 => ?_) (fun hc2 => ?_)
        · rw [if_pos hc2] at h
          refine lv_bipush (v := (-96)) hx hb d_L_again_23 (by decide) ?_
          refine lv_iload_n hx hb d_L_again_25 rfl (lv_at hl 2 rfl) ?_
          refine lv_iadd hx hb d_L_again_26 ?_
          exact w27 (f_L_again_L2 n) ih v1 v2 (((-96)) + v2) u _ _ _ (lv_sub hl [0, 1, 2] rfl) hI h
        · rw [if_neg hc2] at h
          refine lv_bipush (v := 95) hx hb d_L_again_16 (by decide) ?_
          refine lv_iload_n hx hb d_L_again_18 rfl (lv_at hl 2 rfl) ?_
          refine lv_isub hx hb d_L_again_19 ?_
          refine lv_goto (tgt := 27) hx hb d_L_again_20 rfl ?_
          exact w27 (f_L_again_L2 n) ih v1 v2 (95 - v2) u _ _ _ (lv_sub hl [0, 1, 2] rfl) hI h
  dsimp only [f_L_again] at h
  refine lv_iconst (v := 0) hx hb d_L_again_0 (by decide) ?_
  refine lv_istore_n (lv' := [(2, .int 0), (0, .ref (ad 0)), (1, .int a1)]) hx hb d_L_again_1 rfl hl (by decide) rfl (fun ls hl => ?_)
  exact w2 4096 a1 0 u _ _ _ (lv_sub hl [1, 2, 0] rfl) hI h
def f_L_count_L36 (n : Nat) : Int32 → Int32 → Int32 → KS → Option (Int32 × KS) := match n with
  | 0 => fun _ _ _ _ => none
  | n + 1 => fun v2 v3 v4 u => if v2 < v4 then some (v3, u) else (ob (f_W_has v4 u) fun r10 u11 => if r10 = 0 then (lt_ (v4 + 1) fun x13 => f_L_count_L36 n v2 v3 x13 u11) else (lt_ (v3 + 1) fun x14 => lt_ (v4 + 1) fun x15 => f_L_count_L36 n v2 x14 x15 u11))
def f_L_count (a1 : Int32) (a2 : Int32) (u : KS) : Option (Int32 × KS) := ob (f_L_isNear a1 u) fun r1 u2 => if r1 = 0 then some ((-1), u2) else (ob (f_L_isNear a2 u2) fun r4 u5 => if r4 = 0 then some ((-1), u5) else (if a2 < (a1 - 1) then some ((-1), u5) else (if a2 < (a1 + 100) then f_L_count_L36 4096 a2 0 a1 u5 else some ((-1), u5))))
set_option maxRecDepth 100000 in
set_option maxHeartbeats 4000000 in
theorem c_L_count (l : Launch) (D : va_G) (ad : Nat → Nat) (cA : Nat → ClassId) {a1 : Int32} {a2 : Int32} {u u0 : KS} {r0 : Int32} (h : f_L_count a1 a2 u = some (r0, u0)) : g_M l y_L_count w_L_count { frames := 3, cells := 0, slots := 0, locals := 64 } D vwCl (k_T cA) (k_W ad cA u) [.ref (ad 0), .int a1, .int a2] (some (.int r0)) (k_W ad cA u0) := by
  refine g_ofW (cc := c0_L_count) (maxL := 5) (ret := (some .int)) (by decide) rfl (Nat.le_of_ble_eq_true rfl) ?_
  intro p e s m below meth c A ls hx hb hr hml hown hts hlk hK hA hI hl
  have hts : ∀ w ∈ gW, w.before ([.ref (ad 0), .int a1, .int a2] : List Value).toArray s = true := fun w h => hts w (List.mem_cons_of_mem _ h)
  have hown : s.vm.findClass R_L = some m.cls := hown
  have hl : lv_has ls 5 [(0, .ref (ad 0)), (1, .int a1), (2, .int a2)] := hl
  have w36 : ∀ (n : Nat) (v2 : Int32) (v3 : Int32) (v4 : Int32) (u : KS) (H : Heap) (locs : List Loc) (ls : Array Slot), lv_has ls 5 [(0, .ref (ad 0)), (2, .int v2), (3, .int v3), (4, .int v4)] → g_I D vwCl A s.heap H locs (k_W ad cA u) → f_L_count_L36 n v2 v3 v4 u = some (r0, u0) → W p l e { frames := 3, cells := 0, slots := 0, locals := 64 } s m ([.ref (ad 0), .int a1, .int a2] : List Value).toArray below meth c H locs 0 0 (MQ below (g_Q D vwCl (k_T cA) (k_W ad cA u0) A (some (.int r0))) ([.ref (ad 0), .int a1, .int a2] : List Value).toArray s 0 0 A) (F0 m 36 ls []) := by
    intro  n
    induction n with
    | zero => intro v2 v3 v4 u H locs ls hl hI h; cases h
    | succ n ih =>
      intro v2 v3 v4 u H locs ls hl hI h
      dsimp only [f_L_count_L36] at h
      refine lv_iload hx hb d_L_count_36 (lv_at hl 3 rfl) ?_
      refine lv_iload_n hx hb d_L_count_38 rfl (lv_at hl 1 rfl) ?_
      refine lv_icmp_gt (tgt := 63) hx hb d_L_count_39 rfl (fun hc9 => ?_) (fun hc9 => ?_)
      · rw [if_pos hc9] at h
        refine lv_iload_n hx hb d_L_count_63 rfl (lv_at hl 2 rfl) ?_
        exact g_iret (Wd := k_W ad cA) hx hb hr hlk hK hI h d_L_count_64
      · rw [if_neg hc9] at h
        refine lv_aload_n hx hb d_L_count_42 rfl (lv_at hl 0 rfl) ?_
        refine g_get (v := .ref (ad 14)) hx hb hts in_L hown hK hI 0 rfl rfl 3 (by decide) (hts _ wd_107) rfl d_L_count_43 ?_
        refine lv_iload hx hb d_L_count_46 (lv_at hl 3 rfl) ?_
        obtain ⟨r10, u11, hc, h⟩ := ob_e h
        refine g_callV (As := [.int v4]) (rest := []) (w' := k_W ad cA u11) (o := some (.int r10)) ⟨hx, hb, hml, hown, hts⟩ (c_W_has l D ad cA hc) (cwV 1 hts gq_L_82 rfl rfl rfl (by decide +kernel) ⟨Nat.le_of_ble_eq_true rfl, Nat.le_of_ble_eq_true rfl⟩) hK hI hA 14 4 rfl rfl rfl hl.1 rfl (Nat.le_of_ble_eq_true rfl) d_L_count_48 ⟨Nat.zero_le _, Nat.zero_le _⟩ rfl (fun H locs hI => ?_)
        refine lv_if_eq (tgt := 57) hx hb d_L_count_51 rfl (fun hc12 => ?_) (fun hc12 => ?_)
        · rw [if_pos hc12] at h
          obtain ⟨x13, e_x13, h⟩ := lt_e h
          refine lv_iinc (v := x13) (k := 3) hx hb d_L_count_57 hl rfl (by subst e_x13; rfl) (by decide) rfl (fun ls hl => ?_)
          refine lv_goto (tgt := 36) hx hb d_L_count_60 rfl ?_
          exact ih v2 v3 x13 u11 _ _ _ (lv_sub hl [1, 2, 3, 0] rfl) hI h
        · rw [if_neg hc12] at h
          obtain ⟨x14, e_x14, h⟩ := lt_e h
          refine lv_iinc (v := x14) (k := 2) hx hb d_L_count_54 hl rfl (by subst e_x14; rfl) (by decide) rfl (fun ls hl => ?_)
          obtain ⟨x15, e_x15, h⟩ := lt_e h
          refine lv_iinc (v := x15) (k := 3) hx hb d_L_count_57 hl rfl (by subst e_x15; rfl) (by decide) rfl (fun ls hl => ?_)
          refine lv_goto (tgt := 36) hx hb d_L_count_60 rfl ?_
          exact ih v2 x14 x15 u11 _ _ _ (lv_sub hl [2, 3, 1, 0] rfl) hI h
  dsimp only [f_L_count] at h
  refine lv_iload_n hx hb d_L_count_0 rfl (lv_at hl 1 rfl) ?_
  obtain ⟨r1, u2, hc, h⟩ := ob_e h
  refine g_callS (As := [.int a1]) (rest := []) (w' := k_W ad cA u2) (o := some (.int r1)) ⟨hx, hb, hml, hown, hts⟩ (c_L_isNear l D ad cA hc) (va_cwS 1 hts gq_L_79 rfl rfl rfl (by decide +kernel) ⟨Nat.le_of_ble_eq_true rfl, Nat.le_of_ble_eq_true rfl⟩) hK hI hA rfl hl.1 rfl (Nat.le_of_ble_eq_true rfl) d_L_count_1 ⟨Nat.zero_le _, Nat.zero_le _⟩ rfl (fun H locs hI => ?_)
  refine lv_if_eq (tgt := 29) hx hb d_L_count_4 rfl (fun hc3 => ?_) (fun hc3 => ?_)
  · rw [if_pos hc3] at h
    refine lv_iconst (v := (-1)) hx hb d_L_count_29 (by decide) ?_
    exact g_iret (Wd := k_W ad cA) hx hb hr hlk hK hI h d_L_count_30
  · rw [if_neg hc3] at h
    refine lv_iload_n hx hb d_L_count_7 rfl (lv_at hl 2 rfl) ?_
    obtain ⟨r4, u5, hc, h⟩ := ob_e h
    refine g_callS (As := [.int a2]) (rest := []) (w' := k_W ad cA u5) (o := some (.int r4)) ⟨hx, hb, hml, hown, hts⟩ (c_L_isNear l D ad cA hc) (va_cwS 1 hts gq_L_79 rfl rfl rfl (by decide +kernel) ⟨Nat.le_of_ble_eq_true rfl, Nat.le_of_ble_eq_true rfl⟩) hK hI hA rfl hl.1 rfl (Nat.le_of_ble_eq_true rfl) d_L_count_8 ⟨Nat.zero_le _, Nat.zero_le _⟩ rfl (fun H locs hI => ?_)
    refine lv_if_eq (tgt := 29) hx hb d_L_count_11 rfl (fun hc6 => ?_) (fun hc6 => ?_)
    · rw [if_pos hc6] at h
      refine lv_iconst (v := (-1)) hx hb d_L_count_29 (by decide) ?_
      exact g_iret (Wd := k_W ad cA) hx hb hr hlk hK hI h d_L_count_30
    · rw [if_neg hc6] at h
      refine lv_iload_n hx hb d_L_count_14 rfl (lv_at hl 2 rfl) ?_
      refine lv_iload_n hx hb d_L_count_15 rfl (lv_at hl 1 rfl) ?_
      refine lv_iconst (v := 1) hx hb d_L_count_16 (by decide) ?_
      refine lv_isub hx hb d_L_count_17 ?_
      refine lv_icmp_lt (tgt := 29) hx hb d_L_count_18 rfl (fun hc7 => ?_) (fun hc7 => ?_)
      · rw [if_pos hc7] at h
        refine lv_iconst (v := (-1)) hx hb d_L_count_29 (by decide) ?_
        exact g_iret (Wd := k_W ad cA) hx hb hr hlk hK hI h d_L_count_30
      · rw [if_neg hc7] at h
        refine lv_iload_n hx hb d_L_count_21 rfl (lv_at hl 2 rfl) ?_
        refine lv_iload_n hx hb d_L_count_22 rfl (lv_at hl 1 rfl) ?_
        refine lv_bipush (v := 100) hx hb d_L_count_23 (by decide) ?_
        refine lv_iadd hx hb d_L_count_25 ?_
        refine lv_icmp_lt (tgt := 31) hx hb d_L_count_26 rfl (fun hc8 => ?_) (fun hc8 => ?_)
        · rw [if_pos hc8] at h
          refine lv_iconst (v := 0) hx hb d_L_count_31 (by decide) ?_
          refine lv_istore_n (lv' := [(3, .int 0), (0, .ref (ad 0)), (1, .int a1), (2, .int a2)]) hx hb d_L_count_32 rfl hl (by decide) rfl (fun ls hl => ?_)
          refine lv_iload_n hx hb d_L_count_33 rfl (lv_at hl 2 rfl) ?_
          refine lv_istore (lv' := [(4, .int a1), (3, .int 0), (0, .ref (ad 0)), (1, .int a1), (2, .int a2)]) hx hb d_L_count_34 hl (by decide) rfl (fun ls hl => ?_)
          exact w36 4096 a2 0 a1 u5 _ _ _ (lv_sub hl [2, 4, 1, 0] rfl) hI h
        · rw [if_neg hc8] at h
          refine lv_iconst (v := (-1)) hx hb d_L_count_29 (by decide) ?_
          exact g_iret (Wd := k_W ad cA) hx hb hr hlk hK hI h d_L_count_30
def f_W_repeatsAfter_L3 (n : Nat) : Int32 → Int32 → KS → Option (Int32 × KS) := match n with
  | 0 => fun _ _ _ => none
  | n + 1 => fun v1 v2 u => if 107 ≤ v2 then (gd (bz 1) (some (1, u))) else (ob (f_W_has v2 u) fun r2 u3 => ob (f_W_has (v2 + v1) u3) fun r4 u5 => if r2 = r4 then (lt_ (v2 + 1) fun x7 => f_W_repeatsAfter_L3 n v1 x7 u5) else (gd (bz 0) (some (0, u5))))
def f_W_repeatsAfter (a1 : Int32) (u : KS) : Option (Int32 × KS) := f_W_repeatsAfter_L3 4096 a1 95 u
set_option maxRecDepth 100000 in
set_option maxHeartbeats 4000000 in
theorem c_W_repeatsAfter (l : Launch) (D : va_G) (ad : Nat → Nat) (cA : Nat → ClassId) {a1 : Int32} {u u0 : KS} {r0 : Int32} (h : f_W_repeatsAfter a1 u = some (r0, u0)) : g_M l y_W_repeatsAfter w_W_repeatsAfter { frames := 3, cells := 0, slots := 0, locals := 64 } D vwCl (k_T cA) (k_W ad cA u) [.ref (ad 14), .int a1] (some (.int r0)) (k_W ad cA u0) := by
  refine g_ofW (cc := c0_W_repeatsAfter) (maxL := 3) (ret := (some .boolean)) (by decide) rfl (Nat.le_of_ble_eq_true rfl) ?_
  intro p e s m below meth c A ls hx hb hr hml hown hts hlk hK hA hI hl
  have hts : ∀ w ∈ gW, w.before ([.ref (ad 14), .int a1] : List Value).toArray s = true := fun w h => hts w (List.mem_cons_of_mem _ h)
  have hown : s.vm.findClass R_W = some m.cls := hown
  have hl : lv_has ls 3 [(0, .ref (ad 14)), (1, .int a1)] := hl
  have w3 : ∀ (n : Nat) (v1 : Int32) (v2 : Int32) (u : KS) (H : Heap) (locs : List Loc) (ls : Array Slot), lv_has ls 3 [(0, .ref (ad 14)), (1, .int v1), (2, .int v2)] → g_I D vwCl A s.heap H locs (k_W ad cA u) → f_W_repeatsAfter_L3 n v1 v2 u = some (r0, u0) → W p l e { frames := 3, cells := 0, slots := 0, locals := 64 } s m ([.ref (ad 14), .int a1] : List Value).toArray below meth c H locs 0 0 (MQ below (g_Q D vwCl (k_T cA) (k_W ad cA u0) A (some (.int r0))) ([.ref (ad 14), .int a1] : List Value).toArray s 0 0 A) (F0 m 3 ls []) := by
    intro  n
    induction n with
    | zero => intro v1 v2 u H locs ls hl hI h; cases h
    | succ n ih =>
      intro v1 v2 u H locs ls hl hI h
      dsimp only [f_W_repeatsAfter_L3] at h
      refine lv_iload_n hx hb d_W_repeatsAfter_3 rfl (lv_at hl 2 rfl) ?_
      refine lv_bipush (v := 107) hx hb d_W_repeatsAfter_4 (by decide) ?_
      refine lv_icmp_ge (tgt := 32) hx hb d_W_repeatsAfter_6 rfl (fun hc1 => ?_) (fun hc1 => ?_)
      · rw [if_pos hc1] at h
        refine lv_iconst (v := 1) hx hb d_W_repeatsAfter_32 (by decide) ?_
        exact g_zret (Wd := k_W ad cA) hx hb hr hlk hK hI h d_W_repeatsAfter_33
      · rw [if_neg hc1] at h
        refine lv_aload_n hx hb d_W_repeatsAfter_9 rfl (lv_at hl 0 rfl) ?_
        refine lv_iload_n hx hb d_W_repeatsAfter_10 rfl (lv_at hl 2 rfl) ?_
        obtain ⟨r2, u3, hc, h⟩ := ob_e h
        refine g_callV (As := [.int v2]) (rest := []) (w' := k_W ad cA u3) (o := some (.int r2)) ⟨hx, hb, hml, hown, hts⟩ (c_W_has l D ad cA hc) (cwV 1 hts gq_W_33 rfl rfl rfl (by decide +kernel) ⟨Nat.le_of_ble_eq_true rfl, Nat.le_of_ble_eq_true rfl⟩) hK hI hA 14 4 rfl rfl rfl hl.1 rfl (Nat.le_of_ble_eq_true rfl) d_W_repeatsAfter_11 ⟨Nat.zero_le _, Nat.zero_le _⟩ rfl (fun H locs hI => ?_)
        refine lv_aload_n hx hb d_W_repeatsAfter_14 rfl (lv_at hl 0 rfl) ?_
        refine lv_iload_n hx hb d_W_repeatsAfter_15 rfl (lv_at hl 2 rfl) ?_
        refine lv_iload_n hx hb d_W_repeatsAfter_16 rfl (lv_at hl 1 rfl) ?_
        refine lv_iadd hx hb d_W_repeatsAfter_17 ?_
        obtain ⟨r4, u5, hc, h⟩ := ob_e h
        refine g_callV (As := [.int (v2 + v1)]) (rest := [.int r2]) (w' := k_W ad cA u5) (o := some (.int r4)) ⟨hx, hb, hml, hown, hts⟩ (c_W_has l D ad cA hc) (cwV 1 hts gq_W_33 rfl rfl rfl (by decide +kernel) ⟨Nat.le_of_ble_eq_true rfl, Nat.le_of_ble_eq_true rfl⟩) hK hI hA 14 4 rfl rfl rfl hl.1 rfl (Nat.le_of_ble_eq_true rfl) d_W_repeatsAfter_18 ⟨Nat.zero_le _, Nat.zero_le _⟩ rfl (fun H locs hI => ?_)
        refine lv_icmp_eq (tgt := 26) hx hb d_W_repeatsAfter_21 rfl (fun hc6 => ?_) (fun hc6 => ?_)
        · rw [if_pos hc6] at h
          obtain ⟨x7, e_x7, h⟩ := lt_e h
          refine lv_iinc (v := x7) (k := 2) hx hb d_W_repeatsAfter_26 hl rfl (by subst e_x7; rfl) (by decide) rfl (fun ls hl => ?_)
          refine lv_goto (tgt := 3) hx hb d_W_repeatsAfter_29 rfl ?_
          exact ih v1 x7 u5 _ _ _ (lv_sub hl [1, 2, 0] rfl) hI h
        · rw [if_neg hc6] at h
          refine lv_iconst (v := 0) hx hb d_W_repeatsAfter_24 (by decide) ?_
          exact g_zret (Wd := k_W ad cA) hx hb hr hlk hK hI h d_W_repeatsAfter_25
  dsimp only [f_W_repeatsAfter] at h
  refine lv_bipush (v := 95) hx hb d_W_repeatsAfter_0 (by decide) ?_
  refine lv_istore_n (lv' := [(2, .int 95), (0, .ref (ad 14)), (1, .int a1)]) hx hb d_W_repeatsAfter_2 rfl hl (by decide) rfl (fun ls hl => ?_)
  exact w3 4096 a1 95 u _ _ _ (lv_sub hl [1, 2, 0] rfl) hI h
def f_L_period_L2 (n : Nat) : Int32 → KS → Option (Int32 × KS) := match n with
  | 0 => fun _ _ => none
  | n + 1 => fun v1 u => if 12 ≤ v1 then some (12, u) else (ob (f_W_repeatsAfter v1 u) fun r2 u3 => if r2 = 0 then (lt_ (v1 + 1) fun x5 => f_L_period_L2 n x5 u3) else some (v1, u3))
def f_L_period (u : KS) : Option (Int32 × KS) := f_L_period_L2 4096 1 u
set_option maxRecDepth 100000 in
set_option maxHeartbeats 4000000 in
theorem c_L_period (l : Launch) (D : va_G) (ad : Nat → Nat) (cA : Nat → ClassId) {u u0 : KS} {r0 : Int32} (h : f_L_period u = some (r0, u0)) : g_M l y_L_period w_L_period { frames := 4, cells := 0, slots := 0, locals := 86 } D vwCl (k_T cA) (k_W ad cA u) [.ref (ad 0)] (some (.int r0)) (k_W ad cA u0) := by
  refine g_ofW (cc := c0_L_period) (maxL := 2) (ret := (some .int)) (by decide) rfl (Nat.le_of_ble_eq_true rfl) ?_
  intro p e s m below meth c A ls hx hb hr hml hown hts hlk hK hA hI hl
  have hts : ∀ w ∈ gW, w.before ([.ref (ad 0)] : List Value).toArray s = true := fun w h => hts w (List.mem_cons_of_mem _ h)
  have hown : s.vm.findClass R_L = some m.cls := hown
  have hl : lv_has ls 2 [(0, .ref (ad 0))] := hl
  have w2 : ∀ (n : Nat) (v1 : Int32) (u : KS) (H : Heap) (locs : List Loc) (ls : Array Slot), lv_has ls 2 [(0, .ref (ad 0)), (1, .int v1)] → g_I D vwCl A s.heap H locs (k_W ad cA u) → f_L_period_L2 n v1 u = some (r0, u0) → W p l e { frames := 4, cells := 0, slots := 0, locals := 86 } s m ([.ref (ad 0)] : List Value).toArray below meth c H locs 0 0 (MQ below (g_Q D vwCl (k_T cA) (k_W ad cA u0) A (some (.int r0))) ([.ref (ad 0)] : List Value).toArray s 0 0 A) (F0 m 2 ls []) := by
    intro  n
    induction n with
    | zero => intro v1 u H locs ls hl hI h; cases h
    | succ n ih =>
      intro v1 u H locs ls hl hI h
      dsimp only [f_L_period_L2] at h
      refine lv_iload_n hx hb d_L_period_2 rfl (lv_at hl 1 rfl) ?_
      refine lv_bipush (v := 12) hx hb d_L_period_3 (by decide) ?_
      refine lv_icmp_ge (tgt := 27) hx hb d_L_period_5 rfl (fun hc1 => ?_) (fun hc1 => ?_)
      · rw [if_pos hc1] at h
        refine lv_bipush (v := 12) hx hb d_L_period_27 (by decide) ?_
        exact g_iret (Wd := k_W ad cA) hx hb hr hlk hK hI h d_L_period_29
      · rw [if_neg hc1] at h
        refine lv_aload_n hx hb d_L_period_8 rfl (lv_at hl 0 rfl) ?_
        refine g_get (v := .ref (ad 14)) hx hb hts in_L hown hK hI 0 rfl rfl 3 (by decide) (hts _ wd_107) rfl d_L_period_9 ?_
        refine lv_iload_n hx hb d_L_period_12 rfl (lv_at hl 1 rfl) ?_
        obtain ⟨r2, u3, hc, h⟩ := ob_e h
        refine g_callV (As := [.int v1]) (rest := []) (w' := k_W ad cA u3) (o := some (.int r2)) ⟨hx, hb, hml, hown, hts⟩ (c_W_repeatsAfter l D ad cA hc) (cwV 1 hts gq_L_101 rfl rfl rfl (by decide +kernel) ⟨Nat.le_of_ble_eq_true rfl, Nat.le_of_ble_eq_true rfl⟩) hK hI hA 14 4 rfl rfl rfl hl.1 rfl (Nat.le_of_ble_eq_true rfl) d_L_period_13 ⟨Nat.zero_le _, Nat.zero_le _⟩ rfl (fun H locs hI => ?_)
        refine lv_if_eq (tgt := 21) hx hb d_L_period_16 rfl (fun hc4 => ?_) (fun hc4 => ?_)
        · rw [if_pos hc4] at h
          obtain ⟨x5, e_x5, h⟩ := lt_e h
          refine lv_iinc (v := x5) (k := 1) hx hb d_L_period_21 hl rfl (by subst e_x5; rfl) (by decide) rfl (fun ls hl => ?_)
          refine lv_goto (tgt := 2) hx hb d_L_period_24 rfl ?_
          exact ih x5 u3 _ _ _ (lv_sub hl [1, 0] rfl) hI h
        · rw [if_neg hc4] at h
          refine lv_iload_n hx hb d_L_period_19 rfl (lv_at hl 1 rfl) ?_
          exact g_iret (Wd := k_W ad cA) hx hb hr hlk hK hI h d_L_period_20
  dsimp only [f_L_period] at h
  refine lv_iconst (v := 1) hx hb d_L_period_0 (by decide) ?_
  refine lv_istore_n (lv' := [(1, .int 1), (0, .ref (ad 0))]) hx hb d_L_period_1 rfl hl (by decide) rfl (fun ls hl => ?_)
  exact w2 4096 1 u _ _ _ (lv_sub hl [1, 0] rfl) hI h
def f_M_in (a0 : Int32) (a1 : Int32) (a2 : Int32) (u : MS) : Option (Int32 × MS) := if a0 < a1 then (gd (bz 0) (some (0, u))) else (if a2 < a0 then (gd (bz 0) (some (0, u))) else (gd (bz 1) (some (1, u))))
set_option maxRecDepth 100000 in
set_option maxHeartbeats 4000000 in
theorem c_M_in (l : Launch) (D : va_G) (ad : Nat → Nat) (cA : Nat → ClassId) {a0 : Int32} {a1 : Int32} {a2 : Int32} {u u0 : MS} {r0 : Int32} (h : f_M_in a0 a1 a2 u = some (r0, u0)) : g_M l y_M_in w_M_in { frames := 0, cells := 0, slots := 0, locals := 0 } D vwCl (m_T cA) (m_W ad cA u) [.int a0, .int a1, .int a2] (some (.int r0)) (m_W ad cA u0) := by
  refine g_ofW (cc := c0_M_in) (maxL := 3) (ret := (some .boolean)) (by decide) rfl (Nat.le_of_ble_eq_true rfl) ?_
  intro p e s m below meth c A ls hx hb hr hml hown hts hlk hK hA hI hl
  have hts : ∀ w ∈ gW, w.before ([.int a0, .int a1, .int a2] : List Value).toArray s = true := fun w h => hts w (List.mem_cons_of_mem _ h)
  have hown : s.vm.findClass R_M = some m.cls := hown
  have hl : lv_has ls 3 [(0, .int a0), (1, .int a1), (2, .int a2)] := hl
  dsimp only [f_M_in] at h
  refine lv_iload_n hx hb d_M_in_0 rfl (lv_at hl 0 rfl) ?_
  refine lv_iload_n hx hb d_M_in_1 rfl (lv_at hl 1 rfl) ?_
  refine lv_icmp_lt (tgt := 14) hx hb d_M_in_2 rfl (fun hc1 => ?_) (fun hc1 => ?_)
  · rw [if_pos hc1] at h
    refine lv_iconst (v := 0) hx hb d_M_in_14 (by decide) ?_
    exact g_zret (Wd := m_W ad cA) hx hb hr hlk hK hI h d_M_in_15
  · rw [if_neg hc1] at h
    refine lv_iload_n hx hb d_M_in_5 rfl (lv_at hl 0 rfl) ?_
    refine lv_iload_n hx hb d_M_in_6 rfl (lv_at hl 2 rfl) ?_
    refine lv_icmp_gt (tgt := 14) hx hb d_M_in_7 rfl (fun hc2 => ?_) (fun hc2 => ?_)
    · rw [if_pos hc2] at h
      refine lv_iconst (v := 0) hx hb d_M_in_14 (by decide) ?_
      exact g_zret (Wd := m_W ad cA) hx hb hr hlk hK hI h d_M_in_15
    · rw [if_neg hc2] at h
      refine lv_iconst (v := 1) hx hb d_M_in_10 (by decide) ?_
      refine lv_goto (tgt := 15) hx hb d_M_in_11 rfl ?_
      exact g_zret (Wd := m_W ad cA) hx hb hr hlk hK hI h d_M_in_15
def f_M_type_L69 (n : Nat) : Int32 → Int32 → Int32 → MS → Option (Int32 × MS) := match n with
  | 0 => fun _ _ _ _ => none
  | n + 1 => fun v1 v3 v4 u => if v4 < 0 then (gd (bz v3) (some (v3, u))) else (if v3 = 0 then (gd (bz v3) (some (v3, u))) else (gd (inb (m_ty u) 120) (lt_ (m_p_ch (upd (m_ch u) (m_ty u).toNatClampNeg ((v1 >>> ((8 * v4) &&& 31)) &&& 255)) u) fun u14 => lt_ (m_p_ty ((m_ty u14) + 1) u14) fun u15 => lt_ (v4 + (-1)) fun x16 => f_M_type_L69 n v1 v3 x16 u15)))
def f_M_type_L29 (n : Nat) : Int32 → Int32 → Int32 → Int32 → MS → Option (Int32 × MS) := match n with
  | 0 => fun _ _ _ _ _ => none
  | n + 1 => fun v1 v2 v3 v4 u => if v2 ≤ v4 then (lt_ (v2 - 1) fun x6 => f_M_type_L69 4096 v1 v3 x6 u) else (if v3 = 0 then (lt_ (v2 - 1) fun x8 => f_M_type_L69 4096 v1 v3 x8 u) else (ob (f_M_in ((v1 >>> ((8 * v4) &&& 31)) &&& 255) 32 126 u) fun r9 u10 => lt_ (v4 + 1) fun x11 => f_M_type_L29 n v1 v2 r9 x11 u10))
def f_M_type (a1 : Int32) (a2 : Int32) (u : MS) : Option (Int32 × MS) := ob (f_M_in a2 1 4 u) fun r1 u2 => if r1 = 0 then f_M_type_L29 4096 a1 a2 0 0 u2 else (if 120 < ((m_ty u2) + a2) then f_M_type_L29 4096 a1 a2 0 0 u2 else f_M_type_L29 4096 a1 a2 1 0 u2)
set_option maxRecDepth 100000 in
set_option maxHeartbeats 4000000 in
theorem c_M_type (l : Launch) (D : va_G) (ad : Nat → Nat) (cA : Nat → ClassId) {a1 : Int32} {a2 : Int32} {u u0 : MS} {r0 : Int32} (h : f_M_type a1 a2 u = some (r0, u0)) : g_M l y_M_type w_M_type { frames := 1, cells := 0, slots := 0, locals := 22 } D vwCl (m_T cA) (m_W ad cA u) [.ref (ad 0), .int a1, .int a2] (some (.int r0)) (m_W ad cA u0) := by
  refine g_ofW (cc := c0_M_type) (maxL := 5) (ret := (some .boolean)) (by decide) rfl (Nat.le_of_ble_eq_true rfl) ?_
  intro p e s m below meth c A ls hx hb hr hml hown hts hlk hK hA hI hl
  have hts : ∀ w ∈ gW, w.before ([.ref (ad 0), .int a1, .int a2] : List Value).toArray s = true := fun w h => hts w (List.mem_cons_of_mem _ h)
  have hown : s.vm.findClass R_M = some m.cls := hown
  have hl : lv_has ls 5 [(0, .ref (ad 0)), (1, .int a1), (2, .int a2)] := hl
  have w69 : ∀ (n : Nat) (v1 : Int32) (v3 : Int32) (v4 : Int32) (u : MS) (H : Heap) (locs : List Loc) (ls : Array Slot), lv_has ls 5 [(0, .ref (ad 0)), (1, .int v1), (3, .int v3), (4, .int v4)] → g_I D vwCl A s.heap H locs (m_W ad cA u) → f_M_type_L69 n v1 v3 v4 u = some (r0, u0) → W p l e { frames := 1, cells := 0, slots := 0, locals := 22 } s m ([.ref (ad 0), .int a1, .int a2] : List Value).toArray below meth c H locs 0 0 (MQ below (g_Q D vwCl (m_T cA) (m_W ad cA u0) A (some (.int r0))) ([.ref (ad 0), .int a1, .int a2] : List Value).toArray s 0 0 A) (F0 m 69 ls []) := by
    intro  n
    induction n with
    | zero => intro v1 v3 v4 u H locs ls hl hI h; cases h
    | succ n ih =>
      intro v1 v3 v4 u H locs ls hl hI h
      dsimp only [f_M_type_L69] at h
      refine lv_iload hx hb d_M_type_69 (lv_at hl 3 rfl) ?_
      refine lv_if_lt (tgt := 114) hx hb d_M_type_71 rfl (fun hc12 => ?_) (fun hc12 => ?_)
      · rw [if_pos hc12] at h
        refine lv_iload_n hx hb d_M_type_114 rfl (lv_at hl 2 rfl) ?_
        exact g_zret (Wd := m_W ad cA) hx hb hr hlk hK hI h d_M_type_115
      · rw [if_neg hc12] at h
        refine lv_iload_n hx hb d_M_type_74 rfl (lv_at hl 2 rfl) ?_
        refine lv_if_eq (tgt := 114) hx hb d_M_type_75 rfl (fun hc13 => ?_) (fun hc13 => ?_)
        · rw [if_pos hc13] at h
          refine lv_iload_n hx hb d_M_type_114 rfl (lv_at hl 2 rfl) ?_
          exact g_zret (Wd := m_W ad cA) hx hb hr hlk hK hI h d_M_type_115
        · rw [if_neg hc13] at h
          refine lv_aload_n hx hb d_M_type_78 rfl (lv_at hl 0 rfl) ?_
          refine g_get (v := .ref (ad 1)) hx hb hts in_M hown hK hI 0 rfl rfl 0 (by decide) (hts _ wd_392) rfl d_M_type_79 ?_
          refine lv_aload_n hx hb d_M_type_82 rfl (lv_at hl 0 rfl) ?_
          refine g_get (v := .int (m_ty u)) hx hb hts in_M hown hK hI 0 rfl rfl 1 (by decide) (hts _ wd_393) rfl d_M_type_83 ?_
          refine lv_iload_n hx hb d_M_type_86 rfl (lv_at hl 1 rfl) ?_
          refine lv_bipush (v := 8) hx hb d_M_type_87 (by decide) ?_
          refine lv_iload hx hb d_M_type_89 (lv_at hl 3 rfl) ?_
          refine lv_imul hx hb d_M_type_91 ?_
          refine lv_ishr hx hb d_M_type_92 ?_
          refine lv_sipush (v := 255) hx hb d_M_type_93 (by decide) ?_
          refine lv_iand hx hb d_M_type_96 ?_
          obtain ⟨hg, h⟩ := gd_e h
          obtain ⟨u14, e_u14, h⟩ := lt_e h
          refine g_iast (w' := m_W ad cA u14) hx hb hK hI 1 0 rfl rfl hg d_M_type_97 (by subst e_u14; rfl) (fun H locs hI => ?_)
          refine lv_aload_n hx hb d_M_type_98 rfl (lv_at hl 0 rfl) ?_
          refine lv_aload_n hx hb d_M_type_99 rfl (lv_at hl 0 rfl) ?_
          refine g_get (v := .int (m_ty u14)) hx hb hts in_M hown hK hI 0 rfl rfl 1 (by decide) (hts _ wd_393) rfl d_M_type_100 ?_
          refine lv_iconst (v := 1) hx hb d_M_type_103 (by decide) ?_
          refine lv_iadd hx hb d_M_type_104 ?_
          obtain ⟨u15, e_u15, h⟩ := lt_e h
          refine g_put (t := .int) (w' := m_W ad cA u15) hx hb hts in_M ty_M tyok_M nm_M hown hK hI 0 rfl rfl 1 (by decide) (hts _ wd_393) rfl (by decide +kernel) rfl rfl (Nat.le_of_ble_eq_true rfl) d_M_type_105 (by subst e_u15; rfl) (fun H locs hI => ?_)
          obtain ⟨x16, e_x16, h⟩ := lt_e h
          refine lv_iinc (v := x16) (k := 3) hx hb d_M_type_108 hl rfl (by subst e_x16; rfl) (by decide) rfl (fun ls hl => ?_)
          refine lv_goto (tgt := 69) hx hb d_M_type_111 rfl ?_
          exact ih v1 v3 x16 u15 _ _ _ (lv_sub hl [1, 2, 3, 0] rfl) hI h
  have w29 : ∀ (n : Nat) (v1 : Int32) (v2 : Int32) (v3 : Int32) (v4 : Int32) (u : MS) (H : Heap) (locs : List Loc) (ls : Array Slot), lv_has ls 5 [(0, .ref (ad 0)), (1, .int v1), (2, .int v2), (3, .int v3), (4, .int v4)] → g_I D vwCl A s.heap H locs (m_W ad cA u) → f_M_type_L29 n v1 v2 v3 v4 u = some (r0, u0) → W p l e { frames := 1, cells := 0, slots := 0, locals := 22 } s m ([.ref (ad 0), .int a1, .int a2] : List Value).toArray below meth c H locs 0 0 (MQ below (g_Q D vwCl (m_T cA) (m_W ad cA u0) A (some (.int r0))) ([.ref (ad 0), .int a1, .int a2] : List Value).toArray s 0 0 A) (F0 m 29 ls []) := by
    intro  n
    induction n with
    | zero => intro v1 v2 v3 v4 u H locs ls hl hI h; cases h
    | succ n ih =>
      intro v1 v2 v3 v4 u H locs ls hl hI h
      dsimp only [f_M_type_L29] at h
      refine lv_iload hx hb d_M_type_29 (lv_at hl 4 rfl) ?_
      refine lv_iload_n hx hb d_M_type_31 rfl (lv_at hl 2 rfl) ?_
      refine lv_icmp_ge (tgt := 64) hx hb d_M_type_32 rfl (fun hc5 => ?_) (fun hc5 => ?_)
      · rw [if_pos hc5] at h
        refine lv_iload_n hx hb d_M_type_64 rfl (lv_at hl 2 rfl) ?_
        refine lv_iconst (v := 1) hx hb d_M_type_65 (by decide) ?_
        refine lv_isub hx hb d_M_type_66 ?_
        obtain ⟨x6, e_x6, h⟩ := lt_e h
        refine lv_istore (lv' := [(4, .int x6), (0, .ref (ad 0)), (1, .int v1), (2, .int v2), (3, .int v3)]) hx hb d_M_type_67 hl (by decide) (by subst e_x6; rfl) (fun ls hl => ?_)
        exact w69 4096 v1 v3 x6 u _ _ _ (lv_sub hl [1, 2, 4, 0] rfl) hI h
      · rw [if_neg hc5] at h
        refine lv_iload_n hx hb d_M_type_35 rfl (lv_at hl 3 rfl) ?_
        refine lv_if_eq (tgt := 64) hx hb d_M_type_36 rfl (fun hc7 => ?_) (fun hc7 => ?_)
        · rw [if_pos hc7] at h
          refine lv_iload_n hx hb d_M_type_64 rfl (lv_at hl 2 rfl) ?_
          refine lv_iconst (v := 1) hx hb d_M_type_65 (by decide) ?_
          refine lv_isub hx hb d_M_type_66 ?_
          obtain ⟨x8, e_x8, h⟩ := lt_e h
          refine lv_istore (lv' := [(4, .int x8), (0, .ref (ad 0)), (1, .int v1), (2, .int v2), (3, .int v3)]) hx hb d_M_type_67 hl (by decide) (by subst e_x8; rfl) (fun ls hl => ?_)
          exact w69 4096 v1 v3 x8 u _ _ _ (lv_sub hl [1, 2, 4, 0] rfl) hI h
        · rw [if_neg hc7] at h
          refine lv_iload_n hx hb d_M_type_39 rfl (lv_at hl 1 rfl) ?_
          refine lv_bipush (v := 8) hx hb d_M_type_40 (by decide) ?_
          refine lv_iload hx hb d_M_type_42 (lv_at hl 4 rfl) ?_
          refine lv_imul hx hb d_M_type_44 ?_
          refine lv_ishr hx hb d_M_type_45 ?_
          refine lv_sipush (v := 255) hx hb d_M_type_46 (by decide) ?_
          refine lv_iand hx hb d_M_type_49 ?_
          refine lv_bipush (v := 32) hx hb d_M_type_50 (by decide) ?_
          refine lv_bipush (v := 126) hx hb d_M_type_52 (by decide) ?_
          obtain ⟨r9, u10, hc, h⟩ := ob_e h
          refine g_callS (As := [.int ((v1 >>> ((8 * v4) &&& 31)) &&& 255), .int 32, .int 126]) (rest := []) (w' := m_W ad cA u10) (o := some (.int r9)) ⟨hx, hb, hml, hown, hts⟩ (c_M_in l D ad cA hc) (va_cwS 3 hts gq_M_70 rfl rfl rfl (by decide +kernel) ⟨Nat.le_of_ble_eq_true rfl, Nat.le_of_ble_eq_true rfl⟩) hK hI hA rfl hl.1 rfl (Nat.le_of_ble_eq_true rfl) d_M_type_54 ⟨Nat.zero_le _, Nat.zero_le _⟩ rfl (fun H locs hI => ?_)
          refine lv_istore_n (lv' := [(3, .int r9), (0, .ref (ad 0)), (1, .int v1), (2, .int v2), (4, .int v4)]) hx hb d_M_type_57 rfl hl (by decide) rfl (fun ls hl => ?_)
          obtain ⟨x11, e_x11, h⟩ := lt_e h
          refine lv_iinc (v := x11) (k := 4) hx hb d_M_type_58 hl rfl (by subst e_x11; rfl) (by decide) rfl (fun ls hl => ?_)
          refine lv_goto (tgt := 29) hx hb d_M_type_61 rfl ?_
          exact ih v1 v2 r9 x11 u10 _ _ _ (lv_sub hl [2, 3, 4, 1, 0] rfl) hI h
  dsimp only [f_M_type] at h
  refine lv_iload_n hx hb d_M_type_0 rfl (lv_at hl 2 rfl) ?_
  refine lv_iconst (v := 1) hx hb d_M_type_1 (by decide) ?_
  refine lv_iconst (v := 4) hx hb d_M_type_2 (by decide) ?_
  obtain ⟨r1, u2, hc, h⟩ := ob_e h
  refine g_callS (As := [.int a2, .int 1, .int 4]) (rest := []) (w' := m_W ad cA u2) (o := some (.int r1)) ⟨hx, hb, hml, hown, hts⟩ (c_M_in l D ad cA hc) (va_cwS 3 hts gq_M_70 rfl rfl rfl (by decide +kernel) ⟨Nat.le_of_ble_eq_true rfl, Nat.le_of_ble_eq_true rfl⟩) hK hI hA rfl hl.1 rfl (Nat.le_of_ble_eq_true rfl) d_M_type_3 ⟨Nat.zero_le _, Nat.zero_le _⟩ rfl (fun H locs hI => ?_)
  refine lv_if_eq (tgt := 24) hx hb d_M_type_6 rfl (fun hc3 => ?_) (fun hc3 => ?_)
  · rw [if_pos hc3] at h
    refine lv_iconst (v := 0) hx hb d_M_type_24 (by decide) ?_
    refine lv_istore_n (lv' := [(3, .int 0), (0, .ref (ad 0)), (1, .int a1), (2, .int a2)]) hx hb d_M_type_25 rfl hl (by decide) rfl (fun ls hl => ?_)
    refine lv_iconst (v := 0) hx hb d_M_type_26 (by decide) ?_
    refine lv_istore (lv' := [(4, .int 0), (3, .int 0), (0, .ref (ad 0)), (1, .int a1), (2, .int a2)]) hx hb d_M_type_27 hl (by decide) rfl (fun ls hl => ?_)
    exact w29 4096 a1 a2 0 0 u2 _ _ _ (lv_sub hl [2, 3, 4, 1, 0] rfl) hI h
  · rw [if_neg hc3] at h
    refine lv_aload_n hx hb d_M_type_9 rfl (lv_at hl 0 rfl) ?_
    refine g_get (v := .int (m_ty u2)) hx hb hts in_M hown hK hI 0 rfl rfl 1 (by decide) (hts _ wd_393) rfl d_M_type_10 ?_
    refine lv_iload_n hx hb d_M_type_13 rfl (lv_at hl 2 rfl) ?_
    refine lv_iadd hx hb d_M_type_14 ?_
    refine lv_bipush (v := 120) hx hb d_M_type_15 (by decide) ?_
    refine lv_icmp_gt (tgt := 24) hx hb d_M_type_17 rfl (fun hc4 => ?_) (fun hc4 => ?_)
    · rw [if_pos hc4] at h
      refine lv_iconst (v := 0) hx hb d_M_type_24 (by decide) ?_
      refine lv_istore_n (lv' := [(3, .int 0), (0, .ref (ad 0)), (1, .int a1), (2, .int a2)]) hx hb d_M_type_25 rfl hl (by decide) rfl (fun ls hl => ?_)
      refine lv_iconst (v := 0) hx hb d_M_type_26 (by decide) ?_
      refine lv_istore (lv' := [(4, .int 0), (3, .int 0), (0, .ref (ad 0)), (1, .int a1), (2, .int a2)]) hx hb d_M_type_27 hl (by decide) rfl (fun ls hl => ?_)
      exact w29 4096 a1 a2 0 0 u2 _ _ _ (lv_sub hl [2, 3, 4, 1, 0] rfl) hI h
    · rw [if_neg hc4] at h
      refine lv_iconst (v := 1) hx hb d_M_type_20 (by decide) ?_
      refine lv_goto (tgt := 25) hx hb d_M_type_21 rfl ?_
      refine lv_istore_n (lv' := [(3, .int 1), (0, .ref (ad 0)), (1, .int a1), (2, .int a2)]) hx hb d_M_type_25 rfl hl (by decide) rfl (fun ls hl => ?_)
      refine lv_iconst (v := 0) hx hb d_M_type_26 (by decide) ?_
      refine lv_istore (lv' := [(4, .int 0), (3, .int 1), (0, .ref (ad 0)), (1, .int a1), (2, .int a2)]) hx hb d_M_type_27 hl (by decide) rfl (fun ls hl => ?_)
      exact w29 4096 a1 a2 1 0 u2 _ _ _ (lv_sub hl [2, 3, 4, 1, 0] rfl) hI h
def f_M_look_J38 (u : MS) : Option (Int32 × MS) := if (m_si u) ≤ (m_at u) then some ((-1), u) else (gd (inb (m_at u) 120) (some (m_ch u (m_at u).toNatClampNeg, u)))
def f_M_look_L0 (n : Nat) : MS → Option (Int32 × MS) := match n with
  | 0 => fun _ => none
  | n + 1 => fun u => if (m_si u) ≤ (m_at u) then f_M_look_J38 u else (gd (inb (m_at u) 120) (if (m_ch u (m_at u).toNatClampNeg) = 32 then (lt_ (m_p_at ((m_at u) + 1) u) fun u7 => f_M_look_L0 n u7) else f_M_look_J38 u))
def f_M_look (u : MS) : Option (Int32 × MS) := if (m_si u) ≤ (m_at u) then f_M_look_J38 u else (gd (inb (m_at u) 120) (if (m_ch u (m_at u).toNatClampNeg) = 32 then (lt_ (m_p_at ((m_at u) + 1) u) fun u3 => f_M_look_L0 4096 u3) else f_M_look_J38 u))
set_option maxRecDepth 100000 in
set_option maxHeartbeats 4000000 in
theorem c_M_look (l : Launch) (D : va_G) (ad : Nat → Nat) (cA : Nat → ClassId) {u u0 : MS} {r0 : Int32} (h : f_M_look u = some (r0, u0)) : g_M l y_M_look w_M_look { frames := 0, cells := 0, slots := 0, locals := 0 } D vwCl (m_T cA) (m_W ad cA u) [.ref (ad 0)] (some (.int r0)) (m_W ad cA u0) := by
  refine g_ofW (cc := c0_M_look) (maxL := 1) (ret := (some .int)) (by decide) rfl (Nat.le_of_ble_eq_true rfl) ?_
  intro p e s m below meth c A ls hx hb hr hml hown hts hlk hK hA hI hl
  have hts : ∀ w ∈ gW, w.before ([.ref (ad 0)] : List Value).toArray s = true := fun w h => hts w (List.mem_cons_of_mem _ h)
  have hown : s.vm.findClass R_M = some m.cls := hown
  have hl : lv_has ls 1 [(0, .ref (ad 0))] := hl
  have w38 : ∀ (u : MS) (H : Heap) (locs : List Loc) (ls : Array Slot), lv_has ls 1 [(0, .ref (ad 0))] → g_I D vwCl A s.heap H locs (m_W ad cA u) → f_M_look_J38 u = some (r0, u0) → W p l e { frames := 0, cells := 0, slots := 0, locals := 0 } s m ([.ref (ad 0)] : List Value).toArray below meth c H locs 0 0 (MQ below (g_Q D vwCl (m_T cA) (m_W ad cA u0) A (some (.int r0))) ([.ref (ad 0)] : List Value).toArray s 0 0 A) (F0 m 38 ls []) := by
    intro  u H locs ls hl hI h
    dsimp only [f_M_look_J38] at h
    refine lv_aload_n hx hb d_M_look_38 rfl (lv_at hl 0 rfl) ?_
    refine g_get (v := .int (m_at u)) hx hb hts in_M hown hK hI 0 rfl rfl 3 (by decide) (hts _ wd_395) rfl d_M_look_39 ?_
    refine lv_aload_n hx hb d_M_look_42 rfl (lv_at hl 0 rfl) ?_
    refine g_get (v := .int (m_si u)) hx hb hts in_M hown hK hI 0 rfl rfl 2 (by decide) (hts _ wd_394) rfl d_M_look_43 ?_
    refine lv_icmp_ge (tgt := 61) hx hb d_M_look_46 rfl (fun hc4 => ?_) (fun hc4 => ?_)
    · rw [if_pos hc4] at h
      refine lv_iconst (v := (-1)) hx hb d_M_look_61 (by decide) ?_
      exact g_iret (Wd := m_W ad cA) hx hb hr hlk hK hI h d_M_look_62
    · rw [if_neg hc4] at h
      refine lv_aload_n hx hb d_M_look_49 rfl (lv_at hl 0 rfl) ?_
      refine g_get (v := .ref (ad 1)) hx hb hts in_M hown hK hI 0 rfl rfl 0 (by decide) (hts _ wd_392) rfl d_M_look_50 ?_
      refine lv_aload_n hx hb d_M_look_53 rfl (lv_at hl 0 rfl) ?_
      refine g_get (v := .int (m_at u)) hx hb hts in_M hown hK hI 0 rfl rfl 3 (by decide) (hts _ wd_395) rfl d_M_look_54 ?_
      obtain ⟨hg, h⟩ := gd_e h
      refine g_iald hx hb hK hI 1 0 rfl rfl hg d_M_look_57 ?_
      refine lv_goto (tgt := 62) hx hb d_M_look_58 rfl ?_
      exact g_iret (Wd := m_W ad cA) hx hb hr hlk hK hI h d_M_look_62
  have w0 : ∀ (n : Nat) (u : MS) (H : Heap) (locs : List Loc) (ls : Array Slot), lv_has ls 1 [(0, .ref (ad 0))] → g_I D vwCl A s.heap H locs (m_W ad cA u) → f_M_look_L0 n u = some (r0, u0) → W p l e { frames := 0, cells := 0, slots := 0, locals := 0 } s m ([.ref (ad 0)] : List Value).toArray below meth c H locs 0 0 (MQ below (g_Q D vwCl (m_T cA) (m_W ad cA u0) A (some (.int r0))) ([.ref (ad 0)] : List Value).toArray s 0 0 A) (F0 m 0 ls []) := by
    intro  n
    induction n with
    | zero => intro u H locs ls hl hI h; cases h
    | succ n ih =>
      intro u H locs ls hl hI h
      dsimp only [f_M_look_L0] at h
      refine lv_aload_n hx hb d_M_look_0 rfl (lv_at hl 0 rfl) ?_
      refine g_get (v := .int (m_at u)) hx hb hts in_M hown hK hI 0 rfl rfl 3 (by decide) (hts _ wd_395) rfl d_M_look_1 ?_
      refine lv_aload_n hx hb d_M_look_4 rfl (lv_at hl 0 rfl) ?_
      refine g_get (v := .int (m_si u)) hx hb hts in_M hown hK hI 0 rfl rfl 2 (by decide) (hts _ wd_394) rfl d_M_look_5 ?_
      refine lv_icmp_ge (tgt := 38) hx hb d_M_look_8 rfl (fun hc5 => ?_) (fun hc5 => ?_)
      · rw [if_pos hc5] at h
        exact w38 u _ _ _ (lv_sub hl [0] rfl) hI h
      · rw [if_neg hc5] at h
        refine lv_aload_n hx hb d_M_look_11 rfl (lv_at hl 0 rfl) ?_
        refine g_get (v := .ref (ad 1)) hx hb hts in_M hown hK hI 0 rfl rfl 0 (by decide) (hts _ wd_392) rfl d_M_look_12 ?_
        refine lv_aload_n hx hb d_M_look_15 rfl (lv_at hl 0 rfl) ?_
        refine g_get (v := .int (m_at u)) hx hb hts in_M hown hK hI 0 rfl rfl 3 (by decide) (hts _ wd_395) rfl d_M_look_16 ?_
        obtain ⟨hg, h⟩ := gd_e h
        refine g_iald hx hb hK hI 1 0 rfl rfl hg d_M_look_19 ?_
        refine lv_bipush (v := 32) hx hb d_M_look_20 (by decide) ?_
        refine lv_icmp_ne (tgt := 38) hx hb d_M_look_22 rfl (fun hc6 => ?_) (fun hc6 => ?_)
        · rw [if_neg hc6] at h
          exact w38 u _ _ _ (lv_sub hl [0] rfl) hI h
        · rw [if_pos hc6] at h
          refine lv_aload_n hx hb d_M_look_25 rfl (lv_at hl 0 rfl) ?_
          refine lv_aload_n hx hb d_M_look_26 rfl (lv_at hl 0 rfl) ?_
          refine g_get (v := .int (m_at u)) hx hb hts in_M hown hK hI 0 rfl rfl 3 (by decide) (hts _ wd_395) rfl d_M_look_27 ?_
          refine lv_iconst (v := 1) hx hb d_M_look_30 (by decide) ?_
          refine lv_iadd hx hb d_M_look_31 ?_
          obtain ⟨u7, e_u7, h⟩ := lt_e h
          refine g_put (t := .int) (w' := m_W ad cA u7) hx hb hts in_M ty_M tyok_M nm_M hown hK hI 0 rfl rfl 3 (by decide) (hts _ wd_395) rfl (by decide +kernel) rfl rfl (Nat.le_of_ble_eq_true rfl) d_M_look_32 (by subst e_u7; rfl) (fun H locs hI => ?_)
          refine lv_goto (tgt := 0) hx hb d_M_look_35 rfl ?_
          exact ih u7 _ _ _ (lv_sub hl [0] rfl) hI h
  dsimp only [f_M_look] at h
  refine lv_aload_n hx hb d_M_look_0 rfl (lv_at hl 0 rfl) ?_
  refine g_get (v := .int (m_at u)) hx hb hts in_M hown hK hI 0 rfl rfl 3 (by decide) (hts _ wd_395) rfl d_M_look_1 ?_
  refine lv_aload_n hx hb d_M_look_4 rfl (lv_at hl 0 rfl) ?_
  refine g_get (v := .int (m_si u)) hx hb hts in_M hown hK hI 0 rfl rfl 2 (by decide) (hts _ wd_394) rfl d_M_look_5 ?_
  refine lv_icmp_ge (tgt := 38) hx hb d_M_look_8 rfl (fun hc1 => ?_) (fun hc1 => ?_)
  · rw [if_pos hc1] at h
    exact w38 u _ _ _ (lv_sub hl [0] rfl) hI h
  · rw [if_neg hc1] at h
    refine lv_aload_n hx hb d_M_look_11 rfl (lv_at hl 0 rfl) ?_
    refine g_get (v := .ref (ad 1)) hx hb hts in_M hown hK hI 0 rfl rfl 0 (by decide) (hts _ wd_392) rfl d_M_look_12 ?_
    refine lv_aload_n hx hb d_M_look_15 rfl (lv_at hl 0 rfl) ?_
    refine g_get (v := .int (m_at u)) hx hb hts in_M hown hK hI 0 rfl rfl 3 (by decide) (hts _ wd_395) rfl d_M_look_16 ?_
    obtain ⟨hg, h⟩ := gd_e h
    refine g_iald hx hb hK hI 1 0 rfl rfl hg d_M_look_19 ?_
    refine lv_bipush (v := 32) hx hb d_M_look_20 (by decide) ?_
    refine lv_icmp_ne (tgt := 38) hx hb d_M_look_22 rfl (fun hc2 => ?_) (fun hc2 => ?_)
    · rw [if_neg hc2] at h
      exact w38 u _ _ _ (lv_sub hl [0] rfl) hI h
    · rw [if_pos hc2] at h
      refine lv_aload_n hx hb d_M_look_25 rfl (lv_at hl 0 rfl) ?_
      refine lv_aload_n hx hb d_M_look_26 rfl (lv_at hl 0 rfl) ?_
      refine g_get (v := .int (m_at u)) hx hb hts in_M hown hK hI 0 rfl rfl 3 (by decide) (hts _ wd_395) rfl d_M_look_27 ?_
      refine lv_iconst (v := 1) hx hb d_M_look_30 (by decide) ?_
      refine lv_iadd hx hb d_M_look_31 ?_
      obtain ⟨u3, e_u3, h⟩ := lt_e h
      refine g_put (t := .int) (w' := m_W ad cA u3) hx hb hts in_M ty_M tyok_M nm_M hown hK hI 0 rfl rfl 3 (by decide) (hts _ wd_395) rfl (by decide +kernel) rfl rfl (Nat.le_of_ble_eq_true rfl) d_M_look_32 (by subst e_u3; rfl) (fun H locs hI => ?_)
      refine lv_goto (tgt := 0) hx hb d_M_look_35 rfl ?_
      exact w0 4096 u3 _ _ _ (lv_sub hl [0] rfl) hI h
