def f_M_isSo (a1 : Int32) (u : MS) : Option (Int32 × MS) := if (m_xf u) = 0 then (gd (bz (m_tr u)) (some (m_tr u, u))) else (ob (f_M_workedOut a1 u) fun r2 u3 => gd (bz r2) (some (r2, u3)))
set_option maxRecDepth 100000 in
set_option maxHeartbeats 4000000 in
theorem c_M_isSo (l : Launch) (D : va_G) (ad : Nat → Nat) (cA : Nat → ClassId) {a1 : Int32} {u u0 : MS} {r0 : Int32} (h : f_M_isSo a1 u = some (r0, u0)) : g_M l y_M_isSo w_M_isSo { frames := 7, cells := 0, slots := 0, locals := 176 } D vwCl (m_T cA) (m_W ad cA u) [.ref (ad 0), .int a1] (some (.int r0)) (m_W ad cA u0) := by
  refine g_ofW (cc := c0_M_isSo) (maxL := 2) (ret := (some .boolean)) (by decide) rfl (Nat.le_of_ble_eq_true rfl) ?_
  intro p e s m below meth c A ls hx hb hr hml hown hts hlk hK hA hI hl
  have hts : ∀ w ∈ gW, w.before ([.ref (ad 0), .int a1] : List Value).toArray s = true := fun w h => hts w (List.mem_cons_of_mem _ h)
  have hown : s.vm.findClass R_M = some m.cls := hown
  have hl : lv_has ls 2 [(0, .ref (ad 0)), (1, .int a1)] := hl
  dsimp only [f_M_isSo] at h
  refine lv_aload_n hx hb d_M_isSo_0 rfl (lv_at hl 0 rfl) ?_
  refine g_get (v := .int (m_xf u)) hx hb hts in_M hown hK hI 0 rfl rfl 7 (by decide) (hts _ wd_399) rfl d_M_isSo_1 ?_
  refine lv_if_eq (tgt := 15) hx hb d_M_isSo_4 rfl (fun hc1 => ?_) (fun hc1 => ?_)
  · rw [if_pos hc1] at h
    refine lv_aload_n hx hb d_M_isSo_15 rfl (lv_at hl 0 rfl) ?_
    refine g_get (v := .int (m_tr u)) hx hb hts in_M hown hK hI 0 rfl rfl 8 (by decide) (hts _ wd_400) rfl d_M_isSo_16 ?_
    exact g_zret (Wd := m_W ad cA) hx hb hr hlk hK hI h d_M_isSo_19
  · rw [if_neg hc1] at h
    refine lv_aload_n hx hb d_M_isSo_7 rfl (lv_at hl 0 rfl) ?_
    refine lv_iload_n hx hb d_M_isSo_8 rfl (lv_at hl 1 rfl) ?_
    obtain ⟨r2, u3, hc, h⟩ := ob_e h
    refine g_callV (As := [.int a1]) (rest := []) (w' := m_W ad cA u3) (o := some (.int r2)) ⟨hx, hb, hml, hown, hts⟩ (c_M_workedOut l D ad cA hc) (cwV 1 hts gq_M_129 rfl rfl rfl (by decide +kernel) ⟨Nat.le_of_ble_eq_true rfl, Nat.le_of_ble_eq_true rfl⟩) hK hI hA 0 5 rfl rfl rfl hl.1 rfl (Nat.le_of_ble_eq_true rfl) d_M_isSo_9 ⟨Nat.zero_le _, Nat.zero_le _⟩ rfl (fun H locs hI => ?_)
    refine lv_goto (tgt := 19) hx hb d_M_isSo_12 rfl ?_
    exact g_zret (Wd := m_W ad cA) hx hb hr hlk hK hI h d_M_isSo_19
def f_M_free (u : MS) : Option (Int32 × MS) := gd (bz (m_xf u)) (some (m_xf u, u))
set_option maxRecDepth 100000 in
set_option maxHeartbeats 4000000 in
theorem c_M_free (l : Launch) (D : va_G) (ad : Nat → Nat) (cA : Nat → ClassId) {u u0 : MS} {r0 : Int32} (h : f_M_free u = some (r0, u0)) : g_M l y_M_free w_M_free { frames := 0, cells := 0, slots := 0, locals := 0 } D vwCl (m_T cA) (m_W ad cA u) [.ref (ad 0)] (some (.int r0)) (m_W ad cA u0) := by
  refine g_ofW (cc := c0_M_free) (maxL := 1) (ret := (some .boolean)) (by decide) rfl (Nat.le_of_ble_eq_true rfl) ?_
  intro p e s m below meth c A ls hx hb hr hml hown hts hlk hK hA hI hl
  have hts : ∀ w ∈ gW, w.before ([.ref (ad 0)] : List Value).toArray s = true := fun w h => hts w (List.mem_cons_of_mem _ h)
  have hown : s.vm.findClass R_M = some m.cls := hown
  have hl : lv_has ls 1 [(0, .ref (ad 0))] := hl
  dsimp only [f_M_free] at h
  refine lv_aload_n hx hb d_M_free_0 rfl (lv_at hl 0 rfl) ?_
  refine g_get (v := .int (m_xf u)) hx hb hts in_M hown hK hI 0 rfl rfl 7 (by decide) (hts _ wd_399) rfl d_M_free_1 ?_
  exact g_zret (Wd := m_W ad cA) hx hb hr hlk hK hI h d_M_free_4
def f_M_isNear (a0 : Int32) (u : MS) : Option (Int32 × MS) := ob (f_M_in a0 ((-1000)) 1000 u) fun r1 u2 => gd (bz r1) (some (r1, u2))
set_option maxRecDepth 100000 in
set_option maxHeartbeats 4000000 in
theorem c_M_isNear (l : Launch) (D : va_G) (ad : Nat → Nat) (cA : Nat → ClassId) {a0 : Int32} {u u0 : MS} {r0 : Int32} (h : f_M_isNear a0 u = some (r0, u0)) : g_M l y_M_isNear w_M_isNear { frames := 1, cells := 0, slots := 0, locals := 22 } D vwCl (m_T cA) (m_W ad cA u) [.int a0] (some (.int r0)) (m_W ad cA u0) := by
  refine g_ofW (cc := c0_M_isNear) (maxL := 1) (ret := (some .boolean)) (by decide) rfl (Nat.le_of_ble_eq_true rfl) ?_
  intro p e s m below meth c A ls hx hb hr hml hown hts hlk hK hA hI hl
  have hts : ∀ w ∈ gW, w.before ([.int a0] : List Value).toArray s = true := fun w h => hts w (List.mem_cons_of_mem _ h)
  have hown : s.vm.findClass R_M = some m.cls := hown
  have hl : lv_has ls 1 [(0, .int a0)] := hl
  dsimp only [f_M_isNear] at h
  refine lv_iload_n hx hb d_M_isNear_0 rfl (lv_at hl 0 rfl) ?_
  refine lv_sipush (v := (-1000)) hx hb d_M_isNear_1 (by decide) ?_
  refine lv_sipush (v := 1000) hx hb d_M_isNear_4 (by decide) ?_
  obtain ⟨r1, u2, hc, h⟩ := ob_e h
  refine g_callS (As := [.int a0, .int ((-1000)), .int 1000]) (rest := []) (w' := m_W ad cA u2) (o := some (.int r1)) ⟨hx, hb, hml, hown, hts⟩ (c_M_in l D ad cA hc) (va_cwS 3 hts gq_M_70 rfl rfl rfl (by decide +kernel) ⟨Nat.le_of_ble_eq_true rfl, Nat.le_of_ble_eq_true rfl⟩) hK hI hA rfl hl.1 rfl (Nat.le_of_ble_eq_true rfl) d_M_isNear_7 ⟨Nat.zero_le _, Nat.zero_le _⟩ rfl (fun H locs hI => ?_)
  exact g_zret (Wd := m_W ad cA) hx hb hr hlk hK hI h d_M_isNear_10
def f_M_holds (a1 : Int32) (u : MS) : Option (Int32 × MS) := ob (f_M_isNear a1 u) fun r1 u2 => if r1 = 0 then (gd (bz 0) (some (0, u2))) else (ob (f_M_isSo a1 u2) fun r4 u5 => if r4 = 0 then (gd (bz 0) (some (0, u5))) else (gd (bz 1) (some (1, u5))))
set_option maxRecDepth 100000 in
set_option maxHeartbeats 4000000 in
theorem c_M_holds (l : Launch) (D : va_G) (ad : Nat → Nat) (cA : Nat → ClassId) {a1 : Int32} {u u0 : MS} {r0 : Int32} (h : f_M_holds a1 u = some (r0, u0)) : g_M l y_M_holds w_M_holds { frames := 8, cells := 0, slots := 0, locals := 197 } D vwCl (m_T cA) (m_W ad cA u) [.ref (ad 0), .int a1] (some (.int r0)) (m_W ad cA u0) := by
  refine g_ofW (cc := c0_M_holds) (maxL := 2) (ret := (some .boolean)) (by decide) rfl (Nat.le_of_ble_eq_true rfl) ?_
  intro p e s m below meth c A ls hx hb hr hml hown hts hlk hK hA hI hl
  have hts : ∀ w ∈ gW, w.before ([.ref (ad 0), .int a1] : List Value).toArray s = true := fun w h => hts w (List.mem_cons_of_mem _ h)
  have hown : s.vm.findClass R_M = some m.cls := hown
  have hl : lv_has ls 2 [(0, .ref (ad 0)), (1, .int a1)] := hl
  dsimp only [f_M_holds] at h
  refine lv_iload_n hx hb d_M_holds_0 rfl (lv_at hl 1 rfl) ?_
  obtain ⟨r1, u2, hc, h⟩ := ob_e h
  refine g_callS (As := [.int a1]) (rest := []) (w' := m_W ad cA u2) (o := some (.int r1)) ⟨hx, hb, hml, hown, hts⟩ (c_M_isNear l D ad cA hc) (va_cwS 1 hts gq_M_165 rfl rfl rfl (by decide +kernel) ⟨Nat.le_of_ble_eq_true rfl, Nat.le_of_ble_eq_true rfl⟩) hK hI hA rfl hl.1 rfl (Nat.le_of_ble_eq_true rfl) d_M_holds_1 ⟨Nat.zero_le _, Nat.zero_le _⟩ rfl (fun H locs hI => ?_)
  refine lv_if_eq (tgt := 19) hx hb d_M_holds_4 rfl (fun hc3 => ?_) (fun hc3 => ?_)
  · rw [if_pos hc3] at h
    refine lv_iconst (v := 0) hx hb d_M_holds_19 (by decide) ?_
    exact g_zret (Wd := m_W ad cA) hx hb hr hlk hK hI h d_M_holds_20
  · rw [if_neg hc3] at h
    refine lv_aload_n hx hb d_M_holds_7 rfl (lv_at hl 0 rfl) ?_
    refine lv_iload_n hx hb d_M_holds_8 rfl (lv_at hl 1 rfl) ?_
    obtain ⟨r4, u5, hc, h⟩ := ob_e h
    refine g_callV (As := [.int a1]) (rest := []) (w' := m_W ad cA u5) (o := some (.int r4)) ⟨hx, hb, hml, hown, hts⟩ (c_M_isSo l D ad cA hc) (cwV 1 hts gq_M_168 rfl rfl rfl (by decide +kernel) ⟨Nat.le_of_ble_eq_true rfl, Nat.le_of_ble_eq_true rfl⟩) hK hI hA 0 5 rfl rfl rfl hl.1 rfl (Nat.le_of_ble_eq_true rfl) d_M_holds_9 ⟨Nat.zero_le _, Nat.zero_le _⟩ rfl (fun H locs hI => ?_)
    refine lv_if_eq (tgt := 19) hx hb d_M_holds_12 rfl (fun hc6 => ?_) (fun hc6 => ?_)
    · rw [if_pos hc6] at h
      refine lv_iconst (v := 0) hx hb d_M_holds_19 (by decide) ?_
      exact g_zret (Wd := m_W ad cA) hx hb hr hlk hK hI h d_M_holds_20
    · rw [if_neg hc6] at h
      refine lv_iconst (v := 1) hx hb d_M_holds_15 (by decide) ?_
      refine lv_goto (tgt := 20) hx hb d_M_holds_16 rfl ?_
      exact g_zret (Wd := m_W ad cA) hx hb hr hlk hK hI h d_M_holds_20
def f_M_many_J21 (k6 : Int32 → Int32 → Int32 → Int32 → MS → Option (Int32 × MS)) (v2 : Int32) (v3 : Int32) (v4 : Int32) (v5 : Int32) (u : MS) : Option (Int32 × MS) := ob (f_M_isSo v5 u) fun r4 u5 => if r4 = 0 then (lt_ (v5 + 1) fun x7 => k6 v2 v3 v4 x7 u5) else (lt_ (v4 + 1) fun x8 => lt_ (v5 + 1) fun x9 => k6 v2 v3 x8 x9 u5)
def f_M_many_L6 (n : Nat) : Int32 → Int32 → Int32 → Int32 → MS → Option (Int32 × MS) := match n with
  | 0 => fun _ _ _ _ _ => none
  | n + 1 => fun v2 v3 v4 v5 u => if v2 < v5 then some (v4, u) else (if v3 = 0 then f_M_many_J21 (f_M_many_L6 n) v2 v3 v4 v5 u else (if 0 < v4 then some (v4, u) else f_M_many_J21 (f_M_many_L6 n) v2 v3 v4 v5 u))
def f_M_many (a1 : Int32) (a2 : Int32) (a3 : Int32) (u : MS) : Option (Int32 × MS) := f_M_many_L6 4096 a2 a3 0 a1 u
set_option maxRecDepth 100000 in
set_option maxHeartbeats 4000000 in
theorem c_M_many (l : Launch) (D : va_G) (ad : Nat → Nat) (cA : Nat → ClassId) {a1 : Int32} {a2 : Int32} {a3 : Int32} {u u0 : MS} {r0 : Int32} (h : f_M_many a1 a2 a3 u = some (r0, u0)) : g_M l y_M_many w_M_many { frames := 8, cells := 0, slots := 0, locals := 197 } D vwCl (m_T cA) (m_W ad cA u) [.ref (ad 0), .int a1, .int a2, .int a3] (some (.int r0)) (m_W ad cA u0) := by
  refine g_ofW (cc := c0_M_many) (maxL := 6) (ret := (some .int)) (by decide) rfl (Nat.le_of_ble_eq_true rfl) ?_
  intro p e s m below meth c A ls hx hb hr hml hown hts hlk hK hA hI hl
  have hts : ∀ w ∈ gW, w.before ([.ref (ad 0), .int a1, .int a2, .int a3] : List Value).toArray s = true := fun w h => hts w (List.mem_cons_of_mem _ h)
  have hown : s.vm.findClass R_M = some m.cls := hown
  have hl : lv_has ls 6 [(0, .ref (ad 0)), (1, .int a1), (2, .int a2), (3, .int a3)] := hl
  have w21 : ∀ (k6 : Int32 → Int32 → Int32 → Int32 → MS → Option (Int32 × MS)) (hk6 : ∀ (v2 : Int32) (v3 : Int32) (v4 : Int32) (v5 : Int32) (u : MS) (H : Heap) (locs : List Loc) (ls : Array Slot), lv_has ls 6 [(0, .ref (ad 0)), (2, .int v2), (3, .int v3), (4, .int v4), (5, .int v5)] → g_I D vwCl A s.heap H locs (m_W ad cA u) → k6 v2 v3 v4 v5 u = some (r0, u0) → W p l e { frames := 8, cells := 0, slots := 0, locals := 197 } s m ([.ref (ad 0), .int a1, .int a2, .int a3] : List Value).toArray below meth c H locs 0 0 (MQ below (g_Q D vwCl (m_T cA) (m_W ad cA u0) A (some (.int r0))) ([.ref (ad 0), .int a1, .int a2, .int a3] : List Value).toArray s 0 0 A) (F0 m 6 ls [])) (v2 : Int32) (v3 : Int32) (v4 : Int32) (v5 : Int32) (u : MS) (H : Heap) (locs : List Loc) (ls : Array Slot), lv_has ls 6 [(0, .ref (ad 0)), (2, .int v2), (3, .int v3), (4, .int v4), (5, .int v5)] → g_I D vwCl A s.heap H locs (m_W ad cA u) → f_M_many_J21 k6 v2 v3 v4 v5 u = some (r0, u0) → W p l e { frames := 8, cells := 0, slots := 0, locals := 197 } s m ([.ref (ad 0), .int a1, .int a2, .int a3] : List Value).toArray below meth c H locs 0 0 (MQ below (g_Q D vwCl (m_T cA) (m_W ad cA u0) A (some (.int r0))) ([.ref (ad 0), .int a1, .int a2, .int a3] : List Value).toArray s 0 0 A) (F0 m 21 ls []) := by
    intro k6 hk6 v2 v3 v4 v5 u H locs ls hl hI h
    dsimp only [f_M_many_J21] at h
    refine lv_aload_n hx hb d_M_many_21 rfl (lv_at hl 0 rfl) ?_
    refine lv_iload hx hb d_M_many_22 (lv_at hl 4 rfl) ?_
    obtain ⟨r4, u5, hc, h⟩ := ob_e h
    refine g_callV (As := [.int v5]) (rest := []) (w' := m_W ad cA u5) (o := some (.int r4)) ⟨hx, hb, hml, hown, hts⟩ (c_M_isSo l D ad cA hc) (cwV 1 hts gq_M_168 rfl rfl rfl (by decide +kernel) ⟨Nat.le_of_ble_eq_true rfl, Nat.le_of_ble_eq_true rfl⟩) hK hI hA 0 5 rfl rfl rfl hl.1 rfl (Nat.le_of_ble_eq_true rfl) d_M_many_24 ⟨Nat.zero_le _, Nat.zero_le _⟩ rfl (fun H locs hI => ?_)
    refine lv_if_eq (tgt := 37) hx hb d_M_many_27 rfl (fun hc6 => ?_) (fun hc6 => ?_)
    · rw [if_pos hc6] at h
      refine lv_iload hx hb d_M_many_37 (lv_at hl 3 rfl) ?_
      refine lv_istore (lv' := [(4, .int v4), (0, .ref (ad 0)), (2, .int v2), (3, .int v3), (5, .int v5)]) hx hb d_M_many_39 hl (by decide) rfl (fun ls hl => ?_)
      obtain ⟨x7, e_x7, h⟩ := lt_e h
      refine lv_iinc (v := x7) (k := 4) hx hb d_M_many_41 hl rfl (by subst e_x7; rfl) (by decide) rfl (fun ls hl => ?_)
      refine lv_goto (tgt := 6) hx hb d_M_many_44 rfl ?_
      exact hk6 v2 v3 v4 x7 u5 _ _ _ (lv_sub hl [2, 3, 4, 1, 0] rfl) hI h
    · rw [if_neg hc6] at h
      refine lv_iload hx hb d_M_many_30 (lv_at hl 3 rfl) ?_
      refine lv_iconst (v := 1) hx hb d_M_many_32 (by decide) ?_
      refine lv_iadd hx hb d_M_many_33 ?_
      refine lv_goto (tgt := 39) hx hb d_M_many_34 rfl ?_
      obtain ⟨x8, e_x8, h⟩ := lt_e h
      refine lv_istore (lv' := [(4, .int x8), (0, .ref (ad 0)), (2, .int v2), (3, .int v3), (5, .int v5)]) hx hb d_M_many_39 hl (by decide) (by subst e_x8; rfl) (fun ls hl => ?_)
      obtain ⟨x9, e_x9, h⟩ := lt_e h
      refine lv_iinc (v := x9) (k := 4) hx hb d_M_many_41 hl rfl (by subst e_x9; rfl) (by decide) rfl (fun ls hl => ?_)
      refine lv_goto (tgt := 6) hx hb d_M_many_44 rfl ?_
      exact hk6 v2 v3 x8 x9 u5 _ _ _ (lv_sub hl [2, 3, 4, 1, 0] rfl) hI h
  have w6 : ∀ (n : Nat) (v2 : Int32) (v3 : Int32) (v4 : Int32) (v5 : Int32) (u : MS) (H : Heap) (locs : List Loc) (ls : Array Slot), lv_has ls 6 [(0, .ref (ad 0)), (2, .int v2), (3, .int v3), (4, .int v4), (5, .int v5)] → g_I D vwCl A s.heap H locs (m_W ad cA u) → f_M_many_L6 n v2 v3 v4 v5 u = some (r0, u0) → W p l e { frames := 8, cells := 0, slots := 0, locals := 197 } s m ([.ref (ad 0), .int a1, .int a2, .int a3] : List Value).toArray below meth c H locs 0 0 (MQ below (g_Q D vwCl (m_T cA) (m_W ad cA u0) A (some (.int r0))) ([.ref (ad 0), .int a1, .int a2, .int a3] : List Value).toArray s 0 0 A) (F0 m 6 ls []) := by
    intro  n
    induction n with
    | zero => intro v2 v3 v4 v5 u H locs ls hl hI h; cases h
    | succ n ih =>
      intro v2 v3 v4 v5 u H locs ls hl hI h
      dsimp only [f_M_many_L6] at h
      refine lv_iload hx hb d_M_many_6 (lv_at hl 4 rfl) ?_
      refine lv_iload_n hx hb d_M_many_8 rfl (lv_at hl 1 rfl) ?_
      refine lv_icmp_gt (tgt := 47) hx hb d_M_many_9 rfl (fun hc1 => ?_) (fun hc1 => ?_)
      · rw [if_pos hc1] at h
        refine lv_iload hx hb d_M_many_47 (lv_at hl 3 rfl) ?_
        exact g_iret (Wd := m_W ad cA) hx hb hr hlk hK hI h d_M_many_49
      · rw [if_neg hc1] at h
        refine lv_iload_n hx hb d_M_many_12 rfl (lv_at hl 2 rfl) ?_
        refine lv_if_eq (tgt := 21) hx hb d_M_many_13 rfl (fun hc2 => ?_) (fun hc2 => ?_)
        · rw [if_pos hc2] at h
          exact w21 (f_M_many_L6 n) ih v2 v3 v4 v5 u _ _ _ (lv_sub hl [0, 1, 2, 3, 4] rfl) hI h
        · rw [if_neg hc2] at h
          refine lv_iload hx hb d_M_many_16 (lv_at hl 3 rfl) ?_
          refine lv_if_gt (tgt := 47) hx hb d_M_many_18 rfl (fun hc3 => ?_) (fun hc3 => ?_)
          · rw [if_pos hc3] at h
            refine lv_iload hx hb d_M_many_47 (lv_at hl 3 rfl) ?_
            exact g_iret (Wd := m_W ad cA) hx hb hr hlk hK hI h d_M_many_49
          · rw [if_neg hc3] at h
            exact w21 (f_M_many_L6 n) ih v2 v3 v4 v5 u _ _ _ (lv_sub hl [0, 1, 2, 3, 4] rfl) hI h
  dsimp only [f_M_many] at h
  refine lv_iconst (v := 0) hx hb d_M_many_0 (by decide) ?_
  refine lv_istore (lv' := [(4, .int 0), (0, .ref (ad 0)), (1, .int a1), (2, .int a2), (3, .int a3)]) hx hb d_M_many_1 hl (by decide) rfl (fun ls hl => ?_)
  refine lv_iload_n hx hb d_M_many_3 rfl (lv_at hl 2 rfl) ?_
  refine lv_istore (lv' := [(5, .int a1), (4, .int 0), (0, .ref (ad 0)), (1, .int a1), (2, .int a2), (3, .int a3)]) hx hb d_M_many_4 hl (by decide) rfl (fun ls hl => ?_)
  exact w6 4096 a2 a3 0 a1 u _ _ _ (lv_sub hl [2, 4, 5, 1, 0] rfl) hI h
def f_M_some_J20 (t0 : Int32) (t1 : Int32) (u : MS) : Option (Int32 × MS) := ob (f_M_many t1 t0 1 u) fun r2 u3 => if r2 ≤ 0 then (gd (bz 0) (some (0, u3))) else (gd (bz 1) (some (1, u3)))
def f_M_some (u : MS) : Option (Int32 × MS) := if (m_xf u) = 0 then f_M_some_J20 ((-150)) ((-150)) u else f_M_some_J20 150 ((-150)) u
set_option maxRecDepth 100000 in
set_option maxHeartbeats 4000000 in
theorem c_M_some (l : Launch) (D : va_G) (ad : Nat → Nat) (cA : Nat → ClassId) {u u0 : MS} {r0 : Int32} (h : f_M_some u = some (r0, u0)) : g_M l y_M_some w_M_some { frames := 9, cells := 0, slots := 0, locals := 222 } D vwCl (m_T cA) (m_W ad cA u) [.ref (ad 0)] (some (.int r0)) (m_W ad cA u0) := by
  refine g_ofW (cc := c0_M_some) (maxL := 1) (ret := (some .boolean)) (by decide) rfl (Nat.le_of_ble_eq_true rfl) ?_
  intro p e s m below meth c A ls hx hb hr hml hown hts hlk hK hA hI hl
  have hts : ∀ w ∈ gW, w.before ([.ref (ad 0)] : List Value).toArray s = true := fun w h => hts w (List.mem_cons_of_mem _ h)
  have hown : s.vm.findClass R_M = some m.cls := hown
  have hl : lv_has ls 1 [(0, .ref (ad 0))] := hl
  have w20 : ∀ (t0 : Int32) (t1 : Int32) (u : MS) (H : Heap) (locs : List Loc) (ls : Array Slot), lv_has ls 1 [] → g_I D vwCl A s.heap H locs (m_W ad cA u) → f_M_some_J20 t0 t1 u = some (r0, u0) → W p l e { frames := 9, cells := 0, slots := 0, locals := 222 } s m ([.ref (ad 0)] : List Value).toArray below meth c H locs 0 0 (MQ below (g_Q D vwCl (m_T cA) (m_W ad cA u0) A (some (.int r0))) ([.ref (ad 0)] : List Value).toArray s 0 0 A) (F0 m 20 ls [.int t0, .int t1, .ref (ad 0)]) := by
    intro  t0 t1 u H locs ls hl hI h
    dsimp only [f_M_some_J20] at h
    refine lv_iconst (v := 1) hx hb d_M_some_20 (by decide) ?_
    obtain ⟨r2, u3, hc, h⟩ := ob_e h
    refine g_callV (As := [.int t1, .int t0, .int 1]) (rest := []) (w' := m_W ad cA u3) (o := some (.int r2)) ⟨hx, hb, hml, hown, hts⟩ (c_M_many l D ad cA hc) (cwV 3 hts gq_M_171 rfl rfl rfl (by decide +kernel) ⟨Nat.le_of_ble_eq_true rfl, Nat.le_of_ble_eq_true rfl⟩) hK hI hA 0 5 rfl rfl rfl hl.1 rfl (Nat.le_of_ble_eq_true rfl) d_M_some_21 ⟨Nat.zero_le _, Nat.zero_le _⟩ rfl (fun H locs hI => ?_)
    refine lv_if_le (tgt := 31) hx hb d_M_some_24 rfl (fun hc4 => ?_) (fun hc4 => ?_)
    · rw [if_pos hc4] at h
      refine lv_iconst (v := 0) hx hb d_M_some_31 (by decide) ?_
      exact g_zret (Wd := m_W ad cA) hx hb hr hlk hK hI h d_M_some_32
    · rw [if_neg hc4] at h
      refine lv_iconst (v := 1) hx hb d_M_some_27 (by decide) ?_
      refine lv_goto (tgt := 32) hx hb d_M_some_28 rfl ?_
      exact g_zret (Wd := m_W ad cA) hx hb hr hlk hK hI h d_M_some_32
  dsimp only [f_M_some] at h
  refine lv_aload_n hx hb d_M_some_0 rfl (lv_at hl 0 rfl) ?_
  refine lv_sipush (v := (-150)) hx hb d_M_some_1 (by decide) ?_
  refine lv_aload_n hx hb d_M_some_4 rfl (lv_at hl 0 rfl) ?_
  refine g_get (v := .int (m_xf u)) hx hb hts in_M hown hK hI 0 rfl rfl 7 (by decide) (hts _ wd_399) rfl d_M_some_5 ?_
  refine lv_if_eq (tgt := 17) hx hb d_M_some_8 rfl (fun hc1 => ?_) (fun hc1 => ?_)
  · rw [if_pos hc1] at h
    refine lv_sipush (v := (-150)) hx hb d_M_some_17 (by decide) ?_
    exact w20 ((-150)) ((-150)) u _ _ _ (lv_sub hl [] rfl) hI h
  · rw [if_neg hc1] at h
    refine lv_sipush (v := 150) hx hb d_M_some_11 (by decide) ?_
    refine lv_goto (tgt := 20) hx hb d_M_some_14 rfl ?_
    exact w20 150 ((-150)) u _ _ _ (lv_sub hl [] rfl) hI h
def f_M_all_J16 (t0 : Int32) (u : MS) : Option (Int32 × MS) := ob (f_M_many ((-150)) t0 0 u) fun r2 u3 => if r2 = ((t0 + 150) + 1) then (gd (bz 1) (some (1, u3))) else (gd (bz 0) (some (0, u3)))
def f_M_all (u : MS) : Option (Int32 × MS) := if (m_xf u) = 0 then f_M_all_J16 ((-150)) u else f_M_all_J16 150 u
set_option maxRecDepth 100000 in
set_option maxHeartbeats 4000000 in
theorem c_M_all (l : Launch) (D : va_G) (ad : Nat → Nat) (cA : Nat → ClassId) {u u0 : MS} {r0 : Int32} (h : f_M_all u = some (r0, u0)) : g_M l y_M_all w_M_all { frames := 9, cells := 0, slots := 0, locals := 222 } D vwCl (m_T cA) (m_W ad cA u) [.ref (ad 0)] (some (.int r0)) (m_W ad cA u0) := by
  refine g_ofW (cc := c0_M_all) (maxL := 2) (ret := (some .boolean)) (by decide) rfl (Nat.le_of_ble_eq_true rfl) ?_
  intro p e s m below meth c A ls hx hb hr hml hown hts hlk hK hA hI hl
  have hts : ∀ w ∈ gW, w.before ([.ref (ad 0)] : List Value).toArray s = true := fun w h => hts w (List.mem_cons_of_mem _ h)
  have hown : s.vm.findClass R_M = some m.cls := hown
  have hl : lv_has ls 2 [(0, .ref (ad 0))] := hl
  have w16 : ∀ (t0 : Int32) (u : MS) (H : Heap) (locs : List Loc) (ls : Array Slot), lv_has ls 2 [(0, .ref (ad 0))] → g_I D vwCl A s.heap H locs (m_W ad cA u) → f_M_all_J16 t0 u = some (r0, u0) → W p l e { frames := 9, cells := 0, slots := 0, locals := 222 } s m ([.ref (ad 0)] : List Value).toArray below meth c H locs 0 0 (MQ below (g_Q D vwCl (m_T cA) (m_W ad cA u0) A (some (.int r0))) ([.ref (ad 0)] : List Value).toArray s 0 0 A) (F0 m 16 ls [.int t0]) := by
    intro  t0 u H locs ls hl hI h
    dsimp only [f_M_all_J16] at h
    refine lv_istore_n (lv' := [(1, .int t0), (0, .ref (ad 0))]) hx hb d_M_all_16 rfl hl (by decide) rfl (fun ls hl => ?_)
    refine lv_aload_n hx hb d_M_all_17 rfl (lv_at hl 1 rfl) ?_
    refine lv_sipush (v := (-150)) hx hb d_M_all_18 (by decide) ?_
    refine lv_iload_n hx hb d_M_all_21 rfl (lv_at hl 0 rfl) ?_
    refine lv_iconst (v := 0) hx hb d_M_all_22 (by decide) ?_
    obtain ⟨r2, u3, hc, h⟩ := ob_e h
    refine g_callV (As := [.int ((-150)), .int t0, .int 0]) (rest := []) (w' := m_W ad cA u3) (o := some (.int r2)) ⟨hx, hb, hml, hown, hts⟩ (c_M_many l D ad cA hc) (cwV 3 hts gq_M_171 rfl rfl rfl (by decide +kernel) ⟨Nat.le_of_ble_eq_true rfl, Nat.le_of_ble_eq_true rfl⟩) hK hI hA 0 5 rfl rfl rfl hl.1 rfl (Nat.le_of_ble_eq_true rfl) d_M_all_23 ⟨Nat.zero_le _, Nat.zero_le _⟩ rfl (fun H locs hI => ?_)
    refine lv_iload_n hx hb d_M_all_26 rfl (lv_at hl 0 rfl) ?_
    refine lv_sipush (v := 150) hx hb d_M_all_27 (by decide) ?_
    refine lv_iadd hx hb d_M_all_30 ?_
    refine lv_iconst (v := 1) hx hb d_M_all_31 (by decide) ?_
    refine lv_iadd hx hb d_M_all_32 ?_
    refine lv_icmp_ne (tgt := 40) hx hb d_M_all_33 rfl (fun hc4 => ?_) (fun hc4 => ?_)
    · rw [if_neg hc4] at h
      refine lv_iconst (v := 0) hx hb d_M_all_40 (by decide) ?_
      exact g_zret (Wd := m_W ad cA) hx hb hr hlk hK hI h d_M_all_41
    · rw [if_pos hc4] at h
      refine lv_iconst (v := 1) hx hb d_M_all_36 (by decide) ?_
      refine lv_goto (tgt := 41) hx hb d_M_all_37 rfl ?_
      exact g_zret (Wd := m_W ad cA) hx hb hr hlk hK hI h d_M_all_41
  dsimp only [f_M_all] at h
  refine lv_aload_n hx hb d_M_all_0 rfl (lv_at hl 0 rfl) ?_
  refine g_get (v := .int (m_xf u)) hx hb hts in_M hown hK hI 0 rfl rfl 7 (by decide) (hts _ wd_399) rfl d_M_all_1 ?_
  refine lv_if_eq (tgt := 13) hx hb d_M_all_4 rfl (fun hc1 => ?_) (fun hc1 => ?_)
  · rw [if_pos hc1] at h
    refine lv_sipush (v := (-150)) hx hb d_M_all_13 (by decide) ?_
    exact w16 ((-150)) u _ _ _ (lv_sub hl [0] rfl) hI h
  · rw [if_neg hc1] at h
    refine lv_sipush (v := 150) hx hb d_M_all_7 (by decide) ?_
    refine lv_goto (tgt := 16) hx hb d_M_all_10 rfl ?_
    exact w16 150 u _ _ _ (lv_sub hl [0] rfl) hI h
def f_M_next_L20 (n : Nat) : Int32 → Int32 → Int32 → MS → Option (Int32 × MS) := match n with
  | 0 => fun _ _ _ _ => none
  | n + 1 => fun v1 v2 v3 u => ob (f_M_isNear v1 u) fun r4 u5 => if r4 = 0 then some (1000000, u5) else (if v2 < v3 then some (1000000, u5) else (ob (f_M_isSo v3 u5) fun r8 u9 => if r8 = 0 then (lt_ (v3 + 1) fun x11 => f_M_next_L20 n v1 v2 x11 u9) else some (v3, u9)))
def f_M_next (a1 : Int32) (u : MS) : Option (Int32 × MS) := if a1 ≤ 150 then (lt_ (150 + 12) fun x2 => f_M_next_L20 4096 a1 x2 a1 u) else (lt_ (a1 + 12) fun x3 => f_M_next_L20 4096 a1 x3 a1 u)
set_option maxRecDepth 100000 in
set_option maxHeartbeats 4000000 in
theorem c_M_next (l : Launch) (D : va_G) (ad : Nat → Nat) (cA : Nat → ClassId) {a1 : Int32} {u u0 : MS} {r0 : Int32} (h : f_M_next a1 u = some (r0, u0)) : g_M l y_M_next w_M_next { frames := 8, cells := 0, slots := 0, locals := 197 } D vwCl (m_T cA) (m_W ad cA u) [.ref (ad 0), .int a1] (some (.int r0)) (m_W ad cA u0) := by
  refine g_ofW (cc := c0_M_next) (maxL := 4) (ret := (some .int)) (by decide) rfl (Nat.le_of_ble_eq_true rfl) ?_
  intro p e s m below meth c A ls hx hb hr hml hown hts hlk hK hA hI hl
  have hts : ∀ w ∈ gW, w.before ([.ref (ad 0), .int a1] : List Value).toArray s = true := fun w h => hts w (List.mem_cons_of_mem _ h)
  have hown : s.vm.findClass R_M = some m.cls := hown
  have hl : lv_has ls 4 [(0, .ref (ad 0)), (1, .int a1)] := hl
  have w20 : ∀ (n : Nat) (v1 : Int32) (v2 : Int32) (v3 : Int32) (u : MS) (H : Heap) (locs : List Loc) (ls : Array Slot), lv_has ls 4 [(0, .ref (ad 0)), (1, .int v1), (2, .int v2), (3, .int v3)] → g_I D vwCl A s.heap H locs (m_W ad cA u) → f_M_next_L20 n v1 v2 v3 u = some (r0, u0) → W p l e { frames := 8, cells := 0, slots := 0, locals := 197 } s m ([.ref (ad 0), .int a1] : List Value).toArray below meth c H locs 0 0 (MQ below (g_Q D vwCl (m_T cA) (m_W ad cA u0) A (some (.int r0))) ([.ref (ad 0), .int a1] : List Value).toArray s 0 0 A) (F0 m 20 ls []) := by
    intro  n
    induction n with
    | zero => intro v1 v2 v3 u H locs ls hl hI h; cases h
    | succ n ih =>
      intro v1 v2 v3 u H locs ls hl hI h
      dsimp only [f_M_next_L20] at h
      refine lv_iload_n hx hb d_M_next_20 rfl (lv_at hl 1 rfl) ?_
      obtain ⟨r4, u5, hc, h⟩ := ob_e h
      refine g_callS (As := [.int v1]) (rest := []) (w' := m_W ad cA u5) (o := some (.int r4)) ⟨hx, hb, hml, hown, hts⟩ (c_M_isNear l D ad cA hc) (va_cwS 1 hts gq_M_165 rfl rfl rfl (by decide +kernel) ⟨Nat.le_of_ble_eq_true rfl, Nat.le_of_ble_eq_true rfl⟩) hK hI hA rfl hl.1 rfl (Nat.le_of_ble_eq_true rfl) d_M_next_21 ⟨Nat.zero_le _, Nat.zero_le _⟩ rfl (fun H locs hI => ?_)
      refine lv_if_eq (tgt := 48) hx hb d_M_next_24 rfl (fun hc6 => ?_) (fun hc6 => ?_)
      · rw [if_pos hc6] at h
        refine lv_ldc (v := 1000000) hx hb hown (hts _ wd_594) d_M_next_48 ?_
        exact g_iret (Wd := m_W ad cA) hx hb hr hlk hK hI h d_M_next_50
      · rw [if_neg hc6] at h
        refine lv_iload_n hx hb d_M_next_27 rfl (lv_at hl 3 rfl) ?_
        refine lv_iload_n hx hb d_M_next_28 rfl (lv_at hl 2 rfl) ?_
        refine lv_icmp_gt (tgt := 48) hx hb d_M_next_29 rfl (fun hc7 => ?_) (fun hc7 => ?_)
        · rw [if_pos hc7] at h
          refine lv_ldc (v := 1000000) hx hb hown (hts _ wd_594) d_M_next_48 ?_
          exact g_iret (Wd := m_W ad cA) hx hb hr hlk hK hI h d_M_next_50
        · rw [if_neg hc7] at h
          refine lv_aload_n hx hb d_M_next_32 rfl (lv_at hl 0 rfl) ?_
          refine lv_iload_n hx hb d_M_next_33 rfl (lv_at hl 3 rfl) ?_
          obtain ⟨r8, u9, hc, h⟩ := ob_e h
          refine g_callV (As := [.int v3]) (rest := []) (w' := m_W ad cA u9) (o := some (.int r8)) ⟨hx, hb, hml, hown, hts⟩ (c_M_isSo l D ad cA hc) (cwV 1 hts gq_M_168 rfl rfl rfl (by decide +kernel) ⟨Nat.le_of_ble_eq_true rfl, Nat.le_of_ble_eq_true rfl⟩) hK hI hA 0 5 rfl rfl rfl hl.1 rfl (Nat.le_of_ble_eq_true rfl) d_M_next_34 ⟨Nat.zero_le _, Nat.zero_le _⟩ rfl (fun H locs hI => ?_)
          refine lv_if_eq (tgt := 42) hx hb d_M_next_37 rfl (fun hc10 => ?_) (fun hc10 => ?_)
          · rw [if_pos hc10] at h
            obtain ⟨x11, e_x11, h⟩ := lt_e h
            refine lv_iinc (v := x11) (k := 3) hx hb d_M_next_42 hl rfl (by subst e_x11; rfl) (by decide) rfl (fun ls hl => ?_)
            refine lv_goto (tgt := 20) hx hb d_M_next_45 rfl ?_
            exact ih v1 v2 x11 u9 _ _ _ (lv_sub hl [1, 2, 3, 0] rfl) hI h
          · rw [if_neg hc10] at h
            refine lv_iload_n hx hb d_M_next_40 rfl (lv_at hl 3 rfl) ?_
            exact g_iret (Wd := m_W ad cA) hx hb hr hlk hK hI h d_M_next_41
  dsimp only [f_M_next] at h
  refine lv_iload_n hx hb d_M_next_0 rfl (lv_at hl 1 rfl) ?_
  refine lv_sipush (v := 150) hx hb d_M_next_1 (by decide) ?_
  refine lv_icmp_le (tgt := 11) hx hb d_M_next_4 rfl (fun hc1 => ?_) (fun hc1 => ?_)
  · rw [if_pos hc1] at h
    refine lv_sipush (v := 150) hx hb d_M_next_11 (by decide) ?_
    refine lv_bipush (v := 12) hx hb d_M_next_14 (by decide) ?_
    refine lv_iadd hx hb d_M_next_16 ?_
    obtain ⟨x2, e_x2, h⟩ := lt_e h
    refine lv_istore_n (lv' := [(2, .int x2), (0, .ref (ad 0)), (1, .int a1)]) hx hb d_M_next_17 rfl hl (by decide) (by subst e_x2; rfl) (fun ls hl => ?_)
    refine lv_iload_n hx hb d_M_next_18 rfl (lv_at hl 2 rfl) ?_
    refine lv_istore_n (lv' := [(3, .int a1), (2, .int x2), (0, .ref (ad 0)), (1, .int a1)]) hx hb d_M_next_19 rfl hl (by decide) rfl (fun ls hl => ?_)
    exact w20 4096 a1 x2 a1 u _ _ _ (lv_sub hl [2, 3, 1, 0] rfl) hI h
  · rw [if_neg hc1] at h
    refine lv_iload_n hx hb d_M_next_7 rfl (lv_at hl 1 rfl) ?_
    refine lv_goto (tgt := 14) hx hb d_M_next_8 rfl ?_
    refine lv_bipush (v := 12) hx hb d_M_next_14 (by decide) ?_
    refine lv_iadd hx hb d_M_next_16 ?_
    obtain ⟨x3, e_x3, h⟩ := lt_e h
    refine lv_istore_n (lv' := [(2, .int x3), (0, .ref (ad 0)), (1, .int a1)]) hx hb d_M_next_17 rfl hl (by decide) (by subst e_x3; rfl) (fun ls hl => ?_)
    refine lv_iload_n hx hb d_M_next_18 rfl (lv_at hl 2 rfl) ?_
    refine lv_istore_n (lv' := [(3, .int a1), (2, .int x3), (0, .ref (ad 0)), (1, .int a1)]) hx hb d_M_next_19 rfl hl (by decide) rfl (fun ls hl => ?_)
    exact w20 4096 a1 x3 a1 u _ _ _ (lv_sub hl [2, 3, 1, 0] rfl) hI h
def f_M_last_L20 (n : Nat) : Int32 → Int32 → Int32 → MS → Option (Int32 × MS) := match n with
  | 0 => fun _ _ _ _ => none
  | n + 1 => fun v1 v2 v3 u => ob (f_M_isNear v1 u) fun r4 u5 => if r4 = 0 then some ((-1000000), u5) else (if v3 < v2 then some ((-1000000), u5) else (ob (f_M_isSo v3 u5) fun r8 u9 => if r8 = 0 then (lt_ (v3 + (-1)) fun x11 => f_M_last_L20 n v1 v2 x11 u9) else some (v3, u9)))
def f_M_last (a1 : Int32) (u : MS) : Option (Int32 × MS) := if ((-150)) ≤ a1 then (lt_ (((-150)) - 12) fun x2 => f_M_last_L20 4096 a1 x2 a1 u) else (lt_ (a1 - 12) fun x3 => f_M_last_L20 4096 a1 x3 a1 u)
set_option maxRecDepth 100000 in
set_option maxHeartbeats 4000000 in
theorem c_M_last (l : Launch) (D : va_G) (ad : Nat → Nat) (cA : Nat → ClassId) {a1 : Int32} {u u0 : MS} {r0 : Int32} (h : f_M_last a1 u = some (r0, u0)) : g_M l y_M_last w_M_last { frames := 8, cells := 0, slots := 0, locals := 197 } D vwCl (m_T cA) (m_W ad cA u) [.ref (ad 0), .int a1] (some (.int r0)) (m_W ad cA u0) := by
  refine g_ofW (cc := c0_M_last) (maxL := 4) (ret := (some .int)) (by decide) rfl (Nat.le_of_ble_eq_true rfl) ?_
  intro p e s m below meth c A ls hx hb hr hml hown hts hlk hK hA hI hl
  have hts : ∀ w ∈ gW, w.before ([.ref (ad 0), .int a1] : List Value).toArray s = true := fun w h => hts w (List.mem_cons_of_mem _ h)
  have hown : s.vm.findClass R_M = some m.cls := hown
  have hl : lv_has ls 4 [(0, .ref (ad 0)), (1, .int a1)] := hl
  have w20 : ∀ (n : Nat) (v1 : Int32) (v2 : Int32) (v3 : Int32) (u : MS) (H : Heap) (locs : List Loc) (ls : Array Slot), lv_has ls 4 [(0, .ref (ad 0)), (1, .int v1), (2, .int v2), (3, .int v3)] → g_I D vwCl A s.heap H locs (m_W ad cA u) → f_M_last_L20 n v1 v2 v3 u = some (r0, u0) → W p l e { frames := 8, cells := 0, slots := 0, locals := 197 } s m ([.ref (ad 0), .int a1] : List Value).toArray below meth c H locs 0 0 (MQ below (g_Q D vwCl (m_T cA) (m_W ad cA u0) A (some (.int r0))) ([.ref (ad 0), .int a1] : List Value).toArray s 0 0 A) (F0 m 20 ls []) := by
    intro  n
    induction n with
    | zero => intro v1 v2 v3 u H locs ls hl hI h; cases h
    | succ n ih =>
      intro v1 v2 v3 u H locs ls hl hI h
      dsimp only [f_M_last_L20] at h
      refine lv_iload_n hx hb d_M_last_20 rfl (lv_at hl 1 rfl) ?_
      obtain ⟨r4, u5, hc, h⟩ := ob_e h
      refine g_callS (As := [.int v1]) (rest := []) (w' := m_W ad cA u5) (o := some (.int r4)) ⟨hx, hb, hml, hown, hts⟩ (c_M_isNear l D ad cA hc) (va_cwS 1 hts gq_M_165 rfl rfl rfl (by decide +kernel) ⟨Nat.le_of_ble_eq_true rfl, Nat.le_of_ble_eq_true rfl⟩) hK hI hA rfl hl.1 rfl (Nat.le_of_ble_eq_true rfl) d_M_last_21 ⟨Nat.zero_le _, Nat.zero_le _⟩ rfl (fun H locs hI => ?_)
      refine lv_if_eq (tgt := 48) hx hb d_M_last_24 rfl (fun hc6 => ?_) (fun hc6 => ?_)
      · rw [if_pos hc6] at h
        refine lv_ldc (v := (-1000000)) hx hb hown (hts _ wd_599) d_M_last_48 ?_
        exact g_iret (Wd := m_W ad cA) hx hb hr hlk hK hI h d_M_last_50
      · rw [if_neg hc6] at h
        refine lv_iload_n hx hb d_M_last_27 rfl (lv_at hl 3 rfl) ?_
        refine lv_iload_n hx hb d_M_last_28 rfl (lv_at hl 2 rfl) ?_
        refine lv_icmp_lt (tgt := 48) hx hb d_M_last_29 rfl (fun hc7 => ?_) (fun hc7 => ?_)
        · rw [if_pos hc7] at h
          refine lv_ldc (v := (-1000000)) hx hb hown (hts _ wd_599) d_M_last_48 ?_
          exact g_iret (Wd := m_W ad cA) hx hb hr hlk hK hI h d_M_last_50
        · rw [if_neg hc7] at h
          refine lv_aload_n hx hb d_M_last_32 rfl (lv_at hl 0 rfl) ?_
          refine lv_iload_n hx hb d_M_last_33 rfl (lv_at hl 3 rfl) ?_
          obtain ⟨r8, u9, hc, h⟩ := ob_e h
          refine g_callV (As := [.int v3]) (rest := []) (w' := m_W ad cA u9) (o := some (.int r8)) ⟨hx, hb, hml, hown, hts⟩ (c_M_isSo l D ad cA hc) (cwV 1 hts gq_M_168 rfl rfl rfl (by decide +kernel) ⟨Nat.le_of_ble_eq_true rfl, Nat.le_of_ble_eq_true rfl⟩) hK hI hA 0 5 rfl rfl rfl hl.1 rfl (Nat.le_of_ble_eq_true rfl) d_M_last_34 ⟨Nat.zero_le _, Nat.zero_le _⟩ rfl (fun H locs hI => ?_)
          refine lv_if_eq (tgt := 42) hx hb d_M_last_37 rfl (fun hc10 => ?_) (fun hc10 => ?_)
          · rw [if_pos hc10] at h
            obtain ⟨x11, e_x11, h⟩ := lt_e h
            refine lv_iinc (v := x11) (k := 3) hx hb d_M_last_42 hl rfl (by subst e_x11; rfl) (by decide) rfl (fun ls hl => ?_)
            refine lv_goto (tgt := 20) hx hb d_M_last_45 rfl ?_
            exact ih v1 v2 x11 u9 _ _ _ (lv_sub hl [1, 2, 3, 0] rfl) hI h
          · rw [if_neg hc10] at h
            refine lv_iload_n hx hb d_M_last_40 rfl (lv_at hl 3 rfl) ?_
            exact g_iret (Wd := m_W ad cA) hx hb hr hlk hK hI h d_M_last_41
  dsimp only [f_M_last] at h
  refine lv_iload_n hx hb d_M_last_0 rfl (lv_at hl 1 rfl) ?_
  refine lv_sipush (v := (-150)) hx hb d_M_last_1 (by decide) ?_
  refine lv_icmp_ge (tgt := 11) hx hb d_M_last_4 rfl (fun hc1 => ?_) (fun hc1 => ?_)
  · rw [if_pos hc1] at h
    refine lv_sipush (v := (-150)) hx hb d_M_last_11 (by decide) ?_
    refine lv_bipush (v := 12) hx hb d_M_last_14 (by decide) ?_
    refine lv_isub hx hb d_M_last_16 ?_
    obtain ⟨x2, e_x2, h⟩ := lt_e h
    refine lv_istore_n (lv' := [(2, .int x2), (0, .ref (ad 0)), (1, .int a1)]) hx hb d_M_last_17 rfl hl (by decide) (by subst e_x2; rfl) (fun ls hl => ?_)
    refine lv_iload_n hx hb d_M_last_18 rfl (lv_at hl 2 rfl) ?_
    refine lv_istore_n (lv' := [(3, .int a1), (2, .int x2), (0, .ref (ad 0)), (1, .int a1)]) hx hb d_M_last_19 rfl hl (by decide) rfl (fun ls hl => ?_)
    exact w20 4096 a1 x2 a1 u _ _ _ (lv_sub hl [2, 3, 1, 0] rfl) hI h
  · rw [if_neg hc1] at h
    refine lv_iload_n hx hb d_M_last_7 rfl (lv_at hl 1 rfl) ?_
    refine lv_goto (tgt := 14) hx hb d_M_last_8 rfl ?_
    refine lv_bipush (v := 12) hx hb d_M_last_14 (by decide) ?_
    refine lv_isub hx hb d_M_last_16 ?_
    obtain ⟨x3, e_x3, h⟩ := lt_e h
    refine lv_istore_n (lv' := [(2, .int x3), (0, .ref (ad 0)), (1, .int a1)]) hx hb d_M_last_17 rfl hl (by decide) (by subst e_x3; rfl) (fun ls hl => ?_)
    refine lv_iload_n hx hb d_M_last_18 rfl (lv_at hl 2 rfl) ?_
    refine lv_istore_n (lv' := [(3, .int a1), (2, .int x3), (0, .ref (ad 0)), (1, .int a1)]) hx hb d_M_last_19 rfl hl (by decide) rfl (fun ls hl => ?_)
    exact w20 4096 a1 x3 a1 u _ _ _ (lv_sub hl [2, 3, 1, 0] rfl) hI h
def f_M_again (a1 : Int32) (u : MS) : Option (Int32 × MS) := if a1 = 0 then (ob (f_M_many ((-162)) ((-150)) 1 u) fun r2 u3 => if r2 ≤ 0 then (gd (bz 0) (some (0, u3))) else (gd (bz 1) (some (1, u3)))) else (ob (f_M_many 150 162 1 u) fun r5 u6 => if r5 ≤ 0 then (gd (bz 0) (some (0, u6))) else (gd (bz 1) (some (1, u6))))
set_option maxRecDepth 100000 in
set_option maxHeartbeats 4000000 in
theorem c_M_again (l : Launch) (D : va_G) (ad : Nat → Nat) (cA : Nat → ClassId) {a1 : Int32} {u u0 : MS} {r0 : Int32} (h : f_M_again a1 u = some (r0, u0)) : g_M l y_M_again w_M_again { frames := 9, cells := 0, slots := 0, locals := 222 } D vwCl (m_T cA) (m_W ad cA u) [.ref (ad 0), .int a1] (some (.int r0)) (m_W ad cA u0) := by
  refine g_ofW (cc := c0_M_again) (maxL := 2) (ret := (some .boolean)) (by decide) rfl (Nat.le_of_ble_eq_true rfl) ?_
  intro p e s m below meth c A ls hx hb hr hml hown hts hlk hK hA hI hl
  have hts : ∀ w ∈ gW, w.before ([.ref (ad 0), .int a1] : List Value).toArray s = true := fun w h => hts w (List.mem_cons_of_mem _ h)
  have hown : s.vm.findClass R_M = some m.cls := hown
  have hl : lv_has ls 2 [(0, .ref (ad 0)), (1, .int a1)] := hl
  dsimp only [f_M_again] at h
  refine lv_iload_n hx hb d_M_again_0 rfl (lv_at hl 1 rfl) ?_
  refine lv_if_eq (tgt := 26) hx hb d_M_again_1 rfl (fun hc1 => ?_) (fun hc1 => ?_)
  · rw [if_pos hc1] at h
    refine lv_aload_n hx hb d_M_again_26 rfl (lv_at hl 0 rfl) ?_
    refine lv_sipush (v := (-162)) hx hb d_M_again_27 (by decide) ?_
    refine lv_sipush (v := (-150)) hx hb d_M_again_30 (by decide) ?_
    refine lv_iconst (v := 1) hx hb d_M_again_33 (by decide) ?_
    obtain ⟨r2, u3, hc, h⟩ := ob_e h
    refine g_callV (As := [.int ((-162)), .int ((-150)), .int 1]) (rest := []) (w' := m_W ad cA u3) (o := some (.int r2)) ⟨hx, hb, hml, hown, hts⟩ (c_M_many l D ad cA hc) (cwV 3 hts gq_M_171 rfl rfl rfl (by decide +kernel) ⟨Nat.le_of_ble_eq_true rfl, Nat.le_of_ble_eq_true rfl⟩) hK hI hA 0 5 rfl rfl rfl hl.1 rfl (Nat.le_of_ble_eq_true rfl) d_M_again_34 ⟨Nat.zero_le _, Nat.zero_le _⟩ rfl (fun H locs hI => ?_)
    refine lv_if_le (tgt := 44) hx hb d_M_again_37 rfl (fun hc4 => ?_) (fun hc4 => ?_)
    · rw [if_pos hc4] at h
      refine lv_iconst (v := 0) hx hb d_M_again_44 (by decide) ?_
      exact g_zret (Wd := m_W ad cA) hx hb hr hlk hK hI h d_M_again_45
    · rw [if_neg hc4] at h
      refine lv_iconst (v := 1) hx hb d_M_again_40 (by decide) ?_
      refine lv_goto (tgt := 45) hx hb d_M_again_41 rfl ?_
      exact g_zret (Wd := m_W ad cA) hx hb hr hlk hK hI h d_M_again_45
  · rw [if_neg hc1] at h
    refine lv_aload_n hx hb d_M_again_4 rfl (lv_at hl 0 rfl) ?_
    refine lv_sipush (v := 150) hx hb d_M_again_5 (by decide) ?_
    refine lv_sipush (v := 162) hx hb d_M_again_8 (by decide) ?_
    refine lv_iconst (v := 1) hx hb d_M_again_11 (by decide) ?_
    obtain ⟨r5, u6, hc, h⟩ := ob_e h
    refine g_callV (As := [.int 150, .int 162, .int 1]) (rest := []) (w' := m_W ad cA u6) (o := some (.int r5)) ⟨hx, hb, hml, hown, hts⟩ (c_M_many l D ad cA hc) (cwV 3 hts gq_M_171 rfl rfl rfl (by decide +kernel) ⟨Nat.le_of_ble_eq_true rfl, Nat.le_of_ble_eq_true rfl⟩) hK hI hA 0 5 rfl rfl rfl hl.1 rfl (Nat.le_of_ble_eq_true rfl) d_M_again_12 ⟨Nat.zero_le _, Nat.zero_le _⟩ rfl (fun H locs hI => ?_)
    refine lv_if_le (tgt := 22) hx hb d_M_again_15 rfl (fun hc7 => ?_) (fun hc7 => ?_)
    · rw [if_pos hc7] at h
      refine lv_iconst (v := 0) hx hb d_M_again_22 (by decide) ?_
      refine lv_goto (tgt := 45) hx hb d_M_again_23 rfl ?_
      exact g_zret (Wd := m_W ad cA) hx hb hr hlk hK hI h d_M_again_45
    · rw [if_neg hc7] at h
      refine lv_iconst (v := 1) hx hb d_M_again_18 (by decide) ?_
      refine lv_goto (tgt := 45) hx hb d_M_again_19 rfl ?_
      exact g_zret (Wd := m_W ad cA) hx hb hr hlk hK hI h d_M_again_45
def f_M_count (a1 : Int32) (a2 : Int32) (u : MS) : Option (Int32 × MS) := ob (f_M_isNear a1 u) fun r1 u2 => if r1 = 0 then some ((-1), u2) else (ob (f_M_isNear a2 u2) fun r4 u5 => if r4 = 0 then some ((-1), u5) else (ob (f_M_in a2 (a1 - 1) (a1 + 99) u5) fun r7 u8 => if r7 = 0 then some ((-1), u8) else (ob (f_M_many a1 a2 0 u8) fun r10 u11 => some (r10, u11))))
set_option maxRecDepth 100000 in
set_option maxHeartbeats 4000000 in
theorem c_M_count (l : Launch) (D : va_G) (ad : Nat → Nat) (cA : Nat → ClassId) {a1 : Int32} {a2 : Int32} {u u0 : MS} {r0 : Int32} (h : f_M_count a1 a2 u = some (r0, u0)) : g_M l y_M_count w_M_count { frames := 9, cells := 0, slots := 0, locals := 222 } D vwCl (m_T cA) (m_W ad cA u) [.ref (ad 0), .int a1, .int a2] (some (.int r0)) (m_W ad cA u0) := by
  refine g_ofW (cc := c0_M_count) (maxL := 3) (ret := (some .int)) (by decide) rfl (Nat.le_of_ble_eq_true rfl) ?_
  intro p e s m below meth c A ls hx hb hr hml hown hts hlk hK hA hI hl
  have hts : ∀ w ∈ gW, w.before ([.ref (ad 0), .int a1, .int a2] : List Value).toArray s = true := fun w h => hts w (List.mem_cons_of_mem _ h)
  have hown : s.vm.findClass R_M = some m.cls := hown
  have hl : lv_has ls 3 [(0, .ref (ad 0)), (1, .int a1), (2, .int a2)] := hl
  dsimp only [f_M_count] at h
  refine lv_iload_n hx hb d_M_count_0 rfl (lv_at hl 1 rfl) ?_
  obtain ⟨r1, u2, hc, h⟩ := ob_e h
  refine g_callS (As := [.int a1]) (rest := []) (w' := m_W ad cA u2) (o := some (.int r1)) ⟨hx, hb, hml, hown, hts⟩ (c_M_isNear l D ad cA hc) (va_cwS 1 hts gq_M_165 rfl rfl rfl (by decide +kernel) ⟨Nat.le_of_ble_eq_true rfl, Nat.le_of_ble_eq_true rfl⟩) hK hI hA rfl hl.1 rfl (Nat.le_of_ble_eq_true rfl) d_M_count_1 ⟨Nat.zero_le _, Nat.zero_le _⟩ rfl (fun H locs hI => ?_)
  refine lv_if_eq (tgt := 38) hx hb d_M_count_4 rfl (fun hc3 => ?_) (fun hc3 => ?_)
  · rw [if_pos hc3] at h
    refine lv_iconst (v := (-1)) hx hb d_M_count_38 (by decide) ?_
    exact g_iret (Wd := m_W ad cA) hx hb hr hlk hK hI h d_M_count_39
  · rw [if_neg hc3] at h
    refine lv_iload_n hx hb d_M_count_7 rfl (lv_at hl 2 rfl) ?_
    obtain ⟨r4, u5, hc, h⟩ := ob_e h
    refine g_callS (As := [.int a2]) (rest := []) (w' := m_W ad cA u5) (o := some (.int r4)) ⟨hx, hb, hml, hown, hts⟩ (c_M_isNear l D ad cA hc) (va_cwS 1 hts gq_M_165 rfl rfl rfl (by decide +kernel) ⟨Nat.le_of_ble_eq_true rfl, Nat.le_of_ble_eq_true rfl⟩) hK hI hA rfl hl.1 rfl (Nat.le_of_ble_eq_true rfl) d_M_count_8 ⟨Nat.zero_le _, Nat.zero_le _⟩ rfl (fun H locs hI => ?_)
    refine lv_if_eq (tgt := 38) hx hb d_M_count_11 rfl (fun hc6 => ?_) (fun hc6 => ?_)
    · rw [if_pos hc6] at h
      refine lv_iconst (v := (-1)) hx hb d_M_count_38 (by decide) ?_
      exact g_iret (Wd := m_W ad cA) hx hb hr hlk hK hI h d_M_count_39
    · rw [if_neg hc6] at h
      refine lv_iload_n hx hb d_M_count_14 rfl (lv_at hl 2 rfl) ?_
      refine lv_iload_n hx hb d_M_count_15 rfl (lv_at hl 1 rfl) ?_
      refine lv_iconst (v := 1) hx hb d_M_count_16 (by decide) ?_
      refine lv_isub hx hb d_M_count_17 ?_
      refine lv_iload_n hx hb d_M_count_18 rfl (lv_at hl 1 rfl) ?_
      refine lv_bipush (v := 99) hx hb d_M_count_19 (by decide) ?_
      refine lv_iadd hx hb d_M_count_21 ?_
      obtain ⟨r7, u8, hc, h⟩ := ob_e h
      refine g_callS (As := [.int a2, .int (a1 - 1), .int (a1 + 99)]) (rest := []) (w' := m_W ad cA u8) (o := some (.int r7)) ⟨hx, hb, hml, hown, hts⟩ (c_M_in l D ad cA hc) (va_cwS 3 hts gq_M_70 rfl rfl rfl (by decide +kernel) ⟨Nat.le_of_ble_eq_true rfl, Nat.le_of_ble_eq_true rfl⟩) hK hI hA rfl hl.1 rfl (Nat.le_of_ble_eq_true rfl) d_M_count_22 ⟨Nat.zero_le _, Nat.zero_le _⟩ rfl (fun H locs hI => ?_)
      refine lv_if_eq (tgt := 38) hx hb d_M_count_25 rfl (fun hc9 => ?_) (fun hc9 => ?_)
      · rw [if_pos hc9] at h
        refine lv_iconst (v := (-1)) hx hb d_M_count_38 (by decide) ?_
        exact g_iret (Wd := m_W ad cA) hx hb hr hlk hK hI h d_M_count_39
      · rw [if_neg hc9] at h
        refine lv_aload_n hx hb d_M_count_28 rfl (lv_at hl 0 rfl) ?_
        refine lv_iload_n hx hb d_M_count_29 rfl (lv_at hl 1 rfl) ?_
        refine lv_iload_n hx hb d_M_count_30 rfl (lv_at hl 2 rfl) ?_
        refine lv_iconst (v := 0) hx hb d_M_count_31 (by decide) ?_
        obtain ⟨r10, u11, hc, h⟩ := ob_e h
        refine g_callV (As := [.int a1, .int a2, .int 0]) (rest := []) (w' := m_W ad cA u11) (o := some (.int r10)) ⟨hx, hb, hml, hown, hts⟩ (c_M_many l D ad cA hc) (cwV 3 hts gq_M_171 rfl rfl rfl (by decide +kernel) ⟨Nat.le_of_ble_eq_true rfl, Nat.le_of_ble_eq_true rfl⟩) hK hI hA 0 5 rfl rfl rfl hl.1 rfl (Nat.le_of_ble_eq_true rfl) d_M_count_32 ⟨Nat.zero_le _, Nat.zero_le _⟩ rfl (fun H locs hI => ?_)
        refine lv_goto (tgt := 39) hx hb d_M_count_35 rfl ?_
        exact g_iret (Wd := m_W ad cA) hx hb hr hlk hK hI h d_M_count_39
def f_M_period_L18 (k4 : Int32 → Int32 → MS → Option (Int32 × MS)) (n : Nat) : Int32 → Int32 → Int32 → MS → Option (Int32 × MS) := match n with
  | 0 => fun _ _ _ _ => none
  | n + 1 => fun v1 v2 v3 u => if 162 ≤ v3 then k4 v1 v2 u else (if v2 = 0 then k4 v1 v2 u else (ob (f_M_isSo v3 u) fun r5 u6 => ob (f_M_isSo (v3 + v1) u6) fun r7 u8 => if r5 = r7 then (lt_ (v3 + 1) fun x11 => f_M_period_L18 k4 n v1 1 x11 u8) else (lt_ (v3 + 1) fun x10 => f_M_period_L18 k4 n v1 0 x10 u8)))
def f_M_period_L4 (n : Nat) : Int32 → Int32 → MS → Option (Int32 × MS) := match n with
  | 0 => fun _ _ _ => none
  | n + 1 => fun v1 v2 u => if v2 = 0 then (lt_ (v1 + 1) fun x2 => f_M_period_L18 (f_M_period_L4 n) 4096 x2 1 150 u) else some (v1, u)
def f_M_period (u : MS) : Option (Int32 × MS) := f_M_period_L4 4096 0 0 u
set_option maxRecDepth 100000 in
set_option maxHeartbeats 4000000 in
theorem c_M_period (l : Launch) (D : va_G) (ad : Nat → Nat) (cA : Nat → ClassId) {u u0 : MS} {r0 : Int32} (h : f_M_period u = some (r0, u0)) : g_M l y_M_period w_M_period { frames := 8, cells := 0, slots := 0, locals := 197 } D vwCl (m_T cA) (m_W ad cA u) [.ref (ad 0)] (some (.int r0)) (m_W ad cA u0) := by
  refine g_ofW (cc := c0_M_period) (maxL := 4) (ret := (some .int)) (by decide) rfl (Nat.le_of_ble_eq_true rfl) ?_
  intro p e s m below meth c A ls hx hb hr hml hown hts hlk hK hA hI hl
  have hts : ∀ w ∈ gW, w.before ([.ref (ad 0)] : List Value).toArray s = true := fun w h => hts w (List.mem_cons_of_mem _ h)
  have hown : s.vm.findClass R_M = some m.cls := hown
  have hl : lv_has ls 4 [(0, .ref (ad 0))] := hl
  have w18 : ∀ (k4 : Int32 → Int32 → MS → Option (Int32 × MS)) (hk4 : ∀ (v1 : Int32) (v2 : Int32) (u : MS) (H : Heap) (locs : List Loc) (ls : Array Slot), lv_has ls 4 [(0, .ref (ad 0)), (1, .int v1), (2, .int v2)] → g_I D vwCl A s.heap H locs (m_W ad cA u) → k4 v1 v2 u = some (r0, u0) → W p l e { frames := 8, cells := 0, slots := 0, locals := 197 } s m ([.ref (ad 0)] : List Value).toArray below meth c H locs 0 0 (MQ below (g_Q D vwCl (m_T cA) (m_W ad cA u0) A (some (.int r0))) ([.ref (ad 0)] : List Value).toArray s 0 0 A) (F0 m 4 ls [])) (n : Nat) (v1 : Int32) (v2 : Int32) (v3 : Int32) (u : MS) (H : Heap) (locs : List Loc) (ls : Array Slot), lv_has ls 4 [(0, .ref (ad 0)), (1, .int v1), (2, .int v2), (3, .int v3)] → g_I D vwCl A s.heap H locs (m_W ad cA u) → f_M_period_L18 k4 n v1 v2 v3 u = some (r0, u0) → W p l e { frames := 8, cells := 0, slots := 0, locals := 197 } s m ([.ref (ad 0)] : List Value).toArray below meth c H locs 0 0 (MQ below (g_Q D vwCl (m_T cA) (m_W ad cA u0) A (some (.int r0))) ([.ref (ad 0)] : List Value).toArray s 0 0 A) (F0 m 18 ls []) := by
    intro k4 hk4 n
    induction n with
    | zero => intro v1 v2 v3 u H locs ls hl hI h; cases h
    | succ n ih =>
      intro v1 v2 v3 u H locs ls hl hI h
      dsimp only [f_M_period_L18] at h
      refine lv_iload_n hx hb d_M_period_18 rfl (lv_at hl 3 rfl) ?_
      refine lv_sipush (v := 162) hx hb d_M_period_19 (by decide) ?_
      refine lv_icmp_ge (tgt := 56) hx hb d_M_period_22 rfl (fun hc3 => ?_) (fun hc3 => ?_)
      · rw [if_pos hc3] at h
        refine lv_goto (tgt := 4) hx hb d_M_period_56 rfl ?_
        exact hk4 v1 v2 u _ _ _ (lv_sub hl [0, 1, 2] rfl) hI h
      · rw [if_neg hc3] at h
        refine lv_iload_n hx hb d_M_period_25 rfl (lv_at hl 2 rfl) ?_
        refine lv_if_eq (tgt := 56) hx hb d_M_period_26 rfl (fun hc4 => ?_) (fun hc4 => ?_)
        · rw [if_pos hc4] at h
          refine lv_goto (tgt := 4) hx hb d_M_period_56 rfl ?_
          exact hk4 v1 v2 u _ _ _ (lv_sub hl [0, 1, 2] rfl) hI h
        · rw [if_neg hc4] at h
          refine lv_aload_n hx hb d_M_period_29 rfl (lv_at hl 0 rfl) ?_
          refine lv_iload_n hx hb d_M_period_30 rfl (lv_at hl 3 rfl) ?_
          obtain ⟨r5, u6, hc, h⟩ := ob_e h
          refine g_callV (As := [.int v3]) (rest := []) (w' := m_W ad cA u6) (o := some (.int r5)) ⟨hx, hb, hml, hown, hts⟩ (c_M_isSo l D ad cA hc) (cwV 1 hts gq_M_168 rfl rfl rfl (by decide +kernel) ⟨Nat.le_of_ble_eq_true rfl, Nat.le_of_ble_eq_true rfl⟩) hK hI hA 0 5 rfl rfl rfl hl.1 rfl (Nat.le_of_ble_eq_true rfl) d_M_period_31 ⟨Nat.zero_le _, Nat.zero_le _⟩ rfl (fun H locs hI => ?_)
          refine lv_aload_n hx hb d_M_period_34 rfl (lv_at hl 0 rfl) ?_
          refine lv_iload_n hx hb d_M_period_35 rfl (lv_at hl 3 rfl) ?_
          refine lv_iload_n hx hb d_M_period_36 rfl (lv_at hl 1 rfl) ?_
          refine lv_iadd hx hb d_M_period_37 ?_
          obtain ⟨r7, u8, hc, h⟩ := ob_e h
          refine g_callV (As := [.int (v3 + v1)]) (rest := [.int r5]) (w' := m_W ad cA u8) (o := some (.int r7)) ⟨hx, hb, hml, hown, hts⟩ (c_M_isSo l D ad cA hc) (cwV 1 hts gq_M_168 rfl rfl rfl (by decide +kernel) ⟨Nat.le_of_ble_eq_true rfl, Nat.le_of_ble_eq_true rfl⟩) hK hI hA 0 5 rfl rfl rfl hl.1 rfl (Nat.le_of_ble_eq_true rfl) d_M_period_38 ⟨Nat.zero_le _, Nat.zero_le _⟩ rfl (fun H locs hI => ?_)
          refine lv_icmp_ne (tgt := 48) hx hb d_M_period_41 rfl (fun hc9 => ?_) (fun hc9 => ?_)
          · rw [if_neg hc9] at h
            refine lv_iconst (v := 0) hx hb d_M_period_48 (by decide) ?_
            refine lv_istore_n (lv' := [(2, .int 0), (0, .ref (ad 0)), (1, .int v1), (3, .int v3)]) hx hb d_M_period_49 rfl hl (by decide) rfl (fun ls hl => ?_)
            obtain ⟨x10, e_x10, h⟩ := lt_e h
            refine lv_iinc (v := x10) (k := 3) hx hb d_M_period_50 hl rfl (by subst e_x10; rfl) (by decide) rfl (fun ls hl => ?_)
            refine lv_goto (tgt := 18) hx hb d_M_period_53 rfl ?_
            exact ih v1 0 x10 u8 _ _ _ (lv_sub hl [2, 3, 1, 0] rfl) hI h
          · rw [if_pos hc9] at h
            refine lv_iconst (v := 1) hx hb d_M_period_44 (by decide) ?_
            refine lv_goto (tgt := 49) hx hb d_M_period_45 rfl ?_
            refine lv_istore_n (lv' := [(2, .int 1), (0, .ref (ad 0)), (1, .int v1), (3, .int v3)]) hx hb d_M_period_49 rfl hl (by decide) rfl (fun ls hl => ?_)
            obtain ⟨x11, e_x11, h⟩ := lt_e h
            refine lv_iinc (v := x11) (k := 3) hx hb d_M_period_50 hl rfl (by subst e_x11; rfl) (by decide) rfl (fun ls hl => ?_)
            refine lv_goto (tgt := 18) hx hb d_M_period_53 rfl ?_
            exact ih v1 1 x11 u8 _ _ _ (lv_sub hl [2, 3, 1, 0] rfl) hI h
  have w4 : ∀ (n : Nat) (v1 : Int32) (v2 : Int32) (u : MS) (H : Heap) (locs : List Loc) (ls : Array Slot), lv_has ls 4 [(0, .ref (ad 0)), (1, .int v1), (2, .int v2)] → g_I D vwCl A s.heap H locs (m_W ad cA u) → f_M_period_L4 n v1 v2 u = some (r0, u0) → W p l e { frames := 8, cells := 0, slots := 0, locals := 197 } s m ([.ref (ad 0)] : List Value).toArray below meth c H locs 0 0 (MQ below (g_Q D vwCl (m_T cA) (m_W ad cA u0) A (some (.int r0))) ([.ref (ad 0)] : List Value).toArray s 0 0 A) (F0 m 4 ls []) := by
    intro  n
    induction n with
    | zero => intro v1 v2 u H locs ls hl hI h; cases h
    | succ n ih =>
      intro v1 v2 u H locs ls hl hI h
      dsimp only [f_M_period_L4] at h
      refine lv_iload_n hx hb d_M_period_4 rfl (lv_at hl 2 rfl) ?_
      refine lv_if_ne (tgt := 59) hx hb d_M_period_5 rfl (fun hc1 => ?_) (fun hc1 => ?_)
      · rw [if_neg hc1] at h
        refine lv_iload_n hx hb d_M_period_59 rfl (lv_at hl 1 rfl) ?_
        exact g_iret (Wd := m_W ad cA) hx hb hr hlk hK hI h d_M_period_60
      · rw [if_pos hc1] at h
        refine lv_iload_n hx hb d_M_period_8 rfl (lv_at hl 1 rfl) ?_
        refine lv_iconst (v := 1) hx hb d_M_period_9 (by decide) ?_
        refine lv_iadd hx hb d_M_period_10 ?_
        obtain ⟨x2, e_x2, h⟩ := lt_e h
        refine lv_istore_n (lv' := [(1, .int x2), (0, .ref (ad 0)), (2, .int v2)]) hx hb d_M_period_11 rfl hl (by decide) (by subst e_x2; rfl) (fun ls hl => ?_)
        refine lv_iconst (v := 1) hx hb d_M_period_12 (by decide) ?_
        refine lv_istore_n (lv' := [(2, .int 1), (1, .int x2), (0, .ref (ad 0))]) hx hb d_M_period_13 rfl hl (by decide) rfl (fun ls hl => ?_)
        refine lv_sipush (v := 150) hx hb d_M_period_14 (by decide) ?_
        refine lv_istore_n (lv' := [(3, .int 150), (2, .int 1), (1, .int x2), (0, .ref (ad 0))]) hx hb d_M_period_17 rfl hl (by decide) rfl (fun ls hl => ?_)
        exact w18 (f_M_period_L4 n) ih 4096 x2 1 150 u _ _ _ (lv_sub hl [3, 2, 1, 0] rfl) hI h
  dsimp only [f_M_period] at h
  refine lv_iconst (v := 0) hx hb d_M_period_0 (by decide) ?_
  refine lv_istore_n (lv' := [(1, .int 0), (0, .ref (ad 0))]) hx hb d_M_period_1 rfl hl (by decide) rfl (fun ls hl => ?_)
  refine lv_iconst (v := 0) hx hb d_M_period_2 (by decide) ?_
  refine lv_istore_n (lv' := [(2, .int 0), (1, .int 0), (0, .ref (ad 0))]) hx hb d_M_period_3 rfl hl (by decide) rfl (fun ls hl => ?_)
  exact w4 4096 0 0 u _ _ _ (lv_sub hl [2, 1, 0] rfl) hI h
