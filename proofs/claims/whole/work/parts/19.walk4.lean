def f_C_dividesWord_L17 (n : Nat) : Int32 → Int32 → Int32 → Int64 → Int32 → KS → Option (Int64 × KS) := match n with
  | 0 => fun _ _ _ _ _ _ => none
  | n + 1 => fun v0 v1 v2 v3 v5 u => if v0 ≤ v5 then some (v3, u) else (gd (nz v0) (if ((v2 + (v1 * v5)) - (v2 + (v1 * v5)) / v0 * v0) = 0 then (if v0 = 2 then (lt_ (v3 ||| ((6148914691236517205 : Int64) <<< (v5.toInt64 &&& 63))) fun x9 => lt_ (v5 + 1) fun x10 => f_C_dividesWord_L17 n v0 v1 v2 x9 x10 u) else (lt_ (v3 ||| (((-7905747460161236407)) <<< (v5.toInt64 &&& 63))) fun x7 => lt_ (v5 + 1) fun x8 => f_C_dividesWord_L17 n v0 v1 v2 x7 x8 u)) else (lt_ (v5 + 1) fun x5 => f_C_dividesWord_L17 n v0 v1 v2 v3 x5 u)))
def f_C_dividesWord (a0 : Int32) (a1 : Int32) (a2 : Int32) (u : KS) : Option (Int64 × KS) := if a0 = 2 then f_C_dividesWord_L17 4096 a0 a1 a2 0 0 u else (if a0 = 3 then f_C_dividesWord_L17 4096 a0 a1 a2 0 0 u else some (0, u))
set_option maxRecDepth 100000 in
set_option maxHeartbeats 4000000 in
theorem c_C_dividesWord (l : Launch) (D : va_G) (ad : Nat → Nat) (cA : Nat → ClassId) {a0 : Int32} {a1 : Int32} {a2 : Int32} {u u0 : KS} {r0 : Int64} (h : f_C_dividesWord a0 a1 a2 u = some (r0, u0)) : g_M l y_C_dividesWord w_C_dividesWord { frames := 0, cells := 0, slots := 0, locals := 0 } D vwCl (k_T cA) (k_W ad cA u) [.int a0, .int a1, .int a2] (some (.long r0)) (k_W ad cA u0) := by
  refine g_ofW (cc := c0_C_dividesWord) (maxL := 6) (ret := (some .long)) (by decide) rfl (Nat.le_of_ble_eq_true rfl) ?_
  intro p e s m below meth c A ls hx hb hr hml hown hts hlk hK hA hI hl
  have hts : ∀ w ∈ gW, w.before ([.int a0, .int a1, .int a2] : List Value).toArray s = true := fun w h => hts w (List.mem_cons_of_mem _ h)
  have hown : s.vm.findClass R_C = some m.cls := hown
  have hl : lv_has ls 6 [(0, .int a0), (1, .int a1), (2, .int a2)] := hl
  have w17 : ∀ (n : Nat) (v0 : Int32) (v1 : Int32) (v2 : Int32) (v3 : Int64) (v5 : Int32) (u : KS) (H : Heap) (locs : List Loc) (ls : Array Slot), lv_has ls 6 [(0, .int v0), (1, .int v1), (2, .int v2), (3, .long v3), (5, .int v5)] → g_I D vwCl A s.heap H locs (k_W ad cA u) → f_C_dividesWord_L17 n v0 v1 v2 v3 v5 u = some (r0, u0) → W p l e { frames := 0, cells := 0, slots := 0, locals := 0 } s m ([.int a0, .int a1, .int a2] : List Value).toArray below meth c H locs 0 0 (MQ below (g_Q D vwCl (k_T cA) (k_W ad cA u0) A (some (.long r0))) ([.int a0, .int a1, .int a2] : List Value).toArray s 0 0 A) (F0 m 17 ls []) := by
    intro  n
    induction n with
    | zero => intro v0 v1 v2 v3 v5 u H locs ls hl hI h; cases h
    | succ n ih =>
      intro v0 v1 v2 v3 v5 u H locs ls hl hI h
      dsimp only [f_C_dividesWord_L17] at h
      refine lv_iload hx hb d_C_dividesWord_17 (lv_at hl 4 rfl) ?_
      refine lv_iload_n hx hb d_C_dividesWord_19 rfl (lv_at hl 0 rfl) ?_
      refine lv_icmp_ge (tgt := 60) hx hb d_C_dividesWord_20 rfl (fun hc3 => ?_) (fun hc3 => ?_)
      · rw [if_pos hc3] at h
        refine lv_lload_n hx hb d_C_dividesWord_60 rfl (lv_at hl 3 rfl) ?_
        exact g_lret (Wd := k_W ad cA) hx hb hr hlk hK hI h d_C_dividesWord_61
      · rw [if_neg hc3] at h
        refine lv_iload_n hx hb d_C_dividesWord_23 rfl (lv_at hl 2 rfl) ?_
        refine lv_iload_n hx hb d_C_dividesWord_24 rfl (lv_at hl 1 rfl) ?_
        refine lv_iload hx hb d_C_dividesWord_25 (lv_at hl 4 rfl) ?_
        refine lv_imul hx hb d_C_dividesWord_27 ?_
        refine lv_iadd hx hb d_C_dividesWord_28 ?_
        refine lv_iload_n hx hb d_C_dividesWord_29 rfl (lv_at hl 0 rfl) ?_
        obtain ⟨hg, h⟩ := gd_e h
        refine lv_irem hx hb d_C_dividesWord_30 (nz_e hg) ?_
        refine lv_if_ne (tgt := 54) hx hb d_C_dividesWord_31 rfl (fun hc4 => ?_) (fun hc4 => ?_)
        · rw [if_neg hc4] at h
          obtain ⟨x5, e_x5, h⟩ := lt_e h
          refine lv_iinc (v := x5) (k := 4) hx hb d_C_dividesWord_54 hl rfl (by subst e_x5; rfl) (by decide) rfl (fun ls hl => ?_)
          refine lv_goto (tgt := 17) hx hb d_C_dividesWord_57 rfl ?_
          exact ih v0 v1 v2 v3 x5 u _ _ _ (lv_sub hl [1, 2, 3, 4, 0] rfl) hI h
        · rw [if_pos hc4] at h
          refine lv_lload_n hx hb d_C_dividesWord_34 rfl (lv_at hl 3 rfl) ?_
          refine lv_iload_n hx hb d_C_dividesWord_35 rfl (lv_at hl 0 rfl) ?_
          refine lv_iconst (v := 2) hx hb d_C_dividesWord_36 (by decide) ?_
          refine lv_icmp_ne (tgt := 46) hx hb d_C_dividesWord_37 rfl (fun hc6 => ?_) (fun hc6 => ?_)
          · rw [if_neg hc6] at h
            refine lv_ldc2 (v := (-7905747460161236407)) hx hb hown (hts _ wd_315) d_C_dividesWord_46 ?_
            refine lv_iload hx hb d_C_dividesWord_49 (lv_at hl 4 rfl) ?_
            refine lv_lshl hx hb d_C_dividesWord_51 rfl ?_
            refine lv_lor hx hb d_C_dividesWord_52 ?_
            obtain ⟨x7, e_x7, h⟩ := lt_e h
            refine lv_lstore_n (lv' := [(3, .long x7), (0, .int v0), (1, .int v1), (2, .int v2), (5, .int v5)]) hx hb d_C_dividesWord_53 rfl hl (by decide) (by subst e_x7; rfl) (fun ls hl => ?_)
            obtain ⟨x8, e_x8, h⟩ := lt_e h
            refine lv_iinc (v := x8) (k := 4) hx hb d_C_dividesWord_54 hl rfl (by subst e_x8; rfl) (by decide) rfl (fun ls hl => ?_)
            refine lv_goto (tgt := 17) hx hb d_C_dividesWord_57 rfl ?_
            exact ih v0 v1 v2 x7 x8 u _ _ _ (lv_sub hl [2, 3, 4, 1, 0] rfl) hI h
          · rw [if_pos hc6] at h
            refine lv_ldc2 (v := 6148914691236517205) hx hb hown (hts _ wd_314) d_C_dividesWord_40 ?_
            refine lv_goto (tgt := 49) hx hb d_C_dividesWord_43 rfl ?_
            refine lv_iload hx hb d_C_dividesWord_49 (lv_at hl 4 rfl) ?_
            refine lv_lshl hx hb d_C_dividesWord_51 rfl ?_
            refine lv_lor hx hb d_C_dividesWord_52 ?_
            obtain ⟨x9, e_x9, h⟩ := lt_e h
            refine lv_lstore_n (lv' := [(3, .long x9), (0, .int v0), (1, .int v1), (2, .int v2), (5, .int v5)]) hx hb d_C_dividesWord_53 rfl hl (by decide) (by subst e_x9; rfl) (fun ls hl => ?_)
            obtain ⟨x10, e_x10, h⟩ := lt_e h
            refine lv_iinc (v := x10) (k := 4) hx hb d_C_dividesWord_54 hl rfl (by subst e_x10; rfl) (by decide) rfl (fun ls hl => ?_)
            refine lv_goto (tgt := 17) hx hb d_C_dividesWord_57 rfl ?_
            exact ih v0 v1 v2 x9 x10 u _ _ _ (lv_sub hl [2, 3, 4, 1, 0] rfl) hI h
  dsimp only [f_C_dividesWord] at h
  refine lv_iload_n hx hb d_C_dividesWord_0 rfl (lv_at hl 0 rfl) ?_
  refine lv_iconst (v := 2) hx hb d_C_dividesWord_1 (by decide) ?_
  refine lv_icmp_eq (tgt := 12) hx hb d_C_dividesWord_2 rfl (fun hc1 => ?_) (fun hc1 => ?_)
  · rw [if_pos hc1] at h
    refine lv_lconst (v := 0) hx hb d_C_dividesWord_12 (by decide) ?_
    refine lv_lstore_n (lv' := [(3, .long 0), (0, .int a0), (1, .int a1), (2, .int a2)]) hx hb d_C_dividesWord_13 rfl hl (by decide) rfl (fun ls hl => ?_)
    refine lv_iconst (v := 0) hx hb d_C_dividesWord_14 (by decide) ?_
    refine lv_istore (lv' := [(5, .int 0), (3, .long 0), (0, .int a0), (1, .int a1), (2, .int a2)]) hx hb d_C_dividesWord_15 hl (by decide) rfl (fun ls hl => ?_)
    exact w17 4096 a0 a1 a2 0 0 u _ _ _ (lv_sub hl [2, 3, 4, 1, 0] rfl) hI h
  · rw [if_neg hc1] at h
    refine lv_iload_n hx hb d_C_dividesWord_5 rfl (lv_at hl 0 rfl) ?_
    refine lv_iconst (v := 3) hx hb d_C_dividesWord_6 (by decide) ?_
    refine lv_icmp_eq (tgt := 12) hx hb d_C_dividesWord_7 rfl (fun hc2 => ?_) (fun hc2 => ?_)
    · rw [if_pos hc2] at h
      refine lv_lconst (v := 0) hx hb d_C_dividesWord_12 (by decide) ?_
      refine lv_lstore_n (lv' := [(3, .long 0), (0, .int a0), (1, .int a1), (2, .int a2)]) hx hb d_C_dividesWord_13 rfl hl (by decide) rfl (fun ls hl => ?_)
      refine lv_iconst (v := 0) hx hb d_C_dividesWord_14 (by decide) ?_
      refine lv_istore (lv' := [(5, .int 0), (3, .long 0), (0, .int a0), (1, .int a1), (2, .int a2)]) hx hb d_C_dividesWord_15 hl (by decide) rfl (fun ls hl => ?_)
      exact w17 4096 a0 a1 a2 0 0 u _ _ _ (lv_sub hl [2, 3, 4, 1, 0] rfl) hI h
    · rw [if_neg hc2] at h
      refine lv_lconst (v := 0) hx hb d_C_dividesWord_10 (by decide) ?_
      exact g_lret (Wd := k_W ad cA) hx hb hr hlk hK hI h d_C_dividesWord_11
def f_C_word1_J106 (wo : Int32 → Int32 → Int32 → KS → Option (Int64 × KS)) (v1 : Int32) (v2 : Int32) (v3 : Int32) (u : KS) : Option (Int64 × KS) := ob (f_C_pairWord wo v1 v2 v3 u) fun r34 u35 => some (r34, u35)
def f_C_word1_J114 (wo : Int32 → Int32 → Int32 → KS → Option (Int64 × KS)) (v1 : Int32) (v2 : Int32) (v3 : Int32) (u : KS) : Option (Int64 × KS) := ob (f_C_quantifiedWord wo v1 v2 v3 u) fun r32 u33 => some (r32, u33)
def f_C_word1 (wo : Int32 → Int32 → Int32 → KS → Option (Int64 × KS)) (a1 : Int32) (a2 : Int32) (a3 : Int32) (u : KS) : Option (Int64 × KS) := ob (f_C_has a1 u) fun r1 u2 => if r1 = 0 then some (0, u2) else (gd (inb a1 20) (if (k_kd u2 a1.toNatClampNeg) = 33 then (ob (wo (a1 + 1) a2 a3 u2) fun r5 u6 => some (r5 ^^^ ((-1)), u6)) else if (k_kd u2 a1.toNatClampNeg) = 38 then f_C_word1_J106 wo a1 a2 a3 u2 else if (k_kd u2 a1.toNatClampNeg) = 47 then f_C_word1_J106 wo a1 a2 a3 u2 else if (k_kd u2 a1.toNatClampNeg) = 60 then (ob (f_C_factorOf a1 a2 u2) fun r10 u11 => ob (f_C_sumAt a1 a2 a3 u11) fun r12 u13 => ob (f_C_belowWord r10 r12 u13) fun r14 u15 => some (r14, u15)) else if (k_kd u2 a1.toNatClampNeg) = 61 then (ob (f_C_factorOf a1 a2 u2) fun r17 u18 => ob (f_C_sumAt a1 a2 a3 u18) fun r19 u20 => ob (f_C_equalWord r17 r19 u20) fun r21 u22 => some (r21, u22)) else if (k_kd u2 a1.toNatClampNeg) = 62 then f_C_word1_J106 wo a1 a2 a3 u2 else if (k_kd u2 a1.toNatClampNeg) = 65 then f_C_word1_J114 wo a1 a2 a3 u2 else if (k_kd u2 a1.toNatClampNeg) = 69 then f_C_word1_J114 wo a1 a2 a3 u2 else (gd (inb a1 20) (ob (f_C_factorOf a1 a2 u2) fun r26 u27 => ob (f_C_sumAt a1 a2 a3 u27) fun r28 u29 => ob (f_C_dividesWord (k_dv u2 a1.toNatClampNeg) r26 r28 u29) fun r30 u31 => some (r30, u31)))))
set_option maxRecDepth 100000 in
set_option maxHeartbeats 4000000 in
theorem c_C_word1 (l : Launch) (D : va_G) (ad : Nat → Nat) (cA : Nat → ClassId) (N : Nat) (wo : Int32 → Int32 → Int32 → KS → Option (Int64 × KS)) (hwo : ∀ {b1 b2 b3 : Int32} {v v0 : KS} {r1 : Int64}, wo b1 b2 b3 v = some (r1, v0) → g_M l y_C_word w_C_word { frames := 3 * N + 2, cells := 0, slots := 0, locals := 77 * N + 43 } D vwCl (k_T cA) (k_W ad cA v) [.ref (ad 4), .int b1, .int b2, .int b3] (some (.long r1)) (k_W ad cA v0)) {a1 : Int32} {a2 : Int32} {a3 : Int32} {u u0 : KS} {r0 : Int64} (h : f_C_word1 wo a1 a2 a3 u = some (r0, u0)) : g_M l y_C_word w_C_word { frames := 3 * N + 5, cells := 0, slots := 0, locals := 77 * N + 120 } D vwCl (k_T cA) (k_W ad cA u) [.ref (ad 4), .int a1, .int a2, .int a3] (some (.long r0)) (k_W ad cA u0) := by
  refine g_ofW (cc := c0_C_word) (maxL := 4) (ret := (some .long)) (by decide) rfl (Nat.le_of_ble_eq_true rfl) ?_
  intro p e s m below meth c A ls hx hb hr hml hown hts hlk hK hA hI hl
  have hts : ∀ w ∈ gW, w.before ([.ref (ad 4), .int a1, .int a2, .int a3] : List Value).toArray s = true := fun w h => hts w (List.mem_cons_of_mem _ h)
  have hown : s.vm.findClass R_C = some m.cls := hown
  have hl : lv_has ls 4 [(0, .ref (ad 4)), (1, .int a1), (2, .int a2), (3, .int a3)] := hl
  have w106 : ∀ (v1 : Int32) (v2 : Int32) (v3 : Int32) (u : KS) (H : Heap) (locs : List Loc) (ls : Array Slot), lv_has ls 4 [(0, .ref (ad 4)), (1, .int v1), (2, .int v2), (3, .int v3)] → g_I D vwCl A s.heap H locs (k_W ad cA u) → f_C_word1_J106 wo v1 v2 v3 u = some (r0, u0) → W p l e { frames := 3 * N + 5, cells := 0, slots := 0, locals := 77 * N + 120 } s m ([.ref (ad 4), .int a1, .int a2, .int a3] : List Value).toArray below meth c H locs 0 0 (MQ below (g_Q D vwCl (k_T cA) (k_W ad cA u0) A (some (.long r0))) ([.ref (ad 4), .int a1, .int a2, .int a3] : List Value).toArray s 0 0 A) (F0 m 106 ls []) := by
    intro  v1 v2 v3 u H locs ls hl hI h
    dsimp only [f_C_word1_J106] at h
    refine lv_aload_n hx hb d_C_word_106 rfl (lv_at hl 0 rfl) ?_
    refine lv_iload_n hx hb d_C_word_107 rfl (lv_at hl 1 rfl) ?_
    refine lv_iload_n hx hb d_C_word_108 rfl (lv_at hl 2 rfl) ?_
    refine lv_iload_n hx hb d_C_word_109 rfl (lv_at hl 3 rfl) ?_
    obtain ⟨r34, u35, hc, h⟩ := ob_e h
    refine g_callV (As := [.int v1, .int v2, .int v3]) (rest := []) (w' := k_W ad cA u35) (o := some (.long r34)) ⟨hx, hb, hml, hown, hts⟩ (c_C_pairWord l D ad cA N wo hwo hc) (cwV 3 hts gq_C_59 rfl rfl rfl (by decide +kernel) ⟨by dsimp only; omega, by dsimp only; omega⟩) hK hI hA 4 2 rfl rfl rfl hl.1 rfl (Nat.le_of_ble_eq_true rfl) d_C_word_110 ⟨Nat.zero_le _, Nat.zero_le _⟩ rfl (fun H locs hI => ?_)
    exact g_lret (Wd := k_W ad cA) hx hb hr hlk hK hI h d_C_word_113
  have w114 : ∀ (v1 : Int32) (v2 : Int32) (v3 : Int32) (u : KS) (H : Heap) (locs : List Loc) (ls : Array Slot), lv_has ls 4 [(0, .ref (ad 4)), (1, .int v1), (2, .int v2), (3, .int v3)] → g_I D vwCl A s.heap H locs (k_W ad cA u) → f_C_word1_J114 wo v1 v2 v3 u = some (r0, u0) → W p l e { frames := 3 * N + 5, cells := 0, slots := 0, locals := 77 * N + 120 } s m ([.ref (ad 4), .int a1, .int a2, .int a3] : List Value).toArray below meth c H locs 0 0 (MQ below (g_Q D vwCl (k_T cA) (k_W ad cA u0) A (some (.long r0))) ([.ref (ad 4), .int a1, .int a2, .int a3] : List Value).toArray s 0 0 A) (F0 m 114 ls []) := by
    intro  v1 v2 v3 u H locs ls hl hI h
    dsimp only [f_C_word1_J114] at h
    refine lv_aload_n hx hb d_C_word_114 rfl (lv_at hl 0 rfl) ?_
    refine lv_iload_n hx hb d_C_word_115 rfl (lv_at hl 1 rfl) ?_
    refine lv_iload_n hx hb d_C_word_116 rfl (lv_at hl 2 rfl) ?_
    refine lv_iload_n hx hb d_C_word_117 rfl (lv_at hl 3 rfl) ?_
    obtain ⟨r32, u33, hc, h⟩ := ob_e h
    refine g_callV (As := [.int v1, .int v2, .int v3]) (rest := []) (w' := k_W ad cA u33) (o := some (.long r32)) ⟨hx, hb, hml, hown, hts⟩ (c_C_quantifiedWord l D ad cA N wo hwo hc) (cwV 3 hts gq_C_62 rfl rfl rfl (by decide +kernel) ⟨by dsimp only; omega, by dsimp only; omega⟩) hK hI hA 4 2 rfl rfl rfl hl.1 rfl (Nat.le_of_ble_eq_true rfl) d_C_word_118 ⟨Nat.zero_le _, Nat.zero_le _⟩ rfl (fun H locs hI => ?_)
    exact g_lret (Wd := k_W ad cA) hx hb hr hlk hK hI h d_C_word_121
  dsimp only [f_C_word1] at h
  refine lv_aload_n hx hb d_C_word_0 rfl (lv_at hl 0 rfl) ?_
  refine lv_iload_n hx hb d_C_word_1 rfl (lv_at hl 1 rfl) ?_
  obtain ⟨r1, u2, hc, h⟩ := ob_e h
  refine g_callV (As := [.int a1]) (rest := []) (w' := k_W ad cA u2) (o := some (.int r1)) ⟨hx, hb, hml, hown, hts⟩ (c_C_has l D ad cA hc) (cwV 1 hts gq_C_40 rfl rfl rfl (by decide +kernel) ⟨by dsimp only; omega, by dsimp only; omega⟩) hK hI hA 4 2 rfl rfl rfl hl.1 rfl (Nat.le_of_ble_eq_true rfl) d_C_word_2 ⟨Nat.zero_le _, Nat.zero_le _⟩ rfl (fun H locs hI => ?_)
  refine lv_if_ne (tgt := 10) hx hb d_C_word_5 rfl (fun hc3 => ?_) (fun hc3 => ?_)
  · rw [if_neg hc3] at h
    refine lv_aload_n hx hb d_C_word_10 rfl (lv_at hl 0 rfl) ?_
    refine g_get (v := .ref (ad 5)) hx hb hts in_C hown hK hI 4 rfl rfl 0 (by decide) (hts _ wd_42) rfl d_C_word_11 ?_
    refine lv_iload_n hx hb d_C_word_14 rfl (lv_at hl 1 rfl) ?_
    obtain ⟨hg, h⟩ := gd_e h
    refine g_iald hx hb hK hI 5 2 rfl rfl hg d_C_word_15 ?_
    by_cases hc4 : (k_kd u2 a1.toNatClampNeg) = 33
    · rw [if_pos hc4] at h
      refine lv_lookup (off := 76) (tgt := 92) hx hb d_C_word_16 (by decide) (by rw [hc4]; decide +kernel) rfl ?_
      refine lv_aload_n hx hb d_C_word_92 rfl (lv_at hl 0 rfl) ?_
      refine lv_iload_n hx hb d_C_word_93 rfl (lv_at hl 1 rfl) ?_
      refine lv_iconst (v := 1) hx hb d_C_word_94 (by decide) ?_
      refine lv_iadd hx hb d_C_word_95 ?_
      refine lv_iload_n hx hb d_C_word_96 rfl (lv_at hl 2 rfl) ?_
      refine lv_iload_n hx hb d_C_word_97 rfl (lv_at hl 3 rfl) ?_
      obtain ⟨r5, u6, hc, h⟩ := ob_e h
      refine g_callV (As := [.int (a1 + 1), .int a2, .int a3]) (rest := []) (w' := k_W ad cA u6) (o := some (.long r5)) ⟨hx, hb, hml, hown, hts⟩ (hwo hc) (cwV 3 hts gq_C_53 rfl rfl rfl (by decide +kernel) ⟨by dsimp only; omega, by dsimp only; omega⟩) hK hI hA 4 2 rfl rfl rfl hl.1 rfl (Nat.le_of_ble_eq_true rfl) d_C_word_98 ⟨Nat.zero_le _, Nat.zero_le _⟩ rfl (fun H locs hI => ?_)
      refine lv_ldc2 (v := (-1)) hx hb hown (hts _ wd_277) d_C_word_101 ?_
      refine lv_lxor hx hb d_C_word_104 ?_
      exact g_lret (Wd := k_W ad cA) hx hb hr hlk hK hI h d_C_word_105
    · rw [if_neg hc4] at h
      by_cases hc7 : (k_kd u2 a1.toNatClampNeg) = 38
      · rw [if_pos hc7] at h
        refine lv_lookup (off := 90) (tgt := 106) hx hb d_C_word_16 (by decide) (by rw [hc7]; decide +kernel) rfl ?_
        exact w106 a1 a2 a3 u2 _ _ _ (lv_sub hl [0, 1, 2, 3] rfl) hI h
      · rw [if_neg hc7] at h
        by_cases hc8 : (k_kd u2 a1.toNatClampNeg) = 47
        · rw [if_pos hc8] at h
          refine lv_lookup (off := 90) (tgt := 106) hx hb d_C_word_16 (by decide) (by rw [hc8]; decide +kernel) rfl ?_
          exact w106 a1 a2 a3 u2 _ _ _ (lv_sub hl [0, 1, 2, 3] rfl) hI h
        · rw [if_neg hc8] at h
          by_cases hc9 : (k_kd u2 a1.toNatClampNeg) = 60
          · rw [if_pos hc9] at h
            refine lv_lookup (off := 106) (tgt := 122) hx hb d_C_word_16 (by decide) (by rw [hc9]; decide +kernel) rfl ?_
            refine lv_aload_n hx hb d_C_word_122 rfl (lv_at hl 0 rfl) ?_
            refine lv_iload_n hx hb d_C_word_123 rfl (lv_at hl 1 rfl) ?_
            refine lv_iload_n hx hb d_C_word_124 rfl (lv_at hl 2 rfl) ?_
            obtain ⟨r10, u11, hc, h⟩ := ob_e h
            refine g_callV (As := [.int a1, .int a2]) (rest := []) (w' := k_W ad cA u11) (o := some (.int r10)) ⟨hx, hb, hml, hown, hts⟩ (c_C_factorOf l D ad cA hc) (cwV 2 hts gq_C_65 rfl rfl rfl (by decide +kernel) ⟨by dsimp only; omega, by dsimp only; omega⟩) hK hI hA 4 2 rfl rfl rfl hl.1 rfl (Nat.le_of_ble_eq_true rfl) d_C_word_125 ⟨Nat.zero_le _, Nat.zero_le _⟩ rfl (fun H locs hI => ?_)
            refine lv_aload_n hx hb d_C_word_128 rfl (lv_at hl 0 rfl) ?_
            refine lv_iload_n hx hb d_C_word_129 rfl (lv_at hl 1 rfl) ?_
            refine lv_iload_n hx hb d_C_word_130 rfl (lv_at hl 2 rfl) ?_
            refine lv_iload_n hx hb d_C_word_131 rfl (lv_at hl 3 rfl) ?_
            obtain ⟨r12, u13, hc, h⟩ := ob_e h
            refine g_callV (As := [.int a1, .int a2, .int a3]) (rest := [.int r10]) (w' := k_W ad cA u13) (o := some (.int r12)) ⟨hx, hb, hml, hown, hts⟩ (c_C_sumAt l D ad cA hc) (cwV 3 hts gq_C_69 rfl rfl rfl (by decide +kernel) ⟨by dsimp only; omega, by dsimp only; omega⟩) hK hI hA 4 2 rfl rfl rfl hl.1 rfl (Nat.le_of_ble_eq_true rfl) d_C_word_132 ⟨Nat.zero_le _, Nat.zero_le _⟩ rfl (fun H locs hI => ?_)
            obtain ⟨r14, u15, hc, h⟩ := ob_e h
            refine g_callS (As := [.int r10, .int r12]) (rest := []) (w' := k_W ad cA u15) (o := some (.long r14)) ⟨hx, hb, hml, hown, hts⟩ (c_C_belowWord l D ad cA hc) (va_cwS 2 hts gq_C_73 rfl rfl rfl (by decide +kernel) ⟨by dsimp only; omega, by dsimp only; omega⟩) hK hI hA rfl hl.1 rfl (Nat.le_of_ble_eq_true rfl) d_C_word_135 ⟨Nat.zero_le _, Nat.zero_le _⟩ rfl (fun H locs hI => ?_)
            exact g_lret (Wd := k_W ad cA) hx hb hr hlk hK hI h d_C_word_138
          · rw [if_neg hc9] at h
            by_cases hc16 : (k_kd u2 a1.toNatClampNeg) = 61
            · rw [if_pos hc16] at h
              refine lv_lookup (off := 123) (tgt := 139) hx hb d_C_word_16 (by decide) (by rw [hc16]; decide +kernel) rfl ?_
              refine lv_aload_n hx hb d_C_word_139 rfl (lv_at hl 0 rfl) ?_
              refine lv_iload_n hx hb d_C_word_140 rfl (lv_at hl 1 rfl) ?_
              refine lv_iload_n hx hb d_C_word_141 rfl (lv_at hl 2 rfl) ?_
              obtain ⟨r17, u18, hc, h⟩ := ob_e h
              refine g_callV (As := [.int a1, .int a2]) (rest := []) (w' := k_W ad cA u18) (o := some (.int r17)) ⟨hx, hb, hml, hown, hts⟩ (c_C_factorOf l D ad cA hc) (cwV 2 hts gq_C_65 rfl rfl rfl (by decide +kernel) ⟨by dsimp only; omega, by dsimp only; omega⟩) hK hI hA 4 2 rfl rfl rfl hl.1 rfl (Nat.le_of_ble_eq_true rfl) d_C_word_142 ⟨Nat.zero_le _, Nat.zero_le _⟩ rfl (fun H locs hI => ?_)
              refine lv_aload_n hx hb d_C_word_145 rfl (lv_at hl 0 rfl) ?_
              refine lv_iload_n hx hb d_C_word_146 rfl (lv_at hl 1 rfl) ?_
              refine lv_iload_n hx hb d_C_word_147 rfl (lv_at hl 2 rfl) ?_
              refine lv_iload_n hx hb d_C_word_148 rfl (lv_at hl 3 rfl) ?_
              obtain ⟨r19, u20, hc, h⟩ := ob_e h
              refine g_callV (As := [.int a1, .int a2, .int a3]) (rest := [.int r17]) (w' := k_W ad cA u20) (o := some (.int r19)) ⟨hx, hb, hml, hown, hts⟩ (c_C_sumAt l D ad cA hc) (cwV 3 hts gq_C_69 rfl rfl rfl (by decide +kernel) ⟨by dsimp only; omega, by dsimp only; omega⟩) hK hI hA 4 2 rfl rfl rfl hl.1 rfl (Nat.le_of_ble_eq_true rfl) d_C_word_149 ⟨Nat.zero_le _, Nat.zero_le _⟩ rfl (fun H locs hI => ?_)
              obtain ⟨r21, u22, hc, h⟩ := ob_e h
              refine g_callS (As := [.int r17, .int r19]) (rest := []) (w' := k_W ad cA u22) (o := some (.long r21)) ⟨hx, hb, hml, hown, hts⟩ (c_C_equalWord l D ad cA hc) (va_cwS 2 hts gq_C_77 rfl rfl rfl (by decide +kernel) ⟨by dsimp only; omega, by dsimp only; omega⟩) hK hI hA rfl hl.1 rfl (Nat.le_of_ble_eq_true rfl) d_C_word_152 ⟨Nat.zero_le _, Nat.zero_le _⟩ rfl (fun H locs hI => ?_)
              exact g_lret (Wd := k_W ad cA) hx hb hr hlk hK hI h d_C_word_155
            · rw [if_neg hc16] at h
              by_cases hc23 : (k_kd u2 a1.toNatClampNeg) = 62
              · rw [if_pos hc23] at h
                refine lv_lookup (off := 90) (tgt := 106) hx hb d_C_word_16 (by decide) (by rw [hc23]; decide +kernel) rfl ?_
                exact w106 a1 a2 a3 u2 _ _ _ (lv_sub hl [0, 1, 2, 3] rfl) hI h
              · rw [if_neg hc23] at h
                by_cases hc24 : (k_kd u2 a1.toNatClampNeg) = 65
                · rw [if_pos hc24] at h
                  refine lv_lookup (off := 98) (tgt := 114) hx hb d_C_word_16 (by decide) (by rw [hc24]; decide +kernel) rfl ?_
                  exact w114 a1 a2 a3 u2 _ _ _ (lv_sub hl [0, 1, 2, 3] rfl) hI h
                · rw [if_neg hc24] at h
                  by_cases hc25 : (k_kd u2 a1.toNatClampNeg) = 69
                  · rw [if_pos hc25] at h
                    refine lv_lookup (off := 98) (tgt := 114) hx hb d_C_word_16 (by decide) (by rw [hc25]; decide +kernel) rfl ?_
                    exact w114 a1 a2 a3 u2 _ _ _ (lv_sub hl [0, 1, 2, 3] rfl) hI h
                  · rw [if_neg hc25] at h
                    refine lv_lookup (off := 140) (tgt := 156) hx hb d_C_word_16 (by decide) ((lv_osw hc4 (by decide)).trans ((lv_osw hc7 (by decide)).trans ((lv_osw hc8 (by decide)).trans ((lv_osw hc9 (by decide)).trans ((lv_osw hc16 (by decide)).trans ((lv_osw hc23 (by decide)).trans ((lv_osw hc24 (by decide)).trans ((lv_osw hc25 (by decide)).trans rfl)))))))) rfl ?_
                    refine lv_aload_n hx hb d_C_word_156 rfl (lv_at hl 0 rfl) ?_
                    refine g_get (v := .ref (ad 8)) hx hb hts in_C hown hK hI 4 rfl rfl 3 (by decide) (hts _ wd_45) rfl d_C_word_157 ?_
                    refine lv_iload_n hx hb d_C_word_160 rfl (lv_at hl 1 rfl) ?_
                    obtain ⟨hg, h⟩ := gd_e h
                    refine g_iald hx hb hK hI 8 5 rfl rfl hg d_C_word_161 ?_
                    refine lv_aload_n hx hb d_C_word_162 rfl (lv_at hl 0 rfl) ?_
                    refine lv_iload_n hx hb d_C_word_163 rfl (lv_at hl 1 rfl) ?_
                    refine lv_iload_n hx hb d_C_word_164 rfl (lv_at hl 2 rfl) ?_
                    obtain ⟨r26, u27, hc, h⟩ := ob_e h
                    refine g_callV (As := [.int a1, .int a2]) (rest := [.int (k_dv u2 a1.toNatClampNeg)]) (w' := k_W ad cA u27) (o := some (.int r26)) ⟨hx, hb, hml, hown, hts⟩ (c_C_factorOf l D ad cA hc) (cwV 2 hts gq_C_65 rfl rfl rfl (by decide +kernel) ⟨by dsimp only; omega, by dsimp only; omega⟩) hK hI hA 4 2 rfl rfl rfl hl.1 rfl (Nat.le_of_ble_eq_true rfl) d_C_word_165 ⟨Nat.zero_le _, Nat.zero_le _⟩ rfl (fun H locs hI => ?_)
                    refine lv_aload_n hx hb d_C_word_168 rfl (lv_at hl 0 rfl) ?_
                    refine lv_iload_n hx hb d_C_word_169 rfl (lv_at hl 1 rfl) ?_
                    refine lv_iload_n hx hb d_C_word_170 rfl (lv_at hl 2 rfl) ?_
                    refine lv_iload_n hx hb d_C_word_171 rfl (lv_at hl 3 rfl) ?_
                    obtain ⟨r28, u29, hc, h⟩ := ob_e h
                    refine g_callV (As := [.int a1, .int a2, .int a3]) (rest := [.int r26, .int (k_dv u2 a1.toNatClampNeg)]) (w' := k_W ad cA u29) (o := some (.int r28)) ⟨hx, hb, hml, hown, hts⟩ (c_C_sumAt l D ad cA hc) (cwV 3 hts gq_C_69 rfl rfl rfl (by decide +kernel) ⟨by dsimp only; omega, by dsimp only; omega⟩) hK hI hA 4 2 rfl rfl rfl hl.1 rfl (Nat.le_of_ble_eq_true rfl) d_C_word_172 ⟨Nat.zero_le _, Nat.zero_le _⟩ rfl (fun H locs hI => ?_)
                    obtain ⟨r30, u31, hc, h⟩ := ob_e h
                    refine g_callS (As := [.int (k_dv u2 a1.toNatClampNeg), .int r26, .int r28]) (rest := []) (w' := k_W ad cA u31) (o := some (.long r30)) ⟨hx, hb, hml, hown, hts⟩ (c_C_dividesWord l D ad cA hc) (va_cwS 3 hts gq_C_80 rfl rfl rfl (by decide +kernel) ⟨by dsimp only; omega, by dsimp only; omega⟩) hK hI hA rfl hl.1 rfl (Nat.le_of_ble_eq_true rfl) d_C_word_175 ⟨Nat.zero_le _, Nat.zero_le _⟩ rfl (fun H locs hI => ?_)
                    exact g_lret (Wd := k_W ad cA) hx hb hr hlk hK hI h d_C_word_178
  · rw [if_pos hc3] at h
    refine lv_lconst (v := 0) hx hb d_C_word_8 (by decide) ?_
    exact g_lret (Wd := k_W ad cA) hx hb hr hlk hK hI h d_C_word_9
def f_C_word (n : Nat) : Int32 → Int32 → Int32 → KS → Option (Int64 × KS) := match n with
  | 0 => fun _ _ _ _ => none
  | n + 1 => f_C_word1 (f_C_word n)
theorem c_C_word (l : Launch) (D : va_G) (ad : Nat → Nat) (cA : Nat → ClassId) : ∀ (N : Nat) {a1 a2 a3 : Int32} {u u0 : KS} {r0 : Int64}, f_C_word N a1 a2 a3 u = some (r0, u0) → g_M l y_C_word w_C_word { frames := 3 * N + 2, cells := 0, slots := 0, locals := 77 * N + 43 } D vwCl (k_T cA) (k_W ad cA u) [.ref (ad 4), .int a1, .int a2, .int a3] (some (.long r0)) (k_W ad cA u0) := by
  intro N
  induction N with
  | zero => intro a1 a2 a3 u u0 r0 h; cases h
  | succ N ih =>
    intro a1 a2 a3 u u0 r0 h
    have h2 := c_C_word1 l D ad cA N (f_C_word N) (fun h => ih h) h
    have e1 : 3 * (N + 1) + 2 = 3 * N + 5 := by omega
    have e2 : 77 * (N + 1) + 43 = 77 * N + 120 := by omega
    rw [e1, e2]
    exact h2
def f_W_fill_J20 (k2 : Int32 → Int32 → KS → Option (Unit × KS)) (v2 : Int32) (v3 : Int32) (t0 : Int32) (u : KS) : Option (Unit × KS) := if t0 = 0 then (ob (f_C_word 32 0 0 (((-96)) + (v3 * 64)) u) fun r5 u6 => gd (inb v3 3) (lt_ (k_p_wd (vp_updL (k_wd u6) v3.toNatClampNeg r5) u6) fun u7 => lt_ (v3 + 1) fun x8 => k2 v2 x8 u7)) else (gd (inb v3 3) (lt_ (k_p_wd (vp_updL (k_wd u) v3.toNatClampNeg (k_wd u (0 : Int32).toNatClampNeg)) u) fun u9 => lt_ (v3 + 1) fun x10 => k2 v2 x10 u9))
def f_W_fill_L2 (n : Nat) : Int32 → Int32 → KS → Option (Unit × KS) := match n with
  | 0 => fun _ _ _ => none
  | n + 1 => fun v2 v3 u => if 3 ≤ v3 then some ((), u) else (if v3 ≤ 0 then f_W_fill_J20 (f_W_fill_L2 n) v2 v3 0 u else (if v2 = 0 then f_W_fill_J20 (f_W_fill_L2 n) v2 v3 1 u else f_W_fill_J20 (f_W_fill_L2 n) v2 v3 0 u))
def f_W_fill (a2 : Int32) (u : KS) : Option (Unit × KS) := f_W_fill_L2 4096 a2 0 u
set_option maxRecDepth 100000 in
set_option maxHeartbeats 4000000 in
theorem c_W_fill (l : Launch) (D : va_G) (ad : Nat → Nat) (cA : Nat → ClassId) {a2 : Int32} {u u0 : KS} {r0 : Unit} (h : f_W_fill a2 u = some (r0, u0)) : g_M l y_W_fill w_W_fill { frames := 99, cells := 0, slots := 0, locals := 2530 } D vwCl (k_T cA) (k_W ad cA u) [.ref (ad 14), .ref (ad 4), .int a2] none (k_W ad cA u0) := by
  refine g_ofW (cc := c0_W_fill) (maxL := 5) (ret := none) (by decide) rfl (Nat.le_of_ble_eq_true rfl) ?_
  intro p e s m below meth c A ls hx hb hr hml hown hts hlk hK hA hI hl
  have hts : ∀ w ∈ gW, w.before ([.ref (ad 14), .ref (ad 4), .int a2] : List Value).toArray s = true := fun w h => hts w (List.mem_cons_of_mem _ h)
  have hown : s.vm.findClass R_W = some m.cls := hown
  have hl : lv_has ls 5 [(0, .ref (ad 14)), (1, .ref (ad 4)), (2, .int a2)] := hl
  have w20 : ∀ (k2 : Int32 → Int32 → KS → Option (Unit × KS)) (hk2 : ∀ (v2 : Int32) (v3 : Int32) (u : KS) (H : Heap) (locs : List Loc) (ls : Array Slot), lv_has ls 5 [(0, .ref (ad 14)), (1, .ref (ad 4)), (2, .int v2), (3, .int v3)] → g_I D vwCl A s.heap H locs (k_W ad cA u) → k2 v2 v3 u = some (r0, u0) → W p l e { frames := 99, cells := 0, slots := 0, locals := 2530 } s m ([.ref (ad 14), .ref (ad 4), .int a2] : List Value).toArray below meth c H locs 0 0 (MQ below (g_Q D vwCl (k_T cA) (k_W ad cA u0) A none) ([.ref (ad 14), .ref (ad 4), .int a2] : List Value).toArray s 0 0 A) (F0 m 2 ls [])) (v2 : Int32) (v3 : Int32) (t0 : Int32) (u : KS) (H : Heap) (locs : List Loc) (ls : Array Slot), lv_has ls 5 [(0, .ref (ad 14)), (1, .ref (ad 4)), (2, .int v2), (3, .int v3)] → g_I D vwCl A s.heap H locs (k_W ad cA u) → f_W_fill_J20 k2 v2 v3 t0 u = some (r0, u0) → W p l e { frames := 99, cells := 0, slots := 0, locals := 2530 } s m ([.ref (ad 14), .ref (ad 4), .int a2] : List Value).toArray below meth c H locs 0 0 (MQ below (g_Q D vwCl (k_T cA) (k_W ad cA u0) A none) ([.ref (ad 14), .ref (ad 4), .int a2] : List Value).toArray s 0 0 A) (F0 m 20 ls [.int t0]) := by
    intro k2 hk2 v2 v3 t0 u H locs ls hl hI h
    dsimp only [f_W_fill_J20] at h
    refine lv_istore (lv' := [(4, .int t0), (0, .ref (ad 14)), (1, .ref (ad 4)), (2, .int v2), (3, .int v3)]) hx hb d_W_fill_20 hl (by decide) rfl (fun ls hl => ?_)
    refine lv_aload_n hx hb d_W_fill_22 rfl (lv_at hl 1 rfl) ?_
    refine g_get (v := .ref (ad 15)) hx hb hts in_W hown hK hI 14 rfl rfl 0 (by decide) (hts _ wd_99) rfl d_W_fill_23 ?_
    refine lv_iload_n hx hb d_W_fill_26 rfl (lv_at hl 4 rfl) ?_
    refine lv_iload hx hb d_W_fill_27 (lv_at hl 0 rfl) ?_
    refine lv_if_eq (tgt := 41) hx hb d_W_fill_29 rfl (fun hc4 => ?_) (fun hc4 => ?_)
    · rw [if_pos hc4] at h
      refine lv_aload_n hx hb d_W_fill_41 rfl (lv_at hl 2 rfl) ?_
      refine lv_iconst (v := 0) hx hb d_W_fill_42 (by decide) ?_
      refine lv_iconst (v := 0) hx hb d_W_fill_43 (by decide) ?_
      refine lv_bipush (v := (-96)) hx hb d_W_fill_44 (by decide) ?_
      refine lv_iload_n hx hb d_W_fill_46 rfl (lv_at hl 4 rfl) ?_
      refine lv_bipush (v := 64) hx hb d_W_fill_47 (by decide) ?_
      refine lv_imul hx hb d_W_fill_49 ?_
      refine lv_iadd hx hb d_W_fill_50 ?_
      obtain ⟨r5, u6, hc, h⟩ := ob_e h
      refine g_callV (As := [.int 0, .int 0, .int (((-96)) + (v3 * 64))]) (rest := [.int v3, .ref (ad 15)]) (w' := k_W ad cA u6) (o := some (.long r5)) ⟨hx, hb, hml, hown, hts⟩ (c_C_word l D ad cA 32 hc) (cwV 3 hts gq_W_19 rfl rfl rfl (by decide +kernel) ⟨Nat.le_of_ble_eq_true rfl, Nat.le_of_ble_eq_true rfl⟩) hK hI hA 4 2 rfl rfl rfl hl.1 rfl (Nat.le_of_ble_eq_true rfl) d_W_fill_51 ⟨Nat.zero_le _, Nat.zero_le _⟩ rfl (fun H locs hI => ?_)
      obtain ⟨hg, h⟩ := gd_e h
      obtain ⟨u7, e_u7, h⟩ := lt_e h
      refine g_last (w' := k_W ad cA u7) hx hb hK hI 15 10 rfl rfl hg d_W_fill_54 (by subst e_u7; rfl) (fun H locs hI => ?_)
      obtain ⟨x8, e_x8, h⟩ := lt_e h
      refine lv_iinc (v := x8) (k := 4) hx hb d_W_fill_55 hl rfl (by subst e_x8; rfl) (by decide) rfl (fun ls hl => ?_)
      refine lv_goto (tgt := 2) hx hb d_W_fill_58 rfl ?_
      exact hk2 v2 x8 u7 _ _ _ (lv_sub hl [2, 3, 4, 0] rfl) hI h
    · rw [if_neg hc4] at h
      refine lv_aload_n hx hb d_W_fill_32 rfl (lv_at hl 1 rfl) ?_
      refine g_get (v := .ref (ad 15)) hx hb hts in_W hown hK hI 14 rfl rfl 0 (by decide) (hts _ wd_99) rfl d_W_fill_33 ?_
      refine lv_iconst (v := 0) hx hb d_W_fill_36 (by decide) ?_
      refine g_lald hx hb hK hI 15 10 rfl rfl (by decide) d_W_fill_37 ?_
      refine lv_goto (tgt := 54) hx hb d_W_fill_38 rfl ?_
      obtain ⟨hg, h⟩ := gd_e h
      obtain ⟨u9, e_u9, h⟩ := lt_e h
      refine g_last (w' := k_W ad cA u9) hx hb hK hI 15 10 rfl rfl hg d_W_fill_54 (by subst e_u9; rfl) (fun H locs hI => ?_)
      obtain ⟨x10, e_x10, h⟩ := lt_e h
      refine lv_iinc (v := x10) (k := 4) hx hb d_W_fill_55 hl rfl (by subst e_x10; rfl) (by decide) rfl (fun ls hl => ?_)
      refine lv_goto (tgt := 2) hx hb d_W_fill_58 rfl ?_
      exact hk2 v2 x10 u9 _ _ _ (lv_sub hl [2, 3, 4, 0] rfl) hI h
  have w2 : ∀ (n : Nat) (v2 : Int32) (v3 : Int32) (u : KS) (H : Heap) (locs : List Loc) (ls : Array Slot), lv_has ls 5 [(0, .ref (ad 14)), (1, .ref (ad 4)), (2, .int v2), (3, .int v3)] → g_I D vwCl A s.heap H locs (k_W ad cA u) → f_W_fill_L2 n v2 v3 u = some (r0, u0) → W p l e { frames := 99, cells := 0, slots := 0, locals := 2530 } s m ([.ref (ad 14), .ref (ad 4), .int a2] : List Value).toArray below meth c H locs 0 0 (MQ below (g_Q D vwCl (k_T cA) (k_W ad cA u0) A none) ([.ref (ad 14), .ref (ad 4), .int a2] : List Value).toArray s 0 0 A) (F0 m 2 ls []) := by
    intro  n
    induction n with
    | zero => intro v2 v3 u H locs ls hl hI h; cases h
    | succ n ih =>
      intro v2 v3 u H locs ls hl hI h
      dsimp only [f_W_fill_L2] at h
      refine lv_iload_n hx hb d_W_fill_2 rfl (lv_at hl 3 rfl) ?_
      refine lv_iconst (v := 3) hx hb d_W_fill_3 (by decide) ?_
      refine lv_icmp_ge (tgt := 61) hx hb d_W_fill_4 rfl (fun hc1 => ?_) (fun hc1 => ?_)
      · rw [if_pos hc1] at h
        exact g_vret (Wd := k_W ad cA) hx hb hr hlk hK hI h d_W_fill_61
      · rw [if_neg hc1] at h
        refine lv_iload_n hx hb d_W_fill_7 rfl (lv_at hl 3 rfl) ?_
        refine lv_if_le (tgt := 19) hx hb d_W_fill_8 rfl (fun hc2 => ?_) (fun hc2 => ?_)
        · rw [if_pos hc2] at h
          refine lv_iconst (v := 0) hx hb d_W_fill_19 (by decide) ?_
          exact w20 (f_W_fill_L2 n) ih v2 v3 0 u _ _ _ (lv_sub hl [0, 1, 2, 3] rfl) hI h
        · rw [if_neg hc2] at h
          refine lv_iload_n hx hb d_W_fill_11 rfl (lv_at hl 2 rfl) ?_
          refine lv_if_ne (tgt := 19) hx hb d_W_fill_12 rfl (fun hc3 => ?_) (fun hc3 => ?_)
          · rw [if_neg hc3] at h
            refine lv_iconst (v := 0) hx hb d_W_fill_19 (by decide) ?_
            exact w20 (f_W_fill_L2 n) ih v2 v3 0 u _ _ _ (lv_sub hl [0, 1, 2, 3] rfl) hI h
          · rw [if_pos hc3] at h
            refine lv_iconst (v := 1) hx hb d_W_fill_15 (by decide) ?_
            refine lv_goto (tgt := 20) hx hb d_W_fill_16 rfl ?_
            exact w20 (f_W_fill_L2 n) ih v2 v3 1 u _ _ _ (lv_sub hl [0, 1, 2, 3] rfl) hI h
  dsimp only [f_W_fill] at h
  refine lv_iconst (v := 0) hx hb d_W_fill_0 (by decide) ?_
  refine lv_istore_n (lv' := [(3, .int 0), (0, .ref (ad 14)), (1, .ref (ad 4)), (2, .int a2)]) hx hb d_W_fill_1 rfl hl (by decide) rfl (fun ls hl => ?_)
  exact w2 4096 a2 0 u _ _ _ (lv_sub hl [1, 2, 3, 0] rfl) hI h
def f_L_take_J31 (v1 : Int32) (t0 : Int32) (u : KS) : Option (Int32 × KS) := ob (f_T_clear u) fun r8 u9 => if v1 = 0 then some (t0, u9) else (ob (f_C_isOpen 0 u9) fun r11 u12 => gd (bz r11) (lt_ (k_p_xf r11 u12) fun u13 => ob (f_W_fill (k_xf u13) u13) fun r14 u15 => some (t0, u15)))
def f_L_take (u : KS) : Option (Int32 × KS) := ob (f_R_readWhole u) fun r1 u2 => if r1 = 0 then (ob (f_R_faultPlace u2) fun r4 u5 => f_L_take_J31 r1 (((-1)) - r4) u5) else (ob (f_R_bracketsRead u2) fun r6 u7 => f_L_take_J31 r1 r6 u7)
set_option maxRecDepth 100000 in
set_option maxHeartbeats 4000000 in
theorem c_L_take (l : Launch) (D : va_G) (ad : Nat → Nat) (cA : Nat → ClassId) {u u0 : KS} {r0 : Int32} (h : f_L_take u = some (r0, u0)) : g_M l y_L_take w_L_take { frames := 100, cells := 0, slots := 0, locals := 2554 } D vwCl (k_T cA) (k_W ad cA u) [.ref (ad 0)] (some (.int r0)) (k_W ad cA u0) := by
  refine g_ofW (cc := c0_L_take) (maxL := 3) (ret := (some .int)) (by decide) rfl (Nat.le_of_ble_eq_true rfl) ?_
  intro p e s m below meth c A ls hx hb hr hml hown hts hlk hK hA hI hl
  have hts : ∀ w ∈ gW, w.before ([.ref (ad 0)] : List Value).toArray s = true := fun w h => hts w (List.mem_cons_of_mem _ h)
  have hown : s.vm.findClass R_L = some m.cls := hown
  have hl : lv_has ls 3 [(0, .ref (ad 0))] := hl
  have w31 : ∀ (v1 : Int32) (t0 : Int32) (u : KS) (H : Heap) (locs : List Loc) (ls : Array Slot), lv_has ls 3 [(0, .ref (ad 0)), (1, .int v1)] → g_I D vwCl A s.heap H locs (k_W ad cA u) → f_L_take_J31 v1 t0 u = some (r0, u0) → W p l e { frames := 100, cells := 0, slots := 0, locals := 2554 } s m ([.ref (ad 0)] : List Value).toArray below meth c H locs 0 0 (MQ below (g_Q D vwCl (k_T cA) (k_W ad cA u0) A (some (.int r0))) ([.ref (ad 0)] : List Value).toArray s 0 0 A) (F0 m 31 ls [.int t0]) := by
    intro  v1 t0 u H locs ls hl hI h
    dsimp only [f_L_take_J31] at h
    refine lv_istore_n (lv' := [(2, .int t0), (0, .ref (ad 0)), (1, .int v1)]) hx hb d_L_take_31 rfl hl (by decide) rfl (fun ls hl => ?_)
    refine lv_aload_n hx hb d_L_take_32 rfl (lv_at hl 1 rfl) ?_
    refine g_get (v := .ref (ad 1)) hx hb hts in_L hown hK hI 0 rfl rfl 0 (by decide) (hts _ wd_104) rfl d_L_take_33 ?_
    obtain ⟨r8, u9, hc, h⟩ := ob_e h
    refine g_callV (As := []) (rest := []) (w' := k_W ad cA u9) (o := none) ⟨hx, hb, hml, hown, hts⟩ (c_T_clear l D ad cA hc) (cwV 0 hts gq_L_69 rfl rfl rfl (by decide +kernel) ⟨Nat.le_of_ble_eq_true rfl, Nat.le_of_ble_eq_true rfl⟩) hK hI hA 1 1 rfl rfl rfl hl.1 rfl (Nat.le_of_ble_eq_true rfl) d_L_take_36 ⟨Nat.zero_le _, Nat.zero_le _⟩ rfl (fun H locs hI => ?_)
    refine lv_iload_n hx hb d_L_take_39 rfl (lv_at hl 2 rfl) ?_
    refine lv_if_eq (tgt := 70) hx hb d_L_take_40 rfl (fun hc10 => ?_) (fun hc10 => ?_)
    · rw [if_pos hc10] at h
      refine lv_iload_n hx hb d_L_take_70 rfl (lv_at hl 0 rfl) ?_
      exact g_iret (Wd := k_W ad cA) hx hb hr hlk hK hI h d_L_take_71
    · rw [if_neg hc10] at h
      refine lv_aload_n hx hb d_L_take_43 rfl (lv_at hl 1 rfl) ?_
      refine lv_aload_n hx hb d_L_take_44 rfl (lv_at hl 1 rfl) ?_
      refine g_get (v := .ref (ad 4)) hx hb hts in_L hown hK hI 0 rfl rfl 1 (by decide) (hts _ wd_105) rfl d_L_take_45 ?_
      refine lv_iconst (v := 0) hx hb d_L_take_48 (by decide) ?_
      obtain ⟨r11, u12, hc, h⟩ := ob_e h
      refine g_callV (As := [.int 0]) (rest := [.ref (ad 0)]) (w' := k_W ad cA u12) (o := some (.int r11)) ⟨hx, hb, hml, hown, hts⟩ (c_C_isOpen l D ad cA hc) (cwV 1 hts gq_L_72 rfl rfl rfl (by decide +kernel) ⟨Nat.le_of_ble_eq_true rfl, Nat.le_of_ble_eq_true rfl⟩) hK hI hA 4 2 rfl rfl rfl hl.1 rfl (Nat.le_of_ble_eq_true rfl) d_L_take_49 ⟨Nat.zero_le _, Nat.zero_le _⟩ rfl (fun H locs hI => ?_)
      obtain ⟨hg, h⟩ := gd_e h
      obtain ⟨u13, e_u13, h⟩ := lt_e h
      refine g_put (t := .boolean) (w' := k_W ad cA u13) hx hb hts in_L ty_L tyok_L nm_L hown hK hI 0 rfl rfl 4 (by decide) (hts _ wd_108) rfl (by decide +kernel) (bz_n hg) (bz_f hg) (Nat.le_of_ble_eq_true rfl) d_L_take_52 (by subst e_u13; rfl) (fun H locs hI => ?_)
      refine lv_aload_n hx hb d_L_take_55 rfl (lv_at hl 1 rfl) ?_
      refine g_get (v := .ref (ad 14)) hx hb hts in_L hown hK hI 0 rfl rfl 3 (by decide) (hts _ wd_107) rfl d_L_take_56 ?_
      refine lv_aload_n hx hb d_L_take_59 rfl (lv_at hl 1 rfl) ?_
      refine g_get (v := .ref (ad 4)) hx hb hts in_L hown hK hI 0 rfl rfl 1 (by decide) (hts _ wd_105) rfl d_L_take_60 ?_
      refine lv_aload_n hx hb d_L_take_63 rfl (lv_at hl 1 rfl) ?_
      refine g_get (v := .int (k_xf u13)) hx hb hts in_L hown hK hI 0 rfl rfl 4 (by decide) (hts _ wd_108) rfl d_L_take_64 ?_
      obtain ⟨r14, u15, hc, h⟩ := ob_e h
      refine g_callV (As := [.ref (ad 4), .int (k_xf u13)]) (rest := []) (w' := k_W ad cA u15) (o := none) ⟨hx, hb, hml, hown, hts⟩ (c_W_fill l D ad cA hc) (cwV 2 hts gq_L_75 rfl rfl rfl (by decide +kernel) ⟨Nat.le_of_ble_eq_true rfl, Nat.le_of_ble_eq_true rfl⟩) hK hI hA 14 4 rfl rfl rfl hl.1 rfl (Nat.le_of_ble_eq_true rfl) d_L_take_67 ⟨Nat.zero_le _, Nat.zero_le _⟩ rfl (fun H locs hI => ?_)
      refine lv_iload_n hx hb d_L_take_70 rfl (lv_at hl 0 rfl) ?_
      exact g_iret (Wd := k_W ad cA) hx hb hr hlk hK hI h d_L_take_71
  dsimp only [f_L_take] at h
  refine lv_aload_n hx hb d_L_take_0 rfl (lv_at hl 0 rfl) ?_
  refine g_get (v := .ref (ad 13)) hx hb hts in_L hown hK hI 0 rfl rfl 2 (by decide) (hts _ wd_106) rfl d_L_take_1 ?_
  obtain ⟨r1, u2, hc, h⟩ := ob_e h
  refine g_callV (As := []) (rest := []) (w' := k_W ad cA u2) (o := some (.int r1)) ⟨hx, hb, hml, hown, hts⟩ (c_R_readWhole l D ad cA hc) (cwV 0 hts gq_L_58 rfl rfl rfl (by decide +kernel) ⟨Nat.le_of_ble_eq_true rfl, Nat.le_of_ble_eq_true rfl⟩) hK hI hA 13 3 rfl rfl rfl hl.1 rfl (Nat.le_of_ble_eq_true rfl) d_L_take_4 ⟨Nat.zero_le _, Nat.zero_le _⟩ rfl (fun H locs hI => ?_)
  refine lv_istore_n (lv' := [(1, .int r1), (0, .ref (ad 0))]) hx hb d_L_take_7 rfl hl (by decide) rfl (fun ls hl => ?_)
  refine lv_iload_n hx hb d_L_take_8 rfl (lv_at hl 0 rfl) ?_
  refine lv_if_eq (tgt := 22) hx hb d_L_take_9 rfl (fun hc3 => ?_) (fun hc3 => ?_)
  · rw [if_pos hc3] at h
    refine lv_iconst (v := (-1)) hx hb d_L_take_22 (by decide) ?_
    refine lv_aload_n hx hb d_L_take_23 rfl (lv_at hl 1 rfl) ?_
    refine g_get (v := .ref (ad 13)) hx hb hts in_L hown hK hI 0 rfl rfl 2 (by decide) (hts _ wd_106) rfl d_L_take_24 ?_
    obtain ⟨r4, u5, hc, h⟩ := ob_e h
    refine g_callV (As := []) (rest := [.int ((-1))]) (w' := k_W ad cA u5) (o := some (.int r4)) ⟨hx, hb, hml, hown, hts⟩ (c_R_faultPlace l D ad cA hc) (cwV 0 hts gq_L_66 rfl rfl rfl (by decide +kernel) ⟨Nat.le_of_ble_eq_true rfl, Nat.le_of_ble_eq_true rfl⟩) hK hI hA 13 3 rfl rfl rfl hl.1 rfl (Nat.le_of_ble_eq_true rfl) d_L_take_27 ⟨Nat.zero_le _, Nat.zero_le _⟩ rfl (fun H locs hI => ?_)
    refine lv_isub hx hb d_L_take_30 ?_
    exact w31 r1 (((-1)) - r4) u5 _ _ _ (lv_sub hl [1, 0] rfl) hI h
  · rw [if_neg hc3] at h
    refine lv_aload_n hx hb d_L_take_12 rfl (lv_at hl 1 rfl) ?_
    refine g_get (v := .ref (ad 13)) hx hb hts in_L hown hK hI 0 rfl rfl 2 (by decide) (hts _ wd_106) rfl d_L_take_13 ?_
    obtain ⟨r6, u7, hc, h⟩ := ob_e h
    refine g_callV (As := []) (rest := []) (w' := k_W ad cA u7) (o := some (.int r6)) ⟨hx, hb, hml, hown, hts⟩ (c_R_bracketsRead l D ad cA hc) (cwV 0 hts gq_L_62 rfl rfl rfl (by decide +kernel) ⟨Nat.le_of_ble_eq_true rfl, Nat.le_of_ble_eq_true rfl⟩) hK hI hA 13 3 rfl rfl rfl hl.1 rfl (Nat.le_of_ble_eq_true rfl) d_L_take_16 ⟨Nat.zero_le _, Nat.zero_le _⟩ rfl (fun H locs hI => ?_)
    refine lv_goto (tgt := 31) hx hb d_L_take_19 rfl ?_
    exact w31 r1 r6 u7 _ _ _ (lv_sub hl [1, 0] rfl) hI h
def f_L_free (u : KS) : Option (Int32 × KS) := gd (bz (k_xf u)) (some (k_xf u, u))
set_option maxRecDepth 100000 in
set_option maxHeartbeats 4000000 in
theorem c_L_free (l : Launch) (D : va_G) (ad : Nat → Nat) (cA : Nat → ClassId) {u u0 : KS} {r0 : Int32} (h : f_L_free u = some (r0, u0)) : g_M l y_L_free w_L_free { frames := 0, cells := 0, slots := 0, locals := 0 } D vwCl (k_T cA) (k_W ad cA u) [.ref (ad 0)] (some (.int r0)) (k_W ad cA u0) := by
  refine g_ofW (cc := c0_L_free) (maxL := 1) (ret := (some .boolean)) (by decide) rfl (Nat.le_of_ble_eq_true rfl) ?_
  intro p e s m below meth c A ls hx hb hr hml hown hts hlk hK hA hI hl
  have hts : ∀ w ∈ gW, w.before ([.ref (ad 0)] : List Value).toArray s = true := fun w h => hts w (List.mem_cons_of_mem _ h)
  have hown : s.vm.findClass R_L = some m.cls := hown
  have hl : lv_has ls 1 [(0, .ref (ad 0))] := hl
  dsimp only [f_L_free] at h
  refine lv_aload_n hx hb d_L_free_0 rfl (lv_at hl 0 rfl) ?_
  refine g_get (v := .int (k_xf u)) hx hb hts in_L hown hK hI 0 rfl rfl 4 (by decide) (hts _ wd_108) rfl d_L_free_1 ?_
  exact g_zret (Wd := k_W ad cA) hx hb hr hlk hK hI h d_L_free_4
def f_L_isNear (a0 : Int32) (u : KS) : Option (Int32 × KS) := if a0 < ((-1000)) then (gd (bz 0) (some (0, u))) else (if 1000 < a0 then (gd (bz 0) (some (0, u))) else (gd (bz 1) (some (1, u))))
set_option maxRecDepth 100000 in
set_option maxHeartbeats 4000000 in
theorem c_L_isNear (l : Launch) (D : va_G) (ad : Nat → Nat) (cA : Nat → ClassId) {a0 : Int32} {u u0 : KS} {r0 : Int32} (h : f_L_isNear a0 u = some (r0, u0)) : g_M l y_L_isNear w_L_isNear { frames := 0, cells := 0, slots := 0, locals := 0 } D vwCl (k_T cA) (k_W ad cA u) [.int a0] (some (.int r0)) (k_W ad cA u0) := by
  refine g_ofW (cc := c0_L_isNear) (maxL := 1) (ret := (some .boolean)) (by decide) rfl (Nat.le_of_ble_eq_true rfl) ?_
  intro p e s m below meth c A ls hx hb hr hml hown hts hlk hK hA hI hl
  have hts : ∀ w ∈ gW, w.before ([.int a0] : List Value).toArray s = true := fun w h => hts w (List.mem_cons_of_mem _ h)
  have hown : s.vm.findClass R_L = some m.cls := hown
  have hl : lv_has ls 1 [(0, .int a0)] := hl
  dsimp only [f_L_isNear] at h
  refine lv_iload_n hx hb d_L_isNear_0 rfl (lv_at hl 0 rfl) ?_
  refine lv_sipush (v := (-1000)) hx hb d_L_isNear_1 (by decide) ?_
  refine lv_icmp_lt (tgt := 18) hx hb d_L_isNear_4 rfl (fun hc1 => ?_) (fun hc1 => ?_)
  · rw [if_pos hc1] at h
    refine lv_iconst (v := 0) hx hb d_L_isNear_18 (by decide) ?_
    exact g_zret (Wd := k_W ad cA) hx hb hr hlk hK hI h d_L_isNear_19
  · rw [if_neg hc1] at h
    refine lv_iload_n hx hb d_L_isNear_7 rfl (lv_at hl 0 rfl) ?_
    refine lv_sipush (v := 1000) hx hb d_L_isNear_8 (by decide) ?_
    refine lv_icmp_gt (tgt := 18) hx hb d_L_isNear_11 rfl (fun hc2 => ?_) (fun hc2 => ?_)
    · rw [if_pos hc2] at h
      refine lv_iconst (v := 0) hx hb d_L_isNear_18 (by decide) ?_
      exact g_zret (Wd := k_W ad cA) hx hb hr hlk hK hI h d_L_isNear_19
    · rw [if_neg hc2] at h
      refine lv_iconst (v := 1) hx hb d_L_isNear_14 (by decide) ?_
      refine lv_goto (tgt := 19) hx hb d_L_isNear_15 rfl ?_
      exact g_zret (Wd := k_W ad cA) hx hb hr hlk hK hI h d_L_isNear_19
def f_J_floorMod (a0 : Int32) (a1 : Int32) (u : KS) : Option (Int32 × KS) := gd (nz a1) (lt_ (a0 - a0 / a1 * a1) fun x1 => if 0 ≤ (a0 ^^^ a1) then some (x1, u) else (if x1 = 0 then some (x1, u) else some (x1 + a1, u)))
set_option maxRecDepth 100000 in
set_option maxHeartbeats 4000000 in
theorem c_J_floorMod (l : Launch) (D : va_G) (ad : Nat → Nat) (cA : Nat → ClassId) {a0 : Int32} {a1 : Int32} {u u0 : KS} {r0 : Int32} (h : f_J_floorMod a0 a1 u = some (r0, u0)) : g_M l y_J_floorMod w_J_floorMod { frames := 0, cells := 0, slots := 0, locals := 0 } D vwCl (k_T cA) (k_W ad cA u) [.int a0, .int a1] (some (.int r0)) (k_W ad cA u0) := by
  refine g_ofF (cc := c0_J_floorMod) (maxL := 3) (ret := (some .int)) (by decide +kernel) rfl (Nat.le_of_ble_eq_true rfl) ?_
  intro p e s m below meth c A ls hx hb hr hml hown hts hlk hK hA hI hl
  have hts : ∀ w ∈ gW, w.before ([.int a0, .int a1] : List Value).toArray s = true := fun w h => hts w (List.mem_cons_of_mem _ h)
  have hown : s.vm.findClass R_J = some m.cls := hown
  have hl : lv_has ls 3 [(0, .int a0), (1, .int a1)] := hl
  dsimp only [f_J_floorMod] at h
  refine lv_iload_n hx hb d_J_floorMod_0 rfl (lv_at hl 0 rfl) ?_
  refine lv_iload_n hx hb d_J_floorMod_1 rfl (lv_at hl 1 rfl) ?_
  obtain ⟨hg, h⟩ := gd_e h
  refine lv_irem hx hb d_J_floorMod_2 (nz_e hg) ?_
  obtain ⟨x1, e_x1, h⟩ := lt_e h
  refine lv_istore_n (lv' := [(2, .int x1), (0, .int a0), (1, .int a1)]) hx hb d_J_floorMod_3 rfl hl (by decide) (by subst e_x1; rfl) (fun ls hl => ?_)
  refine lv_iload_n hx hb d_J_floorMod_4 rfl (lv_at hl 1 rfl) ?_
  refine lv_iload_n hx hb d_J_floorMod_5 rfl (lv_at hl 2 rfl) ?_
  refine lv_ixor hx hb d_J_floorMod_6 ?_
  refine lv_if_ge (tgt := 18) hx hb d_J_floorMod_7 rfl (fun hc2 => ?_) (fun hc2 => ?_)
  · rw [if_pos hc2] at h
    refine lv_iload_n hx hb d_J_floorMod_18 rfl (lv_at hl 0 rfl) ?_
    exact g_iret (Wd := k_W ad cA) hx hb hr hlk hK hI h d_J_floorMod_19
  · rw [if_neg hc2] at h
    refine lv_iload_n hx hb d_J_floorMod_10 rfl (lv_at hl 0 rfl) ?_
    refine lv_if_eq (tgt := 18) hx hb d_J_floorMod_11 rfl (fun hc3 => ?_) (fun hc3 => ?_)
    · rw [if_pos hc3] at h
      refine lv_iload_n hx hb d_J_floorMod_18 rfl (lv_at hl 0 rfl) ?_
      exact g_iret (Wd := k_W ad cA) hx hb hr hlk hK hI h d_J_floorMod_19
    · rw [if_neg hc3] at h
      refine lv_iload_n hx hb d_J_floorMod_14 rfl (lv_at hl 0 rfl) ?_
      refine lv_iload_n hx hb d_J_floorMod_15 rfl (lv_at hl 2 rfl) ?_
      refine lv_iadd hx hb d_J_floorMod_16 ?_
      exact g_iret (Wd := k_W ad cA) hx hb hr hlk hK hI h d_J_floorMod_17
def f_W_alike (a0 : Int32) (u : KS) : Option (Int32 × KS) := if a0 ≤ 95 then (if ((-96)) ≤ a0 then some (a0, u) else (ob (f_J_floorMod (a0 - ((-96))) 12 u) fun r3 u4 => some (((-96)) + r3, u4))) else (ob (f_J_floorMod (95 - a0) 12 u) fun r5 u6 => some (95 - r5, u6))
set_option maxRecDepth 100000 in
set_option maxHeartbeats 4000000 in
theorem c_W_alike (l : Launch) (D : va_G) (ad : Nat → Nat) (cA : Nat → ClassId) {a0 : Int32} {u u0 : KS} {r0 : Int32} (h : f_W_alike a0 u = some (r0, u0)) : g_M l y_W_alike w_W_alike { frames := 1, cells := 0, slots := 0, locals := 22 } D vwCl (k_T cA) (k_W ad cA u) [.int a0] (some (.int r0)) (k_W ad cA u0) := by
  refine g_ofW (cc := c0_W_alike) (maxL := 1) (ret := (some .int)) (by decide) rfl (Nat.le_of_ble_eq_true rfl) ?_
  intro p e s m below meth c A ls hx hb hr hml hown hts hlk hK hA hI hl
  have hts : ∀ w ∈ gW, w.before ([.int a0] : List Value).toArray s = true := fun w h => hts w (List.mem_cons_of_mem _ h)
  have hown : s.vm.findClass R_W = some m.cls := hown
  have hl : lv_has ls 1 [(0, .int a0)] := hl
  dsimp only [f_W_alike] at h
  refine lv_iload_n hx hb d_W_alike_0 rfl (lv_at hl 0 rfl) ?_
  refine lv_bipush (v := 95) hx hb d_W_alike_1 (by decide) ?_
  refine lv_icmp_le (tgt := 19) hx hb d_W_alike_3 rfl (fun hc1 => ?_) (fun hc1 => ?_)
  · rw [if_pos hc1] at h
    refine lv_iload_n hx hb d_W_alike_19 rfl (lv_at hl 0 rfl) ?_
    refine lv_bipush (v := (-96)) hx hb d_W_alike_20 (by decide) ?_
    refine lv_icmp_ge (tgt := 38) hx hb d_W_alike_22 rfl (fun hc2 => ?_) (fun hc2 => ?_)
    · rw [if_pos hc2] at h
      refine lv_iload_n hx hb d_W_alike_38 rfl (lv_at hl 0 rfl) ?_
      exact g_iret (Wd := k_W ad cA) hx hb hr hlk hK hI h d_W_alike_39
    · rw [if_neg hc2] at h
      refine lv_bipush (v := (-96)) hx hb d_W_alike_25 (by decide) ?_
      refine lv_iload_n hx hb d_W_alike_27 rfl (lv_at hl 0 rfl) ?_
      refine lv_bipush (v := (-96)) hx hb d_W_alike_28 (by decide) ?_
      refine lv_isub hx hb d_W_alike_30 ?_
      refine lv_bipush (v := 12) hx hb d_W_alike_31 (by decide) ?_
      obtain ⟨r3, u4, hc, h⟩ := ob_e h
      refine g_callS (As := [.int (a0 - ((-96))), .int 12]) (rest := [.int ((-96))]) (w' := k_W ad cA u4) (o := some (.int r3)) ⟨hx, hb, hml, hown, hts⟩ (c_J_floorMod l D ad cA hc) (va_cwS 2 hts gq_W_27 rfl rfl rfl (by decide +kernel) ⟨Nat.le_of_ble_eq_true rfl, Nat.le_of_ble_eq_true rfl⟩) hK hI hA rfl hl.1 rfl (Nat.le_of_ble_eq_true rfl) d_W_alike_33 ⟨Nat.zero_le _, Nat.zero_le _⟩ rfl (fun H locs hI => ?_)
      refine lv_iadd hx hb d_W_alike_36 ?_
      exact g_iret (Wd := k_W ad cA) hx hb hr hlk hK hI h d_W_alike_37
  · rw [if_neg hc1] at h
    refine lv_bipush (v := 95) hx hb d_W_alike_6 (by decide) ?_
    refine lv_bipush (v := 95) hx hb d_W_alike_8 (by decide) ?_
    refine lv_iload_n hx hb d_W_alike_10 rfl (lv_at hl 0 rfl) ?_
    refine lv_isub hx hb d_W_alike_11 ?_
    refine lv_bipush (v := 12) hx hb d_W_alike_12 (by decide) ?_
    obtain ⟨r5, u6, hc, h⟩ := ob_e h
    refine g_callS (As := [.int (95 - a0), .int 12]) (rest := [.int 95]) (w' := k_W ad cA u6) (o := some (.int r5)) ⟨hx, hb, hml, hown, hts⟩ (c_J_floorMod l D ad cA hc) (va_cwS 2 hts gq_W_27 rfl rfl rfl (by decide +kernel) ⟨Nat.le_of_ble_eq_true rfl, Nat.le_of_ble_eq_true rfl⟩) hK hI hA rfl hl.1 rfl (Nat.le_of_ble_eq_true rfl) d_W_alike_14 ⟨Nat.zero_le _, Nat.zero_le _⟩ rfl (fun H locs hI => ?_)
    refine lv_isub hx hb d_W_alike_17 ?_
    exact g_iret (Wd := k_W ad cA) hx hb hr hlk hK hI h d_W_alike_18
def f_W_has (a1 : Int32) (u : KS) : Option (Int32 × KS) := ob (f_W_alike a1 u) fun r1 u2 => lt_ (r1 - ((-96))) fun x3 => gd (inb (x3 / 64) 3) (if (lg_cmp ((((k_wd u2 (x3 / 64).toNatClampNeg).toUInt64 >>> ((x3 - x3 / 64 * 64).toInt64.toUInt64 &&& Int64.toUInt64 63)).toInt64) &&& 1) 0) = 0 then (gd (bz 0) (some (0, u2))) else (gd (bz 1) (some (1, u2))))
set_option maxRecDepth 100000 in
set_option maxHeartbeats 4000000 in
theorem c_W_has (l : Launch) (D : va_G) (ad : Nat → Nat) (cA : Nat → ClassId) {a1 : Int32} {u u0 : KS} {r0 : Int32} (h : f_W_has a1 u = some (r0, u0)) : g_M l y_W_has w_W_has { frames := 2, cells := 0, slots := 0, locals := 42 } D vwCl (k_T cA) (k_W ad cA u) [.ref (ad 14), .int a1] (some (.int r0)) (k_W ad cA u0) := by
  refine g_ofW (cc := c0_W_has) (maxL := 3) (ret := (some .boolean)) (by decide) rfl (Nat.le_of_ble_eq_true rfl) ?_
  intro p e s m below meth c A ls hx hb hr hml hown hts hlk hK hA hI hl
  have hts : ∀ w ∈ gW, w.before ([.ref (ad 14), .int a1] : List Value).toArray s = true := fun w h => hts w (List.mem_cons_of_mem _ h)
  have hown : s.vm.findClass R_W = some m.cls := hown
  have hl : lv_has ls 3 [(0, .ref (ad 14)), (1, .int a1)] := hl
  dsimp only [f_W_has] at h
  refine lv_iload_n hx hb d_W_has_0 rfl (lv_at hl 1 rfl) ?_
  obtain ⟨r1, u2, hc, h⟩ := ob_e h
  refine g_callS (As := [.int a1]) (rest := []) (w' := k_W ad cA u2) (o := some (.int r1)) ⟨hx, hb, hml, hown, hts⟩ (c_W_alike l D ad cA hc) (va_cwS 1 hts gq_W_23 rfl rfl rfl (by decide +kernel) ⟨Nat.le_of_ble_eq_true rfl, Nat.le_of_ble_eq_true rfl⟩) hK hI hA rfl hl.1 rfl (Nat.le_of_ble_eq_true rfl) d_W_has_1 ⟨Nat.zero_le _, Nat.zero_le _⟩ rfl (fun H locs hI => ?_)
  refine lv_bipush (v := (-96)) hx hb d_W_has_4 (by decide) ?_
  refine lv_isub hx hb d_W_has_6 ?_
  obtain ⟨x3, e_x3, h⟩ := lt_e h
  refine lv_istore_n (lv' := [(2, .int x3), (0, .ref (ad 14)), (1, .int a1)]) hx hb d_W_has_7 rfl hl (by decide) (by subst e_x3; rfl) (fun ls hl => ?_)
  refine lv_aload_n hx hb d_W_has_8 rfl (lv_at hl 1 rfl) ?_
  refine g_get (v := .ref (ad 15)) hx hb hts in_W hown hK hI 14 rfl rfl 0 (by decide) (hts _ wd_99) rfl d_W_has_9 ?_
  refine lv_iload_n hx hb d_W_has_12 rfl (lv_at hl 0 rfl) ?_
  refine lv_bipush (v := 64) hx hb d_W_has_13 (by decide) ?_
  refine lv_idiv hx hb d_W_has_15 (by decide) ?_
  obtain ⟨hg, h⟩ := gd_e h
  refine g_lald hx hb hK hI 15 10 rfl rfl hg d_W_has_16 ?_
  refine lv_iload_n hx hb d_W_has_17 rfl (lv_at hl 0 rfl) ?_
  refine lv_bipush (v := 64) hx hb d_W_has_18 (by decide) ?_
  refine lv_irem hx hb d_W_has_20 (by decide) ?_
  refine lv_lushr hx hb d_W_has_21 rfl ?_
  refine lv_lconst (v := 1) hx hb d_W_has_22 (by decide) ?_
  refine lv_land hx hb d_W_has_23 ?_
  refine lv_lconst (v := 0) hx hb d_W_has_24 (by decide) ?_
  refine W.lcmp hx hb d_W_has_25 ?_
  refine lv_if_eq (tgt := 33) hx hb d_W_has_26 rfl (fun hc4 => ?_) (fun hc4 => ?_)
  · rw [if_pos hc4] at h
    refine lv_iconst (v := 0) hx hb d_W_has_33 (by decide) ?_
    exact g_zret (Wd := k_W ad cA) hx hb hr hlk hK hI h d_W_has_34
  · rw [if_neg hc4] at h
    refine lv_iconst (v := 1) hx hb d_W_has_29 (by decide) ?_
    refine lv_goto (tgt := 34) hx hb d_W_has_30 rfl ?_
    exact g_zret (Wd := k_W ad cA) hx hb hr hlk hK hI h d_W_has_34
def f_L_holds (a1 : Int32) (u : KS) : Option (Int32 × KS) := ob (f_L_isNear a1 u) fun r1 u2 => if r1 = 0 then (gd (bz 0) (some (0, u2))) else (ob (f_W_has a1 u2) fun r4 u5 => if r4 = 0 then (gd (bz 0) (some (0, u5))) else (gd (bz 1) (some (1, u5))))
set_option maxRecDepth 100000 in
set_option maxHeartbeats 4000000 in
theorem c_L_holds (l : Launch) (D : va_G) (ad : Nat → Nat) (cA : Nat → ClassId) {a1 : Int32} {u u0 : KS} {r0 : Int32} (h : f_L_holds a1 u = some (r0, u0)) : g_M l y_L_holds w_L_holds { frames := 3, cells := 0, slots := 0, locals := 64 } D vwCl (k_T cA) (k_W ad cA u) [.ref (ad 0), .int a1] (some (.int r0)) (k_W ad cA u0) := by
  refine g_ofW (cc := c0_L_holds) (maxL := 2) (ret := (some .boolean)) (by decide) rfl (Nat.le_of_ble_eq_true rfl) ?_
  intro p e s m below meth c A ls hx hb hr hml hown hts hlk hK hA hI hl
  have hts : ∀ w ∈ gW, w.before ([.ref (ad 0), .int a1] : List Value).toArray s = true := fun w h => hts w (List.mem_cons_of_mem _ h)
  have hown : s.vm.findClass R_L = some m.cls := hown
  have hl : lv_has ls 2 [(0, .ref (ad 0)), (1, .int a1)] := hl
  dsimp only [f_L_holds] at h
  refine lv_iload_n hx hb d_L_holds_0 rfl (lv_at hl 1 rfl) ?_
  obtain ⟨r1, u2, hc, h⟩ := ob_e h
  refine g_callS (As := [.int a1]) (rest := []) (w' := k_W ad cA u2) (o := some (.int r1)) ⟨hx, hb, hml, hown, hts⟩ (c_L_isNear l D ad cA hc) (va_cwS 1 hts gq_L_79 rfl rfl rfl (by decide +kernel) ⟨Nat.le_of_ble_eq_true rfl, Nat.le_of_ble_eq_true rfl⟩) hK hI hA rfl hl.1 rfl (Nat.le_of_ble_eq_true rfl) d_L_holds_1 ⟨Nat.zero_le _, Nat.zero_le _⟩ rfl (fun H locs hI => ?_)
  refine lv_if_eq (tgt := 22) hx hb d_L_holds_4 rfl (fun hc3 => ?_) (fun hc3 => ?_)
  · rw [if_pos hc3] at h
    refine lv_iconst (v := 0) hx hb d_L_holds_22 (by decide) ?_
    exact g_zret (Wd := k_W ad cA) hx hb hr hlk hK hI h d_L_holds_23
  · rw [if_neg hc3] at h
    refine lv_aload_n hx hb d_L_holds_7 rfl (lv_at hl 0 rfl) ?_
    refine g_get (v := .ref (ad 14)) hx hb hts in_L hown hK hI 0 rfl rfl 3 (by decide) (hts _ wd_107) rfl d_L_holds_8 ?_
    refine lv_iload_n hx hb d_L_holds_11 rfl (lv_at hl 1 rfl) ?_
    obtain ⟨r4, u5, hc, h⟩ := ob_e h
    refine g_callV (As := [.int a1]) (rest := []) (w' := k_W ad cA u5) (o := some (.int r4)) ⟨hx, hb, hml, hown, hts⟩ (c_W_has l D ad cA hc) (cwV 1 hts gq_L_82 rfl rfl rfl (by decide +kernel) ⟨Nat.le_of_ble_eq_true rfl, Nat.le_of_ble_eq_true rfl⟩) hK hI hA 14 4 rfl rfl rfl hl.1 rfl (Nat.le_of_ble_eq_true rfl) d_L_holds_12 ⟨Nat.zero_le _, Nat.zero_le _⟩ rfl (fun H locs hI => ?_)
    refine lv_if_eq (tgt := 22) hx hb d_L_holds_15 rfl (fun hc6 => ?_) (fun hc6 => ?_)
    · rw [if_pos hc6] at h
      refine lv_iconst (v := 0) hx hb d_L_holds_22 (by decide) ?_
      exact g_zret (Wd := k_W ad cA) hx hb hr hlk hK hI h d_L_holds_23
    · rw [if_neg hc6] at h
      refine lv_iconst (v := 1) hx hb d_L_holds_18 (by decide) ?_
      refine lv_goto (tgt := 23) hx hb d_L_holds_19 rfl ?_
      exact g_zret (Wd := k_W ad cA) hx hb hr hlk hK hI h d_L_holds_23
def f_W_hasOne_L2 (n : Nat) : Int32 → KS → Option (Int32 × KS) := match n with
  | 0 => fun _ _ => none
  | n + 1 => fun v1 u => if 3 ≤ v1 then (gd (bz 0) (some (0, u))) else (gd (inb v1 3) (if (lg_cmp (k_wd u v1.toNatClampNeg) 0) = 0 then (lt_ (v1 + 1) fun x3 => f_W_hasOne_L2 n x3 u) else (gd (bz 1) (some (1, u)))))
def f_W_hasOne (u : KS) : Option (Int32 × KS) := f_W_hasOne_L2 4096 0 u
set_option maxRecDepth 100000 in
set_option maxHeartbeats 4000000 in
theorem c_W_hasOne (l : Launch) (D : va_G) (ad : Nat → Nat) (cA : Nat → ClassId) {u u0 : KS} {r0 : Int32} (h : f_W_hasOne u = some (r0, u0)) : g_M l y_W_hasOne w_W_hasOne { frames := 0, cells := 0, slots := 0, locals := 0 } D vwCl (k_T cA) (k_W ad cA u) [.ref (ad 14)] (some (.int r0)) (k_W ad cA u0) := by
  refine g_ofW (cc := c0_W_hasOne) (maxL := 2) (ret := (some .boolean)) (by decide) rfl (Nat.le_of_ble_eq_true rfl) ?_
  intro p e s m below meth c A ls hx hb hr hml hown hts hlk hK hA hI hl
  have hts : ∀ w ∈ gW, w.before ([.ref (ad 14)] : List Value).toArray s = true := fun w h => hts w (List.mem_cons_of_mem _ h)
  have hown : s.vm.findClass R_W = some m.cls := hown
  have hl : lv_has ls 2 [(0, .ref (ad 14))] := hl
  have w2 : ∀ (n : Nat) (v1 : Int32) (u : KS) (H : Heap) (locs : List Loc) (ls : Array Slot), lv_has ls 2 [(0, .ref (ad 14)), (1, .int v1)] → g_I D vwCl A s.heap H locs (k_W ad cA u) → f_W_hasOne_L2 n v1 u = some (r0, u0) → W p l e { frames := 0, cells := 0, slots := 0, locals := 0 } s m ([.ref (ad 14)] : List Value).toArray below meth c H locs 0 0 (MQ below (g_Q D vwCl (k_T cA) (k_W ad cA u0) A (some (.int r0))) ([.ref (ad 14)] : List Value).toArray s 0 0 A) (F0 m 2 ls []) := by
    intro  n
    induction n with
    | zero => intro v1 u H locs ls hl hI h; cases h
    | succ n ih =>
      intro v1 u H locs ls hl hI h
      dsimp only [f_W_hasOne_L2] at h
      refine lv_iload_n hx hb d_W_hasOne_2 rfl (lv_at hl 1 rfl) ?_
      refine lv_iconst (v := 3) hx hb d_W_hasOne_3 (by decide) ?_
      refine lv_icmp_ge (tgt := 26) hx hb d_W_hasOne_4 rfl (fun hc1 => ?_) (fun hc1 => ?_)
      · rw [if_pos hc1] at h
        refine lv_iconst (v := 0) hx hb d_W_hasOne_26 (by decide) ?_
        exact g_zret (Wd := k_W ad cA) hx hb hr hlk hK hI h d_W_hasOne_27
      · rw [if_neg hc1] at h
        refine lv_aload_n hx hb d_W_hasOne_7 rfl (lv_at hl 0 rfl) ?_
        refine g_get (v := .ref (ad 15)) hx hb hts in_W hown hK hI 14 rfl rfl 0 (by decide) (hts _ wd_99) rfl d_W_hasOne_8 ?_
        refine lv_iload_n hx hb d_W_hasOne_11 rfl (lv_at hl 1 rfl) ?_
        obtain ⟨hg, h⟩ := gd_e h
        refine g_lald hx hb hK hI 15 10 rfl rfl hg d_W_hasOne_12 ?_
        refine lv_lconst (v := 0) hx hb d_W_hasOne_13 (by decide) ?_
        refine W.lcmp hx hb d_W_hasOne_14 ?_
        refine lv_if_eq (tgt := 20) hx hb d_W_hasOne_15 rfl (fun hc2 => ?_) (fun hc2 => ?_)
        · rw [if_pos hc2] at h
          obtain ⟨x3, e_x3, h⟩ := lt_e h
          refine lv_iinc (v := x3) (k := 1) hx hb d_W_hasOne_20 hl rfl (by subst e_x3; rfl) (by decide) rfl (fun ls hl => ?_)
          refine lv_goto (tgt := 2) hx hb d_W_hasOne_23 rfl ?_
          exact ih x3 u _ _ _ (lv_sub hl [1, 0] rfl) hI h
        · rw [if_neg hc2] at h
          refine lv_iconst (v := 1) hx hb d_W_hasOne_18 (by decide) ?_
          exact g_zret (Wd := k_W ad cA) hx hb hr hlk hK hI h d_W_hasOne_19
  dsimp only [f_W_hasOne] at h
  refine lv_iconst (v := 0) hx hb d_W_hasOne_0 (by decide) ?_
  refine lv_istore_n (lv' := [(1, .int 0), (0, .ref (ad 14))]) hx hb d_W_hasOne_1 rfl hl (by decide) rfl (fun ls hl => ?_)
  exact w2 4096 0 u _ _ _ (lv_sub hl [1, 0] rfl) hI h
