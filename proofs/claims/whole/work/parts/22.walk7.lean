def f_M_readClaims_J314 (k49 : Int32 → Int32 → Int32 → Int32 → MS → Option (Unit × MS)) (k213 : Int32 → Int32 → Int32 → Int32 → MS → Option (Unit × MS)) (v1 : Int32) (v2 : Int32) (v3 : Int32) (v10 : Int32) (u : MS) : Option (Unit × MS) := if v10 = 0 then k213 v1 v2 v3 v10 u else (lt_ (v1 - 1) fun x50 => k213 x50 v2 v3 v10 u)
def f_M_readClaims_J250 (k49 : Int32 → Int32 → Int32 → Int32 → MS → Option (Unit × MS)) (k213 : Int32 → Int32 → Int32 → Int32 → MS → Option (Unit × MS)) (v1 : Int32) (v2 : Int32) (v3 : Int32) (t0 : Int32) (u : MS) : Option (Unit × MS) := gd (inb v1 21) (lt_ (m_op u v1.toNatClampNeg) fun x43 => if t0 = 0 then f_M_readClaims_J314 k49 k213 v1 v2 v3 t0 u else (gd (inb x43 20) (if (m_nk u x43.toNatClampNeg) < 4 then f_M_readClaims_J314 k49 k213 v1 v2 v3 t0 u else (gd (inb x43 20) (gd (inb x43 20) (gd (inb (m_na u x43.toNatClampNeg) 3) (gd (inb (m_na u x43.toNatClampNeg) 3) (lt_ (m_p_he (upd (m_he u) (m_na u x43.toNatClampNeg).toNatClampNeg ((m_he u (m_na u x43.toNatClampNeg).toNatClampNeg) - 1)) u) fun u46 => gd (inb x43 20) (lt_ (m_no u46 x43.toNatClampNeg) fun x47 => lt_ (v3 - 1) fun x48 => f_M_readClaims_J314 k49 k213 v1 x47 x48 t0 u46)))))))))
def f_M_readClaims_J330 (k49 : Int32 → Int32 → Int32 → Int32 → MS → Option (Unit × MS)) (v1 : Int32) (v2 : Int32) (v3 : Int32) (u : MS) : Option (Unit × MS) := if v1 = 0 then k49 v1 v2 v3 1 u else k49 v1 v2 v3 0 u
def f_M_readClaims_L213 (k49 : Int32 → Int32 → Int32 → Int32 → MS → Option (Unit × MS)) (n : Nat) : Int32 → Int32 → Int32 → Int32 → MS → Option (Unit × MS) := match n with
  | 0 => fun _ _ _ _ _ => none
  | n + 1 => fun v1 v2 v3 v10 u => if v10 = 0 then f_M_readClaims_J330 k49 v1 v2 v3 u else (if v1 ≤ 0 then f_M_readClaims_J330 k49 v1 v2 v3 u else (gd (inb v1 21) (gd (inb v1 21) (lt_ (m_p_le (upd (m_le u) v1.toNatClampNeg ((m_le u v1.toNatClampNeg) - 1)) u) fun u41 => gd (inb v1 21) (if (m_le u41 v1.toNatClampNeg) = 0 then f_M_readClaims_J250 k49 (f_M_readClaims_L213 k49 n) v1 v2 v3 1 u41 else f_M_readClaims_J250 k49 (f_M_readClaims_L213 k49 n) v1 v2 v3 0 u41)))))
def f_M_readClaims_J550 (k49 : Int32 → Int32 → Int32 → Int32 → MS → Option (Unit × MS)) (v1 : Int32) (v3 : Int32) (v4 : Int32) (v9 : Int32) (t0 : Int32) (u : MS) : Option (Unit × MS) := gd (bz t0) (lt_ (m_p_dp t0 u) fun u74 => lt_ (v3 + 1) fun x75 => k49 v1 v9 x75 v4 u74)
def f_M_readClaims_J496 (k49 : Int32 → Int32 → Int32 → Int32 → MS → Option (Unit × MS)) (v1 : Int32) (v3 : Int32) (v4 : Int32) (v9 : Int32) (t0 : Int32) (t1 : Int32) (u : MS) : Option (Unit × MS) := gd (inb t1 20) (lt_ (m_p_na (upd (m_na u) t1.toNatClampNeg t0) u) fun u69 => lt_ (m_p_at ((m_at u69) + 1) u69) fun u70 => gd (inb v9 20) (gd (inb v9 20) (gd (inb (m_na u70 v9.toNatClampNeg) 3) (gd (inb (m_na u70 v9.toNatClampNeg) 3) (lt_ (m_p_he (upd (m_he u70) (m_na u70 v9.toNatClampNeg).toNatClampNeg ((m_he u70 (m_na u70 v9.toNatClampNeg).toNatClampNeg) + 1)) u70) fun u71 => if (m_dp u71) = 0 then (if v3 ≤ 0 then f_M_readClaims_J550 k49 v1 v3 v4 v9 0 u71 else f_M_readClaims_J550 k49 v1 v3 v4 v9 1 u71) else f_M_readClaims_J550 k49 v1 v3 v4 v9 1 u71)))))
def f_M_readClaims_J472 (k49 : Int32 → Int32 → Int32 → Int32 → MS → Option (Unit × MS)) (v1 : Int32) (v3 : Int32) (v4 : Int32) (v9 : Int32) (u : MS) : Option (Unit × MS) := if 0 ≤ (m_fa u) then f_M_readClaims_J496 k49 v1 v3 v4 v9 0 v9 u else (ob (f_M_look u) fun r67 u68 => f_M_readClaims_J496 k49 v1 v3 v4 v9 (r67 - 120) v9 u68)
def f_M_readClaims_J448 (k49 : Int32 → Int32 → Int32 → Int32 → MS → Option (Unit × MS)) (v1 : Int32) (v2 : Int32) (v3 : Int32) (v4 : Int32) (v7 : Int32) (v9 : Int32) (t0 : Int32) (t1 : Int32) (u : MS) : Option (Unit × MS) := gd (inb t1 21) (lt_ (m_p_le (upd (m_le u) t1.toNatClampNeg t0) u) fun u57 => if v7 = 0 then k49 v1 v2 v3 v4 u57 else (ob (f_M_look u57) fun r59 u60 => ob (f_M_in r59 120 122 u60) fun r61 u62 => if r61 = 0 then (ob (f_M_fail u62) fun r64 u65 => f_M_readClaims_J472 k49 v1 v3 v4 v9 u65) else f_M_readClaims_J472 k49 v1 v3 v4 v9 u62))
def f_M_readClaims_J404 (k49 : Int32 → Int32 → Int32 → Int32 → MS → Option (Unit × MS)) (v1 : Int32) (v2 : Int32) (v3 : Int32) (v4 : Int32) (v7 : Int32) (v9 : Int32) (t0 : Int32) (t1 : Int32) (u : MS) : Option (Unit × MS) := gd (inb t1 20) (lt_ (m_p_nk (upd (m_nk u) t1.toNatClampNeg t0) u) fun u52 => lt_ (m_p_at ((m_at u52) + 1) u52) fun u53 => lt_ (v1 + 1) fun x54 => gd (inb x54 21) (lt_ (m_p_op (upd (m_op u53) x54.toNatClampNeg v9) u53) fun u55 => gd (inb v9 20) (if 3 ≤ (m_nk u55 v9.toNatClampNeg) then f_M_readClaims_J448 k49 x54 v2 v3 v4 v7 v9 1 x54 u55 else f_M_readClaims_J448 k49 x54 v2 v3 v4 v7 v9 2 x54 u55)))
def f_M_readClaims_J150 (k49 : Int32 → Int32 → Int32 → Int32 → MS → Option (Unit × MS)) (v1 : Int32) (v2 : Int32) (v3 : Int32) (v4 : Int32) (v5 : Int32) (v6 : Int32) (v7 : Int32) (t0 : Int32) (u : MS) : Option (Unit × MS) := if t0 = 0 then (ob (f_M_fail u) fun r23 u24 => k49 v1 v2 v3 v4 u24) else (if (m_re u) = 20 then (ob (f_M_fail u) fun r37 u38 => k49 v1 v2 v3 v4 u38) else (lt_ (m_re u) fun x26 => lt_ (m_p_re ((m_re u) + 1) u) fun u27 => gd (inb x26 20) (lt_ (m_p_no (upd (m_no u27) x26.toNatClampNeg v2) u27) fun u28 => if v5 = 91 then (ob (f_M_readBracket x26 u28) fun r35 u36 => f_M_readClaims_L213 k49 4096 v1 v2 v3 1 u36) else (if v5 = 38 then f_M_readClaims_J404 k49 v1 v2 v3 v4 v7 x26 0 x26 u28 else (if v5 = 47 then f_M_readClaims_J404 k49 v1 v2 v3 v4 v7 x26 1 x26 u28 else (if v5 = 62 then f_M_readClaims_J404 k49 v1 v2 v3 v4 v7 x26 2 x26 u28 else (if v5 = 33 then f_M_readClaims_J404 k49 v1 v2 v3 v4 v7 x26 3 x26 u28 else (if v6 = 0 then f_M_readClaims_J404 k49 v1 v2 v3 v4 v7 x26 4 x26 u28 else f_M_readClaims_J404 k49 v1 v2 v3 v4 v7 x26 5 x26 u28))))))))
def f_M_readClaims_J98 (k49 : Int32 → Int32 → Int32 → Int32 → MS → Option (Unit × MS)) (v1 : Int32) (v2 : Int32) (v3 : Int32) (v4 : Int32) (v5 : Int32) (v6 : Int32) (t0 : Int32) (u : MS) : Option (Unit × MS) := if v5 = 38 then f_M_readClaims_J150 k49 v1 v2 v3 v4 v5 v6 t0 1 u else (if v5 = 47 then f_M_readClaims_J150 k49 v1 v2 v3 v4 v5 v6 t0 1 u else (if v5 = 62 then f_M_readClaims_J150 k49 v1 v2 v3 v4 v5 v6 t0 1 u else (if v5 = 33 then f_M_readClaims_J150 k49 v1 v2 v3 v4 v5 v6 t0 1 u else (if v5 = 91 then f_M_readClaims_J150 k49 v1 v2 v3 v4 v5 v6 t0 1 u else (if t0 = 0 then f_M_readClaims_J150 k49 v1 v2 v3 v4 v5 v6 t0 0 u else (if 2 ≤ v3 then f_M_readClaims_J150 k49 v1 v2 v3 v4 v5 v6 t0 0 u else f_M_readClaims_J150 k49 v1 v2 v3 v4 v5 v6 t0 1 u))))))
def f_M_readClaims_J79 (k49 : Int32 → Int32 → Int32 → Int32 → MS → Option (Unit × MS)) (v1 : Int32) (v2 : Int32) (v3 : Int32) (v4 : Int32) (v5 : Int32) (t0 : Int32) (u : MS) : Option (Unit × MS) := if t0 = 0 then (if v5 = 69 then f_M_readClaims_J98 k49 v1 v2 v3 v4 v5 t0 1 u else f_M_readClaims_J98 k49 v1 v2 v3 v4 v5 t0 0 u) else f_M_readClaims_J98 k49 v1 v2 v3 v4 v5 t0 1 u
def f_M_readClaims_L49 (n : Nat) : Int32 → Int32 → Int32 → Int32 → MS → Option (Unit × MS) := match n with
  | 0 => fun _ _ _ _ _ => none
  | n + 1 => fun v1 v2 v3 v4 u => if 0 ≤ (m_fa u) then some ((), u) else (if v4 = 0 then (ob (f_M_look u) fun r10 u11 => if r10 = 65 then f_M_readClaims_J79 (f_M_readClaims_L49 n) v1 v2 v3 v4 r10 1 u11 else f_M_readClaims_J79 (f_M_readClaims_L49 n) v1 v2 v3 v4 r10 0 u11) else some ((), u))
def f_M_readClaims_L22 (n : Nat) : Int32 → MS → Option (Unit × MS) := match n with
  | 0 => fun _ _ => none
  | n + 1 => fun v1 u => if 3 ≤ v1 then f_M_readClaims_L49 4096 0 ((-1)) 0 0 u else (gd (inb v1 3) (lt_ (m_p_he (upd (m_he u) v1.toNatClampNeg 0) u) fun u6 => lt_ (v1 + 1) fun x7 => f_M_readClaims_L22 n x7 u6))
def f_M_readClaims (u : MS) : Option (Unit × MS) := lt_ (m_p_re 0 u) fun u1 => lt_ (m_p_rb 0 u1) fun u2 => lt_ (m_p_rf 0 u2) fun u3 => lt_ (m_p_dp 0 u3) fun u4 => f_M_readClaims_L22 4096 0 u4
set_option maxRecDepth 100000 in
set_option maxHeartbeats 4000000 in
theorem c_M_readClaims (l : Launch) (D : va_G) (ad : Nat → Nat) (cA : Nat → ClassId) {u u0 : MS} {r0 : Unit} (h : f_M_readClaims u = some (r0, u0)) : g_M l y_M_readClaims w_M_readClaims { frames := 6, cells := 0, slots := 0, locals := 136 } D vwCl (m_T cA) (m_W ad cA u) [.ref (ad 0)] none (m_W ad cA u0) := by
  refine g_ofW (cc := c0_M_readClaims) (maxL := 12) (ret := none) (by decide) rfl (Nat.le_of_ble_eq_true rfl) ?_
  intro p e s m below meth c A ls hx hb hr hml hown hts hlk hK hA hI hl
  have hts : ∀ w ∈ gW, w.before ([.ref (ad 0)] : List Value).toArray s = true := fun w h => hts w (List.mem_cons_of_mem _ h)
  have hown : s.vm.findClass R_M = some m.cls := hown
  have hl : lv_has ls 12 [(0, .ref (ad 0))] := hl
  have w314 : ∀ (k49 : Int32 → Int32 → Int32 → Int32 → MS → Option (Unit × MS)) (hk49 : ∀ (v1 : Int32) (v2 : Int32) (v3 : Int32) (v4 : Int32) (u : MS) (H : Heap) (locs : List Loc) (ls : Array Slot), lv_has ls 12 [(0, .ref (ad 0)), (1, .int v1), (2, .int v2), (3, .int v3), (4, .int v4)] → g_I D vwCl A s.heap H locs (m_W ad cA u) → k49 v1 v2 v3 v4 u = some (r0, u0) → W p l e { frames := 6, cells := 0, slots := 0, locals := 136 } s m ([.ref (ad 0)] : List Value).toArray below meth c H locs 0 0 (MQ below (g_Q D vwCl (m_T cA) (m_W ad cA u0) A none) ([.ref (ad 0)] : List Value).toArray s 0 0 A) (F0 m 49 ls [])) (k213 : Int32 → Int32 → Int32 → Int32 → MS → Option (Unit × MS)) (hk213 : ∀ (v1 : Int32) (v2 : Int32) (v3 : Int32) (v10 : Int32) (u : MS) (H : Heap) (locs : List Loc) (ls : Array Slot), lv_has ls 12 [(0, .ref (ad 0)), (1, .int v1), (2, .int v2), (3, .int v3), (10, .int v10)] → g_I D vwCl A s.heap H locs (m_W ad cA u) → k213 v1 v2 v3 v10 u = some (r0, u0) → W p l e { frames := 6, cells := 0, slots := 0, locals := 136 } s m ([.ref (ad 0)] : List Value).toArray below meth c H locs 0 0 (MQ below (g_Q D vwCl (m_T cA) (m_W ad cA u0) A none) ([.ref (ad 0)] : List Value).toArray s 0 0 A) (F0 m 213 ls [])) (v1 : Int32) (v2 : Int32) (v3 : Int32) (v10 : Int32) (u : MS) (H : Heap) (locs : List Loc) (ls : Array Slot), lv_has ls 12 [(0, .ref (ad 0)), (1, .int v1), (2, .int v2), (3, .int v3), (10, .int v10)] → g_I D vwCl A s.heap H locs (m_W ad cA u) → f_M_readClaims_J314 k49 k213 v1 v2 v3 v10 u = some (r0, u0) → W p l e { frames := 6, cells := 0, slots := 0, locals := 136 } s m ([.ref (ad 0)] : List Value).toArray below meth c H locs 0 0 (MQ below (g_Q D vwCl (m_T cA) (m_W ad cA u0) A none) ([.ref (ad 0)] : List Value).toArray s 0 0 A) (F0 m 314 ls []) := by
    intro k49 hk49 k213 hk213 v1 v2 v3 v10 u H locs ls hl hI h
    dsimp only [f_M_readClaims_J314] at h
    refine lv_iload hx hb d_M_readClaims_314 (lv_at hl 4 rfl) ?_
    refine lv_if_eq (tgt := 325) hx hb d_M_readClaims_316 rfl (fun hc49 => ?_) (fun hc49 => ?_)
    · rw [if_pos hc49] at h
      refine lv_iload_n hx hb d_M_readClaims_325 rfl (lv_at hl 1 rfl) ?_
      refine lv_istore_n (lv' := [(1, .int v1), (0, .ref (ad 0)), (2, .int v2), (3, .int v3), (10, .int v10)]) hx hb d_M_readClaims_326 rfl hl (by decide) rfl (fun ls hl => ?_)
      refine lv_goto (tgt := 213) hx hb d_M_readClaims_327 rfl ?_
      exact hk213 v1 v2 v3 v10 u _ _ _ (lv_sub hl [1, 0, 2, 3, 4] rfl) hI h
    · rw [if_neg hc49] at h
      refine lv_iload_n hx hb d_M_readClaims_319 rfl (lv_at hl 1 rfl) ?_
      refine lv_iconst (v := 1) hx hb d_M_readClaims_320 (by decide) ?_
      refine lv_isub hx hb d_M_readClaims_321 ?_
      refine lv_goto (tgt := 326) hx hb d_M_readClaims_322 rfl ?_
      obtain ⟨x50, e_x50, h⟩ := lt_e h
      refine lv_istore_n (lv' := [(1, .int x50), (0, .ref (ad 0)), (2, .int v2), (3, .int v3), (10, .int v10)]) hx hb d_M_readClaims_326 rfl hl (by decide) (by subst e_x50; rfl) (fun ls hl => ?_)
      refine lv_goto (tgt := 213) hx hb d_M_readClaims_327 rfl ?_
      exact hk213 x50 v2 v3 v10 u _ _ _ (lv_sub hl [1, 0, 2, 3, 4] rfl) hI h
  have w250 : ∀ (k49 : Int32 → Int32 → Int32 → Int32 → MS → Option (Unit × MS)) (hk49 : ∀ (v1 : Int32) (v2 : Int32) (v3 : Int32) (v4 : Int32) (u : MS) (H : Heap) (locs : List Loc) (ls : Array Slot), lv_has ls 12 [(0, .ref (ad 0)), (1, .int v1), (2, .int v2), (3, .int v3), (4, .int v4)] → g_I D vwCl A s.heap H locs (m_W ad cA u) → k49 v1 v2 v3 v4 u = some (r0, u0) → W p l e { frames := 6, cells := 0, slots := 0, locals := 136 } s m ([.ref (ad 0)] : List Value).toArray below meth c H locs 0 0 (MQ below (g_Q D vwCl (m_T cA) (m_W ad cA u0) A none) ([.ref (ad 0)] : List Value).toArray s 0 0 A) (F0 m 49 ls [])) (k213 : Int32 → Int32 → Int32 → Int32 → MS → Option (Unit × MS)) (hk213 : ∀ (v1 : Int32) (v2 : Int32) (v3 : Int32) (v10 : Int32) (u : MS) (H : Heap) (locs : List Loc) (ls : Array Slot), lv_has ls 12 [(0, .ref (ad 0)), (1, .int v1), (2, .int v2), (3, .int v3), (10, .int v10)] → g_I D vwCl A s.heap H locs (m_W ad cA u) → k213 v1 v2 v3 v10 u = some (r0, u0) → W p l e { frames := 6, cells := 0, slots := 0, locals := 136 } s m ([.ref (ad 0)] : List Value).toArray below meth c H locs 0 0 (MQ below (g_Q D vwCl (m_T cA) (m_W ad cA u0) A none) ([.ref (ad 0)] : List Value).toArray s 0 0 A) (F0 m 213 ls [])) (v1 : Int32) (v2 : Int32) (v3 : Int32) (t0 : Int32) (u : MS) (H : Heap) (locs : List Loc) (ls : Array Slot), lv_has ls 12 [(0, .ref (ad 0)), (1, .int v1), (2, .int v2), (3, .int v3)] → g_I D vwCl A s.heap H locs (m_W ad cA u) → f_M_readClaims_J250 k49 k213 v1 v2 v3 t0 u = some (r0, u0) → W p l e { frames := 6, cells := 0, slots := 0, locals := 136 } s m ([.ref (ad 0)] : List Value).toArray below meth c H locs 0 0 (MQ below (g_Q D vwCl (m_T cA) (m_W ad cA u0) A none) ([.ref (ad 0)] : List Value).toArray s 0 0 A) (F0 m 250 ls [.int t0]) := by
    intro k49 hk49 k213 hk213 v1 v2 v3 t0 u H locs ls hl hI h
    dsimp only [f_M_readClaims_J250] at h
    refine lv_istore (lv' := [(10, .int t0), (0, .ref (ad 0)), (1, .int v1), (2, .int v2), (3, .int v3)]) hx hb d_M_readClaims_250 hl (by decide) rfl (fun ls hl => ?_)
    refine lv_aload_n hx hb d_M_readClaims_252 rfl (lv_at hl 1 rfl) ?_
    refine g_get (v := .ref (ad 11)) hx hb hts in_M hown hK hI 0 rfl rfl 22 (by decide) (hts _ wd_414) rfl d_M_readClaims_253 ?_
    refine lv_iload_n hx hb d_M_readClaims_256 rfl (lv_at hl 2 rfl) ?_
    obtain ⟨hg, h⟩ := gd_e h
    refine g_iald hx hb hK hI 11 10 rfl rfl hg d_M_readClaims_257 ?_
    obtain ⟨x43, e_x43, h⟩ := lt_e h
    refine lv_istore (lv' := [(11, .int x43), (10, .int t0), (0, .ref (ad 0)), (1, .int v1), (2, .int v2), (3, .int v3)]) hx hb d_M_readClaims_258 hl (by decide) (by subst e_x43; rfl) (fun ls hl => ?_)
    refine lv_iload hx hb d_M_readClaims_260 (lv_at hl 1 rfl) ?_
    refine lv_if_eq (tgt := 314) hx hb d_M_readClaims_262 rfl (fun hc44 => ?_) (fun hc44 => ?_)
    · rw [if_pos hc44] at h
      exact w314 k49 hk49 k213 hk213 v1 v2 v3 t0 u _ _ _ (lv_sub hl [2, 3, 4, 5, 1] rfl) hI h
    · rw [if_neg hc44] at h
      refine lv_aload_n hx hb d_M_readClaims_265 rfl (lv_at hl 2 rfl) ?_
      refine g_get (v := .ref (ad 6)) hx hb hts in_M hown hK hI 0 rfl rfl 17 (by decide) (hts _ wd_409) rfl d_M_readClaims_266 ?_
      refine lv_iload hx hb d_M_readClaims_269 (lv_at hl 0 rfl) ?_
      obtain ⟨hg, h⟩ := gd_e h
      refine g_iald hx hb hK hI 6 5 rfl rfl hg d_M_readClaims_271 ?_
      refine lv_iconst (v := 4) hx hb d_M_readClaims_272 (by decide) ?_
      refine lv_icmp_lt (tgt := 314) hx hb d_M_readClaims_273 rfl (fun hc45 => ?_) (fun hc45 => ?_)
      · rw [if_pos hc45] at h
        exact w314 k49 hk49 k213 hk213 v1 v2 v3 t0 u _ _ _ (lv_sub hl [2, 3, 4, 5, 1] rfl) hI h
      · rw [if_neg hc45] at h
        refine lv_aload_n hx hb d_M_readClaims_276 rfl (lv_at hl 2 rfl) ?_
        refine g_get (v := .ref (ad 10)) hx hb hts in_M hown hK hI 0 rfl rfl 21 (by decide) (hts _ wd_413) rfl d_M_readClaims_277 ?_
        refine lv_aload_n hx hb d_M_readClaims_280 rfl (lv_at hl 2 rfl) ?_
        refine g_get (v := .ref (ad 8)) hx hb hts in_M hown hK hI 0 rfl rfl 19 (by decide) (hts _ wd_411) rfl d_M_readClaims_281 ?_
        refine lv_iload hx hb d_M_readClaims_284 (lv_at hl 0 rfl) ?_
        obtain ⟨hg, h⟩ := gd_e h
        refine g_iald hx hb hK hI 8 7 rfl rfl hg d_M_readClaims_286 ?_
        refine lv_aload_n hx hb d_M_readClaims_287 rfl (lv_at hl 2 rfl) ?_
        refine g_get (v := .ref (ad 10)) hx hb hts in_M hown hK hI 0 rfl rfl 21 (by decide) (hts _ wd_413) rfl d_M_readClaims_288 ?_
        refine lv_aload_n hx hb d_M_readClaims_291 rfl (lv_at hl 2 rfl) ?_
        refine g_get (v := .ref (ad 8)) hx hb hts in_M hown hK hI 0 rfl rfl 19 (by decide) (hts _ wd_411) rfl d_M_readClaims_292 ?_
        refine lv_iload hx hb d_M_readClaims_295 (lv_at hl 0 rfl) ?_
        obtain ⟨hg, h⟩ := gd_e h
        refine g_iald hx hb hK hI 8 7 rfl rfl hg d_M_readClaims_297 ?_
        obtain ⟨hg, h⟩ := gd_e h
        refine g_iald hx hb hK hI 10 9 rfl rfl hg d_M_readClaims_298 ?_
        refine lv_iconst (v := 1) hx hb d_M_readClaims_299 (by decide) ?_
        refine lv_isub hx hb d_M_readClaims_300 ?_
        obtain ⟨hg, h⟩ := gd_e h
        obtain ⟨u46, e_u46, h⟩ := lt_e h
        refine g_iast (w' := m_W ad cA u46) hx hb hK hI 10 9 rfl rfl hg d_M_readClaims_301 (by subst e_u46; rfl) (fun H locs hI => ?_)
        refine lv_aload_n hx hb d_M_readClaims_302 rfl (lv_at hl 2 rfl) ?_
        refine g_get (v := .ref (ad 7)) hx hb hts in_M hown hK hI 0 rfl rfl 18 (by decide) (hts _ wd_410) rfl d_M_readClaims_303 ?_
        refine lv_iload hx hb d_M_readClaims_306 (lv_at hl 0 rfl) ?_
        obtain ⟨hg, h⟩ := gd_e h
        refine g_iald hx hb hK hI 7 6 rfl rfl hg d_M_readClaims_308 ?_
        obtain ⟨x47, e_x47, h⟩ := lt_e h
        refine lv_istore_n (lv' := [(2, .int x47), (11, .int x43), (10, .int t0), (0, .ref (ad 0)), (1, .int v1), (3, .int v3)]) hx hb d_M_readClaims_309 rfl hl (by decide) (by subst e_x47; rfl) (fun ls hl => ?_)
        refine lv_iload_n hx hb d_M_readClaims_310 rfl (lv_at hl 5 rfl) ?_
        refine lv_iconst (v := 1) hx hb d_M_readClaims_311 (by decide) ?_
        refine lv_isub hx hb d_M_readClaims_312 ?_
        obtain ⟨x48, e_x48, h⟩ := lt_e h
        refine lv_istore_n (lv' := [(3, .int x48), (2, .int x47), (11, .int x43), (10, .int t0), (0, .ref (ad 0)), (1, .int v1)]) hx hb d_M_readClaims_313 rfl hl (by decide) (by subst e_x48; rfl) (fun ls hl => ?_)
        exact w314 k49 hk49 k213 hk213 v1 x47 x48 t0 u46 _ _ _ (lv_sub hl [4, 5, 1, 0, 3] rfl) hI h
  have w330 : ∀ (k49 : Int32 → Int32 → Int32 → Int32 → MS → Option (Unit × MS)) (hk49 : ∀ (v1 : Int32) (v2 : Int32) (v3 : Int32) (v4 : Int32) (u : MS) (H : Heap) (locs : List Loc) (ls : Array Slot), lv_has ls 12 [(0, .ref (ad 0)), (1, .int v1), (2, .int v2), (3, .int v3), (4, .int v4)] → g_I D vwCl A s.heap H locs (m_W ad cA u) → k49 v1 v2 v3 v4 u = some (r0, u0) → W p l e { frames := 6, cells := 0, slots := 0, locals := 136 } s m ([.ref (ad 0)] : List Value).toArray below meth c H locs 0 0 (MQ below (g_Q D vwCl (m_T cA) (m_W ad cA u0) A none) ([.ref (ad 0)] : List Value).toArray s 0 0 A) (F0 m 49 ls [])) (v1 : Int32) (v2 : Int32) (v3 : Int32) (u : MS) (H : Heap) (locs : List Loc) (ls : Array Slot), lv_has ls 12 [(0, .ref (ad 0)), (1, .int v1), (2, .int v2), (3, .int v3)] → g_I D vwCl A s.heap H locs (m_W ad cA u) → f_M_readClaims_J330 k49 v1 v2 v3 u = some (r0, u0) → W p l e { frames := 6, cells := 0, slots := 0, locals := 136 } s m ([.ref (ad 0)] : List Value).toArray below meth c H locs 0 0 (MQ below (g_Q D vwCl (m_T cA) (m_W ad cA u0) A none) ([.ref (ad 0)] : List Value).toArray s 0 0 A) (F0 m 330 ls []) := by
    intro k49 hk49 v1 v2 v3 u H locs ls hl hI h
    dsimp only [f_M_readClaims_J330] at h
    refine lv_iload_n hx hb d_M_readClaims_330 rfl (lv_at hl 1 rfl) ?_
    refine lv_if_ne (tgt := 338) hx hb d_M_readClaims_331 rfl (fun hc51 => ?_) (fun hc51 => ?_)
    · rw [if_neg hc51] at h
      refine lv_iconst (v := 0) hx hb d_M_readClaims_338 (by decide) ?_
      refine lv_istore (lv' := [(4, .int 0), (0, .ref (ad 0)), (1, .int v1), (2, .int v2), (3, .int v3)]) hx hb d_M_readClaims_339 hl (by decide) rfl (fun ls hl => ?_)
      refine lv_goto (tgt := 560) hx hb d_M_readClaims_341 rfl ?_
      refine lv_goto (tgt := 49) hx hb d_M_readClaims_560 rfl ?_
      exact hk49 v1 v2 v3 0 u _ _ _ (lv_sub hl [1, 2, 3, 4, 0] rfl) hI h
    · rw [if_pos hc51] at h
      refine lv_iconst (v := 1) hx hb d_M_readClaims_334 (by decide) ?_
      refine lv_goto (tgt := 339) hx hb d_M_readClaims_335 rfl ?_
      refine lv_istore (lv' := [(4, .int 1), (0, .ref (ad 0)), (1, .int v1), (2, .int v2), (3, .int v3)]) hx hb d_M_readClaims_339 hl (by decide) rfl (fun ls hl => ?_)
      refine lv_goto (tgt := 560) hx hb d_M_readClaims_341 rfl ?_
      refine lv_goto (tgt := 49) hx hb d_M_readClaims_560 rfl ?_
      exact hk49 v1 v2 v3 1 u _ _ _ (lv_sub hl [1, 2, 3, 4, 0] rfl) hI h
  have w213 : ∀ (k49 : Int32 → Int32 → Int32 → Int32 → MS → Option (Unit × MS)) (hk49 : ∀ (v1 : Int32) (v2 : Int32) (v3 : Int32) (v4 : Int32) (u : MS) (H : Heap) (locs : List Loc) (ls : Array Slot), lv_has ls 12 [(0, .ref (ad 0)), (1, .int v1), (2, .int v2), (3, .int v3), (4, .int v4)] → g_I D vwCl A s.heap H locs (m_W ad cA u) → k49 v1 v2 v3 v4 u = some (r0, u0) → W p l e { frames := 6, cells := 0, slots := 0, locals := 136 } s m ([.ref (ad 0)] : List Value).toArray below meth c H locs 0 0 (MQ below (g_Q D vwCl (m_T cA) (m_W ad cA u0) A none) ([.ref (ad 0)] : List Value).toArray s 0 0 A) (F0 m 49 ls [])) (n : Nat) (v1 : Int32) (v2 : Int32) (v3 : Int32) (v10 : Int32) (u : MS) (H : Heap) (locs : List Loc) (ls : Array Slot), lv_has ls 12 [(0, .ref (ad 0)), (1, .int v1), (2, .int v2), (3, .int v3), (10, .int v10)] → g_I D vwCl A s.heap H locs (m_W ad cA u) → f_M_readClaims_L213 k49 n v1 v2 v3 v10 u = some (r0, u0) → W p l e { frames := 6, cells := 0, slots := 0, locals := 136 } s m ([.ref (ad 0)] : List Value).toArray below meth c H locs 0 0 (MQ below (g_Q D vwCl (m_T cA) (m_W ad cA u0) A none) ([.ref (ad 0)] : List Value).toArray s 0 0 A) (F0 m 213 ls []) := by
    intro k49 hk49 n
    induction n with
    | zero => intro v1 v2 v3 v10 u H locs ls hl hI h; cases h
    | succ n ih =>
      intro v1 v2 v3 v10 u H locs ls hl hI h
      dsimp only [f_M_readClaims_L213] at h
      refine lv_iload hx hb d_M_readClaims_213 (lv_at hl 4 rfl) ?_
      refine lv_if_eq (tgt := 330) hx hb d_M_readClaims_215 rfl (fun hc39 => ?_) (fun hc39 => ?_)
      · rw [if_pos hc39] at h
        exact w330 k49 hk49 v1 v2 v3 u _ _ _ (lv_sub hl [0, 1, 2, 3] rfl) hI h
      · rw [if_neg hc39] at h
        refine lv_iload_n hx hb d_M_readClaims_218 rfl (lv_at hl 1 rfl) ?_
        refine lv_if_le (tgt := 330) hx hb d_M_readClaims_219 rfl (fun hc40 => ?_) (fun hc40 => ?_)
        · rw [if_pos hc40] at h
          exact w330 k49 hk49 v1 v2 v3 u _ _ _ (lv_sub hl [0, 1, 2, 3] rfl) hI h
        · rw [if_neg hc40] at h
          refine lv_aload_n hx hb d_M_readClaims_222 rfl (lv_at hl 0 rfl) ?_
          refine g_get (v := .ref (ad 12)) hx hb hts in_M hown hK hI 0 rfl rfl 23 (by decide) (hts _ wd_415) rfl d_M_readClaims_223 ?_
          refine lv_iload_n hx hb d_M_readClaims_226 rfl (lv_at hl 1 rfl) ?_
          refine lv_aload_n hx hb d_M_readClaims_227 rfl (lv_at hl 0 rfl) ?_
          refine g_get (v := .ref (ad 12)) hx hb hts in_M hown hK hI 0 rfl rfl 23 (by decide) (hts _ wd_415) rfl d_M_readClaims_228 ?_
          refine lv_iload_n hx hb d_M_readClaims_231 rfl (lv_at hl 1 rfl) ?_
          obtain ⟨hg, h⟩ := gd_e h
          refine g_iald hx hb hK hI 12 11 rfl rfl hg d_M_readClaims_232 ?_
          refine lv_iconst (v := 1) hx hb d_M_readClaims_233 (by decide) ?_
          refine lv_isub hx hb d_M_readClaims_234 ?_
          obtain ⟨hg, h⟩ := gd_e h
          obtain ⟨u41, e_u41, h⟩ := lt_e h
          refine g_iast (w' := m_W ad cA u41) hx hb hK hI 12 11 rfl rfl hg d_M_readClaims_235 (by subst e_u41; rfl) (fun H locs hI => ?_)
          refine lv_aload_n hx hb d_M_readClaims_236 rfl (lv_at hl 0 rfl) ?_
          refine g_get (v := .ref (ad 12)) hx hb hts in_M hown hK hI 0 rfl rfl 23 (by decide) (hts _ wd_415) rfl d_M_readClaims_237 ?_
          refine lv_iload_n hx hb d_M_readClaims_240 rfl (lv_at hl 1 rfl) ?_
          obtain ⟨hg, h⟩ := gd_e h
          refine g_iald hx hb hK hI 12 11 rfl rfl hg d_M_readClaims_241 ?_
          refine lv_if_ne (tgt := 249) hx hb d_M_readClaims_242 rfl (fun hc42 => ?_) (fun hc42 => ?_)
          · rw [if_neg hc42] at h
            refine lv_iconst (v := 0) hx hb d_M_readClaims_249 (by decide) ?_
            exact w250 k49 hk49 (f_M_readClaims_L213 k49 n) ih v1 v2 v3 0 u41 _ _ _ (lv_sub hl [0, 1, 2, 3] rfl) hI h
          · rw [if_pos hc42] at h
            refine lv_iconst (v := 1) hx hb d_M_readClaims_245 (by decide) ?_
            refine lv_goto (tgt := 250) hx hb d_M_readClaims_246 rfl ?_
            exact w250 k49 hk49 (f_M_readClaims_L213 k49 n) ih v1 v2 v3 1 u41 _ _ _ (lv_sub hl [0, 1, 2, 3] rfl) hI h
  have w550 : ∀ (k49 : Int32 → Int32 → Int32 → Int32 → MS → Option (Unit × MS)) (hk49 : ∀ (v1 : Int32) (v2 : Int32) (v3 : Int32) (v4 : Int32) (u : MS) (H : Heap) (locs : List Loc) (ls : Array Slot), lv_has ls 12 [(0, .ref (ad 0)), (1, .int v1), (2, .int v2), (3, .int v3), (4, .int v4)] → g_I D vwCl A s.heap H locs (m_W ad cA u) → k49 v1 v2 v3 v4 u = some (r0, u0) → W p l e { frames := 6, cells := 0, slots := 0, locals := 136 } s m ([.ref (ad 0)] : List Value).toArray below meth c H locs 0 0 (MQ below (g_Q D vwCl (m_T cA) (m_W ad cA u0) A none) ([.ref (ad 0)] : List Value).toArray s 0 0 A) (F0 m 49 ls [])) (v1 : Int32) (v3 : Int32) (v4 : Int32) (v9 : Int32) (t0 : Int32) (u : MS) (H : Heap) (locs : List Loc) (ls : Array Slot), lv_has ls 12 [(0, .ref (ad 0)), (1, .int v1), (3, .int v3), (4, .int v4), (9, .int v9)] → g_I D vwCl A s.heap H locs (m_W ad cA u) → f_M_readClaims_J550 k49 v1 v3 v4 v9 t0 u = some (r0, u0) → W p l e { frames := 6, cells := 0, slots := 0, locals := 136 } s m ([.ref (ad 0)] : List Value).toArray below meth c H locs 0 0 (MQ below (g_Q D vwCl (m_T cA) (m_W ad cA u0) A none) ([.ref (ad 0)] : List Value).toArray s 0 0 A) (F0 m 550 ls [.int t0, .ref (ad 0)]) := by
    intro k49 hk49 v1 v3 v4 v9 t0 u H locs ls hl hI h
    dsimp only [f_M_readClaims_J550] at h
    obtain ⟨hg, h⟩ := gd_e h
    obtain ⟨u74, e_u74, h⟩ := lt_e h
    refine g_put (t := .boolean) (w' := m_W ad cA u74) hx hb hts in_M ty_M tyok_M nm_M hown hK hI 0 rfl rfl 16 (by decide) (hts _ wd_408) rfl (by decide +kernel) (bz_n hg) (bz_f hg) (Nat.le_of_ble_eq_true rfl) d_M_readClaims_550 (by subst e_u74; rfl) (fun H locs hI => ?_)
    refine lv_iload hx hb d_M_readClaims_553 (lv_at hl 4 rfl) ?_
    refine lv_istore_n (lv' := [(2, .int v9), (0, .ref (ad 0)), (1, .int v1), (3, .int v3), (4, .int v4), (9, .int v9)]) hx hb d_M_readClaims_555 rfl hl (by decide) rfl (fun ls hl => ?_)
    refine lv_iload_n hx hb d_M_readClaims_556 rfl (lv_at hl 3 rfl) ?_
    refine lv_iconst (v := 1) hx hb d_M_readClaims_557 (by decide) ?_
    refine lv_iadd hx hb d_M_readClaims_558 ?_
    obtain ⟨x75, e_x75, h⟩ := lt_e h
    refine lv_istore_n (lv' := [(3, .int x75), (2, .int v9), (0, .ref (ad 0)), (1, .int v1), (4, .int v4), (9, .int v9)]) hx hb d_M_readClaims_559 rfl hl (by decide) (by subst e_x75; rfl) (fun ls hl => ?_)
    refine lv_goto (tgt := 49) hx hb d_M_readClaims_560 rfl ?_
    exact hk49 v1 v9 x75 v4 u74 _ _ _ (lv_sub hl [2, 3, 1, 0, 4] rfl) hI h
  have w496 : ∀ (k49 : Int32 → Int32 → Int32 → Int32 → MS → Option (Unit × MS)) (hk49 : ∀ (v1 : Int32) (v2 : Int32) (v3 : Int32) (v4 : Int32) (u : MS) (H : Heap) (locs : List Loc) (ls : Array Slot), lv_has ls 12 [(0, .ref (ad 0)), (1, .int v1), (2, .int v2), (3, .int v3), (4, .int v4)] → g_I D vwCl A s.heap H locs (m_W ad cA u) → k49 v1 v2 v3 v4 u = some (r0, u0) → W p l e { frames := 6, cells := 0, slots := 0, locals := 136 } s m ([.ref (ad 0)] : List Value).toArray below meth c H locs 0 0 (MQ below (g_Q D vwCl (m_T cA) (m_W ad cA u0) A none) ([.ref (ad 0)] : List Value).toArray s 0 0 A) (F0 m 49 ls [])) (v1 : Int32) (v3 : Int32) (v4 : Int32) (v9 : Int32) (t0 : Int32) (t1 : Int32) (u : MS) (H : Heap) (locs : List Loc) (ls : Array Slot), lv_has ls 12 [(0, .ref (ad 0)), (1, .int v1), (3, .int v3), (4, .int v4), (9, .int v9)] → g_I D vwCl A s.heap H locs (m_W ad cA u) → f_M_readClaims_J496 k49 v1 v3 v4 v9 t0 t1 u = some (r0, u0) → W p l e { frames := 6, cells := 0, slots := 0, locals := 136 } s m ([.ref (ad 0)] : List Value).toArray below meth c H locs 0 0 (MQ below (g_Q D vwCl (m_T cA) (m_W ad cA u0) A none) ([.ref (ad 0)] : List Value).toArray s 0 0 A) (F0 m 496 ls [.int t0, .int t1, .ref (ad 8)]) := by
    intro k49 hk49 v1 v3 v4 v9 t0 t1 u H locs ls hl hI h
    dsimp only [f_M_readClaims_J496] at h
    obtain ⟨hg, h⟩ := gd_e h
    obtain ⟨u69, e_u69, h⟩ := lt_e h
    refine g_iast (w' := m_W ad cA u69) hx hb hK hI 8 7 rfl rfl hg d_M_readClaims_496 (by subst e_u69; rfl) (fun H locs hI => ?_)
    refine lv_aload_n hx hb d_M_readClaims_497 rfl (lv_at hl 0 rfl) ?_
    refine lv_aload_n hx hb d_M_readClaims_498 rfl (lv_at hl 0 rfl) ?_
    refine g_get (v := .int (m_at u69)) hx hb hts in_M hown hK hI 0 rfl rfl 3 (by decide) (hts _ wd_395) rfl d_M_readClaims_499 ?_
    refine lv_iconst (v := 1) hx hb d_M_readClaims_502 (by decide) ?_
    refine lv_iadd hx hb d_M_readClaims_503 ?_
    obtain ⟨u70, e_u70, h⟩ := lt_e h
    refine g_put (t := .int) (w' := m_W ad cA u70) hx hb hts in_M ty_M tyok_M nm_M hown hK hI 0 rfl rfl 3 (by decide) (hts _ wd_395) rfl (by decide +kernel) rfl rfl (Nat.le_of_ble_eq_true rfl) d_M_readClaims_504 (by subst e_u70; rfl) (fun H locs hI => ?_)
    refine lv_aload_n hx hb d_M_readClaims_507 rfl (lv_at hl 0 rfl) ?_
    refine g_get (v := .ref (ad 10)) hx hb hts in_M hown hK hI 0 rfl rfl 21 (by decide) (hts _ wd_413) rfl d_M_readClaims_508 ?_
    refine lv_aload_n hx hb d_M_readClaims_511 rfl (lv_at hl 0 rfl) ?_
    refine g_get (v := .ref (ad 8)) hx hb hts in_M hown hK hI 0 rfl rfl 19 (by decide) (hts _ wd_411) rfl d_M_readClaims_512 ?_
    refine lv_iload hx hb d_M_readClaims_515 (lv_at hl 4 rfl) ?_
    obtain ⟨hg, h⟩ := gd_e h
    refine g_iald hx hb hK hI 8 7 rfl rfl hg d_M_readClaims_517 ?_
    refine lv_aload_n hx hb d_M_readClaims_518 rfl (lv_at hl 0 rfl) ?_
    refine g_get (v := .ref (ad 10)) hx hb hts in_M hown hK hI 0 rfl rfl 21 (by decide) (hts _ wd_413) rfl d_M_readClaims_519 ?_
    refine lv_aload_n hx hb d_M_readClaims_522 rfl (lv_at hl 0 rfl) ?_
    refine g_get (v := .ref (ad 8)) hx hb hts in_M hown hK hI 0 rfl rfl 19 (by decide) (hts _ wd_411) rfl d_M_readClaims_523 ?_
    refine lv_iload hx hb d_M_readClaims_526 (lv_at hl 4 rfl) ?_
    obtain ⟨hg, h⟩ := gd_e h
    refine g_iald hx hb hK hI 8 7 rfl rfl hg d_M_readClaims_528 ?_
    obtain ⟨hg, h⟩ := gd_e h
    refine g_iald hx hb hK hI 10 9 rfl rfl hg d_M_readClaims_529 ?_
    refine lv_iconst (v := 1) hx hb d_M_readClaims_530 (by decide) ?_
    refine lv_iadd hx hb d_M_readClaims_531 ?_
    obtain ⟨hg, h⟩ := gd_e h
    obtain ⟨u71, e_u71, h⟩ := lt_e h
    refine g_iast (w' := m_W ad cA u71) hx hb hK hI 10 9 rfl rfl hg d_M_readClaims_532 (by subst e_u71; rfl) (fun H locs hI => ?_)
    refine lv_aload_n hx hb d_M_readClaims_533 rfl (lv_at hl 0 rfl) ?_
    refine lv_aload_n hx hb d_M_readClaims_534 rfl (lv_at hl 0 rfl) ?_
    refine g_get (v := .int (m_dp u71)) hx hb hts in_M hown hK hI 0 rfl rfl 16 (by decide) (hts _ wd_408) rfl d_M_readClaims_535 ?_
    refine lv_if_ne (tgt := 545) hx hb d_M_readClaims_538 rfl (fun hc72 => ?_) (fun hc72 => ?_)
    · rw [if_neg hc72] at h
      refine lv_iconst (v := 1) hx hb d_M_readClaims_545 (by decide) ?_
      refine lv_goto (tgt := 550) hx hb d_M_readClaims_546 rfl ?_
      exact w550 k49 hk49 v1 v3 v4 v9 1 u71 _ _ _ (lv_sub hl [0, 1, 2, 3, 4] rfl) hI h
    · rw [if_pos hc72] at h
      refine lv_iload_n hx hb d_M_readClaims_541 rfl (lv_at hl 2 rfl) ?_
      refine lv_if_le (tgt := 549) hx hb d_M_readClaims_542 rfl (fun hc73 => ?_) (fun hc73 => ?_)
      · rw [if_pos hc73] at h
        refine lv_iconst (v := 0) hx hb d_M_readClaims_549 (by decide) ?_
        exact w550 k49 hk49 v1 v3 v4 v9 0 u71 _ _ _ (lv_sub hl [0, 1, 2, 3, 4] rfl) hI h
      · rw [if_neg hc73] at h
        refine lv_iconst (v := 1) hx hb d_M_readClaims_545 (by decide) ?_
        refine lv_goto (tgt := 550) hx hb d_M_readClaims_546 rfl ?_
        exact w550 k49 hk49 v1 v3 v4 v9 1 u71 _ _ _ (lv_sub hl [0, 1, 2, 3, 4] rfl) hI h
  have w472 : ∀ (k49 : Int32 → Int32 → Int32 → Int32 → MS → Option (Unit × MS)) (hk49 : ∀ (v1 : Int32) (v2 : Int32) (v3 : Int32) (v4 : Int32) (u : MS) (H : Heap) (locs : List Loc) (ls : Array Slot), lv_has ls 12 [(0, .ref (ad 0)), (1, .int v1), (2, .int v2), (3, .int v3), (4, .int v4)] → g_I D vwCl A s.heap H locs (m_W ad cA u) → k49 v1 v2 v3 v4 u = some (r0, u0) → W p l e { frames := 6, cells := 0, slots := 0, locals := 136 } s m ([.ref (ad 0)] : List Value).toArray below meth c H locs 0 0 (MQ below (g_Q D vwCl (m_T cA) (m_W ad cA u0) A none) ([.ref (ad 0)] : List Value).toArray s 0 0 A) (F0 m 49 ls [])) (v1 : Int32) (v3 : Int32) (v4 : Int32) (v9 : Int32) (u : MS) (H : Heap) (locs : List Loc) (ls : Array Slot), lv_has ls 12 [(0, .ref (ad 0)), (1, .int v1), (3, .int v3), (4, .int v4), (9, .int v9)] → g_I D vwCl A s.heap H locs (m_W ad cA u) → f_M_readClaims_J472 k49 v1 v3 v4 v9 u = some (r0, u0) → W p l e { frames := 6, cells := 0, slots := 0, locals := 136 } s m ([.ref (ad 0)] : List Value).toArray below meth c H locs 0 0 (MQ below (g_Q D vwCl (m_T cA) (m_W ad cA u0) A none) ([.ref (ad 0)] : List Value).toArray s 0 0 A) (F0 m 472 ls []) := by
    intro k49 hk49 v1 v3 v4 v9 u H locs ls hl hI h
    dsimp only [f_M_readClaims_J472] at h
    refine lv_aload_n hx hb d_M_readClaims_472 rfl (lv_at hl 0 rfl) ?_
    refine g_get (v := .ref (ad 8)) hx hb hts in_M hown hK hI 0 rfl rfl 19 (by decide) (hts _ wd_411) rfl d_M_readClaims_473 ?_
    refine lv_iload hx hb d_M_readClaims_476 (lv_at hl 4 rfl) ?_
    refine lv_aload_n hx hb d_M_readClaims_478 rfl (lv_at hl 0 rfl) ?_
    refine g_get (v := .int (m_fa u)) hx hb hts in_M hown hK hI 0 rfl rfl 4 (by decide) (hts _ wd_396) rfl d_M_readClaims_479 ?_
    refine lv_if_ge (tgt := 495) hx hb d_M_readClaims_482 rfl (fun hc66 => ?_) (fun hc66 => ?_)
    · rw [if_pos hc66] at h
      refine lv_iconst (v := 0) hx hb d_M_readClaims_495 (by decide) ?_
      exact w496 k49 hk49 v1 v3 v4 v9 0 v9 u _ _ _ (lv_sub hl [0, 1, 2, 3, 4] rfl) hI h
    · rw [if_neg hc66] at h
      refine lv_aload_n hx hb d_M_readClaims_485 rfl (lv_at hl 0 rfl) ?_
      obtain ⟨r67, u68, hc, h⟩ := ob_e h
      refine g_callV (As := []) (rest := [.int v9, .ref (ad 8)]) (w' := m_W ad cA u68) (o := some (.int r67)) ⟨hx, hb, hml, hown, hts⟩ (c_M_look l D ad cA hc) (cwV 0 hts gq_M_83 rfl rfl rfl (by decide +kernel) ⟨Nat.le_of_ble_eq_true rfl, Nat.le_of_ble_eq_true rfl⟩) hK hI hA 0 5 rfl rfl rfl hl.1 rfl (Nat.le_of_ble_eq_true rfl) d_M_readClaims_486 ⟨Nat.zero_le _, Nat.zero_le _⟩ rfl (fun H locs hI => ?_)
      refine lv_bipush (v := 120) hx hb d_M_readClaims_489 (by decide) ?_
      refine lv_isub hx hb d_M_readClaims_491 ?_
      refine lv_goto (tgt := 496) hx hb d_M_readClaims_492 rfl ?_
      exact w496 k49 hk49 v1 v3 v4 v9 (r67 - 120) v9 u68 _ _ _ (lv_sub hl [0, 1, 2, 3, 4] rfl) hI h
  have w448 : ∀ (k49 : Int32 → Int32 → Int32 → Int32 → MS → Option (Unit × MS)) (hk49 : ∀ (v1 : Int32) (v2 : Int32) (v3 : Int32) (v4 : Int32) (u : MS) (H : Heap) (locs : List Loc) (ls : Array Slot), lv_has ls 12 [(0, .ref (ad 0)), (1, .int v1), (2, .int v2), (3, .int v3), (4, .int v4)] → g_I D vwCl A s.heap H locs (m_W ad cA u) → k49 v1 v2 v3 v4 u = some (r0, u0) → W p l e { frames := 6, cells := 0, slots := 0, locals := 136 } s m ([.ref (ad 0)] : List Value).toArray below meth c H locs 0 0 (MQ below (g_Q D vwCl (m_T cA) (m_W ad cA u0) A none) ([.ref (ad 0)] : List Value).toArray s 0 0 A) (F0 m 49 ls [])) (v1 : Int32) (v2 : Int32) (v3 : Int32) (v4 : Int32) (v7 : Int32) (v9 : Int32) (t0 : Int32) (t1 : Int32) (u : MS) (H : Heap) (locs : List Loc) (ls : Array Slot), lv_has ls 12 [(0, .ref (ad 0)), (1, .int v1), (2, .int v2), (3, .int v3), (4, .int v4), (7, .int v7), (9, .int v9)] → g_I D vwCl A s.heap H locs (m_W ad cA u) → f_M_readClaims_J448 k49 v1 v2 v3 v4 v7 v9 t0 t1 u = some (r0, u0) → W p l e { frames := 6, cells := 0, slots := 0, locals := 136 } s m ([.ref (ad 0)] : List Value).toArray below meth c H locs 0 0 (MQ below (g_Q D vwCl (m_T cA) (m_W ad cA u0) A none) ([.ref (ad 0)] : List Value).toArray s 0 0 A) (F0 m 448 ls [.int t0, .int t1, .ref (ad 12)]) := by
    intro k49 hk49 v1 v2 v3 v4 v7 v9 t0 t1 u H locs ls hl hI h
    dsimp only [f_M_readClaims_J448] at h
    obtain ⟨hg, h⟩ := gd_e h
    obtain ⟨u57, e_u57, h⟩ := lt_e h
    refine g_iast (w' := m_W ad cA u57) hx hb hK hI 12 11 rfl rfl hg d_M_readClaims_448 (by subst e_u57; rfl) (fun H locs hI => ?_)
    refine lv_iload hx hb d_M_readClaims_449 (lv_at hl 5 rfl) ?_
    refine lv_if_eq (tgt := 560) hx hb d_M_readClaims_451 rfl (fun hc58 => ?_) (fun hc58 => ?_)
    · rw [if_pos hc58] at h
      refine lv_goto (tgt := 49) hx hb d_M_readClaims_560 rfl ?_
      exact hk49 v1 v2 v3 v4 u57 _ _ _ (lv_sub hl [0, 1, 2, 3, 4] rfl) hI h
    · rw [if_neg hc58] at h
      refine lv_aload_n hx hb d_M_readClaims_454 rfl (lv_at hl 0 rfl) ?_
      obtain ⟨r59, u60, hc, h⟩ := ob_e h
      refine g_callV (As := []) (rest := []) (w' := m_W ad cA u60) (o := some (.int r59)) ⟨hx, hb, hml, hown, hts⟩ (c_M_look l D ad cA hc) (cwV 0 hts gq_M_83 rfl rfl rfl (by decide +kernel) ⟨Nat.le_of_ble_eq_true rfl, Nat.le_of_ble_eq_true rfl⟩) hK hI hA 0 5 rfl rfl rfl hl.1 rfl (Nat.le_of_ble_eq_true rfl) d_M_readClaims_455 ⟨Nat.zero_le _, Nat.zero_le _⟩ rfl (fun H locs hI => ?_)
      refine lv_bipush (v := 120) hx hb d_M_readClaims_458 (by decide) ?_
      refine lv_bipush (v := 122) hx hb d_M_readClaims_460 (by decide) ?_
      obtain ⟨r61, u62, hc, h⟩ := ob_e h
      refine g_callS (As := [.int r59, .int 120, .int 122]) (rest := []) (w' := m_W ad cA u62) (o := some (.int r61)) ⟨hx, hb, hml, hown, hts⟩ (c_M_in l D ad cA hc) (va_cwS 3 hts gq_M_70 rfl rfl rfl (by decide +kernel) ⟨Nat.le_of_ble_eq_true rfl, Nat.le_of_ble_eq_true rfl⟩) hK hI hA rfl hl.1 rfl (Nat.le_of_ble_eq_true rfl) d_M_readClaims_462 ⟨Nat.zero_le _, Nat.zero_le _⟩ rfl (fun H locs hI => ?_)
      refine lv_if_ne (tgt := 472) hx hb d_M_readClaims_465 rfl (fun hc63 => ?_) (fun hc63 => ?_)
      · rw [if_neg hc63] at h
        exact w472 k49 hk49 v1 v3 v4 v9 u62 _ _ _ (lv_sub hl [0, 1, 3, 4, 6] rfl) hI h
      · rw [if_pos hc63] at h
        refine lv_aload_n hx hb d_M_readClaims_468 rfl (lv_at hl 0 rfl) ?_
        obtain ⟨r64, u65, hc, h⟩ := ob_e h
        refine g_callV (As := []) (rest := []) (w' := m_W ad cA u65) (o := none) ⟨hx, hb, hml, hown, hts⟩ (c_M_fail l D ad cA hc) (cwV 0 hts gq_M_90 rfl rfl rfl (by decide +kernel) ⟨Nat.le_of_ble_eq_true rfl, Nat.le_of_ble_eq_true rfl⟩) hK hI hA 0 5 rfl rfl rfl hl.1 rfl (Nat.le_of_ble_eq_true rfl) d_M_readClaims_469 ⟨Nat.zero_le _, Nat.zero_le _⟩ rfl (fun H locs hI => ?_)
        exact w472 k49 hk49 v1 v3 v4 v9 u65 _ _ _ (lv_sub hl [0, 1, 3, 4, 6] rfl) hI h
  have w404 : ∀ (k49 : Int32 → Int32 → Int32 → Int32 → MS → Option (Unit × MS)) (hk49 : ∀ (v1 : Int32) (v2 : Int32) (v3 : Int32) (v4 : Int32) (u : MS) (H : Heap) (locs : List Loc) (ls : Array Slot), lv_has ls 12 [(0, .ref (ad 0)), (1, .int v1), (2, .int v2), (3, .int v3), (4, .int v4)] → g_I D vwCl A s.heap H locs (m_W ad cA u) → k49 v1 v2 v3 v4 u = some (r0, u0) → W p l e { frames := 6, cells := 0, slots := 0, locals := 136 } s m ([.ref (ad 0)] : List Value).toArray below meth c H locs 0 0 (MQ below (g_Q D vwCl (m_T cA) (m_W ad cA u0) A none) ([.ref (ad 0)] : List Value).toArray s 0 0 A) (F0 m 49 ls [])) (v1 : Int32) (v2 : Int32) (v3 : Int32) (v4 : Int32) (v7 : Int32) (v9 : Int32) (t0 : Int32) (t1 : Int32) (u : MS) (H : Heap) (locs : List Loc) (ls : Array Slot), lv_has ls 12 [(0, .ref (ad 0)), (1, .int v1), (2, .int v2), (3, .int v3), (4, .int v4), (7, .int v7), (9, .int v9)] → g_I D vwCl A s.heap H locs (m_W ad cA u) → f_M_readClaims_J404 k49 v1 v2 v3 v4 v7 v9 t0 t1 u = some (r0, u0) → W p l e { frames := 6, cells := 0, slots := 0, locals := 136 } s m ([.ref (ad 0)] : List Value).toArray below meth c H locs 0 0 (MQ below (g_Q D vwCl (m_T cA) (m_W ad cA u0) A none) ([.ref (ad 0)] : List Value).toArray s 0 0 A) (F0 m 404 ls [.int t0, .int t1, .ref (ad 6)]) := by
    intro k49 hk49 v1 v2 v3 v4 v7 v9 t0 t1 u H locs ls hl hI h
    dsimp only [f_M_readClaims_J404] at h
    obtain ⟨hg, h⟩ := gd_e h
    obtain ⟨u52, e_u52, h⟩ := lt_e h
    refine g_iast (w' := m_W ad cA u52) hx hb hK hI 6 5 rfl rfl hg d_M_readClaims_404 (by subst e_u52; rfl) (fun H locs hI => ?_)
    refine lv_aload_n hx hb d_M_readClaims_405 rfl (lv_at hl 0 rfl) ?_
    refine lv_aload_n hx hb d_M_readClaims_406 rfl (lv_at hl 0 rfl) ?_
    refine g_get (v := .int (m_at u52)) hx hb hts in_M hown hK hI 0 rfl rfl 3 (by decide) (hts _ wd_395) rfl d_M_readClaims_407 ?_
    refine lv_iconst (v := 1) hx hb d_M_readClaims_410 (by decide) ?_
    refine lv_iadd hx hb d_M_readClaims_411 ?_
    obtain ⟨u53, e_u53, h⟩ := lt_e h
    refine g_put (t := .int) (w' := m_W ad cA u53) hx hb hts in_M ty_M tyok_M nm_M hown hK hI 0 rfl rfl 3 (by decide) (hts _ wd_395) rfl (by decide +kernel) rfl rfl (Nat.le_of_ble_eq_true rfl) d_M_readClaims_412 (by subst e_u53; rfl) (fun H locs hI => ?_)
    refine lv_iload_n hx hb d_M_readClaims_415 rfl (lv_at hl 1 rfl) ?_
    refine lv_iconst (v := 1) hx hb d_M_readClaims_416 (by decide) ?_
    refine lv_iadd hx hb d_M_readClaims_417 ?_
    obtain ⟨x54, e_x54, h⟩ := lt_e h
    refine lv_istore_n (lv' := [(1, .int x54), (0, .ref (ad 0)), (2, .int v2), (3, .int v3), (4, .int v4), (7, .int v7), (9, .int v9)]) hx hb d_M_readClaims_418 rfl hl (by decide) (by subst e_x54; rfl) (fun ls hl => ?_)
    refine lv_aload_n hx hb d_M_readClaims_419 rfl (lv_at hl 1 rfl) ?_
    refine g_get (v := .ref (ad 11)) hx hb hts in_M hown hK hI 0 rfl rfl 22 (by decide) (hts _ wd_414) rfl d_M_readClaims_420 ?_
    refine lv_iload_n hx hb d_M_readClaims_423 rfl (lv_at hl 0 rfl) ?_
    refine lv_iload hx hb d_M_readClaims_424 (lv_at hl 6 rfl) ?_
    obtain ⟨hg, h⟩ := gd_e h
    obtain ⟨u55, e_u55, h⟩ := lt_e h
    refine g_iast (w' := m_W ad cA u55) hx hb hK hI 11 10 rfl rfl hg d_M_readClaims_426 (by subst e_u55; rfl) (fun H locs hI => ?_)
    refine lv_aload_n hx hb d_M_readClaims_427 rfl (lv_at hl 1 rfl) ?_
    refine g_get (v := .ref (ad 12)) hx hb hts in_M hown hK hI 0 rfl rfl 23 (by decide) (hts _ wd_415) rfl d_M_readClaims_428 ?_
    refine lv_iload_n hx hb d_M_readClaims_431 rfl (lv_at hl 0 rfl) ?_
    refine lv_aload_n hx hb d_M_readClaims_432 rfl (lv_at hl 1 rfl) ?_
    refine g_get (v := .ref (ad 6)) hx hb hts in_M hown hK hI 0 rfl rfl 17 (by decide) (hts _ wd_409) rfl d_M_readClaims_433 ?_
    refine lv_iload hx hb d_M_readClaims_436 (lv_at hl 6 rfl) ?_
    obtain ⟨hg, h⟩ := gd_e h
    refine g_iald hx hb hK hI 6 5 rfl rfl hg d_M_readClaims_438 ?_
    refine lv_iconst (v := 3) hx hb d_M_readClaims_439 (by decide) ?_
    refine lv_icmp_ge (tgt := 447) hx hb d_M_readClaims_440 rfl (fun hc56 => ?_) (fun hc56 => ?_)
    · rw [if_pos hc56] at h
      refine lv_iconst (v := 1) hx hb d_M_readClaims_447 (by decide) ?_
      exact w448 k49 hk49 x54 v2 v3 v4 v7 v9 1 x54 u55 _ _ _ (lv_sub hl [1, 0, 2, 3, 4, 5, 6] rfl) hI h
    · rw [if_neg hc56] at h
      refine lv_iconst (v := 2) hx hb d_M_readClaims_443 (by decide) ?_
      refine lv_goto (tgt := 448) hx hb d_M_readClaims_444 rfl ?_
      exact w448 k49 hk49 x54 v2 v3 v4 v7 v9 2 x54 u55 _ _ _ (lv_sub hl [1, 0, 2, 3, 4, 5, 6] rfl) hI h
  have w150 : ∀ (k49 : Int32 → Int32 → Int32 → Int32 → MS → Option (Unit × MS)) (hk49 : ∀ (v1 : Int32) (v2 : Int32) (v3 : Int32) (v4 : Int32) (u : MS) (H : Heap) (locs : List Loc) (ls : Array Slot), lv_has ls 12 [(0, .ref (ad 0)), (1, .int v1), (2, .int v2), (3, .int v3), (4, .int v4)] → g_I D vwCl A s.heap H locs (m_W ad cA u) → k49 v1 v2 v3 v4 u = some (r0, u0) → W p l e { frames := 6, cells := 0, slots := 0, locals := 136 } s m ([.ref (ad 0)] : List Value).toArray below meth c H locs 0 0 (MQ below (g_Q D vwCl (m_T cA) (m_W ad cA u0) A none) ([.ref (ad 0)] : List Value).toArray s 0 0 A) (F0 m 49 ls [])) (v1 : Int32) (v2 : Int32) (v3 : Int32) (v4 : Int32) (v5 : Int32) (v6 : Int32) (v7 : Int32) (t0 : Int32) (u : MS) (H : Heap) (locs : List Loc) (ls : Array Slot), lv_has ls 12 [(0, .ref (ad 0)), (1, .int v1), (2, .int v2), (3, .int v3), (4, .int v4), (5, .int v5), (6, .int v6), (7, .int v7)] → g_I D vwCl A s.heap H locs (m_W ad cA u) → f_M_readClaims_J150 k49 v1 v2 v3 v4 v5 v6 v7 t0 u = some (r0, u0) → W p l e { frames := 6, cells := 0, slots := 0, locals := 136 } s m ([.ref (ad 0)] : List Value).toArray below meth c H locs 0 0 (MQ below (g_Q D vwCl (m_T cA) (m_W ad cA u0) A none) ([.ref (ad 0)] : List Value).toArray s 0 0 A) (F0 m 150 ls [.int t0]) := by
    intro k49 hk49 v1 v2 v3 v4 v5 v6 v7 t0 u H locs ls hl hI h
    dsimp only [f_M_readClaims_J150] at h
    refine lv_istore (lv' := [(8, .int t0), (0, .ref (ad 0)), (1, .int v1), (2, .int v2), (3, .int v3), (4, .int v4), (5, .int v5), (6, .int v6), (7, .int v7)]) hx hb d_M_readClaims_150 hl (by decide) rfl (fun ls hl => ?_)
    refine lv_iload hx hb d_M_readClaims_152 (lv_at hl 0 rfl) ?_
    refine lv_if_eq (tgt := 166) hx hb d_M_readClaims_154 rfl (fun hc22 => ?_) (fun hc22 => ?_)
    · rw [if_pos hc22] at h
      refine lv_aload_n hx hb d_M_readClaims_166 rfl (lv_at hl 1 rfl) ?_
      obtain ⟨r23, u24, hc, h⟩ := ob_e h
      refine g_callV (As := []) (rest := []) (w' := m_W ad cA u24) (o := none) ⟨hx, hb, hml, hown, hts⟩ (c_M_fail l D ad cA hc) (cwV 0 hts gq_M_90 rfl rfl rfl (by decide +kernel) ⟨Nat.le_of_ble_eq_true rfl, Nat.le_of_ble_eq_true rfl⟩) hK hI hA 0 5 rfl rfl rfl hl.1 rfl (Nat.le_of_ble_eq_true rfl) d_M_readClaims_167 ⟨Nat.zero_le _, Nat.zero_le _⟩ rfl (fun H locs hI => ?_)
      refine lv_goto (tgt := 560) hx hb d_M_readClaims_170 rfl ?_
      refine lv_goto (tgt := 49) hx hb d_M_readClaims_560 rfl ?_
      exact hk49 v1 v2 v3 v4 u24 _ _ _ (lv_sub hl [1, 2, 3, 4, 5] rfl) hI h
    · rw [if_neg hc22] at h
      refine lv_aload_n hx hb d_M_readClaims_157 rfl (lv_at hl 1 rfl) ?_
      refine g_get (v := .int (m_re u)) hx hb hts in_M hown hK hI 0 rfl rfl 13 (by decide) (hts _ wd_405) rfl d_M_readClaims_158 ?_
      refine lv_bipush (v := 20) hx hb d_M_readClaims_161 (by decide) ?_
      refine lv_icmp_ne (tgt := 173) hx hb d_M_readClaims_163 rfl (fun hc25 => ?_) (fun hc25 => ?_)
      · rw [if_neg hc25] at h
        refine lv_aload_n hx hb d_M_readClaims_173 rfl (lv_at hl 1 rfl) ?_
        refine g_get (v := .int (m_re u)) hx hb hts in_M hown hK hI 0 rfl rfl 13 (by decide) (hts _ wd_405) rfl d_M_readClaims_174 ?_
        obtain ⟨x26, e_x26, h⟩ := lt_e h
        refine lv_istore (lv' := [(9, .int x26), (8, .int t0), (0, .ref (ad 0)), (1, .int v1), (2, .int v2), (3, .int v3), (4, .int v4), (5, .int v5), (6, .int v6), (7, .int v7)]) hx hb d_M_readClaims_177 hl (by decide) (by subst e_x26; rfl) (fun ls hl => ?_)
        refine lv_aload_n hx hb d_M_readClaims_179 rfl (lv_at hl 2 rfl) ?_
        refine lv_aload_n hx hb d_M_readClaims_180 rfl (lv_at hl 2 rfl) ?_
        refine g_get (v := .int (m_re u)) hx hb hts in_M hown hK hI 0 rfl rfl 13 (by decide) (hts _ wd_405) rfl d_M_readClaims_181 ?_
        refine lv_iconst (v := 1) hx hb d_M_readClaims_184 (by decide) ?_
        refine lv_iadd hx hb d_M_readClaims_185 ?_
        obtain ⟨u27, e_u27, h⟩ := lt_e h
        refine g_put (t := .int) (w' := m_W ad cA u27) hx hb hts in_M ty_M tyok_M nm_M hown hK hI 0 rfl rfl 13 (by decide) (hts _ wd_405) rfl (by decide +kernel) rfl rfl (Nat.le_of_ble_eq_true rfl) d_M_readClaims_186 (by subst e_u27; rfl) (fun H locs hI => ?_)
        refine lv_aload_n hx hb d_M_readClaims_189 rfl (lv_at hl 2 rfl) ?_
        refine g_get (v := .ref (ad 7)) hx hb hts in_M hown hK hI 0 rfl rfl 18 (by decide) (hts _ wd_410) rfl d_M_readClaims_190 ?_
        refine lv_iload hx hb d_M_readClaims_193 (lv_at hl 0 rfl) ?_
        refine lv_iload_n hx hb d_M_readClaims_195 rfl (lv_at hl 4 rfl) ?_
        obtain ⟨hg, h⟩ := gd_e h
        obtain ⟨u28, e_u28, h⟩ := lt_e h
        refine g_iast (w' := m_W ad cA u28) hx hb hK hI 7 6 rfl rfl hg d_M_readClaims_196 (by subst e_u28; rfl) (fun H locs hI => ?_)
        refine lv_iload hx hb d_M_readClaims_197 (lv_at hl 7 rfl) ?_
        refine lv_bipush (v := 91) hx hb d_M_readClaims_199 (by decide) ?_
        refine lv_icmp_ne (tgt := 344) hx hb d_M_readClaims_201 rfl (fun hc29 => ?_) (fun hc29 => ?_)
        · rw [if_neg hc29] at h
          refine lv_aload_n hx hb d_M_readClaims_344 rfl (lv_at hl 2 rfl) ?_
          refine g_get (v := .ref (ad 6)) hx hb hts in_M hown hK hI 0 rfl rfl 17 (by decide) (hts _ wd_409) rfl d_M_readClaims_345 ?_
          refine lv_iload hx hb d_M_readClaims_348 (lv_at hl 0 rfl) ?_
          refine lv_iload hx hb d_M_readClaims_350 (lv_at hl 7 rfl) ?_
          refine lv_bipush (v := 38) hx hb d_M_readClaims_352 (by decide) ?_
          refine lv_icmp_ne (tgt := 361) hx hb d_M_readClaims_354 rfl (fun hc30 => ?_) (fun hc30 => ?_)
          · rw [if_neg hc30] at h
            refine lv_iload hx hb d_M_readClaims_361 (lv_at hl 7 rfl) ?_
            refine lv_bipush (v := 47) hx hb d_M_readClaims_363 (by decide) ?_
            refine lv_icmp_ne (tgt := 372) hx hb d_M_readClaims_365 rfl (fun hc31 => ?_) (fun hc31 => ?_)
            · rw [if_neg hc31] at h
              refine lv_iload hx hb d_M_readClaims_372 (lv_at hl 7 rfl) ?_
              refine lv_bipush (v := 62) hx hb d_M_readClaims_374 (by decide) ?_
              refine lv_icmp_ne (tgt := 383) hx hb d_M_readClaims_376 rfl (fun hc32 => ?_) (fun hc32 => ?_)
              · rw [if_neg hc32] at h
                refine lv_iload hx hb d_M_readClaims_383 (lv_at hl 7 rfl) ?_
                refine lv_bipush (v := 33) hx hb d_M_readClaims_385 (by decide) ?_
                refine lv_icmp_ne (tgt := 394) hx hb d_M_readClaims_387 rfl (fun hc33 => ?_) (fun hc33 => ?_)
                · rw [if_neg hc33] at h
                  refine lv_iload hx hb d_M_readClaims_394 (lv_at hl 8 rfl) ?_
                  refine lv_if_eq (tgt := 403) hx hb d_M_readClaims_396 rfl (fun hc34 => ?_) (fun hc34 => ?_)
                  · rw [if_pos hc34] at h
                    refine lv_iconst (v := 4) hx hb d_M_readClaims_403 (by decide) ?_
                    exact w404 k49 hk49 v1 v2 v3 v4 v7 x26 4 x26 u28 _ _ _ (lv_sub hl [2, 3, 4, 5, 6, 9, 0] rfl) hI h
                  · rw [if_neg hc34] at h
                    refine lv_iconst (v := 5) hx hb d_M_readClaims_399 (by decide) ?_
                    refine lv_goto (tgt := 404) hx hb d_M_readClaims_400 rfl ?_
                    exact w404 k49 hk49 v1 v2 v3 v4 v7 x26 5 x26 u28 _ _ _ (lv_sub hl [2, 3, 4, 5, 6, 9, 0] rfl) hI h
                · rw [if_pos hc33] at h
                  refine lv_iconst (v := 3) hx hb d_M_readClaims_390 (by decide) ?_
                  refine lv_goto (tgt := 404) hx hb d_M_readClaims_391 rfl ?_
                  exact w404 k49 hk49 v1 v2 v3 v4 v7 x26 3 x26 u28 _ _ _ (lv_sub hl [2, 3, 4, 5, 6, 9, 0] rfl) hI h
              · rw [if_pos hc32] at h
                refine lv_iconst (v := 2) hx hb d_M_readClaims_379 (by decide) ?_
                refine lv_goto (tgt := 404) hx hb d_M_readClaims_380 rfl ?_
                exact w404 k49 hk49 v1 v2 v3 v4 v7 x26 2 x26 u28 _ _ _ (lv_sub hl [2, 3, 4, 5, 6, 9, 0] rfl) hI h
            · rw [if_pos hc31] at h
              refine lv_iconst (v := 1) hx hb d_M_readClaims_368 (by decide) ?_
              refine lv_goto (tgt := 404) hx hb d_M_readClaims_369 rfl ?_
              exact w404 k49 hk49 v1 v2 v3 v4 v7 x26 1 x26 u28 _ _ _ (lv_sub hl [2, 3, 4, 5, 6, 9, 0] rfl) hI h
          · rw [if_pos hc30] at h
            refine lv_iconst (v := 0) hx hb d_M_readClaims_357 (by decide) ?_
            refine lv_goto (tgt := 404) hx hb d_M_readClaims_358 rfl ?_
            exact w404 k49 hk49 v1 v2 v3 v4 v7 x26 0 x26 u28 _ _ _ (lv_sub hl [2, 3, 4, 5, 6, 9, 0] rfl) hI h
        · rw [if_pos hc29] at h
          refine lv_aload_n hx hb d_M_readClaims_204 rfl (lv_at hl 2 rfl) ?_
          refine lv_iload hx hb d_M_readClaims_205 (lv_at hl 0 rfl) ?_
          obtain ⟨r35, u36, hc, h⟩ := ob_e h
          refine g_callV (As := [.int x26]) (rest := []) (w' := m_W ad cA u36) (o := none) ⟨hx, hb, hml, hown, hts⟩ (c_M_readBracket l D ad cA hc) (cwV 1 hts gq_M_119 rfl rfl rfl (by decide +kernel) ⟨Nat.le_of_ble_eq_true rfl, Nat.le_of_ble_eq_true rfl⟩) hK hI hA 0 5 rfl rfl rfl hl.1 rfl (Nat.le_of_ble_eq_true rfl) d_M_readClaims_207 ⟨Nat.zero_le _, Nat.zero_le _⟩ rfl (fun H locs hI => ?_)
          refine lv_iconst (v := 1) hx hb d_M_readClaims_210 (by decide) ?_
          refine lv_istore (lv' := [(10, .int 1), (9, .int x26), (8, .int t0), (0, .ref (ad 0)), (1, .int v1), (2, .int v2), (3, .int v3), (4, .int v4), (5, .int v5), (6, .int v6), (7, .int v7)]) hx hb d_M_readClaims_211 hl (by decide) rfl (fun ls hl => ?_)
          exact w213 k49 hk49 4096 v1 v2 v3 1 u36 _ _ _ (lv_sub hl [3, 4, 5, 6, 0] rfl) hI h
      · rw [if_pos hc25] at h
        refine lv_aload_n hx hb d_M_readClaims_166 rfl (lv_at hl 1 rfl) ?_
        obtain ⟨r37, u38, hc, h⟩ := ob_e h
        refine g_callV (As := []) (rest := []) (w' := m_W ad cA u38) (o := none) ⟨hx, hb, hml, hown, hts⟩ (c_M_fail l D ad cA hc) (cwV 0 hts gq_M_90 rfl rfl rfl (by decide +kernel) ⟨Nat.le_of_ble_eq_true rfl, Nat.le_of_ble_eq_true rfl⟩) hK hI hA 0 5 rfl rfl rfl hl.1 rfl (Nat.le_of_ble_eq_true rfl) d_M_readClaims_167 ⟨Nat.zero_le _, Nat.zero_le _⟩ rfl (fun H locs hI => ?_)
        refine lv_goto (tgt := 560) hx hb d_M_readClaims_170 rfl ?_
        refine lv_goto (tgt := 49) hx hb d_M_readClaims_560 rfl ?_
        exact hk49 v1 v2 v3 v4 u38 _ _ _ (lv_sub hl [1, 2, 3, 4, 5] rfl) hI h
  have w98 : ∀ (k49 : Int32 → Int32 → Int32 → Int32 → MS → Option (Unit × MS)) (hk49 : ∀ (v1 : Int32) (v2 : Int32) (v3 : Int32) (v4 : Int32) (u : MS) (H : Heap) (locs : List Loc) (ls : Array Slot), lv_has ls 12 [(0, .ref (ad 0)), (1, .int v1), (2, .int v2), (3, .int v3), (4, .int v4)] → g_I D vwCl A s.heap H locs (m_W ad cA u) → k49 v1 v2 v3 v4 u = some (r0, u0) → W p l e { frames := 6, cells := 0, slots := 0, locals := 136 } s m ([.ref (ad 0)] : List Value).toArray below meth c H locs 0 0 (MQ below (g_Q D vwCl (m_T cA) (m_W ad cA u0) A none) ([.ref (ad 0)] : List Value).toArray s 0 0 A) (F0 m 49 ls [])) (v1 : Int32) (v2 : Int32) (v3 : Int32) (v4 : Int32) (v5 : Int32) (v6 : Int32) (t0 : Int32) (u : MS) (H : Heap) (locs : List Loc) (ls : Array Slot), lv_has ls 12 [(0, .ref (ad 0)), (1, .int v1), (2, .int v2), (3, .int v3), (4, .int v4), (5, .int v5), (6, .int v6)] → g_I D vwCl A s.heap H locs (m_W ad cA u) → f_M_readClaims_J98 k49 v1 v2 v3 v4 v5 v6 t0 u = some (r0, u0) → W p l e { frames := 6, cells := 0, slots := 0, locals := 136 } s m ([.ref (ad 0)] : List Value).toArray below meth c H locs 0 0 (MQ below (g_Q D vwCl (m_T cA) (m_W ad cA u0) A none) ([.ref (ad 0)] : List Value).toArray s 0 0 A) (F0 m 98 ls [.int t0]) := by
    intro k49 hk49 v1 v2 v3 v4 v5 v6 t0 u H locs ls hl hI h
    dsimp only [f_M_readClaims_J98] at h
    refine lv_istore (lv' := [(7, .int t0), (0, .ref (ad 0)), (1, .int v1), (2, .int v2), (3, .int v3), (4, .int v4), (5, .int v5), (6, .int v6)]) hx hb d_M_readClaims_98 hl (by decide) rfl (fun ls hl => ?_)
    refine lv_iload hx hb d_M_readClaims_100 (lv_at hl 6 rfl) ?_
    refine lv_bipush (v := 38) hx hb d_M_readClaims_102 (by decide) ?_
    refine lv_icmp_eq (tgt := 145) hx hb d_M_readClaims_104 rfl (fun hc15 => ?_) (fun hc15 => ?_)
    · rw [if_pos hc15] at h
      refine lv_iconst (v := 1) hx hb d_M_readClaims_145 (by decide) ?_
      refine lv_goto (tgt := 150) hx hb d_M_readClaims_146 rfl ?_
      exact w150 k49 hk49 v1 v2 v3 v4 v5 v6 t0 1 u _ _ _ (lv_sub hl [1, 2, 3, 4, 5, 6, 7, 0] rfl) hI h
    · rw [if_neg hc15] at h
      refine lv_iload hx hb d_M_readClaims_107 (lv_at hl 6 rfl) ?_
      refine lv_bipush (v := 47) hx hb d_M_readClaims_109 (by decide) ?_
      refine lv_icmp_eq (tgt := 145) hx hb d_M_readClaims_111 rfl (fun hc16 => ?_) (fun hc16 => ?_)
      · rw [if_pos hc16] at h
        refine lv_iconst (v := 1) hx hb d_M_readClaims_145 (by decide) ?_
        refine lv_goto (tgt := 150) hx hb d_M_readClaims_146 rfl ?_
        exact w150 k49 hk49 v1 v2 v3 v4 v5 v6 t0 1 u _ _ _ (lv_sub hl [1, 2, 3, 4, 5, 6, 7, 0] rfl) hI h
      · rw [if_neg hc16] at h
        refine lv_iload hx hb d_M_readClaims_114 (lv_at hl 6 rfl) ?_
        refine lv_bipush (v := 62) hx hb d_M_readClaims_116 (by decide) ?_
        refine lv_icmp_eq (tgt := 145) hx hb d_M_readClaims_118 rfl (fun hc17 => ?_) (fun hc17 => ?_)
        · rw [if_pos hc17] at h
          refine lv_iconst (v := 1) hx hb d_M_readClaims_145 (by decide) ?_
          refine lv_goto (tgt := 150) hx hb d_M_readClaims_146 rfl ?_
          exact w150 k49 hk49 v1 v2 v3 v4 v5 v6 t0 1 u _ _ _ (lv_sub hl [1, 2, 3, 4, 5, 6, 7, 0] rfl) hI h
        · rw [if_neg hc17] at h
          refine lv_iload hx hb d_M_readClaims_121 (lv_at hl 6 rfl) ?_
          refine lv_bipush (v := 33) hx hb d_M_readClaims_123 (by decide) ?_
          refine lv_icmp_eq (tgt := 145) hx hb d_M_readClaims_125 rfl (fun hc18 => ?_) (fun hc18 => ?_)
          · rw [if_pos hc18] at h
            refine lv_iconst (v := 1) hx hb d_M_readClaims_145 (by decide) ?_
            refine lv_goto (tgt := 150) hx hb d_M_readClaims_146 rfl ?_
            exact w150 k49 hk49 v1 v2 v3 v4 v5 v6 t0 1 u _ _ _ (lv_sub hl [1, 2, 3, 4, 5, 6, 7, 0] rfl) hI h
          · rw [if_neg hc18] at h
            refine lv_iload hx hb d_M_readClaims_128 (lv_at hl 6 rfl) ?_
            refine lv_bipush (v := 91) hx hb d_M_readClaims_130 (by decide) ?_
            refine lv_icmp_eq (tgt := 145) hx hb d_M_readClaims_132 rfl (fun hc19 => ?_) (fun hc19 => ?_)
            · rw [if_pos hc19] at h
              refine lv_iconst (v := 1) hx hb d_M_readClaims_145 (by decide) ?_
              refine lv_goto (tgt := 150) hx hb d_M_readClaims_146 rfl ?_
              exact w150 k49 hk49 v1 v2 v3 v4 v5 v6 t0 1 u _ _ _ (lv_sub hl [1, 2, 3, 4, 5, 6, 7, 0] rfl) hI h
            · rw [if_neg hc19] at h
              refine lv_iload hx hb d_M_readClaims_135 (lv_at hl 0 rfl) ?_
              refine lv_if_eq (tgt := 149) hx hb d_M_readClaims_137 rfl (fun hc20 => ?_) (fun hc20 => ?_)
              · rw [if_pos hc20] at h
                refine lv_iconst (v := 0) hx hb d_M_readClaims_149 (by decide) ?_
                exact w150 k49 hk49 v1 v2 v3 v4 v5 v6 t0 0 u _ _ _ (lv_sub hl [1, 2, 3, 4, 5, 6, 7, 0] rfl) hI h
              · rw [if_neg hc20] at h
                refine lv_iload_n hx hb d_M_readClaims_140 rfl (lv_at hl 4 rfl) ?_
                refine lv_iconst (v := 2) hx hb d_M_readClaims_141 (by decide) ?_
                refine lv_icmp_ge (tgt := 149) hx hb d_M_readClaims_142 rfl (fun hc21 => ?_) (fun hc21 => ?_)
                · rw [if_pos hc21] at h
                  refine lv_iconst (v := 0) hx hb d_M_readClaims_149 (by decide) ?_
                  exact w150 k49 hk49 v1 v2 v3 v4 v5 v6 t0 0 u _ _ _ (lv_sub hl [1, 2, 3, 4, 5, 6, 7, 0] rfl) hI h
                · rw [if_neg hc21] at h
                  refine lv_iconst (v := 1) hx hb d_M_readClaims_145 (by decide) ?_
                  refine lv_goto (tgt := 150) hx hb d_M_readClaims_146 rfl ?_
                  exact w150 k49 hk49 v1 v2 v3 v4 v5 v6 t0 1 u _ _ _ (lv_sub hl [1, 2, 3, 4, 5, 6, 7, 0] rfl) hI h
  have w79 : ∀ (k49 : Int32 → Int32 → Int32 → Int32 → MS → Option (Unit × MS)) (hk49 : ∀ (v1 : Int32) (v2 : Int32) (v3 : Int32) (v4 : Int32) (u : MS) (H : Heap) (locs : List Loc) (ls : Array Slot), lv_has ls 12 [(0, .ref (ad 0)), (1, .int v1), (2, .int v2), (3, .int v3), (4, .int v4)] → g_I D vwCl A s.heap H locs (m_W ad cA u) → k49 v1 v2 v3 v4 u = some (r0, u0) → W p l e { frames := 6, cells := 0, slots := 0, locals := 136 } s m ([.ref (ad 0)] : List Value).toArray below meth c H locs 0 0 (MQ below (g_Q D vwCl (m_T cA) (m_W ad cA u0) A none) ([.ref (ad 0)] : List Value).toArray s 0 0 A) (F0 m 49 ls [])) (v1 : Int32) (v2 : Int32) (v3 : Int32) (v4 : Int32) (v5 : Int32) (t0 : Int32) (u : MS) (H : Heap) (locs : List Loc) (ls : Array Slot), lv_has ls 12 [(0, .ref (ad 0)), (1, .int v1), (2, .int v2), (3, .int v3), (4, .int v4), (5, .int v5)] → g_I D vwCl A s.heap H locs (m_W ad cA u) → f_M_readClaims_J79 k49 v1 v2 v3 v4 v5 t0 u = some (r0, u0) → W p l e { frames := 6, cells := 0, slots := 0, locals := 136 } s m ([.ref (ad 0)] : List Value).toArray below meth c H locs 0 0 (MQ below (g_Q D vwCl (m_T cA) (m_W ad cA u0) A none) ([.ref (ad 0)] : List Value).toArray s 0 0 A) (F0 m 79 ls [.int t0]) := by
    intro k49 hk49 v1 v2 v3 v4 v5 t0 u H locs ls hl hI h
    dsimp only [f_M_readClaims_J79] at h
    refine lv_istore (lv' := [(6, .int t0), (0, .ref (ad 0)), (1, .int v1), (2, .int v2), (3, .int v3), (4, .int v4), (5, .int v5)]) hx hb d_M_readClaims_79 hl (by decide) rfl (fun ls hl => ?_)
    refine lv_iload hx hb d_M_readClaims_81 (lv_at hl 0 rfl) ?_
    refine lv_if_ne (tgt := 93) hx hb d_M_readClaims_83 rfl (fun hc13 => ?_) (fun hc13 => ?_)
    · rw [if_neg hc13] at h
      refine lv_iconst (v := 1) hx hb d_M_readClaims_93 (by decide) ?_
      refine lv_goto (tgt := 98) hx hb d_M_readClaims_94 rfl ?_
      exact w98 k49 hk49 v1 v2 v3 v4 v5 t0 1 u _ _ _ (lv_sub hl [1, 2, 3, 4, 5, 6, 0] rfl) hI h
    · rw [if_pos hc13] at h
      refine lv_iload hx hb d_M_readClaims_86 (lv_at hl 6 rfl) ?_
      refine lv_bipush (v := 69) hx hb d_M_readClaims_88 (by decide) ?_
      refine lv_icmp_ne (tgt := 97) hx hb d_M_readClaims_90 rfl (fun hc14 => ?_) (fun hc14 => ?_)
      · rw [if_neg hc14] at h
        refine lv_iconst (v := 0) hx hb d_M_readClaims_97 (by decide) ?_
        exact w98 k49 hk49 v1 v2 v3 v4 v5 t0 0 u _ _ _ (lv_sub hl [1, 2, 3, 4, 5, 6, 0] rfl) hI h
      · rw [if_pos hc14] at h
        refine lv_iconst (v := 1) hx hb d_M_readClaims_93 (by decide) ?_
        refine lv_goto (tgt := 98) hx hb d_M_readClaims_94 rfl ?_
        exact w98 k49 hk49 v1 v2 v3 v4 v5 t0 1 u _ _ _ (lv_sub hl [1, 2, 3, 4, 5, 6, 0] rfl) hI h
  have w49 : ∀ (n : Nat) (v1 : Int32) (v2 : Int32) (v3 : Int32) (v4 : Int32) (u : MS) (H : Heap) (locs : List Loc) (ls : Array Slot), lv_has ls 12 [(0, .ref (ad 0)), (1, .int v1), (2, .int v2), (3, .int v3), (4, .int v4)] → g_I D vwCl A s.heap H locs (m_W ad cA u) → f_M_readClaims_L49 n v1 v2 v3 v4 u = some (r0, u0) → W p l e { frames := 6, cells := 0, slots := 0, locals := 136 } s m ([.ref (ad 0)] : List Value).toArray below meth c H locs 0 0 (MQ below (g_Q D vwCl (m_T cA) (m_W ad cA u0) A none) ([.ref (ad 0)] : List Value).toArray s 0 0 A) (F0 m 49 ls []) := by
    intro  n
    induction n with
    | zero => intro v1 v2 v3 v4 u H locs ls hl hI h; cases h
    | succ n ih =>
      intro v1 v2 v3 v4 u H locs ls hl hI h
      dsimp only [f_M_readClaims_L49] at h
      refine lv_aload_n hx hb d_M_readClaims_49 rfl (lv_at hl 0 rfl) ?_
      refine g_get (v := .int (m_fa u)) hx hb hts in_M hown hK hI 0 rfl rfl 4 (by decide) (hts _ wd_396) rfl d_M_readClaims_50 ?_
      refine lv_if_ge (tgt := 563) hx hb d_M_readClaims_53 rfl (fun hc8 => ?_) (fun hc8 => ?_)
      · rw [if_pos hc8] at h
        exact g_vret (Wd := m_W ad cA) hx hb hr hlk hK hI h d_M_readClaims_563
      · rw [if_neg hc8] at h
        refine lv_iload hx hb d_M_readClaims_56 (lv_at hl 4 rfl) ?_
        refine lv_if_ne (tgt := 563) hx hb d_M_readClaims_58 rfl (fun hc9 => ?_) (fun hc9 => ?_)
        · rw [if_neg hc9] at h
          exact g_vret (Wd := m_W ad cA) hx hb hr hlk hK hI h d_M_readClaims_563
        · rw [if_pos hc9] at h
          refine lv_aload_n hx hb d_M_readClaims_61 rfl (lv_at hl 0 rfl) ?_
          obtain ⟨r10, u11, hc, h⟩ := ob_e h
          refine g_callV (As := []) (rest := []) (w' := m_W ad cA u11) (o := some (.int r10)) ⟨hx, hb, hml, hown, hts⟩ (c_M_look l D ad cA hc) (cwV 0 hts gq_M_83 rfl rfl rfl (by decide +kernel) ⟨Nat.le_of_ble_eq_true rfl, Nat.le_of_ble_eq_true rfl⟩) hK hI hA 0 5 rfl rfl rfl hl.1 rfl (Nat.le_of_ble_eq_true rfl) d_M_readClaims_62 ⟨Nat.zero_le _, Nat.zero_le _⟩ rfl (fun H locs hI => ?_)
          refine lv_istore (lv' := [(5, .int r10), (0, .ref (ad 0)), (1, .int v1), (2, .int v2), (3, .int v3), (4, .int v4)]) hx hb d_M_readClaims_65 hl (by decide) rfl (fun ls hl => ?_)
          refine lv_iload hx hb d_M_readClaims_67 (lv_at hl 0 rfl) ?_
          refine lv_bipush (v := 65) hx hb d_M_readClaims_69 (by decide) ?_
          refine lv_icmp_ne (tgt := 78) hx hb d_M_readClaims_71 rfl (fun hc12 => ?_) (fun hc12 => ?_)
          · rw [if_neg hc12] at h
            refine lv_iconst (v := 0) hx hb d_M_readClaims_78 (by decide) ?_
            exact w79 (f_M_readClaims_L49 n) ih v1 v2 v3 v4 r10 0 u11 _ _ _ (lv_sub hl [1, 2, 3, 4, 5, 0] rfl) hI h
          · rw [if_pos hc12] at h
            refine lv_iconst (v := 1) hx hb d_M_readClaims_74 (by decide) ?_
            refine lv_goto (tgt := 79) hx hb d_M_readClaims_75 rfl ?_
            exact w79 (f_M_readClaims_L49 n) ih v1 v2 v3 v4 r10 1 u11 _ _ _ (lv_sub hl [1, 2, 3, 4, 5, 0] rfl) hI h
  have w22 : ∀ (n : Nat) (v1 : Int32) (u : MS) (H : Heap) (locs : List Loc) (ls : Array Slot), lv_has ls 12 [(0, .ref (ad 0)), (1, .int v1)] → g_I D vwCl A s.heap H locs (m_W ad cA u) → f_M_readClaims_L22 n v1 u = some (r0, u0) → W p l e { frames := 6, cells := 0, slots := 0, locals := 136 } s m ([.ref (ad 0)] : List Value).toArray below meth c H locs 0 0 (MQ below (g_Q D vwCl (m_T cA) (m_W ad cA u0) A none) ([.ref (ad 0)] : List Value).toArray s 0 0 A) (F0 m 22 ls []) := by
    intro  n
    induction n with
    | zero => intro v1 u H locs ls hl hI h; cases h
    | succ n ih =>
      intro v1 u H locs ls hl hI h
      dsimp only [f_M_readClaims_L22] at h
      refine lv_iload_n hx hb d_M_readClaims_22 rfl (lv_at hl 1 rfl) ?_
      refine lv_iconst (v := 3) hx hb d_M_readClaims_23 (by decide) ?_
      refine lv_icmp_ge (tgt := 40) hx hb d_M_readClaims_24 rfl (fun hc5 => ?_) (fun hc5 => ?_)
      · rw [if_pos hc5] at h
        refine lv_iconst (v := 0) hx hb d_M_readClaims_40 (by decide) ?_
        refine lv_istore_n (lv' := [(1, .int 0), (0, .ref (ad 0))]) hx hb d_M_readClaims_41 rfl hl (by decide) rfl (fun ls hl => ?_)
        refine lv_iconst (v := (-1)) hx hb d_M_readClaims_42 (by decide) ?_
        refine lv_istore_n (lv' := [(2, .int ((-1))), (1, .int 0), (0, .ref (ad 0))]) hx hb d_M_readClaims_43 rfl hl (by decide) rfl (fun ls hl => ?_)
        refine lv_iconst (v := 0) hx hb d_M_readClaims_44 (by decide) ?_
        refine lv_istore_n (lv' := [(3, .int 0), (2, .int ((-1))), (1, .int 0), (0, .ref (ad 0))]) hx hb d_M_readClaims_45 rfl hl (by decide) rfl (fun ls hl => ?_)
        refine lv_iconst (v := 0) hx hb d_M_readClaims_46 (by decide) ?_
        refine lv_istore (lv' := [(4, .int 0), (3, .int 0), (2, .int ((-1))), (1, .int 0), (0, .ref (ad 0))]) hx hb d_M_readClaims_47 hl (by decide) rfl (fun ls hl => ?_)
        exact w49 4096 0 ((-1)) 0 0 u _ _ _ (lv_sub hl [4, 3, 2, 1, 0] rfl) hI h
      · rw [if_neg hc5] at h
        refine lv_aload_n hx hb d_M_readClaims_27 rfl (lv_at hl 0 rfl) ?_
        refine g_get (v := .ref (ad 10)) hx hb hts in_M hown hK hI 0 rfl rfl 21 (by decide) (hts _ wd_413) rfl d_M_readClaims_28 ?_
        refine lv_iload_n hx hb d_M_readClaims_31 rfl (lv_at hl 1 rfl) ?_
        refine lv_iconst (v := 0) hx hb d_M_readClaims_32 (by decide) ?_
        obtain ⟨hg, h⟩ := gd_e h
        obtain ⟨u6, e_u6, h⟩ := lt_e h
        refine g_iast (w' := m_W ad cA u6) hx hb hK hI 10 9 rfl rfl hg d_M_readClaims_33 (by subst e_u6; rfl) (fun H locs hI => ?_)
        obtain ⟨x7, e_x7, h⟩ := lt_e h
        refine lv_iinc (v := x7) (k := 1) hx hb d_M_readClaims_34 hl rfl (by subst e_x7; rfl) (by decide) rfl (fun ls hl => ?_)
        refine lv_goto (tgt := 22) hx hb d_M_readClaims_37 rfl ?_
        exact ih x7 u6 _ _ _ (lv_sub hl [1, 0] rfl) hI h
  dsimp only [f_M_readClaims] at h
  refine lv_aload_n hx hb d_M_readClaims_0 rfl (lv_at hl 0 rfl) ?_
  refine lv_iconst (v := 0) hx hb d_M_readClaims_1 (by decide) ?_
  obtain ⟨u1, e_u1, h⟩ := lt_e h
  refine g_put (t := .int) (w' := m_W ad cA u1) hx hb hts in_M ty_M tyok_M nm_M hown hK hI 0 rfl rfl 13 (by decide) (hts _ wd_405) rfl (by decide +kernel) rfl rfl (Nat.le_of_ble_eq_true rfl) d_M_readClaims_2 (by subst e_u1; rfl) (fun H locs hI => ?_)
  refine lv_aload_n hx hb d_M_readClaims_5 rfl (lv_at hl 0 rfl) ?_
  refine lv_iconst (v := 0) hx hb d_M_readClaims_6 (by decide) ?_
  obtain ⟨u2, e_u2, h⟩ := lt_e h
  refine g_put (t := .int) (w' := m_W ad cA u2) hx hb hts in_M ty_M tyok_M nm_M hown hK hI 0 rfl rfl 14 (by decide) (hts _ wd_406) rfl (by decide +kernel) rfl rfl (Nat.le_of_ble_eq_true rfl) d_M_readClaims_7 (by subst e_u2; rfl) (fun H locs hI => ?_)
  refine lv_aload_n hx hb d_M_readClaims_10 rfl (lv_at hl 0 rfl) ?_
  refine lv_iconst (v := 0) hx hb d_M_readClaims_11 (by decide) ?_
  obtain ⟨u3, e_u3, h⟩ := lt_e h
  refine g_put (t := .boolean) (w' := m_W ad cA u3) hx hb hts in_M ty_M tyok_M nm_M hown hK hI 0 rfl rfl 15 (by decide) (hts _ wd_407) rfl (by decide +kernel) (by decide +kernel) (by decide +kernel) (Nat.le_of_ble_eq_true rfl) d_M_readClaims_12 (by subst e_u3; rfl) (fun H locs hI => ?_)
  refine lv_aload_n hx hb d_M_readClaims_15 rfl (lv_at hl 0 rfl) ?_
  refine lv_iconst (v := 0) hx hb d_M_readClaims_16 (by decide) ?_
  obtain ⟨u4, e_u4, h⟩ := lt_e h
  refine g_put (t := .boolean) (w' := m_W ad cA u4) hx hb hts in_M ty_M tyok_M nm_M hown hK hI 0 rfl rfl 16 (by decide) (hts _ wd_408) rfl (by decide +kernel) (by decide +kernel) (by decide +kernel) (Nat.le_of_ble_eq_true rfl) d_M_readClaims_17 (by subst e_u4; rfl) (fun H locs hI => ?_)
  refine lv_iconst (v := 0) hx hb d_M_readClaims_20 (by decide) ?_
  refine lv_istore_n (lv' := [(1, .int 0), (0, .ref (ad 0))]) hx hb d_M_readClaims_21 rfl hl (by decide) rfl (fun ls hl => ?_)
  exact w22 4096 0 u4 _ _ _ (lv_sub hl [1, 0] rfl) hI h
