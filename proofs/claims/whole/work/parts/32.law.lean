set_option maxRecDepth 100000 in
set_option maxHeartbeats 8000000 in
theorem whole_start_open (Inv : KS → MS → Prop) (hInv0 : Inv k0 m0) (t_type : ∀ {a b : Int32} {uk : KS} {um : MS}, Inv uk um → ∃ (r : Int32) (uk1 : KS) (um1 : MS), f_L_type a b uk = some (r, uk1) ∧ f_M_type a b um = some (r, um1) ∧ Inv uk1 um1) (t_take : ∀ {uk : KS} {um : MS}, Inv uk um → ∃ (r : Int32) (uk1 : KS) (um1 : MS), f_L_take uk = some (r, uk1) ∧ f_M_take um = some (r, um1) ∧ Inv uk1 um1) (t_free : ∀ {uk : KS} {um : MS}, Inv uk um → ∃ (r : Int32) (uk1 : KS) (um1 : MS), f_L_free uk = some (r, uk1) ∧ f_M_free um = some (r, um1) ∧ Inv uk1 um1) (t_holds : ∀ {a : Int32} {uk : KS} {um : MS}, Inv uk um → ∃ (r : Int32) (uk1 : KS) (um1 : MS), f_L_holds a uk = some (r, uk1) ∧ f_M_holds a um = some (r, um1) ∧ Inv uk1 um1) (t_some : ∀ {uk : KS} {um : MS}, Inv uk um → ∃ (r : Int32) (uk1 : KS) (um1 : MS), f_L_some uk = some (r, uk1) ∧ f_M_some um = some (r, um1) ∧ Inv uk1 um1) (t_all : ∀ {uk : KS} {um : MS}, Inv uk um → ∃ (r : Int32) (uk1 : KS) (um1 : MS), f_L_all uk = some (r, uk1) ∧ f_M_all um = some (r, um1) ∧ Inv uk1 um1) (t_next : ∀ {a : Int32} {uk : KS} {um : MS}, Inv uk um → ∃ (r : Int32) (uk1 : KS) (um1 : MS), f_L_next a uk = some (r, uk1) ∧ f_M_next a um = some (r, um1) ∧ Inv uk1 um1) (t_last : ∀ {a : Int32} {uk : KS} {um : MS}, Inv uk um → ∃ (r : Int32) (uk1 : KS) (um1 : MS), f_L_last a uk = some (r, uk1) ∧ f_M_last a um = some (r, um1) ∧ Inv uk1 um1) (t_again : ∀ {a : Int32} {uk : KS} {um : MS}, a = 0 ∨ a = 1 → Inv uk um → ∃ (r : Int32) (uk1 : KS) (um1 : MS), f_L_again a uk = some (r, uk1) ∧ f_M_again a um = some (r, um1) ∧ Inv uk1 um1) (t_count : ∀ {a b : Int32} {uk : KS} {um : MS}, Inv uk um → ∃ (r : Int32) (uk1 : KS) (um1 : MS), f_L_count a b uk = some (r, uk1) ∧ f_M_count a b um = some (r, um1) ∧ Inv uk1 um1) (t_period : ∀ {uk : KS} {um : MS}, Inv uk um → ∃ (r : Int32) (uk1 : KS) (um1 : MS), f_L_period uk = some (r, uk1) ∧ f_M_period um = some (r, um1) ∧ Inv uk1 um1) {p : Program} {e : Env} {s : State} {m : MethodId} {below : List Frame} {meth : Method} {c : Code} (l : Launch) {b L : Nat} {xs : Nat → Int32} (hL : L ≤ 1536) (C0 : lw_At p s m meth c b L xs) : W p l e room_1 s m #[Value.ref b] below meth c s.heap [] 0 0 (lw_Z below #[Value.ref b] s) (entryFrame m ([Value.ref b] : List Value).toArray 4) := by
  obtain ⟨hx, hb, hr, hml, hown, hts, hX, hbl, hlk, hgv⟩ := C0
  have htg : ∀ w ∈ gW, w.before #[Value.ref b] s = true := fun w h => hts w (List.mem_filter.mp h).1
  obtain ⟨cL, iL, kL⟩ := u_known htg in_L (htg _ wd_9)
  obtain ⟨cT, iT, kT⟩ := u_known htg in_T (htg _ wd_17)
  obtain ⟨cC, iC, kC⟩ := u_known htg in_C (htg _ wd_37)
  obtain ⟨cR, iR, kR⟩ := u_known htg in_R (htg _ wd_71)
  obtain ⟨cW, iW, kW⟩ := u_known htg in_W (htg _ wd_93)
  obtain ⟨cM, iM, kM⟩ := u_known htg in_M (htg _ wd_387)
  have hK : va_K ((fun c => [cL, cT, cC, cR, cW, cM].getD c 0), (fun c => [iL, iT, iC, iR, iW, iM].getD c (fun _ => 0))) vwCl [] s := ⟨fun c q hq => match c, hq with
    | 0, hq => by cases hq; exact kL
    | 1, hq => by cases hq; exact kT
    | 2, hq => by cases hq; exact kC
    | 3, hq => by cases hq; exact kR
    | 4, hq => by cases hq; exact kW
    | 5, hq => by cases hq; exact kM
    | _ + 6, hq => (by cases hq), fun k q hk => (by cases hk)⟩
  generalize ((fun c => [cL, cT, cC, cR, cW, cM].getD c 0), (fun c => [iL, iT, iC, iR, iW, iM].getD c (fun _ => 0))) = D at hK
  obtain ⟨A, hAd⟩ : ∃ A : Nat → Prop, A = fun q => s.heap.size ≤ q := ⟨_, rfl⟩
  have hA : ∀ q : Nat, s.heap.size ≤ q → A q := fun q h => by rw [hAd]; exact h
  have hbA : ¬ A b := by rw [hAd]; exact Nat.not_le.mpr hbl
  have hS : va_S A s.heap s.heap [] := va_S.rf
  have hP : va_P D vwCl [] s.heap := fun k q h => by cases h
  have hD : va_D A [] := ⟨fun i j p q h => (by cases h), fun k q h => (by cases h)⟩
  have hl := lv_entry ([.ref b]) (n := 4) (Nat.le_of_ble_eq_true rfl)
  rw [lg_entry_eq]
  generalize (lg_sl ([.ref b]) ++ List.replicate (4 - (lg_sl ([.ref b])).length) Slot.unset).toArray = ls at hl ⊢
  have hl : lv_has ls 4 [(0, .ref b)] := hl
  have hNT : nwT s := (va_Nw.of rfl (hts _ (List.mem_append_right _ (List.mem_of_getElem? (i := 18) (by decide +kernel)))))
  have hNC : nwC s := (va_Nw.of rfl (hts _ (List.mem_append_right _ (List.mem_of_getElem? (i := 38) (by decide +kernel)))))
  refine va_new (ci := 0) (fs := [.null, .null, .null, .null, .int 0]) (C := R_L) (T := T_L) (N := 5) hx hb htg in_L ty_L tyok_L hown (htg _ wd_8) (htg _ wd_9) (htg _ wd_1) hK hP hD hS hA rfl (fun j hj => by rcases (show j = 0 ∨ j = 1 ∨ j = 2 ∨ j = 3 ∨ j = 4 by omega) with rfl | rfl | rfl | rfl | rfl <;> rfl) (Nat.le_of_ble_eq_true rfl) (Nat.le_of_ble_eq_true rfl) d_Law_0 (fun qx H hP hD hS => ?_)
  have hP : va_P D vwCl [(qx, .inr (0, [.null, .null, .null, .null, .int 0]))] H := hP
  have hD : va_D A [(qx, .inr (0, [.null, .null, .null, .null, .int 0]))] := hD
  refine lv_dup hx hb d_Law_3 rfl ?_
  have hPc := hP.sub (ws' := [(qx, .inr (0, [.null, .null, .null, .null, .int 0]))]) [0] rfl
  have hDc := hD.sub (ws' := [(qx, .inr (0, [.null, .null, .null, .null, .int 0]))]) [0] (by decide) rfl
  have hFc := va_free (wc := [(qx, .inr (0, [.null, .null, .null, .null, .int 0]))]) hD hS hA [0] rfl
  refine va_callv (va_runI (As := []) (rest := [.ref qx]) ⟨hx, hb, hml, hown, htg⟩ (c_L_init l D qx H.size) (cwI 0 htg (gw_C wd_12) rfl rfl rfl (htg _ wd_1) (htg _ wd_10) (htg _ wd_11) rfl (by decide +kernel) ⟨Nat.le_of_ble_eq_true rfl, Nat.le_of_ble_eq_true rfl⟩) ⟨fun a U g mk q => by obtain ⟨q0, n1, n2, q1, qP, qK, qD⟩ := q; exact ⟨q0, va_Nw.same rfl rfl n1, va_Nw.same rfl rfl n2, q1, qP, va_K.moved (u := U) (U := U.calling g mk a) (Vm.Alike.refl U.vm) qK, qD⟩, fun U hU hW => ⟨rfl, va_Nw.warmM hW hNT, va_Nw.warmM hW hNC, by rw [hU], by rw [hU]; exact hPc, va_K.moved hW.alike hK, hDc.weaken (fun _ _ _ _ => trivial)⟩⟩ rfl rfl hl.1 rfl (lv_room (Nat.le_of_ble_eq_true rfl)) d_Law_4 ⟨Nat.le_of_ble_eq_true rfl, Nat.le_of_ble_eq_true rfl⟩) hS (fun q _ h => hFc q h) hFc (fun u t H1 locs ht hvm hq hB hz1 hk1 hS => ?_)
  obtain ⟨aK, bK⟩ := u
  obtain ⟨hP1, hK1, hD1⟩ := hB
  rw [ht] at hP1
  have hKk := va_K.moved hvm.symm hK1
  have hq : aK 0 = qx := hq
  subst hq
  obtain ⟨hP, hD⟩ := va_join (wr := []) (w1 := k_W aK bK k0) hP hD [0] [] rfl rfl (by decide) (by decide) hk1 hFc hP1 hD1
  generalize H1 = H at hP hS ⊢
  have hP : va_P D vwCl (k_W aK bK k0) H := hP
  have hD : va_D A (k_W aK bK k0) := hD
  refine lv_astore_n (lv' := [(1, .ref (aK 0)), (0, .ref b)]) hx hb d_Law_7 rfl hl (by decide) rfl (fun ls hl => ?_)
  refine va_new (ci := 5) (fs := [.null, .int 0, .int 0, .int 0, .int 0, .int 0, .int 0, .int 0, .int 0, .null, .null, .null, .null, .int 0, .int 0, .int 0, .int 0, .null, .null, .null, .null, .null, .null, .null, .null, .null, .null, .null]) (C := R_M) (T := T_M) (N := 28) hx hb htg in_M ty_M tyok_M hown (htg _ wd_386) (htg _ wd_387) (htg _ wd_6) hK hP hD hS hA rfl (fun j hj => by rcases (show j = 0 ∨ j = 1 ∨ j = 2 ∨ j = 3 ∨ j = 4 ∨ j = 5 ∨ j = 6 ∨ j = 7 ∨ j = 8 ∨ j = 9 ∨ j = 10 ∨ j = 11 ∨ j = 12 ∨ j = 13 ∨ j = 14 ∨ j = 15 ∨ j = 16 ∨ j = 17 ∨ j = 18 ∨ j = 19 ∨ j = 20 ∨ j = 21 ∨ j = 22 ∨ j = 23 ∨ j = 24 ∨ j = 25 ∨ j = 26 ∨ j = 27 by omega) with rfl | rfl | rfl | rfl | rfl | rfl | rfl | rfl | rfl | rfl | rfl | rfl | rfl | rfl | rfl | rfl | rfl | rfl | rfl | rfl | rfl | rfl | rfl | rfl | rfl | rfl | rfl | rfl <;> rfl) (Nat.le_of_ble_eq_true rfl) (Nat.le_of_ble_eq_true rfl) d_Law_8 (fun qm H hP hD hS => ?_)
  refine lv_dup hx hb d_Law_11 rfl ?_
  have hPc := hP.sub (ws' := [(qm, .inr (5, [.null, .int 0, .int 0, .int 0, .int 0, .int 0, .int 0, .int 0, .int 0, .null, .null, .null, .null, .int 0, .int 0, .int 0, .int 0, .null, .null, .null, .null, .null, .null, .null, .null, .null, .null, .null]))]) [16] rfl
  have hDc := hD.sub (ws' := [(qm, .inr (5, [.null, .int 0, .int 0, .int 0, .int 0, .int 0, .int 0, .int 0, .int 0, .null, .null, .null, .null, .int 0, .int 0, .int 0, .int 0, .null, .null, .null, .null, .null, .null, .null, .null, .null, .null, .null]))]) [16] (by decide) rfl
  have hFc := va_free (wc := [(qm, .inr (5, [.null, .int 0, .int 0, .int 0, .int 0, .int 0, .int 0, .int 0, .int 0, .null, .null, .null, .null, .int 0, .int 0, .int 0, .int 0, .null, .null, .null, .null, .null, .null, .null, .null, .null, .null, .null]))]) hD hS hA [16] rfl
  refine va_callv (va_runI (As := []) (rest := [.ref qm]) ⟨hx, hb, hml, hown, htg⟩ (c_M_init l D qm H.size) (cwI 0 htg (gw_C wd_390) rfl rfl rfl (htg _ wd_6) (htg _ wd_388) (htg _ wd_389) rfl (by decide +kernel) ⟨Nat.le_of_ble_eq_true rfl, Nat.le_of_ble_eq_true rfl⟩) ⟨fun a U g mk q => by obtain ⟨q0, q1, qP, qK, qD⟩ := q; exact ⟨q0, q1, qP, va_K.moved (u := U) (U := U.calling g mk a) (Vm.Alike.refl U.vm) qK, qD⟩, fun U hU hW => ⟨rfl, by rw [hU], by rw [hU]; exact hPc, va_K.moved hW.alike hK, hDc.weaken (fun _ _ _ _ => trivial)⟩⟩ rfl rfl hl.1 rfl (lv_room (Nat.le_of_ble_eq_true rfl)) d_Law_12 ⟨Nat.le_of_ble_eq_true rfl, Nat.le_of_ble_eq_true rfl⟩) hS (fun q _ h => hFc q h) hFc (fun u t H1 locs ht hvm hq hB hz1 hk1 hS => ?_)
  obtain ⟨aM, bM⟩ := u
  obtain ⟨hP1, hK1, hD1⟩ := hB
  rw [ht] at hP1
  have hKm := va_K.moved hvm.symm hK1
  have hq : aM 0 = qm := hq
  subst hq
  obtain ⟨hP, hD⟩ := va_join (wr := k_W aK bK k0) (w1 := m_W aM bM m0) hP hD [16] [0, 1, 2, 3, 4, 5, 6, 7, 8, 9, 10, 11, 12, 13, 14, 15] rfl rfl (by decide) (by decide) hk1 hFc hP1 hD1
  generalize H1 = H at hP hS ⊢
  have hKk : va_K D vwCl (k_T bK) s := hKk
  have hKm : va_K D vwCl (m_T bM) s := hKm
  have hP : va_P D vwCl (k_W aK bK k0 ++ m_W aM bM m0) H := hP
  have hD : va_D A (k_W aK bK k0 ++ m_W aM bM m0) := hD
  have hLI : l_I D vwCl A s.heap H locs (k_W aK bK k0) (m_W aM bM m0) := ⟨⟨hP.sub (ws' := k_W aK bK k0) [0, 1, 2, 3, 4, 5, 6, 7, 8, 9, 10, 11, 12, 13, 14, 15] rfl, hD.sub (ws' := k_W aK bK k0) [0, 1, 2, 3, 4, 5, 6, 7, 8, 9, 10, 11, 12, 13, 14, 15] (by decide) rfl, hS⟩, hP.sub (ws' := m_W aM bM m0) [16, 17, 18, 19, 20, 21, 22, 23, 24, 25, 26, 27, 28, 29, 30, 31, 32] rfl, hD.sub (ws' := m_W aM bM m0) [16, 17, 18, 19, 20, 21, 22, 23, 24, 25, 26, 27, 28, 29, 30, 31, 32] (by decide) rfl, l_apart hD⟩
  refine lv_astore_n (lv' := [(2, .ref (aM 0)), (1, .ref (aK 0)), (0, .ref b)]) hx hb d_Law_15 rfl hl (by decide) rfl (fun ls hl => ?_)
  refine lv_iconst (v := 0) hx hb d_Law_16 (by decide) ?_
  refine lv_istore_n (lv' := [(3, .int 0), (2, .ref (aM 0)), (1, .ref (aK 0)), (0, .ref b)]) hx hb d_Law_17 rfl hl (by decide) rfl (fun ls hl => ?_)
  have w18 : ∀ (n j : Nat) (uk : KS) (um : MS) (H : Heap) (locs : List Loc) (ls : Array Slot), L ≤ 3 * j + 3 * n → 3 * j ≤ L + 3 → lv_has ls 4 [(0, .ref b), (1, .ref (aK 0)), (2, .ref (aM 0)), (3, .int (nI (3 * j)))] → l_I D vwCl A s.heap H locs (k_W aK bK uk) (m_W aM bM um) → Inv uk um → W p l e room_1 s m #[Value.ref b] below meth c H locs 33 998 (lw_Z below #[Value.ref b] s) (F0 m 18 ls []) := by
    intro n
    induction n with
    | zero =>
      intro j uk um H locs ls hn hj hl hLI hInv
      refine lv_iload_n hx hb d_Law_18 rfl (lv_at hl 3 rfl) ?_
      refine lv_aload_n hx hb d_Law_19 rfl (lv_at hl 0 rfl) ?_
      refine va_slen hx hb hX hbl hbA hLI.1.2.2 d_Law_20 ?_
      refine lv_iconst (v := 3) hx hb d_Law_21 (by decide) ?_
      refine lv_isub hx hb d_Law_22 ?_
      refine lv_icmp_gt (tgt := 337) hx hb d_Law_23 rfl (fun hc => ?_) (fun hc => absurd ((law_gt (by omega) (by omega)).mpr (by omega)) hc)
      · skip
        refine lv_iconst (v := 1) hx hb d_Law_337 (by decide) ?_
        refine va_forget (fun q hq => by have h9 := hLI.1.2.2.2.2 q hq; rw [hAd] at h9; exact h9) ?_
        refine W.widen (k := 600000) (n := 7302250) (Nat.le_of_ble_eq_true rfl) (Nat.le_of_ble_eq_true rfl) ?_
        exact lw_ret hx hb hr hlk d_Law_338
    | succ n ih =>
      intro j uk um H locs ls hn hj hl hLI hInv
      have w331 : 3 * j + 3 ≤ L → ∀ (uk : KS) (um : MS) (H : Heap) (locs : List Loc) (ls : Array Slot), lv_has ls 4 [(0, .ref b), (1, .ref (aK 0)), (2, .ref (aM 0)), (3, .int (nI (3 * j)))] → l_I D vwCl A s.heap H locs (k_W aK bK uk) (m_W aM bM um) → Inv uk um → W p l e room_1 s m #[Value.ref b] below meth c H locs 33 998 (lw_Z below #[Value.ref b] s) (F0 m 331 ls []) := by
        intro h3 uk um H locs ls hl hLI hInv
        refine lv_iinc (v := nI (3 * (j + 1))) (k := 3) hx hb d_Law_331 hl rfl (nI_add (3 * j) 3) (by decide) rfl (fun ls hl => ?_)
        refine lv_goto (tgt := 18) hx hb d_Law_334 rfl ?_
        exact ih (j + 1) uk um _ _ _ (by omega) (by omega) (lv_sub hl [1, 2, 3, 0] rfl) hLI hInv
      refine lv_iload_n hx hb d_Law_18 rfl (lv_at hl 3 rfl) ?_
      refine lv_aload_n hx hb d_Law_19 rfl (lv_at hl 0 rfl) ?_
      refine va_slen hx hb hX hbl hbA hLI.1.2.2 d_Law_20 ?_
      refine lv_iconst (v := 3) hx hb d_Law_21 (by decide) ?_
      refine lv_isub hx hb d_Law_22 ?_
      refine lv_icmp_gt (tgt := 337) hx hb d_Law_23 rfl (fun hc => ?_) (fun hc => ?_)
      · skip
        refine lv_iconst (v := 1) hx hb d_Law_337 (by decide) ?_
        refine va_forget (fun q hq => by have h9 := hLI.1.2.2.2.2 q hq; rw [hAd] at h9; exact h9) ?_
        refine W.widen (k := 600000) (n := 7302250) (Nat.le_of_ble_eq_true rfl) (Nat.le_of_ble_eq_true rfl) ?_
        exact lw_ret hx hb hr hlk d_Law_338
      · skip
        have h3 : 3 * j + 3 ≤ L := by
          rcases Nat.lt_or_ge L (3 * j + 3) with h | h
          · exact absurd ((law_gt (by omega) (by omega)).mpr (by omega)) hc
          · exact h
        have hin0 : vp_in (nI (3 * j)) L := vp_in_nI (by omega) (by omega)
        have hin1 : vp_in (nI (3 * j) + 1) L := by rw [nI_1]; exact vp_in_nI (by omega) (by omega)
        have hin2 : vp_in (nI (3 * j) + 2) L := by rw [nI_two]; exact vp_in_nI (by omega) (by omega)
        refine lv_aload_n hx hb d_Law_26 rfl (lv_at hl 0 rfl) ?_
        refine lv_iload_n hx hb d_Law_27 rfl (lv_at hl 3 rfl) ?_
        refine va_sld hx hb hX hbl hbA hLI.1.2.2 hin0 d_Law_28 ?_
        refine lv_bipush (v := 15) hx hb d_Law_29 (by decide) ?_
        refine lv_iand hx hb d_Law_31 ?_
        obtain ⟨k, hk, ek⟩ := pk_andE (xs (nI (3 * j)).toNatClampNeg) (m := 15) 4 (by decide)
        have hk : k < 16 := hk
        rcases (show k = 0 ∨ k = 1 ∨ k = 2 ∨ k = 3 ∨ k = 4 ∨ k = 5 ∨ k = 6 ∨ k = 7 ∨ k = 8 ∨ k = 9 ∨ k = 10 ∨ k = 11 ∨ k = 12 ∨ k = 13 ∨ k = 14 ∨ k = 15 by omega) with rfl | rfl | rfl | rfl | rfl | rfl | rfl | rfl | rfl | rfl | rfl | rfl | rfl | rfl | rfl | rfl
        · skip
          refine lv_tableIn (off := 60) (tgt := 92) hx hb d_Law_32 (by rw [ek]; decide +kernel) (by rw [ek]; decide +kernel) (by rw [ek]; decide +kernel) rfl ?_
          obtain ⟨r, uk1, um1, hf, hg, hInv1⟩ := t_type (a := xs (nI (3 * j) + 1).toNatClampNeg) (b := xs (nI (3 * j) + 2).toNatClampNeg) hInv
          refine lv_aload_n hx hb d_Law_92 rfl (lv_at hl 1 rfl) ?_
          refine lv_aload_n hx hb d_Law_93 rfl (lv_at hl 0 rfl) ?_
          refine lv_iload_n hx hb d_Law_94 rfl (lv_at hl 3 rfl) ?_
          refine lv_iconst (v := 1) hx hb d_Law_95 (by decide) ?_
          refine lv_iadd hx hb d_Law_96 ?_
          refine va_sld hx hb hX hbl hbA hLI.1.2.2 hin1 d_Law_97 ?_
          refine lv_aload_n hx hb d_Law_98 rfl (lv_at hl 0 rfl) ?_
          refine lv_iload_n hx hb d_Law_99 rfl (lv_at hl 3 rfl) ?_
          refine lv_iconst (v := 2) hx hb d_Law_100 (by decide) ?_
          refine lv_iadd hx hb d_Law_101 ?_
          refine va_sld hx hb hX hbl hbA hLI.1.2.2 hin2 d_Law_102 ?_
          refine g_callVF (As := [.int (xs (nI (3 * j) + 1).toNatClampNeg), .int (xs (nI (3 * j) + 2).toNatClampNeg)]) (rest := []) (w' := k_W aK bK uk1) (o := some (.int r)) ⟨hx, hb, hml, hown, htg⟩ (c_L_type l D aK bK hf) (cwV 2 htg gq_Law_13 rfl rfl rfl (by decide +kernel) ⟨Nat.le_of_ble_eq_true rfl, Nat.le_of_ble_eq_true rfl⟩) hKk hLI hA 0 0 rfl rfl rfl hl.1 rfl (Nat.le_of_ble_eq_true rfl) d_Law_103 ⟨Nat.le_of_ble_eq_true rfl, Nat.le_of_ble_eq_true rfl⟩ rfl (fun H locs hLI => ?_)
          refine lv_aload_n hx hb d_Law_106 rfl (lv_at hl 2 rfl) ?_
          refine lv_aload_n hx hb d_Law_107 rfl (lv_at hl 0 rfl) ?_
          refine lv_iload_n hx hb d_Law_108 rfl (lv_at hl 3 rfl) ?_
          refine lv_iconst (v := 1) hx hb d_Law_109 (by decide) ?_
          refine lv_iadd hx hb d_Law_110 ?_
          refine va_sld hx hb hX hbl hbA hLI.1.2.2 hin1 d_Law_111 ?_
          refine lv_aload_n hx hb d_Law_112 rfl (lv_at hl 0 rfl) ?_
          refine lv_iload_n hx hb d_Law_113 rfl (lv_at hl 3 rfl) ?_
          refine lv_iconst (v := 2) hx hb d_Law_114 (by decide) ?_
          refine lv_iadd hx hb d_Law_115 ?_
          refine va_sld hx hb hX hbl hbA hLI.1.2.2 hin2 d_Law_116 ?_
          refine g_callVF (As := [.int (xs (nI (3 * j) + 1).toNatClampNeg), .int (xs (nI (3 * j) + 2).toNatClampNeg)]) (rest := [.int r]) (w' := m_W aM bM um1) (o := some (.int r)) ⟨hx, hb, hml, hown, htg⟩ (c_M_type l D aM bM hg) (cwV 2 htg gq_Law_17 rfl rfl rfl (by decide +kernel) ⟨Nat.le_of_ble_eq_true rfl, Nat.le_of_ble_eq_true rfl⟩) hKm hLI.swap hA 0 5 rfl rfl rfl hl.1 rfl (Nat.le_of_ble_eq_true rfl) d_Law_117 ⟨Nat.le_of_ble_eq_true rfl, Nat.le_of_ble_eq_true rfl⟩ rfl (fun H locs hLI => ?_)
          have hLI := hLI.swap
          refine lv_icmp_eq (tgt := 331) hx hb d_Law_120 rfl (fun _ => ?_) (fun hc => absurd rfl hc)
          exact w331 h3 uk1 um1 _ _ _ hl hLI hInv1
        · skip
          refine lv_tableIn (off := 93) (tgt := 125) hx hb d_Law_32 (by rw [ek]; decide +kernel) (by rw [ek]; decide +kernel) (by rw [ek]; decide +kernel) rfl ?_
          obtain ⟨r, uk1, um1, hf, hg, hInv1⟩ := t_take hInv
          refine lv_aload_n hx hb d_Law_125 rfl (lv_at hl 1 rfl) ?_
          refine g_callVF (As := []) (rest := []) (w' := k_W aK bK uk1) (o := some (.int r)) ⟨hx, hb, hml, hown, htg⟩ (c_L_take l D aK bK hf) (cwV 0 htg gq_Law_18 rfl rfl rfl (by decide +kernel) ⟨Nat.le_of_ble_eq_true rfl, Nat.le_of_ble_eq_true rfl⟩) hKk hLI hA 0 0 rfl rfl rfl hl.1 rfl (Nat.le_of_ble_eq_true rfl) d_Law_126 ⟨Nat.le_of_ble_eq_true rfl, Nat.le_of_ble_eq_true rfl⟩ rfl (fun H locs hLI => ?_)
          refine lv_aload_n hx hb d_Law_129 rfl (lv_at hl 2 rfl) ?_
          refine g_callVF (As := []) (rest := [.int r]) (w' := m_W aM bM um1) (o := some (.int r)) ⟨hx, hb, hml, hown, htg⟩ (c_M_take l D aM bM hg) (cwV 0 htg gq_Law_22 rfl rfl rfl (by decide +kernel) ⟨Nat.le_of_ble_eq_true rfl, Nat.le_of_ble_eq_true rfl⟩) hKm hLI.swap hA 0 5 rfl rfl rfl hl.1 rfl (Nat.le_of_ble_eq_true rfl) d_Law_130 ⟨Nat.le_of_ble_eq_true rfl, Nat.le_of_ble_eq_true rfl⟩ rfl (fun H locs hLI => ?_)
          have hLI := hLI.swap
          refine lv_icmp_eq (tgt := 331) hx hb d_Law_133 rfl (fun _ => ?_) (fun hc => absurd rfl hc)
          exact w331 h3 uk1 um1 _ _ _ hl hLI hInv1
        · skip
          refine lv_tableIn (off := 106) (tgt := 138) hx hb d_Law_32 (by rw [ek]; decide +kernel) (by rw [ek]; decide +kernel) (by rw [ek]; decide +kernel) rfl ?_
          obtain ⟨r, uk1, um1, hf, hg, hInv1⟩ := t_free hInv
          refine lv_aload_n hx hb d_Law_138 rfl (lv_at hl 1 rfl) ?_
          refine g_callVF (As := []) (rest := []) (w' := k_W aK bK uk1) (o := some (.int r)) ⟨hx, hb, hml, hown, htg⟩ (c_L_free l D aK bK hf) (cwV 0 htg gq_Law_23 rfl rfl rfl (by decide +kernel) ⟨Nat.le_of_ble_eq_true rfl, Nat.le_of_ble_eq_true rfl⟩) hKk hLI hA 0 0 rfl rfl rfl hl.1 rfl (Nat.le_of_ble_eq_true rfl) d_Law_139 ⟨Nat.le_of_ble_eq_true rfl, Nat.le_of_ble_eq_true rfl⟩ rfl (fun H locs hLI => ?_)
          refine lv_aload_n hx hb d_Law_142 rfl (lv_at hl 2 rfl) ?_
          refine g_callVF (As := []) (rest := [.int r]) (w' := m_W aM bM um1) (o := some (.int r)) ⟨hx, hb, hml, hown, htg⟩ (c_M_free l D aM bM hg) (cwV 0 htg gq_Law_27 rfl rfl rfl (by decide +kernel) ⟨Nat.le_of_ble_eq_true rfl, Nat.le_of_ble_eq_true rfl⟩) hKm hLI.swap hA 0 5 rfl rfl rfl hl.1 rfl (Nat.le_of_ble_eq_true rfl) d_Law_143 ⟨Nat.le_of_ble_eq_true rfl, Nat.le_of_ble_eq_true rfl⟩ rfl (fun H locs hLI => ?_)
          have hLI := hLI.swap
          refine lv_icmp_eq (tgt := 331) hx hb d_Law_146 rfl (fun _ => ?_) (fun hc => absurd rfl hc)
          exact w331 h3 uk1 um1 _ _ _ hl hLI hInv1
        · skip
          refine lv_tableIn (off := 119) (tgt := 151) hx hb d_Law_32 (by rw [ek]; decide +kernel) (by rw [ek]; decide +kernel) (by rw [ek]; decide +kernel) rfl ?_
          obtain ⟨r, uk1, um1, hf, hg, hInv1⟩ := t_holds (a := xs (nI (3 * j) + 1).toNatClampNeg) hInv
          refine lv_aload_n hx hb d_Law_151 rfl (lv_at hl 1 rfl) ?_
          refine lv_aload_n hx hb d_Law_152 rfl (lv_at hl 0 rfl) ?_
          refine lv_iload_n hx hb d_Law_153 rfl (lv_at hl 3 rfl) ?_
          refine lv_iconst (v := 1) hx hb d_Law_154 (by decide) ?_
          refine lv_iadd hx hb d_Law_155 ?_
          refine va_sld hx hb hX hbl hbA hLI.1.2.2 hin1 d_Law_156 ?_
          refine g_callVF (As := [.int (xs (nI (3 * j) + 1).toNatClampNeg)]) (rest := []) (w' := k_W aK bK uk1) (o := some (.int r)) ⟨hx, hb, hml, hown, htg⟩ (c_L_holds l D aK bK hf) (cwV 1 htg gq_Law_28 rfl rfl rfl (by decide +kernel) ⟨Nat.le_of_ble_eq_true rfl, Nat.le_of_ble_eq_true rfl⟩) hKk hLI hA 0 0 rfl rfl rfl hl.1 rfl (Nat.le_of_ble_eq_true rfl) d_Law_157 ⟨Nat.le_of_ble_eq_true rfl, Nat.le_of_ble_eq_true rfl⟩ rfl (fun H locs hLI => ?_)
          refine lv_aload_n hx hb d_Law_160 rfl (lv_at hl 2 rfl) ?_
          refine lv_aload_n hx hb d_Law_161 rfl (lv_at hl 0 rfl) ?_
          refine lv_iload_n hx hb d_Law_162 rfl (lv_at hl 3 rfl) ?_
          refine lv_iconst (v := 1) hx hb d_Law_163 (by decide) ?_
          refine lv_iadd hx hb d_Law_164 ?_
          refine va_sld hx hb hX hbl hbA hLI.1.2.2 hin1 d_Law_165 ?_
          refine g_callVF (As := [.int (xs (nI (3 * j) + 1).toNatClampNeg)]) (rest := [.int r]) (w' := m_W aM bM um1) (o := some (.int r)) ⟨hx, hb, hml, hown, htg⟩ (c_M_holds l D aM bM hg) (cwV 1 htg gq_Law_32 rfl rfl rfl (by decide +kernel) ⟨Nat.le_of_ble_eq_true rfl, Nat.le_of_ble_eq_true rfl⟩) hKm hLI.swap hA 0 5 rfl rfl rfl hl.1 rfl (Nat.le_of_ble_eq_true rfl) d_Law_166 ⟨Nat.le_of_ble_eq_true rfl, Nat.le_of_ble_eq_true rfl⟩ rfl (fun H locs hLI => ?_)
          have hLI := hLI.swap
          refine lv_icmp_eq (tgt := 331) hx hb d_Law_169 rfl (fun _ => ?_) (fun hc => absurd rfl hc)
          exact w331 h3 uk1 um1 _ _ _ hl hLI hInv1
        · skip
          refine lv_tableIn (off := 142) (tgt := 174) hx hb d_Law_32 (by rw [ek]; decide +kernel) (by rw [ek]; decide +kernel) (by rw [ek]; decide +kernel) rfl ?_
          obtain ⟨r, uk1, um1, hf, hg, hInv1⟩ := t_some hInv
          refine lv_aload_n hx hb d_Law_174 rfl (lv_at hl 1 rfl) ?_
          refine g_callVF (As := []) (rest := []) (w' := k_W aK bK uk1) (o := some (.int r)) ⟨hx, hb, hml, hown, htg⟩ (c_L_some l D aK bK hf) (cwV 0 htg gq_Law_33 rfl rfl rfl (by decide +kernel) ⟨Nat.le_of_ble_eq_true rfl, Nat.le_of_ble_eq_true rfl⟩) hKk hLI hA 0 0 rfl rfl rfl hl.1 rfl (Nat.le_of_ble_eq_true rfl) d_Law_175 ⟨Nat.le_of_ble_eq_true rfl, Nat.le_of_ble_eq_true rfl⟩ rfl (fun H locs hLI => ?_)
          refine lv_aload_n hx hb d_Law_178 rfl (lv_at hl 2 rfl) ?_
          refine g_callVF (As := []) (rest := [.int r]) (w' := m_W aM bM um1) (o := some (.int r)) ⟨hx, hb, hml, hown, htg⟩ (c_M_some l D aM bM hg) (cwV 0 htg gq_Law_36 rfl rfl rfl (by decide +kernel) ⟨Nat.le_of_ble_eq_true rfl, Nat.le_of_ble_eq_true rfl⟩) hKm hLI.swap hA 0 5 rfl rfl rfl hl.1 rfl (Nat.le_of_ble_eq_true rfl) d_Law_179 ⟨Nat.le_of_ble_eq_true rfl, Nat.le_of_ble_eq_true rfl⟩ rfl (fun H locs hLI => ?_)
          have hLI := hLI.swap
          refine lv_icmp_eq (tgt := 331) hx hb d_Law_182 rfl (fun _ => ?_) (fun hc => absurd rfl hc)
          exact w331 h3 uk1 um1 _ _ _ hl hLI hInv1
        · skip
          refine lv_tableIn (off := 155) (tgt := 187) hx hb d_Law_32 (by rw [ek]; decide +kernel) (by rw [ek]; decide +kernel) (by rw [ek]; decide +kernel) rfl ?_
          obtain ⟨r, uk1, um1, hf, hg, hInv1⟩ := t_all hInv
          refine lv_aload_n hx hb d_Law_187 rfl (lv_at hl 1 rfl) ?_
          refine g_callVF (As := []) (rest := []) (w' := k_W aK bK uk1) (o := some (.int r)) ⟨hx, hb, hml, hown, htg⟩ (c_L_all l D aK bK hf) (cwV 0 htg gq_Law_37 rfl rfl rfl (by decide +kernel) ⟨Nat.le_of_ble_eq_true rfl, Nat.le_of_ble_eq_true rfl⟩) hKk hLI hA 0 0 rfl rfl rfl hl.1 rfl (Nat.le_of_ble_eq_true rfl) d_Law_188 ⟨Nat.le_of_ble_eq_true rfl, Nat.le_of_ble_eq_true rfl⟩ rfl (fun H locs hLI => ?_)
          refine lv_aload_n hx hb d_Law_191 rfl (lv_at hl 2 rfl) ?_
          refine g_callVF (As := []) (rest := [.int r]) (w' := m_W aM bM um1) (o := some (.int r)) ⟨hx, hb, hml, hown, htg⟩ (c_M_all l D aM bM hg) (cwV 0 htg gq_Law_40 rfl rfl rfl (by decide +kernel) ⟨Nat.le_of_ble_eq_true rfl, Nat.le_of_ble_eq_true rfl⟩) hKm hLI.swap hA 0 5 rfl rfl rfl hl.1 rfl (Nat.le_of_ble_eq_true rfl) d_Law_192 ⟨Nat.le_of_ble_eq_true rfl, Nat.le_of_ble_eq_true rfl⟩ rfl (fun H locs hLI => ?_)
          have hLI := hLI.swap
          refine lv_icmp_eq (tgt := 331) hx hb d_Law_195 rfl (fun _ => ?_) (fun hc => absurd rfl hc)
          exact w331 h3 uk1 um1 _ _ _ hl hLI hInv1
        · skip
          refine lv_tableIn (off := 168) (tgt := 200) hx hb d_Law_32 (by rw [ek]; decide +kernel) (by rw [ek]; decide +kernel) (by rw [ek]; decide +kernel) rfl ?_
          obtain ⟨r, uk1, um1, hf, hg, hInv1⟩ := t_next (a := xs (nI (3 * j) + 1).toNatClampNeg) hInv
          refine lv_aload_n hx hb d_Law_200 rfl (lv_at hl 1 rfl) ?_
          refine lv_aload_n hx hb d_Law_201 rfl (lv_at hl 0 rfl) ?_
          refine lv_iload_n hx hb d_Law_202 rfl (lv_at hl 3 rfl) ?_
          refine lv_iconst (v := 1) hx hb d_Law_203 (by decide) ?_
          refine lv_iadd hx hb d_Law_204 ?_
          refine va_sld hx hb hX hbl hbA hLI.1.2.2 hin1 d_Law_205 ?_
          refine g_callVF (As := [.int (xs (nI (3 * j) + 1).toNatClampNeg)]) (rest := []) (w' := k_W aK bK uk1) (o := some (.int r)) ⟨hx, hb, hml, hown, htg⟩ (c_L_next l D aK bK hf) (cwV 1 htg gq_Law_41 rfl rfl rfl (by decide +kernel) ⟨Nat.le_of_ble_eq_true rfl, Nat.le_of_ble_eq_true rfl⟩) hKk hLI hA 0 0 rfl rfl rfl hl.1 rfl (Nat.le_of_ble_eq_true rfl) d_Law_206 ⟨Nat.le_of_ble_eq_true rfl, Nat.le_of_ble_eq_true rfl⟩ rfl (fun H locs hLI => ?_)
          refine lv_aload_n hx hb d_Law_209 rfl (lv_at hl 2 rfl) ?_
          refine lv_aload_n hx hb d_Law_210 rfl (lv_at hl 0 rfl) ?_
          refine lv_iload_n hx hb d_Law_211 rfl (lv_at hl 3 rfl) ?_
          refine lv_iconst (v := 1) hx hb d_Law_212 (by decide) ?_
          refine lv_iadd hx hb d_Law_213 ?_
          refine va_sld hx hb hX hbl hbA hLI.1.2.2 hin1 d_Law_214 ?_
          refine g_callVF (As := [.int (xs (nI (3 * j) + 1).toNatClampNeg)]) (rest := [.int r]) (w' := m_W aM bM um1) (o := some (.int r)) ⟨hx, hb, hml, hown, htg⟩ (c_M_next l D aM bM hg) (cwV 1 htg gq_Law_45 rfl rfl rfl (by decide +kernel) ⟨Nat.le_of_ble_eq_true rfl, Nat.le_of_ble_eq_true rfl⟩) hKm hLI.swap hA 0 5 rfl rfl rfl hl.1 rfl (Nat.le_of_ble_eq_true rfl) d_Law_215 ⟨Nat.le_of_ble_eq_true rfl, Nat.le_of_ble_eq_true rfl⟩ rfl (fun H locs hLI => ?_)
          have hLI := hLI.swap
          refine lv_icmp_eq (tgt := 331) hx hb d_Law_218 rfl (fun _ => ?_) (fun hc => absurd rfl hc)
          exact w331 h3 uk1 um1 _ _ _ hl hLI hInv1
        · skip
          refine lv_tableIn (off := 191) (tgt := 223) hx hb d_Law_32 (by rw [ek]; decide +kernel) (by rw [ek]; decide +kernel) (by rw [ek]; decide +kernel) rfl ?_
          obtain ⟨r, uk1, um1, hf, hg, hInv1⟩ := t_last (a := xs (nI (3 * j) + 1).toNatClampNeg) hInv
          refine lv_aload_n hx hb d_Law_223 rfl (lv_at hl 1 rfl) ?_
          refine lv_aload_n hx hb d_Law_224 rfl (lv_at hl 0 rfl) ?_
          refine lv_iload_n hx hb d_Law_225 rfl (lv_at hl 3 rfl) ?_
          refine lv_iconst (v := 1) hx hb d_Law_226 (by decide) ?_
          refine lv_iadd hx hb d_Law_227 ?_
          refine va_sld hx hb hX hbl hbA hLI.1.2.2 hin1 d_Law_228 ?_
          refine g_callVF (As := [.int (xs (nI (3 * j) + 1).toNatClampNeg)]) (rest := []) (w' := k_W aK bK uk1) (o := some (.int r)) ⟨hx, hb, hml, hown, htg⟩ (c_L_last l D aK bK hf) (cwV 1 htg gq_Law_46 rfl rfl rfl (by decide +kernel) ⟨Nat.le_of_ble_eq_true rfl, Nat.le_of_ble_eq_true rfl⟩) hKk hLI hA 0 0 rfl rfl rfl hl.1 rfl (Nat.le_of_ble_eq_true rfl) d_Law_229 ⟨Nat.le_of_ble_eq_true rfl, Nat.le_of_ble_eq_true rfl⟩ rfl (fun H locs hLI => ?_)
          refine lv_aload_n hx hb d_Law_232 rfl (lv_at hl 2 rfl) ?_
          refine lv_aload_n hx hb d_Law_233 rfl (lv_at hl 0 rfl) ?_
          refine lv_iload_n hx hb d_Law_234 rfl (lv_at hl 3 rfl) ?_
          refine lv_iconst (v := 1) hx hb d_Law_235 (by decide) ?_
          refine lv_iadd hx hb d_Law_236 ?_
          refine va_sld hx hb hX hbl hbA hLI.1.2.2 hin1 d_Law_237 ?_
          refine g_callVF (As := [.int (xs (nI (3 * j) + 1).toNatClampNeg)]) (rest := [.int r]) (w' := m_W aM bM um1) (o := some (.int r)) ⟨hx, hb, hml, hown, htg⟩ (c_M_last l D aM bM hg) (cwV 1 htg gq_Law_49 rfl rfl rfl (by decide +kernel) ⟨Nat.le_of_ble_eq_true rfl, Nat.le_of_ble_eq_true rfl⟩) hKm hLI.swap hA 0 5 rfl rfl rfl hl.1 rfl (Nat.le_of_ble_eq_true rfl) d_Law_238 ⟨Nat.le_of_ble_eq_true rfl, Nat.le_of_ble_eq_true rfl⟩ rfl (fun H locs hLI => ?_)
          have hLI := hLI.swap
          refine lv_icmp_eq (tgt := 331) hx hb d_Law_241 rfl (fun _ => ?_) (fun hc => absurd rfl hc)
          exact w331 h3 uk1 um1 _ _ _ hl hLI hInv1
        · skip
          refine lv_tableIn (off := 214) (tgt := 246) hx hb d_Law_32 (by rw [ek]; decide +kernel) (by rw [ek]; decide +kernel) (by rw [ek]; decide +kernel) rfl ?_
          refine lv_aload_n hx hb d_Law_246 rfl (lv_at hl 1 rfl) ?_
          refine lv_aload_n hx hb d_Law_247 rfl (lv_at hl 0 rfl) ?_
          refine lv_iload_n hx hb d_Law_248 rfl (lv_at hl 3 rfl) ?_
          refine lv_iconst (v := 1) hx hb d_Law_249 (by decide) ?_
          refine lv_iadd hx hb d_Law_250 ?_
          refine va_sld hx hb hX hbl hbA hLI.1.2.2 hin1 d_Law_251 ?_
          refine lv_if_eq (tgt := 259) hx hb d_Law_252 rfl (fun hz => ?_) (fun hz => ?_)
          · skip
            obtain ⟨r, uk1, um1, hf, hg, hInv1⟩ := t_again (a := 0) (by decide) hInv
            refine lv_iconst (v := 0) hx hb d_Law_259 (by decide) ?_
            refine g_callVF (As := [.int 0]) (rest := []) (w' := k_W aK bK uk1) (o := some (.int r)) ⟨hx, hb, hml, hown, htg⟩ (c_L_again l D aK bK hf) (cwV 1 htg gq_Law_50 rfl rfl rfl (by decide +kernel) ⟨Nat.le_of_ble_eq_true rfl, Nat.le_of_ble_eq_true rfl⟩) hKk hLI hA 0 0 rfl rfl rfl hl.1 rfl (Nat.le_of_ble_eq_true rfl) d_Law_260 ⟨Nat.le_of_ble_eq_true rfl, Nat.le_of_ble_eq_true rfl⟩ rfl (fun H locs hLI => ?_)
            refine lv_aload_n hx hb d_Law_263 rfl (lv_at hl 2 rfl) ?_
            refine lv_aload_n hx hb d_Law_264 rfl (lv_at hl 0 rfl) ?_
            refine lv_iload_n hx hb d_Law_265 rfl (lv_at hl 3 rfl) ?_
            refine lv_iconst (v := 1) hx hb d_Law_266 (by decide) ?_
            refine lv_iadd hx hb d_Law_267 ?_
            refine va_sld hx hb hX hbl hbA hLI.1.2.2 hin1 d_Law_268 ?_
            refine lv_if_eq (tgt := 276) hx hb d_Law_269 rfl (fun _ => ?_) (fun hy => absurd hz hy)
            refine lv_iconst (v := 0) hx hb d_Law_276 (by decide) ?_
            refine g_callVF (As := [.int 0]) (rest := [.int r]) (w' := m_W aM bM um1) (o := some (.int r)) ⟨hx, hb, hml, hown, htg⟩ (c_M_again l D aM bM hg) (cwV 1 htg gq_Law_54 rfl rfl rfl (by decide +kernel) ⟨Nat.le_of_ble_eq_true rfl, Nat.le_of_ble_eq_true rfl⟩) hKm hLI.swap hA 0 5 rfl rfl rfl hl.1 rfl (Nat.le_of_ble_eq_true rfl) d_Law_277 ⟨Nat.le_of_ble_eq_true rfl, Nat.le_of_ble_eq_true rfl⟩ rfl (fun H locs hLI => ?_)
            have hLI := hLI.swap
            refine lv_icmp_eq (tgt := 331) hx hb d_Law_280 rfl (fun _ => ?_) (fun hc => absurd rfl hc)
            exact w331 h3 uk1 um1 _ _ _ hl hLI hInv1
          · skip
            obtain ⟨r, uk1, um1, hf, hg, hInv1⟩ := t_again (a := 1) (by decide) hInv
            refine lv_iconst (v := 1) hx hb d_Law_255 (by decide) ?_
            refine lv_goto (tgt := 260) hx hb d_Law_256 rfl ?_
            refine g_callVF (As := [.int 1]) (rest := []) (w' := k_W aK bK uk1) (o := some (.int r)) ⟨hx, hb, hml, hown, htg⟩ (c_L_again l D aK bK hf) (cwV 1 htg gq_Law_50 rfl rfl rfl (by decide +kernel) ⟨Nat.le_of_ble_eq_true rfl, Nat.le_of_ble_eq_true rfl⟩) hKk hLI hA 0 0 rfl rfl rfl hl.1 rfl (Nat.le_of_ble_eq_true rfl) d_Law_260 ⟨Nat.le_of_ble_eq_true rfl, Nat.le_of_ble_eq_true rfl⟩ rfl (fun H locs hLI => ?_)
            refine lv_aload_n hx hb d_Law_263 rfl (lv_at hl 2 rfl) ?_
            refine lv_aload_n hx hb d_Law_264 rfl (lv_at hl 0 rfl) ?_
            refine lv_iload_n hx hb d_Law_265 rfl (lv_at hl 3 rfl) ?_
            refine lv_iconst (v := 1) hx hb d_Law_266 (by decide) ?_
            refine lv_iadd hx hb d_Law_267 ?_
            refine va_sld hx hb hX hbl hbA hLI.1.2.2 hin1 d_Law_268 ?_
            refine lv_if_eq (tgt := 276) hx hb d_Law_269 rfl (fun hy => absurd hy hz) (fun _ => ?_)
            refine lv_iconst (v := 1) hx hb d_Law_272 (by decide) ?_
            refine lv_goto (tgt := 277) hx hb d_Law_273 rfl ?_
            refine g_callVF (As := [.int 1]) (rest := [.int r]) (w' := m_W aM bM um1) (o := some (.int r)) ⟨hx, hb, hml, hown, htg⟩ (c_M_again l D aM bM hg) (cwV 1 htg gq_Law_54 rfl rfl rfl (by decide +kernel) ⟨Nat.le_of_ble_eq_true rfl, Nat.le_of_ble_eq_true rfl⟩) hKm hLI.swap hA 0 5 rfl rfl rfl hl.1 rfl (Nat.le_of_ble_eq_true rfl) d_Law_277 ⟨Nat.le_of_ble_eq_true rfl, Nat.le_of_ble_eq_true rfl⟩ rfl (fun H locs hLI => ?_)
            have hLI := hLI.swap
            refine lv_icmp_eq (tgt := 331) hx hb d_Law_280 rfl (fun _ => ?_) (fun hc => absurd rfl hc)
            exact w331 h3 uk1 um1 _ _ _ hl hLI hInv1
        · skip
          refine lv_tableIn (off := 253) (tgt := 285) hx hb d_Law_32 (by rw [ek]; decide +kernel) (by rw [ek]; decide +kernel) (by rw [ek]; decide +kernel) rfl ?_
          obtain ⟨r, uk1, um1, hf, hg, hInv1⟩ := t_count (a := xs (nI (3 * j) + 1).toNatClampNeg) (b := xs (nI (3 * j) + 2).toNatClampNeg) hInv
          refine lv_aload_n hx hb d_Law_285 rfl (lv_at hl 1 rfl) ?_
          refine lv_aload_n hx hb d_Law_286 rfl (lv_at hl 0 rfl) ?_
          refine lv_iload_n hx hb d_Law_287 rfl (lv_at hl 3 rfl) ?_
          refine lv_iconst (v := 1) hx hb d_Law_288 (by decide) ?_
          refine lv_iadd hx hb d_Law_289 ?_
          refine va_sld hx hb hX hbl hbA hLI.1.2.2 hin1 d_Law_290 ?_
          refine lv_aload_n hx hb d_Law_291 rfl (lv_at hl 0 rfl) ?_
          refine lv_iload_n hx hb d_Law_292 rfl (lv_at hl 3 rfl) ?_
          refine lv_iconst (v := 2) hx hb d_Law_293 (by decide) ?_
          refine lv_iadd hx hb d_Law_294 ?_
          refine va_sld hx hb hX hbl hbA hLI.1.2.2 hin2 d_Law_295 ?_
          refine g_callVF (As := [.int (xs (nI (3 * j) + 1).toNatClampNeg), .int (xs (nI (3 * j) + 2).toNatClampNeg)]) (rest := []) (w' := k_W aK bK uk1) (o := some (.int r)) ⟨hx, hb, hml, hown, htg⟩ (c_L_count l D aK bK hf) (cwV 2 htg gq_Law_55 rfl rfl rfl (by decide +kernel) ⟨Nat.le_of_ble_eq_true rfl, Nat.le_of_ble_eq_true rfl⟩) hKk hLI hA 0 0 rfl rfl rfl hl.1 rfl (Nat.le_of_ble_eq_true rfl) d_Law_296 ⟨Nat.le_of_ble_eq_true rfl, Nat.le_of_ble_eq_true rfl⟩ rfl (fun H locs hLI => ?_)
          refine lv_aload_n hx hb d_Law_299 rfl (lv_at hl 2 rfl) ?_
          refine lv_aload_n hx hb d_Law_300 rfl (lv_at hl 0 rfl) ?_
          refine lv_iload_n hx hb d_Law_301 rfl (lv_at hl 3 rfl) ?_
          refine lv_iconst (v := 1) hx hb d_Law_302 (by decide) ?_
          refine lv_iadd hx hb d_Law_303 ?_
          refine va_sld hx hb hX hbl hbA hLI.1.2.2 hin1 d_Law_304 ?_
          refine lv_aload_n hx hb d_Law_305 rfl (lv_at hl 0 rfl) ?_
          refine lv_iload_n hx hb d_Law_306 rfl (lv_at hl 3 rfl) ?_
          refine lv_iconst (v := 2) hx hb d_Law_307 (by decide) ?_
          refine lv_iadd hx hb d_Law_308 ?_
          refine va_sld hx hb hX hbl hbA hLI.1.2.2 hin2 d_Law_309 ?_
          refine g_callVF (As := [.int (xs (nI (3 * j) + 1).toNatClampNeg), .int (xs (nI (3 * j) + 2).toNatClampNeg)]) (rest := [.int r]) (w' := m_W aM bM um1) (o := some (.int r)) ⟨hx, hb, hml, hown, htg⟩ (c_M_count l D aM bM hg) (cwV 2 htg gq_Law_59 rfl rfl rfl (by decide +kernel) ⟨Nat.le_of_ble_eq_true rfl, Nat.le_of_ble_eq_true rfl⟩) hKm hLI.swap hA 0 5 rfl rfl rfl hl.1 rfl (Nat.le_of_ble_eq_true rfl) d_Law_310 ⟨Nat.le_of_ble_eq_true rfl, Nat.le_of_ble_eq_true rfl⟩ rfl (fun H locs hLI => ?_)
          have hLI := hLI.swap
          refine lv_icmp_eq (tgt := 331) hx hb d_Law_313 rfl (fun _ => ?_) (fun hc => absurd rfl hc)
          exact w331 h3 uk1 um1 _ _ _ hl hLI hInv1
        · skip
          refine lv_tableIn (off := 286) (tgt := 318) hx hb d_Law_32 (by rw [ek]; decide +kernel) (by rw [ek]; decide +kernel) (by rw [ek]; decide +kernel) rfl ?_
          obtain ⟨r, uk1, um1, hf, hg, hInv1⟩ := t_period hInv
          refine lv_aload_n hx hb d_Law_318 rfl (lv_at hl 1 rfl) ?_
          refine g_callVF (As := []) (rest := []) (w' := k_W aK bK uk1) (o := some (.int r)) ⟨hx, hb, hml, hown, htg⟩ (c_L_period l D aK bK hf) (cwV 0 htg gq_Law_60 rfl rfl rfl (by decide +kernel) ⟨Nat.le_of_ble_eq_true rfl, Nat.le_of_ble_eq_true rfl⟩) hKk hLI hA 0 0 rfl rfl rfl hl.1 rfl (Nat.le_of_ble_eq_true rfl) d_Law_319 ⟨Nat.le_of_ble_eq_true rfl, Nat.le_of_ble_eq_true rfl⟩ rfl (fun H locs hLI => ?_)
          refine lv_aload_n hx hb d_Law_322 rfl (lv_at hl 2 rfl) ?_
          refine g_callVF (As := []) (rest := [.int r]) (w' := m_W aM bM um1) (o := some (.int r)) ⟨hx, hb, hml, hown, htg⟩ (c_M_period l D aM bM hg) (cwV 0 htg gq_Law_63 rfl rfl rfl (by decide +kernel) ⟨Nat.le_of_ble_eq_true rfl, Nat.le_of_ble_eq_true rfl⟩) hKm hLI.swap hA 0 5 rfl rfl rfl hl.1 rfl (Nat.le_of_ble_eq_true rfl) d_Law_323 ⟨Nat.le_of_ble_eq_true rfl, Nat.le_of_ble_eq_true rfl⟩ rfl (fun H locs hLI => ?_)
          have hLI := hLI.swap
          refine lv_icmp_eq (tgt := 331) hx hb d_Law_326 rfl (fun _ => ?_) (fun hc => absurd rfl hc)
          exact w331 h3 uk1 um1 _ _ _ hl hLI hInv1
        · skip
          refine lv_tableOut (tgt := 331) hx hb d_Law_32 (by rw [ek]; decide +kernel) rfl ?_
          exact w331 h3 uk um _ _ _ hl hLI hInv
        · skip
          refine lv_tableOut (tgt := 331) hx hb d_Law_32 (by rw [ek]; decide +kernel) rfl ?_
          exact w331 h3 uk um _ _ _ hl hLI hInv
        · skip
          refine lv_tableOut (tgt := 331) hx hb d_Law_32 (by rw [ek]; decide +kernel) rfl ?_
          exact w331 h3 uk um _ _ _ hl hLI hInv
        · skip
          refine lv_tableOut (tgt := 331) hx hb d_Law_32 (by rw [ek]; decide +kernel) rfl ?_
          exact w331 h3 uk um _ _ _ hl hLI hInv
        · skip
          refine lv_tableOut (tgt := 331) hx hb d_Law_32 (by rw [ek]; decide +kernel) rfl ?_
          exact w331 h3 uk um _ _ _ hl hLI hInv
  exact w18 (L + 1) 0 k0 m0 _ _ _ (by omega) (by omega) (lv_sub hl [3, 2, 1, 0] rfl) hLI hInv0
