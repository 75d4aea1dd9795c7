section
-- ===== PART A: goes FIRST, ahead of the names: the tables' words, and 'selects' of the private methods out of them =====
/-- a private method of a class that the tables say can be made, by its rows of tables_1 -/
def lw_okq (q : MethodName × Nat) : Prop := (q.1.cls ≠ "java/lang/invoke/MethodHandle" ∧ q.1.cls ≠ "java/lang/invoke/VarHandle") ∧ Cond.instantiable q.1.cls q.2 ∈ tables_1 ∧ Cond.privateMethod q.1 ∈ tables_1 ∧ Cond.instanceMethod q.1 ∈ tables_1
theorem lw_p0 : lw_okq (⟨"LineClaims$Reader", "readClaim", "(II)Z"⟩, 5) := ⟨⟨by decide +kernel, by decide +kernel⟩, List.mem_of_getElem? (i := 71) (by decide +kernel), List.mem_of_getElem? (i := 151) (by decide +kernel), List.mem_of_getElem? (i := 152) (by decide +kernel)⟩
theorem lw_p1 : lw_okq (⟨"LineClaims$Reader", "mark", "()I"⟩, 5) := ⟨⟨by decide +kernel, by decide +kernel⟩, List.mem_of_getElem? (i := 71) (by decide +kernel), List.mem_of_getElem? (i := 159) (by decide +kernel), List.mem_of_getElem? (i := 160) (by decide +kernel)⟩
theorem lw_p2 : lw_okq (⟨"LineClaims$Reader", "readBracket", "(I)Z"⟩, 5) := ⟨⟨by decide +kernel, by decide +kernel⟩, List.mem_of_getElem? (i := 71) (by decide +kernel), List.mem_of_getElem? (i := 167) (by decide +kernel), List.mem_of_getElem? (i := 168) (by decide +kernel)⟩
theorem lw_p3 : lw_okq (⟨"LineClaims$Reader", "begin", "()I"⟩, 5) := ⟨⟨by decide +kernel, by decide +kernel⟩, List.mem_of_getElem? (i := 71) (by decide +kernel), List.mem_of_getElem? (i := 171) (by decide +kernel), List.mem_of_getElem? (i := 172) (by decide +kernel)⟩
theorem lw_p4 : lw_okq (⟨"LineClaims$Reader", "isDivisor", "()Z"⟩, 5) := ⟨⟨by decide +kernel, by decide +kernel⟩, List.mem_of_getElem? (i := 71) (by decide +kernel), List.mem_of_getElem? (i := 179) (by decide +kernel), List.mem_of_getElem? (i := 180) (by decide +kernel)⟩
theorem lw_p5 : lw_okq (⟨"LineClaims$Claims", "has", "(I)Z"⟩, 9) := ⟨⟨by decide +kernel, by decide +kernel⟩, List.mem_of_getElem? (i := 37) (by decide +kernel), List.mem_of_getElem? (i := 187) (by decide +kernel), List.mem_of_getElem? (i := 188) (by decide +kernel)⟩
theorem lw_p6 : lw_okq (⟨"LineClaims$Reader", "readSum", "(III)Z"⟩, 5) := ⟨⟨by decide +kernel, by decide +kernel⟩, List.mem_of_getElem? (i := 71) (by decide +kernel), List.mem_of_getElem? (i := 191) (by decide +kernel), List.mem_of_getElem? (i := 192) (by decide +kernel)⟩
theorem lw_p7 : lw_okq (⟨"LineClaims$Reader", "readPart", "(III)Z"⟩, 5) := ⟨⟨by decide +kernel, by decide +kernel⟩, List.mem_of_getElem? (i := 71) (by decide +kernel), List.mem_of_getElem? (i := 195) (by decide +kernel), List.mem_of_getElem? (i := 196) (by decide +kernel)⟩
theorem lw_p8 : lw_okq (⟨"LineClaims$Reader", "readPair", "(II)Z"⟩, 5) := ⟨⟨by decide +kernel, by decide +kernel⟩, List.mem_of_getElem? (i := 71) (by decide +kernel), List.mem_of_getElem? (i := 224) (by decide +kernel), List.mem_of_getElem? (i := 225) (by decide +kernel)⟩
theorem lw_p9 : lw_okq (⟨"LineClaims$Reader", "readQuantified", "(II)Z"⟩, 5) := ⟨⟨by decide +kernel, by decide +kernel⟩, List.mem_of_getElem? (i := 71) (by decide +kernel), List.mem_of_getElem? (i := 232) (by decide +kernel), List.mem_of_getElem? (i := 233) (by decide +kernel)⟩
theorem lw_p10 : lw_okq (⟨"LineClaims$Claims", "openOf", "(I)I"⟩, 9) := ⟨⟨by decide +kernel, by decide +kernel⟩, List.mem_of_getElem? (i := 37) (by decide +kernel), List.mem_of_getElem? (i := 244) (by decide +kernel), List.mem_of_getElem? (i := 245) (by decide +kernel)⟩
theorem lw_p11 : lw_okq (⟨"LineClaims$Claims", "pairWord", "(III)J"⟩, 9) := ⟨⟨by decide +kernel, by decide +kernel⟩, List.mem_of_getElem? (i := 37) (by decide +kernel), List.mem_of_getElem? (i := 279) (by decide +kernel), List.mem_of_getElem? (i := 280) (by decide +kernel)⟩
theorem lw_p12 : lw_okq (⟨"LineClaims$Claims", "quantifiedWord", "(III)J"⟩, 9) := ⟨⟨by decide +kernel, by decide +kernel⟩, List.mem_of_getElem? (i := 37) (by decide +kernel), List.mem_of_getElem? (i := 283) (by decide +kernel), List.mem_of_getElem? (i := 284) (by decide +kernel)⟩
theorem lw_p13 : lw_okq (⟨"LineClaims$Claims", "isSo", "(III)Z"⟩, 9) := ⟨⟨by decide +kernel, by decide +kernel⟩, List.mem_of_getElem? (i := 37) (by decide +kernel), List.mem_of_getElem? (i := 288) (by decide +kernel), List.mem_of_getElem? (i := 289) (by decide +kernel)⟩
theorem lw_p14 : lw_okq (⟨"LineClaims$Claims", "factorOf", "(II)I"⟩, 9) := ⟨⟨by decide +kernel, by decide +kernel⟩, List.mem_of_getElem? (i := 37) (by decide +kernel), List.mem_of_getElem? (i := 292) (by decide +kernel), List.mem_of_getElem? (i := 293) (by decide +kernel)⟩
theorem lw_p15 : lw_okq (⟨"LineClaims$Claims", "sumAt", "(III)I"⟩, 9) := ⟨⟨by decide +kernel, by decide +kernel⟩, List.mem_of_getElem? (i := 37) (by decide +kernel), List.mem_of_getElem? (i := 296) (by decide +kernel), List.mem_of_getElem? (i := 297) (by decide +kernel)⟩
def lw_privs_1 : List (MethodName × Nat) := [(⟨"LineClaims$Reader", "readClaim", "(II)Z"⟩, 5), (⟨"LineClaims$Reader", "mark", "()I"⟩, 5), (⟨"LineClaims$Reader", "readBracket", "(I)Z"⟩, 5), (⟨"LineClaims$Reader", "begin", "()I"⟩, 5), (⟨"LineClaims$Reader", "isDivisor", "()Z"⟩, 5), (⟨"LineClaims$Claims", "has", "(I)Z"⟩, 9), (⟨"LineClaims$Reader", "readSum", "(III)Z"⟩, 5), (⟨"LineClaims$Reader", "readPart", "(III)Z"⟩, 5), (⟨"LineClaims$Reader", "readPair", "(II)Z"⟩, 5), (⟨"LineClaims$Reader", "readQuantified", "(II)Z"⟩, 5), (⟨"LineClaims$Claims", "openOf", "(I)I"⟩, 9), (⟨"LineClaims$Claims", "pairWord", "(III)J"⟩, 9), (⟨"LineClaims$Claims", "quantifiedWord", "(III)J"⟩, 9), (⟨"LineClaims$Claims", "isSo", "(III)Z"⟩, 9), (⟨"LineClaims$Claims", "factorOf", "(II)I"⟩, 9), (⟨"LineClaims$Claims", "sumAt", "(III)I"⟩, 9)]
theorem lw_r1 : ∀ q ∈ lw_privs_1, lw_okq q := List.forall_mem_cons.mpr ⟨lw_p0, List.forall_mem_cons.mpr ⟨lw_p1, List.forall_mem_cons.mpr ⟨lw_p2, List.forall_mem_cons.mpr ⟨lw_p3, List.forall_mem_cons.mpr ⟨lw_p4, List.forall_mem_cons.mpr ⟨lw_p5, List.forall_mem_cons.mpr ⟨lw_p6, List.forall_mem_cons.mpr ⟨lw_p7, List.forall_mem_cons.mpr ⟨lw_p8, List.forall_mem_cons.mpr ⟨lw_p9, List.forall_mem_cons.mpr ⟨lw_p10, List.forall_mem_cons.mpr ⟨lw_p11, List.forall_mem_cons.mpr ⟨lw_p12, List.forall_mem_cons.mpr ⟨lw_p13, List.forall_mem_cons.mpr ⟨lw_p14, List.forall_mem_cons.mpr ⟨lw_p15, fun _ h => absurd h List.not_mem_nil⟩⟩⟩⟩⟩⟩⟩⟩⟩⟩⟩⟩⟩⟩⟩⟩
theorem lw_p16 : lw_okq (⟨"LineClaimsModel", "readClaims", "()V"⟩, 28) := ⟨⟨by decide +kernel, by decide +kernel⟩, List.mem_of_getElem? (i := 387) (by decide +kernel), List.mem_of_getElem? (i := 490) (by decide +kernel), List.mem_of_getElem? (i := 491) (by decide +kernel)⟩
theorem lw_p17 : lw_okq (⟨"LineClaimsModel", "look", "()I"⟩, 28) := ⟨⟨by decide +kernel, by decide +kernel⟩, List.mem_of_getElem? (i := 387) (by decide +kernel), List.mem_of_getElem? (i := 494) (by decide +kernel), List.mem_of_getElem? (i := 495) (by decide +kernel)⟩
theorem lw_p18 : lw_okq (⟨"LineClaimsModel", "fail", "()V"⟩, 28) := ⟨⟨by decide +kernel, by decide +kernel⟩, List.mem_of_getElem? (i := 387) (by decide +kernel), List.mem_of_getElem? (i := 498) (by decide +kernel), List.mem_of_getElem? (i := 499) (by decide +kernel)⟩
theorem lw_p19 : lw_okq (⟨"LineClaimsModel", "readBracket", "(I)V"⟩, 28) := ⟨⟨by decide +kernel, by decide +kernel⟩, List.mem_of_getElem? (i := 387) (by decide +kernel), List.mem_of_getElem? (i := 502) (by decide +kernel), List.mem_of_getElem? (i := 503) (by decide +kernel)⟩
theorem lw_p20 : lw_okq (⟨"LineClaimsModel", "isDivisor", "()Z"⟩, 28) := ⟨⟨by decide +kernel, by decide +kernel⟩, List.mem_of_getElem? (i := 387) (by decide +kernel), List.mem_of_getElem? (i := 506) (by decide +kernel), List.mem_of_getElem? (i := 507) (by decide +kernel)⟩
theorem lw_p21 : lw_okq (⟨"LineClaimsModel", "readSum", "(II)V"⟩, 28) := ⟨⟨by decide +kernel, by decide +kernel⟩, List.mem_of_getElem? (i := 387) (by decide +kernel), List.mem_of_getElem? (i := 510) (by decide +kernel), List.mem_of_getElem? (i := 511) (by decide +kernel)⟩
theorem lw_p22 : lw_okq (⟨"LineClaimsModel", "readPart", "(II)V"⟩, 28) := ⟨⟨by decide +kernel, by decide +kernel⟩, List.mem_of_getElem? (i := 387) (by decide +kernel), List.mem_of_getElem? (i := 514) (by decide +kernel), List.mem_of_getElem? (i := 515) (by decide +kernel)⟩
theorem lw_p23 : lw_okq (⟨"LineClaimsModel", "addVariable", "(II)V"⟩, 28) := ⟨⟨by decide +kernel, by decide +kernel⟩, List.mem_of_getElem? (i := 387) (by decide +kernel), List.mem_of_getElem? (i := 518) (by decide +kernel), List.mem_of_getElem? (i := 519) (by decide +kernel)⟩
theorem lw_p24 : lw_okq (⟨"LineClaimsModel", "workedOut", "(I)Z"⟩, 28) := ⟨⟨by decide +kernel, by decide +kernel⟩, List.mem_of_getElem? (i := 387) (by decide +kernel), List.mem_of_getElem? (i := 522) (by decide +kernel), List.mem_of_getElem? (i := 523) (by decide +kernel)⟩
theorem lw_p25 : lw_okq (⟨"LineClaimsModel", "isBracket", "(I)Z"⟩, 28) := ⟨⟨by decide +kernel, by decide +kernel⟩, List.mem_of_getElem? (i := 387) (by decide +kernel), List.mem_of_getElem? (i := 526) (by decide +kernel), List.mem_of_getElem? (i := 527) (by decide +kernel)⟩
theorem lw_p26 : lw_okq (⟨"LineClaimsModel", "bracketHolds", "(I)Z"⟩, 28) := ⟨⟨by decide +kernel, by decide +kernel⟩, List.mem_of_getElem? (i := 387) (by decide +kernel), List.mem_of_getElem? (i := 530) (by decide +kernel), List.mem_of_getElem? (i := 531) (by decide +kernel)⟩
theorem lw_p27 : lw_okq (⟨"LineClaimsModel", "rest", "(II)I"⟩, 28) := ⟨⟨by decide +kernel, by decide +kernel⟩, List.mem_of_getElem? (i := 387) (by decide +kernel), List.mem_of_getElem? (i := 534) (by decide +kernel), List.mem_of_getElem? (i := 535) (by decide +kernel)⟩
theorem lw_p28 : lw_okq (⟨"LineClaimsModel", "hasQuantifier", "(I)Z"⟩, 28) := ⟨⟨by decide +kernel, by decide +kernel⟩, List.mem_of_getElem? (i := 387) (by decide +kernel), List.mem_of_getElem? (i := 538) (by decide +kernel), List.mem_of_getElem? (i := 539) (by decide +kernel)⟩
theorem lw_p29 : lw_okq (⟨"LineClaimsModel", "middleQuantifier", "(I)Z"⟩, 28) := ⟨⟨by decide +kernel, by decide +kernel⟩, List.mem_of_getElem? (i := 387) (by decide +kernel), List.mem_of_getElem? (i := 542) (by decide +kernel), List.mem_of_getElem? (i := 543) (by decide +kernel)⟩
theorem lw_p30 : lw_okq (⟨"LineClaimsModel", "middleHolds", "(I)Z"⟩, 28) := ⟨⟨by decide +kernel, by decide +kernel⟩, List.mem_of_getElem? (i := 387) (by decide +kernel), List.mem_of_getElem? (i := 546) (by decide +kernel), List.mem_of_getElem? (i := 547) (by decide +kernel)⟩
theorem lw_p31 : lw_okq (⟨"LineClaimsModel", "lowQuantifier", "(I)Z"⟩, 28) := ⟨⟨by decide +kernel, by decide +kernel⟩, List.mem_of_getElem? (i := 387) (by decide +kernel), List.mem_of_getElem? (i := 550) (by decide +kernel), List.mem_of_getElem? (i := 551) (by decide +kernel)⟩
def lw_privs_2 : List (MethodName × Nat) := [(⟨"LineClaimsModel", "readClaims", "()V"⟩, 28), (⟨"LineClaimsModel", "look", "()I"⟩, 28), (⟨"LineClaimsModel", "fail", "()V"⟩, 28), (⟨"LineClaimsModel", "readBracket", "(I)V"⟩, 28), (⟨"LineClaimsModel", "isDivisor", "()Z"⟩, 28), (⟨"LineClaimsModel", "readSum", "(II)V"⟩, 28), (⟨"LineClaimsModel", "readPart", "(II)V"⟩, 28), (⟨"LineClaimsModel", "addVariable", "(II)V"⟩, 28), (⟨"LineClaimsModel", "workedOut", "(I)Z"⟩, 28), (⟨"LineClaimsModel", "isBracket", "(I)Z"⟩, 28), (⟨"LineClaimsModel", "bracketHolds", "(I)Z"⟩, 28), (⟨"LineClaimsModel", "rest", "(II)I"⟩, 28), (⟨"LineClaimsModel", "hasQuantifier", "(I)Z"⟩, 28), (⟨"LineClaimsModel", "middleQuantifier", "(I)Z"⟩, 28), (⟨"LineClaimsModel", "middleHolds", "(I)Z"⟩, 28), (⟨"LineClaimsModel", "lowQuantifier", "(I)Z"⟩, 28)]
theorem lw_r2 : ∀ q ∈ lw_privs_2, lw_okq q := List.forall_mem_cons.mpr ⟨lw_p16, List.forall_mem_cons.mpr ⟨lw_p17, List.forall_mem_cons.mpr ⟨lw_p18, List.forall_mem_cons.mpr ⟨lw_p19, List.forall_mem_cons.mpr ⟨lw_p20, List.forall_mem_cons.mpr ⟨lw_p21, List.forall_mem_cons.mpr ⟨lw_p22, List.forall_mem_cons.mpr ⟨lw_p23, List.forall_mem_cons.mpr ⟨lw_p24, List.forall_mem_cons.mpr ⟨lw_p25, List.forall_mem_cons.mpr ⟨lw_p26, List.forall_mem_cons.mpr ⟨lw_p27, List.forall_mem_cons.mpr ⟨lw_p28, List.forall_mem_cons.mpr ⟨lw_p29, List.forall_mem_cons.mpr ⟨lw_p30, List.forall_mem_cons.mpr ⟨lw_p31, fun _ h => absurd h List.not_mem_nil⟩⟩⟩⟩⟩⟩⟩⟩⟩⟩⟩⟩⟩⟩⟩⟩
theorem lw_p32 : lw_okq (⟨"LineClaimsModel", "lowHolds", "(I)Z"⟩, 28) := ⟨⟨by decide +kernel, by decide +kernel⟩, List.mem_of_getElem? (i := 387) (by decide +kernel), List.mem_of_getElem? (i := 557) (by decide +kernel), List.mem_of_getElem? (i := 558) (by decide +kernel)⟩
theorem lw_p33 : lw_okq (⟨"LineClaimsModel", "isSo", "(I)Z"⟩, 28) := ⟨⟨by decide +kernel, by decide +kernel⟩, List.mem_of_getElem? (i := 387) (by decide +kernel), List.mem_of_getElem? (i := 575) (by decide +kernel), List.mem_of_getElem? (i := 576) (by decide +kernel)⟩
theorem lw_p34 : lw_okq (⟨"LineClaimsModel", "many", "(IIZ)I"⟩, 28) := ⟨⟨by decide +kernel, by decide +kernel⟩, List.mem_of_getElem? (i := 387) (by decide +kernel), List.mem_of_getElem? (i := 583) (by decide +kernel), List.mem_of_getElem? (i := 584) (by decide +kernel)⟩
def lw_privs_3 : List (MethodName × Nat) := [(⟨"LineClaimsModel", "lowHolds", "(I)Z"⟩, 28), (⟨"LineClaimsModel", "isSo", "(I)Z"⟩, 28), (⟨"LineClaimsModel", "many", "(IIZ)I"⟩, 28)]
theorem lw_r3 : ∀ q ∈ lw_privs_3, lw_okq q := List.forall_mem_cons.mpr ⟨lw_p32, List.forall_mem_cons.mpr ⟨lw_p33, List.forall_mem_cons.mpr ⟨lw_p34, fun _ h => absurd h List.not_mem_nil⟩⟩⟩
def lw_privs : List (MethodName × Nat) := lw_privs_1 ++ (lw_privs_2 ++ (lw_privs_3))
def lw_tbl : List Cond := k2_sels lw_privs ++ tables_1
theorem lw_privs_ok : ∀ q ∈ lw_privs, lw_okq q := by
  show ∀ q ∈ lw_privs_1 ++ (lw_privs_2 ++ (lw_privs_3)), lw_okq q
  exact List.forall_mem_append.mpr ⟨lw_r1, List.forall_mem_append.mpr ⟨lw_r2, lw_r3⟩⟩
end
section
-- pure combinators of the functions that the walks are tied to
def lt_ {α β : Type} (a : α) (f : α → β) : β := f a
theorem lt_e {α β : Type} {a : α} {f : α → β} {z : β} (h : lt_ a f = z) : ∃ x, x = a ∧ f x = z := ⟨a, rfl, h⟩
def ob {α β γ : Type} (o : Option (α × β)) (f : α → β → Option γ) : Option γ := match o with
  | none => none
  | some q => f q.1 q.2
theorem ob_e {α β γ : Type} {o : Option (α × β)} {f : α → β → Option γ} {z : γ} (h : ob o f = some z) : ∃ r u, o = some (r, u) ∧ f r u = some z := by
  cases o with
  | none => cases h
  | some q => exact ⟨q.1, q.2, rfl, h⟩
theorem ob_s {α β γ : Type} {o : Option (α × β)} {f : α → β → Option γ} {r : α} {u : β} (h : o = some (r, u)) : ob o f = f r u := by subst h; rfl
def gd {γ : Type} (b : Bool) (k : Option γ) : Option γ := match b with
  | true => k
  | false => none
theorem gd_e {γ : Type} {b : Bool} {k : Option γ} {z : γ} (h : gd b k = some z) : b = true ∧ k = some z := by
  cases b with
  | false => cases h
  | true => exact ⟨rfl, h⟩
theorem gd_s {γ : Type} {b : Bool} {k : Option γ} (h : b = true) : gd b k = k := by subst h; rfl
/-- a place of an array of n places -/
def inb (i : Int32) (n : Nat) : Bool := decide (0 ≤ i.toInt) && decide (i.toInt < n)
theorem inb_e {i : Int32} {n : Nat} (h : inb i n = true) : vp_in i n := by
  unfold inb at h
  simp only [Bool.and_eq_true, decide_eq_true_eq] at h
  exact vp_in_iff.mpr h
/-- a truth value -/
def bz (v : Int32) : Bool := decide (v = 0) || decide (v = 1)
theorem bz_e {v : Int32} (h : bz v = true) : v = 0 ∨ v = 1 := by
  unfold bz at h
  simpa only [Bool.or_eq_true, decide_eq_true_eq] using h
theorem bz_n {v : Int32} (h : bz v = true) : narrow .boolean (.int v) = .int v := by
  rcases bz_e h with rfl | rfl <;> decide +kernel
theorem bz_f {v : Int32} (h : bz v = true) : fits .boolean (.int v) = true := by
  rcases bz_e h with rfl | rfl <;> decide +kernel
def nz (v : Int32) : Bool := decide (¬ v = 0)
theorem nz_e {v : Int32} (h : nz v = true) : ¬ v = 0 := by
  unfold nz at h
  exact of_decide_eq_true h
-- a side's method: its whole world in, its whole world out
def g_In (D : va_G) (cl : List vw_C) (ty : List (ClassId × FieldType)) (w : va_W) (sz : Nat) (U : State) : Prop := U.heap.size = sz ∧ va_P D cl w U.heap ∧ va_K D cl ty U ∧ va_D (fun _ => True) w
def g_Q (D : va_G) (cl : List vw_C) (ty : List (ClassId × FieldType)) (w : va_W) (A : Nat → Prop) (o : Option Value) : Array Value → State → Outcome → State → Prop :=
  fun _ st oc t => (oc = .returned o ∧ va_P D cl w t.heap ∧ va_K D cl ty t ∧ va_D A w) ∧ va_F A st t
def g_M (l : Launch) (y : MethodName) (ws : List Cond) (rm : Room) (D : va_G) (cl : List vw_C) (ty : List (ClassId × FieldType)) (w : va_W) (av : List Value) (o : Option Value) (w' : va_W) : Prop :=
  ∀ sz : Nat, Met l y ws rm (va_Pc av (g_In D cl ty w sz)) (g_Q D cl ty w' (va_A w sz) o) 0 0 (va_A w sz)
def g_I (D : va_G) (cl : List vw_C) (A : Nat → Prop) (H0 H : Heap) (locs : List Loc) (w : va_W) : Prop := va_P D cl w H ∧ va_D A w ∧ va_S A H0 H locs
theorem g_blind {D : va_G} {cl : List vw_C} {ty : List (ClassId × FieldType)} {w : va_W} {sz : Nat} {av : List Value} : FrameBlind (va_Pc av (g_In D cl ty w sz)) :=
  fun a U g mk q => ⟨q.1, q.2.1, q.2.2.1, va_K.moved (u := U) (U := U.calling g mk a) (Vm.Alike.refl U.vm) q.2.2.2.1, q.2.2.2.2⟩
section GB
variable {p : Program} {l : Launch} {e : Env} {R : Room} {s : State} {m : MethodId} {args : Array Value} {below : List Frame} {meth : Method} {c : Code} {H : Heap} {locs : List Loc} {cells slots : Nat} {Q : State → Prop}
variable {D : va_G} {cl : List vw_C} {ty : List (ClassId × FieldType)} {w w' : va_W} {A : Nat → Prop} {cc bytes : ByteArray} {pc nL maxL index n : Nat} {ls : Array Slot} {rest st0 : List Value} {Ts ws ws' : List Cond} {own C : String} {y : MethodName} {ret : Option FieldType} {rm : Room}
theorem g_pre {av : List Value} (hK : va_K D cl ty s) (hI : g_I D cl A s.heap H locs w) : ∀ U : State, U.heap = H → s.WarmedH U.vm → va_Pc av (g_In D cl ty w H.size) av.toArray U :=
  fun U hU hW => ⟨rfl, by rw [hU], by rw [hU]; exact hI.1, va_K.moved hW.alike hK, hI.2.1.weaken (fun _ _ _ _ => trivial)⟩
theorem g_free (hI : g_I D cl A s.heap H locs w) (hA : ∀ q, s.heap.size ≤ q → A q) : ∀ q, va_A w H.size q → A q := fun q h => by
  rcases h with ⟨k, e, h⟩ | h
  · exact hI.2.1.2 k (q, e) h
  · exact hA q (Nat.le_trans hI.2.2.1 h)
theorem g_after {o : Option Value} {a : Array Value} (hr : va_Run p l e R s m args below meth c H locs cells slots 0 0 (F0 m pc ls st0) rest (g_Q D cl ty w' (va_A w H.size) o a) (va_A w H.size)) (hI : g_I D cl A s.heap H locs w) (hA : ∀ q, s.heap.size ≤ q → A q)
    (kk : ∀ (H1 : Heap) (locs1 : List Loc), g_I D cl A s.heap H1 locs1 w' → W p l e R s m args below meth c H1 locs1 cells slots Q (F0 m (pc + 3) ls (o.toList ++ rest))) : W p l e R s m args below meth c H locs cells slots Q (F0 m pc ls st0) := by
  intro T hT X
  obtain ⟨v, st₀, t, T', L, h0, X', hL, e1, e2, ⟨⟨hv, hP', hK', hD'⟩, hz, hk⟩, st⟩ := hr T hT X
  cases hv
  rw [h0] at hz hk
  have hfr := g_free hI hA
  obtain ⟨t2, a1, b1⟩ := kk T'.heap (locs ++ L) ⟨by rw [e1]; exact hP', hD'.weaken (fun k q _ h => hfr q.1 h),
    ⟨Nat.le_trans hI.2.2.1 (by rw [e1]; exact hz), fun q h1 h2 => by rw [e1, hk q (Nat.lt_of_lt_of_le h1 hI.2.2.1) (fun z => h2 (hfr q z))]; exact hI.2.2.2.1 q h1 h2, fun q hq => by
      rcases List.mem_append.mp hq with h | h
      · exact hI.2.2.2.2 q h
      · exact hfr _ (hL q h)⟩⟩ T' rfl X'
  exact ⟨t2, st t2 a1, b1⟩
theorem g_callV {o : Option Value} {b : Nat} {As : List Value} {st1 : List Value} (S : CallFix p m c cc nL s args Ts own) (hM : g_M l y ws rm D cl ty w (.ref b :: As) o w') (cw : CallW R s args own C index y bytes maxL ret ws rm 0 0 n) (hK : va_K D cl ty s) (hI : g_I D cl A s.heap H locs w) (hA : ∀ q, s.heap.size ≤ q → A q)
    (q0 ci : Nat) {T : u_T} {N : Nat} {fs : List Value} (hc : cl[ci]? = some (C, T, N)) (he : w[q0]? = some (b, .inr (ci, fs))) (hn : As.length = n) (hsize : ls.size = nL) (hst : st0 = As.reverse ++ .ref b :: rest) (hW : (rest.map fun v => v.category).sum ≤ 8) (hdg : decode cc pc = .ok (.invokevirtual index, 3)) (hf : cells ≤ R.cells ∧ slots ≤ R.slots) (ho : o.toList ++ rest = st1)
    (kk : ∀ (H1 : Heap) (locs1 : List Loc), g_I D cl A s.heap H1 locs1 w' → W p l e R s m args below meth c H1 locs1 cells slots Q (F0 m (pc + 3) ls st1)) : W p l e R s m args below meth c H locs cells slots Q (F0 m pc ls st0) := by
  subst ho
  exact g_after (va_runV (As := As) (rest := rest) (b := b) S (hM H.size) cw ⟨g_blind, va_recv hK hI.1 hc he, g_pre hK hI⟩ rfl hn hsize hst (lv_room hW) hdg hf) hI hA kk
theorem g_callS {o : Option Value} {As : List Value} {st1 : List Value} (S : CallFix p m c cc nL s args Ts own) (hM : g_M l y ws rm D cl ty w As o w') (cw : CallB R s args own index y bytes maxL ret ws rm 0 0 n ∧ (Cond.static y).before args s = true) (hK : va_K D cl ty s) (hI : g_I D cl A s.heap H locs w) (hA : ∀ q, s.heap.size ≤ q → A q)
    (hn : As.length = n) (hsize : ls.size = nL) (hst : st0 = As.reverse ++ rest) (hW : (rest.map fun v => v.category).sum ≤ 8) (hdg : decode cc pc = .ok (.invokestatic index, 3)) (hf : cells ≤ R.cells ∧ slots ≤ R.slots) (ho : o.toList ++ rest = st1)
    (kk : ∀ (H1 : Heap) (locs1 : List Loc), g_I D cl A s.heap H1 locs1 w' → W p l e R s m args below meth c H1 locs1 cells slots Q (F0 m (pc + 3) ls st1)) : W p l e R s m args below meth c H locs cells slots Q (F0 m pc ls st0) := by
  subst ho
  exact g_after (va_runS (As := As) (rest := rest) S (hM H.size) cw ⟨g_blind, g_pre hK hI⟩ rfl hn hsize hst (lv_room hW) hdg hf) hI hA kk
theorem g_get {T : u_T} {N ci a : Nat} (hexec : p.tables.exec = Jvm.exec) (hb : c.code = cc) (hts : ∀ w ∈ Ts, w.before args s = true) (hin : ∀ w ∈ u_ws C T N, w ∈ Ts) (hown : s.vm.findClass own = some m.cls) (hK : va_K D cl ty s) (hI : g_I D cl A s.heap H locs w) (q0 : Nat) {fs : List Value} (he : w[q0]? = some (a, .inr (ci, fs))) (hc : cl[ci]? = some (C, T, N)) (k : Nat) (hk : k < N) (hlink : (Cond.fieldLink own index (T k).1 (T k).2.1 (T k).2.2.1).before args s = true) {v : Value} (hv : fs[k]? = some v) (hdg : decode cc pc = .ok (.getfield index, 3))
    (kk : W p l e R s m args below meth c H locs cells slots Q (F0 m (pc + 3) ls (v :: rest))) : W p l e R s m args below meth c H locs cells slots Q (F0 m pc ls (.ref a :: rest)) :=
  va_get hexec hb hts hin hown hK hI.1 q0 he hc k hk hlink (fun _ h => h) hv hdg kk
theorem g_put {T : u_T} {N ci a : Nat} (hexec : p.tables.exec = Jvm.exec) (hb : c.code = cc) (hts : ∀ w ∈ Ts, w.before args s = true) (hin : ∀ w ∈ u_ws C T N, w ∈ Ts) (ty0 : Nat → FieldType) (hty : ∀ k, k < N → parseFieldDescriptor (T k).2.2.1 = some (ty0 k)) (hnm : ∀ a, a < N → ∀ b, b < N → a ≠ b → (T a).2.1 ≠ (T b).2.1) (hown : s.vm.findClass own = some m.cls) (hK : va_K D cl ty s) (hI : g_I D cl A s.heap H locs w) (q0 : Nat) {fs : List Value} (he : w[q0]? = some (a, .inr (ci, fs))) (hc : cl[ci]? = some (C, T, N)) (k : Nat) (hk : k < N) (hlink : (Cond.fieldLink own index (T k).1 (T k).2.1 (T k).2.2.1).before args s = true) (hfin : (T k).2.2.2 = false) {t : FieldType} {v : Value} (hd : parseFieldDescriptor (T k).2.2.1 = some t) (hn : narrow t v = v) (hfit : fits t v = true) (hl : k < fs.length) (hdg : decode cc pc = .ok (.putfield index, 3)) (hw : w.set q0 (a, .inr (ci, fs.set k v)) = w')
    (kk : ∀ (H1 : Heap) (locs1 : List Loc), g_I D cl A s.heap H1 locs1 w' → W p l e R s m args below meth c H1 locs1 cells slots Q (F0 m (pc + 3) ls rest)) : W p l e R s m args below meth c H locs cells slots Q (F0 m pc ls (v :: .ref a :: rest)) := by
  subst hw
  exact va_put hexec hb hts hin ty0 hty hnm hown hK hI.1 hI.2.1 hI.2.2 q0 he hc k hk hlink (fun _ h => h) hfin hd hn hfit hl hdg (fun H1 locs1 a b c => kk H1 locs1 ⟨a, b, c⟩)
theorem g_iald {a : Nat} (hexec : p.tables.exec = Jvm.exec) (hb : c.code = cc) (hK : va_K D cl ty s) (hI : g_I D cl A s.heap H locs w) (q0 t0 : Nat) {cA : ClassId} {N : Nat} {f : Nat → Int32} (ha : w[q0]? = some (a, .inl (cA, N, .inl f))) (ht : ty[t0]? = some (cA, .int)) {i : Int32} (hin : inb i N = true) (hdg : decode cc pc = .ok (.iaload, 1))
    (kk : W p l e R s m args below meth c H locs cells slots Q (F0 m (pc + 1) ls (.int (f i.toNatClampNeg) :: rest))) : W p l e R s m args below meth c H locs cells slots Q (F0 m pc ls (.int i :: .ref a :: rest)) :=
  va_iald hexec hb hK hI.1 q0 t0 ha ht (inb_e hin) hdg kk
theorem g_zald {a : Nat} (hexec : p.tables.exec = Jvm.exec) (hb : c.code = cc) (hK : va_K D cl ty s) (hI : g_I D cl A s.heap H locs w) (q0 t0 : Nat) {cA : ClassId} {N : Nat} {f : Nat → Int32} (ha : w[q0]? = some (a, .inl (cA, N, .inl f))) (ht : ty[t0]? = some (cA, .boolean)) {i : Int32} (hin : inb i N = true) (hdg : decode cc pc = .ok (.baload, 1))
    (kk : W p l e R s m args below meth c H locs cells slots Q (F0 m (pc + 1) ls (.int (f i.toNatClampNeg) :: rest))) : W p l e R s m args below meth c H locs cells slots Q (F0 m pc ls (.int i :: .ref a :: rest)) :=
  va_zald hexec hb hK hI.1 q0 t0 ha ht (inb_e hin) hdg kk
theorem g_lald {a : Nat} (hexec : p.tables.exec = Jvm.exec) (hb : c.code = cc) (hK : va_K D cl ty s) (hI : g_I D cl A s.heap H locs w) (q0 t0 : Nat) {cA : ClassId} {N : Nat} {f : Nat → Int64} (ha : w[q0]? = some (a, .inl (cA, N, .inr (.inl f)))) (ht : ty[t0]? = some (cA, .long)) {i : Int32} (hin : inb i N = true) (hdg : decode cc pc = .ok (.laload, 1))
    (kk : W p l e R s m args below meth c H locs cells slots Q (F0 m (pc + 1) ls (.long (f i.toNatClampNeg) :: rest))) : W p l e R s m args below meth c H locs cells slots Q (F0 m pc ls (.int i :: .ref a :: rest)) :=
  va_lald hexec hb hK hI.1 q0 t0 ha ht (inb_e hin) hdg kk
theorem g_alen {a : Nat} (hexec : p.tables.exec = Jvm.exec) (hb : c.code = cc) (hK : va_K D cl ty s) (hI : g_I D cl A s.heap H locs w) (q0 t0 : Nat) {cA : ClassId} {x : vp_A} (ha : w[q0]? = some (a, .inl (cA, x))) {t : FieldType} (ht : ty[t0]? = some (cA, t)) {v : Int32} (hv : Int32.ofNat x.1 = v) (hdg : decode cc pc = .ok (.arraylength, 1))
    (kk : W p l e R s m args below meth c H locs cells slots Q (F0 m (pc + 1) ls (.int v :: rest))) : W p l e R s m args below meth c H locs cells slots Q (F0 m pc ls (.ref a :: rest)) :=
  va_alen hexec hb hK hI.1 q0 t0 ha ht hv hdg kk
theorem g_iast {a : Nat} (hexec : p.tables.exec = Jvm.exec) (hb : c.code = cc) (hK : va_K D cl ty s) (hI : g_I D cl A s.heap H locs w) (q0 t0 : Nat) {cA : ClassId} {N : Nat} {f : Nat → Int32} (ha : w[q0]? = some (a, .inl (cA, N, .inl f))) (ht : ty[t0]? = some (cA, .int)) {i x : Int32} (hin : inb i N = true) (hdg : decode cc pc = .ok (.iastore, 1)) (hw : w.set q0 (a, .inl (cA, N, .inl (upd f i.toNatClampNeg x))) = w')
    (kk : ∀ (H1 : Heap) (locs1 : List Loc), g_I D cl A s.heap H1 locs1 w' → W p l e R s m args below meth c H1 locs1 cells slots Q (F0 m (pc + 1) ls rest)) : W p l e R s m args below meth c H locs cells slots Q (F0 m pc ls (.int x :: .int i :: .ref a :: rest)) := by
  subst hw
  exact va_iast hexec hb hK hI.1 hI.2.1 hI.2.2 q0 t0 ha ht (inb_e hin) hdg (fun H1 locs1 a b c => kk H1 locs1 ⟨a, b, c⟩)
theorem g_zast {a : Nat} (hexec : p.tables.exec = Jvm.exec) (hb : c.code = cc) (hK : va_K D cl ty s) (hI : g_I D cl A s.heap H locs w) (q0 t0 : Nat) {cA : ClassId} {N : Nat} {f : Nat → Int32} (ha : w[q0]? = some (a, .inl (cA, N, .inl f))) (ht : ty[t0]? = some (cA, .boolean)) {i x : Int32} (hin : inb i N = true) (hdg : decode cc pc = .ok (.bastore, 1)) (hw : w.set q0 (a, .inl (cA, N, .inl (upd f i.toNatClampNeg (vp_nar .boolean x)))) = w')
    (kk : ∀ (H1 : Heap) (locs1 : List Loc), g_I D cl A s.heap H1 locs1 w' → W p l e R s m args below meth c H1 locs1 cells slots Q (F0 m (pc + 1) ls rest)) : W p l e R s m args below meth c H locs cells slots Q (F0 m pc ls (.int x :: .int i :: .ref a :: rest)) := by
  subst hw
  exact va_zast hexec hb hK hI.1 hI.2.1 hI.2.2 q0 t0 ha ht (inb_e hin) hdg (fun H1 locs1 a b c => kk H1 locs1 ⟨a, b, c⟩)
theorem g_last {a : Nat} (hexec : p.tables.exec = Jvm.exec) (hb : c.code = cc) (hK : va_K D cl ty s) (hI : g_I D cl A s.heap H locs w) (q0 t0 : Nat) {cA : ClassId} {N : Nat} {f : Nat → Int64} (ha : w[q0]? = some (a, .inl (cA, N, .inr (.inl f)))) (ht : ty[t0]? = some (cA, .long)) {i : Int32} {x : Int64} (hin : inb i N = true) (hdg : decode cc pc = .ok (.lastore, 1)) (hw : w.set q0 (a, .inl (cA, N, .inr (.inl (vp_updL f i.toNatClampNeg x)))) = w')
    (kk : ∀ (H1 : Heap) (locs1 : List Loc), g_I D cl A s.heap H1 locs1 w' → W p l e R s m args below meth c H1 locs1 cells slots Q (F0 m (pc + 1) ls rest)) : W p l e R s m args below meth c H locs cells slots Q (F0 m pc ls (.long x :: .int i :: .ref a :: rest)) := by
  subst hw
  exact va_last hexec hb hK hI.1 hI.2.1 hI.2.2 q0 t0 ha ht (inb_e hin) hdg (fun H1 locs1 a b c => kk H1 locs1 ⟨a, b, c⟩)
theorem g_ofW {av : List Value} {o : Option Value} (hy : plainName y.cls = true) (hw : ws = Cond.code y cc maxL ret :: ws') (hsl : (lg_sl av).length ≤ maxL)
    (body : ∀ (p : Program) (e : Env) (s : State) (m : MethodId) (below : List Frame) (meth : Method) (c : Code) (A : Nat → Prop) (ls : Array Slot), p.tables.exec = Jvm.exec → c.code = cc → meth.sig.returnType = ret → c.maxLocals = maxL → s.vm.findClass y.cls = some m.cls → (∀ w ∈ ws, w.before av.toArray s = true) → meth.locks = false → va_K D cl ty s → (∀ q, s.heap.size ≤ q → A q) → g_I D cl A s.heap s.heap [] w → lv_has ls maxL (lv_args 0 av) →
      W p l e rm s m av.toArray below meth c s.heap [] 0 0 (MQ below (g_Q D cl ty w' A o) av.toArray s 0 0 A) (F0 m 0 ls [])) : g_M l y ws rm D cl ty w av o w' := by
  intro sz
  refine Met.ofW (cc := cc) (maxL := maxL) (ret := ret) hy hw ?_
  intro p e s m args below meth c s₁ B hml hv
  obtain ⟨rfl, hsz, hP, hK, hD0⟩ := hv
  subst hsz
  rw [lg_entry_eq]
  exact body p e s m below meth c (va_A w s.heap.size) _ B.exec B.bytes B.returns hml (findClass_of_methodNamed B.named) (atoms_spec (ws := ws) B.pre) B.notSynchronized hK (fun q h => Or.inr h) ⟨hP, hD0.self, va_S.rf⟩ (lv_entry av hsl)
theorem g_ofF {av : List Value} {o : Option Value} (hy : plainFor y = true) (hw : ws = Cond.code y cc maxL ret :: ws') (hsl : (lg_sl av).length ≤ maxL)
    (body : ∀ (p : Program) (e : Env) (s : State) (m : MethodId) (below : List Frame) (meth : Method) (c : Code) (A : Nat → Prop) (ls : Array Slot), p.tables.exec = Jvm.exec → c.code = cc → meth.sig.returnType = ret → c.maxLocals = maxL → s.vm.findClass y.cls = some m.cls → (∀ w ∈ ws, w.before av.toArray s = true) → meth.locks = false → va_K D cl ty s → (∀ q, s.heap.size ≤ q → A q) → g_I D cl A s.heap s.heap [] w → lv_has ls maxL (lv_args 0 av) →
      W p l e rm s m av.toArray below meth c s.heap [] 0 0 (MQ below (g_Q D cl ty w' A o) av.toArray s 0 0 A) (F0 m 0 ls [])) : g_M l y ws rm D cl ty w av o w' := by
  intro sz
  refine va_MetF (cc := cc) (maxL := maxL) (ret := ret) hy hw ?_
  intro p e s m args below meth c s₁ B hml hv
  obtain ⟨rfl, hsz, hP, hK, hD0⟩ := hv
  subst hsz
  rw [lg_entry_eq]
  exact body p e s m below meth c (va_A w s.heap.size) _ B.exec B.bytes B.returns hml (findClass_of_methodNamed B.named) (atoms_spec (ws := ws) B.pre) B.notSynchronized hK (fun q h => Or.inr h) ⟨hP, hD0.self, va_S.rf⟩ (lv_entry av hsl)
theorem g_iret {σ : Type} {Wd : σ → va_W} {v r0 : Int32} {u u0 : σ} (hexec : p.tables.exec = Jvm.exec) (hb : c.code = cc) (hr : meth.sig.returnType = some .int) (hlk : meth.locks = false) (hK : va_K D cl ty s) (hI : g_I D cl A s.heap H locs (Wd u)) (h : some (v, u) = some (r0, u0)) (hdg : decode cc pc = .ok (.ireturn, 1)) :
    W p l e R s m args below meth c H locs cells slots (MQ below (g_Q D cl ty (Wd u0) A (some (.int r0))) args s cells slots A) (F0 m pc ls [.int v]) := by
  cases h
  exact W.iret hexec hb hr (fun t ht hW => ⟨⟨rfl, by rw [ht]; exact hI.1, va_K.moved hW.alike hK, hI.2.1⟩, hI.2.2.F ht⟩) hI.2.2.2.2 hdg hlk
theorem g_zret {σ : Type} {Wd : σ → va_W} {v r0 : Int32} {u u0 : σ} (hexec : p.tables.exec = Jvm.exec) (hb : c.code = cc) (hr : meth.sig.returnType = some .boolean) (hlk : meth.locks = false) (hK : va_K D cl ty s) (hI : g_I D cl A s.heap H locs (Wd u)) (h : gd (bz v) (some (v, u)) = some (r0, u0)) (hdg : decode cc pc = .ok (.ireturn, 1)) :
    W p l e R s m args below meth c H locs cells slots (MQ below (g_Q D cl ty (Wd u0) A (some (.int r0))) args s cells slots A) (F0 m pc ls [.int v]) := by
  obtain ⟨hz, h⟩ := gd_e h
  cases h
  exact W.zret hexec hb hr (bz_n hz) (fun t ht hW => ⟨⟨rfl, by rw [ht]; exact hI.1, va_K.moved hW.alike hK, hI.2.1⟩, hI.2.2.F ht⟩) hI.2.2.2.2 hdg hlk
theorem g_lret {σ : Type} {Wd : σ → va_W} {v r0 : Int64} {u u0 : σ} (hexec : p.tables.exec = Jvm.exec) (hb : c.code = cc) (hr : meth.sig.returnType = some .long) (hlk : meth.locks = false) (hK : va_K D cl ty s) (hI : g_I D cl A s.heap H locs (Wd u)) (h : some (v, u) = some (r0, u0)) (hdg : decode cc pc = .ok (.lreturn, 1)) :
    W p l e R s m args below meth c H locs cells slots (MQ below (g_Q D cl ty (Wd u0) A (some (.long r0))) args s cells slots A) (F0 m pc ls [.long v]) := by
  cases h
  exact W.lret hexec hb hr (fun t ht hW => ⟨⟨rfl, by rw [ht]; exact hI.1, va_K.moved hW.alike hK, hI.2.1⟩, hI.2.2.F ht⟩) hI.2.2.2.2 hdg hlk
theorem g_vret {σ : Type} {Wd : σ → va_W} {r0 : Unit} {u u0 : σ} (hexec : p.tables.exec = Jvm.exec) (hb : c.code = cc) (hr : meth.sig.returnType = none) (hlk : meth.locks = false) (hK : va_K D cl ty s) (hI : g_I D cl A s.heap H locs (Wd u)) (h : some ((), u) = some (r0, u0)) (hdg : decode cc pc = .ok (.return_, 1)) :
    W p l e R s m args below meth c H locs cells slots (MQ below (g_Q D cl ty (Wd u0) A none) args s cells slots A) (F0 m pc ls []) := by
  cases h
  exact W.vret hexec hb hr (fun t ht hW => ⟨⟨rfl, by rw [ht]; exact hI.1, va_K.moved hW.alike hK, hI.2.1⟩, hI.2.2.F ht⟩) hI.2.2.2.2 hdg hlk
end GB
end
section
abbrev R_L : String := "LineClaims"
def T_L : u_T := fun k => match k with
  | 0 => ("LineClaims", "typed", "LLineClaims$Text;", true)
  | 1 => ("LineClaims", "claims", "LLineClaims$Claims;", true)
  | 2 => ("LineClaims", "reader", "LLineClaims$Reader;", true)
  | 3 => ("LineClaims", "row", "LLineClaims$Row;", true)
  | _ => ("LineClaims", "xIsFree", "Z", false)
def ty_L : Nat → FieldType := fun k => match k with
  | 0 => .object "LineClaims$Text"
  | 1 => .object "LineClaims$Claims"
  | 2 => .object "LineClaims$Reader"
  | 3 => .object "LineClaims$Row"
  | _ => .boolean
theorem nm_L : ∀ a, a < 5 → ∀ b, b < 5 → a ≠ b → (T_L a).2.1 ≠ (T_L b).2.1 := by decide +kernel
theorem tyok_L : ∀ k, k < 5 → parseFieldDescriptor (T_L k).2.2.1 = some (ty_L k) := by decide +kernel
abbrev R_T : String := "LineClaims$Text"
def T_T : u_T := fun k => match k with
  | 0 => ("LineClaims$Text", "marks", "[I", true)
  | 1 => ("LineClaims$Text", "places", "[I", true)
  | 2 => ("LineClaims$Text", "size", "I", false)
  | _ => ("LineClaims$Text", "length", "I", false)
def ty_T : Nat → FieldType := fun k => match k with
  | 0 => .array .int
  | 1 => .array .int
  | 2 => .int
  | _ => .int
theorem nm_T : ∀ a, a < 4 → ∀ b, b < 4 → a ≠ b → (T_T a).2.1 ≠ (T_T b).2.1 := by decide +kernel
theorem tyok_T : ∀ k, k < 4 → parseFieldDescriptor (T_T k).2.2.1 = some (ty_T k) := by decide +kernel
abbrev R_C : String := "LineClaims$Claims"
def T_C : u_T := fun k => match k with
  | 0 => ("LineClaims$Claims", "kinds", "[I", true)
  | 1 => ("LineClaims$Claims", "seconds", "[I", true)
  | 2 => ("LineClaims$Claims", "variables", "[I", true)
  | 3 => ("LineClaims$Claims", "divisors", "[I", true)
  | 4 => ("LineClaims$Claims", "numbers", "[I", true)
  | 5 => ("LineClaims$Claims", "factors", "[I", true)
  | 6 => ("LineClaims$Claims", "open", "[I", true)
  | 7 => ("LineClaims$Claims", "values", "[I", true)
  | _ => ("LineClaims$Claims", "size", "I", false)
def ty_C : Nat → FieldType := fun k => match k with
  | 0 => .array .int
  | 1 => .array .int
  | 2 => .array .int
  | 3 => .array .int
  | 4 => .array .int
  | 5 => .array .int
  | 6 => .array .int
  | 7 => .array .int
  | _ => .int
theorem nm_C : ∀ a, a < 9 → ∀ b, b < 9 → a ≠ b → (T_C a).2.1 ≠ (T_C b).2.1 := by decide +kernel
theorem tyok_C : ∀ k, k < 9 → parseFieldDescriptor (T_C k).2.2.1 = some (ty_C k) := by decide +kernel
abbrev R_R : String := "LineClaims$Reader"
def T_R : u_T := fun k => match k with
  | 0 => ("LineClaims$Reader", "text", "LLineClaims$Text;", true)
  | 1 => ("LineClaims$Reader", "claims", "LLineClaims$Claims;", true)
  | 2 => ("LineClaims$Reader", "at", "I", false)
  | 3 => ("LineClaims$Reader", "brackets", "I", false)
  | _ => ("LineClaims$Reader", "nested", "Z", false)
def ty_R : Nat → FieldType := fun k => match k with
  | 0 => .object "LineClaims$Text"
  | 1 => .object "LineClaims$Claims"
  | 2 => .int
  | 3 => .int
  | _ => .boolean
theorem nm_R : ∀ a, a < 5 → ∀ b, b < 5 → a ≠ b → (T_R a).2.1 ≠ (T_R b).2.1 := by decide +kernel
theorem tyok_R : ∀ k, k < 5 → parseFieldDescriptor (T_R k).2.2.1 = some (ty_R k) := by decide +kernel
abbrev R_W : String := "LineClaims$Row"
def T_W : u_T := fun k => match k with
  | _ => ("LineClaims$Row", "words", "[J", true)
def ty_W : Nat → FieldType := fun k => match k with
  | _ => .array .long
theorem nm_W : ∀ a, a < 1 → ∀ b, b < 1 → a ≠ b → (T_W a).2.1 ≠ (T_W b).2.1 := by decide +kernel
theorem tyok_W : ∀ k, k < 1 → parseFieldDescriptor (T_W k).2.2.1 = some (ty_W k) := by decide +kernel
abbrev R_M : String := "LineClaimsModel"
def T_M : u_T := fun k => match k with
  | 0 => ("LineClaimsModel", "chars", "[I", true)
  | 1 => ("LineClaimsModel", "typed", "I", false)
  | 2 => ("LineClaimsModel", "size", "I", false)
  | 3 => ("LineClaimsModel", "at", "I", false)
  | 4 => ("LineClaimsModel", "fault", "I", false)
  | 5 => ("LineClaimsModel", "claims", "I", false)
  | 6 => ("LineClaimsModel", "brackets", "I", false)
  | 7 => ("LineClaimsModel", "xFree", "Z", false)
  | 8 => ("LineClaimsModel", "truth", "Z", false)
  | 9 => ("LineClaimsModel", "kind", "[I", true)
  | 10 => ("LineClaimsModel", "owner", "[I", true)
  | 11 => ("LineClaimsModel", "about", "[I", true)
  | 12 => ("LineClaimsModel", "sum", "[I", true)
  | 13 => ("LineClaimsModel", "read", "I", false)
  | 14 => ("LineClaimsModel", "readBrackets", "I", false)
  | 15 => ("LineClaimsModel", "readFree", "Z", false)
  | 16 => ("LineClaimsModel", "deep", "Z", false)
  | 17 => ("LineClaimsModel", "newKind", "[I", true)
  | 18 => ("LineClaimsModel", "newOwner", "[I", true)
  | 19 => ("LineClaimsModel", "newAbout", "[I", true)
  | 20 => ("LineClaimsModel", "newSum", "[I", true)
  | 21 => ("LineClaimsModel", "held", "[I", true)
  | 22 => ("LineClaimsModel", "open", "[I", true)
  | 23 => ("LineClaimsModel", "left", "[I", true)
  | 24 => ("LineClaimsModel", "number", "[I", true)
  | 25 => ("LineClaimsModel", "low", "[Z", true)
  | 26 => ("LineClaimsModel", "middle", "[Z", true)
  | _ => ("LineClaimsModel", "high", "[Z", true)
def ty_M : Nat → FieldType := fun k => match k with
  | 0 => .array .int
  | 1 => .int
  | 2 => .int
  | 3 => .int
  | 4 => .int
  | 5 => .int
  | 6 => .int
  | 7 => .boolean
  | 8 => .boolean
  | 9 => .array .int
  | 10 => .array .int
  | 11 => .array .int
  | 12 => .array .int
  | 13 => .int
  | 14 => .int
  | 15 => .boolean
  | 16 => .boolean
  | 17 => .array .int
  | 18 => .array .int
  | 19 => .array .int
  | 20 => .array .int
  | 21 => .array .int
  | 22 => .array .int
  | 23 => .array .int
  | 24 => .array .int
  | 25 => .array .boolean
  | 26 => .array .boolean
  | _ => .array .boolean
theorem nm_M : ∀ a, a < 28 → ∀ b, b < 28 → a ≠ b → (T_M a).2.1 ≠ (T_M b).2.1 := by decide +kernel
theorem tyok_M : ∀ k, k < 28 → parseFieldDescriptor (T_M k).2.2.1 = some (ty_M k) := by decide +kernel
abbrev R_J : String := "java/lang/Math"
abbrev vwCl : List vw_C := [(R_L, T_L, 5), (R_T, T_T, 4), (R_C, T_C, 9), (R_R, T_R, 5), (R_W, T_W, 1), (R_M, T_M, 28)]
def gW : List Cond := lw_tbl.filter goodWord
theorem gw_good {w : Cond} (h : w ∈ gW) : (w.onTables && w.keeps) = true ∨ ∃ ty, w = .arrayClass ty := good_of_word (List.mem_filter.mp h).2
theorem gw_V {own C : String} {idx : Nat} {y : MethodName} {bytes : ByteArray} {maxL : Nat} {ret : Option FieldType} (h1 : Cond.methodLink own idx y ∈ gW) (h2 : Cond.instanceMethod y ∈ gW) (h3 : Cond.selects C y y ∈ gW) (h4 : Cond.initialized C ∈ gW) (h5 : Cond.code y bytes maxL ret ∈ gW) : GoodIn gW (wsV own idx C y (Cond.code y bytes maxL ret :: gW)) := by
  intro w hw
  have hm : w ∈ gW := by
    unfold wsV at hw
    simp only [List.cons_append, List.nil_append, List.mem_cons] at hw
    rcases hw with rfl | rfl | rfl | rfl | rfl | h
    · exact h1
    · exact h2
    · exact h3
    · exact h4
    · exact h5
    · exact h
  exact ⟨hm, gw_good hm⟩
theorem gw_S {own : String} {idx : Nat} {y : MethodName} {bytes : ByteArray} {maxL : Nat} {ret : Option FieldType} (h1 : Cond.methodLink own idx y ∈ gW) (h2 : Cond.static y ∈ gW) (h4 : Cond.initialized y.cls ∈ gW) (h5 : Cond.code y bytes maxL ret ∈ gW) : GoodIn gW (va_wsS own idx y (Cond.code y bytes maxL ret :: gW)) := by
  intro w hw
  have hm : w ∈ gW := by
    unfold va_wsS at hw
    simp only [List.cons_append, List.nil_append, List.mem_cons] at hw
    rcases hw with rfl | rfl | rfl | rfl | h
    · exact h1
    · exact h2
    · exact h4
    · exact h5
    · exact h
  exact ⟨hm, gw_good hm⟩
set_option maxRecDepth 20000 in
theorem in_M : ∀ w ∈ u_ws R_M T_M 28, w ∈ gW := by decide +kernel
set_option maxRecDepth 20000 in
theorem in_L : ∀ w ∈ u_ws R_L T_L 5, w ∈ gW := by decide +kernel
set_option maxRecDepth 20000 in
theorem in_T : ∀ w ∈ u_ws R_T T_T 4, w ∈ gW := by decide +kernel
set_option maxRecDepth 20000 in
theorem in_C : ∀ w ∈ u_ws R_C T_C 9, w ∈ gW := by decide +kernel
set_option maxRecDepth 20000 in
theorem in_R : ∀ w ∈ u_ws R_R T_R 5, w ∈ gW := by decide +kernel
set_option maxRecDepth 20000 in
theorem in_W : ∀ w ∈ u_ws R_W T_W 1, w ∈ gW := by decide +kernel
abbrev c0_L_init : ByteArray := prog_1_method_1_code
def y_L_init : MethodName := ⟨R_L, "<init>", "()V"⟩
def w_L_init : List Cond := .code y_L_init c0_L_init 1 none :: gW
abbrev c0_T_hasRoomFor : ByteArray := prog_5_method_3_code
def y_T_hasRoomFor : MethodName := ⟨R_T, "hasRoomFor", "(I)Z"⟩
def w_T_hasRoomFor : List Cond := .code y_T_hasRoomFor c0_T_hasRoomFor 2 (some .boolean) :: gW
abbrev c0_L_byteOf : ByteArray := prog_1_method_14_code
def y_L_byteOf : MethodName := ⟨R_L, "byteOf", "(II)I"⟩
def w_L_byteOf : List Cond := .code y_L_byteOf c0_L_byteOf 2 (some .int) :: gW
abbrev c0_T_allows : ByteArray := prog_5_method_2_code
def y_T_allows : MethodName := ⟨R_T, "allows", "(I)Z"⟩
def w_T_allows : List Cond := .code y_T_allows c0_T_allows 1 (some .boolean) :: gW
abbrev c0_T_append : ByteArray := prog_5_method_4_code
def y_T_append : MethodName := ⟨R_T, "append", "(I)V"⟩
def w_T_append : List Cond := .code y_T_append c0_T_append 2 none :: gW
abbrev c0_L_type : ByteArray := prog_1_method_2_code
def y_L_type : MethodName := ⟨R_L, "type", "(II)Z"⟩
def w_L_type : List Cond := .code y_L_type c0_L_type 4 (some .boolean) :: gW
abbrev c0_C_clear : ByteArray := prog_2_method_2_code
def y_C_clear : MethodName := ⟨R_C, "clear", "()V"⟩
def w_C_clear : List Cond := .code y_C_clear c0_C_clear 1 none :: gW
abbrev c0_C_isFull : ByteArray := prog_2_method_3_code
def y_C_isFull : MethodName := ⟨R_C, "isFull", "()Z"⟩
def w_C_isFull : List Cond := .code y_C_isFull c0_C_isFull 1 (some .boolean) :: gW
abbrev c0_T_markAt : ByteArray := prog_5_method_6_code
def y_T_markAt : MethodName := ⟨R_T, "markAt", "(I)I"⟩
def w_T_markAt : List Cond := .code y_T_markAt c0_T_markAt 2 (some .int) :: gW
abbrev c0_R_mark : ByteArray := prog_3_method_5_code
def y_R_mark : MethodName := ⟨R_R, "mark", "()I"⟩
def w_R_mark : List Cond := .code y_R_mark c0_R_mark 1 (some .int) :: gW
abbrev c0_C_add : ByteArray := prog_2_method_4_code
def y_C_add : MethodName := ⟨R_C, "add", "(I)I"⟩
def w_C_add : List Cond := .code y_C_add c0_C_add 4 (some .int) :: gW
abbrev c0_R_begin : ByteArray := prog_3_method_7_code
def y_R_begin : MethodName := ⟨R_R, "begin", "()I"⟩
def w_R_begin : List Cond := .code y_R_begin c0_R_begin 2 (some .int) :: gW
abbrev c0_R_isDivisor : ByteArray := prog_3_method_11_code
def y_R_isDivisor : MethodName := ⟨R_R, "isDivisor", "()Z"⟩
def w_R_isDivisor : List Cond := .code y_R_isDivisor c0_R_isDivisor 1 (some .boolean) :: gW
abbrev c0_C_has : ByteArray := prog_2_method_15_code
def y_C_has : MethodName := ⟨R_C, "has", "(I)Z"⟩
def w_C_has : List Cond := .code y_C_has c0_C_has 2 (some .boolean) :: gW
abbrev c0_C_putDivisor : ByteArray := prog_2_method_8_code
def y_C_putDivisor : MethodName := ⟨R_C, "putDivisor", "(II)V"⟩
def w_C_putDivisor : List Cond := .code y_C_putDivisor c0_C_putDivisor 3 none :: gW
abbrev c0_R_digitOf : ByteArray := prog_3_method_14_code
def y_R_digitOf : MethodName := ⟨R_R, "digitOf", "(I)I"⟩
def w_R_digitOf : List Cond := .code y_R_digitOf c0_R_digitOf 1 (some .int) :: gW
abbrev c0_C_addNumber : ByteArray := prog_2_method_9_code
def y_C_addNumber : MethodName := ⟨R_C, "addNumber", "(II)V"⟩
def w_C_addNumber : List Cond := .code y_C_addNumber c0_C_addNumber 3 none :: gW
abbrev c0_R_variableOf : ByteArray := prog_3_method_15_code
def y_R_variableOf : MethodName := ⟨R_R, "variableOf", "(I)I"⟩
def w_R_variableOf : List Cond := .code y_R_variableOf c0_R_variableOf 1 (some .int) :: gW
abbrev c0_C_addFactor : ByteArray := prog_2_method_10_code
def y_C_addFactor : MethodName := ⟨R_C, "addFactor", "(III)V"⟩
def w_C_addFactor : List Cond := .code y_C_addFactor c0_C_addFactor 4 none :: gW
abbrev c0_R_readPart : ByteArray := prog_3_method_13_code
def y_R_readPart : MethodName := ⟨R_R, "readPart", "(III)Z"⟩
def w_R_readPart : List Cond := .code y_R_readPart c0_R_readPart 8 (some .boolean) :: gW
abbrev c0_R_readSum : ByteArray := prog_3_method_12_code
def y_R_readSum : MethodName := ⟨R_R, "readSum", "(III)Z"⟩
def w_R_readSum : List Cond := .code y_R_readSum c0_R_readSum 7 (some .boolean) :: gW
abbrev c0_C_putKind : ByteArray := prog_2_method_5_code
def y_C_putKind : MethodName := ⟨R_C, "putKind", "(II)V"⟩
def w_C_putKind : List Cond := .code y_C_putKind c0_C_putKind 3 none :: gW
abbrev c0_J_abs : ByteArray := prog_8_method_59_code
def y_J_abs : MethodName := ⟨R_J, "abs", "(I)I"⟩
def w_J_abs : List Cond := .code y_J_abs c0_J_abs 1 (some .int) :: gW
abbrev c0_C_isWithin : ByteArray := prog_2_method_11_code
def y_C_isWithin : MethodName := ⟨R_C, "isWithin", "(III)Z"⟩
def w_C_isWithin : List Cond := .code y_C_isWithin c0_C_isWithin 5 (some .boolean) :: gW
abbrev c0_R_readBracket : ByteArray := prog_3_method_10_code
def y_R_readBracket : MethodName := ⟨R_R, "readBracket", "(I)Z"⟩
def w_R_readBracket : List Cond := .code y_R_readBracket c0_R_readBracket 5 (some .boolean) :: gW
abbrev c0_C_putSecond : ByteArray := prog_2_method_6_code
def y_C_putSecond : MethodName := ⟨R_C, "putSecond", "(I)V"⟩
def w_C_putSecond : List Cond := .code y_C_putSecond c0_C_putSecond 2 none :: gW
abbrev c0_R_readPair : ByteArray := prog_3_method_8_code
def y_R_readPair : MethodName := ⟨R_R, "readPair", "(II)Z"⟩
def w_R_readPair : List Cond := .code y_R_readPair c0_R_readPair 4 (some .boolean) :: gW
abbrev c0_C_putVariable : ByteArray := prog_2_method_7_code
def y_C_putVariable : MethodName := ⟨R_C, "putVariable", "(II)V"⟩
def w_C_putVariable : List Cond := .code y_C_putVariable c0_C_putVariable 3 none :: gW
abbrev c0_R_readQuantified : ByteArray := prog_3_method_9_code
def y_R_readQuantified : MethodName := ⟨R_R, "readQuantified", "(II)Z"⟩
def w_R_readQuantified : List Cond := .code y_R_readQuantified c0_R_readQuantified 5 (some .boolean) :: gW
abbrev c0_R_readClaim : ByteArray := prog_3_method_6_code
def y_R_readClaim : MethodName := ⟨R_R, "readClaim", "(II)Z"⟩
def w_R_readClaim : List Cond := .code y_R_readClaim c0_R_readClaim 3 (some .boolean) :: gW
abbrev c0_C_openOf : ByteArray := prog_2_method_14_code
def y_C_openOf : MethodName := ⟨R_C, "openOf", "(I)I"⟩
def w_C_openOf : List Cond := .code y_C_openOf c0_C_openOf 2 (some .int) :: gW
abbrev c0_C_findOpen : ByteArray := prog_2_method_13_code
def y_C_findOpen : MethodName := ⟨R_C, "findOpen", "()V"⟩
def w_C_findOpen : List Cond := .code y_C_findOpen c0_C_findOpen 2 none :: gW
abbrev c0_C_isOpen : ByteArray := prog_2_method_12_code
def y_C_isOpen : MethodName := ⟨R_C, "isOpen", "(I)Z"⟩
def w_C_isOpen : List Cond := .code y_C_isOpen c0_C_isOpen 2 (some .boolean) :: gW
abbrev c0_R_readWhole : ByteArray := prog_3_method_2_code
def y_R_readWhole : MethodName := ⟨R_R, "readWhole", "()Z"⟩
def w_R_readWhole : List Cond := .code y_R_readWhole c0_R_readWhole 1 (some .boolean) :: gW
abbrev c0_R_bracketsRead : ByteArray := prog_3_method_3_code
def y_R_bracketsRead : MethodName := ⟨R_R, "bracketsRead", "()I"⟩
def w_R_bracketsRead : List Cond := .code y_R_bracketsRead c0_R_bracketsRead 1 (some .int) :: gW
abbrev c0_T_placeOf : ByteArray := prog_5_method_7_code
def y_T_placeOf : MethodName := ⟨R_T, "placeOf", "(I)I"⟩
def w_T_placeOf : List Cond := .code y_T_placeOf c0_T_placeOf 2 (some .int) :: gW
abbrev c0_R_faultPlace : ByteArray := prog_3_method_4_code
def y_R_faultPlace : MethodName := ⟨R_R, "faultPlace", "()I"⟩
def w_R_faultPlace : List Cond := .code y_R_faultPlace c0_R_faultPlace 1 (some .int) :: gW
abbrev c0_T_clear : ByteArray := prog_5_method_5_code
def y_T_clear : MethodName := ⟨R_T, "clear", "()V"⟩
def w_T_clear : List Cond := .code y_T_clear c0_T_clear 1 none :: gW
abbrev c0_C_pairWord : ByteArray := prog_2_method_17_code
def y_C_pairWord : MethodName := ⟨R_C, "pairWord", "(III)J"⟩
def w_C_pairWord : List Cond := .code y_C_pairWord c0_C_pairWord 6 (some .long) :: gW
abbrev c0_C_isSo : ByteArray := prog_2_method_19_code
def y_C_isSo : MethodName := ⟨R_C, "isSo", "(III)Z"⟩
def w_C_isSo : List Cond := .code y_C_isSo c0_C_isSo 8 (some .boolean) :: gW
abbrev c0_C_quantifiedWord : ByteArray := prog_2_method_18_code
def y_C_quantifiedWord : MethodName := ⟨R_C, "quantifiedWord", "(III)J"⟩
def w_C_quantifiedWord : List Cond := .code y_C_quantifiedWord c0_C_quantifiedWord 7 (some .long) :: gW
abbrev c0_C_factorOf : ByteArray := prog_2_method_20_code
def y_C_factorOf : MethodName := ⟨R_C, "factorOf", "(II)I"⟩
def w_C_factorOf : List Cond := .code y_C_factorOf c0_C_factorOf 4 (some .int) :: gW
abbrev c0_C_sumAt : ByteArray := prog_2_method_21_code
def y_C_sumAt : MethodName := ⟨R_C, "sumAt", "(III)I"⟩
def w_C_sumAt : List Cond := .code y_C_sumAt c0_C_sumAt 7 (some .int) :: gW
abbrev c0_J_floorDiv : ByteArray := prog_8_method_47_code
def y_J_floorDiv : MethodName := ⟨R_J, "floorDiv", "(II)I"⟩
def w_J_floorDiv : List Cond := .code y_J_floorDiv c0_J_floorDiv 3 (some .int) :: gW
abbrev c0_C_lowBits : ByteArray := prog_2_method_25_code
def y_C_lowBits : MethodName := ⟨R_C, "lowBits", "(I)J"⟩
def w_C_lowBits : List Cond := .code y_C_lowBits c0_C_lowBits 1 (some .long) :: gW
abbrev c0_C_belowWord : ByteArray := prog_2_method_22_code
def y_C_belowWord : MethodName := ⟨R_C, "belowWord", "(II)J"⟩
def w_C_belowWord : List Cond := .code y_C_belowWord c0_C_belowWord 2 (some .long) :: gW
abbrev c0_C_equalWord : ByteArray := prog_2_method_23_code
def y_C_equalWord : MethodName := ⟨R_C, "equalWord", "(II)J"⟩
def w_C_equalWord : List Cond := .code y_C_equalWord c0_C_equalWord 3 (some .long) :: gW
abbrev c0_C_dividesWord : ByteArray := prog_2_method_24_code
def y_C_dividesWord : MethodName := ⟨R_C, "dividesWord", "(III)J"⟩
def w_C_dividesWord : List Cond := .code y_C_dividesWord c0_C_dividesWord 6 (some .long) :: gW
abbrev c0_C_word : ByteArray := prog_2_method_16_code
def y_C_word : MethodName := ⟨R_C, "word", "(III)J"⟩
def w_C_word : List Cond := .code y_C_word c0_C_word 4 (some .long) :: gW
abbrev c0_W_fill : ByteArray := prog_4_method_2_code
def y_W_fill : MethodName := ⟨R_W, "fill", "(LLineClaims$Claims;Z)V"⟩
def w_W_fill : List Cond := .code y_W_fill c0_W_fill 5 none :: gW
abbrev c0_L_take : ByteArray := prog_1_method_3_code
def y_L_take : MethodName := ⟨R_L, "take", "()I"⟩
def w_L_take : List Cond := .code y_L_take c0_L_take 3 (some .int) :: gW
abbrev c0_L_free : ByteArray := prog_1_method_4_code
def y_L_free : MethodName := ⟨R_L, "free", "()Z"⟩
def w_L_free : List Cond := .code y_L_free c0_L_free 1 (some .boolean) :: gW
abbrev c0_L_isNear : ByteArray := prog_1_method_13_code
def y_L_isNear : MethodName := ⟨R_L, "isNear", "(I)Z"⟩
def w_L_isNear : List Cond := .code y_L_isNear c0_L_isNear 1 (some .boolean) :: gW
abbrev c0_J_floorMod : ByteArray := prog_8_method_50_code
def y_J_floorMod : MethodName := ⟨R_J, "floorMod", "(II)I"⟩
def w_J_floorMod : List Cond := .code y_J_floorMod c0_J_floorMod 3 (some .int) :: gW
abbrev c0_W_alike : ByteArray := prog_4_method_4_code
def y_W_alike : MethodName := ⟨R_W, "alike", "(I)I"⟩
def w_W_alike : List Cond := .code y_W_alike c0_W_alike 1 (some .int) :: gW
abbrev c0_W_has : ByteArray := prog_4_method_3_code
def y_W_has : MethodName := ⟨R_W, "has", "(I)Z"⟩
def w_W_has : List Cond := .code y_W_has c0_W_has 3 (some .boolean) :: gW
abbrev c0_L_holds : ByteArray := prog_1_method_5_code
def y_L_holds : MethodName := ⟨R_L, "holds", "(I)Z"⟩
def w_L_holds : List Cond := .code y_L_holds c0_L_holds 2 (some .boolean) :: gW
abbrev c0_W_hasOne : ByteArray := prog_4_method_5_code
def y_W_hasOne : MethodName := ⟨R_W, "hasOne", "()Z"⟩
def w_W_hasOne : List Cond := .code y_W_hasOne c0_W_hasOne 2 (some .boolean) :: gW
abbrev c0_L_some : ByteArray := prog_1_method_6_code
def y_L_some : MethodName := ⟨R_L, "some", "()Z"⟩
def w_L_some : List Cond := .code y_L_some c0_L_some 1 (some .boolean) :: gW
abbrev c0_W_hasEach : ByteArray := prog_4_method_6_code
def y_W_hasEach : MethodName := ⟨R_W, "hasEach", "()Z"⟩
def w_W_hasEach : List Cond := .code y_W_hasEach c0_W_hasEach 2 (some .boolean) :: gW
abbrev c0_L_all : ByteArray := prog_1_method_7_code
def y_L_all : MethodName := ⟨R_L, "all", "()Z"⟩
def w_L_all : List Cond := .code y_L_all c0_L_all 1 (some .boolean) :: gW
abbrev c0_J_max : ByteArray := prog_8_method_65_code
def y_J_max : MethodName := ⟨R_J, "max", "(II)I"⟩
def w_J_max : List Cond := .code y_J_max c0_J_max 2 (some .int) :: gW
abbrev c0_L_next : ByteArray := prog_1_method_8_code
def y_L_next : MethodName := ⟨R_L, "next", "(I)I"⟩
def w_L_next : List Cond := .code y_L_next c0_L_next 4 (some .int) :: gW
abbrev c0_J_min : ByteArray := prog_8_method_69_code
def y_J_min : MethodName := ⟨R_J, "min", "(II)I"⟩
def w_J_min : List Cond := .code y_J_min c0_J_min 2 (some .int) :: gW
abbrev c0_L_last : ByteArray := prog_1_method_9_code
def y_L_last : MethodName := ⟨R_L, "last", "(I)I"⟩
def w_L_last : List Cond := .code y_L_last c0_L_last 4 (some .int) :: gW
abbrev c0_L_again : ByteArray := prog_1_method_10_code
def y_L_again : MethodName := ⟨R_L, "again", "(Z)Z"⟩
def w_L_again : List Cond := .code y_L_again c0_L_again 3 (some .boolean) :: gW
abbrev c0_L_count : ByteArray := prog_1_method_11_code
def y_L_count : MethodName := ⟨R_L, "count", "(II)I"⟩
def w_L_count : List Cond := .code y_L_count c0_L_count 5 (some .int) :: gW
abbrev c0_W_repeatsAfter : ByteArray := prog_4_method_7_code
def y_W_repeatsAfter : MethodName := ⟨R_W, "repeatsAfter", "(I)Z"⟩
def w_W_repeatsAfter : List Cond := .code y_W_repeatsAfter c0_W_repeatsAfter 3 (some .boolean) :: gW
abbrev c0_L_period : ByteArray := prog_1_method_12_code
def y_L_period : MethodName := ⟨R_L, "period", "()I"⟩
def w_L_period : List Cond := .code y_L_period c0_L_period 2 (some .int) :: gW
abbrev c0_M_init : ByteArray := prog_7_method_1_code
def y_M_init : MethodName := ⟨R_M, "<init>", "()V"⟩
def w_M_init : List Cond := .code y_M_init c0_M_init 1 none :: gW
abbrev c0_M_in : ByteArray := prog_7_method_2_code
def y_M_in : MethodName := ⟨R_M, "in", "(III)Z"⟩
def w_M_in : List Cond := .code y_M_in c0_M_in 3 (some .boolean) :: gW
abbrev c0_M_type : ByteArray := prog_7_method_3_code
def y_M_type : MethodName := ⟨R_M, "type", "(II)Z"⟩
def w_M_type : List Cond := .code y_M_type c0_M_type 5 (some .boolean) :: gW
abbrev c0_M_look : ByteArray := prog_7_method_4_code
def y_M_look : MethodName := ⟨R_M, "look", "()I"⟩
def w_M_look : List Cond := .code y_M_look c0_M_look 1 (some .int) :: gW
abbrev c0_M_fail : ByteArray := prog_7_method_5_code
def y_M_fail : MethodName := ⟨R_M, "fail", "()V"⟩
def w_M_fail : List Cond := .code y_M_fail c0_M_fail 1 none :: gW
abbrev c0_M_addVariable : ByteArray := prog_7_method_6_code
def y_M_addVariable : MethodName := ⟨R_M, "addVariable", "(II)V"⟩
def w_M_addVariable : List Cond := .code y_M_addVariable c0_M_addVariable 4 none :: gW
abbrev c0_M_readPart : ByteArray := prog_7_method_7_code
def y_M_readPart : MethodName := ⟨R_M, "readPart", "(II)V"⟩
def w_M_readPart : List Cond := .code y_M_readPart c0_M_readPart 6 none :: gW
abbrev c0_M_readSum : ByteArray := prog_7_method_8_code
def y_M_readSum : MethodName := ⟨R_M, "readSum", "(II)V"⟩
def w_M_readSum : List Cond := .code y_M_readSum c0_M_readSum 6 none :: gW
abbrev c0_M_isDivisor : ByteArray := prog_7_method_9_code
def y_M_isDivisor : MethodName := ⟨R_M, "isDivisor", "()Z"⟩
def w_M_isDivisor : List Cond := .code y_M_isDivisor c0_M_isDivisor 3 (some .boolean) :: gW
abbrev c0_M_readBracket : ByteArray := prog_7_method_10_code
def y_M_readBracket : MethodName := ⟨R_M, "readBracket", "(I)V"⟩
def w_M_readBracket : List Cond := .code y_M_readBracket c0_M_readBracket 4 none :: gW
abbrev c0_M_readClaims : ByteArray := prog_7_method_11_code
def y_M_readClaims : MethodName := ⟨R_M, "readClaims", "()V"⟩
def w_M_readClaims : List Cond := .code y_M_readClaims c0_M_readClaims 12 none :: gW
abbrev c0_M_isBracket : ByteArray := prog_7_method_15_code
def y_M_isBracket : MethodName := ⟨R_M, "isBracket", "(I)Z"⟩
def w_M_isBracket : List Cond := .code y_M_isBracket c0_M_isBracket 2 (some .boolean) :: gW
abbrev c0_M_rest : ByteArray := prog_7_method_13_code
def y_M_rest : MethodName := ⟨R_M, "rest", "(II)I"⟩
def w_M_rest : List Cond := .code y_M_rest c0_M_rest 5 (some .int) :: gW
abbrev c0_M_bracketHolds : ByteArray := prog_7_method_16_code
def y_M_bracketHolds : MethodName := ⟨R_M, "bracketHolds", "(I)Z"⟩
def w_M_bracketHolds : List Cond := .code y_M_bracketHolds c0_M_bracketHolds 3 (some .boolean) :: gW
abbrev c0_M_hasQuantifier : ByteArray := prog_7_method_20_code
def y_M_hasQuantifier : MethodName := ⟨R_M, "hasQuantifier", "(I)Z"⟩
def w_M_hasQuantifier : List Cond := .code y_M_hasQuantifier c0_M_hasQuantifier 4 (some .boolean) :: gW
abbrev c0_M_floor : ByteArray := prog_7_method_14_code
def y_M_floor : MethodName := ⟨R_M, "floor", "(II)I"⟩
def w_M_floor : List Cond := .code y_M_floor c0_M_floor 3 (some .int) :: gW
abbrev c0_M_joined : ByteArray := prog_7_method_17_code
def y_M_joined : MethodName := ⟨R_M, "joined", "(IZZ)Z"⟩
def w_M_joined : List Cond := .code y_M_joined c0_M_joined 3 (some .boolean) :: gW
abbrev c0_M_lowHolds : ByteArray := prog_7_method_18_code
def y_M_lowHolds : MethodName := ⟨R_M, "lowHolds", "(I)Z"⟩
def w_M_lowHolds : List Cond := .code y_M_lowHolds c0_M_lowHolds 6 (some .boolean) :: gW
abbrev c0_M_lowQuantifier : ByteArray := prog_7_method_19_code
def y_M_lowQuantifier : MethodName := ⟨R_M, "lowQuantifier", "(I)Z"⟩
def w_M_lowQuantifier : List Cond := .code y_M_lowQuantifier c0_M_lowQuantifier 10 (some .boolean) :: gW
abbrev c0_M_middleHolds : ByteArray := prog_7_method_21_code
def y_M_middleHolds : MethodName := ⟨R_M, "middleHolds", "(I)Z"⟩
def w_M_middleHolds : List Cond := .code y_M_middleHolds c0_M_middleHolds 6 (some .boolean) :: gW
abbrev c0_M_middleQuantifier : ByteArray := prog_7_method_22_code
def y_M_middleQuantifier : MethodName := ⟨R_M, "middleQuantifier", "(I)Z"⟩
def w_M_middleQuantifier : List Cond := .code y_M_middleQuantifier c0_M_middleQuantifier 7 (some .boolean) :: gW
abbrev c0_M_workedOut : ByteArray := prog_7_method_24_code
def y_M_workedOut : MethodName := ⟨R_M, "workedOut", "(I)Z"⟩
def w_M_workedOut : List Cond := .code y_M_workedOut c0_M_workedOut 6 (some .boolean) :: gW
abbrev c0_M_take : ByteArray := prog_7_method_12_code
def y_M_take : MethodName := ⟨R_M, "take", "()I"⟩
def w_M_take : List Cond := .code y_M_take c0_M_take 3 (some .int) :: gW
abbrev c0_M_isSo : ByteArray := prog_7_method_23_code
def y_M_isSo : MethodName := ⟨R_M, "isSo", "(I)Z"⟩
def w_M_isSo : List Cond := .code y_M_isSo c0_M_isSo 2 (some .boolean) :: gW
abbrev c0_M_free : ByteArray := prog_7_method_25_code
def y_M_free : MethodName := ⟨R_M, "free", "()Z"⟩
def w_M_free : List Cond := .code y_M_free c0_M_free 1 (some .boolean) :: gW
abbrev c0_M_isNear : ByteArray := prog_7_method_26_code
def y_M_isNear : MethodName := ⟨R_M, "isNear", "(I)Z"⟩
def w_M_isNear : List Cond := .code y_M_isNear c0_M_isNear 1 (some .boolean) :: gW
abbrev c0_M_holds : ByteArray := prog_7_method_27_code
def y_M_holds : MethodName := ⟨R_M, "holds", "(I)Z"⟩
def w_M_holds : List Cond := .code y_M_holds c0_M_holds 2 (some .boolean) :: gW
abbrev c0_M_many : ByteArray := prog_7_method_28_code
def y_M_many : MethodName := ⟨R_M, "many", "(IIZ)I"⟩
def w_M_many : List Cond := .code y_M_many c0_M_many 6 (some .int) :: gW
abbrev c0_M_some : ByteArray := prog_7_method_29_code
def y_M_some : MethodName := ⟨R_M, "some", "()Z"⟩
def w_M_some : List Cond := .code y_M_some c0_M_some 1 (some .boolean) :: gW
abbrev c0_M_all : ByteArray := prog_7_method_30_code
def y_M_all : MethodName := ⟨R_M, "all", "()Z"⟩
def w_M_all : List Cond := .code y_M_all c0_M_all 2 (some .boolean) :: gW
abbrev c0_M_next : ByteArray := prog_7_method_31_code
def y_M_next : MethodName := ⟨R_M, "next", "(I)I"⟩
def w_M_next : List Cond := .code y_M_next c0_M_next 4 (some .int) :: gW
abbrev c0_M_last : ByteArray := prog_7_method_32_code
def y_M_last : MethodName := ⟨R_M, "last", "(I)I"⟩
def w_M_last : List Cond := .code y_M_last c0_M_last 4 (some .int) :: gW
abbrev c0_M_again : ByteArray := prog_7_method_33_code
def y_M_again : MethodName := ⟨R_M, "again", "(Z)Z"⟩
def w_M_again : List Cond := .code y_M_again c0_M_again 2 (some .boolean) :: gW
abbrev c0_M_count : ByteArray := prog_7_method_34_code
def y_M_count : MethodName := ⟨R_M, "count", "(II)I"⟩
def w_M_count : List Cond := .code y_M_count c0_M_count 3 (some .int) :: gW
abbrev c0_M_period : ByteArray := prog_7_method_35_code
def y_M_period : MethodName := ⟨R_M, "period", "()I"⟩
def w_M_period : List Cond := .code y_M_period c0_M_period 4 (some .int) :: gW
end
section
theorem wd_1 : Cond.initialized "LineClaims" ∈ gW := List.mem_filter.mpr ⟨(List.mem_append_right _ (List.mem_of_getElem? (i := 1) (by decide +kernel))), by decide +kernel⟩
theorem wd_2 : Cond.initialized "LineClaims$Text" ∈ gW := List.mem_filter.mpr ⟨(List.mem_append_right _ (List.mem_of_getElem? (i := 2) (by decide +kernel))), by decide +kernel⟩
theorem wd_3 : Cond.initialized "LineClaims$Claims" ∈ gW := List.mem_filter.mpr ⟨(List.mem_append_right _ (List.mem_of_getElem? (i := 3) (by decide +kernel))), by decide +kernel⟩
theorem wd_4 : Cond.initialized "LineClaims$Reader" ∈ gW := List.mem_filter.mpr ⟨(List.mem_append_right _ (List.mem_of_getElem? (i := 4) (by decide +kernel))), by decide +kernel⟩
theorem wd_5 : Cond.initialized "LineClaims$Row" ∈ gW := List.mem_filter.mpr ⟨(List.mem_append_right _ (List.mem_of_getElem? (i := 5) (by decide +kernel))), by decide +kernel⟩
theorem wd_6 : Cond.initialized "LineClaimsModel" ∈ gW := List.mem_filter.mpr ⟨(List.mem_append_right _ (List.mem_of_getElem? (i := 6) (by decide +kernel))), by decide +kernel⟩
theorem wd_7 : Cond.initialized "java/lang/Math" ∈ gW := List.mem_filter.mpr ⟨(List.mem_append_right _ (List.mem_of_getElem? (i := 7) (by decide +kernel))), by decide +kernel⟩
theorem wd_22 : Cond.fieldLink "LineClaims$Text" 9 "LineClaims$Text" "marks" "[I" ∈ gW := List.mem_filter.mpr ⟨(List.mem_append_right _ (List.mem_of_getElem? (i := 22) (by decide +kernel))), by decide +kernel⟩
theorem wd_23 : Cond.fieldLink "LineClaims$Text" 13 "LineClaims$Text" "places" "[I" ∈ gW := List.mem_filter.mpr ⟨(List.mem_append_right _ (List.mem_of_getElem? (i := 23) (by decide +kernel))), by decide +kernel⟩
theorem wd_24 : Cond.fieldLink "LineClaims$Text" 16 "LineClaims$Text" "size" "I" ∈ gW := List.mem_filter.mpr ⟨(List.mem_append_right _ (List.mem_of_getElem? (i := 24) (by decide +kernel))), by decide +kernel⟩
theorem wd_25 : Cond.fieldLink "LineClaims$Text" 20 "LineClaims$Text" "length" "I" ∈ gW := List.mem_filter.mpr ⟨(List.mem_append_right _ (List.mem_of_getElem? (i := 25) (by decide +kernel))), by decide +kernel⟩
theorem wd_42 : Cond.fieldLink "LineClaims$Claims" 11 "LineClaims$Claims" "kinds" "[I" ∈ gW := List.mem_filter.mpr ⟨(List.mem_append_right _ (List.mem_of_getElem? (i := 42) (by decide +kernel))), by decide +kernel⟩
theorem wd_43 : Cond.fieldLink "LineClaims$Claims" 15 "LineClaims$Claims" "seconds" "[I" ∈ gW := List.mem_filter.mpr ⟨(List.mem_append_right _ (List.mem_of_getElem? (i := 43) (by decide +kernel))), by decide +kernel⟩
theorem wd_44 : Cond.fieldLink "LineClaims$Claims" 18 "LineClaims$Claims" "variables" "[I" ∈ gW := List.mem_filter.mpr ⟨(List.mem_append_right _ (List.mem_of_getElem? (i := 44) (by decide +kernel))), by decide +kernel⟩
theorem wd_45 : Cond.fieldLink "LineClaims$Claims" 21 "LineClaims$Claims" "divisors" "[I" ∈ gW := List.mem_filter.mpr ⟨(List.mem_append_right _ (List.mem_of_getElem? (i := 45) (by decide +kernel))), by decide +kernel⟩
theorem wd_46 : Cond.fieldLink "LineClaims$Claims" 24 "LineClaims$Claims" "numbers" "[I" ∈ gW := List.mem_filter.mpr ⟨(List.mem_append_right _ (List.mem_of_getElem? (i := 46) (by decide +kernel))), by decide +kernel⟩
theorem wd_47 : Cond.fieldLink "LineClaims$Claims" 27 "LineClaims$Claims" "factors" "[I" ∈ gW := List.mem_filter.mpr ⟨(List.mem_append_right _ (List.mem_of_getElem? (i := 47) (by decide +kernel))), by decide +kernel⟩
theorem wd_48 : Cond.fieldLink "LineClaims$Claims" 30 "LineClaims$Claims" "open" "[I" ∈ gW := List.mem_filter.mpr ⟨(List.mem_append_right _ (List.mem_of_getElem? (i := 48) (by decide +kernel))), by decide +kernel⟩
theorem wd_49 : Cond.fieldLink "LineClaims$Claims" 33 "LineClaims$Claims" "values" "[I" ∈ gW := List.mem_filter.mpr ⟨(List.mem_append_right _ (List.mem_of_getElem? (i := 49) (by decide +kernel))), by decide +kernel⟩
theorem wd_50 : Cond.fieldLink "LineClaims$Claims" 36 "LineClaims$Claims" "size" "I" ∈ gW := List.mem_filter.mpr ⟨(List.mem_append_right _ (List.mem_of_getElem? (i := 50) (by decide +kernel))), by decide +kernel⟩
theorem wd_76 : Cond.fieldLink "LineClaims$Reader" 20 "LineClaims$Reader" "text" "LLineClaims$Text;" ∈ gW := List.mem_filter.mpr ⟨(List.mem_append_right _ (List.mem_of_getElem? (i := 76) (by decide +kernel))), by decide +kernel⟩
theorem wd_77 : Cond.fieldLink "LineClaims$Reader" 24 "LineClaims$Reader" "claims" "LLineClaims$Claims;" ∈ gW := List.mem_filter.mpr ⟨(List.mem_append_right _ (List.mem_of_getElem? (i := 77) (by decide +kernel))), by decide +kernel⟩
theorem wd_78 : Cond.fieldLink "LineClaims$Reader" 7 "LineClaims$Reader" "at" "I" ∈ gW := List.mem_filter.mpr ⟨(List.mem_append_right _ (List.mem_of_getElem? (i := 78) (by decide +kernel))), by decide +kernel⟩
theorem wd_79 : Cond.fieldLink "LineClaims$Reader" 13 "LineClaims$Reader" "brackets" "I" ∈ gW := List.mem_filter.mpr ⟨(List.mem_append_right _ (List.mem_of_getElem? (i := 79) (by decide +kernel))), by decide +kernel⟩
theorem wd_80 : Cond.fieldLink "LineClaims$Reader" 16 "LineClaims$Reader" "nested" "Z" ∈ gW := List.mem_filter.mpr ⟨(List.mem_append_right _ (List.mem_of_getElem? (i := 80) (by decide +kernel))), by decide +kernel⟩
theorem wd_98 : Cond.constantLong "LineClaims$Row" 15 (-1) ∈ gW := List.mem_filter.mpr ⟨(List.mem_append_right _ (List.mem_of_getElem? (i := 98) (by decide +kernel))), by decide +kernel⟩
theorem wd_99 : Cond.fieldLink "LineClaims$Row" 11 "LineClaims$Row" "words" "[J" ∈ gW := List.mem_filter.mpr ⟨(List.mem_append_right _ (List.mem_of_getElem? (i := 99) (by decide +kernel))), by decide +kernel⟩
theorem wd_104 : Cond.fieldLink "LineClaims" 10 "LineClaims" "typed" "LLineClaims$Text;" ∈ gW := List.mem_filter.mpr ⟨(List.mem_append_right _ (List.mem_of_getElem? (i := 104) (by decide +kernel))), by decide +kernel⟩
theorem wd_105 : Cond.fieldLink "LineClaims" 19 "LineClaims" "claims" "LLineClaims$Claims;" ∈ gW := List.mem_filter.mpr ⟨(List.mem_append_right _ (List.mem_of_getElem? (i := 105) (by decide +kernel))), by decide +kernel⟩
theorem wd_106 : Cond.fieldLink "LineClaims" 28 "LineClaims" "reader" "LLineClaims$Reader;" ∈ gW := List.mem_filter.mpr ⟨(List.mem_append_right _ (List.mem_of_getElem? (i := 106) (by decide +kernel))), by decide +kernel⟩
theorem wd_107 : Cond.fieldLink "LineClaims" 35 "LineClaims" "row" "LLineClaims$Row;" ∈ gW := List.mem_filter.mpr ⟨(List.mem_append_right _ (List.mem_of_getElem? (i := 107) (by decide +kernel))), by decide +kernel⟩
theorem wd_108 : Cond.fieldLink "LineClaims" 39 "LineClaims" "xIsFree" "Z" ∈ gW := List.mem_filter.mpr ⟨(List.mem_append_right _ (List.mem_of_getElem? (i := 108) (by decide +kernel))), by decide +kernel⟩
theorem wd_124 : Cond.methodLink "LineClaims" 43 ⟨"LineClaims$Text", "hasRoomFor", "(I)Z"⟩ ∈ gW := List.mem_filter.mpr ⟨(List.mem_append_right _ (List.mem_of_getElem? (i := 124) (by decide +kernel))), by decide +kernel⟩
theorem wd_125 : Cond.instanceMethod ⟨"LineClaims$Text", "hasRoomFor", "(I)Z"⟩ ∈ gW := List.mem_filter.mpr ⟨(List.mem_append_right _ (List.mem_of_getElem? (i := 125) (by decide +kernel))), by decide +kernel⟩
theorem wd_126 : Cond.selects "LineClaims$Text" ⟨"LineClaims$Text", "hasRoomFor", "(I)Z"⟩ ⟨"LineClaims$Text", "hasRoomFor", "(I)Z"⟩ ∈ gW := List.mem_filter.mpr ⟨(List.mem_append_right _ (List.mem_of_getElem? (i := 126) (by decide +kernel))), by decide +kernel⟩
theorem wd_127 : Cond.code ⟨"LineClaims$Text", "hasRoomFor", "(I)Z"⟩ prog_5_method_3_code 2 (some .boolean) ∈ gW := List.mem_filter.mpr ⟨(List.mem_append_right _ (List.mem_of_getElem? (i := 127) (by decide +kernel))), by decide +kernel⟩
theorem wd_128 : Cond.methodLink "LineClaims" 47 ⟨"LineClaims", "byteOf", "(II)I"⟩ ∈ gW := List.mem_filter.mpr ⟨(List.mem_append_right _ (List.mem_of_getElem? (i := 128) (by decide +kernel))), by decide +kernel⟩
theorem wd_129 : Cond.static ⟨"LineClaims", "byteOf", "(II)I"⟩ ∈ gW := List.mem_filter.mpr ⟨(List.mem_append_right _ (List.mem_of_getElem? (i := 129) (by decide +kernel))), by decide +kernel⟩
theorem wd_130 : Cond.code ⟨"LineClaims", "byteOf", "(II)I"⟩ prog_1_method_14_code 2 (some .int) ∈ gW := List.mem_filter.mpr ⟨(List.mem_append_right _ (List.mem_of_getElem? (i := 130) (by decide +kernel))), by decide +kernel⟩
theorem wd_131 : Cond.methodLink "LineClaims" 51 ⟨"LineClaims$Text", "allows", "(I)Z"⟩ ∈ gW := List.mem_filter.mpr ⟨(List.mem_append_right _ (List.mem_of_getElem? (i := 131) (by decide +kernel))), by decide +kernel⟩
theorem wd_132 : Cond.static ⟨"LineClaims$Text", "allows", "(I)Z"⟩ ∈ gW := List.mem_filter.mpr ⟨(List.mem_append_right _ (List.mem_of_getElem? (i := 132) (by decide +kernel))), by decide +kernel⟩
theorem wd_133 : Cond.code ⟨"LineClaims$Text", "allows", "(I)Z"⟩ prog_5_method_2_code 1 (some .boolean) ∈ gW := List.mem_filter.mpr ⟨(List.mem_append_right _ (List.mem_of_getElem? (i := 133) (by decide +kernel))), by decide +kernel⟩
theorem wd_134 : Cond.methodLink "LineClaims" 54 ⟨"LineClaims$Text", "append", "(I)V"⟩ ∈ gW := List.mem_filter.mpr ⟨(List.mem_append_right _ (List.mem_of_getElem? (i := 134) (by decide +kernel))), by decide +kernel⟩
theorem wd_135 : Cond.instanceMethod ⟨"LineClaims$Text", "append", "(I)V"⟩ ∈ gW := List.mem_filter.mpr ⟨(List.mem_append_right _ (List.mem_of_getElem? (i := 135) (by decide +kernel))), by decide +kernel⟩
theorem wd_136 : Cond.selects "LineClaims$Text" ⟨"LineClaims$Text", "append", "(I)V"⟩ ⟨"LineClaims$Text", "append", "(I)V"⟩ ∈ gW := List.mem_filter.mpr ⟨(List.mem_append_right _ (List.mem_of_getElem? (i := 136) (by decide +kernel))), by decide +kernel⟩
theorem wd_137 : Cond.code ⟨"LineClaims$Text", "append", "(I)V"⟩ prog_5_method_4_code 2 none ∈ gW := List.mem_filter.mpr ⟨(List.mem_append_right _ (List.mem_of_getElem? (i := 137) (by decide +kernel))), by decide +kernel⟩
theorem wd_142 : Cond.methodLink "LineClaims" 58 ⟨"LineClaims$Reader", "readWhole", "()Z"⟩ ∈ gW := List.mem_filter.mpr ⟨(List.mem_append_right _ (List.mem_of_getElem? (i := 142) (by decide +kernel))), by decide +kernel⟩
theorem wd_143 : Cond.instanceMethod ⟨"LineClaims$Reader", "readWhole", "()Z"⟩ ∈ gW := List.mem_filter.mpr ⟨(List.mem_append_right _ (List.mem_of_getElem? (i := 143) (by decide +kernel))), by decide +kernel⟩
theorem wd_144 : Cond.selects "LineClaims$Reader" ⟨"LineClaims$Reader", "readWhole", "()Z"⟩ ⟨"LineClaims$Reader", "readWhole", "()Z"⟩ ∈ gW := List.mem_filter.mpr ⟨(List.mem_append_right _ (List.mem_of_getElem? (i := 144) (by decide +kernel))), by decide +kernel⟩
theorem wd_145 : Cond.code ⟨"LineClaims$Reader", "readWhole", "()Z"⟩ prog_3_method_2_code 1 (some .boolean) ∈ gW := List.mem_filter.mpr ⟨(List.mem_append_right _ (List.mem_of_getElem? (i := 145) (by decide +kernel))), by decide +kernel⟩
theorem wd_146 : Cond.methodLink "LineClaims$Reader" 28 ⟨"LineClaims$Claims", "clear", "()V"⟩ ∈ gW := List.mem_filter.mpr ⟨(List.mem_append_right _ (List.mem_of_getElem? (i := 146) (by decide +kernel))), by decide +kernel⟩
theorem wd_147 : Cond.instanceMethod ⟨"LineClaims$Claims", "clear", "()V"⟩ ∈ gW := List.mem_filter.mpr ⟨(List.mem_append_right _ (List.mem_of_getElem? (i := 147) (by decide +kernel))), by decide +kernel⟩
theorem wd_148 : Cond.selects "LineClaims$Claims" ⟨"LineClaims$Claims", "clear", "()V"⟩ ⟨"LineClaims$Claims", "clear", "()V"⟩ ∈ gW := List.mem_filter.mpr ⟨(List.mem_append_right _ (List.mem_of_getElem? (i := 148) (by decide +kernel))), by decide +kernel⟩
theorem wd_149 : Cond.code ⟨"LineClaims$Claims", "clear", "()V"⟩ prog_2_method_2_code 1 none ∈ gW := List.mem_filter.mpr ⟨(List.mem_append_right _ (List.mem_of_getElem? (i := 149) (by decide +kernel))), by decide +kernel⟩
theorem wd_150 : Cond.methodLink "LineClaims$Reader" 33 ⟨"LineClaims$Reader", "readClaim", "(II)Z"⟩ ∈ gW := List.mem_filter.mpr ⟨(List.mem_append_right _ (List.mem_of_getElem? (i := 150) (by decide +kernel))), by decide +kernel⟩
theorem wd_152 : Cond.instanceMethod ⟨"LineClaims$Reader", "readClaim", "(II)Z"⟩ ∈ gW := List.mem_filter.mpr ⟨(List.mem_append_right _ (List.mem_of_getElem? (i := 152) (by decide +kernel))), by decide +kernel⟩
theorem wd_153 : Cond.code ⟨"LineClaims$Reader", "readClaim", "(II)Z"⟩ prog_3_method_6_code 3 (some .boolean) ∈ gW := List.mem_filter.mpr ⟨(List.mem_append_right _ (List.mem_of_getElem? (i := 153) (by decide +kernel))), by decide +kernel⟩
theorem wd_154 : Cond.methodLink "LineClaims$Reader" 57 ⟨"LineClaims$Claims", "isFull", "()Z"⟩ ∈ gW := List.mem_filter.mpr ⟨(List.mem_append_right _ (List.mem_of_getElem? (i := 154) (by decide +kernel))), by decide +kernel⟩
theorem wd_155 : Cond.instanceMethod ⟨"LineClaims$Claims", "isFull", "()Z"⟩ ∈ gW := List.mem_filter.mpr ⟨(List.mem_append_right _ (List.mem_of_getElem? (i := 155) (by decide +kernel))), by decide +kernel⟩
theorem wd_156 : Cond.selects "LineClaims$Claims" ⟨"LineClaims$Claims", "isFull", "()Z"⟩ ⟨"LineClaims$Claims", "isFull", "()Z"⟩ ∈ gW := List.mem_filter.mpr ⟨(List.mem_append_right _ (List.mem_of_getElem? (i := 156) (by decide +kernel))), by decide +kernel⟩
theorem wd_157 : Cond.code ⟨"LineClaims$Claims", "isFull", "()Z"⟩ prog_2_method_3_code 1 (some .boolean) ∈ gW := List.mem_filter.mpr ⟨(List.mem_append_right _ (List.mem_of_getElem? (i := 157) (by decide +kernel))), by decide +kernel⟩
theorem wd_158 : Cond.methodLink "LineClaims$Reader" 37 ⟨"LineClaims$Reader", "mark", "()I"⟩ ∈ gW := List.mem_filter.mpr ⟨(List.mem_append_right _ (List.mem_of_getElem? (i := 158) (by decide +kernel))), by decide +kernel⟩
theorem wd_160 : Cond.instanceMethod ⟨"LineClaims$Reader", "mark", "()I"⟩ ∈ gW := List.mem_filter.mpr ⟨(List.mem_append_right _ (List.mem_of_getElem? (i := 160) (by decide +kernel))), by decide +kernel⟩
theorem wd_161 : Cond.code ⟨"LineClaims$Reader", "mark", "()I"⟩ prog_3_method_5_code 1 (some .int) ∈ gW := List.mem_filter.mpr ⟨(List.mem_append_right _ (List.mem_of_getElem? (i := 161) (by decide +kernel))), by decide +kernel⟩
theorem wd_162 : Cond.methodLink "LineClaims$Reader" 54 ⟨"LineClaims$Text", "markAt", "(I)I"⟩ ∈ gW := List.mem_filter.mpr ⟨(List.mem_append_right _ (List.mem_of_getElem? (i := 162) (by decide +kernel))), by decide +kernel⟩
theorem wd_163 : Cond.instanceMethod ⟨"LineClaims$Text", "markAt", "(I)I"⟩ ∈ gW := List.mem_filter.mpr ⟨(List.mem_append_right _ (List.mem_of_getElem? (i := 163) (by decide +kernel))), by decide +kernel⟩
theorem wd_164 : Cond.selects "LineClaims$Text" ⟨"LineClaims$Text", "markAt", "(I)I"⟩ ⟨"LineClaims$Text", "markAt", "(I)I"⟩ ∈ gW := List.mem_filter.mpr ⟨(List.mem_append_right _ (List.mem_of_getElem? (i := 164) (by decide +kernel))), by decide +kernel⟩
theorem wd_165 : Cond.code ⟨"LineClaims$Text", "markAt", "(I)I"⟩ prog_5_method_6_code 2 (some .int) ∈ gW := List.mem_filter.mpr ⟨(List.mem_append_right _ (List.mem_of_getElem? (i := 165) (by decide +kernel))), by decide +kernel⟩
theorem wd_166 : Cond.methodLink "LineClaims$Reader" 61 ⟨"LineClaims$Reader", "readBracket", "(I)Z"⟩ ∈ gW := List.mem_filter.mpr ⟨(List.mem_append_right _ (List.mem_of_getElem? (i := 166) (by decide +kernel))), by decide +kernel⟩
theorem wd_168 : Cond.instanceMethod ⟨"LineClaims$Reader", "readBracket", "(I)Z"⟩ ∈ gW := List.mem_filter.mpr ⟨(List.mem_append_right _ (List.mem_of_getElem? (i := 168) (by decide +kernel))), by decide +kernel⟩
theorem wd_169 : Cond.code ⟨"LineClaims$Reader", "readBracket", "(I)Z"⟩ prog_3_method_10_code 5 (some .boolean) ∈ gW := List.mem_filter.mpr ⟨(List.mem_append_right _ (List.mem_of_getElem? (i := 169) (by decide +kernel))), by decide +kernel⟩
theorem wd_170 : Cond.methodLink "LineClaims$Reader" 64 ⟨"LineClaims$Reader", "begin", "()I"⟩ ∈ gW := List.mem_filter.mpr ⟨(List.mem_append_right _ (List.mem_of_getElem? (i := 170) (by decide +kernel))), by decide +kernel⟩
theorem wd_172 : Cond.instanceMethod ⟨"LineClaims$Reader", "begin", "()I"⟩ ∈ gW := List.mem_filter.mpr ⟨(List.mem_append_right _ (List.mem_of_getElem? (i := 172) (by decide +kernel))), by decide +kernel⟩
theorem wd_173 : Cond.code ⟨"LineClaims$Reader", "begin", "()I"⟩ prog_3_method_7_code 2 (some .int) ∈ gW := List.mem_filter.mpr ⟨(List.mem_append_right _ (List.mem_of_getElem? (i := 173) (by decide +kernel))), by decide +kernel⟩
theorem wd_174 : Cond.methodLink "LineClaims$Reader" 73 ⟨"LineClaims$Claims", "add", "(I)I"⟩ ∈ gW := List.mem_filter.mpr ⟨(List.mem_append_right _ (List.mem_of_getElem? (i := 174) (by decide +kernel))), by decide +kernel⟩
theorem wd_175 : Cond.instanceMethod ⟨"LineClaims$Claims", "add", "(I)I"⟩ ∈ gW := List.mem_filter.mpr ⟨(List.mem_append_right _ (List.mem_of_getElem? (i := 175) (by decide +kernel))), by decide +kernel⟩
theorem wd_176 : Cond.selects "LineClaims$Claims" ⟨"LineClaims$Claims", "add", "(I)I"⟩ ⟨"LineClaims$Claims", "add", "(I)I"⟩ ∈ gW := List.mem_filter.mpr ⟨(List.mem_append_right _ (List.mem_of_getElem? (i := 176) (by decide +kernel))), by decide +kernel⟩
theorem wd_177 : Cond.code ⟨"LineClaims$Claims", "add", "(I)I"⟩ prog_2_method_4_code 4 (some .int) ∈ gW := List.mem_filter.mpr ⟨(List.mem_append_right _ (List.mem_of_getElem? (i := 177) (by decide +kernel))), by decide +kernel⟩
theorem wd_178 : Cond.methodLink "LineClaims$Reader" 87 ⟨"LineClaims$Reader", "isDivisor", "()Z"⟩ ∈ gW := List.mem_filter.mpr ⟨(List.mem_append_right _ (List.mem_of_getElem? (i := 178) (by decide +kernel))), by decide +kernel⟩
theorem wd_180 : Cond.instanceMethod ⟨"LineClaims$Reader", "isDivisor", "()Z"⟩ ∈ gW := List.mem_filter.mpr ⟨(List.mem_append_right _ (List.mem_of_getElem? (i := 180) (by decide +kernel))), by decide +kernel⟩
theorem wd_181 : Cond.code ⟨"LineClaims$Reader", "isDivisor", "()Z"⟩ prog_3_method_11_code 1 (some .boolean) ∈ gW := List.mem_filter.mpr ⟨(List.mem_append_right _ (List.mem_of_getElem? (i := 181) (by decide +kernel))), by decide +kernel⟩
theorem wd_182 : Cond.methodLink "LineClaims$Reader" 90 ⟨"LineClaims$Claims", "putDivisor", "(II)V"⟩ ∈ gW := List.mem_filter.mpr ⟨(List.mem_append_right _ (List.mem_of_getElem? (i := 182) (by decide +kernel))), by decide +kernel⟩
theorem wd_183 : Cond.instanceMethod ⟨"LineClaims$Claims", "putDivisor", "(II)V"⟩ ∈ gW := List.mem_filter.mpr ⟨(List.mem_append_right _ (List.mem_of_getElem? (i := 183) (by decide +kernel))), by decide +kernel⟩
theorem wd_184 : Cond.selects "LineClaims$Claims" ⟨"LineClaims$Claims", "putDivisor", "(II)V"⟩ ⟨"LineClaims$Claims", "putDivisor", "(II)V"⟩ ∈ gW := List.mem_filter.mpr ⟨(List.mem_append_right _ (List.mem_of_getElem? (i := 184) (by decide +kernel))), by decide +kernel⟩
theorem wd_185 : Cond.code ⟨"LineClaims$Claims", "putDivisor", "(II)V"⟩ prog_2_method_8_code 3 none ∈ gW := List.mem_filter.mpr ⟨(List.mem_append_right _ (List.mem_of_getElem? (i := 185) (by decide +kernel))), by decide +kernel⟩
theorem wd_186 : Cond.methodLink "LineClaims$Claims" 40 ⟨"LineClaims$Claims", "has", "(I)Z"⟩ ∈ gW := List.mem_filter.mpr ⟨(List.mem_append_right _ (List.mem_of_getElem? (i := 186) (by decide +kernel))), by decide +kernel⟩
theorem wd_188 : Cond.instanceMethod ⟨"LineClaims$Claims", "has", "(I)Z"⟩ ∈ gW := List.mem_filter.mpr ⟨(List.mem_append_right _ (List.mem_of_getElem? (i := 188) (by decide +kernel))), by decide +kernel⟩
theorem wd_189 : Cond.code ⟨"LineClaims$Claims", "has", "(I)Z"⟩ prog_2_method_15_code 2 (some .boolean) ∈ gW := List.mem_filter.mpr ⟨(List.mem_append_right _ (List.mem_of_getElem? (i := 189) (by decide +kernel))), by decide +kernel⟩
theorem wd_190 : Cond.methodLink "LineClaims$Reader" 93 ⟨"LineClaims$Reader", "readSum", "(III)Z"⟩ ∈ gW := List.mem_filter.mpr ⟨(List.mem_append_right _ (List.mem_of_getElem? (i := 190) (by decide +kernel))), by decide +kernel⟩
theorem wd_192 : Cond.instanceMethod ⟨"LineClaims$Reader", "readSum", "(III)Z"⟩ ∈ gW := List.mem_filter.mpr ⟨(List.mem_append_right _ (List.mem_of_getElem? (i := 192) (by decide +kernel))), by decide +kernel⟩
theorem wd_193 : Cond.code ⟨"LineClaims$Reader", "readSum", "(III)Z"⟩ prog_3_method_12_code 7 (some .boolean) ∈ gW := List.mem_filter.mpr ⟨(List.mem_append_right _ (List.mem_of_getElem? (i := 193) (by decide +kernel))), by decide +kernel⟩
theorem wd_194 : Cond.methodLink "LineClaims$Reader" 103 ⟨"LineClaims$Reader", "readPart", "(III)Z"⟩ ∈ gW := List.mem_filter.mpr ⟨(List.mem_append_right _ (List.mem_of_getElem? (i := 194) (by decide +kernel))), by decide +kernel⟩
theorem wd_196 : Cond.instanceMethod ⟨"LineClaims$Reader", "readPart", "(III)Z"⟩ ∈ gW := List.mem_filter.mpr ⟨(List.mem_append_right _ (List.mem_of_getElem? (i := 196) (by decide +kernel))), by decide +kernel⟩
theorem wd_197 : Cond.code ⟨"LineClaims$Reader", "readPart", "(III)Z"⟩ prog_3_method_13_code 8 (some .boolean) ∈ gW := List.mem_filter.mpr ⟨(List.mem_append_right _ (List.mem_of_getElem? (i := 197) (by decide +kernel))), by decide +kernel⟩
theorem wd_198 : Cond.methodLink "LineClaims$Reader" 106 ⟨"LineClaims$Reader", "digitOf", "(I)I"⟩ ∈ gW := List.mem_filter.mpr ⟨(List.mem_append_right _ (List.mem_of_getElem? (i := 198) (by decide +kernel))), by decide +kernel⟩
theorem wd_199 : Cond.static ⟨"LineClaims$Reader", "digitOf", "(I)I"⟩ ∈ gW := List.mem_filter.mpr ⟨(List.mem_append_right _ (List.mem_of_getElem? (i := 199) (by decide +kernel))), by decide +kernel⟩
theorem wd_200 : Cond.code ⟨"LineClaims$Reader", "digitOf", "(I)I"⟩ prog_3_method_14_code 1 (some .int) ∈ gW := List.mem_filter.mpr ⟨(List.mem_append_right _ (List.mem_of_getElem? (i := 200) (by decide +kernel))), by decide +kernel⟩
theorem wd_201 : Cond.methodLink "LineClaims$Reader" 109 ⟨"LineClaims$Claims", "addNumber", "(II)V"⟩ ∈ gW := List.mem_filter.mpr ⟨(List.mem_append_right _ (List.mem_of_getElem? (i := 201) (by decide +kernel))), by decide +kernel⟩
theorem wd_202 : Cond.instanceMethod ⟨"LineClaims$Claims", "addNumber", "(II)V"⟩ ∈ gW := List.mem_filter.mpr ⟨(List.mem_append_right _ (List.mem_of_getElem? (i := 202) (by decide +kernel))), by decide +kernel⟩
theorem wd_203 : Cond.selects "LineClaims$Claims" ⟨"LineClaims$Claims", "addNumber", "(II)V"⟩ ⟨"LineClaims$Claims", "addNumber", "(II)V"⟩ ∈ gW := List.mem_filter.mpr ⟨(List.mem_append_right _ (List.mem_of_getElem? (i := 203) (by decide +kernel))), by decide +kernel⟩
theorem wd_204 : Cond.code ⟨"LineClaims$Claims", "addNumber", "(II)V"⟩ prog_2_method_9_code 3 none ∈ gW := List.mem_filter.mpr ⟨(List.mem_append_right _ (List.mem_of_getElem? (i := 204) (by decide +kernel))), by decide +kernel⟩
theorem wd_205 : Cond.methodLink "LineClaims$Reader" 80 ⟨"LineClaims$Reader", "variableOf", "(I)I"⟩ ∈ gW := List.mem_filter.mpr ⟨(List.mem_append_right _ (List.mem_of_getElem? (i := 205) (by decide +kernel))), by decide +kernel⟩
theorem wd_206 : Cond.static ⟨"LineClaims$Reader", "variableOf", "(I)I"⟩ ∈ gW := List.mem_filter.mpr ⟨(List.mem_append_right _ (List.mem_of_getElem? (i := 206) (by decide +kernel))), by decide +kernel⟩
theorem wd_207 : Cond.code ⟨"LineClaims$Reader", "variableOf", "(I)I"⟩ prog_3_method_15_code 1 (some .int) ∈ gW := List.mem_filter.mpr ⟨(List.mem_append_right _ (List.mem_of_getElem? (i := 207) (by decide +kernel))), by decide +kernel⟩
theorem wd_208 : Cond.methodLink "LineClaims$Reader" 112 ⟨"LineClaims$Claims", "addFactor", "(III)V"⟩ ∈ gW := List.mem_filter.mpr ⟨(List.mem_append_right _ (List.mem_of_getElem? (i := 208) (by decide +kernel))), by decide +kernel⟩
theorem wd_209 : Cond.instanceMethod ⟨"LineClaims$Claims", "addFactor", "(III)V"⟩ ∈ gW := List.mem_filter.mpr ⟨(List.mem_append_right _ (List.mem_of_getElem? (i := 209) (by decide +kernel))), by decide +kernel⟩
theorem wd_210 : Cond.selects "LineClaims$Claims" ⟨"LineClaims$Claims", "addFactor", "(III)V"⟩ ⟨"LineClaims$Claims", "addFactor", "(III)V"⟩ ∈ gW := List.mem_filter.mpr ⟨(List.mem_append_right _ (List.mem_of_getElem? (i := 210) (by decide +kernel))), by decide +kernel⟩
theorem wd_211 : Cond.code ⟨"LineClaims$Claims", "addFactor", "(III)V"⟩ prog_2_method_10_code 4 none ∈ gW := List.mem_filter.mpr ⟨(List.mem_append_right _ (List.mem_of_getElem? (i := 211) (by decide +kernel))), by decide +kernel⟩
theorem wd_212 : Cond.methodLink "LineClaims$Reader" 97 ⟨"LineClaims$Claims", "putKind", "(II)V"⟩ ∈ gW := List.mem_filter.mpr ⟨(List.mem_append_right _ (List.mem_of_getElem? (i := 212) (by decide +kernel))), by decide +kernel⟩
theorem wd_213 : Cond.instanceMethod ⟨"LineClaims$Claims", "putKind", "(II)V"⟩ ∈ gW := List.mem_filter.mpr ⟨(List.mem_append_right _ (List.mem_of_getElem? (i := 213) (by decide +kernel))), by decide +kernel⟩
theorem wd_214 : Cond.selects "LineClaims$Claims" ⟨"LineClaims$Claims", "putKind", "(II)V"⟩ ⟨"LineClaims$Claims", "putKind", "(II)V"⟩ ∈ gW := List.mem_filter.mpr ⟨(List.mem_append_right _ (List.mem_of_getElem? (i := 214) (by decide +kernel))), by decide +kernel⟩
theorem wd_215 : Cond.code ⟨"LineClaims$Claims", "putKind", "(II)V"⟩ prog_2_method_5_code 3 none ∈ gW := List.mem_filter.mpr ⟨(List.mem_append_right _ (List.mem_of_getElem? (i := 215) (by decide +kernel))), by decide +kernel⟩
theorem wd_216 : Cond.methodLink "LineClaims$Reader" 100 ⟨"LineClaims$Claims", "isWithin", "(III)Z"⟩ ∈ gW := List.mem_filter.mpr ⟨(List.mem_append_right _ (List.mem_of_getElem? (i := 216) (by decide +kernel))), by decide +kernel⟩
theorem wd_217 : Cond.instanceMethod ⟨"LineClaims$Claims", "isWithin", "(III)Z"⟩ ∈ gW := List.mem_filter.mpr ⟨(List.mem_append_right _ (List.mem_of_getElem? (i := 217) (by decide +kernel))), by decide +kernel⟩
theorem wd_218 : Cond.selects "LineClaims$Claims" ⟨"LineClaims$Claims", "isWithin", "(III)Z"⟩ ⟨"LineClaims$Claims", "isWithin", "(III)Z"⟩ ∈ gW := List.mem_filter.mpr ⟨(List.mem_append_right _ (List.mem_of_getElem? (i := 218) (by decide +kernel))), by decide +kernel⟩
theorem wd_219 : Cond.code ⟨"LineClaims$Claims", "isWithin", "(III)Z"⟩ prog_2_method_11_code 5 (some .boolean) ∈ gW := List.mem_filter.mpr ⟨(List.mem_append_right _ (List.mem_of_getElem? (i := 219) (by decide +kernel))), by decide +kernel⟩
theorem wd_220 : Cond.methodLink "LineClaims$Claims" 44 ⟨"java/lang/Math", "abs", "(I)I"⟩ ∈ gW := List.mem_filter.mpr ⟨(List.mem_append_right _ (List.mem_of_getElem? (i := 220) (by decide +kernel))), by decide +kernel⟩
theorem wd_221 : Cond.static ⟨"java/lang/Math", "abs", "(I)I"⟩ ∈ gW := List.mem_filter.mpr ⟨(List.mem_append_right _ (List.mem_of_getElem? (i := 221) (by decide +kernel))), by decide +kernel⟩
theorem wd_222 : Cond.code ⟨"java/lang/Math", "abs", "(I)I"⟩ prog_8_method_59_code 1 (some .int) ∈ gW := List.mem_filter.mpr ⟨(List.mem_append_right _ (List.mem_of_getElem? (i := 222) (by decide +kernel))), by decide +kernel⟩
theorem wd_223 : Cond.methodLink "LineClaims$Reader" 67 ⟨"LineClaims$Reader", "readPair", "(II)Z"⟩ ∈ gW := List.mem_filter.mpr ⟨(List.mem_append_right _ (List.mem_of_getElem? (i := 223) (by decide +kernel))), by decide +kernel⟩
theorem wd_225 : Cond.instanceMethod ⟨"LineClaims$Reader", "readPair", "(II)Z"⟩ ∈ gW := List.mem_filter.mpr ⟨(List.mem_append_right _ (List.mem_of_getElem? (i := 225) (by decide +kernel))), by decide +kernel⟩
theorem wd_226 : Cond.code ⟨"LineClaims$Reader", "readPair", "(II)Z"⟩ prog_3_method_8_code 4 (some .boolean) ∈ gW := List.mem_filter.mpr ⟨(List.mem_append_right _ (List.mem_of_getElem? (i := 226) (by decide +kernel))), by decide +kernel⟩
theorem wd_227 : Cond.methodLink "LineClaims$Reader" 76 ⟨"LineClaims$Claims", "putSecond", "(I)V"⟩ ∈ gW := List.mem_filter.mpr ⟨(List.mem_append_right _ (List.mem_of_getElem? (i := 227) (by decide +kernel))), by decide +kernel⟩
theorem wd_228 : Cond.instanceMethod ⟨"LineClaims$Claims", "putSecond", "(I)V"⟩ ∈ gW := List.mem_filter.mpr ⟨(List.mem_append_right _ (List.mem_of_getElem? (i := 228) (by decide +kernel))), by decide +kernel⟩
theorem wd_229 : Cond.selects "LineClaims$Claims" ⟨"LineClaims$Claims", "putSecond", "(I)V"⟩ ⟨"LineClaims$Claims", "putSecond", "(I)V"⟩ ∈ gW := List.mem_filter.mpr ⟨(List.mem_append_right _ (List.mem_of_getElem? (i := 229) (by decide +kernel))), by decide +kernel⟩
theorem wd_230 : Cond.code ⟨"LineClaims$Claims", "putSecond", "(I)V"⟩ prog_2_method_6_code 2 none ∈ gW := List.mem_filter.mpr ⟨(List.mem_append_right _ (List.mem_of_getElem? (i := 230) (by decide +kernel))), by decide +kernel⟩
theorem wd_231 : Cond.methodLink "LineClaims$Reader" 70 ⟨"LineClaims$Reader", "readQuantified", "(II)Z"⟩ ∈ gW := List.mem_filter.mpr ⟨(List.mem_append_right _ (List.mem_of_getElem? (i := 231) (by decide +kernel))), by decide +kernel⟩
theorem wd_233 : Cond.instanceMethod ⟨"LineClaims$Reader", "readQuantified", "(II)Z"⟩ ∈ gW := List.mem_filter.mpr ⟨(List.mem_append_right _ (List.mem_of_getElem? (i := 233) (by decide +kernel))), by decide +kernel⟩
theorem wd_234 : Cond.code ⟨"LineClaims$Reader", "readQuantified", "(II)Z"⟩ prog_3_method_9_code 5 (some .boolean) ∈ gW := List.mem_filter.mpr ⟨(List.mem_append_right _ (List.mem_of_getElem? (i := 234) (by decide +kernel))), by decide +kernel⟩
theorem wd_235 : Cond.methodLink "LineClaims$Reader" 83 ⟨"LineClaims$Claims", "putVariable", "(II)V"⟩ ∈ gW := List.mem_filter.mpr ⟨(List.mem_append_right _ (List.mem_of_getElem? (i := 235) (by decide +kernel))), by decide +kernel⟩
theorem wd_236 : Cond.instanceMethod ⟨"LineClaims$Claims", "putVariable", "(II)V"⟩ ∈ gW := List.mem_filter.mpr ⟨(List.mem_append_right _ (List.mem_of_getElem? (i := 236) (by decide +kernel))), by decide +kernel⟩
theorem wd_237 : Cond.selects "LineClaims$Claims" ⟨"LineClaims$Claims", "putVariable", "(II)V"⟩ ⟨"LineClaims$Claims", "putVariable", "(II)V"⟩ ∈ gW := List.mem_filter.mpr ⟨(List.mem_append_right _ (List.mem_of_getElem? (i := 237) (by decide +kernel))), by decide +kernel⟩
theorem wd_238 : Cond.code ⟨"LineClaims$Claims", "putVariable", "(II)V"⟩ prog_2_method_7_code 3 none ∈ gW := List.mem_filter.mpr ⟨(List.mem_append_right _ (List.mem_of_getElem? (i := 238) (by decide +kernel))), by decide +kernel⟩
theorem wd_239 : Cond.methodLink "LineClaims$Reader" 41 ⟨"LineClaims$Claims", "findOpen", "()V"⟩ ∈ gW := List.mem_filter.mpr ⟨(List.mem_append_right _ (List.mem_of_getElem? (i := 239) (by decide +kernel))), by decide +kernel⟩
theorem wd_240 : Cond.instanceMethod ⟨"LineClaims$Claims", "findOpen", "()V"⟩ ∈ gW := List.mem_filter.mpr ⟨(List.mem_append_right _ (List.mem_of_getElem? (i := 240) (by decide +kernel))), by decide +kernel⟩
theorem wd_241 : Cond.selects "LineClaims$Claims" ⟨"LineClaims$Claims", "findOpen", "()V"⟩ ⟨"LineClaims$Claims", "findOpen", "()V"⟩ ∈ gW := List.mem_filter.mpr ⟨(List.mem_append_right _ (List.mem_of_getElem? (i := 241) (by decide +kernel))), by decide +kernel⟩
theorem wd_242 : Cond.code ⟨"LineClaims$Claims", "findOpen", "()V"⟩ prog_2_method_13_code 2 none ∈ gW := List.mem_filter.mpr ⟨(List.mem_append_right _ (List.mem_of_getElem? (i := 242) (by decide +kernel))), by decide +kernel⟩
theorem wd_243 : Cond.methodLink "LineClaims$Claims" 50 ⟨"LineClaims$Claims", "openOf", "(I)I"⟩ ∈ gW := List.mem_filter.mpr ⟨(List.mem_append_right _ (List.mem_of_getElem? (i := 243) (by decide +kernel))), by decide +kernel⟩
theorem wd_245 : Cond.instanceMethod ⟨"LineClaims$Claims", "openOf", "(I)I"⟩ ∈ gW := List.mem_filter.mpr ⟨(List.mem_append_right _ (List.mem_of_getElem? (i := 245) (by decide +kernel))), by decide +kernel⟩
theorem wd_246 : Cond.code ⟨"LineClaims$Claims", "openOf", "(I)I"⟩ prog_2_method_14_code 2 (some .int) ∈ gW := List.mem_filter.mpr ⟨(List.mem_append_right _ (List.mem_of_getElem? (i := 246) (by decide +kernel))), by decide +kernel⟩
theorem wd_247 : Cond.methodLink "LineClaims$Reader" 44 ⟨"LineClaims$Claims", "isOpen", "(I)Z"⟩ ∈ gW := List.mem_filter.mpr ⟨(List.mem_append_right _ (List.mem_of_getElem? (i := 247) (by decide +kernel))), by decide +kernel⟩
theorem wd_248 : Cond.instanceMethod ⟨"LineClaims$Claims", "isOpen", "(I)Z"⟩ ∈ gW := List.mem_filter.mpr ⟨(List.mem_append_right _ (List.mem_of_getElem? (i := 248) (by decide +kernel))), by decide +kernel⟩
theorem wd_249 : Cond.selects "LineClaims$Claims" ⟨"LineClaims$Claims", "isOpen", "(I)Z"⟩ ⟨"LineClaims$Claims", "isOpen", "(I)Z"⟩ ∈ gW := List.mem_filter.mpr ⟨(List.mem_append_right _ (List.mem_of_getElem? (i := 249) (by decide +kernel))), by decide +kernel⟩
theorem wd_250 : Cond.code ⟨"LineClaims$Claims", "isOpen", "(I)Z"⟩ prog_2_method_12_code 2 (some .boolean) ∈ gW := List.mem_filter.mpr ⟨(List.mem_append_right _ (List.mem_of_getElem? (i := 250) (by decide +kernel))), by decide +kernel⟩
theorem wd_251 : Cond.methodLink "LineClaims" 62 ⟨"LineClaims$Reader", "bracketsRead", "()I"⟩ ∈ gW := List.mem_filter.mpr ⟨(List.mem_append_right _ (List.mem_of_getElem? (i := 251) (by decide +kernel))), by decide +kernel⟩
theorem wd_252 : Cond.instanceMethod ⟨"LineClaims$Reader", "bracketsRead", "()I"⟩ ∈ gW := List.mem_filter.mpr ⟨(List.mem_append_right _ (List.mem_of_getElem? (i := 252) (by decide +kernel))), by decide +kernel⟩
theorem wd_253 : Cond.selects "LineClaims$Reader" ⟨"LineClaims$Reader", "bracketsRead", "()I"⟩ ⟨"LineClaims$Reader", "bracketsRead", "()I"⟩ ∈ gW := List.mem_filter.mpr ⟨(List.mem_append_right _ (List.mem_of_getElem? (i := 253) (by decide +kernel))), by decide +kernel⟩
theorem wd_254 : Cond.code ⟨"LineClaims$Reader", "bracketsRead", "()I"⟩ prog_3_method_3_code 1 (some .int) ∈ gW := List.mem_filter.mpr ⟨(List.mem_append_right _ (List.mem_of_getElem? (i := 254) (by decide +kernel))), by decide +kernel⟩
theorem wd_255 : Cond.methodLink "LineClaims" 66 ⟨"LineClaims$Reader", "faultPlace", "()I"⟩ ∈ gW := List.mem_filter.mpr ⟨(List.mem_append_right _ (List.mem_of_getElem? (i := 255) (by decide +kernel))), by decide +kernel⟩
theorem wd_256 : Cond.instanceMethod ⟨"LineClaims$Reader", "faultPlace", "()I"⟩ ∈ gW := List.mem_filter.mpr ⟨(List.mem_append_right _ (List.mem_of_getElem? (i := 256) (by decide +kernel))), by decide +kernel⟩
theorem wd_257 : Cond.selects "LineClaims$Reader" ⟨"LineClaims$Reader", "faultPlace", "()I"⟩ ⟨"LineClaims$Reader", "faultPlace", "()I"⟩ ∈ gW := List.mem_filter.mpr ⟨(List.mem_append_right _ (List.mem_of_getElem? (i := 257) (by decide +kernel))), by decide +kernel⟩
theorem wd_258 : Cond.code ⟨"LineClaims$Reader", "faultPlace", "()I"⟩ prog_3_method_4_code 1 (some .int) ∈ gW := List.mem_filter.mpr ⟨(List.mem_append_right _ (List.mem_of_getElem? (i := 258) (by decide +kernel))), by decide +kernel⟩
theorem wd_259 : Cond.methodLink "LineClaims$Reader" 48 ⟨"LineClaims$Text", "placeOf", "(I)I"⟩ ∈ gW := List.mem_filter.mpr ⟨(List.mem_append_right _ (List.mem_of_getElem? (i := 259) (by decide +kernel))), by decide +kernel⟩
theorem wd_260 : Cond.instanceMethod ⟨"LineClaims$Text", "placeOf", "(I)I"⟩ ∈ gW := List.mem_filter.mpr ⟨(List.mem_append_right _ (List.mem_of_getElem? (i := 260) (by decide +kernel))), by decide +kernel⟩
theorem wd_261 : Cond.selects "LineClaims$Text" ⟨"LineClaims$Text", "placeOf", "(I)I"⟩ ⟨"LineClaims$Text", "placeOf", "(I)I"⟩ ∈ gW := List.mem_filter.mpr ⟨(List.mem_append_right _ (List.mem_of_getElem? (i := 261) (by decide +kernel))), by decide +kernel⟩
theorem wd_262 : Cond.code ⟨"LineClaims$Text", "placeOf", "(I)I"⟩ prog_5_method_7_code 2 (some .int) ∈ gW := List.mem_filter.mpr ⟨(List.mem_append_right _ (List.mem_of_getElem? (i := 262) (by decide +kernel))), by decide +kernel⟩
theorem wd_263 : Cond.methodLink "LineClaims" 69 ⟨"LineClaims$Text", "clear", "()V"⟩ ∈ gW := List.mem_filter.mpr ⟨(List.mem_append_right _ (List.mem_of_getElem? (i := 263) (by decide +kernel))), by decide +kernel⟩
theorem wd_264 : Cond.instanceMethod ⟨"LineClaims$Text", "clear", "()V"⟩ ∈ gW := List.mem_filter.mpr ⟨(List.mem_append_right _ (List.mem_of_getElem? (i := 264) (by decide +kernel))), by decide +kernel⟩
theorem wd_265 : Cond.selects "LineClaims$Text" ⟨"LineClaims$Text", "clear", "()V"⟩ ⟨"LineClaims$Text", "clear", "()V"⟩ ∈ gW := List.mem_filter.mpr ⟨(List.mem_append_right _ (List.mem_of_getElem? (i := 265) (by decide +kernel))), by decide +kernel⟩
theorem wd_266 : Cond.code ⟨"LineClaims$Text", "clear", "()V"⟩ prog_5_method_5_code 1 none ∈ gW := List.mem_filter.mpr ⟨(List.mem_append_right _ (List.mem_of_getElem? (i := 266) (by decide +kernel))), by decide +kernel⟩
theorem wd_267 : Cond.methodLink "LineClaims" 72 ⟨"LineClaims$Claims", "isOpen", "(I)Z"⟩ ∈ gW := List.mem_filter.mpr ⟨(List.mem_append_right _ (List.mem_of_getElem? (i := 267) (by decide +kernel))), by decide +kernel⟩
theorem wd_268 : Cond.methodLink "LineClaims" 75 ⟨"LineClaims$Row", "fill", "(LLineClaims$Claims;Z)V"⟩ ∈ gW := List.mem_filter.mpr ⟨(List.mem_append_right _ (List.mem_of_getElem? (i := 268) (by decide +kernel))), by decide +kernel⟩
theorem wd_269 : Cond.instanceMethod ⟨"LineClaims$Row", "fill", "(LLineClaims$Claims;Z)V"⟩ ∈ gW := List.mem_filter.mpr ⟨(List.mem_append_right _ (List.mem_of_getElem? (i := 269) (by decide +kernel))), by decide +kernel⟩
theorem wd_270 : Cond.selects "LineClaims$Row" ⟨"LineClaims$Row", "fill", "(LLineClaims$Claims;Z)V"⟩ ⟨"LineClaims$Row", "fill", "(LLineClaims$Claims;Z)V"⟩ ∈ gW := List.mem_filter.mpr ⟨(List.mem_append_right _ (List.mem_of_getElem? (i := 270) (by decide +kernel))), by decide +kernel⟩
theorem wd_271 : Cond.code ⟨"LineClaims$Row", "fill", "(LLineClaims$Claims;Z)V"⟩ prog_4_method_2_code 5 none ∈ gW := List.mem_filter.mpr ⟨(List.mem_append_right _ (List.mem_of_getElem? (i := 271) (by decide +kernel))), by decide +kernel⟩
theorem wd_272 : Cond.methodLink "LineClaims$Row" 19 ⟨"LineClaims$Claims", "word", "(III)J"⟩ ∈ gW := List.mem_filter.mpr ⟨(List.mem_append_right _ (List.mem_of_getElem? (i := 272) (by decide +kernel))), by decide +kernel⟩
theorem wd_273 : Cond.instanceMethod ⟨"LineClaims$Claims", "word", "(III)J"⟩ ∈ gW := List.mem_filter.mpr ⟨(List.mem_append_right _ (List.mem_of_getElem? (i := 273) (by decide +kernel))), by decide +kernel⟩
theorem wd_274 : Cond.selects "LineClaims$Claims" ⟨"LineClaims$Claims", "word", "(III)J"⟩ ⟨"LineClaims$Claims", "word", "(III)J"⟩ ∈ gW := List.mem_filter.mpr ⟨(List.mem_append_right _ (List.mem_of_getElem? (i := 274) (by decide +kernel))), by decide +kernel⟩
theorem wd_275 : Cond.code ⟨"LineClaims$Claims", "word", "(III)J"⟩ prog_2_method_16_code 4 (some .long) ∈ gW := List.mem_filter.mpr ⟨(List.mem_append_right _ (List.mem_of_getElem? (i := 275) (by decide +kernel))), by decide +kernel⟩
theorem wd_276 : Cond.methodLink "LineClaims$Claims" 53 ⟨"LineClaims$Claims", "word", "(III)J"⟩ ∈ gW := List.mem_filter.mpr ⟨(List.mem_append_right _ (List.mem_of_getElem? (i := 276) (by decide +kernel))), by decide +kernel⟩
theorem wd_277 : Cond.constantLong "LineClaims$Claims" 57 (-1) ∈ gW := List.mem_filter.mpr ⟨(List.mem_append_right _ (List.mem_of_getElem? (i := 277) (by decide +kernel))), by decide +kernel⟩
theorem wd_278 : Cond.methodLink "LineClaims$Claims" 59 ⟨"LineClaims$Claims", "pairWord", "(III)J"⟩ ∈ gW := List.mem_filter.mpr ⟨(List.mem_append_right _ (List.mem_of_getElem? (i := 278) (by decide +kernel))), by decide +kernel⟩
theorem wd_280 : Cond.instanceMethod ⟨"LineClaims$Claims", "pairWord", "(III)J"⟩ ∈ gW := List.mem_filter.mpr ⟨(List.mem_append_right _ (List.mem_of_getElem? (i := 280) (by decide +kernel))), by decide +kernel⟩
theorem wd_281 : Cond.code ⟨"LineClaims$Claims", "pairWord", "(III)J"⟩ prog_2_method_17_code 6 (some .long) ∈ gW := List.mem_filter.mpr ⟨(List.mem_append_right _ (List.mem_of_getElem? (i := 281) (by decide +kernel))), by decide +kernel⟩
theorem wd_282 : Cond.methodLink "LineClaims$Claims" 62 ⟨"LineClaims$Claims", "quantifiedWord", "(III)J"⟩ ∈ gW := List.mem_filter.mpr ⟨(List.mem_append_right _ (List.mem_of_getElem? (i := 282) (by decide +kernel))), by decide +kernel⟩
theorem wd_284 : Cond.instanceMethod ⟨"LineClaims$Claims", "quantifiedWord", "(III)J"⟩ ∈ gW := List.mem_filter.mpr ⟨(List.mem_append_right _ (List.mem_of_getElem? (i := 284) (by decide +kernel))), by decide +kernel⟩
theorem wd_285 : Cond.code ⟨"LineClaims$Claims", "quantifiedWord", "(III)J"⟩ prog_2_method_18_code 7 (some .long) ∈ gW := List.mem_filter.mpr ⟨(List.mem_append_right _ (List.mem_of_getElem? (i := 285) (by decide +kernel))), by decide +kernel⟩
theorem wd_286 : Cond.methodLink "LineClaims$Claims" 83 ⟨"LineClaims$Claims", "isOpen", "(I)Z"⟩ ∈ gW := List.mem_filter.mpr ⟨(List.mem_append_right _ (List.mem_of_getElem? (i := 286) (by decide +kernel))), by decide +kernel⟩
theorem wd_287 : Cond.methodLink "LineClaims$Claims" 88 ⟨"LineClaims$Claims", "isSo", "(III)Z"⟩ ∈ gW := List.mem_filter.mpr ⟨(List.mem_append_right _ (List.mem_of_getElem? (i := 287) (by decide +kernel))), by decide +kernel⟩
theorem wd_289 : Cond.instanceMethod ⟨"LineClaims$Claims", "isSo", "(III)Z"⟩ ∈ gW := List.mem_filter.mpr ⟨(List.mem_append_right _ (List.mem_of_getElem? (i := 289) (by decide +kernel))), by decide +kernel⟩
theorem wd_290 : Cond.code ⟨"LineClaims$Claims", "isSo", "(III)Z"⟩ prog_2_method_19_code 8 (some .boolean) ∈ gW := List.mem_filter.mpr ⟨(List.mem_append_right _ (List.mem_of_getElem? (i := 290) (by decide +kernel))), by decide +kernel⟩
theorem wd_291 : Cond.methodLink "LineClaims$Claims" 65 ⟨"LineClaims$Claims", "factorOf", "(II)I"⟩ ∈ gW := List.mem_filter.mpr ⟨(List.mem_append_right _ (List.mem_of_getElem? (i := 291) (by decide +kernel))), by decide +kernel⟩
theorem wd_293 : Cond.instanceMethod ⟨"LineClaims$Claims", "factorOf", "(II)I"⟩ ∈ gW := List.mem_filter.mpr ⟨(List.mem_append_right _ (List.mem_of_getElem? (i := 293) (by decide +kernel))), by decide +kernel⟩
theorem wd_294 : Cond.code ⟨"LineClaims$Claims", "factorOf", "(II)I"⟩ prog_2_method_20_code 4 (some .int) ∈ gW := List.mem_filter.mpr ⟨(List.mem_append_right _ (List.mem_of_getElem? (i := 294) (by decide +kernel))), by decide +kernel⟩
theorem wd_295 : Cond.methodLink "LineClaims$Claims" 69 ⟨"LineClaims$Claims", "sumAt", "(III)I"⟩ ∈ gW := List.mem_filter.mpr ⟨(List.mem_append_right _ (List.mem_of_getElem? (i := 295) (by decide +kernel))), by decide +kernel⟩
theorem wd_297 : Cond.instanceMethod ⟨"LineClaims$Claims", "sumAt", "(III)I"⟩ ∈ gW := List.mem_filter.mpr ⟨(List.mem_append_right _ (List.mem_of_getElem? (i := 297) (by decide +kernel))), by decide +kernel⟩
theorem wd_298 : Cond.code ⟨"LineClaims$Claims", "sumAt", "(III)I"⟩ prog_2_method_21_code 7 (some .int) ∈ gW := List.mem_filter.mpr ⟨(List.mem_append_right _ (List.mem_of_getElem? (i := 298) (by decide +kernel))), by decide +kernel⟩
theorem wd_299 : Cond.methodLink "LineClaims$Claims" 73 ⟨"LineClaims$Claims", "belowWord", "(II)J"⟩ ∈ gW := List.mem_filter.mpr ⟨(List.mem_append_right _ (List.mem_of_getElem? (i := 299) (by decide +kernel))), by decide +kernel⟩
theorem wd_300 : Cond.static ⟨"LineClaims$Claims", "belowWord", "(II)J"⟩ ∈ gW := List.mem_filter.mpr ⟨(List.mem_append_right _ (List.mem_of_getElem? (i := 300) (by decide +kernel))), by decide +kernel⟩
theorem wd_301 : Cond.code ⟨"LineClaims$Claims", "belowWord", "(II)J"⟩ prog_2_method_22_code 2 (some .long) ∈ gW := List.mem_filter.mpr ⟨(List.mem_append_right _ (List.mem_of_getElem? (i := 301) (by decide +kernel))), by decide +kernel⟩
theorem wd_302 : Cond.methodLink "LineClaims$Claims" 92 ⟨"java/lang/Math", "floorDiv", "(II)I"⟩ ∈ gW := List.mem_filter.mpr ⟨(List.mem_append_right _ (List.mem_of_getElem? (i := 302) (by decide +kernel))), by decide +kernel⟩
theorem wd_303 : Cond.static ⟨"java/lang/Math", "floorDiv", "(II)I"⟩ ∈ gW := List.mem_filter.mpr ⟨(List.mem_append_right _ (List.mem_of_getElem? (i := 303) (by decide +kernel))), by decide +kernel⟩
theorem wd_304 : Cond.code ⟨"java/lang/Math", "floorDiv", "(II)I"⟩ prog_8_method_47_code 3 (some .int) ∈ gW := List.mem_filter.mpr ⟨(List.mem_append_right _ (List.mem_of_getElem? (i := 304) (by decide +kernel))), by decide +kernel⟩
theorem wd_305 : Cond.methodLink "LineClaims$Claims" 95 ⟨"LineClaims$Claims", "lowBits", "(I)J"⟩ ∈ gW := List.mem_filter.mpr ⟨(List.mem_append_right _ (List.mem_of_getElem? (i := 305) (by decide +kernel))), by decide +kernel⟩
theorem wd_306 : Cond.static ⟨"LineClaims$Claims", "lowBits", "(I)J"⟩ ∈ gW := List.mem_filter.mpr ⟨(List.mem_append_right _ (List.mem_of_getElem? (i := 306) (by decide +kernel))), by decide +kernel⟩
theorem wd_307 : Cond.code ⟨"LineClaims$Claims", "lowBits", "(I)J"⟩ prog_2_method_25_code 1 (some .long) ∈ gW := List.mem_filter.mpr ⟨(List.mem_append_right _ (List.mem_of_getElem? (i := 307) (by decide +kernel))), by decide +kernel⟩
theorem wd_308 : Cond.methodLink "LineClaims$Claims" 77 ⟨"LineClaims$Claims", "equalWord", "(II)J"⟩ ∈ gW := List.mem_filter.mpr ⟨(List.mem_append_right _ (List.mem_of_getElem? (i := 308) (by decide +kernel))), by decide +kernel⟩
theorem wd_309 : Cond.static ⟨"LineClaims$Claims", "equalWord", "(II)J"⟩ ∈ gW := List.mem_filter.mpr ⟨(List.mem_append_right _ (List.mem_of_getElem? (i := 309) (by decide +kernel))), by decide +kernel⟩
theorem wd_310 : Cond.code ⟨"LineClaims$Claims", "equalWord", "(II)J"⟩ prog_2_method_23_code 3 (some .long) ∈ gW := List.mem_filter.mpr ⟨(List.mem_append_right _ (List.mem_of_getElem? (i := 310) (by decide +kernel))), by decide +kernel⟩
theorem wd_311 : Cond.methodLink "LineClaims$Claims" 80 ⟨"LineClaims$Claims", "dividesWord", "(III)J"⟩ ∈ gW := List.mem_filter.mpr ⟨(List.mem_append_right _ (List.mem_of_getElem? (i := 311) (by decide +kernel))), by decide +kernel⟩
theorem wd_312 : Cond.static ⟨"LineClaims$Claims", "dividesWord", "(III)J"⟩ ∈ gW := List.mem_filter.mpr ⟨(List.mem_append_right _ (List.mem_of_getElem? (i := 312) (by decide +kernel))), by decide +kernel⟩
theorem wd_313 : Cond.code ⟨"LineClaims$Claims", "dividesWord", "(III)J"⟩ prog_2_method_24_code 6 (some .long) ∈ gW := List.mem_filter.mpr ⟨(List.mem_append_right _ (List.mem_of_getElem? (i := 313) (by decide +kernel))), by decide +kernel⟩
theorem wd_314 : Cond.constantLong "LineClaims$Claims" 99 6148914691236517205 ∈ gW := List.mem_filter.mpr ⟨(List.mem_append_right _ (List.mem_of_getElem? (i := 314) (by decide +kernel))), by decide +kernel⟩
theorem wd_315 : Cond.constantLong "LineClaims$Claims" 101 (-7905747460161236407) ∈ gW := List.mem_filter.mpr ⟨(List.mem_append_right _ (List.mem_of_getElem? (i := 315) (by decide +kernel))), by decide +kernel⟩
theorem wd_324 : Cond.methodLink "LineClaims" 79 ⟨"LineClaims", "isNear", "(I)Z"⟩ ∈ gW := List.mem_filter.mpr ⟨(List.mem_append_right _ (List.mem_of_getElem? (i := 324) (by decide +kernel))), by decide +kernel⟩
theorem wd_325 : Cond.static ⟨"LineClaims", "isNear", "(I)Z"⟩ ∈ gW := List.mem_filter.mpr ⟨(List.mem_append_right _ (List.mem_of_getElem? (i := 325) (by decide +kernel))), by decide +kernel⟩
theorem wd_326 : Cond.code ⟨"LineClaims", "isNear", "(I)Z"⟩ prog_1_method_13_code 1 (some .boolean) ∈ gW := List.mem_filter.mpr ⟨(List.mem_append_right _ (List.mem_of_getElem? (i := 326) (by decide +kernel))), by decide +kernel⟩
theorem wd_327 : Cond.methodLink "LineClaims" 82 ⟨"LineClaims$Row", "has", "(I)Z"⟩ ∈ gW := List.mem_filter.mpr ⟨(List.mem_append_right _ (List.mem_of_getElem? (i := 327) (by decide +kernel))), by decide +kernel⟩
theorem wd_328 : Cond.instanceMethod ⟨"LineClaims$Row", "has", "(I)Z"⟩ ∈ gW := List.mem_filter.mpr ⟨(List.mem_append_right _ (List.mem_of_getElem? (i := 328) (by decide +kernel))), by decide +kernel⟩
theorem wd_329 : Cond.selects "LineClaims$Row" ⟨"LineClaims$Row", "has", "(I)Z"⟩ ⟨"LineClaims$Row", "has", "(I)Z"⟩ ∈ gW := List.mem_filter.mpr ⟨(List.mem_append_right _ (List.mem_of_getElem? (i := 329) (by decide +kernel))), by decide +kernel⟩
theorem wd_330 : Cond.code ⟨"LineClaims$Row", "has", "(I)Z"⟩ prog_4_method_3_code 3 (some .boolean) ∈ gW := List.mem_filter.mpr ⟨(List.mem_append_right _ (List.mem_of_getElem? (i := 330) (by decide +kernel))), by decide +kernel⟩
theorem wd_331 : Cond.methodLink "LineClaims$Row" 23 ⟨"LineClaims$Row", "alike", "(I)I"⟩ ∈ gW := List.mem_filter.mpr ⟨(List.mem_append_right _ (List.mem_of_getElem? (i := 331) (by decide +kernel))), by decide +kernel⟩
theorem wd_332 : Cond.static ⟨"LineClaims$Row", "alike", "(I)I"⟩ ∈ gW := List.mem_filter.mpr ⟨(List.mem_append_right _ (List.mem_of_getElem? (i := 332) (by decide +kernel))), by decide +kernel⟩
theorem wd_333 : Cond.code ⟨"LineClaims$Row", "alike", "(I)I"⟩ prog_4_method_4_code 1 (some .int) ∈ gW := List.mem_filter.mpr ⟨(List.mem_append_right _ (List.mem_of_getElem? (i := 333) (by decide +kernel))), by decide +kernel⟩
theorem wd_334 : Cond.methodLink "LineClaims$Row" 27 ⟨"java/lang/Math", "floorMod", "(II)I"⟩ ∈ gW := List.mem_filter.mpr ⟨(List.mem_append_right _ (List.mem_of_getElem? (i := 334) (by decide +kernel))), by decide +kernel⟩
theorem wd_335 : Cond.static ⟨"java/lang/Math", "floorMod", "(II)I"⟩ ∈ gW := List.mem_filter.mpr ⟨(List.mem_append_right _ (List.mem_of_getElem? (i := 335) (by decide +kernel))), by decide +kernel⟩
theorem wd_336 : Cond.code ⟨"java/lang/Math", "floorMod", "(II)I"⟩ prog_8_method_50_code 3 (some .int) ∈ gW := List.mem_filter.mpr ⟨(List.mem_append_right _ (List.mem_of_getElem? (i := 336) (by decide +kernel))), by decide +kernel⟩
theorem wd_341 : Cond.methodLink "LineClaims" 85 ⟨"LineClaims$Row", "hasOne", "()Z"⟩ ∈ gW := List.mem_filter.mpr ⟨(List.mem_append_right _ (List.mem_of_getElem? (i := 341) (by decide +kernel))), by decide +kernel⟩
theorem wd_342 : Cond.instanceMethod ⟨"LineClaims$Row", "hasOne", "()Z"⟩ ∈ gW := List.mem_filter.mpr ⟨(List.mem_append_right _ (List.mem_of_getElem? (i := 342) (by decide +kernel))), by decide +kernel⟩
theorem wd_343 : Cond.selects "LineClaims$Row" ⟨"LineClaims$Row", "hasOne", "()Z"⟩ ⟨"LineClaims$Row", "hasOne", "()Z"⟩ ∈ gW := List.mem_filter.mpr ⟨(List.mem_append_right _ (List.mem_of_getElem? (i := 343) (by decide +kernel))), by decide +kernel⟩
theorem wd_344 : Cond.code ⟨"LineClaims$Row", "hasOne", "()Z"⟩ prog_4_method_5_code 2 (some .boolean) ∈ gW := List.mem_filter.mpr ⟨(List.mem_append_right _ (List.mem_of_getElem? (i := 344) (by decide +kernel))), by decide +kernel⟩
theorem wd_349 : Cond.methodLink "LineClaims" 88 ⟨"LineClaims$Row", "hasEach", "()Z"⟩ ∈ gW := List.mem_filter.mpr ⟨(List.mem_append_right _ (List.mem_of_getElem? (i := 349) (by decide +kernel))), by decide +kernel⟩
theorem wd_350 : Cond.instanceMethod ⟨"LineClaims$Row", "hasEach", "()Z"⟩ ∈ gW := List.mem_filter.mpr ⟨(List.mem_append_right _ (List.mem_of_getElem? (i := 350) (by decide +kernel))), by decide +kernel⟩
theorem wd_351 : Cond.selects "LineClaims$Row" ⟨"LineClaims$Row", "hasEach", "()Z"⟩ ⟨"LineClaims$Row", "hasEach", "()Z"⟩ ∈ gW := List.mem_filter.mpr ⟨(List.mem_append_right _ (List.mem_of_getElem? (i := 351) (by decide +kernel))), by decide +kernel⟩
theorem wd_352 : Cond.code ⟨"LineClaims$Row", "hasEach", "()Z"⟩ prog_4_method_6_code 2 (some .boolean) ∈ gW := List.mem_filter.mpr ⟨(List.mem_append_right _ (List.mem_of_getElem? (i := 352) (by decide +kernel))), by decide +kernel⟩
theorem wd_357 : Cond.constant "LineClaims" 91 1000000 ∈ gW := List.mem_filter.mpr ⟨(List.mem_append_right _ (List.mem_of_getElem? (i := 357) (by decide +kernel))), by decide +kernel⟩
theorem wd_358 : Cond.methodLink "LineClaims" 92 ⟨"java/lang/Math", "max", "(II)I"⟩ ∈ gW := List.mem_filter.mpr ⟨(List.mem_append_right _ (List.mem_of_getElem? (i := 358) (by decide +kernel))), by decide +kernel⟩
theorem wd_359 : Cond.static ⟨"java/lang/Math", "max", "(II)I"⟩ ∈ gW := List.mem_filter.mpr ⟨(List.mem_append_right _ (List.mem_of_getElem? (i := 359) (by decide +kernel))), by decide +kernel⟩
theorem wd_360 : Cond.code ⟨"java/lang/Math", "max", "(II)I"⟩ prog_8_method_65_code 2 (some .int) ∈ gW := List.mem_filter.mpr ⟨(List.mem_append_right _ (List.mem_of_getElem? (i := 360) (by decide +kernel))), by decide +kernel⟩
theorem wd_365 : Cond.constant "LineClaims" 97 (-1000000) ∈ gW := List.mem_filter.mpr ⟨(List.mem_append_right _ (List.mem_of_getElem? (i := 365) (by decide +kernel))), by decide +kernel⟩
theorem wd_366 : Cond.methodLink "LineClaims" 98 ⟨"java/lang/Math", "min", "(II)I"⟩ ∈ gW := List.mem_filter.mpr ⟨(List.mem_append_right _ (List.mem_of_getElem? (i := 366) (by decide +kernel))), by decide +kernel⟩
theorem wd_367 : Cond.static ⟨"java/lang/Math", "min", "(II)I"⟩ ∈ gW := List.mem_filter.mpr ⟨(List.mem_append_right _ (List.mem_of_getElem? (i := 367) (by decide +kernel))), by decide +kernel⟩
theorem wd_368 : Cond.code ⟨"java/lang/Math", "min", "(II)I"⟩ prog_8_method_69_code 2 (some .int) ∈ gW := List.mem_filter.mpr ⟨(List.mem_append_right _ (List.mem_of_getElem? (i := 368) (by decide +kernel))), by decide +kernel⟩
theorem wd_381 : Cond.methodLink "LineClaims" 101 ⟨"LineClaims$Row", "repeatsAfter", "(I)Z"⟩ ∈ gW := List.mem_filter.mpr ⟨(List.mem_append_right _ (List.mem_of_getElem? (i := 381) (by decide +kernel))), by decide +kernel⟩
theorem wd_382 : Cond.instanceMethod ⟨"LineClaims$Row", "repeatsAfter", "(I)Z"⟩ ∈ gW := List.mem_filter.mpr ⟨(List.mem_append_right _ (List.mem_of_getElem? (i := 382) (by decide +kernel))), by decide +kernel⟩
theorem wd_383 : Cond.selects "LineClaims$Row" ⟨"LineClaims$Row", "repeatsAfter", "(I)Z"⟩ ⟨"LineClaims$Row", "repeatsAfter", "(I)Z"⟩ ∈ gW := List.mem_filter.mpr ⟨(List.mem_append_right _ (List.mem_of_getElem? (i := 383) (by decide +kernel))), by decide +kernel⟩
theorem wd_384 : Cond.code ⟨"LineClaims$Row", "repeatsAfter", "(I)Z"⟩ prog_4_method_7_code 3 (some .boolean) ∈ gW := List.mem_filter.mpr ⟨(List.mem_append_right _ (List.mem_of_getElem? (i := 384) (by decide +kernel))), by decide +kernel⟩
theorem wd_385 : Cond.methodLink "LineClaims$Row" 33 ⟨"LineClaims$Row", "has", "(I)Z"⟩ ∈ gW := List.mem_filter.mpr ⟨(List.mem_append_right _ (List.mem_of_getElem? (i := 385) (by decide +kernel))), by decide +kernel⟩
theorem wd_392 : Cond.fieldLink "LineClaimsModel" 7 "LineClaimsModel" "chars" "[I" ∈ gW := List.mem_filter.mpr ⟨(List.mem_append_right _ (List.mem_of_getElem? (i := 392) (by decide +kernel))), by decide +kernel⟩
theorem wd_393 : Cond.fieldLink "LineClaimsModel" 74 "LineClaimsModel" "typed" "I" ∈ gW := List.mem_filter.mpr ⟨(List.mem_append_right _ (List.mem_of_getElem? (i := 393) (by decide +kernel))), by decide +kernel⟩
theorem wd_394 : Cond.fieldLink "LineClaimsModel" 80 "LineClaimsModel" "size" "I" ∈ gW := List.mem_filter.mpr ⟨(List.mem_append_right _ (List.mem_of_getElem? (i := 394) (by decide +kernel))), by decide +kernel⟩
theorem wd_395 : Cond.fieldLink "LineClaimsModel" 77 "LineClaimsModel" "at" "I" ∈ gW := List.mem_filter.mpr ⟨(List.mem_append_right _ (List.mem_of_getElem? (i := 395) (by decide +kernel))), by decide +kernel⟩
theorem wd_396 : Cond.fieldLink "LineClaimsModel" 87 "LineClaimsModel" "fault" "I" ∈ gW := List.mem_filter.mpr ⟨(List.mem_append_right _ (List.mem_of_getElem? (i := 396) (by decide +kernel))), by decide +kernel⟩
theorem wd_397 : Cond.fieldLink "LineClaimsModel" 59 "LineClaimsModel" "claims" "I" ∈ gW := List.mem_filter.mpr ⟨(List.mem_append_right _ (List.mem_of_getElem? (i := 397) (by decide +kernel))), by decide +kernel⟩
theorem wd_398 : Cond.fieldLink "LineClaimsModel" 63 "LineClaimsModel" "brackets" "I" ∈ gW := List.mem_filter.mpr ⟨(List.mem_append_right _ (List.mem_of_getElem? (i := 398) (by decide +kernel))), by decide +kernel⟩
theorem wd_399 : Cond.fieldLink "LineClaimsModel" 126 "LineClaimsModel" "xFree" "Z" ∈ gW := List.mem_filter.mpr ⟨(List.mem_append_right _ (List.mem_of_getElem? (i := 399) (by decide +kernel))), by decide +kernel⟩
theorem wd_400 : Cond.fieldLink "LineClaimsModel" 66 "LineClaimsModel" "truth" "Z" ∈ gW := List.mem_filter.mpr ⟨(List.mem_append_right _ (List.mem_of_getElem? (i := 400) (by decide +kernel))), by decide +kernel⟩
theorem wd_401 : Cond.fieldLink "LineClaimsModel" 13 "LineClaimsModel" "kind" "[I" ∈ gW := List.mem_filter.mpr ⟨(List.mem_append_right _ (List.mem_of_getElem? (i := 401) (by decide +kernel))), by decide +kernel⟩
theorem wd_402 : Cond.fieldLink "LineClaimsModel" 16 "LineClaimsModel" "owner" "[I" ∈ gW := List.mem_filter.mpr ⟨(List.mem_append_right _ (List.mem_of_getElem? (i := 402) (by decide +kernel))), by decide +kernel⟩
theorem wd_403 : Cond.fieldLink "LineClaimsModel" 19 "LineClaimsModel" "about" "[I" ∈ gW := List.mem_filter.mpr ⟨(List.mem_append_right _ (List.mem_of_getElem? (i := 403) (by decide +kernel))), by decide +kernel⟩
theorem wd_404 : Cond.fieldLink "LineClaimsModel" 22 "LineClaimsModel" "sum" "[I" ∈ gW := List.mem_filter.mpr ⟨(List.mem_append_right _ (List.mem_of_getElem? (i := 404) (by decide +kernel))), by decide +kernel⟩
theorem wd_405 : Cond.fieldLink "LineClaimsModel" 113 "LineClaimsModel" "read" "I" ∈ gW := List.mem_filter.mpr ⟨(List.mem_append_right _ (List.mem_of_getElem? (i := 405) (by decide +kernel))), by decide +kernel⟩
theorem wd_406 : Cond.fieldLink "LineClaimsModel" 103 "LineClaimsModel" "readBrackets" "I" ∈ gW := List.mem_filter.mpr ⟨(List.mem_append_right _ (List.mem_of_getElem? (i := 406) (by decide +kernel))), by decide +kernel⟩
theorem wd_407 : Cond.fieldLink "LineClaimsModel" 93 "LineClaimsModel" "readFree" "Z" ∈ gW := List.mem_filter.mpr ⟨(List.mem_append_right _ (List.mem_of_getElem? (i := 407) (by decide +kernel))), by decide +kernel⟩
theorem wd_408 : Cond.fieldLink "LineClaimsModel" 116 "LineClaimsModel" "deep" "Z" ∈ gW := List.mem_filter.mpr ⟨(List.mem_append_right _ (List.mem_of_getElem? (i := 408) (by decide +kernel))), by decide +kernel⟩
theorem wd_409 : Cond.fieldLink "LineClaimsModel" 25 "LineClaimsModel" "newKind" "[I" ∈ gW := List.mem_filter.mpr ⟨(List.mem_append_right _ (List.mem_of_getElem? (i := 409) (by decide +kernel))), by decide +kernel⟩
theorem wd_410 : Cond.fieldLink "LineClaimsModel" 28 "LineClaimsModel" "newOwner" "[I" ∈ gW := List.mem_filter.mpr ⟨(List.mem_append_right _ (List.mem_of_getElem? (i := 410) (by decide +kernel))), by decide +kernel⟩
theorem wd_411 : Cond.fieldLink "LineClaimsModel" 31 "LineClaimsModel" "newAbout" "[I" ∈ gW := List.mem_filter.mpr ⟨(List.mem_append_right _ (List.mem_of_getElem? (i := 411) (by decide +kernel))), by decide +kernel⟩
theorem wd_412 : Cond.fieldLink "LineClaimsModel" 34 "LineClaimsModel" "newSum" "[I" ∈ gW := List.mem_filter.mpr ⟨(List.mem_append_right _ (List.mem_of_getElem? (i := 412) (by decide +kernel))), by decide +kernel⟩
theorem wd_413 : Cond.fieldLink "LineClaimsModel" 37 "LineClaimsModel" "held" "[I" ∈ gW := List.mem_filter.mpr ⟨(List.mem_append_right _ (List.mem_of_getElem? (i := 413) (by decide +kernel))), by decide +kernel⟩
theorem wd_414 : Cond.fieldLink "LineClaimsModel" 40 "LineClaimsModel" "open" "[I" ∈ gW := List.mem_filter.mpr ⟨(List.mem_append_right _ (List.mem_of_getElem? (i := 414) (by decide +kernel))), by decide +kernel⟩
theorem wd_415 : Cond.fieldLink "LineClaimsModel" 43 "LineClaimsModel" "left" "[I" ∈ gW := List.mem_filter.mpr ⟨(List.mem_append_right _ (List.mem_of_getElem? (i := 415) (by decide +kernel))), by decide +kernel⟩
theorem wd_416 : Cond.fieldLink "LineClaimsModel" 46 "LineClaimsModel" "number" "[I" ∈ gW := List.mem_filter.mpr ⟨(List.mem_append_right _ (List.mem_of_getElem? (i := 416) (by decide +kernel))), by decide +kernel⟩
theorem wd_417 : Cond.fieldLink "LineClaimsModel" 49 "LineClaimsModel" "low" "[Z" ∈ gW := List.mem_filter.mpr ⟨(List.mem_append_right _ (List.mem_of_getElem? (i := 417) (by decide +kernel))), by decide +kernel⟩
theorem wd_418 : Cond.fieldLink "LineClaimsModel" 53 "LineClaimsModel" "middle" "[Z" ∈ gW := List.mem_filter.mpr ⟨(List.mem_append_right _ (List.mem_of_getElem? (i := 418) (by decide +kernel))), by decide +kernel⟩
theorem wd_419 : Cond.fieldLink "LineClaimsModel" 56 "LineClaimsModel" "high" "[Z" ∈ gW := List.mem_filter.mpr ⟨(List.mem_append_right _ (List.mem_of_getElem? (i := 419) (by decide +kernel))), by decide +kernel⟩
theorem wd_482 : Cond.methodLink "LineClaimsModel" 70 ⟨"LineClaimsModel", "in", "(III)Z"⟩ ∈ gW := List.mem_filter.mpr ⟨(List.mem_append_right _ (List.mem_of_getElem? (i := 482) (by decide +kernel))), by decide +kernel⟩
theorem wd_483 : Cond.static ⟨"LineClaimsModel", "in", "(III)Z"⟩ ∈ gW := List.mem_filter.mpr ⟨(List.mem_append_right _ (List.mem_of_getElem? (i := 483) (by decide +kernel))), by decide +kernel⟩
theorem wd_484 : Cond.code ⟨"LineClaimsModel", "in", "(III)Z"⟩ prog_7_method_2_code 3 (some .boolean) ∈ gW := List.mem_filter.mpr ⟨(List.mem_append_right _ (List.mem_of_getElem? (i := 484) (by decide +kernel))), by decide +kernel⟩
theorem wd_489 : Cond.methodLink "LineClaimsModel" 123 ⟨"LineClaimsModel", "readClaims", "()V"⟩ ∈ gW := List.mem_filter.mpr ⟨(List.mem_append_right _ (List.mem_of_getElem? (i := 489) (by decide +kernel))), by decide +kernel⟩
theorem wd_491 : Cond.instanceMethod ⟨"LineClaimsModel", "readClaims", "()V"⟩ ∈ gW := List.mem_filter.mpr ⟨(List.mem_append_right _ (List.mem_of_getElem? (i := 491) (by decide +kernel))), by decide +kernel⟩
theorem wd_492 : Cond.code ⟨"LineClaimsModel", "readClaims", "()V"⟩ prog_7_method_11_code 12 none ∈ gW := List.mem_filter.mpr ⟨(List.mem_append_right _ (List.mem_of_getElem? (i := 492) (by decide +kernel))), by decide +kernel⟩
theorem wd_493 : Cond.methodLink "LineClaimsModel" 83 ⟨"LineClaimsModel", "look", "()I"⟩ ∈ gW := List.mem_filter.mpr ⟨(List.mem_append_right _ (List.mem_of_getElem? (i := 493) (by decide +kernel))), by decide +kernel⟩
theorem wd_495 : Cond.instanceMethod ⟨"LineClaimsModel", "look", "()I"⟩ ∈ gW := List.mem_filter.mpr ⟨(List.mem_append_right _ (List.mem_of_getElem? (i := 495) (by decide +kernel))), by decide +kernel⟩
theorem wd_496 : Cond.code ⟨"LineClaimsModel", "look", "()I"⟩ prog_7_method_4_code 1 (some .int) ∈ gW := List.mem_filter.mpr ⟨(List.mem_append_right _ (List.mem_of_getElem? (i := 496) (by decide +kernel))), by decide +kernel⟩
theorem wd_497 : Cond.methodLink "LineClaimsModel" 90 ⟨"LineClaimsModel", "fail", "()V"⟩ ∈ gW := List.mem_filter.mpr ⟨(List.mem_append_right _ (List.mem_of_getElem? (i := 497) (by decide +kernel))), by decide +kernel⟩
theorem wd_499 : Cond.instanceMethod ⟨"LineClaimsModel", "fail", "()V"⟩ ∈ gW := List.mem_filter.mpr ⟨(List.mem_append_right _ (List.mem_of_getElem? (i := 499) (by decide +kernel))), by decide +kernel⟩
theorem wd_500 : Cond.code ⟨"LineClaimsModel", "fail", "()V"⟩ prog_7_method_5_code 1 none ∈ gW := List.mem_filter.mpr ⟨(List.mem_append_right _ (List.mem_of_getElem? (i := 500) (by decide +kernel))), by decide +kernel⟩
theorem wd_501 : Cond.methodLink "LineClaimsModel" 119 ⟨"LineClaimsModel", "readBracket", "(I)V"⟩ ∈ gW := List.mem_filter.mpr ⟨(List.mem_append_right _ (List.mem_of_getElem? (i := 501) (by decide +kernel))), by decide +kernel⟩
theorem wd_503 : Cond.instanceMethod ⟨"LineClaimsModel", "readBracket", "(I)V"⟩ ∈ gW := List.mem_filter.mpr ⟨(List.mem_append_right _ (List.mem_of_getElem? (i := 503) (by decide +kernel))), by decide +kernel⟩
theorem wd_504 : Cond.code ⟨"LineClaimsModel", "readBracket", "(I)V"⟩ prog_7_method_10_code 4 none ∈ gW := List.mem_filter.mpr ⟨(List.mem_append_right _ (List.mem_of_getElem? (i := 504) (by decide +kernel))), by decide +kernel⟩
theorem wd_505 : Cond.methodLink "LineClaimsModel" 106 ⟨"LineClaimsModel", "isDivisor", "()Z"⟩ ∈ gW := List.mem_filter.mpr ⟨(List.mem_append_right _ (List.mem_of_getElem? (i := 505) (by decide +kernel))), by decide +kernel⟩
theorem wd_507 : Cond.instanceMethod ⟨"LineClaimsModel", "isDivisor", "()Z"⟩ ∈ gW := List.mem_filter.mpr ⟨(List.mem_append_right _ (List.mem_of_getElem? (i := 507) (by decide +kernel))), by decide +kernel⟩
theorem wd_508 : Cond.code ⟨"LineClaimsModel", "isDivisor", "()Z"⟩ prog_7_method_9_code 3 (some .boolean) ∈ gW := List.mem_filter.mpr ⟨(List.mem_append_right _ (List.mem_of_getElem? (i := 508) (by decide +kernel))), by decide +kernel⟩
theorem wd_509 : Cond.methodLink "LineClaimsModel" 110 ⟨"LineClaimsModel", "readSum", "(II)V"⟩ ∈ gW := List.mem_filter.mpr ⟨(List.mem_append_right _ (List.mem_of_getElem? (i := 509) (by decide +kernel))), by decide +kernel⟩
theorem wd_511 : Cond.instanceMethod ⟨"LineClaimsModel", "readSum", "(II)V"⟩ ∈ gW := List.mem_filter.mpr ⟨(List.mem_append_right _ (List.mem_of_getElem? (i := 511) (by decide +kernel))), by decide +kernel⟩
theorem wd_512 : Cond.code ⟨"LineClaimsModel", "readSum", "(II)V"⟩ prog_7_method_8_code 6 none ∈ gW := List.mem_filter.mpr ⟨(List.mem_append_right _ (List.mem_of_getElem? (i := 512) (by decide +kernel))), by decide +kernel⟩
theorem wd_513 : Cond.methodLink "LineClaimsModel" 100 ⟨"LineClaimsModel", "readPart", "(II)V"⟩ ∈ gW := List.mem_filter.mpr ⟨(List.mem_append_right _ (List.mem_of_getElem? (i := 513) (by decide +kernel))), by decide +kernel⟩
theorem wd_515 : Cond.instanceMethod ⟨"LineClaimsModel", "readPart", "(II)V"⟩ ∈ gW := List.mem_filter.mpr ⟨(List.mem_append_right _ (List.mem_of_getElem? (i := 515) (by decide +kernel))), by decide +kernel⟩
theorem wd_516 : Cond.code ⟨"LineClaimsModel", "readPart", "(II)V"⟩ prog_7_method_7_code 6 none ∈ gW := List.mem_filter.mpr ⟨(List.mem_append_right _ (List.mem_of_getElem? (i := 516) (by decide +kernel))), by decide +kernel⟩
theorem wd_517 : Cond.methodLink "LineClaimsModel" 96 ⟨"LineClaimsModel", "addVariable", "(II)V"⟩ ∈ gW := List.mem_filter.mpr ⟨(List.mem_append_right _ (List.mem_of_getElem? (i := 517) (by decide +kernel))), by decide +kernel⟩
theorem wd_519 : Cond.instanceMethod ⟨"LineClaimsModel", "addVariable", "(II)V"⟩ ∈ gW := List.mem_filter.mpr ⟨(List.mem_append_right _ (List.mem_of_getElem? (i := 519) (by decide +kernel))), by decide +kernel⟩
theorem wd_520 : Cond.code ⟨"LineClaimsModel", "addVariable", "(II)V"⟩ prog_7_method_6_code 4 none ∈ gW := List.mem_filter.mpr ⟨(List.mem_append_right _ (List.mem_of_getElem? (i := 520) (by decide +kernel))), by decide +kernel⟩
theorem wd_521 : Cond.methodLink "LineClaimsModel" 129 ⟨"LineClaimsModel", "workedOut", "(I)Z"⟩ ∈ gW := List.mem_filter.mpr ⟨(List.mem_append_right _ (List.mem_of_getElem? (i := 521) (by decide +kernel))), by decide +kernel⟩
theorem wd_523 : Cond.instanceMethod ⟨"LineClaimsModel", "workedOut", "(I)Z"⟩ ∈ gW := List.mem_filter.mpr ⟨(List.mem_append_right _ (List.mem_of_getElem? (i := 523) (by decide +kernel))), by decide +kernel⟩
theorem wd_524 : Cond.code ⟨"LineClaimsModel", "workedOut", "(I)Z"⟩ prog_7_method_24_code 6 (some .boolean) ∈ gW := List.mem_filter.mpr ⟨(List.mem_append_right _ (List.mem_of_getElem? (i := 524) (by decide +kernel))), by decide +kernel⟩
theorem wd_525 : Cond.methodLink "LineClaimsModel" 137 ⟨"LineClaimsModel", "isBracket", "(I)Z"⟩ ∈ gW := List.mem_filter.mpr ⟨(List.mem_append_right _ (List.mem_of_getElem? (i := 525) (by decide +kernel))), by decide +kernel⟩
theorem wd_527 : Cond.instanceMethod ⟨"LineClaimsModel", "isBracket", "(I)Z"⟩ ∈ gW := List.mem_filter.mpr ⟨(List.mem_append_right _ (List.mem_of_getElem? (i := 527) (by decide +kernel))), by decide +kernel⟩
theorem wd_528 : Cond.code ⟨"LineClaimsModel", "isBracket", "(I)Z"⟩ prog_7_method_15_code 2 (some .boolean) ∈ gW := List.mem_filter.mpr ⟨(List.mem_append_right _ (List.mem_of_getElem? (i := 528) (by decide +kernel))), by decide +kernel⟩
theorem wd_529 : Cond.methodLink "LineClaimsModel" 140 ⟨"LineClaimsModel", "bracketHolds", "(I)Z"⟩ ∈ gW := List.mem_filter.mpr ⟨(List.mem_append_right _ (List.mem_of_getElem? (i := 529) (by decide +kernel))), by decide +kernel⟩
theorem wd_531 : Cond.instanceMethod ⟨"LineClaimsModel", "bracketHolds", "(I)Z"⟩ ∈ gW := List.mem_filter.mpr ⟨(List.mem_append_right _ (List.mem_of_getElem? (i := 531) (by decide +kernel))), by decide +kernel⟩
theorem wd_532 : Cond.code ⟨"LineClaimsModel", "bracketHolds", "(I)Z"⟩ prog_7_method_16_code 3 (some .boolean) ∈ gW := List.mem_filter.mpr ⟨(List.mem_append_right _ (List.mem_of_getElem? (i := 532) (by decide +kernel))), by decide +kernel⟩
theorem wd_533 : Cond.methodLink "LineClaimsModel" 133 ⟨"LineClaimsModel", "rest", "(II)I"⟩ ∈ gW := List.mem_filter.mpr ⟨(List.mem_append_right _ (List.mem_of_getElem? (i := 533) (by decide +kernel))), by decide +kernel⟩
theorem wd_535 : Cond.instanceMethod ⟨"LineClaimsModel", "rest", "(II)I"⟩ ∈ gW := List.mem_filter.mpr ⟨(List.mem_append_right _ (List.mem_of_getElem? (i := 535) (by decide +kernel))), by decide +kernel⟩
theorem wd_536 : Cond.code ⟨"LineClaimsModel", "rest", "(II)I"⟩ prog_7_method_13_code 5 (some .int) ∈ gW := List.mem_filter.mpr ⟨(List.mem_append_right _ (List.mem_of_getElem? (i := 536) (by decide +kernel))), by decide +kernel⟩
theorem wd_537 : Cond.methodLink "LineClaimsModel" 159 ⟨"LineClaimsModel", "hasQuantifier", "(I)Z"⟩ ∈ gW := List.mem_filter.mpr ⟨(List.mem_append_right _ (List.mem_of_getElem? (i := 537) (by decide +kernel))), by decide +kernel⟩
theorem wd_539 : Cond.instanceMethod ⟨"LineClaimsModel", "hasQuantifier", "(I)Z"⟩ ∈ gW := List.mem_filter.mpr ⟨(List.mem_append_right _ (List.mem_of_getElem? (i := 539) (by decide +kernel))), by decide +kernel⟩
theorem wd_540 : Cond.code ⟨"LineClaimsModel", "hasQuantifier", "(I)Z"⟩ prog_7_method_20_code 4 (some .boolean) ∈ gW := List.mem_filter.mpr ⟨(List.mem_append_right _ (List.mem_of_getElem? (i := 540) (by decide +kernel))), by decide +kernel⟩
theorem wd_541 : Cond.methodLink "LineClaimsModel" 162 ⟨"LineClaimsModel", "middleQuantifier", "(I)Z"⟩ ∈ gW := List.mem_filter.mpr ⟨(List.mem_append_right _ (List.mem_of_getElem? (i := 541) (by decide +kernel))), by decide +kernel⟩
theorem wd_543 : Cond.instanceMethod ⟨"LineClaimsModel", "middleQuantifier", "(I)Z"⟩ ∈ gW := List.mem_filter.mpr ⟨(List.mem_append_right _ (List.mem_of_getElem? (i := 543) (by decide +kernel))), by decide +kernel⟩
theorem wd_544 : Cond.code ⟨"LineClaimsModel", "middleQuantifier", "(I)Z"⟩ prog_7_method_22_code 7 (some .boolean) ∈ gW := List.mem_filter.mpr ⟨(List.mem_append_right _ (List.mem_of_getElem? (i := 544) (by decide +kernel))), by decide +kernel⟩
theorem wd_545 : Cond.methodLink "LineClaimsModel" 156 ⟨"LineClaimsModel", "middleHolds", "(I)Z"⟩ ∈ gW := List.mem_filter.mpr ⟨(List.mem_append_right _ (List.mem_of_getElem? (i := 545) (by decide +kernel))), by decide +kernel⟩
theorem wd_547 : Cond.instanceMethod ⟨"LineClaimsModel", "middleHolds", "(I)Z"⟩ ∈ gW := List.mem_filter.mpr ⟨(List.mem_append_right _ (List.mem_of_getElem? (i := 547) (by decide +kernel))), by decide +kernel⟩
theorem wd_548 : Cond.code ⟨"LineClaimsModel", "middleHolds", "(I)Z"⟩ prog_7_method_21_code 6 (some .boolean) ∈ gW := List.mem_filter.mpr ⟨(List.mem_append_right _ (List.mem_of_getElem? (i := 548) (by decide +kernel))), by decide +kernel⟩
theorem wd_549 : Cond.methodLink "LineClaimsModel" 153 ⟨"LineClaimsModel", "lowQuantifier", "(I)Z"⟩ ∈ gW := List.mem_filter.mpr ⟨(List.mem_append_right _ (List.mem_of_getElem? (i := 549) (by decide +kernel))), by decide +kernel⟩
theorem wd_551 : Cond.instanceMethod ⟨"LineClaimsModel", "lowQuantifier", "(I)Z"⟩ ∈ gW := List.mem_filter.mpr ⟨(List.mem_append_right _ (List.mem_of_getElem? (i := 551) (by decide +kernel))), by decide +kernel⟩
theorem wd_552 : Cond.code ⟨"LineClaimsModel", "lowQuantifier", "(I)Z"⟩ prog_7_method_19_code 10 (some .boolean) ∈ gW := List.mem_filter.mpr ⟨(List.mem_append_right _ (List.mem_of_getElem? (i := 552) (by decide +kernel))), by decide +kernel⟩
theorem wd_553 : Cond.methodLink "LineClaimsModel" 147 ⟨"LineClaimsModel", "floor", "(II)I"⟩ ∈ gW := List.mem_filter.mpr ⟨(List.mem_append_right _ (List.mem_of_getElem? (i := 553) (by decide +kernel))), by decide +kernel⟩
theorem wd_554 : Cond.static ⟨"LineClaimsModel", "floor", "(II)I"⟩ ∈ gW := List.mem_filter.mpr ⟨(List.mem_append_right _ (List.mem_of_getElem? (i := 554) (by decide +kernel))), by decide +kernel⟩
theorem wd_555 : Cond.code ⟨"LineClaimsModel", "floor", "(II)I"⟩ prog_7_method_14_code 3 (some .int) ∈ gW := List.mem_filter.mpr ⟨(List.mem_append_right _ (List.mem_of_getElem? (i := 555) (by decide +kernel))), by decide +kernel⟩
theorem wd_556 : Cond.methodLink "LineClaimsModel" 150 ⟨"LineClaimsModel", "lowHolds", "(I)Z"⟩ ∈ gW := List.mem_filter.mpr ⟨(List.mem_append_right _ (List.mem_of_getElem? (i := 556) (by decide +kernel))), by decide +kernel⟩
theorem wd_558 : Cond.instanceMethod ⟨"LineClaimsModel", "lowHolds", "(I)Z"⟩ ∈ gW := List.mem_filter.mpr ⟨(List.mem_append_right _ (List.mem_of_getElem? (i := 558) (by decide +kernel))), by decide +kernel⟩
theorem wd_559 : Cond.code ⟨"LineClaimsModel", "lowHolds", "(I)Z"⟩ prog_7_method_18_code 6 (some .boolean) ∈ gW := List.mem_filter.mpr ⟨(List.mem_append_right _ (List.mem_of_getElem? (i := 559) (by decide +kernel))), by decide +kernel⟩
theorem wd_560 : Cond.methodLink "LineClaimsModel" 143 ⟨"LineClaimsModel", "joined", "(IZZ)Z"⟩ ∈ gW := List.mem_filter.mpr ⟨(List.mem_append_right _ (List.mem_of_getElem? (i := 560) (by decide +kernel))), by decide +kernel⟩
theorem wd_561 : Cond.static ⟨"LineClaimsModel", "joined", "(IZZ)Z"⟩ ∈ gW := List.mem_filter.mpr ⟨(List.mem_append_right _ (List.mem_of_getElem? (i := 561) (by decide +kernel))), by decide +kernel⟩
theorem wd_562 : Cond.code ⟨"LineClaimsModel", "joined", "(IZZ)Z"⟩ prog_7_method_17_code 3 (some .boolean) ∈ gW := List.mem_filter.mpr ⟨(List.mem_append_right _ (List.mem_of_getElem? (i := 562) (by decide +kernel))), by decide +kernel⟩
theorem wd_571 : Cond.methodLink "LineClaimsModel" 165 ⟨"LineClaimsModel", "isNear", "(I)Z"⟩ ∈ gW := List.mem_filter.mpr ⟨(List.mem_append_right _ (List.mem_of_getElem? (i := 571) (by decide +kernel))), by decide +kernel⟩
theorem wd_572 : Cond.static ⟨"LineClaimsModel", "isNear", "(I)Z"⟩ ∈ gW := List.mem_filter.mpr ⟨(List.mem_append_right _ (List.mem_of_getElem? (i := 572) (by decide +kernel))), by decide +kernel⟩
theorem wd_573 : Cond.code ⟨"LineClaimsModel", "isNear", "(I)Z"⟩ prog_7_method_26_code 1 (some .boolean) ∈ gW := List.mem_filter.mpr ⟨(List.mem_append_right _ (List.mem_of_getElem? (i := 573) (by decide +kernel))), by decide +kernel⟩
theorem wd_574 : Cond.methodLink "LineClaimsModel" 168 ⟨"LineClaimsModel", "isSo", "(I)Z"⟩ ∈ gW := List.mem_filter.mpr ⟨(List.mem_append_right _ (List.mem_of_getElem? (i := 574) (by decide +kernel))), by decide +kernel⟩
theorem wd_576 : Cond.instanceMethod ⟨"LineClaimsModel", "isSo", "(I)Z"⟩ ∈ gW := List.mem_filter.mpr ⟨(List.mem_append_right _ (List.mem_of_getElem? (i := 576) (by decide +kernel))), by decide +kernel⟩
theorem wd_577 : Cond.code ⟨"LineClaimsModel", "isSo", "(I)Z"⟩ prog_7_method_23_code 2 (some .boolean) ∈ gW := List.mem_filter.mpr ⟨(List.mem_append_right _ (List.mem_of_getElem? (i := 577) (by decide +kernel))), by decide +kernel⟩
theorem wd_582 : Cond.methodLink "LineClaimsModel" 171 ⟨"LineClaimsModel", "many", "(IIZ)I"⟩ ∈ gW := List.mem_filter.mpr ⟨(List.mem_append_right _ (List.mem_of_getElem? (i := 582) (by decide +kernel))), by decide +kernel⟩
theorem wd_584 : Cond.instanceMethod ⟨"LineClaimsModel", "many", "(IIZ)I"⟩ ∈ gW := List.mem_filter.mpr ⟨(List.mem_append_right _ (List.mem_of_getElem? (i := 584) (by decide +kernel))), by decide +kernel⟩
theorem wd_585 : Cond.code ⟨"LineClaimsModel", "many", "(IIZ)I"⟩ prog_7_method_28_code 6 (some .int) ∈ gW := List.mem_filter.mpr ⟨(List.mem_append_right _ (List.mem_of_getElem? (i := 585) (by decide +kernel))), by decide +kernel⟩
theorem wd_594 : Cond.constant "LineClaimsModel" 175 1000000 ∈ gW := List.mem_filter.mpr ⟨(List.mem_append_right _ (List.mem_of_getElem? (i := 594) (by decide +kernel))), by decide +kernel⟩
theorem wd_599 : Cond.constant "LineClaimsModel" 176 (-1000000) ∈ gW := List.mem_filter.mpr ⟨(List.mem_append_right _ (List.mem_of_getElem? (i := 599) (by decide +kernel))), by decide +kernel⟩
theorem ws_0 : Cond.selects "LineClaims$Reader" ⟨"LineClaims$Reader", "readClaim", "(II)Z"⟩ ⟨"LineClaims$Reader", "readClaim", "(II)Z"⟩ ∈ gW := List.mem_filter.mpr ⟨(List.mem_append_left _ (List.mem_of_getElem? (i := 0) (by decide +kernel))), by decide +kernel⟩
theorem ws_1 : Cond.selects "LineClaims$Reader" ⟨"LineClaims$Reader", "mark", "()I"⟩ ⟨"LineClaims$Reader", "mark", "()I"⟩ ∈ gW := List.mem_filter.mpr ⟨(List.mem_append_left _ (List.mem_of_getElem? (i := 1) (by decide +kernel))), by decide +kernel⟩
theorem ws_2 : Cond.selects "LineClaims$Reader" ⟨"LineClaims$Reader", "readBracket", "(I)Z"⟩ ⟨"LineClaims$Reader", "readBracket", "(I)Z"⟩ ∈ gW := List.mem_filter.mpr ⟨(List.mem_append_left _ (List.mem_of_getElem? (i := 2) (by decide +kernel))), by decide +kernel⟩
theorem ws_3 : Cond.selects "LineClaims$Reader" ⟨"LineClaims$Reader", "begin", "()I"⟩ ⟨"LineClaims$Reader", "begin", "()I"⟩ ∈ gW := List.mem_filter.mpr ⟨(List.mem_append_left _ (List.mem_of_getElem? (i := 3) (by decide +kernel))), by decide +kernel⟩
theorem ws_4 : Cond.selects "LineClaims$Reader" ⟨"LineClaims$Reader", "isDivisor", "()Z"⟩ ⟨"LineClaims$Reader", "isDivisor", "()Z"⟩ ∈ gW := List.mem_filter.mpr ⟨(List.mem_append_left _ (List.mem_of_getElem? (i := 4) (by decide +kernel))), by decide +kernel⟩
theorem ws_5 : Cond.selects "LineClaims$Claims" ⟨"LineClaims$Claims", "has", "(I)Z"⟩ ⟨"LineClaims$Claims", "has", "(I)Z"⟩ ∈ gW := List.mem_filter.mpr ⟨(List.mem_append_left _ (List.mem_of_getElem? (i := 5) (by decide +kernel))), by decide +kernel⟩
theorem ws_6 : Cond.selects "LineClaims$Reader" ⟨"LineClaims$Reader", "readSum", "(III)Z"⟩ ⟨"LineClaims$Reader", "readSum", "(III)Z"⟩ ∈ gW := List.mem_filter.mpr ⟨(List.mem_append_left _ (List.mem_of_getElem? (i := 6) (by decide +kernel))), by decide +kernel⟩
theorem ws_7 : Cond.selects "LineClaims$Reader" ⟨"LineClaims$Reader", "readPart", "(III)Z"⟩ ⟨"LineClaims$Reader", "readPart", "(III)Z"⟩ ∈ gW := List.mem_filter.mpr ⟨(List.mem_append_left _ (List.mem_of_getElem? (i := 7) (by decide +kernel))), by decide +kernel⟩
theorem ws_8 : Cond.selects "LineClaims$Reader" ⟨"LineClaims$Reader", "readPair", "(II)Z"⟩ ⟨"LineClaims$Reader", "readPair", "(II)Z"⟩ ∈ gW := List.mem_filter.mpr ⟨(List.mem_append_left _ (List.mem_of_getElem? (i := 8) (by decide +kernel))), by decide +kernel⟩
theorem ws_9 : Cond.selects "LineClaims$Reader" ⟨"LineClaims$Reader", "readQuantified", "(II)Z"⟩ ⟨"LineClaims$Reader", "readQuantified", "(II)Z"⟩ ∈ gW := List.mem_filter.mpr ⟨(List.mem_append_left _ (List.mem_of_getElem? (i := 9) (by decide +kernel))), by decide +kernel⟩
theorem ws_10 : Cond.selects "LineClaims$Claims" ⟨"LineClaims$Claims", "openOf", "(I)I"⟩ ⟨"LineClaims$Claims", "openOf", "(I)I"⟩ ∈ gW := List.mem_filter.mpr ⟨(List.mem_append_left _ (List.mem_of_getElem? (i := 10) (by decide +kernel))), by decide +kernel⟩
theorem ws_11 : Cond.selects "LineClaims$Claims" ⟨"LineClaims$Claims", "pairWord", "(III)J"⟩ ⟨"LineClaims$Claims", "pairWord", "(III)J"⟩ ∈ gW := List.mem_filter.mpr ⟨(List.mem_append_left _ (List.mem_of_getElem? (i := 11) (by decide +kernel))), by decide +kernel⟩
theorem ws_12 : Cond.selects "LineClaims$Claims" ⟨"LineClaims$Claims", "quantifiedWord", "(III)J"⟩ ⟨"LineClaims$Claims", "quantifiedWord", "(III)J"⟩ ∈ gW := List.mem_filter.mpr ⟨(List.mem_append_left _ (List.mem_of_getElem? (i := 12) (by decide +kernel))), by decide +kernel⟩
theorem ws_13 : Cond.selects "LineClaims$Claims" ⟨"LineClaims$Claims", "isSo", "(III)Z"⟩ ⟨"LineClaims$Claims", "isSo", "(III)Z"⟩ ∈ gW := List.mem_filter.mpr ⟨(List.mem_append_left _ (List.mem_of_getElem? (i := 13) (by decide +kernel))), by decide +kernel⟩
theorem ws_14 : Cond.selects "LineClaims$Claims" ⟨"LineClaims$Claims", "factorOf", "(II)I"⟩ ⟨"LineClaims$Claims", "factorOf", "(II)I"⟩ ∈ gW := List.mem_filter.mpr ⟨(List.mem_append_left _ (List.mem_of_getElem? (i := 14) (by decide +kernel))), by decide +kernel⟩
theorem ws_15 : Cond.selects "LineClaims$Claims" ⟨"LineClaims$Claims", "sumAt", "(III)I"⟩ ⟨"LineClaims$Claims", "sumAt", "(III)I"⟩ ∈ gW := List.mem_filter.mpr ⟨(List.mem_append_left _ (List.mem_of_getElem? (i := 15) (by decide +kernel))), by decide +kernel⟩
theorem ws_16 : Cond.selects "LineClaimsModel" ⟨"LineClaimsModel", "readClaims", "()V"⟩ ⟨"LineClaimsModel", "readClaims", "()V"⟩ ∈ gW := List.mem_filter.mpr ⟨(List.mem_append_left _ (List.mem_of_getElem? (i := 16) (by decide +kernel))), by decide +kernel⟩
theorem ws_17 : Cond.selects "LineClaimsModel" ⟨"LineClaimsModel", "look", "()I"⟩ ⟨"LineClaimsModel", "look", "()I"⟩ ∈ gW := List.mem_filter.mpr ⟨(List.mem_append_left _ (List.mem_of_getElem? (i := 17) (by decide +kernel))), by decide +kernel⟩
theorem ws_18 : Cond.selects "LineClaimsModel" ⟨"LineClaimsModel", "fail", "()V"⟩ ⟨"LineClaimsModel", "fail", "()V"⟩ ∈ gW := List.mem_filter.mpr ⟨(List.mem_append_left _ (List.mem_of_getElem? (i := 18) (by decide +kernel))), by decide +kernel⟩
theorem ws_19 : Cond.selects "LineClaimsModel" ⟨"LineClaimsModel", "readBracket", "(I)V"⟩ ⟨"LineClaimsModel", "readBracket", "(I)V"⟩ ∈ gW := List.mem_filter.mpr ⟨(List.mem_append_left _ (List.mem_of_getElem? (i := 19) (by decide +kernel))), by decide +kernel⟩
theorem ws_20 : Cond.selects "LineClaimsModel" ⟨"LineClaimsModel", "isDivisor", "()Z"⟩ ⟨"LineClaimsModel", "isDivisor", "()Z"⟩ ∈ gW := List.mem_filter.mpr ⟨(List.mem_append_left _ (List.mem_of_getElem? (i := 20) (by decide +kernel))), by decide +kernel⟩
theorem ws_21 : Cond.selects "LineClaimsModel" ⟨"LineClaimsModel", "readSum", "(II)V"⟩ ⟨"LineClaimsModel", "readSum", "(II)V"⟩ ∈ gW := List.mem_filter.mpr ⟨(List.mem_append_left _ (List.mem_of_getElem? (i := 21) (by decide +kernel))), by decide +kernel⟩
theorem ws_22 : Cond.selects "LineClaimsModel" ⟨"LineClaimsModel", "readPart", "(II)V"⟩ ⟨"LineClaimsModel", "readPart", "(II)V"⟩ ∈ gW := List.mem_filter.mpr ⟨(List.mem_append_left _ (List.mem_of_getElem? (i := 22) (by decide +kernel))), by decide +kernel⟩
theorem ws_23 : Cond.selects "LineClaimsModel" ⟨"LineClaimsModel", "addVariable", "(II)V"⟩ ⟨"LineClaimsModel", "addVariable", "(II)V"⟩ ∈ gW := List.mem_filter.mpr ⟨(List.mem_append_left _ (List.mem_of_getElem? (i := 23) (by decide +kernel))), by decide +kernel⟩
theorem ws_24 : Cond.selects "LineClaimsModel" ⟨"LineClaimsModel", "workedOut", "(I)Z"⟩ ⟨"LineClaimsModel", "workedOut", "(I)Z"⟩ ∈ gW := List.mem_filter.mpr ⟨(List.mem_append_left _ (List.mem_of_getElem? (i := 24) (by decide +kernel))), by decide +kernel⟩
theorem ws_25 : Cond.selects "LineClaimsModel" ⟨"LineClaimsModel", "isBracket", "(I)Z"⟩ ⟨"LineClaimsModel", "isBracket", "(I)Z"⟩ ∈ gW := List.mem_filter.mpr ⟨(List.mem_append_left _ (List.mem_of_getElem? (i := 25) (by decide +kernel))), by decide +kernel⟩
theorem ws_26 : Cond.selects "LineClaimsModel" ⟨"LineClaimsModel", "bracketHolds", "(I)Z"⟩ ⟨"LineClaimsModel", "bracketHolds", "(I)Z"⟩ ∈ gW := List.mem_filter.mpr ⟨(List.mem_append_left _ (List.mem_of_getElem? (i := 26) (by decide +kernel))), by decide +kernel⟩
theorem ws_27 : Cond.selects "LineClaimsModel" ⟨"LineClaimsModel", "rest", "(II)I"⟩ ⟨"LineClaimsModel", "rest", "(II)I"⟩ ∈ gW := List.mem_filter.mpr ⟨(List.mem_append_left _ (List.mem_of_getElem? (i := 27) (by decide +kernel))), by decide +kernel⟩
theorem ws_28 : Cond.selects "LineClaimsModel" ⟨"LineClaimsModel", "hasQuantifier", "(I)Z"⟩ ⟨"LineClaimsModel", "hasQuantifier", "(I)Z"⟩ ∈ gW := List.mem_filter.mpr ⟨(List.mem_append_left _ (List.mem_of_getElem? (i := 28) (by decide +kernel))), by decide +kernel⟩
theorem ws_29 : Cond.selects "LineClaimsModel" ⟨"LineClaimsModel", "middleQuantifier", "(I)Z"⟩ ⟨"LineClaimsModel", "middleQuantifier", "(I)Z"⟩ ∈ gW := List.mem_filter.mpr ⟨(List.mem_append_left _ (List.mem_of_getElem? (i := 29) (by decide +kernel))), by decide +kernel⟩
theorem ws_30 : Cond.selects "LineClaimsModel" ⟨"LineClaimsModel", "middleHolds", "(I)Z"⟩ ⟨"LineClaimsModel", "middleHolds", "(I)Z"⟩ ∈ gW := List.mem_filter.mpr ⟨(List.mem_append_left _ (List.mem_of_getElem? (i := 30) (by decide +kernel))), by decide +kernel⟩
theorem ws_31 : Cond.selects "LineClaimsModel" ⟨"LineClaimsModel", "lowQuantifier", "(I)Z"⟩ ⟨"LineClaimsModel", "lowQuantifier", "(I)Z"⟩ ∈ gW := List.mem_filter.mpr ⟨(List.mem_append_left _ (List.mem_of_getElem? (i := 31) (by decide +kernel))), by decide +kernel⟩
theorem ws_32 : Cond.selects "LineClaimsModel" ⟨"LineClaimsModel", "lowHolds", "(I)Z"⟩ ⟨"LineClaimsModel", "lowHolds", "(I)Z"⟩ ∈ gW := List.mem_filter.mpr ⟨(List.mem_append_left _ (List.mem_of_getElem? (i := 32) (by decide +kernel))), by decide +kernel⟩
theorem ws_33 : Cond.selects "LineClaimsModel" ⟨"LineClaimsModel", "isSo", "(I)Z"⟩ ⟨"LineClaimsModel", "isSo", "(I)Z"⟩ ∈ gW := List.mem_filter.mpr ⟨(List.mem_append_left _ (List.mem_of_getElem? (i := 33) (by decide +kernel))), by decide +kernel⟩
theorem ws_34 : Cond.selects "LineClaimsModel" ⟨"LineClaimsModel", "many", "(IIZ)I"⟩ ⟨"LineClaimsModel", "many", "(IIZ)I"⟩ ∈ gW := List.mem_filter.mpr ⟨(List.mem_append_left _ (List.mem_of_getElem? (i := 34) (by decide +kernel))), by decide +kernel⟩
theorem gq_L_43 : GoodIn gW (wsV R_L 43 R_T y_T_hasRoomFor w_T_hasRoomFor) := gw_V wd_124 wd_125 wd_126 wd_2 wd_127
theorem gq_L_47 : GoodIn gW (va_wsS R_L 47 y_L_byteOf w_L_byteOf) := gw_S wd_128 wd_129 wd_1 wd_130
theorem gq_L_51 : GoodIn gW (va_wsS R_L 51 y_T_allows w_T_allows) := gw_S wd_131 wd_132 wd_2 wd_133
theorem gq_L_54 : GoodIn gW (wsV R_L 54 R_T y_T_append w_T_append) := gw_V wd_134 wd_135 wd_136 wd_2 wd_137
theorem gq_R_54 : GoodIn gW (wsV R_R 54 R_T y_T_markAt w_T_markAt) := gw_V wd_162 wd_163 wd_164 wd_2 wd_165
theorem gq_R_37 : GoodIn gW (wsV R_R 37 R_R y_R_mark w_R_mark) := gw_V wd_158 wd_160 ws_1 wd_4 wd_161
theorem gq_R_73 : GoodIn gW (wsV R_R 73 R_C y_C_add w_C_add) := gw_V wd_174 wd_175 wd_176 wd_3 wd_177
theorem gq_C_40 : GoodIn gW (wsV R_C 40 R_C y_C_has w_C_has) := gw_V wd_186 wd_188 ws_5 wd_3 wd_189
theorem gq_R_106 : GoodIn gW (va_wsS R_R 106 y_R_digitOf w_R_digitOf) := gw_S wd_198 wd_199 wd_4 wd_200
theorem gq_R_80 : GoodIn gW (va_wsS R_R 80 y_R_variableOf w_R_variableOf) := gw_S wd_205 wd_206 wd_4 wd_207
theorem gq_R_109 : GoodIn gW (wsV R_R 109 R_C y_C_addNumber w_C_addNumber) := gw_V wd_201 wd_202 wd_203 wd_3 wd_204
theorem gq_R_112 : GoodIn gW (wsV R_R 112 R_C y_C_addFactor w_C_addFactor) := gw_V wd_208 wd_209 wd_210 wd_3 wd_211
theorem gq_R_103 : GoodIn gW (wsV R_R 103 R_R y_R_readPart w_R_readPart) := gw_V wd_194 wd_196 ws_7 wd_4 wd_197
theorem gq_C_44 : GoodIn gW (va_wsS R_C 44 y_J_abs w_J_abs) := gw_S wd_220 wd_221 wd_7 wd_222
theorem gq_R_64 : GoodIn gW (wsV R_R 64 R_R y_R_begin w_R_begin) := gw_V wd_170 wd_172 ws_3 wd_4 wd_173
theorem gq_R_87 : GoodIn gW (wsV R_R 87 R_R y_R_isDivisor w_R_isDivisor) := gw_V wd_178 wd_180 ws_4 wd_4 wd_181
theorem gq_R_93 : GoodIn gW (wsV R_R 93 R_R y_R_readSum w_R_readSum) := gw_V wd_190 wd_192 ws_6 wd_4 wd_193
theorem gq_R_90 : GoodIn gW (wsV R_R 90 R_C y_C_putDivisor w_C_putDivisor) := gw_V wd_182 wd_183 wd_184 wd_3 wd_185
theorem gq_R_97 : GoodIn gW (wsV R_R 97 R_C y_C_putKind w_C_putKind) := gw_V wd_212 wd_213 wd_214 wd_3 wd_215
theorem gq_R_100 : GoodIn gW (wsV R_R 100 R_C y_C_isWithin w_C_isWithin) := gw_V wd_216 wd_217 wd_218 wd_3 wd_219
theorem gq_R_33 : GoodIn gW (wsV R_R 33 R_R y_R_readClaim w_R_readClaim) := gw_V wd_150 wd_152 ws_0 wd_4 wd_153
theorem gq_R_76 : GoodIn gW (wsV R_R 76 R_C y_C_putSecond w_C_putSecond) := gw_V wd_227 wd_228 wd_229 wd_3 wd_230
theorem gq_R_83 : GoodIn gW (wsV R_R 83 R_C y_C_putVariable w_C_putVariable) := gw_V wd_235 wd_236 wd_237 wd_3 wd_238
theorem gq_R_57 : GoodIn gW (wsV R_R 57 R_C y_C_isFull w_C_isFull) := gw_V wd_154 wd_155 wd_156 wd_3 wd_157
theorem gq_R_67 : GoodIn gW (wsV R_R 67 R_R y_R_readPair w_R_readPair) := gw_V wd_223 wd_225 ws_8 wd_4 wd_226
theorem gq_R_70 : GoodIn gW (wsV R_R 70 R_R y_R_readQuantified w_R_readQuantified) := gw_V wd_231 wd_233 ws_9 wd_4 wd_234
theorem gq_R_61 : GoodIn gW (wsV R_R 61 R_R y_R_readBracket w_R_readBracket) := gw_V wd_166 wd_168 ws_2 wd_4 wd_169
theorem gq_C_50 : GoodIn gW (wsV R_C 50 R_C y_C_openOf w_C_openOf) := gw_V wd_243 wd_245 ws_10 wd_3 wd_246
theorem gq_R_28 : GoodIn gW (wsV R_R 28 R_C y_C_clear w_C_clear) := gw_V wd_146 wd_147 wd_148 wd_3 wd_149
theorem gq_R_41 : GoodIn gW (wsV R_R 41 R_C y_C_findOpen w_C_findOpen) := gw_V wd_239 wd_240 wd_241 wd_3 wd_242
theorem gq_R_44 : GoodIn gW (wsV R_R 44 R_C y_C_isOpen w_C_isOpen) := gw_V wd_247 wd_248 wd_249 wd_3 wd_250
theorem gq_R_48 : GoodIn gW (wsV R_R 48 R_T y_T_placeOf w_T_placeOf) := gw_V wd_259 wd_260 wd_261 wd_2 wd_262
theorem gq_C_53 : GoodIn gW (wsV R_C 53 R_C y_C_word w_C_word) := gw_V wd_276 wd_273 wd_274 wd_3 wd_275
theorem gq_C_83 : GoodIn gW (wsV R_C 83 R_C y_C_isOpen w_C_isOpen) := gw_V wd_286 wd_248 wd_249 wd_3 wd_250
theorem gq_C_88 : GoodIn gW (wsV R_C 88 R_C y_C_isSo w_C_isSo) := gw_V wd_287 wd_289 ws_13 wd_3 wd_290
theorem gq_C_92 : GoodIn gW (va_wsS R_C 92 y_J_floorDiv w_J_floorDiv) := gw_S wd_302 wd_303 wd_7 wd_304
theorem gq_C_95 : GoodIn gW (va_wsS R_C 95 y_C_lowBits w_C_lowBits) := gw_S wd_305 wd_306 wd_3 wd_307
theorem gq_C_65 : GoodIn gW (wsV R_C 65 R_C y_C_factorOf w_C_factorOf) := gw_V wd_291 wd_293 ws_14 wd_3 wd_294
theorem gq_C_69 : GoodIn gW (wsV R_C 69 R_C y_C_sumAt w_C_sumAt) := gw_V wd_295 wd_297 ws_15 wd_3 wd_298
theorem gq_C_73 : GoodIn gW (va_wsS R_C 73 y_C_belowWord w_C_belowWord) := gw_S wd_299 wd_300 wd_3 wd_301
theorem gq_C_77 : GoodIn gW (va_wsS R_C 77 y_C_equalWord w_C_equalWord) := gw_S wd_308 wd_309 wd_3 wd_310
theorem gq_C_80 : GoodIn gW (va_wsS R_C 80 y_C_dividesWord w_C_dividesWord) := gw_S wd_311 wd_312 wd_3 wd_313
theorem gq_C_62 : GoodIn gW (wsV R_C 62 R_C y_C_quantifiedWord w_C_quantifiedWord) := gw_V wd_282 wd_284 ws_12 wd_3 wd_285
theorem gq_C_59 : GoodIn gW (wsV R_C 59 R_C y_C_pairWord w_C_pairWord) := gw_V wd_278 wd_280 ws_11 wd_3 wd_281
theorem gq_W_19 : GoodIn gW (wsV R_W 19 R_C y_C_word w_C_word) := gw_V wd_272 wd_273 wd_274 wd_3 wd_275
theorem gq_L_58 : GoodIn gW (wsV R_L 58 R_R y_R_readWhole w_R_readWhole) := gw_V wd_142 wd_143 wd_144 wd_4 wd_145
theorem gq_L_66 : GoodIn gW (wsV R_L 66 R_R y_R_faultPlace w_R_faultPlace) := gw_V wd_255 wd_256 wd_257 wd_4 wd_258
theorem gq_L_62 : GoodIn gW (wsV R_L 62 R_R y_R_bracketsRead w_R_bracketsRead) := gw_V wd_251 wd_252 wd_253 wd_4 wd_254
theorem gq_L_69 : GoodIn gW (wsV R_L 69 R_T y_T_clear w_T_clear) := gw_V wd_263 wd_264 wd_265 wd_2 wd_266
theorem gq_L_72 : GoodIn gW (wsV R_L 72 R_C y_C_isOpen w_C_isOpen) := gw_V wd_267 wd_248 wd_249 wd_3 wd_250
theorem gq_L_75 : GoodIn gW (wsV R_L 75 R_W y_W_fill w_W_fill) := gw_V wd_268 wd_269 wd_270 wd_5 wd_271
theorem gq_W_27 : GoodIn gW (va_wsS R_W 27 y_J_floorMod w_J_floorMod) := gw_S wd_334 wd_335 wd_7 wd_336
theorem gq_W_23 : GoodIn gW (va_wsS R_W 23 y_W_alike w_W_alike) := gw_S wd_331 wd_332 wd_5 wd_333
theorem gq_L_79 : GoodIn gW (va_wsS R_L 79 y_L_isNear w_L_isNear) := gw_S wd_324 wd_325 wd_1 wd_326
theorem gq_L_82 : GoodIn gW (wsV R_L 82 R_W y_W_has w_W_has) := gw_V wd_327 wd_328 wd_329 wd_5 wd_330
theorem gq_L_85 : GoodIn gW (wsV R_L 85 R_W y_W_hasOne w_W_hasOne) := gw_V wd_341 wd_342 wd_343 wd_5 wd_344
theorem gq_L_88 : GoodIn gW (wsV R_L 88 R_W y_W_hasEach w_W_hasEach) := gw_V wd_349 wd_350 wd_351 wd_5 wd_352
theorem gq_L_92 : GoodIn gW (va_wsS R_L 92 y_J_max w_J_max) := gw_S wd_358 wd_359 wd_7 wd_360
theorem gq_L_98 : GoodIn gW (va_wsS R_L 98 y_J_min w_J_min) := gw_S wd_366 wd_367 wd_7 wd_368
theorem gq_W_33 : GoodIn gW (wsV R_W 33 R_W y_W_has w_W_has) := gw_V wd_385 wd_328 wd_329 wd_5 wd_330
theorem gq_L_101 : GoodIn gW (wsV R_L 101 R_W y_W_repeatsAfter w_W_repeatsAfter) := gw_V wd_381 wd_382 wd_383 wd_5 wd_384
theorem gq_M_70 : GoodIn gW (va_wsS R_M 70 y_M_in w_M_in) := gw_S wd_482 wd_483 wd_6 wd_484
theorem gq_M_83 : GoodIn gW (wsV R_M 83 R_M y_M_look w_M_look) := gw_V wd_493 wd_495 ws_17 wd_6 wd_496
theorem gq_M_90 : GoodIn gW (wsV R_M 90 R_M y_M_fail w_M_fail) := gw_V wd_497 wd_499 ws_18 wd_6 wd_500
theorem gq_M_96 : GoodIn gW (wsV R_M 96 R_M y_M_addVariable w_M_addVariable) := gw_V wd_517 wd_519 ws_23 wd_6 wd_520
theorem gq_M_100 : GoodIn gW (wsV R_M 100 R_M y_M_readPart w_M_readPart) := gw_V wd_513 wd_515 ws_22 wd_6 wd_516
theorem gq_M_106 : GoodIn gW (wsV R_M 106 R_M y_M_isDivisor w_M_isDivisor) := gw_V wd_505 wd_507 ws_20 wd_6 wd_508
theorem gq_M_110 : GoodIn gW (wsV R_M 110 R_M y_M_readSum w_M_readSum) := gw_V wd_509 wd_511 ws_21 wd_6 wd_512
theorem gq_M_119 : GoodIn gW (wsV R_M 119 R_M y_M_readBracket w_M_readBracket) := gw_V wd_501 wd_503 ws_19 wd_6 wd_504
theorem gq_M_133 : GoodIn gW (wsV R_M 133 R_M y_M_rest w_M_rest) := gw_V wd_533 wd_535 ws_27 wd_6 wd_536
theorem gq_M_137 : GoodIn gW (wsV R_M 137 R_M y_M_isBracket w_M_isBracket) := gw_V wd_525 wd_527 ws_25 wd_6 wd_528
theorem gq_M_140 : GoodIn gW (wsV R_M 140 R_M y_M_bracketHolds w_M_bracketHolds) := gw_V wd_529 wd_531 ws_26 wd_6 wd_532
theorem gq_M_143 : GoodIn gW (va_wsS R_M 143 y_M_joined w_M_joined) := gw_S wd_560 wd_561 wd_6 wd_562
theorem gq_M_147 : GoodIn gW (va_wsS R_M 147 y_M_floor w_M_floor) := gw_S wd_553 wd_554 wd_6 wd_555
theorem gq_M_150 : GoodIn gW (wsV R_M 150 R_M y_M_lowHolds w_M_lowHolds) := gw_V wd_556 wd_558 ws_32 wd_6 wd_559
theorem gq_M_153 : GoodIn gW (wsV R_M 153 R_M y_M_lowQuantifier w_M_lowQuantifier) := gw_V wd_549 wd_551 ws_31 wd_6 wd_552
theorem gq_M_156 : GoodIn gW (wsV R_M 156 R_M y_M_middleHolds w_M_middleHolds) := gw_V wd_545 wd_547 ws_30 wd_6 wd_548
theorem gq_M_159 : GoodIn gW (wsV R_M 159 R_M y_M_hasQuantifier w_M_hasQuantifier) := gw_V wd_537 wd_539 ws_28 wd_6 wd_540
theorem gq_M_162 : GoodIn gW (wsV R_M 162 R_M y_M_middleQuantifier w_M_middleQuantifier) := gw_V wd_541 wd_543 ws_29 wd_6 wd_544
theorem gq_M_123 : GoodIn gW (wsV R_M 123 R_M y_M_readClaims w_M_readClaims) := gw_V wd_489 wd_491 ws_16 wd_6 wd_492
theorem gq_M_129 : GoodIn gW (wsV R_M 129 R_M y_M_workedOut w_M_workedOut) := gw_V wd_521 wd_523 ws_24 wd_6 wd_524
theorem gq_M_165 : GoodIn gW (va_wsS R_M 165 y_M_isNear w_M_isNear) := gw_S wd_571 wd_572 wd_6 wd_573
theorem gq_M_168 : GoodIn gW (wsV R_M 168 R_M y_M_isSo w_M_isSo) := gw_V wd_574 wd_576 ws_33 wd_6 wd_577
theorem gq_M_171 : GoodIn gW (wsV R_M 171 R_M y_M_many w_M_many) := gw_V wd_582 wd_584 ws_34 wd_6 wd_585
end
section
theorem d_L_init_0 : decode c0_L_init 0 = .ok (.aload_n 0, 1) := by decide +kernel
theorem d_L_init_1 : decode c0_L_init 1 = .ok (.invokespecial 1, 3) := by decide +kernel
theorem d_L_init_4 : decode c0_L_init 4 = .ok (.aload_n 0, 1) := by decide +kernel
theorem d_L_init_5 : decode c0_L_init 5 = .ok (.new 7, 3) := by decide +kernel
theorem d_L_init_8 : decode c0_L_init 8 = .ok (.dup, 1) := by decide +kernel
theorem d_L_init_9 : decode c0_L_init 9 = .ok (.invokespecial 9, 3) := by decide +kernel
theorem d_L_init_12 : decode c0_L_init 12 = .ok (.putfield 10, 3) := by decide +kernel
theorem d_L_init_15 : decode c0_L_init 15 = .ok (.aload_n 0, 1) := by decide +kernel
theorem d_L_init_16 : decode c0_L_init 16 = .ok (.new 16, 3) := by decide +kernel
theorem d_L_init_19 : decode c0_L_init 19 = .ok (.dup, 1) := by decide +kernel
theorem d_L_init_20 : decode c0_L_init 20 = .ok (.invokespecial 18, 3) := by decide +kernel
theorem d_L_init_23 : decode c0_L_init 23 = .ok (.putfield 19, 3) := by decide +kernel
theorem d_L_init_26 : decode c0_L_init 26 = .ok (.aload_n 0, 1) := by decide +kernel
theorem d_L_init_27 : decode c0_L_init 27 = .ok (.new 23, 3) := by decide +kernel
theorem d_L_init_30 : decode c0_L_init 30 = .ok (.dup, 1) := by decide +kernel
theorem d_L_init_31 : decode c0_L_init 31 = .ok (.aload_n 0, 1) := by decide +kernel
theorem d_L_init_32 : decode c0_L_init 32 = .ok (.getfield 10, 3) := by decide +kernel
theorem d_L_init_35 : decode c0_L_init 35 = .ok (.aload_n 0, 1) := by decide +kernel
theorem d_L_init_36 : decode c0_L_init 36 = .ok (.getfield 19, 3) := by decide +kernel
theorem d_L_init_39 : decode c0_L_init 39 = .ok (.invokespecial 25, 3) := by decide +kernel
theorem d_L_init_42 : decode c0_L_init 42 = .ok (.putfield 28, 3) := by decide +kernel
theorem d_L_init_45 : decode c0_L_init 45 = .ok (.aload_n 0, 1) := by decide +kernel
theorem d_L_init_46 : decode c0_L_init 46 = .ok (.new 32, 3) := by decide +kernel
theorem d_L_init_49 : decode c0_L_init 49 = .ok (.dup, 1) := by decide +kernel
theorem d_L_init_50 : decode c0_L_init 50 = .ok (.invokespecial 34, 3) := by decide +kernel
theorem d_L_init_53 : decode c0_L_init 53 = .ok (.putfield 35, 3) := by decide +kernel
theorem d_L_init_56 : decode c0_L_init 56 = .ok (.aload_n 0, 1) := by decide +kernel
theorem d_L_init_57 : decode c0_L_init 57 = .ok (.iconst 0, 1) := by decide +kernel
theorem d_L_init_58 : decode c0_L_init 58 = .ok (.putfield 39, 3) := by decide +kernel
theorem d_L_init_61 : decode c0_L_init 61 = .ok (.return_, 1) := by decide +kernel
theorem d_T_hasRoomFor_0 : decode c0_T_hasRoomFor 0 = .ok (.aload_n 0, 1) := by decide +kernel
theorem d_T_hasRoomFor_1 : decode c0_T_hasRoomFor 1 = .ok (.getfield 20, 3) := by decide +kernel
theorem d_T_hasRoomFor_4 : decode c0_T_hasRoomFor 4 = .ok (.iload_n 1, 1) := by decide +kernel
theorem d_T_hasRoomFor_5 : decode c0_T_hasRoomFor 5 = .ok (.iadd, 1) := by decide +kernel
theorem d_T_hasRoomFor_6 : decode c0_T_hasRoomFor 6 = .ok (.bipush 120, 2) := by decide +kernel
theorem d_T_hasRoomFor_8 : decode c0_T_hasRoomFor 8 = .ok (.if_icmp .gt 7, 3) := by decide +kernel
theorem d_T_hasRoomFor_11 : decode c0_T_hasRoomFor 11 = .ok (.iconst 1, 1) := by decide +kernel
theorem d_T_hasRoomFor_12 : decode c0_T_hasRoomFor 12 = .ok (.goto 4, 3) := by decide +kernel
theorem d_T_hasRoomFor_15 : decode c0_T_hasRoomFor 15 = .ok (.iconst 0, 1) := by decide +kernel
theorem d_T_hasRoomFor_16 : decode c0_T_hasRoomFor 16 = .ok (.ireturn, 1) := by decide +kernel
theorem d_L_byteOf_0 : decode c0_L_byteOf 0 = .ok (.iload_n 0, 1) := by decide +kernel
theorem d_L_byteOf_1 : decode c0_L_byteOf 1 = .ok (.bipush 8, 2) := by decide +kernel
theorem d_L_byteOf_3 : decode c0_L_byteOf 3 = .ok (.iload_n 1, 1) := by decide +kernel
theorem d_L_byteOf_4 : decode c0_L_byteOf 4 = .ok (.imul, 1) := by decide +kernel
theorem d_L_byteOf_5 : decode c0_L_byteOf 5 = .ok (.iushr, 1) := by decide +kernel
theorem d_L_byteOf_6 : decode c0_L_byteOf 6 = .ok (.sipush 255, 3) := by decide +kernel
theorem d_L_byteOf_9 : decode c0_L_byteOf 9 = .ok (.iand, 1) := by decide +kernel
theorem d_L_byteOf_10 : decode c0_L_byteOf 10 = .ok (.ireturn, 1) := by decide +kernel
theorem d_T_allows_0 : decode c0_T_allows 0 = .ok (.iload_n 0, 1) := by decide +kernel
theorem d_T_allows_1 : decode c0_T_allows 1 = .ok (.bipush 32, 2) := by decide +kernel
theorem d_T_allows_3 : decode c0_T_allows 3 = .ok (.if_icmp .lt 13, 3) := by decide +kernel
theorem d_T_allows_6 : decode c0_T_allows 6 = .ok (.iload_n 0, 1) := by decide +kernel
theorem d_T_allows_7 : decode c0_T_allows 7 = .ok (.bipush 126, 2) := by decide +kernel
theorem d_T_allows_9 : decode c0_T_allows 9 = .ok (.if_icmp .gt 7, 3) := by decide +kernel
theorem d_T_allows_12 : decode c0_T_allows 12 = .ok (.iconst 1, 1) := by decide +kernel
theorem d_T_allows_13 : decode c0_T_allows 13 = .ok (.goto 4, 3) := by decide +kernel
theorem d_T_allows_16 : decode c0_T_allows 16 = .ok (.iconst 0, 1) := by decide +kernel
theorem d_T_allows_17 : decode c0_T_allows 17 = .ok (.ireturn, 1) := by decide +kernel
theorem d_T_append_0 : decode c0_T_append 0 = .ok (.aload_n 0, 1) := by decide +kernel
theorem d_T_append_1 : decode c0_T_append 1 = .ok (.getfield 20, 3) := by decide +kernel
theorem d_T_append_4 : decode c0_T_append 4 = .ok (.bipush 120, 2) := by decide +kernel
theorem d_T_append_6 : decode c0_T_append 6 = .ok (.if_icmp .lt 4, 3) := by decide +kernel
theorem d_T_append_9 : decode c0_T_append 9 = .ok (.return_, 1) := by decide +kernel
theorem d_T_append_10 : decode c0_T_append 10 = .ok (.iload_n 1, 1) := by decide +kernel
theorem d_T_append_11 : decode c0_T_append 11 = .ok (.bipush 32, 2) := by decide +kernel
theorem d_T_append_13 : decode c0_T_append 13 = .ok (.if_icmp .eq 36, 3) := by decide +kernel
theorem d_T_append_16 : decode c0_T_append 16 = .ok (.aload_n 0, 1) := by decide +kernel
theorem d_T_append_17 : decode c0_T_append 17 = .ok (.getfield 9, 3) := by decide +kernel
theorem d_T_append_20 : decode c0_T_append 20 = .ok (.aload_n 0, 1) := by decide +kernel
theorem d_T_append_21 : decode c0_T_append 21 = .ok (.getfield 16, 3) := by decide +kernel
theorem d_T_append_24 : decode c0_T_append 24 = .ok (.iload_n 1, 1) := by decide +kernel
theorem d_T_append_25 : decode c0_T_append 25 = .ok (.iastore, 1) := by decide +kernel
theorem d_T_append_26 : decode c0_T_append 26 = .ok (.aload_n 0, 1) := by decide +kernel
theorem d_T_append_27 : decode c0_T_append 27 = .ok (.getfield 13, 3) := by decide +kernel
theorem d_T_append_30 : decode c0_T_append 30 = .ok (.aload_n 0, 1) := by decide +kernel
theorem d_T_append_31 : decode c0_T_append 31 = .ok (.getfield 16, 3) := by decide +kernel
theorem d_T_append_34 : decode c0_T_append 34 = .ok (.aload_n 0, 1) := by decide +kernel
theorem d_T_append_35 : decode c0_T_append 35 = .ok (.getfield 20, 3) := by decide +kernel
theorem d_T_append_38 : decode c0_T_append 38 = .ok (.iastore, 1) := by decide +kernel
theorem d_T_append_39 : decode c0_T_append 39 = .ok (.aload_n 0, 1) := by decide +kernel
theorem d_T_append_40 : decode c0_T_append 40 = .ok (.dup, 1) := by decide +kernel
theorem d_T_append_41 : decode c0_T_append 41 = .ok (.getfield 16, 3) := by decide +kernel
theorem d_T_append_44 : decode c0_T_append 44 = .ok (.iconst 1, 1) := by decide +kernel
theorem d_T_append_45 : decode c0_T_append 45 = .ok (.iadd, 1) := by decide +kernel
theorem d_T_append_46 : decode c0_T_append 46 = .ok (.putfield 16, 3) := by decide +kernel
theorem d_T_append_49 : decode c0_T_append 49 = .ok (.aload_n 0, 1) := by decide +kernel
theorem d_T_append_50 : decode c0_T_append 50 = .ok (.dup, 1) := by decide +kernel
theorem d_T_append_51 : decode c0_T_append 51 = .ok (.getfield 20, 3) := by decide +kernel
theorem d_T_append_54 : decode c0_T_append 54 = .ok (.iconst 1, 1) := by decide +kernel
theorem d_T_append_55 : decode c0_T_append 55 = .ok (.iadd, 1) := by decide +kernel
theorem d_T_append_56 : decode c0_T_append 56 = .ok (.putfield 20, 3) := by decide +kernel
theorem d_T_append_59 : decode c0_T_append 59 = .ok (.return_, 1) := by decide +kernel
theorem d_L_type_0 : decode c0_L_type 0 = .ok (.iload_n 2, 1) := by decide +kernel
theorem d_L_type_1 : decode c0_L_type 1 = .ok (.iconst 1, 1) := by decide +kernel
theorem d_L_type_2 : decode c0_L_type 2 = .ok (.if_icmp .lt 19, 3) := by decide +kernel
theorem d_L_type_5 : decode c0_L_type 5 = .ok (.iload_n 2, 1) := by decide +kernel
theorem d_L_type_6 : decode c0_L_type 6 = .ok (.iconst 4, 1) := by decide +kernel
theorem d_L_type_7 : decode c0_L_type 7 = .ok (.if_icmp .gt 14, 3) := by decide +kernel
theorem d_L_type_10 : decode c0_L_type 10 = .ok (.aload_n 0, 1) := by decide +kernel
theorem d_L_type_11 : decode c0_L_type 11 = .ok (.getfield 10, 3) := by decide +kernel
theorem d_L_type_14 : decode c0_L_type 14 = .ok (.iload_n 2, 1) := by decide +kernel
theorem d_L_type_15 : decode c0_L_type 15 = .ok (.invokevirtual 43, 3) := by decide +kernel
theorem d_L_type_18 : decode c0_L_type 18 = .ok (.ifCond .ne 5, 3) := by decide +kernel
theorem d_L_type_21 : decode c0_L_type 21 = .ok (.iconst 0, 1) := by decide +kernel
theorem d_L_type_22 : decode c0_L_type 22 = .ok (.ireturn, 1) := by decide +kernel
theorem d_L_type_23 : decode c0_L_type 23 = .ok (.iconst 0, 1) := by decide +kernel
theorem d_L_type_24 : decode c0_L_type 24 = .ok (.istore_n 3, 1) := by decide +kernel
theorem d_L_type_25 : decode c0_L_type 25 = .ok (.iload_n 3, 1) := by decide +kernel
theorem d_L_type_26 : decode c0_L_type 26 = .ok (.iload_n 2, 1) := by decide +kernel
theorem d_L_type_27 : decode c0_L_type 27 = .ok (.if_icmp .ge 22, 3) := by decide +kernel
theorem d_L_type_30 : decode c0_L_type 30 = .ok (.iload_n 1, 1) := by decide +kernel
theorem d_L_type_31 : decode c0_L_type 31 = .ok (.iload_n 3, 1) := by decide +kernel
theorem d_L_type_32 : decode c0_L_type 32 = .ok (.invokestatic 47, 3) := by decide +kernel
theorem d_L_type_35 : decode c0_L_type 35 = .ok (.invokestatic 51, 3) := by decide +kernel
theorem d_L_type_38 : decode c0_L_type 38 = .ok (.ifCond .ne 5, 3) := by decide +kernel
theorem d_L_type_41 : decode c0_L_type 41 = .ok (.iconst 0, 1) := by decide +kernel
theorem d_L_type_42 : decode c0_L_type 42 = .ok (.ireturn, 1) := by decide +kernel
theorem d_L_type_43 : decode c0_L_type 43 = .ok (.iinc 3 1, 3) := by decide +kernel
theorem d_L_type_46 : decode c0_L_type 46 = .ok (.goto (-21), 3) := by decide +kernel
theorem d_L_type_49 : decode c0_L_type 49 = .ok (.iload_n 2, 1) := by decide +kernel
theorem d_L_type_50 : decode c0_L_type 50 = .ok (.iconst 1, 1) := by decide +kernel
theorem d_L_type_51 : decode c0_L_type 51 = .ok (.isub, 1) := by decide +kernel
theorem d_L_type_52 : decode c0_L_type 52 = .ok (.istore_n 3, 1) := by decide +kernel
theorem d_L_type_53 : decode c0_L_type 53 = .ok (.iload_n 3, 1) := by decide +kernel
theorem d_L_type_54 : decode c0_L_type 54 = .ok (.ifCond .lt 21, 3) := by decide +kernel
theorem d_L_type_57 : decode c0_L_type 57 = .ok (.aload_n 0, 1) := by decide +kernel
theorem d_L_type_58 : decode c0_L_type 58 = .ok (.getfield 10, 3) := by decide +kernel
theorem d_L_type_61 : decode c0_L_type 61 = .ok (.iload_n 1, 1) := by decide +kernel
theorem d_L_type_62 : decode c0_L_type 62 = .ok (.iload_n 3, 1) := by decide +kernel
theorem d_L_type_63 : decode c0_L_type 63 = .ok (.invokestatic 47, 3) := by decide +kernel
theorem d_L_type_66 : decode c0_L_type 66 = .ok (.invokevirtual 54, 3) := by decide +kernel
theorem d_L_type_69 : decode c0_L_type 69 = .ok (.iinc 3 (-1), 3) := by decide +kernel
theorem d_L_type_72 : decode c0_L_type 72 = .ok (.goto (-19), 3) := by decide +kernel
theorem d_L_type_75 : decode c0_L_type 75 = .ok (.iconst 1, 1) := by decide +kernel
theorem d_L_type_76 : decode c0_L_type 76 = .ok (.ireturn, 1) := by decide +kernel
theorem d_T_markAt_0 : decode c0_T_markAt 0 = .ok (.iload_n 1, 1) := by decide +kernel
theorem d_T_markAt_1 : decode c0_T_markAt 1 = .ok (.ifCond .lt 20, 3) := by decide +kernel
theorem d_T_markAt_4 : decode c0_T_markAt 4 = .ok (.iload_n 1, 1) := by decide +kernel
theorem d_T_markAt_5 : decode c0_T_markAt 5 = .ok (.aload_n 0, 1) := by decide +kernel
theorem d_T_markAt_6 : decode c0_T_markAt 6 = .ok (.getfield 16, 3) := by decide +kernel
theorem d_T_markAt_9 : decode c0_T_markAt 9 = .ok (.if_icmp .ge 12, 3) := by decide +kernel
theorem d_T_markAt_12 : decode c0_T_markAt 12 = .ok (.aload_n 0, 1) := by decide +kernel
theorem d_T_markAt_13 : decode c0_T_markAt 13 = .ok (.getfield 9, 3) := by decide +kernel
theorem d_T_markAt_16 : decode c0_T_markAt 16 = .ok (.iload_n 1, 1) := by decide +kernel
theorem d_T_markAt_17 : decode c0_T_markAt 17 = .ok (.iaload, 1) := by decide +kernel
theorem d_T_markAt_18 : decode c0_T_markAt 18 = .ok (.goto 4, 3) := by decide +kernel
theorem d_T_markAt_21 : decode c0_T_markAt 21 = .ok (.iconst 0, 1) := by decide +kernel
theorem d_T_markAt_22 : decode c0_T_markAt 22 = .ok (.ireturn, 1) := by decide +kernel
theorem d_J_abs_0 : decode c0_J_abs 0 = .ok (.iload_n 0, 1) := by decide +kernel
theorem d_J_abs_1 : decode c0_J_abs 1 = .ok (.ifCond .ge 8, 3) := by decide +kernel
theorem d_J_abs_4 : decode c0_J_abs 4 = .ok (.iload_n 0, 1) := by decide +kernel
theorem d_J_abs_5 : decode c0_J_abs 5 = .ok (.ineg, 1) := by decide +kernel
theorem d_J_abs_6 : decode c0_J_abs 6 = .ok (.goto 4, 3) := by decide +kernel
theorem d_J_abs_9 : decode c0_J_abs 9 = .ok (.iload_n 0, 1) := by decide +kernel
theorem d_J_abs_10 : decode c0_J_abs 10 = .ok (.ireturn, 1) := by decide +kernel
theorem d_T_placeOf_0 : decode c0_T_placeOf 0 = .ok (.iload_n 1, 1) := by decide +kernel
theorem d_T_placeOf_1 : decode c0_T_placeOf 1 = .ok (.ifCond .lt 20, 3) := by decide +kernel
theorem d_T_placeOf_4 : decode c0_T_placeOf 4 = .ok (.iload_n 1, 1) := by decide +kernel
theorem d_T_placeOf_5 : decode c0_T_placeOf 5 = .ok (.aload_n 0, 1) := by decide +kernel
theorem d_T_placeOf_6 : decode c0_T_placeOf 6 = .ok (.getfield 16, 3) := by decide +kernel
theorem d_T_placeOf_9 : decode c0_T_placeOf 9 = .ok (.if_icmp .ge 12, 3) := by decide +kernel
theorem d_T_placeOf_12 : decode c0_T_placeOf 12 = .ok (.aload_n 0, 1) := by decide +kernel
theorem d_T_placeOf_13 : decode c0_T_placeOf 13 = .ok (.getfield 13, 3) := by decide +kernel
theorem d_T_placeOf_16 : decode c0_T_placeOf 16 = .ok (.iload_n 1, 1) := by decide +kernel
theorem d_T_placeOf_17 : decode c0_T_placeOf 17 = .ok (.iaload, 1) := by decide +kernel
theorem d_T_placeOf_18 : decode c0_T_placeOf 18 = .ok (.goto 7, 3) := by decide +kernel
theorem d_T_placeOf_21 : decode c0_T_placeOf 21 = .ok (.aload_n 0, 1) := by decide +kernel
theorem d_T_placeOf_22 : decode c0_T_placeOf 22 = .ok (.getfield 20, 3) := by decide +kernel
theorem d_T_placeOf_25 : decode c0_T_placeOf 25 = .ok (.ireturn, 1) := by decide +kernel
theorem d_T_clear_0 : decode c0_T_clear 0 = .ok (.aload_n 0, 1) := by decide +kernel
theorem d_T_clear_1 : decode c0_T_clear 1 = .ok (.iconst 0, 1) := by decide +kernel
theorem d_T_clear_2 : decode c0_T_clear 2 = .ok (.putfield 16, 3) := by decide +kernel
theorem d_T_clear_5 : decode c0_T_clear 5 = .ok (.aload_n 0, 1) := by decide +kernel
theorem d_T_clear_6 : decode c0_T_clear 6 = .ok (.iconst 0, 1) := by decide +kernel
theorem d_T_clear_7 : decode c0_T_clear 7 = .ok (.putfield 20, 3) := by decide +kernel
theorem d_T_clear_10 : decode c0_T_clear 10 = .ok (.return_, 1) := by decide +kernel
theorem d_J_floorDiv_0 : decode c0_J_floorDiv 0 = .ok (.iload_n 0, 1) := by decide +kernel
theorem d_J_floorDiv_1 : decode c0_J_floorDiv 1 = .ok (.iload_n 1, 1) := by decide +kernel
theorem d_J_floorDiv_2 : decode c0_J_floorDiv 2 = .ok (.idiv, 1) := by decide +kernel
theorem d_J_floorDiv_3 : decode c0_J_floorDiv 3 = .ok (.istore_n 2, 1) := by decide +kernel
theorem d_J_floorDiv_4 : decode c0_J_floorDiv 4 = .ok (.iload_n 0, 1) := by decide +kernel
theorem d_J_floorDiv_5 : decode c0_J_floorDiv 5 = .ok (.iload_n 1, 1) := by decide +kernel
theorem d_J_floorDiv_6 : decode c0_J_floorDiv 6 = .ok (.ixor, 1) := by decide +kernel
theorem d_J_floorDiv_7 : decode c0_J_floorDiv 7 = .ok (.ifCond .ge 14, 3) := by decide +kernel
theorem d_J_floorDiv_10 : decode c0_J_floorDiv 10 = .ok (.iload_n 2, 1) := by decide +kernel
theorem d_J_floorDiv_11 : decode c0_J_floorDiv 11 = .ok (.iload_n 1, 1) := by decide +kernel
theorem d_J_floorDiv_12 : decode c0_J_floorDiv 12 = .ok (.imul, 1) := by decide +kernel
theorem d_J_floorDiv_13 : decode c0_J_floorDiv 13 = .ok (.iload_n 0, 1) := by decide +kernel
theorem d_J_floorDiv_14 : decode c0_J_floorDiv 14 = .ok (.if_icmp .eq 7, 3) := by decide +kernel
theorem d_J_floorDiv_17 : decode c0_J_floorDiv 17 = .ok (.iload_n 2, 1) := by decide +kernel
theorem d_J_floorDiv_18 : decode c0_J_floorDiv 18 = .ok (.iconst 1, 1) := by decide +kernel
theorem d_J_floorDiv_19 : decode c0_J_floorDiv 19 = .ok (.isub, 1) := by decide +kernel
theorem d_J_floorDiv_20 : decode c0_J_floorDiv 20 = .ok (.ireturn, 1) := by decide +kernel
theorem d_J_floorDiv_21 : decode c0_J_floorDiv 21 = .ok (.iload_n 2, 1) := by decide +kernel
theorem d_J_floorDiv_22 : decode c0_J_floorDiv 22 = .ok (.ireturn, 1) := by decide +kernel
theorem d_W_fill_0 : decode c0_W_fill 0 = .ok (.iconst 0, 1) := by decide +kernel
theorem d_W_fill_1 : decode c0_W_fill 1 = .ok (.istore_n 3, 1) := by decide +kernel
theorem d_W_fill_2 : decode c0_W_fill 2 = .ok (.iload_n 3, 1) := by decide +kernel
theorem d_W_fill_3 : decode c0_W_fill 3 = .ok (.iconst 3, 1) := by decide +kernel
theorem d_W_fill_4 : decode c0_W_fill 4 = .ok (.if_icmp .ge 57, 3) := by decide +kernel
theorem d_W_fill_7 : decode c0_W_fill 7 = .ok (.iload_n 3, 1) := by decide +kernel
theorem d_W_fill_8 : decode c0_W_fill 8 = .ok (.ifCond .le 11, 3) := by decide +kernel
theorem d_W_fill_11 : decode c0_W_fill 11 = .ok (.iload_n 2, 1) := by decide +kernel
theorem d_W_fill_12 : decode c0_W_fill 12 = .ok (.ifCond .ne 7, 3) := by decide +kernel
theorem d_W_fill_15 : decode c0_W_fill 15 = .ok (.iconst 1, 1) := by decide +kernel
theorem d_W_fill_16 : decode c0_W_fill 16 = .ok (.goto 4, 3) := by decide +kernel
theorem d_W_fill_19 : decode c0_W_fill 19 = .ok (.iconst 0, 1) := by decide +kernel
theorem d_W_fill_20 : decode c0_W_fill 20 = .ok (.istore 4, 2) := by decide +kernel
theorem d_W_fill_22 : decode c0_W_fill 22 = .ok (.aload_n 0, 1) := by decide +kernel
theorem d_W_fill_23 : decode c0_W_fill 23 = .ok (.getfield 11, 3) := by decide +kernel
theorem d_W_fill_26 : decode c0_W_fill 26 = .ok (.iload_n 3, 1) := by decide +kernel
theorem d_W_fill_27 : decode c0_W_fill 27 = .ok (.iload 4, 2) := by decide +kernel
theorem d_W_fill_29 : decode c0_W_fill 29 = .ok (.ifCond .eq 12, 3) := by decide +kernel
theorem d_W_fill_32 : decode c0_W_fill 32 = .ok (.aload_n 0, 1) := by decide +kernel
theorem d_W_fill_33 : decode c0_W_fill 33 = .ok (.getfield 11, 3) := by decide +kernel
theorem d_W_fill_36 : decode c0_W_fill 36 = .ok (.iconst 0, 1) := by decide +kernel
theorem d_W_fill_37 : decode c0_W_fill 37 = .ok (.laload, 1) := by decide +kernel
theorem d_W_fill_38 : decode c0_W_fill 38 = .ok (.goto 16, 3) := by decide +kernel
theorem d_W_fill_41 : decode c0_W_fill 41 = .ok (.aload_n 1, 1) := by decide +kernel
theorem d_W_fill_42 : decode c0_W_fill 42 = .ok (.iconst 0, 1) := by decide +kernel
theorem d_W_fill_43 : decode c0_W_fill 43 = .ok (.iconst 0, 1) := by decide +kernel
theorem d_W_fill_44 : decode c0_W_fill 44 = .ok (.bipush (-96), 2) := by decide +kernel
theorem d_W_fill_46 : decode c0_W_fill 46 = .ok (.iload_n 3, 1) := by decide +kernel
theorem d_W_fill_47 : decode c0_W_fill 47 = .ok (.bipush 64, 2) := by decide +kernel
theorem d_W_fill_49 : decode c0_W_fill 49 = .ok (.imul, 1) := by decide +kernel
theorem d_W_fill_50 : decode c0_W_fill 50 = .ok (.iadd, 1) := by decide +kernel
theorem d_W_fill_51 : decode c0_W_fill 51 = .ok (.invokevirtual 19, 3) := by decide +kernel
theorem d_W_fill_54 : decode c0_W_fill 54 = .ok (.lastore, 1) := by decide +kernel
theorem d_W_fill_55 : decode c0_W_fill 55 = .ok (.iinc 3 1, 3) := by decide +kernel
theorem d_W_fill_58 : decode c0_W_fill 58 = .ok (.goto (-56), 3) := by decide +kernel
theorem d_W_fill_61 : decode c0_W_fill 61 = .ok (.return_, 1) := by decide +kernel
theorem d_L_take_0 : decode c0_L_take 0 = .ok (.aload_n 0, 1) := by decide +kernel
theorem d_L_take_1 : decode c0_L_take 1 = .ok (.getfield 28, 3) := by decide +kernel
theorem d_L_take_4 : decode c0_L_take 4 = .ok (.invokevirtual 58, 3) := by decide +kernel
theorem d_L_take_7 : decode c0_L_take 7 = .ok (.istore_n 1, 1) := by decide +kernel
theorem d_L_take_8 : decode c0_L_take 8 = .ok (.iload_n 1, 1) := by decide +kernel
theorem d_L_take_9 : decode c0_L_take 9 = .ok (.ifCond .eq 13, 3) := by decide +kernel
theorem d_L_take_12 : decode c0_L_take 12 = .ok (.aload_n 0, 1) := by decide +kernel
theorem d_L_take_13 : decode c0_L_take 13 = .ok (.getfield 28, 3) := by decide +kernel
theorem d_L_take_16 : decode c0_L_take 16 = .ok (.invokevirtual 62, 3) := by decide +kernel
theorem d_L_take_19 : decode c0_L_take 19 = .ok (.goto 12, 3) := by decide +kernel
theorem d_L_take_22 : decode c0_L_take 22 = .ok (.iconst (-1), 1) := by decide +kernel
theorem d_L_take_23 : decode c0_L_take 23 = .ok (.aload_n 0, 1) := by decide +kernel
theorem d_L_take_24 : decode c0_L_take 24 = .ok (.getfield 28, 3) := by decide +kernel
theorem d_L_take_27 : decode c0_L_take 27 = .ok (.invokevirtual 66, 3) := by decide +kernel
theorem d_L_take_30 : decode c0_L_take 30 = .ok (.isub, 1) := by decide +kernel
theorem d_L_take_31 : decode c0_L_take 31 = .ok (.istore_n 2, 1) := by decide +kernel
theorem d_L_take_32 : decode c0_L_take 32 = .ok (.aload_n 0, 1) := by decide +kernel
theorem d_L_take_33 : decode c0_L_take 33 = .ok (.getfield 10, 3) := by decide +kernel
theorem d_L_take_36 : decode c0_L_take 36 = .ok (.invokevirtual 69, 3) := by decide +kernel
theorem d_L_take_39 : decode c0_L_take 39 = .ok (.iload_n 1, 1) := by decide +kernel
theorem d_L_take_40 : decode c0_L_take 40 = .ok (.ifCond .eq 30, 3) := by decide +kernel
theorem d_L_take_43 : decode c0_L_take 43 = .ok (.aload_n 0, 1) := by decide +kernel
theorem d_L_take_44 : decode c0_L_take 44 = .ok (.aload_n 0, 1) := by decide +kernel
theorem d_L_take_45 : decode c0_L_take 45 = .ok (.getfield 19, 3) := by decide +kernel
theorem d_L_take_48 : decode c0_L_take 48 = .ok (.iconst 0, 1) := by decide +kernel
theorem d_L_take_49 : decode c0_L_take 49 = .ok (.invokevirtual 72, 3) := by decide +kernel
theorem d_L_take_52 : decode c0_L_take 52 = .ok (.putfield 39, 3) := by decide +kernel
theorem d_L_take_55 : decode c0_L_take 55 = .ok (.aload_n 0, 1) := by decide +kernel
theorem d_L_take_56 : decode c0_L_take 56 = .ok (.getfield 35, 3) := by decide +kernel
theorem d_L_take_59 : decode c0_L_take 59 = .ok (.aload_n 0, 1) := by decide +kernel
theorem d_L_take_60 : decode c0_L_take 60 = .ok (.getfield 19, 3) := by decide +kernel
theorem d_L_take_63 : decode c0_L_take 63 = .ok (.aload_n 0, 1) := by decide +kernel
theorem d_L_take_64 : decode c0_L_take 64 = .ok (.getfield 39, 3) := by decide +kernel
theorem d_L_take_67 : decode c0_L_take 67 = .ok (.invokevirtual 75, 3) := by decide +kernel
theorem d_L_take_70 : decode c0_L_take 70 = .ok (.iload_n 2, 1) := by decide +kernel
theorem d_L_take_71 : decode c0_L_take 71 = .ok (.ireturn, 1) := by decide +kernel
theorem d_L_free_0 : decode c0_L_free 0 = .ok (.aload_n 0, 1) := by decide +kernel
theorem d_L_free_1 : decode c0_L_free 1 = .ok (.getfield 39, 3) := by decide +kernel
theorem d_L_free_4 : decode c0_L_free 4 = .ok (.ireturn, 1) := by decide +kernel
theorem d_L_isNear_0 : decode c0_L_isNear 0 = .ok (.iload_n 0, 1) := by decide +kernel
theorem d_L_isNear_1 : decode c0_L_isNear 1 = .ok (.sipush (-1000), 3) := by decide +kernel
theorem d_L_isNear_4 : decode c0_L_isNear 4 = .ok (.if_icmp .lt 14, 3) := by decide +kernel
theorem d_L_isNear_7 : decode c0_L_isNear 7 = .ok (.iload_n 0, 1) := by decide +kernel
theorem d_L_isNear_8 : decode c0_L_isNear 8 = .ok (.sipush 1000, 3) := by decide +kernel
theorem d_L_isNear_11 : decode c0_L_isNear 11 = .ok (.if_icmp .gt 7, 3) := by decide +kernel
theorem d_L_isNear_14 : decode c0_L_isNear 14 = .ok (.iconst 1, 1) := by decide +kernel
theorem d_L_isNear_15 : decode c0_L_isNear 15 = .ok (.goto 4, 3) := by decide +kernel
theorem d_L_isNear_18 : decode c0_L_isNear 18 = .ok (.iconst 0, 1) := by decide +kernel
theorem d_L_isNear_19 : decode c0_L_isNear 19 = .ok (.ireturn, 1) := by decide +kernel
theorem d_J_floorMod_0 : decode c0_J_floorMod 0 = .ok (.iload_n 0, 1) := by decide +kernel
theorem d_J_floorMod_1 : decode c0_J_floorMod 1 = .ok (.iload_n 1, 1) := by decide +kernel
theorem d_J_floorMod_2 : decode c0_J_floorMod 2 = .ok (.irem, 1) := by decide +kernel
theorem d_J_floorMod_3 : decode c0_J_floorMod 3 = .ok (.istore_n 2, 1) := by decide +kernel
theorem d_J_floorMod_4 : decode c0_J_floorMod 4 = .ok (.iload_n 0, 1) := by decide +kernel
theorem d_J_floorMod_5 : decode c0_J_floorMod 5 = .ok (.iload_n 1, 1) := by decide +kernel
theorem d_J_floorMod_6 : decode c0_J_floorMod 6 = .ok (.ixor, 1) := by decide +kernel
theorem d_J_floorMod_7 : decode c0_J_floorMod 7 = .ok (.ifCond .ge 11, 3) := by decide +kernel
theorem d_J_floorMod_10 : decode c0_J_floorMod 10 = .ok (.iload_n 2, 1) := by decide +kernel
theorem d_J_floorMod_11 : decode c0_J_floorMod 11 = .ok (.ifCond .eq 7, 3) := by decide +kernel
theorem d_J_floorMod_14 : decode c0_J_floorMod 14 = .ok (.iload_n 2, 1) := by decide +kernel
theorem d_J_floorMod_15 : decode c0_J_floorMod 15 = .ok (.iload_n 1, 1) := by decide +kernel
theorem d_J_floorMod_16 : decode c0_J_floorMod 16 = .ok (.iadd, 1) := by decide +kernel
theorem d_J_floorMod_17 : decode c0_J_floorMod 17 = .ok (.ireturn, 1) := by decide +kernel
theorem d_J_floorMod_18 : decode c0_J_floorMod 18 = .ok (.iload_n 2, 1) := by decide +kernel
theorem d_J_floorMod_19 : decode c0_J_floorMod 19 = .ok (.ireturn, 1) := by decide +kernel
theorem d_W_alike_0 : decode c0_W_alike 0 = .ok (.iload_n 0, 1) := by decide +kernel
theorem d_W_alike_1 : decode c0_W_alike 1 = .ok (.bipush 95, 2) := by decide +kernel
theorem d_W_alike_3 : decode c0_W_alike 3 = .ok (.if_icmp .le 16, 3) := by decide +kernel
theorem d_W_alike_6 : decode c0_W_alike 6 = .ok (.bipush 95, 2) := by decide +kernel
theorem d_W_alike_8 : decode c0_W_alike 8 = .ok (.bipush 95, 2) := by decide +kernel
theorem d_W_alike_10 : decode c0_W_alike 10 = .ok (.iload_n 0, 1) := by decide +kernel
theorem d_W_alike_11 : decode c0_W_alike 11 = .ok (.isub, 1) := by decide +kernel
theorem d_W_alike_12 : decode c0_W_alike 12 = .ok (.bipush 12, 2) := by decide +kernel
theorem d_W_alike_14 : decode c0_W_alike 14 = .ok (.invokestatic 27, 3) := by decide +kernel
theorem d_W_alike_17 : decode c0_W_alike 17 = .ok (.isub, 1) := by decide +kernel
theorem d_W_alike_18 : decode c0_W_alike 18 = .ok (.ireturn, 1) := by decide +kernel
theorem d_W_alike_19 : decode c0_W_alike 19 = .ok (.iload_n 0, 1) := by decide +kernel
theorem d_W_alike_20 : decode c0_W_alike 20 = .ok (.bipush (-96), 2) := by decide +kernel
theorem d_W_alike_22 : decode c0_W_alike 22 = .ok (.if_icmp .ge 16, 3) := by decide +kernel
theorem d_W_alike_25 : decode c0_W_alike 25 = .ok (.bipush (-96), 2) := by decide +kernel
theorem d_W_alike_27 : decode c0_W_alike 27 = .ok (.iload_n 0, 1) := by decide +kernel
theorem d_W_alike_28 : decode c0_W_alike 28 = .ok (.bipush (-96), 2) := by decide +kernel
theorem d_W_alike_30 : decode c0_W_alike 30 = .ok (.isub, 1) := by decide +kernel
theorem d_W_alike_31 : decode c0_W_alike 31 = .ok (.bipush 12, 2) := by decide +kernel
theorem d_W_alike_33 : decode c0_W_alike 33 = .ok (.invokestatic 27, 3) := by decide +kernel
theorem d_W_alike_36 : decode c0_W_alike 36 = .ok (.iadd, 1) := by decide +kernel
theorem d_W_alike_37 : decode c0_W_alike 37 = .ok (.ireturn, 1) := by decide +kernel
theorem d_W_alike_38 : decode c0_W_alike 38 = .ok (.iload_n 0, 1) := by decide +kernel
theorem d_W_alike_39 : decode c0_W_alike 39 = .ok (.ireturn, 1) := by decide +kernel
theorem d_W_has_0 : decode c0_W_has 0 = .ok (.iload_n 1, 1) := by decide +kernel
theorem d_W_has_1 : decode c0_W_has 1 = .ok (.invokestatic 23, 3) := by decide +kernel
theorem d_W_has_4 : decode c0_W_has 4 = .ok (.bipush (-96), 2) := by decide +kernel
theorem d_W_has_6 : decode c0_W_has 6 = .ok (.isub, 1) := by decide +kernel
theorem d_W_has_7 : decode c0_W_has 7 = .ok (.istore_n 2, 1) := by decide +kernel
theorem d_W_has_8 : decode c0_W_has 8 = .ok (.aload_n 0, 1) := by decide +kernel
theorem d_W_has_9 : decode c0_W_has 9 = .ok (.getfield 11, 3) := by decide +kernel
theorem d_W_has_12 : decode c0_W_has 12 = .ok (.iload_n 2, 1) := by decide +kernel
theorem d_W_has_13 : decode c0_W_has 13 = .ok (.bipush 64, 2) := by decide +kernel
theorem d_W_has_15 : decode c0_W_has 15 = .ok (.idiv, 1) := by decide +kernel
theorem d_W_has_16 : decode c0_W_has 16 = .ok (.laload, 1) := by decide +kernel
theorem d_W_has_17 : decode c0_W_has 17 = .ok (.iload_n 2, 1) := by decide +kernel
theorem d_W_has_18 : decode c0_W_has 18 = .ok (.bipush 64, 2) := by decide +kernel
theorem d_W_has_20 : decode c0_W_has 20 = .ok (.irem, 1) := by decide +kernel
theorem d_W_has_21 : decode c0_W_has 21 = .ok (.lushr, 1) := by decide +kernel
theorem d_W_has_22 : decode c0_W_has 22 = .ok (.lconst 1, 1) := by decide +kernel
theorem d_W_has_23 : decode c0_W_has 23 = .ok (.land, 1) := by decide +kernel
theorem d_W_has_24 : decode c0_W_has 24 = .ok (.lconst 0, 1) := by decide +kernel
theorem d_W_has_25 : decode c0_W_has 25 = .ok (.lcmp, 1) := by decide +kernel
theorem d_W_has_26 : decode c0_W_has 26 = .ok (.ifCond .eq 7, 3) := by decide +kernel
theorem d_W_has_29 : decode c0_W_has 29 = .ok (.iconst 1, 1) := by decide +kernel
theorem d_W_has_30 : decode c0_W_has 30 = .ok (.goto 4, 3) := by decide +kernel
theorem d_W_has_33 : decode c0_W_has 33 = .ok (.iconst 0, 1) := by decide +kernel
theorem d_W_has_34 : decode c0_W_has 34 = .ok (.ireturn, 1) := by decide +kernel
theorem d_L_holds_0 : decode c0_L_holds 0 = .ok (.iload_n 1, 1) := by decide +kernel
theorem d_L_holds_1 : decode c0_L_holds 1 = .ok (.invokestatic 79, 3) := by decide +kernel
theorem d_L_holds_4 : decode c0_L_holds 4 = .ok (.ifCond .eq 18, 3) := by decide +kernel
theorem d_L_holds_7 : decode c0_L_holds 7 = .ok (.aload_n 0, 1) := by decide +kernel
theorem d_L_holds_8 : decode c0_L_holds 8 = .ok (.getfield 35, 3) := by decide +kernel
theorem d_L_holds_11 : decode c0_L_holds 11 = .ok (.iload_n 1, 1) := by decide +kernel
theorem d_L_holds_12 : decode c0_L_holds 12 = .ok (.invokevirtual 82, 3) := by decide +kernel
theorem d_L_holds_15 : decode c0_L_holds 15 = .ok (.ifCond .eq 7, 3) := by decide +kernel
theorem d_L_holds_18 : decode c0_L_holds 18 = .ok (.iconst 1, 1) := by decide +kernel
theorem d_L_holds_19 : decode c0_L_holds 19 = .ok (.goto 4, 3) := by decide +kernel
theorem d_L_holds_22 : decode c0_L_holds 22 = .ok (.iconst 0, 1) := by decide +kernel
theorem d_L_holds_23 : decode c0_L_holds 23 = .ok (.ireturn, 1) := by decide +kernel
theorem d_W_hasOne_0 : decode c0_W_hasOne 0 = .ok (.iconst 0, 1) := by decide +kernel
theorem d_W_hasOne_1 : decode c0_W_hasOne 1 = .ok (.istore_n 1, 1) := by decide +kernel
theorem d_W_hasOne_2 : decode c0_W_hasOne 2 = .ok (.iload_n 1, 1) := by decide +kernel
theorem d_W_hasOne_3 : decode c0_W_hasOne 3 = .ok (.iconst 3, 1) := by decide +kernel
theorem d_W_hasOne_4 : decode c0_W_hasOne 4 = .ok (.if_icmp .ge 22, 3) := by decide +kernel
theorem d_W_hasOne_7 : decode c0_W_hasOne 7 = .ok (.aload_n 0, 1) := by decide +kernel
theorem d_W_hasOne_8 : decode c0_W_hasOne 8 = .ok (.getfield 11, 3) := by decide +kernel
theorem d_W_hasOne_11 : decode c0_W_hasOne 11 = .ok (.iload_n 1, 1) := by decide +kernel
theorem d_W_hasOne_12 : decode c0_W_hasOne 12 = .ok (.laload, 1) := by decide +kernel
theorem d_W_hasOne_13 : decode c0_W_hasOne 13 = .ok (.lconst 0, 1) := by decide +kernel
theorem d_W_hasOne_14 : decode c0_W_hasOne 14 = .ok (.lcmp, 1) := by decide +kernel
theorem d_W_hasOne_15 : decode c0_W_hasOne 15 = .ok (.ifCond .eq 5, 3) := by decide +kernel
theorem d_W_hasOne_18 : decode c0_W_hasOne 18 = .ok (.iconst 1, 1) := by decide +kernel
theorem d_W_hasOne_19 : decode c0_W_hasOne 19 = .ok (.ireturn, 1) := by decide +kernel
theorem d_W_hasOne_20 : decode c0_W_hasOne 20 = .ok (.iinc 1 1, 3) := by decide +kernel
theorem d_W_hasOne_23 : decode c0_W_hasOne 23 = .ok (.goto (-21), 3) := by decide +kernel
theorem d_W_hasOne_26 : decode c0_W_hasOne 26 = .ok (.iconst 0, 1) := by decide +kernel
theorem d_W_hasOne_27 : decode c0_W_hasOne 27 = .ok (.ireturn, 1) := by decide +kernel
theorem d_L_some_0 : decode c0_L_some 0 = .ok (.aload_n 0, 1) := by decide +kernel
theorem d_L_some_1 : decode c0_L_some 1 = .ok (.getfield 35, 3) := by decide +kernel
theorem d_L_some_4 : decode c0_L_some 4 = .ok (.invokevirtual 85, 3) := by decide +kernel
theorem d_L_some_7 : decode c0_L_some 7 = .ok (.ireturn, 1) := by decide +kernel
theorem d_W_hasEach_0 : decode c0_W_hasEach 0 = .ok (.iconst 0, 1) := by decide +kernel
theorem d_W_hasEach_1 : decode c0_W_hasEach 1 = .ok (.istore_n 1, 1) := by decide +kernel
theorem d_W_hasEach_2 : decode c0_W_hasEach 2 = .ok (.iload_n 1, 1) := by decide +kernel
theorem d_W_hasEach_3 : decode c0_W_hasEach 3 = .ok (.iconst 3, 1) := by decide +kernel
theorem d_W_hasEach_4 : decode c0_W_hasEach 4 = .ok (.if_icmp .ge 24, 3) := by decide +kernel
theorem d_W_hasEach_7 : decode c0_W_hasEach 7 = .ok (.aload_n 0, 1) := by decide +kernel
theorem d_W_hasEach_8 : decode c0_W_hasEach 8 = .ok (.getfield 11, 3) := by decide +kernel
theorem d_W_hasEach_11 : decode c0_W_hasEach 11 = .ok (.iload_n 1, 1) := by decide +kernel
theorem d_W_hasEach_12 : decode c0_W_hasEach 12 = .ok (.laload, 1) := by decide +kernel
theorem d_W_hasEach_13 : decode c0_W_hasEach 13 = .ok (.ldc2_w 15, 3) := by decide +kernel
theorem d_W_hasEach_16 : decode c0_W_hasEach 16 = .ok (.lcmp, 1) := by decide +kernel
theorem d_W_hasEach_17 : decode c0_W_hasEach 17 = .ok (.ifCond .eq 5, 3) := by decide +kernel
theorem d_W_hasEach_20 : decode c0_W_hasEach 20 = .ok (.iconst 0, 1) := by decide +kernel
theorem d_W_hasEach_21 : decode c0_W_hasEach 21 = .ok (.ireturn, 1) := by decide +kernel
theorem d_W_hasEach_22 : decode c0_W_hasEach 22 = .ok (.iinc 1 1, 3) := by decide +kernel
theorem d_W_hasEach_25 : decode c0_W_hasEach 25 = .ok (.goto (-23), 3) := by decide +kernel
theorem d_W_hasEach_28 : decode c0_W_hasEach 28 = .ok (.iconst 1, 1) := by decide +kernel
theorem d_W_hasEach_29 : decode c0_W_hasEach 29 = .ok (.ireturn, 1) := by decide +kernel
theorem d_L_all_0 : decode c0_L_all 0 = .ok (.aload_n 0, 1) := by decide +kernel
theorem d_L_all_1 : decode c0_L_all 1 = .ok (.getfield 35, 3) := by decide +kernel
theorem d_L_all_4 : decode c0_L_all 4 = .ok (.invokevirtual 88, 3) := by decide +kernel
theorem d_L_all_7 : decode c0_L_all 7 = .ok (.ireturn, 1) := by decide +kernel
theorem d_J_max_0 : decode c0_J_max 0 = .ok (.iload_n 0, 1) := by decide +kernel
theorem d_J_max_1 : decode c0_J_max 1 = .ok (.iload_n 1, 1) := by decide +kernel
theorem d_J_max_2 : decode c0_J_max 2 = .ok (.if_icmp .lt 7, 3) := by decide +kernel
theorem d_J_max_5 : decode c0_J_max 5 = .ok (.iload_n 0, 1) := by decide +kernel
theorem d_J_max_6 : decode c0_J_max 6 = .ok (.goto 4, 3) := by decide +kernel
theorem d_J_max_9 : decode c0_J_max 9 = .ok (.iload_n 1, 1) := by decide +kernel
theorem d_J_max_10 : decode c0_J_max 10 = .ok (.ireturn, 1) := by decide +kernel
theorem d_L_next_0 : decode c0_L_next 0 = .ok (.iload_n 1, 1) := by decide +kernel
theorem d_L_next_1 : decode c0_L_next 1 = .ok (.invokestatic 79, 3) := by decide +kernel
theorem d_L_next_4 : decode c0_L_next 4 = .ok (.ifCond .ne 6, 3) := by decide +kernel
theorem d_L_next_7 : decode c0_L_next 7 = .ok (.ldc 91, 2) := by decide +kernel
theorem d_L_next_9 : decode c0_L_next 9 = .ok (.ireturn, 1) := by decide +kernel
theorem d_L_next_10 : decode c0_L_next 10 = .ok (.iload_n 1, 1) := by decide +kernel
theorem d_L_next_11 : decode c0_L_next 11 = .ok (.bipush 95, 2) := by decide +kernel
theorem d_L_next_13 : decode c0_L_next 13 = .ok (.invokestatic 92, 3) := by decide +kernel
theorem d_L_next_16 : decode c0_L_next 16 = .ok (.bipush 12, 2) := by decide +kernel
theorem d_L_next_18 : decode c0_L_next 18 = .ok (.iadd, 1) := by decide +kernel
theorem d_L_next_19 : decode c0_L_next 19 = .ok (.istore_n 2, 1) := by decide +kernel
theorem d_L_next_20 : decode c0_L_next 20 = .ok (.iload_n 1, 1) := by decide +kernel
theorem d_L_next_21 : decode c0_L_next 21 = .ok (.istore_n 3, 1) := by decide +kernel
theorem d_L_next_22 : decode c0_L_next 22 = .ok (.iload_n 3, 1) := by decide +kernel
theorem d_L_next_23 : decode c0_L_next 23 = .ok (.iload_n 2, 1) := by decide +kernel
theorem d_L_next_24 : decode c0_L_next 24 = .ok (.if_icmp .gt 22, 3) := by decide +kernel
theorem d_L_next_27 : decode c0_L_next 27 = .ok (.aload_n 0, 1) := by decide +kernel
theorem d_L_next_28 : decode c0_L_next 28 = .ok (.getfield 35, 3) := by decide +kernel
theorem d_L_next_31 : decode c0_L_next 31 = .ok (.iload_n 3, 1) := by decide +kernel
theorem d_L_next_32 : decode c0_L_next 32 = .ok (.invokevirtual 82, 3) := by decide +kernel
theorem d_L_next_35 : decode c0_L_next 35 = .ok (.ifCond .eq 5, 3) := by decide +kernel
theorem d_L_next_38 : decode c0_L_next 38 = .ok (.iload_n 3, 1) := by decide +kernel
theorem d_L_next_39 : decode c0_L_next 39 = .ok (.ireturn, 1) := by decide +kernel
theorem d_L_next_40 : decode c0_L_next 40 = .ok (.iinc 3 1, 3) := by decide +kernel
theorem d_L_next_43 : decode c0_L_next 43 = .ok (.goto (-21), 3) := by decide +kernel
theorem d_L_next_46 : decode c0_L_next 46 = .ok (.ldc 91, 2) := by decide +kernel
theorem d_L_next_48 : decode c0_L_next 48 = .ok (.ireturn, 1) := by decide +kernel
theorem d_J_min_0 : decode c0_J_min 0 = .ok (.iload_n 0, 1) := by decide +kernel
theorem d_J_min_1 : decode c0_J_min 1 = .ok (.iload_n 1, 1) := by decide +kernel
theorem d_J_min_2 : decode c0_J_min 2 = .ok (.if_icmp .gt 7, 3) := by decide +kernel
theorem d_J_min_5 : decode c0_J_min 5 = .ok (.iload_n 0, 1) := by decide +kernel
theorem d_J_min_6 : decode c0_J_min 6 = .ok (.goto 4, 3) := by decide +kernel
theorem d_J_min_9 : decode c0_J_min 9 = .ok (.iload_n 1, 1) := by decide +kernel
theorem d_J_min_10 : decode c0_J_min 10 = .ok (.ireturn, 1) := by decide +kernel
theorem d_L_last_0 : decode c0_L_last 0 = .ok (.iload_n 1, 1) := by decide +kernel
theorem d_L_last_1 : decode c0_L_last 1 = .ok (.invokestatic 79, 3) := by decide +kernel
theorem d_L_last_4 : decode c0_L_last 4 = .ok (.ifCond .ne 6, 3) := by decide +kernel
theorem d_L_last_7 : decode c0_L_last 7 = .ok (.ldc 97, 2) := by decide +kernel
theorem d_L_last_9 : decode c0_L_last 9 = .ok (.ireturn, 1) := by decide +kernel
theorem d_L_last_10 : decode c0_L_last 10 = .ok (.iload_n 1, 1) := by decide +kernel
theorem d_L_last_11 : decode c0_L_last 11 = .ok (.bipush (-96), 2) := by decide +kernel
theorem d_L_last_13 : decode c0_L_last 13 = .ok (.invokestatic 98, 3) := by decide +kernel
theorem d_L_last_16 : decode c0_L_last 16 = .ok (.bipush 12, 2) := by decide +kernel
theorem d_L_last_18 : decode c0_L_last 18 = .ok (.isub, 1) := by decide +kernel
theorem d_L_last_19 : decode c0_L_last 19 = .ok (.istore_n 2, 1) := by decide +kernel
theorem d_L_last_20 : decode c0_L_last 20 = .ok (.iload_n 1, 1) := by decide +kernel
theorem d_L_last_21 : decode c0_L_last 21 = .ok (.istore_n 3, 1) := by decide +kernel
theorem d_L_last_22 : decode c0_L_last 22 = .ok (.iload_n 3, 1) := by decide +kernel
theorem d_L_last_23 : decode c0_L_last 23 = .ok (.iload_n 2, 1) := by decide +kernel
theorem d_L_last_24 : decode c0_L_last 24 = .ok (.if_icmp .lt 22, 3) := by decide +kernel
theorem d_L_last_27 : decode c0_L_last 27 = .ok (.aload_n 0, 1) := by decide +kernel
theorem d_L_last_28 : decode c0_L_last 28 = .ok (.getfield 35, 3) := by decide +kernel
theorem d_L_last_31 : decode c0_L_last 31 = .ok (.iload_n 3, 1) := by decide +kernel
theorem d_L_last_32 : decode c0_L_last 32 = .ok (.invokevirtual 82, 3) := by decide +kernel
theorem d_L_last_35 : decode c0_L_last 35 = .ok (.ifCond .eq 5, 3) := by decide +kernel
theorem d_L_last_38 : decode c0_L_last 38 = .ok (.iload_n 3, 1) := by decide +kernel
theorem d_L_last_39 : decode c0_L_last 39 = .ok (.ireturn, 1) := by decide +kernel
theorem d_L_last_40 : decode c0_L_last 40 = .ok (.iinc 3 (-1), 3) := by decide +kernel
theorem d_L_last_43 : decode c0_L_last 43 = .ok (.goto (-21), 3) := by decide +kernel
theorem d_L_last_46 : decode c0_L_last 46 = .ok (.ldc 97, 2) := by decide +kernel
theorem d_L_last_48 : decode c0_L_last 48 = .ok (.ireturn, 1) := by decide +kernel
theorem d_L_again_0 : decode c0_L_again 0 = .ok (.iconst 0, 1) := by decide +kernel
theorem d_L_again_1 : decode c0_L_again 1 = .ok (.istore_n 2, 1) := by decide +kernel
theorem d_L_again_2 : decode c0_L_again 2 = .ok (.iload_n 2, 1) := by decide +kernel
theorem d_L_again_3 : decode c0_L_again 3 = .ok (.bipush 12, 2) := by decide +kernel
theorem d_L_again_5 : decode c0_L_again 5 = .ok (.if_icmp .ge 36, 3) := by decide +kernel
theorem d_L_again_8 : decode c0_L_again 8 = .ok (.aload_n 0, 1) := by decide +kernel
theorem d_L_again_9 : decode c0_L_again 9 = .ok (.getfield 35, 3) := by decide +kernel
theorem d_L_again_12 : decode c0_L_again 12 = .ok (.iload_n 1, 1) := by decide +kernel
theorem d_L_again_13 : decode c0_L_again 13 = .ok (.ifCond .eq 10, 3) := by decide +kernel
theorem d_L_again_16 : decode c0_L_again 16 = .ok (.bipush 95, 2) := by decide +kernel
theorem d_L_again_18 : decode c0_L_again 18 = .ok (.iload_n 2, 1) := by decide +kernel
theorem d_L_again_19 : decode c0_L_again 19 = .ok (.isub, 1) := by decide +kernel
theorem d_L_again_20 : decode c0_L_again 20 = .ok (.goto 7, 3) := by decide +kernel
theorem d_L_again_23 : decode c0_L_again 23 = .ok (.bipush (-96), 2) := by decide +kernel
theorem d_L_again_25 : decode c0_L_again 25 = .ok (.iload_n 2, 1) := by decide +kernel
theorem d_L_again_26 : decode c0_L_again 26 = .ok (.iadd, 1) := by decide +kernel
theorem d_L_again_27 : decode c0_L_again 27 = .ok (.invokevirtual 82, 3) := by decide +kernel
theorem d_L_again_30 : decode c0_L_again 30 = .ok (.ifCond .eq 5, 3) := by decide +kernel
theorem d_L_again_33 : decode c0_L_again 33 = .ok (.iconst 1, 1) := by decide +kernel
theorem d_L_again_34 : decode c0_L_again 34 = .ok (.ireturn, 1) := by decide +kernel
theorem d_L_again_35 : decode c0_L_again 35 = .ok (.iinc 2 1, 3) := by decide +kernel
theorem d_L_again_38 : decode c0_L_again 38 = .ok (.goto (-36), 3) := by decide +kernel
theorem d_L_again_41 : decode c0_L_again 41 = .ok (.iconst 0, 1) := by decide +kernel
theorem d_L_again_42 : decode c0_L_again 42 = .ok (.ireturn, 1) := by decide +kernel
theorem d_L_count_0 : decode c0_L_count 0 = .ok (.iload_n 1, 1) := by decide +kernel
theorem d_L_count_1 : decode c0_L_count 1 = .ok (.invokestatic 79, 3) := by decide +kernel
theorem d_L_count_4 : decode c0_L_count 4 = .ok (.ifCond .eq 25, 3) := by decide +kernel
theorem d_L_count_7 : decode c0_L_count 7 = .ok (.iload_n 2, 1) := by decide +kernel
theorem d_L_count_8 : decode c0_L_count 8 = .ok (.invokestatic 79, 3) := by decide +kernel
theorem d_L_count_11 : decode c0_L_count 11 = .ok (.ifCond .eq 18, 3) := by decide +kernel
theorem d_L_count_14 : decode c0_L_count 14 = .ok (.iload_n 2, 1) := by decide +kernel
theorem d_L_count_15 : decode c0_L_count 15 = .ok (.iload_n 1, 1) := by decide +kernel
end
section
theorem d_L_count_16 : decode c0_L_count 16 = .ok (.iconst 1, 1) := by decide +kernel
theorem d_L_count_17 : decode c0_L_count 17 = .ok (.isub, 1) := by decide +kernel
theorem d_L_count_18 : decode c0_L_count 18 = .ok (.if_icmp .lt 11, 3) := by decide +kernel
theorem d_L_count_21 : decode c0_L_count 21 = .ok (.iload_n 2, 1) := by decide +kernel
theorem d_L_count_22 : decode c0_L_count 22 = .ok (.iload_n 1, 1) := by decide +kernel
theorem d_L_count_23 : decode c0_L_count 23 = .ok (.bipush 100, 2) := by decide +kernel
theorem d_L_count_25 : decode c0_L_count 25 = .ok (.iadd, 1) := by decide +kernel
theorem d_L_count_26 : decode c0_L_count 26 = .ok (.if_icmp .lt 5, 3) := by decide +kernel
theorem d_L_count_29 : decode c0_L_count 29 = .ok (.iconst (-1), 1) := by decide +kernel
theorem d_L_count_30 : decode c0_L_count 30 = .ok (.ireturn, 1) := by decide +kernel
theorem d_L_count_31 : decode c0_L_count 31 = .ok (.iconst 0, 1) := by decide +kernel
theorem d_L_count_32 : decode c0_L_count 32 = .ok (.istore_n 3, 1) := by decide +kernel
theorem d_L_count_33 : decode c0_L_count 33 = .ok (.iload_n 1, 1) := by decide +kernel
theorem d_L_count_34 : decode c0_L_count 34 = .ok (.istore 4, 2) := by decide +kernel
theorem d_L_count_36 : decode c0_L_count 36 = .ok (.iload 4, 2) := by decide +kernel
theorem d_L_count_38 : decode c0_L_count 38 = .ok (.iload_n 2, 1) := by decide +kernel
theorem d_L_count_39 : decode c0_L_count 39 = .ok (.if_icmp .gt 24, 3) := by decide +kernel
theorem d_L_count_42 : decode c0_L_count 42 = .ok (.aload_n 0, 1) := by decide +kernel
theorem d_L_count_43 : decode c0_L_count 43 = .ok (.getfield 35, 3) := by decide +kernel
theorem d_L_count_46 : decode c0_L_count 46 = .ok (.iload 4, 2) := by decide +kernel
theorem d_L_count_48 : decode c0_L_count 48 = .ok (.invokevirtual 82, 3) := by decide +kernel
theorem d_L_count_51 : decode c0_L_count 51 = .ok (.ifCond .eq 6, 3) := by decide +kernel
theorem d_L_count_54 : decode c0_L_count 54 = .ok (.iinc 3 1, 3) := by decide +kernel
theorem d_L_count_57 : decode c0_L_count 57 = .ok (.iinc 4 1, 3) := by decide +kernel
theorem d_L_count_60 : decode c0_L_count 60 = .ok (.goto (-24), 3) := by decide +kernel
theorem d_L_count_63 : decode c0_L_count 63 = .ok (.iload_n 3, 1) := by decide +kernel
theorem d_L_count_64 : decode c0_L_count 64 = .ok (.ireturn, 1) := by decide +kernel
theorem d_W_repeatsAfter_0 : decode c0_W_repeatsAfter 0 = .ok (.bipush 95, 2) := by decide +kernel
theorem d_W_repeatsAfter_2 : decode c0_W_repeatsAfter 2 = .ok (.istore_n 2, 1) := by decide +kernel
theorem d_W_repeatsAfter_3 : decode c0_W_repeatsAfter 3 = .ok (.iload_n 2, 1) := by decide +kernel
theorem d_W_repeatsAfter_4 : decode c0_W_repeatsAfter 4 = .ok (.bipush 107, 2) := by decide +kernel
theorem d_W_repeatsAfter_6 : decode c0_W_repeatsAfter 6 = .ok (.if_icmp .ge 26, 3) := by decide +kernel
theorem d_W_repeatsAfter_9 : decode c0_W_repeatsAfter 9 = .ok (.aload_n 0, 1) := by decide +kernel
theorem d_W_repeatsAfter_10 : decode c0_W_repeatsAfter 10 = .ok (.iload_n 2, 1) := by decide +kernel
theorem d_W_repeatsAfter_11 : decode c0_W_repeatsAfter 11 = .ok (.invokevirtual 33, 3) := by decide +kernel
theorem d_W_repeatsAfter_14 : decode c0_W_repeatsAfter 14 = .ok (.aload_n 0, 1) := by decide +kernel
theorem d_W_repeatsAfter_15 : decode c0_W_repeatsAfter 15 = .ok (.iload_n 2, 1) := by decide +kernel
theorem d_W_repeatsAfter_16 : decode c0_W_repeatsAfter 16 = .ok (.iload_n 1, 1) := by decide +kernel
theorem d_W_repeatsAfter_17 : decode c0_W_repeatsAfter 17 = .ok (.iadd, 1) := by decide +kernel
theorem d_W_repeatsAfter_18 : decode c0_W_repeatsAfter 18 = .ok (.invokevirtual 33, 3) := by decide +kernel
theorem d_W_repeatsAfter_21 : decode c0_W_repeatsAfter 21 = .ok (.if_icmp .eq 5, 3) := by decide +kernel
theorem d_W_repeatsAfter_24 : decode c0_W_repeatsAfter 24 = .ok (.iconst 0, 1) := by decide +kernel
theorem d_W_repeatsAfter_25 : decode c0_W_repeatsAfter 25 = .ok (.ireturn, 1) := by decide +kernel
theorem d_W_repeatsAfter_26 : decode c0_W_repeatsAfter 26 = .ok (.iinc 2 1, 3) := by decide +kernel
theorem d_W_repeatsAfter_29 : decode c0_W_repeatsAfter 29 = .ok (.goto (-26), 3) := by decide +kernel
theorem d_W_repeatsAfter_32 : decode c0_W_repeatsAfter 32 = .ok (.iconst 1, 1) := by decide +kernel
theorem d_W_repeatsAfter_33 : decode c0_W_repeatsAfter 33 = .ok (.ireturn, 1) := by decide +kernel
theorem d_L_period_0 : decode c0_L_period 0 = .ok (.iconst 1, 1) := by decide +kernel
theorem d_L_period_1 : decode c0_L_period 1 = .ok (.istore_n 1, 1) := by decide +kernel
theorem d_L_period_2 : decode c0_L_period 2 = .ok (.iload_n 1, 1) := by decide +kernel
theorem d_L_period_3 : decode c0_L_period 3 = .ok (.bipush 12, 2) := by decide +kernel
theorem d_L_period_5 : decode c0_L_period 5 = .ok (.if_icmp .ge 22, 3) := by decide +kernel
theorem d_L_period_8 : decode c0_L_period 8 = .ok (.aload_n 0, 1) := by decide +kernel
theorem d_L_period_9 : decode c0_L_period 9 = .ok (.getfield 35, 3) := by decide +kernel
theorem d_L_period_12 : decode c0_L_period 12 = .ok (.iload_n 1, 1) := by decide +kernel
theorem d_L_period_13 : decode c0_L_period 13 = .ok (.invokevirtual 101, 3) := by decide +kernel
theorem d_L_period_16 : decode c0_L_period 16 = .ok (.ifCond .eq 5, 3) := by decide +kernel
theorem d_L_period_19 : decode c0_L_period 19 = .ok (.iload_n 1, 1) := by decide +kernel
theorem d_L_period_20 : decode c0_L_period 20 = .ok (.ireturn, 1) := by decide +kernel
theorem d_L_period_21 : decode c0_L_period 21 = .ok (.iinc 1 1, 3) := by decide +kernel
theorem d_L_period_24 : decode c0_L_period 24 = .ok (.goto (-22), 3) := by decide +kernel
theorem d_L_period_27 : decode c0_L_period 27 = .ok (.bipush 12, 2) := by decide +kernel
theorem d_L_period_29 : decode c0_L_period 29 = .ok (.ireturn, 1) := by decide +kernel
end
section
abbrev KS : Type := Int32 × (Nat → Int32) × (Nat → Int32) × Int32 × Int32 × (Nat → Int32) × (Nat → Int32) × (Nat → Int32) × (Nat → Int32) × (Nat → Int32) × (Nat → Int32) × (Nat → Int32) × (Nat → Int32) × Int32 × Int32 × Int32 × Int32 × (Nat → Int64)
def k_xf (u : KS) : Int32 := u.1
def k_mk (u : KS) : (Nat → Int32) := u.2.1
def k_pl (u : KS) : (Nat → Int32) := u.2.2.1
def k_sz (u : KS) : Int32 := u.2.2.2.1
def k_ln (u : KS) : Int32 := u.2.2.2.2.1
def k_kd (u : KS) : (Nat → Int32) := u.2.2.2.2.2.1
def k_sc (u : KS) : (Nat → Int32) := u.2.2.2.2.2.2.1
def k_vr (u : KS) : (Nat → Int32) := u.2.2.2.2.2.2.2.1
def k_dv (u : KS) : (Nat → Int32) := u.2.2.2.2.2.2.2.2.1
def k_nu (u : KS) : (Nat → Int32) := u.2.2.2.2.2.2.2.2.2.1
def k_fa (u : KS) : (Nat → Int32) := u.2.2.2.2.2.2.2.2.2.2.1
def k_op (u : KS) : (Nat → Int32) := u.2.2.2.2.2.2.2.2.2.2.2.1
def k_va (u : KS) : (Nat → Int32) := u.2.2.2.2.2.2.2.2.2.2.2.2.1
def k_cn (u : KS) : Int32 := u.2.2.2.2.2.2.2.2.2.2.2.2.2.1
def k_at (u : KS) : Int32 := u.2.2.2.2.2.2.2.2.2.2.2.2.2.2.1
def k_br (u : KS) : Int32 := u.2.2.2.2.2.2.2.2.2.2.2.2.2.2.2.1
def k_ne (u : KS) : Int32 := u.2.2.2.2.2.2.2.2.2.2.2.2.2.2.2.2.1
def k_wd (u : KS) : (Nat → Int64) := u.2.2.2.2.2.2.2.2.2.2.2.2.2.2.2.2.2
def k_p_xf (x : Int32) (u : KS) : KS := (x, u.2.1, u.2.2.1, u.2.2.2.1, u.2.2.2.2.1, u.2.2.2.2.2.1, u.2.2.2.2.2.2.1, u.2.2.2.2.2.2.2.1, u.2.2.2.2.2.2.2.2.1, u.2.2.2.2.2.2.2.2.2.1, u.2.2.2.2.2.2.2.2.2.2.1, u.2.2.2.2.2.2.2.2.2.2.2.1, u.2.2.2.2.2.2.2.2.2.2.2.2.1, u.2.2.2.2.2.2.2.2.2.2.2.2.2.1, u.2.2.2.2.2.2.2.2.2.2.2.2.2.2.1, u.2.2.2.2.2.2.2.2.2.2.2.2.2.2.2.1, u.2.2.2.2.2.2.2.2.2.2.2.2.2.2.2.2.1, u.2.2.2.2.2.2.2.2.2.2.2.2.2.2.2.2.2)
def k_p_mk (x : (Nat → Int32)) (u : KS) : KS := (u.1, x, u.2.2.1, u.2.2.2.1, u.2.2.2.2.1, u.2.2.2.2.2.1, u.2.2.2.2.2.2.1, u.2.2.2.2.2.2.2.1, u.2.2.2.2.2.2.2.2.1, u.2.2.2.2.2.2.2.2.2.1, u.2.2.2.2.2.2.2.2.2.2.1, u.2.2.2.2.2.2.2.2.2.2.2.1, u.2.2.2.2.2.2.2.2.2.2.2.2.1, u.2.2.2.2.2.2.2.2.2.2.2.2.2.1, u.2.2.2.2.2.2.2.2.2.2.2.2.2.2.1, u.2.2.2.2.2.2.2.2.2.2.2.2.2.2.2.1, u.2.2.2.2.2.2.2.2.2.2.2.2.2.2.2.2.1, u.2.2.2.2.2.2.2.2.2.2.2.2.2.2.2.2.2)
def k_p_pl (x : (Nat → Int32)) (u : KS) : KS := (u.1, u.2.1, x, u.2.2.2.1, u.2.2.2.2.1, u.2.2.2.2.2.1, u.2.2.2.2.2.2.1, u.2.2.2.2.2.2.2.1, u.2.2.2.2.2.2.2.2.1, u.2.2.2.2.2.2.2.2.2.1, u.2.2.2.2.2.2.2.2.2.2.1, u.2.2.2.2.2.2.2.2.2.2.2.1, u.2.2.2.2.2.2.2.2.2.2.2.2.1, u.2.2.2.2.2.2.2.2.2.2.2.2.2.1, u.2.2.2.2.2.2.2.2.2.2.2.2.2.2.1, u.2.2.2.2.2.2.2.2.2.2.2.2.2.2.2.1, u.2.2.2.2.2.2.2.2.2.2.2.2.2.2.2.2.1, u.2.2.2.2.2.2.2.2.2.2.2.2.2.2.2.2.2)
def k_p_sz (x : Int32) (u : KS) : KS := (u.1, u.2.1, u.2.2.1, x, u.2.2.2.2.1, u.2.2.2.2.2.1, u.2.2.2.2.2.2.1, u.2.2.2.2.2.2.2.1, u.2.2.2.2.2.2.2.2.1, u.2.2.2.2.2.2.2.2.2.1, u.2.2.2.2.2.2.2.2.2.2.1, u.2.2.2.2.2.2.2.2.2.2.2.1, u.2.2.2.2.2.2.2.2.2.2.2.2.1, u.2.2.2.2.2.2.2.2.2.2.2.2.2.1, u.2.2.2.2.2.2.2.2.2.2.2.2.2.2.1, u.2.2.2.2.2.2.2.2.2.2.2.2.2.2.2.1, u.2.2.2.2.2.2.2.2.2.2.2.2.2.2.2.2.1, u.2.2.2.2.2.2.2.2.2.2.2.2.2.2.2.2.2)
def k_p_ln (x : Int32) (u : KS) : KS := (u.1, u.2.1, u.2.2.1, u.2.2.2.1, x, u.2.2.2.2.2.1, u.2.2.2.2.2.2.1, u.2.2.2.2.2.2.2.1, u.2.2.2.2.2.2.2.2.1, u.2.2.2.2.2.2.2.2.2.1, u.2.2.2.2.2.2.2.2.2.2.1, u.2.2.2.2.2.2.2.2.2.2.2.1, u.2.2.2.2.2.2.2.2.2.2.2.2.1, u.2.2.2.2.2.2.2.2.2.2.2.2.2.1, u.2.2.2.2.2.2.2.2.2.2.2.2.2.2.1, u.2.2.2.2.2.2.2.2.2.2.2.2.2.2.2.1, u.2.2.2.2.2.2.2.2.2.2.2.2.2.2.2.2.1, u.2.2.2.2.2.2.2.2.2.2.2.2.2.2.2.2.2)
def k_p_kd (x : (Nat → Int32)) (u : KS) : KS := (u.1, u.2.1, u.2.2.1, u.2.2.2.1, u.2.2.2.2.1, x, u.2.2.2.2.2.2.1, u.2.2.2.2.2.2.2.1, u.2.2.2.2.2.2.2.2.1, u.2.2.2.2.2.2.2.2.2.1, u.2.2.2.2.2.2.2.2.2.2.1, u.2.2.2.2.2.2.2.2.2.2.2.1, u.2.2.2.2.2.2.2.2.2.2.2.2.1, u.2.2.2.2.2.2.2.2.2.2.2.2.2.1, u.2.2.2.2.2.2.2.2.2.2.2.2.2.2.1, u.2.2.2.2.2.2.2.2.2.2.2.2.2.2.2.1, u.2.2.2.2.2.2.2.2.2.2.2.2.2.2.2.2.1, u.2.2.2.2.2.2.2.2.2.2.2.2.2.2.2.2.2)
def k_p_sc (x : (Nat → Int32)) (u : KS) : KS := (u.1, u.2.1, u.2.2.1, u.2.2.2.1, u.2.2.2.2.1, u.2.2.2.2.2.1, x, u.2.2.2.2.2.2.2.1, u.2.2.2.2.2.2.2.2.1, u.2.2.2.2.2.2.2.2.2.1, u.2.2.2.2.2.2.2.2.2.2.1, u.2.2.2.2.2.2.2.2.2.2.2.1, u.2.2.2.2.2.2.2.2.2.2.2.2.1, u.2.2.2.2.2.2.2.2.2.2.2.2.2.1, u.2.2.2.2.2.2.2.2.2.2.2.2.2.2.1, u.2.2.2.2.2.2.2.2.2.2.2.2.2.2.2.1, u.2.2.2.2.2.2.2.2.2.2.2.2.2.2.2.2.1, u.2.2.2.2.2.2.2.2.2.2.2.2.2.2.2.2.2)
def k_p_vr (x : (Nat → Int32)) (u : KS) : KS := (u.1, u.2.1, u.2.2.1, u.2.2.2.1, u.2.2.2.2.1, u.2.2.2.2.2.1, u.2.2.2.2.2.2.1, x, u.2.2.2.2.2.2.2.2.1, u.2.2.2.2.2.2.2.2.2.1, u.2.2.2.2.2.2.2.2.2.2.1, u.2.2.2.2.2.2.2.2.2.2.2.1, u.2.2.2.2.2.2.2.2.2.2.2.2.1, u.2.2.2.2.2.2.2.2.2.2.2.2.2.1, u.2.2.2.2.2.2.2.2.2.2.2.2.2.2.1, u.2.2.2.2.2.2.2.2.2.2.2.2.2.2.2.1, u.2.2.2.2.2.2.2.2.2.2.2.2.2.2.2.2.1, u.2.2.2.2.2.2.2.2.2.2.2.2.2.2.2.2.2)
def k_p_dv (x : (Nat → Int32)) (u : KS) : KS := (u.1, u.2.1, u.2.2.1, u.2.2.2.1, u.2.2.2.2.1, u.2.2.2.2.2.1, u.2.2.2.2.2.2.1, u.2.2.2.2.2.2.2.1, x, u.2.2.2.2.2.2.2.2.2.1, u.2.2.2.2.2.2.2.2.2.2.1, u.2.2.2.2.2.2.2.2.2.2.2.1, u.2.2.2.2.2.2.2.2.2.2.2.2.1, u.2.2.2.2.2.2.2.2.2.2.2.2.2.1, u.2.2.2.2.2.2.2.2.2.2.2.2.2.2.1, u.2.2.2.2.2.2.2.2.2.2.2.2.2.2.2.1, u.2.2.2.2.2.2.2.2.2.2.2.2.2.2.2.2.1, u.2.2.2.2.2.2.2.2.2.2.2.2.2.2.2.2.2)
def k_p_nu (x : (Nat → Int32)) (u : KS) : KS := (u.1, u.2.1, u.2.2.1, u.2.2.2.1, u.2.2.2.2.1, u.2.2.2.2.2.1, u.2.2.2.2.2.2.1, u.2.2.2.2.2.2.2.1, u.2.2.2.2.2.2.2.2.1, x, u.2.2.2.2.2.2.2.2.2.2.1, u.2.2.2.2.2.2.2.2.2.2.2.1, u.2.2.2.2.2.2.2.2.2.2.2.2.1, u.2.2.2.2.2.2.2.2.2.2.2.2.2.1, u.2.2.2.2.2.2.2.2.2.2.2.2.2.2.1, u.2.2.2.2.2.2.2.2.2.2.2.2.2.2.2.1, u.2.2.2.2.2.2.2.2.2.2.2.2.2.2.2.2.1, u.2.2.2.2.2.2.2.2.2.2.2.2.2.2.2.2.2)
def k_p_fa (x : (Nat → Int32)) (u : KS) : KS := (u.1, u.2.1, u.2.2.1, u.2.2.2.1, u.2.2.2.2.1, u.2.2.2.2.2.1, u.2.2.2.2.2.2.1, u.2.2.2.2.2.2.2.1, u.2.2.2.2.2.2.2.2.1, u.2.2.2.2.2.2.2.2.2.1, x, u.2.2.2.2.2.2.2.2.2.2.2.1, u.2.2.2.2.2.2.2.2.2.2.2.2.1, u.2.2.2.2.2.2.2.2.2.2.2.2.2.1, u.2.2.2.2.2.2.2.2.2.2.2.2.2.2.1, u.2.2.2.2.2.2.2.2.2.2.2.2.2.2.2.1, u.2.2.2.2.2.2.2.2.2.2.2.2.2.2.2.2.1, u.2.2.2.2.2.2.2.2.2.2.2.2.2.2.2.2.2)
def k_p_op (x : (Nat → Int32)) (u : KS) : KS := (u.1, u.2.1, u.2.2.1, u.2.2.2.1, u.2.2.2.2.1, u.2.2.2.2.2.1, u.2.2.2.2.2.2.1, u.2.2.2.2.2.2.2.1, u.2.2.2.2.2.2.2.2.1, u.2.2.2.2.2.2.2.2.2.1, u.2.2.2.2.2.2.2.2.2.2.1, x, u.2.2.2.2.2.2.2.2.2.2.2.2.1, u.2.2.2.2.2.2.2.2.2.2.2.2.2.1, u.2.2.2.2.2.2.2.2.2.2.2.2.2.2.1, u.2.2.2.2.2.2.2.2.2.2.2.2.2.2.2.1, u.2.2.2.2.2.2.2.2.2.2.2.2.2.2.2.2.1, u.2.2.2.2.2.2.2.2.2.2.2.2.2.2.2.2.2)
def k_p_va (x : (Nat → Int32)) (u : KS) : KS := (u.1, u.2.1, u.2.2.1, u.2.2.2.1, u.2.2.2.2.1, u.2.2.2.2.2.1, u.2.2.2.2.2.2.1, u.2.2.2.2.2.2.2.1, u.2.2.2.2.2.2.2.2.1, u.2.2.2.2.2.2.2.2.2.1, u.2.2.2.2.2.2.2.2.2.2.1, u.2.2.2.2.2.2.2.2.2.2.2.1, x, u.2.2.2.2.2.2.2.2.2.2.2.2.2.1, u.2.2.2.2.2.2.2.2.2.2.2.2.2.2.1, u.2.2.2.2.2.2.2.2.2.2.2.2.2.2.2.1, u.2.2.2.2.2.2.2.2.2.2.2.2.2.2.2.2.1, u.2.2.2.2.2.2.2.2.2.2.2.2.2.2.2.2.2)
def k_p_cn (x : Int32) (u : KS) : KS := (u.1, u.2.1, u.2.2.1, u.2.2.2.1, u.2.2.2.2.1, u.2.2.2.2.2.1, u.2.2.2.2.2.2.1, u.2.2.2.2.2.2.2.1, u.2.2.2.2.2.2.2.2.1, u.2.2.2.2.2.2.2.2.2.1, u.2.2.2.2.2.2.2.2.2.2.1, u.2.2.2.2.2.2.2.2.2.2.2.1, u.2.2.2.2.2.2.2.2.2.2.2.2.1, x, u.2.2.2.2.2.2.2.2.2.2.2.2.2.2.1, u.2.2.2.2.2.2.2.2.2.2.2.2.2.2.2.1, u.2.2.2.2.2.2.2.2.2.2.2.2.2.2.2.2.1, u.2.2.2.2.2.2.2.2.2.2.2.2.2.2.2.2.2)
def k_p_at (x : Int32) (u : KS) : KS := (u.1, u.2.1, u.2.2.1, u.2.2.2.1, u.2.2.2.2.1, u.2.2.2.2.2.1, u.2.2.2.2.2.2.1, u.2.2.2.2.2.2.2.1, u.2.2.2.2.2.2.2.2.1, u.2.2.2.2.2.2.2.2.2.1, u.2.2.2.2.2.2.2.2.2.2.1, u.2.2.2.2.2.2.2.2.2.2.2.1, u.2.2.2.2.2.2.2.2.2.2.2.2.1, u.2.2.2.2.2.2.2.2.2.2.2.2.2.1, x, u.2.2.2.2.2.2.2.2.2.2.2.2.2.2.2.1, u.2.2.2.2.2.2.2.2.2.2.2.2.2.2.2.2.1, u.2.2.2.2.2.2.2.2.2.2.2.2.2.2.2.2.2)
def k_p_br (x : Int32) (u : KS) : KS := (u.1, u.2.1, u.2.2.1, u.2.2.2.1, u.2.2.2.2.1, u.2.2.2.2.2.1, u.2.2.2.2.2.2.1, u.2.2.2.2.2.2.2.1, u.2.2.2.2.2.2.2.2.1, u.2.2.2.2.2.2.2.2.2.1, u.2.2.2.2.2.2.2.2.2.2.1, u.2.2.2.2.2.2.2.2.2.2.2.1, u.2.2.2.2.2.2.2.2.2.2.2.2.1, u.2.2.2.2.2.2.2.2.2.2.2.2.2.1, u.2.2.2.2.2.2.2.2.2.2.2.2.2.2.1, x, u.2.2.2.2.2.2.2.2.2.2.2.2.2.2.2.2.1, u.2.2.2.2.2.2.2.2.2.2.2.2.2.2.2.2.2)
def k_p_ne (x : Int32) (u : KS) : KS := (u.1, u.2.1, u.2.2.1, u.2.2.2.1, u.2.2.2.2.1, u.2.2.2.2.2.1, u.2.2.2.2.2.2.1, u.2.2.2.2.2.2.2.1, u.2.2.2.2.2.2.2.2.1, u.2.2.2.2.2.2.2.2.2.1, u.2.2.2.2.2.2.2.2.2.2.1, u.2.2.2.2.2.2.2.2.2.2.2.1, u.2.2.2.2.2.2.2.2.2.2.2.2.1, u.2.2.2.2.2.2.2.2.2.2.2.2.2.1, u.2.2.2.2.2.2.2.2.2.2.2.2.2.2.1, u.2.2.2.2.2.2.2.2.2.2.2.2.2.2.2.1, x, u.2.2.2.2.2.2.2.2.2.2.2.2.2.2.2.2.2)
def k_p_wd (x : (Nat → Int64)) (u : KS) : KS := (u.1, u.2.1, u.2.2.1, u.2.2.2.1, u.2.2.2.2.1, u.2.2.2.2.2.1, u.2.2.2.2.2.2.1, u.2.2.2.2.2.2.2.1, u.2.2.2.2.2.2.2.2.1, u.2.2.2.2.2.2.2.2.2.1, u.2.2.2.2.2.2.2.2.2.2.1, u.2.2.2.2.2.2.2.2.2.2.2.1, u.2.2.2.2.2.2.2.2.2.2.2.2.1, u.2.2.2.2.2.2.2.2.2.2.2.2.2.1, u.2.2.2.2.2.2.2.2.2.2.2.2.2.2.1, u.2.2.2.2.2.2.2.2.2.2.2.2.2.2.2.1, u.2.2.2.2.2.2.2.2.2.2.2.2.2.2.2.2.1, x)
def k_W (ad : Nat → Nat) (cA : Nat → ClassId) (u : KS) : va_W := [(ad 0, .inr (0, [.ref (ad 1), .ref (ad 4), .ref (ad 13), .ref (ad 14), .int (k_xf u)])), (ad 1, .inr (1, [.ref (ad 2), .ref (ad 3), .int (k_sz u), .int (k_ln u)])), (ad 2, .inl (cA 0, 120, .inl (k_mk u))), (ad 3, .inl (cA 1, 120, .inl (k_pl u))), (ad 4, .inr (2, [.ref (ad 5), .ref (ad 6), .ref (ad 7), .ref (ad 8), .ref (ad 9), .ref (ad 10), .ref (ad 11), .ref (ad 12), .int (k_cn u)])), (ad 5, .inl (cA 2, 20, .inl (k_kd u))), (ad 6, .inl (cA 3, 20, .inl (k_sc u))), (ad 7, .inl (cA 4, 20, .inl (k_vr u))), (ad 8, .inl (cA 5, 20, .inl (k_dv u))), (ad 9, .inl (cA 6, 20, .inl (k_nu u))), (ad 10, .inl (cA 7, 60, .inl (k_fa u))), (ad 11, .inl (cA 8, 20, .inl (k_op u))), (ad 12, .inl (cA 9, 3, .inl (k_va u))), (ad 13, .inr (3, [.ref (ad 1), .ref (ad 4), .int (k_at u), .int (k_br u), .int (k_ne u)])), (ad 14, .inr (4, [.ref (ad 15)])), (ad 15, .inl (cA 10, 3, .inr (.inl (k_wd u))))]
def k_T (cA : Nat → ClassId) : List (ClassId × FieldType) := [(cA 0, .int), (cA 1, .int), (cA 2, .int), (cA 3, .int), (cA 4, .int), (cA 5, .int), (cA 6, .int), (cA 7, .int), (cA 8, .int), (cA 9, .int), (cA 10, .long)]
abbrev MS : Type := Int32 × Int32 × Int32 × Int32 × Int32 × Int32 × Int32 × Int32 × Int32 × Int32 × Int32 × Int32 × (Nat → Int32) × (Nat → Int32) × (Nat → Int32) × (Nat → Int32) × (Nat → Int32) × (Nat → Int32) × (Nat → Int32) × (Nat → Int32) × (Nat → Int32) × (Nat → Int32) × (Nat → Int32) × (Nat → Int32) × (Nat → Int32) × (Nat → Int32) × (Nat → Int32) × (Nat → Int32)
def m_ty (u : MS) : Int32 := u.1
def m_si (u : MS) : Int32 := u.2.1
def m_at (u : MS) : Int32 := u.2.2.1
def m_fa (u : MS) : Int32 := u.2.2.2.1
def m_cl (u : MS) : Int32 := u.2.2.2.2.1
def m_br (u : MS) : Int32 := u.2.2.2.2.2.1
def m_xf (u : MS) : Int32 := u.2.2.2.2.2.2.1
def m_tr (u : MS) : Int32 := u.2.2.2.2.2.2.2.1
def m_re (u : MS) : Int32 := u.2.2.2.2.2.2.2.2.1
def m_rb (u : MS) : Int32 := u.2.2.2.2.2.2.2.2.2.1
def m_rf (u : MS) : Int32 := u.2.2.2.2.2.2.2.2.2.2.1
def m_dp (u : MS) : Int32 := u.2.2.2.2.2.2.2.2.2.2.2.1
def m_ch (u : MS) : (Nat → Int32) := u.2.2.2.2.2.2.2.2.2.2.2.2.1
def m_ki (u : MS) : (Nat → Int32) := u.2.2.2.2.2.2.2.2.2.2.2.2.2.1
def m_ow (u : MS) : (Nat → Int32) := u.2.2.2.2.2.2.2.2.2.2.2.2.2.2.1
def m_ab (u : MS) : (Nat → Int32) := u.2.2.2.2.2.2.2.2.2.2.2.2.2.2.2.1
def m_su (u : MS) : (Nat → Int32) := u.2.2.2.2.2.2.2.2.2.2.2.2.2.2.2.2.1
def m_nk (u : MS) : (Nat → Int32) := u.2.2.2.2.2.2.2.2.2.2.2.2.2.2.2.2.2.1
def m_no (u : MS) : (Nat → Int32) := u.2.2.2.2.2.2.2.2.2.2.2.2.2.2.2.2.2.2.1
def m_na (u : MS) : (Nat → Int32) := u.2.2.2.2.2.2.2.2.2.2.2.2.2.2.2.2.2.2.2.1
def m_ns (u : MS) : (Nat → Int32) := u.2.2.2.2.2.2.2.2.2.2.2.2.2.2.2.2.2.2.2.2.1
def m_he (u : MS) : (Nat → Int32) := u.2.2.2.2.2.2.2.2.2.2.2.2.2.2.2.2.2.2.2.2.2.1
def m_op (u : MS) : (Nat → Int32) := u.2.2.2.2.2.2.2.2.2.2.2.2.2.2.2.2.2.2.2.2.2.2.1
def m_le (u : MS) : (Nat → Int32) := u.2.2.2.2.2.2.2.2.2.2.2.2.2.2.2.2.2.2.2.2.2.2.2.1
def m_nu (u : MS) : (Nat → Int32) := u.2.2.2.2.2.2.2.2.2.2.2.2.2.2.2.2.2.2.2.2.2.2.2.2.1
def m_lo (u : MS) : (Nat → Int32) := u.2.2.2.2.2.2.2.2.2.2.2.2.2.2.2.2.2.2.2.2.2.2.2.2.2.1
def m_mi (u : MS) : (Nat → Int32) := u.2.2.2.2.2.2.2.2.2.2.2.2.2.2.2.2.2.2.2.2.2.2.2.2.2.2.1
def m_hi (u : MS) : (Nat → Int32) := u.2.2.2.2.2.2.2.2.2.2.2.2.2.2.2.2.2.2.2.2.2.2.2.2.2.2.2
def m_p_ty (x : Int32) (u : MS) : MS := (x, u.2.1, u.2.2.1, u.2.2.2.1, u.2.2.2.2.1, u.2.2.2.2.2.1, u.2.2.2.2.2.2.1, u.2.2.2.2.2.2.2.1, u.2.2.2.2.2.2.2.2.1, u.2.2.2.2.2.2.2.2.2.1, u.2.2.2.2.2.2.2.2.2.2.1, u.2.2.2.2.2.2.2.2.2.2.2.1, u.2.2.2.2.2.2.2.2.2.2.2.2.1, u.2.2.2.2.2.2.2.2.2.2.2.2.2.1, u.2.2.2.2.2.2.2.2.2.2.2.2.2.2.1, u.2.2.2.2.2.2.2.2.2.2.2.2.2.2.2.1, u.2.2.2.2.2.2.2.2.2.2.2.2.2.2.2.2.1, u.2.2.2.2.2.2.2.2.2.2.2.2.2.2.2.2.2.1, u.2.2.2.2.2.2.2.2.2.2.2.2.2.2.2.2.2.2.1, u.2.2.2.2.2.2.2.2.2.2.2.2.2.2.2.2.2.2.2.1, u.2.2.2.2.2.2.2.2.2.2.2.2.2.2.2.2.2.2.2.2.1, u.2.2.2.2.2.2.2.2.2.2.2.2.2.2.2.2.2.2.2.2.2.1, u.2.2.2.2.2.2.2.2.2.2.2.2.2.2.2.2.2.2.2.2.2.2.1, u.2.2.2.2.2.2.2.2.2.2.2.2.2.2.2.2.2.2.2.2.2.2.2.1, u.2.2.2.2.2.2.2.2.2.2.2.2.2.2.2.2.2.2.2.2.2.2.2.2.1, u.2.2.2.2.2.2.2.2.2.2.2.2.2.2.2.2.2.2.2.2.2.2.2.2.2.1, u.2.2.2.2.2.2.2.2.2.2.2.2.2.2.2.2.2.2.2.2.2.2.2.2.2.2.1, u.2.2.2.2.2.2.2.2.2.2.2.2.2.2.2.2.2.2.2.2.2.2.2.2.2.2.2)
def m_p_si (x : Int32) (u : MS) : MS := (u.1, x, u.2.2.1, u.2.2.2.1, u.2.2.2.2.1, u.2.2.2.2.2.1, u.2.2.2.2.2.2.1, u.2.2.2.2.2.2.2.1, u.2.2.2.2.2.2.2.2.1, u.2.2.2.2.2.2.2.2.2.1, u.2.2.2.2.2.2.2.2.2.2.1, u.2.2.2.2.2.2.2.2.2.2.2.1, u.2.2.2.2.2.2.2.2.2.2.2.2.1, u.2.2.2.2.2.2.2.2.2.2.2.2.2.1, u.2.2.2.2.2.2.2.2.2.2.2.2.2.2.1, u.2.2.2.2.2.2.2.2.2.2.2.2.2.2.2.1, u.2.2.2.2.2.2.2.2.2.2.2.2.2.2.2.2.1, u.2.2.2.2.2.2.2.2.2.2.2.2.2.2.2.2.2.1, u.2.2.2.2.2.2.2.2.2.2.2.2.2.2.2.2.2.2.1, u.2.2.2.2.2.2.2.2.2.2.2.2.2.2.2.2.2.2.2.1, u.2.2.2.2.2.2.2.2.2.2.2.2.2.2.2.2.2.2.2.2.1, u.2.2.2.2.2.2.2.2.2.2.2.2.2.2.2.2.2.2.2.2.2.1, u.2.2.2.2.2.2.2.2.2.2.2.2.2.2.2.2.2.2.2.2.2.2.1, u.2.2.2.2.2.2.2.2.2.2.2.2.2.2.2.2.2.2.2.2.2.2.2.1, u.2.2.2.2.2.2.2.2.2.2.2.2.2.2.2.2.2.2.2.2.2.2.2.2.1, u.2.2.2.2.2.2.2.2.2.2.2.2.2.2.2.2.2.2.2.2.2.2.2.2.2.1, u.2.2.2.2.2.2.2.2.2.2.2.2.2.2.2.2.2.2.2.2.2.2.2.2.2.2.1, u.2.2.2.2.2.2.2.2.2.2.2.2.2.2.2.2.2.2.2.2.2.2.2.2.2.2.2)
def m_p_at (x : Int32) (u : MS) : MS := (u.1, u.2.1, x, u.2.2.2.1, u.2.2.2.2.1, u.2.2.2.2.2.1, u.2.2.2.2.2.2.1, u.2.2.2.2.2.2.2.1, u.2.2.2.2.2.2.2.2.1, u.2.2.2.2.2.2.2.2.2.1, u.2.2.2.2.2.2.2.2.2.2.1, u.2.2.2.2.2.2.2.2.2.2.2.1, u.2.2.2.2.2.2.2.2.2.2.2.2.1, u.2.2.2.2.2.2.2.2.2.2.2.2.2.1, u.2.2.2.2.2.2.2.2.2.2.2.2.2.2.1, u.2.2.2.2.2.2.2.2.2.2.2.2.2.2.2.1, u.2.2.2.2.2.2.2.2.2.2.2.2.2.2.2.2.1, u.2.2.2.2.2.2.2.2.2.2.2.2.2.2.2.2.2.1, u.2.2.2.2.2.2.2.2.2.2.2.2.2.2.2.2.2.2.1, u.2.2.2.2.2.2.2.2.2.2.2.2.2.2.2.2.2.2.2.1, u.2.2.2.2.2.2.2.2.2.2.2.2.2.2.2.2.2.2.2.2.1, u.2.2.2.2.2.2.2.2.2.2.2.2.2.2.2.2.2.2.2.2.2.1, u.2.2.2.2.2.2.2.2.2.2.2.2.2.2.2.2.2.2.2.2.2.2.1, u.2.2.2.2.2.2.2.2.2.2.2.2.2.2.2.2.2.2.2.2.2.2.2.1, u.2.2.2.2.2.2.2.2.2.2.2.2.2.2.2.2.2.2.2.2.2.2.2.2.1, u.2.2.2.2.2.2.2.2.2.2.2.2.2.2.2.2.2.2.2.2.2.2.2.2.2.1, u.2.2.2.2.2.2.2.2.2.2.2.2.2.2.2.2.2.2.2.2.2.2.2.2.2.2.1, u.2.2.2.2.2.2.2.2.2.2.2.2.2.2.2.2.2.2.2.2.2.2.2.2.2.2.2)
def m_p_fa (x : Int32) (u : MS) : MS := (u.1, u.2.1, u.2.2.1, x, u.2.2.2.2.1, u.2.2.2.2.2.1, u.2.2.2.2.2.2.1, u.2.2.2.2.2.2.2.1, u.2.2.2.2.2.2.2.2.1, u.2.2.2.2.2.2.2.2.2.1, u.2.2.2.2.2.2.2.2.2.2.1, u.2.2.2.2.2.2.2.2.2.2.2.1, u.2.2.2.2.2.2.2.2.2.2.2.2.1, u.2.2.2.2.2.2.2.2.2.2.2.2.2.1, u.2.2.2.2.2.2.2.2.2.2.2.2.2.2.1, u.2.2.2.2.2.2.2.2.2.2.2.2.2.2.2.1, u.2.2.2.2.2.2.2.2.2.2.2.2.2.2.2.2.1, u.2.2.2.2.2.2.2.2.2.2.2.2.2.2.2.2.2.1, u.2.2.2.2.2.2.2.2.2.2.2.2.2.2.2.2.2.2.1, u.2.2.2.2.2.2.2.2.2.2.2.2.2.2.2.2.2.2.2.1, u.2.2.2.2.2.2.2.2.2.2.2.2.2.2.2.2.2.2.2.2.1, u.2.2.2.2.2.2.2.2.2.2.2.2.2.2.2.2.2.2.2.2.2.1, u.2.2.2.2.2.2.2.2.2.2.2.2.2.2.2.2.2.2.2.2.2.2.1, u.2.2.2.2.2.2.2.2.2.2.2.2.2.2.2.2.2.2.2.2.2.2.2.1, u.2.2.2.2.2.2.2.2.2.2.2.2.2.2.2.2.2.2.2.2.2.2.2.2.1, u.2.2.2.2.2.2.2.2.2.2.2.2.2.2.2.2.2.2.2.2.2.2.2.2.2.1, u.2.2.2.2.2.2.2.2.2.2.2.2.2.2.2.2.2.2.2.2.2.2.2.2.2.2.1, u.2.2.2.2.2.2.2.2.2.2.2.2.2.2.2.2.2.2.2.2.2.2.2.2.2.2.2)
def m_p_cl (x : Int32) (u : MS) : MS := (u.1, u.2.1, u.2.2.1, u.2.2.2.1, x, u.2.2.2.2.2.1, u.2.2.2.2.2.2.1, u.2.2.2.2.2.2.2.1, u.2.2.2.2.2.2.2.2.1, u.2.2.2.2.2.2.2.2.2.1, u.2.2.2.2.2.2.2.2.2.2.1, u.2.2.2.2.2.2.2.2.2.2.2.1, u.2.2.2.2.2.2.2.2.2.2.2.2.1, u.2.2.2.2.2.2.2.2.2.2.2.2.2.1, u.2.2.2.2.2.2.2.2.2.2.2.2.2.2.1, u.2.2.2.2.2.2.2.2.2.2.2.2.2.2.2.1, u.2.2.2.2.2.2.2.2.2.2.2.2.2.2.2.2.1, u.2.2.2.2.2.2.2.2.2.2.2.2.2.2.2.2.2.1, u.2.2.2.2.2.2.2.2.2.2.2.2.2.2.2.2.2.2.1, u.2.2.2.2.2.2.2.2.2.2.2.2.2.2.2.2.2.2.2.1, u.2.2.2.2.2.2.2.2.2.2.2.2.2.2.2.2.2.2.2.2.1, u.2.2.2.2.2.2.2.2.2.2.2.2.2.2.2.2.2.2.2.2.2.1, u.2.2.2.2.2.2.2.2.2.2.2.2.2.2.2.2.2.2.2.2.2.2.1, u.2.2.2.2.2.2.2.2.2.2.2.2.2.2.2.2.2.2.2.2.2.2.2.1, u.2.2.2.2.2.2.2.2.2.2.2.2.2.2.2.2.2.2.2.2.2.2.2.2.1, u.2.2.2.2.2.2.2.2.2.2.2.2.2.2.2.2.2.2.2.2.2.2.2.2.2.1, u.2.2.2.2.2.2.2.2.2.2.2.2.2.2.2.2.2.2.2.2.2.2.2.2.2.2.1, u.2.2.2.2.2.2.2.2.2.2.2.2.2.2.2.2.2.2.2.2.2.2.2.2.2.2.2)
def m_p_br (x : Int32) (u : MS) : MS := (u.1, u.2.1, u.2.2.1, u.2.2.2.1, u.2.2.2.2.1, x, u.2.2.2.2.2.2.1, u.2.2.2.2.2.2.2.1, u.2.2.2.2.2.2.2.2.1, u.2.2.2.2.2.2.2.2.2.1, u.2.2.2.2.2.2.2.2.2.2.1, u.2.2.2.2.2.2.2.2.2.2.2.1, u.2.2.2.2.2.2.2.2.2.2.2.2.1, u.2.2.2.2.2.2.2.2.2.2.2.2.2.1, u.2.2.2.2.2.2.2.2.2.2.2.2.2.2.1, u.2.2.2.2.2.2.2.2.2.2.2.2.2.2.2.1, u.2.2.2.2.2.2.2.2.2.2.2.2.2.2.2.2.1, u.2.2.2.2.2.2.2.2.2.2.2.2.2.2.2.2.2.1, u.2.2.2.2.2.2.2.2.2.2.2.2.2.2.2.2.2.2.1, u.2.2.2.2.2.2.2.2.2.2.2.2.2.2.2.2.2.2.2.1, u.2.2.2.2.2.2.2.2.2.2.2.2.2.2.2.2.2.2.2.2.1, u.2.2.2.2.2.2.2.2.2.2.2.2.2.2.2.2.2.2.2.2.2.1, u.2.2.2.2.2.2.2.2.2.2.2.2.2.2.2.2.2.2.2.2.2.2.1, u.2.2.2.2.2.2.2.2.2.2.2.2.2.2.2.2.2.2.2.2.2.2.2.1, u.2.2.2.2.2.2.2.2.2.2.2.2.2.2.2.2.2.2.2.2.2.2.2.2.1, u.2.2.2.2.2.2.2.2.2.2.2.2.2.2.2.2.2.2.2.2.2.2.2.2.2.1, u.2.2.2.2.2.2.2.2.2.2.2.2.2.2.2.2.2.2.2.2.2.2.2.2.2.2.1, u.2.2.2.2.2.2.2.2.2.2.2.2.2.2.2.2.2.2.2.2.2.2.2.2.2.2.2)
def m_p_xf (x : Int32) (u : MS) : MS := (u.1, u.2.1, u.2.2.1, u.2.2.2.1, u.2.2.2.2.1, u.2.2.2.2.2.1, x, u.2.2.2.2.2.2.2.1, u.2.2.2.2.2.2.2.2.1, u.2.2.2.2.2.2.2.2.2.1, u.2.2.2.2.2.2.2.2.2.2.1, u.2.2.2.2.2.2.2.2.2.2.2.1, u.2.2.2.2.2.2.2.2.2.2.2.2.1, u.2.2.2.2.2.2.2.2.2.2.2.2.2.1, u.2.2.2.2.2.2.2.2.2.2.2.2.2.2.1, u.2.2.2.2.2.2.2.2.2.2.2.2.2.2.2.1, u.2.2.2.2.2.2.2.2.2.2.2.2.2.2.2.2.1, u.2.2.2.2.2.2.2.2.2.2.2.2.2.2.2.2.2.1, u.2.2.2.2.2.2.2.2.2.2.2.2.2.2.2.2.2.2.1, u.2.2.2.2.2.2.2.2.2.2.2.2.2.2.2.2.2.2.2.1, u.2.2.2.2.2.2.2.2.2.2.2.2.2.2.2.2.2.2.2.2.1, u.2.2.2.2.2.2.2.2.2.2.2.2.2.2.2.2.2.2.2.2.2.1, u.2.2.2.2.2.2.2.2.2.2.2.2.2.2.2.2.2.2.2.2.2.2.1, u.2.2.2.2.2.2.2.2.2.2.2.2.2.2.2.2.2.2.2.2.2.2.2.1, u.2.2.2.2.2.2.2.2.2.2.2.2.2.2.2.2.2.2.2.2.2.2.2.2.1, u.2.2.2.2.2.2.2.2.2.2.2.2.2.2.2.2.2.2.2.2.2.2.2.2.2.1, u.2.2.2.2.2.2.2.2.2.2.2.2.2.2.2.2.2.2.2.2.2.2.2.2.2.2.1, u.2.2.2.2.2.2.2.2.2.2.2.2.2.2.2.2.2.2.2.2.2.2.2.2.2.2.2)
def m_p_tr (x : Int32) (u : MS) : MS := (u.1, u.2.1, u.2.2.1, u.2.2.2.1, u.2.2.2.2.1, u.2.2.2.2.2.1, u.2.2.2.2.2.2.1, x, u.2.2.2.2.2.2.2.2.1, u.2.2.2.2.2.2.2.2.2.1, u.2.2.2.2.2.2.2.2.2.2.1, u.2.2.2.2.2.2.2.2.2.2.2.1, u.2.2.2.2.2.2.2.2.2.2.2.2.1, u.2.2.2.2.2.2.2.2.2.2.2.2.2.1, u.2.2.2.2.2.2.2.2.2.2.2.2.2.2.1, u.2.2.2.2.2.2.2.2.2.2.2.2.2.2.2.1, u.2.2.2.2.2.2.2.2.2.2.2.2.2.2.2.2.1, u.2.2.2.2.2.2.2.2.2.2.2.2.2.2.2.2.2.1, u.2.2.2.2.2.2.2.2.2.2.2.2.2.2.2.2.2.2.1, u.2.2.2.2.2.2.2.2.2.2.2.2.2.2.2.2.2.2.2.1, u.2.2.2.2.2.2.2.2.2.2.2.2.2.2.2.2.2.2.2.2.1, u.2.2.2.2.2.2.2.2.2.2.2.2.2.2.2.2.2.2.2.2.2.1, u.2.2.2.2.2.2.2.2.2.2.2.2.2.2.2.2.2.2.2.2.2.2.1, u.2.2.2.2.2.2.2.2.2.2.2.2.2.2.2.2.2.2.2.2.2.2.2.1, u.2.2.2.2.2.2.2.2.2.2.2.2.2.2.2.2.2.2.2.2.2.2.2.2.1, u.2.2.2.2.2.2.2.2.2.2.2.2.2.2.2.2.2.2.2.2.2.2.2.2.2.1, u.2.2.2.2.2.2.2.2.2.2.2.2.2.2.2.2.2.2.2.2.2.2.2.2.2.2.1, u.2.2.2.2.2.2.2.2.2.2.2.2.2.2.2.2.2.2.2.2.2.2.2.2.2.2.2)
def m_p_re (x : Int32) (u : MS) : MS := (u.1, u.2.1, u.2.2.1, u.2.2.2.1, u.2.2.2.2.1, u.2.2.2.2.2.1, u.2.2.2.2.2.2.1, u.2.2.2.2.2.2.2.1, x, u.2.2.2.2.2.2.2.2.2.1, u.2.2.2.2.2.2.2.2.2.2.1, u.2.2.2.2.2.2.2.2.2.2.2.1, u.2.2.2.2.2.2.2.2.2.2.2.2.1, u.2.2.2.2.2.2.2.2.2.2.2.2.2.1, u.2.2.2.2.2.2.2.2.2.2.2.2.2.2.1, u.2.2.2.2.2.2.2.2.2.2.2.2.2.2.2.1, u.2.2.2.2.2.2.2.2.2.2.2.2.2.2.2.2.1, u.2.2.2.2.2.2.2.2.2.2.2.2.2.2.2.2.2.1, u.2.2.2.2.2.2.2.2.2.2.2.2.2.2.2.2.2.2.1, u.2.2.2.2.2.2.2.2.2.2.2.2.2.2.2.2.2.2.2.1, u.2.2.2.2.2.2.2.2.2.2.2.2.2.2.2.2.2.2.2.2.1, u.2.2.2.2.2.2.2.2.2.2.2.2.2.2.2.2.2.2.2.2.2.1, u.2.2.2.2.2.2.2.2.2.2.2.2.2.2.2.2.2.2.2.2.2.2.1, u.2.2.2.2.2.2.2.2.2.2.2.2.2.2.2.2.2.2.2.2.2.2.2.1, u.2.2.2.2.2.2.2.2.2.2.2.2.2.2.2.2.2.2.2.2.2.2.2.2.1, u.2.2.2.2.2.2.2.2.2.2.2.2.2.2.2.2.2.2.2.2.2.2.2.2.2.1, u.2.2.2.2.2.2.2.2.2.2.2.2.2.2.2.2.2.2.2.2.2.2.2.2.2.2.1, u.2.2.2.2.2.2.2.2.2.2.2.2.2.2.2.2.2.2.2.2.2.2.2.2.2.2.2)
def m_p_rb (x : Int32) (u : MS) : MS := (u.1, u.2.1, u.2.2.1, u.2.2.2.1, u.2.2.2.2.1, u.2.2.2.2.2.1, u.2.2.2.2.2.2.1, u.2.2.2.2.2.2.2.1, u.2.2.2.2.2.2.2.2.1, x, u.2.2.2.2.2.2.2.2.2.2.1, u.2.2.2.2.2.2.2.2.2.2.2.1, u.2.2.2.2.2.2.2.2.2.2.2.2.1, u.2.2.2.2.2.2.2.2.2.2.2.2.2.1, u.2.2.2.2.2.2.2.2.2.2.2.2.2.2.1, u.2.2.2.2.2.2.2.2.2.2.2.2.2.2.2.1, u.2.2.2.2.2.2.2.2.2.2.2.2.2.2.2.2.1, u.2.2.2.2.2.2.2.2.2.2.2.2.2.2.2.2.2.1, u.2.2.2.2.2.2.2.2.2.2.2.2.2.2.2.2.2.2.1, u.2.2.2.2.2.2.2.2.2.2.2.2.2.2.2.2.2.2.2.1, u.2.2.2.2.2.2.2.2.2.2.2.2.2.2.2.2.2.2.2.2.1, u.2.2.2.2.2.2.2.2.2.2.2.2.2.2.2.2.2.2.2.2.2.1, u.2.2.2.2.2.2.2.2.2.2.2.2.2.2.2.2.2.2.2.2.2.2.1, u.2.2.2.2.2.2.2.2.2.2.2.2.2.2.2.2.2.2.2.2.2.2.2.1, u.2.2.2.2.2.2.2.2.2.2.2.2.2.2.2.2.2.2.2.2.2.2.2.2.1, u.2.2.2.2.2.2.2.2.2.2.2.2.2.2.2.2.2.2.2.2.2.2.2.2.2.1, u.2.2.2.2.2.2.2.2.2.2.2.2.2.2.2.2.2.2.2.2.2.2.2.2.2.2.1, u.2.2.2.2.2.2.2.2.2.2.2.2.2.2.2.2.2.2.2.2.2.2.2.2.2.2.2)
def m_p_rf (x : Int32) (u : MS) : MS := (u.1, u.2.1, u.2.2.1, u.2.2.2.1, u.2.2.2.2.1, u.2.2.2.2.2.1, u.2.2.2.2.2.2.1, u.2.2.2.2.2.2.2.1, u.2.2.2.2.2.2.2.2.1, u.2.2.2.2.2.2.2.2.2.1, x, u.2.2.2.2.2.2.2.2.2.2.2.1, u.2.2.2.2.2.2.2.2.2.2.2.2.1, u.2.2.2.2.2.2.2.2.2.2.2.2.2.1, u.2.2.2.2.2.2.2.2.2.2.2.2.2.2.1, u.2.2.2.2.2.2.2.2.2.2.2.2.2.2.2.1, u.2.2.2.2.2.2.2.2.2.2.2.2.2.2.2.2.1, u.2.2.2.2.2.2.2.2.2.2.2.2.2.2.2.2.2.1, u.2.2.2.2.2.2.2.2.2.2.2.2.2.2.2.2.2.2.1, u.2.2.2.2.2.2.2.2.2.2.2.2.2.2.2.2.2.2.2.1, u.2.2.2.2.2.2.2.2.2.2.2.2.2.2.2.2.2.2.2.2.1, u.2.2.2.2.2.2.2.2.2.2.2.2.2.2.2.2.2.2.2.2.2.1, u.2.2.2.2.2.2.2.2.2.2.2.2.2.2.2.2.2.2.2.2.2.2.1, u.2.2.2.2.2.2.2.2.2.2.2.2.2.2.2.2.2.2.2.2.2.2.2.1, u.2.2.2.2.2.2.2.2.2.2.2.2.2.2.2.2.2.2.2.2.2.2.2.2.1, u.2.2.2.2.2.2.2.2.2.2.2.2.2.2.2.2.2.2.2.2.2.2.2.2.2.1, u.2.2.2.2.2.2.2.2.2.2.2.2.2.2.2.2.2.2.2.2.2.2.2.2.2.2.1, u.2.2.2.2.2.2.2.2.2.2.2.2.2.2.2.2.2.2.2.2.2.2.2.2.2.2.2)
def m_p_dp (x : Int32) (u : MS) : MS := (u.1, u.2.1, u.2.2.1, u.2.2.2.1, u.2.2.2.2.1, u.2.2.2.2.2.1, u.2.2.2.2.2.2.1, u.2.2.2.2.2.2.2.1, u.2.2.2.2.2.2.2.2.1, u.2.2.2.2.2.2.2.2.2.1, u.2.2.2.2.2.2.2.2.2.2.1, x, u.2.2.2.2.2.2.2.2.2.2.2.2.1, u.2.2.2.2.2.2.2.2.2.2.2.2.2.1, u.2.2.2.2.2.2.2.2.2.2.2.2.2.2.1, u.2.2.2.2.2.2.2.2.2.2.2.2.2.2.2.1, u.2.2.2.2.2.2.2.2.2.2.2.2.2.2.2.2.1, u.2.2.2.2.2.2.2.2.2.2.2.2.2.2.2.2.2.1, u.2.2.2.2.2.2.2.2.2.2.2.2.2.2.2.2.2.2.1, u.2.2.2.2.2.2.2.2.2.2.2.2.2.2.2.2.2.2.2.1, u.2.2.2.2.2.2.2.2.2.2.2.2.2.2.2.2.2.2.2.2.1, u.2.2.2.2.2.2.2.2.2.2.2.2.2.2.2.2.2.2.2.2.2.1, u.2.2.2.2.2.2.2.2.2.2.2.2.2.2.2.2.2.2.2.2.2.2.1, u.2.2.2.2.2.2.2.2.2.2.2.2.2.2.2.2.2.2.2.2.2.2.2.1, u.2.2.2.2.2.2.2.2.2.2.2.2.2.2.2.2.2.2.2.2.2.2.2.2.1, u.2.2.2.2.2.2.2.2.2.2.2.2.2.2.2.2.2.2.2.2.2.2.2.2.2.1, u.2.2.2.2.2.2.2.2.2.2.2.2.2.2.2.2.2.2.2.2.2.2.2.2.2.2.1, u.2.2.2.2.2.2.2.2.2.2.2.2.2.2.2.2.2.2.2.2.2.2.2.2.2.2.2)
def m_p_ch (x : (Nat → Int32)) (u : MS) : MS := (u.1, u.2.1, u.2.2.1, u.2.2.2.1, u.2.2.2.2.1, u.2.2.2.2.2.1, u.2.2.2.2.2.2.1, u.2.2.2.2.2.2.2.1, u.2.2.2.2.2.2.2.2.1, u.2.2.2.2.2.2.2.2.2.1, u.2.2.2.2.2.2.2.2.2.2.1, u.2.2.2.2.2.2.2.2.2.2.2.1, x, u.2.2.2.2.2.2.2.2.2.2.2.2.2.1, u.2.2.2.2.2.2.2.2.2.2.2.2.2.2.1, u.2.2.2.2.2.2.2.2.2.2.2.2.2.2.2.1, u.2.2.2.2.2.2.2.2.2.2.2.2.2.2.2.2.1, u.2.2.2.2.2.2.2.2.2.2.2.2.2.2.2.2.2.1, u.2.2.2.2.2.2.2.2.2.2.2.2.2.2.2.2.2.2.1, u.2.2.2.2.2.2.2.2.2.2.2.2.2.2.2.2.2.2.2.1, u.2.2.2.2.2.2.2.2.2.2.2.2.2.2.2.2.2.2.2.2.1, u.2.2.2.2.2.2.2.2.2.2.2.2.2.2.2.2.2.2.2.2.2.1, u.2.2.2.2.2.2.2.2.2.2.2.2.2.2.2.2.2.2.2.2.2.2.1, u.2.2.2.2.2.2.2.2.2.2.2.2.2.2.2.2.2.2.2.2.2.2.2.1, u.2.2.2.2.2.2.2.2.2.2.2.2.2.2.2.2.2.2.2.2.2.2.2.2.1, u.2.2.2.2.2.2.2.2.2.2.2.2.2.2.2.2.2.2.2.2.2.2.2.2.2.1, u.2.2.2.2.2.2.2.2.2.2.2.2.2.2.2.2.2.2.2.2.2.2.2.2.2.2.1, u.2.2.2.2.2.2.2.2.2.2.2.2.2.2.2.2.2.2.2.2.2.2.2.2.2.2.2)
def m_p_ki (x : (Nat → Int32)) (u : MS) : MS := (u.1, u.2.1, u.2.2.1, u.2.2.2.1, u.2.2.2.2.1, u.2.2.2.2.2.1, u.2.2.2.2.2.2.1, u.2.2.2.2.2.2.2.1, u.2.2.2.2.2.2.2.2.1, u.2.2.2.2.2.2.2.2.2.1, u.2.2.2.2.2.2.2.2.2.2.1, u.2.2.2.2.2.2.2.2.2.2.2.1, u.2.2.2.2.2.2.2.2.2.2.2.2.1, x, u.2.2.2.2.2.2.2.2.2.2.2.2.2.2.1, u.2.2.2.2.2.2.2.2.2.2.2.2.2.2.2.1, u.2.2.2.2.2.2.2.2.2.2.2.2.2.2.2.2.1, u.2.2.2.2.2.2.2.2.2.2.2.2.2.2.2.2.2.1, u.2.2.2.2.2.2.2.2.2.2.2.2.2.2.2.2.2.2.1, u.2.2.2.2.2.2.2.2.2.2.2.2.2.2.2.2.2.2.2.1, u.2.2.2.2.2.2.2.2.2.2.2.2.2.2.2.2.2.2.2.2.1, u.2.2.2.2.2.2.2.2.2.2.2.2.2.2.2.2.2.2.2.2.2.1, u.2.2.2.2.2.2.2.2.2.2.2.2.2.2.2.2.2.2.2.2.2.2.1, u.2.2.2.2.2.2.2.2.2.2.2.2.2.2.2.2.2.2.2.2.2.2.2.1, u.2.2.2.2.2.2.2.2.2.2.2.2.2.2.2.2.2.2.2.2.2.2.2.2.1, u.2.2.2.2.2.2.2.2.2.2.2.2.2.2.2.2.2.2.2.2.2.2.2.2.2.1, u.2.2.2.2.2.2.2.2.2.2.2.2.2.2.2.2.2.2.2.2.2.2.2.2.2.2.1, u.2.2.2.2.2.2.2.2.2.2.2.2.2.2.2.2.2.2.2.2.2.2.2.2.2.2.2)
def m_p_ow (x : (Nat → Int32)) (u : MS) : MS := (u.1, u.2.1, u.2.2.1, u.2.2.2.1, u.2.2.2.2.1, u.2.2.2.2.2.1, u.2.2.2.2.2.2.1, u.2.2.2.2.2.2.2.1, u.2.2.2.2.2.2.2.2.1, u.2.2.2.2.2.2.2.2.2.1, u.2.2.2.2.2.2.2.2.2.2.1, u.2.2.2.2.2.2.2.2.2.2.2.1, u.2.2.2.2.2.2.2.2.2.2.2.2.1, u.2.2.2.2.2.2.2.2.2.2.2.2.2.1, x, u.2.2.2.2.2.2.2.2.2.2.2.2.2.2.2.1, u.2.2.2.2.2.2.2.2.2.2.2.2.2.2.2.2.1, u.2.2.2.2.2.2.2.2.2.2.2.2.2.2.2.2.2.1, u.2.2.2.2.2.2.2.2.2.2.2.2.2.2.2.2.2.2.1, u.2.2.2.2.2.2.2.2.2.2.2.2.2.2.2.2.2.2.2.1, u.2.2.2.2.2.2.2.2.2.2.2.2.2.2.2.2.2.2.2.2.1, u.2.2.2.2.2.2.2.2.2.2.2.2.2.2.2.2.2.2.2.2.2.1, u.2.2.2.2.2.2.2.2.2.2.2.2.2.2.2.2.2.2.2.2.2.2.1, u.2.2.2.2.2.2.2.2.2.2.2.2.2.2.2.2.2.2.2.2.2.2.2.1, u.2.2.2.2.2.2.2.2.2.2.2.2.2.2.2.2.2.2.2.2.2.2.2.2.1, u.2.2.2.2.2.2.2.2.2.2.2.2.2.2.2.2.2.2.2.2.2.2.2.2.2.1, u.2.2.2.2.2.2.2.2.2.2.2.2.2.2.2.2.2.2.2.2.2.2.2.2.2.2.1, u.2.2.2.2.2.2.2.2.2.2.2.2.2.2.2.2.2.2.2.2.2.2.2.2.2.2.2)
def m_p_ab (x : (Nat → Int32)) (u : MS) : MS := (u.1, u.2.1, u.2.2.1, u.2.2.2.1, u.2.2.2.2.1, u.2.2.2.2.2.1, u.2.2.2.2.2.2.1, u.2.2.2.2.2.2.2.1, u.2.2.2.2.2.2.2.2.1, u.2.2.2.2.2.2.2.2.2.1, u.2.2.2.2.2.2.2.2.2.2.1, u.2.2.2.2.2.2.2.2.2.2.2.1, u.2.2.2.2.2.2.2.2.2.2.2.2.1, u.2.2.2.2.2.2.2.2.2.2.2.2.2.1, u.2.2.2.2.2.2.2.2.2.2.2.2.2.2.1, x, u.2.2.2.2.2.2.2.2.2.2.2.2.2.2.2.2.1, u.2.2.2.2.2.2.2.2.2.2.2.2.2.2.2.2.2.1, u.2.2.2.2.2.2.2.2.2.2.2.2.2.2.2.2.2.2.1, u.2.2.2.2.2.2.2.2.2.2.2.2.2.2.2.2.2.2.2.1, u.2.2.2.2.2.2.2.2.2.2.2.2.2.2.2.2.2.2.2.2.1, u.2.2.2.2.2.2.2.2.2.2.2.2.2.2.2.2.2.2.2.2.2.1, u.2.2.2.2.2.2.2.2.2.2.2.2.2.2.2.2.2.2.2.2.2.2.1, u.2.2.2.2.2.2.2.2.2.2.2.2.2.2.2.2.2.2.2.2.2.2.2.1, u.2.2.2.2.2.2.2.2.2.2.2.2.2.2.2.2.2.2.2.2.2.2.2.2.1, u.2.2.2.2.2.2.2.2.2.2.2.2.2.2.2.2.2.2.2.2.2.2.2.2.2.1, u.2.2.2.2.2.2.2.2.2.2.2.2.2.2.2.2.2.2.2.2.2.2.2.2.2.2.1, u.2.2.2.2.2.2.2.2.2.2.2.2.2.2.2.2.2.2.2.2.2.2.2.2.2.2.2)
def m_p_su (x : (Nat → Int32)) (u : MS) : MS := (u.1, u.2.1, u.2.2.1, u.2.2.2.1, u.2.2.2.2.1, u.2.2.2.2.2.1, u.2.2.2.2.2.2.1, u.2.2.2.2.2.2.2.1, u.2.2.2.2.2.2.2.2.1, u.2.2.2.2.2.2.2.2.2.1, u.2.2.2.2.2.2.2.2.2.2.1, u.2.2.2.2.2.2.2.2.2.2.2.1, u.2.2.2.2.2.2.2.2.2.2.2.2.1, u.2.2.2.2.2.2.2.2.2.2.2.2.2.1, u.2.2.2.2.2.2.2.2.2.2.2.2.2.2.1, u.2.2.2.2.2.2.2.2.2.2.2.2.2.2.2.1, x, u.2.2.2.2.2.2.2.2.2.2.2.2.2.2.2.2.2.1, u.2.2.2.2.2.2.2.2.2.2.2.2.2.2.2.2.2.2.1, u.2.2.2.2.2.2.2.2.2.2.2.2.2.2.2.2.2.2.2.1, u.2.2.2.2.2.2.2.2.2.2.2.2.2.2.2.2.2.2.2.2.1, u.2.2.2.2.2.2.2.2.2.2.2.2.2.2.2.2.2.2.2.2.2.1, u.2.2.2.2.2.2.2.2.2.2.2.2.2.2.2.2.2.2.2.2.2.2.1, u.2.2.2.2.2.2.2.2.2.2.2.2.2.2.2.2.2.2.2.2.2.2.2.1, u.2.2.2.2.2.2.2.2.2.2.2.2.2.2.2.2.2.2.2.2.2.2.2.2.1, u.2.2.2.2.2.2.2.2.2.2.2.2.2.2.2.2.2.2.2.2.2.2.2.2.2.1, u.2.2.2.2.2.2.2.2.2.2.2.2.2.2.2.2.2.2.2.2.2.2.2.2.2.2.1, u.2.2.2.2.2.2.2.2.2.2.2.2.2.2.2.2.2.2.2.2.2.2.2.2.2.2.2)
def m_p_nk (x : (Nat → Int32)) (u : MS) : MS := (u.1, u.2.1, u.2.2.1, u.2.2.2.1, u.2.2.2.2.1, u.2.2.2.2.2.1, u.2.2.2.2.2.2.1, u.2.2.2.2.2.2.2.1, u.2.2.2.2.2.2.2.2.1, u.2.2.2.2.2.2.2.2.2.1, u.2.2.2.2.2.2.2.2.2.2.1, u.2.2.2.2.2.2.2.2.2.2.2.1, u.2.2.2.2.2.2.2.2.2.2.2.2.1, u.2.2.2.2.2.2.2.2.2.2.2.2.2.1, u.2.2.2.2.2.2.2.2.2.2.2.2.2.2.1, u.2.2.2.2.2.2.2.2.2.2.2.2.2.2.2.1, u.2.2.2.2.2.2.2.2.2.2.2.2.2.2.2.2.1, x, u.2.2.2.2.2.2.2.2.2.2.2.2.2.2.2.2.2.2.1, u.2.2.2.2.2.2.2.2.2.2.2.2.2.2.2.2.2.2.2.1, u.2.2.2.2.2.2.2.2.2.2.2.2.2.2.2.2.2.2.2.2.1, u.2.2.2.2.2.2.2.2.2.2.2.2.2.2.2.2.2.2.2.2.2.1, u.2.2.2.2.2.2.2.2.2.2.2.2.2.2.2.2.2.2.2.2.2.2.1, u.2.2.2.2.2.2.2.2.2.2.2.2.2.2.2.2.2.2.2.2.2.2.2.1, u.2.2.2.2.2.2.2.2.2.2.2.2.2.2.2.2.2.2.2.2.2.2.2.2.1, u.2.2.2.2.2.2.2.2.2.2.2.2.2.2.2.2.2.2.2.2.2.2.2.2.2.1, u.2.2.2.2.2.2.2.2.2.2.2.2.2.2.2.2.2.2.2.2.2.2.2.2.2.2.1, u.2.2.2.2.2.2.2.2.2.2.2.2.2.2.2.2.2.2.2.2.2.2.2.2.2.2.2)
def m_p_no (x : (Nat → Int32)) (u : MS) : MS := (u.1, u.2.1, u.2.2.1, u.2.2.2.1, u.2.2.2.2.1, u.2.2.2.2.2.1, u.2.2.2.2.2.2.1, u.2.2.2.2.2.2.2.1, u.2.2.2.2.2.2.2.2.1, u.2.2.2.2.2.2.2.2.2.1, u.2.2.2.2.2.2.2.2.2.2.1, u.2.2.2.2.2.2.2.2.2.2.2.1, u.2.2.2.2.2.2.2.2.2.2.2.2.1, u.2.2.2.2.2.2.2.2.2.2.2.2.2.1, u.2.2.2.2.2.2.2.2.2.2.2.2.2.2.1, u.2.2.2.2.2.2.2.2.2.2.2.2.2.2.2.1, u.2.2.2.2.2.2.2.2.2.2.2.2.2.2.2.2.1, u.2.2.2.2.2.2.2.2.2.2.2.2.2.2.2.2.2.1, x, u.2.2.2.2.2.2.2.2.2.2.2.2.2.2.2.2.2.2.2.1, u.2.2.2.2.2.2.2.2.2.2.2.2.2.2.2.2.2.2.2.2.1, u.2.2.2.2.2.2.2.2.2.2.2.2.2.2.2.2.2.2.2.2.2.1, u.2.2.2.2.2.2.2.2.2.2.2.2.2.2.2.2.2.2.2.2.2.2.1, u.2.2.2.2.2.2.2.2.2.2.2.2.2.2.2.2.2.2.2.2.2.2.2.1, u.2.2.2.2.2.2.2.2.2.2.2.2.2.2.2.2.2.2.2.2.2.2.2.2.1, u.2.2.2.2.2.2.2.2.2.2.2.2.2.2.2.2.2.2.2.2.2.2.2.2.2.1, u.2.2.2.2.2.2.2.2.2.2.2.2.2.2.2.2.2.2.2.2.2.2.2.2.2.2.1, u.2.2.2.2.2.2.2.2.2.2.2.2.2.2.2.2.2.2.2.2.2.2.2.2.2.2.2)
def m_p_na (x : (Nat → Int32)) (u : MS) : MS := (u.1, u.2.1, u.2.2.1, u.2.2.2.1, u.2.2.2.2.1, u.2.2.2.2.2.1, u.2.2.2.2.2.2.1, u.2.2.2.2.2.2.2.1, u.2.2.2.2.2.2.2.2.1, u.2.2.2.2.2.2.2.2.2.1, u.2.2.2.2.2.2.2.2.2.2.1, u.2.2.2.2.2.2.2.2.2.2.2.1, u.2.2.2.2.2.2.2.2.2.2.2.2.1, u.2.2.2.2.2.2.2.2.2.2.2.2.2.1, u.2.2.2.2.2.2.2.2.2.2.2.2.2.2.1, u.2.2.2.2.2.2.2.2.2.2.2.2.2.2.2.1, u.2.2.2.2.2.2.2.2.2.2.2.2.2.2.2.2.1, u.2.2.2.2.2.2.2.2.2.2.2.2.2.2.2.2.2.1, u.2.2.2.2.2.2.2.2.2.2.2.2.2.2.2.2.2.2.1, x, u.2.2.2.2.2.2.2.2.2.2.2.2.2.2.2.2.2.2.2.2.1, u.2.2.2.2.2.2.2.2.2.2.2.2.2.2.2.2.2.2.2.2.2.1, u.2.2.2.2.2.2.2.2.2.2.2.2.2.2.2.2.2.2.2.2.2.2.1, u.2.2.2.2.2.2.2.2.2.2.2.2.2.2.2.2.2.2.2.2.2.2.2.1, u.2.2.2.2.2.2.2.2.2.2.2.2.2.2.2.2.2.2.2.2.2.2.2.2.1, u.2.2.2.2.2.2.2.2.2.2.2.2.2.2.2.2.2.2.2.2.2.2.2.2.2.1, u.2.2.2.2.2.2.2.2.2.2.2.2.2.2.2.2.2.2.2.2.2.2.2.2.2.2.1, u.2.2.2.2.2.2.2.2.2.2.2.2.2.2.2.2.2.2.2.2.2.2.2.2.2.2.2)
def m_p_ns (x : (Nat → Int32)) (u : MS) : MS := (u.1, u.2.1, u.2.2.1, u.2.2.2.1, u.2.2.2.2.1, u.2.2.2.2.2.1, u.2.2.2.2.2.2.1, u.2.2.2.2.2.2.2.1, u.2.2.2.2.2.2.2.2.1, u.2.2.2.2.2.2.2.2.2.1, u.2.2.2.2.2.2.2.2.2.2.1, u.2.2.2.2.2.2.2.2.2.2.2.1, u.2.2.2.2.2.2.2.2.2.2.2.2.1, u.2.2.2.2.2.2.2.2.2.2.2.2.2.1, u.2.2.2.2.2.2.2.2.2.2.2.2.2.2.1, u.2.2.2.2.2.2.2.2.2.2.2.2.2.2.2.1, u.2.2.2.2.2.2.2.2.2.2.2.2.2.2.2.2.1, u.2.2.2.2.2.2.2.2.2.2.2.2.2.2.2.2.2.1, u.2.2.2.2.2.2.2.2.2.2.2.2.2.2.2.2.2.2.1, u.2.2.2.2.2.2.2.2.2.2.2.2.2.2.2.2.2.2.2.1, x, u.2.2.2.2.2.2.2.2.2.2.2.2.2.2.2.2.2.2.2.2.2.1, u.2.2.2.2.2.2.2.2.2.2.2.2.2.2.2.2.2.2.2.2.2.2.1, u.2.2.2.2.2.2.2.2.2.2.2.2.2.2.2.2.2.2.2.2.2.2.2.1, u.2.2.2.2.2.2.2.2.2.2.2.2.2.2.2.2.2.2.2.2.2.2.2.2.1, u.2.2.2.2.2.2.2.2.2.2.2.2.2.2.2.2.2.2.2.2.2.2.2.2.2.1, u.2.2.2.2.2.2.2.2.2.2.2.2.2.2.2.2.2.2.2.2.2.2.2.2.2.2.1, u.2.2.2.2.2.2.2.2.2.2.2.2.2.2.2.2.2.2.2.2.2.2.2.2.2.2.2)
def m_p_he (x : (Nat → Int32)) (u : MS) : MS := (u.1, u.2.1, u.2.2.1, u.2.2.2.1, u.2.2.2.2.1, u.2.2.2.2.2.1, u.2.2.2.2.2.2.1, u.2.2.2.2.2.2.2.1, u.2.2.2.2.2.2.2.2.1, u.2.2.2.2.2.2.2.2.2.1, u.2.2.2.2.2.2.2.2.2.2.1, u.2.2.2.2.2.2.2.2.2.2.2.1, u.2.2.2.2.2.2.2.2.2.2.2.2.1, u.2.2.2.2.2.2.2.2.2.2.2.2.2.1, u.2.2.2.2.2.2.2.2.2.2.2.2.2.2.1, u.2.2.2.2.2.2.2.2.2.2.2.2.2.2.2.1, u.2.2.2.2.2.2.2.2.2.2.2.2.2.2.2.2.1, u.2.2.2.2.2.2.2.2.2.2.2.2.2.2.2.2.2.1, u.2.2.2.2.2.2.2.2.2.2.2.2.2.2.2.2.2.2.1, u.2.2.2.2.2.2.2.2.2.2.2.2.2.2.2.2.2.2.2.1, u.2.2.2.2.2.2.2.2.2.2.2.2.2.2.2.2.2.2.2.2.1, x, u.2.2.2.2.2.2.2.2.2.2.2.2.2.2.2.2.2.2.2.2.2.2.1, u.2.2.2.2.2.2.2.2.2.2.2.2.2.2.2.2.2.2.2.2.2.2.2.1, u.2.2.2.2.2.2.2.2.2.2.2.2.2.2.2.2.2.2.2.2.2.2.2.2.1, u.2.2.2.2.2.2.2.2.2.2.2.2.2.2.2.2.2.2.2.2.2.2.2.2.2.1, u.2.2.2.2.2.2.2.2.2.2.2.2.2.2.2.2.2.2.2.2.2.2.2.2.2.2.1, u.2.2.2.2.2.2.2.2.2.2.2.2.2.2.2.2.2.2.2.2.2.2.2.2.2.2.2)
def m_p_op (x : (Nat → Int32)) (u : MS) : MS := (u.1, u.2.1, u.2.2.1, u.2.2.2.1, u.2.2.2.2.1, u.2.2.2.2.2.1, u.2.2.2.2.2.2.1, u.2.2.2.2.2.2.2.1, u.2.2.2.2.2.2.2.2.1, u.2.2.2.2.2.2.2.2.2.1, u.2.2.2.2.2.2.2.2.2.2.1, u.2.2.2.2.2.2.2.2.2.2.2.1, u.2.2.2.2.2.2.2.2.2.2.2.2.1, u.2.2.2.2.2.2.2.2.2.2.2.2.2.1, u.2.2.2.2.2.2.2.2.2.2.2.2.2.2.1, u.2.2.2.2.2.2.2.2.2.2.2.2.2.2.2.1, u.2.2.2.2.2.2.2.2.2.2.2.2.2.2.2.2.1, u.2.2.2.2.2.2.2.2.2.2.2.2.2.2.2.2.2.1, u.2.2.2.2.2.2.2.2.2.2.2.2.2.2.2.2.2.2.1, u.2.2.2.2.2.2.2.2.2.2.2.2.2.2.2.2.2.2.2.1, u.2.2.2.2.2.2.2.2.2.2.2.2.2.2.2.2.2.2.2.2.1, u.2.2.2.2.2.2.2.2.2.2.2.2.2.2.2.2.2.2.2.2.2.1, x, u.2.2.2.2.2.2.2.2.2.2.2.2.2.2.2.2.2.2.2.2.2.2.2.1, u.2.2.2.2.2.2.2.2.2.2.2.2.2.2.2.2.2.2.2.2.2.2.2.2.1, u.2.2.2.2.2.2.2.2.2.2.2.2.2.2.2.2.2.2.2.2.2.2.2.2.2.1, u.2.2.2.2.2.2.2.2.2.2.2.2.2.2.2.2.2.2.2.2.2.2.2.2.2.2.1, u.2.2.2.2.2.2.2.2.2.2.2.2.2.2.2.2.2.2.2.2.2.2.2.2.2.2.2)
def m_p_le (x : (Nat → Int32)) (u : MS) : MS := (u.1, u.2.1, u.2.2.1, u.2.2.2.1, u.2.2.2.2.1, u.2.2.2.2.2.1, u.2.2.2.2.2.2.1, u.2.2.2.2.2.2.2.1, u.2.2.2.2.2.2.2.2.1, u.2.2.2.2.2.2.2.2.2.1, u.2.2.2.2.2.2.2.2.2.2.1, u.2.2.2.2.2.2.2.2.2.2.2.1, u.2.2.2.2.2.2.2.2.2.2.2.2.1, u.2.2.2.2.2.2.2.2.2.2.2.2.2.1, u.2.2.2.2.2.2.2.2.2.2.2.2.2.2.1, u.2.2.2.2.2.2.2.2.2.2.2.2.2.2.2.1, u.2.2.2.2.2.2.2.2.2.2.2.2.2.2.2.2.1, u.2.2.2.2.2.2.2.2.2.2.2.2.2.2.2.2.2.1, u.2.2.2.2.2.2.2.2.2.2.2.2.2.2.2.2.2.2.1, u.2.2.2.2.2.2.2.2.2.2.2.2.2.2.2.2.2.2.2.1, u.2.2.2.2.2.2.2.2.2.2.2.2.2.2.2.2.2.2.2.2.1, u.2.2.2.2.2.2.2.2.2.2.2.2.2.2.2.2.2.2.2.2.2.1, u.2.2.2.2.2.2.2.2.2.2.2.2.2.2.2.2.2.2.2.2.2.2.1, x, u.2.2.2.2.2.2.2.2.2.2.2.2.2.2.2.2.2.2.2.2.2.2.2.2.1, u.2.2.2.2.2.2.2.2.2.2.2.2.2.2.2.2.2.2.2.2.2.2.2.2.2.1, u.2.2.2.2.2.2.2.2.2.2.2.2.2.2.2.2.2.2.2.2.2.2.2.2.2.2.1, u.2.2.2.2.2.2.2.2.2.2.2.2.2.2.2.2.2.2.2.2.2.2.2.2.2.2.2)
def m_p_nu (x : (Nat → Int32)) (u : MS) : MS := (u.1, u.2.1, u.2.2.1, u.2.2.2.1, u.2.2.2.2.1, u.2.2.2.2.2.1, u.2.2.2.2.2.2.1, u.2.2.2.2.2.2.2.1, u.2.2.2.2.2.2.2.2.1, u.2.2.2.2.2.2.2.2.2.1, u.2.2.2.2.2.2.2.2.2.2.1, u.2.2.2.2.2.2.2.2.2.2.2.1, u.2.2.2.2.2.2.2.2.2.2.2.2.1, u.2.2.2.2.2.2.2.2.2.2.2.2.2.1, u.2.2.2.2.2.2.2.2.2.2.2.2.2.2.1, u.2.2.2.2.2.2.2.2.2.2.2.2.2.2.2.1, u.2.2.2.2.2.2.2.2.2.2.2.2.2.2.2.2.1, u.2.2.2.2.2.2.2.2.2.2.2.2.2.2.2.2.2.1, u.2.2.2.2.2.2.2.2.2.2.2.2.2.2.2.2.2.2.1, u.2.2.2.2.2.2.2.2.2.2.2.2.2.2.2.2.2.2.2.1, u.2.2.2.2.2.2.2.2.2.2.2.2.2.2.2.2.2.2.2.2.1, u.2.2.2.2.2.2.2.2.2.2.2.2.2.2.2.2.2.2.2.2.2.1, u.2.2.2.2.2.2.2.2.2.2.2.2.2.2.2.2.2.2.2.2.2.2.1, u.2.2.2.2.2.2.2.2.2.2.2.2.2.2.2.2.2.2.2.2.2.2.2.1, x, u.2.2.2.2.2.2.2.2.2.2.2.2.2.2.2.2.2.2.2.2.2.2.2.2.2.1, u.2.2.2.2.2.2.2.2.2.2.2.2.2.2.2.2.2.2.2.2.2.2.2.2.2.2.1, u.2.2.2.2.2.2.2.2.2.2.2.2.2.2.2.2.2.2.2.2.2.2.2.2.2.2.2)
def m_p_lo (x : (Nat → Int32)) (u : MS) : MS := (u.1, u.2.1, u.2.2.1, u.2.2.2.1, u.2.2.2.2.1, u.2.2.2.2.2.1, u.2.2.2.2.2.2.1, u.2.2.2.2.2.2.2.1, u.2.2.2.2.2.2.2.2.1, u.2.2.2.2.2.2.2.2.2.1, u.2.2.2.2.2.2.2.2.2.2.1, u.2.2.2.2.2.2.2.2.2.2.2.1, u.2.2.2.2.2.2.2.2.2.2.2.2.1, u.2.2.2.2.2.2.2.2.2.2.2.2.2.1, u.2.2.2.2.2.2.2.2.2.2.2.2.2.2.1, u.2.2.2.2.2.2.2.2.2.2.2.2.2.2.2.1, u.2.2.2.2.2.2.2.2.2.2.2.2.2.2.2.2.1, u.2.2.2.2.2.2.2.2.2.2.2.2.2.2.2.2.2.1, u.2.2.2.2.2.2.2.2.2.2.2.2.2.2.2.2.2.2.1, u.2.2.2.2.2.2.2.2.2.2.2.2.2.2.2.2.2.2.2.1, u.2.2.2.2.2.2.2.2.2.2.2.2.2.2.2.2.2.2.2.2.1, u.2.2.2.2.2.2.2.2.2.2.2.2.2.2.2.2.2.2.2.2.2.1, u.2.2.2.2.2.2.2.2.2.2.2.2.2.2.2.2.2.2.2.2.2.2.1, u.2.2.2.2.2.2.2.2.2.2.2.2.2.2.2.2.2.2.2.2.2.2.2.1, u.2.2.2.2.2.2.2.2.2.2.2.2.2.2.2.2.2.2.2.2.2.2.2.2.1, x, u.2.2.2.2.2.2.2.2.2.2.2.2.2.2.2.2.2.2.2.2.2.2.2.2.2.2.1, u.2.2.2.2.2.2.2.2.2.2.2.2.2.2.2.2.2.2.2.2.2.2.2.2.2.2.2)
def m_p_mi (x : (Nat → Int32)) (u : MS) : MS := (u.1, u.2.1, u.2.2.1, u.2.2.2.1, u.2.2.2.2.1, u.2.2.2.2.2.1, u.2.2.2.2.2.2.1, u.2.2.2.2.2.2.2.1, u.2.2.2.2.2.2.2.2.1, u.2.2.2.2.2.2.2.2.2.1, u.2.2.2.2.2.2.2.2.2.2.1, u.2.2.2.2.2.2.2.2.2.2.2.1, u.2.2.2.2.2.2.2.2.2.2.2.2.1, u.2.2.2.2.2.2.2.2.2.2.2.2.2.1, u.2.2.2.2.2.2.2.2.2.2.2.2.2.2.1, u.2.2.2.2.2.2.2.2.2.2.2.2.2.2.2.1, u.2.2.2.2.2.2.2.2.2.2.2.2.2.2.2.2.1, u.2.2.2.2.2.2.2.2.2.2.2.2.2.2.2.2.2.1, u.2.2.2.2.2.2.2.2.2.2.2.2.2.2.2.2.2.2.1, u.2.2.2.2.2.2.2.2.2.2.2.2.2.2.2.2.2.2.2.1, u.2.2.2.2.2.2.2.2.2.2.2.2.2.2.2.2.2.2.2.2.1, u.2.2.2.2.2.2.2.2.2.2.2.2.2.2.2.2.2.2.2.2.2.1, u.2.2.2.2.2.2.2.2.2.2.2.2.2.2.2.2.2.2.2.2.2.2.1, u.2.2.2.2.2.2.2.2.2.2.2.2.2.2.2.2.2.2.2.2.2.2.2.1, u.2.2.2.2.2.2.2.2.2.2.2.2.2.2.2.2.2.2.2.2.2.2.2.2.1, u.2.2.2.2.2.2.2.2.2.2.2.2.2.2.2.2.2.2.2.2.2.2.2.2.2.1, x, u.2.2.2.2.2.2.2.2.2.2.2.2.2.2.2.2.2.2.2.2.2.2.2.2.2.2.2)
def m_p_hi (x : (Nat → Int32)) (u : MS) : MS := (u.1, u.2.1, u.2.2.1, u.2.2.2.1, u.2.2.2.2.1, u.2.2.2.2.2.1, u.2.2.2.2.2.2.1, u.2.2.2.2.2.2.2.1, u.2.2.2.2.2.2.2.2.1, u.2.2.2.2.2.2.2.2.2.1, u.2.2.2.2.2.2.2.2.2.2.1, u.2.2.2.2.2.2.2.2.2.2.2.1, u.2.2.2.2.2.2.2.2.2.2.2.2.1, u.2.2.2.2.2.2.2.2.2.2.2.2.2.1, u.2.2.2.2.2.2.2.2.2.2.2.2.2.2.1, u.2.2.2.2.2.2.2.2.2.2.2.2.2.2.2.1, u.2.2.2.2.2.2.2.2.2.2.2.2.2.2.2.2.1, u.2.2.2.2.2.2.2.2.2.2.2.2.2.2.2.2.2.1, u.2.2.2.2.2.2.2.2.2.2.2.2.2.2.2.2.2.2.1, u.2.2.2.2.2.2.2.2.2.2.2.2.2.2.2.2.2.2.2.1, u.2.2.2.2.2.2.2.2.2.2.2.2.2.2.2.2.2.2.2.2.1, u.2.2.2.2.2.2.2.2.2.2.2.2.2.2.2.2.2.2.2.2.2.1, u.2.2.2.2.2.2.2.2.2.2.2.2.2.2.2.2.2.2.2.2.2.2.1, u.2.2.2.2.2.2.2.2.2.2.2.2.2.2.2.2.2.2.2.2.2.2.2.1, u.2.2.2.2.2.2.2.2.2.2.2.2.2.2.2.2.2.2.2.2.2.2.2.2.1, u.2.2.2.2.2.2.2.2.2.2.2.2.2.2.2.2.2.2.2.2.2.2.2.2.2.1, u.2.2.2.2.2.2.2.2.2.2.2.2.2.2.2.2.2.2.2.2.2.2.2.2.2.2.1, x)
def m_W (ad : Nat → Nat) (cA : Nat → ClassId) (u : MS) : va_W := [(ad 0, .inr (5, [.ref (ad 1), .int (m_ty u), .int (m_si u), .int (m_at u), .int (m_fa u), .int (m_cl u), .int (m_br u), .int (m_xf u), .int (m_tr u), .ref (ad 2), .ref (ad 3), .ref (ad 4), .ref (ad 5), .int (m_re u), .int (m_rb u), .int (m_rf u), .int (m_dp u), .ref (ad 6), .ref (ad 7), .ref (ad 8), .ref (ad 9), .ref (ad 10), .ref (ad 11), .ref (ad 12), .ref (ad 13), .ref (ad 14), .ref (ad 15), .ref (ad 16)])), (ad 1, .inl (cA 0, 120, .inl (m_ch u))), (ad 2, .inl (cA 1, 20, .inl (m_ki u))), (ad 3, .inl (cA 2, 20, .inl (m_ow u))), (ad 4, .inl (cA 3, 20, .inl (m_ab u))), (ad 5, .inl (cA 4, 80, .inl (m_su u))), (ad 6, .inl (cA 5, 20, .inl (m_nk u))), (ad 7, .inl (cA 6, 20, .inl (m_no u))), (ad 8, .inl (cA 7, 20, .inl (m_na u))), (ad 9, .inl (cA 8, 80, .inl (m_ns u))), (ad 10, .inl (cA 9, 3, .inl (m_he u))), (ad 11, .inl (cA 10, 21, .inl (m_op u))), (ad 12, .inl (cA 11, 21, .inl (m_le u))), (ad 13, .inl (cA 12, 3, .inl (m_nu u))), (ad 14, .inl (cA 13, 24, .inl (m_lo u))), (ad 15, .inl (cA 14, 24, .inl (m_mi u))), (ad 16, .inl (cA 15, 24, .inl (m_hi u)))]
def m_T (cA : Nat → ClassId) : List (ClassId × FieldType) := [(cA 0, .int), (cA 1, .int), (cA 2, .int), (cA 3, .int), (cA 4, .int), (cA 5, .int), (cA 6, .int), (cA 7, .int), (cA 8, .int), (cA 9, .int), (cA 10, .int), (cA 11, .int), (cA 12, .int), (cA 13, .boolean), (cA 14, .boolean), (cA 15, .boolean)]
end
section
def f_T_hasRoomFor (a1 : Int32) (u : KS) : Option (Int32 × KS) := if 120 < ((k_ln u) + a1) then (gd (bz 0) (some (0, u))) else (gd (bz 1) (some (1, u)))
set_option maxRecDepth 100000 in
set_option maxHeartbeats 4000000 in
theorem c_T_hasRoomFor (l : Launch) (D : va_G) (ad : Nat → Nat) (cA : Nat → ClassId) {a1 : Int32} {u u0 : KS} {r0 : Int32} (h : f_T_hasRoomFor a1 u = some (r0, u0)) : g_M l y_T_hasRoomFor w_T_hasRoomFor { frames := 0, cells := 0, slots := 0, locals := 0 } D vwCl (k_T cA) (k_W ad cA u) [.ref (ad 1), .int a1] (some (.int r0)) (k_W ad cA u0) := by
  refine g_ofW (cc := c0_T_hasRoomFor) (maxL := 2) (ret := (some .boolean)) (by decide) rfl (Nat.le_of_ble_eq_true rfl) ?_
  intro p e s m below meth c A ls hx hb hr hml hown hts hlk hK hA hI hl
  have hts : ∀ w ∈ gW, w.before ([.ref (ad 1), .int a1] : List Value).toArray s = true := fun w h => hts w (List.mem_cons_of_mem _ h)
  have hown : s.vm.findClass R_T = some m.cls := hown
  have hl : lv_has ls 2 [(0, .ref (ad 1)), (1, .int a1)] := hl
  dsimp only [f_T_hasRoomFor] at h
  refine lv_aload_n hx hb d_T_hasRoomFor_0 rfl (lv_at hl 0 rfl) ?_
  refine g_get (v := .int (k_ln u)) hx hb hts in_T hown hK hI 1 rfl rfl 3 (by decide) (hts _ wd_25) rfl d_T_hasRoomFor_1 ?_
  refine lv_iload_n hx hb d_T_hasRoomFor_4 rfl (lv_at hl 1 rfl) ?_
  refine lv_iadd hx hb d_T_hasRoomFor_5 ?_
  refine lv_bipush (v := 120) hx hb d_T_hasRoomFor_6 (by decide) ?_
  refine lv_icmp_gt (tgt := 15) hx hb d_T_hasRoomFor_8 rfl (fun hc1 => ?_) (fun hc1 => ?_)
  · rw [if_pos hc1] at h
    refine lv_iconst (v := 0) hx hb d_T_hasRoomFor_15 (by decide) ?_
    exact g_zret (Wd := k_W ad cA) hx hb hr hlk hK hI h d_T_hasRoomFor_16
  · rw [if_neg hc1] at h
    refine lv_iconst (v := 1) hx hb d_T_hasRoomFor_11 (by decide) ?_
    refine lv_goto (tgt := 16) hx hb d_T_hasRoomFor_12 rfl ?_
    exact g_zret (Wd := k_W ad cA) hx hb hr hlk hK hI h d_T_hasRoomFor_16
def f_T_allows (a0 : Int32) (u : KS) : Option (Int32 × KS) := if a0 < 32 then (gd (bz 0) (some (0, u))) else (if 126 < a0 then (gd (bz 0) (some (0, u))) else (gd (bz 1) (some (1, u))))
set_option maxRecDepth 100000 in
set_option maxHeartbeats 4000000 in
theorem c_T_allows (l : Launch) (D : va_G) (ad : Nat → Nat) (cA : Nat → ClassId) {a0 : Int32} {u u0 : KS} {r0 : Int32} (h : f_T_allows a0 u = some (r0, u0)) : g_M l y_T_allows w_T_allows { frames := 0, cells := 0, slots := 0, locals := 0 } D vwCl (k_T cA) (k_W ad cA u) [.int a0] (some (.int r0)) (k_W ad cA u0) := by
  refine g_ofW (cc := c0_T_allows) (maxL := 1) (ret := (some .boolean)) (by decide) rfl (Nat.le_of_ble_eq_true rfl) ?_
  intro p e s m below meth c A ls hx hb hr hml hown hts hlk hK hA hI hl
  have hts : ∀ w ∈ gW, w.before ([.int a0] : List Value).toArray s = true := fun w h => hts w (List.mem_cons_of_mem _ h)
  have hown : s.vm.findClass R_T = some m.cls := hown
  have hl : lv_has ls 1 [(0, .int a0)] := hl
  dsimp only [f_T_allows] at h
  refine lv_iload_n hx hb d_T_allows_0 rfl (lv_at hl 0 rfl) ?_
  refine lv_bipush (v := 32) hx hb d_T_allows_1 (by decide) ?_
  refine lv_icmp_lt (tgt := 16) hx hb d_T_allows_3 rfl (fun hc1 => ?_) (fun hc1 => ?_)
  · rw [if_pos hc1] at h
    refine lv_iconst (v := 0) hx hb d_T_allows_16 (by decide) ?_
    exact g_zret (Wd := k_W ad cA) hx hb hr hlk hK hI h d_T_allows_17
  · rw [if_neg hc1] at h
    refine lv_iload_n hx hb d_T_allows_6 rfl (lv_at hl 0 rfl) ?_
    refine lv_bipush (v := 126) hx hb d_T_allows_7 (by decide) ?_
    refine lv_icmp_gt (tgt := 16) hx hb d_T_allows_9 rfl (fun hc2 => ?_) (fun hc2 => ?_)
    · rw [if_pos hc2] at h
      refine lv_iconst (v := 0) hx hb d_T_allows_16 (by decide) ?_
      exact g_zret (Wd := k_W ad cA) hx hb hr hlk hK hI h d_T_allows_17
    · rw [if_neg hc2] at h
      refine lv_iconst (v := 1) hx hb d_T_allows_12 (by decide) ?_
      refine lv_goto (tgt := 17) hx hb d_T_allows_13 rfl ?_
      exact g_zret (Wd := k_W ad cA) hx hb hr hlk hK hI h d_T_allows_17
def f_T_append_J49 (u : KS) : Option (Unit × KS) := lt_ (k_p_ln ((k_ln u) + 1) u) fun u6 => some ((), u6)
def f_T_append (a1 : Int32) (u : KS) : Option (Unit × KS) := if (k_ln u) < 120 then (if a1 = 32 then f_T_append_J49 u else (gd (inb (k_sz u) 120) (lt_ (k_p_mk (upd (k_mk u) (k_sz u).toNatClampNeg a1) u) fun u3 => gd (inb (k_sz u3) 120) (lt_ (k_p_pl (upd (k_pl u3) (k_sz u3).toNatClampNeg (k_ln u3)) u3) fun u4 => lt_ (k_p_sz ((k_sz u4) + 1) u4) fun u5 => f_T_append_J49 u5)))) else some ((), u)
set_option maxRecDepth 100000 in
set_option maxHeartbeats 4000000 in
theorem c_T_append (l : Launch) (D : va_G) (ad : Nat → Nat) (cA : Nat → ClassId) {a1 : Int32} {u u0 : KS} {r0 : Unit} (h : f_T_append a1 u = some (r0, u0)) : g_M l y_T_append w_T_append { frames := 0, cells := 0, slots := 0, locals := 0 } D vwCl (k_T cA) (k_W ad cA u) [.ref (ad 1), .int a1] none (k_W ad cA u0) := by
  refine g_ofW (cc := c0_T_append) (maxL := 2) (ret := none) (by decide) rfl (Nat.le_of_ble_eq_true rfl) ?_
  intro p e s m below meth c A ls hx hb hr hml hown hts hlk hK hA hI hl
  have hts : ∀ w ∈ gW, w.before ([.ref (ad 1), .int a1] : List Value).toArray s = true := fun w h => hts w (List.mem_cons_of_mem _ h)
  have hown : s.vm.findClass R_T = some m.cls := hown
  have hl : lv_has ls 2 [(0, .ref (ad 1)), (1, .int a1)] := hl
  have w49 : ∀ (u : KS) (H : Heap) (locs : List Loc) (ls : Array Slot), lv_has ls 2 [(0, .ref (ad 1))] → g_I D vwCl A s.heap H locs (k_W ad cA u) → f_T_append_J49 u = some (r0, u0) → W p l e { frames := 0, cells := 0, slots := 0, locals := 0 } s m ([.ref (ad 1), .int a1] : List Value).toArray below meth c H locs 0 0 (MQ below (g_Q D vwCl (k_T cA) (k_W ad cA u0) A none) ([.ref (ad 1), .int a1] : List Value).toArray s 0 0 A) (F0 m 49 ls []) := by
    intro  u H locs ls hl hI h
    dsimp only [f_T_append_J49] at h
    refine lv_aload_n hx hb d_T_append_49 rfl (lv_at hl 0 rfl) ?_
    refine lv_dup hx hb d_T_append_50 rfl ?_
    refine g_get (v := .int (k_ln u)) hx hb hts in_T hown hK hI 1 rfl rfl 3 (by decide) (hts _ wd_25) rfl d_T_append_51 ?_
    refine lv_iconst (v := 1) hx hb d_T_append_54 (by decide) ?_
    refine lv_iadd hx hb d_T_append_55 ?_
    obtain ⟨u6, e_u6, h⟩ := lt_e h
    refine g_put (t := .int) (w' := k_W ad cA u6) hx hb hts in_T ty_T tyok_T nm_T hown hK hI 1 rfl rfl 3 (by decide) (hts _ wd_25) rfl (by decide +kernel) rfl rfl (Nat.le_of_ble_eq_true rfl) d_T_append_56 (by subst e_u6; rfl) (fun H locs hI => ?_)
    exact g_vret (Wd := k_W ad cA) hx hb hr hlk hK hI h d_T_append_59
  dsimp only [f_T_append] at h
  refine lv_aload_n hx hb d_T_append_0 rfl (lv_at hl 0 rfl) ?_
  refine g_get (v := .int (k_ln u)) hx hb hts in_T hown hK hI 1 rfl rfl 3 (by decide) (hts _ wd_25) rfl d_T_append_1 ?_
  refine lv_bipush (v := 120) hx hb d_T_append_4 (by decide) ?_
  refine lv_icmp_lt (tgt := 10) hx hb d_T_append_6 rfl (fun hc1 => ?_) (fun hc1 => ?_)
  · rw [if_pos hc1] at h
    refine lv_iload_n hx hb d_T_append_10 rfl (lv_at hl 1 rfl) ?_
    refine lv_bipush (v := 32) hx hb d_T_append_11 (by decide) ?_
    refine lv_icmp_eq (tgt := 49) hx hb d_T_append_13 rfl (fun hc2 => ?_) (fun hc2 => ?_)
    · rw [if_pos hc2] at h
      exact w49 u _ _ _ (lv_sub hl [0] rfl) hI h
    · rw [if_neg hc2] at h
      refine lv_aload_n hx hb d_T_append_16 rfl (lv_at hl 0 rfl) ?_
      refine g_get (v := .ref (ad 2)) hx hb hts in_T hown hK hI 1 rfl rfl 0 (by decide) (hts _ wd_22) rfl d_T_append_17 ?_
      refine lv_aload_n hx hb d_T_append_20 rfl (lv_at hl 0 rfl) ?_
      refine g_get (v := .int (k_sz u)) hx hb hts in_T hown hK hI 1 rfl rfl 2 (by decide) (hts _ wd_24) rfl d_T_append_21 ?_
      refine lv_iload_n hx hb d_T_append_24 rfl (lv_at hl 1 rfl) ?_
      obtain ⟨hg, h⟩ := gd_e h
      obtain ⟨u3, e_u3, h⟩ := lt_e h
      refine g_iast (w' := k_W ad cA u3) hx hb hK hI 2 0 rfl rfl hg d_T_append_25 (by subst e_u3; rfl) (fun H locs hI => ?_)
      refine lv_aload_n hx hb d_T_append_26 rfl (lv_at hl 0 rfl) ?_
      refine g_get (v := .ref (ad 3)) hx hb hts in_T hown hK hI 1 rfl rfl 1 (by decide) (hts _ wd_23) rfl d_T_append_27 ?_
      refine lv_aload_n hx hb d_T_append_30 rfl (lv_at hl 0 rfl) ?_
      refine g_get (v := .int (k_sz u3)) hx hb hts in_T hown hK hI 1 rfl rfl 2 (by decide) (hts _ wd_24) rfl d_T_append_31 ?_
      refine lv_aload_n hx hb d_T_append_34 rfl (lv_at hl 0 rfl) ?_
      refine g_get (v := .int (k_ln u3)) hx hb hts in_T hown hK hI 1 rfl rfl 3 (by decide) (hts _ wd_25) rfl d_T_append_35 ?_
      obtain ⟨hg, h⟩ := gd_e h
      obtain ⟨u4, e_u4, h⟩ := lt_e h
      refine g_iast (w' := k_W ad cA u4) hx hb hK hI 3 1 rfl rfl hg d_T_append_38 (by subst e_u4; rfl) (fun H locs hI => ?_)
      refine lv_aload_n hx hb d_T_append_39 rfl (lv_at hl 0 rfl) ?_
      refine lv_dup hx hb d_T_append_40 rfl ?_
      refine g_get (v := .int (k_sz u4)) hx hb hts in_T hown hK hI 1 rfl rfl 2 (by decide) (hts _ wd_24) rfl d_T_append_41 ?_
      refine lv_iconst (v := 1) hx hb d_T_append_44 (by decide) ?_
      refine lv_iadd hx hb d_T_append_45 ?_
      obtain ⟨u5, e_u5, h⟩ := lt_e h
      refine g_put (t := .int) (w' := k_W ad cA u5) hx hb hts in_T ty_T tyok_T nm_T hown hK hI 1 rfl rfl 2 (by decide) (hts _ wd_24) rfl (by decide +kernel) rfl rfl (Nat.le_of_ble_eq_true rfl) d_T_append_46 (by subst e_u5; rfl) (fun H locs hI => ?_)
      exact w49 u5 _ _ _ (lv_sub hl [0] rfl) hI h
  · rw [if_neg hc1] at h
    exact g_vret (Wd := k_W ad cA) hx hb hr hlk hK hI h d_T_append_9
def f_T_markAt (a1 : Int32) (u : KS) : Option (Int32 × KS) := if a1 < 0 then some (0, u) else (if (k_sz u) ≤ a1 then some (0, u) else (gd (inb a1 120) (some (k_mk u a1.toNatClampNeg, u))))
set_option maxRecDepth 100000 in
set_option maxHeartbeats 4000000 in
theorem c_T_markAt (l : Launch) (D : va_G) (ad : Nat → Nat) (cA : Nat → ClassId) {a1 : Int32} {u u0 : KS} {r0 : Int32} (h : f_T_markAt a1 u = some (r0, u0)) : g_M l y_T_markAt w_T_markAt { frames := 0, cells := 0, slots := 0, locals := 0 } D vwCl (k_T cA) (k_W ad cA u) [.ref (ad 1), .int a1] (some (.int r0)) (k_W ad cA u0) := by
  refine g_ofW (cc := c0_T_markAt) (maxL := 2) (ret := (some .int)) (by decide) rfl (Nat.le_of_ble_eq_true rfl) ?_
  intro p e s m below meth c A ls hx hb hr hml hown hts hlk hK hA hI hl
  have hts : ∀ w ∈ gW, w.before ([.ref (ad 1), .int a1] : List Value).toArray s = true := fun w h => hts w (List.mem_cons_of_mem _ h)
  have hown : s.vm.findClass R_T = some m.cls := hown
  have hl : lv_has ls 2 [(0, .ref (ad 1)), (1, .int a1)] := hl
  dsimp only [f_T_markAt] at h
  refine lv_iload_n hx hb d_T_markAt_0 rfl (lv_at hl 1 rfl) ?_
  refine lv_if_lt (tgt := 21) hx hb d_T_markAt_1 rfl (fun hc1 => ?_) (fun hc1 => ?_)
  · rw [if_pos hc1] at h
    refine lv_iconst (v := 0) hx hb d_T_markAt_21 (by decide) ?_
    exact g_iret (Wd := k_W ad cA) hx hb hr hlk hK hI h d_T_markAt_22
  · rw [if_neg hc1] at h
    refine lv_iload_n hx hb d_T_markAt_4 rfl (lv_at hl 1 rfl) ?_
    refine lv_aload_n hx hb d_T_markAt_5 rfl (lv_at hl 0 rfl) ?_
    refine g_get (v := .int (k_sz u)) hx hb hts in_T hown hK hI 1 rfl rfl 2 (by decide) (hts _ wd_24) rfl d_T_markAt_6 ?_
    refine lv_icmp_ge (tgt := 21) hx hb d_T_markAt_9 rfl (fun hc2 => ?_) (fun hc2 => ?_)
    · rw [if_pos hc2] at h
      refine lv_iconst (v := 0) hx hb d_T_markAt_21 (by decide) ?_
      exact g_iret (Wd := k_W ad cA) hx hb hr hlk hK hI h d_T_markAt_22
    · rw [if_neg hc2] at h
      refine lv_aload_n hx hb d_T_markAt_12 rfl (lv_at hl 0 rfl) ?_
      refine g_get (v := .ref (ad 2)) hx hb hts in_T hown hK hI 1 rfl rfl 0 (by decide) (hts _ wd_22) rfl d_T_markAt_13 ?_
      refine lv_iload_n hx hb d_T_markAt_16 rfl (lv_at hl 1 rfl) ?_
      obtain ⟨hg, h⟩ := gd_e h
      refine g_iald hx hb hK hI 2 0 rfl rfl hg d_T_markAt_17 ?_
      refine lv_goto (tgt := 22) hx hb d_T_markAt_18 rfl ?_
      exact g_iret (Wd := k_W ad cA) hx hb hr hlk hK hI h d_T_markAt_22
def f_J_abs (a0 : Int32) (u : KS) : Option (Int32 × KS) := if 0 ≤ a0 then some (a0, u) else some (-a0, u)
set_option maxRecDepth 100000 in
set_option maxHeartbeats 4000000 in
theorem c_J_abs (l : Launch) (D : va_G) (ad : Nat → Nat) (cA : Nat → ClassId) {a0 : Int32} {u u0 : KS} {r0 : Int32} (h : f_J_abs a0 u = some (r0, u0)) : g_M l y_J_abs w_J_abs { frames := 0, cells := 0, slots := 0, locals := 0 } D vwCl (k_T cA) (k_W ad cA u) [.int a0] (some (.int r0)) (k_W ad cA u0) := by
  refine g_ofF (cc := c0_J_abs) (maxL := 1) (ret := (some .int)) (by decide +kernel) rfl (Nat.le_of_ble_eq_true rfl) ?_
  intro p e s m below meth c A ls hx hb hr hml hown hts hlk hK hA hI hl
  have hts : ∀ w ∈ gW, w.before ([.int a0] : List Value).toArray s = true := fun w h => hts w (List.mem_cons_of_mem _ h)
  have hown : s.vm.findClass R_J = some m.cls := hown
  have hl : lv_has ls 1 [(0, .int a0)] := hl
  dsimp only [f_J_abs] at h
  refine lv_iload_n hx hb d_J_abs_0 rfl (lv_at hl 0 rfl) ?_
  refine lv_if_ge (tgt := 9) hx hb d_J_abs_1 rfl (fun hc1 => ?_) (fun hc1 => ?_)
  · rw [if_pos hc1] at h
    refine lv_iload_n hx hb d_J_abs_9 rfl (lv_at hl 0 rfl) ?_
    exact g_iret (Wd := k_W ad cA) hx hb hr hlk hK hI h d_J_abs_10
  · rw [if_neg hc1] at h
    refine lv_iload_n hx hb d_J_abs_4 rfl (lv_at hl 0 rfl) ?_
    refine lv_ineg hx hb d_J_abs_5 ?_
    refine lv_goto (tgt := 10) hx hb d_J_abs_6 rfl ?_
    exact g_iret (Wd := k_W ad cA) hx hb hr hlk hK hI h d_J_abs_10
def f_T_placeOf (a1 : Int32) (u : KS) : Option (Int32 × KS) := if a1 < 0 then some (k_ln u, u) else (if (k_sz u) ≤ a1 then some (k_ln u, u) else (gd (inb a1 120) (some (k_pl u a1.toNatClampNeg, u))))
set_option maxRecDepth 100000 in
set_option maxHeartbeats 4000000 in
theorem c_T_placeOf (l : Launch) (D : va_G) (ad : Nat → Nat) (cA : Nat → ClassId) {a1 : Int32} {u u0 : KS} {r0 : Int32} (h : f_T_placeOf a1 u = some (r0, u0)) : g_M l y_T_placeOf w_T_placeOf { frames := 0, cells := 0, slots := 0, locals := 0 } D vwCl (k_T cA) (k_W ad cA u) [.ref (ad 1), .int a1] (some (.int r0)) (k_W ad cA u0) := by
  refine g_ofW (cc := c0_T_placeOf) (maxL := 2) (ret := (some .int)) (by decide) rfl (Nat.le_of_ble_eq_true rfl) ?_
  intro p e s m below meth c A ls hx hb hr hml hown hts hlk hK hA hI hl
  have hts : ∀ w ∈ gW, w.before ([.ref (ad 1), .int a1] : List Value).toArray s = true := fun w h => hts w (List.mem_cons_of_mem _ h)
  have hown : s.vm.findClass R_T = some m.cls := hown
  have hl : lv_has ls 2 [(0, .ref (ad 1)), (1, .int a1)] := hl
  dsimp only [f_T_placeOf] at h
  refine lv_iload_n hx hb d_T_placeOf_0 rfl (lv_at hl 1 rfl) ?_
  refine lv_if_lt (tgt := 21) hx hb d_T_placeOf_1 rfl (fun hc1 => ?_) (fun hc1 => ?_)
  · rw [if_pos hc1] at h
    refine lv_aload_n hx hb d_T_placeOf_21 rfl (lv_at hl 0 rfl) ?_
    refine g_get (v := .int (k_ln u)) hx hb hts in_T hown hK hI 1 rfl rfl 3 (by decide) (hts _ wd_25) rfl d_T_placeOf_22 ?_
    exact g_iret (Wd := k_W ad cA) hx hb hr hlk hK hI h d_T_placeOf_25
  · rw [if_neg hc1] at h
    refine lv_iload_n hx hb d_T_placeOf_4 rfl (lv_at hl 1 rfl) ?_
    refine lv_aload_n hx hb d_T_placeOf_5 rfl (lv_at hl 0 rfl) ?_
    refine g_get (v := .int (k_sz u)) hx hb hts in_T hown hK hI 1 rfl rfl 2 (by decide) (hts _ wd_24) rfl d_T_placeOf_6 ?_
    refine lv_icmp_ge (tgt := 21) hx hb d_T_placeOf_9 rfl (fun hc2 => ?_) (fun hc2 => ?_)
    · rw [if_pos hc2] at h
      refine lv_aload_n hx hb d_T_placeOf_21 rfl (lv_at hl 0 rfl) ?_
      refine g_get (v := .int (k_ln u)) hx hb hts in_T hown hK hI 1 rfl rfl 3 (by decide) (hts _ wd_25) rfl d_T_placeOf_22 ?_
      exact g_iret (Wd := k_W ad cA) hx hb hr hlk hK hI h d_T_placeOf_25
    · rw [if_neg hc2] at h
      refine lv_aload_n hx hb d_T_placeOf_12 rfl (lv_at hl 0 rfl) ?_
      refine g_get (v := .ref (ad 3)) hx hb hts in_T hown hK hI 1 rfl rfl 1 (by decide) (hts _ wd_23) rfl d_T_placeOf_13 ?_
      refine lv_iload_n hx hb d_T_placeOf_16 rfl (lv_at hl 1 rfl) ?_
      obtain ⟨hg, h⟩ := gd_e h
      refine g_iald hx hb hK hI 3 1 rfl rfl hg d_T_placeOf_17 ?_
      refine lv_goto (tgt := 25) hx hb d_T_placeOf_18 rfl ?_
      exact g_iret (Wd := k_W ad cA) hx hb hr hlk hK hI h d_T_placeOf_25
def f_T_clear (u : KS) : Option (Unit × KS) := lt_ (k_p_sz 0 u) fun u1 => lt_ (k_p_ln 0 u1) fun u2 => some ((), u2)
set_option maxRecDepth 100000 in
set_option maxHeartbeats 4000000 in
theorem c_T_clear (l : Launch) (D : va_G) (ad : Nat → Nat) (cA : Nat → ClassId) {u u0 : KS} {r0 : Unit} (h : f_T_clear u = some (r0, u0)) : g_M l y_T_clear w_T_clear { frames := 0, cells := 0, slots := 0, locals := 0 } D vwCl (k_T cA) (k_W ad cA u) [.ref (ad 1)] none (k_W ad cA u0) := by
  refine g_ofW (cc := c0_T_clear) (maxL := 1) (ret := none) (by decide) rfl (Nat.le_of_ble_eq_true rfl) ?_
  intro p e s m below meth c A ls hx hb hr hml hown hts hlk hK hA hI hl
  have hts : ∀ w ∈ gW, w.before ([.ref (ad 1)] : List Value).toArray s = true := fun w h => hts w (List.mem_cons_of_mem _ h)
  have hown : s.vm.findClass R_T = some m.cls := hown
  have hl : lv_has ls 1 [(0, .ref (ad 1))] := hl
  dsimp only [f_T_clear] at h
  refine lv_aload_n hx hb d_T_clear_0 rfl (lv_at hl 0 rfl) ?_
  refine lv_iconst (v := 0) hx hb d_T_clear_1 (by decide) ?_
  obtain ⟨u1, e_u1, h⟩ := lt_e h
  refine g_put (t := .int) (w' := k_W ad cA u1) hx hb hts in_T ty_T tyok_T nm_T hown hK hI 1 rfl rfl 2 (by decide) (hts _ wd_24) rfl (by decide +kernel) rfl rfl (Nat.le_of_ble_eq_true rfl) d_T_clear_2 (by subst e_u1; rfl) (fun H locs hI => ?_)
  refine lv_aload_n hx hb d_T_clear_5 rfl (lv_at hl 0 rfl) ?_
  refine lv_iconst (v := 0) hx hb d_T_clear_6 (by decide) ?_
  obtain ⟨u2, e_u2, h⟩ := lt_e h
  refine g_put (t := .int) (w' := k_W ad cA u2) hx hb hts in_T ty_T tyok_T nm_T hown hK hI 1 rfl rfl 3 (by decide) (hts _ wd_25) rfl (by decide +kernel) rfl rfl (Nat.le_of_ble_eq_true rfl) d_T_clear_7 (by subst e_u2; rfl) (fun H locs hI => ?_)
  exact g_vret (Wd := k_W ad cA) hx hb hr hlk hK hI h d_T_clear_10
def f_J_floorDiv (a0 : Int32) (a1 : Int32) (u : KS) : Option (Int32 × KS) := gd (nz a1) (lt_ (a0 / a1) fun x1 => if 0 ≤ (a0 ^^^ a1) then some (x1, u) else (if (x1 * a1) = a0 then some (x1, u) else some (x1 - 1, u)))
set_option maxRecDepth 100000 in
set_option maxHeartbeats 4000000 in
theorem c_J_floorDiv (l : Launch) (D : va_G) (ad : Nat → Nat) (cA : Nat → ClassId) {a0 : Int32} {a1 : Int32} {u u0 : KS} {r0 : Int32} (h : f_J_floorDiv a0 a1 u = some (r0, u0)) : g_M l y_J_floorDiv w_J_floorDiv { frames := 0, cells := 0, slots := 0, locals := 0 } D vwCl (k_T cA) (k_W ad cA u) [.int a0, .int a1] (some (.int r0)) (k_W ad cA u0) := by
  refine g_ofF (cc := c0_J_floorDiv) (maxL := 3) (ret := (some .int)) (by decide +kernel) rfl (Nat.le_of_ble_eq_true rfl) ?_
  intro p e s m below meth c A ls hx hb hr hml hown hts hlk hK hA hI hl
  have hts : ∀ w ∈ gW, w.before ([.int a0, .int a1] : List Value).toArray s = true := fun w h => hts w (List.mem_cons_of_mem _ h)
  have hown : s.vm.findClass R_J = some m.cls := hown
  have hl : lv_has ls 3 [(0, .int a0), (1, .int a1)] := hl
  dsimp only [f_J_floorDiv] at h
  refine lv_iload_n hx hb d_J_floorDiv_0 rfl (lv_at hl 0 rfl) ?_
  refine lv_iload_n hx hb d_J_floorDiv_1 rfl (lv_at hl 1 rfl) ?_
  obtain ⟨hg, h⟩ := gd_e h
  refine lv_idiv hx hb d_J_floorDiv_2 (nz_e hg) ?_
  obtain ⟨x1, e_x1, h⟩ := lt_e h
  refine lv_istore_n (lv' := [(2, .int x1), (0, .int a0), (1, .int a1)]) hx hb d_J_floorDiv_3 rfl hl (by decide) (by subst e_x1; rfl) (fun ls hl => ?_)
  refine lv_iload_n hx hb d_J_floorDiv_4 rfl (lv_at hl 1 rfl) ?_
  refine lv_iload_n hx hb d_J_floorDiv_5 rfl (lv_at hl 2 rfl) ?_
  refine lv_ixor hx hb d_J_floorDiv_6 ?_
  refine lv_if_ge (tgt := 21) hx hb d_J_floorDiv_7 rfl (fun hc2 => ?_) (fun hc2 => ?_)
  · rw [if_pos hc2] at h
    refine lv_iload_n hx hb d_J_floorDiv_21 rfl (lv_at hl 0 rfl) ?_
    exact g_iret (Wd := k_W ad cA) hx hb hr hlk hK hI h d_J_floorDiv_22
  · rw [if_neg hc2] at h
    refine lv_iload_n hx hb d_J_floorDiv_10 rfl (lv_at hl 0 rfl) ?_
    refine lv_iload_n hx hb d_J_floorDiv_11 rfl (lv_at hl 2 rfl) ?_
    refine lv_imul hx hb d_J_floorDiv_12 ?_
    refine lv_iload_n hx hb d_J_floorDiv_13 rfl (lv_at hl 1 rfl) ?_
    refine lv_icmp_eq (tgt := 21) hx hb d_J_floorDiv_14 rfl (fun hc3 => ?_) (fun hc3 => ?_)
    · rw [if_pos hc3] at h
      refine lv_iload_n hx hb d_J_floorDiv_21 rfl (lv_at hl 0 rfl) ?_
      exact g_iret (Wd := k_W ad cA) hx hb hr hlk hK hI h d_J_floorDiv_22
    · rw [if_neg hc3] at h
      refine lv_iload_n hx hb d_J_floorDiv_17 rfl (lv_at hl 0 rfl) ?_
      refine lv_iconst (v := 1) hx hb d_J_floorDiv_18 (by decide) ?_
      refine lv_isub hx hb d_J_floorDiv_19 ?_
      exact g_iret (Wd := k_W ad cA) hx hb hr hlk hK hI h d_J_floorDiv_20
def f_J_floorMod (a0 : Int32) (a1 : Int32) (u : KS) : Option (Int32 × KS) := gd (nz a1) (lt_ (a0 - a0 / a1 * a1) fun x1 => if 0 ≤ (a0 ^^^ a1) then some (x1, u) else (if x1 = 0 then some (x1, u) else some (x1 + a1, u)))
set_option maxRecDepth 100000 in
set_option maxHeartbeats 4000000 in
theorem c_J_floorMod (l : Launch) (D : va_G) (ad : Nat → Nat) (cA : Nat → ClassId) {a0 : Int32} {a1 : Int32} {u u0 : KS} {r0 : Int32} (h : f_J_floorMod a0 a1 u = some (r0, u0)) : g_M l y_J_floorMod w_J_floorMod { frames := 0, cells := 0, slots := 0, locals := 0 } D vwCl (k_T cA) (k_W ad cA u) [.int a0, .int a1] (some (.int r0)) (k_W ad cA u0) := by
  refine g_ofF (cc := c0_J_floorMod) (maxL := 3) (ret := (some .int)) (by decide +kernel) rfl (Nat.le_of_ble_eq_true rfl) ?_
  intro p e s m below meth c A ls hx hb hr hml hown hts hlk hK hA hI hl
  have hts : ∀ w ∈ gW, w.before ([.int a0, .int a1] : List Value).toArray s = true := fun w h => hts w (List.mem_cons_of_mem _ h)
  have hown : s.vm.findClass R_J = some m.cls := hown
  have hl : lv_has ls 3 [(0, .int a0), (1, .int a1)] := hl
  dsimp only [f_J_floorMod] at h
  refine lv_iload_n hx hb d_J_floorMod_0 rfl (lv_at hl 0 rfl) ?_
  refine lv_iload_n hx hb d_J_floorMod_1 rfl (lv_at hl 1 rfl) ?_
  obtain ⟨hg, h⟩ := gd_e h
  refine lv_irem hx hb d_J_floorMod_2 (nz_e hg) ?_
  obtain ⟨x1, e_x1, h⟩ := lt_e h
  refine lv_istore_n (lv' := [(2, .int x1), (0, .int a0), (1, .int a1)]) hx hb d_J_floorMod_3 rfl hl (by decide) (by subst e_x1; rfl) (fun ls hl => ?_)
  refine lv_iload_n hx hb d_J_floorMod_4 rfl (lv_at hl 1 rfl) ?_
  refine lv_iload_n hx hb d_J_floorMod_5 rfl (lv_at hl 2 rfl) ?_
  refine lv_ixor hx hb d_J_floorMod_6 ?_
  refine lv_if_ge (tgt := 18) hx hb d_J_floorMod_7 rfl (fun hc2 => ?_) (fun hc2 => ?_)
  · rw [if_pos hc2] at h
    refine lv_iload_n hx hb d_J_floorMod_18 rfl (lv_at hl 0 rfl) ?_
    exact g_iret (Wd := k_W ad cA) hx hb hr hlk hK hI h d_J_floorMod_19
  · rw [if_neg hc2] at h
    refine lv_iload_n hx hb d_J_floorMod_10 rfl (lv_at hl 0 rfl) ?_
    refine lv_if_eq (tgt := 18) hx hb d_J_floorMod_11 rfl (fun hc3 => ?_) (fun hc3 => ?_)
    · rw [if_pos hc3] at h
      refine lv_iload_n hx hb d_J_floorMod_18 rfl (lv_at hl 0 rfl) ?_
      exact g_iret (Wd := k_W ad cA) hx hb hr hlk hK hI h d_J_floorMod_19
    · rw [if_neg hc3] at h
      refine lv_iload_n hx hb d_J_floorMod_14 rfl (lv_at hl 0 rfl) ?_
      refine lv_iload_n hx hb d_J_floorMod_15 rfl (lv_at hl 2 rfl) ?_
      refine lv_iadd hx hb d_J_floorMod_16 ?_
      exact g_iret (Wd := k_W ad cA) hx hb hr hlk hK hI h d_J_floorMod_17
def f_W_alike (a0 : Int32) (u : KS) : Option (Int32 × KS) := if a0 ≤ 95 then (if ((-96)) ≤ a0 then some (a0, u) else (ob (f_J_floorMod (a0 - ((-96))) 12 u) fun r3 u4 => some (((-96)) + r3, u4))) else (ob (f_J_floorMod (95 - a0) 12 u) fun r5 u6 => some (95 - r5, u6))
set_option maxRecDepth 100000 in
set_option maxHeartbeats 4000000 in
theorem c_W_alike (l : Launch) (D : va_G) (ad : Nat → Nat) (cA : Nat → ClassId) {a0 : Int32} {u u0 : KS} {r0 : Int32} (h : f_W_alike a0 u = some (r0, u0)) : g_M l y_W_alike w_W_alike { frames := 1, cells := 0, slots := 0, locals := 22 } D vwCl (k_T cA) (k_W ad cA u) [.int a0] (some (.int r0)) (k_W ad cA u0) := by
  refine g_ofW (cc := c0_W_alike) (maxL := 1) (ret := (some .int)) (by decide) rfl (Nat.le_of_ble_eq_true rfl) ?_
  intro p e s m below meth c A ls hx hb hr hml hown hts hlk hK hA hI hl
  have hts : ∀ w ∈ gW, w.before ([.int a0] : List Value).toArray s = true := fun w h => hts w (List.mem_cons_of_mem _ h)
  have hown : s.vm.findClass R_W = some m.cls := hown
  have hl : lv_has ls 1 [(0, .int a0)] := hl
  dsimp only [f_W_alike] at h
  refine lv_iload_n hx hb d_W_alike_0 rfl (lv_at hl 0 rfl) ?_
  refine lv_bipush (v := 95) hx hb d_W_alike_1 (by decide) ?_
  refine lv_icmp_le (tgt := 19) hx hb d_W_alike_3 rfl (fun hc1 => ?_) (fun hc1 => ?_)
  · rw [if_pos hc1] at h
    refine lv_iload_n hx hb d_W_alike_19 rfl (lv_at hl 0 rfl) ?_
    refine lv_bipush (v := (-96)) hx hb d_W_alike_20 (by decide) ?_
    refine lv_icmp_ge (tgt := 38) hx hb d_W_alike_22 rfl (fun hc2 => ?_) (fun hc2 => ?_)
    · rw [if_pos hc2] at h
      refine lv_iload_n hx hb d_W_alike_38 rfl (lv_at hl 0 rfl) ?_
      exact g_iret (Wd := k_W ad cA) hx hb hr hlk hK hI h d_W_alike_39
    · rw [if_neg hc2] at h
      refine lv_bipush (v := (-96)) hx hb d_W_alike_25 (by decide) ?_
      refine lv_iload_n hx hb d_W_alike_27 rfl (lv_at hl 0 rfl) ?_
      refine lv_bipush (v := (-96)) hx hb d_W_alike_28 (by decide) ?_
      refine lv_isub hx hb d_W_alike_30 ?_
      refine lv_bipush (v := 12) hx hb d_W_alike_31 (by decide) ?_
      obtain ⟨r3, u4, hc, h⟩ := ob_e h
      refine g_callS (As := [.int (a0 - ((-96))), .int 12]) (rest := [.int ((-96))]) (w' := k_W ad cA u4) (o := some (.int r3)) ⟨hx, hb, hml, hown, hts⟩ (c_J_floorMod l D ad cA hc) (va_cwS 2 hts gq_W_27 rfl rfl rfl (by decide +kernel) ⟨Nat.le_of_ble_eq_true rfl, Nat.le_of_ble_eq_true rfl⟩) hK hI hA rfl hl.1 rfl (Nat.le_of_ble_eq_true rfl) d_W_alike_33 ⟨Nat.zero_le _, Nat.zero_le _⟩ rfl (fun H locs hI => ?_)
      refine lv_iadd hx hb d_W_alike_36 ?_
      exact g_iret (Wd := k_W ad cA) hx hb hr hlk hK hI h d_W_alike_37
  · rw [if_neg hc1] at h
    refine lv_bipush (v := 95) hx hb d_W_alike_6 (by decide) ?_
    refine lv_bipush (v := 95) hx hb d_W_alike_8 (by decide) ?_
    refine lv_iload_n hx hb d_W_alike_10 rfl (lv_at hl 0 rfl) ?_
    refine lv_isub hx hb d_W_alike_11 ?_
    refine lv_bipush (v := 12) hx hb d_W_alike_12 (by decide) ?_
    obtain ⟨r5, u6, hc, h⟩ := ob_e h
    refine g_callS (As := [.int (95 - a0), .int 12]) (rest := [.int 95]) (w' := k_W ad cA u6) (o := some (.int r5)) ⟨hx, hb, hml, hown, hts⟩ (c_J_floorMod l D ad cA hc) (va_cwS 2 hts gq_W_27 rfl rfl rfl (by decide +kernel) ⟨Nat.le_of_ble_eq_true rfl, Nat.le_of_ble_eq_true rfl⟩) hK hI hA rfl hl.1 rfl (Nat.le_of_ble_eq_true rfl) d_W_alike_14 ⟨Nat.zero_le _, Nat.zero_le _⟩ rfl (fun H locs hI => ?_)
    refine lv_isub hx hb d_W_alike_17 ?_
    exact g_iret (Wd := k_W ad cA) hx hb hr hlk hK hI h d_W_alike_18
def f_W_has (a1 : Int32) (u : KS) : Option (Int32 × KS) := ob (f_W_alike a1 u) fun r1 u2 => lt_ (r1 - ((-96))) fun x3 => gd (inb (x3 / 64) 3) (if (lg_cmp ((((k_wd u2 (x3 / 64).toNatClampNeg).toUInt64 >>> ((x3 - x3 / 64 * 64).toInt64.toUInt64 &&& Int64.toUInt64 63)).toInt64) &&& 1) 0) = 0 then (gd (bz 0) (some (0, u2))) else (gd (bz 1) (some (1, u2))))
set_option maxRecDepth 100000 in
set_option maxHeartbeats 4000000 in
theorem c_W_has (l : Launch) (D : va_G) (ad : Nat → Nat) (cA : Nat → ClassId) {a1 : Int32} {u u0 : KS} {r0 : Int32} (h : f_W_has a1 u = some (r0, u0)) : g_M l y_W_has w_W_has { frames := 2, cells := 0, slots := 0, locals := 42 } D vwCl (k_T cA) (k_W ad cA u) [.ref (ad 14), .int a1] (some (.int r0)) (k_W ad cA u0) := by
  refine g_ofW (cc := c0_W_has) (maxL := 3) (ret := (some .boolean)) (by decide) rfl (Nat.le_of_ble_eq_true rfl) ?_
  intro p e s m below meth c A ls hx hb hr hml hown hts hlk hK hA hI hl
  have hts : ∀ w ∈ gW, w.before ([.ref (ad 14), .int a1] : List Value).toArray s = true := fun w h => hts w (List.mem_cons_of_mem _ h)
  have hown : s.vm.findClass R_W = some m.cls := hown
  have hl : lv_has ls 3 [(0, .ref (ad 14)), (1, .int a1)] := hl
  dsimp only [f_W_has] at h
  refine lv_iload_n hx hb d_W_has_0 rfl (lv_at hl 1 rfl) ?_
  obtain ⟨r1, u2, hc, h⟩ := ob_e h
  refine g_callS (As := [.int a1]) (rest := []) (w' := k_W ad cA u2) (o := some (.int r1)) ⟨hx, hb, hml, hown, hts⟩ (c_W_alike l D ad cA hc) (va_cwS 1 hts gq_W_23 rfl rfl rfl (by decide +kernel) ⟨Nat.le_of_ble_eq_true rfl, Nat.le_of_ble_eq_true rfl⟩) hK hI hA rfl hl.1 rfl (Nat.le_of_ble_eq_true rfl) d_W_has_1 ⟨Nat.zero_le _, Nat.zero_le _⟩ rfl (fun H locs hI => ?_)
  refine lv_bipush (v := (-96)) hx hb d_W_has_4 (by decide) ?_
  refine lv_isub hx hb d_W_has_6 ?_
  obtain ⟨x3, e_x3, h⟩ := lt_e h
  refine lv_istore_n (lv' := [(2, .int x3), (0, .ref (ad 14)), (1, .int a1)]) hx hb d_W_has_7 rfl hl (by decide) (by subst e_x3; rfl) (fun ls hl => ?_)
  refine lv_aload_n hx hb d_W_has_8 rfl (lv_at hl 1 rfl) ?_
  refine g_get (v := .ref (ad 15)) hx hb hts in_W hown hK hI 14 rfl rfl 0 (by decide) (hts _ wd_99) rfl d_W_has_9 ?_
  refine lv_iload_n hx hb d_W_has_12 rfl (lv_at hl 0 rfl) ?_
  refine lv_bipush (v := 64) hx hb d_W_has_13 (by decide) ?_
  refine lv_idiv hx hb d_W_has_15 (by decide) ?_
  obtain ⟨hg, h⟩ := gd_e h
  refine g_lald hx hb hK hI 15 10 rfl rfl hg d_W_has_16 ?_
  refine lv_iload_n hx hb d_W_has_17 rfl (lv_at hl 0 rfl) ?_
  refine lv_bipush (v := 64) hx hb d_W_has_18 (by decide) ?_
  refine lv_irem hx hb d_W_has_20 (by decide) ?_
  refine lv_lushr hx hb d_W_has_21 rfl ?_
  refine lv_lconst (v := 1) hx hb d_W_has_22 (by decide) ?_
  refine lv_land hx hb d_W_has_23 ?_
  refine lv_lconst (v := 0) hx hb d_W_has_24 (by decide) ?_
  refine W.lcmp hx hb d_W_has_25 ?_
  refine lv_if_eq (tgt := 33) hx hb d_W_has_26 rfl (fun hc4 => ?_) (fun hc4 => ?_)
  · rw [if_pos hc4] at h
    refine lv_iconst (v := 0) hx hb d_W_has_33 (by decide) ?_
    exact g_zret (Wd := k_W ad cA) hx hb hr hlk hK hI h d_W_has_34
  · rw [if_neg hc4] at h
    refine lv_iconst (v := 1) hx hb d_W_has_29 (by decide) ?_
    refine lv_goto (tgt := 34) hx hb d_W_has_30 rfl ?_
    exact g_zret (Wd := k_W ad cA) hx hb hr hlk hK hI h d_W_has_34
def f_W_hasOne_L2 (n : Nat) : Int32 → KS → Option (Int32 × KS) := match n with
  | 0 => fun _ _ => none
  | n + 1 => fun v1 u => if 3 ≤ v1 then (gd (bz 0) (some (0, u))) else (gd (inb v1 3) (if (lg_cmp (k_wd u v1.toNatClampNeg) 0) = 0 then (lt_ (v1 + 1) fun x3 => f_W_hasOne_L2 n x3 u) else (gd (bz 1) (some (1, u)))))
def f_W_hasOne (u : KS) : Option (Int32 × KS) := f_W_hasOne_L2 4096 0 u
set_option maxRecDepth 100000 in
set_option maxHeartbeats 4000000 in
theorem c_W_hasOne (l : Launch) (D : va_G) (ad : Nat → Nat) (cA : Nat → ClassId) {u u0 : KS} {r0 : Int32} (h : f_W_hasOne u = some (r0, u0)) : g_M l y_W_hasOne w_W_hasOne { frames := 0, cells := 0, slots := 0, locals := 0 } D vwCl (k_T cA) (k_W ad cA u) [.ref (ad 14)] (some (.int r0)) (k_W ad cA u0) := by
  refine g_ofW (cc := c0_W_hasOne) (maxL := 2) (ret := (some .boolean)) (by decide) rfl (Nat.le_of_ble_eq_true rfl) ?_
  intro p e s m below meth c A ls hx hb hr hml hown hts hlk hK hA hI hl
  have hts : ∀ w ∈ gW, w.before ([.ref (ad 14)] : List Value).toArray s = true := fun w h => hts w (List.mem_cons_of_mem _ h)
  have hown : s.vm.findClass R_W = some m.cls := hown
  have hl : lv_has ls 2 [(0, .ref (ad 14))] := hl
  have w2 : ∀ (n : Nat) (v1 : Int32) (u : KS) (H : Heap) (locs : List Loc) (ls : Array Slot), lv_has ls 2 [(0, .ref (ad 14)), (1, .int v1)] → g_I D vwCl A s.heap H locs (k_W ad cA u) → f_W_hasOne_L2 n v1 u = some (r0, u0) → W p l e { frames := 0, cells := 0, slots := 0, locals := 0 } s m ([.ref (ad 14)] : List Value).toArray below meth c H locs 0 0 (MQ below (g_Q D vwCl (k_T cA) (k_W ad cA u0) A (some (.int r0))) ([.ref (ad 14)] : List Value).toArray s 0 0 A) (F0 m 2 ls []) := by
    intro  n
    induction n with
    | zero => intro v1 u H locs ls hl hI h; cases h
    | succ n ih =>
      intro v1 u H locs ls hl hI h
      dsimp only [f_W_hasOne_L2] at h
      refine lv_iload_n hx hb d_W_hasOne_2 rfl (lv_at hl 1 rfl) ?_
      refine lv_iconst (v := 3) hx hb d_W_hasOne_3 (by decide) ?_
      refine lv_icmp_ge (tgt := 26) hx hb d_W_hasOne_4 rfl (fun hc1 => ?_) (fun hc1 => ?_)
      · rw [if_pos hc1] at h
        refine lv_iconst (v := 0) hx hb d_W_hasOne_26 (by decide) ?_
        exact g_zret (Wd := k_W ad cA) hx hb hr hlk hK hI h d_W_hasOne_27
      · rw [if_neg hc1] at h
        refine lv_aload_n hx hb d_W_hasOne_7 rfl (lv_at hl 0 rfl) ?_
        refine g_get (v := .ref (ad 15)) hx hb hts in_W hown hK hI 14 rfl rfl 0 (by decide) (hts _ wd_99) rfl d_W_hasOne_8 ?_
        refine lv_iload_n hx hb d_W_hasOne_11 rfl (lv_at hl 1 rfl) ?_
        obtain ⟨hg, h⟩ := gd_e h
        refine g_lald hx hb hK hI 15 10 rfl rfl hg d_W_hasOne_12 ?_
        refine lv_lconst (v := 0) hx hb d_W_hasOne_13 (by decide) ?_
        refine W.lcmp hx hb d_W_hasOne_14 ?_
        refine lv_if_eq (tgt := 20) hx hb d_W_hasOne_15 rfl (fun hc2 => ?_) (fun hc2 => ?_)
        · rw [if_pos hc2] at h
          obtain ⟨x3, e_x3, h⟩ := lt_e h
          refine lv_iinc (v := x3) (k := 1) hx hb d_W_hasOne_20 hl rfl (by subst e_x3; rfl) (by decide) rfl (fun ls hl => ?_)
          refine lv_goto (tgt := 2) hx hb d_W_hasOne_23 rfl ?_
          exact ih x3 u _ _ _ (lv_sub hl [1, 0] rfl) hI h
        · rw [if_neg hc2] at h
          refine lv_iconst (v := 1) hx hb d_W_hasOne_18 (by decide) ?_
          exact g_zret (Wd := k_W ad cA) hx hb hr hlk hK hI h d_W_hasOne_19
  dsimp only [f_W_hasOne] at h
  refine lv_iconst (v := 0) hx hb d_W_hasOne_0 (by decide) ?_
  refine lv_istore_n (lv' := [(1, .int 0), (0, .ref (ad 14))]) hx hb d_W_hasOne_1 rfl hl (by decide) rfl (fun ls hl => ?_)
  exact w2 4096 0 u _ _ _ (lv_sub hl [1, 0] rfl) hI h
def f_W_hasEach_L2 (n : Nat) : Int32 → KS → Option (Int32 × KS) := match n with
  | 0 => fun _ _ => none
  | n + 1 => fun v1 u => if 3 ≤ v1 then (gd (bz 1) (some (1, u))) else (gd (inb v1 3) (if (lg_cmp (k_wd u v1.toNatClampNeg) ((-1))) = 0 then (lt_ (v1 + 1) fun x3 => f_W_hasEach_L2 n x3 u) else (gd (bz 0) (some (0, u)))))
def f_W_hasEach (u : KS) : Option (Int32 × KS) := f_W_hasEach_L2 4096 0 u
set_option maxRecDepth 100000 in
set_option maxHeartbeats 4000000 in
theorem c_W_hasEach (l : Launch) (D : va_G) (ad : Nat → Nat) (cA : Nat → ClassId) {u u0 : KS} {r0 : Int32} (h : f_W_hasEach u = some (r0, u0)) : g_M l y_W_hasEach w_W_hasEach { frames := 0, cells := 0, slots := 0, locals := 0 } D vwCl (k_T cA) (k_W ad cA u) [.ref (ad 14)] (some (.int r0)) (k_W ad cA u0) := by
  refine g_ofW (cc := c0_W_hasEach) (maxL := 2) (ret := (some .boolean)) (by decide) rfl (Nat.le_of_ble_eq_true rfl) ?_
  intro p e s m below meth c A ls hx hb hr hml hown hts hlk hK hA hI hl
  have hts : ∀ w ∈ gW, w.before ([.ref (ad 14)] : List Value).toArray s = true := fun w h => hts w (List.mem_cons_of_mem _ h)
  have hown : s.vm.findClass R_W = some m.cls := hown
  have hl : lv_has ls 2 [(0, .ref (ad 14))] := hl
  have w2 : ∀ (n : Nat) (v1 : Int32) (u : KS) (H : Heap) (locs : List Loc) (ls : Array Slot), lv_has ls 2 [(0, .ref (ad 14)), (1, .int v1)] → g_I D vwCl A s.heap H locs (k_W ad cA u) → f_W_hasEach_L2 n v1 u = some (r0, u0) → W p l e { frames := 0, cells := 0, slots := 0, locals := 0 } s m ([.ref (ad 14)] : List Value).toArray below meth c H locs 0 0 (MQ below (g_Q D vwCl (k_T cA) (k_W ad cA u0) A (some (.int r0))) ([.ref (ad 14)] : List Value).toArray s 0 0 A) (F0 m 2 ls []) := by
    intro  n
    induction n with
    | zero => intro v1 u H locs ls hl hI h; cases h
    | succ n ih =>
      intro v1 u H locs ls hl hI h
      dsimp only [f_W_hasEach_L2] at h
      refine lv_iload_n hx hb d_W_hasEach_2 rfl (lv_at hl 1 rfl) ?_
      refine lv_iconst (v := 3) hx hb d_W_hasEach_3 (by decide) ?_
      refine lv_icmp_ge (tgt := 28) hx hb d_W_hasEach_4 rfl (fun hc1 => ?_) (fun hc1 => ?_)
      · rw [if_pos hc1] at h
        refine lv_iconst (v := 1) hx hb d_W_hasEach_28 (by decide) ?_
        exact g_zret (Wd := k_W ad cA) hx hb hr hlk hK hI h d_W_hasEach_29
      · rw [if_neg hc1] at h
        refine lv_aload_n hx hb d_W_hasEach_7 rfl (lv_at hl 0 rfl) ?_
        refine g_get (v := .ref (ad 15)) hx hb hts in_W hown hK hI 14 rfl rfl 0 (by decide) (hts _ wd_99) rfl d_W_hasEach_8 ?_
        refine lv_iload_n hx hb d_W_hasEach_11 rfl (lv_at hl 1 rfl) ?_
        obtain ⟨hg, h⟩ := gd_e h
        refine g_lald hx hb hK hI 15 10 rfl rfl hg d_W_hasEach_12 ?_
        refine lv_ldc2 (v := (-1)) hx hb hown (hts _ wd_98) d_W_hasEach_13 ?_
        refine W.lcmp hx hb d_W_hasEach_16 ?_
        refine lv_if_eq (tgt := 22) hx hb d_W_hasEach_17 rfl (fun hc2 => ?_) (fun hc2 => ?_)
        · rw [if_pos hc2] at h
          obtain ⟨x3, e_x3, h⟩ := lt_e h
          refine lv_iinc (v := x3) (k := 1) hx hb d_W_hasEach_22 hl rfl (by subst e_x3; rfl) (by decide) rfl (fun ls hl => ?_)
          refine lv_goto (tgt := 2) hx hb d_W_hasEach_25 rfl ?_
          exact ih x3 u _ _ _ (lv_sub hl [1, 0] rfl) hI h
        · rw [if_neg hc2] at h
          refine lv_iconst (v := 0) hx hb d_W_hasEach_20 (by decide) ?_
          exact g_zret (Wd := k_W ad cA) hx hb hr hlk hK hI h d_W_hasEach_21
  dsimp only [f_W_hasEach] at h
  refine lv_iconst (v := 0) hx hb d_W_hasEach_0 (by decide) ?_
  refine lv_istore_n (lv' := [(1, .int 0), (0, .ref (ad 14))]) hx hb d_W_hasEach_1 rfl hl (by decide) rfl (fun ls hl => ?_)
  exact w2 4096 0 u _ _ _ (lv_sub hl [1, 0] rfl) hI h
def f_J_max (a0 : Int32) (a1 : Int32) (u : KS) : Option (Int32 × KS) := if a0 < a1 then some (a1, u) else some (a0, u)
set_option maxRecDepth 100000 in
set_option maxHeartbeats 4000000 in
theorem c_J_max (l : Launch) (D : va_G) (ad : Nat → Nat) (cA : Nat → ClassId) {a0 : Int32} {a1 : Int32} {u u0 : KS} {r0 : Int32} (h : f_J_max a0 a1 u = some (r0, u0)) : g_M l y_J_max w_J_max { frames := 0, cells := 0, slots := 0, locals := 0 } D vwCl (k_T cA) (k_W ad cA u) [.int a0, .int a1] (some (.int r0)) (k_W ad cA u0) := by
  refine g_ofF (cc := c0_J_max) (maxL := 2) (ret := (some .int)) (by decide +kernel) rfl (Nat.le_of_ble_eq_true rfl) ?_
  intro p e s m below meth c A ls hx hb hr hml hown hts hlk hK hA hI hl
  have hts : ∀ w ∈ gW, w.before ([.int a0, .int a1] : List Value).toArray s = true := fun w h => hts w (List.mem_cons_of_mem _ h)
  have hown : s.vm.findClass R_J = some m.cls := hown
  have hl : lv_has ls 2 [(0, .int a0), (1, .int a1)] := hl
  dsimp only [f_J_max] at h
  refine lv_iload_n hx hb d_J_max_0 rfl (lv_at hl 0 rfl) ?_
  refine lv_iload_n hx hb d_J_max_1 rfl (lv_at hl 1 rfl) ?_
  refine lv_icmp_lt (tgt := 9) hx hb d_J_max_2 rfl (fun hc1 => ?_) (fun hc1 => ?_)
  · rw [if_pos hc1] at h
    refine lv_iload_n hx hb d_J_max_9 rfl (lv_at hl 1 rfl) ?_
    exact g_iret (Wd := k_W ad cA) hx hb hr hlk hK hI h d_J_max_10
  · rw [if_neg hc1] at h
    refine lv_iload_n hx hb d_J_max_5 rfl (lv_at hl 0 rfl) ?_
    refine lv_goto (tgt := 10) hx hb d_J_max_6 rfl ?_
    exact g_iret (Wd := k_W ad cA) hx hb hr hlk hK hI h d_J_max_10
def f_J_min (a0 : Int32) (a1 : Int32) (u : KS) : Option (Int32 × KS) := if a1 < a0 then some (a1, u) else some (a0, u)
set_option maxRecDepth 100000 in
set_option maxHeartbeats 4000000 in
theorem c_J_min (l : Launch) (D : va_G) (ad : Nat → Nat) (cA : Nat → ClassId) {a0 : Int32} {a1 : Int32} {u u0 : KS} {r0 : Int32} (h : f_J_min a0 a1 u = some (r0, u0)) : g_M l y_J_min w_J_min { frames := 0, cells := 0, slots := 0, locals := 0 } D vwCl (k_T cA) (k_W ad cA u) [.int a0, .int a1] (some (.int r0)) (k_W ad cA u0) := by
  refine g_ofF (cc := c0_J_min) (maxL := 2) (ret := (some .int)) (by decide +kernel) rfl (Nat.le_of_ble_eq_true rfl) ?_
  intro p e s m below meth c A ls hx hb hr hml hown hts hlk hK hA hI hl
  have hts : ∀ w ∈ gW, w.before ([.int a0, .int a1] : List Value).toArray s = true := fun w h => hts w (List.mem_cons_of_mem _ h)
  have hown : s.vm.findClass R_J = some m.cls := hown
  have hl : lv_has ls 2 [(0, .int a0), (1, .int a1)] := hl
  dsimp only [f_J_min] at h
  refine lv_iload_n hx hb d_J_min_0 rfl (lv_at hl 0 rfl) ?_
  refine lv_iload_n hx hb d_J_min_1 rfl (lv_at hl 1 rfl) ?_
  refine lv_icmp_gt (tgt := 9) hx hb d_J_min_2 rfl (fun hc1 => ?_) (fun hc1 => ?_)
  · rw [if_pos hc1] at h
    refine lv_iload_n hx hb d_J_min_9 rfl (lv_at hl 1 rfl) ?_
    exact g_iret (Wd := k_W ad cA) hx hb hr hlk hK hI h d_J_min_10
  · rw [if_neg hc1] at h
    refine lv_iload_n hx hb d_J_min_5 rfl (lv_at hl 0 rfl) ?_
    refine lv_goto (tgt := 10) hx hb d_J_min_6 rfl ?_
    exact g_iret (Wd := k_W ad cA) hx hb hr hlk hK hI h d_J_min_10
def f_W_repeatsAfter_L3 (n : Nat) : Int32 → Int32 → KS → Option (Int32 × KS) := match n with
  | 0 => fun _ _ _ => none
  | n + 1 => fun v1 v2 u => if 107 ≤ v2 then (gd (bz 1) (some (1, u))) else (ob (f_W_has v2 u) fun r2 u3 => ob (f_W_has (v2 + v1) u3) fun r4 u5 => if r2 = r4 then (lt_ (v2 + 1) fun x7 => f_W_repeatsAfter_L3 n v1 x7 u5) else (gd (bz 0) (some (0, u5))))
def f_W_repeatsAfter (a1 : Int32) (u : KS) : Option (Int32 × KS) := f_W_repeatsAfter_L3 4096 a1 95 u
set_option maxRecDepth 100000 in
set_option maxHeartbeats 4000000 in
theorem c_W_repeatsAfter (l : Launch) (D : va_G) (ad : Nat → Nat) (cA : Nat → ClassId) {a1 : Int32} {u u0 : KS} {r0 : Int32} (h : f_W_repeatsAfter a1 u = some (r0, u0)) : g_M l y_W_repeatsAfter w_W_repeatsAfter { frames := 3, cells := 0, slots := 0, locals := 64 } D vwCl (k_T cA) (k_W ad cA u) [.ref (ad 14), .int a1] (some (.int r0)) (k_W ad cA u0) := by
  refine g_ofW (cc := c0_W_repeatsAfter) (maxL := 3) (ret := (some .boolean)) (by decide) rfl (Nat.le_of_ble_eq_true rfl) ?_
  intro p e s m below meth c A ls hx hb hr hml hown hts hlk hK hA hI hl
  have hts : ∀ w ∈ gW, w.before ([.ref (ad 14), .int a1] : List Value).toArray s = true := fun w h => hts w (List.mem_cons_of_mem _ h)
  have hown : s.vm.findClass R_W = some m.cls := hown
  have hl : lv_has ls 3 [(0, .ref (ad 14)), (1, .int a1)] := hl
  have w3 : ∀ (n : Nat) (v1 : Int32) (v2 : Int32) (u : KS) (H : Heap) (locs : List Loc) (ls : Array Slot), lv_has ls 3 [(0, .ref (ad 14)), (1, .int v1), (2, .int v2)] → g_I D vwCl A s.heap H locs (k_W ad cA u) → f_W_repeatsAfter_L3 n v1 v2 u = some (r0, u0) → W p l e { frames := 3, cells := 0, slots := 0, locals := 64 } s m ([.ref (ad 14), .int a1] : List Value).toArray below meth c H locs 0 0 (MQ below (g_Q D vwCl (k_T cA) (k_W ad cA u0) A (some (.int r0))) ([.ref (ad 14), .int a1] : List Value).toArray s 0 0 A) (F0 m 3 ls []) := by
    intro  n
    induction n with
    | zero => intro v1 v2 u H locs ls hl hI h; cases h
    | succ n ih =>
      intro v1 v2 u H locs ls hl hI h
      dsimp only [f_W_repeatsAfter_L3] at h
      refine lv_iload_n hx hb d_W_repeatsAfter_3 rfl (lv_at hl 2 rfl) ?_
      refine lv_bipush (v := 107) hx hb d_W_repeatsAfter_4 (by decide) ?_
      refine lv_icmp_ge (tgt := 32) hx hb d_W_repeatsAfter_6 rfl (fun hc1 => ?_) (fun hc1 => ?_)
      · rw [if_pos hc1] at h
        refine lv_iconst (v := 1) hx hb d_W_repeatsAfter_32 (by decide) ?_
        exact g_zret (Wd := k_W ad cA) hx hb hr hlk hK hI h d_W_repeatsAfter_33
      · rw [if_neg hc1] at h
        refine lv_aload_n hx hb d_W_repeatsAfter_9 rfl (lv_at hl 0 rfl) ?_
        refine lv_iload_n hx hb d_W_repeatsAfter_10 rfl (lv_at hl 2 rfl) ?_
        obtain ⟨r2, u3, hc, h⟩ := ob_e h
        refine g_callV (As := [.int v2]) (rest := []) (w' := k_W ad cA u3) (o := some (.int r2)) ⟨hx, hb, hml, hown, hts⟩ (c_W_has l D ad cA hc) (cwV 1 hts gq_W_33 rfl rfl rfl (by decide +kernel) ⟨Nat.le_of_ble_eq_true rfl, Nat.le_of_ble_eq_true rfl⟩) hK hI hA 14 4 rfl rfl rfl hl.1 rfl (Nat.le_of_ble_eq_true rfl) d_W_repeatsAfter_11 ⟨Nat.zero_le _, Nat.zero_le _⟩ rfl (fun H locs hI => ?_)
        refine lv_aload_n hx hb d_W_repeatsAfter_14 rfl (lv_at hl 0 rfl) ?_
        refine lv_iload_n hx hb d_W_repeatsAfter_15 rfl (lv_at hl 2 rfl) ?_
        refine lv_iload_n hx hb d_W_repeatsAfter_16 rfl (lv_at hl 1 rfl) ?_
        refine lv_iadd hx hb d_W_repeatsAfter_17 ?_
        obtain ⟨r4, u5, hc, h⟩ := ob_e h
        refine g_callV (As := [.int (v2 + v1)]) (rest := [.int r2]) (w' := k_W ad cA u5) (o := some (.int r4)) ⟨hx, hb, hml, hown, hts⟩ (c_W_has l D ad cA hc) (cwV 1 hts gq_W_33 rfl rfl rfl (by decide +kernel) ⟨Nat.le_of_ble_eq_true rfl, Nat.le_of_ble_eq_true rfl⟩) hK hI hA 14 4 rfl rfl rfl hl.1 rfl (Nat.le_of_ble_eq_true rfl) d_W_repeatsAfter_18 ⟨Nat.zero_le _, Nat.zero_le _⟩ rfl (fun H locs hI => ?_)
        refine lv_icmp_eq (tgt := 26) hx hb d_W_repeatsAfter_21 rfl (fun hc6 => ?_) (fun hc6 => ?_)
        · rw [if_pos hc6] at h
          obtain ⟨x7, e_x7, h⟩ := lt_e h
          refine lv_iinc (v := x7) (k := 2) hx hb d_W_repeatsAfter_26 hl rfl (by subst e_x7; rfl) (by decide) rfl (fun ls hl => ?_)
          refine lv_goto (tgt := 3) hx hb d_W_repeatsAfter_29 rfl ?_
          exact ih v1 x7 u5 _ _ _ (lv_sub hl [1, 2, 0] rfl) hI h
        · rw [if_neg hc6] at h
          refine lv_iconst (v := 0) hx hb d_W_repeatsAfter_24 (by decide) ?_
          exact g_zret (Wd := k_W ad cA) hx hb hr hlk hK hI h d_W_repeatsAfter_25
  dsimp only [f_W_repeatsAfter] at h
  refine lv_bipush (v := 95) hx hb d_W_repeatsAfter_0 (by decide) ?_
  refine lv_istore_n (lv' := [(2, .int 95), (0, .ref (ad 14)), (1, .int a1)]) hx hb d_W_repeatsAfter_2 rfl hl (by decide) rfl (fun ls hl => ?_)
  exact w3 4096 a1 95 u _ _ _ (lv_sub hl [1, 2, 0] rfl) hI h
end
