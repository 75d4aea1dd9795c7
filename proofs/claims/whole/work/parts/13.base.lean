-- pure combinators of the functions that the walks are tied to
def lt_ {α β : Type} (a : α) (f : α → β) : β := f a
theorem lt_e {α β : Type} {a : α} {f : α → β} {z : β} (h : lt_ a f = z) : ∃ x, x = a ∧ f x = z := ⟨a, rfl, h⟩
def ob {α β γ : Type} (o : Option (α × β)) (f : α → β → Option γ) : Option γ := match o with
  | none => none
  | some q => f q.1 q.2
theorem ob_e {α β γ : Type} {o : Option (α × β)} {f : α → β → Option γ} {z : γ} (h : ob o f = some z) : ∃ r u, o = some (r, u) ∧ f r u = some z := by
  cases o with
  | none => cases h
  | some q => exact ⟨q.1, q.2, rfl, h⟩
theorem ob_s {α β γ : Type} {o : Option (α × β)} {f : α → β → Option γ} {r : α} {u : β} (h : o = some (r, u)) : ob o f = f r u := by subst h; rfl
def gd {γ : Type} (b : Bool) (k : Option γ) : Option γ := match b with
  | true => k
  | false => none
theorem gd_e {γ : Type} {b : Bool} {k : Option γ} {z : γ} (h : gd b k = some z) : b = true ∧ k = some z := by
  cases b with
  | false => cases h
  | true => exact ⟨rfl, h⟩
theorem gd_s {γ : Type} {b : Bool} {k : Option γ} (h : b = true) : gd b k = k := by subst h; rfl
/-- a place of an array of n places -/
def inb (i : Int32) (n : Nat) : Bool := decide (0 ≤ i.toInt) && decide (i.toInt < n)
theorem inb_e {i : Int32} {n : Nat} (h : inb i n = true) : vp_in i n := by
  unfold inb at h
  simp only [Bool.and_eq_true, decide_eq_true_eq] at h
  exact vp_in_iff.mpr h
/-- a truth value -/
def bz (v : Int32) : Bool := decide (v = 0) || decide (v = 1)
theorem bz_e {v : Int32} (h : bz v = true) : v = 0 ∨ v = 1 := by
  unfold bz at h
  simpa only [Bool.or_eq_true, decide_eq_true_eq] using h
theorem bz_n {v : Int32} (h : bz v = true) : narrow .boolean (.int v) = .int v := by
  rcases bz_e h with rfl | rfl <;> decide +kernel
theorem bz_f {v : Int32} (h : bz v = true) : fits .boolean (.int v) = true := by
  rcases bz_e h with rfl | rfl <;> decide +kernel
def nz (v : Int32) : Bool := decide (¬ v = 0)
theorem nz_e {v : Int32} (h : nz v = true) : ¬ v = 0 := by
  unfold nz at h
  exact of_decide_eq_true h
-- a side's method: its whole world in, its whole world out
def g_In (D : va_G) (cl : List vw_C) (ty : List (ClassId × FieldType)) (w : va_W) (sz : Nat) (U : State) : Prop := U.heap.size = sz ∧ va_P D cl w U.heap ∧ va_K D cl ty U ∧ va_D (fun _ => True) w
def g_Q (D : va_G) (cl : List vw_C) (ty : List (ClassId × FieldType)) (w : va_W) (A : Nat → Prop) (o : Option Value) : Array Value → State → Outcome → State → Prop :=
  fun _ st oc t => (oc = .returned o ∧ va_P D cl w t.heap ∧ va_K D cl ty t ∧ va_D A w) ∧ va_F A st t
def g_M (l : Launch) (y : MethodName) (ws : List Cond) (rm : Room) (D : va_G) (cl : List vw_C) (ty : List (ClassId × FieldType)) (w : va_W) (av : List Value) (o : Option Value) (w' : va_W) : Prop :=
  ∀ sz : Nat, Met l y ws rm (va_Pc av (g_In D cl ty w sz)) (g_Q D cl ty w' (va_A w sz) o) 0 0 (va_A w sz)
def g_I (D : va_G) (cl : List vw_C) (A : Nat → Prop) (H0 H : Heap) (locs : List Loc) (w : va_W) : Prop := va_P D cl w H ∧ va_D A w ∧ va_S A H0 H locs
theorem g_blind {D : va_G} {cl : List vw_C} {ty : List (ClassId × FieldType)} {w : va_W} {sz : Nat} {av : List Value} : FrameBlind (va_Pc av (g_In D cl ty w sz)) :=
  fun a U g mk q => ⟨q.1, q.2.1, q.2.2.1, va_K.moved (u := U) (U := U.calling g mk a) (Vm.Alike.refl U.vm) q.2.2.2.1, q.2.2.2.2⟩
section GB
variable {p : Program} {l : Launch} {e : Env} {R : Room} {s : State} {m : MethodId} {args : Array Value} {below : List Frame} {meth : Method} {c : Code} {H : Heap} {locs : List Loc} {cells slots : Nat} {Q : State → Prop}
variable {D : va_G} {cl : List vw_C} {ty : List (ClassId × FieldType)} {w w' : va_W} {A : Nat → Prop} {cc bytes : ByteArray} {pc nL maxL index n : Nat} {ls : Array Slot} {rest st0 : List Value} {Ts ws ws' : List Cond} {own C : String} {y : MethodName} {ret : Option FieldType} {rm : Room}
theorem g_pre {av : List Value} (hK : va_K D cl ty s) (hI : g_I D cl A s.heap H locs w) : ∀ U : State, U.heap = H → s.WarmedH U.vm → va_Pc av (g_In D cl ty w H.size) av.toArray U :=
  fun U hU hW => ⟨rfl, by rw [hU], by rw [hU]; exact hI.1, va_K.moved hW.alike hK, hI.2.1.weaken (fun _ _ _ _ => trivial)⟩
theorem g_free (hI : g_I D cl A s.heap H locs w) (hA : ∀ q, s.heap.size ≤ q → A q) : ∀ q, va_A w H.size q → A q := fun q h => by
  rcases h with ⟨k, e, h⟩ | h
  · exact hI.2.1.2 k (q, e) h
  · exact hA q (Nat.le_trans hI.2.2.1 h)
theorem g_after {o : Option Value} {a : Array Value} (hr : va_Run p l e R s m args below meth c H locs cells slots 0 0 (F0 m pc ls st0) rest (g_Q D cl ty w' (va_A w H.size) o a) (va_A w H.size)) (hI : g_I D cl A s.heap H locs w) (hA : ∀ q, s.heap.size ≤ q → A q)
    (kk : ∀ (H1 : Heap) (locs1 : List Loc), g_I D cl A s.heap H1 locs1 w' → W p l e R s m args below meth c H1 locs1 cells slots Q (F0 m (pc + 3) ls (o.toList ++ rest))) : W p l e R s m args below meth c H locs cells slots Q (F0 m pc ls st0) := by
  intro T hT X
  obtain ⟨v, st₀, t, T', L, h0, X', hL, e1, e2, ⟨⟨hv, hP', hK', hD'⟩, hz, hk⟩, st⟩ := hr T hT X
  cases hv
  rw [h0] at hz hk
  have hfr := g_free hI hA
  obtain ⟨t2, a1, b1⟩ := kk T'.heap (locs ++ L) ⟨by rw [e1]; exact hP', hD'.weaken (fun k q _ h => hfr q.1 h),
    ⟨Nat.le_trans hI.2.2.1 (by rw [e1]; exact hz), fun q h1 h2 => by rw [e1, hk q (Nat.lt_of_lt_of_le h1 hI.2.2.1) (fun z => h2 (hfr q z))]; exact hI.2.2.2.1 q h1 h2, fun q hq => by
      rcases List.mem_append.mp hq with h | h
      · exact hI.2.2.2.2 q h
      · exact hfr _ (hL q h)⟩⟩ T' rfl X'
  exact ⟨t2, st t2 a1, b1⟩
theorem g_callV {o : Option Value} {b : Nat} {As : List Value} {st1 : List Value} (S : CallFix p m c cc nL s args Ts own) (hM : g_M l y ws rm D cl ty w (.ref b :: As) o w') (cw : CallW R s args own C index y bytes maxL ret ws rm 0 0 n) (hK : va_K D cl ty s) (hI : g_I D cl A s.heap H locs w) (hA : ∀ q, s.heap.size ≤ q → A q)
    (q0 ci : Nat) {T : u_T} {N : Nat} {fs : List Value} (hc : cl[ci]? = some (C, T, N)) (he : w[q0]? = some (b, .inr (ci, fs))) (hn : As.length = n) (hsize : ls.size = nL) (hst : st0 = As.reverse ++ .ref b :: rest) (hW : (rest.map fun v => v.category).sum ≤ 8) (hdg : decode cc pc = .ok (.invokevirtual index, 3)) (hf : cells ≤ R.cells ∧ slots ≤ R.slots) (ho : o.toList ++ rest = st1)
    (kk : ∀ (H1 : Heap) (locs1 : List Loc), g_I D cl A s.heap H1 locs1 w' → W p l e R s m args below meth c H1 locs1 cells slots Q (F0 m (pc + 3) ls st1)) : W p l e R s m args below meth c H locs cells slots Q (F0 m pc ls st0) := by
  subst ho
  exact g_after (va_runV (As := As) (rest := rest) (b := b) S (hM H.size) cw ⟨g_blind, va_recv hK hI.1 hc he, g_pre hK hI⟩ rfl hn hsize hst (lv_room hW) hdg hf) hI hA kk
theorem g_callS {o : Option Value} {As : List Value} {st1 : List Value} (S : CallFix p m c cc nL s args Ts own) (hM : g_M l y ws rm D cl ty w As o w') (cw : CallB R s args own index y bytes maxL ret ws rm 0 0 n ∧ (Cond.static y).before args s = true) (hK : va_K D cl ty s) (hI : g_I D cl A s.heap H locs w) (hA : ∀ q, s.heap.size ≤ q → A q)
    (hn : As.length = n) (hsize : ls.size = nL) (hst : st0 = As.reverse ++ rest) (hW : (rest.map fun v => v.category).sum ≤ 8) (hdg : decode cc pc = .ok (.invokestatic index, 3)) (hf : cells ≤ R.cells ∧ slots ≤ R.slots) (ho : o.toList ++ rest = st1)
    (kk : ∀ (H1 : Heap) (locs1 : List Loc), g_I D cl A s.heap H1 locs1 w' → W p l e R s m args below meth c H1 locs1 cells slots Q (F0 m (pc + 3) ls st1)) : W p l e R s m args below meth c H locs cells slots Q (F0 m pc ls st0) := by
  subst ho
  exact g_after (va_runS (As := As) (rest := rest) S (hM H.size) cw ⟨g_blind, g_pre hK hI⟩ rfl hn hsize hst (lv_room hW) hdg hf) hI hA kk
theorem g_get {T : u_T} {N ci a : Nat} (hexec : p.tables.exec = Jvm.exec) (hb : c.code = cc) (hts : ∀ w ∈ Ts, w.before args s = true) (hin : ∀ w ∈ u_ws C T N, w ∈ Ts) (hown : s.vm.findClass own = some m.cls) (hK : va_K D cl ty s) (hI : g_I D cl A s.heap H locs w) (q0 : Nat) {fs : List Value} (he : w[q0]? = some (a, .inr (ci, fs))) (hc : cl[ci]? = some (C, T, N)) (k : Nat) (hk : k < N) (hlink : (Cond.fieldLink own index (T k).1 (T k).2.1 (T k).2.2.1).before args s = true) {v : Value} (hv : fs[k]? = some v) (hdg : decode cc pc = .ok (.getfield index, 3))
    (kk : W p l e R s m args below meth c H locs cells slots Q (F0 m (pc + 3) ls (v :: rest))) : W p l e R s m args below meth c H locs cells slots Q (F0 m pc ls (.ref a :: rest)) :=
  va_get hexec hb hts hin hown hK hI.1 q0 he hc k hk hlink (fun _ h => h) hv hdg kk
theorem g_put {T : u_T} {N ci a : Nat} (hexec : p.tables.exec = Jvm.exec) (hb : c.code = cc) (hts : ∀ w ∈ Ts, w.before args s = true) (hin : ∀ w ∈ u_ws C T N, w ∈ Ts) (ty0 : Nat → FieldType) (hty : ∀ k, k < N → parseFieldDescriptor (T k).2.2.1 = some (ty0 k)) (hnm : ∀ a, a < N → ∀ b, b < N → a ≠ b → (T a).2.1 ≠ (T b).2.1) (hown : s.vm.findClass own = some m.cls) (hK : va_K D cl ty s) (hI : g_I D cl A s.heap H locs w) (q0 : Nat) {fs : List Value} (he : w[q0]? = some (a, .inr (ci, fs))) (hc : cl[ci]? = some (C, T, N)) (k : Nat) (hk : k < N) (hlink : (Cond.fieldLink own index (T k).1 (T k).2.1 (T k).2.2.1).before args s = true) (hfin : (T k).2.2.2 = false) {t : FieldType} {v : Value} (hd : parseFieldDescriptor (T k).2.2.1 = some t) (hn : narrow t v = v) (hfit : fits t v = true) (hl : k < fs.length) (hdg : decode cc pc = .ok (.putfield index, 3)) (hw : w.set q0 (a, .inr (ci, fs.set k v)) = w')
    (kk : ∀ (H1 : Heap) (locs1 : List Loc), g_I D cl A s.heap H1 locs1 w' → W p l e R s m args below meth c H1 locs1 cells slots Q (F0 m (pc + 3) ls rest)) : W p l e R s m args below meth c H locs cells slots Q (F0 m pc ls (v :: .ref a :: rest)) := by
  subst hw
  exact va_put hexec hb hts hin ty0 hty hnm hown hK hI.1 hI.2.1 hI.2.2 q0 he hc k hk hlink (fun _ h => h) hfin hd hn hfit hl hdg (fun H1 locs1 a b c => kk H1 locs1 ⟨a, b, c⟩)
theorem g_iald {a : Nat} (hexec : p.tables.exec = Jvm.exec) (hb : c.code = cc) (hK : va_K D cl ty s) (hI : g_I D cl A s.heap H locs w) (q0 t0 : Nat) {cA : ClassId} {N : Nat} {f : Nat → Int32} (ha : w[q0]? = some (a, .inl (cA, N, .inl f))) (ht : ty[t0]? = some (cA, .int)) {i : Int32} (hin : inb i N = true) (hdg : decode cc pc = .ok (.iaload, 1))
    (kk : W p l e R s m args below meth c H locs cells slots Q (F0 m (pc + 1) ls (.int (f i.toNatClampNeg) :: rest))) : W p l e R s m args below meth c H locs cells slots Q (F0 m pc ls (.int i :: .ref a :: rest)) :=
  va_iald hexec hb hK hI.1 q0 t0 ha ht (inb_e hin) hdg kk
theorem g_zald {a : Nat} (hexec : p.tables.exec = Jvm.exec) (hb : c.code = cc) (hK : va_K D cl ty s) (hI : g_I D cl A s.heap H locs w) (q0 t0 : Nat) {cA : ClassId} {N : Nat} {f : Nat → Int32} (ha : w[q0]? = some (a, .inl (cA, N, .inl f))) (ht : ty[t0]? = some (cA, .boolean)) {i : Int32} (hin : inb i N = true) (hdg : decode cc pc = .ok (.baload, 1))
    (kk : W p l e R s m args below meth c H locs cells slots Q (F0 m (pc + 1) ls (.int (f i.toNatClampNeg) :: rest))) : W p l e R s m args below meth c H locs cells slots Q (F0 m pc ls (.int i :: .ref a :: rest)) :=
  va_zald hexec hb hK hI.1 q0 t0 ha ht (inb_e hin) hdg kk
theorem g_lald {a : Nat} (hexec : p.tables.exec = Jvm.exec) (hb : c.code = cc) (hK : va_K D cl ty s) (hI : g_I D cl A s.heap H locs w) (q0 t0 : Nat) {cA : ClassId} {N : Nat} {f : Nat → Int64} (ha : w[q0]? = some (a, .inl (cA, N, .inr (.inl f)))) (ht : ty[t0]? = some (cA, .long)) {i : Int32} (hin : inb i N = true) (hdg : decode cc pc = .ok (.laload, 1))
    (kk : W p l e R s m args below meth c H locs cells slots Q (F0 m (pc + 1) ls (.long (f i.toNatClampNeg) :: rest))) : W p l e R s m args below meth c H locs cells slots Q (F0 m pc ls (.int i :: .ref a :: rest)) :=
  va_lald hexec hb hK hI.1 q0 t0 ha ht (inb_e hin) hdg kk
theorem g_alen {a : Nat} (hexec : p.tables.exec = Jvm.exec) (hb : c.code = cc) (hK : va_K D cl ty s) (hI : g_I D cl A s.heap H locs w) (q0 t0 : Nat) {cA : ClassId} {x : vp_A} (ha : w[q0]? = some (a, .inl (cA, x))) {t : FieldType} (ht : ty[t0]? = some (cA, t)) {v : Int32} (hv : Int32.ofNat x.1 = v) (hdg : decode cc pc = .ok (.arraylength, 1))
    (kk : W p l e R s m args below meth c H locs cells slots Q (F0 m (pc + 1) ls (.int v :: rest))) : W p l e R s m args below meth c H locs cells slots Q (F0 m pc ls (.ref a :: rest)) :=
  va_alen hexec hb hK hI.1 q0 t0 ha ht hv hdg kk
theorem g_iast {a : Nat} (hexec : p.tables.exec = Jvm.exec) (hb : c.code = cc) (hK : va_K D cl ty s) (hI : g_I D cl A s.heap H locs w) (q0 t0 : Nat) {cA : ClassId} {N : Nat} {f : Nat → Int32} (ha : w[q0]? = some (a, .inl (cA, N, .inl f))) (ht : ty[t0]? = some (cA, .int)) {i x : Int32} (hin : inb i N = true) (hdg : decode cc pc = .ok (.iastore, 1)) (hw : w.set q0 (a, .inl (cA, N, .inl (upd f i.toNatClampNeg x))) = w')
    (kk : ∀ (H1 : Heap) (locs1 : List Loc), g_I D cl A s.heap H1 locs1 w' → W p l e R s m args below meth c H1 locs1 cells slots Q (F0 m (pc + 1) ls rest)) : W p l e R s m args below meth c H locs cells slots Q (F0 m pc ls (.int x :: .int i :: .ref a :: rest)) := by
  subst hw
  exact va_iast hexec hb hK hI.1 hI.2.1 hI.2.2 q0 t0 ha ht (inb_e hin) hdg (fun H1 locs1 a b c => kk H1 locs1 ⟨a, b, c⟩)
theorem g_zast {a : Nat} (hexec : p.tables.exec = Jvm.exec) (hb : c.code = cc) (hK : va_K D cl ty s) (hI : g_I D cl A s.heap H locs w) (q0 t0 : Nat) {cA : ClassId} {N : Nat} {f : Nat → Int32} (ha : w[q0]? = some (a, .inl (cA, N, .inl f))) (ht : ty[t0]? = some (cA, .boolean)) {i x : Int32} (hin : inb i N = true) (hdg : decode cc pc = .ok (.bastore, 1)) (hw : w.set q0 (a, .inl (cA, N, .inl (upd f i.toNatClampNeg (vp_nar .boolean x)))) = w')
    (kk : ∀ (H1 : Heap) (locs1 : List Loc), g_I D cl A s.heap H1 locs1 w' → W p l e R s m args below meth c H1 locs1 cells slots Q (F0 m (pc + 1) ls rest)) : W p l e R s m args below meth c H locs cells slots Q (F0 m pc ls (.int x :: .int i :: .ref a :: rest)) := by
  subst hw
  exact va_zast hexec hb hK hI.1 hI.2.1 hI.2.2 q0 t0 ha ht (inb_e hin) hdg (fun H1 locs1 a b c => kk H1 locs1 ⟨a, b, c⟩)
theorem g_last {a : Nat} (hexec : p.tables.exec = Jvm.exec) (hb : c.code = cc) (hK : va_K D cl ty s) (hI : g_I D cl A s.heap H locs w) (q0 t0 : Nat) {cA : ClassId} {N : Nat} {f : Nat → Int64} (ha : w[q0]? = some (a, .inl (cA, N, .inr (.inl f)))) (ht : ty[t0]? = some (cA, .long)) {i : Int32} {x : Int64} (hin : inb i N = true) (hdg : decode cc pc = .ok (.lastore, 1)) (hw : w.set q0 (a, .inl (cA, N, .inr (.inl (vp_updL f i.toNatClampNeg x)))) = w')
    (kk : ∀ (H1 : Heap) (locs1 : List Loc), g_I D cl A s.heap H1 locs1 w' → W p l e R s m args below meth c H1 locs1 cells slots Q (F0 m (pc + 1) ls rest)) : W p l e R s m args below meth c H locs cells slots Q (F0 m pc ls (.long x :: .int i :: .ref a :: rest)) := by
  subst hw
  exact va_last hexec hb hK hI.1 hI.2.1 hI.2.2 q0 t0 ha ht (inb_e hin) hdg (fun H1 locs1 a b c => kk H1 locs1 ⟨a, b, c⟩)
theorem g_ofW {av : List Value} {o : Option Value} (hy : plainName y.cls = true) (hw : ws = Cond.code y cc maxL ret :: ws') (hsl : (lg_sl av).length ≤ maxL)
    (body : ∀ (p : Program) (e : Env) (s : State) (m : MethodId) (below : List Frame) (meth : Method) (c : Code) (A : Nat → Prop) (ls : Array Slot), p.tables.exec = Jvm.exec → c.code = cc → meth.sig.returnType = ret → c.maxLocals = maxL → s.vm.findClass y.cls = some m.cls → (∀ w ∈ ws, w.before av.toArray s = true) → meth.locks = false → va_K D cl ty s → (∀ q, s.heap.size ≤ q → A q) → g_I D cl A s.heap s.heap [] w → lv_has ls maxL (lv_args 0 av) →
      W p l e rm s m av.toArray below meth c s.heap [] 0 0 (MQ below (g_Q D cl ty w' A o) av.toArray s 0 0 A) (F0 m 0 ls [])) : g_M l y ws rm D cl ty w av o w' := by
  intro sz
  refine Met.ofW (cc := cc) (maxL := maxL) (ret := ret) hy hw ?_
  intro p e s m args below meth c s₁ B hml hv
  obtain ⟨rfl, hsz, hP, hK, hD0⟩ := hv
  subst hsz
  rw [lg_entry_eq]
  exact body p e s m below meth c (va_A w s.heap.size) _ B.exec B.bytes B.returns hml (findClass_of_methodNamed B.named) (atoms_spec (ws := ws) B.pre) B.notSynchronized hK (fun q h => Or.inr h) ⟨hP, hD0.self, va_S.rf⟩ (lv_entry av hsl)
theorem g_ofF {av : List Value} {o : Option Value} (hy : plainFor y = true) (hw : ws = Cond.code y cc maxL ret :: ws') (hsl : (lg_sl av).length ≤ maxL)
    (body : ∀ (p : Program) (e : Env) (s : State) (m : MethodId) (below : List Frame) (meth : Method) (c : Code) (A : Nat → Prop) (ls : Array Slot), p.tables.exec = Jvm.exec → c.code = cc → meth.sig.returnType = ret → c.maxLocals = maxL → s.vm.findClass y.cls = some m.cls → (∀ w ∈ ws, w.before av.toArray s = true) → meth.locks = false → va_K D cl ty s → (∀ q, s.heap.size ≤ q → A q) → g_I D cl A s.heap s.heap [] w → lv_has ls maxL (lv_args 0 av) →
      W p l e rm s m av.toArray below meth c s.heap [] 0 0 (MQ below (g_Q D cl ty w' A o) av.toArray s 0 0 A) (F0 m 0 ls [])) : g_M l y ws rm D cl ty w av o w' := by
  intro sz
  refine va_MetF (cc := cc) (maxL := maxL) (ret := ret) hy hw ?_
  intro p e s m args below meth c s₁ B hml hv
  obtain ⟨rfl, hsz, hP, hK, hD0⟩ := hv
  subst hsz
  rw [lg_entry_eq]
  exact body p e s m below meth c (va_A w s.heap.size) _ B.exec B.bytes B.returns hml (findClass_of_methodNamed B.named) (atoms_spec (ws := ws) B.pre) B.notSynchronized hK (fun q h => Or.inr h) ⟨hP, hD0.self, va_S.rf⟩ (lv_entry av hsl)
theorem g_iret {σ : Type} {Wd : σ → va_W} {v r0 : Int32} {u u0 : σ} (hexec : p.tables.exec = Jvm.exec) (hb : c.code = cc) (hr : meth.sig.returnType = some .int) (hlk : meth.locks = false) (hK : va_K D cl ty s) (hI : g_I D cl A s.heap H locs (Wd u)) (h : some (v, u) = some (r0, u0)) (hdg : decode cc pc = .ok (.ireturn, 1)) :
    W p l e R s m args below meth c H locs cells slots (MQ below (g_Q D cl ty (Wd u0) A (some (.int r0))) args s cells slots A) (F0 m pc ls [.int v]) := by
  cases h
  exact W.iret hexec hb hr (fun t ht hW => ⟨⟨rfl, by rw [ht]; exact hI.1, va_K.moved hW.alike hK, hI.2.1⟩, hI.2.2.F ht⟩) hI.2.2.2.2 hdg hlk
theorem g_zret {σ : Type} {Wd : σ → va_W} {v r0 : Int32} {u u0 : σ} (hexec : p.tables.exec = Jvm.exec) (hb : c.code = cc) (hr : meth.sig.returnType = some .boolean) (hlk : meth.locks = false) (hK : va_K D cl ty s) (hI : g_I D cl A s.heap H locs (Wd u)) (h : gd (bz v) (some (v, u)) = some (r0, u0)) (hdg : decode cc pc = .ok (.ireturn, 1)) :
    W p l e R s m args below meth c H locs cells slots (MQ below (g_Q D cl ty (Wd u0) A (some (.int r0))) args s cells slots A) (F0 m pc ls [.int v]) := by
  obtain ⟨hz, h⟩ := gd_e h
  cases h
  exact W.zret hexec hb hr (bz_n hz) (fun t ht hW => ⟨⟨rfl, by rw [ht]; exact hI.1, va_K.moved hW.alike hK, hI.2.1⟩, hI.2.2.F ht⟩) hI.2.2.2.2 hdg hlk
theorem g_lret {σ : Type} {Wd : σ → va_W} {v r0 : Int64} {u u0 : σ} (hexec : p.tables.exec = Jvm.exec) (hb : c.code = cc) (hr : meth.sig.returnType = some .long) (hlk : meth.locks = false) (hK : va_K D cl ty s) (hI : g_I D cl A s.heap H locs (Wd u)) (h : some (v, u) = some (r0, u0)) (hdg : decode cc pc = .ok (.lreturn, 1)) :
    W p l e R s m args below meth c H locs cells slots (MQ below (g_Q D cl ty (Wd u0) A (some (.long r0))) args s cells slots A) (F0 m pc ls [.long v]) := by
  cases h
  exact W.lret hexec hb hr (fun t ht hW => ⟨⟨rfl, by rw [ht]; exact hI.1, va_K.moved hW.alike hK, hI.2.1⟩, hI.2.2.F ht⟩) hI.2.2.2.2 hdg hlk
theorem g_vret {σ : Type} {Wd : σ → va_W} {r0 : Unit} {u u0 : σ} (hexec : p.tables.exec = Jvm.exec) (hb : c.code = cc) (hr : meth.sig.returnType = none) (hlk : meth.locks = false) (hK : va_K D cl ty s) (hI : g_I D cl A s.heap H locs (Wd u)) (h : some ((), u) = some (r0, u0)) (hdg : decode cc pc = .ok (.return_, 1)) :
    W p l e R s m args below meth c H locs cells slots (MQ below (g_Q D cl ty (Wd u0) A none) args s cells slots A) (F0 m pc ls []) := by
  cases h
  exact W.vret hexec hb hr (fun t ht hW => ⟨⟨rfl, by rw [ht]; exact hI.1, va_K.moved hW.alike hK, hI.2.1⟩, hI.2.2.F ht⟩) hI.2.2.2.2 hdg hlk
end GB
