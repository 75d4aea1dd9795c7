/-- g does not look at parts that are not there -/
def gok {α : Type} (g : Nd → α → α → α) : Prop := (∀ n a b b', k_pr (n_k n) = false → g n a b = g n a b') ∧ ∀ n a a' b b', k_pr (n_k n) = false → k_un (n_k n) = false → g n a b = g n a' b'
theorem kun_f {k : Nat} (h : k_un k = false) : k ≠ 33 ∧ k_qu k = false := by simpa [k_un] using h
theorem gok_u : gok (fun (_ : Nd) (_ _ : Unit) => ()) := ⟨fun _ _ _ _ _ => rfl, fun _ _ _ _ _ _ _ => rfl⟩
theorem gok_wf : gok g_wf := ⟨fun n a b b' h => by simp [g_wf, h], fun n a a' b b' h hu => by simp [g_wf, h, hu]⟩
theorem gok_fv : gok g_fv := ⟨fun n a b b' h => by funext v; simp [g_fv, h], fun n a a' b b' h hu => by
  obtain ⟨h1, h2⟩ := kun_f hu
  funext v
  simp [g_fv, h, h1, h2]⟩
theorem gok_dq : gok g_dq := ⟨fun n a b b' h => by simp [g_dq, h], fun n a a' b b' h hu => by
  obtain ⟨h1, h2⟩ := kun_f hu
  simp [g_dq, h, h1, h2]⟩
theorem pat_app {α : Type} {g : Nd → α → α → α} {d : α} (hg : gok g) {P S : List Nd} : ∀ i, wf P i = true → pat g d (P ++ S) i = pat g d P i := by
  refine cl_ind ?_
  intro i n hn hpr hun
  have hn' : (P ++ S)[i]? = some n := by
    rw [List.getElem?_append_left (List.getElem?_eq_some_iff.mp hn).1]
    exact hn
  rw [pat_eq hn, pat_eq hn']
  cases hp : k_pr (n_k n)
  · cases hu : k_un (n_k n)
    · exact Prod.ext rfl (hg.2 n _ _ _ _ hp hu)
    · have h1 := hun hp hu
      rw [h1]
      exact Prod.ext rfl (hg.1 n _ _ _ hp)
  · obtain ⟨h1, h2⟩ := hpr hp
    rw [h1, pat_ln g d P (i + 1), h2]
theorem pat_appr {α : Type} (g : Nd → α → α → α) (d : α) (P S : List Nd) (i : Nat) : pat g d (P ++ S) (P.length + i) = pat g d S i := by
  have h := pat_drop g d (P ++ S) P.length i
  rw [List.drop_left] at h
  exact h.symm
theorem pat_cons {α : Type} (g : Nd → α → α → α) (d : α) (n : Nd) (N : List Nd) (i : Nat) : pat g d (n :: N) (i + 1) = pat g d N i := rfl
theorem pat_un {α : Type} {g : Nd → α → α → α} {d : α} {n : Nd} {N : List Nd} : (pat g d (n :: N) 0).2 = g n (pat g d N 0).2 (pat g d N (ln N 0)).2 := by
  have h := pat_2 (g := g) (d := d) (N := n :: N) (i := 0) (n := n) rfl
  rw [h, show ln (n :: N) (0 + 1) = ln N 0 from rfl, show 0 + 1 + ln N 0 = ln N 0 + 1 by omega, pat_cons, pat_cons]
/-- a row of nodes that is one claim -/
def one (N : List Nd) : Prop := (∀ i, i < N.length → wf N i = true) ∧ ln N 0 = N.length ∧ 0 < N.length
theorem wf_app {P S : List Nd} {i : Nat} (h : wf P i = true) : wf (P ++ S) i = wf P i := congrArg Prod.snd (pat_app gok_wf i h)
theorem ln_app {P S : List Nd} {i : Nat} (h : wf P i = true) : ln (P ++ S) i = ln P i := congrArg Prod.fst (pat_app gok_u i h)
theorem pat_pr {α : Type} {g : Nd → α → α → α} {d : α} (hg : gok g) {n : Nd} {P S : List Nd} (oP : one P) : (pat g d (n :: (P ++ S)) 0).2 = g n (pat g d P 0).2 (pat g d S 0).2 := by
  have h0 := oP.1 0 oP.2.2
  rw [pat_un, ln_app h0, oP.2.1, pat_app hg 0 h0]
  have := pat_appr g d P S 0
  rw [Nat.add_zero] at this
  rw [this]
theorem one_leaf {n : Nd} (hp : k_pr (n_k n) = false) (hu : k_un (n_k n) = false) : one [n] := by
  refine ⟨fun i hi => ?_, ?_, by simp⟩
  · have : i = 0 := by simpa using hi
    subst this
    have h : wf [n] 0 = g_wf n (wf [] 0) (wf [] (ln [] 0)) := pat_un
    rw [h]
    simp [g_wf, hp, hu]
  · rw [ln_eq (show [n][0]? = some n from rfl), hp, hu]
    rfl
theorem one_un {n : Nd} {N : List Nd} (hp : k_pr (n_k n) = false) (hu : k_un (n_k n) = true) (h : one N) : one (n :: N) := by
  refine ⟨fun i hi => ?_, ?_, by simp⟩
  · cases i with
    | zero =>
      have e : wf (n :: N) 0 = g_wf n (wf N 0) (wf N (ln N 0)) := pat_un
      rw [e]
      simp [g_wf, hp, hu, h.1 0 h.2.2]
    | succ i => exact h.1 i (by simpa using hi)
  · rw [ln_eq (show (n :: N)[0]? = some n from rfl), hp, hu, show ln (n :: N) (0 + 1) = ln N 0 from rfl, h.2.1]
    show 1 + N.length = N.length + 1
    omega
theorem one_pr {n : Nd} {P S : List Nd} (hp : k_pr (n_k n) = true) (h : one P) (g : one S) : one (n :: (P ++ S)) := by
  refine ⟨fun i hi => ?_, ?_, by simp⟩
  · cases i with
    | zero =>
      have e : wf (n :: (P ++ S)) 0 = g_wf n (wf P 0) (wf S 0) := pat_pr gok_wf h
      rw [e]
      simp [g_wf, hp, h.1 0 h.2.2, g.1 0 g.2.2]
    | succ i =>
      show wf (P ++ S) i = true
      rcases Nat.lt_or_ge i P.length with z | z
      · rw [wf_app (h.1 i z)]; exact h.1 i z
      · have e := pat_appr g_wf false P S (i - P.length)
        rw [show P.length + (i - P.length) = i by omega] at e
        have e2 : wf (P ++ S) i = wf S (i - P.length) := congrArg Prod.snd e
        rw [e2]
        simp only [List.length_cons, List.length_append] at hi
        exact g.1 _ (by omega)
  · have h0 := h.1 0 h.2.2
    have e := pat_appr (fun _ _ _ => ()) () P S 0
    rw [Nat.add_zero] at e
    have e2 : ln (P ++ S) P.length = ln S 0 := congrArg Prod.fst e
    rw [ln_eq (show (n :: (P ++ S))[0]? = some n from rfl), hp, show ln (n :: (P ++ S)) (0 + 1) = ln (P ++ S) 0 from rfl, ln_app h0, h.2.1, show 0 + 1 + P.length = P.length + 1 by omega, show ln (n :: (P ++ S)) (P.length + 1) = ln (P ++ S) P.length from rfl, e2, g.2.1]
    show P.length + 1 + S.length = (P ++ S).length + 1
    rw [List.length_append]
    omega
section SC
variable {n dp cnt br c v : Nat} {bd : Nat → Bool} {ne : Bool} {r q ts : List Nat}
theorem zc_full (h : 20 ≤ cnt) : sp_cl (n + 1) bd dp cnt br ne ts = (false, ts, [], br, ne) := by
  show (if 20 ≤ cnt then _ else _) = _
  exact (if_pos h).trans rfl
theorem zc_nil (h : ¬ 20 ≤ cnt) : sp_cl (n + 1) bd dp cnt br ne [] = (false, [], [], br, ne) := by
  show (if 20 ≤ cnt then _ else _) = _
  exact (if_neg h).trans rfl
theorem zc_b8 (h : ¬ 20 ≤ cnt) (hb : 8 ≤ br) : sp_cl (n + 1) bd dp cnt br ne (91 :: r) = (false, 91 :: r, [], br, ne) := by
  show (if 20 ≤ cnt then _ else _) = _
  refine (if_neg h).trans ?_
  show (if 8 ≤ br then _ else _) = _
  exact (if_pos hb).trans rfl
theorem zc_b (h : ¬ 20 ≤ cnt) (hb : ¬ 8 ≤ br) : sp_cl (n + 1) bd dp cnt br ne (91 :: r) = ((sp_brk bd r).1, (sp_brk bd r).2.1, [(sp_brk bd r).2.2], br + 1, ne) := by
  show (if 20 ≤ cnt then _ else _) = _
  refine (if_neg h).trans ?_
  show (if 8 ≤ br then _ else _) = _
  exact (if_neg hb).trans rfl
theorem zc_not (h : ¬ 20 ≤ cnt) : sp_cl (n + 1) bd dp cnt br ne (33 :: r) = ((sp_cl n bd dp (cnt + 1) br ne r).1, (sp_cl n bd dp (cnt + 1) br ne r).2.1, nd0 33 0 :: (sp_cl n bd dp (cnt + 1) br ne r).2.2.1, (sp_cl n bd dp (cnt + 1) br ne r).2.2.2) := by
  show (if 20 ≤ cnt then _ else _) = _
  exact (if_neg h).trans rfl
theorem zc_prF (h : ¬ 20 ≤ cnt) (hc : k_pr c = true) (hf : (sp_cl n bd dp (cnt + 1) br ne r).1 = false) : sp_cl (n + 1) bd dp cnt br ne (c :: r) = sp_cl n bd dp (cnt + 1) br ne r := by
  have key : ∀ c, (c = 38 ∨ c = 47 ∨ c = 62) → sp_cl (n + 1) bd dp cnt br ne (c :: r) = sp_cl n bd dp (cnt + 1) br ne r := by
    rintro c (rfl | rfl | rfl)
    all_goals
      show (if 20 ≤ cnt then _ else _) = _
      refine (if_neg h).trans ?_
      show (if (sp_cl n bd dp (cnt + 1) br ne r).1 = true then _ else _) = _
      exact (if_neg (show ¬ (sp_cl n bd dp (cnt + 1) br ne r).1 = true by rw [hf]; decide)).trans rfl
  exact key c (kp_or hc)
/-- what the second of two parts has come to, behind the first -/
def zc_2 (n : Nat) (bd : Nat → Bool) (dp cnt c : Nat) (p : Rs) : Rs :=
  ((sp_cl n bd dp (cnt + 1 + p.2.2.1.length) p.2.2.2.1 p.2.2.2.2 p.2.1).1, (sp_cl n bd dp (cnt + 1 + p.2.2.1.length) p.2.2.2.1 p.2.2.2.2 p.2.1).2.1, nd0 c 0 :: (p.2.2.1 ++ (sp_cl n bd dp (cnt + 1 + p.2.2.1.length) p.2.2.2.1 p.2.2.2.2 p.2.1).2.2.1), (sp_cl n bd dp (cnt + 1 + p.2.2.1.length) p.2.2.2.1 p.2.2.2.2 p.2.1).2.2.2)
theorem zc_prT (h : ¬ 20 ≤ cnt) (hc : k_pr c = true) (hf : (sp_cl n bd dp (cnt + 1) br ne r).1 = true) : sp_cl (n + 1) bd dp cnt br ne (c :: r) = zc_2 n bd dp cnt c (sp_cl n bd dp (cnt + 1) br ne r) := by
  have key : ∀ c, (c = 38 ∨ c = 47 ∨ c = 62) → sp_cl (n + 1) bd dp cnt br ne (c :: r) = zc_2 n bd dp cnt c (sp_cl n bd dp (cnt + 1) br ne r) := by
    rintro c (rfl | rfl | rfl)
    all_goals
      show (if 20 ≤ cnt then _ else _) = _
      refine (if_neg h).trans ?_
      show (if (sp_cl n bd dp (cnt + 1) br ne r).1 = true then _ else _) = _
      exact (if_pos hf).trans rfl
  exact key c (kp_or hc)
theorem kq_or {k : Nat} (h : k_qu k = true) : k = 69 ∨ k = 65 := by simpa [k_qu] using h
theorem zc_q2 (h : ¬ 20 ≤ cnt) (hc : k_qu c = true) (hd : 2 ≤ dp) : sp_cl (n + 1) bd dp cnt br ne (c :: r) = (false, c :: r, [], br, ne) := by
  rcases kq_or hc with rfl | rfl
  all_goals
    show (if 20 ≤ cnt then _ else _) = _
    refine (if_neg h).trans ?_
    show (if 2 ≤ dp then _ else _) = _
    exact (if_pos hd).trans rfl
theorem zc_qn (h : ¬ 20 ≤ cnt) (hc : k_qu c = true) (hd : ¬ 2 ≤ dp) : sp_cl (n + 1) bd dp cnt br ne [c] = (false, [], [], br, ne || decide (0 < dp)) := by
  rcases kq_or hc with rfl | rfl
  all_goals
    show (if 20 ≤ cnt then _ else _) = _
    refine (if_neg h).trans ?_
    show (if 2 ≤ dp then _ else _) = _
    exact (if_neg hd).trans rfl
theorem zc_qx (h : ¬ 20 ≤ cnt) (hc : k_qu c = true) (hd : ¬ 2 ≤ dp) (hv : isV v = false) : sp_cl (n + 1) bd dp cnt br ne (c :: v :: q) = (false, v :: q, [], br, ne || decide (0 < dp)) := by
  rcases kq_or hc with rfl | rfl
  all_goals
    show (if 20 ≤ cnt then _ else _) = _
    refine (if_neg h).trans ?_
    show (if 2 ≤ dp then _ else _) = _
    refine (if_neg hd).trans ?_
    show (if isV v = true then _ else _) = _
    exact (if_neg (show ¬ isV v = true by rw [hv]; decide)).trans rfl
def zc_1 (c a : Nat) (s : Rs) : Rs := (s.1, s.2.1, nd0 c a :: s.2.2.1, s.2.2.2)
theorem zc_qv (h : ¬ 20 ≤ cnt) (hc : k_qu c = true) (hd : ¬ 2 ≤ dp) (hv : isV v = true) : sp_cl (n + 1) bd dp cnt br ne (c :: v :: q) = zc_1 c (v - 120) (sp_cl n (bdv bd (v - 120)) (dp + 1) (cnt + 1) br (ne || decide (0 < dp)) q) := by
  rcases kq_or hc with rfl | rfl
  all_goals
    show (if 20 ≤ cnt then _ else _) = _
    refine (if_neg h).trans ?_
    show (if 2 ≤ dp then _ else _) = _
    refine (if_neg hd).trans ?_
    show (if isV v = true then _ else _) = _
    exact (if_pos hv).trans rfl
theorem zc_x (h : ¬ 20 ≤ cnt) (h91 : c ≠ 91) (h33 : c ≠ 33) (hp : k_pr c = false) (hq : k_qu c = false) : sp_cl (n + 1) bd dp cnt br ne (c :: r) = (false, c :: r, [], br, ne) := by
  show (if 20 ≤ cnt then _ else _) = _
  refine (if_neg h).trans ?_
  show (if c = 91 then _ else if c = 33 then _ else if k_pr c = true then _ else if k_qu c = true then _ else _) = _
  exact (if_neg h91).trans ((if_neg h33).trans ((if_neg (show ¬ k_pr c = true by rw [hp]; decide)).trans ((if_neg (show ¬ k_qu c = true by rw [hq]; decide)).trans rfl)))
end SC
