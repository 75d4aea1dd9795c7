/-- the length of the claim that begins at a node -/
def ln (N : List Nd) (i : Nat) : Nat := (pat (fun _ _ _ => ()) () N i).1
theorem pos_fst {α β : Type} (g : Nd → α → α → α) (d : α) (g' : Nd → β → β → β) (d' : β) : ∀ (N : List Nd) (i : Nat), ((pos g d N).getD i (0, d)).1 = ((pos g' d' N).getD i (0, d')).1
  | [], i => by simp [pos]
  | n :: r, 0 => by
    have h := pos_fst g d g' d' r
    show (if k_pr (n_k n) then _ else _) = (if k_pr (n_k n) then _ else _)
    rw [h 0, h ((pos g' d' r).getD 0 (0, d')).1]
  | n :: r, i + 1 => by
    have h := pos_fst g d g' d' r i
    simpa [pos] using h
theorem pat_ln {α : Type} (g : Nd → α → α → α) (d : α) (N : List Nd) (i : Nat) : (pat g d N i).1 = ln N i := pos_fst g d _ _ N i
theorem pat_2 {α : Type} {g : Nd → α → α → α} {d : α} {N : List Nd} {i : Nat} {n : Nd} (h : N[i]? = some n) :
    (pat g d N i).2 = g n (pat g d N (i + 1)).2 (pat g d N (i + 1 + ln N (i + 1))).2 := by
  rw [pat_eq h, pat_ln]
theorem pat_no {α : Type} {g : Nd → α → α → α} {d : α} {N : List Nd} {i : Nat} (h : N.length ≤ i) : pat g d N i = (0, d) := by
  unfold pat
  rw [List.getD_eq_getElem?_getD, List.getElem?_eq_none (by rw [pos_length]; exact h)]
  rfl
theorem ln_eq {N : List Nd} {i : Nat} {n : Nd} (h : N[i]? = some n) : ln N i = if k_pr (n_k n) then 1 + ln N (i + 1) + ln N (i + 1 + ln N (i + 1)) else if k_un (n_k n) then 1 + ln N (i + 1) else 1 := by
  unfold ln
  rw [pat_eq h]
theorem sem_eq {N : List Nd} {i : Nat} {n : Nd} (h : N[i]? = some n) : sem N i = g_sem n (sem N (i + 1)) (sem N (i + 1 + ln N (i + 1))) := pat_2 h
theorem fv_eq {N : List Nd} {i : Nat} {n : Nd} (h : N[i]? = some n) : fv N i = g_fv n (fv N (i + 1)) (fv N (i + 1 + ln N (i + 1))) := pat_2 h
theorem qf_eq {N : List Nd} {i : Nat} {n : Nd} (h : N[i]? = some n) : qf N i = g_qf n (qf N (i + 1)) (qf N (i + 1 + ln N (i + 1))) := pat_2 h
theorem ats_eq {N : List Nd} {i : Nat} {n : Nd} (h : N[i]? = some n) : ats N i = g_at n (ats N (i + 1)) (ats N (i + 1 + ln N (i + 1))) := pat_2 h
theorem wf_eq {N : List Nd} {i : Nat} {n : Nd} (h : N[i]? = some n) : wf N i = g_wf n (wf N (i + 1)) (wf N (i + 1 + ln N (i + 1))) := pat_2 h
theorem wf_in {N : List Nd} {i : Nat} (h : wf N i = true) : ∃ n, N[i]? = some n := by
  rcases Nat.lt_or_ge i N.length with g | g
  · exact ⟨N[i], List.getElem?_eq_getElem g⟩
  · unfold wf at h
    rw [pat_no g] at h
    cases h
/-- by the parts of a claim -/
theorem cl_ind {N : List Nd} {P : Nat → Prop} (h : ∀ (i : Nat) (n : Nd), N[i]? = some n → (k_pr (n_k n) = true → P (i + 1) ∧ P (i + 1 + ln N (i + 1))) → (k_pr (n_k n) = false → k_un (n_k n) = true → P (i + 1)) → P i) : ∀ i, wf N i = true → P i := by
  have key : ∀ (m i : Nat), N.length - i < m → wf N i = true → P i := by
    intro m
    induction m with
    | zero => intro i h1; omega
    | succ m ih =>
      intro i h1 hw
      obtain ⟨n, hn⟩ := wf_in hw
      have hi := (List.getElem?_eq_some_iff.mp hn).1
      rw [wf_eq hn] at hw
      unfold g_wf at hw
      refine h i n hn (fun hp => ?_) (fun hp hu => ?_)
      · rw [if_pos hp, Bool.and_eq_true] at hw
        exact ⟨ih _ (by omega) hw.1, ih _ (by omega) hw.2⟩
      · rw [if_neg (by rw [hp]; decide), if_pos hu] at hw
        exact ih _ (by omega) hw
  intro i hw
  exact key (N.length - i + 1) i (by omega) hw
/-- the truth of a claim depends on its free variables alone -/
def occ (n : Nd) : Prop := ∀ v, v < 3 → n_c n v ≠ 0 → n_o n v = true
theorem n_h_fv {n : Nd} (ho : occ n) {e e' : Ev} (h : ∀ v, v < 3 → n_o n v = true → e v = e' v) : n_h n e ↔ n_h n e' := by
  have key : ∀ v, v < 3 → n_c n v * e v = n_c n v * e' v := by
    intro v hv
    by_cases h0 : n_c n v = 0
    · rw [h0, Int.zero_mul, Int.zero_mul]
    · rw [h v hv (ho v hv h0)]
  unfold n_h n_v
  rw [key 0 (by omega), key 1 (by omega), key 2 (by omega)]
