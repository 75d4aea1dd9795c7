theorem kp_or {k : Nat} (h : k_pr k = true) : k = 38 ∨ k = 47 ∨ k = 62 := by
  unfold k_pr at h
  simp only [Bool.or_eq_true, beq_iff_eq] at h
  omega
theorem kp_no {k : Nat} (h : ¬ k_pr k = true) : k ≠ 38 ∧ k ≠ 47 ∧ k ≠ 62 := by
  unfold k_pr at h
  simp only [Bool.or_eq_true, beq_iff_eq] at h
  omega
theorem ku_or {k : Nat} (h : k_un k = true) : k = 33 ∨ k = 69 ∨ k = 65 := by
  unfold k_un k_qu at h
  simp only [Bool.or_eq_true, beq_iff_eq] at h
  omega
theorem ku_no {k : Nat} (h : ¬ k_un k = true) : k ≠ 33 ∧ k ≠ 69 ∧ k ≠ 65 := by
  unfold k_un k_qu at h
  simp only [Bool.or_eq_true, beq_iff_eq] at h
  omega
/-- the seven forms of a claim, with what is said of it there -/
theorem sem_fv {N : List Nd} (ho : ∀ n ∈ N, occ n) : ∀ i, wf N i = true → ∀ e e' : Ev, (∀ v, v < 3 → fv N i v = true → e v = e' v) → (sem N i e ↔ sem N i e') := by
  refine cl_ind ?_
  intro i n hn hpr hun e e' h
  rw [sem_eq hn]
  rw [fv_eq hn] at h
  by_cases hp : k_pr (n_k n) = true
  · obtain ⟨ha, hb⟩ := hpr hp
    have h33 : n_k n ≠ 33 := by rcases kp_or hp with z | z | z <;> omega
    have hfa : ∀ v, v < 3 → fv N (i + 1) v = true → e v = e' v := fun v hv hf => h v hv (by unfold g_fv; rw [if_neg h33, if_pos hp, hf, Bool.true_or])
    have hfb : ∀ v, v < 3 → fv N (i + 1 + ln N (i + 1)) v = true → e v = e' v := fun v hv hf => h v hv (by unfold g_fv; rw [if_neg h33, if_pos hp, hf, Bool.or_true])
    have ga := ha e e' hfa
    have gb := hb e e' hfb
    unfold g_sem
    rcases kp_or hp with z | z | z
    · simp only [z]
      exact and_congr ga gb
    · simp only [z]
      exact or_congr ga gb
    · simp only [z]
      exact imp_congr ga gb
  · have hp2 : k_pr (n_k n) = false := by simpa using hp
    obtain ⟨p1, p2, p3⟩ := kp_no hp
    by_cases hu : k_un (n_k n) = true
    · have ha := hun hp2 hu
      rcases ku_or hu with z | z | z
      · have ga := ha e e' (fun v hv hf => h v hv (by unfold g_fv; rw [if_pos z]; exact hf))
        unfold g_sem
        simp only [z]
        exact not_congr ga
      · have ga : ∀ w, sem N (i + 1) (fun j => if j = n_a n then w else e j) ↔ sem N (i + 1) (fun j => if j = n_a n then w else e' j) := fun w => ha _ _ (fun v hv hf => by
          by_cases hva : v = n_a n
          · rw [if_pos hva, if_pos hva]
          · rw [if_neg hva, if_neg hva]
            refine h v hv ?_
            unfold g_fv
            rw [if_neg (by omega), if_neg hp, if_pos (by rw [z]; decide), hf]
            simp [hva])
        unfold g_sem
        simp only [z]
        exact exists_congr ga
      · have ga : ∀ w, sem N (i + 1) (fun j => if j = n_a n then w else e j) ↔ sem N (i + 1) (fun j => if j = n_a n then w else e' j) := fun w => ha _ _ (fun v hv hf => by
          by_cases hva : v = n_a n
          · rw [if_pos hva, if_pos hva]
          · rw [if_neg hva, if_neg hva]
            refine h v hv ?_
            unfold g_fv
            rw [if_neg (by omega), if_neg hp, if_pos (by rw [z]; decide), hf]
            simp [hva])
        unfold g_sem
        simp only [z]
        exact forall_congr' ga
    · obtain ⟨u1, u2, u3⟩ := ku_no hu
      have hq : ¬ k_qu (n_k n) = true := fun z => hu (by unfold k_un; rw [z, Bool.or_true])
      unfold g_sem
      rw [if_neg u1, if_neg p1, if_neg p2, if_neg p3, if_neg u2, if_neg u3, if_neg u1, if_neg p1, if_neg p2, if_neg p3, if_neg u2, if_neg u3]
      refine n_h_fv (ho n (List.mem_of_getElem? hn)) (fun v hv hf => h v hv ?_)
      unfold g_fv
      rw [if_neg u1, if_neg hp, if_neg hq]
      exact hf
/-- without a quantifier it depends on its claims in [ ] alone -/
theorem sem_ats {N : List Nd} : ∀ i, wf N i = true → qf N i = true → ∀ e e' : Ev, (∀ n ∈ ats N i, n_h n e ↔ n_h n e') → (sem N i e ↔ sem N i e') := by
  refine cl_ind ?_
  intro i n hn hpr hun hqf e e' h
  rw [sem_eq hn]
  rw [ats_eq hn] at h
  rw [qf_eq hn] at hqf
  unfold g_at at h
  unfold g_qf at hqf
  by_cases hp : k_pr (n_k n) = true
  · obtain ⟨ha, hb⟩ := hpr hp
    have h33 : n_k n ≠ 33 := by rcases kp_or hp with z | z | z <;> omega
    rw [if_neg h33, if_pos hp] at h hqf
    rw [Bool.and_eq_true] at hqf
    have ga := ha hqf.1 e e' (fun m hm => h m (List.mem_append_left _ hm))
    have gb := hb hqf.2 e e' (fun m hm => h m (List.mem_append_right _ hm))
    unfold g_sem
    rcases kp_or hp with z | z | z
    · simp only [z]
      exact and_congr ga gb
    · simp only [z]
      exact or_congr ga gb
    · simp only [z]
      exact imp_congr ga gb
  · have hp2 : k_pr (n_k n) = false := by simpa using hp
    obtain ⟨p1, p2, p3⟩ := kp_no hp
    by_cases hq : k_qu (n_k n) = true
    · rw [if_neg (by unfold k_qu at hq; simp only [Bool.or_eq_true, beq_iff_eq] at hq; omega), if_neg hp, if_pos hq] at hqf
      cases hqf
    by_cases hu : n_k n = 33
    · have ha := hun hp2 (by unfold k_un; rw [hu]; rfl)
      rw [if_pos hu] at h hqf
      have ga := ha hqf e e' h
      unfold g_sem
      simp only [hu]
      exact not_congr ga
    · rw [if_neg hu, if_neg hp, if_neg hq] at h
      have hq2 : n_k n ≠ 69 ∧ n_k n ≠ 65 := by
        unfold k_qu at hq
        simp only [Bool.or_eq_true, beq_iff_eq] at hq
        omega
      unfold g_sem
      rw [if_neg hu, if_neg p1, if_neg p2, if_neg p3, if_neg hq2.1, if_neg hq2.2, if_neg hu, if_neg p1, if_neg p2, if_neg p3, if_neg hq2.1, if_neg hq2.2]
      exact h n (List.mem_singleton.mpr rfl)
