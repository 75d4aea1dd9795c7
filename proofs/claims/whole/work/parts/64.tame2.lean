/-- how deep quantifiers stand in one another -/
def g_dq (n : Nd) (a b : Nat) : Nat := if n_k n = 33 then a else if k_pr (n_k n) then max a b else if k_qu (n_k n) then a + 1 else 0
def dq (N : List Nd) (i : Nat) : Nat := (pat g_dq 0 N i).2
theorem dq_eq {N : List Nd} {i : Nat} {n : Nd} (h : N[i]? = some n) : dq N i = g_dq n (dq N (i + 1)) (dq N (i + 1 + ln N (i + 1))) := pat_2 h
theorem dq_qf {N : List Nd} : ∀ i, wf N i = true → dq N i = 0 → qf N i = true := by
  refine cl_ind ?_
  intro i n hn hpr hun h
  rw [dq_eq hn] at h
  rw [qf_eq hn]
  unfold g_dq at h
  unfold g_qf
  by_cases h33 : n_k n = 33
  · rw [if_pos h33] at h ⊢
    exact hun (by rw [h33]; rfl) (by rw [h33]; rfl) h
  · rw [if_neg h33] at h ⊢
    by_cases hp : k_pr (n_k n) = true
    · rw [if_pos hp] at h ⊢
      obtain ⟨ha, hb⟩ := hpr hp
      rw [ha (by omega), hb (by omega)]
      rfl
    · rw [if_neg hp] at h ⊢
      by_cases hq : k_qu (n_k n) = true
      · rw [if_pos hq] at h; omega
      · rw [if_neg hq]
theorem tame_sem {N : List Nd} (hN : ∀ n ∈ N, nok n) : ∀ i, wf N i = true → ∀ o, o < 3 → dq N i ≤ 1 → (∀ v, v < 3 → fv N i v = true → v = o) → ∀ e : Ev, tame (fun x => sem N i (ev1 o x e)) := by
  intro i hwi
  revert hwi
  have main : ∀ i, wf N i = true → wf N i = true → ∀ o, o < 3 → dq N i ≤ 1 → (∀ v, v < 3 → fv N i v = true → v = o) → ∀ e : Ev, tame (fun x => sem N i (ev1 o x e)) := by
    refine cl_ind ?_
    intro i n hn hpr hun hw o h3 hd hf e
    have hnN := hN n (List.mem_of_getElem? hn)
    rw [dq_eq hn] at hd
    rw [fv_eq hn] at hf
    rw [wf_eq hn] at hw
    unfold g_dq at hd
    unfold g_fv at hf
    unfold g_wf at hw
    by_cases h33 : n_k n = 33
    · rw [if_pos h33] at hd
      simp only [if_pos h33] at hf
      have hp2 : k_pr (n_k n) = false := by rw [h33]; rfl
      have hu2 : k_un (n_k n) = true := by rw [h33]; rfl
      rw [if_neg (by rw [hp2]; decide), if_pos hu2] at hw
      have g := tame_not (hun hp2 hu2 hw o h3 hd hf e)
      refine tame_congr g (fun x => ?_)
      rw [sem_eq hn]
      unfold g_sem
      simp only [h33]
      exact Iff.rfl
    · rw [if_neg h33] at hd
      simp only [if_neg h33] at hf
      by_cases hp : k_pr (n_k n) = true
      · rw [if_pos hp] at hd hw
        simp only [if_pos hp] at hf
        rw [Bool.and_eq_true] at hw
        obtain ⟨ha, hb⟩ := hpr hp
        have ga := ha hw.1 o h3 (by omega) (fun v hv g => hf v hv (by rw [g, Bool.true_or])) e
        have gb := hb hw.2 o h3 (by omega) (fun v hv g => hf v hv (by rw [g, Bool.or_true])) e
        rcases kp_or hp with z | z | z
        · refine tame_congr (tame_and ga gb) (fun x => ?_)
          rw [sem_eq hn]; unfold g_sem; simp only [z]; exact Iff.rfl
        · refine tame_congr (tame_or ga gb) (fun x => ?_)
          rw [sem_eq hn]; unfold g_sem; simp only [z]; exact Iff.rfl
        · refine tame_congr (tame_imp ga gb) (fun x => ?_)
          rw [sem_eq hn]; unfold g_sem; simp only [z]; exact Iff.rfl
      · rw [if_neg hp] at hd hw
        simp only [if_neg hp] at hf
        by_cases hq : k_qu (n_k n) = true
        · have hu : k_un (n_k n) = true := by unfold k_un; rw [hq, Bool.or_true]
          rw [if_pos hq] at hd
          rw [if_pos hu] at hw
          simp only [if_pos hq] at hf
          have q3 := hnN.2.2 hq
          have hqf := dq_qf (i + 1) hw (by omega)
          have hk : n_k n = 69 ∨ n_k n = 65 := by rcases ku_or hu with z | z | z; exact absurd z h33; exact Or.inl z; exact Or.inr z
          have hbody : ∀ v, v < 3 → fv N (i + 1) v = true → v = o ∨ v = n_a n := fun v hv g => by
            by_cases hva : v = n_a n
            · exact Or.inr hva
            · exact Or.inl (hf v hv (by rw [g]; simp [hva]))
          by_cases hoq : o = n_a n
          · have hc : ∀ x w, (fun j => if j = n_a n then w else ev1 o x e j) = ev1 (n_a n) w e := fun x w => by
              funext j
              unfold ev1
              by_cases hj : j = n_a n
              · rw [if_pos hj, if_pos hj]
              · rw [if_neg hj, if_neg hj, if_neg (by rw [hoq]; exact hj)]
            rcases hk with z | z
            · refine tame_congr (tame_const (∃ w, sem N (i + 1) (ev1 (n_a n) w e))) (fun x => ?_)
              rw [sem_eq hn]; unfold g_sem; simp only [z, hc]; exact Iff.rfl
            · refine tame_congr (tame_const (∀ w, sem N (i + 1) (ev1 (n_a n) w e))) (fun x => ?_)
              rw [sem_eq hn]; unfold g_sem; simp only [z, hc]; exact Iff.rfl
          · rcases hk with z | z
            · have g := tame_qu hN hw hqf h3 q3 hoq hbody e (fun a => a) (fun a b h => h)
              refine tame_congr g (fun x => ?_)
              rw [sem_eq hn]; unfold g_sem; simp only [z]; exact Iff.rfl
            · have g := tame_not (tame_qu hN hw hqf h3 q3 hoq hbody e (fun a => ¬ a) (fun a b h => not_congr h))
              refine tame_congr g (fun x => ?_)
              rw [sem_eq hn]; unfold g_sem; simp only [z]
              constructor
              · intro h w
                exact Classical.byContradiction (fun hc => h ⟨w, hc⟩)
              · rintro h ⟨w, hc⟩
                exact hc (h w)
        · have hu : k_un (n_k n) = false := by
            unfold k_un
            rw [show (n_k n == 33) = false by simpa using h33, Bool.false_or]
            simpa using hq
          simp only [if_neg hq] at hf
          have hb := hnN.2.1 (by simpa using hp) hu
          obtain ⟨p1, p2, p3⟩ := kp_no hp
          have hq2 : n_k n ≠ 69 ∧ n_k n ≠ 65 := by
            unfold k_qu at hq
            simp only [Bool.or_eq_true, beq_iff_eq] at hq
            omega
          refine tame_congr (tame_ln (k := n_k n) (dv2_ok hb) (hb.2.2.1 o h3) hb.2.2.2.1 hb.2.2.2.2) (fun x => ?_)
          rw [sem_eq hn]
          unfold g_sem
          rw [if_neg h33, if_neg p1, if_neg p2, if_neg p3, if_neg hq2.1, if_neg hq2.2, n_h_dv hb, n_v1 hnN.1 h3 hf]
  exact fun hw => main i hw hw
