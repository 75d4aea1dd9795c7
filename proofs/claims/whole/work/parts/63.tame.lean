/-- a claim in [ ] as the reader lets it pass -/
def brk (n : Nd) : Prop := (n_k n = 60 ∨ n_k n = 61 ∨ n_k n = 58) ∧ (n_k n = 58 → n_a n = 2 ∨ n_a n = 3) ∧ (∀ v, v < 3 → sm2 (n_c n v)) ∧ -15 ≤ n_n n ∧ n_n n ≤ 15
def nok (n : Nd) : Prop := occ n ∧ (k_pr (n_k n) = false → k_un (n_k n) = false → brk n) ∧ (k_qu (n_k n) = true → n_a n < 3)
/-- the divisor, or 2 where none is asked for -/
def dv2 (n : Nd) : Int := if n_k n = 58 then (n_a n : Int) else 2
theorem dv2_ok {n : Nd} (h : brk n) : dv2 n = 2 ∨ dv2 n = 3 := by
  unfold dv2
  split
  · rename_i hk
    rcases h.2.1 hk with z | z <;> rw [z] <;> simp
  · left; rfl
theorem n_h_dv {n : Nd} (h : brk n) (e : Ev) : n_h n e ↔ ln_h (n_k n) (dv2 n) (n_v n e) := by
  unfold n_h ln_h dv2
  rcases h.1 with z | z | z
  · simp only [z]; exact Iff.rfl
  · simp only [z]; exact Iff.rfl
  · simp only [z]; exact Iff.rfl
def ev1 (o : Nat) (x : Int) (e : Ev) : Ev := fun j => if j = o then x else e j
theorem ev1_s (o : Nat) (x : Int) (e : Ev) : ev1 o x e o = x := if_pos rfl
theorem ev1_n {o j : Nat} (h : j ≠ o) (x : Int) (e : Ev) : ev1 o x e j = e j := if_neg h
/-- the value of a bracket as a line in one variable, if no other stands in it -/
theorem n_v1 {n : Nd} (ho : occ n) {o : Nat} (h3 : o < 3) (hf : ∀ v, v < 3 → n_o n v = true → v = o) (x : Int) (e : Ev) : n_v n (ev1 o x e) = n_c n o * x + n_n n := by
  have z : ∀ v, v < 3 → v ≠ o → n_c n v = 0 := fun v hv hne => by
    by_cases h0 : n_c n v = 0
    · exact h0
    · exact absurd (hf v hv (ho v hv h0)) hne
  unfold n_v
  rcases (show o = 0 ∨ o = 1 ∨ o = 2 by omega) with rfl | rfl | rfl
  · rw [z 1 (by omega) (by omega), z 2 (by omega) (by omega), ev1_s]; omega
  · rw [z 0 (by omega) (by omega), z 2 (by omega) (by omega), ev1_s]; omega
  · rw [z 0 (by omega) (by omega), z 1 (by omega) (by omega), ev1_s]; omega
theorem n_v2 {n : Nd} (ho : occ n) {o q : Nat} (h3 : o < 3) (q3 : q < 3) (hoq : o ≠ q) (hf : ∀ v, v < 3 → n_o n v = true → v = o ∨ v = q) (x w : Int) (e : Ev) : n_v n (ev1 q w (ev1 o x e)) = n_c n o * x + n_c n q * w + n_n n := by
  have z : ∀ v, v < 3 → v ≠ o → v ≠ q → n_c n v = 0 := fun v hv hne hne2 => by
    by_cases h0 : n_c n v = 0
    · exact h0
    · rcases hf v hv (ho v hv h0) with g | g
      · exact absurd g hne
      · exact absurd g hne2
  have eo : ev1 q w (ev1 o x e) o = x := by rw [ev1_n hoq, ev1_s]
  have eq : ev1 q w (ev1 o x e) q = w := ev1_s _ _ _
  unfold n_v
  rcases (show o = 0 ∨ o = 1 ∨ o = 2 by omega) with rfl | rfl | rfl <;> rcases (show q = 0 ∨ q = 1 ∨ q = 2 by omega) with rfl | rfl | rfl
  · omega
  · rw [eo, eq, z 2 (by omega) (by omega) (by omega)]; omega
  · rw [eo, eq, z 1 (by omega) (by omega) (by omega)]; omega
  · rw [eo, eq, z 2 (by omega) (by omega) (by omega)]; omega
  · omega
  · rw [eo, eq, z 0 (by omega) (by omega) (by omega)]; omega
  · rw [eo, eq, z 1 (by omega) (by omega) (by omega)]; omega
  · rw [eo, eq, z 0 (by omega) (by omega) (by omega)]; omega
  · omega
theorem ats_fv {N : List Nd} (hN : ∀ n ∈ N, nok n) : ∀ i, wf N i = true → qf N i = true → ∀ n ∈ ats N i, nok n ∧ brk n ∧ ∀ v, n_o n v = true → fv N i v = true := by
  refine cl_ind ?_
  intro i n hn hpr hun hqf m hm
  rw [ats_eq hn] at hm
  rw [qf_eq hn] at hqf
  rw [fv_eq hn]
  have hnN := List.mem_of_getElem? hn
  unfold g_at at hm
  unfold g_qf at hqf
  unfold g_fv
  by_cases h33 : n_k n = 33
  · rw [if_pos h33] at hm hqf
    simp only [if_pos h33]
    have hp2 : k_pr (n_k n) = false := by rw [h33]; rfl
    exact hun hp2 (by rw [h33]; rfl) hqf m hm
  · rw [if_neg h33] at hm hqf
    simp only [if_neg h33]
    by_cases hp : k_pr (n_k n) = true
    · rw [if_pos hp] at hm hqf
      simp only [if_pos hp]
      rw [Bool.and_eq_true] at hqf
      obtain ⟨ha, hb⟩ := hpr hp
      rcases List.mem_append.mp hm with g | g
      · obtain ⟨a1, a2, a3⟩ := ha hqf.1 m g
        exact ⟨a1, a2, fun v hv => by rw [a3 v hv, Bool.true_or]⟩
      · obtain ⟨a1, a2, a3⟩ := hb hqf.2 m g
        exact ⟨a1, a2, fun v hv => by rw [a3 v hv, Bool.or_true]⟩
    · rw [if_neg hp] at hm hqf
      simp only [if_neg hp]
      by_cases hq : k_qu (n_k n) = true
      · rw [if_pos hq] at hqf; cases hqf
      · rw [if_neg hq] at hm
        simp only [if_neg hq]
        rw [List.mem_singleton.mp hm]
        have hku : k_un (n_k n) = false := by
          unfold k_un
          rw [show (n_k n == 33) = false by simpa using h33, Bool.false_or]
          simpa using hq
        exact ⟨hN n hnN, (hN n hnN).2.1 (by simpa using hp) hku, fun v hv => hv⟩
/-- a quantifier over q without another one in it, about o alone -/
theorem tame_qu {N : List Nd} (hN : ∀ n ∈ N, nok n) {j o q : Nat} (hw : wf N j = true) (hqf : qf N j = true) (h3 : o < 3) (q3 : q < 3) (hoq : o ≠ q) (hf : ∀ v, v < 3 → fv N j v = true → v = o ∨ v = q) (e : Ev) (P : Prop → Prop) (hP : ∀ a b : Prop, (a ↔ b) → (P a ↔ P b)) :
    tame (fun x => ∃ w, P (sem N j (ev1 q w (ev1 o x e)))) := by
  refine tame_q (L := (ats N j).map fun n => (n_k n, dv2 n, n_c n o, n_c n q, n_n n)) (fun l hl => ?_) (fun v w v' w' h => ?_)
  · obtain ⟨n, hn, rfl⟩ := List.mem_map.mp hl
    obtain ⟨a1, a2, a3⟩ := ats_fv hN j hw hqf n hn
    exact ⟨dv2_ok a2, a2.2.2.1 o h3, a2.2.2.1 q q3, a2.2.2.2.1, a2.2.2.2.2⟩
  · refine hP _ _ (sem_ats j hw hqf _ _ (fun n hn => ?_))
    obtain ⟨a1, a2, a3⟩ := ats_fv hN j hw hqf n hn
    have g := h _ (List.mem_map.mpr ⟨n, hn, rfl⟩)
    rw [n_h_dv a2, n_h_dv a2, n_v2 a1.1 h3 q3 hoq (fun v hv ho => hf v hv (a3 v ho)), n_v2 a1.1 h3 q3 hoq (fun v hv ho => hf v hv (a3 v ho))]
    exact g
