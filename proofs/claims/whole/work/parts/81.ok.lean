theorem sp_end_t {k d : Nat} {s : Bool × List Nat × Ac} (h : (sp_end k d s).1 = true) : ac_in s.2.2 = true := by
  obtain ⟨b, r, a⟩ := s
  cases b
  · rw [se_f] at h; cases h
  · cases r with
    | nil => rw [se_n] at h; cases h
    | cons c q =>
      by_cases g : c = 93 ∧ ac_in a = true
      · exact g.2
      · rw [se_no g] at h; cases h
/-- the node of a claim in [ ] that was read -/
def bok (bd : Nat → Bool) (x : Nd) : Prop := (n_k x = 60 ∨ n_k x = 61 ∨ n_k x = 58) ∧ (n_k x = 58 → n_a x = 2 ∨ n_a x = 3) ∧ ac_in x.2.2 = true ∧ acI bd 50000 x.2.2
theorem sp_end_ok {bd : Nat → Bool} {k d : Nat} {s : Bool × List Nat × Ac} {K : Int} (h : (sp_end k d s).1 = true) (hI : acI bd K s.2.2) (hK : K ≤ 50000) (hk : k = 60 ∨ k = 61 ∨ k = 58) (hd : k = 58 → d = 2 ∨ d = 3) : bok bd (sp_end k d s).2.2 := by
  have h1 := sp_end_t h
  rw [sp_end_nd]
  exact ⟨hk, hd, h1, acI_mono hI hK⟩
theorem sp_brk_ok {bd : Nat → Bool} {r : List Nat} (h : (sp_brk bd r).1 = true) : bok bd (sp_brk bd r).2.2 := by
  rw [sp_brk_d] at h ⊢
  cases hd : dvb r
  · rw [hd, if_neg ff_tt] at h
    rw [if_neg ff_tt]
    have I1 := sp_sums_I (sd := 1) (Or.inl rfl) (ac0_I bd) r
    generalize sp_sums bd 1 ac0 r = s at h I1 ⊢
    obtain ⟨b, t, a⟩ := s
    cases b
    · rw [sl_f] at h; cases h
    · cases t with
      | nil => rw [sl_n] at h; cases h
      | cons c q =>
        by_cases g : c = 60 ∨ c = 61
        · rw [sl_y g] at h ⊢
          have I2 := sp_sums_I (sd := -1) (Or.inr rfl) I1 q
          exact sp_end_ok h I2 (by omega) (by omega) (by omega)
        · rw [sl_no g] at h; cases h
  · rw [hd, if_pos rfl] at h
    rw [if_pos rfl]
    have I1 := sp_sums_I (sd := 1) (Or.inl rfl) (ac0_I bd) (r.drop 2)
    refine sp_end_ok h I1 (by omega) (Or.inr (Or.inr rfl)) (fun _ => ?_)
    have : r.headD 0 = 50 ∨ r.headD 0 = 51 := by
      unfold dvb at hd
      simp only [Bool.and_eq_true, Bool.or_eq_true, beq_iff_eq] at hd
      exact hd.1
    omega
theorem bok_nok {bd : Nat → Bool} {x : Nd} (h : bok bd x) : nok x ∧ k_pr (n_k x) = false ∧ k_un (n_k x) = false := by
  obtain ⟨h1, h2, h3, h4⟩ := h
  have hp : k_pr (n_k x) = false := by rcases h1 with e | e | e <;> rw [e] <;> rfl
  have hu : k_un (n_k x) = false := by rcases h1 with e | e | e <;> rw [e] <;> rfl
  have hq : k_qu (n_k x) = false := by rcases h1 with e | e | e <;> rw [e] <;> rfl
  have h5 := (ac_in_iff _).mp h3
  refine ⟨⟨fun v hv hne => h4.2.2.1 v hne, fun _ _ => ⟨h1, h2, fun v hv => ?_, h5.2.2.2.1, h5.2.2.2.2⟩, fun h => by rw [hq] at h; cases h⟩, hp, hu⟩
  show sm2 (x.2.2.1 v)
  unfold sm2
  rcases (show v = 0 ∨ v = 1 ∨ v = 2 by omega) with e | e | e
  · subst e; omega
  · subst e; omega
  · subst e; omega
theorem nd0_nok {c a : Nat} (h : k_pr c = true ∨ c = 33 ∨ (k_qu c = true ∧ a < 3)) : nok (nd0 c a) := by
  refine ⟨fun v _ hne => absurd rfl hne, fun hp hu => ?_, fun hq => ?_⟩
  · have hp : k_pr c = false := hp
    have hu : k_un c = false := hu
    obtain ⟨h1, h2⟩ := kun_f hu
    rcases h with h | h | h
    · rw [hp] at h; cases h
    · exact absurd h h1
    · rw [h2] at h; cases h.1
  · have hq : k_qu c = true := hq
    rcases h with h | h | h
    · rcases kq_or hq with e | e <;> subst e <;> cases h
    · subst h; cases hq
    · exact h.2
/-- what a claim that was read is like -/
def SOK (bd : Nat → Bool) (dp cnt : Nat) (ne : Bool) (R : Rs) : Prop := one R.2.2.1 ∧ cnt + R.2.2.1.length ≤ 20 ∧ (∀ x ∈ R.2.2.1, nok x) ∧ (∀ v, fv R.2.2.1 0 v = true → v < 3 ∧ (v = 0 ∨ bd v = true)) ∧ dq R.2.2.1 0 + dp ≤ 2 ∧ R.2.2.2.1 ≤ 8 ∧ (R.2.2.2.2 = false → ne = false ∧ (dp = 0 → dq R.2.2.1 0 ≤ 1) ∧ (0 < dp → dq R.2.2.1 0 = 0))
theorem fv_un (n : Nd) (N : List Nd) : fv (n :: N) 0 = g_fv n (fv N 0) (fv N (ln N 0)) := pat_un
theorem dq_un (n : Nd) (N : List Nd) : dq (n :: N) 0 = g_dq n (dq N 0) (dq N (ln N 0)) := pat_un
theorem fv_pr {n : Nd} {P S : List Nd} (h : one P) : fv (n :: (P ++ S)) 0 = g_fv n (fv P 0) (fv S 0) := pat_pr gok_fv h
theorem dq_pr {n : Nd} {P S : List Nd} (h : one P) : dq (n :: (P ++ S)) 0 = g_dq n (dq P 0) (dq S 0) := pat_pr gok_dq h
theorem kp_33 {c : Nat} (h : k_pr c = true) : c ≠ 33 := by
  rcases kp_or h with e | e | e <;> omega
theorem kq_33 {c : Nat} (h : k_qu c = true) : c ≠ 33 ∧ k_pr c = false ∧ k_un c = true := by
  rcases kq_or h with e | e <;> subst e <;> exact ⟨by omega, rfl, rfl⟩
theorem sp_cl_ok : ∀ (n : Nat) (bd : Nat → Bool) (dp cnt br : Nat) (ne : Bool) (ts : List Nat), dp ≤ 2 → br ≤ 8 → (sp_cl n bd dp cnt br ne ts).1 = true → SOK bd dp cnt ne (sp_cl n bd dp cnt br ne ts) := by
  intro n
  induction n with
  | zero => intro bd dp cnt br ne ts _ _ h; cases h
  | succ n ih =>
    intro bd dp cnt br ne ts hdp hbr h
    by_cases hf : 20 ≤ cnt
    · rw [zc_full hf] at h; cases h
    cases ts with
    | nil => rw [zc_nil hf] at h; cases h
    | cons c r =>
      by_cases h91 : c = 91
      · subst h91
        by_cases hb : 8 ≤ br
        · rw [zc_b8 hf hb] at h; cases h
        · rw [zc_b hf hb] at h ⊢
          have hB := sp_brk_ok h
          obtain ⟨h1, h2, h3⟩ := bok_nok hB
          have hq := (kun_f h3).2
          generalize (sp_brk bd r).2.2 = x at hB h1 h2 h3 hq ⊢
          refine ⟨one_leaf h2 h3, by show cnt + 1 ≤ 20; omega, fun y hy => by rw [List.mem_singleton.mp hy]; exact h1, fun v hv => ?_, ?_, by show br + 1 ≤ 8; omega, fun hne => ?_⟩
          · have e := fv_un x []
            have hv : fv [x] 0 v = true := hv
            rw [e] at hv
            simp only [g_fv, if_neg (kun_f h3).1, h2, hq] at hv
            exact hB.2.2.2.2.2.2 v hv
          · show dq [x] 0 + dp ≤ 2
            rw [dq_un]
            simp only [g_dq, if_neg (kun_f h3).1, h2, hq]
            simpa using hdp
          · have e : dq [x] 0 = 0 := by
              rw [dq_un]
              simp [g_dq, (kun_f h3).1, h2, hq]
            exact ⟨hne, fun _ => by show dq [x] 0 ≤ 1; omega, fun _ => e⟩
      · by_cases h33 : c = 33
        · subst h33
          rw [zc_not hf] at h ⊢
          have g := ih bd dp (cnt + 1) br ne r hdp hbr h
          generalize sp_cl n bd dp (cnt + 1) br ne r = R at g ⊢
          obtain ⟨g1, g2, g3, g4, g5, g6, g7⟩ := g
          have ef : fv (nd0 33 0 :: R.2.2.1) 0 = fv R.2.2.1 0 := by rw [fv_un]; rfl
          have ed : dq (nd0 33 0 :: R.2.2.1) 0 = dq R.2.2.1 0 := by rw [dq_un]; rfl
          refine ⟨one_un rfl rfl g1, ?_, fun y hy => ?_, fun v hv => ?_, ?_, g6, fun hne => ?_⟩
          · show cnt + (R.2.2.1.length + 1) ≤ 20
            omega
          · rcases List.mem_cons.mp hy with e | e
            · rw [e]; exact nd0_nok (Or.inr (Or.inl rfl))
            · exact g3 y e
          · have hv : fv (nd0 33 0 :: R.2.2.1) 0 v = true := hv
            rw [ef] at hv
            exact g4 v hv
          · show dq (nd0 33 0 :: R.2.2.1) 0 + dp ≤ 2
            rw [ed]; exact g5
          · have := g7 hne
            show ne = false ∧ (dp = 0 → dq (nd0 33 0 :: R.2.2.1) 0 ≤ 1) ∧ (0 < dp → dq (nd0 33 0 :: R.2.2.1) 0 = 0)
            rw [ed]; exact this
        · cases hp : k_pr c
          · cases hq : k_qu c
            · rw [zc_x hf h91 h33 hp hq] at h; cases h
            · by_cases hd : 2 ≤ dp
              · rw [zc_q2 hf hq hd] at h; cases h
              · cases r with
                | nil => rw [zc_qn hf hq hd] at h; cases h
                | cons v q =>
                  cases hv : isV v
                  · rw [zc_qx hf hq hd hv] at h; cases h
                  · rw [zc_qv hf hq hd hv] at h ⊢
                    have hv3 := isV_lt hv
                    have g := ih (bdv bd (v - 120)) (dp + 1) (cnt + 1) br (ne || decide (0 < dp)) q (by omega) hbr h
                    generalize sp_cl n (bdv bd (v - 120)) (dp + 1) (cnt + 1) br (ne || decide (0 < dp)) q = R at g ⊢
                    obtain ⟨g1, g2, g3, g4, g5, g6, g7⟩ := g
                    have k1 := kq_33 hq
                    have ef : ∀ w, fv (nd0 c (v - 120) :: R.2.2.1) 0 w = (fv R.2.2.1 0 w && !(w == v - 120)) := by
                      intro w
                      rw [fv_un]
                      show (if c = 33 then _ else if k_pr c = true then _ else if k_qu c = true then _ else _) = _
                      rw [if_neg k1.1, if_neg (show ¬ k_pr c = true by rw [k1.2.1]; decide), if_pos hq]
                      rfl
                    have ed : dq (nd0 c (v - 120) :: R.2.2.1) 0 = dq R.2.2.1 0 + 1 := by
                      rw [dq_un]
                      show (if c = 33 then _ else if k_pr c = true then _ else if k_qu c = true then _ else _) = _
                      rw [if_neg k1.1, if_neg (show ¬ k_pr c = true by rw [k1.2.1]; decide), if_pos hq]
                    refine ⟨one_un k1.2.1 k1.2.2 g1, ?_, fun y hy => ?_, fun w hw => ?_, ?_, g6, fun hne => ?_⟩
                    · show cnt + (R.2.2.1.length + 1) ≤ 20
                      omega
                    · rcases List.mem_cons.mp hy with e | e
                      · rw [e]; exact nd0_nok (Or.inr (Or.inr ⟨hq, by omega⟩))
                      · exact g3 y e
                    · have hw : fv (nd0 c (v - 120) :: R.2.2.1) 0 w = true := hw
                      rw [ef w, Bool.and_eq_true] at hw
                      obtain ⟨w1, w2⟩ := g4 w hw.1
                      refine ⟨w1, ?_⟩
                      have hne : w ≠ v - 120 := by simpa using hw.2
                      rcases w2 with e | e
                      · exact Or.inl e
                      · right
                        unfold bdv at e
                        rw [if_neg hne] at e
                        exact e
                    · show dq (nd0 c (v - 120) :: R.2.2.1) 0 + dp ≤ 2
                      rw [ed]; omega
                    · have g7 := g7 hne
                      rw [Bool.or_eq_false_iff, decide_eq_false_iff_not] at g7
                      show ne = false ∧ (dp = 0 → dq (nd0 c (v - 120) :: R.2.2.1) 0 ≤ 1) ∧ (0 < dp → dq (nd0 c (v - 120) :: R.2.2.1) 0 = 0)
                      rw [ed]
                      have := g7.2.2 (by omega)
                      exact ⟨g7.1.1, fun _ => by omega, fun z => absurd z g7.1.2⟩
          · cases h1 : (sp_cl n bd dp (cnt + 1) br ne r).1
            · rw [zc_prF hf hp h1] at h
              rw [h1] at h; cases h
            · rw [zc_prT hf hp h1] at h ⊢
              have g := ih bd dp (cnt + 1) br ne r hdp hbr h1
              generalize sp_cl n bd dp (cnt + 1) br ne r = P at g h ⊢
              obtain ⟨g1, g2, g3, g4, g5, g6, g7⟩ := g
              have f := ih bd dp (cnt + 1 + P.2.2.1.length) P.2.2.2.1 P.2.2.2.2 P.2.1 hdp g6 h
              unfold zc_2
              generalize sp_cl n bd dp (cnt + 1 + P.2.2.1.length) P.2.2.2.1 P.2.2.2.2 P.2.1 = S at f ⊢
              obtain ⟨f1, f2, f3, f4, f5, f6, f7⟩ := f
              have ef : ∀ w, fv (nd0 c 0 :: (P.2.2.1 ++ S.2.2.1)) 0 w = (fv P.2.2.1 0 w || fv S.2.2.1 0 w) := by
                intro w
                rw [fv_pr g1]
                show (if c = 33 then _ else if k_pr c = true then _ else _) = _
                rw [if_neg h33, if_pos hp]
              have ed : dq (nd0 c 0 :: (P.2.2.1 ++ S.2.2.1)) 0 = max (dq P.2.2.1 0) (dq S.2.2.1 0) := by
                rw [dq_pr g1]
                show (if c = 33 then _ else if k_pr c = true then _ else _) = _
                rw [if_neg h33, if_pos hp]
              refine ⟨one_pr hp g1 f1, ?_, fun y hy => ?_, fun w hw => ?_, ?_, f6, fun hne => ?_⟩
              · show cnt + ((P.2.2.1 ++ S.2.2.1).length + 1) ≤ 20
                rw [List.length_append]
                omega
              · rcases List.mem_cons.mp hy with e | e
                · rw [e]; exact nd0_nok (Or.inl hp)
                · rcases List.mem_append.mp e with e | e
                  · exact g3 y e
                  · exact f3 y e
              · have hw : fv (nd0 c 0 :: (P.2.2.1 ++ S.2.2.1)) 0 w = true := hw
                rw [ef w, Bool.or_eq_true] at hw
                rcases hw with e | e
                · exact g4 w e
                · exact f4 w e
              · show dq (nd0 c 0 :: (P.2.2.1 ++ S.2.2.1)) 0 + dp ≤ 2
                rw [ed]; omega
              · obtain ⟨a1, a2, a3⟩ := f7 hne
                obtain ⟨b1, b2, b3⟩ := g7 a1
                show ne = false ∧ (dp = 0 → dq (nd0 c 0 :: (P.2.2.1 ++ S.2.2.1)) 0 ≤ 1) ∧ (0 < dp → dq (nd0 c 0 :: (P.2.2.1 ++ S.2.2.1)) 0 = 0)
                rw [ed]
                exact ⟨b1, fun z => by have := a2 z; have := b2 z; omega, fun z => by have := a3 z; have := b3 z; omega⟩
