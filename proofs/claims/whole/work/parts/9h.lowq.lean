/-- the floor of -r / b -/
def fl_ (b r : Int) : Int := if b = 1 then -r else if b = -1 then r else if b = 2 then (-r) / 2 else r / 2
theorem fl_1 (r : Int) : fl_ 1 r = -r := by
  unfold fl_
  rw [if_pos rfl]
theorem fl_m1 (r : Int) : fl_ (-1) r = r := by
  unfold fl_
  rw [if_neg (by omega), if_pos rfl]
theorem fl_2 (r : Int) : fl_ 2 r = (-r) / 2 := by
  unfold fl_
  rw [if_neg (by omega), if_neg (by omega), if_pos rfl]
theorem fl_m2 (r : Int) : fl_ (-2) r = r / 2 := by
  unfold fl_
  rw [if_neg (by omega), if_neg (by omega), if_neg (by omega)]
theorem fl_ok {b r : Int} (hb : sm2 b) (h0 : b ≠ 0) : -1 ≤ b * fl_ b r + r ∧ b * fl_ b r + r ≤ 1 := by
  unfold sm2 at hb
  rcases (show b = -2 ∨ b = -1 ∨ b = 1 ∨ b = 2 by omega) with e | e | e | e
  · subst e; rw [fl_m2]; omega
  · subst e; rw [fl_m1]; omega
  · subst e; rw [fl_1]; omega
  · subst e; rw [fl_2]; omega
theorem fl_bd {b r B : Int} (hb : sm2 b) (h0 : b ≠ 0) (h1 : -B ≤ r) (h2 : r ≤ B) (hB : 0 ≤ B) : -B - 1 ≤ fl_ b r ∧ fl_ b r ≤ B + 1 := by
  unfold sm2 at hb
  rcases (show b = -2 ∨ b = -1 ∨ b = 1 ∨ b = 2 by omega) with e | e | e | e
  · subst e; rw [fl_m2]; omega
  · subst e; rw [fl_m1]; omega
  · subst e; rw [fl_1]; omega
  · subst e; rw [fl_2]; omega
theorem sM_floor {b r : Int} (hb : sm2 b) (h0 : b ≠ 0) (h1 : -1000000 ≤ r) (h2 : r ≤ 1000000) (u : MS) : f_M_floor (zI (-r)) (zI b) u = some (zI (fl_ b r), u) := by
  have hb' := hb
  unfold sm2 at hb'
  have hnz : nz (zI b) = true := by
    rcases (show b = -2 ∨ b = -1 ∨ b = 1 ∨ b = 2 by omega) with e | e | e | e <;> subst e <;> decide
  have key : ∀ d : Int, (d = 1 ∨ d = 2) → ∀ a : Int, -1000000 ≤ a → a ≤ 1000000 → d * a.tdiv d + a.tmod d = a ∧ (0 ≤ a → 0 ≤ a.tmod d ∧ a.tmod d < d) ∧ (a ≤ 0 → -d < a.tmod d ∧ a.tmod d ≤ 0) := fun d hd a _ _ => tm_q (by omega)
  unfold f_M_floor
  rw [hnz, gd_t, lt_q, gd_t, zI_rem (by omega) (by omega) (by omega) (by omega), zI_div (by omega) (by omega) (by omega) (by omega)]
  have fin : ∀ (t m : Int), -1000000 ≤ t → t ≤ 1000000 → -10 ≤ m → m ≤ 10 → b * t + m = -r → (0 ≤ -r → 0 ≤ m ∧ m < 2 ∧ (b = 1 ∨ b = -1 → m = 0)) → (-r ≤ 0 → -2 < m ∧ m ≤ 0 ∧ (b = 1 ∨ b = -1 → m = 0)) →
      (if zI m = 0 then some (zI t, u) else if 0 ≤ zI (-r) then f_M_floor_J19 (zI b) (zI t) 0 u else f_M_floor_J19 (zI b) (zI t) 1 u) = some (zI (fl_ b r), u) := by
    intro t m t1 t2 m1 m2 hm hp hn
    by_cases hm0 : m = 0
    · rw [if_pos ((zI_z (by omega) (by omega)).mpr hm0)]
      congr 3
      rcases (show b = -2 ∨ b = -1 ∨ b = 1 ∨ b = 2 by omega) with e | e | e | e
      · subst e; rw [fl_m2]; omega
      · subst e; rw [fl_m1]; omega
      · subst e; rw [fl_1]; omega
      · subst e; rw [fl_2]; omega
    · rw [if_neg (fun z => hm0 ((zI_z (by omega) (by omega)).mp z))]
      have h28a : ∀ v2 : Int32, f_M_floor_J28 v2 0 0 u = some (v2, u) := fun v2 => by unfold f_M_floor_J28; rw [if_pos rfl]
      have h28b : ∀ v2 : Int32, f_M_floor_J28 v2 1 1 u = some (v2, u) := fun v2 => by unfold f_M_floor_J28; rw [if_pos rfl]
      have h28c : f_M_floor_J28 (zI t) 1 0 u = some (zI (t - 1), u) := by
        unfold f_M_floor_J28; rw [if_neg (show ¬ (0 : Int32) = 1 by decide), show (1 : Int32) = zI 1 from rfl, zI_sub]
      have h28d : f_M_floor_J28 (zI t) 0 1 u = some (zI (t - 1), u) := by
        unfold f_M_floor_J28; rw [if_neg (show ¬ (1 : Int32) = 0 by decide), show (1 : Int32) = zI 1 from rfl, zI_sub]
      by_cases hr : 0 ≤ -r
      · rw [if_pos ((zI_nn (by omega) (by omega)).mpr hr)]
        unfold f_M_floor_J19
        by_cases hb0 : 0 ≤ b
        · rw [if_pos ((zI_nn (by omega) (by omega)).mpr hb0), h28a]
          congr 3
          have := hp hr
          rcases (show b = 1 ∨ b = 2 by omega) with e | e
          · subst e; rw [fl_1]; omega
          · subst e; rw [fl_2]; omega
        · rw [if_neg (fun z => hb0 ((zI_nn (by omega) (by omega)).mp z)), h28c]
          congr 3
          have := hp hr
          rcases (show b = -1 ∨ b = -2 by omega) with e | e
          · subst e; rw [fl_m1]; omega
          · subst e; rw [fl_m2]; omega
      · rw [if_neg (fun z => hr ((zI_nn (by omega) (by omega)).mp z))]
        unfold f_M_floor_J19
        by_cases hb0 : 0 ≤ b
        · rw [if_pos ((zI_nn (by omega) (by omega)).mpr hb0), h28d]
          congr 3
          have := hn (by omega)
          rcases (show b = 1 ∨ b = 2 by omega) with e | e
          · subst e; rw [fl_1]; omega
          · subst e; rw [fl_2]; omega
        · rw [if_neg (fun z => hb0 ((zI_nn (by omega) (by omega)).mp z)), h28b]
          congr 3
          have := hn (by omega)
          rcases (show b = -1 ∨ b = -2 by omega) with e | e
          · subst e; rw [fl_m1]; omega
          · subst e; rw [fl_m2]; omega
  rcases (show b = -2 ∨ b = -1 ∨ b = 1 ∨ b = 2 by omega) with e | e | e | e
  · subst e
    obtain ⟨k1, k2, k3⟩ := key 2 (Or.inr rfl) (-r) (by omega) (by omega)
    rw [show (-2 : Int) = -(2 : Int) from rfl, Int.tdiv_neg, Int.tmod_neg]
    rcases Int.lt_or_le (-r) 0 with z | z
    · have := k3 (by omega)
      exact fin _ _ (by omega) (by omega) (by omega) (by omega) (by omega) (fun _ => by omega) (fun _ => by omega)
    · have := k2 (by omega)
      exact fin _ _ (by omega) (by omega) (by omega) (by omega) (by omega) (fun _ => by omega) (fun _ => by omega)
  · subst e
    obtain ⟨k1, k2, k3⟩ := key 1 (Or.inl rfl) (-r) (by omega) (by omega)
    rw [show (-1 : Int) = -(1 : Int) from rfl, Int.tdiv_neg, Int.tmod_neg]
    rcases Int.lt_or_le (-r) 0 with z | z
    · have := k3 (by omega)
      exact fin _ _ (by omega) (by omega) (by omega) (by omega) (by omega) (fun _ => by omega) (fun _ => by omega)
    · have := k2 (by omega)
      exact fin _ _ (by omega) (by omega) (by omega) (by omega) (by omega) (fun _ => by omega) (fun _ => by omega)
  · subst e
    obtain ⟨k1, k2, k3⟩ := key 1 (Or.inl rfl) (-r) (by omega) (by omega)
    rcases Int.lt_or_le (-r) 0 with z | z
    · have := k3 (by omega)
      exact fin _ _ (by omega) (by omega) (by omega) (by omega) (by omega) (fun _ => by omega) (fun _ => by omega)
    · have := k2 (by omega)
      exact fin _ _ (by omega) (by omega) (by omega) (by omega) (by omega) (fun _ => by omega) (fun _ => by omega)
  · subst e
    obtain ⟨k1, k2, k3⟩ := key 2 (Or.inr rfl) (-r) (by omega) (by omega)
    rcases Int.lt_or_le (-r) 0 with z | z
    · have := k3 (by omega)
      exact fin _ _ (by omega) (by omega) (by omega) (by omega) (by omega) (fun _ => by omega) (fun _ => by omega)
    · have := k2 (by omega)
      exact fin _ _ (by omega) (by omega) (by omega) (by omega) (by omega) (fun _ => by omega) (fun _ => by omega)
/-- the claims in [ ] of a claim without quantifiers, by their places -/
theorem at_idx {N : List Nd} (hN : ∀ n ∈ N, nok n) : ∀ i, wf N i = true → wf N i = true → qf N i = true → ∀ n ∈ ats N i, ∃ j, i ≤ j ∧ j < i + ln N i ∧ N[j]? = some n ∧ k_pr (n_k n) = false ∧ k_un (n_k n) = false := by
  refine cl_ind ?_
  intro i x hx hpr hun hw hqf n hn
  have nx := List.mem_of_getElem? hx
  rw [ats_eq hx] at hn
  unfold g_at at hn
  rcases kd_cases (hN x nx) with hk | hk | hk | ⟨hp, hu, hb⟩
  · have hp : k_pr (n_k x) = false := by rw [hk]; rfl
    have hu : k_un (n_k x) = true := by rw [hk]; rfl
    rw [if_pos hk] at hn
    obtain ⟨j, a, b, c⟩ := hun hp hu (wf_2 hx hp hu hw) ((n_33 hx hk).2.2.1 ▸ hqf) n hn
    exact ⟨j, by omega, by rw [ln_un hx hp hu]; omega, c⟩
  · rw [if_neg (kp_33 hk), if_pos hk] at hn
    obtain ⟨p1, p2⟩ := hpr hk
    obtain ⟨w1, w2⟩ := wf_1 hx hk hw
    rw [(n_pr hx hk).2.2.1, Bool.and_eq_true] at hqf
    rcases List.mem_append.mp hn with g | g
    · obtain ⟨j, a, b, c⟩ := p1 w1 hqf.1 n g
      exact ⟨j, by omega, by rw [ln_pr hx hk]; omega, c⟩
    · obtain ⟨j, a, b, c⟩ := p2 w2 hqf.2 n g
      exact ⟨j, by omega, by rw [ln_pr hx hk]; omega, c⟩
  · rw [(n_qu hx hk).2.2.1] at hqf; cases hqf
  · obtain ⟨h33, hq⟩ := kun_f hu
    rw [if_neg h33, if_neg (show ¬ k_pr (n_k x) = true by rw [hp]; decide), if_neg (show ¬ k_qu (n_k x) = true by rw [hq]; decide)] at hn
    rw [List.mem_singleton.mp hn]
    exact ⟨i, Nat.le_refl _, by rw [ln_br hx hp hu]; omega, hx, hp, hu⟩
section LQ
variable {q a j : Nat} {wt act : Bool} {v4 : Int32} {c : Int} {S : MS → Prop} {g : Int → Bool} {k37 : Int32 → Int32 → Int32 → Int32 → Int32 → Int32 → MS → Option (Int32 × MS)}
theorem sM_135 (ha : a < 3) (hq : q < 20) (hj : j < 20) (c1 : -10000 ≤ c) (c2 : c ≤ 10000) (low : ∀ (w : Int) (u : MS), -15000 ≤ w → w ≤ 15000 → S u → ∃ u', f_M_lowHolds (nI q) (m_p_nu (upd (m_nu u) a (zI w)) u) = some (bI (g w), u') ∧ S u') :
    ∀ (k n : Nat) (fl : Bool) (u : MS), k < n → k ≤ 15 → S u → ∃ u' fl', f_M_lowQuantifier_L135 k37 n (nI q) (bI wt) (nI a) v4 (bI fl) (nI j) (bI act) (zI c) (zI (8 - (k : Int))) u = k37 (nI q) (bI wt) (nI a) v4 (bI fl') (nI (j + 1)) u' ∧ S u' ∧ (fl' = true ↔ fl = true ∨ ((act = true ∨ j = q) ∧ ∃ w, c + (8 - (k : Int)) ≤ w ∧ w ≤ c + 7 ∧ g w = wt)) := by
  intro k
  induction k with
  | zero =>
    intro n fl u hn _ hS
    obtain ⟨n, rfl⟩ : ∃ m, n = m + 1 := ⟨n - 1, by omega⟩
    rw [q_M_lowQuantifier_L135, if_pos (show (7 : Int32) < zI (8 - ((0 : Nat) : Int)) by decide), lt_q, nI_1]
    refine ⟨u, fl, rfl, hS, ⟨Or.inl, ?_⟩⟩
    rintro (z | ⟨-, w, w1, w2, -⟩)
    · exact z
    · omega
  | succ k ih =>
    intro n fl u hn hk hS
    obtain ⟨n, rfl⟩ : ∃ m, n = m + 1 := ⟨n - 1, by omega⟩
    rw [q_M_lowQuantifier_L135, if_neg (show ¬ (7 : Int32) < zI (8 - ((k + 1 : Nat) : Int)) by rw [show (7 : Int32) = zI 7 from rfl, zI_lt (by omega) (by omega) (by omega) (by omega)]; omega)]
    cases fl
    · rw [if_pos (show bI false = 0 from rfl)]
      have h158 : (act = true ∨ j = q) → ∃ u' fl', f_M_lowQuantifier_J158 k37 (f_M_lowQuantifier_L135 k37 n) (nI q) (bI wt) (nI a) v4 (nI j) (bI act) (zI c) (zI (8 - ((k + 1 : Nat) : Int))) u = k37 (nI q) (bI wt) (nI a) v4 (bI fl') (nI (j + 1)) u' ∧ S u' ∧ (fl' = true ↔ false = true ∨ ((act = true ∨ j = q) ∧ ∃ w, c + (8 - ((k + 1 : Nat) : Int)) ≤ w ∧ w ≤ c + 7 ∧ g w = wt)) := by
        intro hact
        obtain ⟨u1, e1, S1⟩ := low (c + (8 - ((k + 1 : Nat) : Int))) u (by omega) (by omega) hS
        unfold f_M_lowQuantifier_J158
        rw [gd_s (inb_nI (by omega) (by omega)), lt_q, nI_clamp (by omega), zI_add, ob_s e1]
        have ez : zI (8 - ((k + 1 : Nat) : Int)) + 1 = zI (8 - (k : Int)) := by
          rw [show (1 : Int32) = zI 1 from rfl, zI_add]; congr 1; omega
        by_cases hg : g (c + (8 - ((k + 1 : Nat) : Int))) = wt
        · rw [if_pos (show bI (g (c + (8 - ((k + 1 : Nat) : Int)))) = bI wt by rw [hg]), lt_q, ez]
          obtain ⟨u2, fl', e2, S2, h2⟩ := ih n true u1 (by omega) (by omega) S1
          rw [show bI true = 1 from rfl] at e2
          refine ⟨u2, fl', e2, S2, ⟨fun _ => Or.inr ⟨hact, _, Int.le_refl _, by omega, hg⟩, fun _ => h2.mpr (Or.inl rfl)⟩⟩
        · rw [if_neg (fun z => hg (bI_inj.mp z)), lt_q, ez]
          obtain ⟨u2, fl', e2, S2, h2⟩ := ih n false u1 (by omega) (by omega) S1
          rw [show bI false = 0 from rfl] at e2
          refine ⟨u2, fl', e2, S2, h2.trans ?_⟩
          constructor
          · rintro (z | ⟨z, w, w1, w2, w3⟩)
            · exact Or.inl z
            · exact Or.inr ⟨z, w, by omega, w2, w3⟩
          · rintro (z | ⟨z, w, w1, w2, w3⟩)
            · exact Or.inl z
            · refine Or.inr ⟨z, w, ?_, w2, w3⟩
              rcases Int.lt_or_le (c + (8 - ((k + 1 : Nat) : Int))) w with y | y
              · omega
              · have : w = c + (8 - ((k + 1 : Nat) : Int)) := by omega
                rw [this] at w3; exact absurd w3 hg
      cases act
      · rw [if_pos (show bI false = 0 from rfl)]
        by_cases hjq : j = q
        · rw [if_pos (show nI j = nI q by rw [hjq])]
          exact h158 (Or.inr hjq)
        · rw [if_neg (show ¬ nI j = nI q by rw [nI_eq (by omega) (by omega)]; exact hjq), lt_q, nI_1]
          refine ⟨u, false, rfl, hS, ⟨Or.inl, ?_⟩⟩
          rintro (z | ⟨z, -⟩)
          · exact z
          · rcases z with z | z
            · cases z
            · exact absurd z hjq
      · rw [if_neg (show ¬ bI true = 0 by decide)]
        exact h158 (Or.inl rfl)
    · rw [if_neg (show ¬ bI true = 0 by decide), lt_q, nI_1]
      exact ⟨u, true, rfl, hS, ⟨fun _ => Or.inl rfl, fun _ => rfl⟩⟩
end LQ
