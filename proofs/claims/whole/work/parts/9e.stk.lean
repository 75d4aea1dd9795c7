theorem ln_le {N : List Nd} : ∀ i, wf N i = true → i + ln N i ≤ N.length := by
  refine cl_ind ?_
  intro i x hx hpr hun
  have hi := (List.getElem?_eq_some_iff.mp hx).1
  rw [ln_eq hx]
  cases hp : k_pr (n_k x)
  · cases hu : k_un (n_k x)
    · rw [if_neg ff_tt, if_neg ff_tt]; omega
    · have := hun hp hu
      rw [if_neg ff_tt, if_pos (show true = true from rfl)]; omega
  · have := (hpr hp).2
    rw [if_pos (show true = true from rfl)]; omega
theorem ln_pr {N : List Nd} {i : Nat} {x : Nd} (hx : N[i]? = some x) (hp : k_pr (n_k x) = true) : ln N i = 1 + ln N (i + 1) + ln N (i + 1 + ln N (i + 1)) := by
  rw [ln_eq hx, if_pos hp]
theorem ln_un {N : List Nd} {i : Nat} {x : Nd} (hx : N[i]? = some x) (hp : k_pr (n_k x) = false) (hu : k_un (n_k x) = true) : ln N i = 1 + ln N (i + 1) := by
  rw [ln_eq hx, if_neg (by rw [hp]; decide), if_pos hu]
theorem ln_br {N : List Nd} {i : Nat} {x : Nd} (hx : N[i]? = some x) (hp : k_pr (n_k x) = false) (hu : k_un (n_k x) = false) : ln N i = 1 := by
  rw [ln_eq hx, if_neg (by rw [hp]; decide), if_neg (by rw [hu]; decide)]
theorem ln_pos {N : List Nd} {i : Nat} (h : wf N i = true) : 0 < ln N i := by
  obtain ⟨x, hx⟩ := wf_in h
  rw [ln_eq hx]
  cases k_pr (n_k x)
  · cases k_un (n_k x)
    · rw [if_neg ff_tt, if_neg ff_tt]; omega
    · rw [if_neg ff_tt, if_pos (show true = true from rfl)]; omega
  · rw [if_pos (show true = true from rfl)]; omega
def jn (k : Nat) (a b : Bool) : Bool := if k = 38 then a && b else if k = 47 then a || b else (!a || b)
/-- working out with a stack: the part of a row of nodes that is one claim of the owner puts its value onto the stack -/
theorem stk_seg {N : List Nd} {E : Nat → Nat → Nat → MS → Option (Int32 × MS)} {I : MS → Prop} {st : MS → Nat → Int32} {own leaf : Nat → Prop} {val : Nat → Bool} {lb : Nat}
    (skip : ∀ n t j u, I u → lb ≤ j → j < N.length → ¬ own j → E (n + 1) t (j + 1) u = E n t j u)
    (push : ∀ n t j u, I u → lb ≤ j → j < N.length → own j → leaf j → t < 24 → ∃ u', E (n + 1) t (j + 1) u = E n (t + 1) j u' ∧ I u' ∧ st u' t = bI (val j) ∧ ∀ s, s < t → st u' s = st u s)
    (neg : ∀ n t j x u b, I u → lb ≤ j → N[j]? = some x → n_k x = 33 → own j → t < 24 → st u t = bI b → ∃ u', E (n + 1) (t + 1) (j + 1) u = E n (t + 1) j u' ∧ I u' ∧ st u' t = bI (!b) ∧ ∀ s, s < t → st u' s = st u s)
    (pair : ∀ n t j x u a b, I u → lb ≤ j → N[j]? = some x → k_pr (n_k x) = true → own j → t + 1 < 24 → st u (t + 1) = bI a → st u t = bI b → ∃ u', E (n + 1) (t + 1 + 1) (j + 1) u = E n (t + 1) j u' ∧ I u' ∧ st u' t = bI (jn (n_k x) a b) ∧ ∀ s, s < t → st u' s = st u s)
    (v33 : ∀ j x, lb ≤ j → N[j]? = some x → n_k x = 33 → own j → own (j + 1) ∧ val j = !val (j + 1))
    (vpr : ∀ j x, lb ≤ j → N[j]? = some x → k_pr (n_k x) = true → own j → own (j + 1) ∧ own (j + 1 + ln N (j + 1)) ∧ val j = jn (n_k x) (val (j + 1)) (val (j + 1 + ln N (j + 1))))
    (vq : ∀ j x, lb ≤ j → N[j]? = some x → k_qu (n_k x) = true → wf N j = true → own j → leaf j ∧ ∀ i, j < i → i < j + ln N j → ¬ own i)
    (vb : ∀ j x, lb ≤ j → N[j]? = some x → k_pr (n_k x) = false → k_un (n_k x) = false → own j → leaf j) :
    ∀ i, wf N i = true → wf N i = true → lb ≤ i → own i → ∀ n t u, I u → t + ln N i ≤ 24 → ∃ u', E (n + ln N i) t (i + ln N i) u = E n (t + 1) i u' ∧ I u' ∧ st u' t = bI (val i) ∧ ∀ s, s < t → st u' s = st u s := by
  have skips : ∀ k n t j u, I u → lb ≤ j → j + k ≤ N.length → (∀ i, j ≤ i → i < j + k → ¬ own i) → E (n + k) t (j + k) u = E n t j u := by
    intro k
    induction k with
    | zero => intro n t j u _ _ _ _; rfl
    | succ k ih =>
      intro n t j u hI hlb hl ho
      rw [show n + (k + 1) = (n + k) + 1 by omega, show j + (k + 1) = (j + k) + 1 by omega, skip (n + k) t (j + k) u hI (by omega) (by omega) (ho _ (by omega) (by omega))]
      exact ih n t j u hI hlb (by omega) (fun i h1 h2 => ho i h1 (by omega))
  refine cl_ind ?_
  intro i x hx hpr hun hw hlb ho n t u hI ht
  have hi := (List.getElem?_eq_some_iff.mp hx).1
  have hle := ln_le i hw
  cases hp : k_pr (n_k x)
  · cases hu : k_un (n_k x)
    · rw [ln_br hx hp hu]
      rw [ln_br hx hp hu] at ht
      exact push n t i u hI hlb hi ho (vb i x hlb hx hp hu ho) (by omega)
    · have hw1 := wf_2 hx hp hu hw
      have hl := ln_un hx hp hu
      by_cases h33 : n_k x = 33
      · obtain ⟨o1, v1⟩ := v33 i x hlb hx h33 ho
        obtain ⟨u1, e1, I1, s1, b1⟩ := hun hp hu hw1 (by omega) o1 (n + 1) t u hI (by omega)
        obtain ⟨u2, e2, I2, s2, b2⟩ := neg n t i x u1 (val (i + 1)) I1 hlb hx h33 ho (by omega) s1
        refine ⟨u2, ?_, I2, ?_, fun s hs => (b2 s hs).trans (b1 s hs)⟩
        · rw [hl, show n + (1 + ln N (i + 1)) = n + 1 + ln N (i + 1) by omega, show i + (1 + ln N (i + 1)) = i + 1 + ln N (i + 1) by omega, e1, e2]
        · rw [s2, v1]
      · have hq : k_qu (n_k x) = true := by
          rcases ku_or hu with e | e | e
          · exact absurd e h33
          · rw [e]; rfl
          · rw [e]; rfl
        obtain ⟨lf_, no_⟩ := vq i x hlb hx hq hw ho
        obtain ⟨u2, e2, I2, s2, b2⟩ := push n t i u hI hlb hi ho lf_ (by omega)
        refine ⟨u2, ?_, I2, s2, b2⟩
        rw [hl, show n + (1 + ln N (i + 1)) = n + 1 + ln N (i + 1) by omega, show i + (1 + ln N (i + 1)) = i + 1 + ln N (i + 1) by omega, skips (ln N (i + 1)) (n + 1) t (i + 1) u hI (by omega) (by omega) (fun j h1 h2 => no_ j (by omega) (by omega)), e2]
  · obtain ⟨hw1, hw2⟩ := wf_1 hx hp hw
    obtain ⟨p1, p2⟩ := hpr hp
    have hl := ln_pr hx hp
    obtain ⟨o1, o2, v1⟩ := vpr i x hlb hx hp ho
    have q1 := ln_pos hw1
    have q2 := ln_pos hw2
    generalize hl1 : ln N (i + 1) = l1 at *
    generalize hl2 : ln N (i + 1 + l1) = l2 at *
    obtain ⟨u1, e1, I1, s1, b1⟩ := p2 hw2 (by omega) o2 (n + 1 + l1) t u hI (by omega)
    obtain ⟨u2, e2, I2, s2, b2⟩ := p1 hw1 (by omega) o1 (n + 1) (t + 1) u1 I1 (by omega)
    obtain ⟨u3, e3, I3, s3, b3⟩ := pair n t i x u2 (val (i + 1)) (val (i + 1 + l1)) I2 hlb hx hp ho (by omega) s2 ((b2 t (by omega)).trans s1)
    refine ⟨u3, ?_, I3, ?_, fun s hs => (b3 s hs).trans ((b2 s (by omega)).trans (b1 s hs))⟩
    · rw [hl, show n + (1 + l1 + l2) = n + 1 + l1 + l2 by omega, show i + (1 + l1 + l2) = i + 1 + l1 + l2 by omega, e1, e2, e3]
    · rw [s3, v1]
/-- whose the nodes of a claim are -/
theorem ow_in {N : List Nd} {w : Nat → Int32} (hO : ∀ i x, N[i]? = some x → MO w 0 N i x) : ∀ i, wf N i = true → wf N i = true → ∀ j, i ≤ j → j < i + ln N i → w j = w i ∨ ∃ q x, i ≤ q ∧ q < j ∧ N[q]? = some x ∧ k_qu (n_k x) = true ∧ w j = nI q ∧ j < q + 1 + ln N (q + 1) := by
  refine cl_ind ?_
  intro i x hx hpr hun hw j h1 h2
  have hm := hO i x hx
  unfold MO at hm
  rw [Nat.zero_add] at hm
  obtain ⟨m1, m2, m3⟩ := hm
  by_cases hji : j = i
  · left; rw [hji]
  cases hp : k_pr (n_k x)
  · cases hu : k_un (n_k x)
    · rw [ln_br hx hp hu] at h2; omega
    · have hw1 := wf_2 hx hp hu hw
      rw [ln_un hx hp hu] at h2
      rcases hun hp hu hw1 j (by omega) (by omega) with g | ⟨q, y, g1, g2, g3, g4, g5, g6⟩
      · by_cases h33 : n_k x = 33
        · left; rw [g, m2 h33]
        · have hq : k_qu (n_k x) = true := by
            rcases ku_or hu with e | e | e
            · exact absurd e h33
            · rw [e]; rfl
            · rw [e]; rfl
          right
          exact ⟨i, x, Nat.le_refl _, by omega, hx, hq, by rw [g, m3 hq], by omega⟩
      · right
        exact ⟨q, y, by omega, g2, g3, g4, g5, g6⟩
  · obtain ⟨hw1, hw2⟩ := wf_1 hx hp hw
    obtain ⟨p1, p2⟩ := hpr hp
    rw [ln_pr hx hp] at h2
    obtain ⟨n1, n2⟩ := m1 hp
    rcases Nat.lt_or_ge j (i + 1 + ln N (i + 1)) with z | z
    · rcases p1 hw1 j (by omega) z with g | ⟨q, y, g1, g2, g3, g4, g5, g6⟩
      · left; rw [g, n1]
      · right
        exact ⟨q, y, by omega, g2, g3, g4, g5, g6⟩
    · rcases p2 hw2 j z (by omega) with g | ⟨q, y, g1, g2, g3, g4, g5, g6⟩
      · left; rw [g, n2]
      · right
        exact ⟨q, y, by omega, g2, g3, g4, g5, g6⟩
/-- the reference's table -/
def ET (u : MS) (N : List Nd) : Prop := m_cl u = nI N.length ∧ N.length ≤ 20 ∧ m_ow u 0 = -1 ∧ ∀ i x, N[i]? = some x → (m_ki u i = nI (kc (n_k x)) ∧ (k_qu (n_k x) = true → m_ab u i = nI (n_a x)) ∧ (n_k x = 58 → m_ab u i = nI (n_a x)) ∧ (k_pr (n_k x) = false → k_un (n_k x) = false → (∀ v, v < 3 → m_su u (4 * i + v) = zI (n_c x v)) ∧ m_su u (4 * i + 3) = zI (n_n x))) ∧ MO (m_ow u) 0 N i x
theorem ET_tb {a b : MS} {N : List Nd} (h : ET a N) (g : tb a b) : ET b N := by
  obtain ⟨g1, g2, g3, g4, g5, g6, g7⟩ := g
  obtain ⟨h1, h2, h3, h4⟩ := h
  refine ⟨g1.trans h1, h2, by rw [g5]; exact h3, fun i x hx => ?_⟩
  rw [g4, g5, g6, g7]
  exact h4 i x hx
section OW
variable {u : MS} {N : List Nd}
theorem ow_root (hE : ET u N) (o : one N) {j q : Nat} (hj : j < N.length) (hq : q < 1000) (h : m_ow u j = nI q) : q < j ∧ j < q + 1 + ln N (q + 1) := by
  rcases ow_in (fun i x hx => (hE.2.2.2 i x hx).2) 0 (o.1 0 o.2.2) (o.1 0 o.2.2) j (Nat.zero_le _) (by rw [o.2.1]; omega) with g | ⟨q', y, g1, g2, g3, g4, g5, g6⟩
  · rw [h, hE.2.2.1] at g
    exact absurd g (by
      intro z
      have := nI_pos (n := q) (by omega)
      rw [z] at this
      exact this (by decide))
  · rw [h, nI_eq (by omega) (by have := hE.2.1; omega)] at g5
    subst g5
    exact ⟨g2, g6⟩
/-- inside a quantifier nothing is its owner's -/
theorem ow_qin (hE : ET u N) (hO : one N) {i j : Nat} {x : Nd} (hx : N[i]? = some x) (hq : k_qu (n_k x) = true) (h1 : i < j) (h2 : j < i + ln N i) : ¬ m_ow u j = m_ow u i := by
  have hi := (List.getElem?_eq_some_iff.mp hx).1
  have hw := hO.1 i hi
  have k1 := kq_33 hq
  have hw1 := wf_2 hx k1.2.1 k1.2.2 hw
  have hl := ln_un hx k1.2.1 k1.2.2
  have h20 := hE.2.1
  have hle := ln_le i hw
  have m3 := (hE.2.2.2 i x hx).2.2.2 hq
  rw [Nat.zero_add] at m3
  have big : ∃ q, i ≤ q ∧ q < 1000 ∧ m_ow u j = nI q := by
    rcases ow_in (fun i x hx => (hE.2.2.2 i x hx).2) (i + 1) hw1 hw1 j (by omega) (by omega) with g | ⟨q', y, g1, g2, g3, g4, g5, g6⟩
    · exact ⟨i, Nat.le_refl _, by omega, by rw [g, m3]⟩
    · exact ⟨q', by omega, by omega, g5⟩
  obtain ⟨q, q1, q2, q3⟩ := big
  intro z
  rw [q3] at z
  have := ow_root hE hO hi q2 z.symm
  omega
end OW
