-- claims as rows of nodes, each before its parts. A node: kind (its character), variable or divisor, coefficients, number, which variables stand in it
abbrev Nd : Type := Nat × Nat × (Nat → Int) × Int × (Nat → Bool)
abbrev Ev : Type := Nat → Int
def n_k (n : Nd) : Nat := n.1
def n_a (n : Nd) : Nat := n.2.1
def n_c (n : Nd) (i : Nat) : Int := n.2.2.1 i
def n_n (n : Nd) : Int := n.2.2.2.1
def n_o (n : Nd) (i : Nat) : Bool := n.2.2.2.2 i
def n_v (n : Nd) (e : Ev) : Int := n_c n 0 * e 0 + n_c n 1 * e 1 + n_c n 2 * e 2 + n_n n
def n_h (n : Nd) (e : Ev) : Prop := ln_h (n_k n) (n_a n) (n_v n e)
def k_pr (k : Nat) : Bool := k == 38 || k == 47 || k == 62
def k_qu (k : Nat) : Bool := k == 69 || k == 65
def k_un (k : Nat) : Bool := k == 33 || k_qu k
/-- at each node: the length of the claim that begins there, and what g makes of it -/
def pos {α : Type} (g : Nd → α → α → α) (d : α) : List Nd → List (Nat × α)
  | [] => []
  | n :: r => ((if k_pr (n_k n) then 1 + ((pos g d r).getD 0 (0, d)).1 + ((pos g d r).getD ((pos g d r).getD 0 (0, d)).1 (0, d)).1 else if k_un (n_k n) then 1 + ((pos g d r).getD 0 (0, d)).1 else 1),
      g n ((pos g d r).getD 0 (0, d)).2 ((pos g d r).getD ((pos g d r).getD 0 (0, d)).1 (0, d)).2) :: pos g d r
theorem pos_length {α : Type} (g : Nd → α → α → α) (d : α) : ∀ N, (pos g d N).length = N.length
  | [] => rfl
  | n :: r => by simp [pos, pos_length g d r]
theorem pos_drop {α : Type} (g : Nd → α → α → α) (d : α) : ∀ (N : List Nd) (i : Nat), pos g d (N.drop i) = (pos g d N).drop i
  | [], i => by simp [pos]
  | n :: r, 0 => rfl
  | n :: r, i + 1 => by
    rw [List.drop_succ_cons, pos_drop g d r i]
    simp [pos]
def pat {α : Type} (g : Nd → α → α → α) (d : α) (N : List Nd) (i : Nat) : Nat × α := (pos g d N).getD i (0, d)
theorem pat_drop {α : Type} (g : Nd → α → α → α) (d : α) (N : List Nd) (i j : Nat) : pat g d (N.drop i) j = pat g d N (i + j) := by
  unfold pat
  rw [pos_drop, List.getD_eq_getElem?_getD, List.getD_eq_getElem?_getD, List.getElem?_drop]
theorem pat_eq {α : Type} {g : Nd → α → α → α} {d : α} {N : List Nd} {i : Nat} {n : Nd} (h : N[i]? = some n) :
    pat g d N i = ((if k_pr (n_k n) then 1 + (pat g d N (i + 1)).1 + (pat g d N (i + 1 + (pat g d N (i + 1)).1)).1 else if k_un (n_k n) then 1 + (pat g d N (i + 1)).1 else 1), g n (pat g d N (i + 1)).2 (pat g d N (i + 1 + (pat g d N (i + 1)).1)).2) := by
  have hd : N.drop i = n :: N.drop (i + 1) := by
    obtain ⟨hi, he⟩ := List.getElem?_eq_some_iff.mp h
    rw [← he, List.drop_eq_getElem_cons hi]
  have h0 := pat_drop g d N i 0
  rw [Nat.add_zero] at h0
  rw [← h0, hd]
  have h1 : ∀ j, pat g d (N.drop (i + 1)) j = pat g d N (i + 1 + j) := pat_drop g d N (i + 1)
  have h2 := h1 0
  rw [Nat.add_zero] at h2
  rw [← h2, ← h1]
  rfl
/-- the truth of the claim that begins at a node -/
def g_sem (n : Nd) (a b : Ev → Prop) : Ev → Prop := fun e =>
  if n_k n = 33 then ¬ a e else if n_k n = 38 then a e ∧ b e else if n_k n = 47 then a e ∨ b e else if n_k n = 62 then (a e → b e)
  else if n_k n = 69 then ∃ w, a (fun i => if i = n_a n then w else e i) else if n_k n = 65 then ∀ w, a (fun i => if i = n_a n then w else e i) else n_h n e
def sem (N : List Nd) (i : Nat) : Ev → Prop := (pat g_sem (fun _ => False) N i).2
/-- which variables are free in it -/
def g_fv (n : Nd) (a b : Nat → Bool) : Nat → Bool := fun v =>
  if n_k n = 33 then a v else if k_pr (n_k n) then a v || b v else if k_qu (n_k n) then a v && !(v == n_a n) else n_o n v
def fv (N : List Nd) (i : Nat) : Nat → Bool := (pat g_fv (fun _ => false) N i).2
/-- whether no quantifier is in it -/
def g_qf (n : Nd) (a b : Bool) : Bool := if n_k n = 33 then a else if k_pr (n_k n) then a && b else if k_qu (n_k n) then false else true
def qf (N : List Nd) (i : Nat) : Bool := (pat g_qf false N i).2
/-- the claims in [ ] that stand in it -/
def g_at (n : Nd) (a b : List Nd) : List Nd := if n_k n = 33 then a else if k_pr (n_k n) then a ++ b else if k_qu (n_k n) then a else [n]
def ats (N : List Nd) (i : Nat) : List Nd := (pat g_at [] N i).2
/-- whether it is whole -/
def g_wf (n : Nd) (a b : Bool) : Bool := if k_pr (n_k n) then a && b else if k_un (n_k n) then a else true
def wf (N : List Nd) (i : Nat) : Bool := (pat g_wf false N i).2
