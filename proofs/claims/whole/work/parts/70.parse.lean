-- the reading of a text without spaces (its characters as numbers): what is left of it tells the place
abbrev Ac : Type := (Nat → Int) × Int × (Nat → Bool)
def ac0 : Ac := (fun _ => 0, 0, fun _ => false)
def ac_n (a : Ac) (z : Int) : Ac := (a.1, a.2.1 + z, a.2.2)
def ac_v (a : Ac) (v : Nat) (z : Int) : Ac := (fun j => if j = v then a.1 j + z else a.1 j, a.2.1, fun j => if j = v then true else a.2.2 j)
def isD (c : Nat) : Bool := decide (48 ≤ c) && decide (c ≤ 57)
def isV (c : Nat) : Bool := decide (120 ≤ c) && decide (c ≤ 122)
/-- a part of a sum: read or not, what is left (at the fault, if not), the sum so far -/
def sp_part (bd : Nat → Bool) (sg : Int) (a : Ac) : List Nat → Bool × List Nat × Ac
  | [] => (false, [], a)
  | c :: r =>
    if isD c = true then
      match r with
      | [] => (true, [], ac_n a (sg * ((c : Int) - 48)))
      | d :: q =>
        if isD d = true then (true, q, ac_n a (sg * (10 * ((c : Int) - 48) + ((d : Int) - 48))))
        else if isV d = true ∧ (c = 49 ∨ c = 50) then
          (if d = 120 ∨ bd (d - 120) = true then (true, q, ac_v a (d - 120) (sg * ((c : Int) - 48))) else (false, d :: q, a))
        else (true, d :: q, ac_n a (sg * ((c : Int) - 48)))
    else if isV c = true then (if c = 120 ∨ bd (c - 120) = true then (true, r, ac_v a (c - 120) sg) else (false, c :: r, a))
    else (false, c :: r, a)
def sp_sum (bd : Nat → Bool) (sd : Int) : Nat → Int → Ac → List Nat → Bool × List Nat × Ac
  | 0, _, a, ts => (false, ts, a)
  | n + 1, sg, a, ts =>
    if (sp_part bd sg a ts).1 = true then
      match (sp_part bd sg a ts).2.1 with
      | [] => (true, [], (sp_part bd sg a ts).2.2)
      | c :: q => if c = 43 then sp_sum bd sd n sd (sp_part bd sg a ts).2.2 q else if c = 45 then sp_sum bd sd n (-sd) (sp_part bd sg a ts).2.2 q else (true, c :: q, (sp_part bd sg a ts).2.2)
    else sp_part bd sg a ts
def sp_sums (bd : Nat → Bool) (sd : Int) (a : Ac) (ts : List Nat) : Bool × List Nat × Ac :=
  match ts with
  | [] => sp_sum bd sd 130 sd a []
  | c :: q => if c = 45 then sp_sum bd sd 130 (-sd) a q else sp_sum bd sd 130 sd a (c :: q)
def ac_in (a : Ac) : Bool := decide (-2 ≤ a.1 0) && decide (a.1 0 ≤ 2) && decide (-2 ≤ a.1 1) && decide (a.1 1 ≤ 2) && decide (-2 ≤ a.1 2) && decide (a.1 2 ≤ 2) && decide (-15 ≤ a.2.1) && decide (a.2.1 ≤ 15)
/-- the end of a claim in [ ] -/
def sp_end (k d : Nat) (s : Bool × List Nat × Ac) : Bool × List Nat × Nd :=
  if s.1 = true then
    match s.2.1 with
    | [] => (false, [], (k, d, s.2.2.1, s.2.2.2.1, s.2.2.2.2))
    | c :: q => if c = 93 ∧ ac_in s.2.2 = true then (true, q, (k, d, s.2.2.1, s.2.2.2.1, s.2.2.2.2)) else (false, c :: q, (k, d, s.2.2.1, s.2.2.2.1, s.2.2.2.2))
  else (false, s.2.1, (k, d, s.2.2.1, s.2.2.2.1, s.2.2.2.2))
/-- a claim in [ ], behind its [ -/
def sp_rel (bd : Nat → Bool) (s : Bool × List Nat × Ac) : Bool × List Nat × Nd :=
  if s.1 = true then
    match s.2.1 with
    | [] => (false, [], (60, 0, s.2.2.1, s.2.2.2.1, s.2.2.2.2))
    | c :: q => if c = 60 ∨ c = 61 then sp_end c 0 (sp_sums bd (-1) s.2.2 q) else (false, c :: q, (60, 0, s.2.2.1, s.2.2.2.1, s.2.2.2.2))
  else (false, s.2.1, (60, 0, s.2.2.1, s.2.2.2.1, s.2.2.2.2))
def sp_brk (bd : Nat → Bool) (ts : List Nat) : Bool × List Nat × Nd :=
  match ts with
  | c :: d :: q => if (c = 50 ∨ c = 51) ∧ d = 58 then sp_end 58 (c - 48) (sp_sums bd 1 ac0 q) else sp_rel bd (sp_sums bd 1 ac0 ts)
  | _ => sp_rel bd (sp_sums bd 1 ac0 ts)
/-- a claim: read or not; what is left; its nodes; claims in [ ] so far; whether a quantifier stands in another one -/
abbrev Rs : Type := Bool × List Nat × List Nd × Nat × Bool
def nd0 (k a : Nat) : Nd := (k, a, fun _ => 0, 0, fun _ => false)
def bdv (bd : Nat → Bool) (v : Nat) : Nat → Bool := fun j => if j = v then true else bd j
def sp_cl : Nat → (Nat → Bool) → Nat → Nat → Nat → Bool → List Nat → Rs
  | 0, _, _, _, br, ne, ts => (false, ts, [], br, ne)
  | n + 1, bd, dp, cnt, br, ne, ts =>
    if 20 ≤ cnt then (false, ts, [], br, ne) else
    match ts with
    | [] => (false, [], [], br, ne)
    | c :: r =>
      if c = 91 then
        (if 8 ≤ br then (false, c :: r, [], br, ne)
         else ((sp_brk bd r).1, (sp_brk bd r).2.1, [(sp_brk bd r).2.2], br + 1, ne))
      else if c = 33 then
        ((sp_cl n bd dp (cnt + 1) br ne r).1, (sp_cl n bd dp (cnt + 1) br ne r).2.1, nd0 33 0 :: (sp_cl n bd dp (cnt + 1) br ne r).2.2.1, (sp_cl n bd dp (cnt + 1) br ne r).2.2.2)
      else if k_pr c = true then
        (if (sp_cl n bd dp (cnt + 1) br ne r).1 = true then
          let p := sp_cl n bd dp (cnt + 1) br ne r
          let s := sp_cl n bd dp (cnt + 1 + p.2.2.1.length) p.2.2.2.1 p.2.2.2.2 p.2.1
          (s.1, s.2.1, nd0 c 0 :: (p.2.2.1 ++ s.2.2.1), s.2.2.2)
         else sp_cl n bd dp (cnt + 1) br ne r)
      else if k_qu c = true then
        (if 2 ≤ dp then (false, c :: r, [], br, ne)
         else match r with
          | [] => (false, [], [], br, ne || decide (0 < dp))
          | v :: q => if isV v = true then
              let s := sp_cl n (bdv bd (v - 120)) (dp + 1) (cnt + 1) br (ne || decide (0 < dp)) q
              (s.1, s.2.1, nd0 c (v - 120) :: s.2.2.1, s.2.2.2)
            else (false, v :: q, [], br, ne || decide (0 < dp)))
      else (false, c :: r, [], br, ne)
