-- what both sides hold of the claim: f, who satisfies it; x, whether x is free
def tameB (f : Int → Bool) : Prop := tame (fun v => f v = true)
theorem al_f {f : Int → Bool} (h : tameB f) (v : Int) : f (al v) = f v := by
  have key : (f (al v) = true) ↔ (f v = true) := by
    unfold al
    split
    · split
      · exact Iff.rfl
      · have e : v = (-96 + (v + 96) % 12) - 12 * (((-96 + (v + 96) % 12 - v) / 12).toNat : Int) := by omega
        have := tame_dn h ((-96 + (v + 96) % 12 - v) / 12).toNat (-96 + (v + 96) % 12) (by omega)
        rw [← e] at this
        exact this
    · have e : v = (95 - (95 - v) % 12) + 12 * (((v - (95 - (95 - v) % 12)) / 12).toNat : Int) := by omega
      have := tame_up h ((v - (95 - (95 - v) % 12)) / 12).toNat (95 - (95 - v) % 12) (by omega)
      rw [← e] at this
      exact this
  cases h1 : f (al v) <;> cases h2 : f v <;> simp_all
theorem sK_has {v : Int} (h1 : -100000 ≤ v) (h2 : v ≤ 100000) {u : KS} {f : Int → Bool} (hr : rowOf u f) (ht : tameB f) : f_W_has (zI v) u = some (bI (f v), u) := by
  rw [sW_has h1 h2 hr, al_f ht]
def CM (um : MS) (f : Int → Bool) (x : Bool) : Prop := m_xf um = bI x ∧ ∀ (v : Int) (u : MS), -1200 ≤ v → v ≤ 1200 → co um u → ∃ u', f_M_isSo (zI v) u = some (bI (f v), u') ∧ co um u'
theorem CM_co {um u : MS} {f : Int → Bool} {x : Bool} (h : CM um f x) (hc : co um u) : CM u f x :=
  ⟨by rw [cq_xf hc]; exact h.1, fun v u1 a b c => by
    obtain ⟨u2, e, c2⟩ := h.2 v u1 a b (co_tr hc c)
    exact ⟨u2, e, co_tr (co_sy hc) c2⟩⟩
def near (z : Int) : Bool := decide (-1000 ≤ z) && decide (z ≤ 1000)
theorem near_t {z : Int} : near z = true ↔ -1000 ≤ z ∧ z ≤ 1000 := by unfold near; simp
theorem i32_r (a : Int32) : -2147483648 ≤ a.toInt ∧ a.toInt < 2147483648 := ⟨Int32.le_toInt a, Int32.toInt_lt a⟩
theorem sL_near {z : Int} (h1 : -2147483648 ≤ z) (h2 : z < 2147483648) (u : KS) : f_L_isNear (zI z) u = some (bI (near z), u) := by
  unfold f_L_isNear near
  rw [show (-1000 : Int32) = zI (-1000) from rfl, show (1000 : Int32) = zI 1000 from rfl, bz0, bz1, gd_t, gd_t]
  by_cases ha : z < -1000
  · rw [if_pos ((zI_lt (by omega) (by omega) (by omega) (by omega)).mpr ha), decide_eq_false (by omega)]; rfl
  · rw [if_neg (fun h => ha ((zI_lt (by omega) (by omega) (by omega) (by omega)).mp h)), decide_eq_true (show -1000 ≤ z by omega)]
    by_cases hb : 1000 < z
    · rw [if_pos ((zI_lt (by omega) (by omega) (by omega) (by omega)).mpr hb), decide_eq_false (by omega)]; rfl
    · rw [if_neg (fun h => hb ((zI_lt (by omega) (by omega) (by omega) (by omega)).mp h)), decide_eq_true (show z ≤ 1000 by omega)]; rfl
theorem sM_in {z a b : Int} (h1 : -2147483648 ≤ z) (h2 : z < 2147483648) (a1 : -2147483648 ≤ a) (a2 : a < 2147483648) (b1 : -2147483648 ≤ b) (b2 : b < 2147483648) (u : MS) : f_M_in (zI z) (zI a) (zI b) u = some (bI (decide (a ≤ z) && decide (z ≤ b)), u) := by
  unfold f_M_in
  rw [bz0, bz1, gd_t, gd_t]
  by_cases ha : z < a
  · rw [if_pos ((zI_lt h1 h2 a1 a2).mpr ha), decide_eq_false (by omega)]; rfl
  · rw [if_neg (fun h => ha ((zI_lt h1 h2 a1 a2).mp h)), decide_eq_true (show a ≤ z by omega)]
    by_cases hb : b < z
    · rw [if_pos ((zI_lt b1 b2 h1 h2).mpr hb), decide_eq_false (by omega)]; rfl
    · rw [if_neg (fun h => hb ((zI_lt b1 b2 h1 h2).mp h)), decide_eq_true (show z ≤ b by omega)]; rfl
theorem sM_near {z : Int} (h1 : -2147483648 ≤ z) (h2 : z < 2147483648) (u : MS) : f_M_isNear (zI z) u = some (bI (near z), u) := by
  unfold f_M_isNear
  rw [show (-1000 : Int32) = zI (-1000) from rfl, show (1000 : Int32) = zI 1000 from rfl, ob_s (sM_in h1 h2 (by omega) (by omega) (by omega) (by omega) u), bz_bI, gd_t]
  rfl
theorem q_holdsK {u : KS} {f : Int → Bool} (hr : rowOf u f) (ht : tameB f) (a : Int32) : f_L_holds a u = some (bI (near a.toInt && f a.toInt), u) := by
  obtain ⟨r1, r2⟩ := i32_r a
  unfold f_L_holds
  have e : f_L_isNear a u = some (bI (near a.toInt), u) := by
    conv => lhs; rw [zI_of a]
    exact sL_near r1 r2 u
  rw [ob_s e, bz0, bz1, gd_t]
  cases hn : near a.toInt
  · rfl
  · have hn := near_t.mp hn
    rw [if_neg (by decide : ¬ bI true = 0)]
    have e2 : f_W_has a u = some (bI (f a.toInt), u) := by
      conv => lhs; rw [zI_of a]
      exact sK_has (by omega) (by omega) hr ht
    rw [ob_s e2]
    cases f a.toInt <;> rfl
theorem q_holdsM {u : MS} {f : Int → Bool} {x : Bool} (hc : CM u f x) (a : Int32) : ∃ u', f_M_holds a u = some (bI (near a.toInt && f a.toInt), u') ∧ co u u' := by
  obtain ⟨r1, r2⟩ := i32_r a
  unfold f_M_holds
  have e : f_M_isNear a u = some (bI (near a.toInt), u) := by
    conv => lhs; rw [zI_of a]
    exact sM_near r1 r2 u
  rw [ob_s e, bz0, bz1, gd_t]
  cases hn : near a.toInt
  · exact ⟨u, rfl, co_rf u⟩
  · have hn := near_t.mp hn
    rw [if_neg (by decide : ¬ bI true = 0)]
    obtain ⟨u', e2, hc2⟩ := hc.2 a.toInt u (by omega) (by omega) (co_rf u)
    rw [← zI_of a] at e2
    rw [ob_s e2]
    refine ⟨u', ?_, hc2⟩
    cases f a.toInt <;> rfl
