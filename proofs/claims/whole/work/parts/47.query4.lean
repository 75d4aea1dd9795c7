theorem sL_next {u : KS} {f : Int → Bool} (hr : rowOf u f) (ht : tameB f) : ∀ (n : Nat) (e v : Int), e - v < n → -2000 ≤ v → v ≤ 2001 → -2000 ≤ e → e ≤ 2000 →
    f_L_next_L22 (n + 1) (zI e) (zI v) u = some (zI (nxt f v (e - v + 1).toNat), u) := by
  intro n
  induction n with
  | zero =>
    intro e v h1 h2 h3 h4 h5
    rw [q_L_next_L22, if_pos ((zI_lt (by omega) (by omega) (by omega) (by omega)).mpr (by omega)), show (e - v + 1).toNat = 0 by omega]
    rfl
  | succ n ih =>
    intro e v h1 h2 h3 h4 h5
    rw [q_L_next_L22]
    by_cases hb : e < v
    · rw [if_pos ((zI_lt (by omega) (by omega) (by omega) (by omega)).mpr hb), show (e - v + 1).toNat = 0 by omega]
      rfl
    · rw [if_neg (fun h => hb ((zI_lt (by omega) (by omega) (by omega) (by omega)).mp h)), ob_s (sK_has (by omega) (by omega) hr ht), show (e - v + 1).toNat = (e - (v + 1) + 1).toNat + 1 by omega]
      unfold nxt
      cases hf : f v
      · rw [if_pos (by rfl), if_neg (by decide)]
        simp only [lt_]
        rw [show zI v + 1 = zI (v + 1) from zI_add v 1, ih e (v + 1) (by omega) (by omega) (by omega) h4 h5]
      · rw [if_neg (by decide), if_pos rfl]
theorem sL_last {u : KS} {f : Int → Bool} (hr : rowOf u f) (ht : tameB f) : ∀ (n : Nat) (e v : Int), v - e < n → -2001 ≤ v → v ≤ 2000 → -2000 ≤ e → e ≤ 2000 →
    f_L_last_L22 (n + 1) (zI e) (zI v) u = some (zI (prv f v (v - e + 1).toNat), u) := by
  intro n
  induction n with
  | zero =>
    intro e v h1 h2 h3 h4 h5
    rw [q_L_last_L22, if_pos ((zI_lt (by omega) (by omega) (by omega) (by omega)).mpr (by omega)), show (v - e + 1).toNat = 0 by omega]
    rfl
  | succ n ih =>
    intro e v h1 h2 h3 h4 h5
    rw [q_L_last_L22]
    by_cases hb : v < e
    · rw [if_pos ((zI_lt (by omega) (by omega) (by omega) (by omega)).mpr hb), show (v - e + 1).toNat = 0 by omega]
      rfl
    · rw [if_neg (fun h => hb ((zI_lt (by omega) (by omega) (by omega) (by omega)).mp h)), ob_s (sK_has (by omega) (by omega) hr ht), show (v - e + 1).toNat = (v - 1 - e + 1).toNat + 1 by omega]
      unfold prv
      cases hf : f v
      · rw [if_pos (by rfl), if_neg (by decide)]
        simp only [lt_]
        rw [show zI v + (-1) = zI (v - 1) by rw [show (-1 : Int32) = zI (-1) from rfl, zI_add]; rfl, ih e (v - 1) (by omega) (by omega) (by omega) h4 h5]
      · rw [if_neg (by decide), if_pos rfl]
theorem sM_next {um : MS} {f : Int → Bool} {x : Bool} (hc : CM um f x) {a : Int32} (ha : near a.toInt = true) : ∀ (n : Nat) (e v : Int) (u : MS), e - v < n → -1200 ≤ v → v ≤ 1201 → -1200 ≤ e → e ≤ 1200 → co um u →
    ∃ u', f_M_next_L20 (n + 1) a (zI e) (zI v) u = some (zI (nxt f v (e - v + 1).toNat), u') ∧ co um u' := by
  have hna : ∀ u, f_M_isNear a u = some (1, u) := fun u => by
    have := sM_near (i32_r a).1 (i32_r a).2 u
    rw [← zI_of a, ha] at this
    exact this
  intro n
  induction n with
  | zero =>
    intro e v u h1 h2 h3 h4 h5 hu
    rw [q_M_next_L20, ob_s (hna u), if_neg (by decide), if_pos ((zI_lt (by omega) (by omega) (by omega) (by omega)).mpr (by omega)), show (e - v + 1).toNat = 0 by omega]
    exact ⟨u, rfl, hu⟩
  | succ n ih =>
    intro e v u h1 h2 h3 h4 h5 hu
    rw [q_M_next_L20, ob_s (hna u), if_neg (by decide)]
    by_cases hb : e < v
    · rw [if_pos ((zI_lt (by omega) (by omega) (by omega) (by omega)).mpr hb), show (e - v + 1).toNat = 0 by omega]
      exact ⟨u, rfl, hu⟩
    · obtain ⟨u1, e1, c1⟩ := hc.2 v u h2 (by omega) hu
      rw [if_neg (fun h => hb ((zI_lt (by omega) (by omega) (by omega) (by omega)).mp h)), ob_s e1, show (e - v + 1).toNat = (e - (v + 1) + 1).toNat + 1 by omega]
      unfold nxt
      cases hf : f v
      · rw [if_pos (by rfl), if_neg (by decide)]
        simp only [lt_]
        rw [show zI v + 1 = zI (v + 1) from zI_add v 1]
        exact ih e (v + 1) u1 (by omega) (by omega) (by omega) h4 h5 c1
      · rw [if_neg (by decide), if_pos rfl]
        exact ⟨u1, rfl, c1⟩
theorem sM_last {um : MS} {f : Int → Bool} {x : Bool} (hc : CM um f x) {a : Int32} (ha : near a.toInt = true) : ∀ (n : Nat) (e v : Int) (u : MS), v - e < n → -1201 ≤ v → v ≤ 1200 → -1200 ≤ e → e ≤ 1200 → co um u →
    ∃ u', f_M_last_L20 (n + 1) a (zI e) (zI v) u = some (zI (prv f v (v - e + 1).toNat), u') ∧ co um u' := by
  have hna : ∀ u, f_M_isNear a u = some (1, u) := fun u => by
    have := sM_near (i32_r a).1 (i32_r a).2 u
    rw [← zI_of a, ha] at this
    exact this
  intro n
  induction n with
  | zero =>
    intro e v u h1 h2 h3 h4 h5 hu
    rw [q_M_last_L20, ob_s (hna u), if_neg (by decide), if_pos ((zI_lt (by omega) (by omega) (by omega) (by omega)).mpr (by omega)), show (v - e + 1).toNat = 0 by omega]
    exact ⟨u, rfl, hu⟩
  | succ n ih =>
    intro e v u h1 h2 h3 h4 h5 hu
    rw [q_M_last_L20, ob_s (hna u), if_neg (by decide)]
    by_cases hb : v < e
    · rw [if_pos ((zI_lt (by omega) (by omega) (by omega) (by omega)).mpr hb), show (v - e + 1).toNat = 0 by omega]
      exact ⟨u, rfl, hu⟩
    · obtain ⟨u1, e1, c1⟩ := hc.2 v u (by omega) h3 hu
      rw [if_neg (fun h => hb ((zI_lt (by omega) (by omega) (by omega) (by omega)).mp h)), ob_s e1, show (v - e + 1).toNat = (v - 1 - e + 1).toNat + 1 by omega]
      unfold prv
      cases hf : f v
      · rw [if_pos (by rfl), if_neg (by decide)]
        simp only [lt_]
        rw [show zI v + (-1) = zI (v - 1) by rw [show (-1 : Int32) = zI (-1) from rfl, zI_add]; rfl]
        exact ih e (v - 1) u1 (by omega) (by omega) (by omega) h4 h5 c1
      · rw [if_neg (by decide), if_pos rfl]
        exact ⟨u1, rfl, c1⟩
def mx (a b : Int) : Int := if a < b then b else a
def mn (a b : Int) : Int := if b < a then b else a
def nextA (f : Int → Bool) (a : Int) : Int32 := if near a = true then zI (nxt f a (mx a 95 + 12 - a + 1).toNat) else 1000000
def lastA (f : Int → Bool) (a : Int) : Int32 := if near a = true then zI (prv f a (a - (mn a (-96) - 12) + 1).toNat) else -1000000
theorem q_nextK {u : KS} {f : Int → Bool} (hr : rowOf u f) (ht : tameB f) (a : Int32) : f_L_next a u = some (nextA f a.toInt, u) := by
  obtain ⟨r1, r2⟩ := i32_r a
  unfold f_L_next nextA
  have ea : f_L_isNear a u = some (bI (near a.toInt), u) := by
    conv => lhs; rw [zI_of a]
    exact sL_near r1 r2 u
  rw [ob_s ea]
  cases ha : near a.toInt
  · rw [if_pos (by rfl), if_neg (by decide)]
  · rw [if_neg (by decide), if_pos rfl]
    have na := near_t.mp ha
    have em : f_J_max a 95 u = some (zI (mx a.toInt 95), u) := by
      unfold f_J_max mx
      have e1 : a < 95 ↔ a.toInt < 95 := by
        conv => lhs; rw [zI_of a, show (95 : Int32) = zI 95 from rfl]
        exact zI_lt (by omega) (by omega) (by omega) (by omega)
      by_cases h : a.toInt < 95
      · rw [if_pos (e1.mpr h), if_pos h]; rfl
      · rw [if_neg (fun g => h (e1.mp g)), if_neg h, ← zI_of a]
    have hm : mx a.toInt 95 = a.toInt ∨ mx a.toInt 95 = 95 := by unfold mx; split <;> simp
    have hm2 : a.toInt ≤ mx a.toInt 95 ∧ 95 ≤ mx a.toInt 95 := by unfold mx; split <;> omega
    rw [ob_s em]
    simp only [lt_]
    rw [show zI (mx a.toInt 95) + 12 = zI (mx a.toInt 95 + 12) from zI_add _ 12]
    have := sL_next hr ht 4095 (mx a.toInt 95 + 12) a.toInt (by omega) (by omega) (by omega) (by omega) (by omega)
    rw [← zI_of a] at this
    exact this
theorem q_lastK {u : KS} {f : Int → Bool} (hr : rowOf u f) (ht : tameB f) (a : Int32) : f_L_last a u = some (lastA f a.toInt, u) := by
  obtain ⟨r1, r2⟩ := i32_r a
  unfold f_L_last lastA
  have ea : f_L_isNear a u = some (bI (near a.toInt), u) := by
    conv => lhs; rw [zI_of a]
    exact sL_near r1 r2 u
  rw [ob_s ea]
  cases ha : near a.toInt
  · rw [if_pos (by rfl), if_neg (by decide)]
  · rw [if_neg (by decide), if_pos rfl]
    have na := near_t.mp ha
    have em : f_J_min a (-96) u = some (zI (mn a.toInt (-96)), u) := by
      unfold f_J_min mn
      have e1 : (-96) < a ↔ -96 < a.toInt := by
        conv => lhs; rw [zI_of a, show (-96 : Int32) = zI (-96) from rfl]
        exact zI_lt (by omega) (by omega) (by omega) (by omega)
      by_cases h : -96 < a.toInt
      · rw [if_pos (e1.mpr h), if_pos h]; rfl
      · rw [if_neg (fun g => h (e1.mp g)), if_neg h, ← zI_of a]
    have hm : mn a.toInt (-96) = a.toInt ∨ mn a.toInt (-96) = -96 := by unfold mn; split <;> simp
    have hm2 : mn a.toInt (-96) ≤ a.toInt ∧ mn a.toInt (-96) ≤ -96 := by unfold mn; split <;> omega
    rw [ob_s em]
    simp only [lt_]
    rw [show zI (mn a.toInt (-96)) - 12 = zI (mn a.toInt (-96) - 12) from zI_sub _ 12]
    have := sL_last hr ht 4095 (mn a.toInt (-96) - 12) a.toInt (by omega) (by omega) (by omega) (by omega) (by omega)
    rw [← zI_of a] at this
    exact this
theorem q_nextM {um : MS} {f : Int → Bool} {x : Bool} (hc : CM um f x) (ht : tameB f) (a : Int32) : ∃ u', f_M_next a um = some (nextA f a.toInt, u') ∧ co um u' := by
  obtain ⟨r1, r2⟩ := i32_r a
  unfold f_M_next
  have e1 : a ≤ 150 ↔ a.toInt ≤ 150 := by
    conv => lhs; rw [zI_of a, show (150 : Int32) = zI 150 from rfl]
    exact zI_le (by omega) (by omega) (by omega) (by omega)
  cases ha : near a.toInt
  · have hna : f_M_isNear a um = some (0, um) := by
      have := sM_near r1 r2 um
      rw [← zI_of a, ha] at this
      exact this
    have key : ∀ e, f_M_next_L20 4096 a e a um = some (1000000, um) := fun e => by
      rw [show (4096 : Nat) = 4095 + 1 from rfl, q_M_next_L20, ob_s hna, if_pos (by rfl)]
    have hE : nextA f a.toInt = 1000000 := if_neg (by rw [ha]; decide)
    rw [hE]
    simp only [lt_, key]
    exact ⟨um, by split <;> rfl, co_rf um⟩
  · rw [show nextA f a.toInt = _ from if_pos ha]
    have na := near_t.mp ha
    have hm2 : a.toInt ≤ mx a.toInt 95 ∧ 95 ≤ mx a.toInt 95 ∧ (mx a.toInt 95 = a.toInt ∨ mx a.toInt 95 = 95) := by unfold mx; split <;> omega
    simp only [lt_]
    by_cases h : a.toInt ≤ 150
    · rw [if_pos (e1.mpr h)]
      obtain ⟨u1, e2, c1⟩ := sM_next hc ha 4095 162 a.toInt um (by omega) (by omega) (by omega) (by omega) (by omega) (co_rf um)
      refine ⟨u1, ?_, c1⟩
      rw [← zI_of a] at e2
      rw [nxt_same ht (n := (mx a.toInt 95 + 12 - a.toInt + 1).toNat) (m := (162 - a.toInt + 1).toNat) (by omega) (by omega)]
      exact e2
    · rw [if_neg (fun g => h (e1.mp g))]
      obtain ⟨u1, e2, c1⟩ := sM_next hc ha 4095 (a.toInt + 12) a.toInt um (by omega) (by omega) (by omega) (by omega) (by omega) (co_rf um)
      refine ⟨u1, ?_, c1⟩
      rw [← zI_add, ← zI_of a] at e2
      rw [show (mx a.toInt 95 + 12 - a.toInt + 1).toNat = (a.toInt + 12 - a.toInt + 1).toNat by omega]
      exact e2
theorem q_lastM {um : MS} {f : Int → Bool} {x : Bool} (hc : CM um f x) (ht : tameB f) (a : Int32) : ∃ u', f_M_last a um = some (lastA f a.toInt, u') ∧ co um u' := by
  obtain ⟨r1, r2⟩ := i32_r a
  unfold f_M_last
  have e1 : (-150) ≤ a ↔ -150 ≤ a.toInt := by
    conv => lhs; rw [zI_of a, show (-150 : Int32) = zI (-150) from rfl]
    exact zI_le (by omega) (by omega) (by omega) (by omega)
  cases ha : near a.toInt
  · have hna : f_M_isNear a um = some (0, um) := by
      have := sM_near r1 r2 um
      rw [← zI_of a, ha] at this
      exact this
    have key : ∀ e, f_M_last_L20 4096 a e a um = some (-1000000, um) := fun e => by
      rw [show (4096 : Nat) = 4095 + 1 from rfl, q_M_last_L20, ob_s hna, if_pos (by rfl)]
    have hE : lastA f a.toInt = -1000000 := if_neg (by rw [ha]; decide)
    rw [hE]
    simp only [lt_, key]
    exact ⟨um, by split <;> rfl, co_rf um⟩
  · rw [show lastA f a.toInt = _ from if_pos ha]
    have na := near_t.mp ha
    have hm2 : mn a.toInt (-96) ≤ a.toInt ∧ mn a.toInt (-96) ≤ -96 ∧ (mn a.toInt (-96) = a.toInt ∨ mn a.toInt (-96) = -96) := by unfold mn; split <;> omega
    simp only [lt_]
    by_cases h : -150 ≤ a.toInt
    · rw [if_pos (e1.mpr h)]
      obtain ⟨u1, e2, c1⟩ := sM_last hc ha 4095 (-162) a.toInt um (by omega) (by omega) (by omega) (by omega) (by omega) (co_rf um)
      refine ⟨u1, ?_, c1⟩
      rw [← zI_of a] at e2
      rw [prv_same ht (n := (a.toInt - (mn a.toInt (-96) - 12) + 1).toNat) (m := (a.toInt - -162 + 1).toNat) (by omega) (by omega)]
      exact e2
    · rw [if_neg (fun g => h (e1.mp g))]
      obtain ⟨u1, e2, c1⟩ := sM_last hc ha 4095 (a.toInt - 12) a.toInt um (by omega) (by omega) (by omega) (by omega) (by omega) (co_rf um)
      refine ⟨u1, ?_, c1⟩
      rw [← zI_sub, ← zI_of a] at e2
      rw [show (a.toInt - (mn a.toInt (-96) - 12) + 1).toNat = (a.toInt - (a.toInt - 12) + 1).toNat by omega]
      exact e2
