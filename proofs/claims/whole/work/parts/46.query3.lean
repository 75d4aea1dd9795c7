theorem q_someM {um : MS} {f : Int → Bool} {x : Bool} (hc : CM um f x) (ht : tameB f) (hx : x = false → ∀ v, f v = f 0) : ∃ (r : Bool) (u' : MS), f_M_some um = some (bI r, u') ∧ co um u' ∧ (r = true ↔ ∃ v, f v = true) := by
  unfold f_M_some
  rw [hc.1]
  cases x
  · rw [if_pos (by rfl)]
    unfold f_M_some_J20 f_M_many
    obtain ⟨r, u1, e1, c1, h1⟩ := sM_many1 hc 4095 (-150) (-150) um (by omega) (by omega) (by omega) (by omega) (by omega) (co_rf um)
    have e1 : f_M_many_L6 4096 (-150) 1 0 (-150) um = some (bI r, u1) := e1
    rw [ob_s e1]
    refine ⟨r, u1, by cases r <;> rfl, c1, h1.trans ⟨fun ⟨w, _, _, c⟩ => ⟨w, c⟩, fun ⟨w, c⟩ => ⟨-150, by omega, by omega, by rw [hx rfl, ← hx rfl w]; exact c⟩⟩⟩
  · rw [if_neg (by decide)]
    unfold f_M_some_J20 f_M_many
    obtain ⟨r, u1, e1, c1, h1⟩ := sM_many1 hc 4095 150 (-150) um (by omega) (by omega) (by omega) (by omega) (by omega) (co_rf um)
    have e1 : f_M_many_L6 4096 150 1 0 (-150) um = some (bI r, u1) := e1
    rw [ob_s e1]
    exact ⟨r, u1, by cases r <;> rfl, c1, h1.trans (tame_ex ht (lo := -150) (hi := 150) (by omega) (by omega)).symm⟩
theorem q_allM {um : MS} {f : Int → Bool} {x : Bool} (hc : CM um f x) (ht : tameB f) (hx : x = false → ∀ v, f v = f 0) : ∃ (r : Bool) (u' : MS), f_M_all um = some (bI r, u') ∧ co um u' ∧ (r = true ↔ ∀ v, f v = true) := by
  unfold f_M_all
  rw [hc.1]
  have key : ∀ (b : Int), -150 ≤ b → b ≤ 150 → ∃ (r : Bool) (u' : MS), f_M_all_J16 (zI b) um = some (bI r, u') ∧ co um u' ∧ (r = true ↔ ∀ v, -150 ≤ v → v ≤ b → f v = true) := by
    intro b b1 b2
    unfold f_M_all_J16 f_M_many
    obtain ⟨u1, e1, c1⟩ := sM_many0 hc 4095 b (-150) 0 um (by omega) (by omega) (by omega) (by omega) (by omega) (co_rf um)
    have e1 : f_M_many_L6 4096 (zI b) 0 0 (-150) um = some (zI (0 + (cnt f (-150) (b - -150 + 1).toNat : Int)), u1) := e1
    rw [ob_s e1, show zI b + 150 + 1 = zI (b + 150 + 1) by rw [show zI b + 150 = zI (b + 150) from zI_add b 150]; exact zI_add (b + 150) 1]
    have hle := cnt_le f (b - -150 + 1).toNat (-150)
    have hall := cnt_all f (b - -150 + 1).toNat (-150)
    by_cases h : cnt f (-150) (b - -150 + 1).toNat = (b - -150 + 1).toNat
    · rw [if_pos (by congr 1; omega)]
      refine ⟨true, u1, by rfl, c1, by simp; intro v a c; exact hall.mp h v a (by omega)⟩
    · rw [if_neg (by rw [zI_eq (by omega) (by omega) (by omega) (by omega)]; omega)]
      refine ⟨false, u1, by rfl, c1, ⟨fun h => (by cases h), fun g => absurd (hall.mpr (fun w a c => g w a (by omega))) h⟩⟩
  cases x
  · rw [if_pos (by rfl)]
    obtain ⟨r, u1, e1, c1, h1⟩ := key (-150) (by omega) (by omega)
    exact ⟨r, u1, e1, c1, h1.trans ⟨fun g v => by rw [hx rfl, ← hx rfl (-150)]; exact g _ (by omega) (by omega), fun g v _ _ => g v⟩⟩
  · rw [if_neg (by decide)]
    obtain ⟨r, u1, e1, c1, h1⟩ := key 150 (by omega) (by omega)
    exact ⟨r, u1, e1, c1, h1.trans (tame_al ht (lo := -150) (hi := 150) (by omega) (by omega)).symm⟩
theorem sL_count {u : KS} {f : Int → Bool} (hr : rowOf u f) (ht : tameB f) : ∀ (n : Nat) (b v c : Int), b - v < n → -1200 ≤ v → v ≤ 1201 → -1200 ≤ b → b ≤ 1200 →
    f_L_count_L36 (n + 1) (zI b) (zI c) (zI v) u = some (zI (c + (cnt f v (b - v + 1).toNat : Int)), u) := by
  intro n
  induction n with
  | zero =>
    intro b v c h1 h2 h3 h4 h5
    rw [q_L_count_L36, if_pos ((zI_lt (by omega) (by omega) (by omega) (by omega)).mpr (by omega)), show (b - v + 1).toNat = 0 by omega]
    unfold cnt; simp
  | succ n ih =>
    intro b v c h1 h2 h3 h4 h5
    rw [q_L_count_L36]
    by_cases hb : b < v
    · rw [if_pos ((zI_lt (by omega) (by omega) (by omega) (by omega)).mpr hb), show (b - v + 1).toNat = 0 by omega]
      unfold cnt; simp
    · rw [if_neg (fun h => hb ((zI_lt (by omega) (by omega) (by omega) (by omega)).mp h))]
      rw [ob_s (sK_has (by omega) (by omega) hr ht), show (b - v + 1).toNat = (b - (v + 1) + 1).toNat + 1 by omega, show cnt f v ((b - (v + 1) + 1).toNat + 1) = (if f v = true then 1 else 0) + cnt f (v + 1) (b - (v + 1) + 1).toNat from rfl]
      cases hf : f v
      · rw [if_pos (by rfl)]
        simp only [lt_]
        rw [show zI v + 1 = zI (v + 1) from zI_add v 1, ih b (v + 1) c (by omega) (by omega) (by omega) h4 h5]
        simp
      · rw [if_neg (by decide)]
        simp only [lt_]
        rw [show zI v + 1 = zI (v + 1) from zI_add v 1, show zI c + 1 = zI (c + 1) from zI_add c 1, ih b (v + 1) (c + 1) (by omega) (by omega) (by omega) h4 h5]
        congr 3
        simp
        omega
def cntA (f : Int → Bool) (a b : Int) : Int32 := if near a = true ∧ near b = true ∧ a - 1 ≤ b ∧ b ≤ a + 99 then zI ((cnt f a (b - a + 1).toNat : Nat) : Int) else -1
theorem q_countK {u : KS} {f : Int → Bool} (hr : rowOf u f) (ht : tameB f) (a b : Int32) : f_L_count a b u = some (cntA f a.toInt b.toInt, u) := by
  obtain ⟨r1, r2⟩ := i32_r a
  obtain ⟨s1, s2⟩ := i32_r b
  unfold f_L_count cntA
  have ea : f_L_isNear a u = some (bI (near a.toInt), u) := by
    conv => lhs; rw [zI_of a]
    exact sL_near r1 r2 u
  have eb : f_L_isNear b u = some (bI (near b.toInt), u) := by
    conv => lhs; rw [zI_of b]
    exact sL_near s1 s2 u
  rw [ob_s ea]
  cases ha : near a.toInt
  · rw [if_pos (by rfl), if_neg (by simp)]
  · rw [if_neg (by decide), ob_s eb]
    cases hb : near b.toInt
    · rw [if_pos (by rfl), if_neg (by simp)]
    · rw [if_neg (by decide)]
      have na := near_t.mp ha
      have nb := near_t.mp hb
      have e1 : b < a - 1 ↔ b.toInt < a.toInt - 1 := by
        conv => lhs; rw [zI_of a, zI_of b, show (1 : Int32) = zI 1 from rfl, zI_sub]
        exact zI_lt (by omega) (by omega) (by omega) (by omega)
      have e2 : b < a + 100 ↔ b.toInt < a.toInt + 100 := by
        conv => lhs; rw [zI_of a, zI_of b, show (100 : Int32) = zI 100 from rfl, zI_add]
        exact zI_lt (by omega) (by omega) (by omega) (by omega)
      by_cases h1 : b.toInt < a.toInt - 1
      · rw [if_pos (e1.mpr h1), if_neg (fun z => by have := z.2.2; omega)]
      · rw [if_neg (fun h => h1 (e1.mp h))]
        by_cases h2 : b.toInt < a.toInt + 100
        · rw [if_pos (e2.mpr h2), if_pos ⟨rfl, rfl, by omega, by omega⟩]
          have := sL_count hr ht 4095 b.toInt a.toInt 0 (by omega) (by omega) (by omega) (by omega) (by omega)
          rw [← zI_of a, ← zI_of b, Int.zero_add] at this
          exact this
        · rw [if_neg (fun h => h2 (e2.mp h)), if_neg (fun z => by have := z.2.2; omega)]
theorem q_countM {um : MS} {f : Int → Bool} {x : Bool} (hc : CM um f x) (a b : Int32) : ∃ u', f_M_count a b um = some (cntA f a.toInt b.toInt, u') ∧ co um u' := by
  obtain ⟨r1, r2⟩ := i32_r a
  obtain ⟨s1, s2⟩ := i32_r b
  unfold f_M_count cntA
  have ea : f_M_isNear a um = some (bI (near a.toInt), um) := by
    conv => lhs; rw [zI_of a]
    exact sM_near r1 r2 um
  have eb : f_M_isNear b um = some (bI (near b.toInt), um) := by
    conv => lhs; rw [zI_of b]
    exact sM_near s1 s2 um
  rw [ob_s ea]
  cases ha : near a.toInt
  · rw [if_pos (by rfl), if_neg (by simp)]; exact ⟨um, rfl, co_rf um⟩
  · rw [if_neg (by decide), ob_s eb]
    cases hb : near b.toInt
    · rw [if_pos (by rfl), if_neg (by simp)]; exact ⟨um, rfl, co_rf um⟩
    · rw [if_neg (by decide)]
      have na := near_t.mp ha
      have nb := near_t.mp hb
      have e1 : f_M_in b (a - 1) (a + 99) um = some (bI (decide (a.toInt - 1 ≤ b.toInt) && decide (b.toInt ≤ a.toInt + 99)), um) := by
        conv => lhs; rw [zI_of a, zI_of b, show (1 : Int32) = zI 1 from rfl, show (99 : Int32) = zI 99 from rfl, zI_sub, zI_add]
        exact sM_in (by omega) (by omega) (by omega) (by omega) (by omega) (by omega) um
      rw [ob_s e1]
      by_cases h1 : a.toInt - 1 ≤ b.toInt ∧ b.toInt ≤ a.toInt + 99
      · rw [decide_eq_true h1.1, decide_eq_true h1.2, if_neg (by decide), if_pos ⟨rfl, rfl, h1⟩]
        unfold f_M_many
        obtain ⟨u1, e2, c1⟩ := sM_many0 hc 4095 b.toInt a.toInt 0 um (by omega) (by omega) (by omega) (by omega) (by omega) (co_rf um)
        rw [← zI_of a, ← zI_of b, Int.zero_add] at e2
        have e2 : f_M_many_L6 4096 b 0 0 a um = some (zI ((cnt f a.toInt (b.toInt - a.toInt + 1).toNat : Nat) : Int), u1) := e2
        rw [ob_s e2]
        exact ⟨u1, rfl, c1⟩
      · rw [if_pos (by
          by_cases g : a.toInt - 1 ≤ b.toInt
          · rw [decide_eq_false (fun z => h1 ⟨g, z⟩), Bool.and_false]; rfl
          · rw [decide_eq_false g, Bool.false_and]; rfl), if_neg (fun z => h1 z.2.2)]
        exact ⟨um, rfl, co_rf um⟩
-- the next one and the one before
def nxt (f : Int → Bool) : Int → Nat → Int
  | _, 0 => 1000000
  | v, n + 1 => if f v = true then v else nxt f (v + 1) n
theorem nxt_none (f : Int → Bool) : ∀ (n : Nat) (v : Int), (∀ w, v ≤ w → w < v + n → ¬ f w = true) → nxt f v n = 1000000
  | 0, v, _ => rfl
  | n + 1, v, h => by
    unfold nxt
    rw [if_neg (h v (by omega) (by omega))]
    exact nxt_none f n (v + 1) (fun w a b => h w (by omega) (by omega))
theorem nxt_more (f : Int → Bool) : ∀ (n m : Nat) (v : Int), (∃ w, v ≤ w ∧ w < v + n ∧ f w = true) → n ≤ m → nxt f v n = nxt f v m
  | 0, m, v, ⟨w, a, b, _⟩, _ => by omega
  | n + 1, 0, v, _, h => by omega
  | n + 1, m + 1, v, ⟨w, a, b, c⟩, h => by
    unfold nxt
    by_cases hf : f v = true
    · rw [if_pos hf, if_pos hf]
    · rw [if_neg hf, if_neg hf]
      refine nxt_more f n m (v + 1) ⟨w, ?_, by omega, c⟩ (by omega)
      rcases Int.lt_or_eq_of_le a with g | g
      · omega
      · subst g; exact absurd c hf
theorem nxt_same {f : Int → Bool} (ht : tameB f) {v : Int} {n m : Nat} (hn : v ≤ v + n - 13 ∧ 61 ≤ v + n - 13) (hm : n ≤ m) : nxt f v n = nxt f v m := by
  by_cases h : ∃ w, v ≤ w ∧ w < v + n ∧ f w = true
  · exact nxt_more f n m v h hm
  · rw [nxt_none f n v (fun w a b c => h ⟨w, a, b, c⟩), nxt_none f m v (fun w a b c => ?_)]
    by_cases hw : w < v + n
    · exact h ⟨w, a, hw, c⟩
    · have e : w = (w - 12 * ((w - (v + n) + 12) / 12)) + 12 * (((w - (v + n) + 12) / 12).toNat : Int) := by omega
      have := tame_up ht ((w - (v + n) + 12) / 12).toNat (w - 12 * ((w - (v + n) + 12) / 12)) (by omega)
      rw [← e] at this
      exact h ⟨_, by omega, by omega, this.mpr c⟩
def prv (f : Int → Bool) : Int → Nat → Int
  | _, 0 => -1000000
  | v, n + 1 => if f v = true then v else prv f (v - 1) n
theorem prv_none (f : Int → Bool) : ∀ (n : Nat) (v : Int), (∀ w, w ≤ v → v - n < w → ¬ f w = true) → prv f v n = -1000000
  | 0, v, _ => rfl
  | n + 1, v, h => by
    unfold prv
    rw [if_neg (h v (by omega) (by omega))]
    exact prv_none f n (v - 1) (fun w a b => h w (by omega) (by omega))
theorem prv_more (f : Int → Bool) : ∀ (n m : Nat) (v : Int), (∃ w, w ≤ v ∧ v - n < w ∧ f w = true) → n ≤ m → prv f v n = prv f v m
  | 0, m, v, ⟨w, a, b, _⟩, _ => by omega
  | n + 1, 0, v, _, h => by omega
  | n + 1, m + 1, v, ⟨w, a, b, c⟩, h => by
    unfold prv
    by_cases hf : f v = true
    · rw [if_pos hf, if_pos hf]
    · rw [if_neg hf, if_neg hf]
      refine prv_more f n m (v - 1) ⟨w, ?_, by omega, c⟩ (by omega)
      rcases Int.lt_or_eq_of_le a with g | g
      · omega
      · subst g; exact absurd c hf
theorem prv_same {f : Int → Bool} (ht : tameB f) {v : Int} {n m : Nat} (hn : v - n + 13 ≤ v ∧ v - n + 13 ≤ -61) (hm : n ≤ m) : prv f v n = prv f v m := by
  by_cases h : ∃ w, w ≤ v ∧ v - n < w ∧ f w = true
  · exact prv_more f n m v h hm
  · rw [prv_none f n v (fun w a b c => h ⟨w, a, b, c⟩), prv_none f m v (fun w a b c => ?_)]
    by_cases hw : v - n < w
    · exact h ⟨w, a, hw, c⟩
    · have e : w = (w + 12 * ((v - n - w + 12) / 12)) - 12 * (((v - n - w + 12) / 12).toNat : Int) := by omega
      have := tame_dn ht ((v - n - w + 12) / 12).toNat (w + 12 * ((v - n - w + 12) / 12)) (by omega)
      rw [← e] at this
      exact h ⟨_, by omega, by omega, this.mpr c⟩
