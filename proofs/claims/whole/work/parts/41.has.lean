theorem ts_bit {w : Int64} {s : UInt64} {j : Nat} (hj : j < 64) (hs : s.toNat = j) : ((w.toUInt64 >>> s).toInt64 &&& 1) = 0 ↔ w.toBitVec.getLsbD j = false := by
  have e : (w.toUInt64 >>> s).toInt64.toBitVec = w.toBitVec >>> j := by
    apply BitVec.eq_of_toNat_eq
    show (w.toUInt64 >>> s).toNat = _
    rw [UInt64.toNat_shiftRight, hs, Nat.mod_eq_of_lt hj, BitVec.toNat_ushiftRight]
    rfl
  rw [← Int64.toBitVec_inj, Int64.toBitVec_and, e]
  show w.toBitVec >>> j &&& 1#64 = 0#64 ↔ _
  constructor
  · intro h
    have t := congrArg (fun x => x.getLsbD 0) h
    simpa using t
  · intro h
    apply BitVec.eq_of_getLsbD_eq
    intro i hi
    rw [BitVec.getLsbD_and, BitVec.getLsbD_ushiftRight]
    by_cases h0 : i = 0
    · subst h0; simp [h]
    · simp [BitVec.getLsbD_one, h0]
theorem wb_cu : ∀ k, k < 64 → ((nI k).toInt64.toUInt64 &&& Int64.toUInt64 63) = UInt64.ofNat k := by decide +kernel
theorem tm_q {a : Int} {d : Int} (hd : 0 < d) : d * a.tdiv d + a.tmod d = a ∧ (0 ≤ a → 0 ≤ a.tmod d ∧ a.tmod d < d) ∧ (a ≤ 0 → -d < a.tmod d ∧ a.tmod d ≤ 0) := by
  refine ⟨Int.mul_tdiv_add_tmod a d, fun h => ?_, fun h => ?_⟩
  · exact ⟨Int.tmod_nonneg d h, (tmod_bounds hd).2⟩
  · refine ⟨(tmod_bounds hd).1, ?_⟩
    have h1 := Int.tmod_nonneg d (show 0 ≤ -a by omega)
    rw [Int.neg_tmod] at h1
    omega
theorem zI_rem {a d : Int} (a1 : -2147483648 < a) (a2 : a < 2147483648) (b1 : -2147483648 ≤ d) (b2 : d < 2147483648) : zI a - zI a / zI d * zI d = zI (a.tmod d) := by
  rw [zI_div a1 a2 b1 b2, zI_mul, zI_sub]
  congr 1
  have := Int.mul_tdiv_add_tmod a d
  rw [Int.mul_comm] at this
  omega
theorem sJ_mod {a : Int} (h1 : -1000000 ≤ a) (h2 : a ≤ 1000000) (u : KS) : f_J_floorMod (zI a) 12 u = some (zI (a % 12), u) := by
  unfold f_J_floorMod
  rw [gd_s (by decide : nz 12 = true)]
  simp only [lt_]
  have e : zI a - zI a / 12 * 12 = zI (a.tmod 12) := zI_rem (d := 12) (by omega) (by omega) (by omega) (by omega)
  rw [e]
  obtain ⟨t1, t2, t3⟩ := tm_q (a := a) (d := 12) (by omega)
  generalize a.tdiv 12 = q at t1
  generalize a.tmod 12 = t at t1 t2 t3
  have ez : (0 : Int32) = zI 0 := rfl
  have hs : 0 ≤ (zI a ^^^ 12) ↔ 0 ≤ a := by
    rw [xor_sg, ez, zI_le (by omega) (by omega) (by omega) (by omega)]
    exact ⟨fun h => h.mpr (by decide), fun h => ⟨fun _ => by decide, fun _ => h⟩⟩
  by_cases ha : 0 ≤ a
  · rw [if_pos (hs.mpr ha)]
    have := t2 ha
    rw [show t = a % 12 by omega]
  · rw [if_neg (fun h => ha (hs.mp h))]
    have := t3 (by omega)
    by_cases h0 : t = 0
    · rw [if_pos (by rw [h0]; rfl)]
      rw [show t = a % 12 by omega]
    · rw [if_neg (by rw [ez, zI_eq (by omega) (by omega) (by omega) (by omega)]; exact h0)]
      rw [show zI t + 12 = zI (t + 12) from zI_add t 12, show t + 12 = a % 12 by omega]
def al (v : Int) : Int := if v ≤ 95 then (if -96 ≤ v then v else -96 + (v + 96) % 12) else 95 - (95 - v) % 12
theorem al_in (v : Int) : -96 ≤ al v ∧ al v ≤ 95 := by
  unfold al
  split
  · split <;> omega
  · omega
theorem sW_alike {v : Int} (h1 : -100000 ≤ v) (h2 : v ≤ 100000) (u : KS) : f_W_alike (zI v) u = some (zI (al v), u) := by
  unfold f_W_alike al
  have e95 : (95 : Int32) = zI 95 := rfl
  have e96 : (-96 : Int32) = zI (-96) := rfl
  rw [e95, e96]
  by_cases ha : v ≤ 95
  · rw [if_pos ((zI_le (by omega) (by omega) (by omega) (by omega)).mpr ha), if_pos ha]
    by_cases hb : -96 ≤ v
    · rw [if_pos ((zI_le (by omega) (by omega) (by omega) (by omega)).mpr hb), if_pos hb]
    · rw [if_neg (fun h => hb ((zI_le (by omega) (by omega) (by omega) (by omega)).mp h)), if_neg hb]
      rw [zI_sub, ob_s (sJ_mod (by omega) (by omega) u)]
      rw [zI_add, show v - -96 = v + 96 by omega]
  · rw [if_neg (fun h => ha ((zI_le (by omega) (by omega) (by omega) (by omega)).mp h)), if_neg ha]
    rw [zI_sub, ob_s (sJ_mod (by omega) (by omega) u)]
    rw [zI_sub]
/-- the row of the numbers that satisfy the claim, as the class holds it -/
def rowOf (u : KS) (f : Int → Bool) : Prop := ∀ i : Nat, i < 192 → bit (k_wd u (i / 64)) (i % 64) = f (-96 + (i : Int))
theorem sW_has {v : Int} (h1 : -100000 ≤ v) (h2 : v ≤ 100000) {u : KS} {f : Int → Bool} (hr : rowOf u f) : f_W_has (zI v) u = some (bI (f (al v)), u) := by
  unfold f_W_has
  rw [ob_s (sW_alike h1 h2 u)]
  simp only [lt_]
  obtain ⟨n1, n2⟩ := al_in v
  have ei : zI (al v) - (-96) = nI (al v + 96).toNat := by
    rw [show (-96 : Int32) = zI (-96) from rfl, zI_sub, show al v - -96 = al v + 96 by omega, zI_nat (by omega)]
  obtain ⟨n, hn⟩ : ∃ n : Nat, n = (al v + 96).toNat := ⟨_, rfl⟩
  have hn2 : n < 192 := by omega
  have hv : al v = -96 + (n : Int) := by omega
  rw [ei, ← hn, show (64 : Int32) = nI 64 from rfl]
  rw [pk_div (by omega) (by omega) (by omega), pk_mul, pk_sub (by omega)]
  rw [gd_s (b := inb (nI (n / 64)) 3) (by
    unfold inb
    rw [nI_toInt (by omega)]
    simp only [Bool.and_eq_true, decide_eq_true_eq]
    omega)]
  rw [nI_clamp (by omega), show n - n / 64 * 64 = n % 64 by omega, wb_cu _ (by omega)]
  have hb := hr n hn2
  have key : lg_cmp (((k_wd u (n / 64)).toUInt64 >>> UInt64.ofNat (n % 64)).toInt64 &&& 1) 0 = 0 ↔ f (al v) = false := by
    rw [lg_cmp0, ts_bit (j := n % 64) (by omega) (by
      rw [UInt64.toNat_ofNat']
      omega), hv]
    unfold bit at hb
    rw [hb]
  by_cases hf : f (al v) = false
  · rw [if_pos (key.mpr hf), hf]; rfl
  · rw [if_neg (fun h => hf (key.mp h))]
    rw [show f (al v) = true by simpa using hf]; rfl
