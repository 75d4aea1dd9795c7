theorem sC_has {u : KS} {s m : Nat} (hs : s < m) (hm : m ≤ 20) (hc : k_cn u = nI m) : f_C_has (nI s) u = some (1, u) := by
  unfold f_C_has
  rw [if_neg (nI_pos (by omega)), hc, if_neg (nI_ge hs (by omega)), bz1]
  rfl
theorem sC_hasNo {u : KS} {s m : Nat} (hs : m ≤ s) (hsm : s < 1000) (hc : k_cn u = nI m) : f_C_has (nI s) u = some (0, u) := by
  unfold f_C_has
  rw [if_neg (nI_pos (by omega)), hc, if_pos (nI_le hs (by omega)), bz0]
  rfl
theorem sC_addN {u : KS} {s m : Nat} (hs : s < m) (hm : m ≤ 20) (hc : k_cn u = nI m) (z : Int32) : f_C_addNumber (nI s) z u = some ((), k_p_nu (upd (k_nu u) s (k_nu u s + z)) u) := by
  unfold f_C_addNumber
  rw [ob_s (sC_has hs hm hc), if_neg (by decide), gd_s (inb_nI (by omega) (by omega)), gd_s (inb_nI (by omega) (by omega)), lt_q, nI_clamp (by omega)]
theorem sC_putK {u : KS} {s m : Nat} (hs : s < m) (hm : m ≤ 20) (hc : k_cn u = nI m) (z : Int32) : f_C_putKind (nI s) z u = some ((), k_p_kd (upd (k_kd u) s z) u) := by
  unfold f_C_putKind
  rw [ob_s (sC_has hs hm hc), if_neg (by decide), gd_s (inb_nI (by omega) (by omega)), lt_q, nI_clamp (by omega)]
theorem sC_putD {u : KS} {s m : Nat} (hs : s < m) (hm : m ≤ 20) (hc : k_cn u = nI m) (z : Int32) : f_C_putDivisor (nI s) z u = some ((), k_p_dv (upd (k_dv u) s z) u) := by
  unfold f_C_putDivisor
  rw [ob_s (sC_has hs hm hc), if_neg (by decide), gd_s (inb_nI (by omega) (by omega)), lt_q, nI_clamp (by omega)]
theorem sC_putV {u : KS} {s m : Nat} (hs : s < m) (hm : m ≤ 20) (hc : k_cn u = nI m) (z : Int32) : f_C_putVariable (nI s) z u = some ((), k_p_vr (upd (k_vr u) s z) u) := by
  unfold f_C_putVariable
  rw [ob_s (sC_has hs hm hc), if_neg (by decide), gd_s (inb_nI (by omega) (by omega)), lt_q, nI_clamp (by omega)]
theorem sC_putS {u : KS} {s m : Nat} (hs : s < m) (hm : m ≤ 20) (hc : k_cn u = nI m) : f_C_putSecond (nI s) u = some ((), k_p_sc (upd (k_sc u) s (k_cn u)) u) := by
  unfold f_C_putSecond
  rw [ob_s (sC_has hs hm hc), if_neg (by decide), gd_s (inb_nI (by omega) (by omega)), lt_q, nI_clamp (by omega)]
theorem n3 (s v : Nat) : nI s * 3 + nI v = nI (s * 3 + v) := by
  rw [show (3 : Int32) = nI 3 from rfl, pk_mul, nI_add]
theorem sC_addF {u : KS} {s m v : Nat} (hs : s < m) (hm : m ≤ 20) (hc : k_cn u = nI m) (hv : v < 3) (z : Int32) : f_C_addFactor (nI s) (nI v) z u = some ((), k_p_op (upd (k_op u) s (k_op u s ||| (1 <<< (nI v &&& 31)))) (k_p_fa (upd (k_fa u) (s * 3 + v) (k_fa u (s * 3 + v) + z)) u)) := by
  unfold f_C_addFactor
  rw [ob_s (sC_has hs hm hc), if_neg (by decide), if_neg (nI_pos (by omega)), if_neg (by rw [show (3 : Int32) = nI 3 from rfl]; exact nI_ge hv (by omega)), n3, gd_s (inb_nI (by omega) (by omega)), gd_s (inb_nI (by omega) (by omega)), lt_q, gd_s (inb_nI (by omega) (by omega)), gd_s (inb_nI (by omega) (by omega)), lt_q, nI_clamp (by omega), nI_clamp (by omega)]
  rfl
theorem sC_full {u : KS} {m : Nat} (hm : m ≤ 20) (hc : k_cn u = nI m) : f_C_isFull u = some (bI (decide (20 ≤ m)), u) := by
  unfold f_C_isFull
  rw [hc, bz0, bz1, gd_t, gd_t, show (20 : Int32) = nI 20 from rfl]
  by_cases h : m < 20
  · rw [if_pos (nI_lt h (by omega)), decide_eq_false (by omega)]; rfl
  · rw [if_neg (nI_nlt (by omega) (by omega)), decide_eq_true (by omega)]; rfl
theorem sR_dig {c : Nat} (hc : c < 256) (u : KS) : f_R_digitOf (nI c) u = some (if isD c = true then nI (c - 48) else -1, u) := by
  unfold f_R_digitOf isD
  rw [show (48 : Int32) = nI 48 from rfl, show (57 : Int32) = nI 57 from rfl]
  by_cases h : c < 48
  · rw [if_pos (nI_lt h (by omega)), decide_eq_false (by omega), Bool.false_and]; rfl
  · rw [if_neg (nI_nlt (by omega) (by omega)), decide_eq_true (show 48 ≤ c by omega), Bool.true_and]
    by_cases h2 : 57 < c
    · rw [if_pos (nI_lt h2 (by omega)), decide_eq_false (by omega)]; rfl
    · rw [if_neg (nI_nlt (by omega) (by omega)), decide_eq_true (show c ≤ 57 by omega), if_pos rfl, pk_sub (by omega)]
theorem sR_var {c : Nat} (hc : c < 256) (u : KS) : f_R_variableOf (nI c) u = some (if isV c = true then nI (c - 120) else -1, u) := by
  unfold f_R_variableOf isV
  rw [show (120 : Int32) = nI 120 from rfl, show (122 : Int32) = nI 122 from rfl]
  by_cases h : c < 120
  · rw [if_pos (nI_lt h (by omega)), decide_eq_false (by omega), Bool.false_and]; rfl
  · rw [if_neg (nI_nlt (by omega) (by omega)), decide_eq_true (show 120 ≤ c by omega), Bool.true_and]
    by_cases h2 : 122 < c
    · rw [if_pos (nI_lt h2 (by omega)), decide_eq_false (by omega)]; rfl
    · rw [if_neg (nI_nlt (by omega) (by omega)), decide_eq_true (show c ≤ 122 by omega), if_pos rfl, pk_sub (by omega)]
