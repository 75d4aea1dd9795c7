section ND
variable {N : List Nd} {i : Nat} {x : Nd}
theorem n_33 (hx : N[i]? = some x) (hk : n_k x = 33) : (∀ e, sem N i e ↔ ¬ sem N (i + 1) e) ∧ (∀ v, fv N i v = fv N (i + 1) v) ∧ qf N i = qf N (i + 1) ∧ dq N i = dq N (i + 1) := by
  rw [sem_eq hx, fv_eq hx, qf_eq hx, dq_eq hx]
  refine ⟨fun e => ?_, fun v => ?_, ?_, ?_⟩
  · show (if n_k x = 33 then _ else _) ↔ _
    rw [if_pos hk]
  · show (if n_k x = 33 then _ else _) = _
    rw [if_pos hk]
  · show (if n_k x = 33 then _ else _) = _
    rw [if_pos hk]
  · show (if n_k x = 33 then _ else _) = _
    rw [if_pos hk]
theorem n_pr (hx : N[i]? = some x) (hk : k_pr (n_k x) = true) : (∀ e, sem N i e ↔ g_jn (n_k x) (sem N (i + 1) e) (sem N (i + 1 + ln N (i + 1)) e)) ∧ (∀ v, fv N i v = (fv N (i + 1) v || fv N (i + 1 + ln N (i + 1)) v)) ∧ qf N i = (qf N (i + 1) && qf N (i + 1 + ln N (i + 1))) ∧ dq N i = max (dq N (i + 1)) (dq N (i + 1 + ln N (i + 1))) := by
  rw [sem_eq hx, fv_eq hx, qf_eq hx, dq_eq hx]
  refine ⟨fun e => ?_, fun v => ?_, ?_, ?_⟩
  · unfold g_sem g_jn
    rcases kp_or hk with k | k | k
    · rw [if_neg (show ¬ n_k x = 33 by omega), if_pos k, if_pos k]
    · rw [if_neg (show ¬ n_k x = 33 by omega), if_neg (show ¬ n_k x = 38 by omega), if_pos k, if_neg (show ¬ n_k x = 38 by omega), if_pos k]
    · rw [if_neg (show ¬ n_k x = 33 by omega), if_neg (show ¬ n_k x = 38 by omega), if_neg (show ¬ n_k x = 47 by omega), if_pos k, if_neg (show ¬ n_k x = 38 by omega), if_neg (show ¬ n_k x = 47 by omega)]
  · show (if n_k x = 33 then _ else if k_pr (n_k x) = true then _ else _) = _
    rw [if_neg (kp_33 hk), if_pos hk]
  · show (if n_k x = 33 then _ else if k_pr (n_k x) = true then _ else _) = _
    rw [if_neg (kp_33 hk), if_pos hk]
  · show (if n_k x = 33 then _ else if k_pr (n_k x) = true then _ else _) = _
    rw [if_neg (kp_33 hk), if_pos hk]
theorem n_qu (hx : N[i]? = some x) (hk : k_qu (n_k x) = true) : (∀ e, sem N i e ↔ if n_k x = 65 then ∀ w, sem N (i + 1) (ev1 (n_a x) w e) else ∃ w, sem N (i + 1) (ev1 (n_a x) w e)) ∧ (∀ v, fv N i v = (fv N (i + 1) v && !(v == n_a x))) ∧ qf N i = false ∧ dq N i = dq N (i + 1) + 1 := by
  have k1 := kq_33 hk
  rw [sem_eq hx, fv_eq hx, qf_eq hx, dq_eq hx]
  refine ⟨fun e => ?_, fun v => ?_, ?_, ?_⟩
  · unfold g_sem
    rcases kq_or hk with k | k
    · rw [if_neg (show ¬ n_k x = 33 by omega), if_neg (show ¬ n_k x = 38 by omega), if_neg (show ¬ n_k x = 47 by omega), if_neg (show ¬ n_k x = 62 by omega), if_pos k, if_neg (show ¬ n_k x = 65 by omega)]
      exact Iff.rfl
    · rw [if_neg (show ¬ n_k x = 33 by omega), if_neg (show ¬ n_k x = 38 by omega), if_neg (show ¬ n_k x = 47 by omega), if_neg (show ¬ n_k x = 62 by omega), if_neg (show ¬ n_k x = 69 by omega), if_pos k, if_pos k]
      exact Iff.rfl
  · show (if n_k x = 33 then _ else if k_pr (n_k x) = true then _ else if k_qu (n_k x) = true then _ else _) = _
    rw [if_neg k1.1, if_neg (show ¬ k_pr (n_k x) = true by rw [k1.2.1]; decide), if_pos hk]
  · show (if n_k x = 33 then _ else if k_pr (n_k x) = true then _ else if k_qu (n_k x) = true then _ else _) = _
    rw [if_neg k1.1, if_neg (show ¬ k_pr (n_k x) = true by rw [k1.2.1]; decide), if_pos hk]
  · show (if n_k x = 33 then _ else if k_pr (n_k x) = true then _ else if k_qu (n_k x) = true then _ else _) = _
    rw [if_neg k1.1, if_neg (show ¬ k_pr (n_k x) = true by rw [k1.2.1]; decide), if_pos hk]
theorem n_br (hx : N[i]? = some x) (hp : k_pr (n_k x) = false) (hu : k_un (n_k x) = false) (hb : brk x) : (∀ e, sem N i e ↔ n_h x e) ∧ (∀ v, fv N i v = n_o x v) ∧ qf N i = true ∧ dq N i = 0 := by
  obtain ⟨h33, hq⟩ := kun_f hu
  have hk := hb.1
  rw [sem_eq hx, fv_eq hx, qf_eq hx, dq_eq hx]
  refine ⟨fun e => ?_, fun v => ?_, ?_, ?_⟩
  · unfold g_sem
    rw [if_neg h33, if_neg (show ¬ n_k x = 38 by omega), if_neg (show ¬ n_k x = 47 by omega), if_neg (show ¬ n_k x = 62 by omega), if_neg (show ¬ n_k x = 69 by omega), if_neg (show ¬ n_k x = 65 by omega)]
  · show (if n_k x = 33 then _ else if k_pr (n_k x) = true then _ else if k_qu (n_k x) = true then _ else _) = _
    rw [if_neg h33, if_neg (show ¬ k_pr (n_k x) = true by rw [hp]; decide), if_neg (show ¬ k_qu (n_k x) = true by rw [hq]; decide)]
  · show (if n_k x = 33 then _ else if k_pr (n_k x) = true then _ else if k_qu (n_k x) = true then _ else _) = _
    rw [if_neg h33, if_neg (show ¬ k_pr (n_k x) = true by rw [hp]; decide), if_neg (show ¬ k_qu (n_k x) = true by rw [hq]; decide)]
  · show (if n_k x = 33 then _ else if k_pr (n_k x) = true then _ else if k_qu (n_k x) = true then _ else _) = _
    rw [if_neg h33, if_neg (show ¬ k_pr (n_k x) = true by rw [hp]; decide), if_neg (show ¬ k_qu (n_k x) = true by rw [hq]; decide)]
end ND
theorem pf_bd {b r B : Int} (h1 : -B ≤ r) (h2 : r ≤ B) (hB : 0 ≤ B) : -B ≤ pf_t b r ∧ pf_t b r ≤ B := by
  unfold pf_t
  by_cases e1 : b = 1
  · rw [if_pos e1]; omega
  · rw [if_neg e1]
    by_cases e2 : b = -1
    · rw [if_pos e2]; omega
    · rw [if_neg e2]
      by_cases e3 : b = 2
      · rw [if_pos e3]; omega
      · rw [if_neg e3]; omega
/-- where a quantifier about one number near 0 looks -/
theorem near_ex {N : List Nd} (hN : ∀ n ∈ N, nok n) {j o q : Nat} (hw : wf N j = true) (hqf : qf N j = true) (h3 : o < 3) (q3 : q < 3) (hoq : o ≠ q) (hf : ∀ v, v < 3 → fv N j v = true → v = o ∨ v = q) (e : Ev) {xv : Int} (x1 : -96 ≤ xv) (x2 : xv ≤ 96) (P : Prop → Prop) (hP : ∀ a b : Prop, (a ↔ b) → (P a ↔ P b)) :
    (∃ w, P (sem N j (ev1 q w (ev1 o xv e)))) ↔ ∃ w, -224 ≤ w ∧ w < 224 ∧ P (sem N j (ev1 q w (ev1 o xv e))) := by
  refine ⟨?_, fun ⟨w, _, _, h⟩ => ⟨w, h⟩⟩
  rintro ⟨w0, h0⟩
  obtain ⟨w', hw', hc⟩ := ln_near (φ := fun w => P (sem N j (ev1 q w (ev1 o xv e)))) ((ats N j).map fun n => (n_k n, dv2 n, n_c n q, n_c n o * xv + n_n n)) (fun r => pf_t r.2.2.1 r.2.2.2)
    (fun r hr => by
      obtain ⟨n, hn, rfl⟩ := List.mem_map.mp hr
      exact dv2_ok (ats_fv hN j hw hqf n hn).2.1)
    (fun r hr => by
      obtain ⟨n, hn, rfl⟩ := List.mem_map.mp hr
      exact (ats_fv hN j hw hqf n hn).2.1.2.2.1 q q3)
    (fun r hr h0 => by
      obtain ⟨n, hn, rfl⟩ := List.mem_map.mp hr
      have hb : sm2 (n_c n q) := (ats_fv hN j hw hqf n hn).2.1.2.2.1 q q3
      have h0 : n_c n q ≠ 0 := h0
      unfold sm2 at hb
      have := pf_ok (b := n_c n q) (r := n_c n o * xv + n_n n) (by omega)
      exact ⟨this.1, this.2.1⟩)
    (fun w w' h => hP _ _ (sem_ats j hw hqf _ _ (fun n hn => by
      obtain ⟨a1, a2, a3⟩ := ats_fv hN j hw hqf n hn
      have g := h _ (List.mem_map.mpr ⟨n, hn, rfl⟩)
      rw [n_h_dv a2, n_h_dv a2, n_v2 a1.1 h3 q3 hoq (fun v hv ho => hf v hv (a3 v ho)), n_v2 a1.1 h3 q3 hoq (fun v hv ho => hf v hv (a3 v ho)), show n_c n o * xv + n_c n q * w + n_n n = n_c n q * w + (n_c n o * xv + n_n n) by omega, show n_c n o * xv + n_c n q * w' + n_n n = n_c n q * w' + (n_c n o * xv + n_n n) by omega]
      exact g))) w0.natAbs w0 (Nat.le_refl _) h0
  refine ⟨w', ?_, ?_, hw'⟩
  all_goals
    rcases hc with hc | ⟨r, hr, -, c1, c2⟩
    · omega
    · obtain ⟨n, hn, rfl⟩ := List.mem_map.mp hr
      have a2 := (ats_fv hN j hw hqf n hn).2.1
      have b1 := sm2_bd (z := xv) (B := 96) (a2.2.2.1 o h3) (fun _ => ⟨x1, x2⟩) (by omega)
      have b2 := a2.2.2.2
      have b3 := pf_bd (b := n_c n q) (r := n_c n o * xv + n_n n) (B := 207) (by omega) (by omega) (by omega)
      dsimp only at c1 c2
      omega
/-- words of a claim without quantifiers -/
theorem sC_wordQ {N : List Nd} (hN : ∀ n ∈ N, nok n) {u : KS} (hC : CS u N) {o : Nat} (ho : o < 3) {st : Int} (h1 : -1000 ≤ st) (h2 : st ≤ 1000) {e : Ev} : ∀ i, wf N i = true → qf N i = true → (∀ v, v < 3 → v ≠ o → fv N i v = true → k_va u v = zI (e v) ∧ -1000 ≤ e v ∧ e v ≤ 1000) → ∀ n, N.length - i < n → WD (fun w => w = u) (f_C_word n (nI i) (nI o) (zI st)) (fun b => sem N i (ev1 o (st + b) e)) := by
  have hS : ∀ w, w = u → CS w N := fun w hw => by rw [hw]; exact hC
  refine cl_ind ?_
  intro i x hx hpr hun hqf hv n hn
  obtain ⟨n, rfl⟩ : ∃ k, n = k + 1 := ⟨n - 1, by omega⟩
  have hi := (List.getElem?_eq_some_iff.mp hx).1
  have nx := List.mem_of_getElem? hx
  show WD _ (f_C_word1 (f_C_word n) (nI i) (nI o) (zI st)) _
  rcases kd_cases (hN x nx) with hk | hk | hk | hk
  · obtain ⟨e1, e2, e3, e4⟩ := n_33 hx hk
    refine WD_c (wd_not hS hx hk (hun (by rw [hk]; rfl) (by rw [hk]; rfl) (e3 ▸ hqf) (fun v h3 h4 h5 => hv v h3 h4 ((e2 v).trans h5)) n (by omega))) (fun b _ => (e1 _).symm)
  · obtain ⟨e1, e2, e3, e4⟩ := n_pr hx hk
    rw [e3, Bool.and_eq_true] at hqf
    obtain ⟨p1, p2⟩ := hpr hk
    refine WD_c (wd_pr hS hx hk (p1 hqf.1 (fun v h3 h4 h5 => hv v h3 h4 (by rw [e2, h5, Bool.true_or])) n (by omega)) (p2 hqf.2 (fun v h3 h4 h5 => hv v h3 h4 (by rw [e2, h5, Bool.or_true])) n (by omega))) (fun b _ => (e1 _).symm)
  · obtain ⟨e1, e2, e3, e4⟩ := n_qu hx hk
    rw [e3] at hqf
    cases hqf
  · obtain ⟨hp, hu, hb⟩ := hk
    obtain ⟨e1, e2, e3, e4⟩ := n_br hx hp hu hb
    refine WD_c (wd_br (e := e) hS hx hb ho h1 h2 (fun w hw v h3 h4 h5 => by rw [hw]; exact hv v h3 h4 ((e2 v).trans ((hN x nx).1 v h3 h5)))) (fun b _ => (e1 _).symm)
/-- words of a claim about one variable -/
theorem sC_wordO {N : List Nd} (hN : ∀ n ∈ N, nok n) {u0 : KS} (hV : CV u0 N) (e0 : Ev) : ∀ i, wf N i = true → wf N i = true → ∀ (n o : Nat) (st : Int), N.length - i < n → o < 3 → -96 ≤ st → st ≤ 32 → (∀ v, v < 3 → fv N i v = true → v = o) → (dq N i ≤ 1 ∨ (an3 (fv N i) = false ∧ dq N i ≤ 2)) → WD (vf u0) (f_C_word n (nI i) (nI o) (zI st)) (fun b => sem N i (ev1 o (st + b) e0)) := by
  have hS2 : ∀ w, vf u0 w → CV w N := fun w hw => CV_vf hV hw
  have hS : ∀ w, vf u0 w → CS w N := fun w hw => (CV_vf hV hw).1
  refine cl_ind ?_
  intro i x hx hpr hun hw n o st hn ho h1 h2 hf hd
  obtain ⟨n, rfl⟩ : ∃ k, n = k + 1 := ⟨n - 1, by omega⟩
  have hi := (List.getElem?_eq_some_iff.mp hx).1
  have nx := List.mem_of_getElem? hx
  show WD _ (f_C_word1 (f_C_word n) (nI i) (nI o) (zI st)) _
  rcases kd_cases (hN x nx) with hk | hk | hk | hk
  · obtain ⟨e1, e2, e3, e4⟩ := n_33 hx hk
    have hp : k_pr (n_k x) = false := by rw [hk]; rfl
    have hu : k_un (n_k x) = true := by rw [hk]; rfl
    refine WD_c (wd_not hS hx hk (hun hp hu (wf_2 hx hp hu hw) n o st (by omega) ho h1 h2 (fun v h3 h5 => hf v h3 ((e2 v).trans h5)) ?_)) (fun b _ => (e1 _).symm)
    rw [e4, show fv N i = fv N (i + 1) from funext e2] at hd
    exact hd
  · obtain ⟨e1, e2, e3, e4⟩ := n_pr hx hk
    obtain ⟨p1, p2⟩ := hpr hk
    obtain ⟨w1, w2⟩ := wf_1 hx hk hw
    have hd1 : (dq N (i + 1) ≤ 1 ∨ (an3 (fv N (i + 1)) = false ∧ dq N (i + 1) ≤ 2)) ∧ (dq N (i + 1 + ln N (i + 1)) ≤ 1 ∨ (an3 (fv N (i + 1 + ln N (i + 1))) = false ∧ dq N (i + 1 + ln N (i + 1)) ≤ 2)) := by
      rw [e4] at hd
      rcases hd with z | ⟨z, y⟩
      · exact ⟨Or.inl (by omega), Or.inl (by omega)⟩
      · rw [an3_f] at z
        refine ⟨Or.inr ⟨?_, by omega⟩, Or.inr ⟨?_, by omega⟩⟩
        · rw [an3_f]
          intro v hv
          have := z v hv
          rw [e2, Bool.or_eq_false_iff] at this
          exact this.1
        · rw [an3_f]
          intro v hv
          have := z v hv
          rw [e2, Bool.or_eq_false_iff] at this
          exact this.2
    exact WD_c (wd_pr hS hx hk (p1 w1 n o st (by omega) ho h1 h2 (fun v h3 h5 => hf v h3 (by rw [e2, h5, Bool.true_or])) hd1.1) (p2 w2 n o st (by omega) ho h1 h2 (fun v h3 h5 => hf v h3 (by rw [e2, h5, Bool.or_true])) hd1.2)) (fun b _ => (e1 _).symm)
  · obtain ⟨e1, e2, e3, e4⟩ := n_qu hx hk
    have k1 := kq_33 hk
    have q3 : n_a x < 3 := (hN x nx).2.2 hk
    have hw1 := wf_2 hx k1.2.1 k1.2.2 hw
    have ihb := hun k1.2.1 k1.2.2 hw1
    refine wd_qu hS hx hk ?_
    cases hc : an3 (fv N i)
    · have fvb : ∀ v, v < 3 → fv N (i + 1) v = true → v = n_a x := by
        intro v hv h
        have z := (an3_f.mp hc) v hv
        rw [e2, h, Bool.true_and] at z
        simpa using z
      have dqb : dq N (i + 1) ≤ 1 := by
        rcases hd with z | z <;> omega
      refine WD_c (wd_qc (φ := fun w => sem N (i + 1) (ev1 (n_a x) w e0)) hS2 hx hk hc (fun k hk3 => ihb n (n_a x) (-96 + (k : Int) * 64) (by omega) q3 (by omega) (by omega) fvb (Or.inl dqb))) (fun b _ => ?_)
      have T := tame_sem hN (i + 1) hw1 (n_a x) q3 dqb fvb e0
      have sw : ∀ w, sem N (i + 1) (ev1 (n_a x) w (ev1 o (st + b) e0)) ↔ sem N (i + 1) (ev1 (n_a x) w e0) := fun w => sem_fv (fun n hn => (hN n hn).1) (i + 1) hw1 _ _ (fun v hv hfv => by rw [fvb v hv hfv, ev1_s, ev1_s])
      rw [e1]
      unfold rg
      rcases kq_or hk with k | k
      · rw [show (n_k x == 65) = false by rw [k]; rfl, if_neg ff_tt, if_neg (show ¬ n_k x = 65 by omega)]
        constructor
        · rintro ⟨v, _, _, h⟩
          exact ⟨v, (sw v).mpr h⟩
        · rintro ⟨w, h⟩
          obtain ⟨v, a, b, c⟩ := (tame_ex T (lo := -96) (hi := 95) (by omega) (by omega)).mp ⟨w, (sw w).mp h⟩
          exact ⟨v, a, by omega, c⟩
      · rw [show (n_k x == 65) = true by rw [k]; rfl, if_pos (show true = true from rfl), if_pos k]
        constructor
        · intro H w
          exact (sw w).mpr ((tame_al T (lo := -96) (hi := 95) (by omega) (by omega)).mpr (fun v a b => H v a (by omega)) w)
        · intro H v _ _
          exact (sw v).mp (H v)
    · have hd1 : dq N i ≤ 1 := by
        rcases hd with z | ⟨z, _⟩
        · exact z
        · rw [hc] at z; cases z
      have hqf := dq_qf (i + 1) hw1 (by omega)
      obtain ⟨v0, hv0, hv1⟩ : ∃ v, v < 3 ∧ fv N i v = true := by
        unfold an3 at hc
        rw [Bool.or_eq_true, Bool.or_eq_true] at hc
        rcases hc with (z | z) | z
        · exact ⟨0, by omega, z⟩
        · exact ⟨1, by omega, z⟩
        · exact ⟨2, by omega, z⟩
      have hvo := hf v0 hv0 hv1
      rw [e2, hvo, Bool.and_eq_true] at hv1
      have hoq : o ≠ n_a x := by simpa using hv1.2
      have fvb : ∀ v, v < 3 → fv N (i + 1) v = true → v = o ∨ v = n_a x := by
        intro v hv h
        by_cases z : v = n_a x
        · exact Or.inr z
        · left
          refine hf v hv ?_
          rw [e2, h, Bool.true_and]
          simpa using z
      refine wd_qo hS2 hx ho hc (fun b hb u hu => ?_)
      have hu10 : vf u0 (k_p_va (upd (k_va u) o (zI (st + b))) u) := vf_tr hu (vf_va _ _)
      have hva : k_va (k_p_va (upd (k_va u) o (zI (st + b))) u) o = zI (st + b) := pk_us
      generalize k_p_va (upd (k_va u) o (zI (st + b))) u = u10 at hu10 hva ⊢
      have Q := sC_isSo (S := fun w => w = u10) (wo := f_C_word n) (first := -224) (words := 7) (φ := fun w => sem N (i + 1) (ev1 (n_a x) w (ev1 o (st + b) e0))) (fun w hw => by rw [hw]; exact hS u10 hu10) hx hk (by omega) (fun k hk7 => sC_wordQ hN (hS u10 hu10) q3 (by omega) (by omega) (i + 1) hw1 hqf (fun v h3 h4 h5 => by
        have : v = o := by
          rcases fvb v h3 h5 with z | z
          · exact z
          · exact absurd z h4
        rw [this, ev1_s]
        exact ⟨hva, by omega, by omega⟩) n (by omega)) u10 rfl
      obtain ⟨r, u', e, hu', hr⟩ := Q
      have e : f_C_isSo (f_C_word n) (nI i) (-224) 7 u10 = some (bI r, u') := e
      have hu' : u' = u10 := hu'
      refine ⟨r, u', e, by rw [hu']; exact hu10, hr.trans ?_⟩
      rw [e1]
      have B1 : -96 ≤ st + (b : Int) := by omega
      have B2 : st + (b : Int) ≤ 96 := by omega
      unfold rg
      rw [show (-224 : Int) + ((7 : Nat) : Int) * 64 = 224 by omega]
      rcases kq_or hk with k | k
      · rw [show (n_k x == 65) = false by rw [k]; rfl, if_neg ff_tt, if_neg (show ¬ n_k x = 65 by omega)]
        exact (near_ex hN hw1 hqf ho q3 hoq fvb e0 B1 B2 (fun p => p) (fun a b h => h)).symm
      · rw [show (n_k x == 65) = true by rw [k]; rfl, if_pos (show true = true from rfl), if_pos k]
        have g := near_ex hN hw1 hqf ho q3 hoq fvb e0 B1 B2 (fun p => ¬ p) (fun a b h => not_congr h)
        constructor
        · intro H w
          apply Classical.byContradiction
          intro hw
          obtain ⟨v, a, b, c⟩ := g.mp ⟨w, hw⟩
          exact c (H v a b)
        · intro H v _ _
          exact H v
  · obtain ⟨hp, hu, hb⟩ := hk
    obtain ⟨e1, e2, e3, e4⟩ := n_br hx hp hu hb
    refine WD_c (wd_br (e := e0) hS hx hb ho (by omega) (by omega) (fun w hw v h3 h4 h5 => absurd (hf v h3 ((e2 v).trans ((hN x nx).1 v h3 h5))) h4)) (fun b _ => (e1 _).symm)
