/-! ===== reset, same, file ===== -/
section MORE
variable {S R B C N : Nat} {E : Nat → Nat} {σ : CS} {τ : MS}
theorem fill_loop {a : Nat} (h0 : 0 < a) (h8 : cv σ 8 a = true) : ∀ (n m : Nat) (σc : CS), m ≤ 8 → 8 - m < n → SJ a σ σc → (∀ j, j < m → cj σc a j = 0) → ∃ σd : CS, SJ a σ σd ∧ (∀ j, j < 8 → cj σd a j = 0) ∧ k_J7_fill_d0a16_l6 a 0 n σc (nI m) (nI 8) = some ((), σd) := by
  intro n
  induction n with
  | zero => intro m σc h1 h2; omega
  | succ n ih =>
    intro m σc hm hn hS hv
    rw [k_J7_fill_d0a16_l6_s]
    unfold k_J7_fill_d0a16_s6
    have g8 : cv σc 8 a = true := by rw [hS.2.2.2.1]; exact h8
    by_cases he : m = 8
    · subst he
      refine ⟨σc, hS, hv, ?_⟩
      simp (disch := omega) only [zi_le_t, zi_le_f, zi_lt_t, zi_lt_f, zi_eq_t, zi_eq_f, zi_eq_m, zi_lt_m, zi_le_m, zg_in, zi_T, zi_F, zg_T, zb_S, zo_N, zo_S, zs_D, nI_add, pk_mul, nI_sub2, nI_cl2, eq_self_iff_true, ln0, ln1, ln2, ln3, ln4, ln5, ln6, ln7, ln8, ln9, ln10, ln11, ln12, ln13, ln14, ln15, ln16, ln17, ln18, ln19, ln20, ln21, ln64, ln120, ln160, ln180, ln255, ln1280, ln21600]
    · simp (disch := omega) only [zi_le_t, zi_le_f, zi_lt_t, zi_lt_f, zi_eq_t, zi_eq_f, zi_eq_m, zi_lt_m, zi_le_m, zg_in, zi_T, zi_F, zg_T, zb_S, zo_N, zo_S, zs_D, nI_add, pk_mul, nI_sub2, nI_cl2, eq_self_iff_true, ln0, ln1, ln2, ln3, ln4, ln5, ln6, ln7, ln8, ln9, ln10, ln11, ln12, ln13, ln14, ln15, ln16, ln17, ln18, ln19, ln20, ln21, ln64, ln120, ln160, ln180, ln255, ln1280, ln21600, g8, jl_8 h0]
      refine ih (m + 1) _ (by omega) (by omega) (hS.put _ _) (fun j hj => ?_)
      rw [cj_J, if_pos rfl]
      unfold vp_updL
      by_cases e1 : j = m
      · rw [if_pos e1]
      · rw [if_neg e1]
        exact hv j (by omega)
theorem e6_fill {a : Nat} (h0 : 0 < a) (h8 : cv σ 8 a = true) : ∃ σd : CS, SJ a σ σd ∧ (∀ j, j < 8 → cj σd a j = 0) ∧ k_J7_fill_d0a16 σ a 0 = some ((), σd) := by
  unfold k_J7_fill_d0a16
  rw [zg_t h8, jl_8 h0]
  exact fill_loop h0 h8 FU 0 σ (by omega) (by rw [FU_s]; omega) (SJ.rf _ _) (fun j hj => absurd hj (Nat.not_lt_zero j))
theorem zero_loop {c : Nat} (hc : c < 8) : ∀ (n m : Nat) (τc : MS), m ≤ 8 → 8 - m < n → TJ 13 τ τc → (∀ j, mj τc 13 j = if 8 * c ≤ j ∧ j < 8 * c + m then 0 else mj τ 13 j) → ∃ τd : MS, TJ 13 τ τd ∧ (∀ j, mj τd 13 j = if 8 * c ≤ j ∧ j < 8 * c + 8 then 0 else mj τ 13 j) ∧ k_X7_reset_l28 (nI c) n τc (nI m) = k_X7_reset_l56 (nI c) FU τd (nI 0) (nI 1) := by
  intro n
  induction n with
  | zero => intro m σc h1 h2; omega
  | succ n ih =>
    intro m τc hm hn hS hv
    rw [k_X7_reset_l28_s]
    unfold k_X7_reset_s28
    by_cases he : m = 8
    · subst he
      refine ⟨τc, hS, hv, ?_⟩
      simp (disch := omega) only [zi_le_t, zi_le_f, zi_lt_t, zi_lt_f, zi_eq_t, zi_eq_f, zi_eq_m, zi_lt_m, zi_le_m, zg_in, zi_T, zi_F, zg_T, zb_S, zo_N, zo_S, zs_D, nI_add, pk_mul, nI_sub2, nI_cl2, eq_self_iff_true, ln0, ln1, ln2, ln3, ln4, ln5, ln6, ln7, ln8, ln9, ln10, ln11, ln12, ln13, ln14, ln15, ln16, ln17, ln18, ln19, ln20, ln21, ln64, ln120, ln160, ln180, ln255, ln1280, ln21600]
    · simp (disch := omega) only [zi_le_t, zi_le_f, zi_lt_t, zi_lt_f, zi_eq_t, zi_eq_f, zi_eq_m, zi_lt_m, zi_le_m, zg_in, zi_T, zi_F, zg_T, zb_S, zo_N, zo_S, zs_D, nI_add, pk_mul, nI_sub2, nI_cl2, eq_self_iff_true, ln0, ln1, ln2, ln3, ln4, ln5, ln6, ln7, ln8, ln9, ln10, ln11, ln12, ln13, ln14, ln15, ln16, ln17, ln18, ln19, ln20, ln21, ln64, ln120, ln160, ln180, ln255, ln1280, ln21600]
      refine ih (m + 1) _ (by omega) (by omega) (hS.put _ _) (fun j => ?_)
      rw [mj_J, if_pos rfl]
      unfold vp_updL
      by_cases e1 : j = 8 * c + m
      · rw [if_pos e1, if_pos (by omega)]
      · rw [if_neg e1, hv j]
        by_cases e2 : 8 * c ≤ j ∧ j < 8 * c + m
        · rw [if_pos e2, if_pos (by omega)]
        · rw [if_neg e2, if_neg (by omega)]
theorem RelA.down (hA : RelA S R B C E σ τ) {c : Nat} (hc8 : c < 8) {σd : CS} {τd : MS} (h1 : SJ (3 + c) (cI σ 402 c (nI 0)) σd) (h2 : ∀ j, j < 8 → cj σd (3 + c) j = 0)
    (h3 : TJ 13 (mR τ 14 c (nI 0)) τd) (h4 : ∀ j, mj τd 13 j = if 8 * c ≤ j ∧ j < 8 * c + 8 then 0 else mj τ 13 j) : RelA S R B C E σd τd := by
  obtain ⟨hV, hG, hU, hE, hc, hk⟩ := hA
  obtain ⟨a1, a2, a3, a4, a5, a6, a7⟩ := h1
  obtain ⟨b1, b2, b3⟩ := h3
  have a2' : cb σd = cb σ := a2
  have a3' : cbl σd = cbl σ := a3
  have a4' : cv σd = cv σ := a4
  have a5' : cs σd = cs σ := a5
  have d4 : ∀ g, g ≠ 14 → mr τd g = mr τ g := fun g hg => by rw [b2, mr_R, if_neg hg]
  have d6 : mi τd = mi τ := b1
  have d7 : ∀ g, g ≠ 13 → mj τd g = mj τ g := fun g hg => by rw [b3 g hg]; rfl
  refine ⟨?_, ?_, ?_, ?_, ?_, ?_⟩
  · unfold RV
    simp only [a3', a4', a5']
    exact hV
  · unfold RG
    simp only [a1, ci_I, d6, ↓reduceIte, Nat.reduceEqDiff, reduceCtorEq, Nat.reduceAdd, Nat.reduceMul, Nat.reduceSub, eq_self_iff_true, true_and, and_true, false_and, and_false, and_self]
    exact hG
  · intro j hj
    rw [a2', d4 4 (by decide)]
    exact hU j hj
  · intro i' hi'
    have h := hE i' hi'
    unfold RE RB at h ⊢
    simp only [a1, ci_I, a2', a3', a5', d4 6 (by decide), d4 7 (by decide), d4 8 (by decide), d4 9 (by decide), d4 10 (by decide), d4 11 (by decide), d4 12 (by decide), ↓reduceIte, Nat.reduceEqDiff, reduceCtorEq, Nat.reduceAdd, Nat.reduceMul, Nat.reduceSub, eq_self_iff_true, true_and, and_true, false_and, and_false, and_self]
    exact h
  · intro c' hc'
    have h := hc c' hc'
    unfold RC at h ⊢
    obtain ⟨r1, r2, r3, r4, r5, r6, r7, r8, r9⟩ := h
    simp only [a1, ci_I, b2, mr_R, upd, ↓reduceIte, Nat.reduceEqDiff, reduceCtorEq, Nat.reduceAdd, Nat.reduceMul, Nat.reduceSub, eq_self_iff_true, true_and, and_true, false_and, and_false, and_self]
    by_cases e : c' = c
    · subst e
      refine ⟨?_, ?_, r3, r4, r5, r6, r7, r8, fun p hp => ?_⟩
      · rw [if_pos rfl, if_pos rfl]
      · rw [if_pos rfl]; exact Or.inl rfl
      · rw [h2 p hp, h4, if_pos (by omega)]
    · refine ⟨?_, ?_, r3, r4, r5, r6, r7, r8, fun p hp => ?_⟩
      · rw [if_neg e, if_neg e]; exact r1
      · rw [if_neg e]; exact r2
      · rw [a7 _ (by omega), h4, if_neg (by omega)]
        exact r9 p hp
  · intro c' i' hc' hi'
    obtain ⟨hq, q, hqC, hq2⟩ := hk c' i' hc' hi'
    refine ⟨?_, q, hqC, by rw [d4 25 (by decide)]; exact hq2⟩
    rcases hq with ⟨q1, q2, q3⟩ | ⟨k1, k2, k3, k4, k8, k9, k10, k11⟩
    · left
      unfold RKn
      rw [a4', d4 21 (by decide), d4 24 (by decide)]
      exact ⟨q1, q2, q3⟩
    · right
      unfold RKy
      simp only [a4', a1, ci_I, d4 21 (by decide), d4 23 (by decide), d4 24 (by decide), d7 22 (by decide), ↓reduceIte, Nat.reduceEqDiff, reduceCtorEq, Nat.reduceAdd, Nat.reduceMul, Nat.reduceSub, eq_self_iff_true, true_and, and_true, false_and, and_false, and_self]
      refine ⟨k1, k2, k3, k4, k8, k9, fun j hj => ?_, k11⟩
      rw [a7 _ (by omega)]
      exact k10 j hj
theorem reset_loop {c : Nat} (hc8 : c < 8) (x : Int32) : ∀ (n i r : Nat) (σ : CS) (τ : MS), i ≤ R → R - i < n → RelA S R B C E σ τ → ∃ (v : Int32) (σ' : CS) (τ' : MS), k_X6_reset_l34 x n σ c (nI r) (nI (i + 1)) = some (v, σ') ∧ k_X7_reset_l56 (nI c) n τ (nI r) (nI (i + 1)) = some (v, τ') ∧ RelA S R B C E σ' τ' := by
  intro n
  induction n with
  | zero => intro i r σ τ h1 h2; omega
  | succ n ih =>
    intro i r σ τ hi hn hA
    obtain ⟨hV, hG, hU, hE, hc, hk⟩ := id hA
    have h5 : mi τ 5 = nI R := hG.2.2.2.2.2.2.2.1
    have h6 : ci σ 6 0 = nI R := hG.2.2.2.2.2.2.1
    have hR20 : R ≤ 20 := hG.2.2.2.2.2.2.2.2.1
    rw [k_X6_reset_l34_s, k_X7_reset_l56_s]
    unfold k_X6_reset_s34 k_X7_reset_s56 k_X6_reset_b83 k_X7_reset_b94
    by_cases he : i = R
    · subst he
      refine ⟨nI r, σ, τ, ?_, ?_, hA⟩
      · simp (disch := omega) only [zi_le_t, zi_le_f, zi_lt_t, zi_lt_f, zi_eq_t, zi_eq_f, zi_eq_m, zi_lt_m, zi_le_m, zg_in, zi_T, zi_F, zg_T, zb_S, zo_N, zo_S, zs_D, nI_add, pk_mul, nI_sub2, nI_cl2, eq_self_iff_true, ln0, ln1, ln2, ln3, ln4, ln5, ln6, ln7, ln8, ln9, ln10, ln11, ln12, ln13, ln14, ln15, ln16, ln17, ln18, ln19, ln20, ln21, ln64, ln120, ln160, ln180, ln255, ln1280, ln21600, hV.1, h6]
      · simp (disch := omega) only [zi_le_t, zi_le_f, zi_lt_t, zi_lt_f, zi_eq_t, zi_eq_f, zi_eq_m, zi_lt_m, zi_le_m, zg_in, zi_T, zi_F, zg_T, zb_S, zo_N, zo_S, zs_D, nI_add, pk_mul, nI_sub2, nI_cl2, eq_self_iff_true, ln0, ln1, ln2, ln3, ln4, ln5, ln6, ln7, ln8, ln9, ln10, ln11, ln12, ln13, ln14, ln15, ln16, ln17, ln18, ln19, ln20, ln21, ln64, ln120, ln160, ln180, ln255, ln1280, ln21600, h5]
    · have hiR : i < R := by omega
      obtain ⟨w1, w2, w3, w4, w5⟩ := hE i hiR
      obtain ⟨hq, -⟩ := hk c i hc8 (by omega)
      rcases hq with ⟨q1, q2, q3⟩ | hy
      · simp (disch := omega) only [zi_le_t, zi_le_f, zi_lt_t, zi_lt_f, zi_eq_t, zi_eq_f, zi_eq_m, zi_lt_m, zi_le_m, zg_in, zi_T, zi_F, zg_T, zb_S, zo_N, zo_S, zs_D, nI_add, pk_mul, nI_sub2, nI_cl2, eq_self_iff_true, ln0, ln1, ln2, ln3, ln4, ln5, ln6, ln7, ln8, ln9, ln10, ln11, ln12, ln13, ln14, ln15, ln16, ln17, ln18, ln19, ln20, ln21, ln64, ln120, ln160, ln180, ln255, ln1280, ln21600, hV.1, h5, h6, hV.v4 hc8, e6_new_y hV hiR hR20, e6_cls_n hV hc8 (show i < 20 by omega) q1, e7_at, q2]
        exact ih (i + 1) r σ τ (by omega) (by omega) hA
      · obtain ⟨k1, k2, k3, ⟨e, k4, k5, k6, k7⟩, k8, k9, k10, k11⟩ := id hy
        obtain ⟨σd, s1, s2, s3⟩ := e6_anew (σ := σ) (ci σ 700 i) (car := 0) (by omega) k1 k2
        obtain ⟨τd, t1, t2, t3⟩ := e7_renew (τ := τ) (k := 20 * c + i) (r := i + 1) (car := 0) (by omega) (by omega) (by omega)
        have hA2 := hA.renew hc8 hiR (by omega) hy s1 s2 t1 t2
        rw [w3] at s3 hA2
        simp (disch := omega) only [zi_le_t, zi_le_f, zi_lt_t, zi_lt_f, zi_eq_t, zi_eq_f, zi_eq_m, zi_lt_m, zi_le_m, zg_in, zi_T, zi_F, zg_T, zb_S, zo_N, zo_S, zs_D, nI_add, pk_mul, nI_sub2, nI_cl2, eq_self_iff_true, ln0, ln1, ln2, ln3, ln4, ln5, ln6, ln7, ln8, ln9, ln10, ln11, ln12, ln13, ln14, ln15, ln16, ln17, ln18, ln19, ln20, ln21, ln64, ln120, ln160, ln180, ln255, ln1280, ln21600, hV.1, h5, h6, hV.v4 hc8, hV.v7 hiR, k1, k6, k7, w3, w4, e6_new_y hV hiR hR20, e6_cls_y hV hc8 (show i < 20 by omega) k1, e7_at, s3, t3]
        exact ih (i + 1) (r + 1) _ _ (by omega) (by omega) hA2
theorem sim_reset (hR : Rel N σ τ) (x : Int32) : Sim N (k_X6_reset σ x) (k_X7_reset τ x) := by
  have hR := hR.thrown 0
  unfold k_X7_reset
  generalize mI τ 0 0 = τ at hR ⊢
  obtain ⟨S, R, B, C, E, hC, hA⟩ := id hR
  obtain ⟨hV, hG, hU, hE, hc, hk⟩ := id hA
  unfold k_X6_reset
  rcases ix8 x with h | ⟨c, hc8, rfl⟩
  · simp (disch := omega) only [zi_le_t, zi_le_f, zi_lt_t, zi_lt_f, zi_eq_t, zi_eq_f, zi_eq_m, zi_lt_m, zi_le_m, zg_in, zi_T, zi_F, zg_T, zb_S, zo_N, zo_S, zs_D, nI_add, pk_mul, nI_sub2, nI_cl2, eq_self_iff_true, ln0, ln1, ln2, ln3, ln4, ln5, ln6, ln7, ln8, ln9, ln10, ln11, ln12, ln13, ln14, ln15, ln16, ln17, ln18, ln19, ln20, ln21, ln64, ln120, ln160, ln180, ln255, ln1280, ln21600, hV.1, e6_ctrl_o hV h, e7_ctrl_o h, e6_ref hV, e7_ref]
    exact sim_refd hR _
  · obtain ⟨σd, s1, s2, s3⟩ := e6_fill (σ := cI σ 402 c (nI 0)) (a := 3 + c) (by omega) (hV.v8 (show 3 + c < 11 by omega))
    obtain ⟨τd, t1, t2, t3⟩ := zero_loop (τ := mR τ 14 c (nI 0)) hc8 FU 0 _ (by omega) (by rw [FU_s]; omega) (TJ.rf _ _) (fun j => by rw [if_neg (by omega)])
    have hA2 := hA.down hc8 s1 s2 t1 t2
    have hb : vp_nar .boolean (nI 0) = nI 0 := by decide
    obtain ⟨v, σ', τ', u1, u2, u3⟩ := reset_loop hc8 (nI c) FU 0 0 σd τd (by omega) (by rw [FU_s]; have := hG.2.2.2.2.2.2.2.2.1; omega) hA2
    simp (disch := omega) only [zi_le_t, zi_le_f, zi_lt_t, zi_lt_f, zi_eq_t, zi_eq_f, zi_eq_m, zi_lt_m, zi_le_m, zg_in, zi_T, zi_F, zg_T, zb_S, zo_N, zo_S, zs_D, nI_add, pk_mul, nI_sub2, nI_cl2, eq_self_iff_true, ln0, ln1, ln2, ln3, ln4, ln5, ln6, ln7, ln8, ln9, ln10, ln11, ln12, ln13, ln14, ln15, ln16, ln17, ln18, ln19, ln20, ln21, ln64, ln120, ln160, ln180, ln255, ln1280, ln21600, hV.1, e6_ctrl hV hc8, e7_ctrl hc8, hV.v4 hc8, s3, hb, t3]
    exact ⟨v, σ', τ', u1, u2, _, _, _, _, _, hC, u3⟩
theorem same_zero {x1 x2 x3 x4 x5 : Int32} : ∀ (n m : Nat), m ≤ 8 → 8 - m < n → k_X7_same_l66 x1 x2 x3 n τ x4 x5 (nI 0) (nI m) = some (nI 0, τ) := by
  intro n
  induction n with
  | zero => intro m h1 h2; omega
  | succ n ih =>
    intro m hm hn
    rw [k_X7_same_l66_s]
    unfold k_X7_same_s66 k_X7_same_b112 k_X7_same_b113
    by_cases he : m = 8
    · subst he
      simp (disch := omega) only [zi_le_t, zi_le_f, zi_lt_t, zi_lt_f, zi_eq_t, zi_eq_f, zi_eq_m, zi_lt_m, zi_le_m, zg_in, zi_T, zi_F, zg_T, zb_S, zo_N, zo_S, zs_D, nI_add, pk_mul, nI_sub2, nI_cl2, eq_self_iff_true, ln0, ln1, ln2, ln3, ln4, ln5, ln6, ln7, ln8, ln9, ln10, ln11, ln12, ln13, ln14, ln15, ln16, ln17, ln18, ln19, ln20, ln21, ln64, ln120, ln160, ln180, ln255, ln1280, ln21600, zn0]
    · simp (disch := omega) only [zi_le_t, zi_le_f, zi_lt_t, zi_lt_f, zi_eq_t, zi_eq_f, zi_eq_m, zi_lt_m, zi_le_m, zg_in, zi_T, zi_F, zg_T, zb_S, zo_N, zo_S, zs_D, nI_add, pk_mul, nI_sub2, nI_cl2, eq_self_iff_true, ln0, ln1, ln2, ln3, ln4, ln5, ln6, ln7, ln8, ln9, ln10, ln11, ln12, ln13, ln14, ln15, ln16, ln17, ln18, ln19, ln20, ln21, ln64, ln120, ln160, ln180, ln255, ln1280, ln21600]
      exact ih (m + 1) (by omega) (by omega)
theorem same_loop {y1 y2 y3 x1 x2 x3 : Int32} {a b : Nat} (ha : a < 160) (hb : b < 160) (ha6 : cv σ 6 a = true) (hb6 : cv σ 6 b = true) (ha8 : cv σ 8 (11 + a) = true) (hb8 : cv σ 8 (11 + b) = true) (hav : ∀ j, j < 8 → cj σ (11 + a) j = mj τ 22 (8 * a + j)) (hbv : ∀ j, j < 8 → cj σ (11 + b) j = mj τ 22 (8 * b + j)) : ∀ (n m : Nat), m ≤ 8 → 8 - m < n → ∃ r : Int32, k_X6_same_l44 y1 y2 y3 n σ a b (nI m) = some (r, σ) ∧ k_X7_same_l66 x1 x2 x3 n τ (nI a) (nI b) (nI 1) (nI m) = some (r, τ) := by
  intro n
  induction n with
  | zero => intro m h1 h2; omega
  | succ n ih =>
    intro m hm hn
    rw [k_X7_same_l66_s, k_X6_same_l44_s]
    unfold k_X7_same_s66 k_X7_same_b112 k_X7_same_b113 k_X6_same_s44
    by_cases he : m = 8
    · subst he
      refine ⟨nI 1, ?_, ?_⟩
      · simp (disch := omega) only [zi_le_t, zi_le_f, zi_lt_t, zi_lt_f, zi_eq_t, zi_eq_f, zi_eq_m, zi_lt_m, zi_le_m, zg_in, zi_T, zi_F, zg_T, zb_S, zo_N, zo_S, zs_D, nI_add, pk_mul, nI_sub2, nI_cl2, eq_self_iff_true, ln0, ln1, ln2, ln3, ln4, ln5, ln6, ln7, ln8, ln9, ln10, ln11, ln12, ln13, ln14, ln15, ln16, ln17, ln18, ln19, ln20, ln21, ln64, ln120, ln160, ln180, ln255, ln1280, ln21600, zn1]
      · simp (disch := omega) only [zi_le_t, zi_le_f, zi_lt_t, zi_lt_f, zi_eq_t, zi_eq_f, zi_eq_m, zi_lt_m, zi_le_m, zg_in, zi_T, zi_F, zg_T, zb_S, zo_N, zo_S, zs_D, nI_add, pk_mul, nI_sub2, nI_cl2, eq_self_iff_true, ln0, ln1, ln2, ln3, ln4, ln5, ln6, ln7, ln8, ln9, ln10, ln11, ln12, ln13, ln14, ln15, ln16, ln17, ln18, ln19, ln20, ln21, ln64, ln120, ln160, ln180, ln255, ln1280, ln21600, zn1]
    · have hm8 : m < 8 := by omega
      by_cases hq : lg_cmp (mj τ 22 (8 * a + m)) (mj τ 22 (8 * b + m)) = nI 0
      · simp (disch := omega) only [zi_le_t, zi_le_f, zi_lt_t, zi_lt_f, zi_eq_t, zi_eq_f, zi_eq_m, zi_lt_m, zi_le_m, zg_in, zi_T, zi_F, zg_T, zb_S, zo_N, zo_S, zs_D, nI_add, pk_mul, nI_sub2, nI_cl2, eq_self_iff_true, ln0, ln1, ln2, ln3, ln4, ln5, ln6, ln7, ln8, ln9, ln10, ln11, ln12, ln13, ln14, ln15, ln16, ln17, ln18, ln19, ln20, ln21, ln64, ln120, ln160, ln180, ln255, ln1280, ln21600, ha6, hb6, e6_num ha8 (show 0 < 11 + a by omega) hm8, e6_num hb8 (show 0 < 11 + b by omega) hm8, hav m hm8, hbv m hm8, hq]
        exact ih (m + 1) (by omega) (by omega)
      · refine ⟨nI 0, ?_, ?_⟩
        · simp (disch := omega) only [zi_le_t, zi_le_f, zi_lt_t, zi_lt_f, zi_eq_t, zi_eq_f, zi_eq_m, zi_lt_m, zi_le_m, zg_in, zi_T, zi_F, zg_T, zb_S, zo_N, zo_S, zs_D, nI_add, pk_mul, nI_sub2, nI_cl2, eq_self_iff_true, ln0, ln1, ln2, ln3, ln4, ln5, ln6, ln7, ln8, ln9, ln10, ln11, ln12, ln13, ln14, ln15, ln16, ln17, ln18, ln19, ln20, ln21, ln64, ln120, ln160, ln180, ln255, ln1280, ln21600, ha6, hb6, e6_num ha8 (show 0 < 11 + a by omega) hm8, e6_num hb8 (show 0 < 11 + b by omega) hm8, hav m hm8, hbv m hm8, zi_f hq, zn0]
        · simp (disch := omega) only [zi_le_t, zi_le_f, zi_lt_t, zi_lt_f, zi_eq_t, zi_eq_f, zi_eq_m, zi_lt_m, zi_le_m, zg_in, zi_T, zi_F, zg_T, zb_S, zo_N, zo_S, zs_D, nI_add, pk_mul, nI_sub2, nI_cl2, eq_self_iff_true, ln0, ln1, ln2, ln3, ln4, ln5, ln6, ln7, ln8, ln9, ln10, ln11, ln12, ln13, ln14, ln15, ln16, ln17, ln18, ln19, ln20, ln21, ln64, ln120, ln160, ln180, ln255, ln1280, ln21600, zi_f hq]
          exact same_zero n (m + 1) (by omega) (by omega)
theorem sim_same3 (hR : Rel N σ τ) (x y z : Int32) : Sim N (k_X6_same σ x y z) (k_X7_same τ x y z) := by
  have hR := hR.thrown 0
  unfold k_X7_same k_X7_same_b23 k_X7_same_b61
  generalize mI τ 0 0 = τ at hR ⊢
  obtain ⟨S, R, B, C, E, hC, hA⟩ := id hR
  obtain ⟨hV, hG, hU, hE, hc, hk⟩ := id hA
  have hR20 : R ≤ 20 := hG.2.2.2.2.2.2.2.2.1
  unfold k_X6_same k_X6_same_b39
  rcases cls_two hA x z with ⟨h1, h2⟩ | ⟨c, j, hc8, hj, rfl, rfl, hy, h1, h2⟩
  · rcases cls_two hA y z with ⟨g1, g2⟩ | ⟨c', j', hc8', hj', rfl, rfl, hy', g1, g2⟩
    · simp (disch := omega) only [zi_le_t, zi_le_f, zi_lt_t, zi_lt_f, zi_eq_t, zi_eq_f, zi_eq_m, zi_lt_m, zi_le_m, zg_in, zi_T, zi_F, zg_T, zb_S, zo_N, zo_S, zs_D, nI_add, pk_mul, nI_sub2, nI_cl2, eq_self_iff_true, ln0, ln1, ln2, ln3, ln4, ln5, ln6, ln7, ln8, ln9, ln10, ln11, ln12, ln13, ln14, ln15, ln16, ln17, ln18, ln19, ln20, ln21, ln64, ln120, ln160, ln180, ln255, ln1280, ln21600, hV.1, h1, h2, g1, zn0]
      exact sim_same hR _
    · simp (disch := omega) only [zi_le_t, zi_le_f, zi_lt_t, zi_lt_f, zi_eq_t, zi_eq_f, zi_eq_m, zi_lt_m, zi_le_m, zg_in, zi_T, zi_F, zg_T, zb_S, zo_N, zo_S, zs_D, nI_add, pk_mul, nI_sub2, nI_cl2, eq_self_iff_true, ln0, ln1, ln2, ln3, ln4, ln5, ln6, ln7, ln8, ln9, ln10, ln11, ln12, ln13, ln14, ln15, ln16, ln17, ln18, ln19, ln20, ln21, ln64, ln120, ln160, ln180, ln255, ln1280, ln21600, hV.1, h1, h2, g1, zn0]
      exact sim_same hR _
  · rcases cls_two hA y (nI (j + 1)) with ⟨g1, g2⟩ | ⟨c', j', hc8', hj', rfl, ej, hy', g1, g2⟩
    · simp (disch := omega) only [zi_le_t, zi_le_f, zi_lt_t, zi_lt_f, zi_eq_t, zi_eq_f, zi_eq_m, zi_lt_m, zi_le_m, zg_in, zi_T, zi_F, zg_T, zb_S, zo_N, zo_S, zs_D, nI_add, pk_mul, nI_sub2, nI_cl2, eq_self_iff_true, ln0, ln1, ln2, ln3, ln4, ln5, ln6, ln7, ln8, ln9, ln10, ln11, ln12, ln13, ln14, ln15, ln16, ln17, ln18, ln19, ln20, ln21, ln64, ln120, ln160, ln180, ln255, ln1280, ln21600, hV.1, h1, h2, g1, g2, zn0]
      exact sim_same hR _
    · have ejj : j = j' := by
        have := (nI_eq (a := j + 1) (b := j' + 1) (by omega) (by omega)).mp ej
        omega
      subst ejj
      obtain ⟨k1, k2, k3, ⟨e, k4, k5, k6, k7⟩, k8, k9, k10, k11⟩ := hy
      obtain ⟨p1, p2, p3, ⟨e', p4, p5, p6, p7⟩, p8, p9, p10, p11⟩ := hy'
      by_cases he : e = e'
      · subst he
        obtain ⟨r, u1, u2⟩ := same_loop (σ := σ) (τ := τ) (y1 := nI c) (y2 := nI c') (y3 := nI (j + 1)) (x1 := nI c) (x2 := nI c') (x3 := nI (j + 1)) (a := 20 * c + j) (b := 20 * c' + j) (by omega) (by omega) k1 p1 k2 p2 k10 p10 FU 0 (by omega) (by rw [FU_s]; omega)
        simp (disch := omega) only [zi_le_t, zi_le_f, zi_lt_t, zi_lt_f, zi_eq_t, zi_eq_f, zi_eq_m, zi_lt_m, zi_le_m, zg_in, zi_T, zi_F, zg_T, zb_S, zo_N, zo_S, zs_D, nI_add, pk_mul, nI_sub2, nI_cl2, eq_self_iff_true, ln0, ln1, ln2, ln3, ln4, ln5, ln6, ln7, ln8, ln9, ln10, ln11, ln12, ln13, ln14, ln15, ln16, ln17, ln18, ln19, ln20, ln21, ln64, ln120, ln160, ln180, ln255, ln1280, ln21600, hV.1, h1, h2, g1, g2, k1, p1, k6, k7, p6, p7, e7_at, u1, u2]
        exact sim_same hR _
      · simp (disch := omega) only [zi_le_t, zi_le_f, zi_lt_t, zi_lt_f, zi_eq_t, zi_eq_f, zi_eq_m, zi_lt_m, zi_le_m, zg_in, zi_T, zi_F, zg_T, zb_S, zo_N, zo_S, zs_D, nI_add, pk_mul, nI_sub2, nI_cl2, eq_self_iff_true, ln0, ln1, ln2, ln3, ln4, ln5, ln6, ln7, ln8, ln9, ln10, ln11, ln12, ln13, ln14, ln15, ln16, ln17, ln18, ln19, ln20, ln21, ln64, ln120, ln160, ln180, ln255, ln1280, ln21600, hV.1, h1, h2, g1, g2, k1, p1, k6, k7, p6, p7, e7_at, zi_eq_f (show e < e' ∨ e' < e by omega), zn0, same_zero FU 0 (by omega) (show 8 - 0 < FU by rw [FU_s]; omega)]
        exact sim_same hR _
theorem RelA.octet (hA : RelA S R B C E σ τ) (hS : S < 120) {b : Int32} (hb : isB b) : RelA (S + 1) R B C E (cI (cB σ 0 S b) 5 0 (nI (S + 1))) (mI (mR τ 4 S b) 3 (nI (S + 1))) := by
  obtain ⟨hV, hG, hU, hE, hc, hk⟩ := hA
  refine ⟨hV, ?_, ?_, ?_, hc, hk⟩
  · obtain ⟨g1, g2, g3, g4, g5, g6, g7, g8, g9, g10, g11⟩ := hG
    unfold RG
    simp only [ci_I, mi_I, ci_B, mi_R, ↓reduceIte, Nat.reduceEqDiff, reduceCtorEq, Nat.reduceAdd, Nat.reduceMul, Nat.reduceSub, eq_self_iff_true, true_and, and_true, false_and, and_false, and_self]
    exact ⟨g1, g2, g3, by omega, g7, g8, g9, g10, g11⟩
  · intro j hj
    simp only [cb_I, cb_B, mr_I, mr_R, upd, ↓reduceIte, Nat.reduceEqDiff, reduceCtorEq, Nat.reduceAdd, Nat.reduceMul, Nat.reduceSub, eq_self_iff_true, true_and, and_true, false_and, and_false, and_self]
    by_cases e : j = S
    · rw [if_pos e, if_pos e]
      exact ⟨rfl, hb⟩
    · rw [if_neg e, if_neg e]
      exact hU j hj
  · intro i hi
    have h := hE i hi
    have n2 : ¬ 2 + 3 * i = 0 := by omega
    have n3 : ¬ 3 + 3 * i = 0 := by omega
    have n4 : ¬ 4 + 3 * i = 0 := by omega
    unfold RE RB at h ⊢
    simp only [ci_I, ci_B, cb_I, cb_B, cbl_I, cbl_B, cs_I, cs_B, mr_I, mr_R, n2, n3, n4, ↓reduceIte, Nat.reduceEqDiff, reduceCtorEq, Nat.reduceAdd, Nat.reduceMul, Nat.reduceSub, eq_self_iff_true, true_and, and_true, false_and, and_false, and_self]
    exact h
theorem file_loop (v : Int64) (x3 : Int32) : ∀ (m n S : Nat) (σ : CS) (τ : MS), m < n → S + m ≤ 120 → RelA S R B C E σ τ → ∃ (σ' : CS) (τ' : MS), k_X6_file_l44 v x3 n σ (nI m + -nI 1) = some (nI (S + m), σ') ∧ k_X7_file_l45 v x3 n τ (nI m + -nI 1) = some (nI (S + m), τ') ∧ RelA (S + m) R B C E σ' τ' := by
  intro m
  induction m with
  | zero =>
    intro n S σ τ hn hS hA
    obtain ⟨n, rfl⟩ : ∃ k, n = k + 1 := ⟨n - 1, by omega⟩
    refine ⟨σ, τ, ?_, ?_, hA⟩
    · rw [k_X6_file_l44_s]
      unfold k_X6_file_s44
      rw [zi_t (show nI 0 + -nI 1 < 0 by decide), zg_t hA.1.1, hA.2.1.2.2.2.1]
      rfl
    · rw [k_X7_file_l45_s]
      unfold k_X7_file_s45
      rw [zi_t (show nI 0 + -nI 1 < 0 by decide), hA.2.1.2.2.2.2.1]
      rfl
  | succ m ih =>
    intro n S σ τ hn hS hA
    obtain ⟨n, rfl⟩ : ∃ k, n = k + 1 := ⟨n - 1, by omega⟩
    have hm : nI (m + 1) + -nI 1 = nI m := pk_m1 m
    have h5 : ci σ 5 0 = nI S := hA.2.1.2.2.2.1
    have h3 : mi τ 3 = nI S := hA.2.1.2.2.2.2.1
    have hV := hA.1
    rw [k_X6_file_l44_s, k_X7_file_l45_s, hm]
    unfold k_X6_file_s44 k_X7_file_s45 k_X6_putOctet k_X6_putOctet_b39
    have hb := isB_i2b (v >>> ((nI 8 * nI m).toInt64 &&& 63)).toInt32
    simp only [pk_mul] at hb
    have hA2 := hA.octet (show S < 120 by omega) hb
    obtain ⟨σ', τ', u1, u2, u3⟩ := ih n (S + 1) _ _ (by omega) (by omega) hA2
    refine ⟨σ', τ', ?_, ?_, ?_⟩
    · simp (disch := omega) only [zi_le_t, zi_le_f, zi_lt_t, zi_lt_f, zi_eq_t, zi_eq_f, zi_eq_m, zi_lt_m, zi_le_m, zg_in, zi_T, zi_F, zg_T, zb_S, zo_N, zo_S, zs_D, nI_add, pk_mul, nI_sub2, nI_cl2, eq_self_iff_true, ln0, ln1, ln2, ln3, ln4, ln5, ln6, ln7, ln8, ln9, ln10, ln11, ln12, ln13, ln14, ln15, ln16, ln17, ln18, ln19, ln20, ln21, ln64, ln120, ln160, ln180, ln255, ln1280, ln21600, hV.1, h5, hV.2.2.2.2.1, hV.2.2.2.2.2.1, isB_nar hb, ci_B]
      rw [u1, show S + (m + 1) = S + 1 + m by omega]
    · simp (disch := omega) only [zi_le_t, zi_le_f, zi_lt_t, zi_lt_f, zi_eq_t, zi_eq_f, zi_eq_m, zi_lt_m, zi_le_m, zg_in, zi_T, zi_F, zg_T, zb_S, zo_N, zo_S, zs_D, nI_add, pk_mul, nI_sub2, nI_cl2, eq_self_iff_true, ln0, ln1, ln2, ln3, ln4, ln5, ln6, ln7, ln8, ln9, ln10, ln11, ln12, ln13, ln14, ln15, ln16, ln17, ln18, ln19, ln20, ln21, ln64, ln120, ln160, ln180, ln255, ln1280, ln21600, h3, isB_nar hb, mi_R]
      rw [u2, show S + (m + 1) = S + 1 + m by omega]
    · rw [show S + (m + 1) = S + 1 + m by omega]
      exact u3
theorem sim_file (hR : Rel N σ τ) (v : Int64) (x : Int32) : Sim N (k_X6_file σ v x) (k_X7_file τ v x) := by
  have hR := hR.thrown 0
  unfold k_X7_file
  generalize mI τ 0 0 = τ at hR ⊢
  obtain ⟨S, R, B, C, E, hC, hA⟩ := id hR
  obtain ⟨hV, hG, hU, hE, hc, hk⟩ := id hA
  have h5 : ci σ 5 0 = nI S := hG.2.2.2.1
  have h3 : mi τ 3 = nI S := hG.2.2.2.2.1
  have hS : S ≤ 120 := hG.2.2.2.2.2.1
  unfold k_X6_file k_X6_file_b11
  by_cases h0 : x < 1
  · simp (disch := omega) only [zi_le_t, zi_le_f, zi_lt_t, zi_lt_f, zi_eq_t, zi_eq_f, zi_eq_m, zi_lt_m, zi_le_m, zg_in, zi_T, zi_F, zg_T, zb_S, zo_N, zo_S, zs_D, nI_add, pk_mul, nI_sub2, nI_cl2, eq_self_iff_true, ln0, ln1, ln2, ln3, ln4, ln5, ln6, ln7, ln8, ln9, ln10, ln11, ln12, ln13, ln14, ln15, ln16, ln17, ln18, ln19, ln20, ln21, ln64, ln120, ln160, ln180, ln255, ln1280, ln21600, hV.1, zi_t (show x < nI 1 from h0), e7_in_n (show x < nI 1 ∨ nI 8 < x from Or.inl h0), e6_ref hV, e7_ref]
    exact sim_refd hR _
  · by_cases h1 : x ≤ 8
    · obtain ⟨j, hj, rfl⟩ := nI_of2 (x := x) (M := 8) (n := 8) (by decide) (fun q => h0 (Int32.lt_trans q (by decide))) h1
      have hj1 : 1 ≤ j := by
        rcases Nat.eq_zero_or_pos j with rfl | h
        · exact absurd (by decide) h0
        · exact h
      by_cases hs : S + j ≤ 120
      · obtain ⟨σ', τ', u1, u2, u3⟩ := file_loop v (nI j) j FU S σ τ (by rw [FU_s]; omega) hs hA
        have hm : nI j + -nI 1 = nI (j - 1) := by
          have := pk_m1 (j - 1)
          rw [Nat.sub_add_cancel hj1] at this
          exact this
        rw [hm] at u1 u2
        simp (disch := omega) only [zi_le_t, zi_le_f, zi_lt_t, zi_lt_f, zi_eq_t, zi_eq_f, zi_eq_m, zi_lt_m, zi_le_m, zg_in, zi_T, zi_F, zg_T, zb_S, zo_N, zo_S, zs_D, nI_add, pk_mul, nI_sub2, nI_cl2, eq_self_iff_true, ln0, ln1, ln2, ln3, ln4, ln5, ln6, ln7, ln8, ln9, ln10, ln11, ln12, ln13, ln14, ln15, ln16, ln17, ln18, ln19, ln20, ln21, ln64, ln120, ln160, ln180, ln255, ln1280, ln21600, hV.1, h5, h3, hV.2.2.2.2.1, hV.2.2.2.2.2.1, e7_in_t, u1, u2]
        exact ⟨_, _, _, rfl, rfl, _, _, _, _, _, hC, u3⟩
      · simp (disch := omega) only [zi_le_t, zi_le_f, zi_lt_t, zi_lt_f, zi_eq_t, zi_eq_f, zi_eq_m, zi_lt_m, zi_le_m, zg_in, zi_T, zi_F, zg_T, zb_S, zo_N, zo_S, zs_D, nI_add, pk_mul, nI_sub2, nI_cl2, eq_self_iff_true, ln0, ln1, ln2, ln3, ln4, ln5, ln6, ln7, ln8, ln9, ln10, ln11, ln12, ln13, ln14, ln15, ln16, ln17, ln18, ln19, ln20, ln21, ln64, ln120, ln160, ln180, ln255, ln1280, ln21600, hV.1, h5, h3, hV.2.2.2.2.1, hV.2.2.2.2.2.1, e7_in_t, e6_ref hV, e7_ref]
        exact sim_refd hR _
    · simp (disch := omega) only [zi_le_t, zi_le_f, zi_lt_t, zi_lt_f, zi_eq_t, zi_eq_f, zi_eq_m, zi_lt_m, zi_le_m, zg_in, zi_T, zi_F, zg_T, zb_S, zo_N, zo_S, zs_D, nI_add, pk_mul, nI_sub2, nI_cl2, eq_self_iff_true, ln0, ln1, ln2, ln3, ln4, ln5, ln6, ln7, ln8, ln9, ln10, ln11, ln12, ln13, ln14, ln15, ln16, ln17, ln18, ln19, ln20, ln21, ln64, ln120, ln160, ln180, ln255, ln1280, ln21600, hV.1, zi_f (show ¬ x < nI 1 from h0), zi_f (show ¬ x ≤ nI 8 from h1), e7_in_n (show x < nI 1 ∨ nI 8 < x from Or.inr (Int32.not_le.mp h1)), e6_ref hV, e7_ref]
      exact sim_refd hR _
end MORE
