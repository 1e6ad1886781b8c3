/-! ===== power, beside ===== -/
section BESIDE
variable {S R B C N : Nat} {E : Nat → Nat} {σ : CS} {τ : MS}
theorem power_loop {c : Nat} (hc8 : c < 8) (x : Int32) : ∀ (n i C : Nat) (σ : CS) (τ : MS), i ≤ R → R - i < n → C + (R - i) < 2147483648 → RelA S R B C E σ τ → ∃ (v : Int32) (σ' : CS) (τ' : MS) (C' : Nat), C' ≤ C + (R - i) ∧ k_X6_power_l32 x n σ c (nI (i + 1)) = some (v, σ') ∧ k_X7_power_l37 (nI c) n τ (nI (i + 1)) = some (v, τ') ∧ RelA S R B C' E σ' τ' := by
  intro n
  induction n with
  | zero => intro i C σ τ h1 h2; omega
  | succ n ih =>
    intro i C σ τ hi hn hC hA
    obtain ⟨hV, hG, hU, hE, hc, hk⟩ := id hA
    have h5 : mi τ 5 = nI R := hG.2.2.2.2.2.2.2.1
    have h6 : ci σ 6 0 = nI R := hG.2.2.2.2.2.2.1
    have hR20 : R ≤ 20 := hG.2.2.2.2.2.2.2.2.1
    have b1 : vp_nar .boolean (nI 1) = nI 1 := by decide
    rw [k_X6_power_l32_s, k_X7_power_l37_s]
    unfold k_X6_power_s32 k_X7_power_s37 k_X7_power_b156
    by_cases he : i = R
    · subst he
      refine ⟨nI 1, _, _, C, by omega, ?_, ?_, hA.upset (c := c) (v := nI 1) (Or.inr rfl)⟩
      · simp (disch := omega) only [zi_le_t, zi_le_f, zi_lt_t, zi_lt_f, zi_eq_t, zi_eq_f, zi_eq_m, zi_lt_m, zi_le_m, zg_in, zi_T, zi_F, zg_T, zb_S, zo_N, zo_S, zs_D, nI_add, pk_mul, nI_sub2, nI_cl2, eq_self_iff_true, ln0, ln1, ln2, ln3, ln4, ln5, ln6, ln7, ln8, ln9, ln10, ln11, ln12, ln13, ln14, ln15, ln16, ln17, ln18, ln19, ln20, ln21, ln64, ln120, ln160, ln180, ln255, ln1280, ln21600, hV.1, hV.v4 hc8, h6]
      · simp (disch := omega) only [zi_le_t, zi_le_f, zi_lt_t, zi_lt_f, zi_eq_t, zi_eq_f, zi_eq_m, zi_lt_m, zi_le_m, zg_in, zi_T, zi_F, zg_T, zb_S, zo_N, zo_S, zs_D, nI_add, pk_mul, nI_sub2, nI_cl2, eq_self_iff_true, ln0, ln1, ln2, ln3, ln4, ln5, ln6, ln7, ln8, ln9, ln10, ln11, ln12, ln13, ln14, ln15, ln16, ln17, ln18, ln19, ln20, ln21, ln64, ln120, ln160, ln180, ln255, ln1280, ln21600, h5, b1]
    · have hiR : i < R := by omega
      obtain ⟨w1, w2, w3, w4, len, rs, rl, w5, w6, w7, w8, w9, w10, w11, w12⟩ := hE i hiR
      have hpl : pl E i ≤ 179 := by unfold pl; omega
      have hpl2 : 9 * i + (E i - 1) = pl E i := rfl
      obtain ⟨hq, -⟩ := hk c i hc8 (by omega)
      rcases hq with ⟨q1, q2, q3⟩ | hy
      · obtain ⟨v, σ', τ', C', u0, u1, u2, u3⟩ := ih (i + 1) C σ τ (by omega) (by omega) (by omega) hA
        refine ⟨v, σ', τ', C', by omega, ?_, ?_, u3⟩
        · simp (disch := omega) only [zi_le_t, zi_le_f, zi_lt_t, zi_lt_f, zi_eq_t, zi_eq_f, zi_eq_m, zi_lt_m, zi_le_m, zg_in, zi_T, zi_F, zg_T, zb_S, zo_N, zo_S, zs_D, nI_add, pk_mul, nI_sub2, nI_cl2, eq_self_iff_true, ln0, ln1, ln2, ln3, ln4, ln5, ln6, ln7, ln8, ln9, ln10, ln11, ln12, ln13, ln14, ln15, ln16, ln17, ln18, ln19, ln20, ln21, ln64, ln120, ln160, ln180, ln255, ln1280, ln21600, hV.1, hV.v4 hc8, h6, k_X6_callStart, e6_new_y hV hiR hR20, e6_cls_n hV hc8 (show i < 20 by omega) q1, k_X6_callStart_b42]
          exact u1
        · simp (disch := omega) only [zi_le_t, zi_le_f, zi_lt_t, zi_lt_f, zi_eq_t, zi_eq_f, zi_eq_m, zi_lt_m, zi_le_m, zg_in, zi_T, zi_F, zg_T, zb_S, zo_N, zo_S, zs_D, nI_add, pk_mul, nI_sub2, nI_cl2, eq_self_iff_true, ln0, ln1, ln2, ln3, ln4, ln5, ln6, ln7, ln8, ln9, ln10, ln11, ln12, ln13, ln14, ln15, ln16, ln17, ln18, ln19, ln20, ln21, ln64, ln120, ln160, ln180, ln255, ln1280, ln21600, h5, e7_at, q2]
          exact u2
      · obtain ⟨k1, k2, k3, ⟨e, k4, k5, k6, k7⟩, k8, k9, k10, k11⟩ := id hy
        by_cases hee : e = E i
        · subst hee
          rcases w12 with ⟨z1, z2⟩ | ⟨z1, ss, sl, z2, z3, z4, z5⟩
          · obtain ⟨v, σ', τ', C', u0, u1, u2, u3⟩ := ih (i + 1) C σ τ (by omega) (by omega) (by omega) hA
            refine ⟨v, σ', τ', C', by omega, ?_, ?_, u3⟩
            · simp (disch := omega) only [zi_le_t, zi_le_f, zi_lt_t, zi_lt_f, zi_eq_t, zi_eq_f, zi_eq_m, zi_lt_m, zi_le_m, zg_in, zi_T, zi_F, zg_T, zb_S, zo_N, zo_S, zs_D, nI_add, pk_mul, nI_sub2, nI_cl2, eq_self_iff_true, ln0, ln1, ln2, ln3, ln4, ln5, ln6, ln7, ln8, ln9, ln10, ln11, ln12, ln13, ln14, ln15, ln16, ln17, ln18, ln19, ln20, ln21, ln64, ln120, ln160, ln180, ln255, ln1280, ln21600, ↓reduceIte, Nat.reduceEqDiff, reduceCtorEq, Nat.reduceAdd, Nat.reduceMul, Nat.reduceSub, eq_self_iff_true, true_and, and_true, false_and, and_false, and_self, hV.1, hV.v4 hc8, hV.v7 hiR, h6, k_X6_callStart, e6_new_y hV hiR hR20, e6_cls_y hV hc8 (show i < 20 by omega) k1, k1, k6, w3, z1, Bool.false_eq_true, k_X6_callStart_b42]
              exact u1
            · simp (disch := omega) only [zi_le_t, zi_le_f, zi_lt_t, zi_lt_f, zi_eq_t, zi_eq_f, zi_eq_m, zi_lt_m, zi_le_m, zg_in, zi_T, zi_F, zg_T, zb_S, zo_N, zo_S, zs_D, nI_add, pk_mul, nI_sub2, nI_cl2, eq_self_iff_true, ln0, ln1, ln2, ln3, ln4, ln5, ln6, ln7, ln8, ln9, ln10, ln11, ln12, ln13, ln14, ln15, ln16, ln17, ln18, ln19, ln20, ln21, ln64, ln120, ln160, ln180, ln255, ln1280, ln21600, h5, e7_at, k7, w4, e7_pl w1, hpl2, z2]
              exact u2
          · have hq9 : cv σ 9 (3 + 3 * i) = true := (hV.2.2.2.2.2.2.2.2.1 i hiR).2.2.2 z1
            obtain ⟨r, σ2, τ1, hr7, e0, e1, e2, e3, e4⟩ := call_sim hA hc8 hiR hy k7 hq9 z5 (by omega) (by omega)
            by_cases hr0 : r = 0
            · subst hr0
              obtain ⟨v, σ', τ', C', u0, u1, u2, u3⟩ := ih (i + 1) (C + 1) σ2 τ1 (by omega) (by omega) (by omega) (e3 rfl)
              refine ⟨v, σ', τ', C', by omega, ?_, ?_, u3⟩
              · simp (disch := omega) only [zi_le_t, zi_le_f, zi_lt_t, zi_lt_f, zi_eq_t, zi_eq_f, zi_eq_m, zi_lt_m, zi_le_m, zg_in, zi_T, zi_F, zg_T, zb_S, zo_N, zo_S, zs_D, nI_add, pk_mul, nI_sub2, nI_cl2, eq_self_iff_true, ln0, ln1, ln2, ln3, ln4, ln5, ln6, ln7, ln8, ln9, ln10, ln11, ln12, ln13, ln14, ln15, ln16, ln17, ln18, ln19, ln20, ln21, ln64, ln120, ln160, ln180, ln255, ln1280, ln21600, ↓reduceIte, Nat.reduceEqDiff, reduceCtorEq, Nat.reduceAdd, Nat.reduceMul, Nat.reduceSub, eq_self_iff_true, true_and, and_true, false_and, and_false, and_self, hV.1, hV.v4 hc8, hV.v7 hiR, h6, k_X6_callStart, e6_new_y hV hiR hR20, e6_cls_y hV hc8 (show i < 20 by omega) k1, k1, k6, w3, z1, e1]
                exact u1
              · simp (disch := omega) only [zi_le_t, zi_le_f, zi_lt_t, zi_lt_f, zi_eq_t, zi_eq_f, zi_eq_m, zi_lt_m, zi_le_m, zg_in, zi_T, zi_F, zg_T, zb_S, zo_N, zo_S, zs_D, nI_add, pk_mul, nI_sub2, nI_cl2, eq_self_iff_true, ln0, ln1, ln2, ln3, ln4, ln5, ln6, ln7, ln8, ln9, ln10, ln11, ln12, ln13, ln14, ln15, ln16, ln17, ln18, ln19, ln20, ln21, ln64, ln120, ln160, ln180, ln255, ln1280, ln21600, h5, e7_at, k7, w4, e7_pl w1, hpl2, z2, z3, e2]
                exact u2
            · obtain ⟨τ2, t2, hA2⟩ := e4 hr0
              have n0 : 0 < r := by omega
              refine ⟨nI (10 + r), σ2, τ2, C + 1, by omega, ?_, ?_, hA2⟩
              · simp (disch := omega) only [zi_le_t, zi_le_f, zi_lt_t, zi_lt_f, zi_eq_t, zi_eq_f, zi_eq_m, zi_lt_m, zi_le_m, zg_in, zi_T, zi_F, zg_T, zb_S, zo_N, zo_S, zs_D, nI_add, pk_mul, nI_sub2, nI_cl2, eq_self_iff_true, ln0, ln1, ln2, ln3, ln4, ln5, ln6, ln7, ln8, ln9, ln10, ln11, ln12, ln13, ln14, ln15, ln16, ln17, ln18, ln19, ln20, ln21, ln64, ln120, ln160, ln180, ln255, ln1280, ln21600, ↓reduceIte, Nat.reduceEqDiff, reduceCtorEq, Nat.reduceAdd, Nat.reduceMul, Nat.reduceSub, eq_self_iff_true, true_and, and_true, false_and, and_false, and_self, hV.1, hV.v4 hc8, hV.v7 hiR, h6, k_X6_callStart, e6_new_y hV hiR hR20, e6_cls_y hV hc8 (show i < 20 by omega) k1, k1, k6, w3, z1, e1]
              · simp (disch := omega) only [zi_le_t, zi_le_f, zi_lt_t, zi_lt_f, zi_eq_t, zi_eq_f, zi_eq_m, zi_lt_m, zi_le_m, zg_in, zi_T, zi_F, zg_T, zb_S, zo_N, zo_S, zs_D, nI_add, pk_mul, nI_sub2, nI_cl2, eq_self_iff_true, ln0, ln1, ln2, ln3, ln4, ln5, ln6, ln7, ln8, ln9, ln10, ln11, ln12, ln13, ln14, ln15, ln16, ln17, ln18, ln19, ln20, ln21, ln64, ln120, ln160, ln180, ln255, ln1280, ln21600, h5, e7_at, k7, w4, e7_pl w1, hpl2, z2, z3, e2, t2]
        · obtain ⟨v, σ', τ', C', u0, u1, u2, u3⟩ := ih (i + 1) C σ τ (by omega) (by omega) (by omega) hA
          refine ⟨v, σ', τ', C', by omega, ?_, ?_, u3⟩
          · simp (disch := omega) only [zi_le_t, zi_le_f, zi_lt_t, zi_lt_f, zi_eq_t, zi_eq_f, zi_eq_m, zi_lt_m, zi_le_m, zg_in, zi_T, zi_F, zg_T, zb_S, zo_N, zo_S, zs_D, nI_add, pk_mul, nI_sub2, nI_cl2, eq_self_iff_true, ln0, ln1, ln2, ln3, ln4, ln5, ln6, ln7, ln8, ln9, ln10, ln11, ln12, ln13, ln14, ln15, ln16, ln17, ln18, ln19, ln20, ln21, ln64, ln120, ln160, ln180, ln255, ln1280, ln21600, hV.1, hV.v4 hc8, hV.v7 hiR, h6, k_X6_callStart, e6_new_y hV hiR hR20, e6_cls_y hV hc8 (show i < 20 by omega) k1, k1, k6, w3, zi_eq_f (show e < E i ∨ E i < e by omega), k_X6_callStart_b42]
            exact u1
          · simp (disch := omega) only [zi_le_t, zi_le_f, zi_lt_t, zi_lt_f, zi_eq_t, zi_eq_f, zi_eq_m, zi_lt_m, zi_le_m, zg_in, zi_T, zi_F, zg_T, zb_S, zo_N, zo_S, zs_D, nI_add, pk_mul, nI_sub2, nI_cl2, eq_self_iff_true, ln0, ln1, ln2, ln3, ln4, ln5, ln6, ln7, ln8, ln9, ln10, ln11, ln12, ln13, ln14, ln15, ln16, ln17, ln18, ln19, ln20, ln21, ln64, ln120, ln160, ln180, ln255, ln1280, ln21600, h5, e7_at, k7, w4, zi_eq_f (show e < E i ∨ E i < e by omega)]
            exact u2
theorem sim_power (hN : N + 20 < 2147483648) (hR : Rel N σ τ) (x : Int32) : Sim (N + 20) (k_X6_power σ x) (k_X7_power τ x) := by
  have hR := hR.thrown 0
  unfold k_X7_power
  generalize mI τ 0 0 = τ at hR ⊢
  obtain ⟨S, R, B, C, E, hC, hA⟩ := id hR
  obtain ⟨hV, hG, hU, hE, hc, hk⟩ := id hA
  have hR20 : R ≤ 20 := hG.2.2.2.2.2.2.2.2.1
  unfold k_X6_power
  rcases ix8 x with h | ⟨c, hc8, rfl⟩
  · simp (disch := omega) only [zi_le_t, zi_le_f, zi_lt_t, zi_lt_f, zi_eq_t, zi_eq_f, zi_eq_m, zi_lt_m, zi_le_m, zg_in, zi_T, zi_F, zg_T, zb_S, zo_N, zo_S, zs_D, nI_add, pk_mul, nI_sub2, nI_cl2, eq_self_iff_true, ln0, ln1, ln2, ln3, ln4, ln5, ln6, ln7, ln8, ln9, ln10, ln11, ln12, ln13, ln14, ln15, ln16, ln17, ln18, ln19, ln20, ln21, ln64, ln120, ln160, ln180, ln255, ln1280, ln21600, hV.1, e6_ctrl_o hV h, e7_ctrl_o h, e6_ref hV, e7_ref]
    exact sim_refd (hR.mono (by omega)) _
  · obtain ⟨r1, r2, r3, r4, r5, r6, r7, r8, r9⟩ := hc c hc8
    rcases r2 with r2 | r2
    · obtain ⟨v, σ', τ', C', u0, u1, u2, u3⟩ := power_loop hc8 (nI c) FU 0 C σ τ (by omega) (by rw [FU_s]; omega) (by omega) hA
      simp (disch := omega) only [zi_le_t, zi_le_f, zi_lt_t, zi_lt_f, zi_eq_t, zi_eq_f, zi_eq_m, zi_lt_m, zi_le_m, zg_in, zi_T, zi_F, zg_T, zb_S, zo_N, zo_S, zs_D, nI_add, pk_mul, nI_sub2, nI_cl2, eq_self_iff_true, ln0, ln1, ln2, ln3, ln4, ln5, ln6, ln7, ln8, ln9, ln10, ln11, ln12, ln13, ln14, ln15, ln16, ln17, ln18, ln19, ln20, ln21, ln64, ln120, ln160, ln180, ln255, ln1280, ln21600, hV.1, hV.v4 hc8, e6_ctrl hV hc8, e7_ctrl hc8, r1, r2]
      exact ⟨v, σ', τ', u1, u2, _, _, _, _, _, by omega, u3⟩
    · simp (disch := omega) only [zi_le_t, zi_le_f, zi_lt_t, zi_lt_f, zi_eq_t, zi_eq_f, zi_eq_m, zi_lt_m, zi_le_m, zg_in, zi_T, zi_F, zg_T, zb_S, zo_N, zo_S, zs_D, nI_add, pk_mul, nI_sub2, nI_cl2, eq_self_iff_true, ln0, ln1, ln2, ln3, ln4, ln5, ln6, ln7, ln8, ln9, ln10, ln11, ln12, ln13, ln14, ln15, ln16, ln17, ln18, ln19, ln20, ln21, ln64, ln120, ln160, ln180, ln255, ln1280, ln21600, hV.1, hV.v4 hc8, e6_ctrl hV hc8, e7_ctrl hc8, r1, r2, e6_ref hV, e7_ref]
      exact sim_refd (hR.mono (by omega)) _
/-- what no call can see is free -/
theorem RelA.free (hA : RelA S R B C E σ τ) {C' : Nat} (hC' : C ≤ C') {σ' : CS} {τ' : MS} (a1 : cv σ' = cv σ) (a2 : cb σ' = cb σ) (a3 : cbl σ' = cbl σ) (a4 : cs σ' = cs σ) (a5 : ∀ f i, (f < 106 ∨ 110 < f) → ci σ' f i = ci σ f i) (a6 : ∀ r, r ≠ 0 → r ≠ 1 → r ≠ 2 → cj σ' r = cj σ r)
    (b1 : ∀ f, f ≠ 26 → f ≠ 28 → f ≠ 29 → f ≠ 30 → mi τ' f = mi τ f) (b26 : mi τ' 26 = nI C') (b2 : ∀ g, g ≠ 24 → g ≠ 25 → mr τ' g = mr τ g) (b3 : ∀ j, mr τ' 24 j = mr τ 24 j ∧ mr τ' 25 j = mr τ 25 j) (b4 : ∀ j, mj τ' 13 j = mj τ 13 j) (b5 : ∀ j, mj τ' 22 j = mj τ 22 j) : RelA S R B C' E σ' τ' := by
  obtain ⟨hV, hG, hU, hE, hc, hk⟩ := hA
  obtain ⟨g1, g2, g3, g4, g5, g6, g7, g8, g9, g10, g11⟩ := hG
  refine ⟨?_, ?_, ?_, ?_, ?_, ?_⟩
  · unfold RV
    rw [a1, a3, a4]
    exact hV
  · unfold RG
    rw [a5 0 0 (by omega), a5 5 0 (by omega), a5 6 0 (by omega), a5 7 0 (by omega), b1 1 (by omega) (by omega) (by omega) (by omega), b1 3 (by omega) (by omega) (by omega) (by omega), b1 5 (by omega) (by omega) (by omega) (by omega), b1 2 (by omega) (by omega) (by omega) (by omega)]
    exact ⟨g1, g2, g3, g4, g5, g6, g7, g8, g9, g10, b26⟩
  · unfold RU
    rw [a2, b2 4 (by omega) (by omega)]
    exact hU
  · intro i' hi'
    have h := hE i' hi'
    unfold RE RB at h ⊢
    rw [a5 700 i' (by omega), a2, a3, a4, b2 6 (by omega) (by omega), b2 7 (by omega) (by omega), b2 8 (by omega) (by omega), b2 9 (by omega) (by omega), b2 10 (by omega) (by omega), b2 11 (by omega) (by omega), b2 12 (by omega) (by omega)]
    exact h
  · intro c' hc'
    obtain ⟨r1, r2, r3, r4, r5, r6, r7, r8, r9⟩ := hc c' hc'
    unfold RC
    rw [a5 402 c' (by omega), a5 403 c' (by omega), a5 404 c' (by omega), a5 405 c' (by omega), a5 406 c' (by omega), a5 407 c' (by omega), a5 408 c' (by omega), b2 14 (by omega) (by omega), b2 15 (by omega) (by omega), b2 16 (by omega) (by omega), b2 17 (by omega) (by omega), b2 18 (by omega) (by omega), b2 19 (by omega) (by omega), b2 20 (by omega) (by omega), a6 (3 + c') (by omega) (by omega) (by omega)]
    exact ⟨r1, r2, r3, r4, r5, r6, r7, r8, fun p hp => by rw [b4]; exact r9 p hp⟩
  · intro c' i' hc' hi'
    obtain ⟨hq, u, huC, hu2⟩ := hk c' i' hc' hi'
    refine ⟨?_, u, by omega, by rw [(b3 _).2]; exact hu2⟩
    rcases hq with ⟨q1, q2, q3⟩ | ⟨k1, k2, k3, k4, k8, k9, k10, k11⟩
    · left
      unfold RKn
      rw [a1, b2 21 (by omega) (by omega), (b3 _).1]
      exact ⟨q1, q2, q3⟩
    · right
      unfold RKy
      rw [a1, a5 601 _ (by omega), a5 602 _ (by omega), a5 603 _ (by omega), b2 21 (by omega) (by omega), b2 23 (by omega) (by omega), (b3 _).1, a6 _ (by omega) (by omega) (by omega)]
      exact ⟨k1, k2, k3, k4, k8, k9, fun j hj => by rw [b5]; exact k10 j hj, k11⟩
theorem copy_loop {a b : Nat} (ha0 : 0 < a) (hb0 : 0 < b) (hab : a ≠ b) (ha8 : cv σ 8 a = true) (hb8 : cv σ 8 b = true) : ∀ (n m : Nat) (σc : CS), m ≤ 8 → 8 - m < n → SJ b σ σc → (∀ j, j < m → cj σc b j = cj σ a j) → ∃ σd : CS, SJ b σ σd ∧ (∀ j, j < 8 → cj σd b j = cj σ a j) ∧ k_X6_copyNumbers_l2 a b n σc (nI m) = some ((), σd) := by
  intro n
  induction n with
  | zero => intro m σc h1 h2; omega
  | succ n ih =>
    intro m σc hm hn hS hv
    rw [k_X6_copyNumbers_l2_s]
    unfold k_X6_copyNumbers_s2 k_X6_copyNumbers_b26
    have g8 : cv σc 8 a = true := by rw [hS.2.2.2.1]; exact ha8
    have g9 : cv σc 8 b = true := by rw [hS.2.2.2.1]; exact hb8
    by_cases he : m = 8
    · subst he
      refine ⟨σc, hS, hv, ?_⟩
      simp (disch := omega) only [zi_le_t, zi_le_f, zi_lt_t, zi_lt_f, zi_eq_t, zi_eq_f, zi_eq_m, zi_lt_m, zi_le_m, zg_in, zi_T, zi_F, zg_T, zb_S, zo_N, zo_S, zs_D, nI_add, pk_mul, nI_sub2, nI_cl2, eq_self_iff_true, ln0, ln1, ln2, ln3, ln4, ln5, ln6, ln7, ln8, ln9, ln10, ln11, ln12, ln13, ln14, ln15, ln16, ln17, ln18, ln19, ln20, ln21, ln64, ln120, ln160, ln180, ln255, ln1280, ln21600, g8, g9, jl_8 ha0, jl_8 hb0]
    · simp (disch := omega) only [zi_le_t, zi_le_f, zi_lt_t, zi_lt_f, zi_eq_t, zi_eq_f, zi_eq_m, zi_lt_m, zi_le_m, zg_in, zi_T, zi_F, zg_T, zb_S, zo_N, zo_S, zs_D, nI_add, pk_mul, nI_sub2, nI_cl2, eq_self_iff_true, ln0, ln1, ln2, ln3, ln4, ln5, ln6, ln7, ln8, ln9, ln10, ln11, ln12, ln13, ln14, ln15, ln16, ln17, ln18, ln19, ln20, ln21, ln64, ln120, ln160, ln180, ln255, ln1280, ln21600, g8, g9, jl_8 ha0, jl_8 hb0]
      refine ih (m + 1) _ (by omega) (by omega) (hS.put _ _) (fun j hj => ?_)
      rw [cj_J, if_pos rfl]
      unfold vp_updL
      by_cases e1 : j = m
      · rw [if_pos e1, hS.2.2.2.2.2.2 a hab, e1]
      · rw [if_neg e1]
        exact hv j (by omega)
theorem e6_copy {a b : Nat} (ha0 : 0 < a) (hb0 : 0 < b) (hab : a ≠ b) (ha8 : cv σ 8 a = true) (hb8 : cv σ 8 b = true) : ∃ σd : CS, SJ b σ σd ∧ (∀ j, j < 8 → cj σd b j = cj σ a j) ∧ k_X6_copyNumbers σ a b = some ((), σd) := by
  unfold k_X6_copyNumbers
  exact copy_loop ha0 hb0 hab ha8 hb8 FU 0 σ (by omega) (by rw [FU_s]; omega) (SJ.rf _ _) (fun j hj => absurd hj (Nat.not_lt_zero j))
/-- kept beside, on the reference's side -/
theorem save_loop {c k : Nat} {x2 x3 : Int32} (hc8 : c < 8) (hk : k < 160) : ∀ (n m : Nat) (τc : MS), m ≤ 8 → 8 - m < n → mi τc = mi τ → mr τc = mr τ → (∀ g, g ≠ 31 → g ≠ 32 → mj τc g = mj τ g) → (∀ j, j < m → mj τc 31 j = mj τ 13 (8 * c + j) ∧ mj τc 32 j = mj τ 22 (8 * k + j)) → ∃ τd : MS, mi τd = mi τ ∧ mr τd = mr τ ∧ (∀ g, g ≠ 31 → g ≠ 32 → mj τd g = mj τ g) ∧ (∀ j, j < 8 → mj τd 31 j = mj τ 13 (8 * c + j) ∧ mj τd 32 j = mj τ 22 (8 * k + j)) ∧ k_X7_beside_l32 (nI c) x2 n τc x3 (nI k) (nI m) = zb (k_X7_runMember τd (nI c) x2) (fun r t => k_X7_beside_l113 (nI c) x2 FU t x3 (nI k) (mr τ 24 k) (mr τ 25 k) r (nI 0)) := by
  intro n
  induction n with
  | zero => intro m τc h1 h2; omega
  | succ n ih =>
    intro m τc hm hn hi hr hj hv
    rw [k_X7_beside_l32_s]
    unfold k_X7_beside_s32
    by_cases he : m = 8
    · subst he
      refine ⟨τc, hi, hr, hj, hv, ?_⟩
      simp (disch := omega) only [zi_le_t, zi_le_f, zi_lt_t, zi_lt_f, zi_eq_t, zi_eq_f, zi_eq_m, zi_lt_m, zi_le_m, zg_in, zi_T, zi_F, zg_T, zb_S, zo_N, zo_S, zs_D, nI_add, pk_mul, nI_sub2, nI_cl2, eq_self_iff_true, ln0, ln1, ln2, ln3, ln4, ln5, ln6, ln7, ln8, ln9, ln10, ln11, ln12, ln13, ln14, ln15, ln16, ln17, ln18, ln19, ln20, ln21, ln64, ln120, ln160, ln180, ln255, ln1280, ln21600, hr]
    · simp (disch := omega) only [zi_le_t, zi_le_f, zi_lt_t, zi_lt_f, zi_eq_t, zi_eq_f, zi_eq_m, zi_lt_m, zi_le_m, zg_in, zi_T, zi_F, zg_T, zb_S, zo_N, zo_S, zs_D, nI_add, pk_mul, nI_sub2, nI_cl2, eq_self_iff_true, ln0, ln1, ln2, ln3, ln4, ln5, ln6, ln7, ln8, ln9, ln10, ln11, ln12, ln13, ln14, ln15, ln16, ln17, ln18, ln19, ln20, ln21, ln64, ln120, ln160, ln180, ln255, ln1280, ln21600]
      refine ih (m + 1) _ (by omega) (by omega) hi hr (fun g h31 h32 => ?_) (fun j hj2 => ?_)
      · rw [mj_J, if_neg h32, mj_J, if_neg h31]
        exact hj g h31 h32
      · simp only [mj_J, ↓reduceIte, Nat.reduceEqDiff, reduceCtorEq, Nat.reduceAdd, Nat.reduceMul, Nat.reduceSub, eq_self_iff_true, true_and, and_true, false_and, and_false, and_self]
        unfold vp_updL
        by_cases e1 : j = m
        · rw [if_pos e1, if_pos e1, hj 13 (by decide) (by decide), hj 22 (by decide) (by decide), e1]
          exact ⟨rfl, rfl⟩
        · rw [if_neg e1, if_neg e1]
          exact hv j (by omega)
theorem back_loop {c k : Nat} {x2 x3 x5 x6 : Int32} {r : Nat} (hc8 : c < 8) (hk : k < 160) (hr7 : r ≤ 7) : ∀ (n m : Nat) (τc : MS), m ≤ 8 → 8 - m < n → mi τc = mi τ → mr τc = mr τ → (∀ g, g ≠ 13 → g ≠ 22 → mj τc g = mj τ g) → (∀ j, mj τc 13 j = if 8 * c ≤ j ∧ j < 8 * c + m then mj τ 31 (j - 8 * c) else mj τ 13 j) → (∀ j, mj τc 22 j = if 8 * k ≤ j ∧ j < 8 * k + m then mj τ 32 (j - 8 * k) else mj τ 22 j) → ∃ τd : MS, mi τd = mi τ ∧ mr τd = mr τ ∧ (∀ j, mj τd 13 j = if 8 * c ≤ j ∧ j < 8 * c + 8 then mj τ 31 (j - 8 * c) else mj τ 13 j) ∧ (∀ j, mj τd 22 j = if 8 * k ≤ j ∧ j < 8 * k + 8 then mj τ 32 (j - 8 * k) else mj τ 22 j) ∧ k_X7_beside_l113 (nI c) x2 n τc x3 (nI k) x5 x6 (nI r) (nI m) = some (nI (if r = 0 then 1 else 10 + r), mR (mR τd 24 k x5) 25 k x6) := by
  intro n
  induction n with
  | zero => intro m τc h1 h2; omega
  | succ n ih =>
    intro m τc hm hn hi hr hj hv hw
    rw [k_X7_beside_l113_s]
    unfold k_X7_beside_s113 k_X7_beside_b197
    by_cases he : m = 8
    · subst he
      refine ⟨τc, hi, hr, hv, hw, ?_⟩
      by_cases hr0 : r = 0
      · subst hr0
        simp (disch := omega) only [zi_le_t, zi_le_f, zi_lt_t, zi_lt_f, zi_eq_t, zi_eq_f, zi_eq_m, zi_lt_m, zi_le_m, zg_in, zi_T, zi_F, zg_T, zb_S, zo_N, zo_S, zs_D, nI_add, pk_mul, nI_sub2, nI_cl2, eq_self_iff_true, ln0, ln1, ln2, ln3, ln4, ln5, ln6, ln7, ln8, ln9, ln10, ln11, ln12, ln13, ln14, ln15, ln16, ln17, ln18, ln19, ln20, ln21, ln64, ln120, ln160, ln180, ln255, ln1280, ln21600, ↓reduceIte, Nat.reduceEqDiff, reduceCtorEq, Nat.reduceAdd, Nat.reduceMul, Nat.reduceSub, eq_self_iff_true, true_and, and_true, false_and, and_false, and_self]
      · have n0 : 0 < r := by omega
        simp (disch := omega) only [zi_le_t, zi_le_f, zi_lt_t, zi_lt_f, zi_eq_t, zi_eq_f, zi_eq_m, zi_lt_m, zi_le_m, zg_in, zi_T, zi_F, zg_T, zb_S, zo_N, zo_S, zs_D, nI_add, pk_mul, nI_sub2, nI_cl2, eq_self_iff_true, ln0, ln1, ln2, ln3, ln4, ln5, ln6, ln7, ln8, ln9, ln10, ln11, ln12, ln13, ln14, ln15, ln16, ln17, ln18, ln19, ln20, ln21, ln64, ln120, ln160, ln180, ln255, ln1280, ln21600, ↓reduceIte, Nat.reduceEqDiff, reduceCtorEq, Nat.reduceAdd, Nat.reduceMul, Nat.reduceSub, eq_self_iff_true, true_and, and_true, false_and, and_false, and_self, hr0]
    · simp (disch := omega) only [zi_le_t, zi_le_f, zi_lt_t, zi_lt_f, zi_eq_t, zi_eq_f, zi_eq_m, zi_lt_m, zi_le_m, zg_in, zi_T, zi_F, zg_T, zb_S, zo_N, zo_S, zs_D, nI_add, pk_mul, nI_sub2, nI_cl2, eq_self_iff_true, ln0, ln1, ln2, ln3, ln4, ln5, ln6, ln7, ln8, ln9, ln10, ln11, ln12, ln13, ln14, ln15, ln16, ln17, ln18, ln19, ln20, ln21, ln64, ln120, ln160, ln180, ln255, ln1280, ln21600]
      refine ih (m + 1) _ (by omega) (by omega) hi hr (fun g h13 h22 => ?_) (fun j => ?_) (fun j => ?_)
      · rw [mj_J, if_neg h22, mj_J, if_neg h13]
        exact hj g h13 h22
      · simp only [mj_J, ↓reduceIte, Nat.reduceEqDiff, reduceCtorEq, Nat.reduceAdd, Nat.reduceMul, Nat.reduceSub, eq_self_iff_true, true_and, and_true, false_and, and_false, and_self]
        unfold vp_updL
        by_cases e1 : j = 8 * c + m
        · rw [if_pos e1, if_pos (by omega), hj 31 (by decide) (by decide), e1, Nat.add_sub_cancel_left]
        · rw [if_neg e1, hv j]
          by_cases e2 : 8 * c ≤ j ∧ j < 8 * c + m
          · rw [if_pos e2, if_pos (by omega)]
          · rw [if_neg e2, if_neg (by omega)]
      · simp only [mj_J, ↓reduceIte, Nat.reduceEqDiff, reduceCtorEq, Nat.reduceAdd, Nat.reduceMul, Nat.reduceSub, eq_self_iff_true, true_and, and_true, false_and, and_false, and_self]
        unfold vp_updL
        by_cases e1 : j = 8 * k + m
        · rw [if_pos e1, if_pos (by omega), hj 32 (by decide) (by decide), e1, Nat.add_sub_cancel_left]
        · rw [if_neg e1, hw j]
          by_cases e2 : 8 * k ≤ j ∧ j < 8 * k + m
          · rw [if_pos e2, if_pos (by omega)]
          · rw [if_neg e2, if_neg (by omega)]
theorem sim_beside (hN : N + 20 < 2147483648) (hR : Rel N σ τ) (x y : Int32) : Sim (N + 20) (k_X6_beside σ x y) (k_X7_beside τ x y) := by
  have hR := hR.thrown 0
  unfold k_X7_beside
  generalize mI τ 0 0 = τ at hR ⊢
  obtain ⟨S, R, B, C, E, hC, hA⟩ := id hR
  obtain ⟨hV, hG, hU, hE, hc, hk⟩ := id hA
  unfold k_X6_beside
  have hR20 : R ≤ 20 := hG.2.2.2.2.2.2.2.2.1
  rcases bar_no hA x y with ⟨n, hn, h1, h2⟩ | ⟨c, i, hc8, hi, rfl, rfl, hy, u14, u23, u21, u601, hb⟩
  · rcases hn with rfl | rfl
    · simp (disch := omega) only [zi_le_t, zi_le_f, zi_lt_t, zi_lt_f, zi_eq_t, zi_eq_f, zi_eq_m, zi_lt_m, zi_le_m, zg_in, zi_T, zi_F, zg_T, zb_S, zo_N, zo_S, zs_D, nI_add, pk_mul, nI_sub2, nI_cl2, eq_self_iff_true, ln0, ln1, ln2, ln3, ln4, ln5, ln6, ln7, ln8, ln9, ln10, ln11, ln12, ln13, ln14, ln15, ln16, ln17, ln18, ln19, ln20, ln21, ln64, ln120, ln160, ln180, ln255, ln1280, ln21600, hV.1, h1, h2, e7_ref]
      exact sim_refd (hR.mono (by omega)) _
    · simp (disch := omega) only [zi_le_t, zi_le_f, zi_lt_t, zi_lt_f, zi_eq_t, zi_eq_f, zi_eq_m, zi_lt_m, zi_le_m, zg_in, zi_T, zi_F, zg_T, zb_S, zo_N, zo_S, zs_D, nI_add, pk_mul, nI_sub2, nI_cl2, eq_self_iff_true, ln0, ln1, ln2, ln3, ln4, ln5, ln6, ln7, ln8, ln9, ln10, ln11, ln12, ln13, ln14, ln15, ln16, ln17, ln18, ln19, ln20, ln21, ln64, ln120, ln160, ln180, ln255, ln1280, ln21600, hV.1, h1, h2, e7_ref]
      exact sim_refd (hR.mono (by omega)) _
  · obtain ⟨w1, w2, w3, w4, len, rs, rl, w5, w6, w7, w8, w9, w10, w11, w12⟩ := hE i hi
    obtain ⟨r1, r2, r3, r4, r5, r6, r7, r8, r9⟩ := hc c hc8
    have hpl : pl E i ≤ 179 := by unfold pl; omega
    have hq9 : cv σ 9 (4 + 3 * i) = true := (hV.2.2.2.2.2.2.2.2.1 i hi).2.2.1
    have s603 : ci σ 603 (20 * c + i) = nI 0 := by rw [hy.2.2.2.2.1]; exact u23
    obtain ⟨σa, ⟨a1, a2, a3, a4, a5, a6, a7⟩, av, ae⟩ := e6_copy (σ := σ) (a := 3 + c) (b := 1) (by omega) (by omega) (by omega) (hV.v8 (by omega)) (hV.v8 (by omega))
    obtain ⟨σb, ⟨b1, b2, b3, b4, b5, b6, b7⟩, bv, be⟩ := e6_copy (σ := σa) (a := 11 + (20 * c + i)) (b := 2) (by omega) (by omega) (by omega) (by rw [a4]; exact hy.2.1) (by rw [a4]; exact hV.v8 (by omega))
    obtain ⟨τs, t1, t2, t3, t4, te⟩ := save_loop (τ := τ) (c := c) (k := 20 * c + i) (x2 := nI (i + 1)) (x3 := nI 0) hc8 (by omega) FU 0 τ (by omega) (by rw [FU_s]; omega) rfl rfl (fun _ _ _ => rfl) (fun j hj => absurd hj (Nat.not_lt_zero j))
    have hAs : RelA S R B C E σb τs := hA.free (Nat.le_refl _) (b4.trans a4) (b2.trans a2) (b3.trans a3) (b5.trans a5) (fun f j _ => by rw [b1, a1]) (fun r h0 h1 h2 => by rw [b7 r h2, a7 r h1]) (fun f _ _ _ _ => by rw [t1]) (by rw [t1]; exact hG.2.2.2.2.2.2.2.2.2.2) (fun g _ _ => by rw [t2]) (fun j => by rw [t2]; exact ⟨rfl, rfl⟩) (fun j => by rw [t3 13 (by decide) (by decide)]) (fun j => by rw [t3 22 (by decide) (by decide)])
    have hd : CRd 1 2 c (20 * c + i) σb τs := by
      refine ⟨fun p hp => ?_, fun j hj => ?_⟩
      · rw [b7 1 (by decide), av p hp, t3 13 (by decide) (by decide)]
        exact r9 p hp
      · rw [bv j hj, a7 _ (by omega), t3 22 (by decide) (by decide)]
        exact hy.2.2.2.2.2.2.1 j hj
    have w11' : RB σb τs (4 + 3 * i) rl (120 * pl E i + rs) := by
      unfold RB
      rw [b3, a3, b2, a2, t2]
      exact w11
    obtain ⟨r, P, σ1, τ1, hr7, e1, e2, e3⟩ := go_sim hAs (a := 1) (b := 2) (q := 4 + 3 * i) (fr := rs) (len := rl) (by omega) (by omega) (by omega) hc8 hi (by rw [t2]; exact u21) (by rw [b4, a4]; exact hq9) w11' (by omega) (by rw [b4, a4]; exact hV.v8 (by omega)) (by rw [b4, a4]; exact hV.v8 (by omega)) hd (by omega)
    obtain ⟨⟨⟨f1, f2, f3, f4, f5, f6⟩, m1, m2, m3, m4, m5, m6⟩, hh, hd9, hst, hgv⟩ := id e3
    obtain ⟨τd, d1, d2, d3, d4, d5⟩ := back_loop (τ := τ1) (c := c) (k := 20 * c + i) (x2 := nI (i + 1)) (x3 := nI 0) (x5 := mr τ 24 (20 * c + i)) (x6 := mr τ 25 (20 * c + i)) hc8 (by omega) hr7 FU 0 τ1 (by omega) (by rw [FU_s]; omega) rfl rfl (fun _ _ _ => rfl) (fun j => by rw [if_neg (by omega)]) (fun j => by rw [if_neg (by omega)])
    have hm : k_X7_runMember τs (nI c) (nI (i + 1)) = some (nI r, τ1) := by
      rw [k_X7_runMember]
      have hpl2 : 9 * i + (E i - 1) = pl E i := rfl
      simp (disch := omega) only [zi_le_t, zi_le_f, zi_lt_t, zi_lt_f, zi_eq_t, zi_eq_f, zi_eq_m, zi_lt_m, zi_le_m, zg_in, zi_T, zi_F, zg_T, zb_S, zo_N, zo_S, zs_D, nI_add, pk_mul, nI_sub2, nI_cl2, eq_self_iff_true, ln0, ln1, ln2, ln3, ln4, ln5, ln6, ln7, ln8, ln9, ln10, ln11, ln12, ln13, ln14, ln15, ln16, ln17, ln18, ln19, ln20, ln21, ln64, ln120, ln160, ln180, ln255, ln1280, ln21600, e7_at, t2, u21, e7_pl w1, hpl2, w8, w9, e2]
    have hcr : k_X6_callRun σ (nI c) (nI (i + 1)) (nI 1) = some (nI (if r = 0 then 1 else 10 + r), cI σ1 108 0 (nI P)) := by
      rw [k_X6_callRun]
      simp (disch := omega) only [zi_le_t, zi_le_f, zi_lt_t, zi_lt_f, zi_eq_t, zi_eq_f, zi_eq_m, zi_lt_m, zi_le_m, zg_in, zi_T, zi_F, zg_T, zb_S, zo_N, zo_S, zs_D, nI_add, pk_mul, nI_sub2, nI_cl2, eq_self_iff_true, ln0, ln1, ln2, ln3, ln4, ln5, ln6, ln7, ln8, ln9, ln10, ln11, ln12, ln13, ln14, ln15, ln16, ln17, ln18, ln19, ln20, ln21, ln64, ln120, ln160, ln180, ln255, ln1280, ln21600, hV.1, hV.2.1, hV.v4 hc8, hV.v7 hi, e6_ctrl hV hc8, e6_new_y hV hi hR20, e6_cls_y hV hc8 (show i < 20 by omega) hy.1, r1, u14, hy.1, s603, u601, w3]
      rw [k_X5_goOnCopies]
      have v0 : cv σ 1 0 = true := hV.2.1
      have va : cv σa 1 0 = true := by rw [a4]; exact v0
      have vb : cv σb 1 0 = true := by rw [b4]; exact va
      simp (disch := omega) only [zi_le_t, zi_le_f, zi_lt_t, zi_lt_f, zi_eq_t, zi_eq_f, zi_eq_m, zi_lt_m, zi_le_m, zg_in, zi_T, zi_F, zg_T, zb_S, zo_N, zo_S, zs_D, nI_add, pk_mul, nI_sub2, nI_cl2, eq_self_iff_true, ln0, ln1, ln2, ln3, ln4, ln5, ln6, ln7, ln8, ln9, ln10, ln11, ln12, ln13, ln14, ln15, ln16, ln17, ln18, ln19, ln20, ln21, ln64, ln120, ln160, ln180, ln255, ln1280, ln21600, v0, va, vb, ae, be, hG.1, e1]
      unfold k_X6_callRun_b142 k_X6_callRun_b156
      by_cases hr0 : r = 0
      · subst hr0
        simp (disch := omega) only [zi_le_t, zi_le_f, zi_lt_t, zi_lt_f, zi_eq_t, zi_eq_f, zi_eq_m, zi_lt_m, zi_le_m, zg_in, zi_T, zi_F, zg_T, zb_S, zo_N, zo_S, zs_D, nI_add, pk_mul, nI_sub2, nI_cl2, eq_self_iff_true, ln0, ln1, ln2, ln3, ln4, ln5, ln6, ln7, ln8, ln9, ln10, ln11, ln12, ln13, ln14, ln15, ln16, ln17, ln18, ln19, ln20, ln21, ln64, ln120, ln160, ln180, ln255, ln1280, ln21600, ↓reduceIte, Nat.reduceEqDiff, reduceCtorEq, Nat.reduceAdd, Nat.reduceMul, Nat.reduceSub, eq_self_iff_true, true_and, and_true, false_and, and_false, and_self]
      · have n0 : 0 < r := by omega
        simp (disch := omega) only [zi_le_t, zi_le_f, zi_lt_t, zi_lt_f, zi_eq_t, zi_eq_f, zi_eq_m, zi_lt_m, zi_le_m, zg_in, zi_T, zi_F, zg_T, zb_S, zo_N, zo_S, zs_D, nI_add, pk_mul, nI_sub2, nI_cl2, eq_self_iff_true, ln0, ln1, ln2, ln3, ln4, ln5, ln6, ln7, ln8, ln9, ln10, ln11, ln12, ln13, ln14, ln15, ln16, ln17, ln18, ln19, ln20, ln21, ln64, ln120, ln160, ln180, ln255, ln1280, ln21600, ↓reduceIte, Nat.reduceEqDiff, reduceCtorEq, Nat.reduceAdd, Nat.reduceMul, Nat.reduceSub, eq_self_iff_true, true_and, and_true, false_and, and_false, and_self, hr0]
    refine ⟨nI (if r = 0 then 1 else 10 + r), cI σ1 108 0 (nI P), mR (mR τd 24 (20 * c + i) (mr τ 24 (20 * c + i))) 25 (20 * c + i) (mr τ 25 (20 * c + i)), ?_, ?_, ⟨S, R, B, C + 1, E, ?_, ?_⟩⟩
    · simp (disch := omega) only [zi_le_t, zi_le_f, zi_lt_t, zi_lt_f, zi_eq_t, zi_eq_f, zi_eq_m, zi_lt_m, zi_le_m, zg_in, zi_T, zi_F, zg_T, zb_S, zo_N, zo_S, zs_D, nI_add, pk_mul, nI_sub2, nI_cl2, eq_self_iff_true, ln0, ln1, ln2, ln3, ln4, ln5, ln6, ln7, ln8, ln9, ln10, ln11, ln12, ln13, ln14, ln15, ln16, ln17, ln18, ln19, ln20, ln21, ln64, ln120, ln160, ln180, ln255, ln1280, ln21600, hV.1, hcr]
    · simp (disch := omega) only [zi_le_t, zi_le_f, zi_lt_t, zi_lt_f, zi_eq_t, zi_eq_f, zi_eq_m, zi_lt_m, zi_le_m, zg_in, zi_T, zi_F, zg_T, zb_S, zo_N, zo_S, zs_D, nI_add, pk_mul, nI_sub2, nI_cl2, eq_self_iff_true, ln0, ln1, ln2, ln3, ln4, ln5, ln6, ln7, ln8, ln9, ln10, ln11, ln12, ln13, ln14, ln15, ln16, ln17, ln18, ln19, ln20, ln21, ln64, ln120, ln160, ln180, ln255, ln1280, ln21600, hb, e7_at, te, hm, d5]
    · omega
    · refine hA.free (C' := C + 1) (by omega) (f1.trans (b4.trans a4)) (f2.trans (b2.trans a2)) (f3.trans (b3.trans a3)) (f4.trans (b5.trans a5)) (fun f j hf => ?_) (fun r h0 h1 h2 => ?_) (fun f h26 h28 h29 h30 => ?_) ?_ (fun g h24 h25 => ?_) (fun j => ?_) (fun j => ?_) (fun j => ?_)
      · rw [ci_I, if_neg (by omega), f5 f j hf, b1, a1]
      · rw [cj_I, f6 r h0 h1 h2, b7 r h2, a7 r h1]
      · rw [mi_R, mi_R, d1, m1 f h28 h29 h30, mi_I, if_neg h26, t1]
      · rw [mi_R, mi_R, d1, m1 26 (by decide) (by decide) (by decide), mi_I, if_pos rfl]
      · rw [mr_R, if_neg h25, mr_R, if_neg h24, d2, m2 g h24 h25]
        exact congrFun t2 g
      · have c24 : mr (mI τs 26 (nI (C + 1))) 24 j = mr τ 24 j := congrFun (congrFun t2 24) j
        have c25 : mr (mI τs 26 (nI (C + 1))) 25 j = mr τ 25 j := congrFun (congrFun t2 25) j
        simp only [mr_R, ↓reduceIte, Nat.reduceEqDiff, reduceCtorEq, Nat.reduceAdd, Nat.reduceMul, Nat.reduceSub, eq_self_iff_true, true_and, and_true, false_and, and_false, and_self]
        unfold upd
        by_cases e : j = 20 * c + i
        · rw [if_pos e, if_pos e, e]
          exact ⟨rfl, rfl⟩
        · obtain ⟨j1, j2⟩ := m3 j e
          rw [if_neg e, if_neg e, d2, j1, j2]
          exact ⟨c24, c25⟩
      · rw [mj_R, mj_R, d3]
        have h13 : mj (mI τs 26 (nI (C + 1))) 13 = mj τ 13 := t3 13 (by decide) (by decide)
        by_cases e : 8 * c ≤ j ∧ j < 8 * c + 8
        · rw [if_pos e, m4 31 (by decide) (by decide) (by decide)]
          have := (t4 (j - 8 * c) (by omega)).1
          rw [show 8 * c + (j - 8 * c) = j by omega] at this
          exact this
        · rw [if_neg e, m5 j (by omega), h13]
      · rw [mj_R, mj_R, d4]
        have h22 : mj (mI τs 26 (nI (C + 1))) 22 = mj τ 22 := t3 22 (by decide) (by decide)
        by_cases e : 8 * (20 * c + i) ≤ j ∧ j < 8 * (20 * c + i) + 8
        · rw [if_pos e, m4 32 (by decide) (by decide) (by decide)]
          have := (t4 (j - 8 * (20 * c + i)) (by omega)).2
          rw [show 8 * (20 * c + i) + (j - 8 * (20 * c + i)) = j by omega] at this
          exact this
        · rw [if_neg e, m6 j (by omega), h22]
end BESIDE
