/-! ===== the short loops of both sides ===== -/
/-- all but one row of longs is as it was -/
def SJ (a : Nat) (σ σ' : CS) : Prop := ci σ' = ci σ ∧ cb σ' = cb σ ∧ cbl σ' = cbl σ ∧ cv σ' = cv σ ∧ cs σ' = cs σ ∧ cr σ' = cr σ ∧ ∀ b, b ≠ a → cj σ' b = cj σ b
def TJ (f : Nat) (τ τ' : MS) : Prop := mi τ' = mi τ ∧ mr τ' = mr τ ∧ ∀ g, g ≠ f → mj τ' g = mj τ g
theorem SJ.rf (a : Nat) (σ : CS) : SJ a σ σ := ⟨rfl, rfl, rfl, rfl, rfl, rfl, fun _ _ => rfl⟩
theorem SJ.put {a : Nat} {σ σ' : CS} (h : SJ a σ σ') (j : Nat) (v : Int64) : SJ a σ (cJ σ' a j v) := by
  obtain ⟨h1, h2, h3, h4, h5, h6, h7⟩ := h
  refine ⟨h1, h2, h3, h4, h5, h6, fun b hb => ?_⟩
  rw [cj_J, if_neg hb]
  exact h7 b hb
theorem TJ.rf (f : Nat) (τ : MS) : TJ f τ τ := ⟨rfl, rfl, fun _ _ => rfl⟩
theorem TJ.put {f : Nat} {τ τ' : MS} (h : TJ f τ τ') (j : Nat) (v : Int64) : TJ f τ (mJ τ' f j v) := by
  obtain ⟨h1, h2, h3⟩ := h
  refine ⟨h1, h2, fun b hb => ?_⟩
  rw [mj_J, if_neg hb]
  exact h3 b hb
theorem FU_s : FU = 69999 + 1 := rfl
section LOOPS
variable {S R B C N : Nat} {E : Nat → Nat} {σ : CS} {τ : MS}
theorem anew_loop {k : Nat} {e : Int32} {car : Nat} (hcar : car ≤ 8) (h6 : cv σ 6 k = true) (h8 : cv σ 8 (11 + k) = true) : ∀ (n m : Nat) (σc : CS), m ≤ 8 → 8 - m < n → SJ (11 + k) σ σc → (∀ j, j < 8 → cj σc (11 + k) j = if j < m then (if j < car then cj σ (11 + k) j else 0) else cj σ (11 + k) j) → ∃ σd : CS, SJ (11 + k) σ σd ∧ (∀ j, j < 8 → cj σd (11 + k) j = if j < car then cj σ (11 + k) j else 0) ∧ k_X4_becomeAnew_l2 k e (nI car) n σc (nI m) = some ((), cI (cI (cI σd 601 k e) 602 k (-nI 1)) 603 k (nI 0)) := by
  intro n
  induction n with
  | zero => intro m σc h1 h2; omega
  | succ n ih =>
    intro m σc hm hn hS hv
    rw [k_X4_becomeAnew_l2_s]
    unfold k_X4_becomeAnew_s2 k_X4_becomeAnew_b31
    have g6 : cv σc 6 k = true := by rw [hS.2.2.2.1]; exact h6
    have g8 : cv σc 8 (11 + k) = true := by rw [hS.2.2.2.1]; exact h8
    by_cases he : m = 8
    · subst he
      refine ⟨σc, hS, fun j hj => by rw [hv j hj, if_pos hj], ?_⟩
      simp (disch := omega) only [zi_le_t, zi_le_f, zi_lt_t, zi_lt_f, zi_eq_t, zi_eq_f, zi_eq_m, zi_lt_m, zi_le_m, zg_in, zi_T, zi_F, zg_T, zb_S, zo_N, zo_S, zs_D, nI_add, pk_mul, nI_sub2, nI_cl2, eq_self_iff_true, ln0, ln1, ln2, ln3, ln4, ln5, ln6, ln7, ln8, ln9, ln10, ln11, ln12, ln13, ln14, ln15, ln16, ln17, ln18, ln19, ln20, ln21, ln64, ln120, ln160, ln180, ln255, ln1280, ln21600, g6, g8, jl_8 (show 0 < 11 + k by omega)]
    · by_cases hc : m < car
      · simp (disch := omega) only [zi_le_t, zi_le_f, zi_lt_t, zi_lt_f, zi_eq_t, zi_eq_f, zi_eq_m, zi_lt_m, zi_le_m, zg_in, zi_T, zi_F, zg_T, zb_S, zo_N, zo_S, zs_D, nI_add, pk_mul, nI_sub2, nI_cl2, eq_self_iff_true, ln0, ln1, ln2, ln3, ln4, ln5, ln6, ln7, ln8, ln9, ln10, ln11, ln12, ln13, ln14, ln15, ln16, ln17, ln18, ln19, ln20, ln21, ln64, ln120, ln160, ln180, ln255, ln1280, ln21600, g6, g8, jl_8 (show 0 < 11 + k by omega)]
        refine ih (m + 1) _ (by omega) (by omega) (hS.put _ _) (fun j hj => ?_)
        rw [cj_J, if_pos rfl]
        unfold vp_updL
        by_cases e1 : j = m
        · subst e1
          rw [if_pos rfl, if_pos (by omega), if_pos hc, hv j hj, if_neg (by omega)]
        · rw [if_neg e1, hv j hj]
          by_cases e2 : j < m
          · rw [if_pos e2, if_pos (show j < m + 1 by omega)]
          · rw [if_neg e2, if_neg (show ¬ j < m + 1 by omega)]
      · simp (disch := omega) only [zi_le_t, zi_le_f, zi_lt_t, zi_lt_f, zi_eq_t, zi_eq_f, zi_eq_m, zi_lt_m, zi_le_m, zg_in, zi_T, zi_F, zg_T, zb_S, zo_N, zo_S, zs_D, nI_add, pk_mul, nI_sub2, nI_cl2, eq_self_iff_true, ln0, ln1, ln2, ln3, ln4, ln5, ln6, ln7, ln8, ln9, ln10, ln11, ln12, ln13, ln14, ln15, ln16, ln17, ln18, ln19, ln20, ln21, ln64, ln120, ln160, ln180, ln255, ln1280, ln21600, g6, g8, jl_8 (show 0 < 11 + k by omega)]
        refine ih (m + 1) _ (by omega) (by omega) (hS.put _ _) (fun j hj => ?_)
        rw [cj_J, if_pos rfl]
        unfold vp_updL
        by_cases e1 : j = m
        · subst e1
          rw [if_pos rfl, if_pos (by omega), if_neg hc]
        · rw [if_neg e1, hv j hj]
          by_cases e2 : j < m
          · rw [if_pos e2, if_pos (show j < m + 1 by omega)]
          · rw [if_neg e2, if_neg (show ¬ j < m + 1 by omega)]
theorem e6_anew {k : Nat} (e : Int32) {car : Nat} (hcar : car ≤ 8) (h6 : cv σ 6 k = true) (h8 : cv σ 8 (11 + k) = true) : ∃ σd : CS, SJ (11 + k) σ σd ∧ (∀ j, j < 8 → cj σd (11 + k) j = if j < car then cj σ (11 + k) j else 0) ∧ k_X4_becomeAnew σ k e (nI car) = some ((), cI (cI (cI σd 601 k e) 602 k (-nI 1)) 603 k (nI 0)) := by
  unfold k_X4_becomeAnew
  exact anew_loop hcar h6 h8 FU 0 σ (by omega) (by rw [FU_s]; omega) (SJ.rf _ _) (fun j _ => by rw [if_neg (Nat.not_lt_zero j)])
theorem renew_loop {k : Nat} {r : Int32} {c0 : Int32} {car : Nat} (hk : k < 160) (hcar : car ≤ 8) : ∀ (n m : Nat) (τc : MS), car ≤ m → m ≤ 8 → 8 - m < n → TJ 22 τ τc → (∀ j, mj τc 22 j = if 8 * k + car ≤ j ∧ j < 8 * k + m then 0 else mj τ 22 j) → ∃ τd : MS, TJ 22 τ τd ∧ (∀ j, mj τd 22 j = if 8 * k + car ≤ j ∧ j < 8 * k + 8 then 0 else mj τ 22 j) ∧ k_X7_renew_l15 (nI k) r c0 n τc (nI m) = some ((), mR (mR τd 23 k (nI 0)) 24 k (-nI 1)) := by
  intro n
  induction n with
  | zero => intro m σc h1 h2; omega
  | succ n ih =>
    intro m τc hcm hm hn hS hv
    rw [k_X7_renew_l15_s]
    unfold k_X7_renew_s15
    by_cases he : m = 8
    · subst he
      refine ⟨τc, hS, hv, ?_⟩
      have hb : vp_nar .boolean (nI 0) = nI 0 := by decide
      simp (disch := omega) only [zi_le_t, zi_le_f, zi_lt_t, zi_lt_f, zi_eq_t, zi_eq_f, zi_eq_m, zi_lt_m, zi_le_m, zg_in, zi_T, zi_F, zg_T, zb_S, zo_N, zo_S, zs_D, nI_add, pk_mul, nI_sub2, nI_cl2, eq_self_iff_true, ln0, ln1, ln2, ln3, ln4, ln5, ln6, ln7, ln8, ln9, ln10, ln11, ln12, ln13, ln14, ln15, ln16, ln17, ln18, ln19, ln20, ln21, ln64, ln120, ln160, ln180, ln255, ln1280, ln21600, hb]
    · simp (disch := omega) only [zi_le_t, zi_le_f, zi_lt_t, zi_lt_f, zi_eq_t, zi_eq_f, zi_eq_m, zi_lt_m, zi_le_m, zg_in, zi_T, zi_F, zg_T, zb_S, zo_N, zo_S, zs_D, nI_add, pk_mul, nI_sub2, nI_cl2, eq_self_iff_true, ln0, ln1, ln2, ln3, ln4, ln5, ln6, ln7, ln8, ln9, ln10, ln11, ln12, ln13, ln14, ln15, ln16, ln17, ln18, ln19, ln20, ln21, ln64, ln120, ln160, ln180, ln255, ln1280, ln21600]
      refine ih (m + 1) _ (by omega) (by omega) (by omega) (hS.put _ _) (fun j => ?_)
      rw [mj_J, if_pos rfl]
      unfold vp_updL
      by_cases e1 : j = 8 * k + m
      · rw [if_pos e1, if_pos (by omega)]
      · rw [if_neg e1, hv j]
        by_cases e2 : 8 * k + car ≤ j ∧ j < 8 * k + m
        · rw [if_pos e2, if_pos (by omega)]
        · rw [if_neg e2, if_neg (by omega)]
theorem e7_renew {k r car : Nat} (hk : k < 160) (hr : r < 21) (hcar : car ≤ 8) : ∃ τd : MS, TJ 22 (mR τ 21 k (mr τ 6 r)) τd ∧ (∀ j, mj τd 22 j = if 8 * k + car ≤ j ∧ j < 8 * k + 8 then 0 else mj τ 22 j) ∧ k_X7_renew τ (nI k) (nI r) (nI car) = some ((), mR (mR τd 23 k (nI 0)) 24 k (-nI 1)) := by
  unfold k_X7_renew
  simp (disch := omega) only [zi_le_t, zi_le_f, zi_lt_t, zi_lt_f, zi_eq_t, zi_eq_f, zi_eq_m, zi_lt_m, zi_le_m, zg_in, zi_T, zi_F, zg_T, zb_S, zo_N, zo_S, zs_D, nI_add, pk_mul, nI_sub2, nI_cl2, eq_self_iff_true, ln0, ln1, ln2, ln3, ln4, ln5, ln6, ln7, ln8, ln9, ln10, ln11, ln12, ln13, ln14, ln15, ln16, ln17, ln18, ln19, ln20, ln21, ln64, ln120, ln160, ln180, ln255, ln1280, ln21600]
  exact renew_loop (τ := mR τ 21 k (mr τ 6 r)) hk hcar FU car _ (Nat.le_refl _) hcar (by rw [FU_s]; omega) (TJ.rf _ _) (fun j => by rw [if_neg (by omega)])
/-- a class anew, on both sides -/
theorem RelA.renew (hA : RelA S R B C E σ τ) {c i car : Nat} (hc8 : c < 8) (hi : i < R) (hcar : car ≤ 8) (hy : RKy R σ τ (20 * c + i) i) {σd : CS} {τd : MS} (h1 : SJ (11 + (20 * c + i)) σ σd) (h2 : ∀ j, j < 8 → cj σd (11 + (20 * c + i)) j = if j < car then cj σ (11 + (20 * c + i)) j else 0)
    (h3 : TJ 22 (mR τ 21 (20 * c + i) (mr τ 6 (i + 1))) τd) (h4 : ∀ j, mj τd 22 j = if 8 * (20 * c + i) + car ≤ j ∧ j < 8 * (20 * c + i) + 8 then 0 else mj τ 22 j) :
    RelA S R B C E (cI (cI (cI σd 601 (20 * c + i) (ci σ 700 i)) 602 (20 * c + i) (-nI 1)) 603 (20 * c + i) (nI 0)) (mR (mR τd 23 (20 * c + i) (nI 0)) 24 (20 * c + i) (-nI 1)) := by
  obtain ⟨hV, hG, hU, hE, hc, hk⟩ := hA
  obtain ⟨a1, a2, a3, a4, a5, a6, a7⟩ := h1
  obtain ⟨b1, b2, b3⟩ := h3
  have hR20 : R ≤ 20 := hG.2.2.2.2.2.2.2.2.1
  have d4 : ∀ g, g ≠ 21 → mr τd g = mr τ g := fun g hg => by rw [b2, mr_R, if_neg hg]
  have d5 : mr τd 21 = upd (mr τ 21) (20 * c + i) (mr τ 6 (i + 1)) := by rw [b2, mr_R, if_pos rfl]
  have d6 : mi τd = mi τ := b1
  have d7 : ∀ g, g ≠ 22 → mj τd g = mj τ g := fun g hg => by rw [b3 g hg]; rfl
  refine ⟨?_, ?_, ?_, ?_, ?_, ?_⟩
  · unfold RV
    simp only [cv_I, cbl_I, cs_I, a3, a4, a5]
    exact hV
  · unfold RG
    simp only [ci_I, a1, mi_R, d6, ↓reduceIte, Nat.reduceEqDiff, reduceCtorEq, Nat.reduceAdd, Nat.reduceMul, Nat.reduceSub, eq_self_iff_true, true_and, and_true, false_and, and_false, and_self]
    exact hG
  · intro j hj
    simp only [cb_I, a2, mr_R, d4 4 (by decide), ↓reduceIte, Nat.reduceEqDiff, reduceCtorEq, Nat.reduceAdd, Nat.reduceMul, Nat.reduceSub, eq_self_iff_true, true_and, and_true, false_and, and_false, and_self]
    exact hU j hj
  · intro i' hi'
    have h := hE i' hi'
    unfold RE RB at h ⊢
    simp only [ci_I, cbl_I, cb_I, cs_I, a1, a2, a3, a5, mr_R, d4 6 (by decide), d4 7 (by decide), d4 8 (by decide), d4 9 (by decide), d4 10 (by decide), d4 11 (by decide), d4 12 (by decide), ↓reduceIte, Nat.reduceEqDiff, reduceCtorEq, Nat.reduceAdd, Nat.reduceMul, Nat.reduceSub, eq_self_iff_true, true_and, and_true, false_and, and_false, and_self]
    exact h
  · intro c' hc'
    have h := hc c' hc'
    unfold RC at h ⊢
    simp only [ci_I, cj_I, a1, mr_R, mj_R, d4 14 (by decide), d4 15 (by decide), d4 16 (by decide), d4 17 (by decide), d4 18 (by decide), d4 19 (by decide), d4 20 (by decide), d7 13 (by decide), ↓reduceIte, Nat.reduceEqDiff, reduceCtorEq, Nat.reduceAdd, Nat.reduceMul, Nat.reduceSub, eq_self_iff_true, true_and, and_true, false_and, and_false, and_self]
    obtain ⟨r1, r2, r3, r4, r5, r6, r7, r8, r9⟩ := h
    refine ⟨r1, r2, r3, r4, r5, r6, r7, r8, fun p hp => ?_⟩
    rw [a7 _ (by omega)]
    exact r9 p hp
  · intro c' i' hc' hi'
    obtain ⟨hq, q, hqC, hq2⟩ := hk c' i' hc' hi'
    have e25 : mr (mR (mR τd 23 (20 * c + i) (nI 0)) 24 (20 * c + i) (-nI 1)) 25 = mr τ 25 := by simp only [mr_R, d4 25 (by decide), ↓reduceIte, Nat.reduceEqDiff, reduceCtorEq, Nat.reduceAdd, Nat.reduceMul, Nat.reduceSub, eq_self_iff_true, true_and, and_true, false_and, and_false, and_self]
    refine ⟨?_, q, hqC, by rw [e25]; exact hq2⟩
    by_cases e : 20 * c' + i' = 20 * c + i
    · have ec : c' = c := by omega
      have ei : i' = i := by omega
      subst ec
      subst ei
      right
      obtain ⟨k1, k2, k3, ⟨e0, k4, k5, k6, k7⟩, k8, k9, k10, k11⟩ := hy
      obtain ⟨w1, w2, w3, w4, w5⟩ := hE i' hi
      unfold RKy
      simp only [cv_I, ci_I, cj_I, a4, a1, mr_R, mj_R, d5, upd, ↓reduceIte, Nat.reduceEqDiff, reduceCtorEq, Nat.reduceAdd, Nat.reduceMul, Nat.reduceSub, eq_self_iff_true, true_and, and_true, false_and, and_false, and_self]
      refine ⟨k1, k2, k3, ⟨E i', w1, w2, w3, w4⟩, Or.inl trivial, fun j hj => ?_, Or.inl trivial⟩
      rw [h2 j hj, h4]
      by_cases ej : j < car
      · rw [if_pos ej, if_neg (by omega)]
        exact k10 j hj
      · rw [if_neg ej, if_pos (by omega)]
    · rcases hq with ⟨q1, q2, q3⟩ | ⟨k1, k2, k3, k4, k8, k9, k10, k11⟩
      · left
        unfold RKn
        simp only [cv_I, a4, mr_R, d5, d4 24 (by decide), upd, e, ↓reduceIte, Nat.reduceEqDiff, reduceCtorEq, Nat.reduceAdd, Nat.reduceMul, Nat.reduceSub, eq_self_iff_true, true_and, and_true, false_and, and_false, and_self]
        exact ⟨q1, q2, q3⟩
      · right
        unfold RKy
        simp only [cv_I, ci_I, cj_I, a4, a1, mr_R, mj_R, d5, d4 23 (by decide), d4 24 (by decide), upd, e, ↓reduceIte, Nat.reduceEqDiff, reduceCtorEq, Nat.reduceAdd, Nat.reduceMul, Nat.reduceSub, eq_self_iff_true, true_and, and_true, false_and, and_false, and_self]
        refine ⟨k1, k2, k3, k4, k8, k9, fun j hj => ?_, k11⟩
        rw [a7 _ (by omega), h4, if_neg (by omega)]
        exact k10 j hj
theorem sim_update (hR : Rel N σ τ) (x y : Int32) : Sim N (k_X6_update σ x y) (k_X7_update τ x y) := by
  have hR := hR.thrown 0
  unfold k_X7_update k_X7_update_b21 k_X7_update_b57
  generalize mI τ 0 0 = τ at hR ⊢
  obtain ⟨S, R, B, C, E, hC, hA⟩ := id hR
  obtain ⟨hV, hG, hU, hE, hc, hk⟩ := id hA
  have h5 : mi τ 5 = nI R := hG.2.2.2.2.2.2.2.1
  have hR20 : R ≤ 20 := hG.2.2.2.2.2.2.2.2.1
  unfold k_X6_update k_X6_update_b22 k_X6_update_b53
  rcases ix8 x with h | ⟨c, hc8, rfl⟩
  · rcases ix20 y with h2 | ⟨j, hj, rfl⟩
    · simp (disch := omega) only [zi_le_t, zi_le_f, zi_lt_t, zi_lt_f, zi_eq_t, zi_eq_f, zi_eq_m, zi_lt_m, zi_le_m, zg_in, zi_T, zi_F, zg_T, zb_S, zo_N, zo_S, zs_D, nI_add, pk_mul, nI_sub2, nI_cl2, eq_self_iff_true, ln0, ln1, ln2, ln3, ln4, ln5, ln6, ln7, ln8, ln9, ln10, ln11, ln12, ln13, ln14, ln15, ln16, ln17, ln18, ln19, ln20, ln21, ln64, ln120, ln160, ln180, ln255, ln1280, ln21600, hV.1, e6_ctrl_o hV h, e6_new_o hV h2, e7_ctrl_o h, e6_ref hV, e7_ref]
      exact sim_refd hR _
    · by_cases hjR : j < R
      · simp (disch := omega) only [zi_le_t, zi_le_f, zi_lt_t, zi_lt_f, zi_eq_t, zi_eq_f, zi_eq_m, zi_lt_m, zi_le_m, zg_in, zi_T, zi_F, zg_T, zb_S, zo_N, zo_S, zs_D, nI_add, pk_mul, nI_sub2, nI_cl2, eq_self_iff_true, ln0, ln1, ln2, ln3, ln4, ln5, ln6, ln7, ln8, ln9, ln10, ln11, ln12, ln13, ln14, ln15, ln16, ln17, ln18, ln19, ln20, ln21, ln64, ln120, ln160, ln180, ln255, ln1280, ln21600, hV.1, e6_ctrl_o hV h, e6_new_y hV hjR hR20, e7_ctrl_o h, e6_ref hV, e7_ref]
        exact sim_refd hR _
      · simp (disch := omega) only [zi_le_t, zi_le_f, zi_lt_t, zi_lt_f, zi_eq_t, zi_eq_f, zi_eq_m, zi_lt_m, zi_le_m, zg_in, zi_T, zi_F, zg_T, zb_S, zo_N, zo_S, zs_D, nI_add, pk_mul, nI_sub2, nI_cl2, eq_self_iff_true, ln0, ln1, ln2, ln3, ln4, ln5, ln6, ln7, ln8, ln9, ln10, ln11, ln12, ln13, ln14, ln15, ln16, ln17, ln18, ln19, ln20, ln21, ln64, ln120, ln160, ln180, ln255, ln1280, ln21600, hV.1, e6_ctrl_o hV h, e6_new_n hV (Nat.not_lt.mp hjR) hj, e7_ctrl_o h, e6_ref hV, e7_ref]
        exact sim_refd hR _
  · rcases ix20 y with h2 | ⟨j, hj, rfl⟩
    · simp (disch := omega) only [zi_le_t, zi_le_f, zi_lt_t, zi_lt_f, zi_eq_t, zi_eq_f, zi_eq_m, zi_lt_m, zi_le_m, zg_in, zi_T, zi_F, zg_T, zb_S, zo_N, zo_S, zs_D, nI_add, pk_mul, nI_sub2, nI_cl2, eq_self_iff_true, ln0, ln1, ln2, ln3, ln4, ln5, ln6, ln7, ln8, ln9, ln10, ln11, ln12, ln13, ln14, ln15, ln16, ln17, ln18, ln19, ln20, ln21, ln64, ln120, ln160, ln180, ln255, ln1280, ln21600, hV.1, e6_ctrl hV hc8, e6_new_o hV h2, e7_ctrl hc8, e7_run_o h5 hR20 h2, e6_ref hV, e7_ref]
      exact sim_refd hR _
    · by_cases hjR : j < R
      · obtain ⟨w1, w2, w3, w4, w5⟩ := hE j hjR
        obtain ⟨hq, -⟩ := hk c j hc8 hj
        rcases hq with ⟨q1, q2, q3⟩ | hy
        · simp (disch := omega) only [zi_le_t, zi_le_f, zi_lt_t, zi_lt_f, zi_eq_t, zi_eq_f, zi_eq_m, zi_lt_m, zi_le_m, zg_in, zi_T, zi_F, zg_T, zb_S, zo_N, zo_S, zs_D, nI_add, pk_mul, nI_sub2, nI_cl2, eq_self_iff_true, ln0, ln1, ln2, ln3, ln4, ln5, ln6, ln7, ln8, ln9, ln10, ln11, ln12, ln13, ln14, ln15, ln16, ln17, ln18, ln19, ln20, ln21, ln64, ln120, ln160, ln180, ln255, ln1280, ln21600, hV.1, e6_ctrl hV hc8, e6_new_y hV hjR hR20, e7_ctrl hc8, e7_run_y h5 hjR hR20, hV.v4 hc8, e6_cls_n hV hc8 hj q1, e7_at, q2, e6_ref hV, e7_ref]
          exact sim_refd hR _
        · obtain ⟨k1, k2, k3, ⟨e, k4, k5, k6, k7⟩, k8, k9, k10, k11⟩ := id hy
          by_cases he : e = E j
          · subst he
            simp (disch := omega) only [zi_le_t, zi_le_f, zi_lt_t, zi_lt_f, zi_eq_t, zi_eq_f, zi_eq_m, zi_lt_m, zi_le_m, zg_in, zi_T, zi_F, zg_T, zb_S, zo_N, zo_S, zs_D, nI_add, pk_mul, nI_sub2, nI_cl2, eq_self_iff_true, ln0, ln1, ln2, ln3, ln4, ln5, ln6, ln7, ln8, ln9, ln10, ln11, ln12, ln13, ln14, ln15, ln16, ln17, ln18, ln19, ln20, ln21, ln64, ln120, ln160, ln180, ln255, ln1280, ln21600, hV.1, e6_ctrl hV hc8, e6_new_y hV hjR hR20, e7_ctrl hc8, e7_run_y h5 hjR hR20, hV.v4 hc8, hV.v7 hjR, k1, k6, k7, w3, w4, e6_cls_y hV hc8 hj k1, e7_at, e6_ref hV, e7_ref]
            exact sim_refd hR _
          · obtain ⟨σd, s1, s2, s3⟩ := e6_anew (σ := σ) (ci σ 700 j) (car := 4) (by omega) k1 k2
            obtain ⟨τd, t1, t2, t3⟩ := e7_renew (τ := τ) (k := 20 * c + j) (r := j + 1) (car := 4) (by omega) (by omega) (by omega)
            have hA2 := hA.renew hc8 hjR (by omega) hy s1 s2 t1 t2
            rw [w3] at s3 hA2
            simp (disch := omega) only [zi_le_t, zi_le_f, zi_lt_t, zi_lt_f, zi_eq_t, zi_eq_f, zi_eq_m, zi_lt_m, zi_le_m, zg_in, zi_T, zi_F, zg_T, zb_S, zo_N, zo_S, zs_D, nI_add, pk_mul, nI_sub2, nI_cl2, eq_self_iff_true, ln0, ln1, ln2, ln3, ln4, ln5, ln6, ln7, ln8, ln9, ln10, ln11, ln12, ln13, ln14, ln15, ln16, ln17, ln18, ln19, ln20, ln21, ln64, ln120, ln160, ln180, ln255, ln1280, ln21600, hV.1, e6_ctrl hV hc8, e6_new_y hV hjR hR20, e7_ctrl hc8, e7_run_y h5 hjR hR20, hV.v4 hc8, hV.v7 hjR, k1, k6, k7, w3, w4, e6_cls_y hV hc8 hj k1, e7_at, s3, t3, zi_eq_f (show e < E j ∨ E j < e by omega)]
            exact ⟨_, _, _, rfl, rfl, _, _, _, _, _, hC, hA2⟩
      · simp (disch := omega) only [zi_le_t, zi_le_f, zi_lt_t, zi_lt_f, zi_eq_t, zi_eq_f, zi_eq_m, zi_lt_m, zi_le_m, zg_in, zi_T, zi_F, zg_T, zb_S, zo_N, zo_S, zs_D, nI_add, pk_mul, nI_sub2, nI_cl2, eq_self_iff_true, ln0, ln1, ln2, ln3, ln4, ln5, ln6, ln7, ln8, ln9, ln10, ln11, ln12, ln13, ln14, ln15, ln16, ln17, ln18, ln19, ln20, ln21, ln64, ln120, ln160, ln180, ln255, ln1280, ln21600, hV.1, e6_ctrl hV hc8, e6_new_n hV (Nat.not_lt.mp hjR) hj, e7_ctrl hc8, e7_run_n h5 (Nat.not_lt.mp hjR) hj, e6_ref hV, e7_ref]
        exact sim_refd hR _
end LOOPS
