/-! ===== make, handle, octet, divide: both sides ===== -/
def SimX {α : Type} (N : Nat) (o6 : Option (Option α × CS)) (o7 : Option (α × MS)) : Prop := ∃ (r : Option α) (v : α) (σ' : CS) (τ' : MS), o6 = some (r, σ') ∧ o7 = some (v, τ') ∧ ((r = none ∧ mi τ' 0 = nI 1) ∨ (r = some v ∧ mi τ' 0 = nI 0)) ∧ Rel N σ' τ'
section SIMS
variable {S R B C N : Nat} {E : Nat → Nat} {σ : CS} {τ : MS}
theorem RelA.make (hA : RelA S R B C E σ τ) {c i : Nat} (hc8 : c < 8) (hi : i < R) (hn : RKn σ τ (20 * c + i)) {τd : MS} (h3 : TJ 22 (mR τ 21 (20 * c + i) (mr τ 6 (i + 1))) τd) (h4 : ∀ j, mj τd 22 j = if 8 * (20 * c + i) + 0 ≤ j ∧ j < 8 * (20 * c + i) + 8 then 0 else mj τ 22 j) :
    RelA S R B C E (cMk σ (20 * c + i) (ci σ 700 i)) (mR (mR τd 23 (20 * c + i) (nI 0)) 24 (20 * c + i) (-nI 1)) := by
  obtain ⟨hV, hG, hU, hE, hc, hk⟩ := hA
  obtain ⟨b1, b2, b3⟩ := h3
  have hR20 : R ≤ 20 := hG.2.2.2.2.2.2.2.2.1
  have hcv : ∀ kd j, ¬ (kd = 6 ∧ j = 20 * c + i) → ¬ (kd = 8 ∧ (j = 11 + (20 * c + i) ∨ j = 171 ∨ j = 172)) → cv (cMk σ (20 * c + i) (ci σ 700 i)) kd j = cv σ kd j := fun kd j a b => by
    rw [cv_M, if_neg a, if_neg (fun q => b ⟨q.1, Or.inl q.2⟩), if_neg (fun q => b ⟨q.1, Or.inr q.2⟩)]
  have hci : ∀ f j, f ≠ 601 → f ≠ 602 → f ≠ 603 → ci (cMk σ (20 * c + i) (ci σ 700 i)) f j = ci σ f j := fun f j a b c => by
    rw [ci_M, if_neg (fun q => a q.1), if_neg (fun q => b q.1), if_neg (fun q => c q.1)]
  have d4 : ∀ g, g ≠ 21 → mr τd g = mr τ g := fun g hg => by rw [b2, mr_R, if_neg hg]
  have d5 : mr τd 21 = upd (mr τ 21) (20 * c + i) (mr τ 6 (i + 1)) := by rw [b2, mr_R, if_pos rfl]
  have d6 : mi τd = mi τ := b1
  have d7 : ∀ g, g ≠ 22 → mj τd g = mj τ g := fun g hg => by rw [b3 g hg]; rfl
  refine ⟨?_, ?_, ?_, ?_, ?_, ?_⟩
  · obtain ⟨v1, v2, v3, v4, v5, v6, v7, v8, v9, v10, v11, v12, v13, v14⟩ := hV
    refine ⟨?_, ?_, ?_, ?_, ?_, v6, fun z hz => ⟨?_, ?_⟩, fun z hz => ?_, fun z hz => ⟨?_, ?_, ?_, fun hs => ?_⟩, fun z h1 h2 => ?_, fun z hz => ?_, fun z hz => ?_, fun z hz => ?_, fun z hz => ?_⟩
    · rw [hcv _ _ (by omega) (by omega)]; exact v1
    · rw [hcv _ _ (by omega) (by omega)]; exact v2
    · rw [hcv _ _ (by omega) (by omega)]; exact v3
    · rw [hcv _ _ (by omega) (by omega)]; exact v4
    · rw [hcv _ _ (by omega) (by omega)]; exact v5
    · rw [hcv _ _ (by omega) (by omega)]; exact (v7 z hz).1
    · rw [hcv _ _ (by omega) (by omega)]; exact (v7 z hz).2
    · rw [hcv _ _ (by omega) (by omega)]; exact v8 z hz
    · rw [hcv _ _ (by omega) (by omega)]; exact (v9 z hz).1
    · rw [hcv _ _ (by omega) (by omega)]; exact (v9 z hz).2.1
    · rw [hcv _ _ (by omega) (by omega)]; exact (v9 z hz).2.2.1
    · rw [hcv _ _ (by omega) (by omega)]; exact (v9 z hz).2.2.2 hs
    · rw [hcv _ _ (by omega) (by omega)]; exact v10 z h1 h2
    · rw [hcv _ _ (by omega) (by omega)]; exact v11 z hz
    · rw [hcv _ _ (by omega) (by omega)]; exact v12 z hz
    · rw [hcv _ _ (by omega) (by omega)]; exact v13 z hz
    · rw [hcv _ _ (by omega) (by omega)]; exact v14 z hz
  · unfold RG
    rw [hci 0 _ (by omega) (by omega) (by omega), hci 5 _ (by omega) (by omega) (by omega), hci 6 _ (by omega) (by omega) (by omega), hci 7 _ (by omega) (by omega) (by omega)]
    simp only [mi_R, d6]
    exact hG
  · intro j hj
    simp only [cb_M, mr_R, d4 4 (by decide), ↓reduceIte, Nat.reduceEqDiff, reduceCtorEq, Nat.reduceAdd, Nat.reduceMul, Nat.reduceSub, eq_self_iff_true, true_and, and_true, false_and, and_false, and_self]
    exact hU j hj
  · intro i' hi'
    have h := hE i' hi'
    unfold RE RB at h ⊢
    rw [hci 700 _ (by omega) (by omega) (by omega)]
    simp only [cbl_M, cb_M, cs_M, mr_R, d4 6 (by decide), d4 7 (by decide), d4 8 (by decide), d4 9 (by decide), d4 10 (by decide), d4 11 (by decide), d4 12 (by decide), ↓reduceIte, Nat.reduceEqDiff, reduceCtorEq, Nat.reduceAdd, Nat.reduceMul, Nat.reduceSub, eq_self_iff_true, true_and, and_true, false_and, and_false, and_self]
    exact h
  · intro c' hc'
    have h := hc c' hc'
    unfold RC at h ⊢
    obtain ⟨r1, r2, r3, r4, r5, r6, r7, r8, r9⟩ := h
    rw [hci 402 _ (by omega) (by omega) (by omega), hci 403 _ (by omega) (by omega) (by omega), hci 404 _ (by omega) (by omega) (by omega), hci 405 _ (by omega) (by omega) (by omega), hci 406 _ (by omega) (by omega) (by omega), hci 407 _ (by omega) (by omega) (by omega), hci 408 _ (by omega) (by omega) (by omega)]
    simp only [mr_R, mj_R, d4 14 (by decide), d4 15 (by decide), d4 16 (by decide), d4 17 (by decide), d4 18 (by decide), d4 19 (by decide), d4 20 (by decide), d7 13 (by decide), ↓reduceIte, Nat.reduceEqDiff, reduceCtorEq, Nat.reduceAdd, Nat.reduceMul, Nat.reduceSub, eq_self_iff_true, true_and, and_true, false_and, and_false, and_self]
    refine ⟨r1, r2, r3, r4, r5, r6, r7, r8, fun p hp => ?_⟩
    rw [cj_M, if_neg (by omega)]
    exact r9 p hp
  · intro c' i' hc' hi'
    obtain ⟨hq, q, hqC, hq2⟩ := hk c' i' hc' hi'
    have e25 : mr (mR (mR τd 23 (20 * c + i) (nI 0)) 24 (20 * c + i) (-nI 1)) 25 = mr τ 25 := by simp only [mr_R, d4 25 (by decide), ↓reduceIte, Nat.reduceEqDiff, reduceCtorEq, Nat.reduceAdd, Nat.reduceMul, Nat.reduceSub, eq_self_iff_true, true_and, and_true, false_and, and_false, and_self]
    refine ⟨?_, q, hqC, by rw [e25]; exact hq2⟩
    by_cases e : 20 * c' + i' = 20 * c + i
    · have ec : c' = c := by omega
      have ei : i' = i := by omega
      subst ec
      subst ei
      right
      obtain ⟨w1, w2, w3, w4, w5⟩ := hE i' hi
      unfold RKy
      rw [cv_M, if_pos ⟨rfl, rfl⟩, cv_M, if_neg (by omega), if_pos ⟨rfl, rfl⟩]
      simp only [ci_M, mr_R, mj_R, d5, upd, ↓reduceIte, Nat.reduceEqDiff, reduceCtorEq, Nat.reduceAdd, Nat.reduceMul, Nat.reduceSub, eq_self_iff_true, true_and, and_true, false_and, and_false, and_self]
      refine ⟨hi, ⟨E i', w1, w2, w3, w4⟩, Or.inl trivial, fun j hj => ?_, Or.inl trivial⟩
      rw [cj_M, if_pos rfl, h4, if_pos (by omega)]
    · rcases hq with ⟨q1, q2, q3⟩ | ⟨k1, k2, k3, k4, k8, k9, k10, k11⟩
      · left
        unfold RKn
        rw [hcv _ _ (by omega) (by omega)]
        simp only [mr_R, d5, d4 24 (by decide), upd, e, ↓reduceIte, Nat.reduceEqDiff, reduceCtorEq, Nat.reduceAdd, Nat.reduceMul, Nat.reduceSub, eq_self_iff_true, true_and, and_true, false_and, and_false, and_self]
        exact ⟨q1, q2, q3⟩
      · right
        unfold RKy
        rw [hcv _ _ (by omega) (by omega), hcv _ _ (by omega) (by omega), ci_M, if_neg (fun z => e z.2), if_neg (fun z => e z.2), if_neg (fun z => e z.2), ci_M, if_neg (fun z => e z.2), if_neg (fun z => e z.2), if_neg (fun z => e z.2), ci_M, if_neg (fun z => e z.2), if_neg (fun z => e z.2), if_neg (fun z => e z.2)]
        simp only [mr_R, mj_R, d5, d4 23 (by decide), d4 24 (by decide), upd, e, ↓reduceIte, Nat.reduceEqDiff, reduceCtorEq, Nat.reduceAdd, Nat.reduceMul, Nat.reduceSub, eq_self_iff_true, true_and, and_true, false_and, and_false, and_self]
        refine ⟨k1, k2, k3, k4, k8, k9, fun j hj => ?_, k11⟩
        rw [cj_M, if_neg (by omega), h4, if_neg (by omega)]
        exact k10 j hj
theorem sim_make (hR : Rel N σ τ) (x y : Int32) : Sim N (k_X6_make σ x y) (k_X7_make τ x y) := by
  have hR := hR.thrown 0
  unfold k_X7_make k_X7_make_b21 k_X7_make_b51
  generalize mI τ 0 0 = τ at hR ⊢
  obtain ⟨S, R, B, C, E, hC, hA⟩ := id hR
  obtain ⟨hV, hG, hU, hE, hc, hk⟩ := id hA
  have h5 : mi τ 5 = nI R := hG.2.2.2.2.2.2.2.1
  have hR20 : R ≤ 20 := hG.2.2.2.2.2.2.2.2.1
  unfold k_X6_make k_X6_make_b22 k_X6_make_b43
  rcases ix8 x with h | ⟨c, hc8, rfl⟩
  · rcases ix20 y with h2 | ⟨j, hj, rfl⟩
    · simp (disch := omega) only [zi_le_t, zi_le_f, zi_lt_t, zi_lt_f, zi_eq_t, zi_eq_f, zi_eq_m, zi_lt_m, zi_le_m, zg_in, zi_T, zi_F, zg_T, zb_S, zo_N, zo_S, zs_D, nI_add, pk_mul, nI_sub2, nI_cl2, eq_self_iff_true, ln0, ln1, ln2, ln3, ln4, ln5, ln6, ln7, ln8, ln9, ln10, ln11, ln12, ln13, ln14, ln15, ln16, ln17, ln18, ln19, ln20, ln21, ln64, ln120, ln160, ln180, ln255, ln1280, ln21600, hV.1, e6_ctrl_o hV h, e6_new_o hV h2, e7_ctrl_o h, e6_ref hV, e7_ref]
      exact sim_refd hR _
    · by_cases hjR : j < R
      · simp (disch := omega) only [zi_le_t, zi_le_f, zi_lt_t, zi_lt_f, zi_eq_t, zi_eq_f, zi_eq_m, zi_lt_m, zi_le_m, zg_in, zi_T, zi_F, zg_T, zb_S, zo_N, zo_S, zs_D, nI_add, pk_mul, nI_sub2, nI_cl2, eq_self_iff_true, ln0, ln1, ln2, ln3, ln4, ln5, ln6, ln7, ln8, ln9, ln10, ln11, ln12, ln13, ln14, ln15, ln16, ln17, ln18, ln19, ln20, ln21, ln64, ln120, ln160, ln180, ln255, ln1280, ln21600, hV.1, e6_ctrl_o hV h, e6_new_y hV hjR hR20, e7_ctrl_o h, e6_ref hV, e7_ref]
        exact sim_refd hR _
      · simp (disch := omega) only [zi_le_t, zi_le_f, zi_lt_t, zi_lt_f, zi_eq_t, zi_eq_f, zi_eq_m, zi_lt_m, zi_le_m, zg_in, zi_T, zi_F, zg_T, zb_S, zo_N, zo_S, zs_D, nI_add, pk_mul, nI_sub2, nI_cl2, eq_self_iff_true, ln0, ln1, ln2, ln3, ln4, ln5, ln6, ln7, ln8, ln9, ln10, ln11, ln12, ln13, ln14, ln15, ln16, ln17, ln18, ln19, ln20, ln21, ln64, ln120, ln160, ln180, ln255, ln1280, ln21600, hV.1, e6_ctrl_o hV h, e6_new_n hV (Nat.not_lt.mp hjR) hj, e7_ctrl_o h, e6_ref hV, e7_ref]
        exact sim_refd hR _
  · rcases ix20 y with h2 | ⟨j, hj, rfl⟩
    · simp (disch := omega) only [zi_le_t, zi_le_f, zi_lt_t, zi_lt_f, zi_eq_t, zi_eq_f, zi_eq_m, zi_lt_m, zi_le_m, zg_in, zi_T, zi_F, zg_T, zb_S, zo_N, zo_S, zs_D, nI_add, pk_mul, nI_sub2, nI_cl2, eq_self_iff_true, ln0, ln1, ln2, ln3, ln4, ln5, ln6, ln7, ln8, ln9, ln10, ln11, ln12, ln13, ln14, ln15, ln16, ln17, ln18, ln19, ln20, ln21, ln64, ln120, ln160, ln180, ln255, ln1280, ln21600, hV.1, e6_ctrl hV hc8, e6_new_o hV h2, e7_ctrl hc8, e7_run_o h5 hR20 h2, e6_ref hV, e7_ref]
      exact sim_refd hR _
    · by_cases hjR : j < R
      · obtain ⟨r1, r2, r3, r4, r5, r6, r7, r8, r9⟩ := hc c hc8
        obtain ⟨hq, -⟩ := hk c j hc8 hj
        rcases r2 with r2 | r2
        · rcases hq with hn | hy
          · obtain ⟨q1, q2, q3⟩ := id hn
            obtain ⟨τd, t1, t2, t3⟩ := e7_renew (τ := τ) (k := 20 * c + j) (r := j + 1) (car := 0) (by omega) (by omega) (by omega)
            have hA2 := hA.make hc8 hjR hn t1 t2
            have hm : k_X6_mkIt σ c (nI (j + 1)) j = some (nI 1, cMk σ (20 * c + j) (ci σ 700 j)) := by
              unfold k_X6_mkIt
              rw [zg_t ⟨hc8, hV.v4 hc8, (hV.2.2.2.2.2.2.1 c hc8).2, hV.v7 hjR, ⟨j, hj, rfl⟩, hV.2.2.2.2.2.2.2.2.2.2.2.2.2, hV.2.2.2.2.2.2.2.2.2.2.1, hV.2.2.2.2.2.2.2.2.2.2.2.1⟩, show nI (j + 1) - 1 = nI j from nI_pred j, nI_clamp (by omega)]
              rfl
            simp (disch := omega) only [zi_le_t, zi_le_f, zi_lt_t, zi_lt_f, zi_eq_t, zi_eq_f, zi_eq_m, zi_lt_m, zi_le_m, zg_in, zi_T, zi_F, zg_T, zb_S, zo_N, zo_S, zs_D, nI_add, pk_mul, nI_sub2, nI_cl2, eq_self_iff_true, ln0, ln1, ln2, ln3, ln4, ln5, ln6, ln7, ln8, ln9, ln10, ln11, ln12, ln13, ln14, ln15, ln16, ln17, ln18, ln19, ln20, ln21, ln64, ln120, ln160, ln180, ln255, ln1280, ln21600, hV.1, hV.v4 hc8, e6_ctrl hV hc8, e6_new_y hV hjR hR20, e7_ctrl hc8, e7_run_y h5 hjR hR20, e6_cls_n hV hc8 hj q1, e7_at, q2, r1, r2, hm, t3]
            exact ⟨_, _, _, rfl, rfl, _, _, _, _, _, hC, hA2⟩
          · obtain ⟨k1, k2, k3, ⟨e, k4, k5, k6, k7⟩, k8, k9, k10, k11⟩ := id hy
            simp (disch := omega) only [zi_le_t, zi_le_f, zi_lt_t, zi_lt_f, zi_eq_t, zi_eq_f, zi_eq_m, zi_lt_m, zi_le_m, zg_in, zi_T, zi_F, zg_T, zb_S, zo_N, zo_S, zs_D, nI_add, pk_mul, nI_sub2, nI_cl2, eq_self_iff_true, ln0, ln1, ln2, ln3, ln4, ln5, ln6, ln7, ln8, ln9, ln10, ln11, ln12, ln13, ln14, ln15, ln16, ln17, ln18, ln19, ln20, ln21, ln64, ln120, ln160, ln180, ln255, ln1280, ln21600, hV.1, hV.v4 hc8, e6_ctrl hV hc8, e6_new_y hV hjR hR20, e7_ctrl hc8, e7_run_y h5 hjR hR20, e6_cls_y hV hc8 hj k1, e7_at, k7, r1, r2, e6_ref hV, e7_ref]
            exact sim_refd hR _
        · simp (disch := omega) only [zi_le_t, zi_le_f, zi_lt_t, zi_lt_f, zi_eq_t, zi_eq_f, zi_eq_m, zi_lt_m, zi_le_m, zg_in, zi_T, zi_F, zg_T, zb_S, zo_N, zo_S, zs_D, nI_add, pk_mul, nI_sub2, nI_cl2, eq_self_iff_true, ln0, ln1, ln2, ln3, ln4, ln5, ln6, ln7, ln8, ln9, ln10, ln11, ln12, ln13, ln14, ln15, ln16, ln17, ln18, ln19, ln20, ln21, ln64, ln120, ln160, ln180, ln255, ln1280, ln21600, hV.1, hV.v4 hc8, e6_ctrl hV hc8, e6_new_y hV hjR hR20, e7_ctrl hc8, e7_run_y h5 hjR hR20, e7_at, r1, r2, e6_ref hV, e7_ref]
          exact sim_refd hR _
      · simp (disch := omega) only [zi_le_t, zi_le_f, zi_lt_t, zi_lt_f, zi_eq_t, zi_eq_f, zi_eq_m, zi_lt_m, zi_le_m, zg_in, zi_T, zi_F, zg_T, zb_S, zo_N, zo_S, zs_D, nI_add, pk_mul, nI_sub2, nI_cl2, eq_self_iff_true, ln0, ln1, ln2, ln3, ln4, ln5, ln6, ln7, ln8, ln9, ln10, ln11, ln12, ln13, ln14, ln15, ln16, ln17, ln18, ln19, ln20, ln21, ln64, ln120, ln160, ln180, ln255, ln1280, ln21600, hV.1, e6_ctrl hV hc8, e6_new_n hV (Nat.not_lt.mp hjR) hj, e7_ctrl hc8, e7_run_n h5 (Nat.not_lt.mp hjR) hj, e6_ref hV, e7_ref]
        exact sim_refd hR _
theorem handle_no (hA : RelA S R B C E σ τ) (x y : Int32) : ∃ n : Nat, (∀ o : Option Nat, k_X6_handle_b29 x y σ o = some (some (-nI n), cI σ 7 0 (ci σ 7 0 + nI 1))) ∧ k_X7_handle_b38 x y τ (nI 0) (nI 0) = some (-nI n, mI (mI τ 0 (nI 0)) 2 (mi τ 2 + nI 1)) := by
  obtain ⟨hV, hG, hU, hE, hc, hk⟩ := id hA
  have h5 : mi (mI τ 0 (nI 0)) 5 = nI R := hG.2.2.2.2.2.2.2.1
  have hR20 : R ≤ 20 := hG.2.2.2.2.2.2.2.2.1
  unfold k_X6_handle_b29 k_X6_handle_b45 k_X7_handle_b38 k_X7_handle_b69 k_X7_handle_b70
  rcases ix8 x with h | ⟨c, hc8, rfl⟩
  · refine ⟨1, fun o => ?_, ?_⟩
    · simp (disch := omega) only [zi_le_t, zi_le_f, zi_lt_t, zi_lt_f, zi_eq_t, zi_eq_f, zi_eq_m, zi_lt_m, zi_le_m, zg_in, zi_T, zi_F, zg_T, zb_S, zo_N, zo_S, zs_D, nI_add, pk_mul, nI_sub2, nI_cl2, eq_self_iff_true, ln0, ln1, ln2, ln3, ln4, ln5, ln6, ln7, ln8, ln9, ln10, ln11, ln12, ln13, ln14, ln15, ln16, ln17, ln18, ln19, ln20, ln21, ln64, ln120, ln160, ln180, ln255, ln1280, ln21600, hV.1, e6_ctrl_o hV h, e6_ref hV]
    · simp (disch := omega) only [zi_le_t, zi_le_f, zi_lt_t, zi_lt_f, zi_eq_t, zi_eq_f, zi_eq_m, zi_lt_m, zi_le_m, zg_in, zi_T, zi_F, zg_T, zb_S, zo_N, zo_S, zs_D, nI_add, pk_mul, nI_sub2, nI_cl2, eq_self_iff_true, ln0, ln1, ln2, ln3, ln4, ln5, ln6, ln7, ln8, ln9, ln10, ln11, ln12, ln13, ln14, ln15, ln16, ln17, ln18, ln19, ln20, ln21, ln64, ln120, ln160, ln180, ln255, ln1280, ln21600, e7_ctrl_o h, e7_ref, mi_I, ↓reduceIte, Nat.reduceEqDiff, reduceCtorEq, Nat.reduceAdd, Nat.reduceMul, Nat.reduceSub, eq_self_iff_true, true_and, and_true, false_and, and_false, and_self]
  · rcases ix20 y with h2 | ⟨j, hj, rfl⟩
    · refine ⟨1, fun o => ?_, ?_⟩
      · simp (disch := omega) only [zi_le_t, zi_le_f, zi_lt_t, zi_lt_f, zi_eq_t, zi_eq_f, zi_eq_m, zi_lt_m, zi_le_m, zg_in, zi_T, zi_F, zg_T, zb_S, zo_N, zo_S, zs_D, nI_add, pk_mul, nI_sub2, nI_cl2, eq_self_iff_true, ln0, ln1, ln2, ln3, ln4, ln5, ln6, ln7, ln8, ln9, ln10, ln11, ln12, ln13, ln14, ln15, ln16, ln17, ln18, ln19, ln20, ln21, ln64, ln120, ln160, ln180, ln255, ln1280, ln21600, hV.1, e6_ctrl hV hc8, e6_new_o hV h2, e6_ref hV]
      · simp (disch := omega) only [zi_le_t, zi_le_f, zi_lt_t, zi_lt_f, zi_eq_t, zi_eq_f, zi_eq_m, zi_lt_m, zi_le_m, zg_in, zi_T, zi_F, zg_T, zb_S, zo_N, zo_S, zs_D, nI_add, pk_mul, nI_sub2, nI_cl2, eq_self_iff_true, ln0, ln1, ln2, ln3, ln4, ln5, ln6, ln7, ln8, ln9, ln10, ln11, ln12, ln13, ln14, ln15, ln16, ln17, ln18, ln19, ln20, ln21, ln64, ln120, ln160, ln180, ln255, ln1280, ln21600, e7_ctrl hc8, e7_run_o h5 hR20 h2, e7_ref, mi_I, ↓reduceIte, Nat.reduceEqDiff, reduceCtorEq, Nat.reduceAdd, Nat.reduceMul, Nat.reduceSub, eq_self_iff_true, true_and, and_true, false_and, and_false, and_self]
    · by_cases hjR : j < R
      · refine ⟨3, fun o => ?_, ?_⟩
        · simp (disch := omega) only [zi_le_t, zi_le_f, zi_lt_t, zi_lt_f, zi_eq_t, zi_eq_f, zi_eq_m, zi_lt_m, zi_le_m, zg_in, zi_T, zi_F, zg_T, zb_S, zo_N, zo_S, zs_D, nI_add, pk_mul, nI_sub2, nI_cl2, eq_self_iff_true, ln0, ln1, ln2, ln3, ln4, ln5, ln6, ln7, ln8, ln9, ln10, ln11, ln12, ln13, ln14, ln15, ln16, ln17, ln18, ln19, ln20, ln21, ln64, ln120, ln160, ln180, ln255, ln1280, ln21600, hV.1, e6_ctrl hV hc8, e6_new_y hV hjR hR20, e6_ref hV]
        · simp (disch := omega) only [zi_le_t, zi_le_f, zi_lt_t, zi_lt_f, zi_eq_t, zi_eq_f, zi_eq_m, zi_lt_m, zi_le_m, zg_in, zi_T, zi_F, zg_T, zb_S, zo_N, zo_S, zs_D, nI_add, pk_mul, nI_sub2, nI_cl2, eq_self_iff_true, ln0, ln1, ln2, ln3, ln4, ln5, ln6, ln7, ln8, ln9, ln10, ln11, ln12, ln13, ln14, ln15, ln16, ln17, ln18, ln19, ln20, ln21, ln64, ln120, ln160, ln180, ln255, ln1280, ln21600, e7_ctrl hc8, e7_run_y h5 hjR hR20, e7_ref, mi_I, ↓reduceIte, Nat.reduceEqDiff, reduceCtorEq, Nat.reduceAdd, Nat.reduceMul, Nat.reduceSub, eq_self_iff_true, true_and, and_true, false_and, and_false, and_self]
      · refine ⟨1, fun o => ?_, ?_⟩
        · simp (disch := omega) only [zi_le_t, zi_le_f, zi_lt_t, zi_lt_f, zi_eq_t, zi_eq_f, zi_eq_m, zi_lt_m, zi_le_m, zg_in, zi_T, zi_F, zg_T, zb_S, zo_N, zo_S, zs_D, nI_add, pk_mul, nI_sub2, nI_cl2, eq_self_iff_true, ln0, ln1, ln2, ln3, ln4, ln5, ln6, ln7, ln8, ln9, ln10, ln11, ln12, ln13, ln14, ln15, ln16, ln17, ln18, ln19, ln20, ln21, ln64, ln120, ln160, ln180, ln255, ln1280, ln21600, hV.1, e6_ctrl hV hc8, e6_new_n hV (Nat.not_lt.mp hjR) hj, e6_ref hV]
        · simp (disch := omega) only [zi_le_t, zi_le_f, zi_lt_t, zi_lt_f, zi_eq_t, zi_eq_f, zi_eq_m, zi_lt_m, zi_le_m, zg_in, zi_T, zi_F, zg_T, zb_S, zo_N, zo_S, zs_D, nI_add, pk_mul, nI_sub2, nI_cl2, eq_self_iff_true, ln0, ln1, ln2, ln3, ln4, ln5, ln6, ln7, ln8, ln9, ln10, ln11, ln12, ln13, ln14, ln15, ln16, ln17, ln18, ln19, ln20, ln21, ln64, ln120, ln160, ln180, ln255, ln1280, ln21600, e7_ctrl hc8, e7_run_n h5 (Nat.not_lt.mp hjR) hj, e7_ref, mi_I, ↓reduceIte, Nat.reduceEqDiff, reduceCtorEq, Nat.reduceAdd, Nat.reduceMul, Nat.reduceSub, eq_self_iff_true, true_and, and_true, false_and, and_false, and_self]
theorem sim_handle (hR : Rel N σ τ) (x y : Int32) : SimX N (k_X6_handle σ x y) (k_X7_handle τ x y) := by
  obtain ⟨S, R, B, C, E, hC, hA⟩ := id hR
  have hV := hA.1
  obtain ⟨n, hn1, hn2⟩ := handle_no hA x y
  have hRn : Rel N (cI σ 7 0 (ci σ 7 0 + nI 1)) (mI (mI τ 0 (nI 0)) 2 (mi τ 2 + nI 1)) := (hR.thrown (nI 0)).refuse
  unfold k_X6_handle k_X7_handle k_X7_handle_b26 k_X7_handle_b27
  rcases cls_two hA x y with ⟨h1, h2⟩ | ⟨c, j, hc8, hj, rfl, rfl, hy, h1, h2⟩
  · simp (disch := omega) only [zi_le_t, zi_le_f, zi_lt_t, zi_lt_f, zi_eq_t, zi_eq_f, zi_eq_m, zi_lt_m, zi_le_m, zg_in, zi_T, zi_F, zg_T, zb_S, zo_N, zo_S, zs_D, nI_add, pk_mul, nI_sub2, nI_cl2, eq_self_iff_true, ln0, ln1, ln2, ln3, ln4, ln5, ln6, ln7, ln8, ln9, ln10, ln11, ln12, ln13, ln14, ln15, ln16, ln17, ln18, ln19, ln20, ln21, ln64, ln120, ln160, ln180, ln255, ln1280, ln21600, hV.1, h1, h2, hn1, hn2]
    exact ⟨_, _, _, _, rfl, rfl, Or.inr ⟨rfl, rfl⟩, hRn⟩
  · have hR20 := hA.2.1.2.2.2.2.2.2.2.2.1
    obtain ⟨k1, k2, k3, k4, k8, k9, k10, k11⟩ := hy
    rcases k11 with ⟨x1, x2⟩ | ⟨p, hp, x1, x2⟩
    · simp (disch := omega) only [zi_le_t, zi_le_f, zi_lt_t, zi_lt_f, zi_eq_t, zi_eq_f, zi_eq_m, zi_lt_m, zi_le_m, zg_in, zi_T, zi_F, zg_T, zb_S, zo_N, zo_S, zs_D, nI_add, pk_mul, nI_sub2, nI_cl2, eq_self_iff_true, ln0, ln1, ln2, ln3, ln4, ln5, ln6, ln7, ln8, ln9, ln10, ln11, ln12, ln13, ln14, ln15, ln16, ln17, ln18, ln19, ln20, ln21, ln64, ln120, ln160, ln180, ln255, ln1280, ln21600, hV.1, h1, h2, k1, x1, x2, zi_m1, e7_at, hn1, hn2]
      exact ⟨_, _, _, _, rfl, rfl, Or.inr ⟨rfl, rfl⟩, hRn⟩
    · unfold k_X7_handle_b38
      simp (disch := omega) only [zi_le_t, zi_le_f, zi_lt_t, zi_lt_f, zi_eq_t, zi_eq_f, zi_eq_m, zi_lt_m, zi_le_m, zg_in, zi_T, zi_F, zg_T, zb_S, zo_N, zo_S, zs_D, nI_add, pk_mul, nI_sub2, nI_cl2, eq_self_iff_true, ln0, ln1, ln2, ln3, ln4, ln5, ln6, ln7, ln8, ln9, ln10, ln11, ln12, ln13, ln14, ln15, ln16, ln17, ln18, ln19, ln20, ln21, ln64, ln120, ln160, ln180, ln255, ln1280, ln21600, hV.1, h1, h2, k1, x1, x2, e7_at]
      exact ⟨_, _, _, _, rfl, rfl, Or.inl ⟨rfl, rfl⟩, hR.thrown (nI 1)⟩
theorem sim_divide (hR : Rel N σ τ) (x y : Int64) : SimX N (k_X6_divide σ x y) (k_X7_divide τ x y) := by
  unfold k_X6_divide k_X7_divide k_X7_divide_b12 k_X7_divide_b29
  by_cases hz : lg_cmp y (0 : Int64) = nI 0
  · simp (disch := omega) only [zi_le_t, zi_le_f, zi_lt_t, zi_lt_f, zi_eq_t, zi_eq_f, zi_eq_m, zi_lt_m, zi_le_m, zg_in, zi_T, zi_F, zg_T, zb_S, zo_N, zo_S, zs_D, nI_add, pk_mul, nI_sub2, nI_cl2, eq_self_iff_true, ln0, ln1, ln2, ln3, ln4, ln5, ln6, ln7, ln8, ln9, ln10, ln11, ln12, ln13, ln14, ln15, ln16, ln17, ln18, ln19, ln20, ln21, ln64, ln120, ln160, ln180, ln255, ln1280, ln21600, zi_t hz, mi_I, ↓reduceIte, Nat.reduceEqDiff, reduceCtorEq, Nat.reduceAdd, Nat.reduceMul, Nat.reduceSub, eq_self_iff_true, true_and, and_true, false_and, and_false, and_self]
    exact ⟨_, _, _, _, rfl, rfl, Or.inl ⟨rfl, rfl⟩, hR.thrown (nI 1)⟩
  · have hne : ¬ y = 0 := fun z => hz ((lg_cmp_eq y 0).mpr z)
    simp (disch := omega) only [zi_le_t, zi_le_f, zi_lt_t, zi_lt_f, zi_eq_t, zi_eq_f, zi_eq_m, zi_lt_m, zi_le_m, zg_in, zi_T, zi_F, zg_T, zb_S, zo_N, zo_S, zs_D, nI_add, pk_mul, nI_sub2, nI_cl2, eq_self_iff_true, ln0, ln1, ln2, ln3, ln4, ln5, ln6, ln7, ln8, ln9, ln10, ln11, ln12, ln13, ln14, ln15, ln16, ln17, ln18, ln19, ln20, ln21, ln64, ln120, ln160, ln180, ln255, ln1280, ln21600, zi_f hz, zg_t hne, mi_I, ↓reduceIte, Nat.reduceEqDiff, reduceCtorEq, Nat.reduceAdd, Nat.reduceMul, Nat.reduceSub, eq_self_iff_true, true_and, and_true, false_and, and_false, and_self]
    exact ⟨_, _, _, _, rfl, rfl, Or.inr ⟨rfl, rfl⟩, hR.thrown (nI 0)⟩
theorem sim_octet (hR : Rel N σ τ) (x y : Int32) : SimX N (k_X6_octet σ x y) (k_X7_octet τ x y) := by
  obtain ⟨S, R, B, C, E, hC, hA⟩ := id hR
  obtain ⟨hV, hG, hU, hE, hc, hk⟩ := id hA
  have h5 : mi τ 5 = nI R := hG.2.2.2.2.2.2.2.1
  have hR20 : R ≤ 20 := hG.2.2.2.2.2.2.2.2.1
  have z0 : narrow .byte (.int (nI 0)) = .int (nI 0) := by decide
  unfold k_X6_octet k_X6_octet_b23 k_X7_octet k_X7_octet_b36 k_X7_octet_b37 k_X7_octet_b71
  have hno : SimX N (some ((none : Option Int32), σ)) (some (nI 0, mI τ 0 (nI 1))) := ⟨_, _, _, _, rfl, rfl, Or.inl ⟨rfl, rfl⟩, hR.thrown (nI 1)⟩
  rcases ix20 x with h | ⟨j, hj, rfl⟩
  · simp (disch := omega) only [zi_le_t, zi_le_f, zi_lt_t, zi_lt_f, zi_eq_t, zi_eq_f, zi_eq_m, zi_lt_m, zi_le_m, zg_in, zi_T, zi_F, zg_T, zb_S, zo_N, zo_S, zs_D, nI_add, pk_mul, nI_sub2, nI_cl2, eq_self_iff_true, ln0, ln1, ln2, ln3, ln4, ln5, ln6, ln7, ln8, ln9, ln10, ln11, ln12, ln13, ln14, ln15, ln16, ln17, ln18, ln19, ln20, ln21, ln64, ln120, ln160, ln180, ln255, ln1280, ln21600, hV.1, e6_new_o hV h, e7_run_o h5 hR20 h, mi_I, z0, ↓reduceIte, Nat.reduceEqDiff, reduceCtorEq, Nat.reduceAdd, Nat.reduceMul, Nat.reduceSub, eq_self_iff_true, true_and, and_true, false_and, and_false, and_self]
    exact hno
  · by_cases hjR : j < R
    · obtain ⟨w1, w2, w3, w4, len, rs, rl, w5, w6, w7, w8, w9, w10, w11, w12⟩ := hE j hjR
      have hpl : pl E j ≤ 179 := by unfold pl; omega
      have hpl2 : 9 * j + (E j - 1) = pl E j := rfl
      have h9 := (hV.2.2.2.2.2.2.2.2.1 j hjR).2.1
      by_cases h0 : y < 0
      · simp (disch := omega) only [zi_le_t, zi_le_f, zi_lt_t, zi_lt_f, zi_eq_t, zi_eq_f, zi_eq_m, zi_lt_m, zi_le_m, zg_in, zi_T, zi_F, zg_T, zb_S, zo_N, zo_S, zs_D, nI_add, pk_mul, nI_sub2, nI_cl2, eq_self_iff_true, ln0, ln1, ln2, ln3, ln4, ln5, ln6, ln7, ln8, ln9, ln10, ln11, ln12, ln13, ln14, ln15, ln16, ln17, ln18, ln19, ln20, ln21, ln64, ln120, ln160, ln180, ln255, ln1280, ln21600, hV.1, e6_new_y hV hjR hR20, e7_run_y h5 hjR hR20, zi_t (show y < nI 0 from h0), mi_I, z0, ↓reduceIte, Nat.reduceEqDiff, reduceCtorEq, Nat.reduceAdd, Nat.reduceMul, Nat.reduceSub, eq_self_iff_true, true_and, and_true, false_and, and_false, and_self]
        exact hno
      · obtain ⟨n, hn, rfl⟩ := nI_of h0
        by_cases hl : n < len
        · obtain ⟨u1, u2⟩ := w7.2 n hl
          have hbr := isB_ret u2
          simp (disch := omega) only [zi_le_t, zi_le_f, zi_lt_t, zi_lt_f, zi_eq_t, zi_eq_f, zi_eq_m, zi_lt_m, zi_le_m, zg_in, zi_T, zi_F, zg_T, zb_S, zo_N, zo_S, zs_D, nI_add, pk_mul, nI_sub2, nI_cl2, eq_self_iff_true, ln0, ln1, ln2, ln3, ln4, ln5, ln6, ln7, ln8, ln9, ln10, ln11, ln12, ln13, ln14, ln15, ln16, ln17, ln18, ln19, ln20, ln21, ln64, ln120, ln160, ln180, ln255, ln1280, ln21600, hV.1, hV.v7 hjR, h9, e6_new_y hV hjR hR20, e7_run_y h5 hjR hR20, w7.1, w4, e7_pl w1, hpl2, w6, u1, hbr, mr_I, mi_I, z0, ↓reduceIte, Nat.reduceEqDiff, reduceCtorEq, Nat.reduceAdd, Nat.reduceMul, Nat.reduceSub, eq_self_iff_true, true_and, and_true, false_and, and_false, and_self]
          exact ⟨_, _, _, _, rfl, rfl, Or.inr ⟨rfl, rfl⟩, hR.thrown (nI 0)⟩
        · simp (disch := omega) only [zi_le_t, zi_le_f, zi_lt_t, zi_lt_f, zi_eq_t, zi_eq_f, zi_eq_m, zi_lt_m, zi_le_m, zg_in, zi_T, zi_F, zg_T, zb_S, zo_N, zo_S, zs_D, nI_add, pk_mul, nI_sub2, nI_cl2, eq_self_iff_true, ln0, ln1, ln2, ln3, ln4, ln5, ln6, ln7, ln8, ln9, ln10, ln11, ln12, ln13, ln14, ln15, ln16, ln17, ln18, ln19, ln20, ln21, ln64, ln120, ln160, ln180, ln255, ln1280, ln21600, hV.1, hV.v7 hjR, h9, e6_new_y hV hjR hR20, e7_run_y h5 hjR hR20, w7.1, w4, e7_pl w1, hpl2, w6, mi_I, z0, ↓reduceIte, Nat.reduceEqDiff, reduceCtorEq, Nat.reduceAdd, Nat.reduceMul, Nat.reduceSub, eq_self_iff_true, true_and, and_true, false_and, and_false, and_self]
          exact hno
    · simp (disch := omega) only [zi_le_t, zi_le_f, zi_lt_t, zi_lt_f, zi_eq_t, zi_eq_f, zi_eq_m, zi_lt_m, zi_le_m, zg_in, zi_T, zi_F, zg_T, zb_S, zo_N, zo_S, zs_D, nI_add, pk_mul, nI_sub2, nI_cl2, eq_self_iff_true, ln0, ln1, ln2, ln3, ln4, ln5, ln6, ln7, ln8, ln9, ln10, ln11, ln12, ln13, ln14, ln15, ln16, ln17, ln18, ln19, ln20, ln21, ln64, ln120, ln160, ln180, ln255, ln1280, ln21600, hV.1, e6_new_n hV (Nat.not_lt.mp hjR) hj, e7_run_n h5 (Nat.not_lt.mp hjR) hj, mi_I, z0, ↓reduceIte, Nat.reduceEqDiff, reduceCtorEq, Nat.reduceAdd, Nat.reduceMul, Nat.reduceSub, eq_self_iff_true, true_and, and_true, false_and, and_false, and_self]
      exact hno
end SIMS
