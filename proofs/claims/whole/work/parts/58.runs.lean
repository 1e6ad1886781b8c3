/-! ===== run, power ===== -/
section RUNS
variable {S R B C N : Nat} {E : Nat → Nat} {σ : CS} {τ : MS}


theorem bar_no (hA : RelA S R B C E σ τ) (x y : Int32) : (∃ n : Nat, (n = 1 ∨ n = 3) ∧ (∀ z : Int32, k_X6_callRun σ x y z = some (-nI n, cI σ 7 0 (ci σ 7 0 + nI 1))) ∧ k_X7_barred τ x y = some (-nI n, τ)) ∨ ∃ c i : Nat, c < 8 ∧ i < R ∧ x = nI c ∧ y = nI (i + 1) ∧ RKy R σ τ (20 * c + i) i ∧ mr τ 14 c = nI 1 ∧ mr τ 23 (20 * c + i) = nI 0 ∧ mr τ 21 (20 * c + i) = nI (E i) ∧ ci σ 601 (20 * c + i) = nI (E i) ∧ k_X7_barred τ x y = some (nI 0, τ) := by
  obtain ⟨hV, hG, hU, hE, hc, hk⟩ := id hA
  have h5 : mi τ 5 = nI R := hG.2.2.2.2.2.2.2.1
  have hR20 : R ≤ 20 := hG.2.2.2.2.2.2.2.2.1
  rcases ix8 x with h | ⟨c, hc8, rfl⟩
  · left
    refine ⟨1, Or.inl rfl, fun z => ?_, ?_⟩
    · rw [k_X6_callRun]
      rcases ix20 y with h2 | ⟨j, hj, rfl⟩
      · simp (disch := omega) only [zi_le_t, zi_le_f, zi_lt_t, zi_lt_f, zi_eq_t, zi_eq_f, zi_eq_m, zi_lt_m, zi_le_m, zg_in, zi_T, zi_F, zg_T, zb_S, zo_N, zo_S, zs_D, nI_add, pk_mul, nI_sub2, nI_cl2, eq_self_iff_true, ln0, ln1, ln2, ln3, ln4, ln5, ln6, ln7, ln8, ln9, ln10, ln11, ln12, ln13, ln14, ln15, ln16, ln17, ln18, ln19, ln20, ln21, ln64, ln120, ln160, ln180, ln255, ln1280, ln21600, hV.1, e6_ctrl_o hV h, e6_new_o hV h2, e6_ref hV, k_X6_callRun_b24]
      · by_cases hjR : j < R
        · simp (disch := omega) only [zi_le_t, zi_le_f, zi_lt_t, zi_lt_f, zi_eq_t, zi_eq_f, zi_eq_m, zi_lt_m, zi_le_m, zg_in, zi_T, zi_F, zg_T, zb_S, zo_N, zo_S, zs_D, nI_add, pk_mul, nI_sub2, nI_cl2, eq_self_iff_true, ln0, ln1, ln2, ln3, ln4, ln5, ln6, ln7, ln8, ln9, ln10, ln11, ln12, ln13, ln14, ln15, ln16, ln17, ln18, ln19, ln20, ln21, ln64, ln120, ln160, ln180, ln255, ln1280, ln21600, hV.1, e6_ctrl_o hV h, e6_new_y hV hjR hR20, e6_ref hV, k_X6_callRun_b24]
        · simp (disch := omega) only [zi_le_t, zi_le_f, zi_lt_t, zi_lt_f, zi_eq_t, zi_eq_f, zi_eq_m, zi_lt_m, zi_le_m, zg_in, zi_T, zi_F, zg_T, zb_S, zo_N, zo_S, zs_D, nI_add, pk_mul, nI_sub2, nI_cl2, eq_self_iff_true, ln0, ln1, ln2, ln3, ln4, ln5, ln6, ln7, ln8, ln9, ln10, ln11, ln12, ln13, ln14, ln15, ln16, ln17, ln18, ln19, ln20, ln21, ln64, ln120, ln160, ln180, ln255, ln1280, ln21600, hV.1, e6_ctrl_o hV h, e6_new_n hV (Nat.not_lt.mp hjR) hj, e6_ref hV, k_X6_callRun_b24]
    · rw [k_X7_barred]
      simp (disch := omega) only [zi_le_t, zi_le_f, zi_lt_t, zi_lt_f, zi_eq_t, zi_eq_f, zi_eq_m, zi_lt_m, zi_le_m, zg_in, zi_T, zi_F, zg_T, zb_S, zo_N, zo_S, zs_D, nI_add, pk_mul, nI_sub2, nI_cl2, eq_self_iff_true, ln0, ln1, ln2, ln3, ln4, ln5, ln6, ln7, ln8, ln9, ln10, ln11, ln12, ln13, ln14, ln15, ln16, ln17, ln18, ln19, ln20, ln21, ln64, ln120, ln160, ln180, ln255, ln1280, ln21600, e7_ctrl_o h, k_X7_barred_b16]
  · rcases ix20 y with h2 | ⟨i, hi20, rfl⟩
    · left
      refine ⟨1, Or.inl rfl, fun z => ?_, ?_⟩
      · rw [k_X6_callRun]
        simp (disch := omega) only [zi_le_t, zi_le_f, zi_lt_t, zi_lt_f, zi_eq_t, zi_eq_f, zi_eq_m, zi_lt_m, zi_le_m, zg_in, zi_T, zi_F, zg_T, zb_S, zo_N, zo_S, zs_D, nI_add, pk_mul, nI_sub2, nI_cl2, eq_self_iff_true, ln0, ln1, ln2, ln3, ln4, ln5, ln6, ln7, ln8, ln9, ln10, ln11, ln12, ln13, ln14, ln15, ln16, ln17, ln18, ln19, ln20, ln21, ln64, ln120, ln160, ln180, ln255, ln1280, ln21600, hV.1, e6_ctrl hV hc8, e6_new_o hV h2, e6_ref hV, k_X6_callRun_b24]
      · rw [k_X7_barred]
        simp (disch := omega) only [zi_le_t, zi_le_f, zi_lt_t, zi_lt_f, zi_eq_t, zi_eq_f, zi_eq_m, zi_lt_m, zi_le_m, zg_in, zi_T, zi_F, zg_T, zb_S, zo_N, zo_S, zs_D, nI_add, pk_mul, nI_sub2, nI_cl2, eq_self_iff_true, ln0, ln1, ln2, ln3, ln4, ln5, ln6, ln7, ln8, ln9, ln10, ln11, ln12, ln13, ln14, ln15, ln16, ln17, ln18, ln19, ln20, ln21, ln64, ln120, ln160, ln180, ln255, ln1280, ln21600, e7_ctrl hc8, e7_run_o h5 hR20 h2, k_X7_barred_b16]
    · by_cases hiR : i < R
      · obtain ⟨w1, w2, w3, w4, w5⟩ := hE i hiR
        obtain ⟨r1, r2, r3, r4, r5, r6, r7, r8, r9⟩ := hc c hc8
        obtain ⟨hq, -⟩ := hk c i hc8 hi20
        rcases hq with ⟨q1, q2, q3⟩ | hy
        · left
          refine ⟨3, Or.inr rfl, fun z => ?_, ?_⟩
          · rw [k_X6_callRun]
            simp (disch := omega) only [zi_le_t, zi_le_f, zi_lt_t, zi_lt_f, zi_eq_t, zi_eq_f, zi_eq_m, zi_lt_m, zi_le_m, zg_in, zi_T, zi_F, zg_T, zb_S, zo_N, zo_S, zs_D, nI_add, pk_mul, nI_sub2, nI_cl2, eq_self_iff_true, ln0, ln1, ln2, ln3, ln4, ln5, ln6, ln7, ln8, ln9, ln10, ln11, ln12, ln13, ln14, ln15, ln16, ln17, ln18, ln19, ln20, ln21, ln64, ln120, ln160, ln180, ln255, ln1280, ln21600, hV.1, hV.v4 hc8, e6_ctrl hV hc8, e6_new_y hV hiR hR20, e6_cls_n hV hc8 hi20 q1, e6_ref hV, k_X6_callRun_b72]
          · rw [k_X7_barred]
            rcases r2 with r2 | r2
            · simp (disch := omega) only [zi_le_t, zi_le_f, zi_lt_t, zi_lt_f, zi_eq_t, zi_eq_f, zi_eq_m, zi_lt_m, zi_le_m, zg_in, zi_T, zi_F, zg_T, zb_S, zo_N, zo_S, zs_D, nI_add, pk_mul, nI_sub2, nI_cl2, eq_self_iff_true, ln0, ln1, ln2, ln3, ln4, ln5, ln6, ln7, ln8, ln9, ln10, ln11, ln12, ln13, ln14, ln15, ln16, ln17, ln18, ln19, ln20, ln21, ln64, ln120, ln160, ln180, ln255, ln1280, ln21600, e7_ctrl hc8, e7_run_y h5 hiR hR20, e7_at, r2, q2, k_X7_barred_b66, k_X7_barred_b72]
            · simp (disch := omega) only [zi_le_t, zi_le_f, zi_lt_t, zi_lt_f, zi_eq_t, zi_eq_f, zi_eq_m, zi_lt_m, zi_le_m, zg_in, zi_T, zi_F, zg_T, zb_S, zo_N, zo_S, zs_D, nI_add, pk_mul, nI_sub2, nI_cl2, eq_self_iff_true, ln0, ln1, ln2, ln3, ln4, ln5, ln6, ln7, ln8, ln9, ln10, ln11, ln12, ln13, ln14, ln15, ln16, ln17, ln18, ln19, ln20, ln21, ln64, ln120, ln160, ln180, ln255, ln1280, ln21600, e7_ctrl hc8, e7_run_y h5 hiR hR20, e7_at, r2, q2, k_X7_barred_b66, k_X7_barred_b72]
        · obtain ⟨k1, k2, k3, ⟨e, k4, k5, k6, k7⟩, k8, k9, k10, k11⟩ := id hy
          rcases r2 with r2 | r2
          · left
            refine ⟨3, Or.inr rfl, fun z => ?_, ?_⟩
            · rw [k_X6_callRun]
              simp (disch := omega) only [zi_le_t, zi_le_f, zi_lt_t, zi_lt_f, zi_eq_t, zi_eq_f, zi_eq_m, zi_lt_m, zi_le_m, zg_in, zi_T, zi_F, zg_T, zb_S, zo_N, zo_S, zs_D, nI_add, pk_mul, nI_sub2, nI_cl2, eq_self_iff_true, ln0, ln1, ln2, ln3, ln4, ln5, ln6, ln7, ln8, ln9, ln10, ln11, ln12, ln13, ln14, ln15, ln16, ln17, ln18, ln19, ln20, ln21, ln64, ln120, ln160, ln180, ln255, ln1280, ln21600, hV.1, hV.v4 hc8, e6_ctrl hV hc8, e6_new_y hV hiR hR20, e6_cls_y hV hc8 hi20 k1, r1, r2, e6_ref hV, k_X6_callRun_b72]
            · rw [k_X7_barred]
              simp (disch := omega) only [zi_le_t, zi_le_f, zi_lt_t, zi_lt_f, zi_eq_t, zi_eq_f, zi_eq_m, zi_lt_m, zi_le_m, zg_in, zi_T, zi_F, zg_T, zb_S, zo_N, zo_S, zs_D, nI_add, pk_mul, nI_sub2, nI_cl2, eq_self_iff_true, ln0, ln1, ln2, ln3, ln4, ln5, ln6, ln7, ln8, ln9, ln10, ln11, ln12, ln13, ln14, ln15, ln16, ln17, ln18, ln19, ln20, ln21, ln64, ln120, ln160, ln180, ln255, ln1280, ln21600, e7_ctrl hc8, e7_run_y h5 hiR hR20, e7_at, r2, k_X7_barred_b66, k_X7_barred_b72]
          · rcases k9 with k9 | k9
            · by_cases he : e = E i
              · subst he
                right
                refine ⟨c, i, hc8, hiR, rfl, rfl, hy, r2, k9, k7, k6, ?_⟩
                rw [k_X7_barred]
                simp (disch := omega) only [zi_le_t, zi_le_f, zi_lt_t, zi_lt_f, zi_eq_t, zi_eq_f, zi_eq_m, zi_lt_m, zi_le_m, zg_in, zi_T, zi_F, zg_T, zb_S, zo_N, zo_S, zs_D, nI_add, pk_mul, nI_sub2, nI_cl2, eq_self_iff_true, ln0, ln1, ln2, ln3, ln4, ln5, ln6, ln7, ln8, ln9, ln10, ln11, ln12, ln13, ln14, ln15, ln16, ln17, ln18, ln19, ln20, ln21, ln64, ln120, ln160, ln180, ln255, ln1280, ln21600, e7_ctrl hc8, e7_run_y h5 hiR hR20, e7_at, r2, k7, k9, w4, k_X7_barred_b66, k_X7_barred_b72]
              · left
                refine ⟨3, Or.inr rfl, fun z => ?_, ?_⟩
                · rw [k_X6_callRun]
                  simp (disch := omega) only [zi_le_t, zi_le_f, zi_lt_t, zi_lt_f, zi_eq_t, zi_eq_f, zi_eq_m, zi_lt_m, zi_le_m, zg_in, zi_T, zi_F, zg_T, zb_S, zo_N, zo_S, zs_D, nI_add, pk_mul, nI_sub2, nI_cl2, eq_self_iff_true, ln0, ln1, ln2, ln3, ln4, ln5, ln6, ln7, ln8, ln9, ln10, ln11, ln12, ln13, ln14, ln15, ln16, ln17, ln18, ln19, ln20, ln21, ln64, ln120, ln160, ln180, ln255, ln1280, ln21600, hV.1, hV.v4 hc8, hV.v7 hiR, e6_ctrl hV hc8, e6_new_y hV hiR hR20, e6_cls_y hV hc8 hi20 k1, r1, r2, k1, k6, k8, k9, w3, zi_eq_f (show e < E i ∨ E i < e by omega), e6_ref hV, k_X6_callRun_b72]
                · rw [k_X7_barred]
                  simp (disch := omega) only [zi_le_t, zi_le_f, zi_lt_t, zi_lt_f, zi_eq_t, zi_eq_f, zi_eq_m, zi_lt_m, zi_le_m, zg_in, zi_T, zi_F, zg_T, zb_S, zo_N, zo_S, zs_D, nI_add, pk_mul, nI_sub2, nI_cl2, eq_self_iff_true, ln0, ln1, ln2, ln3, ln4, ln5, ln6, ln7, ln8, ln9, ln10, ln11, ln12, ln13, ln14, ln15, ln16, ln17, ln18, ln19, ln20, ln21, ln64, ln120, ln160, ln180, ln255, ln1280, ln21600, e7_ctrl hc8, e7_run_y h5 hiR hR20, e7_at, r2, k7, k9, w4, zi_eq_f (show e < E i ∨ E i < e by omega), k_X7_barred_b66, k_X7_barred_b72]
            · left
              refine ⟨3, Or.inr rfl, fun z => ?_, ?_⟩
              · rw [k_X6_callRun]
                simp (disch := omega) only [zi_le_t, zi_le_f, zi_lt_t, zi_lt_f, zi_eq_t, zi_eq_f, zi_eq_m, zi_lt_m, zi_le_m, zg_in, zi_T, zi_F, zg_T, zb_S, zo_N, zo_S, zs_D, nI_add, pk_mul, nI_sub2, nI_cl2, eq_self_iff_true, ln0, ln1, ln2, ln3, ln4, ln5, ln6, ln7, ln8, ln9, ln10, ln11, ln12, ln13, ln14, ln15, ln16, ln17, ln18, ln19, ln20, ln21, ln64, ln120, ln160, ln180, ln255, ln1280, ln21600, hV.1, hV.v4 hc8, e6_ctrl hV hc8, e6_new_y hV hiR hR20, e6_cls_y hV hc8 hi20 k1, r1, r2, k1, k8, k9, e6_ref hV, k_X6_callRun_b72]
              · rw [k_X7_barred]
                simp (disch := omega) only [zi_le_t, zi_le_f, zi_lt_t, zi_lt_f, zi_eq_t, zi_eq_f, zi_eq_m, zi_lt_m, zi_le_m, zg_in, zi_T, zi_F, zg_T, zb_S, zo_N, zo_S, zs_D, nI_add, pk_mul, nI_sub2, nI_cl2, eq_self_iff_true, ln0, ln1, ln2, ln3, ln4, ln5, ln6, ln7, ln8, ln9, ln10, ln11, ln12, ln13, ln14, ln15, ln16, ln17, ln18, ln19, ln20, ln21, ln64, ln120, ln160, ln180, ln255, ln1280, ln21600, e7_ctrl hc8, e7_run_y h5 hiR hR20, e7_at, r2, k7, k9, k_X7_barred_b66, k_X7_barred_b72]
      · left
        refine ⟨1, Or.inl rfl, fun z => ?_, ?_⟩
        · rw [k_X6_callRun]
          simp (disch := omega) only [zi_le_t, zi_le_f, zi_lt_t, zi_lt_f, zi_eq_t, zi_eq_f, zi_eq_m, zi_lt_m, zi_le_m, zg_in, zi_T, zi_F, zg_T, zb_S, zo_N, zo_S, zs_D, nI_add, pk_mul, nI_sub2, nI_cl2, eq_self_iff_true, ln0, ln1, ln2, ln3, ln4, ln5, ln6, ln7, ln8, ln9, ln10, ln11, ln12, ln13, ln14, ln15, ln16, ln17, ln18, ln19, ln20, ln21, ln64, ln120, ln160, ln180, ln255, ln1280, ln21600, hV.1, e6_ctrl hV hc8, e6_new_n hV (Nat.not_lt.mp hiR) hi20, e6_ref hV, k_X6_callRun_b24]
        · rw [k_X7_barred]
          simp (disch := omega) only [zi_le_t, zi_le_f, zi_lt_t, zi_lt_f, zi_eq_t, zi_eq_f, zi_eq_m, zi_lt_m, zi_le_m, zg_in, zi_T, zi_F, zg_T, zb_S, zo_N, zo_S, zs_D, nI_add, pk_mul, nI_sub2, nI_cl2, eq_self_iff_true, ln0, ln1, ln2, ln3, ln4, ln5, ln6, ln7, ln8, ln9, ln10, ln11, ln12, ln13, ln14, ln15, ln16, ln17, ln18, ln19, ln20, ln21, ln64, ln120, ln160, ln180, ln255, ln1280, ln21600, e7_ctrl hc8, e7_run_n h5 (Nat.not_lt.mp hiR) hi20, k_X7_barred_b16]
theorem sim_run (hN : N + 20 < 2147483648) (hR : Rel N σ τ) (x y : Int32) : Sim (N + 20) (k_X6_run σ x y) (k_X7_run τ x y) := by
  have hR := hR.thrown 0
  unfold k_X7_run k_X7_run_b66 k_X7_run_b83
  generalize mI τ 0 0 = τ at hR ⊢
  obtain ⟨S, R, B, C, E, hC, hA⟩ := id hR
  obtain ⟨hV, hG, hU, hE, hc, hk⟩ := id hA
  unfold k_X6_run
  have hR20 : R ≤ 20 := hG.2.2.2.2.2.2.2.2.1
  rcases bar_no hA x y with ⟨n, hn, h1, h2⟩ | ⟨c, i, hc8, hi, rfl, rfl, hy, u14, u23, u21, u601, hb⟩
  · rcases hn with rfl | rfl
    · simp (disch := omega) only [zi_le_t, zi_le_f, zi_lt_t, zi_lt_f, zi_eq_t, zi_eq_f, zi_eq_m, zi_lt_m, zi_le_m, zg_in, zi_T, zi_F, zg_T, zb_S, zo_N, zo_S, zs_D, nI_add, pk_mul, nI_sub2, nI_cl2, eq_self_iff_true, ln0, ln1, ln2, ln3, ln4, ln5, ln6, ln7, ln8, ln9, ln10, ln11, ln12, ln13, ln14, ln15, ln16, ln17, ln18, ln19, ln20, ln21, ln64, ln120, ln160, ln180, ln255, ln1280, ln21600, hV.1, h1, h2, e7_ref]
      exact sim_refd (hR.mono (by omega)) _
    · simp (disch := omega) only [zi_le_t, zi_le_f, zi_lt_t, zi_lt_f, zi_eq_t, zi_eq_f, zi_eq_m, zi_lt_m, zi_le_m, zg_in, zi_T, zi_F, zg_T, zb_S, zo_N, zo_S, zs_D, nI_add, pk_mul, nI_sub2, nI_cl2, eq_self_iff_true, ln0, ln1, ln2, ln3, ln4, ln5, ln6, ln7, ln8, ln9, ln10, ln11, ln12, ln13, ln14, ln15, ln16, ln17, ln18, ln19, ln20, ln21, ln64, ln120, ln160, ln180, ln255, ln1280, ln21600, hV.1, h1, h2, e7_ref]
      exact sim_refd (hR.mono (by omega)) _
  · obtain ⟨w1, w2, w3, w4, len, rs, rl, w5, w6, w7, w8, w9, w10, w11, w12⟩ := hE i hi
    obtain ⟨r1, r2, r3, r4, r5, r6, r7, r8, r9⟩ := hc c hc8
    have hpl : pl E i ≤ 179 := by unfold pl; omega
    have hq9 : cv σ 9 (4 + 3 * i) = true := (hV.2.2.2.2.2.2.2.2.1 i hi).2.2.1
    obtain ⟨r, σ2, τ1, hr7, e0, e1, e2, e3, e4⟩ := call_sim hA hc8 hi hy u21 hq9 w11 (by omega) (by omega)
    have s603 : ci σ 603 (20 * c + i) = nI 0 := by rw [hy.2.2.2.2.1]; exact u23
    have hm : k_X7_runMember τ (nI c) (nI (i + 1)) = some (nI r, τ1) := by
      rw [k_X7_runMember]
      have hpl2 : 9 * i + (E i - 1) = pl E i := rfl
      simp (disch := omega) only [zi_le_t, zi_le_f, zi_lt_t, zi_lt_f, zi_eq_t, zi_eq_f, zi_eq_m, zi_lt_m, zi_le_m, zg_in, zi_T, zi_F, zg_T, zb_S, zo_N, zo_S, zs_D, nI_add, pk_mul, nI_sub2, nI_cl2, eq_self_iff_true, ln0, ln1, ln2, ln3, ln4, ln5, ln6, ln7, ln8, ln9, ln10, ln11, ln12, ln13, ln14, ln15, ln16, ln17, ln18, ln19, ln20, ln21, ln64, ln120, ln160, ln180, ln255, ln1280, ln21600, e7_at, u21, e7_pl w1, hpl2, w8, w9, e2]
    have hcr : k_X6_callRun σ (nI c) (nI (i + 1)) (nI 0) = zi (nI r = nI 0) (k_X6_callRun_b142 (nI c) (nI (i + 1)) (nI 0) σ2 c i (20 * c + i) (nI r)) (zb (k_X6_react σ2 c (20 * c + i)) (fun _ t => k_X6_callRun_b142 (nI c) (nI (i + 1)) (nI 0) t c i (20 * c + i) (nI r))) := by
      rw [k_X6_callRun]
      simp (disch := omega) only [zi_le_t, zi_le_f, zi_lt_t, zi_lt_f, zi_eq_t, zi_eq_f, zi_eq_m, zi_lt_m, zi_le_m, zg_in, zi_T, zi_F, zg_T, zb_S, zo_N, zo_S, zs_D, nI_add, pk_mul, nI_sub2, nI_cl2, eq_self_iff_true, ln0, ln1, ln2, ln3, ln4, ln5, ln6, ln7, ln8, ln9, ln10, ln11, ln12, ln13, ln14, ln15, ln16, ln17, ln18, ln19, ln20, ln21, ln64, ln120, ln160, ln180, ln255, ln1280, ln21600, hV.1, hV.v4 hc8, hV.v7 hi, e6_ctrl hV hc8, e6_new_y hV hi hR20, e6_cls_y hV hc8 (show i < 20 by omega) hy.1, r1, u14, hy.1, s603, u601, w3, e1]
    by_cases hr0 : r = 0
    · subst hr0
      simp (disch := omega) only [zi_le_t, zi_le_f, zi_lt_t, zi_lt_f, zi_eq_t, zi_eq_f, zi_eq_m, zi_lt_m, zi_le_m, zg_in, zi_T, zi_F, zg_T, zb_S, zo_N, zo_S, zs_D, nI_add, pk_mul, nI_sub2, nI_cl2, eq_self_iff_true, ln0, ln1, ln2, ln3, ln4, ln5, ln6, ln7, ln8, ln9, ln10, ln11, ln12, ln13, ln14, ln15, ln16, ln17, ln18, ln19, ln20, ln21, ln64, ln120, ln160, ln180, ln255, ln1280, ln21600, hV.1, hb, hm, hcr, k_X6_callRun_b142, k_X6_callRun_b156]
      exact ⟨_, _, _, rfl, rfl, _, _, _, _, _, by omega, e3 rfl⟩
    · obtain ⟨τ2, t2, hA2⟩ := e4 hr0
      have hV2 := hA2.1
      have n0 : 0 < r := by omega
      obtain ⟨s1, s2, s3, s4, s5, s6, s7, s8, s9⟩ := hA2.2.2.2.2.1 c hc8
      have hk6 : cv σ2 6 (20 * c + i) = true := by rw [e0]; exact hy.1
      have b0 : vp_nar .boolean (nI 0) = nI 0 := by decide
      have b1 : vp_nar .boolean (nI 1) = nI 1 := by decide
      by_cases h1 : mr τ2 15 c = nI 1
      · have hn2 : ¬ nI 1 = nI 2 := by decide
        simp (disch := omega) only [zi_le_t, zi_le_f, zi_lt_t, zi_lt_f, zi_eq_t, zi_eq_f, zi_eq_m, zi_lt_m, zi_le_m, zg_in, zi_T, zi_F, zg_T, zb_S, zo_N, zo_S, zs_D, nI_add, pk_mul, nI_sub2, nI_cl2, eq_self_iff_true, ln0, ln1, ln2, ln3, ln4, ln5, ln6, ln7, ln8, ln9, ln10, ln11, ln12, ln13, ln14, ln15, ln16, ln17, ln18, ln19, ln20, ln21, ln64, ln120, ln160, ln180, ln255, ln1280, ln21600, ↓reduceIte, Nat.reduceEqDiff, reduceCtorEq, Nat.reduceAdd, Nat.reduceMul, Nat.reduceSub, eq_self_iff_true, true_and, and_true, false_and, and_false, and_self, hV.1, hb, hm, hcr, k_X6_callRun_b142, k_X6_callRun_b156, t2, k_X6_react, k_X6_react_b13, k_X6_react_b26, hV2.v4 hc8, s3, h1, hk6, ci_I, cv_I, e7_at, b1, b0, mr_R]
        exact ⟨_, _, _, rfl, rfl, _, _, _, _, _, by omega, hA2.stop _⟩
      · by_cases h2 : mr τ2 15 c = nI 2
        · simp (disch := omega) only [zi_le_t, zi_le_f, zi_lt_t, zi_lt_f, zi_eq_t, zi_eq_f, zi_eq_m, zi_lt_m, zi_le_m, zg_in, zi_T, zi_F, zg_T, zb_S, zo_N, zo_S, zs_D, nI_add, pk_mul, nI_sub2, nI_cl2, eq_self_iff_true, ln0, ln1, ln2, ln3, ln4, ln5, ln6, ln7, ln8, ln9, ln10, ln11, ln12, ln13, ln14, ln15, ln16, ln17, ln18, ln19, ln20, ln21, ln64, ln120, ln160, ln180, ln255, ln1280, ln21600, ↓reduceIte, Nat.reduceEqDiff, reduceCtorEq, Nat.reduceAdd, Nat.reduceMul, Nat.reduceSub, eq_self_iff_true, true_and, and_true, false_and, and_false, and_self, hV.1, hb, hm, hcr, k_X6_callRun_b142, k_X6_callRun_b156, t2, k_X6_react, k_X6_react_b13, k_X6_react_b26, hV2.v4 hc8, s3, h2, e7_at, b1, b0, mr_R]
          exact ⟨_, _, _, rfl, rfl, _, _, _, _, _, by omega, hA2.upset (Or.inl rfl)⟩
        · simp (disch := omega) only [zi_le_t, zi_le_f, zi_lt_t, zi_lt_f, zi_eq_t, zi_eq_f, zi_eq_m, zi_lt_m, zi_le_m, zg_in, zi_T, zi_F, zg_T, zb_S, zo_N, zo_S, zs_D, nI_add, pk_mul, nI_sub2, nI_cl2, eq_self_iff_true, ln0, ln1, ln2, ln3, ln4, ln5, ln6, ln7, ln8, ln9, ln10, ln11, ln12, ln13, ln14, ln15, ln16, ln17, ln18, ln19, ln20, ln21, ln64, ln120, ln160, ln180, ln255, ln1280, ln21600, ↓reduceIte, Nat.reduceEqDiff, reduceCtorEq, Nat.reduceAdd, Nat.reduceMul, Nat.reduceSub, eq_self_iff_true, true_and, and_true, false_and, and_false, and_self, hV.1, hb, hm, hcr, k_X6_callRun_b142, k_X6_callRun_b156, t2, k_X6_react, k_X6_react_b13, k_X6_react_b26, hV2.v4 hc8, s3, zi_f h1, zi_f h2, e7_at, b1, b0, mr_R]
          exact ⟨_, _, _, rfl, rfl, _, _, _, _, _, by omega, hA2⟩
end RUNS
