/-! ===== the calls that only look, or change one thing ===== -/
section OPS
variable {S R B C N : Nat} {E : Nat → Nat} {σ : CS} {τ : MS}
theorem sim_refd (hR : Rel N σ τ) (w : Int32) : Sim N (some (w, cI σ 7 0 (ci σ 7 0 + nI 1))) (some (w, mI τ 2 (mi τ 2 + nI 1))) := ⟨w, _, _, rfl, rfl, hR.refuse⟩
theorem sim_same {α : Type} (hR : Rel N σ τ) (r : α) : Sim N (some (r, σ)) (some (r, τ)) := ⟨r, _, _, rfl, rfl, hR⟩
theorem RV.v8 (hV : RV R σ) {a : Nat} (ha : a < 11) : cv σ 8 a = true := hV.2.2.2.2.2.2.2.1 a ha
theorem RV.v4 (hV : RV R σ) {c : Nat} (ha : c < 8) : cv σ 4 c = true := (hV.2.2.2.2.2.2.1 c ha).1
theorem RV.v7 (hV : RV R σ) {i : Nat} (ha : i < R) : cv σ 7 i = true := (hV.2.2.2.2.2.2.2.2.1 i ha).1
theorem sim_port (hR : Rel N σ τ) (x y : Int32) : Sim N (k_X6_port σ x y) (k_X7_port τ x y) := by
  have hR := hR.thrown 0
  unfold k_X7_port k_X7_port_b37 k_X7_port_b38
  generalize mI τ 0 0 = τ at hR ⊢
  obtain ⟨S, R, B, C, E, hC, hV, hG, hU, hE, hc, hk⟩ := id hR
  unfold k_X6_port k_X6_port_b22
  rcases ix8 x with h | ⟨c, hc8, rfl⟩
  · simp (disch := omega) only [zi_le_t, zi_le_f, zi_lt_t, zi_lt_f, zi_eq_t, zi_eq_f, zi_eq_m, zi_lt_m, zi_le_m, zg_in, zi_T, zi_F, zg_T, zb_S, zo_N, zo_S, zs_D, nI_add, pk_mul, nI_sub2, nI_cl2, eq_self_iff_true, ln0, ln1, ln2, ln3, ln4, ln5, ln6, ln7, ln8, ln9, ln10, ln11, ln12, ln13, ln14, ln15, ln16, ln17, ln18, ln19, ln20, ln21, ln64, ln120, ln160, ln180, ln255, ln1280, ln21600, hV.1, e6_ctrl_o hV h, e7_ctrl_o h]
    exact sim_same hR _
  · have h8 : cv σ 8 (3 + c) = true := hV.v8 (by omega)
    rcases ix8 y with h | ⟨p, hp, rfl⟩
    · simp (disch := omega) only [zi_le_t, zi_le_f, zi_lt_t, zi_lt_f, zi_eq_t, zi_eq_f, zi_eq_m, zi_lt_m, zi_le_m, zg_in, zi_T, zi_F, zg_T, zb_S, zo_N, zo_S, zs_D, nI_add, pk_mul, nI_sub2, nI_cl2, eq_self_iff_true, ln0, ln1, ln2, ln3, ln4, ln5, ln6, ln7, ln8, ln9, ln10, ln11, ln12, ln13, ln14, ln15, ln16, ln17, ln18, ln19, ln20, ln21, ln64, ln120, ln160, ln180, ln255, ln1280, ln21600, hV.1, e6_ctrl hV hc8, e7_ctrl hc8, hV.v4 hc8, e6_num_o h8 (by omega) h, e7_in_n (o8_7 h)]
      simp (disch := omega) only [zi_le_t, zi_le_f, zi_lt_t, zi_lt_f, zi_eq_t, zi_eq_f, zi_eq_m, zi_lt_m, zi_le_m, zg_in, zi_T, zi_F, zg_T, zb_S, zo_N, zo_S, zs_D, nI_add, pk_mul, nI_sub2, nI_cl2, eq_self_iff_true, ln0, ln1, ln2, ln3, ln4, ln5, ln6, ln7, ln8, ln9, ln10, ln11, ln12, ln13, ln14, ln15, ln16, ln17, ln18, ln19, ln20, ln21, ln64, ln120, ln160, ln180, ln255, ln1280, ln21600, e7_in_n (show y < nI 0 ∨ nI 7 < y from o8_7 h)]
      exact sim_same hR _
    · simp (disch := omega) only [zi_le_t, zi_le_f, zi_lt_t, zi_lt_f, zi_eq_t, zi_eq_f, zi_eq_m, zi_lt_m, zi_le_m, zg_in, zi_T, zi_F, zg_T, zb_S, zo_N, zo_S, zs_D, nI_add, pk_mul, nI_sub2, nI_cl2, eq_self_iff_true, ln0, ln1, ln2, ln3, ln4, ln5, ln6, ln7, ln8, ln9, ln10, ln11, ln12, ln13, ln14, ln15, ln16, ln17, ln18, ln19, ln20, ln21, ln64, ln120, ln160, ln180, ln255, ln1280, ln21600, hV.1, e6_ctrl hV hc8, e7_ctrl hc8, hV.v4 hc8, e6_num h8 (show 0 < 3 + c by omega) hp, e7_in_t, (hc c hc8).2.2.2.2.2.2.2.2 p hp]
      exact sim_same hR _
theorem Rel.setp (h : Rel N σ τ) {c p : Nat} (v : Int64) (hc8 : c < 8) (hp : p < 8) : Rel N (cJ σ (3 + c) p v) (mJ τ 13 (8 * c + p) v) := by
  obtain ⟨S, R, B, C, E, hC, hV, hG, hU, hE, hc, hk⟩ := h
  refine ⟨S, R, B, C, E, hC, hV, hG, hU, hE, ?_, ?_⟩
  · intro c' hc'
    obtain ⟨r1, r2, r3, r4, r5, r6, r7, r8, r9⟩ := hc c' hc'
    refine ⟨r1, r2, r3, r4, r5, r6, r7, r8, fun p' hp' => ?_⟩
    rw [cj_J, mj_J, if_pos rfl]
    unfold vp_updL
    by_cases e1 : c' = c
    · subst e1
      by_cases e2 : p' = p
      · subst e2
        rw [if_pos rfl, if_pos rfl, if_pos rfl]
      · rw [if_pos rfl, if_neg e2, if_neg (by omega)]
        exact r9 p' hp'
    · rw [if_neg (by omega), if_neg (by omega)]
      exact r9 p' hp'
  · intro c' i hc' hi
    obtain ⟨h1, h2⟩ := hk c' i hc' hi
    refine ⟨?_, h2⟩
    rcases h1 with h1 | ⟨r1, r2, r3, r4, r5, r6, r7, r8⟩
    · exact Or.inl h1
    · refine Or.inr ⟨r1, r2, r3, r4, r5, r6, fun j hj => ?_, r8⟩
      rw [cj_J, if_neg (by omega), mj_J, if_neg (by decide)]
      exact r7 j hj
theorem sim_set (hR : Rel N σ τ) (x y : Int32) (v : Int64) : Sim N (k_X6_set σ x y v) (k_X7_set τ x y v) := by
  have hR := hR.thrown 0
  unfold k_X7_set k_X7_set_b23
  generalize mI τ 0 0 = τ at hR ⊢
  obtain ⟨S, R, B, C, E, hC, hV, hG, hU, hE, hc, hk⟩ := id hR
  unfold k_X6_set k_X6_set_b26
  rcases ix8 x with h | ⟨c, hc8, rfl⟩
  · simp (disch := omega) only [zi_le_t, zi_le_f, zi_lt_t, zi_lt_f, zi_eq_t, zi_eq_f, zi_eq_m, zi_lt_m, zi_le_m, zg_in, zi_T, zi_F, zg_T, zb_S, zo_N, zo_S, zs_D, nI_add, pk_mul, nI_sub2, nI_cl2, eq_self_iff_true, ln0, ln1, ln2, ln3, ln4, ln5, ln6, ln7, ln8, ln9, ln10, ln11, ln12, ln13, ln14, ln15, ln16, ln17, ln18, ln19, ln20, ln21, ln64, ln120, ln160, ln180, ln255, ln1280, ln21600, hV.1, e6_ctrl_o hV h, e7_ctrl_o h, e6_ref hV, e7_ref]
    exact sim_refd hR _
  · have h8 : cv σ 8 (3 + c) = true := hV.v8 (by omega)
    rcases ix8 y with h | ⟨p, hp, rfl⟩
    · by_cases h0 : y < 0
      · simp (disch := omega) only [zi_le_t, zi_le_f, zi_lt_t, zi_lt_f, zi_eq_t, zi_eq_f, zi_eq_m, zi_lt_m, zi_le_m, zg_in, zi_T, zi_F, zg_T, zb_S, zo_N, zo_S, zs_D, nI_add, pk_mul, nI_sub2, nI_cl2, eq_self_iff_true, ln0, ln1, ln2, ln3, ln4, ln5, ln6, ln7, ln8, ln9, ln10, ln11, ln12, ln13, ln14, ln15, ln16, ln17, ln18, ln19, ln20, ln21, ln64, ln120, ln160, ln180, ln255, ln1280, ln21600, zi_t (show y < nI 0 from h0), hV.1, e6_ctrl hV hc8, e7_ctrl hc8, e7_in_n (show y < nI 0 ∨ nI 7 < y from o8_7 h), e6_ref hV, e7_ref]
        exact sim_refd hR _
      · have h1 : nI 8 ≤ y := h.resolve_left h0
        simp (disch := omega) only [zi_le_t, zi_le_f, zi_lt_t, zi_lt_f, zi_eq_t, zi_eq_f, zi_eq_m, zi_lt_m, zi_le_m, zg_in, zi_T, zi_F, zg_T, zb_S, zo_N, zo_S, zs_D, nI_add, pk_mul, nI_sub2, nI_cl2, eq_self_iff_true, ln0, ln1, ln2, ln3, ln4, ln5, ln6, ln7, ln8, ln9, ln10, ln11, ln12, ln13, ln14, ln15, ln16, ln17, ln18, ln19, ln20, ln21, ln64, ln120, ln160, ln180, ln255, ln1280, ln21600, hV.1, e6_ctrl hV hc8, e7_ctrl hc8, hV.v4 hc8, h8, jl_8 (show 0 < 3 + c by omega), zi_f (show ¬ y < nI 0 from h0), zi_f (show ¬ y < nI 8 from Int32.not_lt.mpr h1), e7_in_n (show y < nI 0 ∨ nI 7 < y from o8_7 h), e6_ref hV, e7_ref]
        exact sim_refd hR _
    · simp (disch := omega) only [zi_le_t, zi_le_f, zi_lt_t, zi_lt_f, zi_eq_t, zi_eq_f, zi_eq_m, zi_lt_m, zi_le_m, zg_in, zi_T, zi_F, zg_T, zb_S, zo_N, zo_S, zs_D, nI_add, pk_mul, nI_sub2, nI_cl2, eq_self_iff_true, ln0, ln1, ln2, ln3, ln4, ln5, ln6, ln7, ln8, ln9, ln10, ln11, ln12, ln13, ln14, ln15, ln16, ln17, ln18, ln19, ln20, ln21, ln64, ln120, ln160, ln180, ln255, ln1280, ln21600, hV.1, e6_ctrl hV hc8, e7_ctrl hc8, hV.v4 hc8, h8, jl_8 (show 0 < 3 + c by omega), e6_putN h8 (show 0 < 3 + c by omega) hp, e7_in_t]
      exact ⟨_, _, _, rfl, rfl, hR.setp v hc8 hp⟩
theorem sim_cell (hR : Rel N σ τ) (x y z : Int32) : Sim N (k_X6_cell σ x y z) (k_X7_cell τ x y z) := by
  have hR := hR.thrown 0
  unfold k_X7_cell k_X7_cell_b42 k_X7_cell_b43
  generalize mI τ 0 0 = τ at hR ⊢
  obtain ⟨S, R, B, C, E, hC, hA⟩ := id hR
  have hV := hA.1
  unfold k_X6_cell k_X6_cell_b26
  rcases cls_two hA x y with ⟨h1, h2⟩ | ⟨c, j, hc8, hj, rfl, rfl, hy, h1, h2⟩
  · simp (disch := omega) only [zi_le_t, zi_le_f, zi_lt_t, zi_lt_f, zi_eq_t, zi_eq_f, zi_eq_m, zi_lt_m, zi_le_m, zg_in, zi_T, zi_F, zg_T, zb_S, zo_N, zo_S, zs_D, nI_add, pk_mul, nI_sub2, nI_cl2, eq_self_iff_true, ln0, ln1, ln2, ln3, ln4, ln5, ln6, ln7, ln8, ln9, ln10, ln11, ln12, ln13, ln14, ln15, ln16, ln17, ln18, ln19, ln20, ln21, ln64, ln120, ln160, ln180, ln255, ln1280, ln21600, hV.1, h1, h2]
    exact sim_same hR _
  · have hR20 := hA.2.1.2.2.2.2.2.2.2.2.1
    rcases ix8 z with h | ⟨p, hp, rfl⟩
    · simp (disch := omega) only [zi_le_t, zi_le_f, zi_lt_t, zi_lt_f, zi_eq_t, zi_eq_f, zi_eq_m, zi_lt_m, zi_le_m, zg_in, zi_T, zi_F, zg_T, zb_S, zo_N, zo_S, zs_D, nI_add, pk_mul, nI_sub2, nI_cl2, eq_self_iff_true, ln0, ln1, ln2, ln3, ln4, ln5, ln6, ln7, ln8, ln9, ln10, ln11, ln12, ln13, ln14, ln15, ln16, ln17, ln18, ln19, ln20, ln21, ln64, ln120, ln160, ln180, ln255, ln1280, ln21600, hV.1, h1, h2, hy.1, e6_num_o hy.2.1 (show 0 < 11 + (20 * c + j) by omega) h, e7_in_n (show z < nI 0 ∨ nI 7 < z from o8_7 h)]
      exact sim_same hR _
    · simp (disch := omega) only [zi_le_t, zi_le_f, zi_lt_t, zi_lt_f, zi_eq_t, zi_eq_f, zi_eq_m, zi_lt_m, zi_le_m, zg_in, zi_T, zi_F, zg_T, zb_S, zo_N, zo_S, zs_D, nI_add, pk_mul, nI_sub2, nI_cl2, eq_self_iff_true, ln0, ln1, ln2, ln3, ln4, ln5, ln6, ln7, ln8, ln9, ln10, ln11, ln12, ln13, ln14, ln15, ln16, ln17, ln18, ln19, ln20, ln21, ln64, ln120, ln160, ln180, ln255, ln1280, ln21600, hV.1, h1, h2, hy.1, e6_num hy.2.1 (show 0 < 11 + (20 * c + j) by omega) hp, e7_in_t, e7_at, hy.2.2.2.2.2.2.1 p hp]
      exact sim_same hR _
theorem Rel.react (h : Rel N σ τ) {c : Nat} (v : Int32) : Rel N (cI σ 403 c v) (mR τ 15 c v) := by
  obtain ⟨S, R, B, C, E, hC, hV, hG, hU, hE, hc, hk⟩ := h
  refine ⟨S, R, B, C, E, hC, hV, hG, hU, hE, ?_, hk⟩
  intro c' hc'
  obtain ⟨r1, r2, r3, r4, r5, r6, r7, r8, r9⟩ := hc c' hc'
  refine ⟨r1, r2, ?_, r4, r5, r6, r7, r8, r9⟩
  rw [ci_I, mr_R, if_pos rfl]
  unfold upd
  by_cases e1 : c' = c
  · rw [if_pos ⟨rfl, e1⟩, if_pos e1]
  · rw [if_neg (fun q => e1 q.2), if_neg e1]
    exact r3
theorem sim_reaction (hR : Rel N σ τ) (x y : Int32) : Sim N (k_X6_reaction σ x y) (k_X7_reaction τ x y) := by
  have hR := hR.thrown 0
  unfold k_X7_reaction
  generalize mI τ 0 0 = τ at hR ⊢
  obtain ⟨S, R, B, C, E, hC, hV, hG, hU, hE, hc, hk⟩ := id hR
  unfold k_X6_reaction k_X6_reaction_b25
  rcases ix8 x with h | ⟨c, hc8, rfl⟩
  · simp (disch := omega) only [zi_le_t, zi_le_f, zi_lt_t, zi_lt_f, zi_eq_t, zi_eq_f, zi_eq_m, zi_lt_m, zi_le_m, zg_in, zi_T, zi_F, zg_T, zb_S, zo_N, zo_S, zs_D, nI_add, pk_mul, nI_sub2, nI_cl2, eq_self_iff_true, ln0, ln1, ln2, ln3, ln4, ln5, ln6, ln7, ln8, ln9, ln10, ln11, ln12, ln13, ln14, ln15, ln16, ln17, ln18, ln19, ln20, ln21, ln64, ln120, ln160, ln180, ln255, ln1280, ln21600, hV.1, e6_ctrl_o hV h, e7_ctrl_o h, e6_ref hV, e7_ref]
    exact sim_refd hR _
  · by_cases h0 : y < 0
    · simp (disch := omega) only [zi_le_t, zi_le_f, zi_lt_t, zi_lt_f, zi_eq_t, zi_eq_f, zi_eq_m, zi_lt_m, zi_le_m, zg_in, zi_T, zi_F, zg_T, zb_S, zo_N, zo_S, zs_D, nI_add, pk_mul, nI_sub2, nI_cl2, eq_self_iff_true, ln0, ln1, ln2, ln3, ln4, ln5, ln6, ln7, ln8, ln9, ln10, ln11, ln12, ln13, ln14, ln15, ln16, ln17, ln18, ln19, ln20, ln21, ln64, ln120, ln160, ln180, ln255, ln1280, ln21600, hV.1, e6_ctrl hV hc8, e7_ctrl hc8, zi_t (show y < nI 0 from h0), e7_in_n (show y < nI 0 ∨ nI 2 < y from Or.inl h0), e6_ref hV, e7_ref]
      exact sim_refd hR _
    · by_cases h2 : y ≤ 2
      · obtain ⟨j, hj, rfl⟩ := nI_of2 (M := 2) (n := 2) (by decide) h0 h2
        simp (disch := omega) only [zi_le_t, zi_le_f, zi_lt_t, zi_lt_f, zi_eq_t, zi_eq_f, zi_eq_m, zi_lt_m, zi_le_m, zg_in, zi_T, zi_F, zg_T, zb_S, zo_N, zo_S, zs_D, nI_add, pk_mul, nI_sub2, nI_cl2, eq_self_iff_true, ln0, ln1, ln2, ln3, ln4, ln5, ln6, ln7, ln8, ln9, ln10, ln11, ln12, ln13, ln14, ln15, ln16, ln17, ln18, ln19, ln20, ln21, ln64, ln120, ln160, ln180, ln255, ln1280, ln21600, hV.1, e6_ctrl hV hc8, e7_ctrl hc8, hV.v4 hc8, e7_in_t, (hc c hc8).2.2.1]
        exact ⟨_, _, _, rfl, rfl, hR.react _⟩
      · simp (disch := omega) only [zi_le_t, zi_le_f, zi_lt_t, zi_lt_f, zi_eq_t, zi_eq_f, zi_eq_m, zi_lt_m, zi_le_m, zg_in, zi_T, zi_F, zg_T, zb_S, zo_N, zo_S, zs_D, nI_add, pk_mul, nI_sub2, nI_cl2, eq_self_iff_true, ln0, ln1, ln2, ln3, ln4, ln5, ln6, ln7, ln8, ln9, ln10, ln11, ln12, ln13, ln14, ln15, ln16, ln17, ln18, ln19, ln20, ln21, ln64, ln120, ln160, ln180, ln255, ln1280, ln21600, hV.1, e6_ctrl hV hc8, e7_ctrl hc8, zi_f (show ¬ y < nI 0 from h0), zi_f (show ¬ y ≤ nI 2 from h2), e7_in_n (show y < nI 0 ∨ nI 2 < y from Or.inr (Int32.not_le.mp h2)), e6_ref hV, e7_ref]
        exact sim_refd hR _
theorem sim_refused (hR : Rel N σ τ) : Sim N (k_X6_refused σ) (k_X7_refused τ) := by
  have hR := hR.thrown 0
  unfold k_X7_refused
  generalize mI τ 0 0 = τ at hR ⊢
  obtain ⟨S, R, B, C, E, hC, hV, hG, hU, hE, hc, hk⟩ := id hR
  unfold k_X6_refused
  rw [zg_t hV.1, hG.2.2.2.2.2.2.2.2.2.1]
  exact sim_same hR _
theorem sim_fault (hR : Rel N σ τ) (x y : Int32) : Sim N (k_X6_fault σ x y) (k_X7_fault τ x y) := by
  have hR := hR.thrown 0
  unfold k_X7_fault k_X7_fault_b109
  generalize mI τ 0 0 = τ at hR ⊢
  obtain ⟨S, R, B, C, E, hC, hV, hG, hU, hE, hc, hk⟩ := id hR
  unfold k_X6_fault k_X6_fault_b93
  rcases ix8 x with h | ⟨c, hc8, rfl⟩
  · simp (disch := omega) only [zi_le_t, zi_le_f, zi_lt_t, zi_lt_f, zi_eq_t, zi_eq_f, zi_eq_m, zi_lt_m, zi_le_m, zg_in, zi_T, zi_F, zg_T, zb_S, zo_N, zo_S, zs_D, nI_add, pk_mul, nI_sub2, nI_cl2, eq_self_iff_true, ln0, ln1, ln2, ln3, ln4, ln5, ln6, ln7, ln8, ln9, ln10, ln11, ln12, ln13, ln14, ln15, ln16, ln17, ln18, ln19, ln20, ln21, ln64, ln120, ln160, ln180, ln255, ln1280, ln21600, hV.1, e6_ctrl_o hV h, e7_ctrl_o h, e6_ref hV, e7_ref]
    exact sim_refd hR _
  · obtain ⟨r1, r2, r3, r4, r5, r6, r7, r8, r9⟩ := hc c hc8
    by_cases h0 : y = nI 0
    · subst h0
      simp (disch := omega) only [zi_le_t, zi_le_f, zi_lt_t, zi_lt_f, zi_eq_t, zi_eq_f, zi_eq_m, zi_lt_m, zi_le_m, zg_in, zi_T, zi_F, zg_T, zb_S, zo_N, zo_S, zs_D, nI_add, pk_mul, nI_sub2, nI_cl2, eq_self_iff_true, ln0, ln1, ln2, ln3, ln4, ln5, ln6, ln7, ln8, ln9, ln10, ln11, ln12, ln13, ln14, ln15, ln16, ln17, ln18, ln19, ln20, ln21, ln64, ln120, ln160, ln180, ln255, ln1280, ln21600, hV.1, e6_ctrl hV hc8, e7_ctrl hc8, hV.v4 hc8, r4]
      exact sim_same hR _
    by_cases h1 : y = nI 1
    · subst h1
      simp (disch := omega) only [zi_le_t, zi_le_f, zi_lt_t, zi_lt_f, zi_eq_t, zi_eq_f, zi_eq_m, zi_lt_m, zi_le_m, zg_in, zi_T, zi_F, zg_T, zb_S, zo_N, zo_S, zs_D, nI_add, pk_mul, nI_sub2, nI_cl2, eq_self_iff_true, ln0, ln1, ln2, ln3, ln4, ln5, ln6, ln7, ln8, ln9, ln10, ln11, ln12, ln13, ln14, ln15, ln16, ln17, ln18, ln19, ln20, ln21, ln64, ln120, ln160, ln180, ln255, ln1280, ln21600, hV.1, e6_ctrl hV hc8, e7_ctrl hc8, hV.v4 hc8, r5]
      exact sim_same hR _
    by_cases h2 : y = nI 2
    · subst h2
      simp (disch := omega) only [zi_le_t, zi_le_f, zi_lt_t, zi_lt_f, zi_eq_t, zi_eq_f, zi_eq_m, zi_lt_m, zi_le_m, zg_in, zi_T, zi_F, zg_T, zb_S, zo_N, zo_S, zs_D, nI_add, pk_mul, nI_sub2, nI_cl2, eq_self_iff_true, ln0, ln1, ln2, ln3, ln4, ln5, ln6, ln7, ln8, ln9, ln10, ln11, ln12, ln13, ln14, ln15, ln16, ln17, ln18, ln19, ln20, ln21, ln64, ln120, ln160, ln180, ln255, ln1280, ln21600, hV.1, e6_ctrl hV hc8, e7_ctrl hc8, hV.v4 hc8, r6]
      exact sim_same hR _
    by_cases h3 : y = nI 3
    · subst h3
      simp (disch := omega) only [zi_le_t, zi_le_f, zi_lt_t, zi_lt_f, zi_eq_t, zi_eq_f, zi_eq_m, zi_lt_m, zi_le_m, zg_in, zi_T, zi_F, zg_T, zb_S, zo_N, zo_S, zs_D, nI_add, pk_mul, nI_sub2, nI_cl2, eq_self_iff_true, ln0, ln1, ln2, ln3, ln4, ln5, ln6, ln7, ln8, ln9, ln10, ln11, ln12, ln13, ln14, ln15, ln16, ln17, ln18, ln19, ln20, ln21, ln64, ln120, ln160, ln180, ln255, ln1280, ln21600, hV.1, e6_ctrl hV hc8, e7_ctrl hc8, hV.v4 hc8, r7]
      exact sim_same hR _
    by_cases h4 : y = nI 4
    · subst h4
      simp (disch := omega) only [zi_le_t, zi_le_f, zi_lt_t, zi_lt_f, zi_eq_t, zi_eq_f, zi_eq_m, zi_lt_m, zi_le_m, zg_in, zi_T, zi_F, zg_T, zb_S, zo_N, zo_S, zs_D, nI_add, pk_mul, nI_sub2, nI_cl2, eq_self_iff_true, ln0, ln1, ln2, ln3, ln4, ln5, ln6, ln7, ln8, ln9, ln10, ln11, ln12, ln13, ln14, ln15, ln16, ln17, ln18, ln19, ln20, ln21, ln64, ln120, ln160, ln180, ln255, ln1280, ln21600, hV.1, e6_ctrl hV hc8, e7_ctrl hc8, hV.v4 hc8, r8]
      exact sim_same hR _
    by_cases h5 : y = nI 5
    · subst h5
      rcases r2 with r2 | r2
      · simp (disch := omega) only [zi_le_t, zi_le_f, zi_lt_t, zi_lt_f, zi_eq_t, zi_eq_f, zi_eq_m, zi_lt_m, zi_le_m, zg_in, zi_T, zi_F, zg_T, zb_S, zo_N, zo_S, zs_D, nI_add, pk_mul, nI_sub2, nI_cl2, eq_self_iff_true, ln0, ln1, ln2, ln3, ln4, ln5, ln6, ln7, ln8, ln9, ln10, ln11, ln12, ln13, ln14, ln15, ln16, ln17, ln18, ln19, ln20, ln21, ln64, ln120, ln160, ln180, ln255, ln1280, ln21600, hV.1, e6_ctrl hV hc8, e7_ctrl hc8, hV.v4 hc8, r1, r2]
        exact sim_same hR _
      · simp (disch := omega) only [zi_le_t, zi_le_f, zi_lt_t, zi_lt_f, zi_eq_t, zi_eq_f, zi_eq_m, zi_lt_m, zi_le_m, zg_in, zi_T, zi_F, zg_T, zb_S, zo_N, zo_S, zs_D, nI_add, pk_mul, nI_sub2, nI_cl2, eq_self_iff_true, ln0, ln1, ln2, ln3, ln4, ln5, ln6, ln7, ln8, ln9, ln10, ln11, ln12, ln13, ln14, ln15, ln16, ln17, ln18, ln19, ln20, ln21, ln64, ln120, ln160, ln180, ln255, ln1280, ln21600, hV.1, e6_ctrl hV hc8, e7_ctrl hc8, hV.v4 hc8, r1, r2]
        exact sim_same hR _
    simp (disch := omega) only [zi_le_t, zi_le_f, zi_lt_t, zi_lt_f, zi_eq_t, zi_eq_f, zi_eq_m, zi_lt_m, zi_le_m, zg_in, zi_T, zi_F, zg_T, zb_S, zo_N, zo_S, zs_D, nI_add, pk_mul, nI_sub2, nI_cl2, eq_self_iff_true, ln0, ln1, ln2, ln3, ln4, ln5, ln6, ln7, ln8, ln9, ln10, ln11, ln12, ln13, ln14, ln15, ln16, ln17, ln18, ln19, ln20, ln21, ln64, ln120, ln160, ln180, ln255, ln1280, ln21600, hV.1, e6_ctrl hV hc8, e7_ctrl hc8, zi_f h0, zi_f h1, zi_f h2, zi_f h3, zi_f h4, zi_f h5, e6_ref hV, e7_ref]
    exact sim_refd hR _
end OPS
