/-! ===== a CALL gone through ===== -/
section GOES
variable {q a b c k o L B C P h w : Nat} {σ0 σ : CS} {τ0 τ : MS}
/-- an octet that is no instruction -/
theorem op_no (hp : CP q a b c k o L B C τ0) (hc : CR q a b c k o L B C σ0 τ0 P h w σ τ) (hL : h < L) (hB : P < B) {n : Nat} (hn : 19 ≤ n) (hn2 : n < 256) (h255 : mr τ 7 (o + h) &&& 255 = nI n) (hx : mr τ 7 (o + h) < 0 ∨ mr τ 7 (o + h) = nI n) (K : MS → Int32 → Int32 → Int32 → Option (Int32 × MS)) (x2 x3 : Int32) : STP q a b c k o L B C σ0 τ0 K x2 x3 P h σ τ := by
  obtain ⟨p1, p2, p3, p4, p5, p6, p7, p8, p9, p10, p11⟩ := id hp
  have hc1 := hc.stp
  obtain ⟨hs, hf, hh, hd, v1, v2, v3, v4, v5, v6, v7, v8⟩ := id hc
  obtain ⟨s1, s2, s3, s4, s5, s6, s7, s8, s9, s10, s11, s12⟩ := id hs
  have o1 := hs.oct p6 hL h255
  obtain ⟨τ1, ht1⟩ : ∃ t, t = mI τ 29 (nI (P + 1)) := ⟨_, rfl⟩
  rw [← ht1] at hc1
  refine Or.inr ⟨1, σ, τ1, by omega, by omega, ?_, ?_, hc1.end (by omega)⟩
  · rw [k_X5_step]
    simp (disch := omega) only [zi_le_t, zi_le_f, zi_lt_t, zi_lt_f, zi_eq_t, zi_eq_f, zi_eq_m, zi_lt_m, zi_le_m, zg_in, zi_T, zi_F, zg_T, zb_S, zo_N, zo_S, zs_D, nI_add, pk_mul, nI_sub2, nI_cl2, eq_self_iff_true, ln0, ln1, ln2, ln3, ln4, ln5, ln6, ln7, ln8, ln9, ln10, ln11, ln12, ln13, ln14, ln15, ln16, ln17, ln18, ln19, ln20, ln21, ln64, ln120, ln160, ln180, ln255, ln1280, ln21600, ↓reduceIte, Nat.reduceEqDiff, reduceCtorEq, Nat.reduceAdd, Nat.reduceMul, Nat.reduceSub, eq_self_iff_true, true_and, and_true, false_and, and_false, and_self, s1, s6, v5, o1, k_X5_step_b24]
  · obtain ⟨x, hx0⟩ : ∃ x, x = mr τ 7 (o + h) := ⟨_, rfl⟩
    rw [← hx0] at hx
    have hx1 : mr τ1 7 (o + h) = x := by rw [ht1, hx0]; rfl
    rw [k_X7_call_s53]
    rcases hx with hx | hx
    · have hne : ∀ j : Nat, j < 2147483648 → ¬ x = nI j := fun j hj z => by
        rw [z] at hx
        exact nI_pos hj hx
      simp (disch := omega) only [zi_le_t, zi_le_f, zi_lt_t, zi_lt_f, zi_eq_t, zi_eq_f, zi_eq_m, zi_lt_m, zi_le_m, zg_in, zi_T, zi_F, zg_T, zb_S, zo_N, zo_S, zs_D, nI_add, pk_mul, nI_sub2, nI_cl2, eq_self_iff_true, ln0, ln1, ln2, ln3, ln4, ln5, ln6, ln7, ln8, ln9, ln10, ln11, ln12, ln13, ln14, ln15, ln16, ln17, ln18, ln19, ln20, ln21, ln64, ln120, ln160, ln180, ln255, ln1280, ln21600, ↓reduceIte, Nat.reduceEqDiff, reduceCtorEq, Nat.reduceAdd, Nat.reduceMul, Nat.reduceSub, eq_self_iff_true, true_and, and_true, false_and, and_false, and_self, v7, s11, ← hx0, hx1, mr_I, e7_in_n (show x < nI 0 ∨ nI 4 < x from Or.inl hx), k_X7_call_b134, ← ht1, zi_f (hne 13 (by decide)), zi_f (hne 14 (by decide)), zi_f (hne 16 (by decide)), zi_f (hne 18 (by decide))]
      rw [k_X7_call_b139]
      simp (disch := omega) only [zi_le_t, zi_le_f, zi_lt_t, zi_lt_f, zi_eq_t, zi_eq_f, zi_eq_m, zi_lt_m, zi_le_m, zg_in, zi_T, zi_F, zg_T, zb_S, zo_N, zo_S, zs_D, nI_add, pk_mul, nI_sub2, nI_cl2, eq_self_iff_true, ln0, ln1, ln2, ln3, ln4, ln5, ln6, ln7, ln8, ln9, ln10, ln11, ln12, ln13, ln14, ln15, ln16, ln17, ln18, ln19, ln20, ln21, ln64, ln120, ln160, ln180, ln255, ln1280, ln21600, ↓reduceIte, Nat.reduceEqDiff, reduceCtorEq, Nat.reduceAdd, Nat.reduceMul, Nat.reduceSub, eq_self_iff_true, true_and, and_true, false_and, and_false, and_self, e7_in_n (show x < nI 0 ∨ nI 18 < x from Or.inl hx), k_X7_call_b166]
    · simp (disch := omega) only [zi_le_t, zi_le_f, zi_lt_t, zi_lt_f, zi_eq_t, zi_eq_f, zi_eq_m, zi_lt_m, zi_le_m, zg_in, zi_T, zi_F, zg_T, zb_S, zo_N, zo_S, zs_D, nI_add, pk_mul, nI_sub2, nI_cl2, eq_self_iff_true, ln0, ln1, ln2, ln3, ln4, ln5, ln6, ln7, ln8, ln9, ln10, ln11, ln12, ln13, ln14, ln15, ln16, ln17, ln18, ln19, ln20, ln21, ln64, ln120, ln160, ln180, ln255, ln1280, ln21600, ↓reduceIte, Nat.reduceEqDiff, reduceCtorEq, Nat.reduceAdd, Nat.reduceMul, Nat.reduceSub, eq_self_iff_true, true_and, and_true, false_and, and_false, and_self, v7, s11, ← hx0, hx1, hx, mr_I, e7_in_f, k_X7_call_b134, ← ht1]
      rw [k_X7_call_b139]
      simp (disch := omega) only [zi_le_t, zi_le_f, zi_lt_t, zi_lt_f, zi_eq_t, zi_eq_f, zi_eq_m, zi_lt_m, zi_le_m, zg_in, zi_T, zi_F, zg_T, zb_S, zo_N, zo_S, zs_D, nI_add, pk_mul, nI_sub2, nI_cl2, eq_self_iff_true, ln0, ln1, ln2, ln3, ln4, ln5, ln6, ln7, ln8, ln9, ln10, ln11, ln12, ln13, ln14, ln15, ln16, ln17, ln18, ln19, ln20, ln21, ln64, ln120, ln160, ln180, ln255, ln1280, ln21600, ↓reduceIte, Nat.reduceEqDiff, reduceCtorEq, Nat.reduceAdd, Nat.reduceMul, Nat.reduceSub, eq_self_iff_true, true_and, and_true, false_and, and_false, and_self, e7_in_f, k_X7_call_b166]
theorem op_any (hp : CP q a b c k o L B C τ0) (hc : CR q a b c k o L B C σ0 τ0 P h w σ τ) (hL : h < L) (hB : P < B) (K : MS → Int32 → Int32 → Int32 → Option (Int32 × MS)) (x2 x3 : Int32) : STP q a b c k o L B C σ0 τ0 K x2 x3 P h σ τ := by
  obtain ⟨n, hn256, hn255, hnb, hnm, hnn⟩ := isB_of (hc.1.2.2.2.2.2.2.2.2.2.1 h hL).2
  by_cases h19 : n < 19
  · have hx := hnm (by omega)
    match n, h19, hx with
    | 0, _, hx => exact op_0 hp hc hL hB hx K x2 x3
    | 1, _, hx => exact op_1 hp hc hL hB hx K x2 x3
    | 2, _, hx => exact op_2 hp hc hL hB hx K x2 x3
    | 3, _, hx => exact op_3 hp hc hL hB hx K x2 x3
    | 4, _, hx => exact op_4 hp hc hL hB hx K x2 x3
    | 5, _, hx => exact op_5 hp hc hL hB hx K x2 x3
    | 6, _, hx => exact op_6 hp hc hL hB hx K x2 x3
    | 7, _, hx => exact op_7 hp hc hL hB hx K x2 x3
    | 8, _, hx => exact op_8 hp hc hL hB hx K x2 x3
    | 9, _, hx => exact op_9 hp hc hL hB hx K x2 x3
    | 10, _, hx => exact op_10 hp hc hL hB hx K x2 x3
    | 11, _, hx => exact op_11 hp hc hL hB hx K x2 x3
    | 12, _, hx => exact op_12 hp hc hL hB hx K x2 x3
    | 13, _, hx => exact op_13 hp hc hL hB hx K x2 x3
    | 14, _, hx => exact op_14 hp hc hL hB hx K x2 x3
    | 15, _, hx => exact op_15 hp hc hL hB hx K x2 x3
    | 16, _, hx => exact op_16 hp hc hL hB hx K x2 x3
    | 17, _, hx => exact op_17 hp hc hL hB hx K x2 x3
    | 18, _, hx => exact op_18 hp hc hL hB hx K x2 x3
    | n + 19, h, _ => omega
  · refine op_no hp hc hL hB (Nat.not_lt.mp h19) hn256 hn255 ?_ K x2 x3
    by_cases h128 : n < 128
    · exact Or.inr (hnm h128)
    · exact Or.inl (hnn (by omega))
/-- the class's way when it has ended with a kind -/
theorem go_end {r : Nat} (hr1 : 1 ≤ r) (hr2 : r < 2147483648) {y1 y2 y3 : Nat} {P : Nat} (hE : CE a b c k C σ0 τ0 r P σ τ) (h1 : cv σ0 1 0 = true) (n : Nat) : k_X5_go_l41 y1 y2 y3 (nI B) (n + 1) σ (nI r) (nI P) = some (nI r, cI σ 108 0 (nI P)) := by
  have g1 : cv σ 1 0 = true := by rw [hE.1.1.1]; exact h1
  rw [k_X5_go_l41_s, k_X5_go_s41]
  simp (disch := omega) only [zi_le_t, zi_le_f, zi_lt_t, zi_lt_f, zi_eq_t, zi_eq_f, zi_eq_m, zi_lt_m, zi_le_m, zg_in, zi_T, zi_F, zg_T, zb_S, zo_N, zo_S, zs_D, nI_add, pk_mul, nI_sub2, nI_cl2, eq_self_iff_true, ln0, ln1, ln2, ln3, ln4, ln5, ln6, ln7, ln8, ln9, ln10, ln11, ln12, ln13, ln14, ln15, ln16, ln17, ln18, ln19, ln20, ln21, ln64, ln120, ln160, ln180, ln255, ln1280, ln21600, ↓reduceIte, Nat.reduceEqDiff, reduceCtorEq, Nat.reduceAdd, Nat.reduceMul, Nat.reduceSub, eq_self_iff_true, true_and, and_true, false_and, and_false, and_self]
  rw [k_X5_go_b77]
  simp (disch := omega) only [zi_le_t, zi_le_f, zi_lt_t, zi_lt_f, zi_eq_t, zi_eq_f, zi_eq_m, zi_lt_m, zi_le_m, zg_in, zi_T, zi_F, zg_T, zb_S, zo_N, zo_S, zs_D, nI_add, pk_mul, nI_sub2, nI_cl2, eq_self_iff_true, ln0, ln1, ln2, ln3, ln4, ln5, ln6, ln7, ln8, ln9, ln10, ln11, ln12, ln13, ln14, ln15, ln16, ln17, ln18, ln19, ln20, ln21, ln64, ln120, ln160, ln180, ln255, ln1280, ln21600, ↓reduceIte, Nat.reduceEqDiff, reduceCtorEq, Nat.reduceAdd, Nat.reduceMul, Nat.reduceSub, eq_self_iff_true, true_and, and_true, false_and, and_false, and_self, g1, k_X5_go_b105, k_X5_go_b107]
theorem go_loop (hp : CP q a b c k o L B C τ0) {y1 y2 y3 : Nat} {x2 x3 : Int32} : ∀ (n P h w : Nat) (σ : CS) (τ : MS), P ≤ B → B - P + 1 < n → CR q a b c k o L B C σ0 τ0 P h w σ τ → ∃ (r P' : Nat) (σ' : CS) (τ' : MS), r ≤ 7 ∧ k_X5_go_l41 y1 y2 y3 (nI B) n σ (nI 0) (nI P) = some (nI r, cI σ' 108 0 (nI P')) ∧ k_X7_call_l53 (nI c) x2 x3 (nI L) n τ (nI k) (nI o) (nI h) = some (nI r, τ') ∧ CE a b c k C σ0 τ0 r P' σ' τ' := by
  intro n
  induction n with
  | zero => intro P h w σ τ h1 h2; omega
  | succ n ih =>
    intro P h w σ τ hPB hn hc
    obtain ⟨p1, p2, p3, p4, p5, p6, p7, p8, p9, p10, p11⟩ := id hp
    obtain ⟨hs, hf, hh, hd, v1, v2, v3, v4, v5, v6, v7, v8⟩ := id hc
    obtain ⟨s1, s2, s3, s4, s5, s6, s7, s8, s9, s10, s11, s12⟩ := id hs
    rw [k_X5_go_l41_s, k_X7_call_l53_s, k_X5_go_s41]
    by_cases hL : h = L
    · refine ⟨0, P, σ, τ, by omega, ?_, ?_, hc.end (by omega)⟩
      · simp (disch := omega) only [zi_le_t, zi_le_f, zi_lt_t, zi_lt_f, zi_eq_t, zi_eq_f, zi_eq_m, zi_lt_m, zi_le_m, zg_in, zi_T, zi_F, zg_T, zb_S, zo_N, zo_S, zs_D, nI_add, pk_mul, nI_sub2, nI_cl2, eq_self_iff_true, ln0, ln1, ln2, ln3, ln4, ln5, ln6, ln7, ln8, ln9, ln10, ln11, ln12, ln13, ln14, ln15, ln16, ln17, ln18, ln19, ln20, ln21, ln64, ln120, ln160, ln180, ln255, ln1280, ln21600, ↓reduceIte, Nat.reduceEqDiff, reduceCtorEq, Nat.reduceAdd, Nat.reduceMul, Nat.reduceSub, eq_self_iff_true, true_and, and_true, false_and, and_false, and_self, s1, s5, s6, s9, v5]
        rw [k_X5_go_b77]
        simp (disch := omega) only [zi_le_t, zi_le_f, zi_lt_t, zi_lt_f, zi_eq_t, zi_eq_f, zi_eq_m, zi_lt_m, zi_le_m, zg_in, zi_T, zi_F, zg_T, zb_S, zo_N, zo_S, zs_D, nI_add, pk_mul, nI_sub2, nI_cl2, eq_self_iff_true, ln0, ln1, ln2, ln3, ln4, ln5, ln6, ln7, ln8, ln9, ln10, ln11, ln12, ln13, ln14, ln15, ln16, ln17, ln18, ln19, ln20, ln21, ln64, ln120, ln160, ln180, ln255, ln1280, ln21600, ↓reduceIte, Nat.reduceEqDiff, reduceCtorEq, Nat.reduceAdd, Nat.reduceMul, Nat.reduceSub, eq_self_iff_true, true_and, and_true, false_and, and_false, and_self, s1, s5, s6, s9, v5, k_X5_go_b105, k_X5_go_b107, ci_I, cb_I, cbl_I, cj_I, cv_I, cs_I, cr_I, ci_B, cb_B, cbl_B, cj_B, cv_B, cs_B, cr_B, ci_J, cb_J, cbl_J, cj_J, cv_J, cs_J, cr_J, ci_R, cb_R, cbl_R, cj_R, cv_R, cs_R, cr_R]
      · rw [k_X7_call_s53]
        simp (disch := omega) only [zi_le_t, zi_le_f, zi_lt_t, zi_lt_f, zi_eq_t, zi_eq_f, zi_eq_m, zi_lt_m, zi_le_m, zg_in, zi_T, zi_F, zg_T, zb_S, zo_N, zo_S, zs_D, nI_add, pk_mul, nI_sub2, nI_cl2, eq_self_iff_true, ln0, ln1, ln2, ln3, ln4, ln5, ln6, ln7, ln8, ln9, ln10, ln11, ln12, ln13, ln14, ln15, ln16, ln17, ln18, ln19, ln20, ln21, ln64, ln120, ln160, ln180, ln255, ln1280, ln21600, ↓reduceIte, Nat.reduceEqDiff, reduceCtorEq, Nat.reduceAdd, Nat.reduceMul, Nat.reduceSub, eq_self_iff_true, true_and, and_true, false_and, and_false, and_self]
    · by_cases hB : P = B
      · refine ⟨7, P, σ, τ, by omega, ?_, ?_, hc.end (by omega)⟩
        · simp (disch := omega) only [zi_le_t, zi_le_f, zi_lt_t, zi_lt_f, zi_eq_t, zi_eq_f, zi_eq_m, zi_lt_m, zi_le_m, zg_in, zi_T, zi_F, zg_T, zb_S, zo_N, zo_S, zs_D, nI_add, pk_mul, nI_sub2, nI_cl2, eq_self_iff_true, ln0, ln1, ln2, ln3, ln4, ln5, ln6, ln7, ln8, ln9, ln10, ln11, ln12, ln13, ln14, ln15, ln16, ln17, ln18, ln19, ln20, ln21, ln64, ln120, ln160, ln180, ln255, ln1280, ln21600, ↓reduceIte, Nat.reduceEqDiff, reduceCtorEq, Nat.reduceAdd, Nat.reduceMul, Nat.reduceSub, eq_self_iff_true, true_and, and_true, false_and, and_false, and_self, s1, s5, s6, s9, v5]
          rw [k_X5_go_b77]
          simp (disch := omega) only [zi_le_t, zi_le_f, zi_lt_t, zi_lt_f, zi_eq_t, zi_eq_f, zi_eq_m, zi_lt_m, zi_le_m, zg_in, zi_T, zi_F, zg_T, zb_S, zo_N, zo_S, zs_D, nI_add, pk_mul, nI_sub2, nI_cl2, eq_self_iff_true, ln0, ln1, ln2, ln3, ln4, ln5, ln6, ln7, ln8, ln9, ln10, ln11, ln12, ln13, ln14, ln15, ln16, ln17, ln18, ln19, ln20, ln21, ln64, ln120, ln160, ln180, ln255, ln1280, ln21600, ↓reduceIte, Nat.reduceEqDiff, reduceCtorEq, Nat.reduceAdd, Nat.reduceMul, Nat.reduceSub, eq_self_iff_true, true_and, and_true, false_and, and_false, and_self, s1, s5, s6, s9, v5, k_X5_go_b105, k_X5_go_b107, ci_I, cb_I, cbl_I, cj_I, cv_I, cs_I, cr_I, ci_B, cb_B, cbl_B, cj_B, cv_B, cs_B, cr_B, ci_J, cb_J, cbl_J, cj_J, cv_J, cs_J, cr_J, ci_R, cb_R, cbl_R, cj_R, cv_R, cs_R, cr_R]
        · rw [k_X7_call_s53]
          simp (disch := omega) only [zi_le_t, zi_le_f, zi_lt_t, zi_lt_f, zi_eq_t, zi_eq_f, zi_eq_m, zi_lt_m, zi_le_m, zg_in, zi_T, zi_F, zg_T, zb_S, zo_N, zo_S, zs_D, nI_add, pk_mul, nI_sub2, nI_cl2, eq_self_iff_true, ln0, ln1, ln2, ln3, ln4, ln5, ln6, ln7, ln8, ln9, ln10, ln11, ln12, ln13, ln14, ln15, ln16, ln17, ln18, ln19, ln20, ln21, ln64, ln120, ln160, ln180, ln255, ln1280, ln21600, ↓reduceIte, Nat.reduceEqDiff, reduceCtorEq, Nat.reduceAdd, Nat.reduceMul, Nat.reduceSub, eq_self_iff_true, true_and, and_true, false_and, and_false, and_self, v7, s11]
      · rcases op_any hp hc (by omega) (by omega) (k_X7_call_l53 (nI c) x2 x3 (nI L) n) x2 x3 with ⟨h', w', σ', τ', e1, e2, e3⟩ | ⟨r, σ', τ', hr1, hr6, e1, e2, e3⟩
        · obtain ⟨r, P', σ2, τ2, r7, i1, i2, i3⟩ := ih (P + 1) h' w' σ' τ' (by omega) (by omega) e3
          refine ⟨r, P', σ2, τ2, r7, ?_, ?_, i3⟩
          · simp (disch := omega) only [zi_le_t, zi_le_f, zi_lt_t, zi_lt_f, zi_eq_t, zi_eq_f, zi_eq_m, zi_lt_m, zi_le_m, zg_in, zi_T, zi_F, zg_T, zb_S, zo_N, zo_S, zs_D, nI_add, pk_mul, nI_sub2, nI_cl2, eq_self_iff_true, ln0, ln1, ln2, ln3, ln4, ln5, ln6, ln7, ln8, ln9, ln10, ln11, ln12, ln13, ln14, ln15, ln16, ln17, ln18, ln19, ln20, ln21, ln64, ln120, ln160, ln180, ln255, ln1280, ln21600, ↓reduceIte, Nat.reduceEqDiff, reduceCtorEq, Nat.reduceAdd, Nat.reduceMul, Nat.reduceSub, eq_self_iff_true, true_and, and_true, false_and, and_false, and_self, s1, s5, s6, s9, v5, e1]
            exact i1
          · rw [e2]
            exact i2
        · obtain ⟨n, rfl⟩ : ∃ z, n = z + 1 := ⟨n - 1, by omega⟩
          have hE0 : cv σ0 1 0 = true := by rw [← hf.1.1]; exact s1
          refine ⟨r, P + 1, σ', τ', by omega, ?_, e2, e3⟩
          simp (disch := omega) only [zi_le_t, zi_le_f, zi_lt_t, zi_lt_f, zi_eq_t, zi_eq_f, zi_eq_m, zi_lt_m, zi_le_m, zg_in, zi_T, zi_F, zg_T, zb_S, zo_N, zo_S, zs_D, nI_add, pk_mul, nI_sub2, nI_cl2, eq_self_iff_true, ln0, ln1, ln2, ln3, ln4, ln5, ln6, ln7, ln8, ln9, ln10, ln11, ln12, ln13, ln14, ln15, ln16, ln17, ln18, ln19, ln20, ln21, ln64, ln120, ln160, ln180, ln255, ln1280, ln21600, ↓reduceIte, Nat.reduceEqDiff, reduceCtorEq, Nat.reduceAdd, Nat.reduceMul, Nat.reduceSub, eq_self_iff_true, true_and, and_true, false_and, and_false, and_self, s1, s5, s6, s9, v5, e1]
          exact go_end hr1 (by omega) e3 hE0 n
end GOES
