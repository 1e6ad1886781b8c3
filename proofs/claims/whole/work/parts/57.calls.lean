/-! ===== the calls that make CALLS: run, power, beside ===== -/
section CALLS
variable {S R B C N : Nat} {E : Nat → Nat} {σ : CS} {τ : MS}
theorem go_sim (hA : RelA S R B C E σ τ) {a b c i q fr len : Nat} (ha0 : 0 < a) (hb0 : 0 < b) (hab : a ≠ b) (hc8 : c < 8) (hi : i < R) (he : mr τ 21 (20 * c + i) = nI (E i)) (hq9 : cv σ 9 q = true) (hq : RB σ τ q len (120 * pl E i + fr)) (hlen : fr + len ≤ 120) (ha8 : cv σ 8 a = true) (hb8 : cv σ 8 b = true) (hd : CRd a b c (20 * c + i) σ τ) (hC : C + 1 < 2147483648) :
    ∃ (r P : Nat) (σ1 : CS) (τ1 : MS), r ≤ 7 ∧ k_X5_go σ q a b (nI B) = some (nI r, cI σ1 108 0 (nI P)) ∧ k_X7_call τ (nI c) (nI (i + 1)) (nI fr) (nI len) = some (nI r, τ1) ∧ CE a b c (20 * c + i) (C + 1) σ (mI τ 26 (nI (C + 1))) r P σ1 τ1 := by
  obtain ⟨hV, hG, hU, hE, hc, hk⟩ := id hA
  obtain ⟨g1, g2, g3, g4, g5, g6, g7, g8, g9, g10, g11⟩ := id hG
  obtain ⟨w1, w2, w3, w4, w5⟩ := hE i hi
  obtain ⟨hkk, u, hu, hu2⟩ := hk c i hc8 (by omega)
  have hpl : pl E i ≤ 179 := by unfold pl; omega
  have h24 : mr τ 24 (20 * c + i) = -nI 1 ∨ ∃ p : Nat, p < 8 ∧ mr τ 24 (20 * c + i) = nI p := by
    rcases hkk with ⟨q1, q2, q3⟩ | ⟨k1, k2, k3, k4, k8, k9, k10, k11⟩
    · exact Or.inl q3
    · rcases k11 with ⟨x1, x2⟩ | ⟨p, hp, x1, x2⟩
      · exact Or.inl x2
      · exact Or.inr ⟨p, hp, x2⟩
  have hP : CP q a b c (20 * c + i) (120 * pl E i + fr) len B (C + 1) (mI τ 26 (nI (C + 1))) := ⟨ha0, hb0, hab, hc8, by omega, by omega, by omega, g3, hC, h24, u, by omega, hu2⟩
  have hR0 : CR q a b c (20 * c + i) (120 * pl E i + fr) len B (C + 1) σ (mI τ 26 (nI (C + 1))) 0 0 0 (cI (cI (cI (cI (cR (cR (cR σ 3 q) 4 a) 5 b) 106 0 (nI 0)) 107 0 (nI 0)) 109 0 (nI 0)) 110 0 (-nI 1)) (mI (mI (mI (mI τ 26 (nI (C + 1))) 28 (nI 0)) 29 (nI 0)) 30 (nI 0)) := by
    refine ⟨⟨hV.2.1, hV.v8 (by omega), ha8, hb8, hq9, ?_, ?_, ?_, hq.1, ?_, ?_, ?_⟩, ⟨⟨rfl, rfl, rfl, rfl, fun f j hf => ?_, fun r _ _ _ => rfl⟩, fun f h28 h29 h30 => ?_, fun g _ _ => rfl, fun j _ => ⟨rfl, rfl⟩, fun g _ _ _ => rfl, fun j _ => rfl, fun j _ => rfl⟩, Or.inl ⟨?_, rfl, rfl⟩, hd, ?_, by omega, ?_, fun j hj => absurd hj (Nat.not_lt_zero j), ?_, by omega, ?_, ?_⟩
    · simp only [ci_I, cb_I, cbl_I, cj_I, cv_I, cs_I, cr_I, ci_B, cb_B, cbl_B, cj_B, cv_B, cs_B, cr_B, ci_J, cb_J, cbl_J, cj_J, cv_J, cs_J, cr_J, ci_R, cb_R, cbl_R, cj_R, cv_R, cs_R, cr_R, ↓reduceIte, Nat.reduceEqDiff, reduceCtorEq, Nat.reduceAdd, Nat.reduceMul, Nat.reduceSub, eq_self_iff_true, true_and, and_true, false_and, and_false, and_self]
    · simp only [ci_I, cb_I, cbl_I, cj_I, cv_I, cs_I, cr_I, ci_B, cb_B, cbl_B, cj_B, cv_B, cs_B, cr_B, ci_J, cb_J, cbl_J, cj_J, cv_J, cs_J, cr_J, ci_R, cb_R, cbl_R, cj_R, cv_R, cs_R, cr_R, ↓reduceIte, Nat.reduceEqDiff, reduceCtorEq, Nat.reduceAdd, Nat.reduceMul, Nat.reduceSub, eq_self_iff_true, true_and, and_true, false_and, and_false, and_self]
    · simp only [ci_I, cb_I, cbl_I, cj_I, cv_I, cs_I, cr_I, ci_B, cb_B, cbl_B, cj_B, cv_B, cs_B, cr_B, ci_J, cb_J, cbl_J, cj_J, cv_J, cs_J, cr_J, ci_R, cb_R, cbl_R, cj_R, cv_R, cs_R, cr_R, ↓reduceIte, Nat.reduceEqDiff, reduceCtorEq, Nat.reduceAdd, Nat.reduceMul, Nat.reduceSub, eq_self_iff_true, true_and, and_true, false_and, and_false, and_self]
    · exact hq.2
    · simp only [mi_I, mr_I, mj_I, mi_R, mr_R, mj_R, mi_J, mr_J, mj_J, ↓reduceIte, Nat.reduceEqDiff, reduceCtorEq, Nat.reduceAdd, Nat.reduceMul, Nat.reduceSub, eq_self_iff_true, true_and, and_true, false_and, and_false, and_self]
      exact g2
    · simp only [mi_I, mr_I, mj_I, mi_R, mr_R, mj_R, mi_J, mr_J, mj_J, ↓reduceIte, Nat.reduceEqDiff, reduceCtorEq, Nat.reduceAdd, Nat.reduceMul, Nat.reduceSub, eq_self_iff_true, true_and, and_true, false_and, and_false, and_self]
    · have n1 : ¬ f = 106 := by omega
      have n2 : ¬ f = 107 := by omega
      have n3 : ¬ f = 109 := by omega
      have n4 : ¬ f = 110 := by omega
      simp only [ci_I, cb_I, cbl_I, cj_I, cv_I, cs_I, cr_I, ci_B, cb_B, cbl_B, cj_B, cv_B, cs_B, cr_B, ci_J, cb_J, cbl_J, cj_J, cv_J, cs_J, cr_J, ci_R, cb_R, cbl_R, cj_R, cv_R, cs_R, cr_R, n1, n2, n3, n4, ↓reduceIte, Nat.reduceEqDiff, reduceCtorEq, Nat.reduceAdd, Nat.reduceMul, Nat.reduceSub, eq_self_iff_true, true_and, and_true, false_and, and_false, and_self]
    · simp only [mi_I, mr_I, mj_I, mi_R, mr_R, mj_R, mi_J, mr_J, mj_J, h28, h29, h30, ↓reduceIte, Nat.reduceEqDiff, reduceCtorEq, Nat.reduceAdd, Nat.reduceMul, Nat.reduceSub, eq_self_iff_true, true_and, and_true, false_and, and_false, and_self]
    · simp only [ci_I, cb_I, cbl_I, cj_I, cv_I, cs_I, cr_I, ci_B, cb_B, cbl_B, cj_B, cv_B, cs_B, cr_B, ci_J, cb_J, cbl_J, cj_J, cv_J, cs_J, cr_J, ci_R, cb_R, cbl_R, cj_R, cv_R, cs_R, cr_R, ↓reduceIte, Nat.reduceEqDiff, reduceCtorEq, Nat.reduceAdd, Nat.reduceMul, Nat.reduceSub, eq_self_iff_true, true_and, and_true, false_and, and_false, and_self]
    · simp only [ci_I, cb_I, cbl_I, cj_I, cv_I, cs_I, cr_I, ci_B, cb_B, cbl_B, cj_B, cv_B, cs_B, cr_B, ci_J, cb_J, cbl_J, cj_J, cv_J, cs_J, cr_J, ci_R, cb_R, cbl_R, cj_R, cv_R, cs_R, cr_R, ↓reduceIte, Nat.reduceEqDiff, reduceCtorEq, Nat.reduceAdd, Nat.reduceMul, Nat.reduceSub, eq_self_iff_true, true_and, and_true, false_and, and_false, and_self]
    · simp only [mi_I, mr_I, mj_I, mi_R, mr_R, mj_R, mi_J, mr_J, mj_J, ↓reduceIte, Nat.reduceEqDiff, reduceCtorEq, Nat.reduceAdd, Nat.reduceMul, Nat.reduceSub, eq_self_iff_true, true_and, and_true, false_and, and_false, and_self]
    · simp only [ci_I, cb_I, cbl_I, cj_I, cv_I, cs_I, cr_I, ci_B, cb_B, cbl_B, cj_B, cv_B, cs_B, cr_B, ci_J, cb_J, cbl_J, cj_J, cv_J, cs_J, cr_J, ci_R, cb_R, cbl_R, cj_R, cv_R, cs_R, cr_R, ↓reduceIte, Nat.reduceEqDiff, reduceCtorEq, Nat.reduceAdd, Nat.reduceMul, Nat.reduceSub, eq_self_iff_true, true_and, and_true, false_and, and_false, and_self]
    · simp only [mi_I, mr_I, mj_I, mi_R, mr_R, mj_R, mi_J, mr_J, mj_J, ↓reduceIte, Nat.reduceEqDiff, reduceCtorEq, Nat.reduceAdd, Nat.reduceMul, Nat.reduceSub, eq_self_iff_true, true_and, and_true, false_and, and_false, and_self]
    · simp only [ci_I, cb_I, cbl_I, cj_I, cv_I, cs_I, cr_I, ci_B, cb_B, cbl_B, cj_B, cv_B, cs_B, cr_B, ci_J, cb_J, cbl_J, cj_J, cv_J, cs_J, cr_J, ci_R, cb_R, cbl_R, cj_R, cv_R, cs_R, cr_R, ↓reduceIte, Nat.reduceEqDiff, reduceCtorEq, Nat.reduceAdd, Nat.reduceMul, Nat.reduceSub, eq_self_iff_true, true_and, and_true, false_and, and_false, and_self]
  obtain ⟨r, P, σ1, τ1, r7, e1, e2, e3⟩ := go_loop hP (y1 := q) (y2 := a) (y3 := b) (x2 := nI (i + 1)) (x3 := nI fr) FU 0 0 0 _ _ (by omega) (by rw [FU_s]; omega) hR0
  refine ⟨r, P, σ1, τ1, r7, ?_, ?_, e3⟩
  · rw [k_X5_go]
    simp (disch := omega) only [zi_le_t, zi_le_f, zi_lt_t, zi_lt_f, zi_eq_t, zi_eq_f, zi_eq_m, zi_lt_m, zi_le_m, zg_in, zi_T, zi_F, zg_T, zb_S, zo_N, zo_S, zs_D, nI_add, pk_mul, nI_sub2, nI_cl2, eq_self_iff_true, ln0, ln1, ln2, ln3, ln4, ln5, ln6, ln7, ln8, ln9, ln10, ln11, ln12, ln13, ln14, ln15, ln16, ln17, ln18, ln19, ln20, ln21, ln64, ln120, ln160, ln180, ln255, ln1280, ln21600, ↓reduceIte, Nat.reduceEqDiff, reduceCtorEq, Nat.reduceAdd, Nat.reduceMul, Nat.reduceSub, eq_self_iff_true, true_and, and_true, false_and, and_false, and_self, hV.2.1]
    exact e1
  · rw [k_X7_call]
    simp (disch := omega) only [zi_le_t, zi_le_f, zi_lt_t, zi_lt_f, zi_eq_t, zi_eq_f, zi_eq_m, zi_lt_m, zi_le_m, zg_in, zi_T, zi_F, zg_T, zb_S, zo_N, zo_S, zs_D, nI_add, pk_mul, nI_sub2, nI_cl2, eq_self_iff_true, ln0, ln1, ln2, ln3, ln4, ln5, ln6, ln7, ln8, ln9, ln10, ln11, ln12, ln13, ln14, ln15, ln16, ln17, ln18, ln19, ln20, ln21, ln64, ln120, ln160, ln180, ln255, ln1280, ln21600, ↓reduceIte, Nat.reduceEqDiff, reduceCtorEq, Nat.reduceAdd, Nat.reduceMul, Nat.reduceSub, eq_self_iff_true, true_and, and_true, false_and, and_false, and_self, g11, e7_at, he, e7_pl w1, mr_I]
    exact e2
theorem RelA.called (hA : RelA S R B C E σ τ) {c i r P : Nat} (hc8 : c < 8) (hi : i < R) (hy : RKy R σ τ (20 * c + i) i) {σ1 σ2 : CS} {τ1 : MS} (hE1 : CE (3 + c) (11 + (20 * c + i)) c (20 * c + i) (C + 1) σ (mI τ 26 (nI (C + 1))) r P σ1 τ1)
    (h2 : (ci σ1 110 0 = -nI 1 ∧ σ2 = cI σ1 108 0 (nI P)) ∨ ∃ p : Nat, p < 8 ∧ ci σ1 110 0 = nI p ∧ σ2 = cI (cI σ1 108 0 (nI P)) 602 (20 * c + i) (nI p)) : RelA S R B (C + 1) E σ2 τ1 := by
  obtain ⟨hV, hG, hU, hE, hc, hk⟩ := id hA
  obtain ⟨g1, g2, g3, g4, g5, g6, g7, g8, g9, g10, g11⟩ := id hG
  obtain ⟨⟨⟨f1, f2, f3, f4, f5, f6⟩, m1, m2, m3, m4, m5, m6⟩, hh, ⟨hd1, hd2⟩, hst, hgv⟩ := hE1
  have a1 : cv σ2 = cv σ := by rcases h2 with ⟨_, rfl⟩ | ⟨p, _, _, rfl⟩ <;> exact f1
  have a2 : cb σ2 = cb σ := by rcases h2 with ⟨_, rfl⟩ | ⟨p, _, _, rfl⟩ <;> exact f2
  have a3 : cbl σ2 = cbl σ := by rcases h2 with ⟨_, rfl⟩ | ⟨p, _, _, rfl⟩ <;> exact f3
  have a4 : cs σ2 = cs σ := by rcases h2 with ⟨_, rfl⟩ | ⟨p, _, _, rfl⟩ <;> exact f4
  have a6 : cj σ2 = cj σ1 := by rcases h2 with ⟨_, rfl⟩ | ⟨p, _, _, rfl⟩ <;> rfl
  have a5 : ∀ f j, (f < 106 ∨ 110 < f) → ¬ (f = 602 ∧ j = 20 * c + i) → ci σ2 f j = ci σ f j := by
    intro f j hf hn
    rcases h2 with ⟨_, rfl⟩ | ⟨p, _, _, rfl⟩
    · rw [ci_I, if_neg (by omega)]
      exact f5 f j hf
    · rw [ci_I, if_neg hn, ci_I, if_neg (by omega)]
      exact f5 f j hf
  have b1 : ∀ f, f ≠ 26 → f ≠ 28 → f ≠ 29 → f ≠ 30 → mi τ1 f = mi τ f := fun f h26 h28 h29 h30 => by rw [m1 f h28 h29 h30, mi_I, if_neg h26]
  have b2 : ∀ g, g ≠ 24 → g ≠ 25 → mr τ1 g = mr τ g := m2
  refine ⟨?_, ?_, ?_, ?_, ?_, ?_⟩
  · unfold RV
    rw [a1, a3, a4]
    exact hV
  · unfold RG
    rw [a5 0 0 (by omega) (by omega), a5 5 0 (by omega) (by omega), a5 6 0 (by omega) (by omega), a5 7 0 (by omega) (by omega), b1 1 (by omega) (by omega) (by omega) (by omega), b1 3 (by omega) (by omega) (by omega) (by omega), b1 5 (by omega) (by omega) (by omega) (by omega), b1 2 (by omega) (by omega) (by omega) (by omega), m1 26 (by omega) (by omega) (by omega)]
    exact ⟨g1, g2, g3, g4, g5, g6, g7, g8, g9, g10, by rw [mi_I, if_pos rfl]⟩
  · unfold RU
    rw [a2, b2 4 (by omega) (by omega)]
    exact hU
  · intro i' hi'
    have h := hE i' hi'
    unfold RE RB at h ⊢
    rw [a5 700 i' (by omega) (by omega), a2, a3, a4, b2 6 (by omega) (by omega), b2 7 (by omega) (by omega), b2 8 (by omega) (by omega), b2 9 (by omega) (by omega), b2 10 (by omega) (by omega), b2 11 (by omega) (by omega), b2 12 (by omega) (by omega)]
    exact h
  · intro c' hc'
    obtain ⟨r1, r2, r3, r4, r5, r6, r7, r8, r9⟩ := hc c' hc'
    unfold RC
    rw [a5 402 c' (by omega) (by omega), a5 403 c' (by omega) (by omega), a5 404 c' (by omega) (by omega), a5 405 c' (by omega) (by omega), a5 406 c' (by omega) (by omega), a5 407 c' (by omega) (by omega), a5 408 c' (by omega) (by omega), b2 14 (by omega) (by omega), b2 15 (by omega) (by omega), b2 16 (by omega) (by omega), b2 17 (by omega) (by omega), b2 18 (by omega) (by omega), b2 19 (by omega) (by omega), b2 20 (by omega) (by omega), a6]
    refine ⟨r1, r2, r3, r4, r5, r6, r7, r8, fun p hp => ?_⟩
    by_cases e : c' = c
    · subst e
      exact hd1 p hp
    · rw [f6 (3 + c') (by omega) (by omega) (by omega), m5 (8 * c' + p) (by omega)]
      exact r9 p hp
  · intro c' i' hc' hi'
    obtain ⟨hq, u, huC, hu2⟩ := hk c' i' hc' hi'
    by_cases e : 20 * c' + i' = 20 * c + i
    · have ec : c' = c := by omega
      have ei : i' = i := by omega
      subst ec
      subst ei
      obtain ⟨k1, k2, k3, k4, k8, k9, k10, k11⟩ := hy
      refine ⟨Or.inr ?_, ?_⟩
      · unfold RKy
        rw [a1, a5 601 _ (by omega) (by omega), a5 603 _ (by omega) (by omega), b2 21 (by omega) (by omega), b2 23 (by omega) (by omega), a6]
        refine ⟨k1, k2, k3, k4, k8, k9, hd2, ?_⟩
        rcases hh with ⟨x1, x2, x3⟩ | ⟨p, hp, x1, x2, x3⟩
        · have e2 : σ2 = cI σ1 108 0 (nI P) := by
            rcases h2 with ⟨_, h⟩ | ⟨p, hp, h, _⟩
            · exact h
            · rw [x1] at h
              exact absurd h.symm (nI_m (a := p) (b := 1) (by omega) (by omega) (by omega)).1
          have e3 : ci σ2 602 (20 * c' + i') = ci σ 602 (20 * c' + i') := by
            rw [e2, ci_I, if_neg (by omega)]
            exact f5 602 _ (by omega)
          rw [e3, x2]
          exact k11
        · right
          refine ⟨p, hp, ?_, x2⟩
          rcases h2 with ⟨h, _⟩ | ⟨p', hp', h, e2⟩
          · rw [x1] at h
            exact absurd h (nI_m (a := p) (b := 1) (by omega) (by omega) (by omega)).1
          · rw [e2, ci_I, if_pos ⟨rfl, rfl⟩, ← h, x1]
      · rcases hh with ⟨x1, x2, x3⟩ | ⟨p, hp, x1, x2, x3⟩
        · exact ⟨u, by omega, by rw [x3]; exact hu2⟩
        · exact ⟨C + 1, by omega, x3⟩
    · obtain ⟨j1, j2⟩ := m3 _ e
      have j1 : mr τ1 24 (20 * c' + i') = mr τ 24 (20 * c' + i') := j1
      refine ⟨?_, u, by omega, by rw [j2]; exact hu2⟩
      rcases hq with ⟨q1, q2, q3⟩ | ⟨k1, k2, k3, k4, k8, k9, k10, k11⟩
      · left
        unfold RKn
        rw [a1, b2 21 (by omega) (by omega), j1]
        exact ⟨q1, q2, q3⟩
      · right
        unfold RKy
        rw [a1, a5 601 _ (by omega) (by omega), a5 602 _ (by omega) (fun z => e z.2), a5 603 _ (by omega) (by omega), b2 21 (by omega) (by omega), b2 23 (by omega) (by omega), a6, j1]
        refine ⟨k1, k2, k3, k4, k8, k9, fun j hj => ?_, k11⟩
        rw [f6 _ (by omega) (by omega) (by omega), m6 _ (by omega)]
        exact k10 j hj
theorem RelA.tell (hA : RelA S R B C E σ τ) {c : Nat} (v1 v2 v3 v4 : Int32) : RelA S R B C E (cI (cI (cI (cI (cI σ 404 c v1) 405 c v2) 406 c v3) 407 c v4) 408 c (ci σ 408 c + nI 1)) (mR (mR (mR (mR (mR τ 16 c v1) 17 c v2) 18 c v3) 19 c v4) 20 c (mr τ 20 c + nI 1)) := by
  obtain ⟨hV, hG, hU, hE, hc, hk⟩ := hA
  refine ⟨hV, hG, hU, hE, ?_, hk⟩
  intro c' hc'
  obtain ⟨r1, r2, r3, r4, r5, r6, r7, r8, r9⟩ := hc c' hc'
  unfold RC
  simp only [ci_I, cj_I, mr_R, mj_R, upd, ↓reduceIte, Nat.reduceEqDiff, reduceCtorEq, Nat.reduceAdd, Nat.reduceMul, Nat.reduceSub, eq_self_iff_true, true_and, and_true, false_and, and_false, and_self]
  refine ⟨r1, r2, r3, ?_, ?_, ?_, ?_, ?_, r9⟩
  · by_cases e : c' = c
    · rw [if_pos e, if_pos e]
    · rw [if_neg e, if_neg e]; exact r4
  · by_cases e : c' = c
    · rw [if_pos e, if_pos e]
    · rw [if_neg e, if_neg e]; exact r5
  · by_cases e : c' = c
    · rw [if_pos e, if_pos e]
    · rw [if_neg e, if_neg e]; exact r6
  · by_cases e : c' = c
    · rw [if_pos e, if_pos e]
    · rw [if_neg e, if_neg e]; exact r7
  · by_cases e : c' = c
    · rw [if_pos e, if_pos e]; subst e; rw [r8]
    · rw [if_neg e, if_neg e]; exact r8
theorem RelA.upset (hA : RelA S R B C E σ τ) {c : Nat} {v : Int32} (hv : v = nI 0 ∨ v = nI 1) : RelA S R B C E (cI σ 402 c v) (mR τ 14 c v) := by
  obtain ⟨hV, hG, hU, hE, hc, hk⟩ := hA
  refine ⟨hV, hG, hU, hE, ?_, hk⟩
  intro c' hc'
  obtain ⟨r1, r2, r3, r4, r5, r6, r7, r8, r9⟩ := hc c' hc'
  unfold RC
  simp only [ci_I, cj_I, mr_R, mj_R, upd, ↓reduceIte, Nat.reduceEqDiff, reduceCtorEq, Nat.reduceAdd, Nat.reduceMul, Nat.reduceSub, eq_self_iff_true, true_and, and_true, false_and, and_false, and_self]
  refine ⟨?_, ?_, r3, r4, r5, r6, r7, r8, r9⟩
  · by_cases e : c' = c
    · rw [if_pos e, if_pos e]
    · rw [if_neg e, if_neg e]; exact r1
  · by_cases e : c' = c
    · rw [if_pos e]; exact hv
    · rw [if_neg e]; exact r2
theorem RelA.stop (hA : RelA S R B C E σ τ) (k : Nat) : RelA S R B C E (cI σ 603 k (nI 1)) (mR τ 23 k (nI 1)) := by
  obtain ⟨hV, hG, hU, hE, hc, hk⟩ := hA
  refine ⟨hV, hG, hU, hE, hc, ?_⟩
  intro c' i' hc' hi'
  obtain ⟨hq, hu⟩ := hk c' i' hc' hi'
  refine ⟨?_, hu⟩
  rcases hq with hq | ⟨k1, k2, k3, k4, k8, k9, k10, k11⟩
  · exact Or.inl hq
  · right
    unfold RKy
    simp only [ci_I, cj_I, cv_I, mr_R, mj_R, upd, ↓reduceIte, Nat.reduceEqDiff, reduceCtorEq, Nat.reduceAdd, Nat.reduceMul, Nat.reduceSub, eq_self_iff_true, true_and, and_true, false_and, and_false, and_self]
    refine ⟨k1, k2, k3, k4, ?_, ?_, k10, k11⟩
    · by_cases e : 20 * c' + i' = k
      · rw [if_pos e, if_pos e]
      · rw [if_neg e, if_neg e]; exact k8
    · by_cases e : 20 * c' + i' = k
      · rw [if_pos e]; exact Or.inr rfl
      · rw [if_neg e]; exact k9
theorem call_sim (hA : RelA S R B C E σ τ) {c i q fr len : Nat} (hc8 : c < 8) (hi : i < R) (hy : RKy R σ τ (20 * c + i) i) (he : mr τ 21 (20 * c + i) = nI (E i)) (hq9 : cv σ 9 q = true) (hq : RB σ τ q len (120 * pl E i + fr)) (hlen : fr + len ≤ 120) (hC : C + 1 < 2147483648) :
    ∃ (r : Nat) (σ2 : CS) (τ1 : MS), r ≤ 7 ∧ cv σ2 = cv σ ∧ k_X6_call σ c (20 * c + i) (nI (i + 1)) q = some (nI r, σ2) ∧ k_X7_call τ (nI c) (nI (i + 1)) (nI fr) (nI len) = some (nI r, τ1) ∧ (r = 0 → RelA S R B (C + 1) E σ2 τ1) ∧ (r ≠ 0 → ∃ τ2 : MS, k_X7_tell τ1 (nI c) (nI (i + 1)) (nI r) = some ((), τ2) ∧ RelA S R B (C + 1) E σ2 τ2) := by
  obtain ⟨hV, hG, hU, hE, hc, hk⟩ := id hA
  obtain ⟨r, P, σ1, τ1, r7, e1, e2, e3⟩ := go_sim hA (a := 3 + c) (b := 11 + (20 * c + i)) (q := q) (fr := fr) (len := len) (by omega) (by omega) (by omega) hc8 hi he hq9 hq hlen (hV.v8 (by omega)) hy.2.1 ⟨(hc c hc8).2.2.2.2.2.2.2.2, hy.2.2.2.2.2.2.1⟩ hC
  obtain ⟨⟨⟨f1, f2, f3, f4, f5, f6⟩, m1, m2, m3, m4, m5, m6⟩, hh, hd, hst, g, hg, hg1, hg2, hg3⟩ := id e3
  have v0 : cv σ1 0 0 = true := by rw [f1]; exact hV.1
  have v1 : cv σ1 1 0 = true := by rw [f1]; exact hV.2.1
  have v4 : cv σ1 4 c = true := by rw [f1]; exact hV.v4 hc8
  have v6 : cv σ1 6 (20 * c + i) = true := by rw [f1]; exact hy.1
  have t1 : r ≠ 0 → ∃ τ2 : MS, k_X7_tell τ1 (nI c) (nI (i + 1)) (nI r) = some ((), τ2) ∧ τ2 = mR (mR (mR (mR (mR τ1 16 c (nI r)) 17 c (nI (i + 1))) 18 c (nI P)) 19 c (nI g)) 20 c (mr τ1 20 c + nI 1) := by
    intro hr0
    refine ⟨_, ?_, rfl⟩
    unfold k_X7_tell k_X7_tell_b43
    by_cases h6 : r = 6
    · have := hg2 h6
      subst h6
      simp (disch := omega) only [zi_le_t, zi_le_f, zi_lt_t, zi_lt_f, zi_eq_t, zi_eq_f, zi_eq_m, zi_lt_m, zi_le_m, zg_in, zi_T, zi_F, zg_T, zb_S, zo_N, zo_S, zs_D, nI_add, pk_mul, nI_sub2, nI_cl2, eq_self_iff_true, ln0, ln1, ln2, ln3, ln4, ln5, ln6, ln7, ln8, ln9, ln10, ln11, ln12, ln13, ln14, ln15, ln16, ln17, ln18, ln19, ln20, ln21, ln64, ln120, ln160, ln180, ln255, ln1280, ln21600, ↓reduceIte, Nat.reduceEqDiff, reduceCtorEq, Nat.reduceAdd, Nat.reduceMul, Nat.reduceSub, eq_self_iff_true, true_and, and_true, false_and, and_false, and_self, mi_I, mr_I, mj_I, mi_R, mr_R, mj_R, mi_J, mr_J, mj_J, hst, this]
    · have := hg3 h6
      subst this
      simp (disch := omega) only [zi_le_t, zi_le_f, zi_lt_t, zi_lt_f, zi_eq_t, zi_eq_f, zi_eq_m, zi_lt_m, zi_le_m, zg_in, zi_T, zi_F, zg_T, zb_S, zo_N, zo_S, zs_D, nI_add, pk_mul, nI_sub2, nI_cl2, eq_self_iff_true, ln0, ln1, ln2, ln3, ln4, ln5, ln6, ln7, ln8, ln9, ln10, ln11, ln12, ln13, ln14, ln15, ln16, ln17, ln18, ln19, ln20, ln21, ln64, ln120, ln160, ln180, ln255, ln1280, ln21600, ↓reduceIte, Nat.reduceEqDiff, reduceCtorEq, Nat.reduceAdd, Nat.reduceMul, Nat.reduceSub, eq_self_iff_true, true_and, and_true, false_and, and_false, and_self, mi_I, mr_I, mj_I, mi_R, mr_R, mj_R, mi_J, mr_J, mj_J, hst]
  have cls : ∃ σ3 : CS, ((ci σ1 110 0 = -nI 1 ∧ σ3 = cI σ1 108 0 (nI P)) ∨ ∃ p : Nat, p < 8 ∧ ci σ1 110 0 = nI p ∧ σ3 = cI (cI σ1 108 0 (nI P)) 602 (20 * c + i) (nI p)) ∧ ci σ3 108 0 = nI P ∧ ci σ3 109 0 = nI g ∧ cv σ3 = cv σ1 ∧ k_X6_call σ c (20 * c + i) (nI (i + 1)) q = k_X6_call_b45 c (20 * c + i) (nI (i + 1)) q σ3 (nI r) := by
    rcases hh with ⟨x1, x2, x3⟩ | ⟨p, hp, x1, x2, x3⟩
    · refine ⟨_, Or.inl ⟨x1, rfl⟩, ?_, ?_, rfl, ?_⟩
      · rw [ci_I, if_pos ⟨rfl, rfl⟩]
      · rw [ci_I, if_neg (by omega)]; exact hg1
      · rw [k_X6_call]
        simp (disch := omega) only [zi_le_t, zi_le_f, zi_lt_t, zi_lt_f, zi_eq_t, zi_eq_f, zi_eq_m, zi_lt_m, zi_le_m, zg_in, zi_T, zi_F, zg_T, zb_S, zo_N, zo_S, zs_D, nI_add, pk_mul, nI_sub2, nI_cl2, eq_self_iff_true, ln0, ln1, ln2, ln3, ln4, ln5, ln6, ln7, ln8, ln9, ln10, ln11, ln12, ln13, ln14, ln15, ln16, ln17, ln18, ln19, ln20, ln21, ln64, ln120, ln160, ln180, ln255, ln1280, ln21600, ↓reduceIte, Nat.reduceEqDiff, reduceCtorEq, Nat.reduceAdd, Nat.reduceMul, Nat.reduceSub, eq_self_iff_true, true_and, and_true, false_and, and_false, and_self, hV.1, hV.2.1, hV.v4 hc8, hy.1, hG.1, e1, v0, v1, ci_I, cv_I, x1]
    · refine ⟨_, Or.inr ⟨p, hp, x1, rfl⟩, ?_, ?_, rfl, ?_⟩
      · rw [ci_I, if_neg (by omega), ci_I, if_pos ⟨rfl, rfl⟩]
      · rw [ci_I, if_neg (by omega), ci_I, if_neg (by omega)]; exact hg1
      · rw [k_X6_call]
        simp (disch := omega) only [zi_le_t, zi_le_f, zi_lt_t, zi_lt_f, zi_eq_t, zi_eq_f, zi_eq_m, zi_lt_m, zi_le_m, zg_in, zi_T, zi_F, zg_T, zb_S, zo_N, zo_S, zs_D, nI_add, pk_mul, nI_sub2, nI_cl2, eq_self_iff_true, ln0, ln1, ln2, ln3, ln4, ln5, ln6, ln7, ln8, ln9, ln10, ln11, ln12, ln13, ln14, ln15, ln16, ln17, ln18, ln19, ln20, ln21, ln64, ln120, ln160, ln180, ln255, ln1280, ln21600, ↓reduceIte, Nat.reduceEqDiff, reduceCtorEq, Nat.reduceAdd, Nat.reduceMul, Nat.reduceSub, eq_self_iff_true, true_and, and_true, false_and, and_false, and_self, hV.1, hV.2.1, hV.v4 hc8, hy.1, hG.1, e1, v0, v1, v6, ci_I, cv_I, x1]
  obtain ⟨σ3, c1, c2, c3, c4, c5⟩ := cls
  have hA3 := hA.called hc8 hi hy e3 c1
  by_cases hr0 : r = 0
  · subst hr0
    refine ⟨0, σ3, τ1, by omega, c4.trans f1, ?_, e2, fun _ => hA3, fun z => absurd rfl z⟩
    rw [c5, k_X6_call_b45]
    simp (disch := omega) only [zi_le_t, zi_le_f, zi_lt_t, zi_lt_f, zi_eq_t, zi_eq_f, zi_eq_m, zi_lt_m, zi_le_m, zg_in, zi_T, zi_F, zg_T, zb_S, zo_N, zo_S, zs_D, nI_add, pk_mul, nI_sub2, nI_cl2, eq_self_iff_true, ln0, ln1, ln2, ln3, ln4, ln5, ln6, ln7, ln8, ln9, ln10, ln11, ln12, ln13, ln14, ln15, ln16, ln17, ln18, ln19, ln20, ln21, ln64, ln120, ln160, ln180, ln255, ln1280, ln21600, ↓reduceIte, Nat.reduceEqDiff, reduceCtorEq, Nat.reduceAdd, Nat.reduceMul, Nat.reduceSub, eq_self_iff_true, true_and, and_true, false_and, and_false, and_self, k_X6_call_b93]
  · obtain ⟨τ2, t2, t3⟩ := t1 hr0
    refine ⟨r, cI (cI (cI (cI (cI σ3 404 c (nI r)) 405 c (nI (i + 1))) 406 c (nI P)) 407 c (nI g)) 408 c (ci σ3 408 c + nI 1), τ1, r7, c4.trans f1, ?_, e2, fun z => absurd z hr0, fun _ => ⟨τ2, t2, ?_⟩⟩
    · rw [c5, k_X6_call_b45]
      have n0 : 0 < r := by omega
      simp (disch := omega) only [zi_le_t, zi_le_f, zi_lt_t, zi_lt_f, zi_eq_t, zi_eq_f, zi_eq_m, zi_lt_m, zi_le_m, zg_in, zi_T, zi_F, zg_T, zb_S, zo_N, zo_S, zs_D, nI_add, pk_mul, nI_sub2, nI_cl2, eq_self_iff_true, ln0, ln1, ln2, ln3, ln4, ln5, ln6, ln7, ln8, ln9, ln10, ln11, ln12, ln13, ln14, ln15, ln16, ln17, ln18, ln19, ln20, ln21, ln64, ln120, ln160, ln180, ln255, ln1280, ln21600, ↓reduceIte, Nat.reduceEqDiff, reduceCtorEq, Nat.reduceAdd, Nat.reduceMul, Nat.reduceSub, eq_self_iff_true, true_and, and_true, false_and, and_false, and_self, k_X6_call_b93, ci_I, cb_I, cbl_I, cj_I, cv_I, cs_I, cr_I, ci_B, cb_B, cbl_B, cj_B, cv_B, cs_B, cr_B, ci_J, cb_J, cbl_J, cj_J, cv_J, cs_J, cr_J, ci_R, cb_R, cbl_R, cj_R, cv_R, cs_R, cr_R, c2, c3, c4, v0, v1, v4]
    · rw [t3]
      exact hA3.tell _ _ _ _
end CALLS
