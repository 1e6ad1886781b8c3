/-! ===== runnable: both sides, to the end ===== -/
section RUN2
variable {S R B C N : Nat} {E : Nat → Nat} {σ σ' : CS} {τ τ' : MS}
theorem e7_b92 (hA : RelA S R B C E σ τ) {i ed e : Nat} (hi : i < 20) (hed : 1 ≤ ed ∧ ed ≤ 9) (he : e = 9 * i + (ed - 1)) {x1 v : Int32} (hx : (x1 = nI 0 ∧ v = nI (i + 1)) ∨ (¬ x1 = nI 0 ∧ v = nI ed)) {R' : Nat} (hR' : R' = if i + 1 ≤ R then R else i + 1) :
    (rb (wk S (cb σ 0) 121 0 0 0) = 0 → ∃ τ1 : MS, CU e τ τ1 ∧ k_X7_runnable_b92 x1 τ (nI ed) (nI 0) (nI (i + 1)) = some (-nI 2, mI (mI τ1 3 (nI 0)) 2 (mi τ1 2 + nI 1))) ∧
    (rb (wk S (cb σ 0) 121 0 0 0) = 1 → ∃ (b : Bool) (sp sl rp rl : Nat) (τF : MS), okF S (cb σ 0) 121 0 ∧ cOf S (cb σ 0) 1 121 0 = (if b = true then some (sp, sl) else none) ∧ cOf S (cb σ 0) 2 121 0 = some (rp, rl) ∧ rp + rl ≤ S ∧ (b = true → sp + sl ≤ S) ∧ KM τ τF i R' S e ed b sp sl rp rl ∧ k_X7_runnable_b92 x1 τ (nI ed) (nI 0) (nI (i + 1)) = some (v, τF)) := by
  obtain ⟨hV, hG, hU, hE, hc, hk⟩ := id hA
  have h3 : mi τ 3 = nI S := hG.2.2.2.2.1
  have h5 : mi τ 5 = nI R := hG.2.2.2.2.2.2.2.1
  have hS : S ≤ 120 := hG.2.2.2.2.2.1
  have hR20 : R ≤ 20 := hG.2.2.2.2.2.2.2.2.1
  have he9 : e < 180 := by omega
  have hB : ∀ j, j < 120 → isB (cb σ 0 j) := fun j hj => by rw [(hU j hj).1]; exact (hU j hj).2
  obtain ⟨τ1, u1, u2, u3⟩ := cut_loop (e := e) he9 hS hB 121 FU 0 0 0 τ (by omega) (by rw [FU_s]; omega) (Nat.zero_le _) (Nat.le_refl _) (Nat.le_refl _) h3 (fun j hj => (hU j hj).1.symm)
  have hpl : k_X7_place τ (nI (i + 1)) (nI ed) = some (nI e, τ) := by rw [he]; exact e7_pl hed.1
  have hcut : k_X7_cutUp τ (nI e) = some (nI (rb (wk S (cb σ 0) 121 0 0 0)), τ1) := u1
  refine ⟨fun h0 => ⟨τ1, u2, ?_⟩, fun h1 => ?_⟩
  · rw [h0] at hcut
    unfold k_X7_runnable_b92 k_X7_empties
    simp (disch := omega) only [zi_le_t, zi_le_f, zi_lt_t, zi_lt_f, zi_eq_t, zi_eq_f, zi_eq_m, zi_lt_m, zi_le_m, zg_in, zi_T, zi_F, zg_T, zb_S, zo_N, zo_S, zs_D, nI_add, pk_mul, nI_sub2, nI_cl2, eq_self_iff_true, ln0, ln1, ln2, ln3, ln4, ln5, ln6, ln7, ln8, ln9, ln10, ln11, ln12, ln13, ln14, ln15, ln16, ln17, ln18, ln19, ln20, ln21, ln64, ln120, ln160, ln180, ln255, ln1280, ln21600, hpl, hcut, e7_ref, mi_I]
    rfl
  · rw [h1] at hcut
    obtain ⟨⟨st, ru⟩, hw⟩ : ∃ q, wk S (cb σ 0) 121 0 0 0 = some q := by
      cases hq : wk S (cb σ 0) 121 0 0 0 with
      | none => rw [hq] at h1; cases h1
      | some q => exact ⟨q, rfl⟩
    have hru : ru = 1 ∧ st ≤ 1 := by
      rw [hw] at h1
      unfold rb at h1
      by_cases hh : ru = 1 ∧ st ≤ 1
      · exact hh
      · have h1 : (if ru = 1 ∧ st ≤ 1 then 1 else 0) = 1 := h1
        rw [if_neg hh] at h1
        cases h1
    obtain ⟨w1, w2, w3, w4, w5, w6⟩ := u3 st ru hw
    have hok := wk_ok S (cb σ 0) 121 0 0 0 _ hw
    obtain ⟨rp, rl, r1, r2, r3, r4⟩ : ∃ rp rl, cOf S (cb σ 0) 2 121 0 = some (rp, rl) ∧ rp + rl ≤ S ∧ mr τ1 11 e = nI rp ∧ mr τ1 12 e = nI rl := by
      rcases w6 with ⟨-, q, -⟩ | ⟨p, z, q1, q2, q3, q4⟩
      · omega
      · exact ⟨p, z, q1, q3, (q4 (by omega)).1, (q4 (by omega)).2⟩
    obtain ⟨b, sp, sl, s1, s2, s3⟩ : ∃ (b : Bool) (sp sl : Nat), cOf S (cb σ 0) 1 121 0 = (if b = true then some (sp, sl) else none) ∧ (b = true → sp + sl ≤ S) ∧ ((b = false ∧ mr τ1 9 e = -nI 1) ∨ (b = true ∧ mr τ1 9 e = nI sp ∧ mr τ1 10 e = nI sl)) := by
      by_cases hs : st = 0
      · exact ⟨false, 0, 0, w5 hs, (fun q => by cases q), Or.inl ⟨rfl, w3 hs⟩⟩
      · rcases w4 hs with ⟨-, q, -⟩ | ⟨p, z, q1, q2, q3, q4⟩
        · omega
        · exact ⟨true, p, z, q1, fun _ => q3, Or.inr ⟨rfl, q4 (by omega)⟩⟩
    obtain ⟨c1, c2, c3⟩ := u2
    have m3 : mi τ1 3 = nI S := by rw [c1]; exact h3
    have m4 : ∀ j, mr τ1 4 j = mr τ 4 j := fun j => c3 4 j (by omega)
    obtain ⟨τ2, K, v1, v2, v3, v4⟩ := copy_oct (e := e) (S := S) he9 hS x1 (nI 0) (nI (i + 1)) (nI ed) S FU 0 τ1 (by omega) (by rw [FU_s]; omega) m3 (fun j hj => by rw [m4]; exact (hU j hj).2)
    have n3 : mi τ2 3 = nI S := by rw [v2]; exact m3
    have n5 : mi τ2 5 = nI R := by rw [v2, c1]; exact h5
    have n9 : ∀ a j, a ≠ 7 → mr τ2 a j = mr τ1 a j := fun a j q => by rw [v4, if_neg (fun z => q z.1)]
    refine ⟨b, sp, sl, rp, rl, mI (mR (mI (mR τ2 8 e (nI S)) 3 (nI 0)) 6 (i + 1) (nI ed)) 5 (nI R'), hok, s1, r1, r2, s2, ?_, ?_⟩
    · have f : ∀ a j, mr (mI (mR (mI (mR τ2 8 e (nI S)) 3 (nI 0)) 6 (i + 1) (nI ed)) 5 (nI R')) a j = if a = 6 then (if j = i + 1 then nI ed else mr τ2 6 j) else if a = 8 then (if j = e then nI S else mr τ2 8 j) else mr τ2 a j := fun a j => by
        simp only [mr_I, mr_R, upd]
        by_cases h6 : a = 6
        · subst h6
          rw [if_pos rfl, if_pos rfl]
          rfl
        · rw [if_neg h6, if_neg h6]
          by_cases h8 : a = 8
          · subst h8
            rw [if_pos rfl, if_pos rfl]
            rfl
          · rw [if_neg h8, if_neg h8]
      have g9 : ∀ a j, a ≠ 6 → a ≠ 7 → a ≠ 8 → mr (mI (mR (mI (mR τ2 8 e (nI S)) 3 (nI 0)) 6 (i + 1) (nI ed)) 5 (nI R')) a j = mr τ1 a j := fun a j q1 q2 q3 => by
        rw [f, if_neg q1, if_neg q3, n9 a j q2]
      refine ⟨?_, ?_, ?_, ?_, ?_, ?_, ?_, ?_, ?_, ?_, ?_, ?_, ?_, ?_⟩
      · simp only [mi_I, mi_R, ↓reduceIte, Nat.reduceEqDiff, reduceCtorEq, Nat.reduceAdd, Nat.reduceMul, Nat.reduceSub, eq_self_iff_true, true_and, and_true, false_and, and_false, and_self]; rw [v2, c1]
      · simp only [mi_I, mi_R, ↓reduceIte, Nat.reduceEqDiff, reduceCtorEq, Nat.reduceAdd, Nat.reduceMul, Nat.reduceSub, eq_self_iff_true, true_and, and_true, false_and, and_false, and_self]; rw [v2, c1]
      · simp only [mi_I, mi_R, ↓reduceIte, Nat.reduceEqDiff, reduceCtorEq, Nat.reduceAdd, Nat.reduceMul, Nat.reduceSub, eq_self_iff_true, true_and, and_true, false_and, and_false, and_self]; rw [v2, c1]
      · simp only [mi_I, mi_R, ↓reduceIte, Nat.reduceEqDiff, reduceCtorEq, Nat.reduceAdd, Nat.reduceMul, Nat.reduceSub, eq_self_iff_true, true_and, and_true, false_and, and_false, and_self]
      · simp only [mi_I, mi_R, ↓reduceIte, Nat.reduceEqDiff, reduceCtorEq, Nat.reduceAdd, Nat.reduceMul, Nat.reduceSub, eq_self_iff_true, true_and, and_true, false_and, and_false, and_self]
      · exact v3.trans c2
      · intro a j q1 q2 q3 q4
        rw [g9 a j q1 q2 q3]
        exact c3 a j (fun z => q4 z.2)
      · intro a j q1 q2 q3 q4 q5 q6 q7
        rw [g9 a j q1 q2 q3]
        exact c3 a j (by omega)
      · intro j
        rw [f, if_pos rfl, n9 6 j (by omega), c3 6 j (by omega)]
      · intro j
        rw [f, if_neg (by omega), if_neg (by omega), v4, m4, c3 7 j (by omega)]
        by_cases hh : 120 * e ≤ j ∧ j < 120 * e + S
        · rw [if_pos ⟨rfl, by omega, hh.2⟩, if_pos hh]
        · rw [if_neg (by omega), if_neg hh]
      · intro j
        rw [f, if_neg (by omega), if_pos rfl, n9 8 j (by omega), c3 8 j (by omega)]
      · rw [g9 11 e (by omega) (by omega) (by omega)]; exact r3
      · rw [g9 12 e (by omega) (by omega) (by omega)]; exact r4
      · rw [g9 9 e (by omega) (by omega) (by omega), g9 10 e (by omega) (by omega) (by omega)]
        exact s3
    · unfold k_X7_runnable_b92
      simp (disch := omega) only [zi_le_t, zi_le_f, zi_lt_t, zi_lt_f, zi_eq_t, zi_eq_f, zi_eq_m, zi_lt_m, zi_le_m, zg_in, zi_T, zi_F, zg_T, zb_S, zo_N, zo_S, zs_D, nI_add, pk_mul, nI_sub2, nI_cl2, eq_self_iff_true, ln0, ln1, ln2, ln3, ln4, ln5, ln6, ln7, ln8, ln9, ln10, ln11, ln12, ln13, ln14, ln15, ln16, ln17, ln18, ln19, ln20, ln21, ln64, ln120, ln160, ln180, ln255, ln1280, ln21600, hpl, hcut, v1]
      unfold k_X7_runnable_s144 k_X7_runnable_b220 k_X7_runnable_b233
      have x5 : mi (mR (mI (mR τ2 8 e (nI S)) 3 (nI 0)) 6 (i + 1) (nI ed)) 5 = nI R := by
        simp only [mi_I, mi_R, ↓reduceIte, Nat.reduceEqDiff, reduceCtorEq, Nat.reduceAdd, Nat.reduceMul, Nat.reduceSub, eq_self_iff_true, true_and, and_true, false_and, and_false, and_self]; exact n5
      simp (disch := omega) only [zi_le_t, zi_le_f, zi_lt_t, zi_lt_f, zi_eq_t, zi_eq_f, zi_eq_m, zi_lt_m, zi_le_m, zg_in, zi_T, zi_F, zg_T, zb_S, zo_N, zo_S, zs_D, nI_add, pk_mul, nI_sub2, nI_cl2, eq_self_iff_true, ln0, ln1, ln2, ln3, ln4, ln5, ln6, ln7, ln8, ln9, ln10, ln11, ln12, ln13, ln14, ln15, ln16, ln17, ln18, ln19, ln20, ln21, ln64, ln120, ln160, ln180, ln255, ln1280, ln21600, n3, x5]
      by_cases hr : i + 1 ≤ R
      · rw [if_pos hr] at hR'
        subst hR'
        rcases hx with ⟨q1, q2⟩ | ⟨q1, q2⟩
        · subst q1; subst q2
          simp (disch := omega) only [zi_le_t, zi_le_f, zi_lt_t, zi_lt_f, zi_eq_t, zi_eq_f, zi_eq_m, zi_lt_m, zi_le_m, zg_in, zi_T, zi_F, zg_T, zb_S, zo_N, zo_S, zs_D, nI_add, pk_mul, nI_sub2, nI_cl2, eq_self_iff_true, ln0, ln1, ln2, ln3, ln4, ln5, ln6, ln7, ln8, ln9, ln10, ln11, ln12, ln13, ln14, ln15, ln16, ln17, ln18, ln19, ln20, ln21, ln64, ln120, ln160, ln180, ln255, ln1280, ln21600]
        · subst q2
          simp (disch := omega) only [zi_le_t, zi_le_f, zi_lt_t, zi_lt_f, zi_eq_t, zi_eq_f, zi_eq_m, zi_lt_m, zi_le_m, zg_in, zi_T, zi_F, zg_T, zb_S, zo_N, zo_S, zs_D, nI_add, pk_mul, nI_sub2, nI_cl2, eq_self_iff_true, ln0, ln1, ln2, ln3, ln4, ln5, ln6, ln7, ln8, ln9, ln10, ln11, ln12, ln13, ln14, ln15, ln16, ln17, ln18, ln19, ln20, ln21, ln64, ln120, ln160, ln180, ln255, ln1280, ln21600, zi_f q1]
      · rw [if_neg hr] at hR'
        subst hR'
        rcases hx with ⟨q1, q2⟩ | ⟨q1, q2⟩
        · subst q1; subst q2
          simp (disch := omega) only [zi_le_t, zi_le_f, zi_lt_t, zi_lt_f, zi_eq_t, zi_eq_f, zi_eq_m, zi_lt_m, zi_le_m, zg_in, zi_T, zi_F, zg_T, zb_S, zo_N, zo_S, zs_D, nI_add, pk_mul, nI_sub2, nI_cl2, eq_self_iff_true, ln0, ln1, ln2, ln3, ln4, ln5, ln6, ln7, ln8, ln9, ln10, ln11, ln12, ln13, ln14, ln15, ln16, ln17, ln18, ln19, ln20, ln21, ln64, ln120, ln160, ln180, ln255, ln1280, ln21600]
        · subst q2
          simp (disch := omega) only [zi_le_t, zi_le_f, zi_lt_t, zi_lt_f, zi_eq_t, zi_eq_f, zi_eq_m, zi_lt_m, zi_le_m, zg_in, zi_T, zi_F, zg_T, zb_S, zo_N, zo_S, zs_D, nI_add, pk_mul, nI_sub2, nI_cl2, eq_self_iff_true, ln0, ln1, ln2, ln3, ln4, ln5, ln6, ln7, ln8, ln9, ln10, ln11, ln12, ln13, ln14, ln15, ln16, ln17, ln18, ln19, ln20, ln21, ln64, ln120, ln160, ln180, ln255, ln1280, ln21600, zi_f q1]
theorem rb_two (o : Option (Nat × Nat)) : rb o = 0 ∨ rb o = 1 := by
  cases o with
  | none => exact Or.inl rfl
  | some q =>
    show (if q.2 = 1 ∧ q.1 ≤ 1 then 1 else 0) = 0 ∨ (if q.2 = 1 ∧ q.1 ≤ 1 then 1 else 0) = 1
    by_cases h : q.2 = 1 ∧ q.1 ≤ 1
    · rw [if_pos h]; exact Or.inr rfl
    · rw [if_neg h]; exact Or.inl rfl
theorem e7_b92f (hA : RelA S R B C E σ τ) (x1 y0 x3 : Int32) : k_X7_runnable_b92 x1 τ y0 (nI 1) x3 = if rb (wk S (cb σ 0) 121 0 0 0) = 0 then some (-nI 2, mI (mI τ 3 (nI 0)) 2 (mi τ 2 + nI 1)) else some (-nI 4, mI τ 2 (mi τ 2 + nI 1)) := by
  obtain ⟨hV, hG, hU, hE, hc, hk⟩ := id hA
  have h3 : mi τ 3 = nI S := hG.2.2.2.2.1
  have hS : S ≤ 120 := hG.2.2.2.2.2.1
  have h := e7_right h3 (fun j hj => (hU j hj).2) hS 121 FU 0 0 0 (by omega) (by rw [FU_s]; omega) (Nat.zero_le _) (Nat.le_refl _) (Nat.le_refl _)
  rw [wk_congr (f' := cb σ 0) (fun j hj => (hU j (by omega)).1.symm)] at h
  have h : k_X7_isRight τ = some (nI (rb (wk S (cb σ 0) 121 0 0 0)), τ) := h
  unfold k_X7_runnable_b92 k_X7_empties k_X7_runnable_b118
  by_cases h0 : rb (wk S (cb σ 0) 121 0 0 0) = 0
  · rw [h0] at h
    rw [if_pos h0]
    simp (disch := omega) only [zi_le_t, zi_le_f, zi_lt_t, zi_lt_f, zi_eq_t, zi_eq_f, zi_eq_m, zi_lt_m, zi_le_m, zg_in, zi_T, zi_F, zg_T, zb_S, zo_N, zo_S, zs_D, nI_add, pk_mul, nI_sub2, nI_cl2, eq_self_iff_true, ln0, ln1, ln2, ln3, ln4, ln5, ln6, ln7, ln8, ln9, ln10, ln11, ln12, ln13, ln14, ln15, ln16, ln17, ln18, ln19, ln20, ln21, ln64, ln120, ln160, ln180, ln255, ln1280, ln21600, h, e7_ref, mi_I]
    rfl
  · rw [if_neg h0]
    rw [(rb_two _).resolve_left h0] at h
    simp (disch := omega) only [zi_le_t, zi_le_f, zi_lt_t, zi_lt_f, zi_eq_t, zi_eq_f, zi_eq_m, zi_lt_m, zi_le_m, zg_in, zi_T, zi_F, zg_T, zb_S, zo_N, zo_S, zs_D, nI_add, pk_mul, nI_sub2, nI_cl2, eq_self_iff_true, ln0, ln1, ln2, ln3, ln4, ln5, ln6, ln7, ln8, ln9, ln10, ln11, ln12, ln13, ln14, ln15, ln16, ln17, ln18, ln19, ln20, ln21, ln64, ln120, ln160, ln180, ln255, ln1280, ln21600, h, e7_ref]
theorem sim_runnable (hR : Rel N σ τ) (x : Int32) : ∃ (r : Int32) (σ' : CS) (τ' : MS), KRun σ x r σ' ∧ k_X7_runnable τ x = some (r, τ') ∧ Rel N σ' τ' := by
  have hR := hR.thrown 0
  unfold k_X7_runnable
  generalize mI τ 0 0 = τ at hR ⊢
  obtain ⟨S, R, B, C, E, hC, hA⟩ := id hR
  obtain ⟨hV, hG, hU, hE, hc, hk⟩ := id hA
  have h3 : mi τ 3 = nI S := hG.2.2.2.2.1
  have h5 : mi τ 5 = nI R := hG.2.2.2.2.2.2.2.1
  have h6 : ci σ 6 0 = nI R := hG.2.2.2.2.2.2.1
  have h50 : ci σ 5 0 = nI S := hG.2.2.2.1
  have hS : S ≤ 120 := hG.2.2.2.2.2.1
  have hR20 : R ≤ 20 := hG.2.2.2.2.2.2.2.2.1
  have hB : ∀ j, j < 120 → isB (cb σ 0 j) := fun j hj => by rw [(hU j hj).1]; exact (hU j hj).2
  have hrt : k_X6_isRight σ 0 (ci σ 5 0) = some (nI (rb (wk S (cb σ 0) 121 0 0 0)), σ) := by
    rw [h50]
    exact e6_right hV hB hS 121 FU 0 0 0 (by omega) (by rw [FU_s]; omega) (Nat.zero_le _) (Nat.le_refl _) (Nat.le_refl _)
  have hunk : ∀ (h0 : ¬ x = 0) (hn : k_X6_newestOf σ x = some (none, σ)) (hin : k_X7_in τ x (nI 0) (nI R) = some (nI 0, τ)), ∃ (r : Int32) (σ' : CS) (τ' : MS), KRun σ x r σ' ∧ zb (k_X7_in τ x (0 : Int32) (mi τ 5)) (fun r_74 t_75 => zi (r_74 = 0) (zb (k_X7_refuse t_75 (-1 : Int32)) (fun r_82 t_83 => some (r_82, t_83))) (zi (x = 0) (zi ((mi t_75 5) = (20 : Int32)) (k_X7_runnable_b60 x t_75 (1 : Int32)) (k_X7_runnable_b60 x t_75 (0 : Int32))) (zg (vp_in x 21) (zi ((mr t_75 6 x.toNatClampNeg) = (9 : Int32)) (k_X7_runnable_b60 x t_75 (1 : Int32)) (k_X7_runnable_b60 x t_75 (0 : Int32)))))) = some (r, τ') ∧ Rel N σ' τ' := by
    intro h0 hn hin
    refine ⟨-nI 1, cI σ 7 0 (ci σ 7 0 + 1), mI τ 2 (mi τ 2 + 1), ⟨hV.1, hV.2.2.2.2.1, none, hn, Or.inl ⟨h0, rfl, e6_ref hV _⟩⟩, ?_, hR.refuse⟩
    rw [h5]
    simp (disch := omega) only [zi_le_t, zi_le_f, zi_lt_t, zi_lt_f, zi_eq_t, zi_eq_f, zi_eq_m, zi_lt_m, zi_le_m, zg_in, zi_T, zi_F, zg_T, zb_S, zo_N, zo_S, zs_D, nI_add, pk_mul, nI_sub2, nI_cl2, eq_self_iff_true, ln0, ln1, ln2, ln3, ln4, ln5, ln6, ln7, ln8, ln9, ln10, ln11, ln12, ln13, ln14, ln15, ln16, ln17, ln18, ln19, ln20, ln21, ln64, ln120, ln160, ln180, ln255, ln1280, ln21600, hin, e7_ref]
  -- not right: on both sides
  have hbad : ∀ (τ1 : MS), RelA S R B C E σ τ1 → Rel N (cI (cI σ 5 0 (nI 0)) 7 0 (ci (cI σ 5 0 (nI 0)) 7 0 + 1)) (mI (mI τ1 3 (nI 0)) 2 (mi (mI τ1 3 (nI 0)) 2 + 1)) := fun τ1 h => Rel.refuse ⟨_, _, _, _, _, hC, h.empty⟩
  have hV0 : RV R (cI σ 5 0 (nI 0)) := hV
  rcases ix20 x with h | ⟨j, hj, rfl⟩
  · by_cases h0 : x = 0
    · -- a new runnable
      subst h0
      have hn : k_X6_newestOf σ 0 = some (none, σ) := e6_new_o hV h
      have hin : k_X7_in τ (nI 0) (nI 0) (nI R) = some (nI 1, τ) := e7_in_t (Nat.le_refl _) (Nat.zero_le _) (by omega)
      by_cases hf : R = 20
      · have hb := e7_b92f hA (nI 0) (nI 1) (nI (R + 1))
        rcases rb_two (wk S (cb σ 0) 121 0 0 0) with hq | hq
        · rw [if_pos hq] at hb
          refine ⟨-nI 2, _, _, ⟨hV.1, hV.2.2.2.2.1, none, hn, Or.inr ⟨Or.inl rfl, _, hrt, Or.inl ⟨by rw [hq]; rfl, e6_ref hV0 _⟩⟩⟩, ?_, hbad τ hA⟩
          unfold k_X7_runnable_b60 k_X7_runnable_b75
          simp (disch := omega) only [zi_le_t, zi_le_f, zi_lt_t, zi_lt_f, zi_eq_t, zi_eq_f, zi_eq_m, zi_lt_m, zi_le_m, zg_in, zi_T, zi_F, zg_T, zb_S, zo_N, zo_S, zs_D, nI_add, pk_mul, nI_sub2, nI_cl2, eq_self_iff_true, ln0, ln1, ln2, ln3, ln4, ln5, ln6, ln7, ln8, ln9, ln10, ln11, ln12, ln13, ln14, ln15, ln16, ln17, ln18, ln19, ln20, ln21, ln64, ln120, ln160, ln180, ln255, ln1280, ln21600, h5, hin, hb]
          all_goals rfl
        · rw [if_neg (by omega)] at hb
          refine ⟨-nI 4, _, _, ⟨hV.1, hV.2.2.2.2.1, none, hn, Or.inr ⟨Or.inl rfl, _, hrt, Or.inr ⟨by rw [hq]; decide, Or.inl ⟨rfl, hV.1, Or.inl ⟨by rw [h6, hf]; decide, e6_ref hV _⟩⟩⟩⟩⟩, ?_, hR.refuse⟩
          unfold k_X7_runnable_b60 k_X7_runnable_b75
          simp (disch := omega) only [zi_le_t, zi_le_f, zi_lt_t, zi_lt_f, zi_eq_t, zi_eq_f, zi_eq_m, zi_lt_m, zi_le_m, zg_in, zi_T, zi_F, zg_T, zb_S, zo_N, zo_S, zs_D, nI_add, pk_mul, nI_sub2, nI_cl2, eq_self_iff_true, ln0, ln1, ln2, ln3, ln4, ln5, ln6, ln7, ln8, ln9, ln10, ln11, ln12, ln13, ln14, ln15, ln16, ln17, ln18, ln19, ln20, ln21, ln64, ln120, ln160, ln180, ln255, ln1280, ln21600, h5, hin, hb]
          all_goals rfl
      · obtain ⟨b0, b1⟩ := e7_b92 hA (i := R) (ed := 1) (e := 9 * R + (1 - 1)) (x1 := nI 0) (v := nI (R + 1)) (R' := R + 1) (by omega) ⟨by omega, by omega⟩ rfl (Or.inl ⟨rfl, rfl⟩) (by rw [if_neg (by omega)])
        have hunf : zb (k_X7_in τ (0 : Int32) (0 : Int32) (mi τ 5)) (fun r_74 t_75 => zi (r_74 = 0) (zb (k_X7_refuse t_75 (-1 : Int32)) (fun r_82 t_83 => some (r_82, t_83))) (zi ((0 : Int32) = 0) (zi ((mi t_75 5) = (20 : Int32)) (k_X7_runnable_b60 0 t_75 (1 : Int32)) (k_X7_runnable_b60 0 t_75 (0 : Int32))) (zg (vp_in 0 21) (zi ((mr t_75 6 (0 : Int32).toNatClampNeg) = (9 : Int32)) (k_X7_runnable_b60 0 t_75 (1 : Int32)) (k_X7_runnable_b60 0 t_75 (0 : Int32)))))) = k_X7_runnable_b92 (nI 0) τ (nI 1) (nI 0) (nI (R + 1)) := by
          unfold k_X7_runnable_b60 k_X7_runnable_b75
          simp (disch := omega) only [zi_le_t, zi_le_f, zi_lt_t, zi_lt_f, zi_eq_t, zi_eq_f, zi_eq_m, zi_lt_m, zi_le_m, zg_in, zi_T, zi_F, zg_T, zb_S, zo_N, zo_S, zs_D, nI_add, pk_mul, nI_sub2, nI_cl2, eq_self_iff_true, ln0, ln1, ln2, ln3, ln4, ln5, ln6, ln7, ln8, ln9, ln10, ln11, ln12, ln13, ln14, ln15, ln16, ln17, ln18, ln19, ln20, ln21, ln64, ln120, ln160, ln180, ln255, ln1280, ln21600, h5, hin, zi_eq_f (show R < 20 ∨ 20 < R by omega)]
        rw [hunf]
        rcases rb_two (wk S (cb σ 0) 121 0 0 0) with hq | hq
        · obtain ⟨τ1, u1, u2⟩ := b0 hq
          have hA1 := hA.cu u1 (fun i hi => by have := hE i hi; unfold pl; have h1 := this.1; have h2 := this.2.1; omega)
          exact ⟨-nI 2, _, _, ⟨hV.1, hV.2.2.2.2.1, none, hn, Or.inr ⟨Or.inl rfl, _, hrt, Or.inl ⟨by rw [hq]; rfl, e6_ref hV0 _⟩⟩⟩, u2, hbad τ1 hA1⟩
        · obtain ⟨b, sp, sl, rp, rl, τF, k1, k2, k3, k4, k5, k6, k7⟩ := b1 hq
          have hkeep : KeepOk (cI σ 6 0 (nI (R + 1))) R S b sp sl rp rl := ⟨hV.1, hV.2.2.2.2.1, hV.2.2.2.1, hV.2.2.2.2.2.1, hB, by rw [ci_I, if_neg (by omega)]; exact h50, hS, k1, k2, k3, by omega, hV.2.2.2.2.2.2.2.2.2.2.2.2.2⟩
          refine ⟨nI (R + 1), _, τF, ⟨hV.1, hV.2.2.2.2.1, none, hn, Or.inr ⟨Or.inl rfl, _, hrt, Or.inr ⟨by rw [hq]; decide, Or.inl ⟨rfl, hV.1, Or.inr ⟨by rw [h6]; exact (show nI R < nI 20 from nI_lt (by omega) (by omega)), R, S, b, sp, sl, rp, rl, by rw [h6]; exact nI_1 R, hkeep, rfl, rfl⟩⟩⟩⟩⟩, k7, _, _, _, _, _, hC, hA.keep (i := R) (ed := 1) (by omega) (Or.inr ⟨rfl, rfl⟩) ⟨by omega, by omega⟩ rfl (fun q => absurd q (Nat.lt_irrefl _)) k4 k5 ?_ k6⟩
          refine ⟨fun f j => ?_, fun a => rfl, fun a => rfl, rfl, fun kd j => rfl, fun j => rfl⟩
          simp only [ci_I, ci_K]
          rfl
    · refine hunk h0 (e6_new_o hV h) (e7_in_n ?_)
      rcases h with h | h
      · refine Or.inl ?_
        rw [Int32.lt_iff_toInt_lt] at h ⊢
        have z0 : (nI 0).toInt = 0 := by decide
        have z1 : (1 : Int32).toInt = 1 := by decide
        have zx : x.toInt ≠ 0 := fun q => h0 (Int32.toInt_inj.mp (q.trans (by decide)))
        omega
      · refine Or.inr (Int32.lt_of_le_of_lt ?_ h)
        exact (show nI R ≤ nI 20 from nI_le hR20 (by omega))
  · by_cases hjR : j < R
    · -- a next edition
      obtain ⟨w1, w2, w3, w4, -⟩ := hE j hjR
      have hn : k_X6_newestOf σ (nI (j + 1)) = some (some j, σ) := e6_new_y hV hjR hR20
      have hin : k_X7_in τ (nI (j + 1)) (nI 0) (nI R) = some (nI 1, τ) := e7_in_t (Nat.zero_le _) (by omega) (by omega)
      have hx0 : ¬ nI (j + 1) = nI 0 := fun q => by have := (nI_eq (by omega) (by omega)).mp q; omega
      have g7 : cv σ 7 j = true := hV.v7 hjR
      by_cases hf : E j = 9
      · have hb := e7_b92f hA (nI (j + 1)) (nI (E j + 1)) (nI (j + 1))
        rcases rb_two (wk S (cb σ 0) 121 0 0 0) with hq | hq
        · rw [if_pos hq] at hb
          refine ⟨-nI 2, _, _, ⟨hV.1, hV.2.2.2.2.1, some j, hn, Or.inr ⟨Or.inr ⟨j, rfl⟩, _, hrt, Or.inl ⟨by rw [hq]; rfl, e6_ref hV0 _⟩⟩⟩, ?_, hbad τ hA⟩
          unfold k_X7_runnable_b60 k_X7_runnable_b75
          simp (disch := omega) only [zi_le_t, zi_le_f, zi_lt_t, zi_lt_f, zi_eq_t, zi_eq_f, zi_eq_m, zi_lt_m, zi_le_m, zg_in, zi_T, zi_F, zg_T, zb_S, zo_N, zo_S, zs_D, nI_add, pk_mul, nI_sub2, nI_cl2, eq_self_iff_true, ln0, ln1, ln2, ln3, ln4, ln5, ln6, ln7, ln8, ln9, ln10, ln11, ln12, ln13, ln14, ln15, ln16, ln17, ln18, ln19, ln20, ln21, ln64, ln120, ln160, ln180, ln255, ln1280, ln21600, h5, hin, w4, zi_f hx0, zi_eq_f (show j + 1 < 0 ∨ 0 < j + 1 by omega), hb]
          all_goals rfl
        · rw [if_neg (by omega)] at hb
          refine ⟨-nI 4, _, _, ⟨hV.1, hV.2.2.2.2.1, some j, hn, Or.inr ⟨Or.inr ⟨j, rfl⟩, _, hrt, Or.inr ⟨by rw [hq]; decide, Or.inr ⟨j, rfl, g7, hV.1, Or.inl ⟨by rw [w3, hf]; decide, e6_ref hV _⟩⟩⟩⟩⟩, ?_, hR.refuse⟩
          unfold k_X7_runnable_b60 k_X7_runnable_b75
          simp (disch := omega) only [zi_le_t, zi_le_f, zi_lt_t, zi_lt_f, zi_eq_t, zi_eq_f, zi_eq_m, zi_lt_m, zi_le_m, zg_in, zi_T, zi_F, zg_T, zb_S, zo_N, zo_S, zs_D, nI_add, pk_mul, nI_sub2, nI_cl2, eq_self_iff_true, ln0, ln1, ln2, ln3, ln4, ln5, ln6, ln7, ln8, ln9, ln10, ln11, ln12, ln13, ln14, ln15, ln16, ln17, ln18, ln19, ln20, ln21, ln64, ln120, ln160, ln180, ln255, ln1280, ln21600, h5, hin, w4, zi_f hx0, zi_eq_f (show j + 1 < 0 ∨ 0 < j + 1 by omega), hb]
          all_goals rfl
      · obtain ⟨b0, b1⟩ := e7_b92 hA (i := j) (ed := E j + 1) (e := 9 * j + (E j + 1 - 1)) (x1 := nI (j + 1)) (v := nI (E j + 1)) (R' := R) (by omega) ⟨by omega, by omega⟩ rfl (Or.inr ⟨hx0, rfl⟩) (by rw [if_pos (by omega)])
        have hunf : zb (k_X7_in τ (nI (j + 1)) (0 : Int32) (mi τ 5)) (fun r_74 t_75 => zi (r_74 = 0) (zb (k_X7_refuse t_75 (-1 : Int32)) (fun r_82 t_83 => some (r_82, t_83))) (zi (nI (j + 1) = 0) (zi ((mi t_75 5) = (20 : Int32)) (k_X7_runnable_b60 (nI (j + 1)) t_75 (1 : Int32)) (k_X7_runnable_b60 (nI (j + 1)) t_75 (0 : Int32))) (zg (vp_in (nI (j + 1)) 21) (zi ((mr t_75 6 (nI (j + 1)).toNatClampNeg) = (9 : Int32)) (k_X7_runnable_b60 (nI (j + 1)) t_75 (1 : Int32)) (k_X7_runnable_b60 (nI (j + 1)) t_75 (0 : Int32)))))) = k_X7_runnable_b92 (nI (j + 1)) τ (nI (E j + 1)) (nI 0) (nI (j + 1)) := by
          unfold k_X7_runnable_b60 k_X7_runnable_b75
          simp (disch := omega) only [zi_le_t, zi_le_f, zi_lt_t, zi_lt_f, zi_eq_t, zi_eq_f, zi_eq_m, zi_lt_m, zi_le_m, zg_in, zi_T, zi_F, zg_T, zb_S, zo_N, zo_S, zs_D, nI_add, pk_mul, nI_sub2, nI_cl2, eq_self_iff_true, ln0, ln1, ln2, ln3, ln4, ln5, ln6, ln7, ln8, ln9, ln10, ln11, ln12, ln13, ln14, ln15, ln16, ln17, ln18, ln19, ln20, ln21, ln64, ln120, ln160, ln180, ln255, ln1280, ln21600, h5, hin, w4, zi_f hx0, zi_eq_f (show j + 1 < 0 ∨ 0 < j + 1 by omega), zi_eq_f (show E j < 9 ∨ 9 < E j by omega)]
        rw [hunf]
        rcases rb_two (wk S (cb σ 0) 121 0 0 0) with hq | hq
        · obtain ⟨τ1, u1, u2⟩ := b0 hq
          have hA1 := hA.cu u1 (fun i hi => by have := hE i hi; unfold pl; have h1 := this.1; have h2 := this.2.1; by_cases hij : i = j; · subst hij; omega
                                               · omega)
          exact ⟨-nI 2, _, _, ⟨hV.1, hV.2.2.2.2.1, some j, hn, Or.inr ⟨Or.inr ⟨j, rfl⟩, _, hrt, Or.inl ⟨by rw [hq]; rfl, e6_ref hV0 _⟩⟩⟩, u2, hbad τ1 hA1⟩
        · obtain ⟨b, sp, sl, rp, rl, τF, k1, k2, k3, k4, k5, k6, k7⟩ := b1 hq
          have hkeep : KeepOk σ j S b sp sl rp rl := ⟨hV.1, hV.2.2.2.2.1, hV.2.2.2.1, hV.2.2.2.2.2.1, hB, h50, hS, k1, k2, k3, hj, hV.2.2.2.2.2.2.2.2.2.2.2.2.2⟩
          refine ⟨nI (E j + 1), _, τF, ⟨hV.1, hV.2.2.2.2.1, some j, hn, Or.inr ⟨Or.inr ⟨j, rfl⟩, _, hrt, Or.inr ⟨by rw [hq]; decide, Or.inr ⟨j, rfl, g7, hV.1, Or.inr ⟨by rw [w3]; exact (show nI (E j) < nI 9 from nI_lt (by omega) (by omega)), j, S, b, sp, sl, rp, rl, rfl, hkeep, rfl, by rw [w3]; exact (nI_1 (E j)).symm⟩⟩⟩⟩⟩, k7, _, _, _, _, _, hC, hA.keep (i := j) (ed := E j + 1) hj (Or.inl ⟨hjR, rfl⟩) ⟨by omega, by omega⟩ rfl (fun _ => rfl) k4 k5 ?_ k6⟩
          refine ⟨fun f j' => ?_, fun a => rfl, fun a => rfl, rfl, fun kd j => rfl, fun j => rfl⟩
          simp only [ci_I, ci_K, w3, show nI (E j) + 1 = nI (E j + 1) from nI_1 (E j)]
          by_cases q5 : f = 5 ∧ j' = 0
          · rw [if_pos q5, if_pos q5]; rfl
          · rw [if_neg q5, if_neg q5]
            by_cases q7 : f = 700 ∧ j' = j
            · rw [if_pos q7, if_pos q7]
            · rw [if_neg q7, if_neg q7]
              by_cases q6 : f = 6 ∧ j' = 0
              · rw [if_pos q6, q6.1, q6.2]; exact h6
              · rw [if_neg q6]
    · refine hunk (fun q => by have q2 : nI (j + 1) = nI 0 := q; have := (nI_eq (by omega) (by omega)).mp q2; omega) (e6_new_n hV (Nat.not_lt.mp hjR) hj) ?_
      exact e7_in_f (Or.inr (by omega)) (by omega) (by omega)
end RUN2
