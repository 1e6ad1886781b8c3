/-! ===== a CALL, on both sides: what ties them while it goes on ===== -/
-- q the code's row, a the ports' row, b the cells' row; c the controller, k the class, o where the code begins among the files, L its length, B the budget, C which call it is
def CP (q a b c k o L B C : Nat) (τ0 : MS) : Prop := 0 < a ∧ 0 < b ∧ a ≠ b ∧ c < 8 ∧ k < 160 ∧ L ≤ 255 ∧ o + L ≤ 21600 ∧ B ≤ 65536 ∧ C < 2147483648 ∧ (mr τ0 24 k = -nI 1 ∨ ∃ p : Nat, p < 8 ∧ mr τ0 24 k = nI p) ∧ ∃ u : Nat, u < C ∧ mr τ0 25 k = nI u
def CRs (q a b o L B C : Nat) (σ : CS) (τ : MS) : Prop := cv σ 1 0 = true ∧ cv σ 8 0 = true ∧ cv σ 8 a = true ∧ cv σ 8 b = true ∧ cv σ 9 q = true ∧ cr σ 3 = q ∧ cr σ 4 = a ∧ cr σ 5 = b ∧ cbl σ q = L ∧ (∀ j, j < L → cb σ q j = mr τ 7 (o + j) ∧ isB (mr τ 7 (o + j))) ∧ mi τ 1 = nI B ∧ mi τ 26 = nI C
def CRf (a b c k : Nat) (σ0 : CS) (τ0 : MS) (σ : CS) (τ : MS) : Prop := (cv σ = cv σ0 ∧ cb σ = cb σ0 ∧ cbl σ = cbl σ0 ∧ cs σ = cs σ0 ∧ (∀ f i, (f < 106 ∨ 110 < f) → ci σ f i = ci σ0 f i) ∧ ∀ r, r ≠ 0 → r ≠ a → r ≠ b → cj σ r = cj σ0 r) ∧ (∀ f, f ≠ 28 → f ≠ 29 → f ≠ 30 → mi τ f = mi τ0 f) ∧ (∀ g, g ≠ 24 → g ≠ 25 → mr τ g = mr τ0 g) ∧ (∀ j, j ≠ k → mr τ 24 j = mr τ0 24 j ∧ mr τ 25 j = mr τ0 25 j) ∧ (∀ g, g ≠ 13 → g ≠ 22 → g ≠ 27 → mj τ g = mj τ0 g) ∧ (∀ j, (j < 8 * c ∨ 8 * c + 8 ≤ j) → mj τ 13 j = mj τ0 13 j) ∧ ∀ j, (j < 8 * k ∨ 8 * k + 8 ≤ j) → mj τ 22 j = mj τ0 22 j
/-- the handle: none kept in this call, or the one that it kept -/
def CRh (k C : Nat) (τ0 : MS) (σ : CS) (τ : MS) : Prop := (ci σ 110 0 = -nI 1 ∧ mr τ 24 k = mr τ0 24 k ∧ mr τ 25 k = mr τ0 25 k) ∨ ∃ p : Nat, p < 8 ∧ ci σ 110 0 = nI p ∧ mr τ 24 k = nI p ∧ mr τ 25 k = nI C
def CRd (a b c k : Nat) (σ : CS) (τ : MS) : Prop := (∀ p, p < 8 → cj σ a p = mj τ 13 (8 * c + p)) ∧ ∀ j, j < 8 → cj σ b j = mj τ 22 (8 * k + j)
def CRv (L P h w : Nat) (σ : CS) (τ : MS) : Prop := ci σ 106 0 = nI w ∧ w ≤ 16 ∧ mi τ 28 = nI w ∧ (∀ j, j < w → cj σ 0 j = mj τ 27 j) ∧ ci σ 107 0 = nI h ∧ h ≤ L ∧ mi τ 29 = nI P ∧ ci σ 109 0 = nI 0
def CR (q a b c k o L B C : Nat) (σ0 : CS) (τ0 : MS) (P h w : Nat) (σ : CS) (τ : MS) : Prop := CRs q a b o L B C σ τ ∧ CRf a b c k σ0 τ0 σ τ ∧ CRh k C τ0 σ τ ∧ CRd a b c k σ τ ∧ CRv L P h w σ τ
/-- what is left of it when it is over -/
def CE (a b c k C : Nat) (σ0 : CS) (τ0 : MS) (r P : Nat) (σ : CS) (τ : MS) : Prop := CRf a b c k σ0 τ0 σ τ ∧ CRh k C τ0 σ τ ∧ CRd a b c k σ τ ∧ mi τ 29 = nI P ∧ (∃ g : Nat, g < 256 ∧ ci σ 109 0 = nI g ∧ (r = 6 → mi τ 30 = nI g) ∧ (r ≠ 6 → g = 0))
section CALL
variable {q a b c k o L B C P h w : Nat} {σ0 σ : CS} {τ0 τ : MS}
theorem CR.end (hc : CR q a b c k o L B C σ0 τ0 P h w σ τ) {r : Nat} (hr : r ≠ 6) : CE a b c k C σ0 τ0 r P σ τ := by
  obtain ⟨hs, hf, hh, hd, v1, v2, v3, v4, v5, v6, v7, v8⟩ := hc
  exact ⟨hf, hh, hd, v7, 0, by omega, v8, fun z => absurd z hr, fun _ => rfl⟩
theorem CRf.ci (hf : CRf a b c k σ0 τ0 σ τ) {f : Nat} (h1 : 106 ≤ f) (h2 : f ≤ 110) (v : Int32) : CRf a b c k σ0 τ0 (cI σ f 0 v) τ := by
  obtain ⟨⟨f1, f2, f3, f4, f5, f6⟩, g⟩ := hf
  refine ⟨⟨f1, f2, f3, f4, fun f' i hf' => ?_, f6⟩, g⟩
  rw [ci_I, if_neg (by omega)]
  exact f5 f' i hf'
theorem CRf.cj (hf : CRf a b c k σ0 τ0 σ τ) {r : Nat} (hr : r = 0 ∨ r = a ∨ r = b) (j : Nat) (v : Int64) : CRf a b c k σ0 τ0 (cJ σ r j v) τ := by
  obtain ⟨⟨f1, f2, f3, f4, f5, f6⟩, g⟩ := hf
  refine ⟨⟨f1, f2, f3, f4, f5, fun r' h0 ha hb => ?_⟩, g⟩
  rw [cj_J, if_neg (by omega)]
  exact f6 r' h0 ha hb
theorem CRf.mi (hf : CRf a b c k σ0 τ0 σ τ) {f : Nat} (h1 : f = 28 ∨ f = 29 ∨ f = 30) (v : Int32) : CRf a b c k σ0 τ0 σ (mI τ f v) := by
  obtain ⟨f0, g1, g⟩ := hf
  refine ⟨f0, fun f' h28 h29 h30 => ?_, g⟩
  rw [mi_I, if_neg (by omega)]
  exact g1 f' h28 h29 h30
theorem CRf.mj27 (hf : CRf a b c k σ0 τ0 σ τ) (j : Nat) (v : Int64) : CRf a b c k σ0 τ0 σ (mJ τ 27 j v) := by
  obtain ⟨f0, g1, g2, g3, g4, g5, g6⟩ := hf
  refine ⟨f0, g1, g2, g3, fun g h13 h22 h27 => ?_, g5, g6⟩
  rw [mj_J, if_neg h27]
  exact g4 g h13 h22 h27
theorem CRf.mj13 (hf : CRf a b c k σ0 τ0 σ τ) {p : Nat} (hp : p < 8) (v : Int64) : CRf a b c k σ0 τ0 σ (mJ τ 13 (8 * c + p) v) := by
  obtain ⟨f0, g1, g2, g3, g4, g5, g6⟩ := hf
  refine ⟨f0, g1, g2, g3, fun g h13 h22 h27 => ?_, fun j hj => ?_, g6⟩
  · rw [mj_J, if_neg h13]
    exact g4 g h13 h22 h27
  · rw [mj_J, if_pos rfl]
    unfold vp_updL
    rw [if_neg (by omega)]
    exact g5 j hj
theorem CRf.mj22 (hf : CRf a b c k σ0 τ0 σ τ) {p : Nat} (hp : p < 8) (v : Int64) : CRf a b c k σ0 τ0 σ (mJ τ 22 (8 * k + p) v) := by
  obtain ⟨f0, g1, g2, g3, g4, g5, g6⟩ := hf
  refine ⟨f0, g1, g2, g3, fun g h13 h22 h27 => ?_, g5, fun j hj => ?_⟩
  · rw [mj_J, if_neg h22]
    exact g4 g h13 h22 h27
  · rw [mj_J, if_pos rfl]
    unfold vp_updL
    rw [if_neg (by omega)]
    exact g6 j hj
theorem CRf.mr (hf : CRf a b c k σ0 τ0 σ τ) {g : Nat} (hg : g = 24 ∨ g = 25) (v : Int32) : CRf a b c k σ0 τ0 σ (mR τ g k v) := by
  obtain ⟨f0, g1, g2, g3, g4, g5, g6⟩ := hf
  refine ⟨f0, g1, fun g' h24 h25 => ?_, fun j hj => ?_, g4, g5, g6⟩
  · rw [mr_R, if_neg (by omega)]
    exact g2 g' h24 h25
  · obtain ⟨j1, j2⟩ := g3 j hj
    rcases hg with rfl | rfl
    · refine ⟨?_, j2⟩
      rw [mr_R, if_pos rfl]
      unfold upd
      rw [if_neg hj]
      exact j1
    · refine ⟨j1, ?_⟩
      rw [mr_R, if_pos rfl]
      unfold upd
      rw [if_neg hj]
      exact j2
theorem CR.at (hc : CR q a b c k o L B C σ0 τ0 P h w σ τ) {h' : Nat} (hh' : h' ≤ L) : CR q a b c k o L B C σ0 τ0 P h' w (cI σ 107 0 (nI h')) τ := by
  obtain ⟨hs, hf, hh, hd, v1, v2, v3, v4, v5, v6, v7, v8⟩ := hc
  exact ⟨hs, hf.ci (by omega) (by omega) _, hh, hd, v1, v2, v3, v4, by rw [ci_I, if_pos ⟨rfl, rfl⟩], hh', v7, v8⟩
theorem CR.stp (hc : CR q a b c k o L B C σ0 τ0 P h w σ τ) : CR q a b c k o L B C σ0 τ0 (P + 1) h w σ (mI τ 29 (nI (P + 1))) := by
  obtain ⟨hs, hf, hh, hd, v1, v2, v3, v4, v5, v6, v7, v8⟩ := hc
  exact ⟨hs, hf.mi (by omega) _, hh, hd, v1, v2, v3, v4, v5, v6, by rw [mi_I, if_pos rfl], v8⟩
theorem CR.lay (hp : CP q a b c k o L B C τ0) (hc : CR q a b c k o L B C σ0 τ0 P h w σ τ) (hw : w < 16) (v : Int64) : k_X5_lay σ v = some (nI 0, cI (cJ σ 0 w v) 106 0 (nI (w + 1))) ∧ k_X7_lay τ v = some ((), mI (mJ τ 27 w v) 28 (nI (w + 1))) ∧ CR q a b c k o L B C σ0 τ0 P h (w + 1) (cI (cJ σ 0 w v) 106 0 (nI (w + 1))) (mI (mJ τ 27 w v) 28 (nI (w + 1))) := by
  obtain ⟨p1, p2, p3, p4, p5, p6, p7, p8, p9, p10, p11⟩ := hp
  obtain ⟨hs, hf, hh, ⟨hd1, hd2⟩, v1, v2, v3, v4, v5, v6, v7, v8⟩ := hc
  refine ⟨?_, ?_, ?_⟩
  · unfold k_X5_lay k_X5_lay_b39
    simp (disch := omega) only [zi_le_t, zi_le_f, zi_lt_t, zi_lt_f, zi_eq_t, zi_eq_f, zi_eq_m, zi_lt_m, zi_le_m, zg_in, zi_T, zi_F, zg_T, zb_S, zo_N, zo_S, zs_D, nI_add, pk_mul, nI_sub2, nI_cl2, eq_self_iff_true, ln0, ln1, ln2, ln3, ln4, ln5, ln6, ln7, ln8, ln9, ln10, ln11, ln12, ln13, ln14, ln15, ln16, ln17, ln18, ln19, ln20, ln21, ln64, ln120, ln160, ln180, ln255, ln1280, ln21600, hs.1, hs.2.1, v1, jl_0, ci_I, cb_I, cbl_I, cj_I, cv_I, cs_I, cr_I, ci_B, cb_B, cbl_B, cj_B, cv_B, cs_B, cr_B, ci_J, cb_J, cbl_J, cj_J, cv_J, cs_J, cr_J, ci_R, cb_R, cbl_R, cj_R, cv_R, cs_R, cr_R]
  · unfold k_X7_lay
    simp (disch := omega) only [zi_le_t, zi_le_f, zi_lt_t, zi_lt_f, zi_eq_t, zi_eq_f, zi_eq_m, zi_lt_m, zi_le_m, zg_in, zi_T, zi_F, zg_T, zb_S, zo_N, zo_S, zs_D, nI_add, pk_mul, nI_sub2, nI_cl2, eq_self_iff_true, ln0, ln1, ln2, ln3, ln4, ln5, ln6, ln7, ln8, ln9, ln10, ln11, ln12, ln13, ln14, ln15, ln16, ln17, ln18, ln19, ln20, ln21, ln64, ln120, ln160, ln180, ln255, ln1280, ln21600, v3, mi_J]
  · refine ⟨hs, (hf.cj (Or.inl rfl) _ _).ci (by omega) (by omega) _ |>.mj27 _ _ |>.mi (by omega) _, hh, ⟨fun p hp => ?_, fun p hp => ?_⟩, by rw [ci_I, if_pos ⟨rfl, rfl⟩], by omega, by rw [mi_I, if_pos rfl], fun j hj => ?_, v5, v6, v7, v8⟩
    · rw [cj_I, cj_J, if_neg (by omega)]
      exact hd1 p hp
    · rw [cj_I, cj_J, if_neg (by omega)]
      exact hd2 p hp
    · rw [cj_I, cj_J, if_pos rfl, mj_I, mj_J, if_pos rfl]
      unfold vp_updL
      by_cases e : j = w
      · rw [if_pos e, if_pos e]
      · rw [if_neg e, if_neg e]
        exact v4 j (by omega)
theorem CR.take (hc : CR q a b c k o L B C σ0 τ0 P h w σ τ) (hw : 0 < w) : k_X5_take σ = some (mj τ 27 (w - 1), cI σ 106 0 (nI (w - 1))) ∧ k_X7_take τ = some (mj τ 27 (w - 1), mI τ 28 (nI (w - 1))) ∧ CR q a b c k o L B C σ0 τ0 P h (w - 1) (cI σ 106 0 (nI (w - 1))) (mI τ 28 (nI (w - 1))) := by
  obtain ⟨hs, hf, hh, hd, v1, v2, v3, v4, v5, v6, v7, v8⟩ := hc
  refine ⟨?_, ?_, ?_⟩
  · unfold k_X5_take
    simp (disch := omega) only [zi_le_t, zi_le_f, zi_lt_t, zi_lt_f, zi_eq_t, zi_eq_f, zi_eq_m, zi_lt_m, zi_le_m, zg_in, zi_T, zi_F, zg_T, zb_S, zo_N, zo_S, zs_D, nI_add, pk_mul, nI_sub2, nI_cl2, eq_self_iff_true, ln0, ln1, ln2, ln3, ln4, ln5, ln6, ln7, ln8, ln9, ln10, ln11, ln12, ln13, ln14, ln15, ln16, ln17, ln18, ln19, ln20, ln21, ln64, ln120, ln160, ln180, ln255, ln1280, ln21600, hs.1, hs.2.1, v1, jl_0, ci_I, cj_I, ↓reduceIte, Nat.reduceEqDiff, reduceCtorEq, Nat.reduceAdd, Nat.reduceMul, Nat.reduceSub, eq_self_iff_true, true_and, and_true, false_and, and_false, and_self]
    rw [v4 _ (by omega)]
  · unfold k_X7_take
    simp (disch := omega) only [zi_le_t, zi_le_f, zi_lt_t, zi_lt_f, zi_eq_t, zi_eq_f, zi_eq_m, zi_lt_m, zi_le_m, zg_in, zi_T, zi_F, zg_T, zb_S, zo_N, zo_S, zs_D, nI_add, pk_mul, nI_sub2, nI_cl2, eq_self_iff_true, ln0, ln1, ln2, ln3, ln4, ln5, ln6, ln7, ln8, ln9, ln10, ln11, ln12, ln13, ln14, ln15, ln16, ln17, ln18, ln19, ln20, ln21, ln64, ln120, ln160, ln180, ln255, ln1280, ln21600, v3, mi_I, mj_I, ↓reduceIte, Nat.reduceEqDiff, reduceCtorEq, Nat.reduceAdd, Nat.reduceMul, Nat.reduceSub, eq_self_iff_true, true_and, and_true, false_and, and_false, and_self]
  · exact ⟨hs, (hf.ci (by omega) (by omega) _).mi (by omega) _, hh, hd, by rw [ci_I, if_pos ⟨rfl, rfl⟩], by omega, by rw [mi_I, if_pos rfl], fun j hj => v4 j (by omega), v5, v6, v7, v8⟩
theorem CR.port (hp : CP q a b c k o L B C τ0) (hc : CR q a b c k o L B C σ0 τ0 P h w σ τ) {p : Nat} (hp8 : p < 8) (v : Int64) : CR q a b c k o L B C σ0 τ0 P h w (cJ σ a p v) (mJ τ 13 (8 * c + p) v) := by
  obtain ⟨p1, p2, p3, p4, p5, p6, p7, p8, p9, p10, p11⟩ := hp
  obtain ⟨hs, hf, hh, ⟨hd1, hd2⟩, v1, v2, v3, v4, v5, v6, v7, v8⟩ := hc
  refine ⟨hs, (hf.cj (Or.inr (Or.inl rfl)) _ _).mj13 hp8 _, hh, ⟨fun p' hp' => ?_, fun j hj => ?_⟩, v1, v2, v3, fun j hj => ?_, v5, v6, v7, v8⟩
  · rw [cj_J, if_pos rfl, mj_J, if_pos rfl]
    unfold vp_updL
    by_cases e : p' = p
    · rw [if_pos e, if_pos (by omega)]
    · rw [if_neg e, if_neg (by omega)]
      exact hd1 p' hp'
  · rw [cj_J, if_neg (by omega), mj_J, if_neg (by omega)]
    exact hd2 j hj
  · rw [cj_J, if_neg (by omega), mj_J, if_neg (by omega)]
    exact v4 j hj
theorem CR.cell (hp : CP q a b c k o L B C τ0) (hc : CR q a b c k o L B C σ0 τ0 P h w σ τ) {p : Nat} (hp8 : p < 8) (v : Int64) : CR q a b c k o L B C σ0 τ0 P h w (cJ σ b p v) (mJ τ 22 (8 * k + p) v) := by
  obtain ⟨p1, p2, p3, p4, p5, p6, p7, p8, p9, p10, p11⟩ := hp
  obtain ⟨hs, hf, hh, ⟨hd1, hd2⟩, v1, v2, v3, v4, v5, v6, v7, v8⟩ := hc
  refine ⟨hs, (hf.cj (Or.inr (Or.inr rfl)) _ _).mj22 hp8 _, hh, ⟨fun p' hp' => ?_, fun j hj => ?_⟩, v1, v2, v3, fun j hj => ?_, v5, v6, v7, v8⟩
  · rw [cj_J, if_neg (by omega), mj_J, if_neg (by omega)]
    exact hd1 p' hp'
  · rw [cj_J, if_pos rfl, mj_J, if_pos rfl]
    unfold vp_updL
    by_cases e : j = p
    · rw [if_pos e, if_pos (by omega)]
    · rw [if_neg e, if_neg (by omega)]
      exact hd2 j hj
  · rw [cj_J, if_neg (by omega), mj_J, if_neg (by omega)]
    exact v4 j hj
theorem CR.keep (hp : CP q a b c k o L B C τ0) (hc : CR q a b c k o L B C σ0 τ0 P h w σ τ) {p : Nat} (hp8 : p < 8) : CR q a b c k o L B C σ0 τ0 P h w (cI σ 110 0 (nI p)) (mR (mR τ 24 k (nI p)) 25 k (nI C)) := by
  obtain ⟨p1, p2, p3, p4, p5, p6, p7, p8, p9, p10, p11⟩ := hp
  obtain ⟨hs, hf, hh, hd, v1, v2, v3, v4, v5, v6, v7, v8⟩ := hc
  refine ⟨hs, (hf.ci (by omega) (by omega) _).mr (Or.inl rfl) _ |>.mr (Or.inr rfl) _, Or.inr ⟨p, hp8, by rw [ci_I, if_pos ⟨rfl, rfl⟩], ?_, ?_⟩, hd, v1, v2, v3, v4, v5, v6, v7, v8⟩
  · rw [mr_R, if_neg (by omega), mr_R, if_pos rfl]
    unfold upd
    rw [if_pos rfl]
  · rw [mr_R, if_pos rfl]
    unfold upd
    rw [if_pos rfl]
theorem CR.give (hc : CR q a b c k o L B C σ0 τ0 P h w σ τ) {g : Nat} (hg : g < 256) : CE a b c k C σ0 τ0 6 P (cI σ 109 0 (nI g)) (mI τ 30 (nI g)) := by
  obtain ⟨hs, hf, hh, hd, v1, v2, v3, v4, v5, v6, v7, v8⟩ := hc
  exact ⟨(hf.ci (by omega) (by omega) _).mi (by omega) _, hh, hd, v7, g, hg, by rw [ci_I, if_pos ⟨rfl, rfl⟩], fun _ => by rw [mi_I, if_pos rfl], fun z => absurd rfl z⟩
/-- the octets of the code -/
theorem CRs.oct (hs : CRs q a b o L B C σ τ) (hL : L ≤ 255) {j : Nat} (hj : j < L) {n : Nat} (hn : mr τ 7 (o + j) &&& 255 = nI n) : k_X6_octetAt σ q (nI j) = some (nI n, σ) := by
  obtain ⟨s1, s2, s3, s4, s5, s6, s7, s8, s9, s10, s11, s12⟩ := hs
  unfold k_X6_octetAt k_X6_octetAt_b21
  have h1 : cb σ q j &&& nI 255 = nI n := by rw [(s10 j hj).1]; exact hn
  simp (disch := omega) only [zi_le_t, zi_le_f, zi_lt_t, zi_lt_f, zi_eq_t, zi_eq_f, zi_eq_m, zi_lt_m, zi_le_m, zg_in, zi_T, zi_F, zg_T, zb_S, zo_N, zo_S, zs_D, nI_add, pk_mul, nI_sub2, nI_cl2, eq_self_iff_true, ln0, ln1, ln2, ln3, ln4, ln5, ln6, ln7, ln8, ln9, ln10, ln11, ln12, ln13, ln14, ln15, ln16, ln17, ln18, ln19, ln20, ln21, ln64, ln120, ln160, ln180, ln255, ln1280, ln21600, s5, s9, h1]
theorem CRs.octn (hs : CRs q a b o L B C σ τ) (hL : L ≤ 255) {j : Nat} (hj : L ≤ j) (hj2 : j < 2147483648) : k_X6_octetAt σ q (nI j) = some (nI 0, σ) := by
  obtain ⟨s1, s2, s3, s4, s5, s6, s7, s8, s9, s10, s11, s12⟩ := hs
  unfold k_X6_octetAt k_X6_octetAt_b20 k_X6_octetAt_b21
  simp (disch := omega) only [zi_le_t, zi_le_f, zi_lt_t, zi_lt_f, zi_eq_t, zi_eq_f, zi_eq_m, zi_lt_m, zi_le_m, zg_in, zi_T, zi_F, zg_T, zb_S, zo_N, zo_S, zs_D, nI_add, pk_mul, nI_sub2, nI_cl2, eq_self_iff_true, ln0, ln1, ln2, ln3, ln4, ln5, ln6, ln7, ln8, ln9, ln10, ln11, ln12, ln13, ln14, ln15, ln16, ln17, ln18, ln19, ln20, ln21, ln64, ln120, ln160, ln180, ln255, ln1280, ln21600, s5, s9]
theorem e6_num0 {j : Nat} (ha : cv σ 8 0 = true) (hj : j < 16) : k_X6_numberAt σ 0 (nI j) = some (cj σ 0 j, σ) := by
  unfold k_X6_numberAt k_X6_numberAt_b17
  simp (disch := omega) only [jl_0, zi_le_t, zi_le_f, zi_lt_t, zi_lt_f, zi_eq_t, zi_eq_f, zi_eq_m, zi_lt_m, zi_le_m, zg_in, zi_T, zi_F, zg_T, zb_S, zo_N, zo_S, zs_D, nI_add, pk_mul, nI_sub2, nI_cl2, eq_self_iff_true, ln0, ln1, ln2, ln3, ln4, ln5, ln6, ln7, ln8, ln9, ln10, ln11, ln12, ln13, ln14, ln15, ln16, ln17, ln18, ln19, ln20, ln21, ln64, ln120, ln160, ln180, ln255, ln1280, ln21600, ha]
end CALL
