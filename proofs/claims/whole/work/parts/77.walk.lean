/-! ===== what lies under way, gone through by members, on both sides ===== -/
/-- starts and runs, where every member lies within and no mark is above 2 -/
def wk (n : Nat) (f : Nat → Int32) : Nat → Nat → Nat → Nat → Option (Nat × Nat)
  | 0, _, _, _ => none
  | k + 1, a, st, ru => if a = n then some (st, ru) else if a + 2 + oc f (a + 1) ≤ n ∧ oc f a ≤ 2 then wk n f k (a + 2 + oc f (a + 1)) (st + (if oc f a = 1 then 1 else 0)) (ru + (if oc f a = 2 then 1 else 0)) else none
def rb : Option (Nat × Nat) → Nat
  | none => 0
  | some q => if q.2 = 1 ∧ q.1 ≤ 1 then 1 else 0
theorem wk_s (n : Nat) (f : Nat → Int32) (k a st ru : Nat) : wk n f (k + 1) a st ru = if a = n then some (st, ru) else if a + 2 + oc f (a + 1) ≤ n ∧ oc f a ≤ 2 then wk n f k (a + 2 + oc f (a + 1)) (st + (if oc f a = 1 then 1 else 0)) (ru + (if oc f a = 2 then 1 else 0)) else none := rfl
theorem wk_ok (n : Nat) (f : Nat → Int32) : ∀ (k a st ru : Nat) (q : Nat × Nat), wk n f k a st ru = some q → okF n f k a
  | 0, _, _, _, _, h => by cases h
  | k + 1, a, st, ru, q, h => by
    rw [wk_s] at h
    by_cases h1 : a = n
    · exact Or.inl h1
    · rw [if_neg h1] at h
      by_cases h2 : a + 2 + oc f (a + 1) ≤ n ∧ oc f a ≤ 2
      · rw [if_pos h2] at h
        exact Or.inr ⟨h2.1, wk_ok n f k _ _ _ q h⟩
      · rw [if_neg h2] at h
        cases h
theorem oc_two {f : Nat → Int32} {i : Nat} (h : isB (f i)) : (oc f i = 0 ∧ f i = nI 0) ∨ (oc f i = 1 ∧ f i = nI 1) ∨ (oc f i = 2 ∧ f i = nI 2) ∨ (2 < oc f i ∧ (f i < nI 0 ∨ nI 2 < f i)) := by
  obtain ⟨k, hk, h1, h2, h3, h4⟩ := isB_of h
  have ho : oc f i = k := by unfold oc; rw [h1, nI_clamp (by omega)]
  rw [ho]
  by_cases hb : k < 128
  · have hx := h3 hb
    rcases Nat.lt_or_ge 2 k with hq | hq
    · exact Or.inr (Or.inr (Or.inr ⟨hq, Or.inr (by rw [hx]; exact nI_lt hq (by omega))⟩))
    · rcases (show k = 0 ∨ k = 1 ∨ k = 2 by omega) with rfl | rfl | rfl
      · exact Or.inl ⟨rfl, hx⟩
      · exact Or.inr (Or.inl ⟨rfl, hx⟩)
      · exact Or.inr (Or.inr (Or.inl ⟨rfl, hx⟩))
  · exact Or.inr (Or.inr (Or.inr ⟨by omega, Or.inl (h4 (by omega))⟩))
section WALK
variable {R : Nat} {σ : CS} {τ : MS}
theorem e6_o0 (hV : RV R σ) (hB : ∀ j, j < 120 → isB (cb σ 0 j)) {i : Nat} (hi : i < 120) : k_X6_octetAt σ 0 (nI i) = some (nI (oc (cb σ 0) i), σ) := by
  have h1 := (oc_nI (f := cb σ 0) (hB i hi)).1
  unfold k_X6_octetAt k_X6_octetAt_b21
  simp (disch := omega) only [zi_le_t, zi_le_f, zi_lt_t, zi_lt_f, zi_eq_t, zi_eq_f, zi_eq_m, zi_lt_m, zi_le_m, zg_in, zi_T, zi_F, zg_T, zb_S, zo_N, zo_S, zs_D, nI_add, pk_mul, nI_sub2, nI_cl2, eq_self_iff_true, ln0, ln1, ln2, ln3, ln4, ln5, ln6, ln7, ln8, ln9, ln10, ln11, ln12, ln13, ln14, ln15, ln16, ln17, ln18, ln19, ln20, ln21, ln64, ln120, ln160, ln180, ln255, ln1280, ln21600, zi_f (nI_pos (n := i) (by omega)), hV.2.2.2.2.1, hV.2.2.2.2.2.1]
  rw [← ln255, h1]
theorem e6_over {S F a st ru : Nat} (hS : S < a) (ha : a < 1000) : k_X6_isRight_l7 0 (nI S) (F + 1) σ (nI st) (nI ru) (nI a) = some (nI 0, σ) := by
  rw [k_X6_isRight_l7_s]
  unfold k_X6_isRight_s7 k_X6_isRight_b103 k_X6_isRight_b104
  simp (disch := omega) only [zi_le_t, zi_le_f, zi_lt_t, zi_lt_f, zi_eq_t, zi_eq_f, zi_eq_m, zi_lt_m, zi_le_m, zg_in, zi_T, zi_F, zg_T, zb_S, zo_N, zo_S, zs_D, nI_add, pk_mul, nI_sub2, nI_cl2, eq_self_iff_true, ln0, ln1, ln2, ln3, ln4, ln5, ln6, ln7, ln8, ln9, ln10, ln11, ln12, ln13, ln14, ln15, ln16, ln17, ln18, ln19, ln20, ln21, ln64, ln120, ln160, ln180, ln255, ln1280, ln21600, zn0]
theorem e6_right (hV : RV R σ) (hB : ∀ j, j < 120 → isB (cb σ 0 j)) {S : Nat} (hS : S ≤ 120) : ∀ (k F a st ru : Nat), S - a < k → k < F → a ≤ S → st ≤ a → ru ≤ a → k_X6_isRight_l7 0 (nI S) F σ (nI st) (nI ru) (nI a) = some (nI (rb (wk S (cb σ 0) k a st ru)), σ) := by
  intro k
  induction k with
  | zero => intro F a st ru h1; omega
  | succ k ih =>
    intro F a st ru h1 h2 h3 h4 h5
    obtain ⟨F, rfl⟩ : ∃ G, F = G + 1 := ⟨F - 1, by omega⟩
    rw [k_X6_isRight_l7_s, wk_s]
    unfold k_X6_isRight_s7 k_X6_isRight_b103 k_X6_isRight_b104 k_X6_isRight_b35
    by_cases he : a = S
    · subst he
      rw [if_pos rfl]
      by_cases hr : ru = 1
      · by_cases hs : 1 < st
        · simp (disch := omega) only [zi_le_t, zi_le_f, zi_lt_t, zi_lt_f, zi_eq_t, zi_eq_f, zi_eq_m, zi_lt_m, zi_le_m, zg_in, zi_T, zi_F, zg_T, zb_S, zo_N, zo_S, zs_D, nI_add, pk_mul, nI_sub2, nI_cl2, eq_self_iff_true, ln0, ln1, ln2, ln3, ln4, ln5, ln6, ln7, ln8, ln9, ln10, ln11, ln12, ln13, ln14, ln15, ln16, ln17, ln18, ln19, ln20, ln21, ln64, ln120, ln160, ln180, ln255, ln1280, ln21600, zn0, rb]
          rw [if_neg (by omega)]
        · simp (disch := omega) only [zi_le_t, zi_le_f, zi_lt_t, zi_lt_f, zi_eq_t, zi_eq_f, zi_eq_m, zi_lt_m, zi_le_m, zg_in, zi_T, zi_F, zg_T, zb_S, zo_N, zo_S, zs_D, nI_add, pk_mul, nI_sub2, nI_cl2, eq_self_iff_true, ln0, ln1, ln2, ln3, ln4, ln5, ln6, ln7, ln8, ln9, ln10, ln11, ln12, ln13, ln14, ln15, ln16, ln17, ln18, ln19, ln20, ln21, ln64, ln120, ln160, ln180, ln255, ln1280, ln21600, zn1, rb]
          rw [if_pos ⟨hr, by omega⟩]
      · simp (disch := omega) only [zi_le_t, zi_le_f, zi_lt_t, zi_lt_f, zi_eq_t, zi_eq_f, zi_eq_m, zi_lt_m, zi_le_m, zg_in, zi_T, zi_F, zg_T, zb_S, zo_N, zo_S, zs_D, nI_add, pk_mul, nI_sub2, nI_cl2, eq_self_iff_true, ln0, ln1, ln2, ln3, ln4, ln5, ln6, ln7, ln8, ln9, ln10, ln11, ln12, ln13, ln14, ln15, ln16, ln17, ln18, ln19, ln20, ln21, ln64, ln120, ln160, ln180, ln255, ln1280, ln21600, zn0, zi_eq_f (show ru < 1 ∨ 1 < ru by omega), rb]
        rw [if_neg (by omega)]
    · rw [if_neg he]
      have ho := e6_o0 hV hB (i := a) (by omega)
      by_cases hq : S < a + 2
      · simp (disch := omega) only [zi_le_t, zi_le_f, zi_lt_t, zi_lt_f, zi_eq_t, zi_eq_f, zi_eq_m, zi_lt_m, zi_le_m, zg_in, zi_T, zi_F, zg_T, zb_S, zo_N, zo_S, zs_D, nI_add, pk_mul, nI_sub2, nI_cl2, eq_self_iff_true, ln0, ln1, ln2, ln3, ln4, ln5, ln6, ln7, ln8, ln9, ln10, ln11, ln12, ln13, ln14, ln15, ln16, ln17, ln18, ln19, ln20, ln21, ln64, ln120, ln160, ln180, ln255, ln1280, ln21600, ho, zn0]
        rw [if_neg (by omega)]
        rfl
      · have hb1 := (oc_nI (f := cb σ 0) (hB (a + 1) (by omega))).2
        have ho1 := e6_o0 hV hB (i := a + 1) (by omega)
        have hnx : ∀ d1 d2, d1 ≤ 1 → d2 ≤ 1 → k_X6_isRight_l7 0 (nI S) F σ (nI (st + d1)) (nI (ru + d2)) (nI (a + (2 + oc (cb σ 0) (a + 1)))) = some (nI (rb (if a + 2 + oc (cb σ 0) (a + 1) ≤ S then wk S (cb σ 0) k (a + 2 + oc (cb σ 0) (a + 1)) (st + d1) (ru + d2) else none)), σ) := by
          intro d1 d2 q1 q2
          rw [show a + (2 + oc (cb σ 0) (a + 1)) = a + 2 + oc (cb σ 0) (a + 1) by omega]
          by_cases hw : a + 2 + oc (cb σ 0) (a + 1) ≤ S
          · rw [if_pos hw]
            exact ih F _ _ _ (by omega) (by omega) hw (by omega) (by omega)
          · rw [if_neg hw]
            obtain ⟨F, rfl⟩ : ∃ G, F = G + 1 := ⟨F - 1, by omega⟩
            exact e6_over (by omega) (by omega)
        unfold k_X6_isRight_b49 k_X6_isRight_b63
        rcases oc_two (hB a (by omega)) with ⟨z, -⟩ | ⟨z, -⟩ | ⟨z, -⟩ | ⟨z, -⟩
        · have hn := hnx 0 0 (by omega) (by omega)
          simp only [Nat.add_zero] at hn
          simp (disch := omega) only [zi_le_t, zi_le_f, zi_lt_t, zi_lt_f, zi_eq_t, zi_eq_f, zi_eq_m, zi_lt_m, zi_le_m, zg_in, zi_T, zi_F, zg_T, zb_S, zo_N, zo_S, zs_D, nI_add, pk_mul, nI_sub2, nI_cl2, eq_self_iff_true, ln0, ln1, ln2, ln3, ln4, ln5, ln6, ln7, ln8, ln9, ln10, ln11, ln12, ln13, ln14, ln15, ln16, ln17, ln18, ln19, ln20, ln21, ln64, ln120, ln160, ln180, ln255, ln1280, ln21600, ho, ho1, z, Nat.add_zero, hn]
          congr 3
          by_cases hw : a + 2 + oc (cb σ 0) (a + 1) ≤ S
          · rw [if_pos hw, if_pos ⟨hw, by omega⟩, if_neg (by omega), if_neg (by omega)]; rfl
          · rw [if_neg hw, if_neg (fun q => hw q.1)]
        · have hn := hnx 1 0 (by omega) (by omega)
          simp only [Nat.add_zero] at hn
          simp (disch := omega) only [zi_le_t, zi_le_f, zi_lt_t, zi_lt_f, zi_eq_t, zi_eq_f, zi_eq_m, zi_lt_m, zi_le_m, zg_in, zi_T, zi_F, zg_T, zb_S, zo_N, zo_S, zs_D, nI_add, pk_mul, nI_sub2, nI_cl2, eq_self_iff_true, ln0, ln1, ln2, ln3, ln4, ln5, ln6, ln7, ln8, ln9, ln10, ln11, ln12, ln13, ln14, ln15, ln16, ln17, ln18, ln19, ln20, ln21, ln64, ln120, ln160, ln180, ln255, ln1280, ln21600, ho, ho1, z, Nat.add_zero, hn]
          congr 3
          by_cases hw : a + 2 + oc (cb σ 0) (a + 1) ≤ S
          · rw [if_pos hw, if_pos ⟨hw, by omega⟩, if_pos trivial, if_neg (by omega)]; rfl
          · rw [if_neg hw, if_neg (fun q => hw q.1)]
        · have hn := hnx 0 1 (by omega) (by omega)
          simp only [Nat.add_zero] at hn
          simp (disch := omega) only [zi_le_t, zi_le_f, zi_lt_t, zi_lt_f, zi_eq_t, zi_eq_f, zi_eq_m, zi_lt_m, zi_le_m, zg_in, zi_T, zi_F, zg_T, zb_S, zo_N, zo_S, zs_D, nI_add, pk_mul, nI_sub2, nI_cl2, eq_self_iff_true, ln0, ln1, ln2, ln3, ln4, ln5, ln6, ln7, ln8, ln9, ln10, ln11, ln12, ln13, ln14, ln15, ln16, ln17, ln18, ln19, ln20, ln21, ln64, ln120, ln160, ln180, ln255, ln1280, ln21600, ho, ho1, z, Nat.add_zero, hn]
          congr 3
          by_cases hw : a + 2 + oc (cb σ 0) (a + 1) ≤ S
          · rw [if_pos hw, if_pos ⟨hw, by omega⟩, if_neg (by omega), if_pos trivial]; rfl
          · rw [if_neg hw, if_neg (fun q => hw q.1)]
        · have hb0 := (oc_nI (f := cb σ 0) (hB a (by omega))).2
          simp (disch := omega) only [zi_le_t, zi_le_f, zi_lt_t, zi_lt_f, zi_eq_t, zi_eq_f, zi_eq_m, zi_lt_m, zi_le_m, zg_in, zi_T, zi_F, zg_T, zb_S, zo_N, zo_S, zs_D, nI_add, pk_mul, nI_sub2, nI_cl2, eq_self_iff_true, ln0, ln1, ln2, ln3, ln4, ln5, ln6, ln7, ln8, ln9, ln10, ln11, ln12, ln13, ln14, ln15, ln16, ln17, ln18, ln19, ln20, ln21, ln64, ln120, ln160, ln180, ln255, ln1280, ln21600, ho, zn0]
          rw [if_neg (by omega)]
          rfl
theorem e7_over {S F a st ru : Nat} (h3 : mi τ 3 = nI S) : k_X7_isRight_l9 (F + 1) τ (nI a) (nI st) (nI ru) (nI 0) = some (nI 0, τ) := by
  rw [k_X7_isRight_l9_s]
  unfold k_X7_isRight_s9 k_X7_isRight_b140 k_X7_isRight_b159 k_X7_isRight_b160
  simp (disch := omega) only [zi_le_t, zi_le_f, zi_lt_t, zi_lt_f, zi_eq_t, zi_eq_f, zi_eq_m, zi_lt_m, zi_le_m, zg_in, zi_T, zi_F, zg_T, zb_S, zo_N, zo_S, zs_D, nI_add, pk_mul, nI_sub2, nI_cl2, eq_self_iff_true, ln0, ln1, ln2, ln3, ln4, ln5, ln6, ln7, ln8, ln9, ln10, ln11, ln12, ln13, ln14, ln15, ln16, ln17, ln18, ln19, ln20, ln21, ln64, ln120, ln160, ln180, ln255, ln1280, ln21600, zn0]
theorem e7_right {S : Nat} (h3 : mi τ 3 = nI S) (hB : ∀ j, j < 120 → isB (mr τ 4 j)) (hS : S ≤ 120) : ∀ (k F a st ru : Nat), S - a < k → k < F → a ≤ S → st ≤ a → ru ≤ a → k_X7_isRight_l9 F τ (nI a) (nI st) (nI ru) (nI 1) = some (nI (rb (wk S (mr τ 4) k a st ru)), τ) := by
  intro k
  induction k with
  | zero => intro F a st ru h1; omega
  | succ k ih =>
    intro F a st ru h1 h2 h4 h5 h6
    obtain ⟨F, rfl⟩ : ∃ G, F = G + 1 := ⟨F - 1, by omega⟩
    obtain ⟨F, rfl⟩ : ∃ G, F = G + 1 := ⟨F - 1, by omega⟩
    rw [k_X7_isRight_l9_s, wk_s]
    unfold k_X7_isRight_s9 k_X7_isRight_b140 k_X7_isRight_b159 k_X7_isRight_b160 k_X7_isRight_b73
    by_cases he : a = S
    · subst he
      rw [if_pos rfl]
      by_cases hr : ru = 1
      · by_cases hs : 2 ≤ st
        · simp (disch := omega) only [zi_le_t, zi_le_f, zi_lt_t, zi_lt_f, zi_eq_t, zi_eq_f, zi_eq_m, zi_lt_m, zi_le_m, zg_in, zi_T, zi_F, zg_T, zb_S, zo_N, zo_S, zs_D, nI_add, pk_mul, nI_sub2, nI_cl2, eq_self_iff_true, ln0, ln1, ln2, ln3, ln4, ln5, ln6, ln7, ln8, ln9, ln10, ln11, ln12, ln13, ln14, ln15, ln16, ln17, ln18, ln19, ln20, ln21, ln64, ln120, ln160, ln180, ln255, ln1280, ln21600, h3, zn0, rb]
          rw [if_neg (by omega)]
        · simp (disch := omega) only [zi_le_t, zi_le_f, zi_lt_t, zi_lt_f, zi_eq_t, zi_eq_f, zi_eq_m, zi_lt_m, zi_le_m, zg_in, zi_T, zi_F, zg_T, zb_S, zo_N, zo_S, zs_D, nI_add, pk_mul, nI_sub2, nI_cl2, eq_self_iff_true, ln0, ln1, ln2, ln3, ln4, ln5, ln6, ln7, ln8, ln9, ln10, ln11, ln12, ln13, ln14, ln15, ln16, ln17, ln18, ln19, ln20, ln21, ln64, ln120, ln160, ln180, ln255, ln1280, ln21600, h3, zn1, rb]
          rw [if_pos ⟨hr, by omega⟩]
      · simp (disch := omega) only [zi_le_t, zi_le_f, zi_lt_t, zi_lt_f, zi_eq_t, zi_eq_f, zi_eq_m, zi_lt_m, zi_le_m, zg_in, zi_T, zi_F, zg_T, zb_S, zo_N, zo_S, zs_D, nI_add, pk_mul, nI_sub2, nI_cl2, eq_self_iff_true, ln0, ln1, ln2, ln3, ln4, ln5, ln6, ln7, ln8, ln9, ln10, ln11, ln12, ln13, ln14, ln15, ln16, ln17, ln18, ln19, ln20, ln21, ln64, ln120, ln160, ln180, ln255, ln1280, ln21600, h3, zn0, zi_eq_f (show ru < 1 ∨ 1 < ru by omega), rb]
        rw [if_neg (by omega)]
    · rw [if_neg he]
      have hov := fun a => e7_over (F := F) (a := a) (st := st) (ru := ru) h3
      unfold k_X7_isRight_b74
      by_cases hq : S ≤ a + 1
      · simp (disch := omega) only [zi_le_t, zi_le_f, zi_lt_t, zi_lt_f, zi_eq_t, zi_eq_f, zi_eq_m, zi_lt_m, zi_le_m, zg_in, zi_T, zi_F, zg_T, zb_S, zo_N, zo_S, zs_D, nI_add, pk_mul, nI_sub2, nI_cl2, eq_self_iff_true, ln0, ln1, ln2, ln3, ln4, ln5, ln6, ln7, ln8, ln9, ln10, ln11, ln12, ln13, ln14, ln15, ln16, ln17, ln18, ln19, ln20, ln21, ln64, ln120, ln160, ln180, ln255, ln1280, ln21600, h3, hov]
        rw [if_neg (by omega)]
        rfl
      · have hb1 := oc_nI (f := mr τ 4) (hB (a + 1) (by omega))
        have hb1' : mr τ 4 (a + 1) &&& nI 255 = nI (oc (mr τ 4) (a + 1)) := hb1.1
        have hb2 := hb1.2
        unfold k_X7_isRight_b100 k_X7_isRight_b118
        by_cases hw : a + 2 + oc (mr τ 4) (a + 1) ≤ S
        · have hih := fun d1 d2 (q1 : d1 ≤ 1) (q2 : d2 ≤ 1) => ih (F + 1) (a + 2 + oc (mr τ 4) (a + 1)) (st + d1) (ru + d2) (by omega) (by omega) hw (by omega) (by omega)
          rcases oc_two (hB a (by omega)) with ⟨z, zz⟩ | ⟨z, zz⟩ | ⟨z, zz⟩ | ⟨z, zz⟩
          · have hn := hih 0 0 (by omega) (by omega)
            simp only [Nat.add_zero] at hn
            simp (disch := omega) only [zi_le_t, zi_le_f, zi_lt_t, zi_lt_f, zi_eq_t, zi_eq_f, zi_eq_m, zi_lt_m, zi_le_m, zg_in, zi_T, zi_F, zg_T, zb_S, zo_N, zo_S, zs_D, nI_add, pk_mul, nI_sub2, nI_cl2, eq_self_iff_true, ln0, ln1, ln2, ln3, ln4, ln5, ln6, ln7, ln8, ln9, ln10, ln11, ln12, ln13, ln14, ln15, ln16, ln17, ln18, ln19, ln20, ln21, ln64, ln120, ln160, ln180, ln255, ln1280, ln21600, h3, zz, hb1', e7_in_t, Nat.add_zero, ← Nat.add_assoc, hn]
            rw [if_pos ⟨hw, by omega⟩, if_neg (by omega), if_neg (by omega)]; rfl
          · have hn := hih 1 0 (by omega) (by omega)
            simp only [Nat.add_zero] at hn
            simp (disch := omega) only [zi_le_t, zi_le_f, zi_lt_t, zi_lt_f, zi_eq_t, zi_eq_f, zi_eq_m, zi_lt_m, zi_le_m, zg_in, zi_T, zi_F, zg_T, zb_S, zo_N, zo_S, zs_D, nI_add, pk_mul, nI_sub2, nI_cl2, eq_self_iff_true, ln0, ln1, ln2, ln3, ln4, ln5, ln6, ln7, ln8, ln9, ln10, ln11, ln12, ln13, ln14, ln15, ln16, ln17, ln18, ln19, ln20, ln21, ln64, ln120, ln160, ln180, ln255, ln1280, ln21600, h3, zz, hb1', e7_in_t, Nat.add_zero, ← Nat.add_assoc, hn]
            rw [if_pos ⟨hw, by omega⟩, if_pos z, if_neg (by omega)]; rfl
          · have hn := hih 0 1 (by omega) (by omega)
            simp only [Nat.add_zero] at hn
            simp (disch := omega) only [zi_le_t, zi_le_f, zi_lt_t, zi_lt_f, zi_eq_t, zi_eq_f, zi_eq_m, zi_lt_m, zi_le_m, zg_in, zi_T, zi_F, zg_T, zb_S, zo_N, zo_S, zs_D, nI_add, pk_mul, nI_sub2, nI_cl2, eq_self_iff_true, ln0, ln1, ln2, ln3, ln4, ln5, ln6, ln7, ln8, ln9, ln10, ln11, ln12, ln13, ln14, ln15, ln16, ln17, ln18, ln19, ln20, ln21, ln64, ln120, ln160, ln180, ln255, ln1280, ln21600, h3, zz, hb1', e7_in_t, Nat.add_zero, ← Nat.add_assoc, hn]
            rw [if_pos ⟨hw, by omega⟩, if_neg (by omega), if_pos z]; rfl
          · simp (disch := omega) only [zi_le_t, zi_le_f, zi_lt_t, zi_lt_f, zi_eq_t, zi_eq_f, zi_eq_m, zi_lt_m, zi_le_m, zg_in, zi_T, zi_F, zg_T, zb_S, zo_N, zo_S, zs_D, nI_add, pk_mul, nI_sub2, nI_cl2, eq_self_iff_true, ln0, ln1, ln2, ln3, ln4, ln5, ln6, ln7, ln8, ln9, ln10, ln11, ln12, ln13, ln14, ln15, ln16, ln17, ln18, ln19, ln20, ln21, ln64, ln120, ln160, ln180, ln255, ln1280, ln21600, h3, e7_in_n zz, hov]
            rw [if_neg (by omega)]
            rfl
        · rw [if_neg (fun q => hw q.1)]
          rcases oc_two (hB a (by omega)) with ⟨z, zz⟩ | ⟨z, zz⟩ | ⟨z, zz⟩ | ⟨z, zz⟩
          · simp (disch := omega) only [zi_le_t, zi_le_f, zi_lt_t, zi_lt_f, zi_eq_t, zi_eq_f, zi_eq_m, zi_lt_m, zi_le_m, zg_in, zi_T, zi_F, zg_T, zb_S, zo_N, zo_S, zs_D, nI_add, pk_mul, nI_sub2, nI_cl2, eq_self_iff_true, ln0, ln1, ln2, ln3, ln4, ln5, ln6, ln7, ln8, ln9, ln10, ln11, ln12, ln13, ln14, ln15, ln16, ln17, ln18, ln19, ln20, ln21, ln64, ln120, ln160, ln180, ln255, ln1280, ln21600, h3, zz, hb1', e7_in_t, hov, rb]
          · simp (disch := omega) only [zi_le_t, zi_le_f, zi_lt_t, zi_lt_f, zi_eq_t, zi_eq_f, zi_eq_m, zi_lt_m, zi_le_m, zg_in, zi_T, zi_F, zg_T, zb_S, zo_N, zo_S, zs_D, nI_add, pk_mul, nI_sub2, nI_cl2, eq_self_iff_true, ln0, ln1, ln2, ln3, ln4, ln5, ln6, ln7, ln8, ln9, ln10, ln11, ln12, ln13, ln14, ln15, ln16, ln17, ln18, ln19, ln20, ln21, ln64, ln120, ln160, ln180, ln255, ln1280, ln21600, h3, zz, hb1', e7_in_t, hov, rb]
          · simp (disch := omega) only [zi_le_t, zi_le_f, zi_lt_t, zi_lt_f, zi_eq_t, zi_eq_f, zi_eq_m, zi_lt_m, zi_le_m, zg_in, zi_T, zi_F, zg_T, zb_S, zo_N, zo_S, zs_D, nI_add, pk_mul, nI_sub2, nI_cl2, eq_self_iff_true, ln0, ln1, ln2, ln3, ln4, ln5, ln6, ln7, ln8, ln9, ln10, ln11, ln12, ln13, ln14, ln15, ln16, ln17, ln18, ln19, ln20, ln21, ln64, ln120, ln160, ln180, ln255, ln1280, ln21600, h3, zz, hb1', e7_in_t, hov, rb]
          · simp (disch := omega) only [zi_le_t, zi_le_f, zi_lt_t, zi_lt_f, zi_eq_t, zi_eq_f, zi_eq_m, zi_lt_m, zi_le_m, zg_in, zi_T, zi_F, zg_T, zb_S, zo_N, zo_S, zs_D, nI_add, pk_mul, nI_sub2, nI_cl2, eq_self_iff_true, ln0, ln1, ln2, ln3, ln4, ln5, ln6, ln7, ln8, ln9, ln10, ln11, ln12, ln13, ln14, ln15, ln16, ln17, ln18, ln19, ln20, ln21, ln64, ln120, ln160, ln180, ln255, ln1280, ln21600, h3, e7_in_n zz, hov, rb]
end WALK
