/-! ===== the model's cut of what lies under way, and its copy ===== -/
/-- only places of starts and runs at e differ -/
def CU (e : Nat) (τ τ' : MS) : Prop := mi τ' = mi τ ∧ mj τ' = mj τ ∧ ∀ a j, ¬ ((a = 9 ∨ a = 10 ∨ a = 11 ∨ a = 12) ∧ j = e) → mr τ' a j = mr τ a j
theorem CU.rfl' {e : Nat} {τ : MS} : CU e τ τ := ⟨rfl, rfl, fun _ _ _ => rfl⟩
theorem CU.trans {e : Nat} {τ τ' τ'' : MS} (h : CU e τ τ') (h' : CU e τ' τ'') : CU e τ τ'' := ⟨h'.1.trans h.1, h'.2.1.trans h.2.1, fun a j q => (h'.2.2 a j q).trans (h.2.2 a j q)⟩
theorem CU.put {e a : Nat} {τ : MS} (v : Int32) (ha : a = 9 ∨ a = 10 ∨ a = 11 ∨ a = 12) : CU e τ (mR τ a e v) := ⟨rfl, rfl, fun a' j q => by
  rw [mr_R]
  by_cases h : a' = a
  · rw [if_pos h, upd]
    rw [if_neg (fun z => q ⟨h ▸ ha, z⟩), h]
  · rw [if_neg h]⟩
def clS (S : Nat) (f : Nat → Int32) (mk k a st st' : Nat) (x x' : Int32) (y y' : Int32) : Prop := (cOf S f mk k a = none ∧ st' = st ∧ x' = x ∧ y' = y) ∨ ∃ p z : Nat, cOf S f mk k a = some (p, z) ∧ st + 1 ≤ st' ∧ p + z ≤ S ∧ (st' ≤ st + 1 → x' = nI p ∧ y' = nI z)
section CUT
variable {e S : Nat} {f : Nat → Int32}
theorem cut_loop (he9 : e < 180) (hS : S ≤ 120) (hB : ∀ j, j < 120 → isB (f j)) : ∀ (k F a st ru : Nat) (τ : MS), S - a < k → k < F → a ≤ S → st ≤ a → ru ≤ a → mi τ 3 = nI S → (∀ j, j < 120 → mr τ 4 j = f j) → ∃ τ' : MS, k_X7_cutUp_l7 (nI e) F τ (nI a) (nI st) (nI ru) = some (nI (rb (wk S f k a st ru)), τ') ∧ CU e τ τ' ∧ ∀ st' ru' : Nat, wk S f k a st ru = some (st', ru') → st ≤ st' ∧ ru ≤ ru' ∧ (st' = 0 → mr τ' 9 e = -nI 1) ∧ (st' ≠ 0 → clS S f 1 k a st st' (mr τ 9 e) (mr τ' 9 e) (mr τ 10 e) (mr τ' 10 e)) ∧ (st' = 0 → cOf S f 1 k a = none) ∧ clS S f 2 k a ru ru' (mr τ 11 e) (mr τ' 11 e) (mr τ 12 e) (mr τ' 12 e) := by
  intro k
  induction k with
  | zero => intro F a st ru τ h1; omega
  | succ k ih =>
    intro F a st ru τ h1 h2 h4 h5 h6 h3 hf
    obtain ⟨F, rfl⟩ : ∃ G, F = G + 1 := ⟨F - 1, by omega⟩
    rw [k_X7_cutUp_l7_s, wk_s]
    unfold k_X7_cutUp_s7 k_X7_cutUp_b150 k_X7_cutUp_b165 k_X7_cutUp_b166 k_X7_cutUp_b72
    have hcz : ∀ mk, (if a < S then (if oc f a = mk then some (a + 2, oc f (a + 1)) else cOf S f mk k (a + 2 + oc f (a + 1))) else none) = cOf S f mk (k + 1) a := fun mk => rfl
    by_cases hae : a = S
    · subst hae
      rw [if_pos rfl]
      have hcn : ∀ mk, cOf a f mk (k + 1) a = none := fun mk => by rw [← hcz, if_neg (Nat.lt_irrefl _)]
      have hend : ∀ τ : MS, zi (nI ru = nI 1) (zi (nI 2 ≤ nI st) (zg (narrow .boolean (.int (nI 0)) = .int (nI 0)) (some (nI 0, τ))) (zg (narrow .boolean (.int (nI 1)) = .int (nI 1)) (some (nI 1, τ)))) (zg (narrow .boolean (.int (nI 0)) = .int (nI 0)) (some (nI 0, τ))) = some (nI (rb (some (st, ru))), τ) := by
        intro τ
        by_cases hr : ru = 1
        · by_cases hs : 2 ≤ st
          · simp (disch := omega) only [zi_le_t, zi_le_f, zi_lt_t, zi_lt_f, zi_eq_t, zi_eq_f, zi_eq_m, zi_lt_m, zi_le_m, zg_in, zi_T, zi_F, zg_T, zb_S, zo_N, zo_S, zs_D, nI_add, pk_mul, nI_sub2, nI_cl2, eq_self_iff_true, ln0, ln1, ln2, ln3, ln4, ln5, ln6, ln7, ln8, ln9, ln10, ln11, ln12, ln13, ln14, ln15, ln16, ln17, ln18, ln19, ln20, ln21, ln64, ln120, ln160, ln180, ln255, ln1280, ln21600, zn0, rb]
            rw [if_neg (by omega)]
          · simp (disch := omega) only [zi_le_t, zi_le_f, zi_lt_t, zi_lt_f, zi_eq_t, zi_eq_f, zi_eq_m, zi_lt_m, zi_le_m, zg_in, zi_T, zi_F, zg_T, zb_S, zo_N, zo_S, zs_D, nI_add, pk_mul, nI_sub2, nI_cl2, eq_self_iff_true, ln0, ln1, ln2, ln3, ln4, ln5, ln6, ln7, ln8, ln9, ln10, ln11, ln12, ln13, ln14, ln15, ln16, ln17, ln18, ln19, ln20, ln21, ln64, ln120, ln160, ln180, ln255, ln1280, ln21600, zn1, rb]
            rw [if_pos ⟨hr, by omega⟩]
        · simp (disch := omega) only [zi_le_t, zi_le_f, zi_lt_t, zi_lt_f, zi_eq_t, zi_eq_f, zi_eq_m, zi_lt_m, zi_le_m, zg_in, zi_T, zi_F, zg_T, zb_S, zo_N, zo_S, zs_D, nI_add, pk_mul, nI_sub2, nI_cl2, eq_self_iff_true, ln0, ln1, ln2, ln3, ln4, ln5, ln6, ln7, ln8, ln9, ln10, ln11, ln12, ln13, ln14, ln15, ln16, ln17, ln18, ln19, ln20, ln21, ln64, ln120, ln160, ln180, ln255, ln1280, ln21600, zn0, zi_eq_f (show ru < 1 ∨ 1 < ru by omega), rb]
          rw [if_neg (by omega)]
      by_cases h0 : st = 0
      · subst h0
        refine ⟨mR τ 9 e (-nI 1), ?_, CU.put _ (Or.inl rfl), fun st' ru' hq => ?_⟩
        · simp (disch := omega) only [zi_le_t, zi_le_f, zi_lt_t, zi_lt_f, zi_eq_t, zi_eq_f, zi_eq_m, zi_lt_m, zi_le_m, zg_in, zi_T, zi_F, zg_T, zb_S, zo_N, zo_S, zs_D, nI_add, pk_mul, nI_sub2, nI_cl2, eq_self_iff_true, ln0, ln1, ln2, ln3, ln4, ln5, ln6, ln7, ln8, ln9, ln10, ln11, ln12, ln13, ln14, ln15, ln16, ln17, ln18, ln19, ln20, ln21, ln64, ln120, ln160, ln180, ln255, ln1280, ln21600, h3]
          first
            | exact hend (mR τ 9 e (-nI 1))
            | (have := hend (mR τ 9 e (-nI 1)); simp (disch := omega) only [zi_le_t, zi_le_f, zi_lt_t, zi_lt_f, zi_eq_t, zi_eq_f, zi_eq_m, zi_lt_m, zi_le_m, zg_in, zi_T, zi_F, zg_T, zb_S, zo_N, zo_S, zs_D, nI_add, pk_mul, nI_sub2, nI_cl2, eq_self_iff_true, ln0, ln1, ln2, ln3, ln4, ln5, ln6, ln7, ln8, ln9, ln10, ln11, ln12, ln13, ln14, ln15, ln16, ln17, ln18, ln19, ln20, ln21, ln64, ln120, ln160, ln180, ln255, ln1280, ln21600] at this; exact this)
        · cases hq
          refine ⟨Nat.le_refl _, Nat.le_refl _, fun _ => ?_, fun q => absurd rfl q, fun _ => hcn 1, Or.inl ⟨hcn 2, rfl, ?_, ?_⟩⟩
          · rw [mr_R, if_pos rfl, upd, if_pos rfl]
          · rw [mr_R, if_neg (by omega)]
          · rw [mr_R, if_neg (by omega)]
      · refine ⟨τ, ?_, CU.rfl', fun st' ru' hq => ?_⟩
        · simp (disch := omega) only [zi_le_t, zi_le_f, zi_lt_t, zi_lt_f, zi_eq_t, zi_eq_f, zi_eq_m, zi_lt_m, zi_le_m, zg_in, zi_T, zi_F, zg_T, zb_S, zo_N, zo_S, zs_D, nI_add, pk_mul, nI_sub2, nI_cl2, eq_self_iff_true, ln0, ln1, ln2, ln3, ln4, ln5, ln6, ln7, ln8, ln9, ln10, ln11, ln12, ln13, ln14, ln15, ln16, ln17, ln18, ln19, ln20, ln21, ln64, ln120, ln160, ln180, ln255, ln1280, ln21600, h3, zi_eq_f (show st < 0 ∨ 0 < st by omega)]
          exact hend τ
        · cases hq
          exact ⟨Nat.le_refl _, Nat.le_refl _, fun q => absurd q h0, fun _ => Or.inl ⟨hcn 1, rfl, rfl, rfl⟩, fun _ => hcn 1, Or.inl ⟨hcn 2, rfl, rfl, rfl⟩⟩
    · rw [if_neg hae]
      have hlt : a < S := by omega
      by_cases hq : S ≤ a + 1
      · refine ⟨τ, ?_, CU.rfl', fun st' ru' hq => ?_⟩
        · simp (disch := omega) only [zi_le_t, zi_le_f, zi_lt_t, zi_lt_f, zi_eq_t, zi_eq_f, zi_eq_m, zi_lt_m, zi_le_m, zg_in, zi_T, zi_F, zg_T, zb_S, zo_N, zo_S, zs_D, nI_add, pk_mul, nI_sub2, nI_cl2, eq_self_iff_true, ln0, ln1, ln2, ln3, ln4, ln5, ln6, ln7, ln8, ln9, ln10, ln11, ln12, ln13, ln14, ln15, ln16, ln17, ln18, ln19, ln20, ln21, ln64, ln120, ln160, ln180, ln255, ln1280, ln21600, h3, zn0]
          rw [if_neg (by omega)]
          rfl
        · rw [if_neg (by omega)] at hq
          cases hq
      · have hf0 : mr τ 4 a = f a := hf a (by omega)
        have hf1 : mr τ 4 (a + 1) = f (a + 1) := hf (a + 1) (by omega)
        have hb1 := oc_nI (f := f) (hB (a + 1) (by omega))
        have hb1' : f (a + 1) &&& nI 255 = nI (oc f (a + 1)) := hb1.1
        have hb2 := hb1.2
        unfold k_X7_cutUp_b129
        have bad : ∀ st' ru' : Nat, ¬ (a + 2 + oc f (a + 1) ≤ S ∧ oc f a ≤ 2) → (if a + 2 + oc f (a + 1) ≤ S ∧ oc f a ≤ 2 then wk S f k (a + 2 + oc f (a + 1)) (st + (if oc f a = 1 then 1 else 0)) (ru + (if oc f a = 2 then 1 else 0)) else none) = some (st', ru') → False := fun st' ru' hn h => by
          rw [if_neg hn] at h
          cases h
        rcases oc_two (hB a (by omega)) with ⟨z, zz⟩ | ⟨z, zz⟩ | ⟨z, zz⟩ | ⟨z, zz⟩
        · by_cases hw : a + 2 + oc f (a + 1) ≤ S
          · obtain ⟨τ', u1, u2, u3⟩ := ih F (a + 2 + oc f (a + 1)) st ru τ (by omega) (by omega) hw (by omega) (by omega) h3 hf
            rw [if_pos ⟨hw, by omega⟩, if_neg (by omega), if_neg (by omega), Nat.add_zero st, Nat.add_zero ru]
            refine ⟨τ', ?_, u2, fun st' ru' hq => ?_⟩
            · simp (disch := omega) only [zi_le_t, zi_le_f, zi_lt_t, zi_lt_f, zi_eq_t, zi_eq_f, zi_eq_m, zi_lt_m, zi_le_m, zg_in, zi_T, zi_F, zg_T, zb_S, zo_N, zo_S, zs_D, nI_add, pk_mul, nI_sub2, nI_cl2, eq_self_iff_true, ln0, ln1, ln2, ln3, ln4, ln5, ln6, ln7, ln8, ln9, ln10, ln11, ln12, ln13, ln14, ln15, ln16, ln17, ln18, ln19, ln20, ln21, ln64, ln120, ln160, ln180, ln255, ln1280, ln21600, h3, hf0, hf1, zz, hb1', e7_in_t, ← Nat.add_assoc, u1]
            · obtain ⟨w1, w2, w3, w4, w5, w6⟩ := u3 st' ru' hq
              refine ⟨w1, w2, w3, fun q => ?_, fun q => ?_, ?_⟩
              · unfold clS; rw [← hcz, if_pos hlt, if_neg (by omega)]; exact w4 q
              · rw [← hcz, if_pos hlt, if_neg (by omega)]; exact w5 q
              · unfold clS; rw [← hcz, if_pos hlt, if_neg (by omega)]; exact w6
          · refine ⟨τ, ?_, CU.rfl', fun st' ru' hq => (bad st' ru' (fun q => hw q.1) hq).elim⟩
            simp (disch := omega) only [zi_le_t, zi_le_f, zi_lt_t, zi_lt_f, zi_eq_t, zi_eq_f, zi_eq_m, zi_lt_m, zi_le_m, zg_in, zi_T, zi_F, zg_T, zb_S, zo_N, zo_S, zs_D, nI_add, pk_mul, nI_sub2, nI_cl2, eq_self_iff_true, ln0, ln1, ln2, ln3, ln4, ln5, ln6, ln7, ln8, ln9, ln10, ln11, ln12, ln13, ln14, ln15, ln16, ln17, ln18, ln19, ln20, ln21, ln64, ln120, ln160, ln180, ln255, ln1280, ln21600, h3, hf0, hf1, zz, hb1', e7_in_t, zn0]
            rw [if_neg (fun q => hw q.1)]
            rfl
        · by_cases hw : a + 2 + oc f (a + 1) ≤ S
          · obtain ⟨τ', u1, u2, u3⟩ := ih F (a + 2 + oc f (a + 1)) (st + 1) ru (mR (mR τ 9 e (nI (a + 2))) 10 e (nI (oc f (a + 1)))) (by omega) (by omega) hw (by omega) (by omega) h3 hf
            rw [if_pos ⟨hw, by omega⟩, if_pos z, if_neg (by omega), Nat.add_zero ru]
            refine ⟨τ', ?_, ((CU.put _ (Or.inl rfl)).trans (CU.put _ (Or.inr (Or.inl rfl)))).trans u2, fun st' ru' hq => ?_⟩
            · simp (disch := omega) only [zi_le_t, zi_le_f, zi_lt_t, zi_lt_f, zi_eq_t, zi_eq_f, zi_eq_m, zi_lt_m, zi_le_m, zg_in, zi_T, zi_F, zg_T, zb_S, zo_N, zo_S, zs_D, nI_add, pk_mul, nI_sub2, nI_cl2, eq_self_iff_true, ln0, ln1, ln2, ln3, ln4, ln5, ln6, ln7, ln8, ln9, ln10, ln11, ln12, ln13, ln14, ln15, ln16, ln17, ln18, ln19, ln20, ln21, ln64, ln120, ln160, ln180, ln255, ln1280, ln21600, h3, hf0, hf1, zz, hb1', e7_in_t, ← Nat.add_assoc, u1]
            · obtain ⟨w1, w2, w3, w4, w5, w6⟩ := u3 st' ru' hq
              have m9 : mr (mR (mR τ 9 e (nI (a + 2))) 10 e (nI (oc f (a + 1)))) 9 e = nI (a + 2) := by rw [mr_R, if_neg (by omega), mr_R, if_pos rfl, upd, if_pos rfl]
              have m10 : mr (mR (mR τ 9 e (nI (a + 2))) 10 e (nI (oc f (a + 1)))) 10 e = nI (oc f (a + 1)) := by rw [mr_R, if_pos rfl, upd, if_pos rfl]
              have m11 : mr (mR (mR τ 9 e (nI (a + 2))) 10 e (nI (oc f (a + 1)))) 11 e = mr τ 11 e := by rw [mr_R, if_neg (by omega), mr_R, if_neg (by omega)]
              have m12 : mr (mR (mR τ 9 e (nI (a + 2))) 10 e (nI (oc f (a + 1)))) 12 e = mr τ 12 e := by rw [mr_R, if_neg (by omega), mr_R, if_neg (by omega)]
              rw [m9, m10] at w4
              rw [m11, m12] at w6
              refine ⟨by omega, w2, w3, fun q => ?_, fun q => absurd q (by omega), ?_⟩
              · refine Or.inr ⟨a + 2, oc f (a + 1), by rw [← hcz, if_pos hlt, if_pos z], by omega, hw, fun hs => ?_⟩
                rcases w4 q with ⟨v1, v2, v3, v4⟩ | ⟨p, y, v1, v2, -⟩
                · exact ⟨v3, v4⟩
                · omega
              · unfold clS; rw [← hcz, if_pos hlt, if_neg (by omega)]; exact w6
          · refine ⟨τ, ?_, CU.rfl', fun st' ru' hq => (bad st' ru' (fun q => hw q.1) hq).elim⟩
            simp (disch := omega) only [zi_le_t, zi_le_f, zi_lt_t, zi_lt_f, zi_eq_t, zi_eq_f, zi_eq_m, zi_lt_m, zi_le_m, zg_in, zi_T, zi_F, zg_T, zb_S, zo_N, zo_S, zs_D, nI_add, pk_mul, nI_sub2, nI_cl2, eq_self_iff_true, ln0, ln1, ln2, ln3, ln4, ln5, ln6, ln7, ln8, ln9, ln10, ln11, ln12, ln13, ln14, ln15, ln16, ln17, ln18, ln19, ln20, ln21, ln64, ln120, ln160, ln180, ln255, ln1280, ln21600, h3, hf0, hf1, zz, hb1', e7_in_t, zn0]
            rw [if_neg (fun q => hw q.1)]
            rfl
        · by_cases hw : a + 2 + oc f (a + 1) ≤ S
          · obtain ⟨τ', u1, u2, u3⟩ := ih F (a + 2 + oc f (a + 1)) st (ru + 1) (mR (mR τ 11 e (nI (a + 2))) 12 e (nI (oc f (a + 1)))) (by omega) (by omega) hw (by omega) (by omega) h3 hf
            rw [if_pos ⟨hw, by omega⟩, if_neg (by omega), if_pos z, Nat.add_zero st]
            refine ⟨τ', ?_, ((CU.put _ (Or.inr (Or.inr (Or.inl rfl)))).trans (CU.put _ (Or.inr (Or.inr (Or.inr rfl))))).trans u2, fun st' ru' hq => ?_⟩
            · simp (disch := omega) only [zi_le_t, zi_le_f, zi_lt_t, zi_lt_f, zi_eq_t, zi_eq_f, zi_eq_m, zi_lt_m, zi_le_m, zg_in, zi_T, zi_F, zg_T, zb_S, zo_N, zo_S, zs_D, nI_add, pk_mul, nI_sub2, nI_cl2, eq_self_iff_true, ln0, ln1, ln2, ln3, ln4, ln5, ln6, ln7, ln8, ln9, ln10, ln11, ln12, ln13, ln14, ln15, ln16, ln17, ln18, ln19, ln20, ln21, ln64, ln120, ln160, ln180, ln255, ln1280, ln21600, h3, hf0, hf1, zz, hb1', e7_in_t, ← Nat.add_assoc, u1]
            · obtain ⟨w1, w2, w3, w4, w5, w6⟩ := u3 st' ru' hq
              have m9 : mr (mR (mR τ 11 e (nI (a + 2))) 12 e (nI (oc f (a + 1)))) 9 e = mr τ 9 e := by rw [mr_R, if_neg (by omega), mr_R, if_neg (by omega)]
              have m10 : mr (mR (mR τ 11 e (nI (a + 2))) 12 e (nI (oc f (a + 1)))) 10 e = mr τ 10 e := by rw [mr_R, if_neg (by omega), mr_R, if_neg (by omega)]
              have m11 : mr (mR (mR τ 11 e (nI (a + 2))) 12 e (nI (oc f (a + 1)))) 11 e = nI (a + 2) := by rw [mr_R, if_neg (by omega), mr_R, if_pos rfl, upd, if_pos rfl]
              have m12 : mr (mR (mR τ 11 e (nI (a + 2))) 12 e (nI (oc f (a + 1)))) 12 e = nI (oc f (a + 1)) := by rw [mr_R, if_pos rfl, upd, if_pos rfl]
              rw [m9, m10] at w4
              rw [m11, m12] at w6
              refine ⟨w1, by omega, w3, fun q => ?_, fun q => ?_, ?_⟩
              · unfold clS; rw [← hcz, if_pos hlt, if_neg (by omega)]; exact w4 q
              · rw [← hcz, if_pos hlt, if_neg (by omega)]; exact w5 q
              · refine Or.inr ⟨a + 2, oc f (a + 1), by rw [← hcz, if_pos hlt, if_pos z], by omega, hw, fun hs => ?_⟩
                rcases w6 with ⟨v1, v2, v3, v4⟩ | ⟨p, y, v1, v2, -⟩
                · exact ⟨v3, v4⟩
                · omega
          · refine ⟨τ, ?_, CU.rfl', fun st' ru' hq => (bad st' ru' (fun q => hw q.1) hq).elim⟩
            simp (disch := omega) only [zi_le_t, zi_le_f, zi_lt_t, zi_lt_f, zi_eq_t, zi_eq_f, zi_eq_m, zi_lt_m, zi_le_m, zg_in, zi_T, zi_F, zg_T, zb_S, zo_N, zo_S, zs_D, nI_add, pk_mul, nI_sub2, nI_cl2, eq_self_iff_true, ln0, ln1, ln2, ln3, ln4, ln5, ln6, ln7, ln8, ln9, ln10, ln11, ln12, ln13, ln14, ln15, ln16, ln17, ln18, ln19, ln20, ln21, ln64, ln120, ln160, ln180, ln255, ln1280, ln21600, h3, hf0, hf1, zz, hb1', e7_in_t, zn0]
            rw [if_neg (fun q => hw q.1)]
            rfl
        · refine ⟨τ, ?_, CU.rfl', fun st' ru' hq => (bad st' ru' (fun q => by omega) hq).elim⟩
          simp (disch := omega) only [zi_le_t, zi_le_f, zi_lt_t, zi_lt_f, zi_eq_t, zi_eq_f, zi_eq_m, zi_lt_m, zi_le_m, zg_in, zi_T, zi_F, zg_T, zb_S, zo_N, zo_S, zs_D, nI_add, pk_mul, nI_sub2, nI_cl2, eq_self_iff_true, ln0, ln1, ln2, ln3, ln4, ln5, ln6, ln7, ln8, ln9, ln10, ln11, ln12, ln13, ln14, ln15, ln16, ln17, ln18, ln19, ln20, ln21, ln64, ln120, ln160, ln180, ln255, ln1280, ln21600, h3, hf0, hf1, e7_in_n zz, zn0]
          rw [if_neg (by omega)]
          rfl
/-- the octets copied: of the files only those of e differ -/
def FR (e S k : Nat) (τ τ' : MS) : Prop := mi τ' = mi τ ∧ mj τ' = mj τ ∧ ∀ a j, mr τ' a j = if a = 7 ∧ 120 * e + k ≤ j ∧ j < 120 * e + S then mr τ 4 (j - 120 * e) else mr τ a j
theorem copy_oct (he9 : e < 180) (hS : S ≤ 120) (x1 x2 x3 x4 : Int32) : ∀ (m F k : Nat) (τ : MS), k + m = S → m < F → mi τ 3 = nI S → (∀ j, j < 120 → isB (mr τ 4 j)) → ∃ (τ' : MS) (K : MS → Int32 → Int32 → Int32 → Int32 → Int32 → Option (Int32 × MS)), k_X7_runnable_l144 x1 F τ x2 x3 x4 (nI e) (nI k) = k_X7_runnable_s144 x1 K τ' x2 x3 x4 (nI e) (nI S) ∧ FR e S k τ τ' := by
  intro m
  induction m with
  | zero =>
    intro F k τ h1 h2 h3 hB
    obtain ⟨F, rfl⟩ : ∃ G, F = G + 1 := ⟨F - 1, by omega⟩
    rw [k_X7_runnable_l144_s, show k = S by omega]
    exact ⟨τ, _, rfl, rfl, rfl, fun a j => by rw [if_neg (by omega)]⟩
  | succ m ih =>
    intro F k τ h1 h2 h3 hB
    obtain ⟨F, rfl⟩ : ∃ G, F = G + 1 := ⟨F - 1, by omega⟩
    have hb := hB k (by omega)
    obtain ⟨τ', K, u1, u2, u3, u4⟩ := ih F (k + 1) (mR τ 7 (120 * e + k) (mr τ 4 k)) (by omega) (by omega) h3 hB
    refine ⟨τ', K, ?_, u2, u3, fun a j => ?_⟩
    · rw [k_X7_runnable_l144_s]
      unfold k_X7_runnable_s144
      simp (disch := omega) only [zi_le_t, zi_le_f, zi_lt_t, zi_lt_f, zi_eq_t, zi_eq_f, zi_eq_m, zi_lt_m, zi_le_m, zg_in, zi_T, zi_F, zg_T, zb_S, zo_N, zo_S, zs_D, nI_add, pk_mul, nI_sub2, nI_cl2, eq_self_iff_true, ln0, ln1, ln2, ln3, ln4, ln5, ln6, ln7, ln8, ln9, ln10, ln11, ln12, ln13, ln14, ln15, ln16, ln17, ln18, ln19, ln20, ln21, ln64, ln120, ln160, ln180, ln255, ln1280, ln21600, h3, isB_nar hb, u1]
      unfold k_X7_runnable_s144
      simp (disch := omega) only [zi_le_t, zi_le_f, zi_lt_t, zi_lt_f, zi_eq_t, zi_eq_f, zi_eq_m, zi_lt_m, zi_le_m, zg_in, zi_T, zi_F, zg_T, zb_S, zo_N, zo_S, zs_D, nI_add, pk_mul, nI_sub2, nI_cl2, eq_self_iff_true, ln0, ln1, ln2, ln3, ln4, ln5, ln6, ln7, ln8, ln9, ln10, ln11, ln12, ln13, ln14, ln15, ln16, ln17, ln18, ln19, ln20, ln21, ln64, ln120, ln160, ln180, ln255, ln1280, ln21600]
    · rw [u4 a j]
      have e4 : ∀ j', mr (mR τ 7 (120 * e + k) (mr τ 4 k)) 4 j' = mr τ 4 j' := fun j' => by rw [mr_R, if_neg (by omega)]
      rw [e4]
      by_cases ha : a = 7
      · subst ha
        have e7 : mr (mR τ 7 (120 * e + k) (mr τ 4 k)) 7 j = if j = 120 * e + k then mr τ 4 k else mr τ 7 j := by rw [mr_R, if_pos rfl, upd]
        rw [e7]
        by_cases hj : j = 120 * e + k
        · have c1 : ¬ (7 = 7 ∧ 120 * e + (k + 1) ≤ j ∧ j < 120 * e + S) := by omega
          have c2 : 7 = 7 ∧ 120 * e + k ≤ j ∧ j < 120 * e + S := ⟨rfl, by omega, by omega⟩
          rw [if_neg c1, if_pos hj, if_pos c2, show j - 120 * e = k by omega]
        · rw [if_neg hj]
          by_cases hr : 120 * e + k ≤ j ∧ j < 120 * e + S
          · have c1 : 7 = 7 ∧ 120 * e + (k + 1) ≤ j ∧ j < 120 * e + S := ⟨rfl, by omega, hr.2⟩
            have c2 : 7 = 7 ∧ 120 * e + k ≤ j ∧ j < 120 * e + S := ⟨rfl, hr⟩
            rw [if_pos c1, if_pos c2]
          · have c1 : ¬ (7 = 7 ∧ 120 * e + (k + 1) ≤ j ∧ j < 120 * e + S) := by omega
            have c2 : ¬ (7 = 7 ∧ 120 * e + k ≤ j ∧ j < 120 * e + S) := by omega
            rw [if_neg c1, if_neg c2]
      · have c1 : ¬ (a = 7 ∧ 120 * e + (k + 1) ≤ j ∧ j < 120 * e + S) := fun q => ha q.1
        have c2 : ¬ (a = 7 ∧ 120 * e + k ≤ j ∧ j < 120 * e + S) := fun q => ha q.1
        rw [if_neg c1, if_neg c2, mr_R, if_neg ha]
end CUT
