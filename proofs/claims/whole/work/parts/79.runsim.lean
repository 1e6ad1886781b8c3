/-! ===== runnable: both sides ===== -/
theorem wk_congr {n : Nat} {f f' : Nat → Int32} (h : ∀ j, j < n → f j = f' j) : ∀ (k a st ru : Nat), wk n f k a st ru = wk n f' k a st ru
  | 0, _, _, _ => rfl
  | k + 1, a, st, ru => by
    rw [wk_s, wk_s]
    by_cases h1 : a = n
    · rw [if_pos h1, if_pos h1]
    · rw [if_neg h1, if_neg h1]
      by_cases h2 : a + 2 ≤ n
      · have e1 : oc f (a + 1) = oc f' (a + 1) := by unfold oc; rw [h _ (by omega)]
        have e0 : oc f a = oc f' a := by unfold oc; rw [h _ (by omega)]
        rw [e1, e0, wk_congr h k]
      · rw [if_neg (by omega), if_neg (by omega)]
section RUNS
variable {S R B C N : Nat} {E : Nat → Nat} {σ σ' : CS} {τ τ' : MS}
theorem RelA.cu (hA : RelA S R B C E σ τ) {e : Nat} (h : CU e τ τ') (hne : ∀ i, i < R → pl E i ≠ e) : RelA S R B C E σ τ' := by
  obtain ⟨hV, hG, hU, hE, hc, hk⟩ := hA
  obtain ⟨h1, h2, h3⟩ := h
  have mr' : ∀ a j, a ≠ 9 → a ≠ 10 → a ≠ 11 → a ≠ 12 → mr τ' a j = mr τ a j := fun a j q1 q2 q3 q4 => h3 a j (by omega)
  have e4 : ∀ j, mr τ' 4 j = mr τ 4 j := fun j => mr' 4 j (by omega) (by omega) (by omega) (by omega)
  have e7 : ∀ j, mr τ' 7 j = mr τ 7 j := fun j => mr' 7 j (by omega) (by omega) (by omega) (by omega)
  refine ⟨hV, ?_, ?_, ?_, ?_, ?_⟩
  · unfold RG at hG ⊢
    rw [h1]
    exact hG
  · intro j hj
    rw [e4]
    exact hU j hj
  · intro i hi
    have hp := hne i hi
    have g : ∀ a, mr τ' a (pl E i) = mr τ a (pl E i) := fun a => h3 a _ (fun q => hp q.2)
    have hh := hE i hi
    unfold RE RB at hh ⊢
    rw [g 8, g 9, g 10, g 11, g 12, mr' 6 _ (by omega) (by omega) (by omega) (by omega)]
    simp only [e7]
    exact hh
  · intro c hc8
    have hh := hc c hc8
    unfold RC at hh ⊢
    rw [h2, mr' 14 _ (by omega) (by omega) (by omega) (by omega), mr' 15 _ (by omega) (by omega) (by omega) (by omega), mr' 16 _ (by omega) (by omega) (by omega) (by omega), mr' 17 _ (by omega) (by omega) (by omega) (by omega), mr' 18 _ (by omega) (by omega) (by omega) (by omega), mr' 19 _ (by omega) (by omega) (by omega) (by omega), mr' 20 _ (by omega) (by omega) (by omega) (by omega)]
    exact hh
  · intro c i hc8 hi
    have hh := hk c i hc8 hi
    unfold RK RKn RKy at hh ⊢
    rw [h2, mr' 21 _ (by omega) (by omega) (by omega) (by omega), mr' 23 _ (by omega) (by omega) (by omega) (by omega), mr' 24 _ (by omega) (by omega) (by omega) (by omega), mr' 25 _ (by omega) (by omega) (by omega) (by omega)]
    exact hh
theorem RelA.empty (hA : RelA S R B C E σ τ) : RelA 0 R B C E (cI σ 5 0 (nI 0)) (mI τ 3 (nI 0)) := by
  obtain ⟨hV, hG, hU, hE, hc, hk⟩ := hA
  refine ⟨hV, ?_, hU, ?_, ?_, ?_⟩
  · obtain ⟨g1, g2, g3, g4, g5, g6, g7, g8, g9, g10, g11⟩ := hG
    unfold RG
    simp only [ci_I, mi_I, ↓reduceIte, Nat.reduceEqDiff, reduceCtorEq, Nat.reduceAdd, Nat.reduceMul, Nat.reduceSub, eq_self_iff_true, true_and, and_true, false_and, and_false, and_self]
    exact ⟨g1, g2, g3, Nat.zero_le _, g7, g8, g9, g10, g11⟩
  · exact hE
  · exact hc
  · exact hk
/-- what a state of the class is behind an edition kept, told by its parts -/
def KS (σ σ' : CS) (i R' S : Nat) (ed : Nat) (b : Bool) (sp sl rp rl : Nat) : Prop := (∀ f j, ci σ' f j = if f = 5 ∧ j = 0 then nI 0 else if f = 700 ∧ j = i then nI ed else if f = 6 ∧ j = 0 then nI R' else ci σ f j) ∧ (∀ a, cb σ' a = if a = 2 + 3 * i then cb σ 0 else if b = true ∧ a = 3 + 3 * i then (fun j => cb σ 0 (sp + j)) else if a = 4 + 3 * i then (fun j => cb σ 0 (rp + j)) else cb σ a) ∧ (∀ a, cbl σ' a = if a = 2 + 3 * i then S else if b = true ∧ a = 3 + 3 * i then sl else if a = 4 + 3 * i then rl else cbl σ a) ∧ cj σ' = cj σ ∧ (∀ kd j, cv σ' kd j = if kd = 7 ∧ j = i then true else if kd = 9 ∧ j = 2 + 3 * i then true else if kd = 9 ∧ j = 3 + 3 * i then b else if kd = 9 ∧ j = 4 + 3 * i then true else if kd = 9 ∧ j = 1 then false else if kd = 3 ∧ 1 ≤ j then false else cv σ kd j) ∧ ∀ j, cs σ' j = if j = i then b else cs σ j
/-- what a state of the model is behind it -/
def KM (τ τ' : MS) (i R' S e : Nat) (ed : Nat) (b : Bool) (sp sl rp rl : Nat) : Prop := mi τ' 1 = mi τ 1 ∧ mi τ' 2 = mi τ 2 ∧ mi τ' 26 = mi τ 26 ∧ mi τ' 3 = nI 0 ∧ mi τ' 5 = nI R' ∧ mj τ' = mj τ ∧ (∀ a j, a ≠ 6 → a ≠ 7 → a ≠ 8 → j ≠ e → mr τ' a j = mr τ a j) ∧ (∀ a j, a ≠ 6 → a ≠ 7 → a ≠ 8 → a ≠ 9 → a ≠ 10 → a ≠ 11 → a ≠ 12 → mr τ' a j = mr τ a j) ∧ (∀ j, mr τ' 6 j = if j = i + 1 then nI ed else mr τ 6 j) ∧ (∀ j, mr τ' 7 j = if 120 * e ≤ j ∧ j < 120 * e + S then mr τ 4 (j - 120 * e) else mr τ 7 j) ∧ (∀ j, mr τ' 8 j = if j = e then nI S else mr τ 8 j) ∧ mr τ' 11 e = nI rp ∧ mr τ' 12 e = nI rl ∧ ((b = false ∧ mr τ' 9 e = -nI 1) ∨ (b = true ∧ mr τ' 9 e = nI sp ∧ mr τ' 10 e = nI sl))
theorem RelA.keep (hA : RelA S R B C E σ τ) {i ed e R' sp sl rp rl : Nat} {b : Bool} (hi : i < 20) (hR' : (i < R ∧ R' = R) ∨ (i = R ∧ R' = R + 1)) (hed : 1 ≤ ed ∧ ed ≤ 9) (he : e = 9 * i + (ed - 1)) (hne : i < R → ed = E i + 1) (hrl : rp + rl ≤ S) (hsl : b = true → sp + sl ≤ S) (hs : KS σ σ' i R' S ed b sp sl rp rl) (ht : KM τ τ' i R' S e ed b sp sl rp rl) : RelA 0 R' B C (fun x => if x = i then ed else E x) σ' τ' := by
  obtain ⟨hV, hG, hU, hE, hc, hk⟩ := hA
  obtain ⟨g1, g2, g3, g4, g5, g6, g7, g8, g9, g10, g11⟩ := hG
  obtain ⟨s1, s2, s3, s4, s5, s6⟩ := hs
  obtain ⟨t1, t2, t26, t3, t5, tj, ta, tb, t6, t7, t8, t11, t12, t9⟩ := ht
  have hcv0 : ∀ kd j, kd ≠ 7 → kd ≠ 9 → kd ≠ 3 → cv σ' kd j = cv σ kd j := fun kd j a b c => by
    rw [s5, if_neg (fun q => a q.1), if_neg (fun q => b q.1), if_neg (fun q => b q.1), if_neg (fun q => b q.1), if_neg (fun q => b q.1), if_neg (fun q => c q.1)]
  have hcv9 : ∀ j, j ≠ 2 + 3 * i → j ≠ 3 + 3 * i → j ≠ 4 + 3 * i → j ≠ 1 → cv σ' 9 j = cv σ 9 j := fun j a b c d => by
    rw [s5, if_neg (by omega), if_neg (by omega), if_neg (by omega), if_neg (by omega), if_neg (by omega), if_neg (by omega)]
  have hci0 : ∀ f j, f ≠ 5 → f ≠ 6 → f ≠ 700 → ci σ' f j = ci σ f j := fun f j a b c => by
    rw [s1, if_neg (fun q => a q.1), if_neg (fun q => c q.1), if_neg (fun q => b q.1)]
  have hS6 := g6
  obtain ⟨v1, v2, v3, v4, v5, v6, v7, v8, v9, v10, v11, v12, v13, v14⟩ := hV
  refine ⟨?_, ?_, ?_, ?_, ?_, ?_⟩
  · refine ⟨(hcv0 0 0 (by omega) (by omega) (by omega)).trans v1, (hcv0 1 0 (by omega) (by omega) (by omega)).trans v2, (hcv0 2 0 (by omega) (by omega) (by omega)).trans v3, ?_, (hcv9 0 (by omega) (by omega) (by omega) (by omega)).trans v5, ?_, ?_, ?_, ?_, ?_, ?_, ?_, ?_, ?_⟩
    · rw [s5, if_neg (by omega), if_neg (by omega), if_neg (by omega), if_neg (by omega), if_neg (by omega), if_neg (by omega)]
      exact v4
    · have c1 : ¬ (0 = 2 + 3 * i) := by omega
      have c2 : ¬ (b = true ∧ 0 = 3 + 3 * i) := by omega
      have c3 : ¬ (0 = 4 + 3 * i) := by omega
      rw [s3, if_neg c1, if_neg c2, if_neg c3]
      exact v6
    · intro c hc8
      exact ⟨(hcv0 4 c (by omega) (by omega) (by omega)).trans (v7 c hc8).1, (hcv0 5 c (by omega) (by omega) (by omega)).trans (v7 c hc8).2⟩
    · intro a ha
      exact (hcv0 8 a (by omega) (by omega) (by omega)).trans (v8 a ha)
    · intro i' hi'
      by_cases e' : i' = i
      · subst e'
        refine ⟨?_, ?_, ?_, fun hb => ?_⟩
        · rw [s5, if_pos ⟨rfl, rfl⟩]
        · rw [s5, if_neg (by omega), if_pos ⟨rfl, rfl⟩]
        · rw [s5, if_neg (by omega), if_neg (by omega), if_neg (by omega), if_pos ⟨rfl, rfl⟩]
        · rw [s6, if_pos rfl] at hb
          rw [s5, if_neg (by omega), if_neg (by omega), if_pos ⟨rfl, rfl⟩]
          exact hb
      · obtain ⟨w1, w2, w3, w4⟩ := v9 i' (by omega)
        refine ⟨?_, (hcv9 _ (by omega) (by omega) (by omega) (by omega)).trans w2, (hcv9 _ (by omega) (by omega) (by omega) (by omega)).trans w3, fun hb => ?_⟩
        · rw [s5, if_neg (by omega), if_neg (by omega), if_neg (by omega), if_neg (by omega), if_neg (by omega), if_neg (by omega)]
          exact w1
        · rw [s6, if_neg e'] at hb
          exact (hcv9 _ (by omega) (by omega) (by omega) (by omega)).trans (w4 hb)
    · intro i' h1 h2
      rw [s5, if_neg (by omega), if_neg (by omega), if_neg (by omega), if_neg (by omega), if_neg (by omega), if_neg (by omega)]
      exact v10 i' (by omega) h2
    · intro i' h
      exact (hcv0 4 i' (by omega) (by omega) (by omega)).trans (v11 i' h)
    · intro i' h
      exact (hcv0 6 i' (by omega) (by omega) (by omega)).trans (v12 i' h)
    · intro i' h
      rw [s5, if_neg (by omega), if_neg (by omega), if_neg (by omega), if_neg (by omega), if_neg (by omega), if_neg (by omega)]
      exact v13 i' h
    · intro i' h
      exact (hcv0 1 i' (by omega) (by omega) (by omega)).trans (v14 i' h)
  · refine ⟨(hci0 0 0 (by omega) (by omega) (by omega)).trans g1, t1.trans g2, g3, ?_, t3, Nat.zero_le _, ?_, t5, by omega, ?_, t26.trans g11⟩
    · rw [s1, if_pos ⟨rfl, rfl⟩]
    · rw [s1, if_neg (by omega), if_neg (by omega), if_pos ⟨rfl, rfl⟩]
    · rw [hci0 7 0 (by omega) (by omega) (by omega), t2]
      exact g10
  · intro j hj
    have c1 : ¬ (0 = 2 + 3 * i) := by omega
    have c2 : ¬ (b = true ∧ 0 = 3 + 3 * i) := by omega
    have c3 : ¬ (0 = 4 + 3 * i) := by omega
    rw [s2, if_neg c1, if_neg c2, if_neg c3, tb 4 j (by omega) (by omega) (by omega) (by omega) (by omega) (by omega) (by omega)]
    exact hU j hj
  · intro i' hi'
    by_cases e' : i' = i
    · subst e'
      have hpl : pl (fun x => if x = i' then ed else E x) i' = e := by unfold pl; dsimp only; rw [if_pos rfl]; omega
      have hin : ∀ p z, p + z ≤ S → ∀ j, j < z → cb σ 0 (p + j) = mr τ' 7 (120 * e + p + j) ∧ isB (mr τ' 7 (120 * e + p + j)) := fun p z hp j hj => by
        rw [t7, if_pos ⟨by omega, by omega⟩, show 120 * e + p + j - 120 * e = p + j by omega]
        exact hU (p + j) (by omega)
      have d1 : ¬ (3 + 3 * i' = 2 + 3 * i') := by omega
      have d2 : ¬ (4 + 3 * i' = 2 + 3 * i') := by omega
      have d3 : ¬ (b = true ∧ 4 + 3 * i' = 3 + 3 * i') := by omega
      unfold RE
      rw [hpl]
      simp only [if_true]
      refine ⟨hed.1, hed.2, ?_, ?_, S, rp, rl, hS6, ?_, ⟨?_, fun j hj => ?_⟩, t11, t12, hrl, ⟨?_, fun j hj => ?_⟩, ?_⟩
      · rw [s1, if_neg (by omega), if_pos ⟨rfl, rfl⟩]
      · rw [t6, if_pos rfl]
      · rw [t8, if_pos rfl]
      · rw [s3, if_pos rfl]
      · rw [s2, if_pos rfl]
        have := hin 0 S (by omega) j hj
        rw [Nat.zero_add, Nat.add_zero] at this
        exact this
      · rw [s3, if_neg d2, if_neg d3, if_pos rfl]
      · rw [s2, if_neg d2, if_neg d3, if_pos rfl]
        exact hin rp rl hrl j hj
      · rcases t9 with ⟨hb, h9⟩ | ⟨hb, h9, h10⟩
        · exact Or.inl ⟨by rw [s6, if_pos rfl]; exact hb, h9⟩
        · refine Or.inr ⟨by rw [s6, if_pos rfl]; exact hb, sp, sl, h9, h10, hsl hb, ?_, fun j hj => ?_⟩
          · rw [s3, if_neg d1, if_pos ⟨hb, rfl⟩]
          · rw [s2, if_neg d1, if_pos ⟨hb, rfl⟩]
            exact hin sp sl (hsl hb) j hj
    · have hiR : i' < R := by omega
      have hpl : pl (fun x => if x = i then ed else E x) i' = pl E i' := by unfold pl; dsimp only; rw [if_neg e']
      obtain ⟨w1, w2, w3, w4, len, rs, rl', w5, w6, ⟨w7, w8⟩, w9, w10, w11, ⟨w12, w13⟩, w14⟩ := hE i' hiR
      have hpe : pl E i' ≠ e := by unfold pl; omega
      have hfar : ∀ q, q < 120 → ¬ (120 * e ≤ 120 * pl E i' + q ∧ 120 * pl E i' + q < 120 * e + S) := fun q hq => by omega
      have h7 : ∀ q, q < 120 → mr τ' 7 (120 * pl E i' + q) = mr τ 7 (120 * pl E i' + q) := fun q hq => by rw [t7, if_neg (hfar q hq)]
      have r2 : ¬ (2 + 3 * i' = 2 + 3 * i) ∧ ¬ (b = true ∧ 2 + 3 * i' = 3 + 3 * i) ∧ ¬ (2 + 3 * i' = 4 + 3 * i) := ⟨by omega, by omega, by omega⟩
      have r3 : ¬ (3 + 3 * i' = 2 + 3 * i) ∧ ¬ (b = true ∧ 3 + 3 * i' = 3 + 3 * i) ∧ ¬ (3 + 3 * i' = 4 + 3 * i) := ⟨by omega, by omega, by omega⟩
      have r4 : ¬ (4 + 3 * i' = 2 + 3 * i) ∧ ¬ (b = true ∧ 4 + 3 * i' = 3 + 3 * i) ∧ ¬ (4 + 3 * i' = 4 + 3 * i) := ⟨by omega, by omega, by omega⟩
      have q2 : cb σ' (2 + 3 * i') = cb σ (2 + 3 * i') ∧ cbl σ' (2 + 3 * i') = cbl σ (2 + 3 * i') := ⟨by rw [s2, if_neg r2.1, if_neg r2.2.1, if_neg r2.2.2], by rw [s3, if_neg r2.1, if_neg r2.2.1, if_neg r2.2.2]⟩
      have q3 : cb σ' (3 + 3 * i') = cb σ (3 + 3 * i') ∧ cbl σ' (3 + 3 * i') = cbl σ (3 + 3 * i') := ⟨by rw [s2, if_neg r3.1, if_neg r3.2.1, if_neg r3.2.2], by rw [s3, if_neg r3.1, if_neg r3.2.1, if_neg r3.2.2]⟩
      have q4 : cb σ' (4 + 3 * i') = cb σ (4 + 3 * i') ∧ cbl σ' (4 + 3 * i') = cbl σ (4 + 3 * i') := ⟨by rw [s2, if_neg r4.1, if_neg r4.2.1, if_neg r4.2.2], by rw [s3, if_neg r4.1, if_neg r4.2.1, if_neg r4.2.2]⟩
      unfold RE RB
      rw [hpl, q2.1, q2.2, q3.1, q3.2, q4.1, q4.2, t6, if_neg (show ¬ i' + 1 = i + 1 by omega), t8, if_neg hpe, ta 9 _ (by omega) (by omega) (by omega) hpe, ta 10 _ (by omega) (by omega) (by omega) hpe, ta 11 _ (by omega) (by omega) (by omega) hpe, ta 12 _ (by omega) (by omega) (by omega) hpe, s6, if_neg e']
      simp only [if_neg e']
      refine ⟨w1, w2, ?_, w4, len, rs, rl', w5, w6, ⟨w7, fun j hj => ?_⟩, w9, w10, w11, ⟨w12, fun j hj => ?_⟩, ?_⟩
      · rw [s1, if_neg (by omega), if_neg (by omega), if_neg (by omega)]
        exact w3
      · rw [h7 j (by omega)]
        exact w8 j hj
      · rw [Nat.add_assoc, h7 (rs + j) (by omega), ← Nat.add_assoc]
        exact w13 j hj
      · rcases w14 with h | ⟨h1, ss, sl', h2, h3, h4, h5, h6⟩
        · exact Or.inl h
        · refine Or.inr ⟨h1, ss, sl', h2, h3, h4, h5, fun j hj => ?_⟩
          rw [Nat.add_assoc, h7 (ss + j) (by omega), ← Nat.add_assoc]
          exact h6 j hj
  · intro c hc8
    have hh := hc c hc8
    have m : ∀ a j, a ≠ 6 → a ≠ 7 → a ≠ 8 → a ≠ 9 → a ≠ 10 → a ≠ 11 → a ≠ 12 → mr τ' a j = mr τ a j := tb
    unfold RC at hh ⊢
    rw [tj, s4, hci0 402 c (by omega) (by omega) (by omega), hci0 403 c (by omega) (by omega) (by omega), hci0 404 c (by omega) (by omega) (by omega), hci0 405 c (by omega) (by omega) (by omega), hci0 406 c (by omega) (by omega) (by omega), hci0 407 c (by omega) (by omega) (by omega), hci0 408 c (by omega) (by omega) (by omega), m 14 c (by omega) (by omega) (by omega) (by omega) (by omega) (by omega) (by omega), m 15 c (by omega) (by omega) (by omega) (by omega) (by omega) (by omega) (by omega), m 16 c (by omega) (by omega) (by omega) (by omega) (by omega) (by omega) (by omega), m 17 c (by omega) (by omega) (by omega) (by omega) (by omega) (by omega) (by omega), m 18 c (by omega) (by omega) (by omega) (by omega) (by omega) (by omega) (by omega), m 19 c (by omega) (by omega) (by omega) (by omega) (by omega) (by omega) (by omega), m 20 c (by omega) (by omega) (by omega) (by omega) (by omega) (by omega) (by omega)]
    exact hh
  · intro c i' hc8 hi'
    obtain ⟨hh, hq⟩ := hk c i' hc8 hi'
    have m : ∀ a j, a ≠ 6 → a ≠ 7 → a ≠ 8 → a ≠ 9 → a ≠ 10 → a ≠ 11 → a ≠ 12 → mr τ' a j = mr τ a j := tb
    refine ⟨?_, by rw [m 25 _ (by omega) (by omega) (by omega) (by omega) (by omega) (by omega) (by omega)]; exact hq⟩
    rcases hh with ⟨h1, h2, h3⟩ | ⟨k1, k2, k3, k4, k5, k6, k7, k8⟩
    · exact Or.inl ⟨(hcv0 6 _ (by omega) (by omega) (by omega)).trans h1, by rw [m 21 _ (by omega) (by omega) (by omega) (by omega) (by omega) (by omega) (by omega)]; exact h2, by rw [m 24 _ (by omega) (by omega) (by omega) (by omega) (by omega) (by omega) (by omega)]; exact h3⟩
    · refine Or.inr ⟨(hcv0 6 _ (by omega) (by omega) (by omega)).trans k1, (hcv0 8 _ (by omega) (by omega) (by omega)).trans k2, by omega, ?_⟩
      rw [s4, tj, hci0 601 _ (by omega) (by omega) (by omega), hci0 602 _ (by omega) (by omega) (by omega), hci0 603 _ (by omega) (by omega) (by omega), m 21 _ (by omega) (by omega) (by omega) (by omega) (by omega) (by omega) (by omega), m 23 _ (by omega) (by omega) (by omega) (by omega) (by omega) (by omega) (by omega), m 24 _ (by omega) (by omega) (by omega) (by omega) (by omega) (by omega) (by omega)]
      exact ⟨k4, k5, k6, k7, k8⟩
end RUNS
