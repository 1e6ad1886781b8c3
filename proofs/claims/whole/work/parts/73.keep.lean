/-! ===== an edition kept: the worlds before and behind ===== -/
theorem at_ints {D : va_G} {H : Heap} {a : Nat} {cA : ClassId} {n : Nat} {f f' : Nat → Int32} (h : ∀ j, j < n → f j = f' j) (h0 : va_at D vwCl (a, .inl (cA, n, .inl f)) H) : va_at D vwCl (a, .inl (cA, n, .inl f')) H := by
  have h1 : H[a]? = some (vp_cell cA (n, .inl f)) := h0
  show H[a]? = some (vp_cell cA (n, .inl f'))
  rw [h1]
  show some (arrV cA n (fun j => .int (f j))) = some (arrV cA n (fun j => .int (f' j)))
  unfold arrV
  congr 2
  congr 1
  funext j
  show Value.int (f j.val) = Value.int (f' j.val)
  rw [h j.val j.isLt]
/-- what a state is with an edition kept: its number, its octets, its start if b, its run -/
def cKp (σ : CS) (i : Nat) (num : Int32) (len : Nat) (b : Bool) (sp sl rp rl : Nat) : CS := (fun f j => if f = 700 ∧ j = i then num else σ.1 f j, fun a => if a = 2 + 3 * i then σ.2.1 0 else if b = true ∧ a = 3 + 3 * i then (fun j => σ.2.1 0 (sp + j)) else if a = 4 + 3 * i then (fun j => σ.2.1 0 (rp + j)) else σ.2.1 a, fun a => if a = 2 + 3 * i then len else if b = true ∧ a = 3 + 3 * i then sl else if a = 4 + 3 * i then rl else σ.2.2.1 a, σ.2.2.2.1, fun kd j => if kd = 7 ∧ j = i then true else if kd = 9 ∧ j = 2 + 3 * i then true else if kd = 9 ∧ j = 3 + 3 * i then b else if kd = 9 ∧ j = 4 + 3 * i then true else if kd = 9 ∧ j = 1 then false else if kd = 3 ∧ 1 ≤ j then false else σ.2.2.2.2.1 kd j, fun j => if j = i then b else σ.2.2.2.2.2.1 j, fun r => if r = 3 then 1 else σ.2.2.2.2.2.2 r)
section KPD
variable (σ : CS) (i : Nat) (num : Int32) (len : Nat) (b : Bool) (sp sl rp rl : Nat)
theorem ci_K (f j : Nat) : ci (cKp σ i num len b sp sl rp rl) f j = if f = 700 ∧ j = i then num else ci σ f j := rfl
theorem cb_K (a : Nat) : cb (cKp σ i num len b sp sl rp rl) a = if a = 2 + 3 * i then cb σ 0 else if b = true ∧ a = 3 + 3 * i then (fun j => cb σ 0 (sp + j)) else if a = 4 + 3 * i then (fun j => cb σ 0 (rp + j)) else cb σ a := rfl
theorem cbl_K (a : Nat) : cbl (cKp σ i num len b sp sl rp rl) a = if a = 2 + 3 * i then len else if b = true ∧ a = 3 + 3 * i then sl else if a = 4 + 3 * i then rl else cbl σ a := rfl
theorem cj_K : cj (cKp σ i num len b sp sl rp rl) = cj σ := rfl
theorem cv_K (kd j : Nat) : cv (cKp σ i num len b sp sl rp rl) kd j = if kd = 7 ∧ j = i then true else if kd = 9 ∧ j = 2 + 3 * i then true else if kd = 9 ∧ j = 3 + 3 * i then b else if kd = 9 ∧ j = 4 + 3 * i then true else if kd = 9 ∧ j = 1 then false else if kd = 3 ∧ 1 ≤ j then false else cv σ kd j := rfl
theorem cs_K (j : Nat) : cs (cKp σ i num len b sp sl rp rl) j = if j = i then b else cs σ j := rfl
theorem cr_K (r : Nat) : cr (cKp σ i num len b sp sl rp rl) r = if r = 3 then 1 else cr σ r := rfl
end KPD
/-- the addresses behind it: the edition te, its rows the temporaries 0, ts, tr -/
def adK (ad : Nat × Nat → Nat) (σ : CS) (i ts tr te : Nat) : Nat × Nat → Nat := fun g => if g = (7, i) then ad (10, te) else if g = (9, 2 + 3 * i) then ad (10, 0) else if g = (9, 3 + 3 * i) then ad (10, ts) else if g = (9, 4 + 3 * i) then ad (10, tr) else if g = (9, 1) then ad (9, cr σ 3) else ad g
theorem adK_n {ad : Nat × Nat → Nat} {σ : CS} {i ts tr te kd j : Nat} (h7 : ¬ (kd = 7 ∧ j = i)) (h9 : ¬ (kd = 9 ∧ (j = 2 + 3 * i ∨ j = 3 + 3 * i ∨ j = 4 + 3 * i ∨ j = 1))) : adK ad σ i ts tr te (kd, j) = ad (kd, j) := by
  unfold adK
  rw [if_neg (fun q => h7 (Prod.mk.inj q)), if_neg (fun q => h9 ⟨(Prod.mk.inj q).1, Or.inl (Prod.mk.inj q).2⟩), if_neg (fun q => h9 ⟨(Prod.mk.inj q).1, Or.inr (Or.inl (Prod.mk.inj q).2)⟩), if_neg (fun q => h9 ⟨(Prod.mk.inj q).1, Or.inr (Or.inr (Or.inl (Prod.mk.inj q).2))⟩), if_neg (fun q => h9 ⟨(Prod.mk.inj q).1, Or.inr (Or.inr (Or.inr (Prod.mk.inj q).2))⟩)]
theorem adK_2 (ad : Nat × Nat → Nat) (σ : CS) (i ts tr te : Nat) : adK ad σ i ts tr te (9, 2 + 3 * i) = ad (10, 0) := by
  unfold adK
  rw [if_neg (fun q => by have := (Prod.mk.inj q).1; omega), if_pos rfl]
theorem adK_3 (ad : Nat × Nat → Nat) (σ : CS) (i ts tr te : Nat) : adK ad σ i ts tr te (9, 3 + 3 * i) = ad (10, ts) := by
  unfold adK
  rw [if_neg (fun q => by have := (Prod.mk.inj q).1; omega), if_neg (fun q => by have := (Prod.mk.inj q).2; omega), if_pos rfl]
theorem adK_4 (ad : Nat × Nat → Nat) (σ : CS) (i ts tr te : Nat) : adK ad σ i ts tr te (9, 4 + 3 * i) = ad (10, tr) := by
  unfold adK
  rw [if_neg (fun q => by have := (Prod.mk.inj q).1; omega), if_neg (fun q => by have := (Prod.mk.inj q).2; omega), if_neg (fun q => by have := (Prod.mk.inj q).2; omega), if_pos rfl]
theorem adK_1 (ad : Nat × Nat → Nat) (σ : CS) (i ts tr te : Nat) : adK ad σ i ts tr te (9, 1) = ad (9, cr σ 3) := by
  unfold adK
  rw [if_neg (fun q => by have := (Prod.mk.inj q).1; omega), if_neg (fun q => by have := (Prod.mk.inj q).2; omega), if_neg (fun q => by have := (Prod.mk.inj q).2; omega), if_neg (fun q => by have := (Prod.mk.inj q).2; omega), if_pos rfl]
theorem adK_7 (ad : Nat × Nat → Nat) (σ : CS) (i ts tr te : Nat) : adK ad σ i ts tr te (7, i) = ad (10, te) := by
  unfold adK
  rw [if_pos rfl]
theorem keep_ent {cy : Nat → ClassId} {ad : Nat × Nat → Nat} {σ : CS} {i len sp sl rp rl ts tr te : Nat} {num : Int32} {b : Bool} (h1v : ∀ j, 1 ≤ j → cv σ 1 j = false) {kd j : Nat} (hv : cv σ kd j = true) (h3 : kd ≠ 3) (h7 : ¬ (kd = 7 ∧ j = i)) (h9 : ¬ (kd = 9 ∧ (j = 2 + 3 * i ∨ j = 3 + 3 * i ∨ j = 4 + 3 * i ∨ j = 1))) : cE cy (adK ad σ i ts tr te) (cKp σ i num len b sp sl rp rl) kd j = cE cy ad σ kd j := by
  have an : ∀ kd j, ¬ (kd = 7 ∧ j = i) → ¬ (kd = 9 ∧ (j = 2 + 3 * i ∨ j = 3 + 3 * i ∨ j = 4 + 3 * i ∨ j = 1)) → adK ad σ i ts tr te (kd, j) = ad (kd, j) := fun kd j a b => adK_n a b
  have co' : ∀ kd j, kd ≠ 7 → kd ≠ 9 → kd ≠ 3 → co (cKp σ i num len b sp sl rp rl) kd j = co σ kd j := fun kd j a b' c' => by
    have h : cv (cKp σ i num len b sp sl rp rl) kd j = cv σ kd j := by rw [cv_K, if_neg (fun q => a q.1), if_neg (fun q => b' q.1), if_neg (fun q => b' q.1), if_neg (fun q => b' q.1), if_neg (fun q => b' q.1), if_neg (fun q => c' q.1)]
    unfold co
    rw [h]
  have ci' : ∀ f j, f ≠ 700 → ci (cKp σ i num len b sp sl rp rl) f j = ci σ f j := fun f j a => by rw [ci_K, if_neg (fun q => a q.1)]
  match kd, hv, h3, h7, h9 with
  | 0, hv, _, _, _ =>
    simp only [cE, cF0]
    rw [ci' 0 _ (by omega), ci' 5 _ (by omega), ci' 6 _ (by omega), ci' 7 _ (by omega), an 2 0 (by omega) (by omega), an 3 0 (by omega) (by omega), an 1 0 (by omega) (by omega), an 9 0 (by omega) (by omega)]
  | 1, hv, _, _, _ =>
    have hi : j = 0 := by
      rcases Nat.eq_zero_or_pos j with h | h
      · exact h
      · rw [h1v j h] at hv
        exact absurd hv (by decide)
    subst hi
    simp only [cE, cF1]
    rw [ci' 106 _ (by omega), ci' 107 _ (by omega), ci' 108 _ (by omega), ci' 109 _ (by omega), ci' 110 _ (by omega), an 8 0 (by omega) (by omega), an 8 1 (by omega) (by omega), an 8 2 (by omega) (by omega)]
    simp only [cr_K, ↓reduceIte, Nat.reduceEqDiff, reduceCtorEq, Nat.reduceAdd, Nat.reduceMul, Nat.reduceSub, eq_self_iff_true, true_and, and_true, false_and, and_false, and_self]
    rw [adK_1, an 8 _ (by omega) (by omega), an 8 _ (by omega) (by omega)]
  | 2, hv, _, _, _ =>
    have : (fun j => (co (cKp σ i num len b sp sl rp rl) 4 j).map (fun i' => adK ad σ i ts tr te (4, i'))) = fun j => (co σ 4 j).map (fun i => ad (4, i)) := by
      funext j
      rw [co' 4 j (by omega) (by omega) (by omega)]
      exact congrArg (fun h => Option.map h _) (funext fun z => an 4 z (by omega) (by omega))
    simp only [cE]
    rw [this]
  | 4, hv, _, _, _ =>
    simp only [cE, cF4]
    rw [ci' 402 _ (by omega), ci' 403 _ (by omega), ci' 404 _ (by omega), ci' 405 _ (by omega), ci' 406 _ (by omega), ci' 407 _ (by omega), ci' 408 _ (by omega), an 8 _ (by omega) (by omega), an 5 _ (by omega) (by omega)]
  | 5, hv, _, _, _ =>
    have : (fun j' => (co (cKp σ i num len b sp sl rp rl) 6 (20 * j + j')).map (fun i' => adK ad σ i ts tr te (6, i'))) = fun j' => (co σ 6 (20 * j + j')).map (fun i => ad (6, i)) := by
      funext j'
      rw [co' 6 _ (by omega) (by omega) (by omega)]
      exact congrArg (fun h => Option.map h _) (funext fun z => an 6 z (by omega) (by omega))
    simp only [cE]
    rw [this]
  | 6, hv, _, _, _ =>
    simp only [cE, cF6]
    rw [ci' 601 _ (by omega), ci' 602 _ (by omega), ci' 603 _ (by omega), an 8 _ (by omega) (by omega)]
  | 7, hv, _, h7, _ =>
    have hj : ¬ j = i := fun q => h7 ⟨rfl, q⟩
    simp only [cE, cF7]
    rw [ci_K, if_neg (fun q => hj q.2), cs_K, if_neg hj, an 9 (2 + 3 * j) (by omega) (by omega), an 9 (4 + 3 * j) (by omega) (by omega)]
    have : (fun i' => adK ad σ i ts tr te (9, i')) (3 + 3 * j) = (fun i' => ad (9, i')) (3 + 3 * j) := an 9 (3 + 3 * j) (by omega) (by omega)
    cases hcs : cs σ j with
    | true => simp only [if_true, rn, Option.map_some]; rw [an 9 (3 + 3 * j) (by omega) (by omega)]
    | false => rfl
  | 8, hv, _, _, _ => simp only [cE, cj_K]
  | 9, hv, _, _, h9 =>
    simp only [cE]
    rw [cb_K, cbl_K, if_neg (by omega), if_neg (by omega), if_neg (by omega), if_neg (by omega), if_neg (by omega), if_neg (by omega)]
  | k + 10, hv, _, _, _ => rfl
def rhoK (i ts tr te : Nat) (g : Nat × Nat) : Nat × Nat := if g = (7, i) then (10, te) else if g = (9, 2 + 3 * i) then (10, 0) else if g = (9, 3 + 3 * i) then (10, ts) else if g = (9, 4 + 3 * i) then (10, tr) else g
theorem rho_cases (i ts tr te : Nat) (g : Nat × Nat) : (g = (7, i) ∧ rhoK i ts tr te g = (10, te)) ∨ (g = (9, 2 + 3 * i) ∧ rhoK i ts tr te g = (10, 0)) ∨ (g = (9, 3 + 3 * i) ∧ rhoK i ts tr te g = (10, ts)) ∨ (g = (9, 4 + 3 * i) ∧ rhoK i ts tr te g = (10, tr)) ∨ (rhoK i ts tr te g = g ∧ g ≠ (7, i) ∧ g ≠ (9, 2 + 3 * i) ∧ g ≠ (9, 3 + 3 * i) ∧ g ≠ (9, 4 + 3 * i)) := by
  unfold rhoK
  by_cases h1 : g = (7, i)
  · exact Or.inl ⟨h1, if_pos h1⟩
  rw [if_neg h1]
  by_cases h2 : g = (9, 2 + 3 * i)
  · exact Or.inr (Or.inl ⟨h2, if_pos h2⟩)
  rw [if_neg h2]
  by_cases h3 : g = (9, 3 + 3 * i)
  · exact Or.inr (Or.inr (Or.inl ⟨h3, if_pos h3⟩))
  rw [if_neg h3]
  by_cases h4 : g = (9, 4 + 3 * i)
  · exact Or.inr (Or.inr (Or.inr (Or.inl ⟨h4, if_pos h4⟩)))
  rw [if_neg h4]
  exact Or.inr (Or.inr (Or.inr (Or.inr ⟨rfl, h1, h2, h3, h4⟩)))
theorem keep_ren {D : va_G} {A : Nat → Prop} {cy : Nat → ClassId} {ad : Nat × Nat → Nat} {σ : CS} {G1 : Nat × Nat → Option va_E} {H : Heap} {i len sp sl rp rl ts tr te : Nat} {num : Int32} {b : Bool} {fO fR : Nat → Int32} (h1v : ∀ j, 1 ≤ j → cv σ 1 j = false) (hd : tr ≠ 0 ∧ te ≠ 0 ∧ te ≠ tr ∧ ts ≠ 0 ∧ ts ≠ tr ∧ ts ≠ te)
    (hw : zw D A ad G1 H) (g0 : G1 (10, 0) = some (.inl (cy 0, len, .inl fO))) (hO : ∀ j, j < len → fO j = cb σ 0 j) (gS : b = true → ∃ fS : Nat → Int32, G1 (10, ts) = some (.inl (cy 0, sl, .inl fS)) ∧ ∀ j, j < sl → fS j = cb σ 0 (sp + j)) (gR : G1 (10, tr) = some (.inl (cy 0, rl, .inl fR))) (hR : ∀ j, j < rl → fR j = cb σ 0 (rp + j))
    (gE : G1 (10, te) = some (.inr (3, [.int num, .ref (ad (10, 0)), if b = true then .ref (ad (10, ts)) else .null, .ref (ad (10, tr))])))
    (g3 : G1 (3, 0) = some (.inl (cy 5, 20, .inr (.inr (.inr (.inr (va_up (fun j => (co σ 7 j).map (fun i => ad (7, i))) i (some (ad (10, te))))))))))
    (hG : ∀ g : Nat × Nat, g ≠ (3, 0) → g.1 ≤ 9 → G1 g = cG cy ad σ g) : zw D A (adK ad σ i ts tr te) (cG cy (adK ad σ i ts tr te) (cKp σ i num len b sp sl rp rl)) H := by
  obtain ⟨d1, d2, d3, d4, d5, d6⟩ := hd
  have key : ∀ g e', cG cy (adK ad σ i ts tr te) (cKp σ i num len b sp sl rp rl) g = some e' → g.1 ≤ 9 := by
    intro g e' h
    obtain ⟨kd, j⟩ := g
    unfold cG at h
    split at h
    · match kd, h with
      | 0, _ => exact Nat.le_of_ble_eq_true rfl
      | 1, _ => exact Nat.le_of_ble_eq_true rfl
      | 2, _ => exact Nat.le_of_ble_eq_true rfl
      | 3, _ => exact Nat.le_of_ble_eq_true rfl
      | 4, _ => exact Nat.le_of_ble_eq_true rfl
      | 5, _ => exact Nat.le_of_ble_eq_true rfl
      | 6, _ => exact Nat.le_of_ble_eq_true rfl
      | 7, _ => exact Nat.le_of_ble_eq_true rfl
      | 8, _ => exact Nat.le_of_ble_eq_true rfl
      | 9, _ => exact Nat.le_of_ble_eq_true rfl
      | k + 10, h => cases h
    · cases h
  refine zw_ren2 hw (rhoK i ts tr te) ?_ ?_
  · intro g e' h
    have k9 := key g e' h
    obtain ⟨kd, j⟩ := g
    have hv : cv (cKp σ i num len b sp sl rp rl) kd j = true := by
      unfold cG at h
      split at h
      · assumption
      · cases h
    rw [cG_at hv] at h
    rcases rho_cases i ts tr te (kd, j) with ⟨e, q⟩ | ⟨e, q⟩ | ⟨e, q⟩ | ⟨e, q⟩ | ⟨q, n1, n2, n3, n4⟩
    · cases e
      rw [q]
      refine ⟨_, gE, (adK_7 ad σ i ts tr te).symm, fun a ha => ?_⟩
      have h2 : cE cy (adK ad σ i ts tr te) (cKp σ i num len b sp sl rp rl) 7 i = some (.inr (3, [.int num, .ref (ad (10, 0)), if b = true then .ref (ad (10, ts)) else .null, .ref (ad (10, tr))])) := by
        simp only [cE, cF7]
        rw [ci_K, if_pos ⟨rfl, rfl⟩, cs_K, if_pos rfl, adK_2, adK_4]
        cases b with
        | true => simp only [if_true, rn, Option.map_some]; rw [adK_3]; rfl
        | false => rfl
      rw [h2] at h
      cases h
      exact ha
    · cases e
      rw [q]
      refine ⟨_, g0, (adK_2 ad σ i ts tr te).symm, fun a ha => ?_⟩
      have h2 : cE cy (adK ad σ i ts tr te) (cKp σ i num len b sp sl rp rl) 9 (2 + 3 * i) = some (.inl (cy 0, len, .inl (cb σ 0))) := by
        simp only [cE]
        rw [cb_K, cbl_K, if_pos rfl, if_pos rfl]
      rw [h2] at h
      cases h
      exact at_ints hO ha
    · cases e
      rw [cv_K, if_neg (by omega), if_neg (by omega), if_pos ⟨rfl, rfl⟩] at hv
      obtain ⟨fS, g1, hS⟩ := gS hv
      rw [q]
      refine ⟨_, g1, (adK_3 ad σ i ts tr te).symm, fun a ha => ?_⟩
      have h2 : cE cy (adK ad σ i ts tr te) (cKp σ i num len b sp sl rp rl) 9 (3 + 3 * i) = some (.inl (cy 0, sl, .inl (fun j => cb σ 0 (sp + j)))) := by
        have z1 : ¬ 3 + 3 * i = 2 + 3 * i := by omega
        simp only [cE, cb_K, cbl_K, if_neg z1, hv, and_self, if_true]
      rw [h2] at h
      cases h
      exact at_ints hS ha
    · cases e
      rw [q]
      refine ⟨_, gR, (adK_4 ad σ i ts tr te).symm, fun a ha => ?_⟩
      have h2 : cE cy (adK ad σ i ts tr te) (cKp σ i num len b sp sl rp rl) 9 (4 + 3 * i) = some (.inl (cy 0, rl, .inl (fun j => cb σ 0 (rp + j)))) := by
        have z1 : ¬ 4 + 3 * i = 2 + 3 * i := by omega
        have z2 : ¬ (b = true ∧ 4 + 3 * i = 3 + 3 * i) := by omega
        simp only [cE, cb_K, cbl_K, if_neg z1, if_neg z2, if_true]
      rw [h2] at h
      cases h
      exact at_ints hR ha
    · have m7 : ¬ (kd = 7 ∧ j = i) := fun z => n1 (by rw [z.1, z.2])
      have m2 : ¬ (kd = 9 ∧ j = 2 + 3 * i) := fun z => n2 (by rw [z.1, z.2])
      have m3 : ¬ (kd = 9 ∧ j = 3 + 3 * i) := fun z => n3 (by rw [z.1, z.2])
      have m4 : ¬ (kd = 9 ∧ j = 4 + 3 * i) := fun z => n4 (by rw [z.1, z.2])
      have m1 : ¬ (kd = 9 ∧ j = 1) := fun z => by
        rw [cv_K, if_neg m7, if_neg m2, if_neg m3, if_neg m4, if_pos z] at hv
        cases hv
      have m0 : ¬ (kd = 3 ∧ 1 ≤ j) := fun z => by
        rw [cv_K, if_neg m7, if_neg m2, if_neg m3, if_neg m4, if_neg m1, if_pos z] at hv
        cases hv
      have hv0 : cv σ kd j = true := by
        rw [cv_K, if_neg m7, if_neg m2, if_neg m3, if_neg m4, if_neg m1, if_neg m0] at hv
        exact hv
      have m9 : ¬ (kd = 9 ∧ (j = 2 + 3 * i ∨ j = 3 + 3 * i ∨ j = 4 + 3 * i ∨ j = 1)) := fun z => by
        rcases z.2 with y | y | y | y
        · exact m2 ⟨z.1, y⟩
        · exact m3 ⟨z.1, y⟩
        · exact m4 ⟨z.1, y⟩
        · exact m1 ⟨z.1, y⟩
      rw [q]
      by_cases h3 : kd = 3
      · subst h3
        have hj : j = 0 := by omega
        subst hj
        refine ⟨_, g3, (adK_n m7 m9).symm, fun a ha => ?_⟩
        have h2 : cE cy (adK ad σ i ts tr te) (cKp σ i num len b sp sl rp rl) 3 0 = some (.inl (cy 5, 20, .inr (.inr (.inr (.inr (fun j => (co (cKp σ i num len b sp sl rp rl) 7 j).map (fun i' => adK ad σ i ts tr te (7, i')))))))) := rfl
        rw [h2] at h
        cases h
        refine at_refs (fun j' hj' => ?_) ha
        by_cases e : j' = i
        · subst e
          rw [va_up_self]
          have hcv : cv (cKp σ j' num len b sp sl rp rl) 7 j' = true := by rw [cv_K, if_pos ⟨rfl, rfl⟩]
          unfold co
          rw [hcv, if_pos rfl]
          show some (ad (10, te)) = some (adK ad σ j' ts tr te (7, j'))
          rw [adK_7]
        · rw [va_up_ne _ _ e]
          have hcv : cv (cKp σ i num len b sp sl rp rl) 7 j' = cv σ 7 j' := by rw [cv_K, if_neg (fun z => e z.2), if_neg (by omega), if_neg (by omega), if_neg (by omega), if_neg (by omega), if_neg (by omega)]
          unfold co
          rw [hcv]
          split
          · show some (ad (7, j')) = some (adK ad σ i ts tr te (7, j'))
            rw [adK_n (fun z => e z.2) (by omega)]
          · rfl
      · rw [keep_ent h1v hv0 h3 m7 m9] at h
        exact ⟨e', by rw [hG _ (fun z => h3 (Prod.mk.inj z).1) k9]; exact (cG_at hv0).trans h, (adK_n m7 m9).symm, fun a ha => ha⟩
  · intro g g' e1 e2 h h' q
    have k1 := key g e1 h
    have k2 := key g' e2 h'
    rcases rho_cases i ts tr te g with a | a | a | a | a <;> rcases rho_cases i ts tr te g' with c | c | c | c | c <;> first
      | exact a.1.trans c.1.symm
      | (exfalso; rw [a.2, c.2] at q; have := (Prod.mk.inj q).2; omega)
      | (exfalso; rw [a.2, c.1] at q; rw [← q] at k2; have k3 : (10 : Nat) ≤ 9 := k2; omega)
      | (exfalso; rw [a.1, c.2] at q; rw [q] at k1; have k3 : (10 : Nat) ≤ 9 := k1; omega)
      | (rw [a.1, c.1] at q; exact q)
