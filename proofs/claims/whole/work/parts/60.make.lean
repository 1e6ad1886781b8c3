/-! ===== a class is made: the worlds before and behind ===== -/
theorem zw_ren2 {ι : Type} {D : va_G} {A : Nat → Prop} {ad ad2 : ι → Nat} {G G2 : ι → Option va_E} {H : Heap} (hw : zw D A ad G H) (ρ : ι → ι) (h1 : ∀ g e, G2 g = some e → ∃ e0, G (ρ g) = some e0 ∧ ad (ρ g) = ad2 g ∧ ∀ a : Nat, va_at D vwCl (a, e0) H → va_at D vwCl (a, e) H) (h2 : ∀ g g' e e', G2 g = some e → G2 g' = some e' → ρ g = ρ g' → g = g') : zw D A ad2 G2 H := by
  obtain ⟨⟨L, F, hP, hD, hG⟩, hi⟩ := hw
  have inj : ∀ g g' e e', G2 g = some e → G2 g' = some e' → ad2 g = ad2 g' → g = g' := by
    intro g g' e e' h h' q
    obtain ⟨e0, k1, k2, -⟩ := h1 g e h
    obtain ⟨e1, k3, k4, -⟩ := h1 g' e' h'
    exact h2 g g' e e' h h' (hi _ _ _ _ k1 k3 (by rw [k2, k4, q]))
  have ex : ∀ q : Nat, ∃ v : va_E, (∀ g e, G2 g = some e → ad2 g = q → v = e) ∧ ((∀ g e, G2 g = some e → ad2 g ≠ q) → v = F q) := by
    intro q
    by_cases hx : ∃ g e, G2 g = some e ∧ ad2 g = q
    · obtain ⟨g, e, h, hq⟩ := hx
      refine ⟨e, fun g' e' h' hq' => ?_, fun hn => absurd hq (hn g e h)⟩
      have := inj g g' e e' h h' (by rw [hq, hq'])
      subst this
      rw [h] at h'
      exact Option.some.inj h'
    · exact ⟨F q, fun g e h hq => absurd ⟨g, e, h, hq⟩ hx, fun _ => rfl⟩
  obtain ⟨F2, hF2⟩ := Classical.axiomOfChoice ex
  refine ⟨⟨L, F2, fun k q hk => ?_, ⟨fun i j p q hp hq hpq => ?_, fun k q hk => ?_⟩, fun g e h => ?_⟩, inj⟩
  · have hk2 : (L.map (fun a => (a, F2 a)))[k]? = some q := hk
    rw [List.getElem?_map] at hk2
    obtain ⟨a, ha, rfl⟩ := Option.map_eq_some_iff.mp hk2
    have h0 := hP k (a, F a) (show (L.map (fun a => (a, F a)))[k]? = _ by rw [List.getElem?_map, ha]; rfl)
    by_cases hx : ∃ g e, G2 g = some e ∧ ad2 g = a
    · obtain ⟨g, e, h, hq⟩ := hx
      obtain ⟨e0, k1, k2, k3⟩ := h1 g e h
      rw [(hF2 a).1 g e h hq]
      apply k3
      have := (hG _ _ k1).2
      rw [k2, hq] at this
      rw [← this]
      exact h0
    · rw [(hF2 a).2 (fun g e h hq => hx ⟨g, e, h, hq⟩)]
      exact h0
  · have hp2 : (L.map (fun a => (a, F2 a)))[i]? = some p := hp
    have hq2 : (L.map (fun a => (a, F2 a)))[j]? = some q := hq
    rw [List.getElem?_map] at hp2 hq2
    obtain ⟨a, ha, rfl⟩ := Option.map_eq_some_iff.mp hp2
    obtain ⟨b, hb, rfl⟩ := Option.map_eq_some_iff.mp hq2
    exact hD.1 i j (a, F a) (b, F b) (show (L.map (fun a => (a, F a)))[i]? = _ by rw [List.getElem?_map, ha]; rfl) (show (L.map (fun a => (a, F a)))[j]? = _ by rw [List.getElem?_map, hb]; rfl) hpq
  · have hk2 : (L.map (fun a => (a, F2 a)))[k]? = some q := hk
    rw [List.getElem?_map] at hk2
    obtain ⟨a, ha, rfl⟩ := Option.map_eq_some_iff.mp hk2
    exact hD.2 k (a, F a) (show (L.map (fun a => (a, F a)))[k]? = _ by rw [List.getElem?_map, ha]; rfl)
  · obtain ⟨e0, k1, k2, k3⟩ := h1 g e h
    exact ⟨by rw [← k2]; exact (hG _ _ k1).1, (hF2 _).1 g e h rfl⟩
/-- a row of references, by its places alone -/
theorem at_refs {D : va_G} {H : Heap} {a : Nat} {cA : ClassId} {n : Nat} {f f' : Nat → Option Nat} (h : ∀ j, j < n → f j = f' j) (h0 : va_at D vwCl (a, .inl (cA, n, .inr (.inr (.inr (.inr f))))) H) : va_at D vwCl (a, .inl (cA, n, .inr (.inr (.inr (.inr f'))))) H := by
  have h1 : H[a]? = some (vp_cell cA (n, .inr (.inr (.inr (.inr f))))) := h0
  show H[a]? = some (vp_cell cA (n, .inr (.inr (.inr (.inr f')))))
  rw [h1]
  show some (arrV cA n (fun j => va_rf (f j))) = some (arrV cA n (fun j => va_rf (f' j)))
  unfold arrV
  congr 2
  congr 1
  funext j
  show va_rf (f j.val) = va_rf (f' j.val)
  rw [h j.val j.isLt]
/-- what a state is with a class made -/
def cMk (σ : CS) (k : Nat) (e : Int32) : CS := (fun f i => if f = 601 ∧ i = k then e else if f = 602 ∧ i = k then -nI 1 else if f = 603 ∧ i = k then nI 0 else σ.1 f i, σ.2.1, σ.2.2.1, va_up σ.2.2.2.1 (11 + k) (fun _ => 0), fun kd i => if kd = 6 ∧ i = k then true else if kd = 8 ∧ i = 11 + k then true else if kd = 8 ∧ (i = 171 ∨ i = 172) then false else σ.2.2.2.2.1 kd i, σ.2.2.2.2.2.1, fun r => if r = 4 then 171 else if r = 5 then 172 else σ.2.2.2.2.2.2 r)
theorem ci_M (σ : CS) (k : Nat) (e : Int32) (f i : Nat) : ci (cMk σ k e) f i = if f = 601 ∧ i = k then e else if f = 602 ∧ i = k then -nI 1 else if f = 603 ∧ i = k then nI 0 else ci σ f i := rfl
theorem cb_M (σ : CS) (k : Nat) (e : Int32) : cb (cMk σ k e) = cb σ := rfl
theorem cbl_M (σ : CS) (k : Nat) (e : Int32) : cbl (cMk σ k e) = cbl σ := rfl
theorem cs_M (σ : CS) (k : Nat) (e : Int32) : cs (cMk σ k e) = cs σ := rfl
theorem cj_M (σ : CS) (k : Nat) (e : Int32) (a : Nat) : cj (cMk σ k e) a = if a = 11 + k then (fun _ => 0) else cj σ a := rfl
theorem cv_M (σ : CS) (k : Nat) (e : Int32) (kd i : Nat) : cv (cMk σ k e) kd i = if kd = 6 ∧ i = k then true else if kd = 8 ∧ i = 11 + k then true else if kd = 8 ∧ (i = 171 ∨ i = 172) then false else cv σ kd i := rfl
theorem cr_M (σ : CS) (k : Nat) (e : Int32) (r : Nat) : cr (cMk σ k e) r = if r = 4 then 171 else if r = 5 then 172 else cr σ r := rfl
def adM (ad : Nat × Nat → Nat) (σ : CS) (k : Nat) : Nat × Nat → Nat := fun g => if g = (6, k) then ad (10, 0) else if g = (8, 11 + k) then ad (10, 1) else if g = (8, 171) then ad (8, cr σ 4) else if g = (8, 172) then ad (8, cr σ 5) else ad g
theorem adM_n {ad : Nat × Nat → Nat} {σ : CS} {k kd i : Nat} (h6 : ¬ (kd = 6 ∧ i = k)) (h8 : ¬ (kd = 8 ∧ (i = 11 + k ∨ i = 171 ∨ i = 172))) : adM ad σ k (kd, i) = ad (kd, i) := by
  unfold adM
  rw [if_neg (fun q => h6 (Prod.mk.inj q)), if_neg (fun q => h8 ⟨(Prod.mk.inj q).1, Or.inl (Prod.mk.inj q).2⟩), if_neg (fun q => h8 ⟨(Prod.mk.inj q).1, Or.inr (Or.inl (Prod.mk.inj q).2)⟩), if_neg (fun q => h8 ⟨(Prod.mk.inj q).1, Or.inr (Or.inr (Prod.mk.inj q).2)⟩)]
theorem make_ent {cy : Nat → ClassId} {ad : Nat × Nat → Nat} {σ : CS} {k : Nat} {e : Int32} (hk : k < 160) (h1v : ∀ i, 1 ≤ i → cv σ 1 i = false) (h4v : ∀ i, 8 ≤ i → cv σ 4 i = false) (h6v : ∀ i, 160 ≤ i → cv σ 6 i = false) {kd i : Nat} (hv : cv σ kd i = true) (h5 : kd ≠ 5) (h6 : ¬ (kd = 6 ∧ i = k)) (h8 : ¬ (kd = 8 ∧ i = 11 + k)) : cE cy (adM ad σ k) (cMk σ k e) kd i = cE cy ad σ kd i := by
  have an : ∀ kd i, ¬ (kd = 6 ∧ i = k) → ¬ (kd = 8 ∧ (i = 11 + k ∨ i = 171 ∨ i = 172)) → adM ad σ k (kd, i) = ad (kd, i) := fun kd i a b => adM_n a b
  have a171 : adM ad σ k (8, 171) = ad (8, cr σ 4) := by
    unfold adM
    rw [if_neg (fun q => by have := (Prod.mk.inj q).1; omega), if_neg (fun q => by have := (Prod.mk.inj q).2; omega), if_pos rfl]
  have a172 : adM ad σ k (8, 172) = ad (8, cr σ 5) := by
    unfold adM
    rw [if_neg (fun q => by have := (Prod.mk.inj q).1; omega), if_neg (fun q => by have := (Prod.mk.inj q).2; omega), if_neg (fun q => by have := (Prod.mk.inj q).2; omega), if_pos rfl]
  have co' : ∀ kd i, kd ≠ 6 → kd ≠ 8 → co (cMk σ k e) kd i = co σ kd i := fun kd i a b => by
    have h : cv (cMk σ k e) kd i = cv σ kd i := by rw [cv_M, if_neg (fun q => a q.1), if_neg (fun q => b q.1), if_neg (fun q => b q.1)]
    unfold co
    rw [h]
  have ci' : ∀ f i, f ≠ 601 → f ≠ 602 → f ≠ 603 → ci (cMk σ k e) f i = ci σ f i := fun f i a b c => by
    rw [ci_M, if_neg (fun q => a q.1), if_neg (fun q => b q.1), if_neg (fun q => c q.1)]
  match kd, hv, h5, h6, h8 with
  | 0, hv, _, _, _ =>
    simp only [cE, cF0]
    rw [ci' 0 _ (by omega) (by omega) (by omega), ci' 5 _ (by omega) (by omega) (by omega), ci' 6 _ (by omega) (by omega) (by omega), ci' 7 _ (by omega) (by omega) (by omega), an 2 0 (by omega) (by omega), an 3 0 (by omega) (by omega), an 1 0 (by omega) (by omega), an 9 0 (by omega) (by omega)]
  | 1, hv, _, _, _ =>
    have hi : i = 0 := by
      rcases Nat.eq_zero_or_pos i with h | h
      · exact h
      · rw [h1v i h] at hv
        exact absurd hv (by decide)
    subst hi
    simp only [cE, cF1]
    rw [ci' 106 _ (by omega) (by omega) (by omega), ci' 107 _ (by omega) (by omega) (by omega), ci' 108 _ (by omega) (by omega) (by omega), ci' 109 _ (by omega) (by omega) (by omega), ci' 110 _ (by omega) (by omega) (by omega), an 8 0 (by omega) (by omega), an 8 1 (by omega) (by omega), an 8 2 (by omega) (by omega)]
    simp only [cr_M, ↓reduceIte, Nat.reduceEqDiff, reduceCtorEq, Nat.reduceAdd, Nat.reduceMul, Nat.reduceSub, eq_self_iff_true, true_and, and_true, false_and, and_false, and_self]
    rw [an 9 _ (by omega) (by omega), a171, a172]
  | 2, hv, _, _, _ =>
    have : (fun j => (co (cMk σ k e) 4 j).map (fun i => adM ad σ k (4, i))) = fun j => (co σ 4 j).map (fun i => ad (4, i)) := by
      funext j
      rw [co' 4 j (by omega) (by omega)]
      exact congrArg (fun h => Option.map h _) (funext fun z => an 4 z (by omega) (by omega))
    simp only [cE]
    rw [this]
  | 3, hv, _, _, _ =>
    have : (fun j => (co (cMk σ k e) 7 j).map (fun i => adM ad σ k (7, i))) = fun j => (co σ 7 j).map (fun i => ad (7, i)) := by
      funext j
      rw [co' 7 j (by omega) (by omega)]
      exact congrArg (fun h => Option.map h _) (funext fun z => an 7 z (by omega) (by omega))
    simp only [cE]
    rw [this]
  | 4, hv, _, _, _ =>
    have hi : i < 8 := by
      rcases Nat.lt_or_ge i 8 with h | h
      · exact h
      · rw [h4v i h] at hv
        exact absurd hv (by decide)
    simp only [cE, cF4]
    rw [ci' 402 _ (by omega) (by omega) (by omega), ci' 403 _ (by omega) (by omega) (by omega), ci' 404 _ (by omega) (by omega) (by omega), ci' 405 _ (by omega) (by omega) (by omega), ci' 406 _ (by omega) (by omega) (by omega), ci' 407 _ (by omega) (by omega) (by omega), ci' 408 _ (by omega) (by omega) (by omega), an 8 (3 + i) (by omega) (by omega), an 5 i (by omega) (by omega)]
  | 5, _, h5, _, _ => exact absurd rfl h5
  | 6, hv, _, h6, _ =>
    have hik : ¬ i = k := fun q => h6 ⟨rfl, q⟩
    have hi : i < 160 := by
      rcases Nat.lt_or_ge i 160 with h | h
      · exact h
      · rw [h6v i h] at hv
        exact absurd hv (by decide)
    simp only [cE, cF6]
    rw [ci_M, if_neg (fun q => hik q.2), if_neg (fun q => hik q.2), if_neg (fun q => hik q.2), ci_M, if_neg (fun q => hik q.2), if_neg (fun q => hik q.2), if_neg (fun q => hik q.2), ci_M, if_neg (fun q => hik q.2), if_neg (fun q => hik q.2), if_neg (fun q => hik q.2), an 8 (11 + i) (by omega) (by omega)]
  | 7, hv, _, _, _ =>
    simp only [cE, cF7, cs_M, rn]
    rw [ci' 700 _ (by omega) (by omega) (by omega), an 9 _ (by omega) (by omega), an 9 _ (by omega) (by omega)]
    have h9 : (fun z => adM ad σ k (9, z)) = fun z => ad (9, z) := funext fun z => an 9 z (by omega) (by omega)
    rw [h9]
    rfl
  | 8, hv, _, _, h8 =>
    have hi : ¬ i = 11 + k := fun q => h8 ⟨rfl, q⟩
    simp only [cE]
    rw [cj_M, if_neg hi]
  | 9, hv, _, _, _ => rfl
  | kd + 10, hv, _, _, _ => rfl
theorem make_ren {D : va_G} {A : Nat → Prop} {cy : Nat → ClassId} {ad : Nat × Nat → Nat} {σ : CS} {G1 : Nat × Nat → Option va_E} {H : Heap} {c j : Nat} {e : Int32} (hc : c < 8) (hj : j < 20) (h1v : ∀ i, 1 ≤ i → cv σ 1 i = false) (h4v : ∀ i, 8 ≤ i → cv σ 4 i = false) (h6v : ∀ i, 160 ≤ i → cv σ 6 i = false) (h5v : cv σ 5 c = true)
    (hw : zw D A ad G1 H) (hG5 : G1 (5, c) = some (.inl (cy 6, 20, .inr (.inr (.inr (.inr (va_up (fun j => (co σ 6 (20 * c + j)).map (fun i => ad (6, i))) j (some (ad (10, 0)))))))))) (hG : ∀ g, g ≠ (5, c) → G1 g = cL cy ad σ [.inr (4, [.ref (ad (10, 1)), .int e, .int (-nI 1), .int (nI 0)]), .inl (cy 2, 8, .inr (.inl (fun _ => 0)))] g) : zw D A (adM ad σ (20 * c + j)) (cG cy (adM ad σ (20 * c + j)) (cMk σ (20 * c + j) e)) H := by
  have hk : 20 * c + j < 160 := by omega
  refine zw_ren2 hw (fun g => if g = (6, 20 * c + j) then (10, 0) else if g = (8, 11 + (20 * c + j)) then (10, 1) else g) ?_ ?_
  · intro g e' h
    obtain ⟨kd, i⟩ := g
    have hv : cv (cMk σ (20 * c + j) e) kd i = true := by
      unfold cG at h
      split at h
      · assumption
      · cases h
    rw [cG_at hv] at h
    by_cases e6 : kd = 6 ∧ i = 20 * c + j
    · obtain ⟨rfl, rfl⟩ := e6
      refine ⟨.inr (4, [.ref (ad (10, 1)), .int e, .int (-nI 1), .int (nI 0)]), ?_, ?_, ?_⟩
      · rw [if_pos rfl, hG _ (by intro q; cases q)]
        exact cL_t
      · rw [if_pos rfl]
        unfold adM
        rw [if_pos rfl]
      · intro a ha
        have h2 : cE cy (adM ad σ (20 * c + j)) (cMk σ (20 * c + j) e) 6 (20 * c + j) = some (.inr (4, [.ref (ad (10, 1)), .int e, .int (-nI 1), .int (nI 0)])) := by
          simp only [cE, cF6, ci_M, ↓reduceIte, Nat.reduceEqDiff, reduceCtorEq, Nat.reduceAdd, Nat.reduceMul, Nat.reduceSub, eq_self_iff_true, true_and, and_true, false_and, and_false, and_self]
          unfold adM
          rw [if_neg (fun q => by have := (Prod.mk.inj q).1; omega), if_pos rfl]
        rw [h2] at h
        cases h
        exact ha
    · by_cases e8 : kd = 8 ∧ i = 11 + (20 * c + j)
      · obtain ⟨rfl, rfl⟩ := e8
        refine ⟨.inl (cy 2, 8, .inr (.inl (fun _ => 0))), ?_, ?_, ?_⟩
        · rw [if_neg (by intro q; cases q), if_pos rfl, hG _ (by intro q; cases q)]
          exact cL_t
        · rw [if_neg (by intro q; cases q), if_pos rfl]
          unfold adM
          rw [if_neg (by intro q; cases q), if_pos rfl]
        · intro a ha
          have h2 : cE cy (adM ad σ (20 * c + j)) (cMk σ (20 * c + j) e) 8 (11 + (20 * c + j)) = some (.inl (cy 2, 8, .inr (.inl (fun _ => 0)))) := by
            simp only [cE, cj_M, if_true]
            rw [jl_8 (by omega)]
          rw [h2] at h
          cases h
          exact ha
      · have hn17 : ¬ (kd = 8 ∧ (i = 171 ∨ i = 172)) := fun q => by
          rw [cv_M, if_neg e6, if_neg e8, if_pos q] at hv
          exact absurd hv (by decide)
        have hv0 : cv σ kd i = true := by
          rw [cv_M, if_neg e6, if_neg e8, if_neg hn17] at hv
          exact hv
        have hr : (if (kd, i) = (6, 20 * c + j) then ((10, 0) : Nat × Nat) else if (kd, i) = (8, 11 + (20 * c + j)) then (10, 1) else (kd, i)) = (kd, i) := by
          rw [if_neg (fun q => e6 (Prod.mk.inj q)), if_neg (fun q => e8 (Prod.mk.inj q))]
        have ha : ad (kd, i) = adM ad σ (20 * c + j) (kd, i) := (adM_n e6 (fun q => by rcases q.2 with z | z; exact e8 ⟨q.1, z⟩; exact hn17 ⟨q.1, z⟩)).symm
        have h10 : kd ≠ 10 := fun q => by
          subst q
          cases h
        by_cases h5 : kd = 5
        · subst h5
          have hf : ∀ j', j' < 20 → ¬ (i = c ∧ j' = j) → (co (cMk σ (20 * c + j) e) 6 (20 * i + j')).map (fun z => adM ad σ (20 * c + j) (6, z)) = (co σ 6 (20 * i + j')).map (fun z => ad (6, z)) := by
            intro j' hj' hne
            have hkk : ¬ (20 * i + j' = 20 * c + j) := by omega
            have hcv : cv (cMk σ (20 * c + j) e) 6 (20 * i + j') = cv σ 6 (20 * i + j') := by rw [cv_M, if_neg (fun q => hkk q.2), if_neg (by omega), if_neg (by omega)]
            unfold co
            rw [hcv]
            split
            · show some (adM ad σ (20 * c + j) (6, 20 * i + j')) = some (ad (6, 20 * i + j'))
              rw [adM_n (fun q => hkk q.2) (by omega)]
            · rfl
          cases h
          by_cases hic : i = c
          · subst hic
            refine ⟨_, by rw [hr]; exact hG5, by rw [hr]; exact ha, fun a h0 => at_refs (fun j' hj' => ?_) h0⟩
            by_cases e : j' = j
            · subst e
              rw [va_up_self]
              have hcv : cv (cMk σ (20 * i + j') e) 6 (20 * i + j') = true := by rw [cv_M, if_pos ⟨rfl, rfl⟩]
              unfold co
              rw [hcv, if_pos rfl]
              show some (ad (10, 0)) = some (adM ad σ (20 * i + j') (6, 20 * i + j'))
              unfold adM
              rw [if_pos rfl]
            · rw [va_up_ne _ _ e]
              exact (hf j' hj' (fun q => e q.2)).symm
          · refine ⟨_, by rw [hr, hG _ (fun q => hic (Prod.mk.inj q).2)]; exact (cL_n (by decide)).trans (cG_at hv0), by rw [hr]; exact ha, fun a h0 => at_refs (fun j' hj' => (hf j' hj' (fun q => hic q.1)).symm) h0⟩
        · rw [make_ent hk h1v h4v h6v hv0 h5 e6 e8] at h
          exact ⟨e', by rw [hr, hG _ (fun q => h5 (Prod.mk.inj q).1)]; exact ((cL_n h10).trans (cG_at hv0)).trans h, by rw [hr]; exact ha, fun a h0 => h0⟩
  · have key : ∀ g e', cG cy (adM ad σ (20 * c + j)) (cMk σ (20 * c + j) e) g = some e' → g.1 ≠ 10 := by
      intro g e' h q
      obtain ⟨kd, i⟩ := g
      unfold cG at h
      split at h
      · have q2 : kd = 10 := q
        subst q2
        cases h
      · cases h
    intro g g' e1 e2 h h' q
    have k1 := key g e1 h
    have k2 := key g' e2 h'
    by_cases a : g = (6, 20 * c + j)
    · by_cases b : g' = (6, 20 * c + j)
      · rw [a, b]
      · by_cases b8 : g' = (8, 11 + (20 * c + j))
        · rw [if_pos a, if_neg b, if_pos b8] at q
          cases q
        · rw [if_pos a, if_neg b, if_neg b8] at q
          exact absurd (by rw [← q]) k2
    · by_cases a8 : g = (8, 11 + (20 * c + j))
      · by_cases b : g' = (6, 20 * c + j)
        · rw [if_neg a, if_pos a8, if_pos b] at q
          cases q
        · by_cases b8 : g' = (8, 11 + (20 * c + j))
          · rw [a8, b8]
          · rw [if_neg a, if_pos a8, if_neg b, if_neg b8] at q
            exact absurd (by rw [← q]) k2
      · by_cases b : g' = (6, 20 * c + j)
        · rw [if_neg a, if_neg a8, if_pos b] at q
          exact absurd (by rw [q]) k1
        · by_cases b8 : g' = (8, 11 + (20 * c + j))
          · rw [if_neg a, if_neg a8, if_neg b, if_pos b8] at q
            exact absurd (by rw [q]) k1
          · rw [if_neg a, if_neg a8, if_neg b, if_neg b8] at q
            exact q
