/-! ===== the class made ===== -/
def zC : CS := (fun _ _ => nI 0, fun _ _ => nI 0, fun _ => 0, fun _ _ => 0, fun _ _ => false, fun _ => false, fun _ => 0)
def XH (bud : Int32) (r1 r2 r3 r4 : Value) : va_E := .inr (6, [.int bud, r1, r2, r3, r4, .int 0, .int 0, .int 0])
def rowC (cy : Nat → ClassId) (ad : Nat × Nat → Nat) (i : Nat) : va_E := .inl (cy 4, 8, .inr (.inr (.inr (.inr (fun j => if j < i then some (ad (10, 2 + 3 * j)) else none)))))
def CS3 (cy : Nat → ClassId) (ad : Nat × Nat → Nat) (k : Nat) : List va_E := [.inr (2, [.ref (ad (10, 3 + 3 * k)), .ref (ad (10, 4 + 3 * k)), .int 0, .int 0, .int 0, .int 0, .int 0, .int 0, .int 0]), .inl (cy 2, 8, .inr (.inl (fun _ => 0))), .inl (cy 6, 20, .inr (.inr (.inr (.inr (fun _ => none)))))]
def CL (cy : Nat → ClassId) (ad : Nat × Nat → Nat) : Nat → List va_E
  | 0 => []
  | i + 1 => CL cy ad i ++ CS3 cy ad i
def XL (cy : Nat → ClassId) (ad : Nat × Nat → Nat) (bud : Int32) (r2 r3 r4 : Value) (i : Nat) : List va_E := XH bud (.ref (ad (10, 1))) r2 r3 r4 :: rowC cy ad i :: CL cy ad i
theorem CL_len (cy : Nat → ClassId) (ad : Nat × Nat → Nat) : ∀ i, (CL cy ad i).length = 3 * i
  | 0 => rfl
  | i + 1 => by
    show (CL cy ad i ++ CS3 cy ad i).length = 3 * (i + 1)
    rw [List.length_append, CL_len cy ad i]
    show 3 * i + 3 = 3 * (i + 1)
    omega
theorem XL_len (cy : Nat → ClassId) (ad : Nat × Nat → Nat) (bud : Int32) (r2 r3 r4 : Value) (i : Nat) : (XL cy ad bud r2 r3 r4 i).length = 2 + 3 * i := by
  show (CL cy ad i).length + 1 + 1 = 2 + 3 * i
  rw [CL_len]
  omega
theorem CL_congr {cy : Nat → ClassId} {ad ad1 : Nat × Nat → Nat} : ∀ i, (∀ t, t < 2 + 3 * i → ad1 (10, t) = ad (10, t)) → CL cy ad1 i = CL cy ad i
  | 0, _ => rfl
  | i + 1, h => by
    show CL cy ad1 i ++ CS3 cy ad1 i = CL cy ad i ++ CS3 cy ad i
    rw [CL_congr i (fun t ht => h t (by omega))]
    unfold CS3
    rw [h (3 + 3 * i) (by omega), h (4 + 3 * i) (by omega)]
theorem rowC_congr {cy : Nat → ClassId} {ad ad1 : Nat × Nat → Nat} {i : Nat} (h : ∀ t, t < 2 + 3 * i → ad1 (10, t) = ad (10, t)) : rowC cy ad1 i = rowC cy ad i := by
  have : (fun j => if j < i then some (ad1 (10, 2 + 3 * j)) else none) = fun j => if j < i then some (ad (10, 2 + 3 * j)) else none := by
    funext j
    by_cases hj : j < i
    · rw [if_pos hj, if_pos hj, h _ (by omega)]
    · rw [if_neg hj, if_neg hj]
  unfold rowC
  rw [this]
def numI (kd i : Nat) : Nat := match kd with
  | 0 => 0
  | 1 => 27
  | 2 => 1
  | 3 => 26
  | 4 => 2 + 3 * i
  | 5 => 4 + 3 * i
  | 8 => if i < 3 then 28 + i else 3 + 3 * (i - 3)
  | _ => if i = 0 then 32 else 31
def adI (ad : Nat × Nat → Nat) : Nat × Nat → Nat := fun g => ad (10, numI g.1 g.2)
/-- the class's state at its birth -/
def sI (bud : Int32) : CS := (fun f _ => if f = 0 then bud else nI 0, fun _ _ => nI 0, fun a => if a = 0 then 120 else 0, fun _ _ => 0, fun kd j => match kd with
  | 0 => decide (j = 0)
  | 1 => decide (j = 0)
  | 2 => decide (j = 0)
  | 3 => decide (j = 0)
  | 4 => decide (j < 8)
  | 5 => decide (j < 8)
  | 8 => decide (j < 11)
  | 9 => decide (j < 2)
  | _ => false, fun _ => false, fun r => if r = 3 then 1 else if r = 4 then 1 else 2)
def XF (cy : Nat → ClassId) (ad : Nat × Nat → Nat) (bud : Int32) : List va_E := XL cy ad bud (.ref (ad (10, 26))) (.ref (ad (10, 27))) (.ref (ad (10, 32))) 8 ++ [.inl (cy 5, 20, .inr (.inr (.inr (.inr (fun _ => none))))), .inr (5, [.ref (ad (10, 28)), .ref (ad (10, 29)), .ref (ad (10, 30)), .ref (ad (10, 31)), .ref (ad (10, 29)), .ref (ad (10, 30)), .int 0, .int 0, .int 0, .int 0, .int 0]), .inl (cy 2, 16, .inr (.inl (fun _ => 0))), .inl (cy 2, 8, .inr (.inl (fun _ => 0))), .inl (cy 2, 8, .inr (.inl (fun _ => 0))), .inl (cy 0, 0, .inl (fun _ => 0)), .inl (cy 0, 120, .inl (fun _ => 0))]
theorem sI_live {bud : Int32} {kd i : Nat} (h : cv (sI bud) kd i = true) : (kd = 0 ∧ i = 0) ∨ (kd = 1 ∧ i = 0) ∨ (kd = 2 ∧ i = 0) ∨ (kd = 3 ∧ i = 0) ∨ (kd = 4 ∧ i < 8) ∨ (kd = 5 ∧ i < 8) ∨ (kd = 8 ∧ i < 11) ∨ (kd = 9 ∧ i < 2) := by
  match kd, h with
  | 0, h => exact Or.inl ⟨rfl, of_decide_eq_true h⟩
  | 1, h => exact Or.inr (Or.inl ⟨rfl, of_decide_eq_true h⟩)
  | 2, h => exact Or.inr (Or.inr (Or.inl ⟨rfl, of_decide_eq_true h⟩))
  | 3, h => exact Or.inr (Or.inr (Or.inr (Or.inl ⟨rfl, of_decide_eq_true h⟩)))
  | 4, h => exact Or.inr (Or.inr (Or.inr (Or.inr (Or.inl ⟨rfl, of_decide_eq_true h⟩))))
  | 5, h => exact Or.inr (Or.inr (Or.inr (Or.inr (Or.inr (Or.inl ⟨rfl, of_decide_eq_true h⟩)))))
  | 6, h => cases h
  | 7, h => cases h
  | 8, h => exact Or.inr (Or.inr (Or.inr (Or.inr (Or.inr (Or.inr (Or.inl ⟨rfl, of_decide_eq_true h⟩))))))
  | 9, h => exact Or.inr (Or.inr (Or.inr (Or.inr (Or.inr (Or.inr (Or.inr ⟨rfl, of_decide_eq_true h⟩))))))
  | k + 10, h => cases h
set_option maxRecDepth 100000 in
theorem init_ren {D : va_G} {A : Nat → Prop} {cy : Nat → ClassId} {ad : Nat × Nat → Nat} {bud : Int32} {H : Heap} (hw : zw D A ad (cL cy ad zC (XF cy ad bud)) H) : zw D A (adI ad) (cG cy (adI ad) (sI bud)) H := by
  have key : ∀ g e, cG cy (adI ad) (sI bud) g = some e → cv (sI bud) g.1 g.2 = true := by
    intro g e h
    unfold cG at h
    split at h
    · assumption
    · cases h
  refine zw_ren2 hw (fun g => (10, numI g.1 g.2)) ?_ ?_
  · intro g e h
    have hv := key g e h
    obtain ⟨kd, i⟩ := g
    rcases sI_live hv with ⟨rfl, rfl⟩ | ⟨rfl, rfl⟩ | ⟨rfl, rfl⟩ | ⟨rfl, rfl⟩ | ⟨rfl, hi⟩ | ⟨rfl, hi⟩ | ⟨rfl, hi⟩ | ⟨rfl, hi⟩
    · exact ⟨e, h ▸ rfl, rfl, fun a h0 => h0⟩
    · exact ⟨e, h ▸ rfl, rfl, fun a h0 => h0⟩
    · refine ⟨rowC cy ad 8, rfl, rfl, fun a h0 => ?_⟩
      have h2 : some (Sum.inl (cy 4, 8, .inr (.inr (.inr (.inr (fun j => (co (sI bud) 4 j).map (fun i => adI ad (4, i)))))))) = some e := h
      cases h2
      refine at_refs (fun j hj => ?_) h0
      have hc : cv (sI bud) 4 j = true := decide_eq_true hj
      unfold co
      rw [if_pos hj, hc, if_pos rfl]
      rfl
    · exact ⟨e, h ▸ rfl, rfl, fun a h0 => h0⟩
    · rcases (show i = 0 ∨ i = 1 ∨ i = 2 ∨ i = 3 ∨ i = 4 ∨ i = 5 ∨ i = 6 ∨ i = 7 by omega) with rfl | rfl | rfl | rfl | rfl | rfl | rfl | rfl <;> exact ⟨e, h ▸ rfl, rfl, fun a h0 => h0⟩
    · rcases (show i = 0 ∨ i = 1 ∨ i = 2 ∨ i = 3 ∨ i = 4 ∨ i = 5 ∨ i = 6 ∨ i = 7 by omega) with rfl | rfl | rfl | rfl | rfl | rfl | rfl | rfl <;> exact ⟨e, h ▸ rfl, rfl, fun a h0 => h0⟩
    · rcases (show i = 0 ∨ i = 1 ∨ i = 2 ∨ i = 3 ∨ i = 4 ∨ i = 5 ∨ i = 6 ∨ i = 7 ∨ i = 8 ∨ i = 9 ∨ i = 10 by omega) with rfl | rfl | rfl | rfl | rfl | rfl | rfl | rfl | rfl | rfl | rfl <;> exact ⟨e, h ▸ rfl, rfl, fun a h0 => h0⟩
    · rcases (show i = 0 ∨ i = 1 by omega) with rfl | rfl <;> exact ⟨e, h ▸ rfl, rfl, fun a h0 => h0⟩
  · intro g g' e e' h h' q
    have hv := key g e h
    have hv' := key g' e' h'
    obtain ⟨kd, i⟩ := g
    obtain ⟨kd', i'⟩ := g'
    have hq : numI kd i = numI kd' i' := (Prod.mk.inj q).2
    have n8 : ∀ i, numI 8 i = if i < 3 then 28 + i else 3 + 3 * (i - 3) := fun _ => rfl
    have n9 : ∀ i, numI 9 i = if i = 0 then 32 else 31 := fun _ => rfl
    have n4 : ∀ i, numI 4 i = 2 + 3 * i := fun _ => rfl
    have n5 : ∀ i, numI 5 i = 4 + 3 * i := fun _ => rfl
    have n0 : ∀ i, numI 0 i = 0 := fun _ => rfl
    have n1 : ∀ i, numI 1 i = 27 := fun _ => rfl
    have n2 : ∀ i, numI 2 i = 1 := fun _ => rfl
    have n3 : ∀ i, numI 3 i = 26 := fun _ => rfl
    rcases sI_live hv with ⟨rfl, rfl⟩ | ⟨rfl, rfl⟩ | ⟨rfl, rfl⟩ | ⟨rfl, rfl⟩ | ⟨rfl, hi⟩ | ⟨rfl, hi⟩ | ⟨rfl, hi⟩ | ⟨rfl, hi⟩ <;> rcases sI_live hv' with ⟨rfl, rfl⟩ | ⟨rfl, rfl⟩ | ⟨rfl, rfl⟩ | ⟨rfl, rfl⟩ | ⟨rfl, hi'⟩ | ⟨rfl, hi'⟩ | ⟨rfl, hi'⟩ | ⟨rfl, hi'⟩ <;> simp only [n0, n1, n2, n3, n4, n5, n8, n9] at hq <;> first
      | rfl
      | (exfalso; omega)
      | (exfalso; split at hq <;> omega)
      | (exfalso; split at hq <;> split at hq <;> omega)
      | (have : i = i' := (by omega); rw [this])
      | (have : i = i' := (by split at hq <;> split at hq <;> omega); rw [this])
