/-! ===== the class made ===== -/
def zC : CS := (fun _ _ => nI 0, fun _ _ => nI 0, fun _ => 0, fun _ _ => 0, fun _ _ => false, fun _ => false, fun _ => 0)
def XH (bud : Int32) (r1 r2 r3 r4 : Value) : va_E := .inr (6, [.int bud, r1, r2, r3, r4, .int 0, .int 0, .int 0])
def rowC (cy : Nat → ClassId) (ad : Nat × Nat → Nat) (i : Nat) : va_E := .inl (cy 4, 8, .inr (.inr (.inr (.inr (fun j => if j < i then some (ad (10, 2 + 3 * j)) else none)))))
def CS3 (cy : Nat → ClassId) (ad : Nat × Nat → Nat) (k : Nat) : List va_E := [.inr (2, [.ref (ad (10, 3 + 3 * k)), .ref (ad (10, 4 + 3 * k)), .int 0, .int 0, .int 0, .int 0, .int 0, .int 0, .int 0]), .inl (cy 2, 8, .inr (.inl (fun _ => 0))), .inl (cy 6, 20, .inr (.inr (.inr (.inr (fun _ => none)))))]
def CL (cy : Nat → ClassId) (ad : Nat × Nat → Nat) : Nat → List va_E
  | 0 => []
  | i + 1 => CL cy ad i ++ CS3 cy ad i
def XL (cy : Nat → ClassId) (ad : Nat × Nat → Nat) (bud : Int32) (r2 r3 r4 : Value) (i : Nat) : List va_E := XH bud (.ref (ad (10, 1))) r2 r3 r4 :: rowC cy ad i :: CL cy ad i
theorem CL_len (cy : Nat → ClassId) (ad : Nat × Nat → Nat) : ∀ i, (CL cy ad i).length = 3 * i
  | 0 => rfl
  | i + 1 => by
    show (CL cy ad i ++ CS3 cy ad i).length = 3 * (i + 1)
    rw [List.length_append, CL_len cy ad i]
    show 3 * i + 3 = 3 * (i + 1)
    omega
theorem XL_len (cy : Nat → ClassId) (ad : Nat × Nat → Nat) (bud : Int32) (r2 r3 r4 : Value) (i : Nat) : (XL cy ad bud r2 r3 r4 i).length = 2 + 3 * i := by
  show (CL cy ad i).length + 1 + 1 = 2 + 3 * i
  rw [CL_len]
  omega
theorem CL_congr {cy : Nat → ClassId} {ad ad1 : Nat × Nat → Nat} : ∀ i, (∀ t, t < 2 + 3 * i → ad1 (10, t) = ad (10, t)) → CL cy ad1 i = CL cy ad i
  | 0, _ => rfl
  | i + 1, h => by
    show CL cy ad1 i ++ CS3 cy ad1 i = CL cy ad i ++ CS3 cy ad i
    rw [CL_congr i (fun t ht => h t (by omega))]
    unfold CS3
    rw [h (3 + 3 * i) (by omega), h (4 + 3 * i) (by omega)]
theorem rowC_congr {cy : Nat → ClassId} {ad ad1 : Nat × Nat → Nat} {i : Nat} (h : ∀ t, t < 2 + 3 * i → ad1 (10, t) = ad (10, t)) : rowC cy ad1 i = rowC cy ad i := by
  have : (fun j => if j < i then some (ad1 (10, 2 + 3 * j)) else none) = fun j => if j < i then some (ad (10, 2 + 3 * j)) else none := by
    funext j
    by_cases hj : j < i
    · rw [if_pos hj, if_pos hj, h _ (by omega)]
    · rw [if_neg hj, if_neg hj]
  unfold rowC
  rw [this]
def numI (kd i : Nat) : Nat := match kd with
  | 0 => 0
  | 1 => 27
  | 2 => 1
  | 3 => 26
  | 4 => 2 + 3 * i
  | 5 => 4 + 3 * i
  | 8 => if i < 3 then 28 + i else 3 + 3 * (i - 3)
  | _ => if i = 0 then 32 else 31
def adI (ad : Nat × Nat → Nat) : Nat × Nat → Nat := fun g => ad (10, numI g.1 g.2)
/-- the class's state at its birth -/
def sI (bud : Int32) : CS := (fun f _ => if f = 0 then bud else nI 0, fun _ _ => nI 0, fun a => if a = 0 then 120 else 0, fun _ _ => 0, fun kd j => match kd with
  | 0 => decide (j = 0)
  | 1 => decide (j = 0)
  | 2 => decide (j = 0)
  | 3 => decide (j = 0)
  | 4 => decide (j < 8)
  | 5 => decide (j < 8)
  | 8 => decide (j < 11)
  | 9 => decide (j < 2)
  | _ => false, fun _ => false, fun r => if r = 3 then 1 else if r = 4 then 1 else 2)
def XF (cy : Nat → ClassId) (ad : Nat × Nat → Nat) (bud : Int32) : List va_E := XL cy ad bud (.ref (ad (10, 26))) (.ref (ad (10, 27))) (.ref (ad (10, 32))) 8 ++ [.inl (cy 5, 20, .inr (.inr (.inr (.inr (fun _ => none))))), .inr (5, [.ref (ad (10, 28)), .ref (ad (10, 29)), .ref (ad (10, 30)), .ref (ad (10, 31)), .ref (ad (10, 29)), .ref (ad (10, 30)), .int 0, .int 0, .int 0, .int 0, .int 0]), .inl (cy 2, 16, .inr (.inl (fun _ => 0))), .inl (cy 2, 8, .inr (.inl (fun _ => 0))), .inl (cy 2, 8, .inr (.inl (fun _ => 0))), .inl (cy 0, 0, .inl (fun _ => 0)), .inl (cy 0, 120, .inl (fun _ => 0))]
theorem sI_live {bud : Int32} {kd i : Nat} (h : cv (sI bud) kd i = true) : (kd = 0 ∧ i = 0) ∨ (kd = 1 ∧ i = 0) ∨ (kd = 2 ∧ i = 0) ∨ (kd = 3 ∧ i = 0) ∨ (kd = 4 ∧ i < 8) ∨ (kd = 5 ∧ i < 8) ∨ (kd = 8 ∧ i < 11) ∨ (kd = 9 ∧ i < 2) := by
  match kd, h with
  | 0, h => exact Or.inl ⟨rfl, of_decide_eq_true h⟩
  | 1, h => exact Or.inr (Or.inl ⟨rfl, of_decide_eq_true h⟩)
  | 2, h => exact Or.inr (Or.inr (Or.inl ⟨rfl, of_decide_eq_true h⟩))
  | 3, h => exact Or.inr (Or.inr (Or.inr (Or.inl ⟨rfl, of_decide_eq_true h⟩)))
  | 4, h => exact Or.inr (Or.inr (Or.inr (Or.inr (Or.inl ⟨rfl, of_decide_eq_true h⟩))))
  | 5, h => exact Or.inr (Or.inr (Or.inr (Or.inr (Or.inr (Or.inl ⟨rfl, of_decide_eq_true h⟩)))))
  | 6, h => cases h
  | 7, h => cases h
  | 8, h => exact Or.inr (Or.inr (Or.inr (Or.inr (Or.inr (Or.inr (Or.inl ⟨rfl, of_decide_eq_true h⟩))))))
  | 9, h => exact Or.inr (Or.inr (Or.inr (Or.inr (Or.inr (Or.inr (Or.inr ⟨rfl, of_decide_eq_true h⟩))))))
  | k + 10, h => cases h
set_option maxRecDepth 100000 in
theorem init_ren {D : va_G} {A : Nat → Prop} {cy : Nat → ClassId} {ad : Nat × Nat → Nat} {bud : Int32} {H : Heap} (hw : zw D A ad (cL cy ad zC (XF cy ad bud)) H) : zw D A (adI ad) (cG cy (adI ad) (sI bud)) H := by
  have key : ∀ g e, cG cy (adI ad) (sI bud) g = some e → cv (sI bud) g.1 g.2 = true := by
    intro g e h
    unfold cG at h
    split at h
    · assumption
    · cases h
  refine zw_ren2 hw (fun g => (10, numI g.1 g.2)) ?_ ?_
  · intro g e h
    have hv := key g e h
    obtain ⟨kd, i⟩ := g
    rcases sI_live hv with ⟨rfl, rfl⟩ | ⟨rfl, rfl⟩ | ⟨rfl, rfl⟩ | ⟨rfl, rfl⟩ | ⟨rfl, hi⟩ | ⟨rfl, hi⟩ | ⟨rfl, hi⟩ | ⟨rfl, hi⟩
    · exact ⟨e, h ▸ rfl, rfl, fun a h0 => h0⟩
    · exact ⟨e, h ▸ rfl, rfl, fun a h0 => h0⟩
    · refine ⟨rowC cy ad 8, rfl, rfl, fun a h0 => ?_⟩
      have h2 : some (Sum.inl (cy 4, 8, .inr (.inr (.inr (.inr (fun j => (co (sI bud) 4 j).map (fun i => adI ad (4, i)))))))) = some e := h
      cases h2
      refine at_refs (fun j hj => ?_) h0
      have hc : cv (sI bud) 4 j = true := decide_eq_true hj
      unfold co
      rw [if_pos hj, hc, if_pos rfl]
      rfl
    · exact ⟨e, h ▸ rfl, rfl, fun a h0 => h0⟩
    · rcases (show i = 0 ∨ i = 1 ∨ i = 2 ∨ i = 3 ∨ i = 4 ∨ i = 5 ∨ i = 6 ∨ i = 7 by omega) with rfl | rfl | rfl | rfl | rfl | rfl | rfl | rfl <;> exact ⟨e, h ▸ rfl, rfl, fun a h0 => h0⟩
    · rcases (show i = 0 ∨ i = 1 ∨ i = 2 ∨ i = 3 ∨ i = 4 ∨ i = 5 ∨ i = 6 ∨ i = 7 by omega) with rfl | rfl | rfl | rfl | rfl | rfl | rfl | rfl <;> exact ⟨e, h ▸ rfl, rfl, fun a h0 => h0⟩
    · rcases (show i = 0 ∨ i = 1 ∨ i = 2 ∨ i = 3 ∨ i = 4 ∨ i = 5 ∨ i = 6 ∨ i = 7 ∨ i = 8 ∨ i = 9 ∨ i = 10 by omega) with rfl | rfl | rfl | rfl | rfl | rfl | rfl | rfl | rfl | rfl | rfl <;> exact ⟨e, h ▸ rfl, rfl, fun a h0 => h0⟩
    · rcases (show i = 0 ∨ i = 1 by omega) with rfl | rfl <;> exact ⟨e, h ▸ rfl, rfl, fun a h0 => h0⟩
  · intro g g' e e' h h' q
    have hv := key g e h
    have hv' := key g' e' h'
    obtain ⟨kd, i⟩ := g
    obtain ⟨kd', i'⟩ := g'
    have hq : numI kd i = numI kd' i' := (Prod.mk.inj q).2
    have n8 : ∀ i, numI 8 i = if i < 3 then 28 + i else 3 + 3 * (i - 3) := fun _ => rfl
    have n9 : ∀ i, numI 9 i = if i = 0 then 32 else 31 := fun _ => rfl
    have n4 : ∀ i, numI 4 i = 2 + 3 * i := fun _ => rfl
    have n5 : ∀ i, numI 5 i = 4 + 3 * i := fun _ => rfl
    have n0 : ∀ i, numI 0 i = 0 := fun _ => rfl
    have n1 : ∀ i, numI 1 i = 27 := fun _ => rfl
    have n2 : ∀ i, numI 2 i = 1 := fun _ => rfl
    have n3 : ∀ i, numI 3 i = 26 := fun _ => rfl
    rcases sI_live hv with ⟨rfl, rfl⟩ | ⟨rfl, rfl⟩ | ⟨rfl, rfl⟩ | ⟨rfl, rfl⟩ | ⟨rfl, hi⟩ | ⟨rfl, hi⟩ | ⟨rfl, hi⟩ | ⟨rfl, hi⟩ <;> rcases sI_live hv' with ⟨rfl, rfl⟩ | ⟨rfl, rfl⟩ | ⟨rfl, rfl⟩ | ⟨rfl, rfl⟩ | ⟨rfl, hi'⟩ | ⟨rfl, hi'⟩ | ⟨rfl, hi'⟩ | ⟨rfl, hi'⟩ <;> simp only [n0, n1, n2, n3, n4, n5, n8, n9] at hq <;> first
      | rfl
      | (exfalso; omega)
      | (exfalso; split at hq <;> omega)
      | (exfalso; split at hq <;> split at hq <;> omega)
      | (have : i = i' := (by omega); rw [this])
      | (have : i = i' := (by split at hq <;> split at hq <;> omega); rw [this])
def clm6 (x : Int32) : Int32 := if 0 < (if 65536 < x then 65536 else x) then (if 65536 < x then 65536 else x) else 0
abbrev pc_X6_init (D : va_G) (cy : Nat → ClassId) (A : Nat → Prop) (ad : Nat × Nat → Nat) (U : State) : Prop := zw D A ad (cL cy ad zC [XH 0 .null .null .null .null]) U.heap ∧ va_K D vwCl (ztys cy) U ∧ (∀ q : Nat, U.heap.size ≤ q → A q) ∧ va_AO RX1 U ∧ va_AO RX2 U ∧ va_AO RX4 U ∧ NW U
abbrev qc_X6_init (D : va_G) (cy : Nat → ClassId) (A : Nat → Prop) (a0 : Nat) (x1 : Int32) : (Nat × Nat → Nat) → State → Prop := fun u t => u (0, 0) = a0 ∧ zw D A u (cG cy u (sI (clm6 x1))) t.heap
theorem pb_X6_init (D : va_G) (cy : Nat → ClassId) (A : Nat → Prop) (ad : Nat × Nat → Nat) (av : List Value) : FrameBlind (va_Pc av (pc_X6_init D cy A ad)) := fun a U g mk q => by
  obtain ⟨q0, qP, qK, qA, q1, q2, q3, q4⟩ := q
  exact ⟨q0, qP, va_K.moved (u := U) (U := U.calling g mk a) (Vm.Alike.refl U.vm) qK, qA, va_AO.moved (u := U) (U := U.calling g mk a) (Vm.Alike.refl U.vm) q1, va_AO.moved (u := U) (U := U.calling g mk a) (Vm.Alike.refl U.vm) q2, va_AO.moved (u := U) (U := U.calling g mk a) (Vm.Alike.refl U.vm) q3, q4.same rfl⟩
set_option maxHeartbeats 4000000 in
set_option maxRecDepth 100000 in
theorem kc_X6_init (l : Launch) (D : va_G) (cy : Nat → ClassId) (A : Nat → Prop) (ad : Nat × Nat → Nat) (a0 : Nat) (x1 : Int32) (ha0 : ad (10, 0) = a0) : Met l yX6_init (wz yX6_init cX6_init 3 none) ({ frames := 2, cells := 32, slots := 487, locals := 60 } : Room) (va_Pc [.ref a0, .int x1] (pc_X6_init D cy A ad)) (va_Qv (fun _ => True) (qc_X6_init D cy A a0 x1) A) 32 487 A := by
  refine Met.ofW (cc := cX6_init) (maxL := 3) (ret := none) (by decide) rfl ?_
  intro p e s m args below meth c s₁ B hml hv
  obtain ⟨rfl, hw, hK, hA, hO1, hO2, hO4, hN⟩ := hv
  have hx := B.exec
  have hb := B.bytes
  have hr := B.returns
  have hts := atoms_spec (ws := (wz yX6_init cX6_init 3 none)) B.pre
  have hown : s.vm.findClass RX6 = some m.cls := findClass_of_methodNamed B.named
  have hlocks := B.notSynchronized
  have hin : meth.name = "<init>" := (name_of_methodNamed B.named B.method).1
  have S : CallFix p m c cX6_init 3 s ([.ref a0, .int x1] : List Value).toArray (wz yX6_init cX6_init 3 none) RX6 := ⟨hx, hb, hml, hown, hts⟩
  have hX1 : ∀ w ∈ wsX10, w ∈ (wz yX6_init cX6_init 3 none) := fun w h => wz_in (inlX1 w h)
  have hX5 : ∀ w ∈ wsX50, w ∈ (wz yX6_init cX6_init 3 none) := fun w h => wz_in (inlX5 w h)
  have hX6 : ∀ w ∈ wsX60, w ∈ (wz yX6_init cX6_init 3 none) := fun w h => wz_in (inlX6 w h)
  have hS : va_S A s.heap s.heap [] := va_S.rf
  have hl := lv_entry ([.ref a0, .int x1]) (n := 3) (Nat.le_of_ble_eq_true rfl)
  rw [lg_entry_eq]
  generalize (lg_sl ([.ref a0, .int x1]) ++ List.replicate (3 - (lg_sl ([.ref a0, .int x1])).length) Slot.unset).toArray = ls at hl ⊢
  have hl : lv_has ls 3 [(0, .ref a0), (1, .int x1)] := hl
  refine lv_aload_n hx hb dX6_init_0 rfl (lv_at hl 0 rfl) ?_
  refine W.objInit hx hb hown (hts _ (wz_in (zin1 _ (List.mem_of_getElem? (i := 15) rfl)))) (hts _ (wz_in (zin1 _ (List.mem_of_getElem? (i := 16) rfl)))) (hts _ (wz_in (zin1 _ (List.mem_of_getElem? (i := 17) rfl)))) rfl (by rw [hml]; exact hl.1) rfl dX6_init_1 (Nat.le_of_ble_eq_true rfl) (Nat.le_of_ble_eq_true rfl) ?_
  refine W.eq (g2 := F0 m 4 ls []) rfl ?_
  refine lv_aload_n hx hb dX6_init_4 rfl (lv_at hl 0 rfl) ?_
  refine lv_iconst (v := (0 : Int32)) hx hb dX6_init_5 (by decide) ?_
  refine lv_iload_n hx hb dX6_init_6 rfl (lv_at hl 1 rfl) ?_
  refine lv_ldc (v := (65536 : Int32)) hx hb hown (hts _ (wz_in (zin1 _ (List.mem_of_getElem? (i := 18) rfl)))) dX6_init_7 ?_
  refine va_mmin hx hb (hml.trans hl.1.symm) hown (hts _ (wz_in (zin1 _ (List.mem_of_getElem? (i := 19) rfl)))) (hts _ (wz_in (zin1 _ (List.mem_of_getElem? (i := 20) rfl)))) (hts _ (wz_in (zin1 _ (List.mem_of_getElem? (i := 21) rfl)))) (hts _ (wz_in (zin1 _ (List.mem_of_getElem? (i := 22) rfl)))) (Nat.le_of_ble_eq_true rfl) (Nat.le_of_ble_eq_true rfl) (Nat.zero_le _) (Nat.zero_le _) dX6_init_9 ?_
  refine va_mmax hx hb (hml.trans hl.1.symm) hown (hts _ (wz_in (zin1 _ (List.mem_of_getElem? (i := 23) rfl)))) (hts _ (wz_in (zin2 _ (List.mem_of_getElem? (i := 0) rfl)))) (hts _ (wz_in (zin1 _ (List.mem_of_getElem? (i := 21) rfl)))) (hts _ (wz_in (zin2 _ (List.mem_of_getElem? (i := 1) rfl)))) (Nat.le_of_ble_eq_true rfl) (Nat.le_of_ble_eq_true rfl) (Nat.zero_le _) (Nat.zero_le _) dX6_init_12 ?_
  refine cl_putF (v := .int (clm6 x1)) S hX6 tyX6 tyX6_ok nmX6 hK hw hS 0 ha0 rfl rfl 0 (by decide) (wz_in (zin2 _ (List.mem_of_getElem? (i := 2) rfl))) rfl rfl hin rfl rfl rfl (Nat.le_of_ble_eq_true rfl) (Nat.zero_lt_succ _) dX6_init_15 (fun H locs hw hS => ?_)
  replace hw : zw D A ad (cL cy ad zC [XH (clm6 x1) .null .null .null .null]) H := hw
  generalize hbud : clm6 x1 = bud at hw
  refine lv_aload_n hx hb dX6_init_18 rfl (lv_at hl 0 rfl) ?_
  refine lv_bipush (v := (8 : Int32)) hx hb dX6_init_19 (by decide) ?_
  refine cl_newq (C := RX1) (N' := 8) S (wz_in (zin2 _ (List.mem_of_getElem? (i := 3) rfl))) hO1 hK hw hS hA 4 rfl (by decide) (by decide) (Nat.le_of_ble_eq_true rfl) (Nat.le_of_ble_eq_true rfl) (Nat.le_of_ble_eq_true rfl) dX6_init_21 (fun q1 H hw hS => ?_)
  replace ha0 : adT ad 1 q1 (10, 0) = a0 := (adT_n ad 1 q1 (by intro z; cases z)).trans ha0
  have ha1 : adT ad 1 q1 (10, 1) = q1 := adT_s ad 1 q1
  replace hw : zw D A (adT ad 1 q1) (cL cy (adT ad 1 q1) zC [XH bud .null .null .null .null, .inl (cy 4, 8, .inr (.inr (.inr (.inr (fun _ => none)))))]) H := hw
  generalize adT ad 1 q1 = ad at hw ha0 ha1
  subst ha1
  refine cl_putF (v := .ref (ad (10, 1))) S hX6 tyX6 tyX6_ok nmX6 hK hw hS 0 ha0 rfl rfl 1 (by decide) (wz_in (zin2 _ (List.mem_of_getElem? (i := 4) rfl))) rfl rfl hin rfl rfl rfl (Nat.le_of_ble_eq_true rfl) (Nat.zero_lt_succ _) dX6_init_24 (fun H locs hw hS => ?_)
  have hr0 : rowC cy ad 0 = .inl (cy 4, 8, .inr (.inr (.inr (.inr (fun _ => none))))) := by unfold rowC; simp only [Nat.not_lt_zero, if_false]
  replace hw : zw D A ad (cL cy ad zC (XL cy ad bud .null .null .null 0)) H := by unfold XL; rw [hr0]; exact hw
  refine lv_iconst (v := nI 0) hx hb dX6_init_27 (by decide) ?_
  refine lv_istore_n (lv' := [(2, .int (nI 0)), (0, .ref a0), (1, .int x1)]) hx hb dX6_init_28 rfl hl (by decide) rfl (fun ls hl => ?_)
  have L : ∀ (n i : Nat) (ad : Nat × Nat → Nat) (H : Heap) (locs : List Loc) (ls : Array Slot), i + n = 8 → ad (10, 0) = a0 → zw D A ad (cL cy ad zC (XL cy ad bud .null .null .null i)) H → va_S A s.heap H locs → lv_has ls 3 [(0, .ref a0), (1, .int x1), (2, .int (nI i))] → W p l e (headSpec (wz yX6_init cX6_init 3 none) ({ frames := 2, cells := 32, slots := 487, locals := 60 } : Room)).room s m ([.ref a0, .int x1] : List Value).toArray below meth c H locs (1 + 3 * i) (8 + 37 * i) (MQ below (va_Qv (fun _ => True) (qc_X6_init D cy A a0 x1) A) ([.ref a0, .int x1] : List Value).toArray s 32 487 A) (F0 m 29 ls []) := by
    intro n
    induction n with
    | zero =>
      intro i ad H locs ls hi ha0 hw hS hl
      have hi : i = 8 := by omega
      subst hi
      refine lv_iload_n hx hb dX6_init_29 rfl (lv_at hl 2 rfl) ?_
      refine lv_aload_n hx hb dX6_init_30 rfl (lv_at hl 0 rfl) ?_
      refine cl_get (v := .ref (ad (10, 1))) S hX6 hK hw 0 ha0 rfl rfl 1 (by decide) (wz_in (zin2 _ (List.mem_of_getElem? (i := 4) rfl))) rfl rfl dX6_init_31 ?_
      refine zr_alen (g := (10, 1)) (v := nI 8) S hK hw 4 (cL_t.trans rfl) rfl rfl dX6_init_34 ?_
      refine lv_icmp_ge (tgt := 57) hx hb dX6_init_35 (by decide) (fun _ => ?_) (fun q => absurd (nI_le (Nat.le_refl 8) (by omega)) q)
      refine lv_aload_n hx hb dX6_init_57 rfl (lv_at hl 0 rfl) ?_
      refine lv_bipush (v := (20 : Int32)) hx hb dX6_init_58 (by decide) ?_
      refine cl_newq (C := RX2) (N' := 20) S (wz_in (zin2 _ (List.mem_of_getElem? (i := 7) rfl))) hO2 hK hw hS hA 5 rfl (by decide) (by decide) (Nat.le_of_ble_eq_true rfl) (Nat.le_of_ble_eq_true rfl) (Nat.le_of_ble_eq_true rfl) dX6_init_60 (fun q2 H hw hS => ?_)
      rw [XL_len] at hw
      have hlow : ∀ t, t < 26 → adT ad 26 q2 (10, t) = ad (10, t) := fun t ht => adT_n ad 26 q2 (fun z => by have := (Prod.mk.inj z).2; omega)
      have ha2 : adT ad 26 q2 (10, 26) = q2 := adT_s ad 26 q2
      replace hw : zw D A (adT ad 26 q2) (cL cy (adT ad 26 q2) zC (XH bud (.ref (adT ad 26 q2 (10, 1))) .null .null .null :: rowC cy (adT ad 26 q2) 8 :: (CL cy (adT ad 26 q2) 8 ++ [.inl (cy 5, 20, .inr (.inr (.inr (.inr (fun _ => none)))))]))) H := by
        rw [hlow 1 (by omega), rowC_congr (ad := ad) hlow, CL_congr (ad := ad) 8 hlow]
        exact hw
      replace ha0 : adT ad 26 q2 (10, 0) = a0 := (hlow 0 (by omega)).trans ha0
      generalize adT ad 26 q2 = ad at hw ha0 ha2
      clear hlow
      subst ha2
      refine cl_putF (v := .ref (ad (10, 26))) S hX6 tyX6 tyX6_ok nmX6 hK hw hS 0 ha0 rfl rfl 2 (by decide) (wz_in (zin2 _ (List.mem_of_getElem? (i := 8) rfl))) rfl rfl hin rfl rfl rfl (Nat.le_of_ble_eq_true rfl) (Nat.zero_lt_succ _) dX6_init_63 (fun H locs hw hS => ?_)
      replace hw : zw D A ad (cL cy ad zC (XL cy ad bud (.ref (ad (10, 26))) .null .null 8 ++ [.inl (cy 5, 20, .inr (.inr (.inr (.inr (fun _ => none)))))])) H := hw
      have hlen : (XL cy ad bud (.ref (ad (10, 26))) .null .null 8 ++ ([.inl (cy 5, 20, .inr (.inr (.inr (.inr (fun _ => none)))))] : List va_E)).length = 27 := by rw [List.length_append, XL_len]; rfl
      refine lv_aload_n hx hb dX6_init_66 rfl (lv_at hl 0 rfl) ?_
      refine cl_new (C := RX5) (T := TX5) (N := 11) (ci := 5) (fs := [.null, .null, .null, .null, .null, .null, .int 0, .int 0, .int 0, .int 0, .int 0]) S hX5 tyX5 tyX5_ok (wz_in (zin2 _ (List.mem_of_getElem? (i := 9) rfl))) (wz_in (zin2 _ (List.mem_of_getElem? (i := 10) rfl))) (wz_in (zin2 _ (List.mem_of_getElem? (i := 11) rfl))) hK hw hS hA rfl (fun z hz => by match z, hz with | 0, _ => rfl | 1, _ => rfl | 2, _ => rfl | 3, _ => rfl | 4, _ => rfl | 5, _ => rfl | 6, _ => rfl | 7, _ => rfl | 8, _ => rfl | 9, _ => rfl | 10, _ => rfl) (Nat.le_of_ble_eq_true rfl) (Nat.le_of_ble_eq_true rfl) dX6_init_67 (fun q5 H hw hS => ?_)
      refine lv_dup hx hb dX6_init_70 rfl ?_
      generalize hX : (XL cy ad bud (.ref (ad (10, 26))) .null .null 8 ++ [.inl (cy 5, 20, .inr (.inr (.inr (.inr (fun _ => none)))))]) = X at hw hlen
      refine va_callv (va_runIN (As := []) (rest := [.ref q5, .ref a0]) S (kc_X5_init l D cy A (adT ad X.length q5) zC X q5 (adT_s _ _ _)) ⟨va_cnB 0 hts (wz_gd (zin2 _ (List.mem_of_getElem? (i := 22) rfl))) rfl rfl rfl (hN.2 _ (List.mem_of_getElem? (i := 1) rfl)) (hts _ (wz_in (zin2 _ (List.mem_of_getElem? (i := 11) rfl)))) (by decide +kernel) ⟨Nat.le_of_ble_eq_true rfl, Nat.le_of_ble_eq_true rfl⟩, rfl, hts _ (wz_in (zin2 _ (List.mem_of_getElem? (i := 21) rfl)))⟩ ⟨pb_X5_init D cy A (adT ad X.length q5) zC X _, fun U hU hW => ⟨rfl, by rw [hU]; exact hw, va_K.moved hW.alike hK, fun z hz => hA z (Nat.le_trans hS.1 (by rw [← hU]; exact hz))⟩⟩ rfl rfl hl.1 rfl (lv_room (Nat.le_of_ble_eq_true rfl)) dX6_init_71 ⟨Nat.le_of_ble_eq_true rfl, Nat.le_of_ble_eq_true rfl⟩) hS (fun q _ h => h) (fun q h => h) (fun u t H1 locs1 ht hvm hq hB hz1 hk1 hS1 => ?_)
      obtain ⟨p1, p2, p3, p4⟩ := u
      replace hw : zw D A (adT (adT (adT (adT (adT ad X.length q5) (X.length + 1) p1) (X.length + 2) p2) (X.length + 3) p3) (X.length + 4) p4) (cL cy (adT (adT (adT (adT (adT ad X.length q5) (X.length + 1) p1) (X.length + 2) p2) (X.length + 3) p3) (X.length + 4) p4) zC (X ++ [.inr (5, [.ref p1, .ref p2, .ref p3, .ref p4, .ref p2, .ref p3, .int 0, .int 0, .int 0, .int 0, .int 0]), .inl (cy 2, 16, .inr (.inl (fun _ => 0))), .inl (cy 2, 8, .inr (.inl (fun _ => 0))), .inl (cy 2, 8, .inr (.inl (fun _ => 0))), .inl (cy 0, 0, .inl (fun _ => 0))])) t.heap := hB
      rw [ht, hlen] at hw
      replace hS := hS1
      have hAD : ∃ ad5 : Nat × Nat → Nat, ad5 = adT (adT (adT (adT (adT ad 27 q5) (27 + 1) p1) (27 + 2) p2) (27 + 3) p3) (27 + 4) p4 := ⟨_, rfl⟩
      obtain ⟨ad5, had5⟩ := hAD
      have hlow : ∀ t, t < 27 → ad5 (10, t) = ad (10, t) := fun t ht => by
        have nz : ∀ k : Nat, 27 ≤ k → ((10, t) : Nat × Nat) ≠ (10, k) := fun k hk z => by have := (Prod.mk.inj z).2; omega
        rw [had5, adT_n _ _ _ (nz _ (by omega)), adT_n _ _ _ (nz _ (by omega)), adT_n _ _ _ (nz _ (by omega)), adT_n _ _ _ (nz _ (by omega)), adT_n _ _ _ (nz _ (by omega))]
      have f27 : ad5 (10, 27) = q5 := by rw [had5]; rw [adT_n _ _ _ (by intro z; cases z)]; rw [adT_n _ _ _ (by intro z; cases z)]; rw [adT_n _ _ _ (by intro z; cases z)]; rw [adT_n _ _ _ (by intro z; cases z)]; exact adT_s _ _ _
      have f28 : ad5 (10, 28) = p1 := by rw [had5]; rw [adT_n _ _ _ (by intro z; cases z)]; rw [adT_n _ _ _ (by intro z; cases z)]; rw [adT_n _ _ _ (by intro z; cases z)]; exact adT_s _ _ _
      have f29 : ad5 (10, 29) = p2 := by rw [had5]; rw [adT_n _ _ _ (by intro z; cases z)]; rw [adT_n _ _ _ (by intro z; cases z)]; exact adT_s _ _ _
      have f30 : ad5 (10, 30) = p3 := by rw [had5]; rw [adT_n _ _ _ (by intro z; cases z)]; exact adT_s _ _ _
      have f31 : ad5 (10, 31) = p4 := by rw [had5]; exact adT_s _ _ _
      rw [← had5] at hw
      clear had5
      subst hX
      replace hw : zw D A ad5 (cL cy ad5 zC (XH bud (.ref (ad5 (10, 1))) (.ref (ad5 (10, 26))) .null .null :: rowC cy ad5 8 :: (CL cy ad5 8 ++ [.inl (cy 5, 20, .inr (.inr (.inr (.inr (fun _ => none))))), .inr (5, [.ref (ad5 (10, 28)), .ref (ad5 (10, 29)), .ref (ad5 (10, 30)), .ref (ad5 (10, 31)), .ref (ad5 (10, 29)), .ref (ad5 (10, 30)), .int 0, .int 0, .int 0, .int 0, .int 0]), .inl (cy 2, 16, .inr (.inl (fun _ => 0))), .inl (cy 2, 8, .inr (.inl (fun _ => 0))), .inl (cy 2, 8, .inr (.inl (fun _ => 0))), .inl (cy 0, 0, .inl (fun _ => 0))]))) H1 := by
        rw [f28, f29, f30, f31, hlow 1 (by omega), hlow 26 (by omega), rowC_congr (ad := ad) (fun t ht => hlow t (by omega)), CL_congr (ad := ad) 8 (fun t ht => hlow t (by omega))]
        simp only [XL, List.cons_append, List.append_assoc, List.nil_append] at hw
        exact hw
      replace ha0 : ad5 (10, 0) = a0 := (hlow 0 (by omega)).trans ha0
      clear hlow
      clear f28 f29 f30 f31
      subst f27
      refine W.eq (g2 := F0 m 74 ls [.ref (ad5 (10, 27)), .ref a0]) rfl ?_
      refine cl_putF (v := .ref (ad5 (10, 27))) S hX6 tyX6 tyX6_ok nmX6 hK hw hS 0 ha0 rfl rfl 3 (by decide) (wz_in (zin2 _ (List.mem_of_getElem? (i := 12) rfl))) rfl rfl hin rfl rfl rfl (Nat.le_of_ble_eq_true rfl) (Nat.zero_lt_succ _) dX6_init_74 (fun H locs hw hS => ?_)
      refine lv_aload_n hx hb dX6_init_77 rfl (lv_at hl 0 rfl) ?_
      refine lv_bipush (v := (120 : Int32)) hx hb dX6_init_78 (by decide) ?_
      replace hw : zw D A ad5 (cL cy ad5 zC (XH bud (.ref (ad5 (10, 1))) (.ref (ad5 (10, 26))) (.ref (ad5 (10, 27))) .null :: rowC cy ad5 8 :: (CL cy ad5 8 ++ [.inl (cy 5, 20, .inr (.inr (.inr (.inr (fun _ => none))))), .inr (5, [.ref (ad5 (10, 28)), .ref (ad5 (10, 29)), .ref (ad5 (10, 30)), .ref (ad5 (10, 31)), .ref (ad5 (10, 29)), .ref (ad5 (10, 30)), .int 0, .int 0, .int 0, .int 0, .int 0]), .inl (cy 2, 16, .inr (.inl (fun _ => 0))), .inl (cy 2, 8, .inr (.inl (fun _ => 0))), .inl (cy 2, 8, .inr (.inl (fun _ => 0))), .inl (cy 0, 0, .inl (fun _ => 0))]))) H := hw
      refine cl_newa (N' := 120) (ty := .byte) (a0 := (120, .inl (fun _ => 0))) S rfl (wz_in (zin2 _ (List.mem_of_getElem? (i := 13) rfl))) hK hw hS hA 0 rfl (fun _ => rfl) (by decide) (by decide) (Nat.le_of_ble_eq_true rfl) (Nat.le_of_ble_eq_true rfl) (Nat.le_of_ble_eq_true rfl) dX6_init_80 (fun q6 H hw hS => ?_)
      have hlen2 : ∀ (e0 e1 : va_E) (Y : List va_E), Y.length = 6 → (e0 :: e1 :: (CL cy ad5 8 ++ Y)).length = 32 := fun e0 e1 Y hY => by
        show (CL cy ad5 8 ++ Y).length + 1 + 1 = 32
        rw [List.length_append, CL_len, hY]
      rw [hlen2 _ _ _ rfl] at hw
      have hlow : ∀ t, t < 32 → adT ad5 32 q6 (10, t) = ad5 (10, t) := fun t ht => adT_n ad5 32 q6 (fun z => by have := (Prod.mk.inj z).2; omega)
      have f32 : adT ad5 32 q6 (10, 32) = q6 := adT_s ad5 32 q6
      replace ha0 : adT ad5 32 q6 (10, 0) = a0 := (hlow 0 (by omega)).trans ha0
      generalize adT ad5 32 q6 = ad6 at hw hlow f32 ha0
      subst f32
      replace hw : zw D A ad6 (cL cy ad6 zC (XH bud (.ref (ad6 (10, 1))) (.ref (ad6 (10, 26))) (.ref (ad6 (10, 27))) .null :: rowC cy ad6 8 :: (CL cy ad6 8 ++ [.inl (cy 5, 20, .inr (.inr (.inr (.inr (fun _ => none))))), .inr (5, [.ref (ad6 (10, 28)), .ref (ad6 (10, 29)), .ref (ad6 (10, 30)), .ref (ad6 (10, 31)), .ref (ad6 (10, 29)), .ref (ad6 (10, 30)), .int 0, .int 0, .int 0, .int 0, .int 0]), .inl (cy 2, 16, .inr (.inl (fun _ => 0))), .inl (cy 2, 8, .inr (.inl (fun _ => 0))), .inl (cy 2, 8, .inr (.inl (fun _ => 0))), .inl (cy 0, 0, .inl (fun _ => 0)), .inl (cy 0, 120, .inl (fun _ => 0))]))) H := by
        rw [hlow 1 (by omega), hlow 26 (by omega), hlow 27 (by omega), hlow 28 (by omega), hlow 29 (by omega), hlow 30 (by omega), hlow 31 (by omega), rowC_congr (ad := ad5) (fun t ht => hlow t (by omega)), CL_congr (ad := ad5) 8 (fun t ht => hlow t (by omega))]
        simp only [List.cons_append, List.append_assoc, List.nil_append] at hw
        exact hw
      refine cl_putF (v := .ref (ad6 (10, 32))) S hX6 tyX6 tyX6_ok nmX6 hK hw hS 0 ha0 rfl rfl 4 (by decide) (wz_in (zin2 _ (List.mem_of_getElem? (i := 14) rfl))) rfl rfl hin rfl rfl rfl (Nat.le_of_ble_eq_true rfl) (Nat.zero_lt_succ _) dX6_init_82 (fun H locs hw hS => ?_)
      replace hw : zw D A ad6 (cL cy ad6 zC (XF cy ad6 bud)) H := hw
      have hw := init_ren hw
      subst hbud
      exact W.vret hx hb hr (fun t ht hW => ⟨⟨adI ad6, rfl, trivial, ⟨ha0, by rw [ht]; exact hw⟩⟩, hS.F ht⟩) hS.2.2 dX6_init_85
    | succ n ih =>
      intro i ad H locs ls hi ha0 hw hS hl
      refine lv_iload_n hx hb dX6_init_29 rfl (lv_at hl 2 rfl) ?_
      refine lv_aload_n hx hb dX6_init_30 rfl (lv_at hl 0 rfl) ?_
      refine cl_get (v := .ref (ad (10, 1))) S hX6 hK hw 0 ha0 rfl rfl 1 (by decide) (wz_in (zin2 _ (List.mem_of_getElem? (i := 4) rfl))) rfl rfl dX6_init_31 ?_
      refine zr_alen (g := (10, 1)) (v := nI 8) S hK hw 4 (cL_t.trans rfl) rfl rfl dX6_init_34 ?_
      refine lv_icmp_ge (tgt := 57) hx hb dX6_init_35 (by decide) (fun q => absurd ((nI_leI (by omega) (by omega)).mp q) (by omega)) (fun _ => ?_)
      refine lv_aload_n hx hb dX6_init_38 rfl (lv_at hl 0 rfl) ?_
      refine cl_get (v := .ref (ad (10, 1))) S hX6 hK hw 0 ha0 rfl rfl 1 (by decide) (wz_in (zin2 _ (List.mem_of_getElem? (i := 4) rfl))) rfl rfl dX6_init_39 ?_
      refine lv_iload_n hx hb dX6_init_42 rfl (lv_at hl 2 rfl) ?_
      have hlen : (XL cy ad bud .null .null .null i).length = 2 + 3 * i := XL_len _ _ _ _ _ _ _
      refine cl_new (C := RX1) (T := TX1) (N := 9) (ci := 2) (fs := [.null, .null, .int 0, .int 0, .int 0, .int 0, .int 0, .int 0, .int 0]) S hX1 tyX1 tyX1_ok (wz_in (zin2 _ (List.mem_of_getElem? (i := 3) rfl))) (wz_in (zin2 _ (List.mem_of_getElem? (i := 5) rfl))) (wz_in (zin2 _ (List.mem_of_getElem? (i := 6) rfl))) hK hw hS hA rfl (fun z hz => by match z, hz with | 0, _ => rfl | 1, _ => rfl | 2, _ => rfl | 3, _ => rfl | 4, _ => rfl | 5, _ => rfl | 6, _ => rfl | 7, _ => rfl | 8, _ => rfl) (show 1 + 3 * i + 1 ≤ 32 by omega) (show 8 + 37 * i + 9 ≤ 487 by omega) dX6_init_43 (fun q H hw hS => ?_)
      refine lv_dup hx hb dX6_init_46 rfl ?_
      generalize hX : XL cy ad bud .null .null .null i = X at hw hlen
      refine va_callv (va_runIN (As := []) (rest := [.ref q, .int (nI i), .ref (ad (10, 1))]) S (kc_X1_init l D cy A (adT ad X.length q) zC X q (adT_s _ _ _)) ⟨va_cnB 0 hts (wz_gd (zin2 _ (List.mem_of_getElem? (i := 16) rfl))) rfl rfl rfl (hN.2 _ (List.mem_of_getElem? (i := 0) rfl)) (hts _ (wz_in (zin2 _ (List.mem_of_getElem? (i := 6) rfl)))) (by decide +kernel) ⟨Nat.le_of_ble_eq_true rfl, Nat.le_of_ble_eq_true rfl⟩, rfl, hts _ (wz_in (zin2 _ (List.mem_of_getElem? (i := 15) rfl)))⟩ ⟨pb_X1_init D cy A (adT ad X.length q) zC X _, fun U hU hW => ⟨rfl, by rw [hU]; exact hw, va_K.moved hW.alike hK, fun z hz => hA z (Nat.le_trans hS.1 (by rw [← hU]; exact hz)), va_AO.moved hW.alike hO4⟩⟩ rfl rfl hl.1 rfl (lv_room (Nat.le_of_ble_eq_true rfl)) dX6_init_47 ⟨show 1 + 3 * i + 1 + 2 ≤ 32 by omega, show 8 + 37 * i + 9 + 28 ≤ 487 by omega⟩) hS (fun q _ h => h) (fun q h => h) (fun u t H1 locs1 ht hvm hq hB hz1 hk1 hS1 => ?_)
      obtain ⟨p1, p2⟩ := u
      replace hw : zw D A (adT (adT (adT ad X.length q) (X.length + 1) p1) (X.length + 2) p2) (cL cy (adT (adT (adT ad X.length q) (X.length + 1) p1) (X.length + 2) p2) zC (X ++ [.inr (2, [.ref p1, .ref p2, .int 0, .int 0, .int 0, .int 0, .int 0, .int 0, .int 0]), .inl (cy 2, 8, .inr (.inl (fun _ => 0))), .inl (cy 6, 20, .inr (.inr (.inr (.inr (fun _ => none)))))])) t.heap := hB
      rw [ht, hlen] at hw
      replace hS := hS1
      obtain ⟨ad5, had5⟩ : ∃ ad5 : Nat × Nat → Nat, ad5 = adT (adT (adT ad (2 + 3 * i) q) (2 + 3 * i + 1) p1) (2 + 3 * i + 2) p2 := ⟨_, rfl⟩
      have hne : ∀ t k : Nat, t ≠ k → ((10, t) : Nat × Nat) ≠ (10, k) := fun t k h z => h (Prod.mk.inj z).2
      have hlow : ∀ t, t < 2 + 3 * i → ad5 (10, t) = ad (10, t) := fun t ht => by rw [had5, adT_n _ _ _ (hne _ _ (by omega)), adT_n _ _ _ (hne _ _ (by omega)), adT_n _ _ _ (hne _ _ (by omega))]
      have f0 : ad5 (10, 2 + 3 * i) = q := by rw [had5, adT_n _ _ _ (hne _ _ (by omega)), adT_n _ _ _ (hne _ _ (by omega))]; exact adT_s _ _ _
      have f1 : ad5 (10, 3 + 3 * i) = p1 := by rw [had5, adT_n _ _ _ (hne _ _ (by omega)), show 3 + 3 * i = 2 + 3 * i + 1 by omega]; exact adT_s _ _ _
      have f2 : ad5 (10, 4 + 3 * i) = p2 := by rw [had5, show 4 + 3 * i = 2 + 3 * i + 2 by omega]; exact adT_s _ _ _
      rw [← had5] at hw
      clear had5
      subst hX
      replace hw : zw D A ad5 (cL cy ad5 zC (XH bud (.ref (ad5 (10, 1))) .null .null .null :: rowC cy ad5 i :: (CL cy ad5 (i + 1)))) H1 := by
        show zw D A ad5 (cL cy ad5 zC (XH bud (.ref (ad5 (10, 1))) .null .null .null :: rowC cy ad5 i :: (CL cy ad5 i ++ CS3 cy ad5 i))) H1
        unfold CS3
        rw [f1, f2, hlow 1 (by omega), rowC_congr (ad := ad) hlow, CL_congr (ad := ad) i hlow]
        simp only [XL, List.cons_append] at hw
        exact hw
      have hgv : cL cy ad5 zC (XH bud (.ref (ad5 (10, 1))) .null .null .null :: rowC cy ad5 i :: (CL cy ad5 (i + 1))) (10, 2 + 3 * i) = some (.inr (2, [.ref (ad5 (10, 3 + 3 * i)), .ref (ad5 (10, 4 + 3 * i)), .int 0, .int 0, .int 0, .int 0, .int 0, .int 0, .int 0])) := by
        rw [cL_t]
        rw [show 2 + 3 * i = 3 * i + 1 + 1 by omega, List.getElem?_cons_succ, List.getElem?_cons_succ]; show (CL cy ad5 (i + 1) : List va_E)[3 * i]? = _
        show (CL cy ad5 i ++ CS3 cy ad5 i)[3 * i]? = _
        rw [List.getElem?_append_right (by rw [CL_len]; exact Nat.le_refl _), CL_len, Nat.sub_self]
        rfl
      refine W.eq (g2 := F0 m 50 ls [.ref (ad5 (10, 2 + 3 * i)), .int (nI i), .ref (ad5 (10, 1))]) (by rw [f0, hlow 1 (by omega)]) ?_
      refine zr_aast (g := (10, 1)) (gv := (10, 2 + 3 * i)) (r := (RX1, TX1, 9)) S hK hw hS 4 2 (cL_t.trans rfl) rfl hgv rfl (vp_in_nI (by omega) (by omega)) dX6_init_50 (G1 := cL cy ad5 zC (XH bud (.ref (ad5 (10, 1))) .null .null .null :: rowC cy ad5 (i + 1) :: (CL cy ad5 (i + 1)))) ?_ ?_ (fun H locs hw hS => ?_)
      · rw [cL_t, nI_clamp (by omega)]
        have he : va_up (fun j => if j < i then some (ad5 (10, 2 + 3 * j)) else none) i (some (ad5 (10, 2 + 3 * i))) = fun j => if j < i + 1 then some (ad5 (10, 2 + 3 * j)) else none := by
          funext j
          by_cases hj : j = i
          · subst hj; rw [va_up_self, if_pos (by omega)]
          · rw [va_up_ne _ _ hj]
            by_cases hji : j < i
            · rw [if_pos hji, if_pos (by omega)]
            · rw [if_neg hji, if_neg (by omega)]
        rw [he]
        rfl
      · intro g hg
        exact cL_set (cy := cy) (ad := ad5) (σ := zC) (xs := XH bud (.ref (ad5 (10, 1))) .null .null .null :: rowC cy ad5 i :: (CL cy ad5 (i + 1))) (j := 1) (e := rowC cy ad5 (i + 1)) g hg
      refine lv_iinc (v := nI (i + 1)) (lv' := [(2, .int (nI (i + 1))), (0, .ref a0), (1, .int x1)]) hx hb dX6_init_51 hl (k := 2) rfl (nI_1 i) (by decide) rfl (fun ls hl => ?_)
      refine lv_goto (tgt := 29) hx hb dX6_init_54 (by decide) ?_
      refine W.widen (k := 1 + 3 * (i + 1)) (n := 8 + 37 * (i + 1)) (by omega) (by omega) ?_
      exact ih (i + 1) ad5 _ _ _ (by omega) ((hlow 0 (by omega)).trans ha0) hw hS (lv_sub hl [1, 2, 0] rfl)
  exact L 8 0 ad _ _ _ rfl ha0 hw hS (lv_sub hl [1, 2, 0] rfl)
