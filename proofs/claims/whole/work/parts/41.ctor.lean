/-! ===== rows over things made behind others (X: what was made before) ===== -/
theorem xs_get {α : Type} (X Y : List α) (j : Nat) : (X ++ Y)[X.length + j]? = Y[j]? := by
  rw [List.getElem?_append_right (Nat.le_add_right _ _), Nat.add_sub_cancel_left]
theorem xs_set {α : Type} (X Y : List α) (j : Nat) (v : α) : (X ++ Y).set (X.length + j) v = X ++ Y.set j v := by
  rw [List.set_append_right _ _ (Nat.le_add_right _ _), Nat.add_sub_cancel_left]
section CPR
variable {p : Program} {l : Launch} {e : Env} {R : Room} {s : State} {m : MethodId} {args : Array Value} {below : List Frame} {meth : Method} {c : Code} {H : Heap} {locs : List Loc} {cells slots : Nat} {Q : State → Prop}
variable {cc : ByteArray} {nL pc : Nat} {ls : Array Slot} {rest : List Value} {D : va_G} {A : Nat → Prop} {cy : Nat → ClassId} {H0 : Heap} {Ts : List Cond} {ad : Nat × Nat → Nat} {σ : CS} {own : String} {X Y : List va_E}
theorem cp_get (S : CallFix p m c cc nL s args Ts own) {C ref : String} {T : u_T} {N ci index : Nat} (hin : ∀ w ∈ u_ws C T N, w ∈ Ts) (hK : va_K D vwCl (ztys cy) s) (hw : zw D A ad (cL cy ad σ (X ++ Y)) H) (j : Nat) {a : Nat} (ha : ad (10, X.length + j) = a) {fs : List Value} (he : Y[j]? = some (.inr (ci, fs))) (hc : vwCl[ci]? = some (C, T, N)) (k : Nat) (hk : k < N) (hlink : Cond.fieldLink own index ref (T k).2.1 (T k).2.2.1 ∈ Ts) (hd1 : (T k).1 = ref) {v : Value} (hv : fs[k]? = some v) (hdg : decode cc pc = .ok (.getfield index, 3))
    (kk : W p l e R s m args below meth c H locs cells slots Q (F0 m (pc + 3) ls (v :: rest))) : W p l e R s m args below meth c H locs cells slots Q (F0 m pc ls (.ref a :: rest)) :=
  cl_get S hin hK hw (X.length + j) ha ((xs_get X Y j).trans he) hc k hk hlink hd1 hv hdg kk
theorem cp_put (S : CallFix p m c cc nL s args Ts own) {C ref : String} {T : u_T} {N ci index : Nat} (hin : ∀ w ∈ u_ws C T N, w ∈ Ts) (ty0 : Nat → FieldType) (hty : ∀ k, k < N → parseFieldDescriptor (T k).2.2.1 = some (ty0 k)) (hnm : ∀ a, a < N → ∀ b, b < N → a ≠ b → (T a).2.1 ≠ (T b).2.1) (hK : va_K D vwCl (ztys cy) s) (hw : zw D A ad (cL cy ad σ (X ++ Y)) H) (hS0 : va_S A H0 H locs) (j : Nat) {a : Nat} (ha : ad (10, X.length + j) = a) {fs : List Value} (he : Y[j]? = some (.inr (ci, fs))) (hc : vwCl[ci]? = some (C, T, N)) (k : Nat) (hk : k < N) (hlink : Cond.fieldLink own index ref (T k).2.1 (T k).2.2.1 ∈ Ts) (hd1 : (T k).1 = ref) (hfin : (T k).2.2.2 = false) {v : Value} (hn : narrow (ty0 k) v = v) (hfit : fits (ty0 k) v = true) (hl : k < fs.length) (hj : j < Y.length) (hdg : decode cc pc = .ok (.putfield index, 3))
    (kk : ∀ (H1 : Heap) (locs1 : List Loc), zw D A ad (cL cy ad σ (X ++ Y.set j (.inr (ci, fs.set k v)))) H1 → va_S A H0 H1 locs1 → W p l e R s m args below meth c H1 locs1 cells slots Q (F0 m (pc + 3) ls rest)) : W p l e R s m args below meth c H locs cells slots Q (F0 m pc ls (v :: .ref a :: rest)) :=
  cl_put S hin ty0 hty hnm hK hw hS0 (X.length + j) ha ((xs_get X Y j).trans he) hc k hk hlink hd1 hfin hn hfit hl (by rw [List.length_append]; omega) hdg (fun H1 locs1 hw1 hS1 => kk H1 locs1 (by rw [xs_set] at hw1; exact hw1) hS1)
theorem cp_putF (S : CallFix p m c cc nL s args Ts own) {C ref : String} {T : u_T} {N ci index : Nat} (hin : ∀ w ∈ u_ws C T N, w ∈ Ts) (ty0 : Nat → FieldType) (hty : ∀ k, k < N → parseFieldDescriptor (T k).2.2.1 = some (ty0 k)) (hnm : ∀ a, a < N → ∀ b, b < N → a ≠ b → (T a).2.1 ≠ (T b).2.1) (hK : va_K D vwCl (ztys cy) s) (hw : zw D A ad (cL cy ad σ (X ++ Y)) H) (hS0 : va_S A H0 H locs) (j : Nat) {a : Nat} (ha : ad (10, X.length + j) = a) {fs : List Value} (he : Y[j]? = some (.inr (ci, fs))) (hc : vwCl[ci]? = some (C, T, N)) (k : Nat) (hk : k < N) (hlink : Cond.fieldLink own index ref (T k).2.1 (T k).2.2.1 ∈ Ts) (hd1 : (T k).1 = ref) (hfin : (T k).2.2.2 = true) (hin2 : meth.name = "<init>") (hdecl : (T k).1 = own) {v : Value} (hn : narrow (ty0 k) v = v) (hfit : fits (ty0 k) v = true) (hl : k < fs.length) (hj : j < Y.length) (hdg : decode cc pc = .ok (.putfield index, 3))
    (kk : ∀ (H1 : Heap) (locs1 : List Loc), zw D A ad (cL cy ad σ (X ++ Y.set j (.inr (ci, fs.set k v)))) H1 → va_S A H0 H1 locs1 → W p l e R s m args below meth c H1 locs1 cells slots Q (F0 m (pc + 3) ls rest)) : W p l e R s m args below meth c H locs cells slots Q (F0 m pc ls (v :: .ref a :: rest)) :=
  cl_putF S hin ty0 hty hnm hK hw hS0 (X.length + j) ha ((xs_get X Y j).trans he) hc k hk hlink hd1 hfin hin2 hdecl hn hfit hl (by rw [List.length_append]; omega) hdg (fun H1 locs1 hw1 hS1 => kk H1 locs1 (by rw [xs_set] at hw1; exact hw1) hS1)
theorem cp_fix {q : Nat} {e0 : va_E} {H1 : Heap} (h : zw D A (adT ad (X ++ Y).length q) (cL cy (adT ad (X ++ Y).length q) σ ((X ++ Y) ++ [e0])) H1) : zw D A (adT ad (X.length + Y.length) q) (cL cy (adT ad (X.length + Y.length) q) σ (X ++ (Y ++ [e0]))) H1 := by
  rw [List.length_append, List.append_assoc] at h
  exact h
theorem cp_newa (S : CallFix p m c cc nL s args Ts own) {atype : ArrayType} {ty : FieldType} (hty : newarray.typeOf atype = ty) (harr : Cond.arrayClass ty ∈ Ts) (hK : va_K D vwCl (ztys cy) s) (hw : zw D A ad (cL cy ad σ (X ++ Y)) H) (hS : va_S A H0 H locs) (hA : ∀ q, H0.size ≤ q → A q) (t : Nat) (ht : (ztys cy)[t]? = some (cy t, ty)) {n : Int32} {N' : Nat} {a0 : vp_A} (ha : ∀ cA : ClassId, vp_cell cA a0 = arrV cA N' (fun _ => defaultValue ty)) (hn : ¬ n < 0) (hN : n.toNatClampNeg = N') (hbytes : N' * componentBytes ty ≤ 536870912) (hcells : cells + 1 ≤ R.cells) (hslots : slots + N' ≤ R.slots) (hdg : decode cc pc = .ok (.newarray atype, 2))
    (kk : ∀ (q : Nat) (H1 : Heap), zw D A (adT ad (X.length + Y.length) q) (cL cy (adT ad (X.length + Y.length) q) σ (X ++ (Y ++ [.inl (cy t, a0)]))) H1 → va_S A H0 H1 locs → W p l e R s m args below meth c H1 locs (cells + 1) (slots + N') Q (F0 m (pc + 2) ls (.ref q :: rest))) : W p l e R s m args below meth c H locs cells slots Q (F0 m pc ls (.int n :: rest)) :=
  cl_newa S hty harr hK hw hS hA t ht ha hn hN hbytes hcells hslots hdg (fun q H1 h hS1 => kk q H1 (cp_fix h) hS1)
theorem cp_newq (S : CallFix p m c cc nL s args Ts own) {C : String} {index : Nat} (hcl : Cond.classLink own index C ∈ Ts) (hover : va_AO C s) (hK : va_K D vwCl (ztys cy) s) (hw : zw D A ad (cL cy ad σ (X ++ Y)) H) (hS : va_S A H0 H locs) (hA : ∀ q, H0.size ≤ q → A q) (t : Nat) (ht : (ztys cy)[t]? = some (cy t, .object C)) {n : Int32} {N' : Nat} (hn : ¬ n < 0) (hN : n.toNatClampNeg = N') (hbytes : N' * 4 ≤ 536870912) (hcells : cells + 1 ≤ R.cells) (hslots : slots + N' ≤ R.slots) (hdg : decode cc pc = .ok (.anewarray index, 3))
    (kk : ∀ (q : Nat) (H1 : Heap), zw D A (adT ad (X.length + Y.length) q) (cL cy (adT ad (X.length + Y.length) q) σ (X ++ (Y ++ [.inl (cy t, N', .inr (.inr (.inr (.inr (fun _ => none)))))]))) H1 → va_S A H0 H1 locs → W p l e R s m args below meth c H1 locs (cells + 1) (slots + N') Q (F0 m (pc + 3) ls (.ref q :: rest))) : W p l e R s m args below meth c H locs cells slots Q (F0 m pc ls (.int n :: rest)) :=
  cl_newq S hcl hover hK hw hS hA t ht hn hN hbytes hcells hslots hdg (fun q H1 h hS1 => kk q H1 (cp_fix h) hS1)
theorem cp_new (S : CallFix p m c cc nL s args Ts own) {C : String} {T : u_T} {N ci index : Nat} (hin : ∀ w ∈ u_ws C T N, w ∈ Ts) (ty : Nat → FieldType) (hty : ∀ k, k < N → parseFieldDescriptor (T k).2.2.1 = some (ty k)) (hcl : Cond.classLink own index C ∈ Ts) (hinst : Cond.instantiable C N ∈ Ts) (hini : Cond.initialized C ∈ Ts) (hK : va_K D vwCl (ztys cy) s) (hw : zw D A ad (cL cy ad σ (X ++ Y)) H) (hS : va_S A H0 H locs) (hA : ∀ q, H0.size ≤ q → A q) (hc : vwCl[ci]? = some (C, T, N)) {fs : List Value} (hfs : ∀ j, j < N → defaultValue (ty j) = vp_V fs j) (hcells : cells + 1 ≤ R.cells) (hslots : slots + N ≤ R.slots) (hdg : decode cc pc = .ok (.new index, 3))
    (kk : ∀ (q : Nat) (H1 : Heap), zw D A (adT ad (X.length + Y.length) q) (cL cy (adT ad (X.length + Y.length) q) σ (X ++ (Y ++ [.inr (ci, fs)]))) H1 → va_S A H0 H1 locs → W p l e R s m args below meth c H1 locs (cells + 1) (slots + N) Q (F0 m (pc + 3) ls (.ref q :: rest))) : W p l e R s m args below meth c H locs cells slots Q (F0 m pc ls rest) :=
  cl_new S hin ty hty hcl hinst hini hK hw hS hA hc hfs hcells hslots hdg (fun q H1 h hS1 => kk q H1 (cp_fix h) hS1)
end CPR
abbrev pc_X4_init (D : va_G) (cy : Nat → ClassId) (A : Nat → Prop) (ad : Nat × Nat → Nat) (σ : CS) (X : List va_E) (U : State) : Prop := zw D A ad (cL cy ad σ (X ++ [.inr (4, [.null, .int 0, .int 0, .int 0])])) U.heap ∧ va_K D vwCl (ztys cy) U ∧ (∀ q : Nat, U.heap.size ≤ q → A q)
abbrev qc_X4_init (D : va_G) (cy : Nat → ClassId) (A : Nat → Prop) (ad : Nat × Nat → Nat) (σ : CS) (X : List va_E) (x1 : Int32) : Nat → State → Prop := fun (u : Nat) (t : State) => match u with
    | q1 => zw D A (adT (ad) (X.length + 1) q1) (cL cy (adT (ad) (X.length + 1) q1) σ (X ++ [.inr (4, [.ref q1, .int x1, .int (-1 : Int32), .int 0]), .inl (cy 2, 8, .inr (.inl (fun _ => 0)))])) t.heap
set_option maxHeartbeats 4000000 in
set_option maxRecDepth 100000 in
theorem kc_X4_init (l : Launch) (D : va_G) (cy : Nat → ClassId) (A : Nat → Prop) (ad : Nat × Nat → Nat) (σ : CS) (X : List va_E) (a0 : Nat) (x1 : Int32) (ha0 : ad (10, X.length + 0) = a0) : Met l yX4_init (wz yX4_init cX4_init 2 none) ({ frames := 1, cells := 1, slots := 8, locals := 12 } : Room) (va_Pc [.ref a0, .int x1] (pc_X4_init D cy A ad σ X)) (va_Qv (fun _ => True) (qc_X4_init D cy A ad σ X x1) A) 1 8 A := by
  refine Met.ofW (cc := cX4_init) (maxL := 2) (ret := none) (by decide) rfl ?_
  intro p e s m args below meth c s₁ B hml hv
  obtain ⟨rfl, hw, hK, hA⟩ := hv
  have hx := B.exec
  have hb := B.bytes
  have hr := B.returns
  have hts := atoms_spec (ws := (wz yX4_init cX4_init 2 none)) B.pre
  have hown : s.vm.findClass RX4 = some m.cls := findClass_of_methodNamed B.named
  have hlocks := B.notSynchronized
  have hin : meth.name = "<init>" := (name_of_methodNamed B.named B.method).1
  have S : CallFix p m c cX4_init 2 s ([.ref a0, .int x1] : List Value).toArray (wz yX4_init cX4_init 2 none) RX4 := ⟨hx, hb, hml, hown, hts⟩
  have hX4 : ∀ w ∈ wsX40, w ∈ (wz yX4_init cX4_init 2 none) := fun w h => wz_in (inlX4 w h)
  have hS : va_S A s.heap s.heap [] := va_S.rf
  have hl := lv_entry ([.ref a0, .int x1]) (n := 2) (Nat.le_of_ble_eq_true rfl)
  rw [lg_entry_eq]
  generalize (lg_sl ([.ref a0, .int x1]) ++ List.replicate (2 - (lg_sl ([.ref a0, .int x1])).length) Slot.unset).toArray = ls at hl ⊢
  have hl : lv_has ls 2 [(0, .ref a0), (1, .int x1)] := hl
  refine lv_aload_n hx hb dX4_init_0 rfl (lv_at hl 0 rfl) ?_
  refine W.objInit hx hb hown (hts _ (wz_in (zin9 _ (List.mem_of_getElem? (i := 21) rfl)))) (hts _ (wz_in (zin1 _ (List.mem_of_getElem? (i := 16) rfl)))) (hts _ (wz_in (zin1 _ (List.mem_of_getElem? (i := 17) rfl)))) rfl (by rw [hml]; exact hl.1) rfl dX4_init_1 (Nat.le_of_ble_eq_true rfl) (Nat.le_of_ble_eq_true rfl) ?_
  refine W.eq (g2 := F0 m 4 ls []) rfl ?_
  refine lv_aload_n hx hb dX4_init_4 rfl (lv_at hl 0 rfl) ?_
  refine lv_bipush (v := (8 : Int32)) hx hb dX4_init_5 (by decide) ?_
  refine cp_newa (ty := .long) (a0 := (8, .inr (.inl (fun _ => 0)))) S rfl (wz_in (zin1 _ (List.mem_of_getElem? (i := 6) rfl))) hK hw hS hA 2 rfl (fun _ => rfl) (by decide) (by decide) (Nat.le_of_ble_eq_true rfl) (Nat.le_of_ble_eq_true rfl) (Nat.le_of_ble_eq_true rfl) dX4_init_7 (fun q1 H hw hS => ?_)
  have ha0 : (adT (ad) (X.length + 1) q1) (10, X.length + 0) = a0 := (adT_n (ad) (X.length + 1) q1 (fun z => by have := (Prod.mk.inj z).2; omega)).trans ha0
  have hw : zw D A (adT (ad) (X.length + 1) q1) (cL cy (adT (ad) (X.length + 1) q1) σ (X ++ [.inr (4, [.null, .int 0, .int 0, .int 0]), .inl (cy 2, 8, .inr (.inl (fun _ => 0)))])) H := hw
  refine cp_putF (v := .ref q1) S hX4 tyX4 tyX4_ok nmX4 hK hw hS 0 ha0 rfl rfl 0 (by decide) (wz_in (zin9 _ (List.mem_of_getElem? (i := 22) rfl))) rfl rfl hin rfl rfl rfl (Nat.le_of_ble_eq_true rfl) (Nat.le_of_ble_eq_true rfl) dX4_init_9 (fun H locs hw hS => ?_)
  have hw : zw D A (adT (ad) (X.length + 1) q1) (cL cy (adT (ad) (X.length + 1) q1) σ (X ++ [.inr (4, [.ref q1, .int 0, .int 0, .int 0]), .inl (cy 2, 8, .inr (.inl (fun _ => 0)))])) H := hw
  refine lv_aload_n hx hb dX4_init_12 rfl (lv_at hl 0 rfl) ?_
  refine lv_iconst (v := (-1 : Int32)) hx hb dX4_init_13 (by decide) ?_
  refine cp_put (v := .int (-1 : Int32)) S hX4 tyX4 tyX4_ok nmX4 hK hw hS 0 ha0 rfl rfl 2 (by decide) (wz_in (zin9 _ (List.mem_of_getElem? (i := 23) rfl))) rfl rfl rfl rfl (Nat.le_of_ble_eq_true rfl) (Nat.le_of_ble_eq_true rfl) dX4_init_14 (fun H locs hw hS => ?_)
  have hw : zw D A (adT (ad) (X.length + 1) q1) (cL cy (adT (ad) (X.length + 1) q1) σ (X ++ [.inr (4, [.ref q1, .int 0, .int (-1 : Int32), .int 0]), .inl (cy 2, 8, .inr (.inl (fun _ => 0)))])) H := hw
  refine lv_aload_n hx hb dX4_init_17 rfl (lv_at hl 0 rfl) ?_
  refine lv_iload_n hx hb dX4_init_18 rfl (lv_at hl 1 rfl) ?_
  refine cp_put (v := .int x1) S hX4 tyX4 tyX4_ok nmX4 hK hw hS 0 ha0 rfl rfl 1 (by decide) (wz_in (zin10 _ (List.mem_of_getElem? (i := 0) rfl))) rfl rfl rfl rfl (Nat.le_of_ble_eq_true rfl) (Nat.le_of_ble_eq_true rfl) dX4_init_19 (fun H locs hw hS => ?_)
  have hw : zw D A (adT (ad) (X.length + 1) q1) (cL cy (adT (ad) (X.length + 1) q1) σ (X ++ [.inr (4, [.ref q1, .int x1, .int (-1 : Int32), .int 0]), .inl (cy 2, 8, .inr (.inl (fun _ => 0)))])) H := hw
  exact W.vret hx hb hr (fun t ht hW => ⟨⟨(q1), rfl, trivial, by show zw D A (adT (ad) (X.length + 1) q1) (cL cy (adT (ad) (X.length + 1) q1) σ (X ++ [.inr (4, [.ref q1, .int x1, .int (-1 : Int32), .int 0]), .inl (cy 2, 8, .inr (.inl (fun _ => 0)))])) t.heap; rw [ht]; exact hw⟩, hS.F ht⟩) hS.2.2 dX4_init_22
theorem pb_X4_init (D : va_G) (cy : Nat → ClassId) (A : Nat → Prop) (ad : Nat × Nat → Nat) (σ : CS) (X : List va_E) (av : List Value) : FrameBlind (va_Pc av (pc_X4_init D cy A ad σ X)) := fun a U g mk q => by
  obtain ⟨q0, qP, qK, qA⟩ := q
  exact ⟨q0, qP, va_K.moved (u := U) (U := U.calling g mk a) (Vm.Alike.refl U.vm) qK, qA⟩
abbrev pc_X2_init (D : va_G) (cy : Nat → ClassId) (A : Nat → Prop) (ad : Nat × Nat → Nat) (σ : CS) (X : List va_E) (U : State) : Prop := zw D A ad (cL cy ad σ (X ++ [.inr (3, [.int 0, .null, .null, .null])])) U.heap ∧ va_K D vwCl (ztys cy) U ∧ (∀ q : Nat, U.heap.size ≤ q → A q)
abbrev qc_X2_init (D : va_G) (cy : Nat → ClassId) (A : Nat → Prop) (ad : Nat × Nat → Nat) (σ : CS) (X : List va_E) (x1 : Int32) (a2 : Nat) (a4 : Nat) : Unit → State → Prop := fun (_ : Unit) (t : State) => zw D A (ad) (cL cy (ad) σ (X ++ [.inr (3, [.int x1, .ref a2, .null, .ref a4])])) t.heap
set_option maxHeartbeats 4000000 in
set_option maxRecDepth 100000 in
theorem kc_X2_init (l : Launch) (D : va_G) (cy : Nat → ClassId) (A : Nat → Prop) (ad : Nat × Nat → Nat) (σ : CS) (X : List va_E) (a0 : Nat) (x1 : Int32) (a2 : Nat) (a4 : Nat) (ha0 : ad (10, X.length + 0) = a0) : Met l yX2_init (wz yX2_init cX2_init 5 none) ({ frames := 1, cells := 0, slots := 0, locals := 12 } : Room) (va_Pc [.ref a0, .int x1, .ref a2, .null, .ref a4] (pc_X2_init D cy A ad σ X)) (va_Qv (fun _ => True) (qc_X2_init D cy A ad σ X x1 a2 a4) A) 0 0 A := by
  refine Met.ofW (cc := cX2_init) (maxL := 5) (ret := none) (by decide) rfl ?_
  intro p e s m args below meth c s₁ B hml hv
  obtain ⟨rfl, hw, hK, hA⟩ := hv
  have hx := B.exec
  have hb := B.bytes
  have hr := B.returns
  have hts := atoms_spec (ws := (wz yX2_init cX2_init 5 none)) B.pre
  have hown : s.vm.findClass RX2 = some m.cls := findClass_of_methodNamed B.named
  have hlocks := B.notSynchronized
  have hin : meth.name = "<init>" := (name_of_methodNamed B.named B.method).1
  have S : CallFix p m c cX2_init 5 s ([.ref a0, .int x1, .ref a2, .null, .ref a4] : List Value).toArray (wz yX2_init cX2_init 5 none) RX2 := ⟨hx, hb, hml, hown, hts⟩
  have hX2 : ∀ w ∈ wsX20, w ∈ (wz yX2_init cX2_init 5 none) := fun w h => wz_in (inlX2 w h)
  have hS : va_S A s.heap s.heap [] := va_S.rf
  have hl := lv_entry ([.ref a0, .int x1, .ref a2, .null, .ref a4]) (n := 5) (Nat.le_of_ble_eq_true rfl)
  rw [lg_entry_eq]
  generalize (lg_sl ([.ref a0, .int x1, .ref a2, .null, .ref a4]) ++ List.replicate (5 - (lg_sl ([.ref a0, .int x1, .ref a2, .null, .ref a4])).length) Slot.unset).toArray = ls at hl ⊢
  have hl : lv_has ls 5 [(0, .ref a0), (1, .int x1), (2, .ref a2), (3, .null), (4, .ref a4)] := hl
  refine lv_aload_n hx hb dX2_init_0 rfl (lv_at hl 0 rfl) ?_
  refine W.objInit hx hb hown (hts _ (wz_in (zin8 _ (List.mem_of_getElem? (i := 0) rfl)))) (hts _ (wz_in (zin1 _ (List.mem_of_getElem? (i := 16) rfl)))) (hts _ (wz_in (zin1 _ (List.mem_of_getElem? (i := 17) rfl)))) rfl (by rw [hml]; exact hl.1) rfl dX2_init_1 (Nat.le_of_ble_eq_true rfl) (Nat.le_of_ble_eq_true rfl) ?_
  refine W.eq (g2 := F0 m 4 ls []) rfl ?_
  refine lv_aload_n hx hb dX2_init_4 rfl (lv_at hl 0 rfl) ?_
  refine lv_iload_n hx hb dX2_init_5 rfl (lv_at hl 1 rfl) ?_
  refine cp_putF (v := .int x1) S hX2 tyX2 tyX2_ok nmX2 hK hw hS 0 ha0 rfl rfl 0 (by decide) (wz_in (zin8 _ (List.mem_of_getElem? (i := 1) rfl))) rfl rfl hin rfl rfl rfl (Nat.le_of_ble_eq_true rfl) (Nat.le_of_ble_eq_true rfl) dX2_init_6 (fun H locs hw hS => ?_)
  have hw : zw D A (ad) (cL cy (ad) σ (X ++ [.inr (3, [.int x1, .null, .null, .null])])) H := hw
  refine lv_aload_n hx hb dX2_init_9 rfl (lv_at hl 0 rfl) ?_
  refine lv_aload_n hx hb dX2_init_10 rfl (lv_at hl 2 rfl) ?_
  refine cp_putF (v := .ref a2) S hX2 tyX2 tyX2_ok nmX2 hK hw hS 0 ha0 rfl rfl 1 (by decide) (wz_in (zin8 _ (List.mem_of_getElem? (i := 2) rfl))) rfl rfl hin rfl rfl rfl (Nat.le_of_ble_eq_true rfl) (Nat.le_of_ble_eq_true rfl) dX2_init_11 (fun H locs hw hS => ?_)
  have hw : zw D A (ad) (cL cy (ad) σ (X ++ [.inr (3, [.int x1, .ref a2, .null, .null])])) H := hw
  refine lv_aload_n hx hb dX2_init_14 rfl (lv_at hl 0 rfl) ?_
  refine lv_aload_nN hx hb dX2_init_15 rfl (lv_at hl 3 rfl) ?_
  refine cp_putF (v := .null) S hX2 tyX2 tyX2_ok nmX2 hK hw hS 0 ha0 rfl rfl 2 (by decide) (wz_in (zin8 _ (List.mem_of_getElem? (i := 3) rfl))) rfl rfl hin rfl rfl rfl (Nat.le_of_ble_eq_true rfl) (Nat.le_of_ble_eq_true rfl) dX2_init_16 (fun H locs hw hS => ?_)
  have hw : zw D A (ad) (cL cy (ad) σ (X ++ [.inr (3, [.int x1, .ref a2, .null, .null])])) H := hw
  refine lv_aload_n hx hb dX2_init_19 rfl (lv_at hl 0 rfl) ?_
  refine lv_aload hx hb dX2_init_20 (lv_at hl 4 rfl) ?_
  refine cp_putF (v := .ref a4) S hX2 tyX2 tyX2_ok nmX2 hK hw hS 0 ha0 rfl rfl 3 (by decide) (wz_in (zin8 _ (List.mem_of_getElem? (i := 4) rfl))) rfl rfl hin rfl rfl rfl (Nat.le_of_ble_eq_true rfl) (Nat.le_of_ble_eq_true rfl) dX2_init_22 (fun H locs hw hS => ?_)
  have hw : zw D A (ad) (cL cy (ad) σ (X ++ [.inr (3, [.int x1, .ref a2, .null, .ref a4])])) H := hw
  exact W.vret hx hb hr (fun t ht hW => ⟨⟨(), rfl, trivial, by show zw D A (ad) (cL cy (ad) σ (X ++ [.inr (3, [.int x1, .ref a2, .null, .ref a4])])) t.heap; rw [ht]; exact hw⟩, hS.F ht⟩) hS.2.2 dX2_init_25
theorem pb_X2_init (D : va_G) (cy : Nat → ClassId) (A : Nat → Prop) (ad : Nat × Nat → Nat) (σ : CS) (X : List va_E) (av : List Value) : FrameBlind (va_Pc av (pc_X2_init D cy A ad σ X)) := fun a U g mk q => by
  obtain ⟨q0, qP, qK, qA⟩ := q
  exact ⟨q0, qP, va_K.moved (u := U) (U := U.calling g mk a) (Vm.Alike.refl U.vm) qK, qA⟩
abbrev pc_X2_initS (D : va_G) (cy : Nat → ClassId) (A : Nat → Prop) (ad : Nat × Nat → Nat) (σ : CS) (X : List va_E) (U : State) : Prop := zw D A ad (cL cy ad σ (X ++ [.inr (3, [.int 0, .null, .null, .null])])) U.heap ∧ va_K D vwCl (ztys cy) U ∧ (∀ q : Nat, U.heap.size ≤ q → A q)
abbrev qc_X2_initS (D : va_G) (cy : Nat → ClassId) (A : Nat → Prop) (ad : Nat × Nat → Nat) (σ : CS) (X : List va_E) (x1 : Int32) (a2 : Nat) (a3 : Nat) (a4 : Nat) : Unit → State → Prop := fun (_ : Unit) (t : State) => zw D A (ad) (cL cy (ad) σ (X ++ [.inr (3, [.int x1, .ref a2, .ref a3, .ref a4])])) t.heap
set_option maxHeartbeats 4000000 in
set_option maxRecDepth 100000 in
theorem kc_X2_initS (l : Launch) (D : va_G) (cy : Nat → ClassId) (A : Nat → Prop) (ad : Nat × Nat → Nat) (σ : CS) (X : List va_E) (a0 : Nat) (x1 : Int32) (a2 : Nat) (a3 : Nat) (a4 : Nat) (ha0 : ad (10, X.length + 0) = a0) : Met l yX2_init (wz yX2_init cX2_init 5 none) ({ frames := 1, cells := 0, slots := 0, locals := 12 } : Room) (va_Pc [.ref a0, .int x1, .ref a2, .ref a3, .ref a4] (pc_X2_initS D cy A ad σ X)) (va_Qv (fun _ => True) (qc_X2_initS D cy A ad σ X x1 a2 a3 a4) A) 0 0 A := by
  refine Met.ofW (cc := cX2_init) (maxL := 5) (ret := none) (by decide) rfl ?_
  intro p e s m args below meth c s₁ B hml hv
  obtain ⟨rfl, hw, hK, hA⟩ := hv
  have hx := B.exec
  have hb := B.bytes
  have hr := B.returns
  have hts := atoms_spec (ws := (wz yX2_init cX2_init 5 none)) B.pre
  have hown : s.vm.findClass RX2 = some m.cls := findClass_of_methodNamed B.named
  have hlocks := B.notSynchronized
  have hin : meth.name = "<init>" := (name_of_methodNamed B.named B.method).1
  have S : CallFix p m c cX2_init 5 s ([.ref a0, .int x1, .ref a2, .ref a3, .ref a4] : List Value).toArray (wz yX2_init cX2_init 5 none) RX2 := ⟨hx, hb, hml, hown, hts⟩
  have hX2 : ∀ w ∈ wsX20, w ∈ (wz yX2_init cX2_init 5 none) := fun w h => wz_in (inlX2 w h)
  have hS : va_S A s.heap s.heap [] := va_S.rf
  have hl := lv_entry ([.ref a0, .int x1, .ref a2, .ref a3, .ref a4]) (n := 5) (Nat.le_of_ble_eq_true rfl)
  rw [lg_entry_eq]
  generalize (lg_sl ([.ref a0, .int x1, .ref a2, .ref a3, .ref a4]) ++ List.replicate (5 - (lg_sl ([.ref a0, .int x1, .ref a2, .ref a3, .ref a4])).length) Slot.unset).toArray = ls at hl ⊢
  have hl : lv_has ls 5 [(0, .ref a0), (1, .int x1), (2, .ref a2), (3, .ref a3), (4, .ref a4)] := hl
  refine lv_aload_n hx hb dX2_init_0 rfl (lv_at hl 0 rfl) ?_
  refine W.objInit hx hb hown (hts _ (wz_in (zin8 _ (List.mem_of_getElem? (i := 0) rfl)))) (hts _ (wz_in (zin1 _ (List.mem_of_getElem? (i := 16) rfl)))) (hts _ (wz_in (zin1 _ (List.mem_of_getElem? (i := 17) rfl)))) rfl (by rw [hml]; exact hl.1) rfl dX2_init_1 (Nat.le_of_ble_eq_true rfl) (Nat.le_of_ble_eq_true rfl) ?_
  refine W.eq (g2 := F0 m 4 ls []) rfl ?_
  refine lv_aload_n hx hb dX2_init_4 rfl (lv_at hl 0 rfl) ?_
  refine lv_iload_n hx hb dX2_init_5 rfl (lv_at hl 1 rfl) ?_
  refine cp_putF (v := .int x1) S hX2 tyX2 tyX2_ok nmX2 hK hw hS 0 ha0 rfl rfl 0 (by decide) (wz_in (zin8 _ (List.mem_of_getElem? (i := 1) rfl))) rfl rfl hin rfl rfl rfl (Nat.le_of_ble_eq_true rfl) (Nat.le_of_ble_eq_true rfl) dX2_init_6 (fun H locs hw hS => ?_)
  have hw : zw D A (ad) (cL cy (ad) σ (X ++ [.inr (3, [.int x1, .null, .null, .null])])) H := hw
  refine lv_aload_n hx hb dX2_init_9 rfl (lv_at hl 0 rfl) ?_
  refine lv_aload_n hx hb dX2_init_10 rfl (lv_at hl 2 rfl) ?_
  refine cp_putF (v := .ref a2) S hX2 tyX2 tyX2_ok nmX2 hK hw hS 0 ha0 rfl rfl 1 (by decide) (wz_in (zin8 _ (List.mem_of_getElem? (i := 2) rfl))) rfl rfl hin rfl rfl rfl (Nat.le_of_ble_eq_true rfl) (Nat.le_of_ble_eq_true rfl) dX2_init_11 (fun H locs hw hS => ?_)
  have hw : zw D A (ad) (cL cy (ad) σ (X ++ [.inr (3, [.int x1, .ref a2, .null, .null])])) H := hw
  refine lv_aload_n hx hb dX2_init_14 rfl (lv_at hl 0 rfl) ?_
  refine lv_aload_n hx hb dX2_init_15 rfl (lv_at hl 3 rfl) ?_
  refine cp_putF (v := .ref a3) S hX2 tyX2 tyX2_ok nmX2 hK hw hS 0 ha0 rfl rfl 2 (by decide) (wz_in (zin8 _ (List.mem_of_getElem? (i := 3) rfl))) rfl rfl hin rfl rfl rfl (Nat.le_of_ble_eq_true rfl) (Nat.le_of_ble_eq_true rfl) dX2_init_16 (fun H locs hw hS => ?_)
  have hw : zw D A (ad) (cL cy (ad) σ (X ++ [.inr (3, [.int x1, .ref a2, .ref a3, .null])])) H := hw
  refine lv_aload_n hx hb dX2_init_19 rfl (lv_at hl 0 rfl) ?_
  refine lv_aload hx hb dX2_init_20 (lv_at hl 4 rfl) ?_
  refine cp_putF (v := .ref a4) S hX2 tyX2 tyX2_ok nmX2 hK hw hS 0 ha0 rfl rfl 3 (by decide) (wz_in (zin8 _ (List.mem_of_getElem? (i := 4) rfl))) rfl rfl hin rfl rfl rfl (Nat.le_of_ble_eq_true rfl) (Nat.le_of_ble_eq_true rfl) dX2_init_22 (fun H locs hw hS => ?_)
  have hw : zw D A (ad) (cL cy (ad) σ (X ++ [.inr (3, [.int x1, .ref a2, .ref a3, .ref a4])])) H := hw
  exact W.vret hx hb hr (fun t ht hW => ⟨⟨(), rfl, trivial, by show zw D A (ad) (cL cy (ad) σ (X ++ [.inr (3, [.int x1, .ref a2, .ref a3, .ref a4])])) t.heap; rw [ht]; exact hw⟩, hS.F ht⟩) hS.2.2 dX2_init_25
theorem pb_X2_initS (D : va_G) (cy : Nat → ClassId) (A : Nat → Prop) (ad : Nat × Nat → Nat) (σ : CS) (X : List va_E) (av : List Value) : FrameBlind (va_Pc av (pc_X2_initS D cy A ad σ X)) := fun a U g mk q => by
  obtain ⟨q0, qP, qK, qA⟩ := q
  exact ⟨q0, qP, va_K.moved (u := U) (U := U.calling g mk a) (Vm.Alike.refl U.vm) qK, qA⟩
abbrev pc_X1_init (D : va_G) (cy : Nat → ClassId) (A : Nat → Prop) (ad : Nat × Nat → Nat) (σ : CS) (X : List va_E) (U : State) : Prop := zw D A ad (cL cy ad σ (X ++ [.inr (2, [.null, .null, .int 0, .int 0, .int 0, .int 0, .int 0, .int 0, .int 0])])) U.heap ∧ va_K D vwCl (ztys cy) U ∧ (∀ q : Nat, U.heap.size ≤ q → A q) ∧ va_AO RX4 U
abbrev qc_X1_init (D : va_G) (cy : Nat → ClassId) (A : Nat → Prop) (ad : Nat × Nat → Nat) (σ : CS) (X : List va_E) : Nat × Nat → State → Prop := fun (u : Nat × Nat) (t : State) => match u with
    | (q1, q2) => zw D A (adT (adT (ad) (X.length + 1) q1) (X.length + 2) q2) (cL cy (adT (adT (ad) (X.length + 1) q1) (X.length + 2) q2) σ (X ++ [.inr (2, [.ref q1, .ref q2, .int 0, .int 0, .int 0, .int 0, .int 0, .int 0, .int 0]), .inl (cy 2, 8, .inr (.inl (fun _ => 0))), .inl (cy 6, 20, .inr (.inr (.inr (.inr (fun _ => none)))))])) t.heap
set_option maxHeartbeats 4000000 in
set_option maxRecDepth 100000 in
theorem kc_X1_init (l : Launch) (D : va_G) (cy : Nat → ClassId) (A : Nat → Prop) (ad : Nat × Nat → Nat) (σ : CS) (X : List va_E) (a0 : Nat) (ha0 : ad (10, X.length + 0) = a0) : Met l yX1_init (wz yX1_init cX1_init 1 none) ({ frames := 1, cells := 2, slots := 28, locals := 12 } : Room) (va_Pc [.ref a0] (pc_X1_init D cy A ad σ X)) (va_Qv (fun _ => True) (qc_X1_init D cy A ad σ X) A) 2 28 A := by
  refine Met.ofW (cc := cX1_init) (maxL := 1) (ret := none) (by decide) rfl ?_
  intro p e s m args below meth c s₁ B hml hv
  obtain ⟨rfl, hw, hK, hA, hAO⟩ := hv
  have hx := B.exec
  have hb := B.bytes
  have hr := B.returns
  have hts := atoms_spec (ws := (wz yX1_init cX1_init 1 none)) B.pre
  have hown : s.vm.findClass RX1 = some m.cls := findClass_of_methodNamed B.named
  have hlocks := B.notSynchronized
  have hin : meth.name = "<init>" := (name_of_methodNamed B.named B.method).1
  have S : CallFix p m c cX1_init 1 s ([.ref a0] : List Value).toArray (wz yX1_init cX1_init 1 none) RX1 := ⟨hx, hb, hml, hown, hts⟩
  have hX1 : ∀ w ∈ wsX10, w ∈ (wz yX1_init cX1_init 1 none) := fun w h => wz_in (inlX1 w h)
  have hS : va_S A s.heap s.heap [] := va_S.rf
  have hl := lv_entry ([.ref a0]) (n := 1) (Nat.le_of_ble_eq_true rfl)
  rw [lg_entry_eq]
  generalize (lg_sl ([.ref a0]) ++ List.replicate (1 - (lg_sl ([.ref a0])).length) Slot.unset).toArray = ls at hl ⊢
  have hl : lv_has ls 1 [(0, .ref a0)] := hl
  refine lv_aload_n hx hb dX1_init_0 rfl (lv_at hl 0 rfl) ?_
  refine W.objInit hx hb hown (hts _ (wz_in (zin2 _ (List.mem_of_getElem? (i := 17) rfl)))) (hts _ (wz_in (zin1 _ (List.mem_of_getElem? (i := 16) rfl)))) (hts _ (wz_in (zin1 _ (List.mem_of_getElem? (i := 17) rfl)))) rfl (by rw [hml]; exact hl.1) rfl dX1_init_1 (Nat.le_of_ble_eq_true rfl) (Nat.le_of_ble_eq_true rfl) ?_
  refine W.eq (g2 := F0 m 4 ls []) rfl ?_
  refine lv_aload_n hx hb dX1_init_4 rfl (lv_at hl 0 rfl) ?_
  refine lv_bipush (v := (8 : Int32)) hx hb dX1_init_5 (by decide) ?_
  refine cp_newa (ty := .long) (a0 := (8, .inr (.inl (fun _ => 0)))) S rfl (wz_in (zin1 _ (List.mem_of_getElem? (i := 6) rfl))) hK hw hS hA 2 rfl (fun _ => rfl) (by decide) (by decide) (Nat.le_of_ble_eq_true rfl) (Nat.le_of_ble_eq_true rfl) (Nat.le_of_ble_eq_true rfl) dX1_init_7 (fun q1 H hw hS => ?_)
  have ha0 : (adT (ad) (X.length + 1) q1) (10, X.length + 0) = a0 := (adT_n (ad) (X.length + 1) q1 (fun z => by have := (Prod.mk.inj z).2; omega)).trans ha0
  have hw : zw D A (adT (ad) (X.length + 1) q1) (cL cy (adT (ad) (X.length + 1) q1) σ (X ++ [.inr (2, [.null, .null, .int 0, .int 0, .int 0, .int 0, .int 0, .int 0, .int 0]), .inl (cy 2, 8, .inr (.inl (fun _ => 0)))])) H := hw
  refine cp_putF (v := .ref q1) S hX1 tyX1 tyX1_ok nmX1 hK hw hS 0 ha0 rfl rfl 0 (by decide) (wz_in (zin2 _ (List.mem_of_getElem? (i := 18) rfl))) rfl rfl hin rfl rfl rfl (Nat.le_of_ble_eq_true rfl) (Nat.le_of_ble_eq_true rfl) dX1_init_9 (fun H locs hw hS => ?_)
  have hw : zw D A (adT (ad) (X.length + 1) q1) (cL cy (adT (ad) (X.length + 1) q1) σ (X ++ [.inr (2, [.ref q1, .null, .int 0, .int 0, .int 0, .int 0, .int 0, .int 0, .int 0]), .inl (cy 2, 8, .inr (.inl (fun _ => 0)))])) H := hw
  refine lv_aload_n hx hb dX1_init_12 rfl (lv_at hl 0 rfl) ?_
  refine lv_bipush (v := (20 : Int32)) hx hb dX1_init_13 (by decide) ?_
  refine cp_newq (C := RX4) (N' := 20) S (wz_in (zin2 _ (List.mem_of_getElem? (i := 19) rfl))) hAO hK hw hS hA 6 rfl (by decide) (by decide) (Nat.le_of_ble_eq_true rfl) (Nat.le_of_ble_eq_true rfl) (Nat.le_of_ble_eq_true rfl) dX1_init_15 (fun q2 H hw hS => ?_)
  have ha0 : (adT (adT (ad) (X.length + 1) q1) (X.length + 2) q2) (10, X.length + 0) = a0 := (adT_n (adT (ad) (X.length + 1) q1) (X.length + 2) q2 (fun z => by have := (Prod.mk.inj z).2; omega)).trans ha0
  have hw : zw D A (adT (adT (ad) (X.length + 1) q1) (X.length + 2) q2) (cL cy (adT (adT (ad) (X.length + 1) q1) (X.length + 2) q2) σ (X ++ [.inr (2, [.ref q1, .null, .int 0, .int 0, .int 0, .int 0, .int 0, .int 0, .int 0]), .inl (cy 2, 8, .inr (.inl (fun _ => 0))), .inl (cy 6, 20, .inr (.inr (.inr (.inr (fun _ => none)))))])) H := hw
  refine cp_putF (v := .ref q2) S hX1 tyX1 tyX1_ok nmX1 hK hw hS 0 ha0 rfl rfl 1 (by decide) (wz_in (zin2 _ (List.mem_of_getElem? (i := 20) rfl))) rfl rfl hin rfl rfl rfl (Nat.le_of_ble_eq_true rfl) (Nat.le_of_ble_eq_true rfl) dX1_init_18 (fun H locs hw hS => ?_)
  have hw : zw D A (adT (adT (ad) (X.length + 1) q1) (X.length + 2) q2) (cL cy (adT (adT (ad) (X.length + 1) q1) (X.length + 2) q2) σ (X ++ [.inr (2, [.ref q1, .ref q2, .int 0, .int 0, .int 0, .int 0, .int 0, .int 0, .int 0]), .inl (cy 2, 8, .inr (.inl (fun _ => 0))), .inl (cy 6, 20, .inr (.inr (.inr (.inr (fun _ => none)))))])) H := hw
  exact W.vret hx hb hr (fun t ht hW => ⟨⟨(q1, q2), rfl, trivial, by show zw D A (adT (adT (ad) (X.length + 1) q1) (X.length + 2) q2) (cL cy (adT (adT (ad) (X.length + 1) q1) (X.length + 2) q2) σ (X ++ [.inr (2, [.ref q1, .ref q2, .int 0, .int 0, .int 0, .int 0, .int 0, .int 0, .int 0]), .inl (cy 2, 8, .inr (.inl (fun _ => 0))), .inl (cy 6, 20, .inr (.inr (.inr (.inr (fun _ => none)))))])) t.heap; rw [ht]; exact hw⟩, hS.F ht⟩) hS.2.2 dX1_init_21
theorem pb_X1_init (D : va_G) (cy : Nat → ClassId) (A : Nat → Prop) (ad : Nat × Nat → Nat) (σ : CS) (X : List va_E) (av : List Value) : FrameBlind (va_Pc av (pc_X1_init D cy A ad σ X)) := fun a U g mk q => by
  obtain ⟨q0, qP, qK, qA, qO⟩ := q
  exact ⟨q0, qP, va_K.moved (u := U) (U := U.calling g mk a) (Vm.Alike.refl U.vm) qK, qA, va_AO.moved (u := U) (U := U.calling g mk a) (Vm.Alike.refl U.vm) qO⟩
abbrev pc_X5_init (D : va_G) (cy : Nat → ClassId) (A : Nat → Prop) (ad : Nat × Nat → Nat) (σ : CS) (X : List va_E) (U : State) : Prop := zw D A ad (cL cy ad σ (X ++ [.inr (5, [.null, .null, .null, .null, .null, .null, .int 0, .int 0, .int 0, .int 0, .int 0])])) U.heap ∧ va_K D vwCl (ztys cy) U ∧ (∀ q : Nat, U.heap.size ≤ q → A q)
abbrev qc_X5_init (D : va_G) (cy : Nat → ClassId) (A : Nat → Prop) (ad : Nat × Nat → Nat) (σ : CS) (X : List va_E) : Nat × Nat × Nat × Nat → State → Prop := fun (u : Nat × Nat × Nat × Nat) (t : State) => match u with
    | (q1, q2, q3, q4) => zw D A (adT (adT (adT (adT (ad) (X.length + 1) q1) (X.length + 2) q2) (X.length + 3) q3) (X.length + 4) q4) (cL cy (adT (adT (adT (adT (ad) (X.length + 1) q1) (X.length + 2) q2) (X.length + 3) q3) (X.length + 4) q4) σ (X ++ [.inr (5, [.ref q1, .ref q2, .ref q3, .ref q4, .ref q2, .ref q3, .int 0, .int 0, .int 0, .int 0, .int 0]), .inl (cy 2, 16, .inr (.inl (fun _ => 0))), .inl (cy 2, 8, .inr (.inl (fun _ => 0))), .inl (cy 2, 8, .inr (.inl (fun _ => 0))), .inl (cy 0, 0, .inl (fun _ => 0))])) t.heap
set_option maxHeartbeats 4000000 in
set_option maxRecDepth 100000 in
theorem kc_X5_init (l : Launch) (D : va_G) (cy : Nat → ClassId) (A : Nat → Prop) (ad : Nat × Nat → Nat) (σ : CS) (X : List va_E) (a0 : Nat) (ha0 : ad (10, X.length + 0) = a0) : Met l yX5_init (wz yX5_init cX5_init 1 none) ({ frames := 1, cells := 4, slots := 32, locals := 12 } : Room) (va_Pc [.ref a0] (pc_X5_init D cy A ad σ X)) (va_Qv (fun _ => True) (qc_X5_init D cy A ad σ X) A) 4 32 A := by
  refine Met.ofW (cc := cX5_init) (maxL := 1) (ret := none) (by decide) rfl ?_
  intro p e s m args below meth c s₁ B hml hv
  obtain ⟨rfl, hw, hK, hA⟩ := hv
  have hx := B.exec
  have hb := B.bytes
  have hr := B.returns
  have hts := atoms_spec (ws := (wz yX5_init cX5_init 1 none)) B.pre
  have hown : s.vm.findClass RX5 = some m.cls := findClass_of_methodNamed B.named
  have hlocks := B.notSynchronized
  have hin : meth.name = "<init>" := (name_of_methodNamed B.named B.method).1
  have S : CallFix p m c cX5_init 1 s ([.ref a0] : List Value).toArray (wz yX5_init cX5_init 1 none) RX5 := ⟨hx, hb, hml, hown, hts⟩
  have hX5 : ∀ w ∈ wsX50, w ∈ (wz yX5_init cX5_init 1 none) := fun w h => wz_in (inlX5 w h)
  have hS : va_S A s.heap s.heap [] := va_S.rf
  have hl := lv_entry ([.ref a0]) (n := 1) (Nat.le_of_ble_eq_true rfl)
  rw [lg_entry_eq]
  generalize (lg_sl ([.ref a0]) ++ List.replicate (1 - (lg_sl ([.ref a0])).length) Slot.unset).toArray = ls at hl ⊢
  have hl : lv_has ls 1 [(0, .ref a0)] := hl
  refine lv_aload_n hx hb dX5_init_0 rfl (lv_at hl 0 rfl) ?_
  refine W.objInit hx hb hown (hts _ (wz_in (zin2 _ (List.mem_of_getElem? (i := 23) rfl)))) (hts _ (wz_in (zin1 _ (List.mem_of_getElem? (i := 16) rfl)))) (hts _ (wz_in (zin1 _ (List.mem_of_getElem? (i := 17) rfl)))) rfl (by rw [hml]; exact hl.1) rfl dX5_init_1 (Nat.le_of_ble_eq_true rfl) (Nat.le_of_ble_eq_true rfl) ?_
  refine W.eq (g2 := F0 m 4 ls []) rfl ?_
  refine lv_aload_n hx hb dX5_init_4 rfl (lv_at hl 0 rfl) ?_
  refine lv_bipush (v := (16 : Int32)) hx hb dX5_init_5 (by decide) ?_
  refine cp_newa (ty := .long) (a0 := (16, .inr (.inl (fun _ => 0)))) S rfl (wz_in (zin1 _ (List.mem_of_getElem? (i := 6) rfl))) hK hw hS hA 2 rfl (fun _ => rfl) (by decide) (by decide) (Nat.le_of_ble_eq_true rfl) (Nat.le_of_ble_eq_true rfl) (Nat.le_of_ble_eq_true rfl) dX5_init_7 (fun q1 H hw hS => ?_)
  have ha0 : (adT (ad) (X.length + 1) q1) (10, X.length + 0) = a0 := (adT_n (ad) (X.length + 1) q1 (fun z => by have := (Prod.mk.inj z).2; omega)).trans ha0
  have hw : zw D A (adT (ad) (X.length + 1) q1) (cL cy (adT (ad) (X.length + 1) q1) σ (X ++ [.inr (5, [.null, .null, .null, .null, .null, .null, .int 0, .int 0, .int 0, .int 0, .int 0]), .inl (cy 2, 16, .inr (.inl (fun _ => 0)))])) H := hw
  refine cp_putF (v := .ref q1) S hX5 tyX5 tyX5_ok nmX5 hK hw hS 0 ha0 rfl rfl 0 (by decide) (wz_in (zin3 _ (List.mem_of_getElem? (i := 0) rfl))) rfl rfl hin rfl rfl rfl (Nat.le_of_ble_eq_true rfl) (Nat.le_of_ble_eq_true rfl) dX5_init_9 (fun H locs hw hS => ?_)
  have hw : zw D A (adT (ad) (X.length + 1) q1) (cL cy (adT (ad) (X.length + 1) q1) σ (X ++ [.inr (5, [.ref q1, .null, .null, .null, .null, .null, .int 0, .int 0, .int 0, .int 0, .int 0]), .inl (cy 2, 16, .inr (.inl (fun _ => 0)))])) H := hw
  refine lv_aload_n hx hb dX5_init_12 rfl (lv_at hl 0 rfl) ?_
  refine lv_bipush (v := (8 : Int32)) hx hb dX5_init_13 (by decide) ?_
  refine cp_newa (ty := .long) (a0 := (8, .inr (.inl (fun _ => 0)))) S rfl (wz_in (zin1 _ (List.mem_of_getElem? (i := 6) rfl))) hK hw hS hA 2 rfl (fun _ => rfl) (by decide) (by decide) (Nat.le_of_ble_eq_true rfl) (Nat.le_of_ble_eq_true rfl) (Nat.le_of_ble_eq_true rfl) dX5_init_15 (fun q2 H hw hS => ?_)
  have ha0 : (adT (adT (ad) (X.length + 1) q1) (X.length + 2) q2) (10, X.length + 0) = a0 := (adT_n (adT (ad) (X.length + 1) q1) (X.length + 2) q2 (fun z => by have := (Prod.mk.inj z).2; omega)).trans ha0
  have hw : zw D A (adT (adT (ad) (X.length + 1) q1) (X.length + 2) q2) (cL cy (adT (adT (ad) (X.length + 1) q1) (X.length + 2) q2) σ (X ++ [.inr (5, [.ref q1, .null, .null, .null, .null, .null, .int 0, .int 0, .int 0, .int 0, .int 0]), .inl (cy 2, 16, .inr (.inl (fun _ => 0))), .inl (cy 2, 8, .inr (.inl (fun _ => 0)))])) H := hw
  refine cp_putF (v := .ref q2) S hX5 tyX5 tyX5_ok nmX5 hK hw hS 0 ha0 rfl rfl 1 (by decide) (wz_in (zin3 _ (List.mem_of_getElem? (i := 1) rfl))) rfl rfl hin rfl rfl rfl (Nat.le_of_ble_eq_true rfl) (Nat.le_of_ble_eq_true rfl) dX5_init_17 (fun H locs hw hS => ?_)
  have hw : zw D A (adT (adT (ad) (X.length + 1) q1) (X.length + 2) q2) (cL cy (adT (adT (ad) (X.length + 1) q1) (X.length + 2) q2) σ (X ++ [.inr (5, [.ref q1, .ref q2, .null, .null, .null, .null, .int 0, .int 0, .int 0, .int 0, .int 0]), .inl (cy 2, 16, .inr (.inl (fun _ => 0))), .inl (cy 2, 8, .inr (.inl (fun _ => 0)))])) H := hw
  refine lv_aload_n hx hb dX5_init_20 rfl (lv_at hl 0 rfl) ?_
  refine lv_bipush (v := (8 : Int32)) hx hb dX5_init_21 (by decide) ?_
  refine cp_newa (ty := .long) (a0 := (8, .inr (.inl (fun _ => 0)))) S rfl (wz_in (zin1 _ (List.mem_of_getElem? (i := 6) rfl))) hK hw hS hA 2 rfl (fun _ => rfl) (by decide) (by decide) (Nat.le_of_ble_eq_true rfl) (Nat.le_of_ble_eq_true rfl) (Nat.le_of_ble_eq_true rfl) dX5_init_23 (fun q3 H hw hS => ?_)
  have ha0 : (adT (adT (adT (ad) (X.length + 1) q1) (X.length + 2) q2) (X.length + 3) q3) (10, X.length + 0) = a0 := (adT_n (adT (adT (ad) (X.length + 1) q1) (X.length + 2) q2) (X.length + 3) q3 (fun z => by have := (Prod.mk.inj z).2; omega)).trans ha0
  have hw : zw D A (adT (adT (adT (ad) (X.length + 1) q1) (X.length + 2) q2) (X.length + 3) q3) (cL cy (adT (adT (adT (ad) (X.length + 1) q1) (X.length + 2) q2) (X.length + 3) q3) σ (X ++ [.inr (5, [.ref q1, .ref q2, .null, .null, .null, .null, .int 0, .int 0, .int 0, .int 0, .int 0]), .inl (cy 2, 16, .inr (.inl (fun _ => 0))), .inl (cy 2, 8, .inr (.inl (fun _ => 0))), .inl (cy 2, 8, .inr (.inl (fun _ => 0)))])) H := hw
  refine cp_putF (v := .ref q3) S hX5 tyX5 tyX5_ok nmX5 hK hw hS 0 ha0 rfl rfl 2 (by decide) (wz_in (zin3 _ (List.mem_of_getElem? (i := 2) rfl))) rfl rfl hin rfl rfl rfl (Nat.le_of_ble_eq_true rfl) (Nat.le_of_ble_eq_true rfl) dX5_init_25 (fun H locs hw hS => ?_)
  have hw : zw D A (adT (adT (adT (ad) (X.length + 1) q1) (X.length + 2) q2) (X.length + 3) q3) (cL cy (adT (adT (adT (ad) (X.length + 1) q1) (X.length + 2) q2) (X.length + 3) q3) σ (X ++ [.inr (5, [.ref q1, .ref q2, .ref q3, .null, .null, .null, .int 0, .int 0, .int 0, .int 0, .int 0]), .inl (cy 2, 16, .inr (.inl (fun _ => 0))), .inl (cy 2, 8, .inr (.inl (fun _ => 0))), .inl (cy 2, 8, .inr (.inl (fun _ => 0)))])) H := hw
  refine lv_aload_n hx hb dX5_init_28 rfl (lv_at hl 0 rfl) ?_
  refine lv_iconst (v := (0 : Int32)) hx hb dX5_init_29 (by decide) ?_
  refine cp_newa (ty := .byte) (a0 := (0, .inl (fun _ => 0))) S rfl (wz_in (zin2 _ (List.mem_of_getElem? (i := 13) rfl))) hK hw hS hA 0 rfl (fun _ => rfl) (by decide) (by decide) (Nat.le_of_ble_eq_true rfl) (Nat.le_of_ble_eq_true rfl) (Nat.le_of_ble_eq_true rfl) dX5_init_30 (fun q4 H hw hS => ?_)
  have ha0 : (adT (adT (adT (adT (ad) (X.length + 1) q1) (X.length + 2) q2) (X.length + 3) q3) (X.length + 4) q4) (10, X.length + 0) = a0 := (adT_n (adT (adT (adT (ad) (X.length + 1) q1) (X.length + 2) q2) (X.length + 3) q3) (X.length + 4) q4 (fun z => by have := (Prod.mk.inj z).2; omega)).trans ha0
  have hw : zw D A (adT (adT (adT (adT (ad) (X.length + 1) q1) (X.length + 2) q2) (X.length + 3) q3) (X.length + 4) q4) (cL cy (adT (adT (adT (adT (ad) (X.length + 1) q1) (X.length + 2) q2) (X.length + 3) q3) (X.length + 4) q4) σ (X ++ [.inr (5, [.ref q1, .ref q2, .ref q3, .null, .null, .null, .int 0, .int 0, .int 0, .int 0, .int 0]), .inl (cy 2, 16, .inr (.inl (fun _ => 0))), .inl (cy 2, 8, .inr (.inl (fun _ => 0))), .inl (cy 2, 8, .inr (.inl (fun _ => 0))), .inl (cy 0, 0, .inl (fun _ => 0))])) H := hw
  refine cp_put (v := .ref q4) S hX5 tyX5 tyX5_ok nmX5 hK hw hS 0 ha0 rfl rfl 3 (by decide) (wz_in (zin3 _ (List.mem_of_getElem? (i := 3) rfl))) rfl rfl rfl rfl (Nat.le_of_ble_eq_true rfl) (Nat.le_of_ble_eq_true rfl) dX5_init_32 (fun H locs hw hS => ?_)
  have hw : zw D A (adT (adT (adT (adT (ad) (X.length + 1) q1) (X.length + 2) q2) (X.length + 3) q3) (X.length + 4) q4) (cL cy (adT (adT (adT (adT (ad) (X.length + 1) q1) (X.length + 2) q2) (X.length + 3) q3) (X.length + 4) q4) σ (X ++ [.inr (5, [.ref q1, .ref q2, .ref q3, .ref q4, .null, .null, .int 0, .int 0, .int 0, .int 0, .int 0]), .inl (cy 2, 16, .inr (.inl (fun _ => 0))), .inl (cy 2, 8, .inr (.inl (fun _ => 0))), .inl (cy 2, 8, .inr (.inl (fun _ => 0))), .inl (cy 0, 0, .inl (fun _ => 0))])) H := hw
  refine lv_aload_n hx hb dX5_init_35 rfl (lv_at hl 0 rfl) ?_
  refine lv_aload_n hx hb dX5_init_36 rfl (lv_at hl 0 rfl) ?_
  refine cp_get (v := .ref q2) S hX5 hK hw 0 ha0 rfl rfl 1 (by decide) (wz_in (zin3 _ (List.mem_of_getElem? (i := 1) rfl))) rfl rfl dX5_init_37 ?_
  refine cp_put (v := .ref q2) S hX5 tyX5 tyX5_ok nmX5 hK hw hS 0 ha0 rfl rfl 4 (by decide) (wz_in (zin3 _ (List.mem_of_getElem? (i := 4) rfl))) rfl rfl rfl rfl (Nat.le_of_ble_eq_true rfl) (Nat.le_of_ble_eq_true rfl) dX5_init_40 (fun H locs hw hS => ?_)
  have hw : zw D A (adT (adT (adT (adT (ad) (X.length + 1) q1) (X.length + 2) q2) (X.length + 3) q3) (X.length + 4) q4) (cL cy (adT (adT (adT (adT (ad) (X.length + 1) q1) (X.length + 2) q2) (X.length + 3) q3) (X.length + 4) q4) σ (X ++ [.inr (5, [.ref q1, .ref q2, .ref q3, .ref q4, .ref q2, .null, .int 0, .int 0, .int 0, .int 0, .int 0]), .inl (cy 2, 16, .inr (.inl (fun _ => 0))), .inl (cy 2, 8, .inr (.inl (fun _ => 0))), .inl (cy 2, 8, .inr (.inl (fun _ => 0))), .inl (cy 0, 0, .inl (fun _ => 0))])) H := hw
  refine lv_aload_n hx hb dX5_init_43 rfl (lv_at hl 0 rfl) ?_
  refine lv_aload_n hx hb dX5_init_44 rfl (lv_at hl 0 rfl) ?_
  refine cp_get (v := .ref q3) S hX5 hK hw 0 ha0 rfl rfl 2 (by decide) (wz_in (zin3 _ (List.mem_of_getElem? (i := 2) rfl))) rfl rfl dX5_init_45 ?_
  refine cp_put (v := .ref q3) S hX5 tyX5 tyX5_ok nmX5 hK hw hS 0 ha0 rfl rfl 5 (by decide) (wz_in (zin3 _ (List.mem_of_getElem? (i := 5) rfl))) rfl rfl rfl rfl (Nat.le_of_ble_eq_true rfl) (Nat.le_of_ble_eq_true rfl) dX5_init_48 (fun H locs hw hS => ?_)
  have hw : zw D A (adT (adT (adT (adT (ad) (X.length + 1) q1) (X.length + 2) q2) (X.length + 3) q3) (X.length + 4) q4) (cL cy (adT (adT (adT (adT (ad) (X.length + 1) q1) (X.length + 2) q2) (X.length + 3) q3) (X.length + 4) q4) σ (X ++ [.inr (5, [.ref q1, .ref q2, .ref q3, .ref q4, .ref q2, .ref q3, .int 0, .int 0, .int 0, .int 0, .int 0]), .inl (cy 2, 16, .inr (.inl (fun _ => 0))), .inl (cy 2, 8, .inr (.inl (fun _ => 0))), .inl (cy 2, 8, .inr (.inl (fun _ => 0))), .inl (cy 0, 0, .inl (fun _ => 0))])) H := hw
  exact W.vret hx hb hr (fun t ht hW => ⟨⟨(q1, q2, q3, q4), rfl, trivial, by show zw D A (adT (adT (adT (adT (ad) (X.length + 1) q1) (X.length + 2) q2) (X.length + 3) q3) (X.length + 4) q4) (cL cy (adT (adT (adT (adT (ad) (X.length + 1) q1) (X.length + 2) q2) (X.length + 3) q3) (X.length + 4) q4) σ (X ++ [.inr (5, [.ref q1, .ref q2, .ref q3, .ref q4, .ref q2, .ref q3, .int 0, .int 0, .int 0, .int 0, .int 0]), .inl (cy 2, 16, .inr (.inl (fun _ => 0))), .inl (cy 2, 8, .inr (.inl (fun _ => 0))), .inl (cy 2, 8, .inr (.inl (fun _ => 0))), .inl (cy 0, 0, .inl (fun _ => 0))])) t.heap; rw [ht]; exact hw⟩, hS.F ht⟩) hS.2.2 dX5_init_51
theorem pb_X5_init (D : va_G) (cy : Nat → ClassId) (A : Nat → Prop) (ad : Nat × Nat → Nat) (σ : CS) (X : List va_E) (av : List Value) : FrameBlind (va_Pc av (pc_X5_init D cy A ad σ X)) := fun a U g mk q => by
  obtain ⟨q0, qP, qK, qA⟩ := q
  exact ⟨q0, qP, va_K.moved (u := U) (U := U.calling g mk a) (Vm.Alike.refl U.vm) qK, qA⟩
