noncomputable def k_X1_classOf_b26 (x0 : Nat) (x1 : Int32) (τ : CS) (y0 : Option Nat) : Option (Option Nat × CS) := some (y0, τ)
noncomputable def k_X1_classOf_b25 (x0 : Nat) (x1 : Int32) (τ : CS) : Option (Option Nat × CS) := k_X1_classOf_b26 x0 x1 τ none
noncomputable def k_X1_classOf (τ : CS) (x0 : Nat) (x1 : Int32) : Option (Option Nat × CS) := zi (x1 < (1 : Int32)) (k_X1_classOf_b25 x0 x1 τ) (zg (cv τ 4 x0 = true) (zg (cv τ 5 x0 = true) (zi ((20 : Int32) < x1) (k_X1_classOf_b25 x0 x1 τ) (zg (vp_in (x1 - (1 : Int32)) 20) (k_X1_classOf_b26 x0 x1 τ (co τ 6 (20 * x0 + (x1 - (1 : Int32)).toNatClampNeg)))))))
set_option maxHeartbeats 4000000 in
set_option maxRecDepth 100000 in
theorem kc_X1_classOf (l : Launch) (D : va_G) (cy : Nat → ClassId) (A : Nat → Prop) (ad : Nat × Nat → Nat) (en : Nat → Nat) (tI tS : Nat) (τ τ' : CS) (x0 : Nat) (x1 : Int32) (r : Option Nat) (hf : k_X1_classOf τ x0 x1 = some (r, τ')) : Met l yX1_classOf (wz yX1_classOf cX1_classOf 2 (some (.object "RunClasses$Loaded"))) ({ frames := 0, cells := 0, slots := 0, locals := 0 } : Room) (va_Pc [.ref (ad (4, x0)), .int x1] (CWs D cy A ad en tI tS τ)) (va_Qq (fun (r' : Option Nat) (u : CS) => r' = r.map (fun i => ad (6, i)) ∧ u = τ') (CWp D cy A ad) A) 0 0 A := by
  refine Met.ofW (cc := cX1_classOf) (maxL := 2) (ret := (some (.object "RunClasses$Loaded"))) (by decide) rfl ?_
  intro p e s m args below meth c s₁ B hml hv
  obtain ⟨rfl, hw, hC⟩ := hv
  have hK := hC.1
  have hN := hC.2.1
  have hx := B.exec
  have hb := B.bytes
  have hr := B.returns
  have hts := atoms_spec (ws := (wz yX1_classOf cX1_classOf 2 (some (.object "RunClasses$Loaded")))) B.pre
  have hown : s.vm.findClass RX1 = some m.cls := findClass_of_methodNamed B.named
  have hlocks := B.notSynchronized
  have S : CallFix p m c cX1_classOf 2 s ([.ref (ad (4, x0)), .int x1] : List Value).toArray (wz yX1_classOf cX1_classOf 2 (some (.object "RunClasses$Loaded"))) RX1 := ⟨hx, hb, hml, hown, hts⟩
  have hX1 : ∀ w ∈ wsX10, w ∈ (wz yX1_classOf cX1_classOf 2 (some (.object "RunClasses$Loaded"))) := fun w h => wz_in (inlX1 w h)
  have hX2 : ∀ w ∈ wsX20, w ∈ (wz yX1_classOf cX1_classOf 2 (some (.object "RunClasses$Loaded"))) := fun w h => wz_in (inlX2 w h)
  have hX4 : ∀ w ∈ wsX40, w ∈ (wz yX1_classOf cX1_classOf 2 (some (.object "RunClasses$Loaded"))) := fun w h => wz_in (inlX4 w h)
  have hX5 : ∀ w ∈ wsX50, w ∈ (wz yX1_classOf cX1_classOf 2 (some (.object "RunClasses$Loaded"))) := fun w h => wz_in (inlX5 w h)
  have hX6 : ∀ w ∈ wsX60, w ∈ (wz yX1_classOf cX1_classOf 2 (some (.object "RunClasses$Loaded"))) := fun w h => wz_in (inlX6 w h)
  have hS : va_S A s.heap s.heap [] := va_S.rf
  have hl := lv_entry ([.ref (ad (4, x0)), .int x1]) (n := 2) (Nat.le_of_ble_eq_true rfl)
  rw [lg_entry_eq]
  generalize (lg_sl ([.ref (ad (4, x0)), .int x1]) ++ List.replicate (2 - (lg_sl ([.ref (ad (4, x0)), .int x1])).length) Slot.unset).toArray = ls at hl ⊢
  have hl : lv_has ls 2 [(0, .ref (ad (4, x0))), (1, .int x1)] := hl
  have B26 : ∀ (τ : CS) (y0 : Option Nat) (H : Heap) (locs : List Loc) (ls : Array Slot) (hf : k_X1_classOf_b26 x0 x1 τ y0 = some (r, τ')) (hw : zw D A ad (cG cy ad τ) H) (hS : va_S A s.heap H locs) (hl : lv_has ls 2 [(0, .ref (ad (4, x0))), (1, .int x1)]), W p l e (headSpec (wz yX1_classOf cX1_classOf 2 (some (.object "RunClasses$Loaded"))) ({ frames := 0, cells := 0, slots := 0, locals := 0 } : Room)).room s m ([.ref (ad (4, x0)), .int x1] : List Value).toArray below meth c H locs 0 0 (MQ below (va_Qq (fun (r' : Option Nat) (u : CS) => r' = r.map (fun i => ad (6, i)) ∧ u = τ') (CWp D cy A ad) A) ([.ref (ad (4, x0)), .int x1] : List Value).toArray s 0 0 A) (F0 m 26 ls [rn ad 6 y0]) := by
    intro τ y0 H locs ls hf hw hS hl
    rw [k_X1_classOf_b26] at hf
    exact cw_retq (kd := 6) (x := y0) S hr (Or.inl ⟨_, rfl⟩) hf hw hS hlocks dX1_classOf_26
  have B25 : ∀ (τ : CS) (H : Heap) (locs : List Loc) (ls : Array Slot) (hf : k_X1_classOf_b25 x0 x1 τ = some (r, τ')) (hw : zw D A ad (cG cy ad τ) H) (hS : va_S A s.heap H locs) (hl : lv_has ls 2 [(0, .ref (ad (4, x0))), (1, .int x1)]), W p l e (headSpec (wz yX1_classOf cX1_classOf 2 (some (.object "RunClasses$Loaded"))) ({ frames := 0, cells := 0, slots := 0, locals := 0 } : Room)).room s m ([.ref (ad (4, x0)), .int x1] : List Value).toArray below meth c H locs 0 0 (MQ below (va_Qq (fun (r' : Option Nat) (u : CS) => r' = r.map (fun i => ad (6, i)) ∧ u = τ') (CWp D cy A ad) A) ([.ref (ad (4, x0)), .int x1] : List Value).toArray s 0 0 A) (F0 m 25 ls []) := by
    intro τ H locs ls hf hw hS hl
    rw [k_X1_classOf_b25] at hf
    refine lv_null hx hb dX1_classOf_25 ?_
    exact B26 _ none _ _ _ hf hw hS (lv_sub hl [0, 1] rfl)
  rw [k_X1_classOf] at hf
  refine lv_iload_n hx hb dX1_classOf_0 rfl (lv_at hl 1 rfl) ?_
  refine lv_iconst (v := (1 : Int32)) hx hb dX1_classOf_1 (by decide) ?_
  refine lv_icmp_lt (tgt := 25) hx hb dX1_classOf_2 (by decide) (fun c_6 => ?_) (fun c_6 => ?_)
  · have hf := (zi_t c_6).symm.trans hf
    exact B25 _ _ _ _ hf hw hS (lv_sub hl [0, 1] rfl)
  · have hf := (zi_f c_6).symm.trans hf
    refine lv_iload_n hx hb dX1_classOf_5 rfl (lv_at hl 1 rfl) ?_
    refine lv_aload_n hx hb dX1_classOf_6 rfl (lv_at hl 0 rfl) ?_
    obtain ⟨g_7, hf⟩ := zg_inv hf
    refine cr_get (v := .ref (ad (5, x0))) S hK hw 4 x0 g_7 hX1 rfl rfl 1 (by decide) (wz_in (zin2 _ (List.mem_of_getElem? (i := 20) rfl))) rfl rfl dX1_classOf_7 ?_
    obtain ⟨g_8, hf⟩ := zg_inv hf
    refine cr_alen (v := (20 : Int32)) S hK hw 5 x0 6 g_8 rfl rfl (show Int32.ofNat 20 = (20 : Int32) from by decide) dX1_classOf_10 ?_
    refine lv_icmp_gt (tgt := 25) hx hb dX1_classOf_11 (by decide) (fun c_9 => ?_) (fun c_9 => ?_)
    · have hf := (zi_t c_9).symm.trans hf
      exact B25 _ _ _ _ hf hw hS (lv_sub hl [0, 1] rfl)
    · have hf := (zi_f c_9).symm.trans hf
      refine lv_aload_n hx hb dX1_classOf_14 rfl (lv_at hl 0 rfl) ?_
      refine cr_get (v := .ref (ad (5, x0))) S hK hw 4 x0 g_7 hX1 rfl rfl 1 (by decide) (wz_in (zin2 _ (List.mem_of_getElem? (i := 20) rfl))) rfl rfl dX1_classOf_15 ?_
      refine lv_iload_n hx hb dX1_classOf_18 rfl (lv_at hl 1 rfl) ?_
      refine lv_iconst (v := (1 : Int32)) hx hb dX1_classOf_19 (by decide) ?_
      refine lv_isub hx hb dX1_classOf_20 ?_
      obtain ⟨g_10, hf⟩ := zg_inv hf
      refine cr_aald (v := rn ad 6 (co τ 6 (20 * x0 + (x1 - (1 : Int32)).toNatClampNeg))) S hK hw 5 x0 6 g_8 rfl rfl g_10 rfl dX1_classOf_21 ?_
      refine lv_goto (tgt := 26) hx hb dX1_classOf_22 (by decide) ?_
      exact B26 _ (co τ 6 (20 * x0 + (x1 - (1 : Int32)).toNatClampNeg)) _ _ _ hf hw hS (lv_sub hl [0, 1] rfl)
noncomputable def k_X4_becomeAnew_b31 (x0 : Nat) (x1 : Int32) (x2 : Int32) (K : CS → Int32 → Option (Unit × CS)) (τ : CS) (y0 : Int64) (y1 : Int32) (y2 : Nat) (x3 : Int32) : Option (Unit × CS) := zg (cv τ 8 y2 = true) (zg (vp_in y1 (jl y2)) (K (cJ τ y2 y1.toNatClampNeg y0) (x3 + (1 : Int32))))
noncomputable def k_X4_becomeAnew_s2 (x0 : Nat) (x1 : Int32) (x2 : Int32) (K : CS → Int32 → Option (Unit × CS)) (τ : CS) (x3 : Int32) : Option (Unit × CS) := zg (cv τ 6 x0 = true) (zg (cv τ 8 (11 + x0) = true) (zi ((nI (jl (11 + x0))) ≤ x3) (some ((), cI (cI (cI τ 601 x0 x1) 602 x0 (-1 : Int32)) 603 x0 (0 : Int32))) (zi (x2 ≤ x3) (k_X4_becomeAnew_b31 x0 x1 x2 K τ (0 : Int64) x3 (11 + x0) x3) (zg (vp_in x3 (jl (11 + x0))) (k_X4_becomeAnew_b31 x0 x1 x2 K τ (cj τ (11 + x0) x3.toNatClampNeg) x3 (11 + x0) x3)))))
noncomputable def k_X4_becomeAnew_l2 (x0 : Nat) (x1 : Int32) (x2 : Int32) : Nat → CS → Int32 → Option (Unit × CS)
  | 0 => fun _ _ => none
  | n + 1 => fun τ x3 => k_X4_becomeAnew_s2 x0 x1 x2 (k_X4_becomeAnew_l2 x0 x1 x2 n) τ x3
theorem k_X4_becomeAnew_l2_s (x0 : Nat) (x1 : Int32) (x2 : Int32) (n : Nat) (τ : CS) (x3 : Int32) : k_X4_becomeAnew_l2 x0 x1 x2 (n + 1) τ x3 = k_X4_becomeAnew_s2 x0 x1 x2 (k_X4_becomeAnew_l2 x0 x1 x2 n) τ x3 := rfl
theorem k_X4_becomeAnew_l2_z (x0 : Nat) (x1 : Int32) (x2 : Int32) (τ : CS) (x3 : Int32) : k_X4_becomeAnew_l2 x0 x1 x2 0 τ x3 = none := rfl
noncomputable def k_X4_becomeAnew (τ : CS) (x0 : Nat) (x1 : Int32) (x2 : Int32) : Option (Unit × CS) := k_X4_becomeAnew_l2 x0 x1 x2 FU τ (0 : Int32)
set_option maxHeartbeats 4000000 in
set_option maxRecDepth 100000 in
theorem kc_X4_becomeAnew (l : Launch) (D : va_G) (cy : Nat → ClassId) (A : Nat → Prop) (ad : Nat × Nat → Nat) (en : Nat → Nat) (tI tS : Nat) (τ τ' : CS) (x0 : Nat) (x1 : Int32) (x2 : Int32) (hf : k_X4_becomeAnew τ x0 x1 x2 = some ((), τ')) : Met l yX4_becomeAnew (wz yX4_becomeAnew cX4_becomeAnew 4 none) ({ frames := 0, cells := 0, slots := 0, locals := 0 } : Room) (va_Pc [.ref (ad (6, x0)), .int x1, .int x2] (CWs D cy A ad en tI tS τ)) (va_Qv (fun (u : CS) => u = τ') (CWp D cy A ad) A) 0 0 A := by
  refine Met.ofW (cc := cX4_becomeAnew) (maxL := 4) (ret := none) (by decide) rfl ?_
  intro p e s m args below meth c s₁ B hml hv
  obtain ⟨rfl, hw, hC⟩ := hv
  have hK := hC.1
  have hN := hC.2.1
  have hx := B.exec
  have hb := B.bytes
  have hr := B.returns
  have hts := atoms_spec (ws := (wz yX4_becomeAnew cX4_becomeAnew 4 none)) B.pre
  have hown : s.vm.findClass RX4 = some m.cls := findClass_of_methodNamed B.named
  have hlocks := B.notSynchronized
  have S : CallFix p m c cX4_becomeAnew 4 s ([.ref (ad (6, x0)), .int x1, .int x2] : List Value).toArray (wz yX4_becomeAnew cX4_becomeAnew 4 none) RX4 := ⟨hx, hb, hml, hown, hts⟩
  have hX1 : ∀ w ∈ wsX10, w ∈ (wz yX4_becomeAnew cX4_becomeAnew 4 none) := fun w h => wz_in (inlX1 w h)
  have hX2 : ∀ w ∈ wsX20, w ∈ (wz yX4_becomeAnew cX4_becomeAnew 4 none) := fun w h => wz_in (inlX2 w h)
  have hX4 : ∀ w ∈ wsX40, w ∈ (wz yX4_becomeAnew cX4_becomeAnew 4 none) := fun w h => wz_in (inlX4 w h)
  have hX5 : ∀ w ∈ wsX50, w ∈ (wz yX4_becomeAnew cX4_becomeAnew 4 none) := fun w h => wz_in (inlX5 w h)
  have hX6 : ∀ w ∈ wsX60, w ∈ (wz yX4_becomeAnew cX4_becomeAnew 4 none) := fun w h => wz_in (inlX6 w h)
  have hS : va_S A s.heap s.heap [] := va_S.rf
  have hl := lv_entry ([.ref (ad (6, x0)), .int x1, .int x2]) (n := 4) (Nat.le_of_ble_eq_true rfl)
  rw [lg_entry_eq]
  generalize (lg_sl ([.ref (ad (6, x0)), .int x1, .int x2]) ++ List.replicate (4 - (lg_sl ([.ref (ad (6, x0)), .int x1, .int x2])).length) Slot.unset).toArray = ls at hl ⊢
  have hl : lv_has ls 4 [(0, .ref (ad (6, x0))), (1, .int x1), (2, .int x2)] := hl
  have B31 : ∀ (K : CS → Int32 → Option (Unit × CS)) (_hKK : ∀ (τ : CS) (x3 : Int32) (H : Heap) (locs : List Loc) (ls : Array Slot) (hf : K τ x3 = some ((), τ')) (hw : zw D A ad (cG cy ad τ) H) (hS : va_S A s.heap H locs) (hl : lv_has ls 4 [(0, .ref (ad (6, x0))), (1, .int x1), (2, .int x2), (3, .int x3)]), W p l e (headSpec (wz yX4_becomeAnew cX4_becomeAnew 4 none) ({ frames := 0, cells := 0, slots := 0, locals := 0 } : Room)).room s m ([.ref (ad (6, x0)), .int x1, .int x2] : List Value).toArray below meth c H locs 0 0 (MQ below (va_Qv (fun (u : CS) => u = τ') (CWp D cy A ad) A) ([.ref (ad (6, x0)), .int x1, .int x2] : List Value).toArray s 0 0 A) (F0 m 2 ls [])) (τ : CS) (y0 : Int64) (y1 : Int32) (y2 : Nat) (x3 : Int32) (H : Heap) (locs : List Loc) (ls : Array Slot) (hf : k_X4_becomeAnew_b31 x0 x1 x2 K τ y0 y1 y2 x3 = some ((), τ')) (hw : zw D A ad (cG cy ad τ) H) (hS : va_S A s.heap H locs) (hl : lv_has ls 4 [(0, .ref (ad (6, x0))), (1, .int x1), (2, .int x2), (3, .int x3)]), W p l e (headSpec (wz yX4_becomeAnew cX4_becomeAnew 4 none) ({ frames := 0, cells := 0, slots := 0, locals := 0 } : Room)).room s m ([.ref (ad (6, x0)), .int x1, .int x2] : List Value).toArray below meth c H locs 0 0 (MQ below (va_Qv (fun (u : CS) => u = τ') (CWp D cy A ad) A) ([.ref (ad (6, x0)), .int x1, .int x2] : List Value).toArray s 0 0 A) (F0 m 31 ls [.long y0, .int y1, .ref (ad (8, y2))]) := by
    intro K hKK τ y0 y1 y2 x3 H locs ls hf hw hS hl
    rw [k_X4_becomeAnew_b31] at hf
    obtain ⟨g_8, hf⟩ := zg_inv hf
    obtain ⟨g_9, hf⟩ := zg_inv hf
    refine cr_last S hK hw hS y2 g_8 g_9 dX4_becomeAnew_31 (fun H locs hw hS => ?_)
    refine lv_iinc (v := x3 + (1 : Int32)) (lv' := [(3, .int (x3 + (1 : Int32))), (0, .ref (ad (6, x0))), (1, .int x1), (2, .int x2)]) hx hb dX4_becomeAnew_32 hl (k := 3) rfl rfl (by decide) rfl (fun ls hl => ?_)
    refine lv_goto (tgt := 2) hx hb dX4_becomeAnew_35 (by decide) ?_
    exact hKK _ (x3 + (1 : Int32)) _ _ _ hf hw hS (lv_sub hl [1, 2, 3, 0] rfl)
  have S2 : ∀ (K : CS → Int32 → Option (Unit × CS)) (_hKK : ∀ (τ : CS) (x3 : Int32) (H : Heap) (locs : List Loc) (ls : Array Slot) (hf : K τ x3 = some ((), τ')) (hw : zw D A ad (cG cy ad τ) H) (hS : va_S A s.heap H locs) (hl : lv_has ls 4 [(0, .ref (ad (6, x0))), (1, .int x1), (2, .int x2), (3, .int x3)]), W p l e (headSpec (wz yX4_becomeAnew cX4_becomeAnew 4 none) ({ frames := 0, cells := 0, slots := 0, locals := 0 } : Room)).room s m ([.ref (ad (6, x0)), .int x1, .int x2] : List Value).toArray below meth c H locs 0 0 (MQ below (va_Qv (fun (u : CS) => u = τ') (CWp D cy A ad) A) ([.ref (ad (6, x0)), .int x1, .int x2] : List Value).toArray s 0 0 A) (F0 m 2 ls [])) (τ : CS) (x3 : Int32) (H : Heap) (locs : List Loc) (ls : Array Slot) (hf : k_X4_becomeAnew_s2 x0 x1 x2 K τ x3 = some ((), τ')) (hw : zw D A ad (cG cy ad τ) H) (hS : va_S A s.heap H locs) (hl : lv_has ls 4 [(0, .ref (ad (6, x0))), (1, .int x1), (2, .int x2), (3, .int x3)]), W p l e (headSpec (wz yX4_becomeAnew cX4_becomeAnew 4 none) ({ frames := 0, cells := 0, slots := 0, locals := 0 } : Room)).room s m ([.ref (ad (6, x0)), .int x1, .int x2] : List Value).toArray below meth c H locs 0 0 (MQ below (va_Qv (fun (u : CS) => u = τ') (CWp D cy A ad) A) ([.ref (ad (6, x0)), .int x1, .int x2] : List Value).toArray s 0 0 A) (F0 m 2 ls []) := by
    intro K hKK τ x3 H locs ls hf hw hS hl
    rw [k_X4_becomeAnew_s2] at hf
    refine lv_iload_n hx hb dX4_becomeAnew_2 rfl (lv_at hl 3 rfl) ?_
    refine lv_aload_n hx hb dX4_becomeAnew_3 rfl (lv_at hl 0 rfl) ?_
    obtain ⟨g_10, hf⟩ := zg_inv hf
    refine cr_get (v := .ref (ad (8, 11 + x0))) S hK hw 6 x0 g_10 hX4 rfl rfl 0 (by decide) (wz_in (zin9 _ (List.mem_of_getElem? (i := 22) rfl))) rfl rfl dX4_becomeAnew_4 ?_
    obtain ⟨g_11, hf⟩ := zg_inv hf
    refine cr_alen (v := nI (jl (11 + x0))) S hK hw 8 (11 + x0) 2 g_11 rfl rfl rfl dX4_becomeAnew_7 ?_
    refine lv_icmp_ge (tgt := 38) hx hb dX4_becomeAnew_8 (by decide) (fun c_12 => ?_) (fun c_12 => ?_)
    · have hf := (zi_t c_12).symm.trans hf
      refine lv_aload_n hx hb dX4_becomeAnew_38 rfl (lv_at hl 0 rfl) ?_
      refine lv_iload_n hx hb dX4_becomeAnew_39 rfl (lv_at hl 1 rfl) ?_
      refine cr_put (v := .int x1) (σ1 := cI τ 601 x0 x1) S hK hw hS 6 x0 g_10 hX4 tyX4 tyX4_ok nmX4 rfl rfl 1 (by decide) (wz_in (zin10 _ (List.mem_of_getElem? (i := 0) rfl))) rfl rfl rfl rfl (Nat.le_of_ble_eq_true rfl) dX4_becomeAnew_40 rfl (cput_601 _ _ _ _ _) (cout_601 _ _ _ _ _) (fun H locs hw hS => ?_)
      refine lv_aload_n hx hb dX4_becomeAnew_43 rfl (lv_at hl 0 rfl) ?_
      refine lv_iconst (v := (-1 : Int32)) hx hb dX4_becomeAnew_44 (by decide) ?_
      refine cr_put (v := .int (-1 : Int32)) (σ1 := cI (cI τ 601 x0 x1) 602 x0 (-1 : Int32)) S hK hw hS 6 x0 g_10 hX4 tyX4 tyX4_ok nmX4 rfl rfl 2 (by decide) (wz_in (zin9 _ (List.mem_of_getElem? (i := 23) rfl))) rfl rfl rfl rfl (Nat.le_of_ble_eq_true rfl) dX4_becomeAnew_45 rfl (cput_602 _ _ _ _ _) (cout_602 _ _ _ _ _) (fun H locs hw hS => ?_)
      refine lv_aload_n hx hb dX4_becomeAnew_48 rfl (lv_at hl 0 rfl) ?_
      refine lv_iconst (v := (0 : Int32)) hx hb dX4_becomeAnew_49 (by decide) ?_
      refine cr_put (v := .int (0 : Int32)) (σ1 := cI (cI (cI τ 601 x0 x1) 602 x0 (-1 : Int32)) 603 x0 (0 : Int32)) S hK hw hS 6 x0 g_10 hX4 tyX4 tyX4_ok nmX4 rfl rfl 3 (by decide) (wz_in (zin18 _ (List.mem_of_getElem? (i := 15) rfl))) rfl rfl rfl rfl (Nat.le_of_ble_eq_true rfl) dX4_becomeAnew_50 rfl (cput_603 _ _ _ _ _) (cout_603 _ _ _ _ _) (fun H locs hw hS => ?_)
      exact cw_retv S hr hf hw hS hlocks dX4_becomeAnew_53
    · have hf := (zi_f c_12).symm.trans hf
      refine lv_aload_n hx hb dX4_becomeAnew_11 rfl (lv_at hl 0 rfl) ?_
      refine cr_get (v := .ref (ad (8, 11 + x0))) S hK hw 6 x0 g_10 hX4 rfl rfl 0 (by decide) (wz_in (zin9 _ (List.mem_of_getElem? (i := 22) rfl))) rfl rfl dX4_becomeAnew_12 ?_
      refine lv_iload_n hx hb dX4_becomeAnew_15 rfl (lv_at hl 3 rfl) ?_
      refine lv_iload_n hx hb dX4_becomeAnew_16 rfl (lv_at hl 3 rfl) ?_
      refine lv_iload_n hx hb dX4_becomeAnew_17 rfl (lv_at hl 2 rfl) ?_
      refine lv_icmp_ge (tgt := 30) hx hb dX4_becomeAnew_18 (by decide) (fun c_13 => ?_) (fun c_13 => ?_)
      · have hf := (zi_t c_13).symm.trans hf
        refine lv_lconst (v := (0 : Int64)) hx hb dX4_becomeAnew_30 (by decide) ?_
        exact B31 K hKK _ (0 : Int64) x3 (11 + x0) x3 _ _ _ hf hw hS (lv_sub hl [0, 1, 2, 3] rfl)
      · have hf := (zi_f c_13).symm.trans hf
        refine lv_aload_n hx hb dX4_becomeAnew_21 rfl (lv_at hl 0 rfl) ?_
        refine cr_get (v := .ref (ad (8, 11 + x0))) S hK hw 6 x0 g_10 hX4 rfl rfl 0 (by decide) (wz_in (zin9 _ (List.mem_of_getElem? (i := 22) rfl))) rfl rfl dX4_becomeAnew_22 ?_
        refine lv_iload_n hx hb dX4_becomeAnew_25 rfl (lv_at hl 3 rfl) ?_
        obtain ⟨g_14, hf⟩ := zg_inv hf
        refine cr_lald S hK hw (11 + x0) g_11 g_14 dX4_becomeAnew_26 ?_
        refine lv_goto (tgt := 31) hx hb dX4_becomeAnew_27 (by decide) ?_
        exact B31 K hKK _ (cj τ (11 + x0) x3.toNatClampNeg) x3 (11 + x0) x3 _ _ _ hf hw hS (lv_sub hl [0, 1, 2, 3] rfl)
  have L2 : ∀ (n : Nat) (τ : CS) (x3 : Int32) (H : Heap) (locs : List Loc) (ls : Array Slot) (hf : k_X4_becomeAnew_l2 x0 x1 x2 n τ x3 = some ((), τ')) (hw : zw D A ad (cG cy ad τ) H) (hS : va_S A s.heap H locs) (hl : lv_has ls 4 [(0, .ref (ad (6, x0))), (1, .int x1), (2, .int x2), (3, .int x3)]), W p l e (headSpec (wz yX4_becomeAnew cX4_becomeAnew 4 none) ({ frames := 0, cells := 0, slots := 0, locals := 0 } : Room)).room s m ([.ref (ad (6, x0)), .int x1, .int x2] : List Value).toArray below meth c H locs 0 0 (MQ below (va_Qv (fun (u : CS) => u = τ') (CWp D cy A ad) A) ([.ref (ad (6, x0)), .int x1, .int x2] : List Value).toArray s 0 0 A) (F0 m 2 ls []) := by
    intro n
    induction n with
    | zero =>
      intro τ x3 H locs ls hf hw hS hl
      rw [k_X4_becomeAnew_l2_z] at hf
      cases hf
    | succ n ih =>
      intro τ x3 H locs ls hf hw hS hl
      rw [k_X4_becomeAnew_l2_s] at hf
      exact S2 (k_X4_becomeAnew_l2 x0 x1 x2 n) ih τ x3 H locs ls hf hw hS hl
  rw [k_X4_becomeAnew] at hf
  refine lv_iconst (v := (0 : Int32)) hx hb dX4_becomeAnew_0 (by decide) ?_
  refine lv_istore_n (lv' := [(3, .int (0 : Int32)), (0, .ref (ad (6, x0))), (1, .int x1), (2, .int x2)]) hx hb dX4_becomeAnew_1 rfl hl (by decide) rfl (fun ls hl => ?_)
  exact L2 FU _ (0 : Int32) _ _ _ hf hw hS (lv_sub hl [1, 2, 3, 0] rfl)
noncomputable def k_X6_refuse (τ : CS) (x1 : Int32) : Option (Int32 × CS) := zg (cv τ 0 0 = true) (some (x1, cI τ 7 0 ((ci τ 7 0) + (1 : Int32))))
set_option maxHeartbeats 4000000 in
set_option maxRecDepth 100000 in
theorem kc_X6_refuse (l : Launch) (D : va_G) (cy : Nat → ClassId) (A : Nat → Prop) (ad : Nat × Nat → Nat) (en : Nat → Nat) (tI tS : Nat) (τ τ' : CS) (x1 : Int32) (r : Int32) (hf : k_X6_refuse τ x1 = some (r, τ')) : Met l yX6_refuse (wz yX6_refuse cX6_refuse 2 (some .int)) ({ frames := 0, cells := 0, slots := 0, locals := 0 } : Room) (va_Pc [.ref (ad (0, 0)), .int x1] (CWs D cy A ad en tI tS τ)) (va_Qi (fun (r' : Int32) (u : CS) => r' = r ∧ u = τ') (CWp D cy A ad) A) 0 0 A := by
  refine Met.ofW (cc := cX6_refuse) (maxL := 2) (ret := (some .int)) (by decide) rfl ?_
  intro p e s m args below meth c s₁ B hml hv
  obtain ⟨rfl, hw, hC⟩ := hv
  have hK := hC.1
  have hN := hC.2.1
  have hx := B.exec
  have hb := B.bytes
  have hr := B.returns
  have hts := atoms_spec (ws := (wz yX6_refuse cX6_refuse 2 (some .int))) B.pre
  have hown : s.vm.findClass RX6 = some m.cls := findClass_of_methodNamed B.named
  have hlocks := B.notSynchronized
  have S : CallFix p m c cX6_refuse 2 s ([.ref (ad (0, 0)), .int x1] : List Value).toArray (wz yX6_refuse cX6_refuse 2 (some .int)) RX6 := ⟨hx, hb, hml, hown, hts⟩
  have hX1 : ∀ w ∈ wsX10, w ∈ (wz yX6_refuse cX6_refuse 2 (some .int)) := fun w h => wz_in (inlX1 w h)
  have hX2 : ∀ w ∈ wsX20, w ∈ (wz yX6_refuse cX6_refuse 2 (some .int)) := fun w h => wz_in (inlX2 w h)
  have hX4 : ∀ w ∈ wsX40, w ∈ (wz yX6_refuse cX6_refuse 2 (some .int)) := fun w h => wz_in (inlX4 w h)
  have hX5 : ∀ w ∈ wsX50, w ∈ (wz yX6_refuse cX6_refuse 2 (some .int)) := fun w h => wz_in (inlX5 w h)
  have hX6 : ∀ w ∈ wsX60, w ∈ (wz yX6_refuse cX6_refuse 2 (some .int)) := fun w h => wz_in (inlX6 w h)
  have hS : va_S A s.heap s.heap [] := va_S.rf
  have hl := lv_entry ([.ref (ad (0, 0)), .int x1]) (n := 2) (Nat.le_of_ble_eq_true rfl)
  rw [lg_entry_eq]
  generalize (lg_sl ([.ref (ad (0, 0)), .int x1]) ++ List.replicate (2 - (lg_sl ([.ref (ad (0, 0)), .int x1])).length) Slot.unset).toArray = ls at hl ⊢
  have hl : lv_has ls 2 [(0, .ref (ad (0, 0))), (1, .int x1)] := hl
  rw [k_X6_refuse] at hf
  refine lv_aload_n hx hb dX6_refuse_0 rfl (lv_at hl 0 rfl) ?_
  refine lv_dup hx hb dX6_refuse_1 rfl ?_
  obtain ⟨g_2, hf⟩ := zg_inv hf
  refine cr_get (v := .int (ci τ 7 0)) S hK hw 0 0 g_2 hX6 rfl rfl 7 (by decide) (wz_in (zin4 _ (List.mem_of_getElem? (i := 23) rfl))) rfl rfl dX6_refuse_2 ?_
  refine lv_iconst (v := (1 : Int32)) hx hb dX6_refuse_5 (by decide) ?_
  refine lv_iadd hx hb dX6_refuse_6 ?_
  refine cr_put (v := .int ((ci τ 7 0) + (1 : Int32))) (σ1 := cI τ 7 0 ((ci τ 7 0) + (1 : Int32))) S hK hw hS 0 0 g_2 hX6 tyX6 tyX6_ok nmX6 rfl rfl 7 (by decide) (wz_in (zin4 _ (List.mem_of_getElem? (i := 23) rfl))) rfl rfl rfl rfl (Nat.le_of_ble_eq_true rfl) dX6_refuse_7 rfl (cput_7 _ _ _ _ _) (cout_7 _ _ _ _ _) (fun H locs hw hS => ?_)
  refine lv_iload_n hx hb dX6_refuse_10 rfl (lv_at hl 1 rfl) ?_
  exact cw_reti S hr hf hw hS hlocks dX6_refuse_11
noncomputable def k_X6_putOctet_b39 (x1 : Int32) (τ : CS) : Option (Unit × CS) := some ((), τ)
noncomputable def k_X6_putOctet (τ : CS) (x1 : Int32) : Option (Unit × CS) := zg (cv τ 0 0 = true) (zi ((ci τ 5 0) < 0) (k_X6_putOctet_b39 x1 τ) (zg (cv τ 9 0 = true) (zi ((nI (cbl τ 0)) ≤ (ci τ 5 0)) (k_X6_putOctet_b39 x1 τ) (zg (vp_in (ci τ 5 0) (cbl τ 0)) (k_X6_putOctet_b39 x1 (cI (cB τ 0 (ci τ 5 0).toNatClampNeg (vp_nar .byte x1)) 5 0 ((ci (cB τ 0 (ci τ 5 0).toNatClampNeg (vp_nar .byte x1)) 5 0) + (1 : Int32))))))))
set_option maxHeartbeats 4000000 in
set_option maxRecDepth 100000 in
theorem kc_X6_putOctet (l : Launch) (D : va_G) (cy : Nat → ClassId) (A : Nat → Prop) (ad : Nat × Nat → Nat) (en : Nat → Nat) (tI tS : Nat) (τ τ' : CS) (x1 : Int32) (hf : k_X6_putOctet τ x1 = some ((), τ')) : Met l yX6_putOctet (wz yX6_putOctet cX6_putOctet 2 none) ({ frames := 0, cells := 0, slots := 0, locals := 0 } : Room) (va_Pc [.ref (ad (0, 0)), .int x1] (CWs D cy A ad en tI tS τ)) (va_Qv (fun (u : CS) => u = τ') (CWp D cy A ad) A) 0 0 A := by
  refine Met.ofW (cc := cX6_putOctet) (maxL := 2) (ret := none) (by decide) rfl ?_
  intro p e s m args below meth c s₁ B hml hv
  obtain ⟨rfl, hw, hC⟩ := hv
  have hK := hC.1
  have hN := hC.2.1
  have hx := B.exec
  have hb := B.bytes
  have hr := B.returns
  have hts := atoms_spec (ws := (wz yX6_putOctet cX6_putOctet 2 none)) B.pre
  have hown : s.vm.findClass RX6 = some m.cls := findClass_of_methodNamed B.named
  have hlocks := B.notSynchronized
  have S : CallFix p m c cX6_putOctet 2 s ([.ref (ad (0, 0)), .int x1] : List Value).toArray (wz yX6_putOctet cX6_putOctet 2 none) RX6 := ⟨hx, hb, hml, hown, hts⟩
  have hX1 : ∀ w ∈ wsX10, w ∈ (wz yX6_putOctet cX6_putOctet 2 none) := fun w h => wz_in (inlX1 w h)
  have hX2 : ∀ w ∈ wsX20, w ∈ (wz yX6_putOctet cX6_putOctet 2 none) := fun w h => wz_in (inlX2 w h)
  have hX4 : ∀ w ∈ wsX40, w ∈ (wz yX6_putOctet cX6_putOctet 2 none) := fun w h => wz_in (inlX4 w h)
  have hX5 : ∀ w ∈ wsX50, w ∈ (wz yX6_putOctet cX6_putOctet 2 none) := fun w h => wz_in (inlX5 w h)
  have hX6 : ∀ w ∈ wsX60, w ∈ (wz yX6_putOctet cX6_putOctet 2 none) := fun w h => wz_in (inlX6 w h)
  have hS : va_S A s.heap s.heap [] := va_S.rf
  have hl := lv_entry ([.ref (ad (0, 0)), .int x1]) (n := 2) (Nat.le_of_ble_eq_true rfl)
  rw [lg_entry_eq]
  generalize (lg_sl ([.ref (ad (0, 0)), .int x1]) ++ List.replicate (2 - (lg_sl ([.ref (ad (0, 0)), .int x1])).length) Slot.unset).toArray = ls at hl ⊢
  have hl : lv_has ls 2 [(0, .ref (ad (0, 0))), (1, .int x1)] := hl
  have B39 : ∀ (τ : CS) (H : Heap) (locs : List Loc) (ls : Array Slot) (hf : k_X6_putOctet_b39 x1 τ = some ((), τ')) (hw : zw D A ad (cG cy ad τ) H) (hS : va_S A s.heap H locs) (hl : lv_has ls 2 [(0, .ref (ad (0, 0))), (1, .int x1)]), W p l e (headSpec (wz yX6_putOctet cX6_putOctet 2 none) ({ frames := 0, cells := 0, slots := 0, locals := 0 } : Room)).room s m ([.ref (ad (0, 0)), .int x1] : List Value).toArray below meth c H locs 0 0 (MQ below (va_Qv (fun (u : CS) => u = τ') (CWp D cy A ad) A) ([.ref (ad (0, 0)), .int x1] : List Value).toArray s 0 0 A) (F0 m 39 ls []) := by
    intro τ H locs ls hf hw hS hl
    rw [k_X6_putOctet_b39] at hf
    exact cw_retv S hr hf hw hS hlocks dX6_putOctet_39
  rw [k_X6_putOctet] at hf
  refine lv_aload_n hx hb dX6_putOctet_0 rfl (lv_at hl 0 rfl) ?_
  obtain ⟨g_6, hf⟩ := zg_inv hf
  refine cr_get (v := .int (ci τ 5 0)) S hK hw 0 0 g_6 hX6 rfl rfl 5 (by decide) (wz_in (zin4 _ (List.mem_of_getElem? (i := 18) rfl))) rfl rfl dX6_putOctet_1 ?_
  refine lv_if_lt (tgt := 39) hx hb dX6_putOctet_4 (by decide) (fun c_7 => ?_) (fun c_7 => ?_)
  · have hf := (zi_t c_7).symm.trans hf
    exact B39 _ _ _ _ hf hw hS (lv_sub hl [0, 1] rfl)
  · have hf := (zi_f c_7).symm.trans hf
    refine lv_aload_n hx hb dX6_putOctet_7 rfl (lv_at hl 0 rfl) ?_
    refine cr_get (v := .int (ci τ 5 0)) S hK hw 0 0 g_6 hX6 rfl rfl 5 (by decide) (wz_in (zin4 _ (List.mem_of_getElem? (i := 18) rfl))) rfl rfl dX6_putOctet_8 ?_
    refine lv_aload_n hx hb dX6_putOctet_11 rfl (lv_at hl 0 rfl) ?_
    refine cr_get (v := .ref (ad (9, 0))) S hK hw 0 0 g_6 hX6 rfl rfl 4 (by decide) (wz_in (zin2 _ (List.mem_of_getElem? (i := 14) rfl))) rfl rfl dX6_putOctet_12 ?_
    obtain ⟨g_8, hf⟩ := zg_inv hf
    refine cr_alen (v := nI (cbl τ 0)) S hK hw 9 0 0 g_8 rfl rfl rfl dX6_putOctet_15 ?_
    refine lv_icmp_ge (tgt := 39) hx hb dX6_putOctet_16 (by decide) (fun c_9 => ?_) (fun c_9 => ?_)
    · have hf := (zi_t c_9).symm.trans hf
      exact B39 _ _ _ _ hf hw hS (lv_sub hl [0, 1] rfl)
    · have hf := (zi_f c_9).symm.trans hf
      refine lv_aload_n hx hb dX6_putOctet_19 rfl (lv_at hl 0 rfl) ?_
      refine cr_get (v := .ref (ad (9, 0))) S hK hw 0 0 g_6 hX6 rfl rfl 4 (by decide) (wz_in (zin2 _ (List.mem_of_getElem? (i := 14) rfl))) rfl rfl dX6_putOctet_20 ?_
      refine lv_aload_n hx hb dX6_putOctet_23 rfl (lv_at hl 0 rfl) ?_
      refine cr_get (v := .int (ci τ 5 0)) S hK hw 0 0 g_6 hX6 rfl rfl 5 (by decide) (wz_in (zin4 _ (List.mem_of_getElem? (i := 18) rfl))) rfl rfl dX6_putOctet_24 ?_
      refine lv_iload_n hx hb dX6_putOctet_27 rfl (lv_at hl 1 rfl) ?_
      obtain ⟨g_10, hf⟩ := zg_inv hf
      refine cr_bast S hK hw hS 0 g_8 g_10 dX6_putOctet_28 (fun H locs hw hS => ?_)
      refine lv_aload_n hx hb dX6_putOctet_29 rfl (lv_at hl 0 rfl) ?_
      refine lv_dup hx hb dX6_putOctet_30 rfl ?_
      refine cr_get (v := .int (ci (cB τ 0 (ci τ 5 0).toNatClampNeg (vp_nar .byte x1)) 5 0)) S hK hw 0 0 g_6 hX6 rfl rfl 5 (by decide) (wz_in (zin4 _ (List.mem_of_getElem? (i := 18) rfl))) rfl rfl dX6_putOctet_31 ?_
      refine lv_iconst (v := (1 : Int32)) hx hb dX6_putOctet_34 (by decide) ?_
      refine lv_iadd hx hb dX6_putOctet_35 ?_
      refine cr_put (v := .int ((ci (cB τ 0 (ci τ 5 0).toNatClampNeg (vp_nar .byte x1)) 5 0) + (1 : Int32))) (σ1 := cI (cB τ 0 (ci τ 5 0).toNatClampNeg (vp_nar .byte x1)) 5 0 ((ci (cB τ 0 (ci τ 5 0).toNatClampNeg (vp_nar .byte x1)) 5 0) + (1 : Int32))) S hK hw hS 0 0 g_6 hX6 tyX6 tyX6_ok nmX6 rfl rfl 5 (by decide) (wz_in (zin4 _ (List.mem_of_getElem? (i := 18) rfl))) rfl rfl rfl rfl (Nat.le_of_ble_eq_true rfl) dX6_putOctet_36 rfl (cput_5 _ _ _ _ _) (cout_5 _ _ _ _ _) (fun H locs hw hS => ?_)
      exact B39 _ _ _ _ hf hw hS (lv_sub hl [0, 1] rfl)
noncomputable def k_X6_file_s44 (x1 : Int64) (x3 : Int32) (K : CS → Int32 → Option (Int32 × CS)) (τ : CS) (x4 : Int32) : Option (Int32 × CS) := zi (x4 < 0) (zg (cv τ 0 0 = true) (some (ci τ 5 0, τ))) (zg (cv τ 0 0 = true) (zb (k_X6_putOctet τ (((x1 >>> (((8 : Int32) * x4).toInt64 &&& 63)).toInt32).toInt8.toInt32)) (fun _ t_22 => K t_22 (x4 + (-1 : Int32)))))
noncomputable def k_X6_file_l44 (x1 : Int64) (x3 : Int32) : Nat → CS → Int32 → Option (Int32 × CS)
  | 0 => fun _ _ => none
  | n + 1 => fun τ x4 => k_X6_file_s44 x1 x3 (k_X6_file_l44 x1 x3 n) τ x4
theorem k_X6_file_l44_s (x1 : Int64) (x3 : Int32) (n : Nat) (τ : CS) (x4 : Int32) : k_X6_file_l44 x1 x3 (n + 1) τ x4 = k_X6_file_s44 x1 x3 (k_X6_file_l44 x1 x3 n) τ x4 := rfl
theorem k_X6_file_l44_z (x1 : Int64) (x3 : Int32) (τ : CS) (x4 : Int32) : k_X6_file_l44 x1 x3 0 τ x4 = none := rfl
noncomputable def k_X6_file_b11 (x1 : Int64) (x3 : Int32) (τ : CS) : Option (Int32 × CS) := zg (cv τ 0 0 = true) (zb (k_X6_refuse τ (-2 : Int32)) (fun r_25 t_26 => some (r_25, t_26)))
noncomputable def k_X6_file (τ : CS) (x1 : Int64) (x3 : Int32) : Option (Int32 × CS) := zi (x3 < (1 : Int32)) (k_X6_file_b11 x1 x3 τ) (zi (x3 ≤ (8 : Int32)) (zg (cv τ 0 0 = true) (zg (cv τ 9 0 = true) (zi (((ci τ 5 0) + x3) ≤ (nI (cbl τ 0))) (k_X6_file_l44 x1 x3 FU τ (x3 - (1 : Int32))) (zb (k_X6_refuse τ (-4 : Int32)) (fun r_34 t_35 => some (r_34, t_35)))))) (k_X6_file_b11 x1 x3 τ))
set_option maxHeartbeats 4000000 in
set_option maxRecDepth 100000 in
theorem kc_X6_file (l : Launch) (D : va_G) (cy : Nat → ClassId) (A : Nat → Prop) (ad : Nat × Nat → Nat) (en : Nat → Nat) (tI tS : Nat) (τ τ' : CS) (x1 : Int64) (x3 : Int32) (r : Int32) (hf : k_X6_file τ x1 x3 = some (r, τ')) : Met l yX6_file (wz yX6_file cX6_file 5 (some .int)) ({ frames := 1, cells := 0, slots := 0, locals := 21 } : Room) (va_Pc [.ref (ad (0, 0)), .long x1, .int x3] (CWs D cy A ad en tI tS τ)) (va_Qi (fun (r' : Int32) (u : CS) => r' = r ∧ u = τ') (CWp D cy A ad) A) 0 0 A := by
  refine Met.ofW (cc := cX6_file) (maxL := 5) (ret := (some .int)) (by decide) rfl ?_
  intro p e s m args below meth c s₁ B hml hv
  obtain ⟨rfl, hw, hC⟩ := hv
  have hK := hC.1
  have hN := hC.2.1
  have hx := B.exec
  have hb := B.bytes
  have hr := B.returns
  have hts := atoms_spec (ws := (wz yX6_file cX6_file 5 (some .int))) B.pre
  have hown : s.vm.findClass RX6 = some m.cls := findClass_of_methodNamed B.named
  have hlocks := B.notSynchronized
  have S : CallFix p m c cX6_file 5 s ([.ref (ad (0, 0)), .long x1, .int x3] : List Value).toArray (wz yX6_file cX6_file 5 (some .int)) RX6 := ⟨hx, hb, hml, hown, hts⟩
  have hX1 : ∀ w ∈ wsX10, w ∈ (wz yX6_file cX6_file 5 (some .int)) := fun w h => wz_in (inlX1 w h)
  have hX2 : ∀ w ∈ wsX20, w ∈ (wz yX6_file cX6_file 5 (some .int)) := fun w h => wz_in (inlX2 w h)
  have hX4 : ∀ w ∈ wsX40, w ∈ (wz yX6_file cX6_file 5 (some .int)) := fun w h => wz_in (inlX4 w h)
  have hX5 : ∀ w ∈ wsX50, w ∈ (wz yX6_file cX6_file 5 (some .int)) := fun w h => wz_in (inlX5 w h)
  have hX6 : ∀ w ∈ wsX60, w ∈ (wz yX6_file cX6_file 5 (some .int)) := fun w h => wz_in (inlX6 w h)
  have hS : va_S A s.heap s.heap [] := va_S.rf
  have hl := lv_entry ([.ref (ad (0, 0)), .long x1, .int x3]) (n := 5) (Nat.le_of_ble_eq_true rfl)
  rw [lg_entry_eq]
  generalize (lg_sl ([.ref (ad (0, 0)), .long x1, .int x3]) ++ List.replicate (5 - (lg_sl ([.ref (ad (0, 0)), .long x1, .int x3])).length) Slot.unset).toArray = ls at hl ⊢
  have hl : lv_has ls 5 [(0, .ref (ad (0, 0))), (1, .long x1), (3, .int x3)] := hl
  have S44 : ∀ (K : CS → Int32 → Option (Int32 × CS)) (_hKK : ∀ (τ : CS) (x4 : Int32) (H : Heap) (locs : List Loc) (ls : Array Slot) (hf : K τ x4 = some (r, τ')) (hw : zw D A ad (cG cy ad τ) H) (hS : va_S A s.heap H locs) (hl : lv_has ls 5 [(0, .ref (ad (0, 0))), (1, .long x1), (3, .int x3), (4, .int x4)]), W p l e (headSpec (wz yX6_file cX6_file 5 (some .int)) ({ frames := 1, cells := 0, slots := 0, locals := 21 } : Room)).room s m ([.ref (ad (0, 0)), .long x1, .int x3] : List Value).toArray below meth c H locs 0 0 (MQ below (va_Qi (fun (r' : Int32) (u : CS) => r' = r ∧ u = τ') (CWp D cy A ad) A) ([.ref (ad (0, 0)), .long x1, .int x3] : List Value).toArray s 0 0 A) (F0 m 44 ls [])) (τ : CS) (x4 : Int32) (H : Heap) (locs : List Loc) (ls : Array Slot) (hf : k_X6_file_s44 x1 x3 K τ x4 = some (r, τ')) (hw : zw D A ad (cG cy ad τ) H) (hS : va_S A s.heap H locs) (hl : lv_has ls 5 [(0, .ref (ad (0, 0))), (1, .long x1), (3, .int x3), (4, .int x4)]), W p l e (headSpec (wz yX6_file cX6_file 5 (some .int)) ({ frames := 1, cells := 0, slots := 0, locals := 21 } : Room)).room s m ([.ref (ad (0, 0)), .long x1, .int x3] : List Value).toArray below meth c H locs 0 0 (MQ below (va_Qi (fun (r' : Int32) (u : CS) => r' = r ∧ u = τ') (CWp D cy A ad) A) ([.ref (ad (0, 0)), .long x1, .int x3] : List Value).toArray s 0 0 A) (F0 m 44 ls []) := by
    intro K hKK τ x4 H locs ls hf hw hS hl
    rw [k_X6_file_s44] at hf
    refine lv_iload hx hb dX6_file_44 (lv_at hl 3 rfl) ?_
    refine lv_if_lt (tgt := 68) hx hb dX6_file_46 (by decide) (fun c_19 => ?_) (fun c_19 => ?_)
    · have hf := (zi_t c_19).symm.trans hf
      refine lv_aload_n hx hb dX6_file_68 rfl (lv_at hl 0 rfl) ?_
      obtain ⟨g_20, hf⟩ := zg_inv hf
      refine cr_get (v := .int (ci τ 5 0)) S hK hw 0 0 g_20 hX6 rfl rfl 5 (by decide) (wz_in (zin4 _ (List.mem_of_getElem? (i := 18) rfl))) rfl rfl dX6_file_69 ?_
      exact cw_reti S hr hf hw hS hlocks dX6_file_72
    · have hf := (zi_f c_19).symm.trans hf
      refine lv_aload_n hx hb dX6_file_49 rfl (lv_at hl 0 rfl) ?_
      refine lv_lload_n hx hb dX6_file_50 rfl (lv_at hl 1 rfl) ?_
      refine lv_bipush (v := (8 : Int32)) hx hb dX6_file_51 (by decide) ?_
      refine lv_iload hx hb dX6_file_53 (lv_at hl 3 rfl) ?_
      refine lv_imul hx hb dX6_file_55 ?_
      refine lv_lshr (v := x1 >>> (((8 : Int32) * x4).toInt64 &&& 63)) hx hb dX6_file_56 rfl ?_
      refine lv_l2i (v := (x1 >>> (((8 : Int32) * x4).toInt64 &&& 63)).toInt32) hx hb dX6_file_57 rfl ?_
      refine lv_i2b (v := ((x1 >>> (((8 : Int32) * x4).toInt64 &&& 63)).toInt32).toInt8.toInt32) hx hb dX6_file_58 rfl ?_
      obtain ⟨g_24, hf⟩ := zg_inv hf
      obtain ⟨⟨⟩, t_22, e_23, hf⟩ := zb_inv hf
      refine cw_fv (va_runV (As := [.int (((x1 >>> (((8 : Int32) * x4).toInt64 &&& 63)).toInt32).toInt8.toInt32)]) (rest := []) S (kc_X6_putOctet l D cy A ad en tI tS _ _ (((x1 >>> (((8 : Int32) * x4).toInt64 &&& 63)).toInt32).toInt8.toInt32) e_23) (cwV 1 hts (wz_V (zin5 _ (List.mem_of_getElem? (i := 3) rfl)) (zin5 _ (List.mem_of_getElem? (i := 0) rfl)) (zin5 _ (List.mem_of_getElem? (i := 1) rfl)) (zin5 _ (List.mem_of_getElem? (i := 2) rfl)) (zin1 _ (List.mem_of_getElem? (i := 2) rfl))) rfl rfl rfl (by decide +kernel) ⟨Nat.le_of_ble_eq_true rfl, Nat.le_of_ble_eq_true rfl⟩) ⟨cw_blind _, zw_recv hK hw (g := (0, 0)) (cG_at g_24) rfl, cw_pre hC hw hS _⟩ rfl rfl hl.1 rfl (lv_room (Nat.le_of_ble_eq_true rfl)) dX6_file_59 ⟨Nat.zero_le _, Nat.zero_le _⟩) hS (fun H locs hw hS => ?_)
      refine lv_iinc (v := x4 + (-1 : Int32)) (lv' := [(4, .int (x4 + (-1 : Int32))), (0, .ref (ad (0, 0))), (1, .long x1), (3, .int x3)]) hx hb dX6_file_62 hl (k := 3) rfl rfl (by decide) rfl (fun ls hl => ?_)
      refine lv_goto (tgt := 44) hx hb dX6_file_65 (by decide) ?_
      exact hKK _ (x4 + (-1 : Int32)) _ _ _ hf hw hS (lv_sub hl [1, 2, 3, 0] rfl)
  have L44 : ∀ (n : Nat) (τ : CS) (x4 : Int32) (H : Heap) (locs : List Loc) (ls : Array Slot) (hf : k_X6_file_l44 x1 x3 n τ x4 = some (r, τ')) (hw : zw D A ad (cG cy ad τ) H) (hS : va_S A s.heap H locs) (hl : lv_has ls 5 [(0, .ref (ad (0, 0))), (1, .long x1), (3, .int x3), (4, .int x4)]), W p l e (headSpec (wz yX6_file cX6_file 5 (some .int)) ({ frames := 1, cells := 0, slots := 0, locals := 21 } : Room)).room s m ([.ref (ad (0, 0)), .long x1, .int x3] : List Value).toArray below meth c H locs 0 0 (MQ below (va_Qi (fun (r' : Int32) (u : CS) => r' = r ∧ u = τ') (CWp D cy A ad) A) ([.ref (ad (0, 0)), .long x1, .int x3] : List Value).toArray s 0 0 A) (F0 m 44 ls []) := by
    intro n
    induction n with
    | zero =>
      intro τ x4 H locs ls hf hw hS hl
      rw [k_X6_file_l44_z] at hf
      cases hf
    | succ n ih =>
      intro τ x4 H locs ls hf hw hS hl
      rw [k_X6_file_l44_s] at hf
      exact S44 (k_X6_file_l44 x1 x3 n) ih τ x4 H locs ls hf hw hS hl
  have B11 : ∀ (τ : CS) (H : Heap) (locs : List Loc) (ls : Array Slot) (hf : k_X6_file_b11 x1 x3 τ = some (r, τ')) (hw : zw D A ad (cG cy ad τ) H) (hS : va_S A s.heap H locs) (hl : lv_has ls 5 [(0, .ref (ad (0, 0))), (1, .long x1), (3, .int x3)]), W p l e (headSpec (wz yX6_file cX6_file 5 (some .int)) ({ frames := 1, cells := 0, slots := 0, locals := 21 } : Room)).room s m ([.ref (ad (0, 0)), .long x1, .int x3] : List Value).toArray below meth c H locs 0 0 (MQ below (va_Qi (fun (r' : Int32) (u : CS) => r' = r ∧ u = τ') (CWp D cy A ad) A) ([.ref (ad (0, 0)), .long x1, .int x3] : List Value).toArray s 0 0 A) (F0 m 11 ls []) := by
    intro τ H locs ls hf hw hS hl
    rw [k_X6_file_b11] at hf
    refine lv_aload_n hx hb dX6_file_11 rfl (lv_at hl 0 rfl) ?_
    refine lv_bipush (v := (-2 : Int32)) hx hb dX6_file_12 (by decide) ?_
    obtain ⟨g_28, hf⟩ := zg_inv hf
    obtain ⟨r_25, t_26, e_27, hf⟩ := zb_inv hf
    refine cw_fi (va_runV (As := [.int (-2 : Int32)]) (rest := []) S (kc_X6_refuse l D cy A ad en tI tS _ _ (-2 : Int32) _ e_27) (cwV 1 hts (wz_V (zin4 _ (List.mem_of_getElem? (i := 22) rfl)) (zin4 _ (List.mem_of_getElem? (i := 19) rfl)) (zin4 _ (List.mem_of_getElem? (i := 20) rfl)) (zin4 _ (List.mem_of_getElem? (i := 21) rfl)) (zin1 _ (List.mem_of_getElem? (i := 2) rfl))) rfl rfl rfl (by decide +kernel) ⟨Nat.le_of_ble_eq_true rfl, Nat.le_of_ble_eq_true rfl⟩) ⟨cw_blind _, zw_recv hK hw (g := (0, 0)) (cG_at g_28) rfl, cw_pre hC hw hS _⟩ rfl rfl hl.1 rfl (lv_room (Nat.le_of_ble_eq_true rfl)) dX6_file_14 ⟨Nat.zero_le _, Nat.zero_le _⟩) hS (fun H locs hw hS => ?_)
    exact cw_reti S hr hf hw hS hlocks dX6_file_17
  rw [k_X6_file] at hf
  refine lv_iload_n hx hb dX6_file_0 rfl (lv_at hl 2 rfl) ?_
  refine lv_iconst (v := (1 : Int32)) hx hb dX6_file_1 (by decide) ?_
  refine lv_icmp_lt (tgt := 11) hx hb dX6_file_2 (by decide) (fun c_29 => ?_) (fun c_29 => ?_)
  · have hf := (zi_t c_29).symm.trans hf
    exact B11 _ _ _ _ hf hw hS (lv_sub hl [0, 1, 2] rfl)
  · have hf := (zi_f c_29).symm.trans hf
    refine lv_iload_n hx hb dX6_file_5 rfl (lv_at hl 2 rfl) ?_
    refine lv_bipush (v := (8 : Int32)) hx hb dX6_file_6 (by decide) ?_
    refine lv_icmp_le (tgt := 18) hx hb dX6_file_8 (by decide) (fun c_30 => ?_) (fun c_30 => ?_)
    · have hf := (zi_t c_30).symm.trans hf
      refine lv_aload_n hx hb dX6_file_18 rfl (lv_at hl 0 rfl) ?_
      obtain ⟨g_31, hf⟩ := zg_inv hf
      refine cr_get (v := .int (ci τ 5 0)) S hK hw 0 0 g_31 hX6 rfl rfl 5 (by decide) (wz_in (zin4 _ (List.mem_of_getElem? (i := 18) rfl))) rfl rfl dX6_file_19 ?_
      refine lv_iload_n hx hb dX6_file_22 rfl (lv_at hl 2 rfl) ?_
      refine lv_iadd hx hb dX6_file_23 ?_
      refine lv_aload_n hx hb dX6_file_24 rfl (lv_at hl 0 rfl) ?_
      refine cr_get (v := .ref (ad (9, 0))) S hK hw 0 0 g_31 hX6 rfl rfl 4 (by decide) (wz_in (zin2 _ (List.mem_of_getElem? (i := 14) rfl))) rfl rfl dX6_file_25 ?_
      obtain ⟨g_32, hf⟩ := zg_inv hf
      refine cr_alen (v := nI (cbl τ 0)) S hK hw 9 0 0 g_32 rfl rfl rfl dX6_file_28 ?_
      refine lv_icmp_le (tgt := 39) hx hb dX6_file_29 (by decide) (fun c_33 => ?_) (fun c_33 => ?_)
      · have hf := (zi_t c_33).symm.trans hf
        refine lv_iload_n hx hb dX6_file_39 rfl (lv_at hl 2 rfl) ?_
        refine lv_iconst (v := (1 : Int32)) hx hb dX6_file_40 (by decide) ?_
        refine lv_isub hx hb dX6_file_41 ?_
        refine lv_istore (lv' := [(4, .int (x3 - (1 : Int32))), (0, .ref (ad (0, 0))), (1, .long x1), (3, .int x3)]) hx hb dX6_file_42 hl (by decide) rfl (fun ls hl => ?_)
        exact L44 FU _ (x3 - (1 : Int32)) _ _ _ hf hw hS (lv_sub hl [1, 2, 3, 0] rfl)
      · have hf := (zi_f c_33).symm.trans hf
        refine lv_aload_n hx hb dX6_file_32 rfl (lv_at hl 0 rfl) ?_
        refine lv_bipush (v := (-4 : Int32)) hx hb dX6_file_33 (by decide) ?_
        obtain ⟨r_34, t_35, e_36, hf⟩ := zb_inv hf
        refine cw_fi (va_runV (As := [.int (-4 : Int32)]) (rest := []) S (kc_X6_refuse l D cy A ad en tI tS _ _ (-4 : Int32) _ e_36) (cwV 1 hts (wz_V (zin4 _ (List.mem_of_getElem? (i := 22) rfl)) (zin4 _ (List.mem_of_getElem? (i := 19) rfl)) (zin4 _ (List.mem_of_getElem? (i := 20) rfl)) (zin4 _ (List.mem_of_getElem? (i := 21) rfl)) (zin1 _ (List.mem_of_getElem? (i := 2) rfl))) rfl rfl rfl (by decide +kernel) ⟨Nat.le_of_ble_eq_true rfl, Nat.le_of_ble_eq_true rfl⟩) ⟨cw_blind _, zw_recv hK hw (g := (0, 0)) (cG_at g_31) rfl, cw_pre hC hw hS _⟩ rfl rfl hl.1 rfl (lv_room (Nat.le_of_ble_eq_true rfl)) dX6_file_35 ⟨Nat.zero_le _, Nat.zero_le _⟩) hS (fun H locs hw hS => ?_)
        exact cw_reti S hr hf hw hS hlocks dX6_file_38
    · have hf := (zi_f c_30).symm.trans hf
      exact B11 _ _ _ _ hf hw hS (lv_sub hl [0, 1, 2] rfl)
noncomputable def k_X6_newestOf_b14 (x1 : Int32) (τ : CS) : Option (Option Nat × CS) := some (none, τ)
noncomputable def k_X6_newestOf (τ : CS) (x1 : Int32) : Option (Option Nat × CS) := zi (x1 < (1 : Int32)) (k_X6_newestOf_b14 x1 τ) (zg (cv τ 0 0 = true) (zg (cv τ 3 0 = true) (zi (x1 ≤ (20 : Int32)) (zg (vp_in (x1 - (1 : Int32)) 20) (some (co τ 7 (x1 - (1 : Int32)).toNatClampNeg, τ))) (k_X6_newestOf_b14 x1 τ))))
set_option maxHeartbeats 4000000 in
set_option maxRecDepth 100000 in
theorem kc_X6_newestOf (l : Launch) (D : va_G) (cy : Nat → ClassId) (A : Nat → Prop) (ad : Nat × Nat → Nat) (en : Nat → Nat) (tI tS : Nat) (τ τ' : CS) (x1 : Int32) (r : Option Nat) (hf : k_X6_newestOf τ x1 = some (r, τ')) : Met l yX6_newestOf (wz yX6_newestOf cX6_newestOf 2 (some (.object "RunClasses$Edition"))) ({ frames := 0, cells := 0, slots := 0, locals := 0 } : Room) (va_Pc [.ref (ad (0, 0)), .int x1] (CWs D cy A ad en tI tS τ)) (va_Qq (fun (r' : Option Nat) (u : CS) => r' = r.map (fun i => ad (7, i)) ∧ u = τ') (CWp D cy A ad) A) 0 0 A := by
  refine Met.ofW (cc := cX6_newestOf) (maxL := 2) (ret := (some (.object "RunClasses$Edition"))) (by decide) rfl ?_
  intro p e s m args below meth c s₁ B hml hv
  obtain ⟨rfl, hw, hC⟩ := hv
  have hK := hC.1
  have hN := hC.2.1
  have hx := B.exec
  have hb := B.bytes
  have hr := B.returns
  have hts := atoms_spec (ws := (wz yX6_newestOf cX6_newestOf 2 (some (.object "RunClasses$Edition")))) B.pre
  have hown : s.vm.findClass RX6 = some m.cls := findClass_of_methodNamed B.named
  have hlocks := B.notSynchronized
  have S : CallFix p m c cX6_newestOf 2 s ([.ref (ad (0, 0)), .int x1] : List Value).toArray (wz yX6_newestOf cX6_newestOf 2 (some (.object "RunClasses$Edition"))) RX6 := ⟨hx, hb, hml, hown, hts⟩
  have hX1 : ∀ w ∈ wsX10, w ∈ (wz yX6_newestOf cX6_newestOf 2 (some (.object "RunClasses$Edition"))) := fun w h => wz_in (inlX1 w h)
  have hX2 : ∀ w ∈ wsX20, w ∈ (wz yX6_newestOf cX6_newestOf 2 (some (.object "RunClasses$Edition"))) := fun w h => wz_in (inlX2 w h)
  have hX4 : ∀ w ∈ wsX40, w ∈ (wz yX6_newestOf cX6_newestOf 2 (some (.object "RunClasses$Edition"))) := fun w h => wz_in (inlX4 w h)
  have hX5 : ∀ w ∈ wsX50, w ∈ (wz yX6_newestOf cX6_newestOf 2 (some (.object "RunClasses$Edition"))) := fun w h => wz_in (inlX5 w h)
  have hX6 : ∀ w ∈ wsX60, w ∈ (wz yX6_newestOf cX6_newestOf 2 (some (.object "RunClasses$Edition"))) := fun w h => wz_in (inlX6 w h)
  have hS : va_S A s.heap s.heap [] := va_S.rf
  have hl := lv_entry ([.ref (ad (0, 0)), .int x1]) (n := 2) (Nat.le_of_ble_eq_true rfl)
  rw [lg_entry_eq]
  generalize (lg_sl ([.ref (ad (0, 0)), .int x1]) ++ List.replicate (2 - (lg_sl ([.ref (ad (0, 0)), .int x1])).length) Slot.unset).toArray = ls at hl ⊢
  have hl : lv_has ls 2 [(0, .ref (ad (0, 0))), (1, .int x1)] := hl
  have B14 : ∀ (τ : CS) (H : Heap) (locs : List Loc) (ls : Array Slot) (hf : k_X6_newestOf_b14 x1 τ = some (r, τ')) (hw : zw D A ad (cG cy ad τ) H) (hS : va_S A s.heap H locs) (hl : lv_has ls 2 [(0, .ref (ad (0, 0))), (1, .int x1)]), W p l e (headSpec (wz yX6_newestOf cX6_newestOf 2 (some (.object "RunClasses$Edition"))) ({ frames := 0, cells := 0, slots := 0, locals := 0 } : Room)).room s m ([.ref (ad (0, 0)), .int x1] : List Value).toArray below meth c H locs 0 0 (MQ below (va_Qq (fun (r' : Option Nat) (u : CS) => r' = r.map (fun i => ad (7, i)) ∧ u = τ') (CWp D cy A ad) A) ([.ref (ad (0, 0)), .int x1] : List Value).toArray s 0 0 A) (F0 m 14 ls []) := by
    intro τ H locs ls hf hw hS hl
    rw [k_X6_newestOf_b14] at hf
    refine lv_null hx hb dX6_newestOf_14 ?_
    exact cw_retq (kd := 7) (x := none) S hr (Or.inl ⟨_, rfl⟩) hf hw hS hlocks dX6_newestOf_15
  rw [k_X6_newestOf] at hf
  refine lv_iload_n hx hb dX6_newestOf_0 rfl (lv_at hl 1 rfl) ?_
  refine lv_iconst (v := (1 : Int32)) hx hb dX6_newestOf_1 (by decide) ?_
  refine lv_icmp_lt (tgt := 14) hx hb dX6_newestOf_2 (by decide) (fun c_6 => ?_) (fun c_6 => ?_)
  · have hf := (zi_t c_6).symm.trans hf
    exact B14 _ _ _ _ hf hw hS (lv_sub hl [0, 1] rfl)
  · have hf := (zi_f c_6).symm.trans hf
    refine lv_iload_n hx hb dX6_newestOf_5 rfl (lv_at hl 1 rfl) ?_
    refine lv_aload_n hx hb dX6_newestOf_6 rfl (lv_at hl 0 rfl) ?_
    obtain ⟨g_7, hf⟩ := zg_inv hf
    refine cr_get (v := .ref (ad (3, 0))) S hK hw 0 0 g_7 hX6 rfl rfl 2 (by decide) (wz_in (zin2 _ (List.mem_of_getElem? (i := 8) rfl))) rfl rfl dX6_newestOf_7 ?_
    obtain ⟨g_8, hf⟩ := zg_inv hf
    refine cr_alen (v := (20 : Int32)) S hK hw 3 0 5 g_8 rfl rfl (show Int32.ofNat 20 = (20 : Int32) from by decide) dX6_newestOf_10 ?_
    refine lv_icmp_le (tgt := 16) hx hb dX6_newestOf_11 (by decide) (fun c_9 => ?_) (fun c_9 => ?_)
    · have hf := (zi_t c_9).symm.trans hf
      refine lv_aload_n hx hb dX6_newestOf_16 rfl (lv_at hl 0 rfl) ?_
      refine cr_get (v := .ref (ad (3, 0))) S hK hw 0 0 g_7 hX6 rfl rfl 2 (by decide) (wz_in (zin2 _ (List.mem_of_getElem? (i := 8) rfl))) rfl rfl dX6_newestOf_17 ?_
      refine lv_iload_n hx hb dX6_newestOf_20 rfl (lv_at hl 1 rfl) ?_
      refine lv_iconst (v := (1 : Int32)) hx hb dX6_newestOf_21 (by decide) ?_
      refine lv_isub hx hb dX6_newestOf_22 ?_
      obtain ⟨g_10, hf⟩ := zg_inv hf
      refine cr_aald (v := rn ad 7 (co τ 7 (x1 - (1 : Int32)).toNatClampNeg)) S hK hw 3 0 5 g_8 rfl rfl g_10 rfl dX6_newestOf_23 ?_
      exact cw_retq (kd := 7) (x := co τ 7 (x1 - (1 : Int32)).toNatClampNeg) S hr (Or.inl ⟨_, rfl⟩) hf hw hS hlocks dX6_newestOf_24
    · have hf := (zi_f c_9).symm.trans hf
      exact B14 _ _ _ _ hf hw hS (lv_sub hl [0, 1] rfl)
noncomputable def k_X6_controllerAt_b13 (x1 : Int32) (τ : CS) : Option (Option Nat × CS) := some (none, τ)
noncomputable def k_X6_controllerAt (τ : CS) (x1 : Int32) : Option (Option Nat × CS) := zi (x1 < 0) (k_X6_controllerAt_b13 x1 τ) (zg (cv τ 0 0 = true) (zg (cv τ 2 0 = true) (zi (x1 < (8 : Int32)) (zg (vp_in x1 8) (some (co τ 4 x1.toNatClampNeg, τ))) (k_X6_controllerAt_b13 x1 τ))))
set_option maxHeartbeats 4000000 in
set_option maxRecDepth 100000 in
theorem kc_X6_controllerAt (l : Launch) (D : va_G) (cy : Nat → ClassId) (A : Nat → Prop) (ad : Nat × Nat → Nat) (en : Nat → Nat) (tI tS : Nat) (τ τ' : CS) (x1 : Int32) (r : Option Nat) (hf : k_X6_controllerAt τ x1 = some (r, τ')) : Met l yX6_controllerAt (wz yX6_controllerAt cX6_controllerAt 2 (some (.object "RunClasses$Controller"))) ({ frames := 0, cells := 0, slots := 0, locals := 0 } : Room) (va_Pc [.ref (ad (0, 0)), .int x1] (CWs D cy A ad en tI tS τ)) (va_Qq (fun (r' : Option Nat) (u : CS) => r' = r.map (fun i => ad (4, i)) ∧ u = τ') (CWp D cy A ad) A) 0 0 A := by
  refine Met.ofW (cc := cX6_controllerAt) (maxL := 2) (ret := (some (.object "RunClasses$Controller"))) (by decide) rfl ?_
  intro p e s m args below meth c s₁ B hml hv
  obtain ⟨rfl, hw, hC⟩ := hv
  have hK := hC.1
  have hN := hC.2.1
  have hx := B.exec
  have hb := B.bytes
  have hr := B.returns
  have hts := atoms_spec (ws := (wz yX6_controllerAt cX6_controllerAt 2 (some (.object "RunClasses$Controller")))) B.pre
  have hown : s.vm.findClass RX6 = some m.cls := findClass_of_methodNamed B.named
  have hlocks := B.notSynchronized
  have S : CallFix p m c cX6_controllerAt 2 s ([.ref (ad (0, 0)), .int x1] : List Value).toArray (wz yX6_controllerAt cX6_controllerAt 2 (some (.object "RunClasses$Controller"))) RX6 := ⟨hx, hb, hml, hown, hts⟩
  have hX1 : ∀ w ∈ wsX10, w ∈ (wz yX6_controllerAt cX6_controllerAt 2 (some (.object "RunClasses$Controller"))) := fun w h => wz_in (inlX1 w h)
  have hX2 : ∀ w ∈ wsX20, w ∈ (wz yX6_controllerAt cX6_controllerAt 2 (some (.object "RunClasses$Controller"))) := fun w h => wz_in (inlX2 w h)
  have hX4 : ∀ w ∈ wsX40, w ∈ (wz yX6_controllerAt cX6_controllerAt 2 (some (.object "RunClasses$Controller"))) := fun w h => wz_in (inlX4 w h)
  have hX5 : ∀ w ∈ wsX50, w ∈ (wz yX6_controllerAt cX6_controllerAt 2 (some (.object "RunClasses$Controller"))) := fun w h => wz_in (inlX5 w h)
  have hX6 : ∀ w ∈ wsX60, w ∈ (wz yX6_controllerAt cX6_controllerAt 2 (some (.object "RunClasses$Controller"))) := fun w h => wz_in (inlX6 w h)
  have hS : va_S A s.heap s.heap [] := va_S.rf
  have hl := lv_entry ([.ref (ad (0, 0)), .int x1]) (n := 2) (Nat.le_of_ble_eq_true rfl)
  rw [lg_entry_eq]
  generalize (lg_sl ([.ref (ad (0, 0)), .int x1]) ++ List.replicate (2 - (lg_sl ([.ref (ad (0, 0)), .int x1])).length) Slot.unset).toArray = ls at hl ⊢
  have hl : lv_has ls 2 [(0, .ref (ad (0, 0))), (1, .int x1)] := hl
  have B13 : ∀ (τ : CS) (H : Heap) (locs : List Loc) (ls : Array Slot) (hf : k_X6_controllerAt_b13 x1 τ = some (r, τ')) (hw : zw D A ad (cG cy ad τ) H) (hS : va_S A s.heap H locs) (hl : lv_has ls 2 [(0, .ref (ad (0, 0))), (1, .int x1)]), W p l e (headSpec (wz yX6_controllerAt cX6_controllerAt 2 (some (.object "RunClasses$Controller"))) ({ frames := 0, cells := 0, slots := 0, locals := 0 } : Room)).room s m ([.ref (ad (0, 0)), .int x1] : List Value).toArray below meth c H locs 0 0 (MQ below (va_Qq (fun (r' : Option Nat) (u : CS) => r' = r.map (fun i => ad (4, i)) ∧ u = τ') (CWp D cy A ad) A) ([.ref (ad (0, 0)), .int x1] : List Value).toArray s 0 0 A) (F0 m 13 ls []) := by
    intro τ H locs ls hf hw hS hl
    rw [k_X6_controllerAt_b13] at hf
    refine lv_null hx hb dX6_controllerAt_13 ?_
    exact cw_retq (kd := 4) (x := none) S hr (Or.inl ⟨_, rfl⟩) hf hw hS hlocks dX6_controllerAt_14
  rw [k_X6_controllerAt] at hf
  refine lv_iload_n hx hb dX6_controllerAt_0 rfl (lv_at hl 1 rfl) ?_
  refine lv_if_lt (tgt := 13) hx hb dX6_controllerAt_1 (by decide) (fun c_6 => ?_) (fun c_6 => ?_)
  · have hf := (zi_t c_6).symm.trans hf
    exact B13 _ _ _ _ hf hw hS (lv_sub hl [0, 1] rfl)
  · have hf := (zi_f c_6).symm.trans hf
    refine lv_iload_n hx hb dX6_controllerAt_4 rfl (lv_at hl 1 rfl) ?_
    refine lv_aload_n hx hb dX6_controllerAt_5 rfl (lv_at hl 0 rfl) ?_
    obtain ⟨g_7, hf⟩ := zg_inv hf
    refine cr_get (v := .ref (ad (2, 0))) S hK hw 0 0 g_7 hX6 rfl rfl 1 (by decide) (wz_in (zin2 _ (List.mem_of_getElem? (i := 4) rfl))) rfl rfl dX6_controllerAt_6 ?_
    obtain ⟨g_8, hf⟩ := zg_inv hf
    refine cr_alen (v := (8 : Int32)) S hK hw 2 0 4 g_8 rfl rfl (show Int32.ofNat 8 = (8 : Int32) from by decide) dX6_controllerAt_9 ?_
    refine lv_icmp_lt (tgt := 15) hx hb dX6_controllerAt_10 (by decide) (fun c_9 => ?_) (fun c_9 => ?_)
    · have hf := (zi_t c_9).symm.trans hf
      refine lv_aload_n hx hb dX6_controllerAt_15 rfl (lv_at hl 0 rfl) ?_
      refine cr_get (v := .ref (ad (2, 0))) S hK hw 0 0 g_7 hX6 rfl rfl 1 (by decide) (wz_in (zin2 _ (List.mem_of_getElem? (i := 4) rfl))) rfl rfl dX6_controllerAt_16 ?_
      refine lv_iload_n hx hb dX6_controllerAt_19 rfl (lv_at hl 1 rfl) ?_
      obtain ⟨g_10, hf⟩ := zg_inv hf
      refine cr_aald (v := rn ad 4 (co τ 4 x1.toNatClampNeg)) S hK hw 2 0 4 g_8 rfl rfl g_10 rfl dX6_controllerAt_20 ?_
      exact cw_retq (kd := 4) (x := co τ 4 x1.toNatClampNeg) S hr (Or.inl ⟨_, rfl⟩) hf hw hS hlocks dX6_controllerAt_21
    · have hf := (zi_f c_9).symm.trans hf
      exact B13 _ _ _ _ hf hw hS (lv_sub hl [0, 1] rfl)
noncomputable def k_X6_classAt_b19 (x1 : Int32) (x2 : Int32) (τ : CS) (y0 : Option Nat) (x3 : Option Nat) : Option (Option Nat × CS) := some (y0, τ)
noncomputable def k_X6_classAt (τ : CS) (x1 : Int32) (x2 : Int32) : Option (Option Nat × CS) := zg (cv τ 0 0 = true) (zb (k_X6_controllerAt τ x1) (fun r_11 t_12 => zo (r_11) (k_X6_classAt_b19 x1 x2 t_12 none r_11) (fun i_15 => zg (cv t_12 4 i_15 = true) (zb (k_X1_classOf t_12 i_15 x2) (fun r_17 t_18 => k_X6_classAt_b19 x1 x2 t_18 r_17 (some i_15))))))
set_option maxHeartbeats 4000000 in
set_option maxRecDepth 100000 in
theorem kc_X6_classAt (l : Launch) (D : va_G) (cy : Nat → ClassId) (A : Nat → Prop) (ad : Nat × Nat → Nat) (en : Nat → Nat) (tI tS : Nat) (τ τ' : CS) (x1 : Int32) (x2 : Int32) (r : Option Nat) (hf : k_X6_classAt τ x1 x2 = some (r, τ')) : Met l yX6_classAt (wz yX6_classAt cX6_classAt 4 (some (.object "RunClasses$Loaded"))) ({ frames := 1, cells := 0, slots := 0, locals := 21 } : Room) (va_Pc [.ref (ad (0, 0)), .int x1, .int x2] (CWs D cy A ad en tI tS τ)) (va_Qq (fun (r' : Option Nat) (u : CS) => r' = r.map (fun i => ad (6, i)) ∧ u = τ') (CWp D cy A ad) A) 0 0 A := by
  refine Met.ofW (cc := cX6_classAt) (maxL := 4) (ret := (some (.object "RunClasses$Loaded"))) (by decide) rfl ?_
  intro p e s m args below meth c s₁ B hml hv
  obtain ⟨rfl, hw, hC⟩ := hv
  have hK := hC.1
  have hN := hC.2.1
  have hx := B.exec
  have hb := B.bytes
  have hr := B.returns
  have hts := atoms_spec (ws := (wz yX6_classAt cX6_classAt 4 (some (.object "RunClasses$Loaded")))) B.pre
  have hown : s.vm.findClass RX6 = some m.cls := findClass_of_methodNamed B.named
  have hlocks := B.notSynchronized
  have S : CallFix p m c cX6_classAt 4 s ([.ref (ad (0, 0)), .int x1, .int x2] : List Value).toArray (wz yX6_classAt cX6_classAt 4 (some (.object "RunClasses$Loaded"))) RX6 := ⟨hx, hb, hml, hown, hts⟩
  have hX1 : ∀ w ∈ wsX10, w ∈ (wz yX6_classAt cX6_classAt 4 (some (.object "RunClasses$Loaded"))) := fun w h => wz_in (inlX1 w h)
  have hX2 : ∀ w ∈ wsX20, w ∈ (wz yX6_classAt cX6_classAt 4 (some (.object "RunClasses$Loaded"))) := fun w h => wz_in (inlX2 w h)
  have hX4 : ∀ w ∈ wsX40, w ∈ (wz yX6_classAt cX6_classAt 4 (some (.object "RunClasses$Loaded"))) := fun w h => wz_in (inlX4 w h)
  have hX5 : ∀ w ∈ wsX50, w ∈ (wz yX6_classAt cX6_classAt 4 (some (.object "RunClasses$Loaded"))) := fun w h => wz_in (inlX5 w h)
  have hX6 : ∀ w ∈ wsX60, w ∈ (wz yX6_classAt cX6_classAt 4 (some (.object "RunClasses$Loaded"))) := fun w h => wz_in (inlX6 w h)
  have hS : va_S A s.heap s.heap [] := va_S.rf
  have hl := lv_entry ([.ref (ad (0, 0)), .int x1, .int x2]) (n := 4) (Nat.le_of_ble_eq_true rfl)
  rw [lg_entry_eq]
  generalize (lg_sl ([.ref (ad (0, 0)), .int x1, .int x2]) ++ List.replicate (4 - (lg_sl ([.ref (ad (0, 0)), .int x1, .int x2])).length) Slot.unset).toArray = ls at hl ⊢
  have hl : lv_has ls 4 [(0, .ref (ad (0, 0))), (1, .int x1), (2, .int x2)] := hl
  have B19 : ∀ (τ : CS) (y0 : Option Nat) (x3 : Option Nat) (H : Heap) (locs : List Loc) (ls : Array Slot) (hf : k_X6_classAt_b19 x1 x2 τ y0 x3 = some (r, τ')) (hw : zw D A ad (cG cy ad τ) H) (hS : va_S A s.heap H locs) (hl : lv_has ls 4 [(0, .ref (ad (0, 0))), (1, .int x1), (2, .int x2), (3, rn ad 4 x3)]), W p l e (headSpec (wz yX6_classAt cX6_classAt 4 (some (.object "RunClasses$Loaded"))) ({ frames := 1, cells := 0, slots := 0, locals := 21 } : Room)).room s m ([.ref (ad (0, 0)), .int x1, .int x2] : List Value).toArray below meth c H locs 0 0 (MQ below (va_Qq (fun (r' : Option Nat) (u : CS) => r' = r.map (fun i => ad (6, i)) ∧ u = τ') (CWp D cy A ad) A) ([.ref (ad (0, 0)), .int x1, .int x2] : List Value).toArray s 0 0 A) (F0 m 19 ls [rn ad 6 y0]) := by
    intro τ y0 x3 H locs ls hf hw hS hl
    rw [k_X6_classAt_b19] at hf
    exact cw_retq (kd := 6) (x := y0) S hr (Or.inl ⟨_, rfl⟩) hf hw hS hlocks dX6_classAt_19
  rw [k_X6_classAt] at hf
  refine lv_aload_n hx hb dX6_classAt_0 rfl (lv_at hl 0 rfl) ?_
  refine lv_iload_n hx hb dX6_classAt_1 rfl (lv_at hl 1 rfl) ?_
  obtain ⟨g_14, hf⟩ := zg_inv hf
  obtain ⟨r_11, t_12, e_13, hf⟩ := zb_inv hf
  refine cw_fq (kd := 4) (va_runV (As := [.int x1]) (rest := []) S (kc_X6_controllerAt l D cy A ad en tI tS _ _ x1 _ e_13) (cwV 1 hts (wz_V (zin9 _ (List.mem_of_getElem? (i := 15) rfl)) (zin9 _ (List.mem_of_getElem? (i := 12) rfl)) (zin9 _ (List.mem_of_getElem? (i := 13) rfl)) (zin9 _ (List.mem_of_getElem? (i := 14) rfl)) (zin1 _ (List.mem_of_getElem? (i := 2) rfl))) rfl rfl rfl (by decide +kernel) ⟨Nat.le_of_ble_eq_true rfl, Nat.le_of_ble_eq_true rfl⟩) ⟨cw_blind _, zw_recv hK hw (g := (0, 0)) (cG_at g_14) rfl, cw_pre hC hw hS _⟩ rfl rfl hl.1 rfl (lv_room (Nat.le_of_ble_eq_true rfl)) dX6_classAt_2 ⟨Nat.zero_le _, Nat.zero_le _⟩) hS (fun H locs hw hS => ?_)
  refine zr_astore_n (lv' := [(3, rn ad 4 r_11), (0, .ref (ad (0, 0))), (1, .int x1), (2, .int x2)]) hx hb dX6_classAt_5 rfl hl (by decide) (by first | rfl | simp [zcat]) (fun ls hl => ?_)
  refine zr_aload_n hx hb dX6_classAt_6 rfl (lv_at hl 0 rfl) ?_
  refine zr_ifnonnull (kd := 4) (o := r_11) hx hb dX6_classAt_7 (tgt := 14) (by decide) (fun i_15 o_16 => ?_) (fun o_16 => ?_)
  · have hf := (zo_s o_16).symm.trans hf
    rw [o_16] at hl
    have hl : lv_has ls 4 [(3, .ref (ad (4, i_15))), (0, .ref (ad (0, 0))), (1, .int x1), (2, .int x2)] := hl
    refine lv_aload_n hx hb dX6_classAt_14 rfl (lv_at hl 0 rfl) ?_
    refine lv_iload_n hx hb dX6_classAt_15 rfl (lv_at hl 3 rfl) ?_
    obtain ⟨g_20, hf⟩ := zg_inv hf
    obtain ⟨r_17, t_18, e_19, hf⟩ := zb_inv hf
    refine cw_fq (kd := 6) (va_runVN (As := [.int x2]) (rest := []) S (kc_X1_classOf l D cy A ad en tI tS _ _ i_15 x2 _ e_19) ⟨va_cnB 1 hts (wz_gd (zin9 _ (List.mem_of_getElem? (i := 18) rfl))) rfl rfl rfl (hN.2 _ (List.mem_of_getElem? (i := 3) rfl)) (hts _ (wz_in (zin2 _ (List.mem_of_getElem? (i := 6) rfl)))) (by decide +kernel) ⟨Nat.le_of_ble_eq_true rfl, Nat.le_of_ble_eq_true rfl⟩, hts _ (wz_in (zin9 _ (List.mem_of_getElem? (i := 16) rfl))), hts _ (wz_in (zin9 _ (List.mem_of_getElem? (i := 17) rfl)))⟩ ⟨cw_blind _, zw_recv hK hw (g := (4, i_15)) (cG_at g_20) rfl, cw_pre hC hw hS _⟩ rfl rfl hl.1 rfl (lv_room (Nat.le_of_ble_eq_true rfl)) dX6_classAt_16 ⟨Nat.zero_le _, Nat.zero_le _⟩) hS (fun H locs hw hS => ?_)
    exact B19 _ r_17 (some i_15) _ _ _ hf hw hS (lv_sub hl [1, 2, 3, 0] rfl)
  · have hf := (zo_n o_16).symm.trans hf
    refine lv_null hx hb dX6_classAt_10 ?_
    refine lv_goto (tgt := 19) hx hb dX6_classAt_11 (by decide) ?_
    exact B19 _ none r_11 _ _ _ hf hw hS (lv_sub hl [1, 2, 3, 0] rfl)
noncomputable def k_X6_isRight_b104 (x0 : Nat) (x1 : Int32) (τ : CS) (y0 : Int32) (x2 : Int32) (x3 : Int32) (x4 : Int32) : Option (Int32 × CS) := zg (narrow .boolean (.int y0) = .int y0) (some (y0, τ))
noncomputable def k_X6_isRight_b103 (x0 : Nat) (x1 : Int32) (τ : CS) (x2 : Int32) (x3 : Int32) (x4 : Int32) : Option (Int32 × CS) := k_X6_isRight_b104 x0 x1 τ (0 : Int32) x2 x3 x4
noncomputable def k_X6_isRight_b63 (x0 : Nat) (x1 : Int32) (K : CS → Int32 → Int32 → Int32 → Option (Int32 × CS)) (τ : CS) (y0 : Int32) (y1 : Int32) (x2 : Int32) (x3 : Int32) (x4 : Int32) (x5 : Int32) : Option (Int32 × CS) := zb (k_X6_octetAt τ x0 (x4 + (1 : Int32))) (fun r_18 t_19 => K t_19 x2 (y1 + y0) (x4 + ((2 : Int32) + r_18)))
noncomputable def k_X6_isRight_b49 (x0 : Nat) (x1 : Int32) (K : CS → Int32 → Int32 → Int32 → Option (Int32 × CS)) (τ : CS) (y0 : Int32) (y1 : Int32) (x2 : Int32) (x3 : Int32) (x4 : Int32) (x5 : Int32) : Option (Int32 × CS) := zi (x5 = (2 : Int32)) (k_X6_isRight_b63 x0 x1 K τ (1 : Int32) x3 (y1 + y0) x3 x4 x5) (k_X6_isRight_b63 x0 x1 K τ (0 : Int32) x3 (y1 + y0) x3 x4 x5)
noncomputable def k_X6_isRight_b35 (x0 : Nat) (x1 : Int32) (τ : CS) (x2 : Int32) (x3 : Int32) (x4 : Int32) (x5 : Int32) : Option (Int32 × CS) := zg (narrow .boolean (.int (0 : Int32)) = .int (0 : Int32)) (some ((0 : Int32), τ))
noncomputable def k_X6_isRight_s7 (x0 : Nat) (x1 : Int32) (K : CS → Int32 → Int32 → Int32 → Option (Int32 × CS)) (τ : CS) (x2 : Int32) (x3 : Int32) (x4 : Int32) : Option (Int32 × CS) := zi (x1 ≤ x4) (zi (x4 = x1) (zi (x3 = (1 : Int32)) (zi ((1 : Int32) < x2) (k_X6_isRight_b103 x0 x1 τ x2 x3 x4) (k_X6_isRight_b104 x0 x1 τ (1 : Int32) x2 x3 x4)) (k_X6_isRight_b103 x0 x1 τ x2 x3 x4)) (k_X6_isRight_b103 x0 x1 τ x2 x3 x4)) (zb (k_X6_octetAt τ x0 x4) (fun r_27 t_28 => zi (x1 < (x4 + (2 : Int32))) (k_X6_isRight_b35 x0 x1 t_28 x2 x3 x4 r_27) (zi (r_27 ≤ (2 : Int32)) (zi (r_27 = (1 : Int32)) (k_X6_isRight_b49 x0 x1 K t_28 (1 : Int32) x2 x2 x3 x4 r_27) (k_X6_isRight_b49 x0 x1 K t_28 (0 : Int32) x2 x2 x3 x4 r_27)) (k_X6_isRight_b35 x0 x1 t_28 x2 x3 x4 r_27))))
noncomputable def k_X6_isRight_l7 (x0 : Nat) (x1 : Int32) : Nat → CS → Int32 → Int32 → Int32 → Option (Int32 × CS)
  | 0 => fun _ _ _ _ => none
  | n + 1 => fun τ x2 x3 x4 => k_X6_isRight_s7 x0 x1 (k_X6_isRight_l7 x0 x1 n) τ x2 x3 x4
theorem k_X6_isRight_l7_s (x0 : Nat) (x1 : Int32) (n : Nat) (τ : CS) (x2 : Int32) (x3 : Int32) (x4 : Int32) : k_X6_isRight_l7 x0 x1 (n + 1) τ x2 x3 x4 = k_X6_isRight_s7 x0 x1 (k_X6_isRight_l7 x0 x1 n) τ x2 x3 x4 := rfl
theorem k_X6_isRight_l7_z (x0 : Nat) (x1 : Int32) (τ : CS) (x2 : Int32) (x3 : Int32) (x4 : Int32) : k_X6_isRight_l7 x0 x1 0 τ x2 x3 x4 = none := rfl
noncomputable def k_X6_isRight (τ : CS) (x0 : Nat) (x1 : Int32) : Option (Int32 × CS) := k_X6_isRight_l7 x0 x1 FU τ (0 : Int32) (0 : Int32) (0 : Int32)
set_option maxHeartbeats 4000000 in
set_option maxRecDepth 100000 in
theorem kc_X6_isRight (l : Launch) (D : va_G) (cy : Nat → ClassId) (A : Nat → Prop) (ad : Nat × Nat → Nat) (en : Nat → Nat) (tI tS : Nat) (τ τ' : CS) (x0 : Nat) (x1 : Int32) (r : Int32) (hf : k_X6_isRight τ x0 x1 = some (r, τ')) : Met l yX6_isRight (wz yX6_isRight cX6_isRight 6 (some .boolean)) ({ frames := 1, cells := 0, slots := 0, locals := 21 } : Room) (va_Pc [.ref (ad (9, x0)), .int x1] (CWs D cy A ad en tI tS τ)) (va_Qi (fun (r' : Int32) (u : CS) => r' = r ∧ u = τ') (CWp D cy A ad) A) 0 0 A := by
  refine Met.ofW (cc := cX6_isRight) (maxL := 6) (ret := (some .boolean)) (by decide) rfl ?_
  intro p e s m args below meth c s₁ B hml hv
  obtain ⟨rfl, hw, hC⟩ := hv
  have hK := hC.1
  have hN := hC.2.1
  have hx := B.exec
  have hb := B.bytes
  have hr := B.returns
  have hts := atoms_spec (ws := (wz yX6_isRight cX6_isRight 6 (some .boolean))) B.pre
  have hown : s.vm.findClass RX6 = some m.cls := findClass_of_methodNamed B.named
  have hlocks := B.notSynchronized
  have S : CallFix p m c cX6_isRight 6 s ([.ref (ad (9, x0)), .int x1] : List Value).toArray (wz yX6_isRight cX6_isRight 6 (some .boolean)) RX6 := ⟨hx, hb, hml, hown, hts⟩
  have hX1 : ∀ w ∈ wsX10, w ∈ (wz yX6_isRight cX6_isRight 6 (some .boolean)) := fun w h => wz_in (inlX1 w h)
  have hX2 : ∀ w ∈ wsX20, w ∈ (wz yX6_isRight cX6_isRight 6 (some .boolean)) := fun w h => wz_in (inlX2 w h)
  have hX4 : ∀ w ∈ wsX40, w ∈ (wz yX6_isRight cX6_isRight 6 (some .boolean)) := fun w h => wz_in (inlX4 w h)
  have hX5 : ∀ w ∈ wsX50, w ∈ (wz yX6_isRight cX6_isRight 6 (some .boolean)) := fun w h => wz_in (inlX5 w h)
  have hX6 : ∀ w ∈ wsX60, w ∈ (wz yX6_isRight cX6_isRight 6 (some .boolean)) := fun w h => wz_in (inlX6 w h)
  have hS : va_S A s.heap s.heap [] := va_S.rf
  have hl := lv_entry ([.ref (ad (9, x0)), .int x1]) (n := 6) (Nat.le_of_ble_eq_true rfl)
  rw [lg_entry_eq]
  generalize (lg_sl ([.ref (ad (9, x0)), .int x1]) ++ List.replicate (6 - (lg_sl ([.ref (ad (9, x0)), .int x1])).length) Slot.unset).toArray = ls at hl ⊢
  have hl : lv_has ls 6 [(0, .ref (ad (9, x0))), (1, .int x1)] := hl
  have B104 : ∀ (τ : CS) (y0 : Int32) (x2 : Int32) (x3 : Int32) (x4 : Int32) (H : Heap) (locs : List Loc) (ls : Array Slot) (hf : k_X6_isRight_b104 x0 x1 τ y0 x2 x3 x4 = some (r, τ')) (hw : zw D A ad (cG cy ad τ) H) (hS : va_S A s.heap H locs) (hl : lv_has ls 6 [(0, .ref (ad (9, x0))), (1, .int x1), (2, .int x2), (3, .int x3), (4, .int x4)]), W p l e (headSpec (wz yX6_isRight cX6_isRight 6 (some .boolean)) ({ frames := 1, cells := 0, slots := 0, locals := 21 } : Room)).room s m ([.ref (ad (9, x0)), .int x1] : List Value).toArray below meth c H locs 0 0 (MQ below (va_Qi (fun (r' : Int32) (u : CS) => r' = r ∧ u = τ') (CWp D cy A ad) A) ([.ref (ad (9, x0)), .int x1] : List Value).toArray s 0 0 A) (F0 m 104 ls [.int y0]) := by
    intro τ y0 x2 x3 x4 H locs ls hf hw hS hl
    rw [k_X6_isRight_b104] at hf
    obtain ⟨g_17, hf⟩ := zg_inv hf
    exact cw_retz S hr g_17 hf hw hS hlocks dX6_isRight_104
  have B103 : ∀ (τ : CS) (x2 : Int32) (x3 : Int32) (x4 : Int32) (H : Heap) (locs : List Loc) (ls : Array Slot) (hf : k_X6_isRight_b103 x0 x1 τ x2 x3 x4 = some (r, τ')) (hw : zw D A ad (cG cy ad τ) H) (hS : va_S A s.heap H locs) (hl : lv_has ls 6 [(0, .ref (ad (9, x0))), (1, .int x1), (2, .int x2), (3, .int x3), (4, .int x4)]), W p l e (headSpec (wz yX6_isRight cX6_isRight 6 (some .boolean)) ({ frames := 1, cells := 0, slots := 0, locals := 21 } : Room)).room s m ([.ref (ad (9, x0)), .int x1] : List Value).toArray below meth c H locs 0 0 (MQ below (va_Qi (fun (r' : Int32) (u : CS) => r' = r ∧ u = τ') (CWp D cy A ad) A) ([.ref (ad (9, x0)), .int x1] : List Value).toArray s 0 0 A) (F0 m 103 ls []) := by
    intro τ x2 x3 x4 H locs ls hf hw hS hl
    rw [k_X6_isRight_b103] at hf
    refine lv_iconst (v := (0 : Int32)) hx hb dX6_isRight_103 (by decide) ?_
    exact B104 _ (0 : Int32) x2 x3 x4 _ _ _ hf hw hS (lv_sub hl [0, 1, 2, 3, 4] rfl)
  have B63 : ∀ (K : CS → Int32 → Int32 → Int32 → Option (Int32 × CS)) (_hKK : ∀ (τ : CS) (x2 : Int32) (x3 : Int32) (x4 : Int32) (H : Heap) (locs : List Loc) (ls : Array Slot) (hf : K τ x2 x3 x4 = some (r, τ')) (hw : zw D A ad (cG cy ad τ) H) (hS : va_S A s.heap H locs) (hl : lv_has ls 6 [(0, .ref (ad (9, x0))), (1, .int x1), (2, .int x2), (3, .int x3), (4, .int x4)]), W p l e (headSpec (wz yX6_isRight cX6_isRight 6 (some .boolean)) ({ frames := 1, cells := 0, slots := 0, locals := 21 } : Room)).room s m ([.ref (ad (9, x0)), .int x1] : List Value).toArray below meth c H locs 0 0 (MQ below (va_Qi (fun (r' : Int32) (u : CS) => r' = r ∧ u = τ') (CWp D cy A ad) A) ([.ref (ad (9, x0)), .int x1] : List Value).toArray s 0 0 A) (F0 m 7 ls [])) (τ : CS) (y0 : Int32) (y1 : Int32) (x2 : Int32) (x3 : Int32) (x4 : Int32) (x5 : Int32) (H : Heap) (locs : List Loc) (ls : Array Slot) (hf : k_X6_isRight_b63 x0 x1 K τ y0 y1 x2 x3 x4 x5 = some (r, τ')) (hw : zw D A ad (cG cy ad τ) H) (hS : va_S A s.heap H locs) (hl : lv_has ls 6 [(0, .ref (ad (9, x0))), (1, .int x1), (2, .int x2), (3, .int x3), (4, .int x4), (5, .int x5)]), W p l e (headSpec (wz yX6_isRight cX6_isRight 6 (some .boolean)) ({ frames := 1, cells := 0, slots := 0, locals := 21 } : Room)).room s m ([.ref (ad (9, x0)), .int x1] : List Value).toArray below meth c H locs 0 0 (MQ below (va_Qi (fun (r' : Int32) (u : CS) => r' = r ∧ u = τ') (CWp D cy A ad) A) ([.ref (ad (9, x0)), .int x1] : List Value).toArray s 0 0 A) (F0 m 63 ls [.int y0, .int y1]) := by
    intro K hKK τ y0 y1 x2 x3 x4 x5 H locs ls hf hw hS hl
    rw [k_X6_isRight_b63] at hf
    refine lv_iadd hx hb dX6_isRight_63 ?_
    refine lv_istore_n (lv' := [(3, .int (y1 + y0)), (0, .ref (ad (9, x0))), (1, .int x1), (2, .int x2), (4, .int x4), (5, .int x5)]) hx hb dX6_isRight_64 rfl hl (by decide) rfl (fun ls hl => ?_)
    refine lv_iload hx hb dX6_isRight_65 (lv_at hl 4 rfl) ?_
    refine lv_iconst (v := (2 : Int32)) hx hb dX6_isRight_67 (by decide) ?_
    refine lv_aload_n hx hb dX6_isRight_68 rfl (lv_at hl 1 rfl) ?_
    refine lv_iload hx hb dX6_isRight_69 (lv_at hl 4 rfl) ?_
    refine lv_iconst (v := (1 : Int32)) hx hb dX6_isRight_71 (by decide) ?_
    refine lv_iadd hx hb dX6_isRight_72 ?_
    obtain ⟨r_18, t_19, e_20, hf⟩ := zb_inv hf
    refine cw_fi (va_runS (As := [.ref (ad (9, x0)), .int (x4 + (1 : Int32))]) (rest := [.int (2 : Int32), .int x4]) S (kc_X6_octetAt l D cy A ad en tI tS _ _ x0 (x4 + (1 : Int32)) _ e_20) (va_cwS 2 hts (wz_S (zin6 _ (List.mem_of_getElem? (i := 7) rfl)) (zin6 _ (List.mem_of_getElem? (i := 5) rfl)) (zin6 _ (List.mem_of_getElem? (i := 6) rfl)) (zin1 _ (List.mem_of_getElem? (i := 2) rfl))) rfl rfl rfl (by decide +kernel) ⟨Nat.le_of_ble_eq_true rfl, Nat.le_of_ble_eq_true rfl⟩) ⟨cw_blind _, cw_pre hC hw hS _⟩ rfl rfl hl.1 rfl (lv_room (Nat.le_of_ble_eq_true rfl)) dX6_isRight_73 ⟨Nat.zero_le _, Nat.zero_le _⟩) hS (fun H locs hw hS => ?_)
    refine lv_iadd hx hb dX6_isRight_76 ?_
    refine lv_iadd hx hb dX6_isRight_77 ?_
    refine lv_istore (lv' := [(4, .int (x4 + ((2 : Int32) + r_18))), (3, .int (y1 + y0)), (0, .ref (ad (9, x0))), (1, .int x1), (2, .int x2), (5, .int x5)]) hx hb dX6_isRight_78 hl (by decide) rfl (fun ls hl => ?_)
    refine lv_goto (tgt := 7) hx hb dX6_isRight_80 (by decide) ?_
    exact hKK _ x2 (y1 + y0) (x4 + ((2 : Int32) + r_18)) _ _ _ hf hw hS (lv_sub hl [2, 3, 4, 1, 0] rfl)
  have B49 : ∀ (K : CS → Int32 → Int32 → Int32 → Option (Int32 × CS)) (_hKK : ∀ (τ : CS) (x2 : Int32) (x3 : Int32) (x4 : Int32) (H : Heap) (locs : List Loc) (ls : Array Slot) (hf : K τ x2 x3 x4 = some (r, τ')) (hw : zw D A ad (cG cy ad τ) H) (hS : va_S A s.heap H locs) (hl : lv_has ls 6 [(0, .ref (ad (9, x0))), (1, .int x1), (2, .int x2), (3, .int x3), (4, .int x4)]), W p l e (headSpec (wz yX6_isRight cX6_isRight 6 (some .boolean)) ({ frames := 1, cells := 0, slots := 0, locals := 21 } : Room)).room s m ([.ref (ad (9, x0)), .int x1] : List Value).toArray below meth c H locs 0 0 (MQ below (va_Qi (fun (r' : Int32) (u : CS) => r' = r ∧ u = τ') (CWp D cy A ad) A) ([.ref (ad (9, x0)), .int x1] : List Value).toArray s 0 0 A) (F0 m 7 ls [])) (τ : CS) (y0 : Int32) (y1 : Int32) (x2 : Int32) (x3 : Int32) (x4 : Int32) (x5 : Int32) (H : Heap) (locs : List Loc) (ls : Array Slot) (hf : k_X6_isRight_b49 x0 x1 K τ y0 y1 x2 x3 x4 x5 = some (r, τ')) (hw : zw D A ad (cG cy ad τ) H) (hS : va_S A s.heap H locs) (hl : lv_has ls 6 [(0, .ref (ad (9, x0))), (1, .int x1), (2, .int x2), (3, .int x3), (4, .int x4), (5, .int x5)]), W p l e (headSpec (wz yX6_isRight cX6_isRight 6 (some .boolean)) ({ frames := 1, cells := 0, slots := 0, locals := 21 } : Room)).room s m ([.ref (ad (9, x0)), .int x1] : List Value).toArray below meth c H locs 0 0 (MQ below (va_Qi (fun (r' : Int32) (u : CS) => r' = r ∧ u = τ') (CWp D cy A ad) A) ([.ref (ad (9, x0)), .int x1] : List Value).toArray s 0 0 A) (F0 m 49 ls [.int y0, .int y1]) := by
    intro K hKK τ y0 y1 x2 x3 x4 x5 H locs ls hf hw hS hl
    rw [k_X6_isRight_b49] at hf
    refine lv_iadd hx hb dX6_isRight_49 ?_
    refine lv_istore_n (lv' := [(2, .int (y1 + y0)), (0, .ref (ad (9, x0))), (1, .int x1), (3, .int x3), (4, .int x4), (5, .int x5)]) hx hb dX6_isRight_50 rfl hl (by decide) rfl (fun ls hl => ?_)
    refine lv_iload_n hx hb dX6_isRight_51 rfl (lv_at hl 3 rfl) ?_
    refine lv_iload hx hb dX6_isRight_52 (lv_at hl 5 rfl) ?_
    refine lv_iconst (v := (2 : Int32)) hx hb dX6_isRight_54 (by decide) ?_
    refine lv_icmp_ne (tgt := 62) hx hb dX6_isRight_55 (by decide) (fun c_21 => ?_) (fun c_21 => ?_)
    · have hf := (zi_f c_21).symm.trans hf
      refine lv_iconst (v := (0 : Int32)) hx hb dX6_isRight_62 (by decide) ?_
      exact B63 K hKK _ (0 : Int32) x3 (y1 + y0) x3 x4 x5 _ _ _ hf hw hS (lv_sub hl [1, 2, 0, 3, 4, 5] rfl)
    · have hf := (zi_t c_21).symm.trans hf
      refine lv_iconst (v := (1 : Int32)) hx hb dX6_isRight_58 (by decide) ?_
      refine lv_goto (tgt := 63) hx hb dX6_isRight_59 (by decide) ?_
      exact B63 K hKK _ (1 : Int32) x3 (y1 + y0) x3 x4 x5 _ _ _ hf hw hS (lv_sub hl [1, 2, 0, 3, 4, 5] rfl)
  have B35 : ∀ (τ : CS) (x2 : Int32) (x3 : Int32) (x4 : Int32) (x5 : Int32) (H : Heap) (locs : List Loc) (ls : Array Slot) (hf : k_X6_isRight_b35 x0 x1 τ x2 x3 x4 x5 = some (r, τ')) (hw : zw D A ad (cG cy ad τ) H) (hS : va_S A s.heap H locs) (hl : lv_has ls 6 [(0, .ref (ad (9, x0))), (1, .int x1), (2, .int x2), (3, .int x3), (4, .int x4), (5, .int x5)]), W p l e (headSpec (wz yX6_isRight cX6_isRight 6 (some .boolean)) ({ frames := 1, cells := 0, slots := 0, locals := 21 } : Room)).room s m ([.ref (ad (9, x0)), .int x1] : List Value).toArray below meth c H locs 0 0 (MQ below (va_Qi (fun (r' : Int32) (u : CS) => r' = r ∧ u = τ') (CWp D cy A ad) A) ([.ref (ad (9, x0)), .int x1] : List Value).toArray s 0 0 A) (F0 m 35 ls []) := by
    intro τ x2 x3 x4 x5 H locs ls hf hw hS hl
    rw [k_X6_isRight_b35] at hf
    refine lv_iconst (v := (0 : Int32)) hx hb dX6_isRight_35 (by decide) ?_
    obtain ⟨g_22, hf⟩ := zg_inv hf
    exact cw_retz S hr g_22 hf hw hS hlocks dX6_isRight_36
  have S7 : ∀ (K : CS → Int32 → Int32 → Int32 → Option (Int32 × CS)) (_hKK : ∀ (τ : CS) (x2 : Int32) (x3 : Int32) (x4 : Int32) (H : Heap) (locs : List Loc) (ls : Array Slot) (hf : K τ x2 x3 x4 = some (r, τ')) (hw : zw D A ad (cG cy ad τ) H) (hS : va_S A s.heap H locs) (hl : lv_has ls 6 [(0, .ref (ad (9, x0))), (1, .int x1), (2, .int x2), (3, .int x3), (4, .int x4)]), W p l e (headSpec (wz yX6_isRight cX6_isRight 6 (some .boolean)) ({ frames := 1, cells := 0, slots := 0, locals := 21 } : Room)).room s m ([.ref (ad (9, x0)), .int x1] : List Value).toArray below meth c H locs 0 0 (MQ below (va_Qi (fun (r' : Int32) (u : CS) => r' = r ∧ u = τ') (CWp D cy A ad) A) ([.ref (ad (9, x0)), .int x1] : List Value).toArray s 0 0 A) (F0 m 7 ls [])) (τ : CS) (x2 : Int32) (x3 : Int32) (x4 : Int32) (H : Heap) (locs : List Loc) (ls : Array Slot) (hf : k_X6_isRight_s7 x0 x1 K τ x2 x3 x4 = some (r, τ')) (hw : zw D A ad (cG cy ad τ) H) (hS : va_S A s.heap H locs) (hl : lv_has ls 6 [(0, .ref (ad (9, x0))), (1, .int x1), (2, .int x2), (3, .int x3), (4, .int x4)]), W p l e (headSpec (wz yX6_isRight cX6_isRight 6 (some .boolean)) ({ frames := 1, cells := 0, slots := 0, locals := 21 } : Room)).room s m ([.ref (ad (9, x0)), .int x1] : List Value).toArray below meth c H locs 0 0 (MQ below (va_Qi (fun (r' : Int32) (u : CS) => r' = r ∧ u = τ') (CWp D cy A ad) A) ([.ref (ad (9, x0)), .int x1] : List Value).toArray s 0 0 A) (F0 m 7 ls []) := by
    intro K hKK τ x2 x3 x4 H locs ls hf hw hS hl
    rw [k_X6_isRight_s7] at hf
    refine lv_iload hx hb dX6_isRight_7 (lv_at hl 4 rfl) ?_
    refine lv_iload_n hx hb dX6_isRight_9 rfl (lv_at hl 1 rfl) ?_
    refine lv_icmp_ge (tgt := 83) hx hb dX6_isRight_10 (by decide) (fun c_23 => ?_) (fun c_23 => ?_)
    · have hf := (zi_t c_23).symm.trans hf
      refine lv_iload hx hb dX6_isRight_83 (lv_at hl 4 rfl) ?_
      refine lv_iload_n hx hb dX6_isRight_85 rfl (lv_at hl 1 rfl) ?_
      refine lv_icmp_ne (tgt := 103) hx hb dX6_isRight_86 (by decide) (fun c_24 => ?_) (fun c_24 => ?_)
      · have hf := (zi_f c_24).symm.trans hf
        exact B103 _ x2 x3 x4 _ _ _ hf hw hS (lv_sub hl [0, 1, 2, 3, 4] rfl)
      · have hf := (zi_t c_24).symm.trans hf
        refine lv_iload_n hx hb dX6_isRight_89 rfl (lv_at hl 3 rfl) ?_
        refine lv_iconst (v := (1 : Int32)) hx hb dX6_isRight_90 (by decide) ?_
        refine lv_icmp_ne (tgt := 103) hx hb dX6_isRight_91 (by decide) (fun c_25 => ?_) (fun c_25 => ?_)
        · have hf := (zi_f c_25).symm.trans hf
          exact B103 _ x2 x3 x4 _ _ _ hf hw hS (lv_sub hl [0, 1, 2, 3, 4] rfl)
        · have hf := (zi_t c_25).symm.trans hf
          refine lv_iload_n hx hb dX6_isRight_94 rfl (lv_at hl 2 rfl) ?_
          refine lv_iconst (v := (1 : Int32)) hx hb dX6_isRight_95 (by decide) ?_
          refine lv_icmp_gt (tgt := 103) hx hb dX6_isRight_96 (by decide) (fun c_26 => ?_) (fun c_26 => ?_)
          · have hf := (zi_t c_26).symm.trans hf
            exact B103 _ x2 x3 x4 _ _ _ hf hw hS (lv_sub hl [0, 1, 2, 3, 4] rfl)
          · have hf := (zi_f c_26).symm.trans hf
            refine lv_iconst (v := (1 : Int32)) hx hb dX6_isRight_99 (by decide) ?_
            refine lv_goto (tgt := 104) hx hb dX6_isRight_100 (by decide) ?_
            exact B104 _ (1 : Int32) x2 x3 x4 _ _ _ hf hw hS (lv_sub hl [0, 1, 2, 3, 4] rfl)
    · have hf := (zi_f c_23).symm.trans hf
      refine lv_aload_n hx hb dX6_isRight_13 rfl (lv_at hl 0 rfl) ?_
      refine lv_iload hx hb dX6_isRight_14 (lv_at hl 4 rfl) ?_
      obtain ⟨r_27, t_28, e_29, hf⟩ := zb_inv hf
      refine cw_fi (va_runS (As := [.ref (ad (9, x0)), .int x4]) (rest := []) S (kc_X6_octetAt l D cy A ad en tI tS _ _ x0 x4 _ e_29) (va_cwS 2 hts (wz_S (zin6 _ (List.mem_of_getElem? (i := 7) rfl)) (zin6 _ (List.mem_of_getElem? (i := 5) rfl)) (zin6 _ (List.mem_of_getElem? (i := 6) rfl)) (zin1 _ (List.mem_of_getElem? (i := 2) rfl))) rfl rfl rfl (by decide +kernel) ⟨Nat.le_of_ble_eq_true rfl, Nat.le_of_ble_eq_true rfl⟩) ⟨cw_blind _, cw_pre hC hw hS _⟩ rfl rfl hl.1 rfl (lv_room (Nat.le_of_ble_eq_true rfl)) dX6_isRight_16 ⟨Nat.zero_le _, Nat.zero_le _⟩) hS (fun H locs hw hS => ?_)
      refine lv_istore (lv' := [(5, .int r_27), (0, .ref (ad (9, x0))), (1, .int x1), (2, .int x2), (3, .int x3), (4, .int x4)]) hx hb dX6_isRight_19 hl (by decide) rfl (fun ls hl => ?_)
      refine lv_iload hx hb dX6_isRight_21 (lv_at hl 5 rfl) ?_
      refine lv_iconst (v := (2 : Int32)) hx hb dX6_isRight_23 (by decide) ?_
      refine lv_iadd hx hb dX6_isRight_24 ?_
      refine lv_iload_n hx hb dX6_isRight_25 rfl (lv_at hl 2 rfl) ?_
      refine lv_icmp_gt (tgt := 35) hx hb dX6_isRight_26 (by decide) (fun c_30 => ?_) (fun c_30 => ?_)
      · have hf := (zi_t c_30).symm.trans hf
        exact B35 _ x2 x3 x4 r_27 _ _ _ hf hw hS (lv_sub hl [1, 2, 3, 4, 5, 0] rfl)
      · have hf := (zi_f c_30).symm.trans hf
        refine lv_iload hx hb dX6_isRight_29 (lv_at hl 0 rfl) ?_
        refine lv_iconst (v := (2 : Int32)) hx hb dX6_isRight_31 (by decide) ?_
        refine lv_icmp_le (tgt := 37) hx hb dX6_isRight_32 (by decide) (fun c_31 => ?_) (fun c_31 => ?_)
        · have hf := (zi_t c_31).symm.trans hf
          refine lv_iload_n hx hb dX6_isRight_37 rfl (lv_at hl 3 rfl) ?_
          refine lv_iload hx hb dX6_isRight_38 (lv_at hl 0 rfl) ?_
          refine lv_iconst (v := (1 : Int32)) hx hb dX6_isRight_40 (by decide) ?_
          refine lv_icmp_ne (tgt := 48) hx hb dX6_isRight_41 (by decide) (fun c_32 => ?_) (fun c_32 => ?_)
          · have hf := (zi_f c_32).symm.trans hf
            refine lv_iconst (v := (0 : Int32)) hx hb dX6_isRight_48 (by decide) ?_
            exact B49 K hKK _ (0 : Int32) x2 x2 x3 x4 r_27 _ _ _ hf hw hS (lv_sub hl [1, 2, 3, 4, 5, 0] rfl)
          · have hf := (zi_t c_32).symm.trans hf
            refine lv_iconst (v := (1 : Int32)) hx hb dX6_isRight_44 (by decide) ?_
            refine lv_goto (tgt := 49) hx hb dX6_isRight_45 (by decide) ?_
            exact B49 K hKK _ (1 : Int32) x2 x2 x3 x4 r_27 _ _ _ hf hw hS (lv_sub hl [1, 2, 3, 4, 5, 0] rfl)
        · have hf := (zi_f c_31).symm.trans hf
          exact B35 _ x2 x3 x4 r_27 _ _ _ hf hw hS (lv_sub hl [1, 2, 3, 4, 5, 0] rfl)
  have L7 : ∀ (n : Nat) (τ : CS) (x2 : Int32) (x3 : Int32) (x4 : Int32) (H : Heap) (locs : List Loc) (ls : Array Slot) (hf : k_X6_isRight_l7 x0 x1 n τ x2 x3 x4 = some (r, τ')) (hw : zw D A ad (cG cy ad τ) H) (hS : va_S A s.heap H locs) (hl : lv_has ls 6 [(0, .ref (ad (9, x0))), (1, .int x1), (2, .int x2), (3, .int x3), (4, .int x4)]), W p l e (headSpec (wz yX6_isRight cX6_isRight 6 (some .boolean)) ({ frames := 1, cells := 0, slots := 0, locals := 21 } : Room)).room s m ([.ref (ad (9, x0)), .int x1] : List Value).toArray below meth c H locs 0 0 (MQ below (va_Qi (fun (r' : Int32) (u : CS) => r' = r ∧ u = τ') (CWp D cy A ad) A) ([.ref (ad (9, x0)), .int x1] : List Value).toArray s 0 0 A) (F0 m 7 ls []) := by
    intro n
    induction n with
    | zero =>
      intro τ x2 x3 x4 H locs ls hf hw hS hl
      rw [k_X6_isRight_l7_z] at hf
      cases hf
    | succ n ih =>
      intro τ x2 x3 x4 H locs ls hf hw hS hl
      rw [k_X6_isRight_l7_s] at hf
      exact S7 (k_X6_isRight_l7 x0 x1 n) ih τ x2 x3 x4 H locs ls hf hw hS hl
  rw [k_X6_isRight] at hf
  refine lv_iconst (v := (0 : Int32)) hx hb dX6_isRight_0 (by decide) ?_
  refine lv_istore_n (lv' := [(2, .int (0 : Int32)), (0, .ref (ad (9, x0))), (1, .int x1)]) hx hb dX6_isRight_1 rfl hl (by decide) rfl (fun ls hl => ?_)
  refine lv_iconst (v := (0 : Int32)) hx hb dX6_isRight_2 (by decide) ?_
  refine lv_istore_n (lv' := [(3, .int (0 : Int32)), (2, .int (0 : Int32)), (0, .ref (ad (9, x0))), (1, .int x1)]) hx hb dX6_isRight_3 rfl hl (by decide) rfl (fun ls hl => ?_)
  refine lv_iconst (v := (0 : Int32)) hx hb dX6_isRight_4 (by decide) ?_
  refine lv_istore (lv' := [(4, .int (0 : Int32)), (3, .int (0 : Int32)), (2, .int (0 : Int32)), (0, .ref (ad (9, x0))), (1, .int x1)]) hx hb dX6_isRight_5 hl (by decide) rfl (fun ls hl => ?_)
  exact L7 FU _ (0 : Int32) (0 : Int32) (0 : Int32) _ _ _ hf hw hS (lv_sub hl [3, 4, 2, 1, 0] rfl)
