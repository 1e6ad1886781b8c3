noncomputable def k_X6_octetAt_b21 (x0 : Nat) (x1 : Int32) (τ : CS) (y0 : Int32) : Option (Int32 × CS) := some (y0, τ)
noncomputable def k_X6_octetAt_b20 (x0 : Nat) (x1 : Int32) (τ : CS) : Option (Int32 × CS) := k_X6_octetAt_b21 x0 x1 τ (0 : Int32)
noncomputable def k_X6_octetAt (τ : CS) (x0 : Nat) (x1 : Int32) : Option (Int32 × CS) := zi (x1 < 0) (k_X6_octetAt_b20 x0 x1 τ) (zg (cv τ 9 x0 = true) (zi ((nI (cbl τ x0)) ≤ x1) (k_X6_octetAt_b20 x0 x1 τ) (zg (vp_in x1 (cbl τ x0)) (k_X6_octetAt_b21 x0 x1 τ ((cb τ x0 x1.toNatClampNeg) &&& (255 : Int32))))))
set_option maxHeartbeats 4000000 in
set_option maxRecDepth 100000 in
theorem kc_X6_octetAt (l : Launch) (D : va_G) (cy : Nat → ClassId) (A : Nat → Prop) (ad : Nat × Nat → Nat) (en : Nat → Nat) (tI tS : Nat) (τ τ' : CS) (x0 : Nat) (x1 : Int32) (r : Int32) (hf : k_X6_octetAt τ x0 x1 = some (r, τ')) : Met l yX6_octetAt (wz yX6_octetAt cX6_octetAt 2 (some .int)) ({ frames := 0, cells := 0, slots := 0, locals := 0 } : Room) (va_Pc [.ref (ad (9, x0)), .int x1] (CWs D cy A ad en tI tS τ)) (va_Qi (fun (r' : Int32) (u : CS) => r' = r ∧ u = τ') (CWp D cy A ad) A) 0 0 A := by
  refine Met.ofW (cc := cX6_octetAt) (maxL := 2) (ret := (some .int)) (by decide) rfl ?_
  intro p e s m args below meth c s₁ B hml hv
  obtain ⟨rfl, hw, hC⟩ := hv
  have hK := hC.1
  have hN := hC.2.1
  have hx := B.exec
  have hb := B.bytes
  have hr := B.returns
  have hts := atoms_spec (ws := (wz yX6_octetAt cX6_octetAt 2 (some .int))) B.pre
  have hown : s.vm.findClass RX6 = some m.cls := findClass_of_methodNamed B.named
  have hlocks := B.notSynchronized
  have S : CallFix p m c cX6_octetAt 2 s ([.ref (ad (9, x0)), .int x1] : List Value).toArray (wz yX6_octetAt cX6_octetAt 2 (some .int)) RX6 := ⟨hx, hb, hml, hown, hts⟩
  have hX1 : ∀ w ∈ wsX10, w ∈ (wz yX6_octetAt cX6_octetAt 2 (some .int)) := fun w h => wz_in (inlX1 w h)
  have hX2 : ∀ w ∈ wsX20, w ∈ (wz yX6_octetAt cX6_octetAt 2 (some .int)) := fun w h => wz_in (inlX2 w h)
  have hX4 : ∀ w ∈ wsX40, w ∈ (wz yX6_octetAt cX6_octetAt 2 (some .int)) := fun w h => wz_in (inlX4 w h)
  have hX5 : ∀ w ∈ wsX50, w ∈ (wz yX6_octetAt cX6_octetAt 2 (some .int)) := fun w h => wz_in (inlX5 w h)
  have hX6 : ∀ w ∈ wsX60, w ∈ (wz yX6_octetAt cX6_octetAt 2 (some .int)) := fun w h => wz_in (inlX6 w h)
  have hS : va_S A s.heap s.heap [] := va_S.rf
  have hl := lv_entry ([.ref (ad (9, x0)), .int x1]) (n := 2) (Nat.le_of_ble_eq_true rfl)
  rw [lg_entry_eq]
  generalize (lg_sl ([.ref (ad (9, x0)), .int x1]) ++ List.replicate (2 - (lg_sl ([.ref (ad (9, x0)), .int x1])).length) Slot.unset).toArray = ls at hl ⊢
  have hl : lv_has ls 2 [(0, .ref (ad (9, x0))), (1, .int x1)] := hl
  have B21 : ∀ (τ : CS) (y0 : Int32) (H : Heap) (locs : List Loc) (ls : Array Slot) (hf : k_X6_octetAt_b21 x0 x1 τ y0 = some (r, τ')) (hw : zw D A ad (cG cy ad τ) H) (hS : va_S A s.heap H locs) (hl : lv_has ls 2 [(0, .ref (ad (9, x0))), (1, .int x1)]), W p l e (headSpec (wz yX6_octetAt cX6_octetAt 2 (some .int)) ({ frames := 0, cells := 0, slots := 0, locals := 0 } : Room)).room s m ([.ref (ad (9, x0)), .int x1] : List Value).toArray below meth c H locs 0 0 (MQ below (va_Qi (fun (r' : Int32) (u : CS) => r' = r ∧ u = τ') (CWp D cy A ad) A) ([.ref (ad (9, x0)), .int x1] : List Value).toArray s 0 0 A) (F0 m 21 ls [.int y0]) := by
    intro τ y0 H locs ls hf hw hS hl
    rw [k_X6_octetAt_b21] at hf
    exact cw_reti S hr hf hw hS hlocks dX6_octetAt_21
  have B20 : ∀ (τ : CS) (H : Heap) (locs : List Loc) (ls : Array Slot) (hf : k_X6_octetAt_b20 x0 x1 τ = some (r, τ')) (hw : zw D A ad (cG cy ad τ) H) (hS : va_S A s.heap H locs) (hl : lv_has ls 2 [(0, .ref (ad (9, x0))), (1, .int x1)]), W p l e (headSpec (wz yX6_octetAt cX6_octetAt 2 (some .int)) ({ frames := 0, cells := 0, slots := 0, locals := 0 } : Room)).room s m ([.ref (ad (9, x0)), .int x1] : List Value).toArray below meth c H locs 0 0 (MQ below (va_Qi (fun (r' : Int32) (u : CS) => r' = r ∧ u = τ') (CWp D cy A ad) A) ([.ref (ad (9, x0)), .int x1] : List Value).toArray s 0 0 A) (F0 m 20 ls []) := by
    intro τ H locs ls hf hw hS hl
    rw [k_X6_octetAt_b20] at hf
    refine lv_iconst (v := (0 : Int32)) hx hb dX6_octetAt_20 (by decide) ?_
    exact B21 _ (0 : Int32) _ _ _ hf hw hS (lv_sub hl [0, 1] rfl)
  rw [k_X6_octetAt] at hf
  refine lv_iload_n hx hb dX6_octetAt_0 rfl (lv_at hl 1 rfl) ?_
  refine lv_if_lt (tgt := 20) hx hb dX6_octetAt_1 (by decide) (fun c_5 => ?_) (fun c_5 => ?_)
  · have hf := (zi_t c_5).symm.trans hf
    exact B20 _ _ _ _ hf hw hS (lv_sub hl [0, 1] rfl)
  · have hf := (zi_f c_5).symm.trans hf
    refine lv_iload_n hx hb dX6_octetAt_4 rfl (lv_at hl 1 rfl) ?_
    refine lv_aload_n hx hb dX6_octetAt_5 rfl (lv_at hl 0 rfl) ?_
    obtain ⟨g_6, hf⟩ := zg_inv hf
    refine cr_alen (v := nI (cbl τ x0)) S hK hw 9 x0 0 g_6 rfl rfl rfl dX6_octetAt_6 ?_
    refine lv_icmp_ge (tgt := 20) hx hb dX6_octetAt_7 (by decide) (fun c_7 => ?_) (fun c_7 => ?_)
    · have hf := (zi_t c_7).symm.trans hf
      exact B20 _ _ _ _ hf hw hS (lv_sub hl [0, 1] rfl)
    · have hf := (zi_f c_7).symm.trans hf
      refine lv_aload_n hx hb dX6_octetAt_10 rfl (lv_at hl 0 rfl) ?_
      refine lv_iload_n hx hb dX6_octetAt_11 rfl (lv_at hl 1 rfl) ?_
      obtain ⟨g_8, hf⟩ := zg_inv hf
      refine cr_bald S hK hw x0 g_6 g_8 dX6_octetAt_12 ?_
      refine lv_sipush (v := (255 : Int32)) hx hb dX6_octetAt_13 (by decide) ?_
      refine lv_iand hx hb dX6_octetAt_16 ?_
      refine lv_goto (tgt := 21) hx hb dX6_octetAt_17 (by decide) ?_
      exact B21 _ ((cb τ x0 x1.toNatClampNeg) &&& (255 : Int32)) _ _ _ hf hw hS (lv_sub hl [0, 1] rfl)
noncomputable def k_X6_numberAt_b17 (x0 : Nat) (x1 : Int32) (τ : CS) (y0 : Int64) : Option (Int64 × CS) := some (y0, τ)
noncomputable def k_X6_numberAt_b16 (x0 : Nat) (x1 : Int32) (τ : CS) : Option (Int64 × CS) := k_X6_numberAt_b17 x0 x1 τ (0 : Int64)
noncomputable def k_X6_numberAt (τ : CS) (x0 : Nat) (x1 : Int32) : Option (Int64 × CS) := zi (x1 < 0) (k_X6_numberAt_b16 x0 x1 τ) (zg (cv τ 8 x0 = true) (zi ((nI (jl x0)) ≤ x1) (k_X6_numberAt_b16 x0 x1 τ) (zg (vp_in x1 (jl x0)) (k_X6_numberAt_b17 x0 x1 τ (cj τ x0 x1.toNatClampNeg)))))
set_option maxHeartbeats 4000000 in
set_option maxRecDepth 100000 in
theorem kc_X6_numberAt (l : Launch) (D : va_G) (cy : Nat → ClassId) (A : Nat → Prop) (ad : Nat × Nat → Nat) (en : Nat → Nat) (tI tS : Nat) (τ τ' : CS) (x0 : Nat) (x1 : Int32) (r : Int64) (hf : k_X6_numberAt τ x0 x1 = some (r, τ')) : Met l yX6_numberAt (wz yX6_numberAt cX6_numberAt 2 (some .long)) ({ frames := 0, cells := 0, slots := 0, locals := 0 } : Room) (va_Pc [.ref (ad (8, x0)), .int x1] (CWs D cy A ad en tI tS τ)) (va_Ql (fun (r' : Int64) (u : CS) => r' = r ∧ u = τ') (CWp D cy A ad) A) 0 0 A := by
  refine Met.ofW (cc := cX6_numberAt) (maxL := 2) (ret := (some .long)) (by decide) rfl ?_
  intro p e s m args below meth c s₁ B hml hv
  obtain ⟨rfl, hw, hC⟩ := hv
  have hK := hC.1
  have hN := hC.2.1
  have hx := B.exec
  have hb := B.bytes
  have hr := B.returns
  have hts := atoms_spec (ws := (wz yX6_numberAt cX6_numberAt 2 (some .long))) B.pre
  have hown : s.vm.findClass RX6 = some m.cls := findClass_of_methodNamed B.named
  have hlocks := B.notSynchronized
  have S : CallFix p m c cX6_numberAt 2 s ([.ref (ad (8, x0)), .int x1] : List Value).toArray (wz yX6_numberAt cX6_numberAt 2 (some .long)) RX6 := ⟨hx, hb, hml, hown, hts⟩
  have hX1 : ∀ w ∈ wsX10, w ∈ (wz yX6_numberAt cX6_numberAt 2 (some .long)) := fun w h => wz_in (inlX1 w h)
  have hX2 : ∀ w ∈ wsX20, w ∈ (wz yX6_numberAt cX6_numberAt 2 (some .long)) := fun w h => wz_in (inlX2 w h)
  have hX4 : ∀ w ∈ wsX40, w ∈ (wz yX6_numberAt cX6_numberAt 2 (some .long)) := fun w h => wz_in (inlX4 w h)
  have hX5 : ∀ w ∈ wsX50, w ∈ (wz yX6_numberAt cX6_numberAt 2 (some .long)) := fun w h => wz_in (inlX5 w h)
  have hX6 : ∀ w ∈ wsX60, w ∈ (wz yX6_numberAt cX6_numberAt 2 (some .long)) := fun w h => wz_in (inlX6 w h)
  have hS : va_S A s.heap s.heap [] := va_S.rf
  have hl := lv_entry ([.ref (ad (8, x0)), .int x1]) (n := 2) (Nat.le_of_ble_eq_true rfl)
  rw [lg_entry_eq]
  generalize (lg_sl ([.ref (ad (8, x0)), .int x1]) ++ List.replicate (2 - (lg_sl ([.ref (ad (8, x0)), .int x1])).length) Slot.unset).toArray = ls at hl ⊢
  have hl : lv_has ls 2 [(0, .ref (ad (8, x0))), (1, .int x1)] := hl
  have B17 : ∀ (τ : CS) (y0 : Int64) (H : Heap) (locs : List Loc) (ls : Array Slot) (hf : k_X6_numberAt_b17 x0 x1 τ y0 = some (r, τ')) (hw : zw D A ad (cG cy ad τ) H) (hS : va_S A s.heap H locs) (hl : lv_has ls 2 [(0, .ref (ad (8, x0))), (1, .int x1)]), W p l e (headSpec (wz yX6_numberAt cX6_numberAt 2 (some .long)) ({ frames := 0, cells := 0, slots := 0, locals := 0 } : Room)).room s m ([.ref (ad (8, x0)), .int x1] : List Value).toArray below meth c H locs 0 0 (MQ below (va_Ql (fun (r' : Int64) (u : CS) => r' = r ∧ u = τ') (CWp D cy A ad) A) ([.ref (ad (8, x0)), .int x1] : List Value).toArray s 0 0 A) (F0 m 17 ls [.long y0]) := by
    intro τ y0 H locs ls hf hw hS hl
    rw [k_X6_numberAt_b17] at hf
    exact cw_retl S hr hf hw hS hlocks dX6_numberAt_17
  have B16 : ∀ (τ : CS) (H : Heap) (locs : List Loc) (ls : Array Slot) (hf : k_X6_numberAt_b16 x0 x1 τ = some (r, τ')) (hw : zw D A ad (cG cy ad τ) H) (hS : va_S A s.heap H locs) (hl : lv_has ls 2 [(0, .ref (ad (8, x0))), (1, .int x1)]), W p l e (headSpec (wz yX6_numberAt cX6_numberAt 2 (some .long)) ({ frames := 0, cells := 0, slots := 0, locals := 0 } : Room)).room s m ([.ref (ad (8, x0)), .int x1] : List Value).toArray below meth c H locs 0 0 (MQ below (va_Ql (fun (r' : Int64) (u : CS) => r' = r ∧ u = τ') (CWp D cy A ad) A) ([.ref (ad (8, x0)), .int x1] : List Value).toArray s 0 0 A) (F0 m 16 ls []) := by
    intro τ H locs ls hf hw hS hl
    rw [k_X6_numberAt_b16] at hf
    refine lv_lconst (v := (0 : Int64)) hx hb dX6_numberAt_16 (by decide) ?_
    exact B17 _ (0 : Int64) _ _ _ hf hw hS (lv_sub hl [0, 1] rfl)
  rw [k_X6_numberAt] at hf
  refine lv_iload_n hx hb dX6_numberAt_0 rfl (lv_at hl 1 rfl) ?_
  refine lv_if_lt (tgt := 16) hx hb dX6_numberAt_1 (by decide) (fun c_5 => ?_) (fun c_5 => ?_)
  · have hf := (zi_t c_5).symm.trans hf
    exact B16 _ _ _ _ hf hw hS (lv_sub hl [0, 1] rfl)
  · have hf := (zi_f c_5).symm.trans hf
    refine lv_iload_n hx hb dX6_numberAt_4 rfl (lv_at hl 1 rfl) ?_
    refine lv_aload_n hx hb dX6_numberAt_5 rfl (lv_at hl 0 rfl) ?_
    obtain ⟨g_6, hf⟩ := zg_inv hf
    refine cr_alen (v := nI (jl x0)) S hK hw 8 x0 2 g_6 rfl rfl rfl dX6_numberAt_6 ?_
    refine lv_icmp_ge (tgt := 16) hx hb dX6_numberAt_7 (by decide) (fun c_7 => ?_) (fun c_7 => ?_)
    · have hf := (zi_t c_7).symm.trans hf
      exact B16 _ _ _ _ hf hw hS (lv_sub hl [0, 1] rfl)
    · have hf := (zi_f c_7).symm.trans hf
      refine lv_aload_n hx hb dX6_numberAt_10 rfl (lv_at hl 0 rfl) ?_
      refine lv_iload_n hx hb dX6_numberAt_11 rfl (lv_at hl 1 rfl) ?_
      obtain ⟨g_8, hf⟩ := zg_inv hf
      refine cr_lald S hK hw x0 g_6 g_8 dX6_numberAt_12 ?_
      refine lv_goto (tgt := 17) hx hb dX6_numberAt_13 (by decide) ?_
      exact B17 _ (cj τ x0 x1.toNatClampNeg) _ _ _ hf hw hS (lv_sub hl [0, 1] rfl)
noncomputable def k_X6_putNumber_b14 (x0 : Nat) (x1 : Int32) (x2 : Int64) (τ : CS) : Option (Unit × CS) := some ((), τ)
noncomputable def k_X6_putNumber (τ : CS) (x0 : Nat) (x1 : Int32) (x2 : Int64) : Option (Unit × CS) := zi (x1 < 0) (k_X6_putNumber_b14 x0 x1 x2 τ) (zg (cv τ 8 x0 = true) (zi ((nI (jl x0)) ≤ x1) (k_X6_putNumber_b14 x0 x1 x2 τ) (zg (vp_in x1 (jl x0)) (k_X6_putNumber_b14 x0 x1 x2 (cJ τ x0 x1.toNatClampNeg x2)))))
set_option maxHeartbeats 4000000 in
set_option maxRecDepth 100000 in
theorem kc_X6_putNumber (l : Launch) (D : va_G) (cy : Nat → ClassId) (A : Nat → Prop) (ad : Nat × Nat → Nat) (en : Nat → Nat) (tI tS : Nat) (τ τ' : CS) (x0 : Nat) (x1 : Int32) (x2 : Int64) (hf : k_X6_putNumber τ x0 x1 x2 = some ((), τ')) : Met l yX6_putNumber (wz yX6_putNumber cX6_putNumber 4 none) ({ frames := 0, cells := 0, slots := 0, locals := 0 } : Room) (va_Pc [.ref (ad (8, x0)), .int x1, .long x2] (CWs D cy A ad en tI tS τ)) (va_Qv (fun (u : CS) => u = τ') (CWp D cy A ad) A) 0 0 A := by
  refine Met.ofW (cc := cX6_putNumber) (maxL := 4) (ret := none) (by decide) rfl ?_
  intro p e s m args below meth c s₁ B hml hv
  obtain ⟨rfl, hw, hC⟩ := hv
  have hK := hC.1
  have hN := hC.2.1
  have hx := B.exec
  have hb := B.bytes
  have hr := B.returns
  have hts := atoms_spec (ws := (wz yX6_putNumber cX6_putNumber 4 none)) B.pre
  have hown : s.vm.findClass RX6 = some m.cls := findClass_of_methodNamed B.named
  have hlocks := B.notSynchronized
  have S : CallFix p m c cX6_putNumber 4 s ([.ref (ad (8, x0)), .int x1, .long x2] : List Value).toArray (wz yX6_putNumber cX6_putNumber 4 none) RX6 := ⟨hx, hb, hml, hown, hts⟩
  have hX1 : ∀ w ∈ wsX10, w ∈ (wz yX6_putNumber cX6_putNumber 4 none) := fun w h => wz_in (inlX1 w h)
  have hX2 : ∀ w ∈ wsX20, w ∈ (wz yX6_putNumber cX6_putNumber 4 none) := fun w h => wz_in (inlX2 w h)
  have hX4 : ∀ w ∈ wsX40, w ∈ (wz yX6_putNumber cX6_putNumber 4 none) := fun w h => wz_in (inlX4 w h)
  have hX5 : ∀ w ∈ wsX50, w ∈ (wz yX6_putNumber cX6_putNumber 4 none) := fun w h => wz_in (inlX5 w h)
  have hX6 : ∀ w ∈ wsX60, w ∈ (wz yX6_putNumber cX6_putNumber 4 none) := fun w h => wz_in (inlX6 w h)
  have hS : va_S A s.heap s.heap [] := va_S.rf
  have hl := lv_entry ([.ref (ad (8, x0)), .int x1, .long x2]) (n := 4) (Nat.le_of_ble_eq_true rfl)
  rw [lg_entry_eq]
  generalize (lg_sl ([.ref (ad (8, x0)), .int x1, .long x2]) ++ List.replicate (4 - (lg_sl ([.ref (ad (8, x0)), .int x1, .long x2])).length) Slot.unset).toArray = ls at hl ⊢
  have hl : lv_has ls 4 [(0, .ref (ad (8, x0))), (1, .int x1), (2, .long x2)] := hl
  have B14 : ∀ (τ : CS) (H : Heap) (locs : List Loc) (ls : Array Slot) (hf : k_X6_putNumber_b14 x0 x1 x2 τ = some ((), τ')) (hw : zw D A ad (cG cy ad τ) H) (hS : va_S A s.heap H locs) (hl : lv_has ls 4 [(0, .ref (ad (8, x0))), (1, .int x1), (2, .long x2)]), W p l e (headSpec (wz yX6_putNumber cX6_putNumber 4 none) ({ frames := 0, cells := 0, slots := 0, locals := 0 } : Room)).room s m ([.ref (ad (8, x0)), .int x1, .long x2] : List Value).toArray below meth c H locs 0 0 (MQ below (va_Qv (fun (u : CS) => u = τ') (CWp D cy A ad) A) ([.ref (ad (8, x0)), .int x1, .long x2] : List Value).toArray s 0 0 A) (F0 m 14 ls []) := by
    intro τ H locs ls hf hw hS hl
    rw [k_X6_putNumber_b14] at hf
    exact cw_retv S hr hf hw hS hlocks dX6_putNumber_14
  rw [k_X6_putNumber] at hf
  refine lv_iload_n hx hb dX6_putNumber_0 rfl (lv_at hl 1 rfl) ?_
  refine lv_if_lt (tgt := 14) hx hb dX6_putNumber_1 (by decide) (fun c_5 => ?_) (fun c_5 => ?_)
  · have hf := (zi_t c_5).symm.trans hf
    exact B14 _ _ _ _ hf hw hS (lv_sub hl [0, 1, 2] rfl)
  · have hf := (zi_f c_5).symm.trans hf
    refine lv_iload_n hx hb dX6_putNumber_4 rfl (lv_at hl 1 rfl) ?_
    refine lv_aload_n hx hb dX6_putNumber_5 rfl (lv_at hl 0 rfl) ?_
    obtain ⟨g_6, hf⟩ := zg_inv hf
    refine cr_alen (v := nI (jl x0)) S hK hw 8 x0 2 g_6 rfl rfl rfl dX6_putNumber_6 ?_
    refine lv_icmp_ge (tgt := 14) hx hb dX6_putNumber_7 (by decide) (fun c_7 => ?_) (fun c_7 => ?_)
    · have hf := (zi_t c_7).symm.trans hf
      exact B14 _ _ _ _ hf hw hS (lv_sub hl [0, 1, 2] rfl)
    · have hf := (zi_f c_7).symm.trans hf
      refine lv_aload_n hx hb dX6_putNumber_10 rfl (lv_at hl 0 rfl) ?_
      refine lv_iload_n hx hb dX6_putNumber_11 rfl (lv_at hl 1 rfl) ?_
      refine lv_lload_n hx hb dX6_putNumber_12 rfl (lv_at hl 2 rfl) ?_
      obtain ⟨g_8, hf⟩ := zg_inv hf
      refine cr_last S hK hw hS x0 g_6 g_8 dX6_putNumber_13 (fun H locs hw hS => ?_)
      exact B14 _ _ _ _ hf hw hS (lv_sub hl [0, 1, 2] rfl)
noncomputable def k_X6_copyNumbers_b26 (x0 : Nat) (x1 : Nat) (τ : CS) (x2 : Int32) : Option (Unit × CS) := some ((), τ)
noncomputable def k_X6_copyNumbers_s2 (x0 : Nat) (x1 : Nat) (K : CS → Int32 → Option (Unit × CS)) (τ : CS) (x2 : Int32) : Option (Unit × CS) := zg (cv τ 8 x0 = true) (zi ((nI (jl x0)) ≤ x2) (k_X6_copyNumbers_b26 x0 x1 τ x2) (zg (cv τ 8 x1 = true) (zi ((nI (jl x1)) ≤ x2) (k_X6_copyNumbers_b26 x0 x1 τ x2) (zg (vp_in x2 (jl x0)) (zg (vp_in x2 (jl x1)) (K (cJ τ x1 x2.toNatClampNeg (cj τ x0 x2.toNatClampNeg)) (x2 + (1 : Int32))))))))
noncomputable def k_X6_copyNumbers_l2 (x0 : Nat) (x1 : Nat) : Nat → CS → Int32 → Option (Unit × CS)
  | 0 => fun _ _ => none
  | n + 1 => fun τ x2 => k_X6_copyNumbers_s2 x0 x1 (k_X6_copyNumbers_l2 x0 x1 n) τ x2
theorem k_X6_copyNumbers_l2_s (x0 : Nat) (x1 : Nat) (n : Nat) (τ : CS) (x2 : Int32) : k_X6_copyNumbers_l2 x0 x1 (n + 1) τ x2 = k_X6_copyNumbers_s2 x0 x1 (k_X6_copyNumbers_l2 x0 x1 n) τ x2 := rfl
theorem k_X6_copyNumbers_l2_z (x0 : Nat) (x1 : Nat) (τ : CS) (x2 : Int32) : k_X6_copyNumbers_l2 x0 x1 0 τ x2 = none := rfl
noncomputable def k_X6_copyNumbers (τ : CS) (x0 : Nat) (x1 : Nat) : Option (Unit × CS) := k_X6_copyNumbers_l2 x0 x1 FU τ (0 : Int32)
set_option maxHeartbeats 4000000 in
set_option maxRecDepth 100000 in
theorem kc_X6_copyNumbers (l : Launch) (D : va_G) (cy : Nat → ClassId) (A : Nat → Prop) (ad : Nat × Nat → Nat) (en : Nat → Nat) (tI tS : Nat) (τ τ' : CS) (x0 : Nat) (x1 : Nat) (hf : k_X6_copyNumbers τ x0 x1 = some ((), τ')) : Met l yX6_copyNumbers (wz yX6_copyNumbers cX6_copyNumbers 3 none) ({ frames := 0, cells := 0, slots := 0, locals := 0 } : Room) (va_Pc [.ref (ad (8, x0)), .ref (ad (8, x1))] (CWs D cy A ad en tI tS τ)) (va_Qv (fun (u : CS) => u = τ') (CWp D cy A ad) A) 0 0 A := by
  refine Met.ofW (cc := cX6_copyNumbers) (maxL := 3) (ret := none) (by decide) rfl ?_
  intro p e s m args below meth c s₁ B hml hv
  obtain ⟨rfl, hw, hC⟩ := hv
  have hK := hC.1
  have hN := hC.2.1
  have hx := B.exec
  have hb := B.bytes
  have hr := B.returns
  have hts := atoms_spec (ws := (wz yX6_copyNumbers cX6_copyNumbers 3 none)) B.pre
  have hown : s.vm.findClass RX6 = some m.cls := findClass_of_methodNamed B.named
  have hlocks := B.notSynchronized
  have S : CallFix p m c cX6_copyNumbers 3 s ([.ref (ad (8, x0)), .ref (ad (8, x1))] : List Value).toArray (wz yX6_copyNumbers cX6_copyNumbers 3 none) RX6 := ⟨hx, hb, hml, hown, hts⟩
  have hX1 : ∀ w ∈ wsX10, w ∈ (wz yX6_copyNumbers cX6_copyNumbers 3 none) := fun w h => wz_in (inlX1 w h)
  have hX2 : ∀ w ∈ wsX20, w ∈ (wz yX6_copyNumbers cX6_copyNumbers 3 none) := fun w h => wz_in (inlX2 w h)
  have hX4 : ∀ w ∈ wsX40, w ∈ (wz yX6_copyNumbers cX6_copyNumbers 3 none) := fun w h => wz_in (inlX4 w h)
  have hX5 : ∀ w ∈ wsX50, w ∈ (wz yX6_copyNumbers cX6_copyNumbers 3 none) := fun w h => wz_in (inlX5 w h)
  have hX6 : ∀ w ∈ wsX60, w ∈ (wz yX6_copyNumbers cX6_copyNumbers 3 none) := fun w h => wz_in (inlX6 w h)
  have hS : va_S A s.heap s.heap [] := va_S.rf
  have hl := lv_entry ([.ref (ad (8, x0)), .ref (ad (8, x1))]) (n := 3) (Nat.le_of_ble_eq_true rfl)
  rw [lg_entry_eq]
  generalize (lg_sl ([.ref (ad (8, x0)), .ref (ad (8, x1))]) ++ List.replicate (3 - (lg_sl ([.ref (ad (8, x0)), .ref (ad (8, x1))])).length) Slot.unset).toArray = ls at hl ⊢
  have hl : lv_has ls 3 [(0, .ref (ad (8, x0))), (1, .ref (ad (8, x1)))] := hl
  have B26 : ∀ (τ : CS) (x2 : Int32) (H : Heap) (locs : List Loc) (ls : Array Slot) (hf : k_X6_copyNumbers_b26 x0 x1 τ x2 = some ((), τ')) (hw : zw D A ad (cG cy ad τ) H) (hS : va_S A s.heap H locs) (hl : lv_has ls 3 [(0, .ref (ad (8, x0))), (1, .ref (ad (8, x1))), (2, .int x2)]), W p l e (headSpec (wz yX6_copyNumbers cX6_copyNumbers 3 none) ({ frames := 0, cells := 0, slots := 0, locals := 0 } : Room)).room s m ([.ref (ad (8, x0)), .ref (ad (8, x1))] : List Value).toArray below meth c H locs 0 0 (MQ below (va_Qv (fun (u : CS) => u = τ') (CWp D cy A ad) A) ([.ref (ad (8, x0)), .ref (ad (8, x1))] : List Value).toArray s 0 0 A) (F0 m 26 ls []) := by
    intro τ x2 H locs ls hf hw hS hl
    rw [k_X6_copyNumbers_b26] at hf
    exact cw_retv S hr hf hw hS hlocks dX6_copyNumbers_26
  have S2 : ∀ (K : CS → Int32 → Option (Unit × CS)) (_hKK : ∀ (τ : CS) (x2 : Int32) (H : Heap) (locs : List Loc) (ls : Array Slot) (hf : K τ x2 = some ((), τ')) (hw : zw D A ad (cG cy ad τ) H) (hS : va_S A s.heap H locs) (hl : lv_has ls 3 [(0, .ref (ad (8, x0))), (1, .ref (ad (8, x1))), (2, .int x2)]), W p l e (headSpec (wz yX6_copyNumbers cX6_copyNumbers 3 none) ({ frames := 0, cells := 0, slots := 0, locals := 0 } : Room)).room s m ([.ref (ad (8, x0)), .ref (ad (8, x1))] : List Value).toArray below meth c H locs 0 0 (MQ below (va_Qv (fun (u : CS) => u = τ') (CWp D cy A ad) A) ([.ref (ad (8, x0)), .ref (ad (8, x1))] : List Value).toArray s 0 0 A) (F0 m 2 ls [])) (τ : CS) (x2 : Int32) (H : Heap) (locs : List Loc) (ls : Array Slot) (hf : k_X6_copyNumbers_s2 x0 x1 K τ x2 = some ((), τ')) (hw : zw D A ad (cG cy ad τ) H) (hS : va_S A s.heap H locs) (hl : lv_has ls 3 [(0, .ref (ad (8, x0))), (1, .ref (ad (8, x1))), (2, .int x2)]), W p l e (headSpec (wz yX6_copyNumbers cX6_copyNumbers 3 none) ({ frames := 0, cells := 0, slots := 0, locals := 0 } : Room)).room s m ([.ref (ad (8, x0)), .ref (ad (8, x1))] : List Value).toArray below meth c H locs 0 0 (MQ below (va_Qv (fun (u : CS) => u = τ') (CWp D cy A ad) A) ([.ref (ad (8, x0)), .ref (ad (8, x1))] : List Value).toArray s 0 0 A) (F0 m 2 ls []) := by
    intro K hKK τ x2 H locs ls hf hw hS hl
    rw [k_X6_copyNumbers_s2] at hf
    refine lv_iload_n hx hb dX6_copyNumbers_2 rfl (lv_at hl 2 rfl) ?_
    refine lv_aload_n hx hb dX6_copyNumbers_3 rfl (lv_at hl 0 rfl) ?_
    obtain ⟨g_7, hf⟩ := zg_inv hf
    refine cr_alen (v := nI (jl x0)) S hK hw 8 x0 2 g_7 rfl rfl rfl dX6_copyNumbers_4 ?_
    refine lv_icmp_ge (tgt := 26) hx hb dX6_copyNumbers_5 (by decide) (fun c_8 => ?_) (fun c_8 => ?_)
    · have hf := (zi_t c_8).symm.trans hf
      exact B26 _ x2 _ _ _ hf hw hS (lv_sub hl [0, 1, 2] rfl)
    · have hf := (zi_f c_8).symm.trans hf
      refine lv_iload_n hx hb dX6_copyNumbers_8 rfl (lv_at hl 2 rfl) ?_
      refine lv_aload_n hx hb dX6_copyNumbers_9 rfl (lv_at hl 1 rfl) ?_
      obtain ⟨g_9, hf⟩ := zg_inv hf
      refine cr_alen (v := nI (jl x1)) S hK hw 8 x1 2 g_9 rfl rfl rfl dX6_copyNumbers_10 ?_
      refine lv_icmp_ge (tgt := 26) hx hb dX6_copyNumbers_11 (by decide) (fun c_10 => ?_) (fun c_10 => ?_)
      · have hf := (zi_t c_10).symm.trans hf
        exact B26 _ x2 _ _ _ hf hw hS (lv_sub hl [0, 1, 2] rfl)
      · have hf := (zi_f c_10).symm.trans hf
        refine lv_aload_n hx hb dX6_copyNumbers_14 rfl (lv_at hl 1 rfl) ?_
        refine lv_iload_n hx hb dX6_copyNumbers_15 rfl (lv_at hl 2 rfl) ?_
        refine lv_aload_n hx hb dX6_copyNumbers_16 rfl (lv_at hl 0 rfl) ?_
        refine lv_iload_n hx hb dX6_copyNumbers_17 rfl (lv_at hl 2 rfl) ?_
        obtain ⟨g_11, hf⟩ := zg_inv hf
        refine cr_lald S hK hw x0 g_7 g_11 dX6_copyNumbers_18 ?_
        obtain ⟨g_12, hf⟩ := zg_inv hf
        refine cr_last S hK hw hS x1 g_9 g_12 dX6_copyNumbers_19 (fun H locs hw hS => ?_)
        refine lv_iinc (v := x2 + (1 : Int32)) (lv' := [(2, .int (x2 + (1 : Int32))), (0, .ref (ad (8, x0))), (1, .ref (ad (8, x1)))]) hx hb dX6_copyNumbers_20 hl (k := 2) rfl rfl (by decide) rfl (fun ls hl => ?_)
        refine lv_goto (tgt := 2) hx hb dX6_copyNumbers_23 (by decide) ?_
        exact hKK _ (x2 + (1 : Int32)) _ _ _ hf hw hS (lv_sub hl [1, 2, 0] rfl)
  have L2 : ∀ (n : Nat) (τ : CS) (x2 : Int32) (H : Heap) (locs : List Loc) (ls : Array Slot) (hf : k_X6_copyNumbers_l2 x0 x1 n τ x2 = some ((), τ')) (hw : zw D A ad (cG cy ad τ) H) (hS : va_S A s.heap H locs) (hl : lv_has ls 3 [(0, .ref (ad (8, x0))), (1, .ref (ad (8, x1))), (2, .int x2)]), W p l e (headSpec (wz yX6_copyNumbers cX6_copyNumbers 3 none) ({ frames := 0, cells := 0, slots := 0, locals := 0 } : Room)).room s m ([.ref (ad (8, x0)), .ref (ad (8, x1))] : List Value).toArray below meth c H locs 0 0 (MQ below (va_Qv (fun (u : CS) => u = τ') (CWp D cy A ad) A) ([.ref (ad (8, x0)), .ref (ad (8, x1))] : List Value).toArray s 0 0 A) (F0 m 2 ls []) := by
    intro n
    induction n with
    | zero =>
      intro τ x2 H locs ls hf hw hS hl
      rw [k_X6_copyNumbers_l2_z] at hf
      cases hf
    | succ n ih =>
      intro τ x2 H locs ls hf hw hS hl
      rw [k_X6_copyNumbers_l2_s] at hf
      exact S2 (k_X6_copyNumbers_l2 x0 x1 n) ih τ x2 H locs ls hf hw hS hl
  rw [k_X6_copyNumbers] at hf
  refine lv_iconst (v := (0 : Int32)) hx hb dX6_copyNumbers_0 (by decide) ?_
  refine lv_istore_n (lv' := [(2, .int (0 : Int32)), (0, .ref (ad (8, x0))), (1, .ref (ad (8, x1)))]) hx hb dX6_copyNumbers_1 rfl hl (by decide) rfl (fun ls hl => ?_)
  exact L2 FU _ (0 : Int32) _ _ _ hf hw hS (lv_sub hl [1, 2, 0] rfl)
noncomputable def k_Jx29ce0_ordinal_8abf5 (τ : CS) (x0 : Nat) : Option (Int32 × CS) := zg (x0 < 19) (some (zT0.getD x0 0, τ))
set_option maxHeartbeats 4000000 in
set_option maxRecDepth 100000 in
theorem kc_Jx29ce0_ordinal_8abf5 (l : Launch) (D : va_G) (cy : Nat → ClassId) (A : Nat → Prop) (ad : Nat × Nat → Nat) (en : Nat → Nat) (tI tS : Nat) (τ τ' : CS) (x0 : Nat) (r : Int32) (hf : k_Jx29ce0_ordinal_8abf5 τ x0 = some (r, τ')) : Met l yJx29ce0_ordinal_8abf5 (wz yJx29ce0_ordinal_8abf5 cJx29ce0_ordinal_8abf5 1 (some .int)) ({ frames := 0, cells := 0, slots := 0, locals := 0 } : Room) (va_Pc [.ref (en x0)] (CWs D cy A ad en tI tS τ)) (va_Qi (fun (r' : Int32) (u : CS) => r' = r ∧ u = τ') (CWp D cy A ad) A) 0 0 A := by
  refine Met.ofW (cc := cJx29ce0_ordinal_8abf5) (maxL := 1) (ret := (some .int)) (by decide) rfl ?_
  intro p e s m args below meth c s₁ B hml hv
  obtain ⟨rfl, hw, hC⟩ := hv
  have hK := hC.1
  have hN := hC.2.1
  have hx := B.exec
  have hb := B.bytes
  have hr := B.returns
  have hts := atoms_spec (ws := (wz yJx29ce0_ordinal_8abf5 cJx29ce0_ordinal_8abf5 1 (some .int))) B.pre
  have hown : s.vm.findClass RJx29ce0 = some m.cls := findClass_of_methodNamed B.named
  have hlocks := B.notSynchronized
  have S : CallFix p m c cJx29ce0_ordinal_8abf5 1 s ([.ref (en x0)] : List Value).toArray (wz yJx29ce0_ordinal_8abf5 cJx29ce0_ordinal_8abf5 1 (some .int)) RJx29ce0 := ⟨hx, hb, hml, hown, hts⟩
  have hX1 : ∀ w ∈ wsX10, w ∈ (wz yJx29ce0_ordinal_8abf5 cJx29ce0_ordinal_8abf5 1 (some .int)) := fun w h => wz_in (inlX1 w h)
  have hX2 : ∀ w ∈ wsX20, w ∈ (wz yJx29ce0_ordinal_8abf5 cJx29ce0_ordinal_8abf5 1 (some .int)) := fun w h => wz_in (inlX2 w h)
  have hX4 : ∀ w ∈ wsX40, w ∈ (wz yJx29ce0_ordinal_8abf5 cJx29ce0_ordinal_8abf5 1 (some .int)) := fun w h => wz_in (inlX4 w h)
  have hX5 : ∀ w ∈ wsX50, w ∈ (wz yJx29ce0_ordinal_8abf5 cJx29ce0_ordinal_8abf5 1 (some .int)) := fun w h => wz_in (inlX5 w h)
  have hX6 : ∀ w ∈ wsX60, w ∈ (wz yJx29ce0_ordinal_8abf5 cJx29ce0_ordinal_8abf5 1 (some .int)) := fun w h => wz_in (inlX6 w h)
  have hS : va_S A s.heap s.heap [] := va_S.rf
  have hl := lv_entry ([.ref (en x0)]) (n := 1) (Nat.le_of_ble_eq_true rfl)
  rw [lg_entry_eq]
  generalize (lg_sl ([.ref (en x0)]) ++ List.replicate (1 - (lg_sl ([.ref (en x0)])).length) Slot.unset).toArray = ls at hl ⊢
  have hl : lv_has ls 1 [(0, .ref (en x0))] := hl
  rw [k_Jx29ce0_ordinal_8abf5] at hf
  refine lv_aload_n hx hb dJx29ce0_ordinal_8abf5_0 rfl (lv_at hl 0 rfl) ?_
  obtain ⟨g_2, hf⟩ := zg_inv hf
  refine va_getE (q := ("java/lang/Enum", "ordinal", "I", zT0)) hx hb hC.2.2.1.1 g_2 hS hown (List.mem_of_getElem? (i := 0) rfl) (hts _ (wz_in (zin12 _ (List.mem_of_getElem? (i := 11) rfl)))) (fun _ h => h) dJx29ce0_ordinal_8abf5_1 ?_
  exact cw_reti S hr hf hw hS hlocks dJx29ce0_ordinal_8abf5_4
noncomputable def k_X5_lay_b39 (x1 : Int64) (τ : CS) : Option (Int32 × CS) := some ((0 : Int32), τ)
noncomputable def k_X5_lay (τ : CS) (x1 : Int64) : Option (Int32 × CS) := zg (cv τ 1 0 = true) (zi ((ci τ 106 0) < 0) (k_X5_lay_b39 x1 τ) (zg (cv τ 8 0 = true) (zi ((nI (jl 0)) ≤ (ci τ 106 0)) (k_X5_lay_b39 x1 τ) (zg (vp_in (ci τ 106 0) (jl 0)) (k_X5_lay_b39 x1 (cI (cJ τ 0 (ci τ 106 0).toNatClampNeg x1) 106 0 ((ci (cJ τ 0 (ci τ 106 0).toNatClampNeg x1) 106 0) + (1 : Int32))))))))
set_option maxHeartbeats 4000000 in
set_option maxRecDepth 100000 in
theorem kc_X5_lay (l : Launch) (D : va_G) (cy : Nat → ClassId) (A : Nat → Prop) (ad : Nat × Nat → Nat) (en : Nat → Nat) (tI tS : Nat) (τ τ' : CS) (x1 : Int64) (r : Int32) (hf : k_X5_lay τ x1 = some (r, τ')) : Met l yX5_lay (wz yX5_lay cX5_lay 3 (some .int)) ({ frames := 0, cells := 0, slots := 0, locals := 0 } : Room) (va_Pc [.ref (ad (1, 0)), .long x1] (CWs D cy A ad en tI tS τ)) (va_Qi (fun (r' : Int32) (u : CS) => r' = r ∧ u = τ') (CWp D cy A ad) A) 0 0 A := by
  refine Met.ofW (cc := cX5_lay) (maxL := 3) (ret := (some .int)) (by decide) rfl ?_
  intro p e s m args below meth c s₁ B hml hv
  obtain ⟨rfl, hw, hC⟩ := hv
  have hK := hC.1
  have hN := hC.2.1
  have hx := B.exec
  have hb := B.bytes
  have hr := B.returns
  have hts := atoms_spec (ws := (wz yX5_lay cX5_lay 3 (some .int))) B.pre
  have hown : s.vm.findClass RX5 = some m.cls := findClass_of_methodNamed B.named
  have hlocks := B.notSynchronized
  have S : CallFix p m c cX5_lay 3 s ([.ref (ad (1, 0)), .long x1] : List Value).toArray (wz yX5_lay cX5_lay 3 (some .int)) RX5 := ⟨hx, hb, hml, hown, hts⟩
  have hX1 : ∀ w ∈ wsX10, w ∈ (wz yX5_lay cX5_lay 3 (some .int)) := fun w h => wz_in (inlX1 w h)
  have hX2 : ∀ w ∈ wsX20, w ∈ (wz yX5_lay cX5_lay 3 (some .int)) := fun w h => wz_in (inlX2 w h)
  have hX4 : ∀ w ∈ wsX40, w ∈ (wz yX5_lay cX5_lay 3 (some .int)) := fun w h => wz_in (inlX4 w h)
  have hX5 : ∀ w ∈ wsX50, w ∈ (wz yX5_lay cX5_lay 3 (some .int)) := fun w h => wz_in (inlX5 w h)
  have hX6 : ∀ w ∈ wsX60, w ∈ (wz yX5_lay cX5_lay 3 (some .int)) := fun w h => wz_in (inlX6 w h)
  have hS : va_S A s.heap s.heap [] := va_S.rf
  have hl := lv_entry ([.ref (ad (1, 0)), .long x1]) (n := 3) (Nat.le_of_ble_eq_true rfl)
  rw [lg_entry_eq]
  generalize (lg_sl ([.ref (ad (1, 0)), .long x1]) ++ List.replicate (3 - (lg_sl ([.ref (ad (1, 0)), .long x1])).length) Slot.unset).toArray = ls at hl ⊢
  have hl : lv_has ls 3 [(0, .ref (ad (1, 0))), (1, .long x1)] := hl
  have B39 : ∀ (τ : CS) (H : Heap) (locs : List Loc) (ls : Array Slot) (hf : k_X5_lay_b39 x1 τ = some (r, τ')) (hw : zw D A ad (cG cy ad τ) H) (hS : va_S A s.heap H locs) (hl : lv_has ls 3 [(0, .ref (ad (1, 0))), (1, .long x1)]), W p l e (headSpec (wz yX5_lay cX5_lay 3 (some .int)) ({ frames := 0, cells := 0, slots := 0, locals := 0 } : Room)).room s m ([.ref (ad (1, 0)), .long x1] : List Value).toArray below meth c H locs 0 0 (MQ below (va_Qi (fun (r' : Int32) (u : CS) => r' = r ∧ u = τ') (CWp D cy A ad) A) ([.ref (ad (1, 0)), .long x1] : List Value).toArray s 0 0 A) (F0 m 39 ls []) := by
    intro τ H locs ls hf hw hS hl
    rw [k_X5_lay_b39] at hf
    refine lv_iconst (v := (0 : Int32)) hx hb dX5_lay_39 (by decide) ?_
    exact cw_reti S hr hf hw hS hlocks dX5_lay_40
  rw [k_X5_lay] at hf
  refine lv_aload_n hx hb dX5_lay_0 rfl (lv_at hl 0 rfl) ?_
  obtain ⟨g_6, hf⟩ := zg_inv hf
  refine cr_get (v := .int (ci τ 106 0)) S hK hw 1 0 g_6 hX5 rfl rfl 6 (by decide) (wz_in (zin11 _ (List.mem_of_getElem? (i := 14) rfl))) rfl rfl dX5_lay_1 ?_
  refine lv_if_lt (tgt := 39) hx hb dX5_lay_4 (by decide) (fun c_7 => ?_) (fun c_7 => ?_)
  · have hf := (zi_t c_7).symm.trans hf
    exact B39 _ _ _ _ hf hw hS (lv_sub hl [0, 1] rfl)
  · have hf := (zi_f c_7).symm.trans hf
    refine lv_aload_n hx hb dX5_lay_7 rfl (lv_at hl 0 rfl) ?_
    refine cr_get (v := .int (ci τ 106 0)) S hK hw 1 0 g_6 hX5 rfl rfl 6 (by decide) (wz_in (zin11 _ (List.mem_of_getElem? (i := 14) rfl))) rfl rfl dX5_lay_8 ?_
    refine lv_aload_n hx hb dX5_lay_11 rfl (lv_at hl 0 rfl) ?_
    refine cr_get (v := .ref (ad (8, 0))) S hK hw 1 0 g_6 hX5 rfl rfl 0 (by decide) (wz_in (zin3 _ (List.mem_of_getElem? (i := 0) rfl))) rfl rfl dX5_lay_12 ?_
    obtain ⟨g_8, hf⟩ := zg_inv hf
    refine cr_alen (v := nI (jl 0)) S hK hw 8 0 2 g_8 rfl rfl rfl dX5_lay_15 ?_
    refine lv_icmp_ge (tgt := 39) hx hb dX5_lay_16 (by decide) (fun c_9 => ?_) (fun c_9 => ?_)
    · have hf := (zi_t c_9).symm.trans hf
      exact B39 _ _ _ _ hf hw hS (lv_sub hl [0, 1] rfl)
    · have hf := (zi_f c_9).symm.trans hf
      refine lv_aload_n hx hb dX5_lay_19 rfl (lv_at hl 0 rfl) ?_
      refine cr_get (v := .ref (ad (8, 0))) S hK hw 1 0 g_6 hX5 rfl rfl 0 (by decide) (wz_in (zin3 _ (List.mem_of_getElem? (i := 0) rfl))) rfl rfl dX5_lay_20 ?_
      refine lv_aload_n hx hb dX5_lay_23 rfl (lv_at hl 0 rfl) ?_
      refine cr_get (v := .int (ci τ 106 0)) S hK hw 1 0 g_6 hX5 rfl rfl 6 (by decide) (wz_in (zin11 _ (List.mem_of_getElem? (i := 14) rfl))) rfl rfl dX5_lay_24 ?_
      refine lv_lload_n hx hb dX5_lay_27 rfl (lv_at hl 1 rfl) ?_
      obtain ⟨g_10, hf⟩ := zg_inv hf
      refine cr_last S hK hw hS 0 g_8 g_10 dX5_lay_28 (fun H locs hw hS => ?_)
      refine lv_aload_n hx hb dX5_lay_29 rfl (lv_at hl 0 rfl) ?_
      refine lv_dup hx hb dX5_lay_30 rfl ?_
      refine cr_get (v := .int (ci (cJ τ 0 (ci τ 106 0).toNatClampNeg x1) 106 0)) S hK hw 1 0 g_6 hX5 rfl rfl 6 (by decide) (wz_in (zin11 _ (List.mem_of_getElem? (i := 14) rfl))) rfl rfl dX5_lay_31 ?_
      refine lv_iconst (v := (1 : Int32)) hx hb dX5_lay_34 (by decide) ?_
      refine lv_iadd hx hb dX5_lay_35 ?_
      refine cr_put (v := .int ((ci (cJ τ 0 (ci τ 106 0).toNatClampNeg x1) 106 0) + (1 : Int32))) (σ1 := cI (cJ τ 0 (ci τ 106 0).toNatClampNeg x1) 106 0 ((ci (cJ τ 0 (ci τ 106 0).toNatClampNeg x1) 106 0) + (1 : Int32))) S hK hw hS 1 0 g_6 hX5 tyX5 tyX5_ok nmX5 rfl rfl 6 (by decide) (wz_in (zin11 _ (List.mem_of_getElem? (i := 14) rfl))) rfl rfl rfl rfl (Nat.le_of_ble_eq_true rfl) dX5_lay_36 rfl (cput_106 _ _ _ _ _) (cout_106 _ _ _ _ _) (fun H locs hw hS => ?_)
      exact B39 _ _ _ _ hf hw hS (lv_sub hl [0, 1] rfl)
noncomputable def k_X5_take_b19 (τ : CS) : Option (Int64 × CS) := some ((0 : Int64), τ)
noncomputable def k_X5_take (τ : CS) : Option (Int64 × CS) := zg (cv τ 1 0 = true) (zi ((ci τ 106 0) ≤ 0) (k_X5_take_b19 τ) (zg (cv τ 8 0 = true) (zi ((ci τ 106 0) ≤ (nI (jl 0))) (zg (vp_in (ci (cI τ 106 0 ((ci τ 106 0) - (1 : Int32))) 106 0) (jl 0)) (some (cj (cI τ 106 0 ((ci τ 106 0) - (1 : Int32))) 0 (ci (cI τ 106 0 ((ci τ 106 0) - (1 : Int32))) 106 0).toNatClampNeg, cI τ 106 0 ((ci τ 106 0) - (1 : Int32))))) (k_X5_take_b19 τ))))
set_option maxHeartbeats 4000000 in
set_option maxRecDepth 100000 in
theorem kc_X5_take (l : Launch) (D : va_G) (cy : Nat → ClassId) (A : Nat → Prop) (ad : Nat × Nat → Nat) (en : Nat → Nat) (tI tS : Nat) (τ τ' : CS) (r : Int64) (hf : k_X5_take τ = some (r, τ')) : Met l yX5_take (wz yX5_take cX5_take 1 (some .long)) ({ frames := 0, cells := 0, slots := 0, locals := 0 } : Room) (va_Pc [.ref (ad (1, 0))] (CWs D cy A ad en tI tS τ)) (va_Ql (fun (r' : Int64) (u : CS) => r' = r ∧ u = τ') (CWp D cy A ad) A) 0 0 A := by
  refine Met.ofW (cc := cX5_take) (maxL := 1) (ret := (some .long)) (by decide) rfl ?_
  intro p e s m args below meth c s₁ B hml hv
  obtain ⟨rfl, hw, hC⟩ := hv
  have hK := hC.1
  have hN := hC.2.1
  have hx := B.exec
  have hb := B.bytes
  have hr := B.returns
  have hts := atoms_spec (ws := (wz yX5_take cX5_take 1 (some .long))) B.pre
  have hown : s.vm.findClass RX5 = some m.cls := findClass_of_methodNamed B.named
  have hlocks := B.notSynchronized
  have S : CallFix p m c cX5_take 1 s ([.ref (ad (1, 0))] : List Value).toArray (wz yX5_take cX5_take 1 (some .long)) RX5 := ⟨hx, hb, hml, hown, hts⟩
  have hX1 : ∀ w ∈ wsX10, w ∈ (wz yX5_take cX5_take 1 (some .long)) := fun w h => wz_in (inlX1 w h)
  have hX2 : ∀ w ∈ wsX20, w ∈ (wz yX5_take cX5_take 1 (some .long)) := fun w h => wz_in (inlX2 w h)
  have hX4 : ∀ w ∈ wsX40, w ∈ (wz yX5_take cX5_take 1 (some .long)) := fun w h => wz_in (inlX4 w h)
  have hX5 : ∀ w ∈ wsX50, w ∈ (wz yX5_take cX5_take 1 (some .long)) := fun w h => wz_in (inlX5 w h)
  have hX6 : ∀ w ∈ wsX60, w ∈ (wz yX5_take cX5_take 1 (some .long)) := fun w h => wz_in (inlX6 w h)
  have hS : va_S A s.heap s.heap [] := va_S.rf
  have hl := lv_entry ([.ref (ad (1, 0))]) (n := 1) (Nat.le_of_ble_eq_true rfl)
  rw [lg_entry_eq]
  generalize (lg_sl ([.ref (ad (1, 0))]) ++ List.replicate (1 - (lg_sl ([.ref (ad (1, 0))])).length) Slot.unset).toArray = ls at hl ⊢
  have hl : lv_has ls 1 [(0, .ref (ad (1, 0)))] := hl
  have B19 : ∀ (τ : CS) (H : Heap) (locs : List Loc) (ls : Array Slot) (hf : k_X5_take_b19 τ = some (r, τ')) (hw : zw D A ad (cG cy ad τ) H) (hS : va_S A s.heap H locs) (hl : lv_has ls 1 [(0, .ref (ad (1, 0)))]), W p l e (headSpec (wz yX5_take cX5_take 1 (some .long)) ({ frames := 0, cells := 0, slots := 0, locals := 0 } : Room)).room s m ([.ref (ad (1, 0))] : List Value).toArray below meth c H locs 0 0 (MQ below (va_Ql (fun (r' : Int64) (u : CS) => r' = r ∧ u = τ') (CWp D cy A ad) A) ([.ref (ad (1, 0))] : List Value).toArray s 0 0 A) (F0 m 19 ls []) := by
    intro τ H locs ls hf hw hS hl
    rw [k_X5_take_b19] at hf
    refine lv_lconst (v := (0 : Int64)) hx hb dX5_take_19 (by decide) ?_
    exact cw_retl S hr hf hw hS hlocks dX5_take_20
  rw [k_X5_take] at hf
  refine lv_aload_n hx hb dX5_take_0 rfl (lv_at hl 0 rfl) ?_
  obtain ⟨g_6, hf⟩ := zg_inv hf
  refine cr_get (v := .int (ci τ 106 0)) S hK hw 1 0 g_6 hX5 rfl rfl 6 (by decide) (wz_in (zin11 _ (List.mem_of_getElem? (i := 14) rfl))) rfl rfl dX5_take_1 ?_
  refine lv_if_le (tgt := 19) hx hb dX5_take_4 (by decide) (fun c_7 => ?_) (fun c_7 => ?_)
  · have hf := (zi_t c_7).symm.trans hf
    exact B19 _ _ _ _ hf hw hS (lv_sub hl [0] rfl)
  · have hf := (zi_f c_7).symm.trans hf
    refine lv_aload_n hx hb dX5_take_7 rfl (lv_at hl 0 rfl) ?_
    refine cr_get (v := .int (ci τ 106 0)) S hK hw 1 0 g_6 hX5 rfl rfl 6 (by decide) (wz_in (zin11 _ (List.mem_of_getElem? (i := 14) rfl))) rfl rfl dX5_take_8 ?_
    refine lv_aload_n hx hb dX5_take_11 rfl (lv_at hl 0 rfl) ?_
    refine cr_get (v := .ref (ad (8, 0))) S hK hw 1 0 g_6 hX5 rfl rfl 0 (by decide) (wz_in (zin3 _ (List.mem_of_getElem? (i := 0) rfl))) rfl rfl dX5_take_12 ?_
    obtain ⟨g_8, hf⟩ := zg_inv hf
    refine cr_alen (v := nI (jl 0)) S hK hw 8 0 2 g_8 rfl rfl rfl dX5_take_15 ?_
    refine lv_icmp_le (tgt := 21) hx hb dX5_take_16 (by decide) (fun c_9 => ?_) (fun c_9 => ?_)
    · have hf := (zi_t c_9).symm.trans hf
      refine lv_aload_n hx hb dX5_take_21 rfl (lv_at hl 0 rfl) ?_
      refine lv_dup hx hb dX5_take_22 rfl ?_
      refine cr_get (v := .int (ci τ 106 0)) S hK hw 1 0 g_6 hX5 rfl rfl 6 (by decide) (wz_in (zin11 _ (List.mem_of_getElem? (i := 14) rfl))) rfl rfl dX5_take_23 ?_
      refine lv_iconst (v := (1 : Int32)) hx hb dX5_take_26 (by decide) ?_
      refine lv_isub hx hb dX5_take_27 ?_
      refine cr_put (v := .int ((ci τ 106 0) - (1 : Int32))) (σ1 := cI τ 106 0 ((ci τ 106 0) - (1 : Int32))) S hK hw hS 1 0 g_6 hX5 tyX5 tyX5_ok nmX5 rfl rfl 6 (by decide) (wz_in (zin11 _ (List.mem_of_getElem? (i := 14) rfl))) rfl rfl rfl rfl (Nat.le_of_ble_eq_true rfl) dX5_take_28 rfl (cput_106 _ _ _ _ _) (cout_106 _ _ _ _ _) (fun H locs hw hS => ?_)
      refine lv_aload_n hx hb dX5_take_31 rfl (lv_at hl 0 rfl) ?_
      refine cr_get (v := .ref (ad (8, 0))) S hK hw 1 0 g_6 hX5 rfl rfl 0 (by decide) (wz_in (zin3 _ (List.mem_of_getElem? (i := 0) rfl))) rfl rfl dX5_take_32 ?_
      refine lv_aload_n hx hb dX5_take_35 rfl (lv_at hl 0 rfl) ?_
      refine cr_get (v := .int (ci (cI τ 106 0 ((ci τ 106 0) - (1 : Int32))) 106 0)) S hK hw 1 0 g_6 hX5 rfl rfl 6 (by decide) (wz_in (zin11 _ (List.mem_of_getElem? (i := 14) rfl))) rfl rfl dX5_take_36 ?_
      obtain ⟨g_10, hf⟩ := zg_inv hf
      refine cr_lald S hK hw 0 g_8 g_10 dX5_take_39 ?_
      exact cw_retl S hr hf hw hS hlocks dX5_take_40
    · have hf := (zi_f c_9).symm.trans hf
      exact B19 _ _ _ _ hf hw hS (lv_sub hl [0] rfl)
noncomputable def k_X5_goOnAt_b13 (x1 : Int32) (τ : CS) : Option (Int32 × CS) := some ((1 : Int32), τ)
noncomputable def k_X5_goOnAt (τ : CS) (x1 : Int32) : Option (Int32 × CS) := zi (x1 < 0) (k_X5_goOnAt_b13 x1 τ) (zg (cv τ 1 0 = true) (zg (cv τ 9 (cr τ 3) = true) (zi (x1 ≤ (nI (cbl τ (cr τ 3)))) (some ((0 : Int32), cI τ 107 0 x1)) (k_X5_goOnAt_b13 x1 τ))))
set_option maxHeartbeats 4000000 in
set_option maxRecDepth 100000 in
theorem kc_X5_goOnAt (l : Launch) (D : va_G) (cy : Nat → ClassId) (A : Nat → Prop) (ad : Nat × Nat → Nat) (en : Nat → Nat) (tI tS : Nat) (τ τ' : CS) (x1 : Int32) (r : Int32) (hf : k_X5_goOnAt τ x1 = some (r, τ')) : Met l yX5_goOnAt (wz yX5_goOnAt cX5_goOnAt 2 (some .int)) ({ frames := 0, cells := 0, slots := 0, locals := 0 } : Room) (va_Pc [.ref (ad (1, 0)), .int x1] (CWs D cy A ad en tI tS τ)) (va_Qi (fun (r' : Int32) (u : CS) => r' = r ∧ u = τ') (CWp D cy A ad) A) 0 0 A := by
  refine Met.ofW (cc := cX5_goOnAt) (maxL := 2) (ret := (some .int)) (by decide) rfl ?_
  intro p e s m args below meth c s₁ B hml hv
  obtain ⟨rfl, hw, hC⟩ := hv
  have hK := hC.1
  have hN := hC.2.1
  have hx := B.exec
  have hb := B.bytes
  have hr := B.returns
  have hts := atoms_spec (ws := (wz yX5_goOnAt cX5_goOnAt 2 (some .int))) B.pre
  have hown : s.vm.findClass RX5 = some m.cls := findClass_of_methodNamed B.named
  have hlocks := B.notSynchronized
  have S : CallFix p m c cX5_goOnAt 2 s ([.ref (ad (1, 0)), .int x1] : List Value).toArray (wz yX5_goOnAt cX5_goOnAt 2 (some .int)) RX5 := ⟨hx, hb, hml, hown, hts⟩
  have hX1 : ∀ w ∈ wsX10, w ∈ (wz yX5_goOnAt cX5_goOnAt 2 (some .int)) := fun w h => wz_in (inlX1 w h)
  have hX2 : ∀ w ∈ wsX20, w ∈ (wz yX5_goOnAt cX5_goOnAt 2 (some .int)) := fun w h => wz_in (inlX2 w h)
  have hX4 : ∀ w ∈ wsX40, w ∈ (wz yX5_goOnAt cX5_goOnAt 2 (some .int)) := fun w h => wz_in (inlX4 w h)
  have hX5 : ∀ w ∈ wsX50, w ∈ (wz yX5_goOnAt cX5_goOnAt 2 (some .int)) := fun w h => wz_in (inlX5 w h)
  have hX6 : ∀ w ∈ wsX60, w ∈ (wz yX5_goOnAt cX5_goOnAt 2 (some .int)) := fun w h => wz_in (inlX6 w h)
  have hS : va_S A s.heap s.heap [] := va_S.rf
  have hl := lv_entry ([.ref (ad (1, 0)), .int x1]) (n := 2) (Nat.le_of_ble_eq_true rfl)
  rw [lg_entry_eq]
  generalize (lg_sl ([.ref (ad (1, 0)), .int x1]) ++ List.replicate (2 - (lg_sl ([.ref (ad (1, 0)), .int x1])).length) Slot.unset).toArray = ls at hl ⊢
  have hl : lv_has ls 2 [(0, .ref (ad (1, 0))), (1, .int x1)] := hl
  have B13 : ∀ (τ : CS) (H : Heap) (locs : List Loc) (ls : Array Slot) (hf : k_X5_goOnAt_b13 x1 τ = some (r, τ')) (hw : zw D A ad (cG cy ad τ) H) (hS : va_S A s.heap H locs) (hl : lv_has ls 2 [(0, .ref (ad (1, 0))), (1, .int x1)]), W p l e (headSpec (wz yX5_goOnAt cX5_goOnAt 2 (some .int)) ({ frames := 0, cells := 0, slots := 0, locals := 0 } : Room)).room s m ([.ref (ad (1, 0)), .int x1] : List Value).toArray below meth c H locs 0 0 (MQ below (va_Qi (fun (r' : Int32) (u : CS) => r' = r ∧ u = τ') (CWp D cy A ad) A) ([.ref (ad (1, 0)), .int x1] : List Value).toArray s 0 0 A) (F0 m 13 ls []) := by
    intro τ H locs ls hf hw hS hl
    rw [k_X5_goOnAt_b13] at hf
    refine lv_iconst (v := (1 : Int32)) hx hb dX5_goOnAt_13 (by decide) ?_
    exact cw_reti S hr hf hw hS hlocks dX5_goOnAt_14
  rw [k_X5_goOnAt] at hf
  refine lv_iload_n hx hb dX5_goOnAt_0 rfl (lv_at hl 1 rfl) ?_
  refine lv_if_lt (tgt := 13) hx hb dX5_goOnAt_1 (by decide) (fun c_5 => ?_) (fun c_5 => ?_)
  · have hf := (zi_t c_5).symm.trans hf
    exact B13 _ _ _ _ hf hw hS (lv_sub hl [0, 1] rfl)
  · have hf := (zi_f c_5).symm.trans hf
    refine lv_iload_n hx hb dX5_goOnAt_4 rfl (lv_at hl 1 rfl) ?_
    refine lv_aload_n hx hb dX5_goOnAt_5 rfl (lv_at hl 0 rfl) ?_
    obtain ⟨g_6, hf⟩ := zg_inv hf
    refine cr_get (v := .ref (ad (9, cr τ 3))) S hK hw 1 0 g_6 hX5 rfl rfl 3 (by decide) (wz_in (zin3 _ (List.mem_of_getElem? (i := 3) rfl))) rfl rfl dX5_goOnAt_6 ?_
    obtain ⟨g_7, hf⟩ := zg_inv hf
    refine cr_alen (v := nI (cbl τ (cr τ 3))) S hK hw 9 (cr τ 3) 0 g_7 rfl rfl rfl dX5_goOnAt_9 ?_
    refine lv_icmp_le (tgt := 15) hx hb dX5_goOnAt_10 (by decide) (fun c_8 => ?_) (fun c_8 => ?_)
    · have hf := (zi_t c_8).symm.trans hf
      refine lv_aload_n hx hb dX5_goOnAt_15 rfl (lv_at hl 0 rfl) ?_
      refine lv_iload_n hx hb dX5_goOnAt_16 rfl (lv_at hl 1 rfl) ?_
      refine cr_put (v := .int x1) (σ1 := cI τ 107 0 x1) S hK hw hS 1 0 g_6 hX5 tyX5 tyX5_ok nmX5 rfl rfl 7 (by decide) (wz_in (zin11 _ (List.mem_of_getElem? (i := 15) rfl))) rfl rfl rfl rfl (Nat.le_of_ble_eq_true rfl) dX5_goOnAt_17 rfl (cput_107 _ _ _ _ _) (cout_107 _ _ _ _ _) (fun H locs hw hS => ?_)
      refine lv_iconst (v := (0 : Int32)) hx hb dX5_goOnAt_20 (by decide) ?_
      exact cw_reti S hr hf hw hS hlocks dX5_goOnAt_21
    · have hf := (zi_f c_8).symm.trans hf
      exact B13 _ _ _ _ hf hw hS (lv_sub hl [0, 1] rfl)
noncomputable def k_X5_divides_b19 (x0 : Nat) (τ : CS) (y0 : Int32) : Option (Int32 × CS) := zg (narrow .boolean (.int y0) = .int y0) (some (y0, τ))
noncomputable def k_X5_divides_b14 (x0 : Nat) (τ : CS) : Option (Int32 × CS) := k_X5_divides_b19 x0 τ (1 : Int32)
noncomputable def k_X5_divides (τ : CS) (x0 : Nat) : Option (Int32 × CS) := zg (x0 < 19) (zi (x0 = 8) (k_X5_divides_b14 x0 τ) (zi (x0 = 9) (k_X5_divides_b14 x0 τ) (k_X5_divides_b19 x0 τ (0 : Int32))))
set_option maxHeartbeats 4000000 in
set_option maxRecDepth 100000 in
theorem kc_X5_divides (l : Launch) (D : va_G) (cy : Nat → ClassId) (A : Nat → Prop) (ad : Nat × Nat → Nat) (en : Nat → Nat) (tI tS : Nat) (τ τ' : CS) (x0 : Nat) (r : Int32) (hf : k_X5_divides τ x0 = some (r, τ')) : Met l yX5_divides (wz yX5_divides cX5_divides 1 (some .boolean)) ({ frames := 0, cells := 0, slots := 0, locals := 0 } : Room) (va_Pc [.ref (en x0)] (CWs D cy A ad en tI tS τ)) (va_Qi (fun (r' : Int32) (u : CS) => r' = r ∧ u = τ') (CWp D cy A ad) A) 0 0 A := by
  refine Met.ofW (cc := cX5_divides) (maxL := 1) (ret := (some .boolean)) (by decide) rfl ?_
  intro p e s m args below meth c s₁ B hml hv
  obtain ⟨rfl, hw, hC⟩ := hv
  have hK := hC.1
  have hN := hC.2.1
  have hx := B.exec
  have hb := B.bytes
  have hr := B.returns
  have hts := atoms_spec (ws := (wz yX5_divides cX5_divides 1 (some .boolean))) B.pre
  have hown : s.vm.findClass RX5 = some m.cls := findClass_of_methodNamed B.named
  have hlocks := B.notSynchronized
  have S : CallFix p m c cX5_divides 1 s ([.ref (en x0)] : List Value).toArray (wz yX5_divides cX5_divides 1 (some .boolean)) RX5 := ⟨hx, hb, hml, hown, hts⟩
  have hX1 : ∀ w ∈ wsX10, w ∈ (wz yX5_divides cX5_divides 1 (some .boolean)) := fun w h => wz_in (inlX1 w h)
  have hX2 : ∀ w ∈ wsX20, w ∈ (wz yX5_divides cX5_divides 1 (some .boolean)) := fun w h => wz_in (inlX2 w h)
  have hX4 : ∀ w ∈ wsX40, w ∈ (wz yX5_divides cX5_divides 1 (some .boolean)) := fun w h => wz_in (inlX4 w h)
  have hX5 : ∀ w ∈ wsX50, w ∈ (wz yX5_divides cX5_divides 1 (some .boolean)) := fun w h => wz_in (inlX5 w h)
  have hX6 : ∀ w ∈ wsX60, w ∈ (wz yX5_divides cX5_divides 1 (some .boolean)) := fun w h => wz_in (inlX6 w h)
  have hS : va_S A s.heap s.heap [] := va_S.rf
  have hl := lv_entry ([.ref (en x0)]) (n := 1) (Nat.le_of_ble_eq_true rfl)
  rw [lg_entry_eq]
  generalize (lg_sl ([.ref (en x0)]) ++ List.replicate (1 - (lg_sl ([.ref (en x0)])).length) Slot.unset).toArray = ls at hl ⊢
  have hl : lv_has ls 1 [(0, .ref (en x0))] := hl
  have B19 : ∀ (τ : CS) (y0 : Int32) (H : Heap) (locs : List Loc) (ls : Array Slot) (hf : k_X5_divides_b19 x0 τ y0 = some (r, τ')) (hw : zw D A ad (cG cy ad τ) H) (hS : va_S A s.heap H locs) (hl : lv_has ls 1 [(0, .ref (en x0))]), W p l e (headSpec (wz yX5_divides cX5_divides 1 (some .boolean)) ({ frames := 0, cells := 0, slots := 0, locals := 0 } : Room)).room s m ([.ref (en x0)] : List Value).toArray below meth c H locs 0 0 (MQ below (va_Qi (fun (r' : Int32) (u : CS) => r' = r ∧ u = τ') (CWp D cy A ad) A) ([.ref (en x0)] : List Value).toArray s 0 0 A) (F0 m 19 ls [.int y0]) := by
    intro τ y0 H locs ls hf hw hS hl
    rw [k_X5_divides_b19] at hf
    obtain ⟨g_5, hf⟩ := zg_inv hf
    exact cw_retz S hr g_5 hf hw hS hlocks dX5_divides_19
  have B14 : ∀ (τ : CS) (H : Heap) (locs : List Loc) (ls : Array Slot) (hf : k_X5_divides_b14 x0 τ = some (r, τ')) (hw : zw D A ad (cG cy ad τ) H) (hS : va_S A s.heap H locs) (hl : lv_has ls 1 [(0, .ref (en x0))]), W p l e (headSpec (wz yX5_divides cX5_divides 1 (some .boolean)) ({ frames := 0, cells := 0, slots := 0, locals := 0 } : Room)).room s m ([.ref (en x0)] : List Value).toArray below meth c H locs 0 0 (MQ below (va_Qi (fun (r' : Int32) (u : CS) => r' = r ∧ u = τ') (CWp D cy A ad) A) ([.ref (en x0)] : List Value).toArray s 0 0 A) (F0 m 14 ls []) := by
    intro τ H locs ls hf hw hS hl
    rw [k_X5_divides_b14] at hf
    refine lv_iconst (v := (1 : Int32)) hx hb dX5_divides_14 (by decide) ?_
    refine lv_goto (tgt := 19) hx hb dX5_divides_15 (by decide) ?_
    exact B19 _ (1 : Int32) _ _ _ hf hw hS (lv_sub hl [0] rfl)
  rw [k_X5_divides] at hf
  refine lv_aload_n hx hb dX5_divides_0 rfl (lv_at hl 0 rfl) ?_
  refine cr_getC S hC hS 8 (by decide) rfl (wz_in (zin13 _ (List.mem_of_getElem? (i := 7) rfl))) dX5_divides_1 ?_
  obtain ⟨g_6, hf⟩ := zg_inv hf
  refine cr_acmp_eq (tgt := 14) S hC g_6 (by decide) dX5_divides_4 (by decide) (fun c_7 => ?_) (fun c_7 => ?_)
  · have hf := (zi_t c_7).symm.trans hf
    exact B14 _ _ _ _ hf hw hS (lv_sub hl [0] rfl)
  · have hf := (zi_f c_7).symm.trans hf
    refine lv_aload_n hx hb dX5_divides_7 rfl (lv_at hl 0 rfl) ?_
    refine cr_getC S hC hS 9 (by decide) rfl (wz_in (zin13 _ (List.mem_of_getElem? (i := 8) rfl))) dX5_divides_8 ?_
    refine cr_acmp_ne (tgt := 18) S hC g_6 (by decide) dX5_divides_11 (by decide) (fun c_8 => ?_) (fun c_8 => ?_)
    · have hf := (zi_f c_8).symm.trans hf
      refine lv_iconst (v := (0 : Int32)) hx hb dX5_divides_18 (by decide) ?_
      exact B19 _ (0 : Int32) _ _ _ hf hw hS (lv_sub hl [0] rfl)
    · have hf := (zi_t c_8).symm.trans hf
      exact B14 _ _ _ _ hf hw hS (lv_sub hl [0] rfl)
