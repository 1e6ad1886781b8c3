noncomputable def k_X7_thrown (τ : MS) : Option (Int32 × MS) := some (mi τ 0, τ)
set_option maxHeartbeats 4000000 in
set_option maxRecDepth 100000 in
theorem kc_X7_thrown (l : Launch) (D : va_G) (cy : Nat → ClassId) (A : Nat → Prop) (ad : Nat → Nat) (τ τ' : MS) (r : Int32) (hf : k_X7_thrown τ = some (r, τ')) : Met l yX7_thrown (wz yX7_thrown cX7_thrown 1 (some .int)) ({ frames := 0, cells := 0, slots := 0, locals := 0 } : Room) (va_Pc [.ref (ad 0)] (MWs D cy A ad τ)) (va_Qi (fun (r' : Int32) (u : MS) => r' = r ∧ u = τ') (MWp D cy A ad) A) 0 0 A := by
  refine Met.ofW (cc := cX7_thrown) (maxL := 1) (ret := (some .int)) (by decide) rfl ?_
  intro p e s m args below meth c s₁ B hml hv
  obtain ⟨rfl, hw, hK⟩ := hv
  have hx := B.exec
  have hb := B.bytes
  have hr := B.returns
  have hts := atoms_spec (ws := (wz yX7_thrown cX7_thrown 1 (some .int))) B.pre
  have hown : s.vm.findClass RX7 = some m.cls := findClass_of_methodNamed B.named
  have hlocks := B.notSynchronized
  have S : CallFix p m c cX7_thrown 1 s ([.ref (ad 0)] : List Value).toArray (wz yX7_thrown cX7_thrown 1 (some .int)) RX7 := ⟨hx, hb, hml, hown, hts⟩
  have h7 : ∀ w ∈ wsX70, w ∈ (wz yX7_thrown cX7_thrown 1 (some .int)) := fun w h => wz_in (inlX7 w h)
  have hS : va_S A s.heap s.heap [] := va_S.rf
  have hl := lv_entry ([.ref (ad 0)]) (n := 1) (Nat.le_of_ble_eq_true rfl)
  rw [lg_entry_eq]
  generalize (lg_sl ([.ref (ad 0)]) ++ List.replicate (1 - (lg_sl ([.ref (ad 0)])).length) Slot.unset).toArray = ls at hl ⊢
  have hl : lv_has ls 1 [(0, .ref (ad 0))] := hl
  rw [k_X7_thrown] at hf
  refine lv_aload_n hx hb dX7_thrown_0 rfl (lv_at hl 0 rfl) ?_
  refine mr_get S h7 hK hw 0 (by decide) (wz_in (zin5 _ (List.mem_of_getElem? (i := 8) rfl))) rfl rfl dX7_thrown_1 ?_
  exact mw_reti S hr hf hw hS hlocks dX7_thrown_4
noncomputable def k_X7_in_b15 (x0 : Int32) (x1 : Int32) (x2 : Int32) (τ : MS) (y0 : Int32) : Option (Int32 × MS) := zg (narrow .boolean (.int y0) = .int y0) (some (y0, τ))
noncomputable def k_X7_in_b14 (x0 : Int32) (x1 : Int32) (x2 : Int32) (τ : MS) : Option (Int32 × MS) := k_X7_in_b15 x0 x1 x2 τ (0 : Int32)
noncomputable def k_X7_in (τ : MS) (x0 : Int32) (x1 : Int32) (x2 : Int32) : Option (Int32 × MS) := zi (x0 < x1) (k_X7_in_b14 x0 x1 x2 τ) (zi (x2 < x0) (k_X7_in_b14 x0 x1 x2 τ) (k_X7_in_b15 x0 x1 x2 τ (1 : Int32)))
set_option maxHeartbeats 4000000 in
set_option maxRecDepth 100000 in
theorem kc_X7_in (l : Launch) (D : va_G) (cy : Nat → ClassId) (A : Nat → Prop) (ad : Nat → Nat) (τ τ' : MS) (x0 : Int32) (x1 : Int32) (x2 : Int32) (r : Int32) (hf : k_X7_in τ x0 x1 x2 = some (r, τ')) : Met l yX7_in (wz yX7_in cX7_in 3 (some .boolean)) ({ frames := 0, cells := 0, slots := 0, locals := 0 } : Room) (va_Pc [.int x0, .int x1, .int x2] (MWs D cy A ad τ)) (va_Qi (fun (r' : Int32) (u : MS) => r' = r ∧ u = τ') (MWp D cy A ad) A) 0 0 A := by
  refine Met.ofW (cc := cX7_in) (maxL := 3) (ret := (some .boolean)) (by decide) rfl ?_
  intro p e s m args below meth c s₁ B hml hv
  obtain ⟨rfl, hw, hK⟩ := hv
  have hx := B.exec
  have hb := B.bytes
  have hr := B.returns
  have hts := atoms_spec (ws := (wz yX7_in cX7_in 3 (some .boolean))) B.pre
  have hown : s.vm.findClass RX7 = some m.cls := findClass_of_methodNamed B.named
  have hlocks := B.notSynchronized
  have S : CallFix p m c cX7_in 3 s ([.int x0, .int x1, .int x2] : List Value).toArray (wz yX7_in cX7_in 3 (some .boolean)) RX7 := ⟨hx, hb, hml, hown, hts⟩
  have h7 : ∀ w ∈ wsX70, w ∈ (wz yX7_in cX7_in 3 (some .boolean)) := fun w h => wz_in (inlX7 w h)
  have hS : va_S A s.heap s.heap [] := va_S.rf
  have hl := lv_entry ([.int x0, .int x1, .int x2]) (n := 3) (Nat.le_of_ble_eq_true rfl)
  rw [lg_entry_eq]
  generalize (lg_sl ([.int x0, .int x1, .int x2]) ++ List.replicate (3 - (lg_sl ([.int x0, .int x1, .int x2])).length) Slot.unset).toArray = ls at hl ⊢
  have hl : lv_has ls 3 [(0, .int x0), (1, .int x1), (2, .int x2)] := hl
  have B15 : ∀ (τ : MS) (y0 : Int32) (H : Heap) (locs : List Loc) (ls : Array Slot) (hf : k_X7_in_b15 x0 x1 x2 τ y0 = some (r, τ')) (hw : zw D A ad (mG cy ad τ) H) (hS : va_S A s.heap H locs) (hl : lv_has ls 3 [(0, .int x0), (1, .int x1), (2, .int x2)]), W p l e (headSpec (wz yX7_in cX7_in 3 (some .boolean)) ({ frames := 0, cells := 0, slots := 0, locals := 0 } : Room)).room s m ([.int x0, .int x1, .int x2] : List Value).toArray below meth c H locs 0 0 (MQ below (va_Qi (fun (r' : Int32) (u : MS) => r' = r ∧ u = τ') (MWp D cy A ad) A) ([.int x0, .int x1, .int x2] : List Value).toArray s 0 0 A) (F0 m 15 ls [.int y0]) := by
    intro τ y0 H locs ls hf hw hS hl
    rw [k_X7_in_b15] at hf
    obtain ⟨g_4, hf⟩ := zg_inv hf
    exact mw_retz S hr g_4 hf hw hS hlocks dX7_in_15
  have B14 : ∀ (τ : MS) (H : Heap) (locs : List Loc) (ls : Array Slot) (hf : k_X7_in_b14 x0 x1 x2 τ = some (r, τ')) (hw : zw D A ad (mG cy ad τ) H) (hS : va_S A s.heap H locs) (hl : lv_has ls 3 [(0, .int x0), (1, .int x1), (2, .int x2)]), W p l e (headSpec (wz yX7_in cX7_in 3 (some .boolean)) ({ frames := 0, cells := 0, slots := 0, locals := 0 } : Room)).room s m ([.int x0, .int x1, .int x2] : List Value).toArray below meth c H locs 0 0 (MQ below (va_Qi (fun (r' : Int32) (u : MS) => r' = r ∧ u = τ') (MWp D cy A ad) A) ([.int x0, .int x1, .int x2] : List Value).toArray s 0 0 A) (F0 m 14 ls []) := by
    intro τ H locs ls hf hw hS hl
    rw [k_X7_in_b14] at hf
    refine lv_iconst (v := (0 : Int32)) hx hb dX7_in_14 (by decide) ?_
    exact B15 _ _ _ _ _ hf hw hS (lv_sub hl [0, 1, 2] rfl)
  rw [k_X7_in] at hf
  refine lv_iload_n hx hb dX7_in_0 rfl (lv_at hl 0 rfl) ?_
  refine lv_iload_n hx hb dX7_in_1 rfl (lv_at hl 1 rfl) ?_
  refine lv_icmp_lt (tgt := 14) hx hb dX7_in_2 (by decide) (fun c_5 => ?_) (fun c_5 => ?_)
  · have hf := (zi_t c_5).symm.trans hf
    exact B14 _ _ _ _ hf hw hS (lv_sub hl [0, 1, 2] rfl)
  · have hf := (zi_f c_5).symm.trans hf
    refine lv_iload_n hx hb dX7_in_5 rfl (lv_at hl 0 rfl) ?_
    refine lv_iload_n hx hb dX7_in_6 rfl (lv_at hl 2 rfl) ?_
    refine lv_icmp_gt (tgt := 14) hx hb dX7_in_7 (by decide) (fun c_6 => ?_) (fun c_6 => ?_)
    · have hf := (zi_t c_6).symm.trans hf
      exact B14 _ _ _ _ hf hw hS (lv_sub hl [0, 1, 2] rfl)
    · have hf := (zi_f c_6).symm.trans hf
      refine lv_iconst (v := (1 : Int32)) hx hb dX7_in_10 (by decide) ?_
      refine lv_goto (tgt := 15) hx hb dX7_in_11 (by decide) ?_
      exact B15 _ _ _ _ _ hf hw hS (lv_sub hl [0, 1, 2] rfl)
noncomputable def k_X7_place (τ : MS) (x0 : Int32) (x1 : Int32) : Option (Int32 × MS) := some ((((9 : Int32) * (x0 - (1 : Int32))) + x1) - (1 : Int32), τ)
set_option maxHeartbeats 4000000 in
set_option maxRecDepth 100000 in
theorem kc_X7_place (l : Launch) (D : va_G) (cy : Nat → ClassId) (A : Nat → Prop) (ad : Nat → Nat) (τ τ' : MS) (x0 : Int32) (x1 : Int32) (r : Int32) (hf : k_X7_place τ x0 x1 = some (r, τ')) : Met l yX7_place (wz yX7_place cX7_place 2 (some .int)) ({ frames := 0, cells := 0, slots := 0, locals := 0 } : Room) (va_Pc [.int x0, .int x1] (MWs D cy A ad τ)) (va_Qi (fun (r' : Int32) (u : MS) => r' = r ∧ u = τ') (MWp D cy A ad) A) 0 0 A := by
  refine Met.ofW (cc := cX7_place) (maxL := 2) (ret := (some .int)) (by decide) rfl ?_
  intro p e s m args below meth c s₁ B hml hv
  obtain ⟨rfl, hw, hK⟩ := hv
  have hx := B.exec
  have hb := B.bytes
  have hr := B.returns
  have hts := atoms_spec (ws := (wz yX7_place cX7_place 2 (some .int))) B.pre
  have hown : s.vm.findClass RX7 = some m.cls := findClass_of_methodNamed B.named
  have hlocks := B.notSynchronized
  have S : CallFix p m c cX7_place 2 s ([.int x0, .int x1] : List Value).toArray (wz yX7_place cX7_place 2 (some .int)) RX7 := ⟨hx, hb, hml, hown, hts⟩
  have h7 : ∀ w ∈ wsX70, w ∈ (wz yX7_place cX7_place 2 (some .int)) := fun w h => wz_in (inlX7 w h)
  have hS : va_S A s.heap s.heap [] := va_S.rf
  have hl := lv_entry ([.int x0, .int x1]) (n := 2) (Nat.le_of_ble_eq_true rfl)
  rw [lg_entry_eq]
  generalize (lg_sl ([.int x0, .int x1]) ++ List.replicate (2 - (lg_sl ([.int x0, .int x1])).length) Slot.unset).toArray = ls at hl ⊢
  have hl : lv_has ls 2 [(0, .int x0), (1, .int x1)] := hl
  rw [k_X7_place] at hf
  refine lv_bipush (v := (9 : Int32)) hx hb dX7_place_0 (by decide) ?_
  refine lv_iload_n hx hb dX7_place_2 rfl (lv_at hl 0 rfl) ?_
  refine lv_iconst (v := (1 : Int32)) hx hb dX7_place_3 (by decide) ?_
  refine lv_isub hx hb dX7_place_4 ?_
  refine lv_imul hx hb dX7_place_5 ?_
  refine lv_iload_n hx hb dX7_place_6 rfl (lv_at hl 1 rfl) ?_
  refine lv_iadd hx hb dX7_place_7 ?_
  refine lv_iconst (v := (1 : Int32)) hx hb dX7_place_8 (by decide) ?_
  refine lv_isub hx hb dX7_place_9 ?_
  exact mw_reti S hr hf hw hS hlocks dX7_place_10
noncomputable def k_X7_at (τ : MS) (x0 : Int32) (x1 : Int32) : Option (Int32 × MS) := some ((((20 : Int32) * x0) + x1) - (1 : Int32), τ)
set_option maxHeartbeats 4000000 in
set_option maxRecDepth 100000 in
theorem kc_X7_at (l : Launch) (D : va_G) (cy : Nat → ClassId) (A : Nat → Prop) (ad : Nat → Nat) (τ τ' : MS) (x0 : Int32) (x1 : Int32) (r : Int32) (hf : k_X7_at τ x0 x1 = some (r, τ')) : Met l yX7_at (wz yX7_at cX7_at 2 (some .int)) ({ frames := 0, cells := 0, slots := 0, locals := 0 } : Room) (va_Pc [.int x0, .int x1] (MWs D cy A ad τ)) (va_Qi (fun (r' : Int32) (u : MS) => r' = r ∧ u = τ') (MWp D cy A ad) A) 0 0 A := by
  refine Met.ofW (cc := cX7_at) (maxL := 2) (ret := (some .int)) (by decide) rfl ?_
  intro p e s m args below meth c s₁ B hml hv
  obtain ⟨rfl, hw, hK⟩ := hv
  have hx := B.exec
  have hb := B.bytes
  have hr := B.returns
  have hts := atoms_spec (ws := (wz yX7_at cX7_at 2 (some .int))) B.pre
  have hown : s.vm.findClass RX7 = some m.cls := findClass_of_methodNamed B.named
  have hlocks := B.notSynchronized
  have S : CallFix p m c cX7_at 2 s ([.int x0, .int x1] : List Value).toArray (wz yX7_at cX7_at 2 (some .int)) RX7 := ⟨hx, hb, hml, hown, hts⟩
  have h7 : ∀ w ∈ wsX70, w ∈ (wz yX7_at cX7_at 2 (some .int)) := fun w h => wz_in (inlX7 w h)
  have hS : va_S A s.heap s.heap [] := va_S.rf
  have hl := lv_entry ([.int x0, .int x1]) (n := 2) (Nat.le_of_ble_eq_true rfl)
  rw [lg_entry_eq]
  generalize (lg_sl ([.int x0, .int x1]) ++ List.replicate (2 - (lg_sl ([.int x0, .int x1])).length) Slot.unset).toArray = ls at hl ⊢
  have hl : lv_has ls 2 [(0, .int x0), (1, .int x1)] := hl
  rw [k_X7_at] at hf
  refine lv_bipush (v := (20 : Int32)) hx hb dX7_at_0 (by decide) ?_
  refine lv_iload_n hx hb dX7_at_2 rfl (lv_at hl 0 rfl) ?_
  refine lv_imul hx hb dX7_at_3 ?_
  refine lv_iload_n hx hb dX7_at_4 rfl (lv_at hl 1 rfl) ?_
  refine lv_iadd hx hb dX7_at_5 ?_
  refine lv_iconst (v := (1 : Int32)) hx hb dX7_at_6 (by decide) ?_
  refine lv_isub hx hb dX7_at_7 ?_
  exact mw_reti S hr hf hw hS hlocks dX7_at_8
noncomputable def k_X7_refuse (τ : MS) (x1 : Int32) : Option (Int32 × MS) := some (x1, mI τ 2 ((mi τ 2) + (1 : Int32)))
set_option maxHeartbeats 4000000 in
set_option maxRecDepth 100000 in
theorem kc_X7_refuse (l : Launch) (D : va_G) (cy : Nat → ClassId) (A : Nat → Prop) (ad : Nat → Nat) (τ τ' : MS) (x1 : Int32) (r : Int32) (hf : k_X7_refuse τ x1 = some (r, τ')) : Met l yX7_refuse (wz yX7_refuse cX7_refuse 2 (some .int)) ({ frames := 0, cells := 0, slots := 0, locals := 0 } : Room) (va_Pc [.ref (ad 0), .int x1] (MWs D cy A ad τ)) (va_Qi (fun (r' : Int32) (u : MS) => r' = r ∧ u = τ') (MWp D cy A ad) A) 0 0 A := by
  refine Met.ofW (cc := cX7_refuse) (maxL := 2) (ret := (some .int)) (by decide) rfl ?_
  intro p e s m args below meth c s₁ B hml hv
  obtain ⟨rfl, hw, hK⟩ := hv
  have hx := B.exec
  have hb := B.bytes
  have hr := B.returns
  have hts := atoms_spec (ws := (wz yX7_refuse cX7_refuse 2 (some .int))) B.pre
  have hown : s.vm.findClass RX7 = some m.cls := findClass_of_methodNamed B.named
  have hlocks := B.notSynchronized
  have S : CallFix p m c cX7_refuse 2 s ([.ref (ad 0), .int x1] : List Value).toArray (wz yX7_refuse cX7_refuse 2 (some .int)) RX7 := ⟨hx, hb, hml, hown, hts⟩
  have h7 : ∀ w ∈ wsX70, w ∈ (wz yX7_refuse cX7_refuse 2 (some .int)) := fun w h => wz_in (inlX7 w h)
  have hS : va_S A s.heap s.heap [] := va_S.rf
  have hl := lv_entry ([.ref (ad 0), .int x1]) (n := 2) (Nat.le_of_ble_eq_true rfl)
  rw [lg_entry_eq]
  generalize (lg_sl ([.ref (ad 0), .int x1]) ++ List.replicate (2 - (lg_sl ([.ref (ad 0), .int x1])).length) Slot.unset).toArray = ls at hl ⊢
  have hl : lv_has ls 2 [(0, .ref (ad 0)), (1, .int x1)] := hl
  rw [k_X7_refuse] at hf
  refine lv_aload_n hx hb dX7_refuse_0 rfl (lv_at hl 0 rfl) ?_
  refine lv_dup hx hb dX7_refuse_1 rfl ?_
  refine mr_get S h7 hK hw 2 (by decide) (wz_in (zin5 _ (List.mem_of_getElem? (i := 17) rfl))) rfl rfl dX7_refuse_2 ?_
  refine lv_iconst (v := (1 : Int32)) hx hb dX7_refuse_5 (by decide) ?_
  refine lv_iadd hx hb dX7_refuse_6 ?_
  refine mr_put S h7 hK hw hS 2 (by decide) (wz_in (zin5 _ (List.mem_of_getElem? (i := 17) rfl))) rfl rfl rfl (mput_2 _ _ _ _) dX7_refuse_7 (fun H locs hw hS => ?_)
  refine lv_iload_n hx hb dX7_refuse_10 rfl (lv_at hl 1 rfl) ?_
  exact mw_reti S hr hf hw hS hlocks dX7_refuse_11
noncomputable def k_X7_file_s45 (x1 : Int64) (x3 : Int32) (K : MS → Int32 → Option (Int32 × MS)) (τ : MS) (x4 : Int32) : Option (Int32 × MS) := zi (x4 < 0) (some (mi τ 3, τ)) (zg (vp_in (mi τ 3) 120) (K (mI (mR τ 4 (mi τ 3).toNatClampNeg (vp_nar .byte (((x1 >>> (((8 : Int32) * x4).toInt64 &&& 63)).toInt32).toInt8.toInt32))) 3 ((mi (mR τ 4 (mi τ 3).toNatClampNeg (vp_nar .byte (((x1 >>> (((8 : Int32) * x4).toInt64 &&& 63)).toInt32).toInt8.toInt32))) 3) + (1 : Int32))) (x4 + (-1 : Int32))))
noncomputable def k_X7_file_l45 (x1 : Int64) (x3 : Int32) : Nat → MS → Int32 → Option (Int32 × MS)
  | 0 => fun _ _ => none
  | n + 1 => fun τ x4 => k_X7_file_s45 x1 x3 (k_X7_file_l45 x1 x3 n) τ x4
theorem k_X7_file_l45_s (x1 : Int64) (x3 : Int32) (n : Nat) (τ : MS) (x4 : Int32) : k_X7_file_l45 x1 x3 (n + 1) τ x4 = k_X7_file_s45 x1 x3 (k_X7_file_l45 x1 x3 n) τ x4 := rfl
theorem k_X7_file_l45_z (x1 : Int64) (x3 : Int32) (τ : MS) (x4 : Int32) : k_X7_file_l45 x1 x3 0 τ x4 = none := rfl
noncomputable def k_X7_file (τ : MS) (x1 : Int64) (x3 : Int32) : Option (Int32 × MS) := zb (k_X7_in (mI τ 0 (0 : Int32)) x3 (1 : Int32) (8 : Int32)) (fun r_16 t_17 => zi (r_16 = 0) (zb (k_X7_refuse t_17 (-2 : Int32)) (fun r_24 t_25 => some (r_24, t_25))) (zi (((mi t_17 3) + x3) ≤ (120 : Int32)) (k_X7_file_l45 x1 x3 FU t_17 (x3 - (1 : Int32))) (zb (k_X7_refuse t_17 (-4 : Int32)) (fun r_21 t_22 => some (r_21, t_22)))))
set_option maxHeartbeats 4000000 in
set_option maxRecDepth 100000 in
theorem kc_X7_file (l : Launch) (D : va_G) (cy : Nat → ClassId) (A : Nat → Prop) (ad : Nat → Nat) (τ τ' : MS) (x1 : Int64) (x3 : Int32) (r : Int32) (hf : k_X7_file τ x1 x3 = some (r, τ')) : Met l yX7_file (wz yX7_file cX7_file 5 (some .int)) ({ frames := 1, cells := 0, slots := 0, locals := 22 } : Room) (va_Pc [.ref (ad 0), .long x1, .int x3] (MWs D cy A ad τ)) (va_Qi (fun (r' : Int32) (u : MS) => r' = r ∧ u = τ') (MWp D cy A ad) A) 0 0 A := by
  refine Met.ofW (cc := cX7_file) (maxL := 5) (ret := (some .int)) (by decide) rfl ?_
  intro p e s m args below meth c s₁ B hml hv
  obtain ⟨rfl, hw, hK⟩ := hv
  have hx := B.exec
  have hb := B.bytes
  have hr := B.returns
  have hts := atoms_spec (ws := (wz yX7_file cX7_file 5 (some .int))) B.pre
  have hown : s.vm.findClass RX7 = some m.cls := findClass_of_methodNamed B.named
  have hlocks := B.notSynchronized
  have S : CallFix p m c cX7_file 5 s ([.ref (ad 0), .long x1, .int x3] : List Value).toArray (wz yX7_file cX7_file 5 (some .int)) RX7 := ⟨hx, hb, hml, hown, hts⟩
  have h7 : ∀ w ∈ wsX70, w ∈ (wz yX7_file cX7_file 5 (some .int)) := fun w h => wz_in (inlX7 w h)
  have hS : va_S A s.heap s.heap [] := va_S.rf
  have hl := lv_entry ([.ref (ad 0), .long x1, .int x3]) (n := 5) (Nat.le_of_ble_eq_true rfl)
  rw [lg_entry_eq]
  generalize (lg_sl ([.ref (ad 0), .long x1, .int x3]) ++ List.replicate (5 - (lg_sl ([.ref (ad 0), .long x1, .int x3])).length) Slot.unset).toArray = ls at hl ⊢
  have hl : lv_has ls 5 [(0, .ref (ad 0)), (1, .long x1), (3, .int x3)] := hl
  have S45 : ∀ (K : MS → Int32 → Option (Int32 × MS)) (_hKK : ∀ (τ : MS) (x4 : Int32) (H : Heap) (locs : List Loc) (ls : Array Slot) (hf : K τ x4 = some (r, τ')) (hw : zw D A ad (mG cy ad τ) H) (hS : va_S A s.heap H locs) (hl : lv_has ls 5 [(0, .ref (ad 0)), (1, .long x1), (3, .int x3), (4, .int x4)]), W p l e (headSpec (wz yX7_file cX7_file 5 (some .int)) ({ frames := 1, cells := 0, slots := 0, locals := 22 } : Room)).room s m ([.ref (ad 0), .long x1, .int x3] : List Value).toArray below meth c H locs 0 0 (MQ below (va_Qi (fun (r' : Int32) (u : MS) => r' = r ∧ u = τ') (MWp D cy A ad) A) ([.ref (ad 0), .long x1, .int x3] : List Value).toArray s 0 0 A) (F0 m 45 ls [])) (τ : MS) (x4 : Int32) (H : Heap) (locs : List Loc) (ls : Array Slot) (hf : k_X7_file_s45 x1 x3 K τ x4 = some (r, τ')) (hw : zw D A ad (mG cy ad τ) H) (hS : va_S A s.heap H locs) (hl : lv_has ls 5 [(0, .ref (ad 0)), (1, .long x1), (3, .int x3), (4, .int x4)]), W p l e (headSpec (wz yX7_file cX7_file 5 (some .int)) ({ frames := 1, cells := 0, slots := 0, locals := 22 } : Room)).room s m ([.ref (ad 0), .long x1, .int x3] : List Value).toArray below meth c H locs 0 0 (MQ below (va_Qi (fun (r' : Int32) (u : MS) => r' = r ∧ u = τ') (MWp D cy A ad) A) ([.ref (ad 0), .long x1, .int x3] : List Value).toArray s 0 0 A) (F0 m 45 ls []) := by
    intro K hKK τ x4 H locs ls hf hw hS hl
    rw [k_X7_file_s45] at hf
    refine lv_iload hx hb dX7_file_45 (lv_at hl 3 rfl) ?_
    refine lv_if_lt (tgt := 84) hx hb dX7_file_47 (by decide) (fun c_14 => ?_) (fun c_14 => ?_)
    · have hf := (zi_t c_14).symm.trans hf
      refine lv_aload_n hx hb dX7_file_84 rfl (lv_at hl 0 rfl) ?_
      refine mr_get S h7 hK hw 3 (by decide) (wz_in (zin5 _ (List.mem_of_getElem? (i := 9) rfl))) rfl rfl dX7_file_85 ?_
      exact mw_reti S hr hf hw hS hlocks dX7_file_88
    · have hf := (zi_f c_14).symm.trans hf
      refine lv_aload_n hx hb dX7_file_50 rfl (lv_at hl 0 rfl) ?_
      refine mr_get S h7 hK hw 4 (by decide) (wz_in (zin3 _ (List.mem_of_getElem? (i := 10) rfl))) rfl rfl dX7_file_51 ?_
      refine lv_aload_n hx hb dX7_file_54 rfl (lv_at hl 0 rfl) ?_
      refine mr_get S h7 hK hw 3 (by decide) (wz_in (zin5 _ (List.mem_of_getElem? (i := 9) rfl))) rfl rfl dX7_file_55 ?_
      refine lv_lload_n hx hb dX7_file_58 rfl (lv_at hl 1 rfl) ?_
      refine lv_bipush (v := (8 : Int32)) hx hb dX7_file_59 (by decide) ?_
      refine lv_iload hx hb dX7_file_61 (lv_at hl 3 rfl) ?_
      refine lv_imul hx hb dX7_file_63 ?_
      refine lv_lshr (v := x1 >>> (((8 : Int32) * x4).toInt64 &&& 63)) hx hb dX7_file_64 rfl ?_
      refine lv_l2i (v := (x1 >>> (((8 : Int32) * x4).toInt64 &&& 63)).toInt32) hx hb dX7_file_65 rfl ?_
      refine lv_i2b (v := ((x1 >>> (((8 : Int32) * x4).toInt64 &&& 63)).toInt32).toInt8.toInt32) hx hb dX7_file_66 rfl ?_
      obtain ⟨g_15, hf⟩ := zg_inv hf
      refine mr_bast S hK hw hS 4 rfl g_15 rfl dX7_file_67 (fun H locs hw hS => ?_)
      refine lv_aload_n hx hb dX7_file_68 rfl (lv_at hl 0 rfl) ?_
      refine lv_dup hx hb dX7_file_69 rfl ?_
      refine mr_get S h7 hK hw 3 (by decide) (wz_in (zin5 _ (List.mem_of_getElem? (i := 9) rfl))) rfl rfl dX7_file_70 ?_
      refine lv_iconst (v := (1 : Int32)) hx hb dX7_file_73 (by decide) ?_
      refine lv_iadd hx hb dX7_file_74 ?_
      refine mr_put S h7 hK hw hS 3 (by decide) (wz_in (zin5 _ (List.mem_of_getElem? (i := 9) rfl))) rfl rfl rfl (mput_3 _ _ _ _) dX7_file_75 (fun H locs hw hS => ?_)
      refine lv_iinc (v := x4 + (-1 : Int32)) (lv' := [(4, .int (x4 + (-1 : Int32))), (0, .ref (ad 0)), (1, .long x1), (3, .int x3)]) hx hb dX7_file_78 hl (k := 3) rfl rfl (by decide) rfl (fun ls hl => ?_)
      refine lv_goto (tgt := 45) hx hb dX7_file_81 (by decide) ?_
      exact hKK _ _ _ _ _ hf hw hS (lv_sub hl [1, 2, 3, 0] rfl)
  have L45 : ∀ (n : Nat) (τ : MS) (x4 : Int32) (H : Heap) (locs : List Loc) (ls : Array Slot) (hf : k_X7_file_l45 x1 x3 n τ x4 = some (r, τ')) (hw : zw D A ad (mG cy ad τ) H) (hS : va_S A s.heap H locs) (hl : lv_has ls 5 [(0, .ref (ad 0)), (1, .long x1), (3, .int x3), (4, .int x4)]), W p l e (headSpec (wz yX7_file cX7_file 5 (some .int)) ({ frames := 1, cells := 0, slots := 0, locals := 22 } : Room)).room s m ([.ref (ad 0), .long x1, .int x3] : List Value).toArray below meth c H locs 0 0 (MQ below (va_Qi (fun (r' : Int32) (u : MS) => r' = r ∧ u = τ') (MWp D cy A ad) A) ([.ref (ad 0), .long x1, .int x3] : List Value).toArray s 0 0 A) (F0 m 45 ls []) := by
    intro n
    induction n with
    | zero =>
      intro τ x4 H locs ls hf hw hS hl
      rw [k_X7_file_l45_z] at hf
      cases hf
    | succ n ih =>
      intro τ x4 H locs ls hf hw hS hl
      rw [k_X7_file_l45_s] at hf
      exact S45 (k_X7_file_l45 x1 x3 n) ih τ x4 H locs ls hf hw hS hl
  rw [k_X7_file] at hf
  refine lv_aload_n hx hb dX7_file_0 rfl (lv_at hl 0 rfl) ?_
  refine lv_iconst (v := (0 : Int32)) hx hb dX7_file_1 (by decide) ?_
  refine mr_put S h7 hK hw hS 0 (by decide) (wz_in (zin5 _ (List.mem_of_getElem? (i := 8) rfl))) rfl rfl rfl (mput_0 _ _ _ _) dX7_file_2 (fun H locs hw hS => ?_)
  refine lv_iload_n hx hb dX7_file_5 rfl (lv_at hl 2 rfl) ?_
  refine lv_iconst (v := (1 : Int32)) hx hb dX7_file_6 (by decide) ?_
  refine lv_bipush (v := (8 : Int32)) hx hb dX7_file_7 (by decide) ?_
  obtain ⟨r_16, t_17, e_18, hf⟩ := zb_inv hf
  refine mw_si (As := [.int x3, .int (1 : Int32), .int (8 : Int32)]) (rest := []) (n := 3) S (kc_X7_in l D cy A ad _ _ _ _ _ _ e_18) (wz_S (zin5 _ (List.mem_of_getElem? (i := 12) rfl)) (zin5 _ (List.mem_of_getElem? (i := 10) rfl)) (zin5 _ (List.mem_of_getElem? (i := 11) rfl)) (zin1 _ (List.mem_of_getElem? (i := 5) rfl))) rfl ⟨rfl, rfl⟩ (by decide +kernel) ⟨Nat.le_of_ble_eq_true rfl, Nat.le_of_ble_eq_true rfl⟩ rfl hl.1 rfl (Nat.le_of_ble_eq_true rfl) hK hw hS dX7_file_9 ⟨Nat.zero_le _, Nat.zero_le _⟩ (fun H locs hw hS => ?_)
  refine lv_if_ne (tgt := 22) hx hb dX7_file_12 (by decide) (fun c_19 => ?_) (fun c_19 => ?_)
  · have hf := (zi_f c_19).symm.trans hf
    refine lv_aload_n hx hb dX7_file_22 rfl (lv_at hl 0 rfl) ?_
    refine mr_get S h7 hK hw 3 (by decide) (wz_in (zin5 _ (List.mem_of_getElem? (i := 9) rfl))) rfl rfl dX7_file_23 ?_
    refine lv_iload_n hx hb dX7_file_26 rfl (lv_at hl 2 rfl) ?_
    refine lv_iadd hx hb dX7_file_27 ?_
    refine lv_bipush (v := (120 : Int32)) hx hb dX7_file_28 (by decide) ?_
    refine lv_icmp_le (tgt := 40) hx hb dX7_file_30 (by decide) (fun c_20 => ?_) (fun c_20 => ?_)
    · have hf := (zi_t c_20).symm.trans hf
      refine lv_iload_n hx hb dX7_file_40 rfl (lv_at hl 2 rfl) ?_
      refine lv_iconst (v := (1 : Int32)) hx hb dX7_file_41 (by decide) ?_
      refine lv_isub hx hb dX7_file_42 ?_
      refine lv_istore (lv' := [(4, .int (x3 - (1 : Int32))), (0, .ref (ad 0)), (1, .long x1), (3, .int x3)]) hx hb dX7_file_43 hl (by decide) rfl (fun ls hl => ?_)
      exact L45 FU _ _ _ _ _ hf hw hS (lv_sub hl [1, 2, 3, 0] rfl)
    · have hf := (zi_f c_20).symm.trans hf
      refine lv_aload_n hx hb dX7_file_33 rfl (lv_at hl 0 rfl) ?_
      refine lv_bipush (v := (-4 : Int32)) hx hb dX7_file_34 (by decide) ?_
      obtain ⟨r_21, t_22, e_23, hf⟩ := zb_inv hf
      refine mw_ci (As := [.int (-4 : Int32)]) (rest := []) (n := 1) S (kc_X7_refuse l D cy A ad _ _ _ _ e_23) (wz_V (zin5 _ (List.mem_of_getElem? (i := 16) rfl)) (zin5 _ (List.mem_of_getElem? (i := 13) rfl)) (zin5 _ (List.mem_of_getElem? (i := 14) rfl)) (zin5 _ (List.mem_of_getElem? (i := 15) rfl)) (zin1 _ (List.mem_of_getElem? (i := 5) rfl))) rfl ⟨rfl, rfl⟩ (by decide +kernel) ⟨Nat.le_of_ble_eq_true rfl, Nat.le_of_ble_eq_true rfl⟩ rfl hl.1 rfl (Nat.le_of_ble_eq_true rfl) hK hw hS dX7_file_36 ⟨Nat.zero_le _, Nat.zero_le _⟩ (fun H locs hw hS => ?_)
      exact mw_reti S hr hf hw hS hlocks dX7_file_39
  · have hf := (zi_t c_19).symm.trans hf
    refine lv_aload_n hx hb dX7_file_15 rfl (lv_at hl 0 rfl) ?_
    refine lv_bipush (v := (-2 : Int32)) hx hb dX7_file_16 (by decide) ?_
    obtain ⟨r_24, t_25, e_26, hf⟩ := zb_inv hf
    refine mw_ci (As := [.int (-2 : Int32)]) (rest := []) (n := 1) S (kc_X7_refuse l D cy A ad _ _ _ _ e_26) (wz_V (zin5 _ (List.mem_of_getElem? (i := 16) rfl)) (zin5 _ (List.mem_of_getElem? (i := 13) rfl)) (zin5 _ (List.mem_of_getElem? (i := 14) rfl)) (zin5 _ (List.mem_of_getElem? (i := 15) rfl)) (zin1 _ (List.mem_of_getElem? (i := 5) rfl))) rfl ⟨rfl, rfl⟩ (by decide +kernel) ⟨Nat.le_of_ble_eq_true rfl, Nat.le_of_ble_eq_true rfl⟩ rfl hl.1 rfl (Nat.le_of_ble_eq_true rfl) hK hw hS dX7_file_18 ⟨Nat.zero_le _, Nat.zero_le _⟩ (fun H locs hw hS => ?_)
    exact mw_reti S hr hf hw hS hlocks dX7_file_21
