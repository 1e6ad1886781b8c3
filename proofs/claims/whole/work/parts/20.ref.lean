noncomputable def k_X7_thrown (τ : MS) : Option (Int32 × MS) := some (mi τ 0, τ)
set_option maxHeartbeats 4000000 in
set_option maxRecDepth 100000 in
theorem kc_X7_thrown (l : Launch) (D : va_G) (cy : Nat → ClassId) (A : Nat → Prop) (ad : Nat → Nat) (τ τ' : MS) (r : Int32) (hf : k_X7_thrown τ = some (r, τ')) : Met l yX7_thrown (wz yX7_thrown cX7_thrown 1 (some .int)) ({ frames := 0, cells := 0, slots := 0, locals := 0 } : Room) (va_Pc [.ref (ad 0)] (MWs D cy A ad τ)) (va_Qi (fun (r' : Int32) (u : MS) => r' = r ∧ u = τ') (MWp D cy A ad) A) 0 0 A := by
  refine Met.ofW (cc := cX7_thrown) (maxL := 1) (ret := (some .int)) (by decide) rfl ?_
  intro p e s m args below meth c s₁ B hml hv
  obtain ⟨rfl, hw, hK⟩ := hv
  have hx := B.exec
  have hb := B.bytes
  have hr := B.returns
  have hts := atoms_spec (ws := (wz yX7_thrown cX7_thrown 1 (some .int))) B.pre
  have hown : s.vm.findClass RX7 = some m.cls := findClass_of_methodNamed B.named
  have hlocks := B.notSynchronized
  have S : CallFix p m c cX7_thrown 1 s ([.ref (ad 0)] : List Value).toArray (wz yX7_thrown cX7_thrown 1 (some .int)) RX7 := ⟨hx, hb, hml, hown, hts⟩
  have h7 : ∀ w ∈ wsX70, w ∈ (wz yX7_thrown cX7_thrown 1 (some .int)) := fun w h => wz_in (inlX7 w h)
  have hS : va_S A s.heap s.heap [] := va_S.rf
  have hl := lv_entry ([.ref (ad 0)]) (n := 1) (Nat.le_of_ble_eq_true rfl)
  rw [lg_entry_eq]
  generalize (lg_sl ([.ref (ad 0)]) ++ List.replicate (1 - (lg_sl ([.ref (ad 0)])).length) Slot.unset).toArray = ls at hl ⊢
  have hl : lv_has ls 1 [(0, .ref (ad 0))] := hl
  rw [k_X7_thrown] at hf
  refine lv_aload_n hx hb dX7_thrown_0 rfl (lv_at hl 0 rfl) ?_
  refine mr_get S h7 hK hw 0 (by decide) (wz_in (zin5 _ (List.mem_of_getElem? (i := 8) rfl))) rfl rfl dX7_thrown_1 ?_
  exact mw_reti S hr hf hw hS hlocks dX7_thrown_4
noncomputable def k_X7_in_b15 (x0 : Int32) (x1 : Int32) (x2 : Int32) (τ : MS) (y0 : Int32) : Option (Int32 × MS) := zg (narrow .boolean (.int y0) = .int y0) (some (y0, τ))
noncomputable def k_X7_in_b14 (x0 : Int32) (x1 : Int32) (x2 : Int32) (τ : MS) : Option (Int32 × MS) := k_X7_in_b15 x0 x1 x2 τ (0 : Int32)
noncomputable def k_X7_in (τ : MS) (x0 : Int32) (x1 : Int32) (x2 : Int32) : Option (Int32 × MS) := zi (x0 < x1) (k_X7_in_b14 x0 x1 x2 τ) (zi (x2 < x0) (k_X7_in_b14 x0 x1 x2 τ) (k_X7_in_b15 x0 x1 x2 τ (1 : Int32)))
set_option maxHeartbeats 4000000 in
set_option maxRecDepth 100000 in
theorem kc_X7_in (l : Launch) (D : va_G) (cy : Nat → ClassId) (A : Nat → Prop) (ad : Nat → Nat) (τ τ' : MS) (x0 : Int32) (x1 : Int32) (x2 : Int32) (r : Int32) (hf : k_X7_in τ x0 x1 x2 = some (r, τ')) : Met l yX7_in (wz yX7_in cX7_in 3 (some .boolean)) ({ frames := 0, cells := 0, slots := 0, locals := 0 } : Room) (va_Pc [.int x0, .int x1, .int x2] (MWs D cy A ad τ)) (va_Qi (fun (r' : Int32) (u : MS) => r' = r ∧ u = τ') (MWp D cy A ad) A) 0 0 A := by
  refine Met.ofW (cc := cX7_in) (maxL := 3) (ret := (some .boolean)) (by decide) rfl ?_
  intro p e s m args below meth c s₁ B hml hv
  obtain ⟨rfl, hw, hK⟩ := hv
  have hx := B.exec
  have hb := B.bytes
  have hr := B.returns
  have hts := atoms_spec (ws := (wz yX7_in cX7_in 3 (some .boolean))) B.pre
  have hown : s.vm.findClass RX7 = some m.cls := findClass_of_methodNamed B.named
  have hlocks := B.notSynchronized
  have S : CallFix p m c cX7_in 3 s ([.int x0, .int x1, .int x2] : List Value).toArray (wz yX7_in cX7_in 3 (some .boolean)) RX7 := ⟨hx, hb, hml, hown, hts⟩
  have h7 : ∀ w ∈ wsX70, w ∈ (wz yX7_in cX7_in 3 (some .boolean)) := fun w h => wz_in (inlX7 w h)
  have hS : va_S A s.heap s.heap [] := va_S.rf
  have hl := lv_entry ([.int x0, .int x1, .int x2]) (n := 3) (Nat.le_of_ble_eq_true rfl)
  rw [lg_entry_eq]
  generalize (lg_sl ([.int x0, .int x1, .int x2]) ++ List.replicate (3 - (lg_sl ([.int x0, .int x1, .int x2])).length) Slot.unset).toArray = ls at hl ⊢
  have hl : lv_has ls 3 [(0, .int x0), (1, .int x1), (2, .int x2)] := hl
  have B15 : ∀ (τ : MS) (y0 : Int32) (H : Heap) (locs : List Loc) (ls : Array Slot) (hf : k_X7_in_b15 x0 x1 x2 τ y0 = some (r, τ')) (hw : zw D A ad (mG cy ad τ) H) (hS : va_S A s.heap H locs) (hl : lv_has ls 3 [(0, .int x0), (1, .int x1), (2, .int x2)]), W p l e (headSpec (wz yX7_in cX7_in 3 (some .boolean)) ({ frames := 0, cells := 0, slots := 0, locals := 0 } : Room)).room s m ([.int x0, .int x1, .int x2] : List Value).toArray below meth c H locs 0 0 (MQ below (va_Qi (fun (r' : Int32) (u : MS) => r' = r ∧ u = τ') (MWp D cy A ad) A) ([.int x0, .int x1, .int x2] : List Value).toArray s 0 0 A) (F0 m 15 ls [.int y0]) := by
    intro τ y0 H locs ls hf hw hS hl
    rw [k_X7_in_b15] at hf
    obtain ⟨g_4, hf⟩ := zg_inv hf
    exact mw_retz S hr g_4 hf hw hS hlocks dX7_in_15
  have B14 : ∀ (τ : MS) (H : Heap) (locs : List Loc) (ls : Array Slot) (hf : k_X7_in_b14 x0 x1 x2 τ = some (r, τ')) (hw : zw D A ad (mG cy ad τ) H) (hS : va_S A s.heap H locs) (hl : lv_has ls 3 [(0, .int x0), (1, .int x1), (2, .int x2)]), W p l e (headSpec (wz yX7_in cX7_in 3 (some .boolean)) ({ frames := 0, cells := 0, slots := 0, locals := 0 } : Room)).room s m ([.int x0, .int x1, .int x2] : List Value).toArray below meth c H locs 0 0 (MQ below (va_Qi (fun (r' : Int32) (u : MS) => r' = r ∧ u = τ') (MWp D cy A ad) A) ([.int x0, .int x1, .int x2] : List Value).toArray s 0 0 A) (F0 m 14 ls []) := by
    intro τ H locs ls hf hw hS hl
    rw [k_X7_in_b14] at hf
    refine lv_iconst (v := (0 : Int32)) hx hb dX7_in_14 (by decide) ?_
    exact B15 _ _ _ _ _ hf hw hS (lv_sub hl [0, 1, 2] rfl)
  rw [k_X7_in] at hf
  refine lv_iload_n hx hb dX7_in_0 rfl (lv_at hl 0 rfl) ?_
  refine lv_iload_n hx hb dX7_in_1 rfl (lv_at hl 1 rfl) ?_
  refine lv_icmp_lt (tgt := 14) hx hb dX7_in_2 (by decide) (fun c_5 => ?_) (fun c_5 => ?_)
  · have hf := (zi_t c_5).symm.trans hf
    exact B14 _ _ _ _ hf hw hS (lv_sub hl [0, 1, 2] rfl)
  · have hf := (zi_f c_5).symm.trans hf
    refine lv_iload_n hx hb dX7_in_5 rfl (lv_at hl 0 rfl) ?_
    refine lv_iload_n hx hb dX7_in_6 rfl (lv_at hl 2 rfl) ?_
    refine lv_icmp_gt (tgt := 14) hx hb dX7_in_7 (by decide) (fun c_6 => ?_) (fun c_6 => ?_)
    · have hf := (zi_t c_6).symm.trans hf
      exact B14 _ _ _ _ hf hw hS (lv_sub hl [0, 1, 2] rfl)
    · have hf := (zi_f c_6).symm.trans hf
      refine lv_iconst (v := (1 : Int32)) hx hb dX7_in_10 (by decide) ?_
      refine lv_goto (tgt := 15) hx hb dX7_in_11 (by decide) ?_
      exact B15 _ _ _ _ _ hf hw hS (lv_sub hl [0, 1, 2] rfl)
noncomputable def k_X7_place (τ : MS) (x0 : Int32) (x1 : Int32) : Option (Int32 × MS) := some ((((9 : Int32) * (x0 - (1 : Int32))) + x1) - (1 : Int32), τ)
set_option maxHeartbeats 4000000 in
set_option maxRecDepth 100000 in
theorem kc_X7_place (l : Launch) (D : va_G) (cy : Nat → ClassId) (A : Nat → Prop) (ad : Nat → Nat) (τ τ' : MS) (x0 : Int32) (x1 : Int32) (r : Int32) (hf : k_X7_place τ x0 x1 = some (r, τ')) : Met l yX7_place (wz yX7_place cX7_place 2 (some .int)) ({ frames := 0, cells := 0, slots := 0, locals := 0 } : Room) (va_Pc [.int x0, .int x1] (MWs D cy A ad τ)) (va_Qi (fun (r' : Int32) (u : MS) => r' = r ∧ u = τ') (MWp D cy A ad) A) 0 0 A := by
  refine Met.ofW (cc := cX7_place) (maxL := 2) (ret := (some .int)) (by decide) rfl ?_
  intro p e s m args below meth c s₁ B hml hv
  obtain ⟨rfl, hw, hK⟩ := hv
  have hx := B.exec
  have hb := B.bytes
  have hr := B.returns
  have hts := atoms_spec (ws := (wz yX7_place cX7_place 2 (some .int))) B.pre
  have hown : s.vm.findClass RX7 = some m.cls := findClass_of_methodNamed B.named
  have hlocks := B.notSynchronized
  have S : CallFix p m c cX7_place 2 s ([.int x0, .int x1] : List Value).toArray (wz yX7_place cX7_place 2 (some .int)) RX7 := ⟨hx, hb, hml, hown, hts⟩
  have h7 : ∀ w ∈ wsX70, w ∈ (wz yX7_place cX7_place 2 (some .int)) := fun w h => wz_in (inlX7 w h)
  have hS : va_S A s.heap s.heap [] := va_S.rf
  have hl := lv_entry ([.int x0, .int x1]) (n := 2) (Nat.le_of_ble_eq_true rfl)
  rw [lg_entry_eq]
  generalize (lg_sl ([.int x0, .int x1]) ++ List.replicate (2 - (lg_sl ([.int x0, .int x1])).length) Slot.unset).toArray = ls at hl ⊢
  have hl : lv_has ls 2 [(0, .int x0), (1, .int x1)] := hl
  rw [k_X7_place] at hf
  refine lv_bipush (v := (9 : Int32)) hx hb dX7_place_0 (by decide) ?_
  refine lv_iload_n hx hb dX7_place_2 rfl (lv_at hl 0 rfl) ?_
  refine lv_iconst (v := (1 : Int32)) hx hb dX7_place_3 (by decide) ?_
  refine lv_isub hx hb dX7_place_4 ?_
  refine lv_imul hx hb dX7_place_5 ?_
  refine lv_iload_n hx hb dX7_place_6 rfl (lv_at hl 1 rfl) ?_
  refine lv_iadd hx hb dX7_place_7 ?_
  refine lv_iconst (v := (1 : Int32)) hx hb dX7_place_8 (by decide) ?_
  refine lv_isub hx hb dX7_place_9 ?_
  exact mw_reti S hr hf hw hS hlocks dX7_place_10
noncomputable def k_X7_at (τ : MS) (x0 : Int32) (x1 : Int32) : Option (Int32 × MS) := some ((((20 : Int32) * x0) + x1) - (1 : Int32), τ)
set_option maxHeartbeats 4000000 in
set_option maxRecDepth 100000 in
theorem kc_X7_at (l : Launch) (D : va_G) (cy : Nat → ClassId) (A : Nat → Prop) (ad : Nat → Nat) (τ τ' : MS) (x0 : Int32) (x1 : Int32) (r : Int32) (hf : k_X7_at τ x0 x1 = some (r, τ')) : Met l yX7_at (wz yX7_at cX7_at 2 (some .int)) ({ frames := 0, cells := 0, slots := 0, locals := 0 } : Room) (va_Pc [.int x0, .int x1] (MWs D cy A ad τ)) (va_Qi (fun (r' : Int32) (u : MS) => r' = r ∧ u = τ') (MWp D cy A ad) A) 0 0 A := by
  refine Met.ofW (cc := cX7_at) (maxL := 2) (ret := (some .int)) (by decide) rfl ?_
  intro p e s m args below meth c s₁ B hml hv
  obtain ⟨rfl, hw, hK⟩ := hv
  have hx := B.exec
  have hb := B.bytes
  have hr := B.returns
  have hts := atoms_spec (ws := (wz yX7_at cX7_at 2 (some .int))) B.pre
  have hown : s.vm.findClass RX7 = some m.cls := findClass_of_methodNamed B.named
  have hlocks := B.notSynchronized
  have S : CallFix p m c cX7_at 2 s ([.int x0, .int x1] : List Value).toArray (wz yX7_at cX7_at 2 (some .int)) RX7 := ⟨hx, hb, hml, hown, hts⟩
  have h7 : ∀ w ∈ wsX70, w ∈ (wz yX7_at cX7_at 2 (some .int)) := fun w h => wz_in (inlX7 w h)
  have hS : va_S A s.heap s.heap [] := va_S.rf
  have hl := lv_entry ([.int x0, .int x1]) (n := 2) (Nat.le_of_ble_eq_true rfl)
  rw [lg_entry_eq]
  generalize (lg_sl ([.int x0, .int x1]) ++ List.replicate (2 - (lg_sl ([.int x0, .int x1])).length) Slot.unset).toArray = ls at hl ⊢
  have hl : lv_has ls 2 [(0, .int x0), (1, .int x1)] := hl
  rw [k_X7_at] at hf
  refine lv_bipush (v := (20 : Int32)) hx hb dX7_at_0 (by decide) ?_
  refine lv_iload_n hx hb dX7_at_2 rfl (lv_at hl 0 rfl) ?_
  refine lv_imul hx hb dX7_at_3 ?_
  refine lv_iload_n hx hb dX7_at_4 rfl (lv_at hl 1 rfl) ?_
  refine lv_iadd hx hb dX7_at_5 ?_
  refine lv_iconst (v := (1 : Int32)) hx hb dX7_at_6 (by decide) ?_
  refine lv_isub hx hb dX7_at_7 ?_
  exact mw_reti S hr hf hw hS hlocks dX7_at_8
noncomputable def k_X7_refuse (τ : MS) (x1 : Int32) : Option (Int32 × MS) := some (x1, mI τ 2 ((mi τ 2) + (1 : Int32)))
set_option maxHeartbeats 4000000 in
set_option maxRecDepth 100000 in
theorem kc_X7_refuse (l : Launch) (D : va_G) (cy : Nat → ClassId) (A : Nat → Prop) (ad : Nat → Nat) (τ τ' : MS) (x1 : Int32) (r : Int32) (hf : k_X7_refuse τ x1 = some (r, τ')) : Met l yX7_refuse (wz yX7_refuse cX7_refuse 2 (some .int)) ({ frames := 0, cells := 0, slots := 0, locals := 0 } : Room) (va_Pc [.ref (ad 0), .int x1] (MWs D cy A ad τ)) (va_Qi (fun (r' : Int32) (u : MS) => r' = r ∧ u = τ') (MWp D cy A ad) A) 0 0 A := by
  refine Met.ofW (cc := cX7_refuse) (maxL := 2) (ret := (some .int)) (by decide) rfl ?_
  intro p e s m args below meth c s₁ B hml hv
  obtain ⟨rfl, hw, hK⟩ := hv
  have hx := B.exec
  have hb := B.bytes
  have hr := B.returns
  have hts := atoms_spec (ws := (wz yX7_refuse cX7_refuse 2 (some .int))) B.pre
  have hown : s.vm.findClass RX7 = some m.cls := findClass_of_methodNamed B.named
  have hlocks := B.notSynchronized
  have S : CallFix p m c cX7_refuse 2 s ([.ref (ad 0), .int x1] : List Value).toArray (wz yX7_refuse cX7_refuse 2 (some .int)) RX7 := ⟨hx, hb, hml, hown, hts⟩
  have h7 : ∀ w ∈ wsX70, w ∈ (wz yX7_refuse cX7_refuse 2 (some .int)) := fun w h => wz_in (inlX7 w h)
  have hS : va_S A s.heap s.heap [] := va_S.rf
  have hl := lv_entry ([.ref (ad 0), .int x1]) (n := 2) (Nat.le_of_ble_eq_true rfl)
  rw [lg_entry_eq]
  generalize (lg_sl ([.ref (ad 0), .int x1]) ++ List.replicate (2 - (lg_sl ([.ref (ad 0), .int x1])).length) Slot.unset).toArray = ls at hl ⊢
  have hl : lv_has ls 2 [(0, .ref (ad 0)), (1, .int x1)] := hl
  rw [k_X7_refuse] at hf
  refine lv_aload_n hx hb dX7_refuse_0 rfl (lv_at hl 0 rfl) ?_
  refine lv_dup hx hb dX7_refuse_1 rfl ?_
  refine mr_get S h7 hK hw 2 (by decide) (wz_in (zin5 _ (List.mem_of_getElem? (i := 17) rfl))) rfl rfl dX7_refuse_2 ?_
  refine lv_iconst (v := (1 : Int32)) hx hb dX7_refuse_5 (by decide) ?_
  refine lv_iadd hx hb dX7_refuse_6 ?_
  refine mr_put S h7 hK hw hS 2 (by decide) (wz_in (zin5 _ (List.mem_of_getElem? (i := 17) rfl))) rfl rfl rfl (mput_2 _ _ _ _) dX7_refuse_7 (fun H locs hw hS => ?_)
  refine lv_iload_n hx hb dX7_refuse_10 rfl (lv_at hl 1 rfl) ?_
  exact mw_reti S hr hf hw hS hlocks dX7_refuse_11
noncomputable def k_X7_empties (τ : MS) : Option (Int32 × MS) := zb (k_X7_refuse (mI τ 3 (0 : Int32)) (-2 : Int32)) (fun r_4 t_5 => some (r_4, t_5))
set_option maxHeartbeats 4000000 in
set_option maxRecDepth 100000 in
theorem kc_X7_empties (l : Launch) (D : va_G) (cy : Nat → ClassId) (A : Nat → Prop) (ad : Nat → Nat) (τ τ' : MS) (r : Int32) (hf : k_X7_empties τ = some (r, τ')) : Met l yX7_empties (wz yX7_empties cX7_empties 1 (some .int)) ({ frames := 1, cells := 0, slots := 0, locals := 21 } : Room) (va_Pc [.ref (ad 0)] (MWs D cy A ad τ)) (va_Qi (fun (r' : Int32) (u : MS) => r' = r ∧ u = τ') (MWp D cy A ad) A) 0 0 A := by
  refine Met.ofW (cc := cX7_empties) (maxL := 1) (ret := (some .int)) (by decide) rfl ?_
  intro p e s m args below meth c s₁ B hml hv
  obtain ⟨rfl, hw, hK⟩ := hv
  have hx := B.exec
  have hb := B.bytes
  have hr := B.returns
  have hts := atoms_spec (ws := (wz yX7_empties cX7_empties 1 (some .int))) B.pre
  have hown : s.vm.findClass RX7 = some m.cls := findClass_of_methodNamed B.named
  have hlocks := B.notSynchronized
  have S : CallFix p m c cX7_empties 1 s ([.ref (ad 0)] : List Value).toArray (wz yX7_empties cX7_empties 1 (some .int)) RX7 := ⟨hx, hb, hml, hown, hts⟩
  have h7 : ∀ w ∈ wsX70, w ∈ (wz yX7_empties cX7_empties 1 (some .int)) := fun w h => wz_in (inlX7 w h)
  have hS : va_S A s.heap s.heap [] := va_S.rf
  have hl := lv_entry ([.ref (ad 0)]) (n := 1) (Nat.le_of_ble_eq_true rfl)
  rw [lg_entry_eq]
  generalize (lg_sl ([.ref (ad 0)]) ++ List.replicate (1 - (lg_sl ([.ref (ad 0)])).length) Slot.unset).toArray = ls at hl ⊢
  have hl : lv_has ls 1 [(0, .ref (ad 0))] := hl
  rw [k_X7_empties] at hf
  refine lv_aload_n hx hb dX7_empties_0 rfl (lv_at hl 0 rfl) ?_
  refine lv_iconst (v := (0 : Int32)) hx hb dX7_empties_1 (by decide) ?_
  refine mr_put S h7 hK hw hS 3 (by decide) (wz_in (zin5 _ (List.mem_of_getElem? (i := 9) rfl))) rfl rfl rfl (mput_3 _ _ _ _) dX7_empties_2 (fun H locs hw hS => ?_)
  refine lv_aload_n hx hb dX7_empties_5 rfl (lv_at hl 0 rfl) ?_
  refine lv_bipush (v := (-2 : Int32)) hx hb dX7_empties_6 (by decide) ?_
  obtain ⟨r_4, t_5, e_6, hf⟩ := zb_inv hf
  refine mw_ci (As := [.int (-2 : Int32)]) (rest := []) (n := 1) S (kc_X7_refuse l D cy A ad _ _ _ _ e_6) (wz_V (zin5 _ (List.mem_of_getElem? (i := 16) rfl)) (zin5 _ (List.mem_of_getElem? (i := 13) rfl)) (zin5 _ (List.mem_of_getElem? (i := 14) rfl)) (zin5 _ (List.mem_of_getElem? (i := 15) rfl)) (zin1 _ (List.mem_of_getElem? (i := 5) rfl))) rfl ⟨rfl, rfl⟩ (by decide +kernel) ⟨Nat.le_of_ble_eq_true rfl, Nat.le_of_ble_eq_true rfl⟩ rfl hl.1 rfl (Nat.le_of_ble_eq_true rfl) hK hw hS dX7_empties_8 ⟨Nat.zero_le _, Nat.zero_le _⟩ (fun H locs hw hS => ?_)
  exact mw_reti S hr hf hw hS hlocks dX7_empties_11
noncomputable def k_X7_file_s45 (x1 : Int64) (x3 : Int32) (K : MS → Int32 → Option (Int32 × MS)) (τ : MS) (x4 : Int32) : Option (Int32 × MS) := zi (x4 < 0) (some (mi τ 3, τ)) (zg (vp_in (mi τ 3) 120) (K (mI (mR τ 4 (mi τ 3).toNatClampNeg (vp_nar .byte (((x1 >>> (((8 : Int32) * x4).toInt64 &&& 63)).toInt32).toInt8.toInt32))) 3 ((mi (mR τ 4 (mi τ 3).toNatClampNeg (vp_nar .byte (((x1 >>> (((8 : Int32) * x4).toInt64 &&& 63)).toInt32).toInt8.toInt32))) 3) + (1 : Int32))) (x4 + (-1 : Int32))))
noncomputable def k_X7_file_l45 (x1 : Int64) (x3 : Int32) : Nat → MS → Int32 → Option (Int32 × MS)
  | 0 => fun _ _ => none
  | n + 1 => fun τ x4 => k_X7_file_s45 x1 x3 (k_X7_file_l45 x1 x3 n) τ x4
theorem k_X7_file_l45_s (x1 : Int64) (x3 : Int32) (n : Nat) (τ : MS) (x4 : Int32) : k_X7_file_l45 x1 x3 (n + 1) τ x4 = k_X7_file_s45 x1 x3 (k_X7_file_l45 x1 x3 n) τ x4 := rfl
theorem k_X7_file_l45_z (x1 : Int64) (x3 : Int32) (τ : MS) (x4 : Int32) : k_X7_file_l45 x1 x3 0 τ x4 = none := rfl
noncomputable def k_X7_file (τ : MS) (x1 : Int64) (x3 : Int32) : Option (Int32 × MS) := zb (k_X7_in (mI τ 0 (0 : Int32)) x3 (1 : Int32) (8 : Int32)) (fun r_16 t_17 => zi (r_16 = 0) (zb (k_X7_refuse t_17 (-2 : Int32)) (fun r_24 t_25 => some (r_24, t_25))) (zi (((mi t_17 3) + x3) ≤ (120 : Int32)) (k_X7_file_l45 x1 x3 FU t_17 (x3 - (1 : Int32))) (zb (k_X7_refuse t_17 (-4 : Int32)) (fun r_21 t_22 => some (r_21, t_22)))))
set_option maxHeartbeats 4000000 in
set_option maxRecDepth 100000 in
theorem kc_X7_file (l : Launch) (D : va_G) (cy : Nat → ClassId) (A : Nat → Prop) (ad : Nat → Nat) (τ τ' : MS) (x1 : Int64) (x3 : Int32) (r : Int32) (hf : k_X7_file τ x1 x3 = some (r, τ')) : Met l yX7_file (wz yX7_file cX7_file 5 (some .int)) ({ frames := 1, cells := 0, slots := 0, locals := 22 } : Room) (va_Pc [.ref (ad 0), .long x1, .int x3] (MWs D cy A ad τ)) (va_Qi (fun (r' : Int32) (u : MS) => r' = r ∧ u = τ') (MWp D cy A ad) A) 0 0 A := by
  refine Met.ofW (cc := cX7_file) (maxL := 5) (ret := (some .int)) (by decide) rfl ?_
  intro p e s m args below meth c s₁ B hml hv
  obtain ⟨rfl, hw, hK⟩ := hv
  have hx := B.exec
  have hb := B.bytes
  have hr := B.returns
  have hts := atoms_spec (ws := (wz yX7_file cX7_file 5 (some .int))) B.pre
  have hown : s.vm.findClass RX7 = some m.cls := findClass_of_methodNamed B.named
  have hlocks := B.notSynchronized
  have S : CallFix p m c cX7_file 5 s ([.ref (ad 0), .long x1, .int x3] : List Value).toArray (wz yX7_file cX7_file 5 (some .int)) RX7 := ⟨hx, hb, hml, hown, hts⟩
  have h7 : ∀ w ∈ wsX70, w ∈ (wz yX7_file cX7_file 5 (some .int)) := fun w h => wz_in (inlX7 w h)
  have hS : va_S A s.heap s.heap [] := va_S.rf
  have hl := lv_entry ([.ref (ad 0), .long x1, .int x3]) (n := 5) (Nat.le_of_ble_eq_true rfl)
  rw [lg_entry_eq]
  generalize (lg_sl ([.ref (ad 0), .long x1, .int x3]) ++ List.replicate (5 - (lg_sl ([.ref (ad 0), .long x1, .int x3])).length) Slot.unset).toArray = ls at hl ⊢
  have hl : lv_has ls 5 [(0, .ref (ad 0)), (1, .long x1), (3, .int x3)] := hl
  have S45 : ∀ (K : MS → Int32 → Option (Int32 × MS)) (_hKK : ∀ (τ : MS) (x4 : Int32) (H : Heap) (locs : List Loc) (ls : Array Slot) (hf : K τ x4 = some (r, τ')) (hw : zw D A ad (mG cy ad τ) H) (hS : va_S A s.heap H locs) (hl : lv_has ls 5 [(0, .ref (ad 0)), (1, .long x1), (3, .int x3), (4, .int x4)]), W p l e (headSpec (wz yX7_file cX7_file 5 (some .int)) ({ frames := 1, cells := 0, slots := 0, locals := 22 } : Room)).room s m ([.ref (ad 0), .long x1, .int x3] : List Value).toArray below meth c H locs 0 0 (MQ below (va_Qi (fun (r' : Int32) (u : MS) => r' = r ∧ u = τ') (MWp D cy A ad) A) ([.ref (ad 0), .long x1, .int x3] : List Value).toArray s 0 0 A) (F0 m 45 ls [])) (τ : MS) (x4 : Int32) (H : Heap) (locs : List Loc) (ls : Array Slot) (hf : k_X7_file_s45 x1 x3 K τ x4 = some (r, τ')) (hw : zw D A ad (mG cy ad τ) H) (hS : va_S A s.heap H locs) (hl : lv_has ls 5 [(0, .ref (ad 0)), (1, .long x1), (3, .int x3), (4, .int x4)]), W p l e (headSpec (wz yX7_file cX7_file 5 (some .int)) ({ frames := 1, cells := 0, slots := 0, locals := 22 } : Room)).room s m ([.ref (ad 0), .long x1, .int x3] : List Value).toArray below meth c H locs 0 0 (MQ below (va_Qi (fun (r' : Int32) (u : MS) => r' = r ∧ u = τ') (MWp D cy A ad) A) ([.ref (ad 0), .long x1, .int x3] : List Value).toArray s 0 0 A) (F0 m 45 ls []) := by
    intro K hKK τ x4 H locs ls hf hw hS hl
    rw [k_X7_file_s45] at hf
    refine lv_iload hx hb dX7_file_45 (lv_at hl 3 rfl) ?_
    refine lv_if_lt (tgt := 84) hx hb dX7_file_47 (by decide) (fun c_14 => ?_) (fun c_14 => ?_)
    · have hf := (zi_t c_14).symm.trans hf
      refine lv_aload_n hx hb dX7_file_84 rfl (lv_at hl 0 rfl) ?_
      refine mr_get S h7 hK hw 3 (by decide) (wz_in (zin5 _ (List.mem_of_getElem? (i := 9) rfl))) rfl rfl dX7_file_85 ?_
      exact mw_reti S hr hf hw hS hlocks dX7_file_88
    · have hf := (zi_f c_14).symm.trans hf
      refine lv_aload_n hx hb dX7_file_50 rfl (lv_at hl 0 rfl) ?_
      refine mr_get S h7 hK hw 4 (by decide) (wz_in (zin3 _ (List.mem_of_getElem? (i := 10) rfl))) rfl rfl dX7_file_51 ?_
      refine lv_aload_n hx hb dX7_file_54 rfl (lv_at hl 0 rfl) ?_
      refine mr_get S h7 hK hw 3 (by decide) (wz_in (zin5 _ (List.mem_of_getElem? (i := 9) rfl))) rfl rfl dX7_file_55 ?_
      refine lv_lload_n hx hb dX7_file_58 rfl (lv_at hl 1 rfl) ?_
      refine lv_bipush (v := (8 : Int32)) hx hb dX7_file_59 (by decide) ?_
      refine lv_iload hx hb dX7_file_61 (lv_at hl 3 rfl) ?_
      refine lv_imul hx hb dX7_file_63 ?_
      refine lv_lshr (v := x1 >>> (((8 : Int32) * x4).toInt64 &&& 63)) hx hb dX7_file_64 rfl ?_
      refine lv_l2i (v := (x1 >>> (((8 : Int32) * x4).toInt64 &&& 63)).toInt32) hx hb dX7_file_65 rfl ?_
      refine lv_i2b (v := ((x1 >>> (((8 : Int32) * x4).toInt64 &&& 63)).toInt32).toInt8.toInt32) hx hb dX7_file_66 rfl ?_
      obtain ⟨g_15, hf⟩ := zg_inv hf
      refine mr_bast S hK hw hS 4 rfl g_15 rfl dX7_file_67 (fun H locs hw hS => ?_)
      refine lv_aload_n hx hb dX7_file_68 rfl (lv_at hl 0 rfl) ?_
      refine lv_dup hx hb dX7_file_69 rfl ?_
      refine mr_get S h7 hK hw 3 (by decide) (wz_in (zin5 _ (List.mem_of_getElem? (i := 9) rfl))) rfl rfl dX7_file_70 ?_
      refine lv_iconst (v := (1 : Int32)) hx hb dX7_file_73 (by decide) ?_
      refine lv_iadd hx hb dX7_file_74 ?_
      refine mr_put S h7 hK hw hS 3 (by decide) (wz_in (zin5 _ (List.mem_of_getElem? (i := 9) rfl))) rfl rfl rfl (mput_3 _ _ _ _) dX7_file_75 (fun H locs hw hS => ?_)
      refine lv_iinc (v := x4 + (-1 : Int32)) (lv' := [(4, .int (x4 + (-1 : Int32))), (0, .ref (ad 0)), (1, .long x1), (3, .int x3)]) hx hb dX7_file_78 hl (k := 3) rfl rfl (by decide) rfl (fun ls hl => ?_)
      refine lv_goto (tgt := 45) hx hb dX7_file_81 (by decide) ?_
      exact hKK _ _ _ _ _ hf hw hS (lv_sub hl [1, 2, 3, 0] rfl)
  have L45 : ∀ (n : Nat) (τ : MS) (x4 : Int32) (H : Heap) (locs : List Loc) (ls : Array Slot) (hf : k_X7_file_l45 x1 x3 n τ x4 = some (r, τ')) (hw : zw D A ad (mG cy ad τ) H) (hS : va_S A s.heap H locs) (hl : lv_has ls 5 [(0, .ref (ad 0)), (1, .long x1), (3, .int x3), (4, .int x4)]), W p l e (headSpec (wz yX7_file cX7_file 5 (some .int)) ({ frames := 1, cells := 0, slots := 0, locals := 22 } : Room)).room s m ([.ref (ad 0), .long x1, .int x3] : List Value).toArray below meth c H locs 0 0 (MQ below (va_Qi (fun (r' : Int32) (u : MS) => r' = r ∧ u = τ') (MWp D cy A ad) A) ([.ref (ad 0), .long x1, .int x3] : List Value).toArray s 0 0 A) (F0 m 45 ls []) := by
    intro n
    induction n with
    | zero =>
      intro τ x4 H locs ls hf hw hS hl
      rw [k_X7_file_l45_z] at hf
      cases hf
    | succ n ih =>
      intro τ x4 H locs ls hf hw hS hl
      rw [k_X7_file_l45_s] at hf
      exact S45 (k_X7_file_l45 x1 x3 n) ih τ x4 H locs ls hf hw hS hl
  rw [k_X7_file] at hf
  refine lv_aload_n hx hb dX7_file_0 rfl (lv_at hl 0 rfl) ?_
  refine lv_iconst (v := (0 : Int32)) hx hb dX7_file_1 (by decide) ?_
  refine mr_put S h7 hK hw hS 0 (by decide) (wz_in (zin5 _ (List.mem_of_getElem? (i := 8) rfl))) rfl rfl rfl (mput_0 _ _ _ _) dX7_file_2 (fun H locs hw hS => ?_)
  refine lv_iload_n hx hb dX7_file_5 rfl (lv_at hl 2 rfl) ?_
  refine lv_iconst (v := (1 : Int32)) hx hb dX7_file_6 (by decide) ?_
  refine lv_bipush (v := (8 : Int32)) hx hb dX7_file_7 (by decide) ?_
  obtain ⟨r_16, t_17, e_18, hf⟩ := zb_inv hf
  refine mw_si (As := [.int x3, .int (1 : Int32), .int (8 : Int32)]) (rest := []) (n := 3) S (kc_X7_in l D cy A ad _ _ _ _ _ _ e_18) (wz_S (zin5 _ (List.mem_of_getElem? (i := 12) rfl)) (zin5 _ (List.mem_of_getElem? (i := 10) rfl)) (zin5 _ (List.mem_of_getElem? (i := 11) rfl)) (zin1 _ (List.mem_of_getElem? (i := 5) rfl))) rfl ⟨rfl, rfl⟩ (by decide +kernel) ⟨Nat.le_of_ble_eq_true rfl, Nat.le_of_ble_eq_true rfl⟩ rfl hl.1 rfl (Nat.le_of_ble_eq_true rfl) hK hw hS dX7_file_9 ⟨Nat.zero_le _, Nat.zero_le _⟩ (fun H locs hw hS => ?_)
  refine lv_if_ne (tgt := 22) hx hb dX7_file_12 (by decide) (fun c_19 => ?_) (fun c_19 => ?_)
  · have hf := (zi_f c_19).symm.trans hf
    refine lv_aload_n hx hb dX7_file_22 rfl (lv_at hl 0 rfl) ?_
    refine mr_get S h7 hK hw 3 (by decide) (wz_in (zin5 _ (List.mem_of_getElem? (i := 9) rfl))) rfl rfl dX7_file_23 ?_
    refine lv_iload_n hx hb dX7_file_26 rfl (lv_at hl 2 rfl) ?_
    refine lv_iadd hx hb dX7_file_27 ?_
    refine lv_bipush (v := (120 : Int32)) hx hb dX7_file_28 (by decide) ?_
    refine lv_icmp_le (tgt := 40) hx hb dX7_file_30 (by decide) (fun c_20 => ?_) (fun c_20 => ?_)
    · have hf := (zi_t c_20).symm.trans hf
      refine lv_iload_n hx hb dX7_file_40 rfl (lv_at hl 2 rfl) ?_
      refine lv_iconst (v := (1 : Int32)) hx hb dX7_file_41 (by decide) ?_
      refine lv_isub hx hb dX7_file_42 ?_
      refine lv_istore (lv' := [(4, .int (x3 - (1 : Int32))), (0, .ref (ad 0)), (1, .long x1), (3, .int x3)]) hx hb dX7_file_43 hl (by decide) rfl (fun ls hl => ?_)
      exact L45 FU _ _ _ _ _ hf hw hS (lv_sub hl [1, 2, 3, 0] rfl)
    · have hf := (zi_f c_20).symm.trans hf
      refine lv_aload_n hx hb dX7_file_33 rfl (lv_at hl 0 rfl) ?_
      refine lv_bipush (v := (-4 : Int32)) hx hb dX7_file_34 (by decide) ?_
      obtain ⟨r_21, t_22, e_23, hf⟩ := zb_inv hf
      refine mw_ci (As := [.int (-4 : Int32)]) (rest := []) (n := 1) S (kc_X7_refuse l D cy A ad _ _ _ _ e_23) (wz_V (zin5 _ (List.mem_of_getElem? (i := 16) rfl)) (zin5 _ (List.mem_of_getElem? (i := 13) rfl)) (zin5 _ (List.mem_of_getElem? (i := 14) rfl)) (zin5 _ (List.mem_of_getElem? (i := 15) rfl)) (zin1 _ (List.mem_of_getElem? (i := 5) rfl))) rfl ⟨rfl, rfl⟩ (by decide +kernel) ⟨Nat.le_of_ble_eq_true rfl, Nat.le_of_ble_eq_true rfl⟩ rfl hl.1 rfl (Nat.le_of_ble_eq_true rfl) hK hw hS dX7_file_36 ⟨Nat.zero_le _, Nat.zero_le _⟩ (fun H locs hw hS => ?_)
      exact mw_reti S hr hf hw hS hlocks dX7_file_39
  · have hf := (zi_t c_19).symm.trans hf
    refine lv_aload_n hx hb dX7_file_15 rfl (lv_at hl 0 rfl) ?_
    refine lv_bipush (v := (-2 : Int32)) hx hb dX7_file_16 (by decide) ?_
    obtain ⟨r_24, t_25, e_26, hf⟩ := zb_inv hf
    refine mw_ci (As := [.int (-2 : Int32)]) (rest := []) (n := 1) S (kc_X7_refuse l D cy A ad _ _ _ _ e_26) (wz_V (zin5 _ (List.mem_of_getElem? (i := 16) rfl)) (zin5 _ (List.mem_of_getElem? (i := 13) rfl)) (zin5 _ (List.mem_of_getElem? (i := 14) rfl)) (zin5 _ (List.mem_of_getElem? (i := 15) rfl)) (zin1 _ (List.mem_of_getElem? (i := 5) rfl))) rfl ⟨rfl, rfl⟩ (by decide +kernel) ⟨Nat.le_of_ble_eq_true rfl, Nat.le_of_ble_eq_true rfl⟩ rfl hl.1 rfl (Nat.le_of_ble_eq_true rfl) hK hw hS dX7_file_18 ⟨Nat.zero_le _, Nat.zero_le _⟩ (fun H locs hw hS => ?_)
    exact mw_reti S hr hf hw hS hlocks dX7_file_21
noncomputable def k_X7_cutUp_b166 (x1 : Int32) (τ : MS) (y0 : Int32) (x2 : Int32) (x3 : Int32) (x4 : Int32) : Option (Int32 × MS) := zg (narrow .boolean (.int y0) = .int y0) (some (y0, τ))
noncomputable def k_X7_cutUp_b165 (x1 : Int32) (τ : MS) (x2 : Int32) (x3 : Int32) (x4 : Int32) : Option (Int32 × MS) := k_X7_cutUp_b166 x1 τ (0 : Int32) x2 x3 x4
noncomputable def k_X7_cutUp_b150 (x1 : Int32) (τ : MS) (x2 : Int32) (x3 : Int32) (x4 : Int32) : Option (Int32 × MS) := zi (x4 = (1 : Int32)) (zi ((2 : Int32) ≤ x3) (k_X7_cutUp_b165 x1 τ x2 x3 x4) (k_X7_cutUp_b166 x1 τ (1 : Int32) x2 x3 x4)) (k_X7_cutUp_b165 x1 τ x2 x3 x4)
noncomputable def k_X7_cutUp_b129 (x1 : Int32) (K : MS → Int32 → Int32 → Int32 → Option (Int32 × MS)) (τ : MS) (x2 : Int32) (x3 : Int32) (x4 : Int32) (x5 : Int32) (x6 : Int32) : Option (Int32 × MS) := K τ (x2 + ((2 : Int32) + x6)) x3 x4
noncomputable def k_X7_cutUp_b72 (x1 : Int32) (τ : MS) (x2 : Int32) (x3 : Int32) (x4 : Int32) (x5 : Int32) (x6 : Int32) : Option (Int32 × MS) := zg (narrow .boolean (.int (0 : Int32)) = .int (0 : Int32)) (some ((0 : Int32), τ))
noncomputable def k_X7_cutUp_s7 (x1 : Int32) (K : MS → Int32 → Int32 → Int32 → Option (Int32 × MS)) (τ : MS) (x2 : Int32) (x3 : Int32) (x4 : Int32) : Option (Int32 × MS) := zi ((mi τ 3) ≤ x2) (zi (x3 = 0) (zg (vp_in x1 180) (k_X7_cutUp_b150 x1 (mR τ 9 x1.toNatClampNeg (-1 : Int32)) x2 x3 x4)) (k_X7_cutUp_b150 x1 τ x2 x3 x4)) (zi ((x2 + (1 : Int32)) < (mi τ 3)) (zg (vp_in x2 120) (zg (vp_in (x2 + (1 : Int32)) 120) (zb (k_X7_in τ (mr τ 4 x2.toNatClampNeg) (0 : Int32) (2 : Int32)) (fun r_33 t_34 => zi (r_33 = 0) (k_X7_cutUp_b72 x1 t_34 x2 x3 x4 (mr τ 4 x2.toNatClampNeg) ((mr τ 4 (x2 + (1 : Int32)).toNatClampNeg) &&& (255 : Int32))) (zi (((x2 + (2 : Int32)) + ((mr τ 4 (x2 + (1 : Int32)).toNatClampNeg) &&& (255 : Int32))) ≤ (mi t_34 3)) (zi ((mr τ 4 x2.toNatClampNeg) = (1 : Int32)) (zg (vp_in x1 180) (zg (vp_in x1 180) (k_X7_cutUp_b129 x1 K (mR (mR t_34 9 x1.toNatClampNeg (x2 + (2 : Int32))) 10 x1.toNatClampNeg ((mr τ 4 (x2 + (1 : Int32)).toNatClampNeg) &&& (255 : Int32))) x2 (x3 + (1 : Int32)) x4 (mr τ 4 x2.toNatClampNeg) ((mr τ 4 (x2 + (1 : Int32)).toNatClampNeg) &&& (255 : Int32))))) (zi ((mr τ 4 x2.toNatClampNeg) = (2 : Int32)) (zg (vp_in x1 180) (zg (vp_in x1 180) (k_X7_cutUp_b129 x1 K (mR (mR t_34 11 x1.toNatClampNeg (x2 + (2 : Int32))) 12 x1.toNatClampNeg ((mr τ 4 (x2 + (1 : Int32)).toNatClampNeg) &&& (255 : Int32))) x2 x3 (x4 + (1 : Int32)) (mr τ 4 x2.toNatClampNeg) ((mr τ 4 (x2 + (1 : Int32)).toNatClampNeg) &&& (255 : Int32))))) (k_X7_cutUp_b129 x1 K t_34 x2 x3 x4 (mr τ 4 x2.toNatClampNeg) ((mr τ 4 (x2 + (1 : Int32)).toNatClampNeg) &&& (255 : Int32))))) (k_X7_cutUp_b72 x1 t_34 x2 x3 x4 (mr τ 4 x2.toNatClampNeg) ((mr τ 4 (x2 + (1 : Int32)).toNatClampNeg) &&& (255 : Int32)))))))) (zg (narrow .boolean (.int (0 : Int32)) = .int (0 : Int32)) (some ((0 : Int32), τ))))
noncomputable def k_X7_cutUp_l7 (x1 : Int32) : Nat → MS → Int32 → Int32 → Int32 → Option (Int32 × MS)
  | 0 => fun _ _ _ _ => none
  | n + 1 => fun τ x2 x3 x4 => k_X7_cutUp_s7 x1 (k_X7_cutUp_l7 x1 n) τ x2 x3 x4
theorem k_X7_cutUp_l7_s (x1 : Int32) (n : Nat) (τ : MS) (x2 : Int32) (x3 : Int32) (x4 : Int32) : k_X7_cutUp_l7 x1 (n + 1) τ x2 x3 x4 = k_X7_cutUp_s7 x1 (k_X7_cutUp_l7 x1 n) τ x2 x3 x4 := rfl
theorem k_X7_cutUp_l7_z (x1 : Int32) (τ : MS) (x2 : Int32) (x3 : Int32) (x4 : Int32) : k_X7_cutUp_l7 x1 0 τ x2 x3 x4 = none := rfl
noncomputable def k_X7_cutUp (τ : MS) (x1 : Int32) : Option (Int32 × MS) := k_X7_cutUp_l7 x1 FU τ (0 : Int32) (0 : Int32) (0 : Int32)
set_option maxHeartbeats 4000000 in
set_option maxRecDepth 100000 in
theorem kc_X7_cutUp (l : Launch) (D : va_G) (cy : Nat → ClassId) (A : Nat → Prop) (ad : Nat → Nat) (τ τ' : MS) (x1 : Int32) (r : Int32) (hf : k_X7_cutUp τ x1 = some (r, τ')) : Met l yX7_cutUp (wz yX7_cutUp cX7_cutUp 7 (some .boolean)) ({ frames := 1, cells := 0, slots := 0, locals := 22 } : Room) (va_Pc [.ref (ad 0), .int x1] (MWs D cy A ad τ)) (va_Qi (fun (r' : Int32) (u : MS) => r' = r ∧ u = τ') (MWp D cy A ad) A) 0 0 A := by
  refine Met.ofW (cc := cX7_cutUp) (maxL := 7) (ret := (some .boolean)) (by decide) rfl ?_
  intro p e s m args below meth c s₁ B hml hv
  obtain ⟨rfl, hw, hK⟩ := hv
  have hx := B.exec
  have hb := B.bytes
  have hr := B.returns
  have hts := atoms_spec (ws := (wz yX7_cutUp cX7_cutUp 7 (some .boolean))) B.pre
  have hown : s.vm.findClass RX7 = some m.cls := findClass_of_methodNamed B.named
  have hlocks := B.notSynchronized
  have S : CallFix p m c cX7_cutUp 7 s ([.ref (ad 0), .int x1] : List Value).toArray (wz yX7_cutUp cX7_cutUp 7 (some .boolean)) RX7 := ⟨hx, hb, hml, hown, hts⟩
  have h7 : ∀ w ∈ wsX70, w ∈ (wz yX7_cutUp cX7_cutUp 7 (some .boolean)) := fun w h => wz_in (inlX7 w h)
  have hS : va_S A s.heap s.heap [] := va_S.rf
  have hl := lv_entry ([.ref (ad 0), .int x1]) (n := 7) (Nat.le_of_ble_eq_true rfl)
  rw [lg_entry_eq]
  generalize (lg_sl ([.ref (ad 0), .int x1]) ++ List.replicate (7 - (lg_sl ([.ref (ad 0), .int x1])).length) Slot.unset).toArray = ls at hl ⊢
  have hl : lv_has ls 7 [(0, .ref (ad 0)), (1, .int x1)] := hl
  have B166 : ∀ (τ : MS) (y0 : Int32) (x2 : Int32) (x3 : Int32) (x4 : Int32) (H : Heap) (locs : List Loc) (ls : Array Slot) (hf : k_X7_cutUp_b166 x1 τ y0 x2 x3 x4 = some (r, τ')) (hw : zw D A ad (mG cy ad τ) H) (hS : va_S A s.heap H locs) (hl : lv_has ls 7 [(0, .ref (ad 0)), (1, .int x1), (2, .int x2), (3, .int x3), (4, .int x4)]), W p l e (headSpec (wz yX7_cutUp cX7_cutUp 7 (some .boolean)) ({ frames := 1, cells := 0, slots := 0, locals := 22 } : Room)).room s m ([.ref (ad 0), .int x1] : List Value).toArray below meth c H locs 0 0 (MQ below (va_Qi (fun (r' : Int32) (u : MS) => r' = r ∧ u = τ') (MWp D cy A ad) A) ([.ref (ad 0), .int x1] : List Value).toArray s 0 0 A) (F0 m 166 ls [.int y0]) := by
    intro τ y0 x2 x3 x4 H locs ls hf hw hS hl
    rw [k_X7_cutUp_b166] at hf
    obtain ⟨g_23, hf⟩ := zg_inv hf
    exact mw_retz S hr g_23 hf hw hS hlocks dX7_cutUp_166
  have B165 : ∀ (τ : MS) (x2 : Int32) (x3 : Int32) (x4 : Int32) (H : Heap) (locs : List Loc) (ls : Array Slot) (hf : k_X7_cutUp_b165 x1 τ x2 x3 x4 = some (r, τ')) (hw : zw D A ad (mG cy ad τ) H) (hS : va_S A s.heap H locs) (hl : lv_has ls 7 [(0, .ref (ad 0)), (1, .int x1), (2, .int x2), (3, .int x3), (4, .int x4)]), W p l e (headSpec (wz yX7_cutUp cX7_cutUp 7 (some .boolean)) ({ frames := 1, cells := 0, slots := 0, locals := 22 } : Room)).room s m ([.ref (ad 0), .int x1] : List Value).toArray below meth c H locs 0 0 (MQ below (va_Qi (fun (r' : Int32) (u : MS) => r' = r ∧ u = τ') (MWp D cy A ad) A) ([.ref (ad 0), .int x1] : List Value).toArray s 0 0 A) (F0 m 165 ls []) := by
    intro τ x2 x3 x4 H locs ls hf hw hS hl
    rw [k_X7_cutUp_b165] at hf
    refine lv_iconst (v := (0 : Int32)) hx hb dX7_cutUp_165 (by decide) ?_
    exact B166 _ _ _ _ _ _ _ _ hf hw hS (lv_sub hl [0, 1, 2, 3, 4] rfl)
  have B150 : ∀ (τ : MS) (x2 : Int32) (x3 : Int32) (x4 : Int32) (H : Heap) (locs : List Loc) (ls : Array Slot) (hf : k_X7_cutUp_b150 x1 τ x2 x3 x4 = some (r, τ')) (hw : zw D A ad (mG cy ad τ) H) (hS : va_S A s.heap H locs) (hl : lv_has ls 7 [(0, .ref (ad 0)), (1, .int x1), (2, .int x2), (3, .int x3), (4, .int x4)]), W p l e (headSpec (wz yX7_cutUp cX7_cutUp 7 (some .boolean)) ({ frames := 1, cells := 0, slots := 0, locals := 22 } : Room)).room s m ([.ref (ad 0), .int x1] : List Value).toArray below meth c H locs 0 0 (MQ below (va_Qi (fun (r' : Int32) (u : MS) => r' = r ∧ u = τ') (MWp D cy A ad) A) ([.ref (ad 0), .int x1] : List Value).toArray s 0 0 A) (F0 m 150 ls []) := by
    intro τ x2 x3 x4 H locs ls hf hw hS hl
    rw [k_X7_cutUp_b150] at hf
    refine lv_iload hx hb dX7_cutUp_150 (lv_at hl 4 rfl) ?_
    refine lv_iconst (v := (1 : Int32)) hx hb dX7_cutUp_152 (by decide) ?_
    refine lv_icmp_ne (tgt := 165) hx hb dX7_cutUp_153 (by decide) (fun c_24 => ?_) (fun c_24 => ?_)
    · have hf := (zi_f c_24).symm.trans hf
      exact B165 _ _ _ _ _ _ _ hf hw hS (lv_sub hl [0, 1, 2, 3, 4] rfl)
    · have hf := (zi_t c_24).symm.trans hf
      refine lv_iload_n hx hb dX7_cutUp_156 rfl (lv_at hl 3 rfl) ?_
      refine lv_iconst (v := (2 : Int32)) hx hb dX7_cutUp_157 (by decide) ?_
      refine lv_icmp_ge (tgt := 165) hx hb dX7_cutUp_158 (by decide) (fun c_25 => ?_) (fun c_25 => ?_)
      · have hf := (zi_t c_25).symm.trans hf
        exact B165 _ _ _ _ _ _ _ hf hw hS (lv_sub hl [0, 1, 2, 3, 4] rfl)
      · have hf := (zi_f c_25).symm.trans hf
        refine lv_iconst (v := (1 : Int32)) hx hb dX7_cutUp_161 (by decide) ?_
        refine lv_goto (tgt := 166) hx hb dX7_cutUp_162 (by decide) ?_
        exact B166 _ _ _ _ _ _ _ _ hf hw hS (lv_sub hl [0, 1, 2, 3, 4] rfl)
  have B129 : ∀ (K : MS → Int32 → Int32 → Int32 → Option (Int32 × MS)) (_hKK : ∀ (τ : MS) (x2 : Int32) (x3 : Int32) (x4 : Int32) (H : Heap) (locs : List Loc) (ls : Array Slot) (hf : K τ x2 x3 x4 = some (r, τ')) (hw : zw D A ad (mG cy ad τ) H) (hS : va_S A s.heap H locs) (hl : lv_has ls 7 [(0, .ref (ad 0)), (1, .int x1), (2, .int x2), (3, .int x3), (4, .int x4)]), W p l e (headSpec (wz yX7_cutUp cX7_cutUp 7 (some .boolean)) ({ frames := 1, cells := 0, slots := 0, locals := 22 } : Room)).room s m ([.ref (ad 0), .int x1] : List Value).toArray below meth c H locs 0 0 (MQ below (va_Qi (fun (r' : Int32) (u : MS) => r' = r ∧ u = τ') (MWp D cy A ad) A) ([.ref (ad 0), .int x1] : List Value).toArray s 0 0 A) (F0 m 7 ls [])) (τ : MS) (x2 : Int32) (x3 : Int32) (x4 : Int32) (x5 : Int32) (x6 : Int32) (H : Heap) (locs : List Loc) (ls : Array Slot) (hf : k_X7_cutUp_b129 x1 K τ x2 x3 x4 x5 x6 = some (r, τ')) (hw : zw D A ad (mG cy ad τ) H) (hS : va_S A s.heap H locs) (hl : lv_has ls 7 [(0, .ref (ad 0)), (1, .int x1), (2, .int x2), (3, .int x3), (4, .int x4), (5, .int x5), (6, .int x6)]), W p l e (headSpec (wz yX7_cutUp cX7_cutUp 7 (some .boolean)) ({ frames := 1, cells := 0, slots := 0, locals := 22 } : Room)).room s m ([.ref (ad 0), .int x1] : List Value).toArray below meth c H locs 0 0 (MQ below (va_Qi (fun (r' : Int32) (u : MS) => r' = r ∧ u = τ') (MWp D cy A ad) A) ([.ref (ad 0), .int x1] : List Value).toArray s 0 0 A) (F0 m 129 ls []) := by
    intro K hKK τ x2 x3 x4 x5 x6 H locs ls hf hw hS hl
    rw [k_X7_cutUp_b129] at hf
    refine lv_iload_n hx hb dX7_cutUp_129 rfl (lv_at hl 2 rfl) ?_
    refine lv_iconst (v := (2 : Int32)) hx hb dX7_cutUp_130 (by decide) ?_
    refine lv_iload hx hb dX7_cutUp_131 (lv_at hl 6 rfl) ?_
    refine lv_iadd hx hb dX7_cutUp_133 ?_
    refine lv_iadd hx hb dX7_cutUp_134 ?_
    refine lv_istore_n (lv' := [(2, .int (x2 + ((2 : Int32) + x6))), (0, .ref (ad 0)), (1, .int x1), (3, .int x3), (4, .int x4), (5, .int x5), (6, .int x6)]) hx hb dX7_cutUp_135 rfl hl (by decide) rfl (fun ls hl => ?_)
    refine lv_goto (tgt := 7) hx hb dX7_cutUp_136 (by decide) ?_
    exact hKK _ _ _ _ _ _ _ hf hw hS (lv_sub hl [1, 2, 0, 3, 4] rfl)
  have B72 : ∀ (τ : MS) (x2 : Int32) (x3 : Int32) (x4 : Int32) (x5 : Int32) (x6 : Int32) (H : Heap) (locs : List Loc) (ls : Array Slot) (hf : k_X7_cutUp_b72 x1 τ x2 x3 x4 x5 x6 = some (r, τ')) (hw : zw D A ad (mG cy ad τ) H) (hS : va_S A s.heap H locs) (hl : lv_has ls 7 [(0, .ref (ad 0)), (1, .int x1), (2, .int x2), (3, .int x3), (4, .int x4), (5, .int x5), (6, .int x6)]), W p l e (headSpec (wz yX7_cutUp cX7_cutUp 7 (some .boolean)) ({ frames := 1, cells := 0, slots := 0, locals := 22 } : Room)).room s m ([.ref (ad 0), .int x1] : List Value).toArray below meth c H locs 0 0 (MQ below (va_Qi (fun (r' : Int32) (u : MS) => r' = r ∧ u = τ') (MWp D cy A ad) A) ([.ref (ad 0), .int x1] : List Value).toArray s 0 0 A) (F0 m 72 ls []) := by
    intro τ x2 x3 x4 x5 x6 H locs ls hf hw hS hl
    rw [k_X7_cutUp_b72] at hf
    refine lv_iconst (v := (0 : Int32)) hx hb dX7_cutUp_72 (by decide) ?_
    obtain ⟨g_26, hf⟩ := zg_inv hf
    exact mw_retz S hr g_26 hf hw hS hlocks dX7_cutUp_73
  have S7 : ∀ (K : MS → Int32 → Int32 → Int32 → Option (Int32 × MS)) (_hKK : ∀ (τ : MS) (x2 : Int32) (x3 : Int32) (x4 : Int32) (H : Heap) (locs : List Loc) (ls : Array Slot) (hf : K τ x2 x3 x4 = some (r, τ')) (hw : zw D A ad (mG cy ad τ) H) (hS : va_S A s.heap H locs) (hl : lv_has ls 7 [(0, .ref (ad 0)), (1, .int x1), (2, .int x2), (3, .int x3), (4, .int x4)]), W p l e (headSpec (wz yX7_cutUp cX7_cutUp 7 (some .boolean)) ({ frames := 1, cells := 0, slots := 0, locals := 22 } : Room)).room s m ([.ref (ad 0), .int x1] : List Value).toArray below meth c H locs 0 0 (MQ below (va_Qi (fun (r' : Int32) (u : MS) => r' = r ∧ u = τ') (MWp D cy A ad) A) ([.ref (ad 0), .int x1] : List Value).toArray s 0 0 A) (F0 m 7 ls [])) (τ : MS) (x2 : Int32) (x3 : Int32) (x4 : Int32) (H : Heap) (locs : List Loc) (ls : Array Slot) (hf : k_X7_cutUp_s7 x1 K τ x2 x3 x4 = some (r, τ')) (hw : zw D A ad (mG cy ad τ) H) (hS : va_S A s.heap H locs) (hl : lv_has ls 7 [(0, .ref (ad 0)), (1, .int x1), (2, .int x2), (3, .int x3), (4, .int x4)]), W p l e (headSpec (wz yX7_cutUp cX7_cutUp 7 (some .boolean)) ({ frames := 1, cells := 0, slots := 0, locals := 22 } : Room)).room s m ([.ref (ad 0), .int x1] : List Value).toArray below meth c H locs 0 0 (MQ below (va_Qi (fun (r' : Int32) (u : MS) => r' = r ∧ u = τ') (MWp D cy A ad) A) ([.ref (ad 0), .int x1] : List Value).toArray s 0 0 A) (F0 m 7 ls []) := by
    intro K hKK τ x2 x3 x4 H locs ls hf hw hS hl
    rw [k_X7_cutUp_s7] at hf
    refine lv_iload_n hx hb dX7_cutUp_7 rfl (lv_at hl 2 rfl) ?_
    refine lv_aload_n hx hb dX7_cutUp_8 rfl (lv_at hl 0 rfl) ?_
    refine mr_get S h7 hK hw 3 (by decide) (wz_in (zin5 _ (List.mem_of_getElem? (i := 9) rfl))) rfl rfl dX7_cutUp_9 ?_
    refine lv_icmp_ge (tgt := 139) hx hb dX7_cutUp_12 (by decide) (fun c_27 => ?_) (fun c_27 => ?_)
    · have hf := (zi_t c_27).symm.trans hf
      refine lv_iload_n hx hb dX7_cutUp_139 rfl (lv_at hl 3 rfl) ?_
      refine lv_if_ne (tgt := 150) hx hb dX7_cutUp_140 (by decide) (fun c_28 => ?_) (fun c_28 => ?_)
      · have hf := (zi_f c_28).symm.trans hf
        exact B150 _ _ _ _ _ _ _ hf hw hS (lv_sub hl [0, 1, 2, 3, 4] rfl)
      · have hf := (zi_t c_28).symm.trans hf
        refine lv_aload_n hx hb dX7_cutUp_143 rfl (lv_at hl 0 rfl) ?_
        refine mr_get S h7 hK hw 9 (by decide) (wz_in (zin3 _ (List.mem_of_getElem? (i := 15) rfl))) rfl rfl dX7_cutUp_144 ?_
        refine lv_iload_n hx hb dX7_cutUp_147 rfl (lv_at hl 1 rfl) ?_
        refine lv_iconst (v := (-1 : Int32)) hx hb dX7_cutUp_148 (by decide) ?_
        obtain ⟨g_29, hf⟩ := zg_inv hf
        refine mr_iast S hK hw hS 9 rfl g_29 rfl dX7_cutUp_149 (fun H locs hw hS => ?_)
        exact B150 _ _ _ _ _ _ _ hf hw hS (lv_sub hl [0, 1, 2, 3, 4] rfl)
    · have hf := (zi_f c_27).symm.trans hf
      refine lv_iload_n hx hb dX7_cutUp_15 rfl (lv_at hl 2 rfl) ?_
      refine lv_iconst (v := (1 : Int32)) hx hb dX7_cutUp_16 (by decide) ?_
      refine lv_iadd hx hb dX7_cutUp_17 ?_
      refine lv_aload_n hx hb dX7_cutUp_18 rfl (lv_at hl 0 rfl) ?_
      refine mr_get S h7 hK hw 3 (by decide) (wz_in (zin5 _ (List.mem_of_getElem? (i := 9) rfl))) rfl rfl dX7_cutUp_19 ?_
      refine lv_icmp_lt (tgt := 27) hx hb dX7_cutUp_22 (by decide) (fun c_30 => ?_) (fun c_30 => ?_)
      · have hf := (zi_t c_30).symm.trans hf
        refine lv_aload_n hx hb dX7_cutUp_27 rfl (lv_at hl 0 rfl) ?_
        refine mr_get S h7 hK hw 4 (by decide) (wz_in (zin3 _ (List.mem_of_getElem? (i := 10) rfl))) rfl rfl dX7_cutUp_28 ?_
        refine lv_iload_n hx hb dX7_cutUp_31 rfl (lv_at hl 2 rfl) ?_
        obtain ⟨g_31, hf⟩ := zg_inv hf
        refine mr_bald S hK hw 4 rfl g_31 dX7_cutUp_32 ?_
        refine lv_istore (lv' := [(5, .int (mr τ 4 x2.toNatClampNeg)), (0, .ref (ad 0)), (1, .int x1), (2, .int x2), (3, .int x3), (4, .int x4)]) hx hb dX7_cutUp_33 hl (by decide) rfl (fun ls hl => ?_)
        refine lv_aload_n hx hb dX7_cutUp_35 rfl (lv_at hl 1 rfl) ?_
        refine mr_get S h7 hK hw 4 (by decide) (wz_in (zin3 _ (List.mem_of_getElem? (i := 10) rfl))) rfl rfl dX7_cutUp_36 ?_
        refine lv_iload_n hx hb dX7_cutUp_39 rfl (lv_at hl 3 rfl) ?_
        refine lv_iconst (v := (1 : Int32)) hx hb dX7_cutUp_40 (by decide) ?_
        refine lv_iadd hx hb dX7_cutUp_41 ?_
        obtain ⟨g_32, hf⟩ := zg_inv hf
        refine mr_bald S hK hw 4 rfl g_32 dX7_cutUp_42 ?_
        refine lv_sipush (v := (255 : Int32)) hx hb dX7_cutUp_43 (by decide) ?_
        refine lv_iand hx hb dX7_cutUp_46 ?_
        refine lv_istore (lv' := [(6, .int ((mr τ 4 (x2 + (1 : Int32)).toNatClampNeg) &&& (255 : Int32))), (5, .int (mr τ 4 x2.toNatClampNeg)), (0, .ref (ad 0)), (1, .int x1), (2, .int x2), (3, .int x3), (4, .int x4)]) hx hb dX7_cutUp_47 hl (by decide) rfl (fun ls hl => ?_)
        refine lv_iload hx hb dX7_cutUp_49 (lv_at hl 1 rfl) ?_
        refine lv_iconst (v := (0 : Int32)) hx hb dX7_cutUp_51 (by decide) ?_
        refine lv_iconst (v := (2 : Int32)) hx hb dX7_cutUp_52 (by decide) ?_
        obtain ⟨r_33, t_34, e_35, hf⟩ := zb_inv hf
        refine mw_si (As := [.int (mr τ 4 x2.toNatClampNeg), .int (0 : Int32), .int (2 : Int32)]) (rest := []) (n := 3) S (kc_X7_in l D cy A ad _ _ _ _ _ _ e_35) (wz_S (zin5 _ (List.mem_of_getElem? (i := 12) rfl)) (zin5 _ (List.mem_of_getElem? (i := 10) rfl)) (zin5 _ (List.mem_of_getElem? (i := 11) rfl)) (zin1 _ (List.mem_of_getElem? (i := 5) rfl))) rfl ⟨rfl, rfl⟩ (by decide +kernel) ⟨Nat.le_of_ble_eq_true rfl, Nat.le_of_ble_eq_true rfl⟩ rfl hl.1 rfl (Nat.le_of_ble_eq_true rfl) hK hw hS dX7_cutUp_53 ⟨Nat.zero_le _, Nat.zero_le _⟩ (fun H locs hw hS => ?_)
        refine lv_if_eq (tgt := 72) hx hb dX7_cutUp_56 (by decide) (fun c_36 => ?_) (fun c_36 => ?_)
        · have hf := (zi_t c_36).symm.trans hf
          exact B72 _ _ _ _ _ _ _ _ _ hf hw hS (lv_sub hl [2, 3, 4, 5, 6, 1, 0] rfl)
        · have hf := (zi_f c_36).symm.trans hf
          refine lv_iload_n hx hb dX7_cutUp_59 rfl (lv_at hl 4 rfl) ?_
          refine lv_iconst (v := (2 : Int32)) hx hb dX7_cutUp_60 (by decide) ?_
          refine lv_iadd hx hb dX7_cutUp_61 ?_
          refine lv_iload hx hb dX7_cutUp_62 (lv_at hl 0 rfl) ?_
          refine lv_iadd hx hb dX7_cutUp_64 ?_
          refine lv_aload_n hx hb dX7_cutUp_65 rfl (lv_at hl 2 rfl) ?_
          refine mr_get S h7 hK hw 3 (by decide) (wz_in (zin5 _ (List.mem_of_getElem? (i := 9) rfl))) rfl rfl dX7_cutUp_66 ?_
          refine lv_icmp_le (tgt := 74) hx hb dX7_cutUp_69 (by decide) (fun c_37 => ?_) (fun c_37 => ?_)
          · have hf := (zi_t c_37).symm.trans hf
            refine lv_iload hx hb dX7_cutUp_74 (lv_at hl 1 rfl) ?_
            refine lv_iconst (v := (1 : Int32)) hx hb dX7_cutUp_76 (by decide) ?_
            refine lv_icmp_ne (tgt := 103) hx hb dX7_cutUp_77 (by decide) (fun c_38 => ?_) (fun c_38 => ?_)
            · have hf := (zi_f c_38).symm.trans hf
              refine lv_iload hx hb dX7_cutUp_103 (lv_at hl 1 rfl) ?_
              refine lv_iconst (v := (2 : Int32)) hx hb dX7_cutUp_105 (by decide) ?_
              refine lv_icmp_ne (tgt := 129) hx hb dX7_cutUp_106 (by decide) (fun c_39 => ?_) (fun c_39 => ?_)
              · have hf := (zi_f c_39).symm.trans hf
                exact B129 K hKK _ _ _ _ _ _ _ _ _ hf hw hS (lv_sub hl [2, 3, 4, 5, 6, 1, 0] rfl)
              · have hf := (zi_t c_39).symm.trans hf
                refine lv_iinc (v := x4 + (1 : Int32)) (lv' := [(4, .int (x4 + (1 : Int32))), (6, .int ((mr τ 4 (x2 + (1 : Int32)).toNatClampNeg) &&& (255 : Int32))), (5, .int (mr τ 4 x2.toNatClampNeg)), (0, .ref (ad 0)), (1, .int x1), (2, .int x2), (3, .int x3)]) hx hb dX7_cutUp_109 hl (k := 6) rfl rfl (by decide) rfl (fun ls hl => ?_)
                refine lv_aload_n hx hb dX7_cutUp_112 rfl (lv_at hl 3 rfl) ?_
                refine mr_get S h7 hK hw 11 (by decide) (wz_in (zin3 _ (List.mem_of_getElem? (i := 17) rfl))) rfl rfl dX7_cutUp_113 ?_
                refine lv_iload_n hx hb dX7_cutUp_116 rfl (lv_at hl 4 rfl) ?_
                refine lv_iload_n hx hb dX7_cutUp_117 rfl (lv_at hl 5 rfl) ?_
                refine lv_iconst (v := (2 : Int32)) hx hb dX7_cutUp_118 (by decide) ?_
                refine lv_iadd hx hb dX7_cutUp_119 ?_
                obtain ⟨g_40, hf⟩ := zg_inv hf
                refine mr_iast S hK hw hS 11 rfl g_40 rfl dX7_cutUp_120 (fun H locs hw hS => ?_)
                refine lv_aload_n hx hb dX7_cutUp_121 rfl (lv_at hl 3 rfl) ?_
                refine mr_get S h7 hK hw 12 (by decide) (wz_in (zin3 _ (List.mem_of_getElem? (i := 18) rfl))) rfl rfl dX7_cutUp_122 ?_
                refine lv_iload_n hx hb dX7_cutUp_125 rfl (lv_at hl 4 rfl) ?_
                refine lv_iload hx hb dX7_cutUp_126 (lv_at hl 1 rfl) ?_
                obtain ⟨g_41, hf⟩ := zg_inv hf
                refine mr_iast S hK hw hS 12 rfl g_41 rfl dX7_cutUp_128 (fun H locs hw hS => ?_)
                exact B129 K hKK _ _ _ _ _ _ _ _ _ hf hw hS (lv_sub hl [3, 4, 5, 6, 0, 2, 1] rfl)
            · have hf := (zi_t c_38).symm.trans hf
              refine lv_iinc (v := x3 + (1 : Int32)) (lv' := [(3, .int (x3 + (1 : Int32))), (6, .int ((mr τ 4 (x2 + (1 : Int32)).toNatClampNeg) &&& (255 : Int32))), (5, .int (mr τ 4 x2.toNatClampNeg)), (0, .ref (ad 0)), (1, .int x1), (2, .int x2), (4, .int x4)]) hx hb dX7_cutUp_80 hl (k := 5) rfl rfl (by decide) rfl (fun ls hl => ?_)
              refine lv_aload_n hx hb dX7_cutUp_83 rfl (lv_at hl 3 rfl) ?_
              refine mr_get S h7 hK hw 9 (by decide) (wz_in (zin3 _ (List.mem_of_getElem? (i := 15) rfl))) rfl rfl dX7_cutUp_84 ?_
              refine lv_iload_n hx hb dX7_cutUp_87 rfl (lv_at hl 4 rfl) ?_
              refine lv_iload_n hx hb dX7_cutUp_88 rfl (lv_at hl 5 rfl) ?_
              refine lv_iconst (v := (2 : Int32)) hx hb dX7_cutUp_89 (by decide) ?_
              refine lv_iadd hx hb dX7_cutUp_90 ?_
              obtain ⟨g_42, hf⟩ := zg_inv hf
              refine mr_iast S hK hw hS 9 rfl g_42 rfl dX7_cutUp_91 (fun H locs hw hS => ?_)
              refine lv_aload_n hx hb dX7_cutUp_92 rfl (lv_at hl 3 rfl) ?_
              refine mr_get S h7 hK hw 10 (by decide) (wz_in (zin3 _ (List.mem_of_getElem? (i := 16) rfl))) rfl rfl dX7_cutUp_93 ?_
              refine lv_iload_n hx hb dX7_cutUp_96 rfl (lv_at hl 4 rfl) ?_
              refine lv_iload hx hb dX7_cutUp_97 (lv_at hl 1 rfl) ?_
              obtain ⟨g_43, hf⟩ := zg_inv hf
              refine mr_iast S hK hw hS 10 rfl g_43 rfl dX7_cutUp_99 (fun H locs hw hS => ?_)
              refine lv_goto (tgt := 129) hx hb dX7_cutUp_100 (by decide) ?_
              exact B129 K hKK _ _ _ _ _ _ _ _ _ hf hw hS (lv_sub hl [3, 4, 5, 0, 6, 2, 1] rfl)
          · have hf := (zi_f c_37).symm.trans hf
            exact B72 _ _ _ _ _ _ _ _ _ hf hw hS (lv_sub hl [2, 3, 4, 5, 6, 1, 0] rfl)
      · have hf := (zi_f c_30).symm.trans hf
        refine lv_iconst (v := (0 : Int32)) hx hb dX7_cutUp_25 (by decide) ?_
        obtain ⟨g_44, hf⟩ := zg_inv hf
        exact mw_retz S hr g_44 hf hw hS hlocks dX7_cutUp_26
  have L7 : ∀ (n : Nat) (τ : MS) (x2 : Int32) (x3 : Int32) (x4 : Int32) (H : Heap) (locs : List Loc) (ls : Array Slot) (hf : k_X7_cutUp_l7 x1 n τ x2 x3 x4 = some (r, τ')) (hw : zw D A ad (mG cy ad τ) H) (hS : va_S A s.heap H locs) (hl : lv_has ls 7 [(0, .ref (ad 0)), (1, .int x1), (2, .int x2), (3, .int x3), (4, .int x4)]), W p l e (headSpec (wz yX7_cutUp cX7_cutUp 7 (some .boolean)) ({ frames := 1, cells := 0, slots := 0, locals := 22 } : Room)).room s m ([.ref (ad 0), .int x1] : List Value).toArray below meth c H locs 0 0 (MQ below (va_Qi (fun (r' : Int32) (u : MS) => r' = r ∧ u = τ') (MWp D cy A ad) A) ([.ref (ad 0), .int x1] : List Value).toArray s 0 0 A) (F0 m 7 ls []) := by
    intro n
    induction n with
    | zero =>
      intro τ x2 x3 x4 H locs ls hf hw hS hl
      rw [k_X7_cutUp_l7_z] at hf
      cases hf
    | succ n ih =>
      intro τ x2 x3 x4 H locs ls hf hw hS hl
      rw [k_X7_cutUp_l7_s] at hf
      exact S7 (k_X7_cutUp_l7 x1 n) ih τ x2 x3 x4 H locs ls hf hw hS hl
  rw [k_X7_cutUp] at hf
  refine lv_iconst (v := (0 : Int32)) hx hb dX7_cutUp_0 (by decide) ?_
  refine lv_istore_n (lv' := [(2, .int (0 : Int32)), (0, .ref (ad 0)), (1, .int x1)]) hx hb dX7_cutUp_1 rfl hl (by decide) rfl (fun ls hl => ?_)
  refine lv_iconst (v := (0 : Int32)) hx hb dX7_cutUp_2 (by decide) ?_
  refine lv_istore_n (lv' := [(3, .int (0 : Int32)), (2, .int (0 : Int32)), (0, .ref (ad 0)), (1, .int x1)]) hx hb dX7_cutUp_3 rfl hl (by decide) rfl (fun ls hl => ?_)
  refine lv_iconst (v := (0 : Int32)) hx hb dX7_cutUp_4 (by decide) ?_
  refine lv_istore (lv' := [(4, .int (0 : Int32)), (3, .int (0 : Int32)), (2, .int (0 : Int32)), (0, .ref (ad 0)), (1, .int x1)]) hx hb dX7_cutUp_5 hl (by decide) rfl (fun ls hl => ?_)
  exact L7 FU _ _ _ _ _ _ _ hf hw hS (lv_sub hl [3, 4, 2, 1, 0] rfl)
noncomputable def k_X7_isRight_b160 (τ : MS) (y0 : Int32) (x1 : Int32) (x2 : Int32) (x3 : Int32) (x4 : Int32) : Option (Int32 × MS) := zg (narrow .boolean (.int y0) = .int y0) (some (y0, τ))
noncomputable def k_X7_isRight_b159 (τ : MS) (x1 : Int32) (x2 : Int32) (x3 : Int32) (x4 : Int32) : Option (Int32 × MS) := k_X7_isRight_b160 τ (0 : Int32) x1 x2 x3 x4
noncomputable def k_X7_isRight_b140 (τ : MS) (x1 : Int32) (x2 : Int32) (x3 : Int32) (x4 : Int32) : Option (Int32 × MS) := zi (x4 = 0) (k_X7_isRight_b159 τ x1 x2 x3 x4) (zi (x3 = (1 : Int32)) (zi ((2 : Int32) ≤ x2) (k_X7_isRight_b159 τ x1 x2 x3 x4) (k_X7_isRight_b160 τ (1 : Int32) x1 x2 x3 x4)) (k_X7_isRight_b159 τ x1 x2 x3 x4))
noncomputable def k_X7_isRight_b118 (K : MS → Int32 → Int32 → Int32 → Int32 → Option (Int32 × MS)) (τ : MS) (y0 : Int32) (y1 : Int32) (x1 : Int32) (x2 : Int32) (x3 : Int32) (x4 : Int32) : Option (Int32 × MS) := zg (vp_in (x1 + (1 : Int32)) 120) (K τ (x1 + ((2 : Int32) + ((mr τ 4 (x1 + (1 : Int32)).toNatClampNeg) &&& (255 : Int32)))) x2 (y1 + y0) x4)
noncomputable def k_X7_isRight_b100 (K : MS → Int32 → Int32 → Int32 → Int32 → Option (Int32 × MS)) (τ : MS) (y0 : Int32) (y1 : Int32) (x1 : Int32) (x2 : Int32) (x3 : Int32) (x4 : Int32) : Option (Int32 × MS) := zg (vp_in x1 120) (zi ((mr τ 4 x1.toNatClampNeg) = (2 : Int32)) (k_X7_isRight_b118 K τ (1 : Int32) x3 x1 (y1 + y0) x3 x4) (k_X7_isRight_b118 K τ (0 : Int32) x3 x1 (y1 + y0) x3 x4))
noncomputable def k_X7_isRight_b74 (K : MS → Int32 → Int32 → Int32 → Int32 → Option (Int32 × MS)) (τ : MS) (y0 : Int32) (x1 : Int32) (x2 : Int32) (x3 : Int32) (x4 : Int32) : Option (Int32 × MS) := zi (y0 = 0) (K τ x1 x2 x3 y0) (zg (vp_in x1 120) (zi ((mr τ 4 x1.toNatClampNeg) = (1 : Int32)) (k_X7_isRight_b100 K τ (1 : Int32) x2 x1 x2 x3 y0) (k_X7_isRight_b100 K τ (0 : Int32) x2 x1 x2 x3 y0)))
noncomputable def k_X7_isRight_b73 (K : MS → Int32 → Int32 → Int32 → Int32 → Option (Int32 × MS)) (τ : MS) (x1 : Int32) (x2 : Int32) (x3 : Int32) (x4 : Int32) : Option (Int32 × MS) := k_X7_isRight_b74 K τ (0 : Int32) x1 x2 x3 x4
noncomputable def k_X7_isRight_s9 (K : MS → Int32 → Int32 → Int32 → Int32 → Option (Int32 × MS)) (τ : MS) (x1 : Int32) (x2 : Int32) (x3 : Int32) (x4 : Int32) : Option (Int32 × MS) := zi (x4 = 0) (k_X7_isRight_b140 τ x1 x2 x3 x4) (zi ((mi τ 3) ≤ x1) (k_X7_isRight_b140 τ x1 x2 x3 x4) (zi ((mi τ 3) ≤ (x1 + (1 : Int32))) (k_X7_isRight_b73 K τ x1 x2 x3 x4) (zg (vp_in x1 120) (zb (k_X7_in τ (mr τ 4 x1.toNatClampNeg) (0 : Int32) (2 : Int32)) (fun r_35 t_36 => zi (r_35 = 0) (k_X7_isRight_b73 K t_36 x1 x2 x3 x4) (zg (vp_in (x1 + (1 : Int32)) 120) (zi ((mi t_36 3) < ((x1 + (2 : Int32)) + ((mr t_36 4 (x1 + (1 : Int32)).toNatClampNeg) &&& (255 : Int32)))) (k_X7_isRight_b73 K t_36 x1 x2 x3 x4) (k_X7_isRight_b74 K t_36 (1 : Int32) x1 x2 x3 x4))))))))
noncomputable def k_X7_isRight_l9 : Nat → MS → Int32 → Int32 → Int32 → Int32 → Option (Int32 × MS)
  | 0 => fun _ _ _ _ _ => none
  | n + 1 => fun τ x1 x2 x3 x4 => k_X7_isRight_s9 (k_X7_isRight_l9 n) τ x1 x2 x3 x4
theorem k_X7_isRight_l9_s (n : Nat) (τ : MS) (x1 : Int32) (x2 : Int32) (x3 : Int32) (x4 : Int32) : k_X7_isRight_l9 (n + 1) τ x1 x2 x3 x4 = k_X7_isRight_s9 (k_X7_isRight_l9 n) τ x1 x2 x3 x4 := rfl
theorem k_X7_isRight_l9_z (τ : MS) (x1 : Int32) (x2 : Int32) (x3 : Int32) (x4 : Int32) : k_X7_isRight_l9 0 τ x1 x2 x3 x4 = none := rfl
noncomputable def k_X7_isRight (τ : MS) : Option (Int32 × MS) := k_X7_isRight_l9 FU τ (0 : Int32) (0 : Int32) (0 : Int32) (1 : Int32)
set_option maxHeartbeats 4000000 in
set_option maxRecDepth 100000 in
theorem kc_X7_isRight (l : Launch) (D : va_G) (cy : Nat → ClassId) (A : Nat → Prop) (ad : Nat → Nat) (τ τ' : MS) (r : Int32) (hf : k_X7_isRight τ = some (r, τ')) : Met l yX7_isRight (wz yX7_isRight cX7_isRight 5 (some .boolean)) ({ frames := 1, cells := 0, slots := 0, locals := 22 } : Room) (va_Pc [.ref (ad 0)] (MWs D cy A ad τ)) (va_Qi (fun (r' : Int32) (u : MS) => r' = r ∧ u = τ') (MWp D cy A ad) A) 0 0 A := by
  refine Met.ofW (cc := cX7_isRight) (maxL := 5) (ret := (some .boolean)) (by decide) rfl ?_
  intro p e s m args below meth c s₁ B hml hv
  obtain ⟨rfl, hw, hK⟩ := hv
  have hx := B.exec
  have hb := B.bytes
  have hr := B.returns
  have hts := atoms_spec (ws := (wz yX7_isRight cX7_isRight 5 (some .boolean))) B.pre
  have hown : s.vm.findClass RX7 = some m.cls := findClass_of_methodNamed B.named
  have hlocks := B.notSynchronized
  have S : CallFix p m c cX7_isRight 5 s ([.ref (ad 0)] : List Value).toArray (wz yX7_isRight cX7_isRight 5 (some .boolean)) RX7 := ⟨hx, hb, hml, hown, hts⟩
  have h7 : ∀ w ∈ wsX70, w ∈ (wz yX7_isRight cX7_isRight 5 (some .boolean)) := fun w h => wz_in (inlX7 w h)
  have hS : va_S A s.heap s.heap [] := va_S.rf
  have hl := lv_entry ([.ref (ad 0)]) (n := 5) (Nat.le_of_ble_eq_true rfl)
  rw [lg_entry_eq]
  generalize (lg_sl ([.ref (ad 0)]) ++ List.replicate (5 - (lg_sl ([.ref (ad 0)])).length) Slot.unset).toArray = ls at hl ⊢
  have hl : lv_has ls 5 [(0, .ref (ad 0))] := hl
  have B160 : ∀ (τ : MS) (y0 : Int32) (x1 : Int32) (x2 : Int32) (x3 : Int32) (x4 : Int32) (H : Heap) (locs : List Loc) (ls : Array Slot) (hf : k_X7_isRight_b160 τ y0 x1 x2 x3 x4 = some (r, τ')) (hw : zw D A ad (mG cy ad τ) H) (hS : va_S A s.heap H locs) (hl : lv_has ls 5 [(0, .ref (ad 0)), (1, .int x1), (2, .int x2), (3, .int x3), (4, .int x4)]), W p l e (headSpec (wz yX7_isRight cX7_isRight 5 (some .boolean)) ({ frames := 1, cells := 0, slots := 0, locals := 22 } : Room)).room s m ([.ref (ad 0)] : List Value).toArray below meth c H locs 0 0 (MQ below (va_Qi (fun (r' : Int32) (u : MS) => r' = r ∧ u = τ') (MWp D cy A ad) A) ([.ref (ad 0)] : List Value).toArray s 0 0 A) (F0 m 160 ls [.int y0]) := by
    intro τ y0 x1 x2 x3 x4 H locs ls hf hw hS hl
    rw [k_X7_isRight_b160] at hf
    obtain ⟨g_21, hf⟩ := zg_inv hf
    exact mw_retz S hr g_21 hf hw hS hlocks dX7_isRight_160
  have B159 : ∀ (τ : MS) (x1 : Int32) (x2 : Int32) (x3 : Int32) (x4 : Int32) (H : Heap) (locs : List Loc) (ls : Array Slot) (hf : k_X7_isRight_b159 τ x1 x2 x3 x4 = some (r, τ')) (hw : zw D A ad (mG cy ad τ) H) (hS : va_S A s.heap H locs) (hl : lv_has ls 5 [(0, .ref (ad 0)), (1, .int x1), (2, .int x2), (3, .int x3), (4, .int x4)]), W p l e (headSpec (wz yX7_isRight cX7_isRight 5 (some .boolean)) ({ frames := 1, cells := 0, slots := 0, locals := 22 } : Room)).room s m ([.ref (ad 0)] : List Value).toArray below meth c H locs 0 0 (MQ below (va_Qi (fun (r' : Int32) (u : MS) => r' = r ∧ u = τ') (MWp D cy A ad) A) ([.ref (ad 0)] : List Value).toArray s 0 0 A) (F0 m 159 ls []) := by
    intro τ x1 x2 x3 x4 H locs ls hf hw hS hl
    rw [k_X7_isRight_b159] at hf
    refine lv_iconst (v := (0 : Int32)) hx hb dX7_isRight_159 (by decide) ?_
    exact B160 _ _ _ _ _ _ _ _ _ hf hw hS (lv_sub hl [0, 1, 2, 3, 4] rfl)
  have B140 : ∀ (τ : MS) (x1 : Int32) (x2 : Int32) (x3 : Int32) (x4 : Int32) (H : Heap) (locs : List Loc) (ls : Array Slot) (hf : k_X7_isRight_b140 τ x1 x2 x3 x4 = some (r, τ')) (hw : zw D A ad (mG cy ad τ) H) (hS : va_S A s.heap H locs) (hl : lv_has ls 5 [(0, .ref (ad 0)), (1, .int x1), (2, .int x2), (3, .int x3), (4, .int x4)]), W p l e (headSpec (wz yX7_isRight cX7_isRight 5 (some .boolean)) ({ frames := 1, cells := 0, slots := 0, locals := 22 } : Room)).room s m ([.ref (ad 0)] : List Value).toArray below meth c H locs 0 0 (MQ below (va_Qi (fun (r' : Int32) (u : MS) => r' = r ∧ u = τ') (MWp D cy A ad) A) ([.ref (ad 0)] : List Value).toArray s 0 0 A) (F0 m 140 ls []) := by
    intro τ x1 x2 x3 x4 H locs ls hf hw hS hl
    rw [k_X7_isRight_b140] at hf
    refine lv_iload hx hb dX7_isRight_140 (lv_at hl 4 rfl) ?_
    refine lv_if_eq (tgt := 159) hx hb dX7_isRight_142 (by decide) (fun c_22 => ?_) (fun c_22 => ?_)
    · have hf := (zi_t c_22).symm.trans hf
      exact B159 _ _ _ _ _ _ _ _ hf hw hS (lv_sub hl [0, 1, 2, 3, 4] rfl)
    · have hf := (zi_f c_22).symm.trans hf
      refine lv_iload_n hx hb dX7_isRight_145 rfl (lv_at hl 3 rfl) ?_
      refine lv_iconst (v := (1 : Int32)) hx hb dX7_isRight_146 (by decide) ?_
      refine lv_icmp_ne (tgt := 159) hx hb dX7_isRight_147 (by decide) (fun c_23 => ?_) (fun c_23 => ?_)
      · have hf := (zi_f c_23).symm.trans hf
        exact B159 _ _ _ _ _ _ _ _ hf hw hS (lv_sub hl [0, 1, 2, 3, 4] rfl)
      · have hf := (zi_t c_23).symm.trans hf
        refine lv_iload_n hx hb dX7_isRight_150 rfl (lv_at hl 2 rfl) ?_
        refine lv_iconst (v := (2 : Int32)) hx hb dX7_isRight_151 (by decide) ?_
        refine lv_icmp_ge (tgt := 159) hx hb dX7_isRight_152 (by decide) (fun c_24 => ?_) (fun c_24 => ?_)
        · have hf := (zi_t c_24).symm.trans hf
          exact B159 _ _ _ _ _ _ _ _ hf hw hS (lv_sub hl [0, 1, 2, 3, 4] rfl)
        · have hf := (zi_f c_24).symm.trans hf
          refine lv_iconst (v := (1 : Int32)) hx hb dX7_isRight_155 (by decide) ?_
          refine lv_goto (tgt := 160) hx hb dX7_isRight_156 (by decide) ?_
          exact B160 _ _ _ _ _ _ _ _ _ hf hw hS (lv_sub hl [0, 1, 2, 3, 4] rfl)
  have B118 : ∀ (K : MS → Int32 → Int32 → Int32 → Int32 → Option (Int32 × MS)) (_hKK : ∀ (τ : MS) (x1 : Int32) (x2 : Int32) (x3 : Int32) (x4 : Int32) (H : Heap) (locs : List Loc) (ls : Array Slot) (hf : K τ x1 x2 x3 x4 = some (r, τ')) (hw : zw D A ad (mG cy ad τ) H) (hS : va_S A s.heap H locs) (hl : lv_has ls 5 [(0, .ref (ad 0)), (1, .int x1), (2, .int x2), (3, .int x3), (4, .int x4)]), W p l e (headSpec (wz yX7_isRight cX7_isRight 5 (some .boolean)) ({ frames := 1, cells := 0, slots := 0, locals := 22 } : Room)).room s m ([.ref (ad 0)] : List Value).toArray below meth c H locs 0 0 (MQ below (va_Qi (fun (r' : Int32) (u : MS) => r' = r ∧ u = τ') (MWp D cy A ad) A) ([.ref (ad 0)] : List Value).toArray s 0 0 A) (F0 m 9 ls [])) (τ : MS) (y0 : Int32) (y1 : Int32) (x1 : Int32) (x2 : Int32) (x3 : Int32) (x4 : Int32) (H : Heap) (locs : List Loc) (ls : Array Slot) (hf : k_X7_isRight_b118 K τ y0 y1 x1 x2 x3 x4 = some (r, τ')) (hw : zw D A ad (mG cy ad τ) H) (hS : va_S A s.heap H locs) (hl : lv_has ls 5 [(0, .ref (ad 0)), (1, .int x1), (2, .int x2), (3, .int x3), (4, .int x4)]), W p l e (headSpec (wz yX7_isRight cX7_isRight 5 (some .boolean)) ({ frames := 1, cells := 0, slots := 0, locals := 22 } : Room)).room s m ([.ref (ad 0)] : List Value).toArray below meth c H locs 0 0 (MQ below (va_Qi (fun (r' : Int32) (u : MS) => r' = r ∧ u = τ') (MWp D cy A ad) A) ([.ref (ad 0)] : List Value).toArray s 0 0 A) (F0 m 118 ls [.int y0, .int y1]) := by
    intro K hKK τ y0 y1 x1 x2 x3 x4 H locs ls hf hw hS hl
    rw [k_X7_isRight_b118] at hf
    refine lv_iadd hx hb dX7_isRight_118 ?_
    refine lv_istore_n (lv' := [(3, .int (y1 + y0)), (0, .ref (ad 0)), (1, .int x1), (2, .int x2), (4, .int x4)]) hx hb dX7_isRight_119 rfl hl (by decide) rfl (fun ls hl => ?_)
    refine lv_iload_n hx hb dX7_isRight_120 rfl (lv_at hl 2 rfl) ?_
    refine lv_iconst (v := (2 : Int32)) hx hb dX7_isRight_121 (by decide) ?_
    refine lv_aload_n hx hb dX7_isRight_122 rfl (lv_at hl 1 rfl) ?_
    refine mr_get S h7 hK hw 4 (by decide) (wz_in (zin3 _ (List.mem_of_getElem? (i := 10) rfl))) rfl rfl dX7_isRight_123 ?_
    refine lv_iload_n hx hb dX7_isRight_126 rfl (lv_at hl 2 rfl) ?_
    refine lv_iconst (v := (1 : Int32)) hx hb dX7_isRight_127 (by decide) ?_
    refine lv_iadd hx hb dX7_isRight_128 ?_
    obtain ⟨g_25, hf⟩ := zg_inv hf
    refine mr_bald S hK hw 4 rfl g_25 dX7_isRight_129 ?_
    refine lv_sipush (v := (255 : Int32)) hx hb dX7_isRight_130 (by decide) ?_
    refine lv_iand hx hb dX7_isRight_133 ?_
    refine lv_iadd hx hb dX7_isRight_134 ?_
    refine lv_iadd hx hb dX7_isRight_135 ?_
    refine lv_istore_n (lv' := [(1, .int (x1 + ((2 : Int32) + ((mr τ 4 (x1 + (1 : Int32)).toNatClampNeg) &&& (255 : Int32))))), (3, .int (y1 + y0)), (0, .ref (ad 0)), (2, .int x2), (4, .int x4)]) hx hb dX7_isRight_136 rfl hl (by decide) rfl (fun ls hl => ?_)
    refine lv_goto (tgt := 9) hx hb dX7_isRight_137 (by decide) ?_
    exact hKK _ _ _ _ _ _ _ _ hf hw hS (lv_sub hl [2, 0, 3, 1, 4] rfl)
  have B100 : ∀ (K : MS → Int32 → Int32 → Int32 → Int32 → Option (Int32 × MS)) (_hKK : ∀ (τ : MS) (x1 : Int32) (x2 : Int32) (x3 : Int32) (x4 : Int32) (H : Heap) (locs : List Loc) (ls : Array Slot) (hf : K τ x1 x2 x3 x4 = some (r, τ')) (hw : zw D A ad (mG cy ad τ) H) (hS : va_S A s.heap H locs) (hl : lv_has ls 5 [(0, .ref (ad 0)), (1, .int x1), (2, .int x2), (3, .int x3), (4, .int x4)]), W p l e (headSpec (wz yX7_isRight cX7_isRight 5 (some .boolean)) ({ frames := 1, cells := 0, slots := 0, locals := 22 } : Room)).room s m ([.ref (ad 0)] : List Value).toArray below meth c H locs 0 0 (MQ below (va_Qi (fun (r' : Int32) (u : MS) => r' = r ∧ u = τ') (MWp D cy A ad) A) ([.ref (ad 0)] : List Value).toArray s 0 0 A) (F0 m 9 ls [])) (τ : MS) (y0 : Int32) (y1 : Int32) (x1 : Int32) (x2 : Int32) (x3 : Int32) (x4 : Int32) (H : Heap) (locs : List Loc) (ls : Array Slot) (hf : k_X7_isRight_b100 K τ y0 y1 x1 x2 x3 x4 = some (r, τ')) (hw : zw D A ad (mG cy ad τ) H) (hS : va_S A s.heap H locs) (hl : lv_has ls 5 [(0, .ref (ad 0)), (1, .int x1), (2, .int x2), (3, .int x3), (4, .int x4)]), W p l e (headSpec (wz yX7_isRight cX7_isRight 5 (some .boolean)) ({ frames := 1, cells := 0, slots := 0, locals := 22 } : Room)).room s m ([.ref (ad 0)] : List Value).toArray below meth c H locs 0 0 (MQ below (va_Qi (fun (r' : Int32) (u : MS) => r' = r ∧ u = τ') (MWp D cy A ad) A) ([.ref (ad 0)] : List Value).toArray s 0 0 A) (F0 m 100 ls [.int y0, .int y1]) := by
    intro K hKK τ y0 y1 x1 x2 x3 x4 H locs ls hf hw hS hl
    rw [k_X7_isRight_b100] at hf
    refine lv_iadd hx hb dX7_isRight_100 ?_
    refine lv_istore_n (lv' := [(2, .int (y1 + y0)), (0, .ref (ad 0)), (1, .int x1), (3, .int x3), (4, .int x4)]) hx hb dX7_isRight_101 rfl hl (by decide) rfl (fun ls hl => ?_)
    refine lv_iload_n hx hb dX7_isRight_102 rfl (lv_at hl 3 rfl) ?_
    refine lv_aload_n hx hb dX7_isRight_103 rfl (lv_at hl 1 rfl) ?_
    refine mr_get S h7 hK hw 4 (by decide) (wz_in (zin3 _ (List.mem_of_getElem? (i := 10) rfl))) rfl rfl dX7_isRight_104 ?_
    refine lv_iload_n hx hb dX7_isRight_107 rfl (lv_at hl 2 rfl) ?_
    obtain ⟨g_26, hf⟩ := zg_inv hf
    refine mr_bald S hK hw 4 rfl g_26 dX7_isRight_108 ?_
    refine lv_iconst (v := (2 : Int32)) hx hb dX7_isRight_109 (by decide) ?_
    refine lv_icmp_ne (tgt := 117) hx hb dX7_isRight_110 (by decide) (fun c_27 => ?_) (fun c_27 => ?_)
    · have hf := (zi_f c_27).symm.trans hf
      refine lv_iconst (v := (0 : Int32)) hx hb dX7_isRight_117 (by decide) ?_
      exact B118 K hKK _ _ _ _ _ _ _ _ _ _ hf hw hS (lv_sub hl [1, 2, 0, 3, 4] rfl)
    · have hf := (zi_t c_27).symm.trans hf
      refine lv_iconst (v := (1 : Int32)) hx hb dX7_isRight_113 (by decide) ?_
      refine lv_goto (tgt := 118) hx hb dX7_isRight_114 (by decide) ?_
      exact B118 K hKK _ _ _ _ _ _ _ _ _ _ hf hw hS (lv_sub hl [1, 2, 0, 3, 4] rfl)
  have B74 : ∀ (K : MS → Int32 → Int32 → Int32 → Int32 → Option (Int32 × MS)) (_hKK : ∀ (τ : MS) (x1 : Int32) (x2 : Int32) (x3 : Int32) (x4 : Int32) (H : Heap) (locs : List Loc) (ls : Array Slot) (hf : K τ x1 x2 x3 x4 = some (r, τ')) (hw : zw D A ad (mG cy ad τ) H) (hS : va_S A s.heap H locs) (hl : lv_has ls 5 [(0, .ref (ad 0)), (1, .int x1), (2, .int x2), (3, .int x3), (4, .int x4)]), W p l e (headSpec (wz yX7_isRight cX7_isRight 5 (some .boolean)) ({ frames := 1, cells := 0, slots := 0, locals := 22 } : Room)).room s m ([.ref (ad 0)] : List Value).toArray below meth c H locs 0 0 (MQ below (va_Qi (fun (r' : Int32) (u : MS) => r' = r ∧ u = τ') (MWp D cy A ad) A) ([.ref (ad 0)] : List Value).toArray s 0 0 A) (F0 m 9 ls [])) (τ : MS) (y0 : Int32) (x1 : Int32) (x2 : Int32) (x3 : Int32) (x4 : Int32) (H : Heap) (locs : List Loc) (ls : Array Slot) (hf : k_X7_isRight_b74 K τ y0 x1 x2 x3 x4 = some (r, τ')) (hw : zw D A ad (mG cy ad τ) H) (hS : va_S A s.heap H locs) (hl : lv_has ls 5 [(0, .ref (ad 0)), (1, .int x1), (2, .int x2), (3, .int x3), (4, .int x4)]), W p l e (headSpec (wz yX7_isRight cX7_isRight 5 (some .boolean)) ({ frames := 1, cells := 0, slots := 0, locals := 22 } : Room)).room s m ([.ref (ad 0)] : List Value).toArray below meth c H locs 0 0 (MQ below (va_Qi (fun (r' : Int32) (u : MS) => r' = r ∧ u = τ') (MWp D cy A ad) A) ([.ref (ad 0)] : List Value).toArray s 0 0 A) (F0 m 74 ls [.int y0]) := by
    intro K hKK τ y0 x1 x2 x3 x4 H locs ls hf hw hS hl
    rw [k_X7_isRight_b74] at hf
    refine lv_istore (lv' := [(4, .int y0), (0, .ref (ad 0)), (1, .int x1), (2, .int x2), (3, .int x3)]) hx hb dX7_isRight_74 hl (by decide) rfl (fun ls hl => ?_)
    refine lv_iload hx hb dX7_isRight_76 (lv_at hl 0 rfl) ?_
    refine lv_if_ne (tgt := 84) hx hb dX7_isRight_78 (by decide) (fun c_28 => ?_) (fun c_28 => ?_)
    · have hf := (zi_f c_28).symm.trans hf
      refine lv_iload_n hx hb dX7_isRight_84 rfl (lv_at hl 3 rfl) ?_
      refine lv_aload_n hx hb dX7_isRight_85 rfl (lv_at hl 1 rfl) ?_
      refine mr_get S h7 hK hw 4 (by decide) (wz_in (zin3 _ (List.mem_of_getElem? (i := 10) rfl))) rfl rfl dX7_isRight_86 ?_
      refine lv_iload_n hx hb dX7_isRight_89 rfl (lv_at hl 2 rfl) ?_
      obtain ⟨g_29, hf⟩ := zg_inv hf
      refine mr_bald S hK hw 4 rfl g_29 dX7_isRight_90 ?_
      refine lv_iconst (v := (1 : Int32)) hx hb dX7_isRight_91 (by decide) ?_
      refine lv_icmp_ne (tgt := 99) hx hb dX7_isRight_92 (by decide) (fun c_30 => ?_) (fun c_30 => ?_)
      · have hf := (zi_f c_30).symm.trans hf
        refine lv_iconst (v := (0 : Int32)) hx hb dX7_isRight_99 (by decide) ?_
        exact B100 K hKK _ _ _ _ _ _ _ _ _ _ hf hw hS (lv_sub hl [1, 2, 3, 4, 0] rfl)
      · have hf := (zi_t c_30).symm.trans hf
        refine lv_iconst (v := (1 : Int32)) hx hb dX7_isRight_95 (by decide) ?_
        refine lv_goto (tgt := 100) hx hb dX7_isRight_96 (by decide) ?_
        exact B100 K hKK _ _ _ _ _ _ _ _ _ _ hf hw hS (lv_sub hl [1, 2, 3, 4, 0] rfl)
    · have hf := (zi_t c_28).symm.trans hf
      refine lv_goto (tgt := 9) hx hb dX7_isRight_81 (by decide) ?_
      exact hKK _ _ _ _ _ _ _ _ hf hw hS (lv_sub hl [1, 2, 3, 4, 0] rfl)
  have B73 : ∀ (K : MS → Int32 → Int32 → Int32 → Int32 → Option (Int32 × MS)) (_hKK : ∀ (τ : MS) (x1 : Int32) (x2 : Int32) (x3 : Int32) (x4 : Int32) (H : Heap) (locs : List Loc) (ls : Array Slot) (hf : K τ x1 x2 x3 x4 = some (r, τ')) (hw : zw D A ad (mG cy ad τ) H) (hS : va_S A s.heap H locs) (hl : lv_has ls 5 [(0, .ref (ad 0)), (1, .int x1), (2, .int x2), (3, .int x3), (4, .int x4)]), W p l e (headSpec (wz yX7_isRight cX7_isRight 5 (some .boolean)) ({ frames := 1, cells := 0, slots := 0, locals := 22 } : Room)).room s m ([.ref (ad 0)] : List Value).toArray below meth c H locs 0 0 (MQ below (va_Qi (fun (r' : Int32) (u : MS) => r' = r ∧ u = τ') (MWp D cy A ad) A) ([.ref (ad 0)] : List Value).toArray s 0 0 A) (F0 m 9 ls [])) (τ : MS) (x1 : Int32) (x2 : Int32) (x3 : Int32) (x4 : Int32) (H : Heap) (locs : List Loc) (ls : Array Slot) (hf : k_X7_isRight_b73 K τ x1 x2 x3 x4 = some (r, τ')) (hw : zw D A ad (mG cy ad τ) H) (hS : va_S A s.heap H locs) (hl : lv_has ls 5 [(0, .ref (ad 0)), (1, .int x1), (2, .int x2), (3, .int x3), (4, .int x4)]), W p l e (headSpec (wz yX7_isRight cX7_isRight 5 (some .boolean)) ({ frames := 1, cells := 0, slots := 0, locals := 22 } : Room)).room s m ([.ref (ad 0)] : List Value).toArray below meth c H locs 0 0 (MQ below (va_Qi (fun (r' : Int32) (u : MS) => r' = r ∧ u = τ') (MWp D cy A ad) A) ([.ref (ad 0)] : List Value).toArray s 0 0 A) (F0 m 73 ls []) := by
    intro K hKK τ x1 x2 x3 x4 H locs ls hf hw hS hl
    rw [k_X7_isRight_b73] at hf
    refine lv_iconst (v := (0 : Int32)) hx hb dX7_isRight_73 (by decide) ?_
    exact B74 K hKK _ _ _ _ _ _ _ _ _ hf hw hS (lv_sub hl [0, 1, 2, 3, 4] rfl)
  have S9 : ∀ (K : MS → Int32 → Int32 → Int32 → Int32 → Option (Int32 × MS)) (_hKK : ∀ (τ : MS) (x1 : Int32) (x2 : Int32) (x3 : Int32) (x4 : Int32) (H : Heap) (locs : List Loc) (ls : Array Slot) (hf : K τ x1 x2 x3 x4 = some (r, τ')) (hw : zw D A ad (mG cy ad τ) H) (hS : va_S A s.heap H locs) (hl : lv_has ls 5 [(0, .ref (ad 0)), (1, .int x1), (2, .int x2), (3, .int x3), (4, .int x4)]), W p l e (headSpec (wz yX7_isRight cX7_isRight 5 (some .boolean)) ({ frames := 1, cells := 0, slots := 0, locals := 22 } : Room)).room s m ([.ref (ad 0)] : List Value).toArray below meth c H locs 0 0 (MQ below (va_Qi (fun (r' : Int32) (u : MS) => r' = r ∧ u = τ') (MWp D cy A ad) A) ([.ref (ad 0)] : List Value).toArray s 0 0 A) (F0 m 9 ls [])) (τ : MS) (x1 : Int32) (x2 : Int32) (x3 : Int32) (x4 : Int32) (H : Heap) (locs : List Loc) (ls : Array Slot) (hf : k_X7_isRight_s9 K τ x1 x2 x3 x4 = some (r, τ')) (hw : zw D A ad (mG cy ad τ) H) (hS : va_S A s.heap H locs) (hl : lv_has ls 5 [(0, .ref (ad 0)), (1, .int x1), (2, .int x2), (3, .int x3), (4, .int x4)]), W p l e (headSpec (wz yX7_isRight cX7_isRight 5 (some .boolean)) ({ frames := 1, cells := 0, slots := 0, locals := 22 } : Room)).room s m ([.ref (ad 0)] : List Value).toArray below meth c H locs 0 0 (MQ below (va_Qi (fun (r' : Int32) (u : MS) => r' = r ∧ u = τ') (MWp D cy A ad) A) ([.ref (ad 0)] : List Value).toArray s 0 0 A) (F0 m 9 ls []) := by
    intro K hKK τ x1 x2 x3 x4 H locs ls hf hw hS hl
    rw [k_X7_isRight_s9] at hf
    refine lv_iload hx hb dX7_isRight_9 (lv_at hl 4 rfl) ?_
    refine lv_if_eq (tgt := 140) hx hb dX7_isRight_11 (by decide) (fun c_31 => ?_) (fun c_31 => ?_)
    · have hf := (zi_t c_31).symm.trans hf
      exact B140 _ _ _ _ _ _ _ _ hf hw hS (lv_sub hl [0, 1, 2, 3, 4] rfl)
    · have hf := (zi_f c_31).symm.trans hf
      refine lv_iload_n hx hb dX7_isRight_14 rfl (lv_at hl 1 rfl) ?_
      refine lv_aload_n hx hb dX7_isRight_15 rfl (lv_at hl 0 rfl) ?_
      refine mr_get S h7 hK hw 3 (by decide) (wz_in (zin5 _ (List.mem_of_getElem? (i := 9) rfl))) rfl rfl dX7_isRight_16 ?_
      refine lv_icmp_ge (tgt := 140) hx hb dX7_isRight_19 (by decide) (fun c_32 => ?_) (fun c_32 => ?_)
      · have hf := (zi_t c_32).symm.trans hf
        exact B140 _ _ _ _ _ _ _ _ hf hw hS (lv_sub hl [0, 1, 2, 3, 4] rfl)
      · have hf := (zi_f c_32).symm.trans hf
        refine lv_iload_n hx hb dX7_isRight_22 rfl (lv_at hl 1 rfl) ?_
        refine lv_iconst (v := (1 : Int32)) hx hb dX7_isRight_23 (by decide) ?_
        refine lv_iadd hx hb dX7_isRight_24 ?_
        refine lv_aload_n hx hb dX7_isRight_25 rfl (lv_at hl 0 rfl) ?_
        refine mr_get S h7 hK hw 3 (by decide) (wz_in (zin5 _ (List.mem_of_getElem? (i := 9) rfl))) rfl rfl dX7_isRight_26 ?_
        refine lv_icmp_ge (tgt := 73) hx hb dX7_isRight_29 (by decide) (fun c_33 => ?_) (fun c_33 => ?_)
        · have hf := (zi_t c_33).symm.trans hf
          exact B73 K hKK _ _ _ _ _ _ _ _ hf hw hS (lv_sub hl [0, 1, 2, 3, 4] rfl)
        · have hf := (zi_f c_33).symm.trans hf
          refine lv_aload_n hx hb dX7_isRight_32 rfl (lv_at hl 0 rfl) ?_
          refine mr_get S h7 hK hw 4 (by decide) (wz_in (zin3 _ (List.mem_of_getElem? (i := 10) rfl))) rfl rfl dX7_isRight_33 ?_
          refine lv_iload_n hx hb dX7_isRight_36 rfl (lv_at hl 1 rfl) ?_
          obtain ⟨g_34, hf⟩ := zg_inv hf
          refine mr_bald S hK hw 4 rfl g_34 dX7_isRight_37 ?_
          refine lv_iconst (v := (0 : Int32)) hx hb dX7_isRight_38 (by decide) ?_
          refine lv_iconst (v := (2 : Int32)) hx hb dX7_isRight_39 (by decide) ?_
          obtain ⟨r_35, t_36, e_37, hf⟩ := zb_inv hf
          refine mw_si (As := [.int (mr τ 4 x1.toNatClampNeg), .int (0 : Int32), .int (2 : Int32)]) (rest := []) (n := 3) S (kc_X7_in l D cy A ad _ _ _ _ _ _ e_37) (wz_S (zin5 _ (List.mem_of_getElem? (i := 12) rfl)) (zin5 _ (List.mem_of_getElem? (i := 10) rfl)) (zin5 _ (List.mem_of_getElem? (i := 11) rfl)) (zin1 _ (List.mem_of_getElem? (i := 5) rfl))) rfl ⟨rfl, rfl⟩ (by decide +kernel) ⟨Nat.le_of_ble_eq_true rfl, Nat.le_of_ble_eq_true rfl⟩ rfl hl.1 rfl (Nat.le_of_ble_eq_true rfl) hK hw hS dX7_isRight_40 ⟨Nat.zero_le _, Nat.zero_le _⟩ (fun H locs hw hS => ?_)
          refine lv_if_eq (tgt := 73) hx hb dX7_isRight_43 (by decide) (fun c_38 => ?_) (fun c_38 => ?_)
          · have hf := (zi_t c_38).symm.trans hf
            exact B73 K hKK _ _ _ _ _ _ _ _ hf hw hS (lv_sub hl [0, 1, 2, 3, 4] rfl)
          · have hf := (zi_f c_38).symm.trans hf
            refine lv_iload_n hx hb dX7_isRight_46 rfl (lv_at hl 1 rfl) ?_
            refine lv_iconst (v := (2 : Int32)) hx hb dX7_isRight_47 (by decide) ?_
            refine lv_iadd hx hb dX7_isRight_48 ?_
            refine lv_aload_n hx hb dX7_isRight_49 rfl (lv_at hl 0 rfl) ?_
            refine mr_get S h7 hK hw 4 (by decide) (wz_in (zin3 _ (List.mem_of_getElem? (i := 10) rfl))) rfl rfl dX7_isRight_50 ?_
            refine lv_iload_n hx hb dX7_isRight_53 rfl (lv_at hl 1 rfl) ?_
            refine lv_iconst (v := (1 : Int32)) hx hb dX7_isRight_54 (by decide) ?_
            refine lv_iadd hx hb dX7_isRight_55 ?_
            obtain ⟨g_39, hf⟩ := zg_inv hf
            refine mr_bald S hK hw 4 rfl g_39 dX7_isRight_56 ?_
            refine lv_sipush (v := (255 : Int32)) hx hb dX7_isRight_57 (by decide) ?_
            refine lv_iand hx hb dX7_isRight_60 ?_
            refine lv_iadd hx hb dX7_isRight_61 ?_
            refine lv_aload_n hx hb dX7_isRight_62 rfl (lv_at hl 0 rfl) ?_
            refine mr_get S h7 hK hw 3 (by decide) (wz_in (zin5 _ (List.mem_of_getElem? (i := 9) rfl))) rfl rfl dX7_isRight_63 ?_
            refine lv_icmp_gt (tgt := 73) hx hb dX7_isRight_66 (by decide) (fun c_40 => ?_) (fun c_40 => ?_)
            · have hf := (zi_t c_40).symm.trans hf
              exact B73 K hKK _ _ _ _ _ _ _ _ hf hw hS (lv_sub hl [0, 1, 2, 3, 4] rfl)
            · have hf := (zi_f c_40).symm.trans hf
              refine lv_iconst (v := (1 : Int32)) hx hb dX7_isRight_69 (by decide) ?_
              refine lv_goto (tgt := 74) hx hb dX7_isRight_70 (by decide) ?_
              exact B74 K hKK _ _ _ _ _ _ _ _ _ hf hw hS (lv_sub hl [0, 1, 2, 3, 4] rfl)
  have L9 : ∀ (n : Nat) (τ : MS) (x1 : Int32) (x2 : Int32) (x3 : Int32) (x4 : Int32) (H : Heap) (locs : List Loc) (ls : Array Slot) (hf : k_X7_isRight_l9 n τ x1 x2 x3 x4 = some (r, τ')) (hw : zw D A ad (mG cy ad τ) H) (hS : va_S A s.heap H locs) (hl : lv_has ls 5 [(0, .ref (ad 0)), (1, .int x1), (2, .int x2), (3, .int x3), (4, .int x4)]), W p l e (headSpec (wz yX7_isRight cX7_isRight 5 (some .boolean)) ({ frames := 1, cells := 0, slots := 0, locals := 22 } : Room)).room s m ([.ref (ad 0)] : List Value).toArray below meth c H locs 0 0 (MQ below (va_Qi (fun (r' : Int32) (u : MS) => r' = r ∧ u = τ') (MWp D cy A ad) A) ([.ref (ad 0)] : List Value).toArray s 0 0 A) (F0 m 9 ls []) := by
    intro n
    induction n with
    | zero =>
      intro τ x1 x2 x3 x4 H locs ls hf hw hS hl
      rw [k_X7_isRight_l9_z] at hf
      cases hf
    | succ n ih =>
      intro τ x1 x2 x3 x4 H locs ls hf hw hS hl
      rw [k_X7_isRight_l9_s] at hf
      exact S9 (k_X7_isRight_l9 n) ih τ x1 x2 x3 x4 H locs ls hf hw hS hl
  rw [k_X7_isRight] at hf
  refine lv_iconst (v := (0 : Int32)) hx hb dX7_isRight_0 (by decide) ?_
  refine lv_istore_n (lv' := [(1, .int (0 : Int32)), (0, .ref (ad 0))]) hx hb dX7_isRight_1 rfl hl (by decide) rfl (fun ls hl => ?_)
  refine lv_iconst (v := (0 : Int32)) hx hb dX7_isRight_2 (by decide) ?_
  refine lv_istore_n (lv' := [(2, .int (0 : Int32)), (1, .int (0 : Int32)), (0, .ref (ad 0))]) hx hb dX7_isRight_3 rfl hl (by decide) rfl (fun ls hl => ?_)
  refine lv_iconst (v := (0 : Int32)) hx hb dX7_isRight_4 (by decide) ?_
  refine lv_istore_n (lv' := [(3, .int (0 : Int32)), (2, .int (0 : Int32)), (1, .int (0 : Int32)), (0, .ref (ad 0))]) hx hb dX7_isRight_5 rfl hl (by decide) rfl (fun ls hl => ?_)
  refine lv_iconst (v := (1 : Int32)) hx hb dX7_isRight_6 (by decide) ?_
  refine lv_istore (lv' := [(4, .int (1 : Int32)), (3, .int (0 : Int32)), (2, .int (0 : Int32)), (1, .int (0 : Int32)), (0, .ref (ad 0))]) hx hb dX7_isRight_7 hl (by decide) rfl (fun ls hl => ?_)
  exact L9 FU _ _ _ _ _ _ _ _ hf hw hS (lv_sub hl [4, 3, 2, 1, 0] rfl)
noncomputable def k_X7_runnable_b233 (x1 : Int32) (τ : MS) (y0 : Int32) (x2 : Int32) (x3 : Int32) (x4 : Int32) (x5 : Int32) (x6 : Int32) : Option (Int32 × MS) := some (y0, τ)
noncomputable def k_X7_runnable_b220 (x1 : Int32) (τ : MS) (y0 : Int32) (x2 : Int32) (x3 : Int32) (x4 : Int32) (x5 : Int32) (x6 : Int32) : Option (Int32 × MS) := zi (x1 = 0) (k_X7_runnable_b233 x1 (mI τ 5 y0) x3 x2 x3 x4 x5 x6) (k_X7_runnable_b233 x1 (mI τ 5 y0) x4 x2 x3 x4 x5 x6)
noncomputable def k_X7_runnable_s144 (x1 : Int32) (K : MS → Int32 → Int32 → Int32 → Int32 → Int32 → Option (Int32 × MS)) (τ : MS) (x2 : Int32) (x3 : Int32) (x4 : Int32) (x5 : Int32) (x6 : Int32) : Option (Int32 × MS) := zi ((mi τ 3) ≤ x6) (zg (vp_in x5 180) (zg (vp_in x3 21) (zi (x3 ≤ (mi (mR (mI (mR τ 8 x5.toNatClampNeg (mi τ 3)) 3 (0 : Int32)) 6 x3.toNatClampNeg x4) 5)) (k_X7_runnable_b220 x1 (mR (mI (mR τ 8 x5.toNatClampNeg (mi τ 3)) 3 (0 : Int32)) 6 x3.toNatClampNeg x4) (mi (mR (mI (mR τ 8 x5.toNatClampNeg (mi τ 3)) 3 (0 : Int32)) 6 x3.toNatClampNeg x4) 5) x2 x3 x4 x5 x6) (k_X7_runnable_b220 x1 (mR (mI (mR τ 8 x5.toNatClampNeg (mi τ 3)) 3 (0 : Int32)) 6 x3.toNatClampNeg x4) x3 x2 x3 x4 x5 x6)))) (zg (vp_in x6 120) (zg (vp_in (((120 : Int32) * x5) + x6) 21600) (K (mR τ 7 (((120 : Int32) * x5) + x6).toNatClampNeg (vp_nar .byte (mr τ 4 x6.toNatClampNeg))) x2 x3 x4 x5 (x6 + (1 : Int32)))))
noncomputable def k_X7_runnable_l144 (x1 : Int32) : Nat → MS → Int32 → Int32 → Int32 → Int32 → Int32 → Option (Int32 × MS)
  | 0 => fun _ _ _ _ _ _ => none
  | n + 1 => fun τ x2 x3 x4 x5 x6 => k_X7_runnable_s144 x1 (k_X7_runnable_l144 x1 n) τ x2 x3 x4 x5 x6
theorem k_X7_runnable_l144_s (x1 : Int32) (n : Nat) (τ : MS) (x2 : Int32) (x3 : Int32) (x4 : Int32) (x5 : Int32) (x6 : Int32) : k_X7_runnable_l144 x1 (n + 1) τ x2 x3 x4 x5 x6 = k_X7_runnable_s144 x1 (k_X7_runnable_l144 x1 n) τ x2 x3 x4 x5 x6 := rfl
theorem k_X7_runnable_l144_z (x1 : Int32) (τ : MS) (x2 : Int32) (x3 : Int32) (x4 : Int32) (x5 : Int32) (x6 : Int32) : k_X7_runnable_l144 x1 0 τ x2 x3 x4 x5 x6 = none := rfl
noncomputable def k_X7_runnable_b118 (x1 : Int32) (τ : MS) (y0 : Int32) (x2 : Int32) (x3 : Int32) (x4 : Int32) : Option (Int32 × MS) := some (y0, τ)
noncomputable def k_X7_runnable_b92 (x1 : Int32) (τ : MS) (y0 : Int32) (x2 : Int32) (x3 : Int32) : Option (Int32 × MS) := zi (x2 = 0) (zb (k_X7_place τ x3 y0) (fun r_51 t_52 => zb (k_X7_cutUp t_52 r_51) (fun r_54 t_55 => zi (r_54 = 0) (zb (k_X7_empties t_55) (fun r_58 t_59 => some (r_58, t_59))) (k_X7_runnable_l144 x1 FU t_55 x2 x3 y0 r_51 (0 : Int32))))) (zb (k_X7_isRight τ) (fun r_61 t_62 => zi (r_61 = 0) (zb (k_X7_empties t_62) (fun r_65 t_66 => k_X7_runnable_b118 x1 t_66 r_65 x2 x3 y0)) (zb (k_X7_refuse t_62 (-4 : Int32)) (fun r_68 t_69 => k_X7_runnable_b118 x1 t_69 r_68 x2 x3 y0))))
noncomputable def k_X7_runnable_b75 (x1 : Int32) (τ : MS) (y0 : Int32) (x2 : Int32) : Option (Int32 × MS) := zi (x1 = 0) (k_X7_runnable_b92 x1 τ (1 : Int32) x2 y0) (zg (vp_in x1 21) (k_X7_runnable_b92 x1 τ ((mr τ 6 x1.toNatClampNeg) + (1 : Int32)) x2 y0))
noncomputable def k_X7_runnable_b60 (x1 : Int32) (τ : MS) (y0 : Int32) : Option (Int32 × MS) := zi (x1 = 0) (k_X7_runnable_b75 x1 τ ((mi τ 5) + (1 : Int32)) y0) (k_X7_runnable_b75 x1 τ x1 y0)
noncomputable def k_X7_runnable (τ : MS) (x1 : Int32) : Option (Int32 × MS) := zb (k_X7_in (mI τ 0 (0 : Int32)) x1 (0 : Int32) (mi (mI τ 0 (0 : Int32)) 5)) (fun r_74 t_75 => zi (r_74 = 0) (zb (k_X7_refuse t_75 (-1 : Int32)) (fun r_82 t_83 => some (r_82, t_83))) (zi (x1 = 0) (zi ((mi t_75 5) = (20 : Int32)) (k_X7_runnable_b60 x1 t_75 (1 : Int32)) (k_X7_runnable_b60 x1 t_75 (0 : Int32))) (zg (vp_in x1 21) (zi ((mr t_75 6 x1.toNatClampNeg) = (9 : Int32)) (k_X7_runnable_b60 x1 t_75 (1 : Int32)) (k_X7_runnable_b60 x1 t_75 (0 : Int32))))))
set_option maxHeartbeats 4000000 in
set_option maxRecDepth 100000 in
theorem kc_X7_runnable (l : Launch) (D : va_G) (cy : Nat → ClassId) (A : Nat → Prop) (ad : Nat → Nat) (τ τ' : MS) (x1 : Int32) (r : Int32) (hf : k_X7_runnable τ x1 = some (r, τ')) : Met l yX7_runnable (wz yX7_runnable cX7_runnable 7 (some .int)) ({ frames := 2, cells := 0, slots := 0, locals := 48 } : Room) (va_Pc [.ref (ad 0), .int x1] (MWs D cy A ad τ)) (va_Qi (fun (r' : Int32) (u : MS) => r' = r ∧ u = τ') (MWp D cy A ad) A) 0 0 A := by
  refine Met.ofW (cc := cX7_runnable) (maxL := 7) (ret := (some .int)) (by decide) rfl ?_
  intro p e s m args below meth c s₁ B hml hv
  obtain ⟨rfl, hw, hK⟩ := hv
  have hx := B.exec
  have hb := B.bytes
  have hr := B.returns
  have hts := atoms_spec (ws := (wz yX7_runnable cX7_runnable 7 (some .int))) B.pre
  have hown : s.vm.findClass RX7 = some m.cls := findClass_of_methodNamed B.named
  have hlocks := B.notSynchronized
  have S : CallFix p m c cX7_runnable 7 s ([.ref (ad 0), .int x1] : List Value).toArray (wz yX7_runnable cX7_runnable 7 (some .int)) RX7 := ⟨hx, hb, hml, hown, hts⟩
  have h7 : ∀ w ∈ wsX70, w ∈ (wz yX7_runnable cX7_runnable 7 (some .int)) := fun w h => wz_in (inlX7 w h)
  have hS : va_S A s.heap s.heap [] := va_S.rf
  have hl := lv_entry ([.ref (ad 0), .int x1]) (n := 7) (Nat.le_of_ble_eq_true rfl)
  rw [lg_entry_eq]
  generalize (lg_sl ([.ref (ad 0), .int x1]) ++ List.replicate (7 - (lg_sl ([.ref (ad 0), .int x1])).length) Slot.unset).toArray = ls at hl ⊢
  have hl : lv_has ls 7 [(0, .ref (ad 0)), (1, .int x1)] := hl
  have B233 : ∀ (τ : MS) (y0 : Int32) (x2 : Int32) (x3 : Int32) (x4 : Int32) (x5 : Int32) (x6 : Int32) (H : Heap) (locs : List Loc) (ls : Array Slot) (hf : k_X7_runnable_b233 x1 τ y0 x2 x3 x4 x5 x6 = some (r, τ')) (hw : zw D A ad (mG cy ad τ) H) (hS : va_S A s.heap H locs) (hl : lv_has ls 7 [(0, .ref (ad 0)), (1, .int x1), (2, .int x2), (3, .int x3), (4, .int x4), (5, .int x5), (6, .int x6)]), W p l e (headSpec (wz yX7_runnable cX7_runnable 7 (some .int)) ({ frames := 2, cells := 0, slots := 0, locals := 48 } : Room)).room s m ([.ref (ad 0), .int x1] : List Value).toArray below meth c H locs 0 0 (MQ below (va_Qi (fun (r' : Int32) (u : MS) => r' = r ∧ u = τ') (MWp D cy A ad) A) ([.ref (ad 0), .int x1] : List Value).toArray s 0 0 A) (F0 m 233 ls [.int y0]) := by
    intro τ y0 x2 x3 x4 x5 x6 H locs ls hf hw hS hl
    rw [k_X7_runnable_b233] at hf
    exact mw_reti S hr hf hw hS hlocks dX7_runnable_233
  have B220 : ∀ (τ : MS) (y0 : Int32) (x2 : Int32) (x3 : Int32) (x4 : Int32) (x5 : Int32) (x6 : Int32) (H : Heap) (locs : List Loc) (ls : Array Slot) (hf : k_X7_runnable_b220 x1 τ y0 x2 x3 x4 x5 x6 = some (r, τ')) (hw : zw D A ad (mG cy ad τ) H) (hS : va_S A s.heap H locs) (hl : lv_has ls 7 [(0, .ref (ad 0)), (1, .int x1), (2, .int x2), (3, .int x3), (4, .int x4), (5, .int x5), (6, .int x6)]), W p l e (headSpec (wz yX7_runnable cX7_runnable 7 (some .int)) ({ frames := 2, cells := 0, slots := 0, locals := 48 } : Room)).room s m ([.ref (ad 0), .int x1] : List Value).toArray below meth c H locs 0 0 (MQ below (va_Qi (fun (r' : Int32) (u : MS) => r' = r ∧ u = τ') (MWp D cy A ad) A) ([.ref (ad 0), .int x1] : List Value).toArray s 0 0 A) (F0 m 220 ls [.int y0, .ref (ad 0)]) := by
    intro τ y0 x2 x3 x4 x5 x6 H locs ls hf hw hS hl
    rw [k_X7_runnable_b220] at hf
    refine mr_put S h7 hK hw hS 5 (by decide) (wz_in (zin8 _ (List.mem_of_getElem? (i := 13) rfl))) rfl rfl rfl (mput_5 _ _ _ _) dX7_runnable_220 (fun H locs hw hS => ?_)
    refine lv_iload_n hx hb dX7_runnable_223 rfl (lv_at hl 1 rfl) ?_
    refine lv_if_ne (tgt := 231) hx hb dX7_runnable_224 (by decide) (fun c_43 => ?_) (fun c_43 => ?_)
    · have hf := (zi_f c_43).symm.trans hf
      refine lv_iload hx hb dX7_runnable_231 (lv_at hl 4 rfl) ?_
      exact B233 _ _ _ _ _ _ _ _ _ _ hf hw hS (lv_sub hl [0, 1, 2, 3, 4, 5, 6] rfl)
    · have hf := (zi_t c_43).symm.trans hf
      refine lv_iload_n hx hb dX7_runnable_227 rfl (lv_at hl 3 rfl) ?_
      refine lv_goto (tgt := 233) hx hb dX7_runnable_228 (by decide) ?_
      exact B233 _ _ _ _ _ _ _ _ _ _ hf hw hS (lv_sub hl [0, 1, 2, 3, 4, 5, 6] rfl)
  have S144 : ∀ (K : MS → Int32 → Int32 → Int32 → Int32 → Int32 → Option (Int32 × MS)) (_hKK : ∀ (τ : MS) (x2 : Int32) (x3 : Int32) (x4 : Int32) (x5 : Int32) (x6 : Int32) (H : Heap) (locs : List Loc) (ls : Array Slot) (hf : K τ x2 x3 x4 x5 x6 = some (r, τ')) (hw : zw D A ad (mG cy ad τ) H) (hS : va_S A s.heap H locs) (hl : lv_has ls 7 [(0, .ref (ad 0)), (1, .int x1), (2, .int x2), (3, .int x3), (4, .int x4), (5, .int x5), (6, .int x6)]), W p l e (headSpec (wz yX7_runnable cX7_runnable 7 (some .int)) ({ frames := 2, cells := 0, slots := 0, locals := 48 } : Room)).room s m ([.ref (ad 0), .int x1] : List Value).toArray below meth c H locs 0 0 (MQ below (va_Qi (fun (r' : Int32) (u : MS) => r' = r ∧ u = τ') (MWp D cy A ad) A) ([.ref (ad 0), .int x1] : List Value).toArray s 0 0 A) (F0 m 144 ls [])) (τ : MS) (x2 : Int32) (x3 : Int32) (x4 : Int32) (x5 : Int32) (x6 : Int32) (H : Heap) (locs : List Loc) (ls : Array Slot) (hf : k_X7_runnable_s144 x1 K τ x2 x3 x4 x5 x6 = some (r, τ')) (hw : zw D A ad (mG cy ad τ) H) (hS : va_S A s.heap H locs) (hl : lv_has ls 7 [(0, .ref (ad 0)), (1, .int x1), (2, .int x2), (3, .int x3), (4, .int x4), (5, .int x5), (6, .int x6)]), W p l e (headSpec (wz yX7_runnable cX7_runnable 7 (some .int)) ({ frames := 2, cells := 0, slots := 0, locals := 48 } : Room)).room s m ([.ref (ad 0), .int x1] : List Value).toArray below meth c H locs 0 0 (MQ below (va_Qi (fun (r' : Int32) (u : MS) => r' = r ∧ u = τ') (MWp D cy A ad) A) ([.ref (ad 0), .int x1] : List Value).toArray s 0 0 A) (F0 m 144 ls []) := by
    intro K hKK τ x2 x3 x4 x5 x6 H locs ls hf hw hS hl
    rw [k_X7_runnable_s144] at hf
    refine lv_iload hx hb dX7_runnable_144 (lv_at hl 6 rfl) ?_
    refine lv_aload_n hx hb dX7_runnable_146 rfl (lv_at hl 0 rfl) ?_
    refine mr_get S h7 hK hw 3 (by decide) (wz_in (zin5 _ (List.mem_of_getElem? (i := 9) rfl))) rfl rfl dX7_runnable_147 ?_
    refine lv_icmp_ge (tgt := 179) hx hb dX7_runnable_150 (by decide) (fun c_44 => ?_) (fun c_44 => ?_)
    · have hf := (zi_t c_44).symm.trans hf
      refine lv_aload_n hx hb dX7_runnable_179 rfl (lv_at hl 0 rfl) ?_
      refine mr_get S h7 hK hw 8 (by decide) (wz_in (zin3 _ (List.mem_of_getElem? (i := 14) rfl))) rfl rfl dX7_runnable_180 ?_
      refine lv_iload hx hb dX7_runnable_183 (lv_at hl 5 rfl) ?_
      refine lv_aload_n hx hb dX7_runnable_185 rfl (lv_at hl 0 rfl) ?_
      refine mr_get S h7 hK hw 3 (by decide) (wz_in (zin5 _ (List.mem_of_getElem? (i := 9) rfl))) rfl rfl dX7_runnable_186 ?_
      obtain ⟨g_45, hf⟩ := zg_inv hf
      refine mr_iast S hK hw hS 8 rfl g_45 rfl dX7_runnable_189 (fun H locs hw hS => ?_)
      refine lv_aload_n hx hb dX7_runnable_190 rfl (lv_at hl 0 rfl) ?_
      refine lv_iconst (v := (0 : Int32)) hx hb dX7_runnable_191 (by decide) ?_
      refine mr_put S h7 hK hw hS 3 (by decide) (wz_in (zin5 _ (List.mem_of_getElem? (i := 9) rfl))) rfl rfl rfl (mput_3 _ _ _ _) dX7_runnable_192 (fun H locs hw hS => ?_)
      refine lv_aload_n hx hb dX7_runnable_195 rfl (lv_at hl 0 rfl) ?_
      refine mr_get S h7 hK hw 6 (by decide) (wz_in (zin3 _ (List.mem_of_getElem? (i := 12) rfl))) rfl rfl dX7_runnable_196 ?_
      refine lv_iload_n hx hb dX7_runnable_199 rfl (lv_at hl 3 rfl) ?_
      refine lv_iload hx hb dX7_runnable_200 (lv_at hl 4 rfl) ?_
      obtain ⟨g_46, hf⟩ := zg_inv hf
      refine mr_iast S hK hw hS 6 rfl g_46 rfl dX7_runnable_202 (fun H locs hw hS => ?_)
      refine lv_aload_n hx hb dX7_runnable_203 rfl (lv_at hl 0 rfl) ?_
      refine lv_iload_n hx hb dX7_runnable_204 rfl (lv_at hl 3 rfl) ?_
      refine lv_aload_n hx hb dX7_runnable_205 rfl (lv_at hl 0 rfl) ?_
      refine mr_get S h7 hK hw 5 (by decide) (wz_in (zin8 _ (List.mem_of_getElem? (i := 13) rfl))) rfl rfl dX7_runnable_206 ?_
      refine lv_icmp_le (tgt := 216) hx hb dX7_runnable_209 (by decide) (fun c_47 => ?_) (fun c_47 => ?_)
      · have hf := (zi_t c_47).symm.trans hf
        refine lv_aload_n hx hb dX7_runnable_216 rfl (lv_at hl 0 rfl) ?_
        refine mr_get S h7 hK hw 5 (by decide) (wz_in (zin8 _ (List.mem_of_getElem? (i := 13) rfl))) rfl rfl dX7_runnable_217 ?_
        exact B220 _ _ _ _ _ _ _ _ _ _ hf hw hS (lv_sub hl [0, 1, 2, 3, 4, 5, 6] rfl)
      · have hf := (zi_f c_47).symm.trans hf
        refine lv_iload_n hx hb dX7_runnable_212 rfl (lv_at hl 3 rfl) ?_
        refine lv_goto (tgt := 220) hx hb dX7_runnable_213 (by decide) ?_
        exact B220 _ _ _ _ _ _ _ _ _ _ hf hw hS (lv_sub hl [0, 1, 2, 3, 4, 5, 6] rfl)
    · have hf := (zi_f c_44).symm.trans hf
      refine lv_aload_n hx hb dX7_runnable_153 rfl (lv_at hl 0 rfl) ?_
      refine mr_get S h7 hK hw 7 (by decide) (wz_in (zin3 _ (List.mem_of_getElem? (i := 13) rfl))) rfl rfl dX7_runnable_154 ?_
      refine lv_bipush (v := (120 : Int32)) hx hb dX7_runnable_157 (by decide) ?_
      refine lv_iload hx hb dX7_runnable_159 (lv_at hl 5 rfl) ?_
      refine lv_imul hx hb dX7_runnable_161 ?_
      refine lv_iload hx hb dX7_runnable_162 (lv_at hl 6 rfl) ?_
      refine lv_iadd hx hb dX7_runnable_164 ?_
      refine lv_aload_n hx hb dX7_runnable_165 rfl (lv_at hl 0 rfl) ?_
      refine mr_get S h7 hK hw 4 (by decide) (wz_in (zin3 _ (List.mem_of_getElem? (i := 10) rfl))) rfl rfl dX7_runnable_166 ?_
      refine lv_iload hx hb dX7_runnable_169 (lv_at hl 6 rfl) ?_
      obtain ⟨g_48, hf⟩ := zg_inv hf
      refine mr_bald S hK hw 4 rfl g_48 dX7_runnable_171 ?_
      obtain ⟨g_49, hf⟩ := zg_inv hf
      refine mr_bast S hK hw hS 7 rfl g_49 rfl dX7_runnable_172 (fun H locs hw hS => ?_)
      refine lv_iinc (v := x6 + (1 : Int32)) (lv' := [(6, .int (x6 + (1 : Int32))), (0, .ref (ad 0)), (1, .int x1), (2, .int x2), (3, .int x3), (4, .int x4), (5, .int x5)]) hx hb dX7_runnable_173 hl (k := 6) rfl rfl (by decide) rfl (fun ls hl => ?_)
      refine lv_goto (tgt := 144) hx hb dX7_runnable_176 (by decide) ?_
      exact hKK _ _ _ _ _ _ _ _ _ hf hw hS (lv_sub hl [1, 2, 3, 4, 5, 6, 0] rfl)
  have L144 : ∀ (n : Nat) (τ : MS) (x2 : Int32) (x3 : Int32) (x4 : Int32) (x5 : Int32) (x6 : Int32) (H : Heap) (locs : List Loc) (ls : Array Slot) (hf : k_X7_runnable_l144 x1 n τ x2 x3 x4 x5 x6 = some (r, τ')) (hw : zw D A ad (mG cy ad τ) H) (hS : va_S A s.heap H locs) (hl : lv_has ls 7 [(0, .ref (ad 0)), (1, .int x1), (2, .int x2), (3, .int x3), (4, .int x4), (5, .int x5), (6, .int x6)]), W p l e (headSpec (wz yX7_runnable cX7_runnable 7 (some .int)) ({ frames := 2, cells := 0, slots := 0, locals := 48 } : Room)).room s m ([.ref (ad 0), .int x1] : List Value).toArray below meth c H locs 0 0 (MQ below (va_Qi (fun (r' : Int32) (u : MS) => r' = r ∧ u = τ') (MWp D cy A ad) A) ([.ref (ad 0), .int x1] : List Value).toArray s 0 0 A) (F0 m 144 ls []) := by
    intro n
    induction n with
    | zero =>
      intro τ x2 x3 x4 x5 x6 H locs ls hf hw hS hl
      rw [k_X7_runnable_l144_z] at hf
      cases hf
    | succ n ih =>
      intro τ x2 x3 x4 x5 x6 H locs ls hf hw hS hl
      rw [k_X7_runnable_l144_s] at hf
      exact S144 (k_X7_runnable_l144 x1 n) ih τ x2 x3 x4 x5 x6 H locs ls hf hw hS hl
  have B118 : ∀ (τ : MS) (y0 : Int32) (x2 : Int32) (x3 : Int32) (x4 : Int32) (H : Heap) (locs : List Loc) (ls : Array Slot) (hf : k_X7_runnable_b118 x1 τ y0 x2 x3 x4 = some (r, τ')) (hw : zw D A ad (mG cy ad τ) H) (hS : va_S A s.heap H locs) (hl : lv_has ls 7 [(0, .ref (ad 0)), (1, .int x1), (2, .int x2), (3, .int x3), (4, .int x4)]), W p l e (headSpec (wz yX7_runnable cX7_runnable 7 (some .int)) ({ frames := 2, cells := 0, slots := 0, locals := 48 } : Room)).room s m ([.ref (ad 0), .int x1] : List Value).toArray below meth c H locs 0 0 (MQ below (va_Qi (fun (r' : Int32) (u : MS) => r' = r ∧ u = τ') (MWp D cy A ad) A) ([.ref (ad 0), .int x1] : List Value).toArray s 0 0 A) (F0 m 118 ls [.int y0]) := by
    intro τ y0 x2 x3 x4 H locs ls hf hw hS hl
    rw [k_X7_runnable_b118] at hf
    exact mw_reti S hr hf hw hS hlocks dX7_runnable_118
  have B92 : ∀ (τ : MS) (y0 : Int32) (x2 : Int32) (x3 : Int32) (H : Heap) (locs : List Loc) (ls : Array Slot) (hf : k_X7_runnable_b92 x1 τ y0 x2 x3 = some (r, τ')) (hw : zw D A ad (mG cy ad τ) H) (hS : va_S A s.heap H locs) (hl : lv_has ls 7 [(0, .ref (ad 0)), (1, .int x1), (2, .int x2), (3, .int x3)]), W p l e (headSpec (wz yX7_runnable cX7_runnable 7 (some .int)) ({ frames := 2, cells := 0, slots := 0, locals := 48 } : Room)).room s m ([.ref (ad 0), .int x1] : List Value).toArray below meth c H locs 0 0 (MQ below (va_Qi (fun (r' : Int32) (u : MS) => r' = r ∧ u = τ') (MWp D cy A ad) A) ([.ref (ad 0), .int x1] : List Value).toArray s 0 0 A) (F0 m 92 ls [.int y0]) := by
    intro τ y0 x2 x3 H locs ls hf hw hS hl
    rw [k_X7_runnable_b92] at hf
    refine lv_istore (lv' := [(4, .int y0), (0, .ref (ad 0)), (1, .int x1), (2, .int x2), (3, .int x3)]) hx hb dX7_runnable_92 hl (by decide) rfl (fun ls hl => ?_)
    refine lv_iload_n hx hb dX7_runnable_94 rfl (lv_at hl 3 rfl) ?_
    refine lv_if_eq (tgt := 119) hx hb dX7_runnable_95 (by decide) (fun c_50 => ?_) (fun c_50 => ?_)
    · have hf := (zi_t c_50).symm.trans hf
      refine lv_iload_n hx hb dX7_runnable_119 rfl (lv_at hl 4 rfl) ?_
      refine lv_iload hx hb dX7_runnable_120 (lv_at hl 0 rfl) ?_
      obtain ⟨r_51, t_52, e_53, hf⟩ := zb_inv hf
      refine mw_si (As := [.int x3, .int y0]) (rest := []) (n := 2) S (kc_X7_place l D cy A ad _ _ _ _ _ e_53) (wz_S (zin9 _ (List.mem_of_getElem? (i := 0) rfl)) (zin8 _ (List.mem_of_getElem? (i := 22) rfl)) (zin8 _ (List.mem_of_getElem? (i := 23) rfl)) (zin1 _ (List.mem_of_getElem? (i := 5) rfl))) rfl ⟨rfl, rfl⟩ (by decide +kernel) ⟨Nat.le_of_ble_eq_true rfl, Nat.le_of_ble_eq_true rfl⟩ rfl hl.1 rfl (Nat.le_of_ble_eq_true rfl) hK hw hS dX7_runnable_122 ⟨Nat.zero_le _, Nat.zero_le _⟩ (fun H locs hw hS => ?_)
      refine lv_istore (lv' := [(5, .int r_51), (4, .int y0), (0, .ref (ad 0)), (1, .int x1), (2, .int x2), (3, .int x3)]) hx hb dX7_runnable_125 hl (by decide) rfl (fun ls hl => ?_)
      refine lv_aload_n hx hb dX7_runnable_127 rfl (lv_at hl 2 rfl) ?_
      refine lv_iload hx hb dX7_runnable_128 (lv_at hl 0 rfl) ?_
      obtain ⟨r_54, t_55, e_56, hf⟩ := zb_inv hf
      refine mw_ci (As := [.int r_51]) (rest := []) (n := 1) S (kc_X7_cutUp l D cy A ad _ _ _ _ e_56) (wz_V (zin9 _ (List.mem_of_getElem? (i := 4) rfl)) (zin9 _ (List.mem_of_getElem? (i := 1) rfl)) (zin9 _ (List.mem_of_getElem? (i := 2) rfl)) (zin9 _ (List.mem_of_getElem? (i := 3) rfl)) (zin1 _ (List.mem_of_getElem? (i := 5) rfl))) rfl ⟨rfl, rfl⟩ (by decide +kernel) ⟨Nat.le_of_ble_eq_true rfl, Nat.le_of_ble_eq_true rfl⟩ rfl hl.1 rfl (Nat.le_of_ble_eq_true rfl) hK hw hS dX7_runnable_130 ⟨Nat.zero_le _, Nat.zero_le _⟩ (fun H locs hw hS => ?_)
      refine lv_if_ne (tgt := 141) hx hb dX7_runnable_133 (by decide) (fun c_57 => ?_) (fun c_57 => ?_)
      · have hf := (zi_f c_57).symm.trans hf
        refine lv_iconst (v := (0 : Int32)) hx hb dX7_runnable_141 (by decide) ?_
        refine lv_istore (lv' := [(6, .int (0 : Int32)), (5, .int r_51), (4, .int y0), (0, .ref (ad 0)), (1, .int x1), (2, .int x2), (3, .int x3)]) hx hb dX7_runnable_142 hl (by decide) rfl (fun ls hl => ?_)
        exact L144 FU _ _ _ _ _ _ _ _ _ hf hw hS (lv_sub hl [3, 4, 5, 6, 2, 1, 0] rfl)
      · have hf := (zi_t c_57).symm.trans hf
        refine lv_aload_n hx hb dX7_runnable_136 rfl (lv_at hl 2 rfl) ?_
        obtain ⟨r_58, t_59, e_60, hf⟩ := zb_inv hf
        refine mw_ci (As := []) (rest := []) (n := 0) S (kc_X7_empties l D cy A ad _ _ _ e_60) (wz_V (zin8 _ (List.mem_of_getElem? (i := 21) rfl)) (zin8 _ (List.mem_of_getElem? (i := 18) rfl)) (zin8 _ (List.mem_of_getElem? (i := 19) rfl)) (zin8 _ (List.mem_of_getElem? (i := 20) rfl)) (zin1 _ (List.mem_of_getElem? (i := 5) rfl))) rfl ⟨rfl, rfl⟩ (by decide +kernel) ⟨Nat.le_of_ble_eq_true rfl, Nat.le_of_ble_eq_true rfl⟩ rfl hl.1 rfl (Nat.le_of_ble_eq_true rfl) hK hw hS dX7_runnable_137 ⟨Nat.zero_le _, Nat.zero_le _⟩ (fun H locs hw hS => ?_)
        exact mw_reti S hr hf hw hS hlocks dX7_runnable_140
    · have hf := (zi_f c_50).symm.trans hf
      refine lv_aload_n hx hb dX7_runnable_98 rfl (lv_at hl 1 rfl) ?_
      obtain ⟨r_61, t_62, e_63, hf⟩ := zb_inv hf
      refine mw_ci (As := []) (rest := []) (n := 0) S (kc_X7_isRight l D cy A ad _ _ _ e_63) (wz_V (zin8 _ (List.mem_of_getElem? (i := 17) rfl)) (zin8 _ (List.mem_of_getElem? (i := 14) rfl)) (zin8 _ (List.mem_of_getElem? (i := 15) rfl)) (zin8 _ (List.mem_of_getElem? (i := 16) rfl)) (zin1 _ (List.mem_of_getElem? (i := 5) rfl))) rfl ⟨rfl, rfl⟩ (by decide +kernel) ⟨Nat.le_of_ble_eq_true rfl, Nat.le_of_ble_eq_true rfl⟩ rfl hl.1 rfl (Nat.le_of_ble_eq_true rfl) hK hw hS dX7_runnable_99 ⟨Nat.zero_le _, Nat.zero_le _⟩ (fun H locs hw hS => ?_)
      refine lv_if_eq (tgt := 114) hx hb dX7_runnable_102 (by decide) (fun c_64 => ?_) (fun c_64 => ?_)
      · have hf := (zi_t c_64).symm.trans hf
        refine lv_aload_n hx hb dX7_runnable_114 rfl (lv_at hl 1 rfl) ?_
        obtain ⟨r_65, t_66, e_67, hf⟩ := zb_inv hf
        refine mw_ci (As := []) (rest := []) (n := 0) S (kc_X7_empties l D cy A ad _ _ _ e_67) (wz_V (zin8 _ (List.mem_of_getElem? (i := 21) rfl)) (zin8 _ (List.mem_of_getElem? (i := 18) rfl)) (zin8 _ (List.mem_of_getElem? (i := 19) rfl)) (zin8 _ (List.mem_of_getElem? (i := 20) rfl)) (zin1 _ (List.mem_of_getElem? (i := 5) rfl))) rfl ⟨rfl, rfl⟩ (by decide +kernel) ⟨Nat.le_of_ble_eq_true rfl, Nat.le_of_ble_eq_true rfl⟩ rfl hl.1 rfl (Nat.le_of_ble_eq_true rfl) hK hw hS dX7_runnable_115 ⟨Nat.zero_le _, Nat.zero_le _⟩ (fun H locs hw hS => ?_)
        exact B118 _ _ _ _ _ _ _ _ hf hw hS (lv_sub hl [1, 2, 3, 4, 0] rfl)
      · have hf := (zi_f c_64).symm.trans hf
        refine lv_aload_n hx hb dX7_runnable_105 rfl (lv_at hl 1 rfl) ?_
        refine lv_bipush (v := (-4 : Int32)) hx hb dX7_runnable_106 (by decide) ?_
        obtain ⟨r_68, t_69, e_70, hf⟩ := zb_inv hf
        refine mw_ci (As := [.int (-4 : Int32)]) (rest := []) (n := 1) S (kc_X7_refuse l D cy A ad _ _ _ _ e_70) (wz_V (zin5 _ (List.mem_of_getElem? (i := 16) rfl)) (zin5 _ (List.mem_of_getElem? (i := 13) rfl)) (zin5 _ (List.mem_of_getElem? (i := 14) rfl)) (zin5 _ (List.mem_of_getElem? (i := 15) rfl)) (zin1 _ (List.mem_of_getElem? (i := 5) rfl))) rfl ⟨rfl, rfl⟩ (by decide +kernel) ⟨Nat.le_of_ble_eq_true rfl, Nat.le_of_ble_eq_true rfl⟩ rfl hl.1 rfl (Nat.le_of_ble_eq_true rfl) hK hw hS dX7_runnable_108 ⟨Nat.zero_le _, Nat.zero_le _⟩ (fun H locs hw hS => ?_)
        refine lv_goto (tgt := 118) hx hb dX7_runnable_111 (by decide) ?_
        exact B118 _ _ _ _ _ _ _ _ hf hw hS (lv_sub hl [1, 2, 3, 4, 0] rfl)
  have B75 : ∀ (τ : MS) (y0 : Int32) (x2 : Int32) (H : Heap) (locs : List Loc) (ls : Array Slot) (hf : k_X7_runnable_b75 x1 τ y0 x2 = some (r, τ')) (hw : zw D A ad (mG cy ad τ) H) (hS : va_S A s.heap H locs) (hl : lv_has ls 7 [(0, .ref (ad 0)), (1, .int x1), (2, .int x2)]), W p l e (headSpec (wz yX7_runnable cX7_runnable 7 (some .int)) ({ frames := 2, cells := 0, slots := 0, locals := 48 } : Room)).room s m ([.ref (ad 0), .int x1] : List Value).toArray below meth c H locs 0 0 (MQ below (va_Qi (fun (r' : Int32) (u : MS) => r' = r ∧ u = τ') (MWp D cy A ad) A) ([.ref (ad 0), .int x1] : List Value).toArray s 0 0 A) (F0 m 75 ls [.int y0]) := by
    intro τ y0 x2 H locs ls hf hw hS hl
    rw [k_X7_runnable_b75] at hf
    refine lv_istore_n (lv' := [(3, .int y0), (0, .ref (ad 0)), (1, .int x1), (2, .int x2)]) hx hb dX7_runnable_75 rfl hl (by decide) rfl (fun ls hl => ?_)
    refine lv_iload_n hx hb dX7_runnable_76 rfl (lv_at hl 2 rfl) ?_
    refine lv_if_ne (tgt := 84) hx hb dX7_runnable_77 (by decide) (fun c_71 => ?_) (fun c_71 => ?_)
    · have hf := (zi_f c_71).symm.trans hf
      refine lv_aload_n hx hb dX7_runnable_84 rfl (lv_at hl 1 rfl) ?_
      refine mr_get S h7 hK hw 6 (by decide) (wz_in (zin3 _ (List.mem_of_getElem? (i := 12) rfl))) rfl rfl dX7_runnable_85 ?_
      refine lv_iload_n hx hb dX7_runnable_88 rfl (lv_at hl 2 rfl) ?_
      obtain ⟨g_72, hf⟩ := zg_inv hf
      refine mr_iald S hK hw 6 rfl g_72 dX7_runnable_89 ?_
      refine lv_iconst (v := (1 : Int32)) hx hb dX7_runnable_90 (by decide) ?_
      refine lv_iadd hx hb dX7_runnable_91 ?_
      exact B92 _ _ _ _ _ _ _ hf hw hS (lv_sub hl [1, 2, 3, 0] rfl)
    · have hf := (zi_t c_71).symm.trans hf
      refine lv_iconst (v := (1 : Int32)) hx hb dX7_runnable_80 (by decide) ?_
      refine lv_goto (tgt := 92) hx hb dX7_runnable_81 (by decide) ?_
      exact B92 _ _ _ _ _ _ _ hf hw hS (lv_sub hl [1, 2, 3, 0] rfl)
  have B60 : ∀ (τ : MS) (y0 : Int32) (H : Heap) (locs : List Loc) (ls : Array Slot) (hf : k_X7_runnable_b60 x1 τ y0 = some (r, τ')) (hw : zw D A ad (mG cy ad τ) H) (hS : va_S A s.heap H locs) (hl : lv_has ls 7 [(0, .ref (ad 0)), (1, .int x1)]), W p l e (headSpec (wz yX7_runnable cX7_runnable 7 (some .int)) ({ frames := 2, cells := 0, slots := 0, locals := 48 } : Room)).room s m ([.ref (ad 0), .int x1] : List Value).toArray below meth c H locs 0 0 (MQ below (va_Qi (fun (r' : Int32) (u : MS) => r' = r ∧ u = τ') (MWp D cy A ad) A) ([.ref (ad 0), .int x1] : List Value).toArray s 0 0 A) (F0 m 60 ls [.int y0]) := by
    intro τ y0 H locs ls hf hw hS hl
    rw [k_X7_runnable_b60] at hf
    refine lv_istore_n (lv' := [(2, .int y0), (0, .ref (ad 0)), (1, .int x1)]) hx hb dX7_runnable_60 rfl hl (by decide) rfl (fun ls hl => ?_)
    refine lv_iload_n hx hb dX7_runnable_61 rfl (lv_at hl 2 rfl) ?_
    refine lv_if_ne (tgt := 74) hx hb dX7_runnable_62 (by decide) (fun c_73 => ?_) (fun c_73 => ?_)
    · have hf := (zi_f c_73).symm.trans hf
      refine lv_iload_n hx hb dX7_runnable_74 rfl (lv_at hl 2 rfl) ?_
      exact B75 _ _ _ _ _ _ hf hw hS (lv_sub hl [1, 2, 0] rfl)
    · have hf := (zi_t c_73).symm.trans hf
      refine lv_aload_n hx hb dX7_runnable_65 rfl (lv_at hl 1 rfl) ?_
      refine mr_get S h7 hK hw 5 (by decide) (wz_in (zin8 _ (List.mem_of_getElem? (i := 13) rfl))) rfl rfl dX7_runnable_66 ?_
      refine lv_iconst (v := (1 : Int32)) hx hb dX7_runnable_69 (by decide) ?_
      refine lv_iadd hx hb dX7_runnable_70 ?_
      refine lv_goto (tgt := 75) hx hb dX7_runnable_71 (by decide) ?_
      exact B75 _ _ _ _ _ _ hf hw hS (lv_sub hl [1, 2, 0] rfl)
  rw [k_X7_runnable] at hf
  refine lv_aload_n hx hb dX7_runnable_0 rfl (lv_at hl 0 rfl) ?_
  refine lv_iconst (v := (0 : Int32)) hx hb dX7_runnable_1 (by decide) ?_
  refine mr_put S h7 hK hw hS 0 (by decide) (wz_in (zin5 _ (List.mem_of_getElem? (i := 8) rfl))) rfl rfl rfl (mput_0 _ _ _ _) dX7_runnable_2 (fun H locs hw hS => ?_)
  refine lv_iload_n hx hb dX7_runnable_5 rfl (lv_at hl 1 rfl) ?_
  refine lv_iconst (v := (0 : Int32)) hx hb dX7_runnable_6 (by decide) ?_
  refine lv_aload_n hx hb dX7_runnable_7 rfl (lv_at hl 0 rfl) ?_
  refine mr_get S h7 hK hw 5 (by decide) (wz_in (zin8 _ (List.mem_of_getElem? (i := 13) rfl))) rfl rfl dX7_runnable_8 ?_
  obtain ⟨r_74, t_75, e_76, hf⟩ := zb_inv hf
  refine mw_si (As := [.int x1, .int (0 : Int32), .int (mi (mI τ 0 (0 : Int32)) 5)]) (rest := []) (n := 3) S (kc_X7_in l D cy A ad _ _ _ _ _ _ e_76) (wz_S (zin5 _ (List.mem_of_getElem? (i := 12) rfl)) (zin5 _ (List.mem_of_getElem? (i := 10) rfl)) (zin5 _ (List.mem_of_getElem? (i := 11) rfl)) (zin1 _ (List.mem_of_getElem? (i := 5) rfl))) rfl ⟨rfl, rfl⟩ (by decide +kernel) ⟨Nat.le_of_ble_eq_true rfl, Nat.le_of_ble_eq_true rfl⟩ rfl hl.1 rfl (Nat.le_of_ble_eq_true rfl) hK hw hS dX7_runnable_11 ⟨Nat.zero_le _, Nat.zero_le _⟩ (fun H locs hw hS => ?_)
  refine lv_if_ne (tgt := 23) hx hb dX7_runnable_14 (by decide) (fun c_77 => ?_) (fun c_77 => ?_)
  · have hf := (zi_f c_77).symm.trans hf
    refine lv_iload_n hx hb dX7_runnable_23 rfl (lv_at hl 1 rfl) ?_
    refine lv_if_ne (tgt := 44) hx hb dX7_runnable_24 (by decide) (fun c_78 => ?_) (fun c_78 => ?_)
    · have hf := (zi_f c_78).symm.trans hf
      refine lv_aload_n hx hb dX7_runnable_44 rfl (lv_at hl 0 rfl) ?_
      refine mr_get S h7 hK hw 6 (by decide) (wz_in (zin3 _ (List.mem_of_getElem? (i := 12) rfl))) rfl rfl dX7_runnable_45 ?_
      refine lv_iload_n hx hb dX7_runnable_48 rfl (lv_at hl 1 rfl) ?_
      obtain ⟨g_79, hf⟩ := zg_inv hf
      refine mr_iald S hK hw 6 rfl g_79 dX7_runnable_49 ?_
      refine lv_bipush (v := (9 : Int32)) hx hb dX7_runnable_50 (by decide) ?_
      refine lv_icmp_ne (tgt := 59) hx hb dX7_runnable_52 (by decide) (fun c_80 => ?_) (fun c_80 => ?_)
      · have hf := (zi_f c_80).symm.trans hf
        refine lv_iconst (v := (0 : Int32)) hx hb dX7_runnable_59 (by decide) ?_
        exact B60 _ _ _ _ _ hf hw hS (lv_sub hl [0, 1] rfl)
      · have hf := (zi_t c_80).symm.trans hf
        refine lv_iconst (v := (1 : Int32)) hx hb dX7_runnable_55 (by decide) ?_
        refine lv_goto (tgt := 60) hx hb dX7_runnable_56 (by decide) ?_
        exact B60 _ _ _ _ _ hf hw hS (lv_sub hl [0, 1] rfl)
    · have hf := (zi_t c_78).symm.trans hf
      refine lv_aload_n hx hb dX7_runnable_27 rfl (lv_at hl 0 rfl) ?_
      refine mr_get S h7 hK hw 5 (by decide) (wz_in (zin8 _ (List.mem_of_getElem? (i := 13) rfl))) rfl rfl dX7_runnable_28 ?_
      refine lv_bipush (v := (20 : Int32)) hx hb dX7_runnable_31 (by decide) ?_
      refine lv_icmp_ne (tgt := 40) hx hb dX7_runnable_33 (by decide) (fun c_81 => ?_) (fun c_81 => ?_)
      · have hf := (zi_f c_81).symm.trans hf
        refine lv_iconst (v := (0 : Int32)) hx hb dX7_runnable_40 (by decide) ?_
        refine lv_goto (tgt := 60) hx hb dX7_runnable_41 (by decide) ?_
        exact B60 _ _ _ _ _ hf hw hS (lv_sub hl [0, 1] rfl)
      · have hf := (zi_t c_81).symm.trans hf
        refine lv_iconst (v := (1 : Int32)) hx hb dX7_runnable_36 (by decide) ?_
        refine lv_goto (tgt := 60) hx hb dX7_runnable_37 (by decide) ?_
        exact B60 _ _ _ _ _ hf hw hS (lv_sub hl [0, 1] rfl)
  · have hf := (zi_t c_77).symm.trans hf
    refine lv_aload_n hx hb dX7_runnable_17 rfl (lv_at hl 0 rfl) ?_
    refine lv_iconst (v := (-1 : Int32)) hx hb dX7_runnable_18 (by decide) ?_
    obtain ⟨r_82, t_83, e_84, hf⟩ := zb_inv hf
    refine mw_ci (As := [.int (-1 : Int32)]) (rest := []) (n := 1) S (kc_X7_refuse l D cy A ad _ _ _ _ e_84) (wz_V (zin5 _ (List.mem_of_getElem? (i := 16) rfl)) (zin5 _ (List.mem_of_getElem? (i := 13) rfl)) (zin5 _ (List.mem_of_getElem? (i := 14) rfl)) (zin5 _ (List.mem_of_getElem? (i := 15) rfl)) (zin1 _ (List.mem_of_getElem? (i := 5) rfl))) rfl ⟨rfl, rfl⟩ (by decide +kernel) ⟨Nat.le_of_ble_eq_true rfl, Nat.le_of_ble_eq_true rfl⟩ rfl hl.1 rfl (Nat.le_of_ble_eq_true rfl) hK hw hS dX7_runnable_19 ⟨Nat.zero_le _, Nat.zero_le _⟩ (fun H locs hw hS => ?_)
    exact mw_reti S hr hf hw hS hlocks dX7_runnable_22
noncomputable def k_X7_isController (τ : MS) (x1 : Int32) : Option (Int32 × MS) := zb (k_X7_in τ x1 (0 : Int32) (7 : Int32)) (fun r_5 t_6 => zg (narrow .boolean (.int r_5) = .int r_5) (some (r_5, t_6)))
set_option maxHeartbeats 4000000 in
set_option maxRecDepth 100000 in
theorem kc_X7_isController (l : Launch) (D : va_G) (cy : Nat → ClassId) (A : Nat → Prop) (ad : Nat → Nat) (τ τ' : MS) (x1 : Int32) (r : Int32) (hf : k_X7_isController τ x1 = some (r, τ')) : Met l yX7_isController (wz yX7_isController cX7_isController 2 (some .boolean)) ({ frames := 1, cells := 0, slots := 0, locals := 22 } : Room) (va_Pc [.ref (ad 0), .int x1] (MWs D cy A ad τ)) (va_Qi (fun (r' : Int32) (u : MS) => r' = r ∧ u = τ') (MWp D cy A ad) A) 0 0 A := by
  refine Met.ofW (cc := cX7_isController) (maxL := 2) (ret := (some .boolean)) (by decide) rfl ?_
  intro p e s m args below meth c s₁ B hml hv
  obtain ⟨rfl, hw, hK⟩ := hv
  have hx := B.exec
  have hb := B.bytes
  have hr := B.returns
  have hts := atoms_spec (ws := (wz yX7_isController cX7_isController 2 (some .boolean))) B.pre
  have hown : s.vm.findClass RX7 = some m.cls := findClass_of_methodNamed B.named
  have hlocks := B.notSynchronized
  have S : CallFix p m c cX7_isController 2 s ([.ref (ad 0), .int x1] : List Value).toArray (wz yX7_isController cX7_isController 2 (some .boolean)) RX7 := ⟨hx, hb, hml, hown, hts⟩
  have h7 : ∀ w ∈ wsX70, w ∈ (wz yX7_isController cX7_isController 2 (some .boolean)) := fun w h => wz_in (inlX7 w h)
  have hS : va_S A s.heap s.heap [] := va_S.rf
  have hl := lv_entry ([.ref (ad 0), .int x1]) (n := 2) (Nat.le_of_ble_eq_true rfl)
  rw [lg_entry_eq]
  generalize (lg_sl ([.ref (ad 0), .int x1]) ++ List.replicate (2 - (lg_sl ([.ref (ad 0), .int x1])).length) Slot.unset).toArray = ls at hl ⊢
  have hl : lv_has ls 2 [(0, .ref (ad 0)), (1, .int x1)] := hl
  rw [k_X7_isController] at hf
  refine lv_iload_n hx hb dX7_isController_0 rfl (lv_at hl 1 rfl) ?_
  refine lv_iconst (v := (0 : Int32)) hx hb dX7_isController_1 (by decide) ?_
  refine lv_bipush (v := (7 : Int32)) hx hb dX7_isController_2 (by decide) ?_
  obtain ⟨r_5, t_6, e_7, hf⟩ := zb_inv hf
  refine mw_si (As := [.int x1, .int (0 : Int32), .int (7 : Int32)]) (rest := []) (n := 3) S (kc_X7_in l D cy A ad _ _ _ _ _ _ e_7) (wz_S (zin5 _ (List.mem_of_getElem? (i := 12) rfl)) (zin5 _ (List.mem_of_getElem? (i := 10) rfl)) (zin5 _ (List.mem_of_getElem? (i := 11) rfl)) (zin1 _ (List.mem_of_getElem? (i := 5) rfl))) rfl ⟨rfl, rfl⟩ (by decide +kernel) ⟨Nat.le_of_ble_eq_true rfl, Nat.le_of_ble_eq_true rfl⟩ rfl hl.1 rfl (Nat.le_of_ble_eq_true rfl) hK hw hS dX7_isController_4 ⟨Nat.zero_le _, Nat.zero_le _⟩ (fun H locs hw hS => ?_)
  obtain ⟨g_8, hf⟩ := zg_inv hf
  exact mw_retz S hr g_8 hf hw hS hlocks dX7_isController_7
noncomputable def k_X7_isRunnable (τ : MS) (x1 : Int32) : Option (Int32 × MS) := zb (k_X7_in τ x1 (1 : Int32) (mi τ 5)) (fun r_5 t_6 => zg (narrow .boolean (.int r_5) = .int r_5) (some (r_5, t_6)))
set_option maxHeartbeats 4000000 in
set_option maxRecDepth 100000 in
theorem kc_X7_isRunnable (l : Launch) (D : va_G) (cy : Nat → ClassId) (A : Nat → Prop) (ad : Nat → Nat) (τ τ' : MS) (x1 : Int32) (r : Int32) (hf : k_X7_isRunnable τ x1 = some (r, τ')) : Met l yX7_isRunnable (wz yX7_isRunnable cX7_isRunnable 2 (some .boolean)) ({ frames := 1, cells := 0, slots := 0, locals := 22 } : Room) (va_Pc [.ref (ad 0), .int x1] (MWs D cy A ad τ)) (va_Qi (fun (r' : Int32) (u : MS) => r' = r ∧ u = τ') (MWp D cy A ad) A) 0 0 A := by
  refine Met.ofW (cc := cX7_isRunnable) (maxL := 2) (ret := (some .boolean)) (by decide) rfl ?_
  intro p e s m args below meth c s₁ B hml hv
  obtain ⟨rfl, hw, hK⟩ := hv
  have hx := B.exec
  have hb := B.bytes
  have hr := B.returns
  have hts := atoms_spec (ws := (wz yX7_isRunnable cX7_isRunnable 2 (some .boolean))) B.pre
  have hown : s.vm.findClass RX7 = some m.cls := findClass_of_methodNamed B.named
  have hlocks := B.notSynchronized
  have S : CallFix p m c cX7_isRunnable 2 s ([.ref (ad 0), .int x1] : List Value).toArray (wz yX7_isRunnable cX7_isRunnable 2 (some .boolean)) RX7 := ⟨hx, hb, hml, hown, hts⟩
  have h7 : ∀ w ∈ wsX70, w ∈ (wz yX7_isRunnable cX7_isRunnable 2 (some .boolean)) := fun w h => wz_in (inlX7 w h)
  have hS : va_S A s.heap s.heap [] := va_S.rf
  have hl := lv_entry ([.ref (ad 0), .int x1]) (n := 2) (Nat.le_of_ble_eq_true rfl)
  rw [lg_entry_eq]
  generalize (lg_sl ([.ref (ad 0), .int x1]) ++ List.replicate (2 - (lg_sl ([.ref (ad 0), .int x1])).length) Slot.unset).toArray = ls at hl ⊢
  have hl : lv_has ls 2 [(0, .ref (ad 0)), (1, .int x1)] := hl
  rw [k_X7_isRunnable] at hf
  refine lv_iload_n hx hb dX7_isRunnable_0 rfl (lv_at hl 1 rfl) ?_
  refine lv_iconst (v := (1 : Int32)) hx hb dX7_isRunnable_1 (by decide) ?_
  refine lv_aload_n hx hb dX7_isRunnable_2 rfl (lv_at hl 0 rfl) ?_
  refine mr_get S h7 hK hw 5 (by decide) (wz_in (zin8 _ (List.mem_of_getElem? (i := 13) rfl))) rfl rfl dX7_isRunnable_3 ?_
  obtain ⟨r_5, t_6, e_7, hf⟩ := zb_inv hf
  refine mw_si (As := [.int x1, .int (1 : Int32), .int (mi τ 5)]) (rest := []) (n := 3) S (kc_X7_in l D cy A ad _ _ _ _ _ _ e_7) (wz_S (zin5 _ (List.mem_of_getElem? (i := 12) rfl)) (zin5 _ (List.mem_of_getElem? (i := 10) rfl)) (zin5 _ (List.mem_of_getElem? (i := 11) rfl)) (zin1 _ (List.mem_of_getElem? (i := 5) rfl))) rfl ⟨rfl, rfl⟩ (by decide +kernel) ⟨Nat.le_of_ble_eq_true rfl, Nat.le_of_ble_eq_true rfl⟩ rfl hl.1 rfl (Nat.le_of_ble_eq_true rfl) hK hw hS dX7_isRunnable_6 ⟨Nat.zero_le _, Nat.zero_le _⟩ (fun H locs hw hS => ?_)
  obtain ⟨g_8, hf⟩ := zg_inv hf
  exact mw_retz S hr g_8 hf hw hS hlocks dX7_isRunnable_9
noncomputable def k_X7_hasClass_b34 (x1 : Int32) (x2 : Int32) (τ : MS) (y0 : Int32) : Option (Int32 × MS) := zg (narrow .boolean (.int y0) = .int y0) (some (y0, τ))
noncomputable def k_X7_hasClass_b33 (x1 : Int32) (x2 : Int32) (τ : MS) : Option (Int32 × MS) := k_X7_hasClass_b34 x1 x2 τ (0 : Int32)
noncomputable def k_X7_hasClass (τ : MS) (x1 : Int32) (x2 : Int32) : Option (Int32 × MS) := zb (k_X7_isController τ x1) (fun r_16 t_17 => zi (r_16 = 0) (k_X7_hasClass_b33 x1 x2 t_17) (zb (k_X7_isRunnable t_17 x2) (fun r_20 t_21 => zi (r_20 = 0) (k_X7_hasClass_b33 x1 x2 t_21) (zb (k_X7_at t_21 x1 x2) (fun r_24 t_25 => zg (vp_in r_24 160) (zi ((mr t_25 21 r_24.toNatClampNeg) ≤ 0) (k_X7_hasClass_b33 x1 x2 t_25) (k_X7_hasClass_b34 x1 x2 t_25 (1 : Int32))))))))
set_option maxHeartbeats 4000000 in
set_option maxRecDepth 100000 in
theorem kc_X7_hasClass (l : Launch) (D : va_G) (cy : Nat → ClassId) (A : Nat → Prop) (ad : Nat → Nat) (τ τ' : MS) (x1 : Int32) (x2 : Int32) (r : Int32) (hf : k_X7_hasClass τ x1 x2 = some (r, τ')) : Met l yX7_hasClass (wz yX7_hasClass cX7_hasClass 3 (some .boolean)) ({ frames := 2, cells := 0, slots := 0, locals := 43 } : Room) (va_Pc [.ref (ad 0), .int x1, .int x2] (MWs D cy A ad τ)) (va_Qi (fun (r' : Int32) (u : MS) => r' = r ∧ u = τ') (MWp D cy A ad) A) 0 0 A := by
  refine Met.ofW (cc := cX7_hasClass) (maxL := 3) (ret := (some .boolean)) (by decide) rfl ?_
  intro p e s m args below meth c s₁ B hml hv
  obtain ⟨rfl, hw, hK⟩ := hv
  have hx := B.exec
  have hb := B.bytes
  have hr := B.returns
  have hts := atoms_spec (ws := (wz yX7_hasClass cX7_hasClass 3 (some .boolean))) B.pre
  have hown : s.vm.findClass RX7 = some m.cls := findClass_of_methodNamed B.named
  have hlocks := B.notSynchronized
  have S : CallFix p m c cX7_hasClass 3 s ([.ref (ad 0), .int x1, .int x2] : List Value).toArray (wz yX7_hasClass cX7_hasClass 3 (some .boolean)) RX7 := ⟨hx, hb, hml, hown, hts⟩
  have h7 : ∀ w ∈ wsX70, w ∈ (wz yX7_hasClass cX7_hasClass 3 (some .boolean)) := fun w h => wz_in (inlX7 w h)
  have hS : va_S A s.heap s.heap [] := va_S.rf
  have hl := lv_entry ([.ref (ad 0), .int x1, .int x2]) (n := 3) (Nat.le_of_ble_eq_true rfl)
  rw [lg_entry_eq]
  generalize (lg_sl ([.ref (ad 0), .int x1, .int x2]) ++ List.replicate (3 - (lg_sl ([.ref (ad 0), .int x1, .int x2])).length) Slot.unset).toArray = ls at hl ⊢
  have hl : lv_has ls 3 [(0, .ref (ad 0)), (1, .int x1), (2, .int x2)] := hl
  have B34 : ∀ (τ : MS) (y0 : Int32) (H : Heap) (locs : List Loc) (ls : Array Slot) (hf : k_X7_hasClass_b34 x1 x2 τ y0 = some (r, τ')) (hw : zw D A ad (mG cy ad τ) H) (hS : va_S A s.heap H locs) (hl : lv_has ls 3 [(0, .ref (ad 0)), (1, .int x1), (2, .int x2)]), W p l e (headSpec (wz yX7_hasClass cX7_hasClass 3 (some .boolean)) ({ frames := 2, cells := 0, slots := 0, locals := 43 } : Room)).room s m ([.ref (ad 0), .int x1, .int x2] : List Value).toArray below meth c H locs 0 0 (MQ below (va_Qi (fun (r' : Int32) (u : MS) => r' = r ∧ u = τ') (MWp D cy A ad) A) ([.ref (ad 0), .int x1, .int x2] : List Value).toArray s 0 0 A) (F0 m 34 ls [.int y0]) := by
    intro τ y0 H locs ls hf hw hS hl
    rw [k_X7_hasClass_b34] at hf
    obtain ⟨g_15, hf⟩ := zg_inv hf
    exact mw_retz S hr g_15 hf hw hS hlocks dX7_hasClass_34
  have B33 : ∀ (τ : MS) (H : Heap) (locs : List Loc) (ls : Array Slot) (hf : k_X7_hasClass_b33 x1 x2 τ = some (r, τ')) (hw : zw D A ad (mG cy ad τ) H) (hS : va_S A s.heap H locs) (hl : lv_has ls 3 [(0, .ref (ad 0)), (1, .int x1), (2, .int x2)]), W p l e (headSpec (wz yX7_hasClass cX7_hasClass 3 (some .boolean)) ({ frames := 2, cells := 0, slots := 0, locals := 43 } : Room)).room s m ([.ref (ad 0), .int x1, .int x2] : List Value).toArray below meth c H locs 0 0 (MQ below (va_Qi (fun (r' : Int32) (u : MS) => r' = r ∧ u = τ') (MWp D cy A ad) A) ([.ref (ad 0), .int x1, .int x2] : List Value).toArray s 0 0 A) (F0 m 33 ls []) := by
    intro τ H locs ls hf hw hS hl
    rw [k_X7_hasClass_b33] at hf
    refine lv_iconst (v := (0 : Int32)) hx hb dX7_hasClass_33 (by decide) ?_
    exact B34 _ _ _ _ _ hf hw hS (lv_sub hl [0, 1, 2] rfl)
  rw [k_X7_hasClass] at hf
  refine lv_aload_n hx hb dX7_hasClass_0 rfl (lv_at hl 0 rfl) ?_
  refine lv_iload_n hx hb dX7_hasClass_1 rfl (lv_at hl 1 rfl) ?_
  obtain ⟨r_16, t_17, e_18, hf⟩ := zb_inv hf
  refine mw_ci (As := [.int x1]) (rest := []) (n := 1) S (kc_X7_isController l D cy A ad _ _ _ _ e_18) (wz_V (zin10 _ (List.mem_of_getElem? (i := 11) rfl)) (zin10 _ (List.mem_of_getElem? (i := 8) rfl)) (zin10 _ (List.mem_of_getElem? (i := 9) rfl)) (zin10 _ (List.mem_of_getElem? (i := 10) rfl)) (zin1 _ (List.mem_of_getElem? (i := 5) rfl))) rfl ⟨rfl, rfl⟩ (by decide +kernel) ⟨Nat.le_of_ble_eq_true rfl, Nat.le_of_ble_eq_true rfl⟩ rfl hl.1 rfl (Nat.le_of_ble_eq_true rfl) hK hw hS dX7_hasClass_2 ⟨Nat.zero_le _, Nat.zero_le _⟩ (fun H locs hw hS => ?_)
  refine lv_if_eq (tgt := 33) hx hb dX7_hasClass_5 (by decide) (fun c_19 => ?_) (fun c_19 => ?_)
  · have hf := (zi_t c_19).symm.trans hf
    exact B33 _ _ _ _ hf hw hS (lv_sub hl [0, 1, 2] rfl)
  · have hf := (zi_f c_19).symm.trans hf
    refine lv_aload_n hx hb dX7_hasClass_8 rfl (lv_at hl 0 rfl) ?_
    refine lv_iload_n hx hb dX7_hasClass_9 rfl (lv_at hl 2 rfl) ?_
    obtain ⟨r_20, t_21, e_22, hf⟩ := zb_inv hf
    refine mw_ci (As := [.int x2]) (rest := []) (n := 1) S (kc_X7_isRunnable l D cy A ad _ _ _ _ e_22) (wz_V (zin10 _ (List.mem_of_getElem? (i := 15) rfl)) (zin10 _ (List.mem_of_getElem? (i := 12) rfl)) (zin10 _ (List.mem_of_getElem? (i := 13) rfl)) (zin10 _ (List.mem_of_getElem? (i := 14) rfl)) (zin1 _ (List.mem_of_getElem? (i := 5) rfl))) rfl ⟨rfl, rfl⟩ (by decide +kernel) ⟨Nat.le_of_ble_eq_true rfl, Nat.le_of_ble_eq_true rfl⟩ rfl hl.1 rfl (Nat.le_of_ble_eq_true rfl) hK hw hS dX7_hasClass_10 ⟨Nat.zero_le _, Nat.zero_le _⟩ (fun H locs hw hS => ?_)
    refine lv_if_eq (tgt := 33) hx hb dX7_hasClass_13 (by decide) (fun c_23 => ?_) (fun c_23 => ?_)
    · have hf := (zi_t c_23).symm.trans hf
      exact B33 _ _ _ _ hf hw hS (lv_sub hl [0, 1, 2] rfl)
    · have hf := (zi_f c_23).symm.trans hf
      refine lv_aload_n hx hb dX7_hasClass_16 rfl (lv_at hl 0 rfl) ?_
      refine mr_get S h7 hK hw 21 (by decide) (wz_in (zin4 _ (List.mem_of_getElem? (i := 4) rfl))) rfl rfl dX7_hasClass_17 ?_
      refine lv_iload_n hx hb dX7_hasClass_20 rfl (lv_at hl 1 rfl) ?_
      refine lv_iload_n hx hb dX7_hasClass_21 rfl (lv_at hl 2 rfl) ?_
      obtain ⟨r_24, t_25, e_26, hf⟩ := zb_inv hf
      refine mw_si (As := [.int x1, .int x2]) (rest := [.ref (ad 21)]) (n := 2) S (kc_X7_at l D cy A ad _ _ _ _ _ e_26) (wz_S (zin10 _ (List.mem_of_getElem? (i := 18) rfl)) (zin10 _ (List.mem_of_getElem? (i := 16) rfl)) (zin10 _ (List.mem_of_getElem? (i := 17) rfl)) (zin1 _ (List.mem_of_getElem? (i := 5) rfl))) rfl ⟨rfl, rfl⟩ (by decide +kernel) ⟨Nat.le_of_ble_eq_true rfl, Nat.le_of_ble_eq_true rfl⟩ rfl hl.1 rfl (Nat.le_of_ble_eq_true rfl) hK hw hS dX7_hasClass_22 ⟨Nat.zero_le _, Nat.zero_le _⟩ (fun H locs hw hS => ?_)
      obtain ⟨g_27, hf⟩ := zg_inv hf
      refine mr_iald S hK hw 21 rfl g_27 dX7_hasClass_25 ?_
      refine lv_if_le (tgt := 33) hx hb dX7_hasClass_26 (by decide) (fun c_28 => ?_) (fun c_28 => ?_)
      · have hf := (zi_t c_28).symm.trans hf
        exact B33 _ _ _ _ hf hw hS (lv_sub hl [0, 1, 2] rfl)
      · have hf := (zi_f c_28).symm.trans hf
        refine lv_iconst (v := (1 : Int32)) hx hb dX7_hasClass_29 (by decide) ?_
        refine lv_goto (tgt := 34) hx hb dX7_hasClass_30 (by decide) ?_
        exact B34 _ _ _ _ _ hf hw hS (lv_sub hl [0, 1, 2] rfl)
noncomputable def k_X7_renew_s15 (x1 : Int32) (x2 : Int32) (x3 : Int32) (K : MS → Int32 → Option (Unit × MS)) (τ : MS) (x4 : Int32) : Option (Unit × MS) := zi ((8 : Int32) ≤ x4) (zg (vp_in x1 160) (zg (vp_in x1 160) (some ((), mR (mR τ 23 x1.toNatClampNeg (vp_nar .boolean (0 : Int32))) 24 x1.toNatClampNeg (-1 : Int32))))) (zg (vp_in (((8 : Int32) * x1) + x4) 1280) (K (mJ τ 22 (((8 : Int32) * x1) + x4).toNatClampNeg (0 : Int64)) (x4 + (1 : Int32))))
noncomputable def k_X7_renew_l15 (x1 : Int32) (x2 : Int32) (x3 : Int32) : Nat → MS → Int32 → Option (Unit × MS)
  | 0 => fun _ _ => none
  | n + 1 => fun τ x4 => k_X7_renew_s15 x1 x2 x3 (k_X7_renew_l15 x1 x2 x3 n) τ x4
theorem k_X7_renew_l15_s (x1 : Int32) (x2 : Int32) (x3 : Int32) (n : Nat) (τ : MS) (x4 : Int32) : k_X7_renew_l15 x1 x2 x3 (n + 1) τ x4 = k_X7_renew_s15 x1 x2 x3 (k_X7_renew_l15 x1 x2 x3 n) τ x4 := rfl
theorem k_X7_renew_l15_z (x1 : Int32) (x2 : Int32) (x3 : Int32) (τ : MS) (x4 : Int32) : k_X7_renew_l15 x1 x2 x3 0 τ x4 = none := rfl
noncomputable def k_X7_renew (τ : MS) (x1 : Int32) (x2 : Int32) (x3 : Int32) : Option (Unit × MS) := zg (vp_in x2 21) (zg (vp_in x1 160) (k_X7_renew_l15 x1 x2 x3 FU (mR τ 21 x1.toNatClampNeg (mr τ 6 x2.toNatClampNeg)) x3))
set_option maxHeartbeats 4000000 in
set_option maxRecDepth 100000 in
theorem kc_X7_renew (l : Launch) (D : va_G) (cy : Nat → ClassId) (A : Nat → Prop) (ad : Nat → Nat) (τ τ' : MS) (x1 : Int32) (x2 : Int32) (x3 : Int32) (hf : k_X7_renew τ x1 x2 x3 = some ((), τ')) : Met l yX7_renew (wz yX7_renew cX7_renew 5 none) ({ frames := 0, cells := 0, slots := 0, locals := 0 } : Room) (va_Pc [.ref (ad 0), .int x1, .int x2, .int x3] (MWs D cy A ad τ)) (va_Qv (fun (u : MS) => u = τ') (MWp D cy A ad) A) 0 0 A := by
  refine Met.ofW (cc := cX7_renew) (maxL := 5) (ret := none) (by decide) rfl ?_
  intro p e s m args below meth c s₁ B hml hv
  obtain ⟨rfl, hw, hK⟩ := hv
  have hx := B.exec
  have hb := B.bytes
  have hr := B.returns
  have hts := atoms_spec (ws := (wz yX7_renew cX7_renew 5 none)) B.pre
  have hown : s.vm.findClass RX7 = some m.cls := findClass_of_methodNamed B.named
  have hlocks := B.notSynchronized
  have S : CallFix p m c cX7_renew 5 s ([.ref (ad 0), .int x1, .int x2, .int x3] : List Value).toArray (wz yX7_renew cX7_renew 5 none) RX7 := ⟨hx, hb, hml, hown, hts⟩
  have h7 : ∀ w ∈ wsX70, w ∈ (wz yX7_renew cX7_renew 5 none) := fun w h => wz_in (inlX7 w h)
  have hS : va_S A s.heap s.heap [] := va_S.rf
  have hl := lv_entry ([.ref (ad 0), .int x1, .int x2, .int x3]) (n := 5) (Nat.le_of_ble_eq_true rfl)
  rw [lg_entry_eq]
  generalize (lg_sl ([.ref (ad 0), .int x1, .int x2, .int x3]) ++ List.replicate (5 - (lg_sl ([.ref (ad 0), .int x1, .int x2, .int x3])).length) Slot.unset).toArray = ls at hl ⊢
  have hl : lv_has ls 5 [(0, .ref (ad 0)), (1, .int x1), (2, .int x2), (3, .int x3)] := hl
  have S15 : ∀ (K : MS → Int32 → Option (Unit × MS)) (_hKK : ∀ (τ : MS) (x4 : Int32) (H : Heap) (locs : List Loc) (ls : Array Slot) (hf : K τ x4 = some ((), τ')) (hw : zw D A ad (mG cy ad τ) H) (hS : va_S A s.heap H locs) (hl : lv_has ls 5 [(0, .ref (ad 0)), (1, .int x1), (2, .int x2), (3, .int x3), (4, .int x4)]), W p l e (headSpec (wz yX7_renew cX7_renew 5 none) ({ frames := 0, cells := 0, slots := 0, locals := 0 } : Room)).room s m ([.ref (ad 0), .int x1, .int x2, .int x3] : List Value).toArray below meth c H locs 0 0 (MQ below (va_Qv (fun (u : MS) => u = τ') (MWp D cy A ad) A) ([.ref (ad 0), .int x1, .int x2, .int x3] : List Value).toArray s 0 0 A) (F0 m 15 ls [])) (τ : MS) (x4 : Int32) (H : Heap) (locs : List Loc) (ls : Array Slot) (hf : k_X7_renew_s15 x1 x2 x3 K τ x4 = some ((), τ')) (hw : zw D A ad (mG cy ad τ) H) (hS : va_S A s.heap H locs) (hl : lv_has ls 5 [(0, .ref (ad 0)), (1, .int x1), (2, .int x2), (3, .int x3), (4, .int x4)]), W p l e (headSpec (wz yX7_renew cX7_renew 5 none) ({ frames := 0, cells := 0, slots := 0, locals := 0 } : Room)).room s m ([.ref (ad 0), .int x1, .int x2, .int x3] : List Value).toArray below meth c H locs 0 0 (MQ below (va_Qv (fun (u : MS) => u = τ') (MWp D cy A ad) A) ([.ref (ad 0), .int x1, .int x2, .int x3] : List Value).toArray s 0 0 A) (F0 m 15 ls []) := by
    intro K hKK τ x4 H locs ls hf hw hS hl
    rw [k_X7_renew_s15] at hf
    refine lv_iload hx hb dX7_renew_15 (lv_at hl 4 rfl) ?_
    refine lv_bipush (v := (8 : Int32)) hx hb dX7_renew_17 (by decide) ?_
    refine lv_icmp_ge (tgt := 41) hx hb dX7_renew_19 (by decide) (fun c_7 => ?_) (fun c_7 => ?_)
    · have hf := (zi_t c_7).symm.trans hf
      refine lv_aload_n hx hb dX7_renew_41 rfl (lv_at hl 0 rfl) ?_
      refine mr_get S h7 hK hw 23 (by decide) (wz_in (zin4 _ (List.mem_of_getElem? (i := 6) rfl))) rfl rfl dX7_renew_42 ?_
      refine lv_iload_n hx hb dX7_renew_45 rfl (lv_at hl 1 rfl) ?_
      refine lv_iconst (v := (0 : Int32)) hx hb dX7_renew_46 (by decide) ?_
      obtain ⟨g_8, hf⟩ := zg_inv hf
      refine mr_zast S hK hw hS 23 rfl g_8 rfl dX7_renew_47 (fun H locs hw hS => ?_)
      refine lv_aload_n hx hb dX7_renew_48 rfl (lv_at hl 0 rfl) ?_
      refine mr_get S h7 hK hw 24 (by decide) (wz_in (zin4 _ (List.mem_of_getElem? (i := 7) rfl))) rfl rfl dX7_renew_49 ?_
      refine lv_iload_n hx hb dX7_renew_52 rfl (lv_at hl 1 rfl) ?_
      refine lv_iconst (v := (-1 : Int32)) hx hb dX7_renew_53 (by decide) ?_
      obtain ⟨g_9, hf⟩ := zg_inv hf
      refine mr_iast S hK hw hS 24 rfl g_9 rfl dX7_renew_54 (fun H locs hw hS => ?_)
      exact mw_retv S hr hf hw hS hlocks dX7_renew_55
    · have hf := (zi_f c_7).symm.trans hf
      refine lv_aload_n hx hb dX7_renew_22 rfl (lv_at hl 0 rfl) ?_
      refine mr_get S h7 hK hw 22 (by decide) (wz_in (zin4 _ (List.mem_of_getElem? (i := 5) rfl))) rfl rfl dX7_renew_23 ?_
      refine lv_bipush (v := (8 : Int32)) hx hb dX7_renew_26 (by decide) ?_
      refine lv_iload_n hx hb dX7_renew_28 rfl (lv_at hl 1 rfl) ?_
      refine lv_imul hx hb dX7_renew_29 ?_
      refine lv_iload hx hb dX7_renew_30 (lv_at hl 4 rfl) ?_
      refine lv_iadd hx hb dX7_renew_32 ?_
      refine lv_lconst (v := (0 : Int64)) hx hb dX7_renew_33 (by decide) ?_
      obtain ⟨g_10, hf⟩ := zg_inv hf
      refine mr_last S hK hw hS 22 rfl g_10 rfl dX7_renew_34 (fun H locs hw hS => ?_)
      refine lv_iinc (v := x4 + (1 : Int32)) (lv' := [(4, .int (x4 + (1 : Int32))), (0, .ref (ad 0)), (1, .int x1), (2, .int x2), (3, .int x3)]) hx hb dX7_renew_35 hl (k := 4) rfl rfl (by decide) rfl (fun ls hl => ?_)
      refine lv_goto (tgt := 15) hx hb dX7_renew_38 (by decide) ?_
      exact hKK _ _ _ _ _ hf hw hS (lv_sub hl [1, 2, 3, 4, 0] rfl)
  have L15 : ∀ (n : Nat) (τ : MS) (x4 : Int32) (H : Heap) (locs : List Loc) (ls : Array Slot) (hf : k_X7_renew_l15 x1 x2 x3 n τ x4 = some ((), τ')) (hw : zw D A ad (mG cy ad τ) H) (hS : va_S A s.heap H locs) (hl : lv_has ls 5 [(0, .ref (ad 0)), (1, .int x1), (2, .int x2), (3, .int x3), (4, .int x4)]), W p l e (headSpec (wz yX7_renew cX7_renew 5 none) ({ frames := 0, cells := 0, slots := 0, locals := 0 } : Room)).room s m ([.ref (ad 0), .int x1, .int x2, .int x3] : List Value).toArray below meth c H locs 0 0 (MQ below (va_Qv (fun (u : MS) => u = τ') (MWp D cy A ad) A) ([.ref (ad 0), .int x1, .int x2, .int x3] : List Value).toArray s 0 0 A) (F0 m 15 ls []) := by
    intro n
    induction n with
    | zero =>
      intro τ x4 H locs ls hf hw hS hl
      rw [k_X7_renew_l15_z] at hf
      cases hf
    | succ n ih =>
      intro τ x4 H locs ls hf hw hS hl
      rw [k_X7_renew_l15_s] at hf
      exact S15 (k_X7_renew_l15 x1 x2 x3 n) ih τ x4 H locs ls hf hw hS hl
  rw [k_X7_renew] at hf
  refine lv_aload_n hx hb dX7_renew_0 rfl (lv_at hl 0 rfl) ?_
  refine mr_get S h7 hK hw 21 (by decide) (wz_in (zin4 _ (List.mem_of_getElem? (i := 4) rfl))) rfl rfl dX7_renew_1 ?_
  refine lv_iload_n hx hb dX7_renew_4 rfl (lv_at hl 1 rfl) ?_
  refine lv_aload_n hx hb dX7_renew_5 rfl (lv_at hl 0 rfl) ?_
  refine mr_get S h7 hK hw 6 (by decide) (wz_in (zin3 _ (List.mem_of_getElem? (i := 12) rfl))) rfl rfl dX7_renew_6 ?_
  refine lv_iload_n hx hb dX7_renew_9 rfl (lv_at hl 2 rfl) ?_
  obtain ⟨g_11, hf⟩ := zg_inv hf
  refine mr_iald S hK hw 6 rfl g_11 dX7_renew_10 ?_
  obtain ⟨g_12, hf⟩ := zg_inv hf
  refine mr_iast S hK hw hS 21 rfl g_12 rfl dX7_renew_11 (fun H locs hw hS => ?_)
  refine lv_iload_n hx hb dX7_renew_12 rfl (lv_at hl 3 rfl) ?_
  refine lv_istore (lv' := [(4, .int x3), (0, .ref (ad 0)), (1, .int x1), (2, .int x2), (3, .int x3)]) hx hb dX7_renew_13 hl (by decide) rfl (fun ls hl => ?_)
  exact L15 FU _ _ _ _ _ hf hw hS (lv_sub hl [1, 2, 3, 4, 0] rfl)
noncomputable def k_X7_make_b51 (x1 : Int32) (x2 : Int32) (τ : MS) (x3 : Int32) : Option (Int32 × MS) := zb (k_X7_refuse τ (-3 : Int32)) (fun r_25 t_26 => some (r_25, t_26))
noncomputable def k_X7_make_b21 (x1 : Int32) (x2 : Int32) (τ : MS) : Option (Int32 × MS) := zb (k_X7_refuse τ (-1 : Int32)) (fun r_28 t_29 => some (r_28, t_29))
noncomputable def k_X7_make (τ : MS) (x1 : Int32) (x2 : Int32) : Option (Int32 × MS) := zb (k_X7_isController (mI τ 0 (0 : Int32)) x1) (fun r_31 t_32 => zi (r_31 = 0) (k_X7_make_b21 x1 x2 t_32) (zb (k_X7_isRunnable t_32 x2) (fun r_35 t_36 => zi (r_35 = 0) (k_X7_make_b21 x1 x2 t_36) (zb (k_X7_at t_36 x1 x2) (fun r_39 t_40 => zg (vp_in x1 8) (zi ((mr t_40 14 x1.toNatClampNeg) = 0) (zg (vp_in r_39 160) (zi ((mr t_40 21 r_39.toNatClampNeg) ≤ 0) (zb (k_X7_renew t_40 r_39 x2 (0 : Int32)) (fun _ t_47 => some ((1 : Int32), t_47))) (k_X7_make_b51 x1 x2 t_40 r_39))) (k_X7_make_b51 x1 x2 t_40 r_39)))))))
set_option maxHeartbeats 4000000 in
set_option maxRecDepth 100000 in
theorem kc_X7_make (l : Launch) (D : va_G) (cy : Nat → ClassId) (A : Nat → Prop) (ad : Nat → Nat) (τ τ' : MS) (x1 : Int32) (x2 : Int32) (r : Int32) (hf : k_X7_make τ x1 x2 = some (r, τ')) : Met l yX7_make (wz yX7_make cX7_make 4 (some .int)) ({ frames := 2, cells := 0, slots := 0, locals := 43 } : Room) (va_Pc [.ref (ad 0), .int x1, .int x2] (MWs D cy A ad τ)) (va_Qi (fun (r' : Int32) (u : MS) => r' = r ∧ u = τ') (MWp D cy A ad) A) 0 0 A := by
  refine Met.ofW (cc := cX7_make) (maxL := 4) (ret := (some .int)) (by decide) rfl ?_
  intro p e s m args below meth c s₁ B hml hv
  obtain ⟨rfl, hw, hK⟩ := hv
  have hx := B.exec
  have hb := B.bytes
  have hr := B.returns
  have hts := atoms_spec (ws := (wz yX7_make cX7_make 4 (some .int))) B.pre
  have hown : s.vm.findClass RX7 = some m.cls := findClass_of_methodNamed B.named
  have hlocks := B.notSynchronized
  have S : CallFix p m c cX7_make 4 s ([.ref (ad 0), .int x1, .int x2] : List Value).toArray (wz yX7_make cX7_make 4 (some .int)) RX7 := ⟨hx, hb, hml, hown, hts⟩
  have h7 : ∀ w ∈ wsX70, w ∈ (wz yX7_make cX7_make 4 (some .int)) := fun w h => wz_in (inlX7 w h)
  have hS : va_S A s.heap s.heap [] := va_S.rf
  have hl := lv_entry ([.ref (ad 0), .int x1, .int x2]) (n := 4) (Nat.le_of_ble_eq_true rfl)
  rw [lg_entry_eq]
  generalize (lg_sl ([.ref (ad 0), .int x1, .int x2]) ++ List.replicate (4 - (lg_sl ([.ref (ad 0), .int x1, .int x2])).length) Slot.unset).toArray = ls at hl ⊢
  have hl : lv_has ls 4 [(0, .ref (ad 0)), (1, .int x1), (2, .int x2)] := hl
  have B51 : ∀ (τ : MS) (x3 : Int32) (H : Heap) (locs : List Loc) (ls : Array Slot) (hf : k_X7_make_b51 x1 x2 τ x3 = some (r, τ')) (hw : zw D A ad (mG cy ad τ) H) (hS : va_S A s.heap H locs) (hl : lv_has ls 4 [(0, .ref (ad 0)), (1, .int x1), (2, .int x2), (3, .int x3)]), W p l e (headSpec (wz yX7_make cX7_make 4 (some .int)) ({ frames := 2, cells := 0, slots := 0, locals := 43 } : Room)).room s m ([.ref (ad 0), .int x1, .int x2] : List Value).toArray below meth c H locs 0 0 (MQ below (va_Qi (fun (r' : Int32) (u : MS) => r' = r ∧ u = τ') (MWp D cy A ad) A) ([.ref (ad 0), .int x1, .int x2] : List Value).toArray s 0 0 A) (F0 m 51 ls []) := by
    intro τ x3 H locs ls hf hw hS hl
    rw [k_X7_make_b51] at hf
    refine lv_aload_n hx hb dX7_make_51 rfl (lv_at hl 0 rfl) ?_
    refine lv_bipush (v := (-3 : Int32)) hx hb dX7_make_52 (by decide) ?_
    obtain ⟨r_25, t_26, e_27, hf⟩ := zb_inv hf
    refine mw_ci (As := [.int (-3 : Int32)]) (rest := []) (n := 1) S (kc_X7_refuse l D cy A ad _ _ _ _ e_27) (wz_V (zin5 _ (List.mem_of_getElem? (i := 16) rfl)) (zin5 _ (List.mem_of_getElem? (i := 13) rfl)) (zin5 _ (List.mem_of_getElem? (i := 14) rfl)) (zin5 _ (List.mem_of_getElem? (i := 15) rfl)) (zin1 _ (List.mem_of_getElem? (i := 5) rfl))) rfl ⟨rfl, rfl⟩ (by decide +kernel) ⟨Nat.le_of_ble_eq_true rfl, Nat.le_of_ble_eq_true rfl⟩ rfl hl.1 rfl (Nat.le_of_ble_eq_true rfl) hK hw hS dX7_make_54 ⟨Nat.zero_le _, Nat.zero_le _⟩ (fun H locs hw hS => ?_)
    exact mw_reti S hr hf hw hS hlocks dX7_make_57
  have B21 : ∀ (τ : MS) (H : Heap) (locs : List Loc) (ls : Array Slot) (hf : k_X7_make_b21 x1 x2 τ = some (r, τ')) (hw : zw D A ad (mG cy ad τ) H) (hS : va_S A s.heap H locs) (hl : lv_has ls 4 [(0, .ref (ad 0)), (1, .int x1), (2, .int x2)]), W p l e (headSpec (wz yX7_make cX7_make 4 (some .int)) ({ frames := 2, cells := 0, slots := 0, locals := 43 } : Room)).room s m ([.ref (ad 0), .int x1, .int x2] : List Value).toArray below meth c H locs 0 0 (MQ below (va_Qi (fun (r' : Int32) (u : MS) => r' = r ∧ u = τ') (MWp D cy A ad) A) ([.ref (ad 0), .int x1, .int x2] : List Value).toArray s 0 0 A) (F0 m 21 ls []) := by
    intro τ H locs ls hf hw hS hl
    rw [k_X7_make_b21] at hf
    refine lv_aload_n hx hb dX7_make_21 rfl (lv_at hl 0 rfl) ?_
    refine lv_iconst (v := (-1 : Int32)) hx hb dX7_make_22 (by decide) ?_
    obtain ⟨r_28, t_29, e_30, hf⟩ := zb_inv hf
    refine mw_ci (As := [.int (-1 : Int32)]) (rest := []) (n := 1) S (kc_X7_refuse l D cy A ad _ _ _ _ e_30) (wz_V (zin5 _ (List.mem_of_getElem? (i := 16) rfl)) (zin5 _ (List.mem_of_getElem? (i := 13) rfl)) (zin5 _ (List.mem_of_getElem? (i := 14) rfl)) (zin5 _ (List.mem_of_getElem? (i := 15) rfl)) (zin1 _ (List.mem_of_getElem? (i := 5) rfl))) rfl ⟨rfl, rfl⟩ (by decide +kernel) ⟨Nat.le_of_ble_eq_true rfl, Nat.le_of_ble_eq_true rfl⟩ rfl hl.1 rfl (Nat.le_of_ble_eq_true rfl) hK hw hS dX7_make_23 ⟨Nat.zero_le _, Nat.zero_le _⟩ (fun H locs hw hS => ?_)
    exact mw_reti S hr hf hw hS hlocks dX7_make_26
  rw [k_X7_make] at hf
  refine lv_aload_n hx hb dX7_make_0 rfl (lv_at hl 0 rfl) ?_
  refine lv_iconst (v := (0 : Int32)) hx hb dX7_make_1 (by decide) ?_
  refine mr_put S h7 hK hw hS 0 (by decide) (wz_in (zin5 _ (List.mem_of_getElem? (i := 8) rfl))) rfl rfl rfl (mput_0 _ _ _ _) dX7_make_2 (fun H locs hw hS => ?_)
  refine lv_aload_n hx hb dX7_make_5 rfl (lv_at hl 0 rfl) ?_
  refine lv_iload_n hx hb dX7_make_6 rfl (lv_at hl 1 rfl) ?_
  obtain ⟨r_31, t_32, e_33, hf⟩ := zb_inv hf
  refine mw_ci (As := [.int x1]) (rest := []) (n := 1) S (kc_X7_isController l D cy A ad _ _ _ _ e_33) (wz_V (zin10 _ (List.mem_of_getElem? (i := 11) rfl)) (zin10 _ (List.mem_of_getElem? (i := 8) rfl)) (zin10 _ (List.mem_of_getElem? (i := 9) rfl)) (zin10 _ (List.mem_of_getElem? (i := 10) rfl)) (zin1 _ (List.mem_of_getElem? (i := 5) rfl))) rfl ⟨rfl, rfl⟩ (by decide +kernel) ⟨Nat.le_of_ble_eq_true rfl, Nat.le_of_ble_eq_true rfl⟩ rfl hl.1 rfl (Nat.le_of_ble_eq_true rfl) hK hw hS dX7_make_7 ⟨Nat.zero_le _, Nat.zero_le _⟩ (fun H locs hw hS => ?_)
  refine lv_if_eq (tgt := 21) hx hb dX7_make_10 (by decide) (fun c_34 => ?_) (fun c_34 => ?_)
  · have hf := (zi_t c_34).symm.trans hf
    exact B21 _ _ _ _ hf hw hS (lv_sub hl [0, 1, 2] rfl)
  · have hf := (zi_f c_34).symm.trans hf
    refine lv_aload_n hx hb dX7_make_13 rfl (lv_at hl 0 rfl) ?_
    refine lv_iload_n hx hb dX7_make_14 rfl (lv_at hl 2 rfl) ?_
    obtain ⟨r_35, t_36, e_37, hf⟩ := zb_inv hf
    refine mw_ci (As := [.int x2]) (rest := []) (n := 1) S (kc_X7_isRunnable l D cy A ad _ _ _ _ e_37) (wz_V (zin10 _ (List.mem_of_getElem? (i := 15) rfl)) (zin10 _ (List.mem_of_getElem? (i := 12) rfl)) (zin10 _ (List.mem_of_getElem? (i := 13) rfl)) (zin10 _ (List.mem_of_getElem? (i := 14) rfl)) (zin1 _ (List.mem_of_getElem? (i := 5) rfl))) rfl ⟨rfl, rfl⟩ (by decide +kernel) ⟨Nat.le_of_ble_eq_true rfl, Nat.le_of_ble_eq_true rfl⟩ rfl hl.1 rfl (Nat.le_of_ble_eq_true rfl) hK hw hS dX7_make_15 ⟨Nat.zero_le _, Nat.zero_le _⟩ (fun H locs hw hS => ?_)
    refine lv_if_ne (tgt := 27) hx hb dX7_make_18 (by decide) (fun c_38 => ?_) (fun c_38 => ?_)
    · have hf := (zi_f c_38).symm.trans hf
      refine lv_iload_n hx hb dX7_make_27 rfl (lv_at hl 1 rfl) ?_
      refine lv_iload_n hx hb dX7_make_28 rfl (lv_at hl 2 rfl) ?_
      obtain ⟨r_39, t_40, e_41, hf⟩ := zb_inv hf
      refine mw_si (As := [.int x1, .int x2]) (rest := []) (n := 2) S (kc_X7_at l D cy A ad _ _ _ _ _ e_41) (wz_S (zin10 _ (List.mem_of_getElem? (i := 18) rfl)) (zin10 _ (List.mem_of_getElem? (i := 16) rfl)) (zin10 _ (List.mem_of_getElem? (i := 17) rfl)) (zin1 _ (List.mem_of_getElem? (i := 5) rfl))) rfl ⟨rfl, rfl⟩ (by decide +kernel) ⟨Nat.le_of_ble_eq_true rfl, Nat.le_of_ble_eq_true rfl⟩ rfl hl.1 rfl (Nat.le_of_ble_eq_true rfl) hK hw hS dX7_make_29 ⟨Nat.zero_le _, Nat.zero_le _⟩ (fun H locs hw hS => ?_)
      refine lv_istore_n (lv' := [(3, .int r_39), (0, .ref (ad 0)), (1, .int x1), (2, .int x2)]) hx hb dX7_make_32 rfl hl (by decide) rfl (fun ls hl => ?_)
      refine lv_aload_n hx hb dX7_make_33 rfl (lv_at hl 1 rfl) ?_
      refine mr_get S h7 hK hw 14 (by decide) (wz_in (zin3 _ (List.mem_of_getElem? (i := 21) rfl))) rfl rfl dX7_make_34 ?_
      refine lv_iload_n hx hb dX7_make_37 rfl (lv_at hl 2 rfl) ?_
      obtain ⟨g_42, hf⟩ := zg_inv hf
      refine mr_zald S hK hw 14 rfl g_42 dX7_make_38 ?_
      refine lv_if_ne (tgt := 51) hx hb dX7_make_39 (by decide) (fun c_43 => ?_) (fun c_43 => ?_)
      · have hf := (zi_f c_43).symm.trans hf
        exact B51 _ _ _ _ _ hf hw hS (lv_sub hl [1, 2, 3, 0] rfl)
      · have hf := (zi_t c_43).symm.trans hf
        refine lv_aload_n hx hb dX7_make_42 rfl (lv_at hl 1 rfl) ?_
        refine mr_get S h7 hK hw 21 (by decide) (wz_in (zin4 _ (List.mem_of_getElem? (i := 4) rfl))) rfl rfl dX7_make_43 ?_
        refine lv_iload_n hx hb dX7_make_46 rfl (lv_at hl 0 rfl) ?_
        obtain ⟨g_44, hf⟩ := zg_inv hf
        refine mr_iald S hK hw 21 rfl g_44 dX7_make_47 ?_
        refine lv_if_le (tgt := 58) hx hb dX7_make_48 (by decide) (fun c_45 => ?_) (fun c_45 => ?_)
        · have hf := (zi_t c_45).symm.trans hf
          refine lv_aload_n hx hb dX7_make_58 rfl (lv_at hl 1 rfl) ?_
          refine lv_iload_n hx hb dX7_make_59 rfl (lv_at hl 0 rfl) ?_
          refine lv_iload_n hx hb dX7_make_60 rfl (lv_at hl 3 rfl) ?_
          refine lv_iconst (v := (0 : Int32)) hx hb dX7_make_61 (by decide) ?_
          obtain ⟨⟨⟩, t_47, e_48, hf⟩ := zb_inv hf
          refine mw_cv (As := [.int r_39, .int x2, .int (0 : Int32)]) (rest := []) (n := 3) S (kc_X7_renew l D cy A ad _ _ _ _ _ e_48) (wz_V (zin10 _ (List.mem_of_getElem? (i := 22) rfl)) (zin10 _ (List.mem_of_getElem? (i := 19) rfl)) (zin10 _ (List.mem_of_getElem? (i := 20) rfl)) (zin10 _ (List.mem_of_getElem? (i := 21) rfl)) (zin1 _ (List.mem_of_getElem? (i := 5) rfl))) rfl ⟨rfl, rfl⟩ (by decide +kernel) ⟨Nat.le_of_ble_eq_true rfl, Nat.le_of_ble_eq_true rfl⟩ rfl hl.1 rfl (Nat.le_of_ble_eq_true rfl) hK hw hS dX7_make_62 ⟨Nat.zero_le _, Nat.zero_le _⟩ (fun H locs hw hS => ?_)
          refine lv_iconst (v := (1 : Int32)) hx hb dX7_make_65 (by decide) ?_
          exact mw_reti S hr hf hw hS hlocks dX7_make_66
        · have hf := (zi_f c_45).symm.trans hf
          exact B51 _ _ _ _ _ hf hw hS (lv_sub hl [1, 2, 3, 0] rfl)
    · have hf := (zi_t c_38).symm.trans hf
      exact B21 _ _ _ _ hf hw hS (lv_sub hl [0, 1, 2] rfl)
noncomputable def k_X7_lay (τ : MS) (x1 : Int64) : Option (Unit × MS) := zg (vp_in (mi τ 28) 16) (some ((), mI (mJ τ 27 (mi τ 28).toNatClampNeg x1) 28 ((mi (mJ τ 27 (mi τ 28).toNatClampNeg x1) 28) + (1 : Int32))))
set_option maxHeartbeats 4000000 in
set_option maxRecDepth 100000 in
theorem kc_X7_lay (l : Launch) (D : va_G) (cy : Nat → ClassId) (A : Nat → Prop) (ad : Nat → Nat) (τ τ' : MS) (x1 : Int64) (hf : k_X7_lay τ x1 = some ((), τ')) : Met l yX7_lay (wz yX7_lay cX7_lay 3 none) ({ frames := 0, cells := 0, slots := 0, locals := 0 } : Room) (va_Pc [.ref (ad 0), .long x1] (MWs D cy A ad τ)) (va_Qv (fun (u : MS) => u = τ') (MWp D cy A ad) A) 0 0 A := by
  refine Met.ofW (cc := cX7_lay) (maxL := 3) (ret := none) (by decide) rfl ?_
  intro p e s m args below meth c s₁ B hml hv
  obtain ⟨rfl, hw, hK⟩ := hv
  have hx := B.exec
  have hb := B.bytes
  have hr := B.returns
  have hts := atoms_spec (ws := (wz yX7_lay cX7_lay 3 none)) B.pre
  have hown : s.vm.findClass RX7 = some m.cls := findClass_of_methodNamed B.named
  have hlocks := B.notSynchronized
  have S : CallFix p m c cX7_lay 3 s ([.ref (ad 0), .long x1] : List Value).toArray (wz yX7_lay cX7_lay 3 none) RX7 := ⟨hx, hb, hml, hown, hts⟩
  have h7 : ∀ w ∈ wsX70, w ∈ (wz yX7_lay cX7_lay 3 none) := fun w h => wz_in (inlX7 w h)
  have hS : va_S A s.heap s.heap [] := va_S.rf
  have hl := lv_entry ([.ref (ad 0), .long x1]) (n := 3) (Nat.le_of_ble_eq_true rfl)
  rw [lg_entry_eq]
  generalize (lg_sl ([.ref (ad 0), .long x1]) ++ List.replicate (3 - (lg_sl ([.ref (ad 0), .long x1])).length) Slot.unset).toArray = ls at hl ⊢
  have hl : lv_has ls 3 [(0, .ref (ad 0)), (1, .long x1)] := hl
  rw [k_X7_lay] at hf
  refine lv_aload_n hx hb dX7_lay_0 rfl (lv_at hl 0 rfl) ?_
  refine mr_get S h7 hK hw 27 (by decide) (wz_in (zin4 _ (List.mem_of_getElem? (i := 9) rfl))) rfl rfl dX7_lay_1 ?_
  refine lv_aload_n hx hb dX7_lay_4 rfl (lv_at hl 0 rfl) ?_
  refine mr_get S h7 hK hw 28 (by decide) (wz_in (zin13 _ (List.mem_of_getElem? (i := 21) rfl))) rfl rfl dX7_lay_5 ?_
  refine lv_lload_n hx hb dX7_lay_8 rfl (lv_at hl 1 rfl) ?_
  obtain ⟨g_2, hf⟩ := zg_inv hf
  refine mr_last S hK hw hS 27 rfl g_2 rfl dX7_lay_9 (fun H locs hw hS => ?_)
  refine lv_aload_n hx hb dX7_lay_10 rfl (lv_at hl 0 rfl) ?_
  refine lv_dup hx hb dX7_lay_11 rfl ?_
  refine mr_get S h7 hK hw 28 (by decide) (wz_in (zin13 _ (List.mem_of_getElem? (i := 21) rfl))) rfl rfl dX7_lay_12 ?_
  refine lv_iconst (v := (1 : Int32)) hx hb dX7_lay_15 (by decide) ?_
  refine lv_iadd hx hb dX7_lay_16 ?_
  refine mr_put S h7 hK hw hS 28 (by decide) (wz_in (zin13 _ (List.mem_of_getElem? (i := 21) rfl))) rfl rfl rfl (mput_28 _ _ _ _) dX7_lay_17 (fun H locs hw hS => ?_)
  exact mw_retv S hr hf hw hS hlocks dX7_lay_20
noncomputable def k_X7_take (τ : MS) : Option (Int64 × MS) := zg (vp_in (mi (mI τ 28 ((mi τ 28) - (1 : Int32))) 28) 16) (some (mj (mI τ 28 ((mi τ 28) - (1 : Int32))) 27 (mi (mI τ 28 ((mi τ 28) - (1 : Int32))) 28).toNatClampNeg, mI τ 28 ((mi τ 28) - (1 : Int32))))
set_option maxHeartbeats 4000000 in
set_option maxRecDepth 100000 in
theorem kc_X7_take (l : Launch) (D : va_G) (cy : Nat → ClassId) (A : Nat → Prop) (ad : Nat → Nat) (τ τ' : MS) (r : Int64) (hf : k_X7_take τ = some (r, τ')) : Met l yX7_take (wz yX7_take cX7_take 1 (some .long)) ({ frames := 0, cells := 0, slots := 0, locals := 0 } : Room) (va_Pc [.ref (ad 0)] (MWs D cy A ad τ)) (va_Ql (fun (r' : Int64) (u : MS) => r' = r ∧ u = τ') (MWp D cy A ad) A) 0 0 A := by
  refine Met.ofW (cc := cX7_take) (maxL := 1) (ret := (some .long)) (by decide) rfl ?_
  intro p e s m args below meth c s₁ B hml hv
  obtain ⟨rfl, hw, hK⟩ := hv
  have hx := B.exec
  have hb := B.bytes
  have hr := B.returns
  have hts := atoms_spec (ws := (wz yX7_take cX7_take 1 (some .long))) B.pre
  have hown : s.vm.findClass RX7 = some m.cls := findClass_of_methodNamed B.named
  have hlocks := B.notSynchronized
  have S : CallFix p m c cX7_take 1 s ([.ref (ad 0)] : List Value).toArray (wz yX7_take cX7_take 1 (some .long)) RX7 := ⟨hx, hb, hml, hown, hts⟩
  have h7 : ∀ w ∈ wsX70, w ∈ (wz yX7_take cX7_take 1 (some .long)) := fun w h => wz_in (inlX7 w h)
  have hS : va_S A s.heap s.heap [] := va_S.rf
  have hl := lv_entry ([.ref (ad 0)]) (n := 1) (Nat.le_of_ble_eq_true rfl)
  rw [lg_entry_eq]
  generalize (lg_sl ([.ref (ad 0)]) ++ List.replicate (1 - (lg_sl ([.ref (ad 0)])).length) Slot.unset).toArray = ls at hl ⊢
  have hl : lv_has ls 1 [(0, .ref (ad 0))] := hl
  rw [k_X7_take] at hf
  refine lv_aload_n hx hb dX7_take_0 rfl (lv_at hl 0 rfl) ?_
  refine lv_dup hx hb dX7_take_1 rfl ?_
  refine mr_get S h7 hK hw 28 (by decide) (wz_in (zin13 _ (List.mem_of_getElem? (i := 21) rfl))) rfl rfl dX7_take_2 ?_
  refine lv_iconst (v := (1 : Int32)) hx hb dX7_take_5 (by decide) ?_
  refine lv_isub hx hb dX7_take_6 ?_
  refine mr_put S h7 hK hw hS 28 (by decide) (wz_in (zin13 _ (List.mem_of_getElem? (i := 21) rfl))) rfl rfl rfl (mput_28 _ _ _ _) dX7_take_7 (fun H locs hw hS => ?_)
  refine lv_aload_n hx hb dX7_take_10 rfl (lv_at hl 0 rfl) ?_
  refine mr_get S h7 hK hw 27 (by decide) (wz_in (zin4 _ (List.mem_of_getElem? (i := 9) rfl))) rfl rfl dX7_take_11 ?_
  refine lv_aload_n hx hb dX7_take_14 rfl (lv_at hl 0 rfl) ?_
  refine mr_get S h7 hK hw 28 (by decide) (wz_in (zin13 _ (List.mem_of_getElem? (i := 21) rfl))) rfl rfl dX7_take_15 ?_
  obtain ⟨g_2, hf⟩ := zg_inv hf
  refine mr_lald S hK hw 27 rfl g_2 dX7_take_18 ?_
  exact mw_retl S hr hf hw hS hlocks dX7_take_19
noncomputable def k_X7_move_b99 (x1 : Int32) (x2 : Int32) (x3 : Int32) (x4 : Int32) (τ : MS) : Option (Unit × MS) := some ((), τ)
noncomputable def k_X7_move (τ : MS) (x1 : Int32) (x2 : Int32) (x3 : Int32) (x4 : Int32) : Option (Unit × MS) := zi (x1 = 0) (zb (k_X7_lay τ (x2.toInt64)) (fun _ t_45 => k_X7_move_b99 x1 x2 x3 x4 t_45)) (zi (x1 = (1 : Int32)) (zg (vp_in (((8 : Int32) * x4) + x2) 1280) (zb (k_X7_lay τ (mj τ 22 (((8 : Int32) * x4) + x2).toNatClampNeg)) (fun _ t_42 => k_X7_move_b99 x1 x2 x3 x4 t_42))) (zi (x1 = (2 : Int32)) (zb (k_X7_take τ) (fun r_36 t_37 => zg (vp_in (((8 : Int32) * x4) + x2) 1280) (k_X7_move_b99 x1 x2 x3 x4 (mJ t_37 22 (((8 : Int32) * x4) + x2).toNatClampNeg r_36)))) (zi (x1 = (3 : Int32)) (zg (vp_in (((8 : Int32) * x3) + x2) 64) (zb (k_X7_lay τ (mj τ 13 (((8 : Int32) * x3) + x2).toNatClampNeg)) (fun _ t_34 => k_X7_move_b99 x1 x2 x3 x4 t_34))) (zb (k_X7_take τ) (fun r_28 t_29 => zg (vp_in (((8 : Int32) * x3) + x2) 64) (k_X7_move_b99 x1 x2 x3 x4 (mJ t_29 13 (((8 : Int32) * x3) + x2).toNatClampNeg r_28)))))))
set_option maxHeartbeats 4000000 in
set_option maxRecDepth 100000 in
theorem kc_X7_move (l : Launch) (D : va_G) (cy : Nat → ClassId) (A : Nat → Prop) (ad : Nat → Nat) (τ τ' : MS) (x1 : Int32) (x2 : Int32) (x3 : Int32) (x4 : Int32) (hf : k_X7_move τ x1 x2 x3 x4 = some ((), τ')) : Met l yX7_move (wz yX7_move cX7_move 5 none) ({ frames := 1, cells := 0, slots := 0, locals := 22 } : Room) (va_Pc [.ref (ad 0), .int x1, .int x2, .int x3, .int x4] (MWs D cy A ad τ)) (va_Qv (fun (u : MS) => u = τ') (MWp D cy A ad) A) 0 0 A := by
  refine Met.ofW (cc := cX7_move) (maxL := 5) (ret := none) (by decide) rfl ?_
  intro p e s m args below meth c s₁ B hml hv
  obtain ⟨rfl, hw, hK⟩ := hv
  have hx := B.exec
  have hb := B.bytes
  have hr := B.returns
  have hts := atoms_spec (ws := (wz yX7_move cX7_move 5 none)) B.pre
  have hown : s.vm.findClass RX7 = some m.cls := findClass_of_methodNamed B.named
  have hlocks := B.notSynchronized
  have S : CallFix p m c cX7_move 5 s ([.ref (ad 0), .int x1, .int x2, .int x3, .int x4] : List Value).toArray (wz yX7_move cX7_move 5 none) RX7 := ⟨hx, hb, hml, hown, hts⟩
  have h7 : ∀ w ∈ wsX70, w ∈ (wz yX7_move cX7_move 5 none) := fun w h => wz_in (inlX7 w h)
  have hS : va_S A s.heap s.heap [] := va_S.rf
  have hl := lv_entry ([.ref (ad 0), .int x1, .int x2, .int x3, .int x4]) (n := 5) (Nat.le_of_ble_eq_true rfl)
  rw [lg_entry_eq]
  generalize (lg_sl ([.ref (ad 0), .int x1, .int x2, .int x3, .int x4]) ++ List.replicate (5 - (lg_sl ([.ref (ad 0), .int x1, .int x2, .int x3, .int x4])).length) Slot.unset).toArray = ls at hl ⊢
  have hl : lv_has ls 5 [(0, .ref (ad 0)), (1, .int x1), (2, .int x2), (3, .int x3), (4, .int x4)] := hl
  have B99 : ∀ (τ : MS) (H : Heap) (locs : List Loc) (ls : Array Slot) (hf : k_X7_move_b99 x1 x2 x3 x4 τ = some ((), τ')) (hw : zw D A ad (mG cy ad τ) H) (hS : va_S A s.heap H locs) (hl : lv_has ls 5 [(0, .ref (ad 0)), (1, .int x1), (2, .int x2), (3, .int x3), (4, .int x4)]), W p l e (headSpec (wz yX7_move cX7_move 5 none) ({ frames := 1, cells := 0, slots := 0, locals := 22 } : Room)).room s m ([.ref (ad 0), .int x1, .int x2, .int x3, .int x4] : List Value).toArray below meth c H locs 0 0 (MQ below (va_Qv (fun (u : MS) => u = τ') (MWp D cy A ad) A) ([.ref (ad 0), .int x1, .int x2, .int x3, .int x4] : List Value).toArray s 0 0 A) (F0 m 99 ls []) := by
    intro τ H locs ls hf hw hS hl
    rw [k_X7_move_b99] at hf
    exact mw_retv S hr hf hw hS hlocks dX7_move_99
  rw [k_X7_move] at hf
  refine lv_iload_n hx hb dX7_move_0 rfl (lv_at hl 1 rfl) ?_
  refine lv_if_ne (tgt := 13) hx hb dX7_move_1 (by decide) (fun c_24 => ?_) (fun c_24 => ?_)
  · have hf := (zi_f c_24).symm.trans hf
    refine lv_iload_n hx hb dX7_move_13 rfl (lv_at hl 1 rfl) ?_
    refine lv_iconst (v := (1 : Int32)) hx hb dX7_move_14 (by decide) ?_
    refine lv_icmp_ne (tgt := 37) hx hb dX7_move_15 (by decide) (fun c_25 => ?_) (fun c_25 => ?_)
    · have hf := (zi_f c_25).symm.trans hf
      refine lv_iload_n hx hb dX7_move_37 rfl (lv_at hl 1 rfl) ?_
      refine lv_iconst (v := (2 : Int32)) hx hb dX7_move_38 (by decide) ?_
      refine lv_icmp_ne (tgt := 61) hx hb dX7_move_39 (by decide) (fun c_26 => ?_) (fun c_26 => ?_)
      · have hf := (zi_f c_26).symm.trans hf
        refine lv_iload_n hx hb dX7_move_61 rfl (lv_at hl 1 rfl) ?_
        refine lv_iconst (v := (3 : Int32)) hx hb dX7_move_62 (by decide) ?_
        refine lv_icmp_ne (tgt := 84) hx hb dX7_move_63 (by decide) (fun c_27 => ?_) (fun c_27 => ?_)
        · have hf := (zi_f c_27).symm.trans hf
          refine lv_aload_n hx hb dX7_move_84 rfl (lv_at hl 0 rfl) ?_
          refine mr_get S h7 hK hw 13 (by decide) (wz_in (zin3 _ (List.mem_of_getElem? (i := 19) rfl))) rfl rfl dX7_move_85 ?_
          refine lv_bipush (v := (8 : Int32)) hx hb dX7_move_88 (by decide) ?_
          refine lv_iload_n hx hb dX7_move_90 rfl (lv_at hl 3 rfl) ?_
          refine lv_imul hx hb dX7_move_91 ?_
          refine lv_iload_n hx hb dX7_move_92 rfl (lv_at hl 2 rfl) ?_
          refine lv_iadd hx hb dX7_move_93 ?_
          refine lv_aload_n hx hb dX7_move_94 rfl (lv_at hl 0 rfl) ?_
          obtain ⟨r_28, t_29, e_30, hf⟩ := zb_inv hf
          refine mw_cl (As := []) (rest := [.int (((8 : Int32) * x3) + x2), .ref (ad 13)]) (n := 0) S (kc_X7_take l D cy A ad _ _ _ e_30) (wz_V (zin14 _ (List.mem_of_getElem? (i := 3) rfl)) (zin14 _ (List.mem_of_getElem? (i := 0) rfl)) (zin14 _ (List.mem_of_getElem? (i := 1) rfl)) (zin14 _ (List.mem_of_getElem? (i := 2) rfl)) (zin1 _ (List.mem_of_getElem? (i := 5) rfl))) rfl ⟨rfl, rfl⟩ (by decide +kernel) ⟨Nat.le_of_ble_eq_true rfl, Nat.le_of_ble_eq_true rfl⟩ rfl hl.1 rfl (Nat.le_of_ble_eq_true rfl) hK hw hS dX7_move_95 ⟨Nat.zero_le _, Nat.zero_le _⟩ (fun H locs hw hS => ?_)
          obtain ⟨g_31, hf⟩ := zg_inv hf
          refine mr_last S hK hw hS 13 rfl g_31 rfl dX7_move_98 (fun H locs hw hS => ?_)
          exact B99 _ _ _ _ hf hw hS (lv_sub hl [0, 1, 2, 3, 4] rfl)
        · have hf := (zi_t c_27).symm.trans hf
          refine lv_aload_n hx hb dX7_move_66 rfl (lv_at hl 0 rfl) ?_
          refine lv_aload_n hx hb dX7_move_67 rfl (lv_at hl 0 rfl) ?_
          refine mr_get S h7 hK hw 13 (by decide) (wz_in (zin3 _ (List.mem_of_getElem? (i := 19) rfl))) rfl rfl dX7_move_68 ?_
          refine lv_bipush (v := (8 : Int32)) hx hb dX7_move_71 (by decide) ?_
          refine lv_iload_n hx hb dX7_move_73 rfl (lv_at hl 3 rfl) ?_
          refine lv_imul hx hb dX7_move_74 ?_
          refine lv_iload_n hx hb dX7_move_75 rfl (lv_at hl 2 rfl) ?_
          refine lv_iadd hx hb dX7_move_76 ?_
          obtain ⟨g_32, hf⟩ := zg_inv hf
          refine mr_lald S hK hw 13 rfl g_32 dX7_move_77 ?_
          obtain ⟨⟨⟩, t_34, e_35, hf⟩ := zb_inv hf
          refine mw_cv (As := [.long (mj τ 13 (((8 : Int32) * x3) + x2).toNatClampNeg)]) (rest := []) (n := 1) S (kc_X7_lay l D cy A ad _ _ _ e_35) (wz_V (zin14 _ (List.mem_of_getElem? (i := 11) rfl)) (zin14 _ (List.mem_of_getElem? (i := 8) rfl)) (zin14 _ (List.mem_of_getElem? (i := 9) rfl)) (zin14 _ (List.mem_of_getElem? (i := 10) rfl)) (zin1 _ (List.mem_of_getElem? (i := 5) rfl))) rfl ⟨rfl, rfl⟩ (by decide +kernel) ⟨Nat.le_of_ble_eq_true rfl, Nat.le_of_ble_eq_true rfl⟩ rfl hl.1 rfl (Nat.le_of_ble_eq_true rfl) hK hw hS dX7_move_78 ⟨Nat.zero_le _, Nat.zero_le _⟩ (fun H locs hw hS => ?_)
          refine lv_goto (tgt := 99) hx hb dX7_move_81 (by decide) ?_
          exact B99 _ _ _ _ hf hw hS (lv_sub hl [0, 1, 2, 3, 4] rfl)
      · have hf := (zi_t c_26).symm.trans hf
        refine lv_aload_n hx hb dX7_move_42 rfl (lv_at hl 0 rfl) ?_
        refine mr_get S h7 hK hw 22 (by decide) (wz_in (zin4 _ (List.mem_of_getElem? (i := 5) rfl))) rfl rfl dX7_move_43 ?_
        refine lv_bipush (v := (8 : Int32)) hx hb dX7_move_46 (by decide) ?_
        refine lv_iload hx hb dX7_move_48 (lv_at hl 4 rfl) ?_
        refine lv_imul hx hb dX7_move_50 ?_
        refine lv_iload_n hx hb dX7_move_51 rfl (lv_at hl 2 rfl) ?_
        refine lv_iadd hx hb dX7_move_52 ?_
        refine lv_aload_n hx hb dX7_move_53 rfl (lv_at hl 0 rfl) ?_
        obtain ⟨r_36, t_37, e_38, hf⟩ := zb_inv hf
        refine mw_cl (As := []) (rest := [.int (((8 : Int32) * x4) + x2), .ref (ad 22)]) (n := 0) S (kc_X7_take l D cy A ad _ _ _ e_38) (wz_V (zin14 _ (List.mem_of_getElem? (i := 3) rfl)) (zin14 _ (List.mem_of_getElem? (i := 0) rfl)) (zin14 _ (List.mem_of_getElem? (i := 1) rfl)) (zin14 _ (List.mem_of_getElem? (i := 2) rfl)) (zin1 _ (List.mem_of_getElem? (i := 5) rfl))) rfl ⟨rfl, rfl⟩ (by decide +kernel) ⟨Nat.le_of_ble_eq_true rfl, Nat.le_of_ble_eq_true rfl⟩ rfl hl.1 rfl (Nat.le_of_ble_eq_true rfl) hK hw hS dX7_move_54 ⟨Nat.zero_le _, Nat.zero_le _⟩ (fun H locs hw hS => ?_)
        obtain ⟨g_39, hf⟩ := zg_inv hf
        refine mr_last S hK hw hS 22 rfl g_39 rfl dX7_move_57 (fun H locs hw hS => ?_)
        refine lv_goto (tgt := 99) hx hb dX7_move_58 (by decide) ?_
        exact B99 _ _ _ _ hf hw hS (lv_sub hl [0, 1, 2, 3, 4] rfl)
    · have hf := (zi_t c_25).symm.trans hf
      refine lv_aload_n hx hb dX7_move_18 rfl (lv_at hl 0 rfl) ?_
      refine lv_aload_n hx hb dX7_move_19 rfl (lv_at hl 0 rfl) ?_
      refine mr_get S h7 hK hw 22 (by decide) (wz_in (zin4 _ (List.mem_of_getElem? (i := 5) rfl))) rfl rfl dX7_move_20 ?_
      refine lv_bipush (v := (8 : Int32)) hx hb dX7_move_23 (by decide) ?_
      refine lv_iload hx hb dX7_move_25 (lv_at hl 4 rfl) ?_
      refine lv_imul hx hb dX7_move_27 ?_
      refine lv_iload_n hx hb dX7_move_28 rfl (lv_at hl 2 rfl) ?_
      refine lv_iadd hx hb dX7_move_29 ?_
      obtain ⟨g_40, hf⟩ := zg_inv hf
      refine mr_lald S hK hw 22 rfl g_40 dX7_move_30 ?_
      obtain ⟨⟨⟩, t_42, e_43, hf⟩ := zb_inv hf
      refine mw_cv (As := [.long (mj τ 22 (((8 : Int32) * x4) + x2).toNatClampNeg)]) (rest := []) (n := 1) S (kc_X7_lay l D cy A ad _ _ _ e_43) (wz_V (zin14 _ (List.mem_of_getElem? (i := 11) rfl)) (zin14 _ (List.mem_of_getElem? (i := 8) rfl)) (zin14 _ (List.mem_of_getElem? (i := 9) rfl)) (zin14 _ (List.mem_of_getElem? (i := 10) rfl)) (zin1 _ (List.mem_of_getElem? (i := 5) rfl))) rfl ⟨rfl, rfl⟩ (by decide +kernel) ⟨Nat.le_of_ble_eq_true rfl, Nat.le_of_ble_eq_true rfl⟩ rfl hl.1 rfl (Nat.le_of_ble_eq_true rfl) hK hw hS dX7_move_31 ⟨Nat.zero_le _, Nat.zero_le _⟩ (fun H locs hw hS => ?_)
      refine lv_goto (tgt := 99) hx hb dX7_move_34 (by decide) ?_
      exact B99 _ _ _ _ hf hw hS (lv_sub hl [0, 1, 2, 3, 4] rfl)
  · have hf := (zi_t c_24).symm.trans hf
    refine lv_aload_n hx hb dX7_move_4 rfl (lv_at hl 0 rfl) ?_
    refine lv_iload_n hx hb dX7_move_5 rfl (lv_at hl 2 rfl) ?_
    refine lv_i2l (v := x2.toInt64) hx hb dX7_move_6 rfl ?_
    obtain ⟨⟨⟩, t_45, e_46, hf⟩ := zb_inv hf
    refine mw_cv (As := [.long (x2.toInt64)]) (rest := []) (n := 1) S (kc_X7_lay l D cy A ad _ _ _ e_46) (wz_V (zin14 _ (List.mem_of_getElem? (i := 11) rfl)) (zin14 _ (List.mem_of_getElem? (i := 8) rfl)) (zin14 _ (List.mem_of_getElem? (i := 9) rfl)) (zin14 _ (List.mem_of_getElem? (i := 10) rfl)) (zin1 _ (List.mem_of_getElem? (i := 5) rfl))) rfl ⟨rfl, rfl⟩ (by decide +kernel) ⟨Nat.le_of_ble_eq_true rfl, Nat.le_of_ble_eq_true rfl⟩ rfl hl.1 rfl (Nat.le_of_ble_eq_true rfl) hK hw hS dX7_move_7 ⟨Nat.zero_le _, Nat.zero_le _⟩ (fun H locs hw hS => ?_)
    refine lv_goto (tgt := 99) hx hb dX7_move_10 (by decide) ?_
    exact B99 _ _ _ _ hf hw hS (lv_sub hl [0, 1, 2, 3, 4] rfl)
noncomputable def k_X7_reckon_b162 (x1 : Int32) (τ : MS) (x2 : Int64) (x4 : Int64) : Option (Int32 × MS) := some ((0 : Int32), τ)
noncomputable def k_X7_reckon_b159 (x1 : Int32) (τ : MS) (y0 : Int64) (x2 : Int64) (x4 : Int64) : Option (Int32 × MS) := zb (k_X7_lay τ y0) (fun _ t_43 => k_X7_reckon_b162 x1 t_43 x2 x4)
noncomputable def k_X7_reckon_b140 (x1 : Int32) (τ : MS) (y0 : Int64) (x2 : Int64) (x4 : Int64) : Option (Int32 × MS) := zb (k_X7_lay τ y0) (fun _ t_46 => k_X7_reckon_b162 x1 t_46 x2 x4)
noncomputable def k_X7_reckon_b31 (x1 : Int32) (τ : MS) (x2 : Int64) (x4 : Int64) : Option (Int32 × MS) := zs (x1) (fun w_48 => zi (w_48 = 5) (zb (k_X7_lay τ (x4 + x2)) (fun _ t_51 => k_X7_reckon_b162 x1 t_51 x2 x4)) (zi (w_48 = 6) (zb (k_X7_lay τ (x4 - x2)) (fun _ t_55 => k_X7_reckon_b162 x1 t_55 x2 x4)) (zi (w_48 = 7) (zb (k_X7_lay τ (x4 * x2)) (fun _ t_59 => k_X7_reckon_b162 x1 t_59 x2 x4)) (zi (w_48 = 8) (zg (¬ x2 = 0) (zb (k_X7_lay τ (x4 / x2)) (fun _ t_64 => k_X7_reckon_b162 x1 t_64 x2 x4))) (zi (w_48 = 9) (zg (¬ x2 = 0) (zb (k_X7_lay τ (x4 - x4 / x2 * x2)) (fun _ t_69 => k_X7_reckon_b162 x1 t_69 x2 x4))) (zi (w_48 = 10) (zi (0 ≤ (lg_cmp x4 x2)) (k_X7_reckon_b140 x1 τ (0 : Int64) x2 x4) (k_X7_reckon_b140 x1 τ (1 : Int64) x2 x4)) (zi ((lg_cmp x4 x2) = 0) (k_X7_reckon_b159 x1 τ (1 : Int64) x2 x4) (k_X7_reckon_b159 x1 τ (0 : Int64) x2 x4))))))))
noncomputable def k_X7_reckon_b23 (x1 : Int32) (τ : MS) (x2 : Int64) (x4 : Int64) : Option (Int32 × MS) := zi ((lg_cmp x2 (0 : Int64)) = 0) (some ((4 : Int32), τ)) (k_X7_reckon_b31 x1 τ x2 x4)
noncomputable def k_X7_reckon (τ : MS) (x1 : Int32) : Option (Int32 × MS) := zb (k_X7_take τ) (fun r_75 t_76 => zb (k_X7_take t_76) (fun r_78 t_79 => zi (x1 = (8 : Int32)) (k_X7_reckon_b23 x1 t_79 r_75 r_78) (zi (x1 = (9 : Int32)) (k_X7_reckon_b23 x1 t_79 r_75 r_78) (k_X7_reckon_b31 x1 t_79 r_75 r_78))))
set_option maxHeartbeats 4000000 in
set_option maxRecDepth 100000 in
theorem kc_X7_reckon (l : Launch) (D : va_G) (cy : Nat → ClassId) (A : Nat → Prop) (ad : Nat → Nat) (τ τ' : MS) (x1 : Int32) (r : Int32) (hf : k_X7_reckon τ x1 = some (r, τ')) : Met l yX7_reckon (wz yX7_reckon cX7_reckon 6 (some .int)) ({ frames := 1, cells := 0, slots := 0, locals := 22 } : Room) (va_Pc [.ref (ad 0), .int x1] (MWs D cy A ad τ)) (va_Qi (fun (r' : Int32) (u : MS) => r' = r ∧ u = τ') (MWp D cy A ad) A) 0 0 A := by
  refine Met.ofW (cc := cX7_reckon) (maxL := 6) (ret := (some .int)) (by decide) rfl ?_
  intro p e s m args below meth c s₁ B hml hv
  obtain ⟨rfl, hw, hK⟩ := hv
  have hx := B.exec
  have hb := B.bytes
  have hr := B.returns
  have hts := atoms_spec (ws := (wz yX7_reckon cX7_reckon 6 (some .int))) B.pre
  have hown : s.vm.findClass RX7 = some m.cls := findClass_of_methodNamed B.named
  have hlocks := B.notSynchronized
  have S : CallFix p m c cX7_reckon 6 s ([.ref (ad 0), .int x1] : List Value).toArray (wz yX7_reckon cX7_reckon 6 (some .int)) RX7 := ⟨hx, hb, hml, hown, hts⟩
  have h7 : ∀ w ∈ wsX70, w ∈ (wz yX7_reckon cX7_reckon 6 (some .int)) := fun w h => wz_in (inlX7 w h)
  have hS : va_S A s.heap s.heap [] := va_S.rf
  have hl := lv_entry ([.ref (ad 0), .int x1]) (n := 6) (Nat.le_of_ble_eq_true rfl)
  rw [lg_entry_eq]
  generalize (lg_sl ([.ref (ad 0), .int x1]) ++ List.replicate (6 - (lg_sl ([.ref (ad 0), .int x1])).length) Slot.unset).toArray = ls at hl ⊢
  have hl : lv_has ls 6 [(0, .ref (ad 0)), (1, .int x1)] := hl
  have B162 : ∀ (τ : MS) (x2 : Int64) (x4 : Int64) (H : Heap) (locs : List Loc) (ls : Array Slot) (hf : k_X7_reckon_b162 x1 τ x2 x4 = some (r, τ')) (hw : zw D A ad (mG cy ad τ) H) (hS : va_S A s.heap H locs) (hl : lv_has ls 6 [(0, .ref (ad 0)), (1, .int x1), (2, .long x2), (4, .long x4)]), W p l e (headSpec (wz yX7_reckon cX7_reckon 6 (some .int)) ({ frames := 1, cells := 0, slots := 0, locals := 22 } : Room)).room s m ([.ref (ad 0), .int x1] : List Value).toArray below meth c H locs 0 0 (MQ below (va_Qi (fun (r' : Int32) (u : MS) => r' = r ∧ u = τ') (MWp D cy A ad) A) ([.ref (ad 0), .int x1] : List Value).toArray s 0 0 A) (F0 m 162 ls []) := by
    intro τ x2 x4 H locs ls hf hw hS hl
    rw [k_X7_reckon_b162] at hf
    refine lv_iconst (v := (0 : Int32)) hx hb dX7_reckon_162 (by decide) ?_
    exact mw_reti S hr hf hw hS hlocks dX7_reckon_163
  have B159 : ∀ (τ : MS) (y0 : Int64) (x2 : Int64) (x4 : Int64) (H : Heap) (locs : List Loc) (ls : Array Slot) (hf : k_X7_reckon_b159 x1 τ y0 x2 x4 = some (r, τ')) (hw : zw D A ad (mG cy ad τ) H) (hS : va_S A s.heap H locs) (hl : lv_has ls 6 [(0, .ref (ad 0)), (1, .int x1), (2, .long x2), (4, .long x4)]), W p l e (headSpec (wz yX7_reckon cX7_reckon 6 (some .int)) ({ frames := 1, cells := 0, slots := 0, locals := 22 } : Room)).room s m ([.ref (ad 0), .int x1] : List Value).toArray below meth c H locs 0 0 (MQ below (va_Qi (fun (r' : Int32) (u : MS) => r' = r ∧ u = τ') (MWp D cy A ad) A) ([.ref (ad 0), .int x1] : List Value).toArray s 0 0 A) (F0 m 159 ls [.long y0, .ref (ad 0)]) := by
    intro τ y0 x2 x4 H locs ls hf hw hS hl
    rw [k_X7_reckon_b159] at hf
    obtain ⟨⟨⟩, t_43, e_44, hf⟩ := zb_inv hf
    refine mw_cv (As := [.long y0]) (rest := []) (n := 1) S (kc_X7_lay l D cy A ad _ _ _ e_44) (wz_V (zin14 _ (List.mem_of_getElem? (i := 11) rfl)) (zin14 _ (List.mem_of_getElem? (i := 8) rfl)) (zin14 _ (List.mem_of_getElem? (i := 9) rfl)) (zin14 _ (List.mem_of_getElem? (i := 10) rfl)) (zin1 _ (List.mem_of_getElem? (i := 5) rfl))) rfl ⟨rfl, rfl⟩ (by decide +kernel) ⟨Nat.le_of_ble_eq_true rfl, Nat.le_of_ble_eq_true rfl⟩ rfl hl.1 rfl (Nat.le_of_ble_eq_true rfl) hK hw hS dX7_reckon_159 ⟨Nat.zero_le _, Nat.zero_le _⟩ (fun H locs hw hS => ?_)
    exact B162 _ _ _ _ _ _ hf hw hS (lv_sub hl [0, 1, 2, 3] rfl)
  have B140 : ∀ (τ : MS) (y0 : Int64) (x2 : Int64) (x4 : Int64) (H : Heap) (locs : List Loc) (ls : Array Slot) (hf : k_X7_reckon_b140 x1 τ y0 x2 x4 = some (r, τ')) (hw : zw D A ad (mG cy ad τ) H) (hS : va_S A s.heap H locs) (hl : lv_has ls 6 [(0, .ref (ad 0)), (1, .int x1), (2, .long x2), (4, .long x4)]), W p l e (headSpec (wz yX7_reckon cX7_reckon 6 (some .int)) ({ frames := 1, cells := 0, slots := 0, locals := 22 } : Room)).room s m ([.ref (ad 0), .int x1] : List Value).toArray below meth c H locs 0 0 (MQ below (va_Qi (fun (r' : Int32) (u : MS) => r' = r ∧ u = τ') (MWp D cy A ad) A) ([.ref (ad 0), .int x1] : List Value).toArray s 0 0 A) (F0 m 140 ls [.long y0, .ref (ad 0)]) := by
    intro τ y0 x2 x4 H locs ls hf hw hS hl
    rw [k_X7_reckon_b140] at hf
    obtain ⟨⟨⟩, t_46, e_47, hf⟩ := zb_inv hf
    refine mw_cv (As := [.long y0]) (rest := []) (n := 1) S (kc_X7_lay l D cy A ad _ _ _ e_47) (wz_V (zin14 _ (List.mem_of_getElem? (i := 11) rfl)) (zin14 _ (List.mem_of_getElem? (i := 8) rfl)) (zin14 _ (List.mem_of_getElem? (i := 9) rfl)) (zin14 _ (List.mem_of_getElem? (i := 10) rfl)) (zin1 _ (List.mem_of_getElem? (i := 5) rfl))) rfl ⟨rfl, rfl⟩ (by decide +kernel) ⟨Nat.le_of_ble_eq_true rfl, Nat.le_of_ble_eq_true rfl⟩ rfl hl.1 rfl (Nat.le_of_ble_eq_true rfl) hK hw hS dX7_reckon_140 ⟨Nat.zero_le _, Nat.zero_le _⟩ (fun H locs hw hS => ?_)
    refine lv_goto (tgt := 162) hx hb dX7_reckon_143 (by decide) ?_
    exact B162 _ _ _ _ _ _ hf hw hS (lv_sub hl [0, 1, 2, 3] rfl)
  have B31 : ∀ (τ : MS) (x2 : Int64) (x4 : Int64) (H : Heap) (locs : List Loc) (ls : Array Slot) (hf : k_X7_reckon_b31 x1 τ x2 x4 = some (r, τ')) (hw : zw D A ad (mG cy ad τ) H) (hS : va_S A s.heap H locs) (hl : lv_has ls 6 [(0, .ref (ad 0)), (1, .int x1), (2, .long x2), (4, .long x4)]), W p l e (headSpec (wz yX7_reckon cX7_reckon 6 (some .int)) ({ frames := 1, cells := 0, slots := 0, locals := 22 } : Room)).room s m ([.ref (ad 0), .int x1] : List Value).toArray below meth c H locs 0 0 (MQ below (va_Qi (fun (r' : Int32) (u : MS) => r' = r ∧ u = τ') (MWp D cy A ad) A) ([.ref (ad 0), .int x1] : List Value).toArray s 0 0 A) (F0 m 31 ls []) := by
    intro τ x2 x4 H locs ls hf hw hS hl
    rw [k_X7_reckon_b31] at hf
    refine lv_iload_n hx hb dX7_reckon_31 rfl (lv_at hl 1 rfl) ?_
    refine lv_topi (fun w_48 ew_48 => ?_)
    have hf := (zs_e ew_48).symm.trans hf
    by_cases c_49 : w_48 = 5
    · have hf := (zi_t c_49).symm.trans hf
      refine lv_tableIn (tgt := 72) hx hb dX7_reckon_32 (by rw [c_49]; decide) (by rw [c_49]; decide) (by rw [c_49]; rfl) (by decide) ?_
      refine lv_aload_n hx hb dX7_reckon_72 rfl (lv_at hl 0 rfl) ?_
      refine lv_lload hx hb dX7_reckon_73 (lv_at hl 3 rfl) ?_
      refine lv_lload_n hx hb dX7_reckon_75 rfl (lv_at hl 2 rfl) ?_
      refine lv_ladd hx hb dX7_reckon_76 ?_
      obtain ⟨⟨⟩, t_51, e_52, hf⟩ := zb_inv hf
      refine mw_cv (As := [.long (x4 + x2)]) (rest := []) (n := 1) S (kc_X7_lay l D cy A ad _ _ _ e_52) (wz_V (zin14 _ (List.mem_of_getElem? (i := 11) rfl)) (zin14 _ (List.mem_of_getElem? (i := 8) rfl)) (zin14 _ (List.mem_of_getElem? (i := 9) rfl)) (zin14 _ (List.mem_of_getElem? (i := 10) rfl)) (zin1 _ (List.mem_of_getElem? (i := 5) rfl))) rfl ⟨rfl, rfl⟩ (by decide +kernel) ⟨Nat.le_of_ble_eq_true rfl, Nat.le_of_ble_eq_true rfl⟩ rfl hl.1 rfl (Nat.le_of_ble_eq_true rfl) hK hw hS dX7_reckon_77 ⟨Nat.zero_le _, Nat.zero_le _⟩ (fun H locs hw hS => ?_)
      refine lv_goto (tgt := 162) hx hb dX7_reckon_80 (by decide) ?_
      exact B162 _ _ _ _ _ _ hf hw hS (lv_sub hl [0, 1, 2, 3] rfl)
    have hf := (zi_f c_49).symm.trans hf
    by_cases c_53 : w_48 = 6
    · have hf := (zi_t c_53).symm.trans hf
      refine lv_tableIn (tgt := 83) hx hb dX7_reckon_32 (by rw [c_53]; decide) (by rw [c_53]; decide) (by rw [c_53]; rfl) (by decide) ?_
      refine lv_aload_n hx hb dX7_reckon_83 rfl (lv_at hl 0 rfl) ?_
      refine lv_lload hx hb dX7_reckon_84 (lv_at hl 3 rfl) ?_
      refine lv_lload_n hx hb dX7_reckon_86 rfl (lv_at hl 2 rfl) ?_
      refine lv_lsub hx hb dX7_reckon_87 ?_
      obtain ⟨⟨⟩, t_55, e_56, hf⟩ := zb_inv hf
      refine mw_cv (As := [.long (x4 - x2)]) (rest := []) (n := 1) S (kc_X7_lay l D cy A ad _ _ _ e_56) (wz_V (zin14 _ (List.mem_of_getElem? (i := 11) rfl)) (zin14 _ (List.mem_of_getElem? (i := 8) rfl)) (zin14 _ (List.mem_of_getElem? (i := 9) rfl)) (zin14 _ (List.mem_of_getElem? (i := 10) rfl)) (zin1 _ (List.mem_of_getElem? (i := 5) rfl))) rfl ⟨rfl, rfl⟩ (by decide +kernel) ⟨Nat.le_of_ble_eq_true rfl, Nat.le_of_ble_eq_true rfl⟩ rfl hl.1 rfl (Nat.le_of_ble_eq_true rfl) hK hw hS dX7_reckon_88 ⟨Nat.zero_le _, Nat.zero_le _⟩ (fun H locs hw hS => ?_)
      refine lv_goto (tgt := 162) hx hb dX7_reckon_91 (by decide) ?_
      exact B162 _ _ _ _ _ _ hf hw hS (lv_sub hl [0, 1, 2, 3] rfl)
    have hf := (zi_f c_53).symm.trans hf
    by_cases c_57 : w_48 = 7
    · have hf := (zi_t c_57).symm.trans hf
      refine lv_tableIn (tgt := 94) hx hb dX7_reckon_32 (by rw [c_57]; decide) (by rw [c_57]; decide) (by rw [c_57]; rfl) (by decide) ?_
      refine lv_aload_n hx hb dX7_reckon_94 rfl (lv_at hl 0 rfl) ?_
      refine lv_lload hx hb dX7_reckon_95 (lv_at hl 3 rfl) ?_
      refine lv_lload_n hx hb dX7_reckon_97 rfl (lv_at hl 2 rfl) ?_
      refine lv_lmul hx hb dX7_reckon_98 ?_
      obtain ⟨⟨⟩, t_59, e_60, hf⟩ := zb_inv hf
      refine mw_cv (As := [.long (x4 * x2)]) (rest := []) (n := 1) S (kc_X7_lay l D cy A ad _ _ _ e_60) (wz_V (zin14 _ (List.mem_of_getElem? (i := 11) rfl)) (zin14 _ (List.mem_of_getElem? (i := 8) rfl)) (zin14 _ (List.mem_of_getElem? (i := 9) rfl)) (zin14 _ (List.mem_of_getElem? (i := 10) rfl)) (zin1 _ (List.mem_of_getElem? (i := 5) rfl))) rfl ⟨rfl, rfl⟩ (by decide +kernel) ⟨Nat.le_of_ble_eq_true rfl, Nat.le_of_ble_eq_true rfl⟩ rfl hl.1 rfl (Nat.le_of_ble_eq_true rfl) hK hw hS dX7_reckon_99 ⟨Nat.zero_le _, Nat.zero_le _⟩ (fun H locs hw hS => ?_)
      refine lv_goto (tgt := 162) hx hb dX7_reckon_102 (by decide) ?_
      exact B162 _ _ _ _ _ _ hf hw hS (lv_sub hl [0, 1, 2, 3] rfl)
    have hf := (zi_f c_57).symm.trans hf
    by_cases c_61 : w_48 = 8
    · have hf := (zi_t c_61).symm.trans hf
      refine lv_tableIn (tgt := 105) hx hb dX7_reckon_32 (by rw [c_61]; decide) (by rw [c_61]; decide) (by rw [c_61]; rfl) (by decide) ?_
      refine lv_aload_n hx hb dX7_reckon_105 rfl (lv_at hl 0 rfl) ?_
      refine lv_lload hx hb dX7_reckon_106 (lv_at hl 3 rfl) ?_
      refine lv_lload_n hx hb dX7_reckon_108 rfl (lv_at hl 2 rfl) ?_
      obtain ⟨g_62, hf⟩ := zg_inv hf
      refine lv_ldiv hx hb dX7_reckon_109 g_62 ?_
      obtain ⟨⟨⟩, t_64, e_65, hf⟩ := zb_inv hf
      refine mw_cv (As := [.long (x4 / x2)]) (rest := []) (n := 1) S (kc_X7_lay l D cy A ad _ _ _ e_65) (wz_V (zin14 _ (List.mem_of_getElem? (i := 11) rfl)) (zin14 _ (List.mem_of_getElem? (i := 8) rfl)) (zin14 _ (List.mem_of_getElem? (i := 9) rfl)) (zin14 _ (List.mem_of_getElem? (i := 10) rfl)) (zin1 _ (List.mem_of_getElem? (i := 5) rfl))) rfl ⟨rfl, rfl⟩ (by decide +kernel) ⟨Nat.le_of_ble_eq_true rfl, Nat.le_of_ble_eq_true rfl⟩ rfl hl.1 rfl (Nat.le_of_ble_eq_true rfl) hK hw hS dX7_reckon_110 ⟨Nat.zero_le _, Nat.zero_le _⟩ (fun H locs hw hS => ?_)
      refine lv_goto (tgt := 162) hx hb dX7_reckon_113 (by decide) ?_
      exact B162 _ _ _ _ _ _ hf hw hS (lv_sub hl [0, 1, 2, 3] rfl)
    have hf := (zi_f c_61).symm.trans hf
    by_cases c_66 : w_48 = 9
    · have hf := (zi_t c_66).symm.trans hf
      refine lv_tableIn (tgt := 116) hx hb dX7_reckon_32 (by rw [c_66]; decide) (by rw [c_66]; decide) (by rw [c_66]; rfl) (by decide) ?_
      refine lv_aload_n hx hb dX7_reckon_116 rfl (lv_at hl 0 rfl) ?_
      refine lv_lload hx hb dX7_reckon_117 (lv_at hl 3 rfl) ?_
      refine lv_lload_n hx hb dX7_reckon_119 rfl (lv_at hl 2 rfl) ?_
      obtain ⟨g_67, hf⟩ := zg_inv hf
      refine lv_lrem hx hb dX7_reckon_120 g_67 ?_
      obtain ⟨⟨⟩, t_69, e_70, hf⟩ := zb_inv hf
      refine mw_cv (As := [.long (x4 - x4 / x2 * x2)]) (rest := []) (n := 1) S (kc_X7_lay l D cy A ad _ _ _ e_70) (wz_V (zin14 _ (List.mem_of_getElem? (i := 11) rfl)) (zin14 _ (List.mem_of_getElem? (i := 8) rfl)) (zin14 _ (List.mem_of_getElem? (i := 9) rfl)) (zin14 _ (List.mem_of_getElem? (i := 10) rfl)) (zin1 _ (List.mem_of_getElem? (i := 5) rfl))) rfl ⟨rfl, rfl⟩ (by decide +kernel) ⟨Nat.le_of_ble_eq_true rfl, Nat.le_of_ble_eq_true rfl⟩ rfl hl.1 rfl (Nat.le_of_ble_eq_true rfl) hK hw hS dX7_reckon_121 ⟨Nat.zero_le _, Nat.zero_le _⟩ (fun H locs hw hS => ?_)
      refine lv_goto (tgt := 162) hx hb dX7_reckon_124 (by decide) ?_
      exact B162 _ _ _ _ _ _ hf hw hS (lv_sub hl [0, 1, 2, 3] rfl)
    have hf := (zi_f c_66).symm.trans hf
    by_cases c_71 : w_48 = 10
    · have hf := (zi_t c_71).symm.trans hf
      refine lv_tableIn (tgt := 127) hx hb dX7_reckon_32 (by rw [c_71]; decide) (by rw [c_71]; decide) (by rw [c_71]; rfl) (by decide) ?_
      refine lv_aload_n hx hb dX7_reckon_127 rfl (lv_at hl 0 rfl) ?_
      refine lv_lload hx hb dX7_reckon_128 (lv_at hl 3 rfl) ?_
      refine lv_lload_n hx hb dX7_reckon_130 rfl (lv_at hl 2 rfl) ?_
      refine W.lcmp hx hb dX7_reckon_131 ?_
      refine lv_if_ge (tgt := 139) hx hb dX7_reckon_132 (by decide) (fun c_72 => ?_) (fun c_72 => ?_)
      · have hf := (zi_t c_72).symm.trans hf
        refine lv_lconst (v := (0 : Int64)) hx hb dX7_reckon_139 (by decide) ?_
        exact B140 _ _ _ _ _ _ _ hf hw hS (lv_sub hl [0, 1, 2, 3] rfl)
      · have hf := (zi_f c_72).symm.trans hf
        refine lv_lconst (v := (1 : Int64)) hx hb dX7_reckon_135 (by decide) ?_
        refine lv_goto (tgt := 140) hx hb dX7_reckon_136 (by decide) ?_
        exact B140 _ _ _ _ _ _ _ hf hw hS (lv_sub hl [0, 1, 2, 3] rfl)
    have hf := (zi_f c_71).symm.trans hf
    refine lv_tableOut (tgt := 146) hx hb dX7_reckon_32 (zs_out5_10 w_48 c_49 c_53 c_57 c_61 c_66 c_71) (by decide) ?_
    refine lv_aload_n hx hb dX7_reckon_146 rfl (lv_at hl 0 rfl) ?_
    refine lv_lload hx hb dX7_reckon_147 (lv_at hl 3 rfl) ?_
    refine lv_lload_n hx hb dX7_reckon_149 rfl (lv_at hl 2 rfl) ?_
    refine W.lcmp hx hb dX7_reckon_150 ?_
    refine lv_if_ne (tgt := 158) hx hb dX7_reckon_151 (by decide) (fun c_73 => ?_) (fun c_73 => ?_)
    · have hf := (zi_f c_73).symm.trans hf
      refine lv_lconst (v := (0 : Int64)) hx hb dX7_reckon_158 (by decide) ?_
      exact B159 _ _ _ _ _ _ _ hf hw hS (lv_sub hl [0, 1, 2, 3] rfl)
    · have hf := (zi_t c_73).symm.trans hf
      refine lv_lconst (v := (1 : Int64)) hx hb dX7_reckon_154 (by decide) ?_
      refine lv_goto (tgt := 159) hx hb dX7_reckon_155 (by decide) ?_
      exact B159 _ _ _ _ _ _ _ hf hw hS (lv_sub hl [0, 1, 2, 3] rfl)
  have B23 : ∀ (τ : MS) (x2 : Int64) (x4 : Int64) (H : Heap) (locs : List Loc) (ls : Array Slot) (hf : k_X7_reckon_b23 x1 τ x2 x4 = some (r, τ')) (hw : zw D A ad (mG cy ad τ) H) (hS : va_S A s.heap H locs) (hl : lv_has ls 6 [(0, .ref (ad 0)), (1, .int x1), (2, .long x2), (4, .long x4)]), W p l e (headSpec (wz yX7_reckon cX7_reckon 6 (some .int)) ({ frames := 1, cells := 0, slots := 0, locals := 22 } : Room)).room s m ([.ref (ad 0), .int x1] : List Value).toArray below meth c H locs 0 0 (MQ below (va_Qi (fun (r' : Int32) (u : MS) => r' = r ∧ u = τ') (MWp D cy A ad) A) ([.ref (ad 0), .int x1] : List Value).toArray s 0 0 A) (F0 m 23 ls []) := by
    intro τ x2 x4 H locs ls hf hw hS hl
    rw [k_X7_reckon_b23] at hf
    refine lv_lload_n hx hb dX7_reckon_23 rfl (lv_at hl 2 rfl) ?_
    refine lv_lconst (v := (0 : Int64)) hx hb dX7_reckon_24 (by decide) ?_
    refine W.lcmp hx hb dX7_reckon_25 ?_
    refine lv_if_ne (tgt := 31) hx hb dX7_reckon_26 (by decide) (fun c_74 => ?_) (fun c_74 => ?_)
    · have hf := (zi_f c_74).symm.trans hf
      exact B31 _ _ _ _ _ _ hf hw hS (lv_sub hl [0, 1, 2, 3] rfl)
    · have hf := (zi_t c_74).symm.trans hf
      refine lv_iconst (v := (4 : Int32)) hx hb dX7_reckon_29 (by decide) ?_
      exact mw_reti S hr hf hw hS hlocks dX7_reckon_30
  rw [k_X7_reckon] at hf
  refine lv_aload_n hx hb dX7_reckon_0 rfl (lv_at hl 0 rfl) ?_
  obtain ⟨r_75, t_76, e_77, hf⟩ := zb_inv hf
  refine mw_cl (As := []) (rest := []) (n := 0) S (kc_X7_take l D cy A ad _ _ _ e_77) (wz_V (zin14 _ (List.mem_of_getElem? (i := 3) rfl)) (zin14 _ (List.mem_of_getElem? (i := 0) rfl)) (zin14 _ (List.mem_of_getElem? (i := 1) rfl)) (zin14 _ (List.mem_of_getElem? (i := 2) rfl)) (zin1 _ (List.mem_of_getElem? (i := 5) rfl))) rfl ⟨rfl, rfl⟩ (by decide +kernel) ⟨Nat.le_of_ble_eq_true rfl, Nat.le_of_ble_eq_true rfl⟩ rfl hl.1 rfl (Nat.le_of_ble_eq_true rfl) hK hw hS dX7_reckon_1 ⟨Nat.zero_le _, Nat.zero_le _⟩ (fun H locs hw hS => ?_)
  refine lv_lstore_n (lv' := [(2, .long r_75), (0, .ref (ad 0)), (1, .int x1)]) hx hb dX7_reckon_4 rfl hl (by decide) rfl (fun ls hl => ?_)
  refine lv_aload_n hx hb dX7_reckon_5 rfl (lv_at hl 1 rfl) ?_
  obtain ⟨r_78, t_79, e_80, hf⟩ := zb_inv hf
  refine mw_cl (As := []) (rest := []) (n := 0) S (kc_X7_take l D cy A ad _ _ _ e_80) (wz_V (zin14 _ (List.mem_of_getElem? (i := 3) rfl)) (zin14 _ (List.mem_of_getElem? (i := 0) rfl)) (zin14 _ (List.mem_of_getElem? (i := 1) rfl)) (zin14 _ (List.mem_of_getElem? (i := 2) rfl)) (zin1 _ (List.mem_of_getElem? (i := 5) rfl))) rfl ⟨rfl, rfl⟩ (by decide +kernel) ⟨Nat.le_of_ble_eq_true rfl, Nat.le_of_ble_eq_true rfl⟩ rfl hl.1 rfl (Nat.le_of_ble_eq_true rfl) hK hw hS dX7_reckon_6 ⟨Nat.zero_le _, Nat.zero_le _⟩ (fun H locs hw hS => ?_)
  refine lv_lstore (lv' := [(4, .long r_78), (2, .long r_75), (0, .ref (ad 0)), (1, .int x1)]) hx hb dX7_reckon_9 hl (by decide) rfl (fun ls hl => ?_)
  refine lv_iload_n hx hb dX7_reckon_11 rfl (lv_at hl 3 rfl) ?_
  refine lv_bipush (v := (8 : Int32)) hx hb dX7_reckon_12 (by decide) ?_
  refine lv_icmp_eq (tgt := 23) hx hb dX7_reckon_14 (by decide) (fun c_81 => ?_) (fun c_81 => ?_)
  · have hf := (zi_t c_81).symm.trans hf
    exact B23 _ _ _ _ _ _ hf hw hS (lv_sub hl [2, 3, 1, 0] rfl)
  · have hf := (zi_f c_81).symm.trans hf
    refine lv_iload_n hx hb dX7_reckon_17 rfl (lv_at hl 3 rfl) ?_
    refine lv_bipush (v := (9 : Int32)) hx hb dX7_reckon_18 (by decide) ?_
    refine lv_icmp_ne (tgt := 31) hx hb dX7_reckon_20 (by decide) (fun c_82 => ?_) (fun c_82 => ?_)
    · have hf := (zi_f c_82).symm.trans hf
      exact B31 _ _ _ _ _ _ hf hw hS (lv_sub hl [2, 3, 1, 0] rfl)
    · have hf := (zi_t c_82).symm.trans hf
      exact B23 _ _ _ _ _ _ hf hw hS (lv_sub hl [2, 3, 1, 0] rfl)
noncomputable def k_X7_other_b146 (x1 : Int32) (x2 : Int32) (x3 : Int32) (x4 : Int32) (τ : MS) : Option (Int32 × MS) := some ((5 : Int32), τ)
noncomputable def k_X7_other_b79 (x1 : Int32) (x2 : Int32) (x3 : Int32) (x4 : Int32) (τ : MS) (x5 : Int64) : Option (Int32 × MS) := some ((2 : Int32), τ)
noncomputable def k_X7_other (τ : MS) (x1 : Int32) (x2 : Int32) (x3 : Int32) (x4 : Int32) : Option (Int32 × MS) := zs (x1) (fun w_32 => zi (w_32 = 12) (zg (vp_in ((mi τ 28) - (1 : Int32)) 16) (zb (k_X7_lay τ (mj τ 27 ((mi τ 28) - (1 : Int32)).toNatClampNeg)) (fun _ t_36 => some ((0 : Int32), t_36)))) (zi (w_32 = 13) (some ((6 : Int32), mI τ 30 (x2 &&& (255 : Int32)))) (zi (w_32 = 14) (some ((6 : Int32), mI τ 30 (x2 &&& (255 : Int32)))) (zi (w_32 = 15) (zb (k_X7_take τ) (fun r_41 t_42 => zi ((lg_cmp r_41 (0 : Int64)) < 0) (k_X7_other_b79 x1 x2 x3 x4 t_42 r_41) (zi ((lg_cmp r_41 (7 : Int64)) ≤ 0) (zg (vp_in (((8 : Int32) * x4) + (r_41.toInt32)) 1280) (zb (k_X7_lay t_42 (mj t_42 22 (((8 : Int32) * x4) + (r_41.toInt32)).toNatClampNeg)) (fun _ t_48 => some ((0 : Int32), t_48)))) (k_X7_other_b79 x1 x2 x3 x4 t_42 r_41)))) (zi (w_32 = 16) (zg (vp_in x4 160) (zg (vp_in x4 160) (some ((0 : Int32), mR (mR τ 24 x4.toNatClampNeg x2) 25 x4.toNatClampNeg (mi (mR τ 24 x4.toNatClampNeg x2) 26))))) (zi (w_32 = 17) (zg (vp_in x4 160) (zi ((mr τ 24 x4.toNatClampNeg) < 0) (k_X7_other_b146 x1 x2 x3 x4 τ) (zg (vp_in x4 160) (zi ((mr τ 25 x4.toNatClampNeg) = (mi τ 26)) (zg (vp_in x4 160) (zg (vp_in (((8 : Int32) * x3) + (mr τ 24 x4.toNatClampNeg)) 64) (zb (k_X7_lay τ (mj τ 13 (((8 : Int32) * x3) + (mr τ 24 x4.toNatClampNeg)).toNatClampNeg)) (fun _ t_61 => some ((0 : Int32), t_61))))) (k_X7_other_b146 x1 x2 x3 x4 τ))))) (some ((6 : Int32), mI τ 30 (x2 &&& (255 : Int32))))))))))
set_option maxHeartbeats 4000000 in
set_option maxRecDepth 100000 in
theorem kc_X7_other (l : Launch) (D : va_G) (cy : Nat → ClassId) (A : Nat → Prop) (ad : Nat → Nat) (τ τ' : MS) (x1 : Int32) (x2 : Int32) (x3 : Int32) (x4 : Int32) (r : Int32) (hf : k_X7_other τ x1 x2 x3 x4 = some (r, τ')) : Met l yX7_other (wz yX7_other cX7_other 7 (some .int)) ({ frames := 1, cells := 0, slots := 0, locals := 22 } : Room) (va_Pc [.ref (ad 0), .int x1, .int x2, .int x3, .int x4] (MWs D cy A ad τ)) (va_Qi (fun (r' : Int32) (u : MS) => r' = r ∧ u = τ') (MWp D cy A ad) A) 0 0 A := by
  refine Met.ofW (cc := cX7_other) (maxL := 7) (ret := (some .int)) (by decide) rfl ?_
  intro p e s m args below meth c s₁ B hml hv
  obtain ⟨rfl, hw, hK⟩ := hv
  have hx := B.exec
  have hb := B.bytes
  have hr := B.returns
  have hts := atoms_spec (ws := (wz yX7_other cX7_other 7 (some .int))) B.pre
  have hown : s.vm.findClass RX7 = some m.cls := findClass_of_methodNamed B.named
  have hlocks := B.notSynchronized
  have S : CallFix p m c cX7_other 7 s ([.ref (ad 0), .int x1, .int x2, .int x3, .int x4] : List Value).toArray (wz yX7_other cX7_other 7 (some .int)) RX7 := ⟨hx, hb, hml, hown, hts⟩
  have h7 : ∀ w ∈ wsX70, w ∈ (wz yX7_other cX7_other 7 (some .int)) := fun w h => wz_in (inlX7 w h)
  have hS : va_S A s.heap s.heap [] := va_S.rf
  have hl := lv_entry ([.ref (ad 0), .int x1, .int x2, .int x3, .int x4]) (n := 7) (Nat.le_of_ble_eq_true rfl)
  rw [lg_entry_eq]
  generalize (lg_sl ([.ref (ad 0), .int x1, .int x2, .int x3, .int x4]) ++ List.replicate (7 - (lg_sl ([.ref (ad 0), .int x1, .int x2, .int x3, .int x4])).length) Slot.unset).toArray = ls at hl ⊢
  have hl : lv_has ls 7 [(0, .ref (ad 0)), (1, .int x1), (2, .int x2), (3, .int x3), (4, .int x4)] := hl
  have B146 : ∀ (τ : MS) (H : Heap) (locs : List Loc) (ls : Array Slot) (hf : k_X7_other_b146 x1 x2 x3 x4 τ = some (r, τ')) (hw : zw D A ad (mG cy ad τ) H) (hS : va_S A s.heap H locs) (hl : lv_has ls 7 [(0, .ref (ad 0)), (1, .int x1), (2, .int x2), (3, .int x3), (4, .int x4)]), W p l e (headSpec (wz yX7_other cX7_other 7 (some .int)) ({ frames := 1, cells := 0, slots := 0, locals := 22 } : Room)).room s m ([.ref (ad 0), .int x1, .int x2, .int x3, .int x4] : List Value).toArray below meth c H locs 0 0 (MQ below (va_Qi (fun (r' : Int32) (u : MS) => r' = r ∧ u = τ') (MWp D cy A ad) A) ([.ref (ad 0), .int x1, .int x2, .int x3, .int x4] : List Value).toArray s 0 0 A) (F0 m 146 ls []) := by
    intro τ H locs ls hf hw hS hl
    rw [k_X7_other_b146] at hf
    refine lv_iconst (v := (5 : Int32)) hx hb dX7_other_146 (by decide) ?_
    exact mw_reti S hr hf hw hS hlocks dX7_other_147
  have B79 : ∀ (τ : MS) (x5 : Int64) (H : Heap) (locs : List Loc) (ls : Array Slot) (hf : k_X7_other_b79 x1 x2 x3 x4 τ x5 = some (r, τ')) (hw : zw D A ad (mG cy ad τ) H) (hS : va_S A s.heap H locs) (hl : lv_has ls 7 [(0, .ref (ad 0)), (1, .int x1), (2, .int x2), (3, .int x3), (4, .int x4), (5, .long x5)]), W p l e (headSpec (wz yX7_other cX7_other 7 (some .int)) ({ frames := 1, cells := 0, slots := 0, locals := 22 } : Room)).room s m ([.ref (ad 0), .int x1, .int x2, .int x3, .int x4] : List Value).toArray below meth c H locs 0 0 (MQ below (va_Qi (fun (r' : Int32) (u : MS) => r' = r ∧ u = τ') (MWp D cy A ad) A) ([.ref (ad 0), .int x1, .int x2, .int x3, .int x4] : List Value).toArray s 0 0 A) (F0 m 79 ls []) := by
    intro τ x5 H locs ls hf hw hS hl
    rw [k_X7_other_b79] at hf
    refine lv_iconst (v := (2 : Int32)) hx hb dX7_other_79 (by decide) ?_
    exact mw_reti S hr hf hw hS hlocks dX7_other_80
  rw [k_X7_other] at hf
  refine lv_iload_n hx hb dX7_other_0 rfl (lv_at hl 1 rfl) ?_
  refine lv_topi (fun w_32 ew_32 => ?_)
  have hf := (zs_e ew_32).symm.trans hf
  by_cases c_33 : w_32 = 12
  · have hf := (zi_t c_33).symm.trans hf
    refine lv_tableIn (tgt := 40) hx hb dX7_other_1 (by rw [c_33]; decide) (by rw [c_33]; decide) (by rw [c_33]; rfl) (by decide) ?_
    refine lv_aload_n hx hb dX7_other_40 rfl (lv_at hl 0 rfl) ?_
    refine lv_aload_n hx hb dX7_other_41 rfl (lv_at hl 0 rfl) ?_
    refine mr_get S h7 hK hw 27 (by decide) (wz_in (zin4 _ (List.mem_of_getElem? (i := 9) rfl))) rfl rfl dX7_other_42 ?_
    refine lv_aload_n hx hb dX7_other_45 rfl (lv_at hl 0 rfl) ?_
    refine mr_get S h7 hK hw 28 (by decide) (wz_in (zin13 _ (List.mem_of_getElem? (i := 21) rfl))) rfl rfl dX7_other_46 ?_
    refine lv_iconst (v := (1 : Int32)) hx hb dX7_other_49 (by decide) ?_
    refine lv_isub hx hb dX7_other_50 ?_
    obtain ⟨g_34, hf⟩ := zg_inv hf
    refine mr_lald S hK hw 27 rfl g_34 dX7_other_51 ?_
    obtain ⟨⟨⟩, t_36, e_37, hf⟩ := zb_inv hf
    refine mw_cv (As := [.long (mj τ 27 ((mi τ 28) - (1 : Int32)).toNatClampNeg)]) (rest := []) (n := 1) S (kc_X7_lay l D cy A ad _ _ _ e_37) (wz_V (zin14 _ (List.mem_of_getElem? (i := 11) rfl)) (zin14 _ (List.mem_of_getElem? (i := 8) rfl)) (zin14 _ (List.mem_of_getElem? (i := 9) rfl)) (zin14 _ (List.mem_of_getElem? (i := 10) rfl)) (zin1 _ (List.mem_of_getElem? (i := 5) rfl))) rfl ⟨rfl, rfl⟩ (by decide +kernel) ⟨Nat.le_of_ble_eq_true rfl, Nat.le_of_ble_eq_true rfl⟩ rfl hl.1 rfl (Nat.le_of_ble_eq_true rfl) hK hw hS dX7_other_52 ⟨Nat.zero_le _, Nat.zero_le _⟩ (fun H locs hw hS => ?_)
    refine lv_iconst (v := (0 : Int32)) hx hb dX7_other_55 (by decide) ?_
    exact mw_reti S hr hf hw hS hlocks dX7_other_56
  have hf := (zi_f c_33).symm.trans hf
  by_cases c_38 : w_32 = 13
  · have hf := (zi_t c_38).symm.trans hf
    refine lv_tableIn (tgt := 171) hx hb dX7_other_1 (by rw [c_38]; decide) (by rw [c_38]; decide) (by rw [c_38]; rfl) (by decide) ?_
    refine lv_aload_n hx hb dX7_other_171 rfl (lv_at hl 0 rfl) ?_
    refine lv_iload_n hx hb dX7_other_172 rfl (lv_at hl 2 rfl) ?_
    refine lv_sipush (v := (255 : Int32)) hx hb dX7_other_173 (by decide) ?_
    refine lv_iand hx hb dX7_other_176 ?_
    refine mr_put S h7 hK hw hS 30 (by decide) (wz_in (zin13 _ (List.mem_of_getElem? (i := 23) rfl))) rfl rfl rfl (mput_30 _ _ _ _) dX7_other_177 (fun H locs hw hS => ?_)
    refine lv_bipush (v := (6 : Int32)) hx hb dX7_other_180 (by decide) ?_
    exact mw_reti S hr hf hw hS hlocks dX7_other_182
  have hf := (zi_f c_38).symm.trans hf
  by_cases c_39 : w_32 = 14
  · have hf := (zi_t c_39).symm.trans hf
    refine lv_tableIn (tgt := 171) hx hb dX7_other_1 (by rw [c_39]; decide) (by rw [c_39]; decide) (by rw [c_39]; rfl) (by decide) ?_
    refine lv_aload_n hx hb dX7_other_171 rfl (lv_at hl 0 rfl) ?_
    refine lv_iload_n hx hb dX7_other_172 rfl (lv_at hl 2 rfl) ?_
    refine lv_sipush (v := (255 : Int32)) hx hb dX7_other_173 (by decide) ?_
    refine lv_iand hx hb dX7_other_176 ?_
    refine mr_put S h7 hK hw hS 30 (by decide) (wz_in (zin13 _ (List.mem_of_getElem? (i := 23) rfl))) rfl rfl rfl (mput_30 _ _ _ _) dX7_other_177 (fun H locs hw hS => ?_)
    refine lv_bipush (v := (6 : Int32)) hx hb dX7_other_180 (by decide) ?_
    exact mw_reti S hr hf hw hS hlocks dX7_other_182
  have hf := (zi_f c_39).symm.trans hf
  by_cases c_40 : w_32 = 15
  · have hf := (zi_t c_40).symm.trans hf
    refine lv_tableIn (tgt := 57) hx hb dX7_other_1 (by rw [c_40]; decide) (by rw [c_40]; decide) (by rw [c_40]; rfl) (by decide) ?_
    refine lv_aload_n hx hb dX7_other_57 rfl (lv_at hl 0 rfl) ?_
    obtain ⟨r_41, t_42, e_43, hf⟩ := zb_inv hf
    refine mw_cl (As := []) (rest := []) (n := 0) S (kc_X7_take l D cy A ad _ _ _ e_43) (wz_V (zin14 _ (List.mem_of_getElem? (i := 3) rfl)) (zin14 _ (List.mem_of_getElem? (i := 0) rfl)) (zin14 _ (List.mem_of_getElem? (i := 1) rfl)) (zin14 _ (List.mem_of_getElem? (i := 2) rfl)) (zin1 _ (List.mem_of_getElem? (i := 5) rfl))) rfl ⟨rfl, rfl⟩ (by decide +kernel) ⟨Nat.le_of_ble_eq_true rfl, Nat.le_of_ble_eq_true rfl⟩ rfl hl.1 rfl (Nat.le_of_ble_eq_true rfl) hK hw hS dX7_other_58 ⟨Nat.zero_le _, Nat.zero_le _⟩ (fun H locs hw hS => ?_)
    refine lv_lstore (lv' := [(5, .long r_41), (0, .ref (ad 0)), (1, .int x1), (2, .int x2), (3, .int x3), (4, .int x4)]) hx hb dX7_other_61 hl (by decide) rfl (fun ls hl => ?_)
    refine lv_lload hx hb dX7_other_63 (lv_at hl 0 rfl) ?_
    refine lv_lconst (v := (0 : Int64)) hx hb dX7_other_65 (by decide) ?_
    refine W.lcmp hx hb dX7_other_66 ?_
    refine lv_if_lt (tgt := 79) hx hb dX7_other_67 (by decide) (fun c_44 => ?_) (fun c_44 => ?_)
    · have hf := (zi_t c_44).symm.trans hf
      exact B79 _ _ _ _ _ hf hw hS (lv_sub hl [1, 2, 3, 4, 5, 0] rfl)
    · have hf := (zi_f c_44).symm.trans hf
      refine lv_lload hx hb dX7_other_70 (lv_at hl 0 rfl) ?_
      refine lv_ldc2 (v := (7 : Int64)) hx hb hown (hts _ (wz_in (zin14 _ (List.mem_of_getElem? (i := 20) rfl)))) dX7_other_72 ?_
      refine W.lcmp hx hb dX7_other_75 ?_
      refine lv_if_le (tgt := 81) hx hb dX7_other_76 (by decide) (fun c_45 => ?_) (fun c_45 => ?_)
      · have hf := (zi_t c_45).symm.trans hf
        refine lv_aload_n hx hb dX7_other_81 rfl (lv_at hl 1 rfl) ?_
        refine lv_aload_n hx hb dX7_other_82 rfl (lv_at hl 1 rfl) ?_
        refine mr_get S h7 hK hw 22 (by decide) (wz_in (zin4 _ (List.mem_of_getElem? (i := 5) rfl))) rfl rfl dX7_other_83 ?_
        refine lv_bipush (v := (8 : Int32)) hx hb dX7_other_86 (by decide) ?_
        refine lv_iload hx hb dX7_other_88 (lv_at hl 5 rfl) ?_
        refine lv_imul hx hb dX7_other_90 ?_
        refine lv_lload hx hb dX7_other_91 (lv_at hl 0 rfl) ?_
        refine lv_l2i (v := r_41.toInt32) hx hb dX7_other_93 rfl ?_
        refine lv_iadd hx hb dX7_other_94 ?_
        obtain ⟨g_46, hf⟩ := zg_inv hf
        refine mr_lald S hK hw 22 rfl g_46 dX7_other_95 ?_
        obtain ⟨⟨⟩, t_48, e_49, hf⟩ := zb_inv hf
        refine mw_cv (As := [.long (mj t_42 22 (((8 : Int32) * x4) + (r_41.toInt32)).toNatClampNeg)]) (rest := []) (n := 1) S (kc_X7_lay l D cy A ad _ _ _ e_49) (wz_V (zin14 _ (List.mem_of_getElem? (i := 11) rfl)) (zin14 _ (List.mem_of_getElem? (i := 8) rfl)) (zin14 _ (List.mem_of_getElem? (i := 9) rfl)) (zin14 _ (List.mem_of_getElem? (i := 10) rfl)) (zin1 _ (List.mem_of_getElem? (i := 5) rfl))) rfl ⟨rfl, rfl⟩ (by decide +kernel) ⟨Nat.le_of_ble_eq_true rfl, Nat.le_of_ble_eq_true rfl⟩ rfl hl.1 rfl (Nat.le_of_ble_eq_true rfl) hK hw hS dX7_other_96 ⟨Nat.zero_le _, Nat.zero_le _⟩ (fun H locs hw hS => ?_)
        refine lv_iconst (v := (0 : Int32)) hx hb dX7_other_99 (by decide) ?_
        exact mw_reti S hr hf hw hS hlocks dX7_other_100
      · have hf := (zi_f c_45).symm.trans hf
        exact B79 _ _ _ _ _ hf hw hS (lv_sub hl [1, 2, 3, 4, 5, 0] rfl)
  have hf := (zi_f c_40).symm.trans hf
  by_cases c_50 : w_32 = 16
  · have hf := (zi_t c_50).symm.trans hf
    refine lv_tableIn (tgt := 101) hx hb dX7_other_1 (by rw [c_50]; decide) (by rw [c_50]; decide) (by rw [c_50]; rfl) (by decide) ?_
    refine lv_aload_n hx hb dX7_other_101 rfl (lv_at hl 0 rfl) ?_
    refine mr_get S h7 hK hw 24 (by decide) (wz_in (zin4 _ (List.mem_of_getElem? (i := 7) rfl))) rfl rfl dX7_other_102 ?_
    refine lv_iload hx hb dX7_other_105 (lv_at hl 4 rfl) ?_
    refine lv_iload_n hx hb dX7_other_107 rfl (lv_at hl 2 rfl) ?_
    obtain ⟨g_51, hf⟩ := zg_inv hf
    refine mr_iast S hK hw hS 24 rfl g_51 rfl dX7_other_108 (fun H locs hw hS => ?_)
    refine lv_aload_n hx hb dX7_other_109 rfl (lv_at hl 0 rfl) ?_
    refine mr_get S h7 hK hw 25 (by decide) (wz_in (zin4 _ (List.mem_of_getElem? (i := 8) rfl))) rfl rfl dX7_other_110 ?_
    refine lv_iload hx hb dX7_other_113 (lv_at hl 4 rfl) ?_
    refine lv_aload_n hx hb dX7_other_115 rfl (lv_at hl 0 rfl) ?_
    refine mr_get S h7 hK hw 26 (by decide) (wz_in (zin13 _ (List.mem_of_getElem? (i := 20) rfl))) rfl rfl dX7_other_116 ?_
    obtain ⟨g_52, hf⟩ := zg_inv hf
    refine mr_iast S hK hw hS 25 rfl g_52 rfl dX7_other_119 (fun H locs hw hS => ?_)
    refine lv_iconst (v := (0 : Int32)) hx hb dX7_other_120 (by decide) ?_
    exact mw_reti S hr hf hw hS hlocks dX7_other_121
  have hf := (zi_f c_50).symm.trans hf
  by_cases c_53 : w_32 = 17
  · have hf := (zi_t c_53).symm.trans hf
    refine lv_tableIn (tgt := 122) hx hb dX7_other_1 (by rw [c_53]; decide) (by rw [c_53]; decide) (by rw [c_53]; rfl) (by decide) ?_
    refine lv_aload_n hx hb dX7_other_122 rfl (lv_at hl 0 rfl) ?_
    refine mr_get S h7 hK hw 24 (by decide) (wz_in (zin4 _ (List.mem_of_getElem? (i := 7) rfl))) rfl rfl dX7_other_123 ?_
    refine lv_iload hx hb dX7_other_126 (lv_at hl 4 rfl) ?_
    obtain ⟨g_54, hf⟩ := zg_inv hf
    refine mr_iald S hK hw 24 rfl g_54 dX7_other_128 ?_
    refine lv_if_lt (tgt := 146) hx hb dX7_other_129 (by decide) (fun c_55 => ?_) (fun c_55 => ?_)
    · have hf := (zi_t c_55).symm.trans hf
      exact B146 _ _ _ _ hf hw hS (lv_sub hl [0, 1, 2, 3, 4] rfl)
    · have hf := (zi_f c_55).symm.trans hf
      refine lv_aload_n hx hb dX7_other_132 rfl (lv_at hl 0 rfl) ?_
      refine mr_get S h7 hK hw 25 (by decide) (wz_in (zin4 _ (List.mem_of_getElem? (i := 8) rfl))) rfl rfl dX7_other_133 ?_
      refine lv_iload hx hb dX7_other_136 (lv_at hl 4 rfl) ?_
      obtain ⟨g_56, hf⟩ := zg_inv hf
      refine mr_iald S hK hw 25 rfl g_56 dX7_other_138 ?_
      refine lv_aload_n hx hb dX7_other_139 rfl (lv_at hl 0 rfl) ?_
      refine mr_get S h7 hK hw 26 (by decide) (wz_in (zin13 _ (List.mem_of_getElem? (i := 20) rfl))) rfl rfl dX7_other_140 ?_
      refine lv_icmp_eq (tgt := 148) hx hb dX7_other_143 (by decide) (fun c_57 => ?_) (fun c_57 => ?_)
      · have hf := (zi_t c_57).symm.trans hf
        refine lv_aload_n hx hb dX7_other_148 rfl (lv_at hl 0 rfl) ?_
        refine lv_aload_n hx hb dX7_other_149 rfl (lv_at hl 0 rfl) ?_
        refine mr_get S h7 hK hw 13 (by decide) (wz_in (zin3 _ (List.mem_of_getElem? (i := 19) rfl))) rfl rfl dX7_other_150 ?_
        refine lv_bipush (v := (8 : Int32)) hx hb dX7_other_153 (by decide) ?_
        refine lv_iload_n hx hb dX7_other_155 rfl (lv_at hl 3 rfl) ?_
        refine lv_imul hx hb dX7_other_156 ?_
        refine lv_aload_n hx hb dX7_other_157 rfl (lv_at hl 0 rfl) ?_
        refine mr_get S h7 hK hw 24 (by decide) (wz_in (zin4 _ (List.mem_of_getElem? (i := 7) rfl))) rfl rfl dX7_other_158 ?_
        refine lv_iload hx hb dX7_other_161 (lv_at hl 4 rfl) ?_
        obtain ⟨g_58, hf⟩ := zg_inv hf
        refine mr_iald S hK hw 24 rfl g_58 dX7_other_163 ?_
        refine lv_iadd hx hb dX7_other_164 ?_
        obtain ⟨g_59, hf⟩ := zg_inv hf
        refine mr_lald S hK hw 13 rfl g_59 dX7_other_165 ?_
        obtain ⟨⟨⟩, t_61, e_62, hf⟩ := zb_inv hf
        refine mw_cv (As := [.long (mj τ 13 (((8 : Int32) * x3) + (mr τ 24 x4.toNatClampNeg)).toNatClampNeg)]) (rest := []) (n := 1) S (kc_X7_lay l D cy A ad _ _ _ e_62) (wz_V (zin14 _ (List.mem_of_getElem? (i := 11) rfl)) (zin14 _ (List.mem_of_getElem? (i := 8) rfl)) (zin14 _ (List.mem_of_getElem? (i := 9) rfl)) (zin14 _ (List.mem_of_getElem? (i := 10) rfl)) (zin1 _ (List.mem_of_getElem? (i := 5) rfl))) rfl ⟨rfl, rfl⟩ (by decide +kernel) ⟨Nat.le_of_ble_eq_true rfl, Nat.le_of_ble_eq_true rfl⟩ rfl hl.1 rfl (Nat.le_of_ble_eq_true rfl) hK hw hS dX7_other_166 ⟨Nat.zero_le _, Nat.zero_le _⟩ (fun H locs hw hS => ?_)
        refine lv_iconst (v := (0 : Int32)) hx hb dX7_other_169 (by decide) ?_
        exact mw_reti S hr hf hw hS hlocks dX7_other_170
      · have hf := (zi_f c_57).symm.trans hf
        exact B146 _ _ _ _ hf hw hS (lv_sub hl [0, 1, 2, 3, 4] rfl)
  have hf := (zi_f c_53).symm.trans hf
  refine lv_tableOut (tgt := 171) hx hb dX7_other_1 (zs_out12_17 w_32 c_33 c_38 c_39 c_40 c_50 c_53) (by decide) ?_
  refine lv_aload_n hx hb dX7_other_171 rfl (lv_at hl 0 rfl) ?_
  refine lv_iload_n hx hb dX7_other_172 rfl (lv_at hl 2 rfl) ?_
  refine lv_sipush (v := (255 : Int32)) hx hb dX7_other_173 (by decide) ?_
  refine lv_iand hx hb dX7_other_176 ?_
  refine mr_put S h7 hK hw hS 30 (by decide) (wz_in (zin13 _ (List.mem_of_getElem? (i := 23) rfl))) rfl rfl rfl (mput_30 _ _ _ _) dX7_other_177 (fun H locs hw hS => ?_)
  refine lv_bipush (v := (6 : Int32)) hx hb dX7_other_180 (by decide) ?_
  exact mw_reti S hr hf hw hS hlocks dX7_other_182
