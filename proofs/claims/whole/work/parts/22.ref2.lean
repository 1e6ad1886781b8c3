noncomputable def k_X7_tell_b43 (x1 : Int32) (x2 : Int32) (x3 : Int32) (τ : MS) (y0 : Int32) (y1 : Int32) : Option (Unit × MS) := zg (vp_in y1 8) (zg (vp_in x1 8) (zg (vp_in x1 8) (some ((), mR (mR τ 19 y1.toNatClampNeg y0) 20 x1.toNatClampNeg ((mr (mR τ 19 y1.toNatClampNeg y0) 20 x1.toNatClampNeg) + (1 : Int32))))))
noncomputable def k_X7_tell (τ : MS) (x1 : Int32) (x2 : Int32) (x3 : Int32) : Option (Unit × MS) := zg (vp_in x1 8) (zg (vp_in x1 8) (zg (vp_in x1 8) (zi (x3 = (6 : Int32)) (k_X7_tell_b43 x1 x2 x3 (mR (mR (mR τ 16 x1.toNatClampNeg x3) 17 x1.toNatClampNeg x2) 18 x1.toNatClampNeg (mi (mR (mR τ 16 x1.toNatClampNeg x3) 17 x1.toNatClampNeg x2) 29)) (mi (mR (mR (mR τ 16 x1.toNatClampNeg x3) 17 x1.toNatClampNeg x2) 18 x1.toNatClampNeg (mi (mR (mR τ 16 x1.toNatClampNeg x3) 17 x1.toNatClampNeg x2) 29)) 30) x1) (k_X7_tell_b43 x1 x2 x3 (mR (mR (mR τ 16 x1.toNatClampNeg x3) 17 x1.toNatClampNeg x2) 18 x1.toNatClampNeg (mi (mR (mR τ 16 x1.toNatClampNeg x3) 17 x1.toNatClampNeg x2) 29)) (0 : Int32) x1))))
set_option maxHeartbeats 4000000 in
set_option maxRecDepth 100000 in
theorem kc_X7_tell (l : Launch) (D : va_G) (cy : Nat → ClassId) (A : Nat → Prop) (ad : Nat → Nat) (τ τ' : MS) (x1 : Int32) (x2 : Int32) (x3 : Int32) (hf : k_X7_tell τ x1 x2 x3 = some ((), τ')) : Met l yX7_tell (wz yX7_tell cX7_tell 4 none) ({ frames := 0, cells := 0, slots := 0, locals := 0 } : Room) (va_Pc [.ref (ad 0), .int x1, .int x2, .int x3] (MWs D cy A ad τ)) (va_Qv (fun (u : MS) => u = τ') (MWp D cy A ad) A) 0 0 A := by
  refine Met.ofW (cc := cX7_tell) (maxL := 4) (ret := none) (by decide) rfl ?_
  intro p e s m args below meth c s₁ B hml hv
  obtain ⟨rfl, hw, hK⟩ := hv
  have hx := B.exec
  have hb := B.bytes
  have hr := B.returns
  have hts := atoms_spec (ws := (wz yX7_tell cX7_tell 4 none)) B.pre
  have hown : s.vm.findClass RX7 = some m.cls := findClass_of_methodNamed B.named
  have hlocks := B.notSynchronized
  have S : CallFix p m c cX7_tell 4 s ([.ref (ad 0), .int x1, .int x2, .int x3] : List Value).toArray (wz yX7_tell cX7_tell 4 none) RX7 := ⟨hx, hb, hml, hown, hts⟩
  have h7 : ∀ w ∈ wsX70, w ∈ (wz yX7_tell cX7_tell 4 none) := fun w h => wz_in (inlX7 w h)
  have hS : va_S A s.heap s.heap [] := va_S.rf
  have hl := lv_entry ([.ref (ad 0), .int x1, .int x2, .int x3]) (n := 4) (Nat.le_of_ble_eq_true rfl)
  rw [lg_entry_eq]
  generalize (lg_sl ([.ref (ad 0), .int x1, .int x2, .int x3]) ++ List.replicate (4 - (lg_sl ([.ref (ad 0), .int x1, .int x2, .int x3])).length) Slot.unset).toArray = ls at hl ⊢
  have hl : lv_has ls 4 [(0, .ref (ad 0)), (1, .int x1), (2, .int x2), (3, .int x3)] := hl
  have B43 : ∀ (τ : MS) (y0 : Int32) (y1 : Int32) (H : Heap) (locs : List Loc) (ls : Array Slot) (hf : k_X7_tell_b43 x1 x2 x3 τ y0 y1 = some ((), τ')) (hw : zw D A ad (mG cy ad τ) H) (hS : va_S A s.heap H locs) (hl : lv_has ls 4 [(0, .ref (ad 0)), (1, .int x1), (2, .int x2), (3, .int x3)]), W p l e (headSpec (wz yX7_tell cX7_tell 4 none) ({ frames := 0, cells := 0, slots := 0, locals := 0 } : Room)).room s m ([.ref (ad 0), .int x1, .int x2, .int x3] : List Value).toArray below meth c H locs 0 0 (MQ below (va_Qv (fun (u : MS) => u = τ') (MWp D cy A ad) A) ([.ref (ad 0), .int x1, .int x2, .int x3] : List Value).toArray s 0 0 A) (F0 m 43 ls [.int y0, .int y1, .ref (ad 19)]) := by
    intro τ y0 y1 H locs ls hf hw hS hl
    rw [k_X7_tell_b43] at hf
    obtain ⟨g_8, hf⟩ := zg_inv hf
    refine mr_iast S hK hw hS 19 rfl g_8 rfl dX7_tell_43 (fun H locs hw hS => ?_)
    refine lv_aload_n hx hb dX7_tell_44 rfl (lv_at hl 0 rfl) ?_
    refine mr_get S h7 hK hw 20 (by decide) (wz_in (zin4 _ (List.mem_of_getElem? (i := 3) rfl))) rfl rfl dX7_tell_45 ?_
    refine lv_iload_n hx hb dX7_tell_48 rfl (lv_at hl 1 rfl) ?_
    refine lv_dup2_11 hx hb dX7_tell_49 rfl rfl ?_
    obtain ⟨g_9, hf⟩ := zg_inv hf
    refine mr_iald S hK hw 20 rfl g_9 dX7_tell_50 ?_
    refine lv_iconst (v := (1 : Int32)) hx hb dX7_tell_51 (by decide) ?_
    refine lv_iadd hx hb dX7_tell_52 ?_
    obtain ⟨g_10, hf⟩ := zg_inv hf
    refine mr_iast S hK hw hS 20 rfl g_10 rfl dX7_tell_53 (fun H locs hw hS => ?_)
    exact mw_retv S hr hf hw hS hlocks dX7_tell_54
  rw [k_X7_tell] at hf
  refine lv_aload_n hx hb dX7_tell_0 rfl (lv_at hl 0 rfl) ?_
  refine mr_get S h7 hK hw 16 (by decide) (wz_in (zin3 _ (List.mem_of_getElem? (i := 23) rfl))) rfl rfl dX7_tell_1 ?_
  refine lv_iload_n hx hb dX7_tell_4 rfl (lv_at hl 1 rfl) ?_
  refine lv_iload_n hx hb dX7_tell_5 rfl (lv_at hl 3 rfl) ?_
  obtain ⟨g_11, hf⟩ := zg_inv hf
  refine mr_iast S hK hw hS 16 rfl g_11 rfl dX7_tell_6 (fun H locs hw hS => ?_)
  refine lv_aload_n hx hb dX7_tell_7 rfl (lv_at hl 0 rfl) ?_
  refine mr_get S h7 hK hw 17 (by decide) (wz_in (zin4 _ (List.mem_of_getElem? (i := 0) rfl))) rfl rfl dX7_tell_8 ?_
  refine lv_iload_n hx hb dX7_tell_11 rfl (lv_at hl 1 rfl) ?_
  refine lv_iload_n hx hb dX7_tell_12 rfl (lv_at hl 2 rfl) ?_
  obtain ⟨g_12, hf⟩ := zg_inv hf
  refine mr_iast S hK hw hS 17 rfl g_12 rfl dX7_tell_13 (fun H locs hw hS => ?_)
  refine lv_aload_n hx hb dX7_tell_14 rfl (lv_at hl 0 rfl) ?_
  refine mr_get S h7 hK hw 18 (by decide) (wz_in (zin4 _ (List.mem_of_getElem? (i := 1) rfl))) rfl rfl dX7_tell_15 ?_
  refine lv_iload_n hx hb dX7_tell_18 rfl (lv_at hl 1 rfl) ?_
  refine lv_aload_n hx hb dX7_tell_19 rfl (lv_at hl 0 rfl) ?_
  refine mr_get S h7 hK hw 29 (by decide) (wz_in (zin13 _ (List.mem_of_getElem? (i := 22) rfl))) rfl rfl dX7_tell_20 ?_
  obtain ⟨g_13, hf⟩ := zg_inv hf
  refine mr_iast S hK hw hS 18 rfl g_13 rfl dX7_tell_23 (fun H locs hw hS => ?_)
  refine lv_aload_n hx hb dX7_tell_24 rfl (lv_at hl 0 rfl) ?_
  refine mr_get S h7 hK hw 19 (by decide) (wz_in (zin4 _ (List.mem_of_getElem? (i := 2) rfl))) rfl rfl dX7_tell_25 ?_
  refine lv_iload_n hx hb dX7_tell_28 rfl (lv_at hl 1 rfl) ?_
  refine lv_iload_n hx hb dX7_tell_29 rfl (lv_at hl 3 rfl) ?_
  refine lv_bipush (v := (6 : Int32)) hx hb dX7_tell_30 (by decide) ?_
  refine lv_icmp_ne (tgt := 42) hx hb dX7_tell_32 (by decide) (fun c_14 => ?_) (fun c_14 => ?_)
  · have hf := (zi_f c_14).symm.trans hf
    refine lv_iconst (v := (0 : Int32)) hx hb dX7_tell_42 (by decide) ?_
    exact B43 _ _ _ _ _ _ hf hw hS (lv_sub hl [0, 1, 2, 3] rfl)
  · have hf := (zi_t c_14).symm.trans hf
    refine lv_aload_n hx hb dX7_tell_35 rfl (lv_at hl 0 rfl) ?_
    refine mr_get S h7 hK hw 30 (by decide) (wz_in (zin13 _ (List.mem_of_getElem? (i := 23) rfl))) rfl rfl dX7_tell_36 ?_
    refine lv_goto (tgt := 43) hx hb dX7_tell_39 (by decide) ?_
    exact B43 _ _ _ _ _ _ hf hw hS (lv_sub hl [0, 1, 2, 3] rfl)
noncomputable def k_X7_power_b156 (x1 : Int32) (K : MS → Int32 → Option (Int32 × MS)) (τ : MS) (x2 : Int32) (x3 : Int32) : Option (Int32 × MS) := K τ (x2 + (1 : Int32))
noncomputable def k_X7_power_s37 (x1 : Int32) (K : MS → Int32 → Option (Int32 × MS)) (τ : MS) (x2 : Int32) : Option (Int32 × MS) := zi ((mi τ 5) < x2) (zg (vp_in x1 8) (some ((1 : Int32), mR τ 14 x1.toNatClampNeg (vp_nar .boolean (1 : Int32))))) (zb (k_X7_at τ x1 x2) (fun r_48 t_49 => zg (vp_in r_48 160) (zi ((mr t_49 21 r_48.toNatClampNeg) = 0) (k_X7_power_b156 x1 K t_49 x2 r_48) (zg (vp_in r_48 160) (zg (vp_in x2 21) (zi ((mr t_49 21 r_48.toNatClampNeg) = (mr t_49 6 x2.toNatClampNeg)) (zg (vp_in r_48 160) (zb (k_X7_place t_49 x2 (mr t_49 21 r_48.toNatClampNeg)) (fun r_57 t_58 => zg (vp_in r_57 180) (zi (0 ≤ (mr t_58 9 r_57.toNatClampNeg)) (zg (vp_in r_48 160) (zb (k_X7_place t_58 x2 (mr t_58 21 r_48.toNatClampNeg)) (fun r_63 t_64 => zg (vp_in r_63 180) (zg (vp_in r_48 160) (zb (k_X7_place t_64 x2 (mr t_64 21 r_48.toNatClampNeg)) (fun r_68 t_69 => zg (vp_in r_68 180) (zb (k_X7_call t_69 x1 x2 (mr t_64 9 r_63.toNatClampNeg) (mr t_69 10 r_68.toNatClampNeg)) (fun r_72 t_73 => zi (r_72 = 0) (k_X7_power_b156 x1 K t_73 x2 r_48) (zb (k_X7_tell t_73 x1 x2 r_72) (fun _ t_77 => some ((10 : Int32) + r_72, t_77))))))))))) (k_X7_power_b156 x1 K t_58 x2 r_48))))) (k_X7_power_b156 x1 K t_49 x2 r_48)))))))
noncomputable def k_X7_power_l37 (x1 : Int32) : Nat → MS → Int32 → Option (Int32 × MS)
  | 0 => fun _ _ => none
  | n + 1 => fun τ x2 => k_X7_power_s37 x1 (k_X7_power_l37 x1 n) τ x2
theorem k_X7_power_l37_s (x1 : Int32) (n : Nat) (τ : MS) (x2 : Int32) : k_X7_power_l37 x1 (n + 1) τ x2 = k_X7_power_s37 x1 (k_X7_power_l37 x1 n) τ x2 := rfl
theorem k_X7_power_l37_z (x1 : Int32) (τ : MS) (x2 : Int32) : k_X7_power_l37 x1 0 τ x2 = none := rfl
noncomputable def k_X7_power (τ : MS) (x1 : Int32) : Option (Int32 × MS) := zb (k_X7_isController (mI τ 0 (0 : Int32)) x1) (fun r_79 t_80 => zi (r_79 = 0) (zb (k_X7_refuse t_80 (-1 : Int32)) (fun r_88 t_89 => some (r_88, t_89))) (zg (vp_in x1 8) (zi ((mr t_80 14 x1.toNatClampNeg) = 0) (k_X7_power_l37 x1 FU t_80 (1 : Int32)) (zb (k_X7_refuse t_80 (-3 : Int32)) (fun r_85 t_86 => some (r_85, t_86))))))
set_option maxHeartbeats 4000000 in
set_option maxRecDepth 100000 in
theorem kc_X7_power (l : Launch) (D : va_G) (cy : Nat → ClassId) (A : Nat → Prop) (ad : Nat → Nat) (τ τ' : MS) (x1 : Int32) (r : Int32) (hf : k_X7_power τ x1 = some (r, τ')) : Met l yX7_power (wz yX7_power cX7_power 5 (some .int)) ({ frames := 3, cells := 0, slots := 0, locals := 83 } : Room) (va_Pc [.ref (ad 0), .int x1] (MWs D cy A ad τ)) (va_Qi (fun (r' : Int32) (u : MS) => r' = r ∧ u = τ') (MWp D cy A ad) A) 0 0 A := by
  refine Met.ofW (cc := cX7_power) (maxL := 5) (ret := (some .int)) (by decide) rfl ?_
  intro p e s m args below meth c s₁ B hml hv
  obtain ⟨rfl, hw, hK⟩ := hv
  have hx := B.exec
  have hb := B.bytes
  have hr := B.returns
  have hts := atoms_spec (ws := (wz yX7_power cX7_power 5 (some .int))) B.pre
  have hown : s.vm.findClass RX7 = some m.cls := findClass_of_methodNamed B.named
  have hlocks := B.notSynchronized
  have S : CallFix p m c cX7_power 5 s ([.ref (ad 0), .int x1] : List Value).toArray (wz yX7_power cX7_power 5 (some .int)) RX7 := ⟨hx, hb, hml, hown, hts⟩
  have h7 : ∀ w ∈ wsX70, w ∈ (wz yX7_power cX7_power 5 (some .int)) := fun w h => wz_in (inlX7 w h)
  have hS : va_S A s.heap s.heap [] := va_S.rf
  have hl := lv_entry ([.ref (ad 0), .int x1]) (n := 5) (Nat.le_of_ble_eq_true rfl)
  rw [lg_entry_eq]
  generalize (lg_sl ([.ref (ad 0), .int x1]) ++ List.replicate (5 - (lg_sl ([.ref (ad 0), .int x1])).length) Slot.unset).toArray = ls at hl ⊢
  have hl : lv_has ls 5 [(0, .ref (ad 0)), (1, .int x1)] := hl
  have B156 : ∀ (K : MS → Int32 → Option (Int32 × MS)) (_hKK : ∀ (τ : MS) (x2 : Int32) (H : Heap) (locs : List Loc) (ls : Array Slot) (hf : K τ x2 = some (r, τ')) (hw : zw D A ad (mG cy ad τ) H) (hS : va_S A s.heap H locs) (hl : lv_has ls 5 [(0, .ref (ad 0)), (1, .int x1), (2, .int x2)]), W p l e (headSpec (wz yX7_power cX7_power 5 (some .int)) ({ frames := 3, cells := 0, slots := 0, locals := 83 } : Room)).room s m ([.ref (ad 0), .int x1] : List Value).toArray below meth c H locs 0 0 (MQ below (va_Qi (fun (r' : Int32) (u : MS) => r' = r ∧ u = τ') (MWp D cy A ad) A) ([.ref (ad 0), .int x1] : List Value).toArray s 0 0 A) (F0 m 37 ls [])) (τ : MS) (x2 : Int32) (x3 : Int32) (H : Heap) (locs : List Loc) (ls : Array Slot) (hf : k_X7_power_b156 x1 K τ x2 x3 = some (r, τ')) (hw : zw D A ad (mG cy ad τ) H) (hS : va_S A s.heap H locs) (hl : lv_has ls 5 [(0, .ref (ad 0)), (1, .int x1), (2, .int x2), (3, .int x3)]), W p l e (headSpec (wz yX7_power cX7_power 5 (some .int)) ({ frames := 3, cells := 0, slots := 0, locals := 83 } : Room)).room s m ([.ref (ad 0), .int x1] : List Value).toArray below meth c H locs 0 0 (MQ below (va_Qi (fun (r' : Int32) (u : MS) => r' = r ∧ u = τ') (MWp D cy A ad) A) ([.ref (ad 0), .int x1] : List Value).toArray s 0 0 A) (F0 m 156 ls []) := by
    intro K hKK τ x2 x3 H locs ls hf hw hS hl
    rw [k_X7_power_b156] at hf
    refine lv_iinc (v := x2 + (1 : Int32)) (lv' := [(2, .int (x2 + (1 : Int32))), (0, .ref (ad 0)), (1, .int x1), (3, .int x3)]) hx hb dX7_power_156 hl (k := 2) rfl rfl (by decide) rfl (fun ls hl => ?_)
    refine lv_goto (tgt := 37) hx hb dX7_power_159 (by decide) ?_
    exact hKK _ _ _ _ _ hf hw hS (lv_sub hl [1, 2, 0] rfl)
  have S37 : ∀ (K : MS → Int32 → Option (Int32 × MS)) (_hKK : ∀ (τ : MS) (x2 : Int32) (H : Heap) (locs : List Loc) (ls : Array Slot) (hf : K τ x2 = some (r, τ')) (hw : zw D A ad (mG cy ad τ) H) (hS : va_S A s.heap H locs) (hl : lv_has ls 5 [(0, .ref (ad 0)), (1, .int x1), (2, .int x2)]), W p l e (headSpec (wz yX7_power cX7_power 5 (some .int)) ({ frames := 3, cells := 0, slots := 0, locals := 83 } : Room)).room s m ([.ref (ad 0), .int x1] : List Value).toArray below meth c H locs 0 0 (MQ below (va_Qi (fun (r' : Int32) (u : MS) => r' = r ∧ u = τ') (MWp D cy A ad) A) ([.ref (ad 0), .int x1] : List Value).toArray s 0 0 A) (F0 m 37 ls [])) (τ : MS) (x2 : Int32) (H : Heap) (locs : List Loc) (ls : Array Slot) (hf : k_X7_power_s37 x1 K τ x2 = some (r, τ')) (hw : zw D A ad (mG cy ad τ) H) (hS : va_S A s.heap H locs) (hl : lv_has ls 5 [(0, .ref (ad 0)), (1, .int x1), (2, .int x2)]), W p l e (headSpec (wz yX7_power cX7_power 5 (some .int)) ({ frames := 3, cells := 0, slots := 0, locals := 83 } : Room)).room s m ([.ref (ad 0), .int x1] : List Value).toArray below meth c H locs 0 0 (MQ below (va_Qi (fun (r' : Int32) (u : MS) => r' = r ∧ u = τ') (MWp D cy A ad) A) ([.ref (ad 0), .int x1] : List Value).toArray s 0 0 A) (F0 m 37 ls []) := by
    intro K hKK τ x2 H locs ls hf hw hS hl
    rw [k_X7_power_s37] at hf
    refine lv_iload_n hx hb dX7_power_37 rfl (lv_at hl 2 rfl) ?_
    refine lv_aload_n hx hb dX7_power_38 rfl (lv_at hl 0 rfl) ?_
    refine mr_get S h7 hK hw 5 (by decide) (wz_in (zin8 _ (List.mem_of_getElem? (i := 13) rfl))) rfl rfl dX7_power_39 ?_
    refine lv_icmp_gt (tgt := 162) hx hb dX7_power_42 (by decide) (fun c_46 => ?_) (fun c_46 => ?_)
    · have hf := (zi_t c_46).symm.trans hf
      refine lv_aload_n hx hb dX7_power_162 rfl (lv_at hl 0 rfl) ?_
      refine mr_get S h7 hK hw 14 (by decide) (wz_in (zin3 _ (List.mem_of_getElem? (i := 21) rfl))) rfl rfl dX7_power_163 ?_
      refine lv_iload_n hx hb dX7_power_166 rfl (lv_at hl 1 rfl) ?_
      refine lv_iconst (v := (1 : Int32)) hx hb dX7_power_167 (by decide) ?_
      obtain ⟨g_47, hf⟩ := zg_inv hf
      refine mr_zast S hK hw hS 14 rfl g_47 rfl dX7_power_168 (fun H locs hw hS => ?_)
      refine lv_iconst (v := (1 : Int32)) hx hb dX7_power_169 (by decide) ?_
      exact mw_reti S hr hf hw hS hlocks dX7_power_170
    · have hf := (zi_f c_46).symm.trans hf
      refine lv_iload_n hx hb dX7_power_45 rfl (lv_at hl 1 rfl) ?_
      refine lv_iload_n hx hb dX7_power_46 rfl (lv_at hl 2 rfl) ?_
      obtain ⟨r_48, t_49, e_50, hf⟩ := zb_inv hf
      refine mw_si (As := [.int x1, .int x2]) (rest := []) (n := 2) S (kc_X7_at l D cy A ad _ _ _ _ _ e_50) (wz_S (zin10 _ (List.mem_of_getElem? (i := 18) rfl)) (zin10 _ (List.mem_of_getElem? (i := 16) rfl)) (zin10 _ (List.mem_of_getElem? (i := 17) rfl)) (zin1 _ (List.mem_of_getElem? (i := 5) rfl))) rfl ⟨rfl, rfl⟩ (by decide +kernel) ⟨Nat.le_of_ble_eq_true rfl, Nat.le_of_ble_eq_true rfl⟩ rfl hl.1 rfl (Nat.le_of_ble_eq_true rfl) hK hw hS dX7_power_47 ⟨Nat.zero_le _, Nat.zero_le _⟩ (fun H locs hw hS => ?_)
      refine lv_istore_n (lv' := [(3, .int r_48), (0, .ref (ad 0)), (1, .int x1), (2, .int x2)]) hx hb dX7_power_50 rfl hl (by decide) rfl (fun ls hl => ?_)
      refine lv_aload_n hx hb dX7_power_51 rfl (lv_at hl 1 rfl) ?_
      refine mr_get S h7 hK hw 21 (by decide) (wz_in (zin4 _ (List.mem_of_getElem? (i := 4) rfl))) rfl rfl dX7_power_52 ?_
      refine lv_iload_n hx hb dX7_power_55 rfl (lv_at hl 0 rfl) ?_
      obtain ⟨g_51, hf⟩ := zg_inv hf
      refine mr_iald S hK hw 21 rfl g_51 dX7_power_56 ?_
      refine lv_if_eq (tgt := 156) hx hb dX7_power_57 (by decide) (fun c_52 => ?_) (fun c_52 => ?_)
      · have hf := (zi_t c_52).symm.trans hf
        exact B156 K hKK _ _ _ _ _ _ hf hw hS (lv_sub hl [1, 2, 3, 0] rfl)
      · have hf := (zi_f c_52).symm.trans hf
        refine lv_aload_n hx hb dX7_power_60 rfl (lv_at hl 1 rfl) ?_
        refine mr_get S h7 hK hw 21 (by decide) (wz_in (zin4 _ (List.mem_of_getElem? (i := 4) rfl))) rfl rfl dX7_power_61 ?_
        refine lv_iload_n hx hb dX7_power_64 rfl (lv_at hl 0 rfl) ?_
        obtain ⟨g_53, hf⟩ := zg_inv hf
        refine mr_iald S hK hw 21 rfl g_53 dX7_power_65 ?_
        refine lv_aload_n hx hb dX7_power_66 rfl (lv_at hl 1 rfl) ?_
        refine mr_get S h7 hK hw 6 (by decide) (wz_in (zin3 _ (List.mem_of_getElem? (i := 12) rfl))) rfl rfl dX7_power_67 ?_
        refine lv_iload_n hx hb dX7_power_70 rfl (lv_at hl 3 rfl) ?_
        obtain ⟨g_54, hf⟩ := zg_inv hf
        refine mr_iald S hK hw 6 rfl g_54 dX7_power_71 ?_
        refine lv_icmp_ne (tgt := 156) hx hb dX7_power_72 (by decide) (fun c_55 => ?_) (fun c_55 => ?_)
        · have hf := (zi_f c_55).symm.trans hf
          exact B156 K hKK _ _ _ _ _ _ hf hw hS (lv_sub hl [1, 2, 3, 0] rfl)
        · have hf := (zi_t c_55).symm.trans hf
          refine lv_aload_n hx hb dX7_power_75 rfl (lv_at hl 1 rfl) ?_
          refine mr_get S h7 hK hw 9 (by decide) (wz_in (zin3 _ (List.mem_of_getElem? (i := 15) rfl))) rfl rfl dX7_power_76 ?_
          refine lv_iload_n hx hb dX7_power_79 rfl (lv_at hl 3 rfl) ?_
          refine lv_aload_n hx hb dX7_power_80 rfl (lv_at hl 1 rfl) ?_
          refine mr_get S h7 hK hw 21 (by decide) (wz_in (zin4 _ (List.mem_of_getElem? (i := 4) rfl))) rfl rfl dX7_power_81 ?_
          refine lv_iload_n hx hb dX7_power_84 rfl (lv_at hl 0 rfl) ?_
          obtain ⟨g_56, hf⟩ := zg_inv hf
          refine mr_iald S hK hw 21 rfl g_56 dX7_power_85 ?_
          obtain ⟨r_57, t_58, e_59, hf⟩ := zb_inv hf
          refine mw_si (As := [.int x2, .int (mr t_49 21 r_48.toNatClampNeg)]) (rest := [.ref (ad 9)]) (n := 2) S (kc_X7_place l D cy A ad _ _ _ _ _ e_59) (wz_S (zin9 _ (List.mem_of_getElem? (i := 0) rfl)) (zin8 _ (List.mem_of_getElem? (i := 22) rfl)) (zin8 _ (List.mem_of_getElem? (i := 23) rfl)) (zin1 _ (List.mem_of_getElem? (i := 5) rfl))) rfl ⟨rfl, rfl⟩ (by decide +kernel) ⟨Nat.le_of_ble_eq_true rfl, Nat.le_of_ble_eq_true rfl⟩ rfl hl.1 rfl (Nat.le_of_ble_eq_true rfl) hK hw hS dX7_power_86 ⟨Nat.zero_le _, Nat.zero_le _⟩ (fun H locs hw hS => ?_)
          obtain ⟨g_60, hf⟩ := zg_inv hf
          refine mr_iald S hK hw 9 rfl g_60 dX7_power_89 ?_
          refine lv_if_ge (tgt := 96) hx hb dX7_power_90 (by decide) (fun c_61 => ?_) (fun c_61 => ?_)
          · have hf := (zi_t c_61).symm.trans hf
            refine lv_aload_n hx hb dX7_power_96 rfl (lv_at hl 1 rfl) ?_
            refine lv_iload_n hx hb dX7_power_97 rfl (lv_at hl 2 rfl) ?_
            refine lv_iload_n hx hb dX7_power_98 rfl (lv_at hl 3 rfl) ?_
            refine lv_aload_n hx hb dX7_power_99 rfl (lv_at hl 1 rfl) ?_
            refine mr_get S h7 hK hw 9 (by decide) (wz_in (zin3 _ (List.mem_of_getElem? (i := 15) rfl))) rfl rfl dX7_power_100 ?_
            refine lv_iload_n hx hb dX7_power_103 rfl (lv_at hl 3 rfl) ?_
            refine lv_aload_n hx hb dX7_power_104 rfl (lv_at hl 1 rfl) ?_
            refine mr_get S h7 hK hw 21 (by decide) (wz_in (zin4 _ (List.mem_of_getElem? (i := 4) rfl))) rfl rfl dX7_power_105 ?_
            refine lv_iload_n hx hb dX7_power_108 rfl (lv_at hl 0 rfl) ?_
            obtain ⟨g_62, hf⟩ := zg_inv hf
            refine mr_iald S hK hw 21 rfl g_62 dX7_power_109 ?_
            obtain ⟨r_63, t_64, e_65, hf⟩ := zb_inv hf
            refine mw_si (As := [.int x2, .int (mr t_58 21 r_48.toNatClampNeg)]) (rest := [.ref (ad 9), .int x2, .int x1, .ref (ad 0)]) (n := 2) S (kc_X7_place l D cy A ad _ _ _ _ _ e_65) (wz_S (zin9 _ (List.mem_of_getElem? (i := 0) rfl)) (zin8 _ (List.mem_of_getElem? (i := 22) rfl)) (zin8 _ (List.mem_of_getElem? (i := 23) rfl)) (zin1 _ (List.mem_of_getElem? (i := 5) rfl))) rfl ⟨rfl, rfl⟩ (by decide +kernel) ⟨Nat.le_of_ble_eq_true rfl, Nat.le_of_ble_eq_true rfl⟩ rfl hl.1 rfl (Nat.le_of_ble_eq_true rfl) hK hw hS dX7_power_110 ⟨Nat.zero_le _, Nat.zero_le _⟩ (fun H locs hw hS => ?_)
            obtain ⟨g_66, hf⟩ := zg_inv hf
            refine mr_iald S hK hw 9 rfl g_66 dX7_power_113 ?_
            refine lv_aload_n hx hb dX7_power_114 rfl (lv_at hl 1 rfl) ?_
            refine mr_get S h7 hK hw 10 (by decide) (wz_in (zin3 _ (List.mem_of_getElem? (i := 16) rfl))) rfl rfl dX7_power_115 ?_
            refine lv_iload_n hx hb dX7_power_118 rfl (lv_at hl 3 rfl) ?_
            refine lv_aload_n hx hb dX7_power_119 rfl (lv_at hl 1 rfl) ?_
            refine mr_get S h7 hK hw 21 (by decide) (wz_in (zin4 _ (List.mem_of_getElem? (i := 4) rfl))) rfl rfl dX7_power_120 ?_
            refine lv_iload_n hx hb dX7_power_123 rfl (lv_at hl 0 rfl) ?_
            obtain ⟨g_67, hf⟩ := zg_inv hf
            refine mr_iald S hK hw 21 rfl g_67 dX7_power_124 ?_
            obtain ⟨r_68, t_69, e_70, hf⟩ := zb_inv hf
            refine mw_si (As := [.int x2, .int (mr t_64 21 r_48.toNatClampNeg)]) (rest := [.ref (ad 10), .int (mr t_64 9 r_63.toNatClampNeg), .int x2, .int x1, .ref (ad 0)]) (n := 2) S (kc_X7_place l D cy A ad _ _ _ _ _ e_70) (wz_S (zin9 _ (List.mem_of_getElem? (i := 0) rfl)) (zin8 _ (List.mem_of_getElem? (i := 22) rfl)) (zin8 _ (List.mem_of_getElem? (i := 23) rfl)) (zin1 _ (List.mem_of_getElem? (i := 5) rfl))) rfl ⟨rfl, rfl⟩ (by decide +kernel) ⟨Nat.le_of_ble_eq_true rfl, Nat.le_of_ble_eq_true rfl⟩ rfl hl.1 rfl (Nat.le_of_ble_eq_true rfl) hK hw hS dX7_power_125 ⟨Nat.zero_le _, Nat.zero_le _⟩ (fun H locs hw hS => ?_)
            obtain ⟨g_71, hf⟩ := zg_inv hf
            refine mr_iald S hK hw 10 rfl g_71 dX7_power_128 ?_
            obtain ⟨r_72, t_73, e_74, hf⟩ := zb_inv hf
            refine mw_ci (As := [.int x1, .int x2, .int (mr t_64 9 r_63.toNatClampNeg), .int (mr t_69 10 r_68.toNatClampNeg)]) (rest := []) (n := 4) S (kc_X7_call l D cy A ad _ _ _ _ _ _ _ e_74) (wz_V (zin13 _ (List.mem_of_getElem? (i := 19) rfl)) (zin13 _ (List.mem_of_getElem? (i := 16) rfl)) (zin13 _ (List.mem_of_getElem? (i := 17) rfl)) (zin13 _ (List.mem_of_getElem? (i := 18) rfl)) (zin1 _ (List.mem_of_getElem? (i := 5) rfl))) rfl ⟨rfl, rfl⟩ (by decide +kernel) ⟨Nat.le_of_ble_eq_true rfl, Nat.le_of_ble_eq_true rfl⟩ rfl hl.1 rfl (Nat.le_of_ble_eq_true rfl) hK hw hS dX7_power_129 ⟨Nat.zero_le _, Nat.zero_le _⟩ (fun H locs hw hS => ?_)
            refine lv_istore (lv' := [(4, .int r_72), (3, .int r_48), (0, .ref (ad 0)), (1, .int x1), (2, .int x2)]) hx hb dX7_power_132 hl (by decide) rfl (fun ls hl => ?_)
            refine lv_iload hx hb dX7_power_134 (lv_at hl 0 rfl) ?_
            refine lv_if_ne (tgt := 142) hx hb dX7_power_136 (by decide) (fun c_75 => ?_) (fun c_75 => ?_)
            · have hf := (zi_f c_75).symm.trans hf
              refine lv_aload_n hx hb dX7_power_142 rfl (lv_at hl 2 rfl) ?_
              refine lv_iload_n hx hb dX7_power_143 rfl (lv_at hl 3 rfl) ?_
              refine lv_iload_n hx hb dX7_power_144 rfl (lv_at hl 4 rfl) ?_
              refine lv_iload hx hb dX7_power_145 (lv_at hl 0 rfl) ?_
              obtain ⟨⟨⟩, t_77, e_78, hf⟩ := zb_inv hf
              refine mw_cv (As := [.int x1, .int x2, .int r_72]) (rest := []) (n := 3) S (kc_X7_tell l D cy A ad _ _ _ _ _ e_78) (wz_V (zin15 _ (List.mem_of_getElem? (i := 0) rfl)) (zin14 _ (List.mem_of_getElem? (i := 21) rfl)) (zin14 _ (List.mem_of_getElem? (i := 22) rfl)) (zin14 _ (List.mem_of_getElem? (i := 23) rfl)) (zin1 _ (List.mem_of_getElem? (i := 5) rfl))) rfl ⟨rfl, rfl⟩ (by decide +kernel) ⟨Nat.le_of_ble_eq_true rfl, Nat.le_of_ble_eq_true rfl⟩ rfl hl.1 rfl (Nat.le_of_ble_eq_true rfl) hK hw hS dX7_power_147 ⟨Nat.zero_le _, Nat.zero_le _⟩ (fun H locs hw hS => ?_)
              refine lv_bipush (v := (10 : Int32)) hx hb dX7_power_150 (by decide) ?_
              refine lv_iload hx hb dX7_power_152 (lv_at hl 0 rfl) ?_
              refine lv_iadd hx hb dX7_power_154 ?_
              exact mw_reti S hr hf hw hS hlocks dX7_power_155
            · have hf := (zi_t c_75).symm.trans hf
              refine lv_goto (tgt := 156) hx hb dX7_power_139 (by decide) ?_
              exact B156 K hKK _ _ _ _ _ _ hf hw hS (lv_sub hl [2, 3, 4, 1] rfl)
          · have hf := (zi_f c_61).symm.trans hf
            refine lv_goto (tgt := 156) hx hb dX7_power_93 (by decide) ?_
            exact B156 K hKK _ _ _ _ _ _ hf hw hS (lv_sub hl [1, 2, 3, 0] rfl)
  have L37 : ∀ (n : Nat) (τ : MS) (x2 : Int32) (H : Heap) (locs : List Loc) (ls : Array Slot) (hf : k_X7_power_l37 x1 n τ x2 = some (r, τ')) (hw : zw D A ad (mG cy ad τ) H) (hS : va_S A s.heap H locs) (hl : lv_has ls 5 [(0, .ref (ad 0)), (1, .int x1), (2, .int x2)]), W p l e (headSpec (wz yX7_power cX7_power 5 (some .int)) ({ frames := 3, cells := 0, slots := 0, locals := 83 } : Room)).room s m ([.ref (ad 0), .int x1] : List Value).toArray below meth c H locs 0 0 (MQ below (va_Qi (fun (r' : Int32) (u : MS) => r' = r ∧ u = τ') (MWp D cy A ad) A) ([.ref (ad 0), .int x1] : List Value).toArray s 0 0 A) (F0 m 37 ls []) := by
    intro n
    induction n with
    | zero =>
      intro τ x2 H locs ls hf hw hS hl
      rw [k_X7_power_l37_z] at hf
      cases hf
    | succ n ih =>
      intro τ x2 H locs ls hf hw hS hl
      rw [k_X7_power_l37_s] at hf
      exact S37 (k_X7_power_l37 x1 n) ih τ x2 H locs ls hf hw hS hl
  rw [k_X7_power] at hf
  refine lv_aload_n hx hb dX7_power_0 rfl (lv_at hl 0 rfl) ?_
  refine lv_iconst (v := (0 : Int32)) hx hb dX7_power_1 (by decide) ?_
  refine mr_put S h7 hK hw hS 0 (by decide) (wz_in (zin5 _ (List.mem_of_getElem? (i := 8) rfl))) rfl rfl rfl (mput_0 _ _ _ _) dX7_power_2 (fun H locs hw hS => ?_)
  refine lv_aload_n hx hb dX7_power_5 rfl (lv_at hl 0 rfl) ?_
  refine lv_iload_n hx hb dX7_power_6 rfl (lv_at hl 1 rfl) ?_
  obtain ⟨r_79, t_80, e_81, hf⟩ := zb_inv hf
  refine mw_ci (As := [.int x1]) (rest := []) (n := 1) S (kc_X7_isController l D cy A ad _ _ _ _ e_81) (wz_V (zin10 _ (List.mem_of_getElem? (i := 11) rfl)) (zin10 _ (List.mem_of_getElem? (i := 8) rfl)) (zin10 _ (List.mem_of_getElem? (i := 9) rfl)) (zin10 _ (List.mem_of_getElem? (i := 10) rfl)) (zin1 _ (List.mem_of_getElem? (i := 5) rfl))) rfl ⟨rfl, rfl⟩ (by decide +kernel) ⟨Nat.le_of_ble_eq_true rfl, Nat.le_of_ble_eq_true rfl⟩ rfl hl.1 rfl (Nat.le_of_ble_eq_true rfl) hK hw hS dX7_power_7 ⟨Nat.zero_le _, Nat.zero_le _⟩ (fun H locs hw hS => ?_)
  refine lv_if_ne (tgt := 19) hx hb dX7_power_10 (by decide) (fun c_82 => ?_) (fun c_82 => ?_)
  · have hf := (zi_f c_82).symm.trans hf
    refine lv_aload_n hx hb dX7_power_19 rfl (lv_at hl 0 rfl) ?_
    refine mr_get S h7 hK hw 14 (by decide) (wz_in (zin3 _ (List.mem_of_getElem? (i := 21) rfl))) rfl rfl dX7_power_20 ?_
    refine lv_iload_n hx hb dX7_power_23 rfl (lv_at hl 1 rfl) ?_
    obtain ⟨g_83, hf⟩ := zg_inv hf
    refine mr_zald S hK hw 14 rfl g_83 dX7_power_24 ?_
    refine lv_if_eq (tgt := 35) hx hb dX7_power_25 (by decide) (fun c_84 => ?_) (fun c_84 => ?_)
    · have hf := (zi_t c_84).symm.trans hf
      refine lv_iconst (v := (1 : Int32)) hx hb dX7_power_35 (by decide) ?_
      refine lv_istore_n (lv' := [(2, .int (1 : Int32)), (0, .ref (ad 0)), (1, .int x1)]) hx hb dX7_power_36 rfl hl (by decide) rfl (fun ls hl => ?_)
      exact L37 FU _ _ _ _ _ hf hw hS (lv_sub hl [1, 2, 0] rfl)
    · have hf := (zi_f c_84).symm.trans hf
      refine lv_aload_n hx hb dX7_power_28 rfl (lv_at hl 0 rfl) ?_
      refine lv_bipush (v := (-3 : Int32)) hx hb dX7_power_29 (by decide) ?_
      obtain ⟨r_85, t_86, e_87, hf⟩ := zb_inv hf
      refine mw_ci (As := [.int (-3 : Int32)]) (rest := []) (n := 1) S (kc_X7_refuse l D cy A ad _ _ _ _ e_87) (wz_V (zin5 _ (List.mem_of_getElem? (i := 16) rfl)) (zin5 _ (List.mem_of_getElem? (i := 13) rfl)) (zin5 _ (List.mem_of_getElem? (i := 14) rfl)) (zin5 _ (List.mem_of_getElem? (i := 15) rfl)) (zin1 _ (List.mem_of_getElem? (i := 5) rfl))) rfl ⟨rfl, rfl⟩ (by decide +kernel) ⟨Nat.le_of_ble_eq_true rfl, Nat.le_of_ble_eq_true rfl⟩ rfl hl.1 rfl (Nat.le_of_ble_eq_true rfl) hK hw hS dX7_power_31 ⟨Nat.zero_le _, Nat.zero_le _⟩ (fun H locs hw hS => ?_)
      exact mw_reti S hr hf hw hS hlocks dX7_power_34
  · have hf := (zi_t c_82).symm.trans hf
    refine lv_aload_n hx hb dX7_power_13 rfl (lv_at hl 0 rfl) ?_
    refine lv_iconst (v := (-1 : Int32)) hx hb dX7_power_14 (by decide) ?_
    obtain ⟨r_88, t_89, e_90, hf⟩ := zb_inv hf
    refine mw_ci (As := [.int (-1 : Int32)]) (rest := []) (n := 1) S (kc_X7_refuse l D cy A ad _ _ _ _ e_90) (wz_V (zin5 _ (List.mem_of_getElem? (i := 16) rfl)) (zin5 _ (List.mem_of_getElem? (i := 13) rfl)) (zin5 _ (List.mem_of_getElem? (i := 14) rfl)) (zin5 _ (List.mem_of_getElem? (i := 15) rfl)) (zin1 _ (List.mem_of_getElem? (i := 5) rfl))) rfl ⟨rfl, rfl⟩ (by decide +kernel) ⟨Nat.le_of_ble_eq_true rfl, Nat.le_of_ble_eq_true rfl⟩ rfl hl.1 rfl (Nat.le_of_ble_eq_true rfl) hK hw hS dX7_power_15 ⟨Nat.zero_le _, Nat.zero_le _⟩ (fun H locs hw hS => ?_)
    exact mw_reti S hr hf hw hS hlocks dX7_power_18
noncomputable def k_X7_barred_b72 (x1 : Int32) (x2 : Int32) (τ : MS) (y0 : Int32) (x3 : Int32) : Option (Int32 × MS) := some (y0, τ)
noncomputable def k_X7_barred_b66 (x1 : Int32) (x2 : Int32) (τ : MS) (x3 : Int32) : Option (Int32 × MS) := k_X7_barred_b72 x1 x2 τ (-3 : Int32) x3
noncomputable def k_X7_barred_b16 (x1 : Int32) (x2 : Int32) (τ : MS) : Option (Int32 × MS) := some ((-1 : Int32), τ)
noncomputable def k_X7_barred (τ : MS) (x1 : Int32) (x2 : Int32) : Option (Int32 × MS) := zb (k_X7_isController τ x1) (fun r_21 t_22 => zi (r_21 = 0) (k_X7_barred_b16 x1 x2 t_22) (zb (k_X7_isRunnable t_22 x2) (fun r_25 t_26 => zi (r_25 = 0) (k_X7_barred_b16 x1 x2 t_26) (zb (k_X7_at t_26 x1 x2) (fun r_29 t_30 => zg (vp_in x1 8) (zi ((mr t_30 14 x1.toNatClampNeg) = 0) (k_X7_barred_b66 x1 x2 t_30 r_29) (zg (vp_in r_29 160) (zi ((mr t_30 21 r_29.toNatClampNeg) = 0) (k_X7_barred_b66 x1 x2 t_30 r_29) (zg (vp_in r_29 160) (zi ((mr t_30 23 r_29.toNatClampNeg) = 0) (zg (vp_in r_29 160) (zg (vp_in x2 21) (zi ((mr t_30 21 r_29.toNatClampNeg) = (mr t_30 6 x2.toNatClampNeg)) (k_X7_barred_b72 x1 x2 t_30 (0 : Int32) r_29) (k_X7_barred_b66 x1 x2 t_30 r_29)))) (k_X7_barred_b66 x1 x2 t_30 r_29)))))))))))
set_option maxHeartbeats 4000000 in
set_option maxRecDepth 100000 in
theorem kc_X7_barred (l : Launch) (D : va_G) (cy : Nat → ClassId) (A : Nat → Prop) (ad : Nat → Nat) (τ τ' : MS) (x1 : Int32) (x2 : Int32) (r : Int32) (hf : k_X7_barred τ x1 x2 = some (r, τ')) : Met l yX7_barred (wz yX7_barred cX7_barred 4 (some .int)) ({ frames := 2, cells := 0, slots := 0, locals := 43 } : Room) (va_Pc [.ref (ad 0), .int x1, .int x2] (MWs D cy A ad τ)) (va_Qi (fun (r' : Int32) (u : MS) => r' = r ∧ u = τ') (MWp D cy A ad) A) 0 0 A := by
  refine Met.ofW (cc := cX7_barred) (maxL := 4) (ret := (some .int)) (by decide) rfl ?_
  intro p e s m args below meth c s₁ B hml hv
  obtain ⟨rfl, hw, hK⟩ := hv
  have hx := B.exec
  have hb := B.bytes
  have hr := B.returns
  have hts := atoms_spec (ws := (wz yX7_barred cX7_barred 4 (some .int))) B.pre
  have hown : s.vm.findClass RX7 = some m.cls := findClass_of_methodNamed B.named
  have hlocks := B.notSynchronized
  have S : CallFix p m c cX7_barred 4 s ([.ref (ad 0), .int x1, .int x2] : List Value).toArray (wz yX7_barred cX7_barred 4 (some .int)) RX7 := ⟨hx, hb, hml, hown, hts⟩
  have h7 : ∀ w ∈ wsX70, w ∈ (wz yX7_barred cX7_barred 4 (some .int)) := fun w h => wz_in (inlX7 w h)
  have hS : va_S A s.heap s.heap [] := va_S.rf
  have hl := lv_entry ([.ref (ad 0), .int x1, .int x2]) (n := 4) (Nat.le_of_ble_eq_true rfl)
  rw [lg_entry_eq]
  generalize (lg_sl ([.ref (ad 0), .int x1, .int x2]) ++ List.replicate (4 - (lg_sl ([.ref (ad 0), .int x1, .int x2])).length) Slot.unset).toArray = ls at hl ⊢
  have hl : lv_has ls 4 [(0, .ref (ad 0)), (1, .int x1), (2, .int x2)] := hl
  have B72 : ∀ (τ : MS) (y0 : Int32) (x3 : Int32) (H : Heap) (locs : List Loc) (ls : Array Slot) (hf : k_X7_barred_b72 x1 x2 τ y0 x3 = some (r, τ')) (hw : zw D A ad (mG cy ad τ) H) (hS : va_S A s.heap H locs) (hl : lv_has ls 4 [(0, .ref (ad 0)), (1, .int x1), (2, .int x2), (3, .int x3)]), W p l e (headSpec (wz yX7_barred cX7_barred 4 (some .int)) ({ frames := 2, cells := 0, slots := 0, locals := 43 } : Room)).room s m ([.ref (ad 0), .int x1, .int x2] : List Value).toArray below meth c H locs 0 0 (MQ below (va_Qi (fun (r' : Int32) (u : MS) => r' = r ∧ u = τ') (MWp D cy A ad) A) ([.ref (ad 0), .int x1, .int x2] : List Value).toArray s 0 0 A) (F0 m 72 ls [.int y0]) := by
    intro τ y0 x3 H locs ls hf hw hS hl
    rw [k_X7_barred_b72] at hf
    exact mw_reti S hr hf hw hS hlocks dX7_barred_72
  have B66 : ∀ (τ : MS) (x3 : Int32) (H : Heap) (locs : List Loc) (ls : Array Slot) (hf : k_X7_barred_b66 x1 x2 τ x3 = some (r, τ')) (hw : zw D A ad (mG cy ad τ) H) (hS : va_S A s.heap H locs) (hl : lv_has ls 4 [(0, .ref (ad 0)), (1, .int x1), (2, .int x2), (3, .int x3)]), W p l e (headSpec (wz yX7_barred cX7_barred 4 (some .int)) ({ frames := 2, cells := 0, slots := 0, locals := 43 } : Room)).room s m ([.ref (ad 0), .int x1, .int x2] : List Value).toArray below meth c H locs 0 0 (MQ below (va_Qi (fun (r' : Int32) (u : MS) => r' = r ∧ u = τ') (MWp D cy A ad) A) ([.ref (ad 0), .int x1, .int x2] : List Value).toArray s 0 0 A) (F0 m 66 ls []) := by
    intro τ x3 H locs ls hf hw hS hl
    rw [k_X7_barred_b66] at hf
    refine lv_bipush (v := (-3 : Int32)) hx hb dX7_barred_66 (by decide) ?_
    refine lv_goto (tgt := 72) hx hb dX7_barred_68 (by decide) ?_
    exact B72 _ _ _ _ _ _ hf hw hS (lv_sub hl [0, 1, 2, 3] rfl)
  have B16 : ∀ (τ : MS) (H : Heap) (locs : List Loc) (ls : Array Slot) (hf : k_X7_barred_b16 x1 x2 τ = some (r, τ')) (hw : zw D A ad (mG cy ad τ) H) (hS : va_S A s.heap H locs) (hl : lv_has ls 4 [(0, .ref (ad 0)), (1, .int x1), (2, .int x2)]), W p l e (headSpec (wz yX7_barred cX7_barred 4 (some .int)) ({ frames := 2, cells := 0, slots := 0, locals := 43 } : Room)).room s m ([.ref (ad 0), .int x1, .int x2] : List Value).toArray below meth c H locs 0 0 (MQ below (va_Qi (fun (r' : Int32) (u : MS) => r' = r ∧ u = τ') (MWp D cy A ad) A) ([.ref (ad 0), .int x1, .int x2] : List Value).toArray s 0 0 A) (F0 m 16 ls []) := by
    intro τ H locs ls hf hw hS hl
    rw [k_X7_barred_b16] at hf
    refine lv_iconst (v := (-1 : Int32)) hx hb dX7_barred_16 (by decide) ?_
    exact mw_reti S hr hf hw hS hlocks dX7_barred_17
  rw [k_X7_barred] at hf
  refine lv_aload_n hx hb dX7_barred_0 rfl (lv_at hl 0 rfl) ?_
  refine lv_iload_n hx hb dX7_barred_1 rfl (lv_at hl 1 rfl) ?_
  obtain ⟨r_21, t_22, e_23, hf⟩ := zb_inv hf
  refine mw_ci (As := [.int x1]) (rest := []) (n := 1) S (kc_X7_isController l D cy A ad _ _ _ _ e_23) (wz_V (zin10 _ (List.mem_of_getElem? (i := 11) rfl)) (zin10 _ (List.mem_of_getElem? (i := 8) rfl)) (zin10 _ (List.mem_of_getElem? (i := 9) rfl)) (zin10 _ (List.mem_of_getElem? (i := 10) rfl)) (zin1 _ (List.mem_of_getElem? (i := 5) rfl))) rfl ⟨rfl, rfl⟩ (by decide +kernel) ⟨Nat.le_of_ble_eq_true rfl, Nat.le_of_ble_eq_true rfl⟩ rfl hl.1 rfl (Nat.le_of_ble_eq_true rfl) hK hw hS dX7_barred_2 ⟨Nat.zero_le _, Nat.zero_le _⟩ (fun H locs hw hS => ?_)
  refine lv_if_eq (tgt := 16) hx hb dX7_barred_5 (by decide) (fun c_24 => ?_) (fun c_24 => ?_)
  · have hf := (zi_t c_24).symm.trans hf
    exact B16 _ _ _ _ hf hw hS (lv_sub hl [0, 1, 2] rfl)
  · have hf := (zi_f c_24).symm.trans hf
    refine lv_aload_n hx hb dX7_barred_8 rfl (lv_at hl 0 rfl) ?_
    refine lv_iload_n hx hb dX7_barred_9 rfl (lv_at hl 2 rfl) ?_
    obtain ⟨r_25, t_26, e_27, hf⟩ := zb_inv hf
    refine mw_ci (As := [.int x2]) (rest := []) (n := 1) S (kc_X7_isRunnable l D cy A ad _ _ _ _ e_27) (wz_V (zin10 _ (List.mem_of_getElem? (i := 15) rfl)) (zin10 _ (List.mem_of_getElem? (i := 12) rfl)) (zin10 _ (List.mem_of_getElem? (i := 13) rfl)) (zin10 _ (List.mem_of_getElem? (i := 14) rfl)) (zin1 _ (List.mem_of_getElem? (i := 5) rfl))) rfl ⟨rfl, rfl⟩ (by decide +kernel) ⟨Nat.le_of_ble_eq_true rfl, Nat.le_of_ble_eq_true rfl⟩ rfl hl.1 rfl (Nat.le_of_ble_eq_true rfl) hK hw hS dX7_barred_10 ⟨Nat.zero_le _, Nat.zero_le _⟩ (fun H locs hw hS => ?_)
    refine lv_if_ne (tgt := 18) hx hb dX7_barred_13 (by decide) (fun c_28 => ?_) (fun c_28 => ?_)
    · have hf := (zi_f c_28).symm.trans hf
      refine lv_iload_n hx hb dX7_barred_18 rfl (lv_at hl 1 rfl) ?_
      refine lv_iload_n hx hb dX7_barred_19 rfl (lv_at hl 2 rfl) ?_
      obtain ⟨r_29, t_30, e_31, hf⟩ := zb_inv hf
      refine mw_si (As := [.int x1, .int x2]) (rest := []) (n := 2) S (kc_X7_at l D cy A ad _ _ _ _ _ e_31) (wz_S (zin10 _ (List.mem_of_getElem? (i := 18) rfl)) (zin10 _ (List.mem_of_getElem? (i := 16) rfl)) (zin10 _ (List.mem_of_getElem? (i := 17) rfl)) (zin1 _ (List.mem_of_getElem? (i := 5) rfl))) rfl ⟨rfl, rfl⟩ (by decide +kernel) ⟨Nat.le_of_ble_eq_true rfl, Nat.le_of_ble_eq_true rfl⟩ rfl hl.1 rfl (Nat.le_of_ble_eq_true rfl) hK hw hS dX7_barred_20 ⟨Nat.zero_le _, Nat.zero_le _⟩ (fun H locs hw hS => ?_)
      refine lv_istore_n (lv' := [(3, .int r_29), (0, .ref (ad 0)), (1, .int x1), (2, .int x2)]) hx hb dX7_barred_23 rfl hl (by decide) rfl (fun ls hl => ?_)
      refine lv_aload_n hx hb dX7_barred_24 rfl (lv_at hl 1 rfl) ?_
      refine mr_get S h7 hK hw 14 (by decide) (wz_in (zin3 _ (List.mem_of_getElem? (i := 21) rfl))) rfl rfl dX7_barred_25 ?_
      refine lv_iload_n hx hb dX7_barred_28 rfl (lv_at hl 2 rfl) ?_
      obtain ⟨g_32, hf⟩ := zg_inv hf
      refine mr_zald S hK hw 14 rfl g_32 dX7_barred_29 ?_
      refine lv_if_eq (tgt := 66) hx hb dX7_barred_30 (by decide) (fun c_33 => ?_) (fun c_33 => ?_)
      · have hf := (zi_t c_33).symm.trans hf
        exact B66 _ _ _ _ _ hf hw hS (lv_sub hl [1, 2, 3, 0] rfl)
      · have hf := (zi_f c_33).symm.trans hf
        refine lv_aload_n hx hb dX7_barred_33 rfl (lv_at hl 1 rfl) ?_
        refine mr_get S h7 hK hw 21 (by decide) (wz_in (zin4 _ (List.mem_of_getElem? (i := 4) rfl))) rfl rfl dX7_barred_34 ?_
        refine lv_iload_n hx hb dX7_barred_37 rfl (lv_at hl 0 rfl) ?_
        obtain ⟨g_34, hf⟩ := zg_inv hf
        refine mr_iald S hK hw 21 rfl g_34 dX7_barred_38 ?_
        refine lv_if_eq (tgt := 66) hx hb dX7_barred_39 (by decide) (fun c_35 => ?_) (fun c_35 => ?_)
        · have hf := (zi_t c_35).symm.trans hf
          exact B66 _ _ _ _ _ hf hw hS (lv_sub hl [1, 2, 3, 0] rfl)
        · have hf := (zi_f c_35).symm.trans hf
          refine lv_aload_n hx hb dX7_barred_42 rfl (lv_at hl 1 rfl) ?_
          refine mr_get S h7 hK hw 23 (by decide) (wz_in (zin4 _ (List.mem_of_getElem? (i := 6) rfl))) rfl rfl dX7_barred_43 ?_
          refine lv_iload_n hx hb dX7_barred_46 rfl (lv_at hl 0 rfl) ?_
          obtain ⟨g_36, hf⟩ := zg_inv hf
          refine mr_zald S hK hw 23 rfl g_36 dX7_barred_47 ?_
          refine lv_if_ne (tgt := 66) hx hb dX7_barred_48 (by decide) (fun c_37 => ?_) (fun c_37 => ?_)
          · have hf := (zi_f c_37).symm.trans hf
            exact B66 _ _ _ _ _ hf hw hS (lv_sub hl [1, 2, 3, 0] rfl)
          · have hf := (zi_t c_37).symm.trans hf
            refine lv_aload_n hx hb dX7_barred_51 rfl (lv_at hl 1 rfl) ?_
            refine mr_get S h7 hK hw 21 (by decide) (wz_in (zin4 _ (List.mem_of_getElem? (i := 4) rfl))) rfl rfl dX7_barred_52 ?_
            refine lv_iload_n hx hb dX7_barred_55 rfl (lv_at hl 0 rfl) ?_
            obtain ⟨g_38, hf⟩ := zg_inv hf
            refine mr_iald S hK hw 21 rfl g_38 dX7_barred_56 ?_
            refine lv_aload_n hx hb dX7_barred_57 rfl (lv_at hl 1 rfl) ?_
            refine mr_get S h7 hK hw 6 (by decide) (wz_in (zin3 _ (List.mem_of_getElem? (i := 12) rfl))) rfl rfl dX7_barred_58 ?_
            refine lv_iload_n hx hb dX7_barred_61 rfl (lv_at hl 3 rfl) ?_
            obtain ⟨g_39, hf⟩ := zg_inv hf
            refine mr_iald S hK hw 6 rfl g_39 dX7_barred_62 ?_
            refine lv_icmp_eq (tgt := 71) hx hb dX7_barred_63 (by decide) (fun c_40 => ?_) (fun c_40 => ?_)
            · have hf := (zi_t c_40).symm.trans hf
              refine lv_iconst (v := (0 : Int32)) hx hb dX7_barred_71 (by decide) ?_
              exact B72 _ _ _ _ _ _ hf hw hS (lv_sub hl [1, 2, 3, 0] rfl)
            · have hf := (zi_f c_40).symm.trans hf
              exact B66 _ _ _ _ _ hf hw hS (lv_sub hl [1, 2, 3, 0] rfl)
    · have hf := (zi_t c_28).symm.trans hf
      exact B16 _ _ _ _ hf hw hS (lv_sub hl [0, 1, 2] rfl)
noncomputable def k_X7_runMember (τ : MS) (x1 : Int32) (x2 : Int32) : Option (Int32 × MS) := zb (k_X7_at τ x1 x2) (fun r_13 t_14 => zg (vp_in r_13 160) (zb (k_X7_place t_14 x2 (mr t_14 21 r_13.toNatClampNeg)) (fun r_17 t_18 => zg (vp_in r_17 180) (zg (vp_in r_17 180) (zb (k_X7_call t_18 x1 x2 (mr t_18 11 r_17.toNatClampNeg) (mr t_18 12 r_17.toNatClampNeg)) (fun r_22 t_23 => some (r_22, t_23)))))))
set_option maxHeartbeats 4000000 in
set_option maxRecDepth 100000 in
theorem kc_X7_runMember (l : Launch) (D : va_G) (cy : Nat → ClassId) (A : Nat → Prop) (ad : Nat → Nat) (τ τ' : MS) (x1 : Int32) (x2 : Int32) (r : Int32) (hf : k_X7_runMember τ x1 x2 = some (r, τ')) : Met l yX7_runMember (wz yX7_runMember cX7_runMember 4 (some .int)) ({ frames := 3, cells := 0, slots := 0, locals := 83 } : Room) (va_Pc [.ref (ad 0), .int x1, .int x2] (MWs D cy A ad τ)) (va_Qi (fun (r' : Int32) (u : MS) => r' = r ∧ u = τ') (MWp D cy A ad) A) 0 0 A := by
  refine Met.ofW (cc := cX7_runMember) (maxL := 4) (ret := (some .int)) (by decide) rfl ?_
  intro p e s m args below meth c s₁ B hml hv
  obtain ⟨rfl, hw, hK⟩ := hv
  have hx := B.exec
  have hb := B.bytes
  have hr := B.returns
  have hts := atoms_spec (ws := (wz yX7_runMember cX7_runMember 4 (some .int))) B.pre
  have hown : s.vm.findClass RX7 = some m.cls := findClass_of_methodNamed B.named
  have hlocks := B.notSynchronized
  have S : CallFix p m c cX7_runMember 4 s ([.ref (ad 0), .int x1, .int x2] : List Value).toArray (wz yX7_runMember cX7_runMember 4 (some .int)) RX7 := ⟨hx, hb, hml, hown, hts⟩
  have h7 : ∀ w ∈ wsX70, w ∈ (wz yX7_runMember cX7_runMember 4 (some .int)) := fun w h => wz_in (inlX7 w h)
  have hS : va_S A s.heap s.heap [] := va_S.rf
  have hl := lv_entry ([.ref (ad 0), .int x1, .int x2]) (n := 4) (Nat.le_of_ble_eq_true rfl)
  rw [lg_entry_eq]
  generalize (lg_sl ([.ref (ad 0), .int x1, .int x2]) ++ List.replicate (4 - (lg_sl ([.ref (ad 0), .int x1, .int x2])).length) Slot.unset).toArray = ls at hl ⊢
  have hl : lv_has ls 4 [(0, .ref (ad 0)), (1, .int x1), (2, .int x2)] := hl
  rw [k_X7_runMember] at hf
  refine lv_iload_n hx hb dX7_runMember_0 rfl (lv_at hl 2 rfl) ?_
  refine lv_aload_n hx hb dX7_runMember_1 rfl (lv_at hl 0 rfl) ?_
  refine mr_get S h7 hK hw 21 (by decide) (wz_in (zin4 _ (List.mem_of_getElem? (i := 4) rfl))) rfl rfl dX7_runMember_2 ?_
  refine lv_iload_n hx hb dX7_runMember_5 rfl (lv_at hl 1 rfl) ?_
  refine lv_iload_n hx hb dX7_runMember_6 rfl (lv_at hl 2 rfl) ?_
  obtain ⟨r_13, t_14, e_15, hf⟩ := zb_inv hf
  refine mw_si (As := [.int x1, .int x2]) (rest := [.ref (ad 21), .int x2]) (n := 2) S (kc_X7_at l D cy A ad _ _ _ _ _ e_15) (wz_S (zin10 _ (List.mem_of_getElem? (i := 18) rfl)) (zin10 _ (List.mem_of_getElem? (i := 16) rfl)) (zin10 _ (List.mem_of_getElem? (i := 17) rfl)) (zin1 _ (List.mem_of_getElem? (i := 5) rfl))) rfl ⟨rfl, rfl⟩ (by decide +kernel) ⟨Nat.le_of_ble_eq_true rfl, Nat.le_of_ble_eq_true rfl⟩ rfl hl.1 rfl (Nat.le_of_ble_eq_true rfl) hK hw hS dX7_runMember_7 ⟨Nat.zero_le _, Nat.zero_le _⟩ (fun H locs hw hS => ?_)
  obtain ⟨g_16, hf⟩ := zg_inv hf
  refine mr_iald S hK hw 21 rfl g_16 dX7_runMember_10 ?_
  obtain ⟨r_17, t_18, e_19, hf⟩ := zb_inv hf
  refine mw_si (As := [.int x2, .int (mr t_14 21 r_13.toNatClampNeg)]) (rest := []) (n := 2) S (kc_X7_place l D cy A ad _ _ _ _ _ e_19) (wz_S (zin9 _ (List.mem_of_getElem? (i := 0) rfl)) (zin8 _ (List.mem_of_getElem? (i := 22) rfl)) (zin8 _ (List.mem_of_getElem? (i := 23) rfl)) (zin1 _ (List.mem_of_getElem? (i := 5) rfl))) rfl ⟨rfl, rfl⟩ (by decide +kernel) ⟨Nat.le_of_ble_eq_true rfl, Nat.le_of_ble_eq_true rfl⟩ rfl hl.1 rfl (Nat.le_of_ble_eq_true rfl) hK hw hS dX7_runMember_11 ⟨Nat.zero_le _, Nat.zero_le _⟩ (fun H locs hw hS => ?_)
  refine lv_istore_n (lv' := [(3, .int r_17), (0, .ref (ad 0)), (1, .int x1), (2, .int x2)]) hx hb dX7_runMember_14 rfl hl (by decide) rfl (fun ls hl => ?_)
  refine lv_aload_n hx hb dX7_runMember_15 rfl (lv_at hl 1 rfl) ?_
  refine lv_iload_n hx hb dX7_runMember_16 rfl (lv_at hl 2 rfl) ?_
  refine lv_iload_n hx hb dX7_runMember_17 rfl (lv_at hl 3 rfl) ?_
  refine lv_aload_n hx hb dX7_runMember_18 rfl (lv_at hl 1 rfl) ?_
  refine mr_get S h7 hK hw 11 (by decide) (wz_in (zin3 _ (List.mem_of_getElem? (i := 17) rfl))) rfl rfl dX7_runMember_19 ?_
  refine lv_iload_n hx hb dX7_runMember_22 rfl (lv_at hl 0 rfl) ?_
  obtain ⟨g_20, hf⟩ := zg_inv hf
  refine mr_iald S hK hw 11 rfl g_20 dX7_runMember_23 ?_
  refine lv_aload_n hx hb dX7_runMember_24 rfl (lv_at hl 1 rfl) ?_
  refine mr_get S h7 hK hw 12 (by decide) (wz_in (zin3 _ (List.mem_of_getElem? (i := 18) rfl))) rfl rfl dX7_runMember_25 ?_
  refine lv_iload_n hx hb dX7_runMember_28 rfl (lv_at hl 0 rfl) ?_
  obtain ⟨g_21, hf⟩ := zg_inv hf
  refine mr_iald S hK hw 12 rfl g_21 dX7_runMember_29 ?_
  obtain ⟨r_22, t_23, e_24, hf⟩ := zb_inv hf
  refine mw_ci (As := [.int x1, .int x2, .int (mr t_18 11 r_17.toNatClampNeg), .int (mr t_18 12 r_17.toNatClampNeg)]) (rest := []) (n := 4) S (kc_X7_call l D cy A ad _ _ _ _ _ _ _ e_24) (wz_V (zin13 _ (List.mem_of_getElem? (i := 19) rfl)) (zin13 _ (List.mem_of_getElem? (i := 16) rfl)) (zin13 _ (List.mem_of_getElem? (i := 17) rfl)) (zin13 _ (List.mem_of_getElem? (i := 18) rfl)) (zin1 _ (List.mem_of_getElem? (i := 5) rfl))) rfl ⟨rfl, rfl⟩ (by decide +kernel) ⟨Nat.le_of_ble_eq_true rfl, Nat.le_of_ble_eq_true rfl⟩ rfl hl.1 rfl (Nat.le_of_ble_eq_true rfl) hK hw hS dX7_runMember_30 ⟨Nat.zero_le _, Nat.zero_le _⟩ (fun H locs hw hS => ?_)
  exact mw_reti S hr hf hw hS hlocks dX7_runMember_33
noncomputable def k_X7_run_b83 (x1 : Int32) (x2 : Int32) (τ : MS) (x3 : Int32) (x4 : Int32) : Option (Int32 × MS) := some ((10 : Int32) + x4, τ)
noncomputable def k_X7_run_b66 (x1 : Int32) (x2 : Int32) (τ : MS) (x3 : Int32) (x4 : Int32) : Option (Int32 × MS) := zg (vp_in x1 8) (zi ((mr τ 15 x1.toNatClampNeg) = (2 : Int32)) (zg (vp_in x1 8) (k_X7_run_b83 x1 x2 (mR τ 14 x1.toNatClampNeg (vp_nar .boolean (0 : Int32))) x3 x4)) (k_X7_run_b83 x1 x2 τ x3 x4))
noncomputable def k_X7_run (τ : MS) (x1 : Int32) (x2 : Int32) : Option (Int32 × MS) := zb (k_X7_barred (mI τ 0 (0 : Int32)) x1 x2) (fun r_27 t_28 => zi (0 ≤ r_27) (zb (k_X7_runMember t_28 x1 x2) (fun r_31 t_32 => zi (r_31 = 0) (some ((1 : Int32), t_32)) (zb (k_X7_tell t_32 x1 x2 r_31) (fun _ t_36 => zg (vp_in x1 8) (zi ((mr t_36 15 x1.toNatClampNeg) = (1 : Int32)) (zb (k_X7_at t_36 x1 x2) (fun r_40 t_41 => zg (vp_in r_40 160) (k_X7_run_b66 x1 x2 (mR t_41 23 r_40.toNatClampNeg (vp_nar .boolean (1 : Int32))) r_27 r_31))) (k_X7_run_b66 x1 x2 t_36 r_27 r_31)))))) (zb (k_X7_refuse t_28 r_27) (fun r_44 t_45 => some (r_44, t_45))))
set_option maxHeartbeats 4000000 in
set_option maxRecDepth 100000 in
theorem kc_X7_run (l : Launch) (D : va_G) (cy : Nat → ClassId) (A : Nat → Prop) (ad : Nat → Nat) (τ τ' : MS) (x1 : Int32) (x2 : Int32) (r : Int32) (hf : k_X7_run τ x1 x2 = some (r, τ')) : Met l yX7_run (wz yX7_run cX7_run 5 (some .int)) ({ frames := 4, cells := 0, slots := 0, locals := 106 } : Room) (va_Pc [.ref (ad 0), .int x1, .int x2] (MWs D cy A ad τ)) (va_Qi (fun (r' : Int32) (u : MS) => r' = r ∧ u = τ') (MWp D cy A ad) A) 0 0 A := by
  refine Met.ofW (cc := cX7_run) (maxL := 5) (ret := (some .int)) (by decide) rfl ?_
  intro p e s m args below meth c s₁ B hml hv
  obtain ⟨rfl, hw, hK⟩ := hv
  have hx := B.exec
  have hb := B.bytes
  have hr := B.returns
  have hts := atoms_spec (ws := (wz yX7_run cX7_run 5 (some .int))) B.pre
  have hown : s.vm.findClass RX7 = some m.cls := findClass_of_methodNamed B.named
  have hlocks := B.notSynchronized
  have S : CallFix p m c cX7_run 5 s ([.ref (ad 0), .int x1, .int x2] : List Value).toArray (wz yX7_run cX7_run 5 (some .int)) RX7 := ⟨hx, hb, hml, hown, hts⟩
  have h7 : ∀ w ∈ wsX70, w ∈ (wz yX7_run cX7_run 5 (some .int)) := fun w h => wz_in (inlX7 w h)
  have hS : va_S A s.heap s.heap [] := va_S.rf
  have hl := lv_entry ([.ref (ad 0), .int x1, .int x2]) (n := 5) (Nat.le_of_ble_eq_true rfl)
  rw [lg_entry_eq]
  generalize (lg_sl ([.ref (ad 0), .int x1, .int x2]) ++ List.replicate (5 - (lg_sl ([.ref (ad 0), .int x1, .int x2])).length) Slot.unset).toArray = ls at hl ⊢
  have hl : lv_has ls 5 [(0, .ref (ad 0)), (1, .int x1), (2, .int x2)] := hl
  have B83 : ∀ (τ : MS) (x3 : Int32) (x4 : Int32) (H : Heap) (locs : List Loc) (ls : Array Slot) (hf : k_X7_run_b83 x1 x2 τ x3 x4 = some (r, τ')) (hw : zw D A ad (mG cy ad τ) H) (hS : va_S A s.heap H locs) (hl : lv_has ls 5 [(0, .ref (ad 0)), (1, .int x1), (2, .int x2), (3, .int x3), (4, .int x4)]), W p l e (headSpec (wz yX7_run cX7_run 5 (some .int)) ({ frames := 4, cells := 0, slots := 0, locals := 106 } : Room)).room s m ([.ref (ad 0), .int x1, .int x2] : List Value).toArray below meth c H locs 0 0 (MQ below (va_Qi (fun (r' : Int32) (u : MS) => r' = r ∧ u = τ') (MWp D cy A ad) A) ([.ref (ad 0), .int x1, .int x2] : List Value).toArray s 0 0 A) (F0 m 83 ls []) := by
    intro τ x3 x4 H locs ls hf hw hS hl
    rw [k_X7_run_b83] at hf
    refine lv_bipush (v := (10 : Int32)) hx hb dX7_run_83 (by decide) ?_
    refine lv_iload hx hb dX7_run_85 (lv_at hl 4 rfl) ?_
    refine lv_iadd hx hb dX7_run_87 ?_
    exact mw_reti S hr hf hw hS hlocks dX7_run_88
  have B66 : ∀ (τ : MS) (x3 : Int32) (x4 : Int32) (H : Heap) (locs : List Loc) (ls : Array Slot) (hf : k_X7_run_b66 x1 x2 τ x3 x4 = some (r, τ')) (hw : zw D A ad (mG cy ad τ) H) (hS : va_S A s.heap H locs) (hl : lv_has ls 5 [(0, .ref (ad 0)), (1, .int x1), (2, .int x2), (3, .int x3), (4, .int x4)]), W p l e (headSpec (wz yX7_run cX7_run 5 (some .int)) ({ frames := 4, cells := 0, slots := 0, locals := 106 } : Room)).room s m ([.ref (ad 0), .int x1, .int x2] : List Value).toArray below meth c H locs 0 0 (MQ below (va_Qi (fun (r' : Int32) (u : MS) => r' = r ∧ u = τ') (MWp D cy A ad) A) ([.ref (ad 0), .int x1, .int x2] : List Value).toArray s 0 0 A) (F0 m 66 ls []) := by
    intro τ x3 x4 H locs ls hf hw hS hl
    rw [k_X7_run_b66] at hf
    refine lv_aload_n hx hb dX7_run_66 rfl (lv_at hl 0 rfl) ?_
    refine mr_get S h7 hK hw 15 (by decide) (wz_in (zin3 _ (List.mem_of_getElem? (i := 22) rfl))) rfl rfl dX7_run_67 ?_
    refine lv_iload_n hx hb dX7_run_70 rfl (lv_at hl 1 rfl) ?_
    obtain ⟨g_24, hf⟩ := zg_inv hf
    refine mr_iald S hK hw 15 rfl g_24 dX7_run_71 ?_
    refine lv_iconst (v := (2 : Int32)) hx hb dX7_run_72 (by decide) ?_
    refine lv_icmp_ne (tgt := 83) hx hb dX7_run_73 (by decide) (fun c_25 => ?_) (fun c_25 => ?_)
    · have hf := (zi_f c_25).symm.trans hf
      exact B83 _ _ _ _ _ _ hf hw hS (lv_sub hl [0, 1, 2, 3, 4] rfl)
    · have hf := (zi_t c_25).symm.trans hf
      refine lv_aload_n hx hb dX7_run_76 rfl (lv_at hl 0 rfl) ?_
      refine mr_get S h7 hK hw 14 (by decide) (wz_in (zin3 _ (List.mem_of_getElem? (i := 21) rfl))) rfl rfl dX7_run_77 ?_
      refine lv_iload_n hx hb dX7_run_80 rfl (lv_at hl 1 rfl) ?_
      refine lv_iconst (v := (0 : Int32)) hx hb dX7_run_81 (by decide) ?_
      obtain ⟨g_26, hf⟩ := zg_inv hf
      refine mr_zast S hK hw hS 14 rfl g_26 rfl dX7_run_82 (fun H locs hw hS => ?_)
      exact B83 _ _ _ _ _ _ hf hw hS (lv_sub hl [0, 1, 2, 3, 4] rfl)
  rw [k_X7_run] at hf
  refine lv_aload_n hx hb dX7_run_0 rfl (lv_at hl 0 rfl) ?_
  refine lv_iconst (v := (0 : Int32)) hx hb dX7_run_1 (by decide) ?_
  refine mr_put S h7 hK hw hS 0 (by decide) (wz_in (zin5 _ (List.mem_of_getElem? (i := 8) rfl))) rfl rfl rfl (mput_0 _ _ _ _) dX7_run_2 (fun H locs hw hS => ?_)
  refine lv_aload_n hx hb dX7_run_5 rfl (lv_at hl 0 rfl) ?_
  refine lv_iload_n hx hb dX7_run_6 rfl (lv_at hl 1 rfl) ?_
  refine lv_iload_n hx hb dX7_run_7 rfl (lv_at hl 2 rfl) ?_
  obtain ⟨r_27, t_28, e_29, hf⟩ := zb_inv hf
  refine mw_ci (As := [.int x1, .int x2]) (rest := []) (n := 2) S (kc_X7_barred l D cy A ad _ _ _ _ _ e_29) (wz_V (zin16 _ (List.mem_of_getElem? (i := 1) rfl)) (zin15 _ (List.mem_of_getElem? (i := 22) rfl)) (zin15 _ (List.mem_of_getElem? (i := 23) rfl)) (zin16 _ (List.mem_of_getElem? (i := 0) rfl)) (zin1 _ (List.mem_of_getElem? (i := 5) rfl))) rfl ⟨rfl, rfl⟩ (by decide +kernel) ⟨Nat.le_of_ble_eq_true rfl, Nat.le_of_ble_eq_true rfl⟩ rfl hl.1 rfl (Nat.le_of_ble_eq_true rfl) hK hw hS dX7_run_8 ⟨Nat.zero_le _, Nat.zero_le _⟩ (fun H locs hw hS => ?_)
  refine lv_istore_n (lv' := [(3, .int r_27), (0, .ref (ad 0)), (1, .int x1), (2, .int x2)]) hx hb dX7_run_11 rfl hl (by decide) rfl (fun ls hl => ?_)
  refine lv_iload_n hx hb dX7_run_12 rfl (lv_at hl 0 rfl) ?_
  refine lv_if_ge (tgt := 22) hx hb dX7_run_13 (by decide) (fun c_30 => ?_) (fun c_30 => ?_)
  · have hf := (zi_t c_30).symm.trans hf
    refine lv_aload_n hx hb dX7_run_22 rfl (lv_at hl 1 rfl) ?_
    refine lv_iload_n hx hb dX7_run_23 rfl (lv_at hl 2 rfl) ?_
    refine lv_iload_n hx hb dX7_run_24 rfl (lv_at hl 3 rfl) ?_
    obtain ⟨r_31, t_32, e_33, hf⟩ := zb_inv hf
    refine mw_ci (As := [.int x1, .int x2]) (rest := []) (n := 2) S (kc_X7_runMember l D cy A ad _ _ _ _ _ e_33) (wz_V (zin16 _ (List.mem_of_getElem? (i := 5) rfl)) (zin16 _ (List.mem_of_getElem? (i := 2) rfl)) (zin16 _ (List.mem_of_getElem? (i := 3) rfl)) (zin16 _ (List.mem_of_getElem? (i := 4) rfl)) (zin1 _ (List.mem_of_getElem? (i := 5) rfl))) rfl ⟨rfl, rfl⟩ (by decide +kernel) ⟨Nat.le_of_ble_eq_true rfl, Nat.le_of_ble_eq_true rfl⟩ rfl hl.1 rfl (Nat.le_of_ble_eq_true rfl) hK hw hS dX7_run_25 ⟨Nat.zero_le _, Nat.zero_le _⟩ (fun H locs hw hS => ?_)
    refine lv_istore (lv' := [(4, .int r_31), (3, .int r_27), (0, .ref (ad 0)), (1, .int x1), (2, .int x2)]) hx hb dX7_run_28 hl (by decide) rfl (fun ls hl => ?_)
    refine lv_iload hx hb dX7_run_30 (lv_at hl 0 rfl) ?_
    refine lv_if_ne (tgt := 37) hx hb dX7_run_32 (by decide) (fun c_34 => ?_) (fun c_34 => ?_)
    · have hf := (zi_f c_34).symm.trans hf
      refine lv_aload_n hx hb dX7_run_37 rfl (lv_at hl 2 rfl) ?_
      refine lv_iload_n hx hb dX7_run_38 rfl (lv_at hl 3 rfl) ?_
      refine lv_iload_n hx hb dX7_run_39 rfl (lv_at hl 4 rfl) ?_
      refine lv_iload hx hb dX7_run_40 (lv_at hl 0 rfl) ?_
      obtain ⟨⟨⟩, t_36, e_37, hf⟩ := zb_inv hf
      refine mw_cv (As := [.int x1, .int x2, .int r_31]) (rest := []) (n := 3) S (kc_X7_tell l D cy A ad _ _ _ _ _ e_37) (wz_V (zin15 _ (List.mem_of_getElem? (i := 0) rfl)) (zin14 _ (List.mem_of_getElem? (i := 21) rfl)) (zin14 _ (List.mem_of_getElem? (i := 22) rfl)) (zin14 _ (List.mem_of_getElem? (i := 23) rfl)) (zin1 _ (List.mem_of_getElem? (i := 5) rfl))) rfl ⟨rfl, rfl⟩ (by decide +kernel) ⟨Nat.le_of_ble_eq_true rfl, Nat.le_of_ble_eq_true rfl⟩ rfl hl.1 rfl (Nat.le_of_ble_eq_true rfl) hK hw hS dX7_run_42 ⟨Nat.zero_le _, Nat.zero_le _⟩ (fun H locs hw hS => ?_)
      refine lv_aload_n hx hb dX7_run_45 rfl (lv_at hl 2 rfl) ?_
      refine mr_get S h7 hK hw 15 (by decide) (wz_in (zin3 _ (List.mem_of_getElem? (i := 22) rfl))) rfl rfl dX7_run_46 ?_
      refine lv_iload_n hx hb dX7_run_49 rfl (lv_at hl 3 rfl) ?_
      obtain ⟨g_38, hf⟩ := zg_inv hf
      refine mr_iald S hK hw 15 rfl g_38 dX7_run_50 ?_
      refine lv_iconst (v := (1 : Int32)) hx hb dX7_run_51 (by decide) ?_
      refine lv_icmp_ne (tgt := 66) hx hb dX7_run_52 (by decide) (fun c_39 => ?_) (fun c_39 => ?_)
      · have hf := (zi_f c_39).symm.trans hf
        exact B66 _ _ _ _ _ _ hf hw hS (lv_sub hl [2, 3, 4, 1, 0] rfl)
      · have hf := (zi_t c_39).symm.trans hf
        refine lv_aload_n hx hb dX7_run_55 rfl (lv_at hl 2 rfl) ?_
        refine mr_get S h7 hK hw 23 (by decide) (wz_in (zin4 _ (List.mem_of_getElem? (i := 6) rfl))) rfl rfl dX7_run_56 ?_
        refine lv_iload_n hx hb dX7_run_59 rfl (lv_at hl 3 rfl) ?_
        refine lv_iload_n hx hb dX7_run_60 rfl (lv_at hl 4 rfl) ?_
        obtain ⟨r_40, t_41, e_42, hf⟩ := zb_inv hf
        refine mw_si (As := [.int x1, .int x2]) (rest := [.ref (ad 23)]) (n := 2) S (kc_X7_at l D cy A ad _ _ _ _ _ e_42) (wz_S (zin10 _ (List.mem_of_getElem? (i := 18) rfl)) (zin10 _ (List.mem_of_getElem? (i := 16) rfl)) (zin10 _ (List.mem_of_getElem? (i := 17) rfl)) (zin1 _ (List.mem_of_getElem? (i := 5) rfl))) rfl ⟨rfl, rfl⟩ (by decide +kernel) ⟨Nat.le_of_ble_eq_true rfl, Nat.le_of_ble_eq_true rfl⟩ rfl hl.1 rfl (Nat.le_of_ble_eq_true rfl) hK hw hS dX7_run_61 ⟨Nat.zero_le _, Nat.zero_le _⟩ (fun H locs hw hS => ?_)
        refine lv_iconst (v := (1 : Int32)) hx hb dX7_run_64 (by decide) ?_
        obtain ⟨g_43, hf⟩ := zg_inv hf
        refine mr_zast S hK hw hS 23 rfl g_43 rfl dX7_run_65 (fun H locs hw hS => ?_)
        exact B66 _ _ _ _ _ _ hf hw hS (lv_sub hl [2, 3, 4, 1, 0] rfl)
    · have hf := (zi_t c_34).symm.trans hf
      refine lv_iconst (v := (1 : Int32)) hx hb dX7_run_35 (by decide) ?_
      exact mw_reti S hr hf hw hS hlocks dX7_run_36
  · have hf := (zi_f c_30).symm.trans hf
    refine lv_aload_n hx hb dX7_run_16 rfl (lv_at hl 1 rfl) ?_
    refine lv_iload_n hx hb dX7_run_17 rfl (lv_at hl 0 rfl) ?_
    obtain ⟨r_44, t_45, e_46, hf⟩ := zb_inv hf
    refine mw_ci (As := [.int r_27]) (rest := []) (n := 1) S (kc_X7_refuse l D cy A ad _ _ _ _ e_46) (wz_V (zin5 _ (List.mem_of_getElem? (i := 16) rfl)) (zin5 _ (List.mem_of_getElem? (i := 13) rfl)) (zin5 _ (List.mem_of_getElem? (i := 14) rfl)) (zin5 _ (List.mem_of_getElem? (i := 15) rfl)) (zin1 _ (List.mem_of_getElem? (i := 5) rfl))) rfl ⟨rfl, rfl⟩ (by decide +kernel) ⟨Nat.le_of_ble_eq_true rfl, Nat.le_of_ble_eq_true rfl⟩ rfl hl.1 rfl (Nat.le_of_ble_eq_true rfl) hK hw hS dX7_run_18 ⟨Nat.zero_le _, Nat.zero_le _⟩ (fun H locs hw hS => ?_)
    exact mw_reti S hr hf hw hS hlocks dX7_run_21
noncomputable def k_X7_beside_b197 (x1 : Int32) (x2 : Int32) (τ : MS) (y0 : Int32) (x3 : Int32) (x4 : Int32) (x5 : Int32) (x6 : Int32) (x7 : Int32) (x8 : Int32) : Option (Int32 × MS) := some (y0, τ)
noncomputable def k_X7_beside_s113 (x1 : Int32) (x2 : Int32) (K : MS → Int32 → Int32 → Int32 → Int32 → Int32 → Int32 → Option (Int32 × MS)) (τ : MS) (x3 : Int32) (x4 : Int32) (x5 : Int32) (x6 : Int32) (x7 : Int32) (x8 : Int32) : Option (Int32 × MS) := zi ((8 : Int32) ≤ x8) (zg (vp_in x4 160) (zg (vp_in x4 160) (zi (x7 = 0) (k_X7_beside_b197 x1 x2 (mR (mR τ 24 x4.toNatClampNeg x5) 25 x4.toNatClampNeg x6) (1 : Int32) x3 x4 x5 x6 x7 x8) (k_X7_beside_b197 x1 x2 (mR (mR τ 24 x4.toNatClampNeg x5) 25 x4.toNatClampNeg x6) ((10 : Int32) + x7) x3 x4 x5 x6 x7 x8)))) (zg (vp_in x8 8) (zg (vp_in (((8 : Int32) * x1) + x8) 64) (zg (vp_in x8 8) (zg (vp_in (((8 : Int32) * x4) + x8) 1280) (K (mJ (mJ τ 13 (((8 : Int32) * x1) + x8).toNatClampNeg (mj τ 31 x8.toNatClampNeg)) 22 (((8 : Int32) * x4) + x8).toNatClampNeg (mj (mJ τ 13 (((8 : Int32) * x1) + x8).toNatClampNeg (mj τ 31 x8.toNatClampNeg)) 32 x8.toNatClampNeg)) x3 x4 x5 x6 x7 (x8 + (1 : Int32)))))))
noncomputable def k_X7_beside_l113 (x1 : Int32) (x2 : Int32) : Nat → MS → Int32 → Int32 → Int32 → Int32 → Int32 → Int32 → Option (Int32 × MS)
  | 0 => fun _ _ _ _ _ _ _ => none
  | n + 1 => fun τ x3 x4 x5 x6 x7 x8 => k_X7_beside_s113 x1 x2 (k_X7_beside_l113 x1 x2 n) τ x3 x4 x5 x6 x7 x8
theorem k_X7_beside_l113_s (x1 : Int32) (x2 : Int32) (n : Nat) (τ : MS) (x3 : Int32) (x4 : Int32) (x5 : Int32) (x6 : Int32) (x7 : Int32) (x8 : Int32) : k_X7_beside_l113 x1 x2 (n + 1) τ x3 x4 x5 x6 x7 x8 = k_X7_beside_s113 x1 x2 (k_X7_beside_l113 x1 x2 n) τ x3 x4 x5 x6 x7 x8 := rfl
theorem k_X7_beside_l113_z (x1 : Int32) (x2 : Int32) (τ : MS) (x3 : Int32) (x4 : Int32) (x5 : Int32) (x6 : Int32) (x7 : Int32) (x8 : Int32) : k_X7_beside_l113 x1 x2 0 τ x3 x4 x5 x6 x7 x8 = none := rfl
noncomputable def k_X7_beside_s32 (x1 : Int32) (x2 : Int32) (K : MS → Int32 → Int32 → Int32 → Option (Int32 × MS)) (τ : MS) (x3 : Int32) (x4 : Int32) (x5 : Int32) : Option (Int32 × MS) := zi ((8 : Int32) ≤ x5) (zg (vp_in x4 160) (zg (vp_in x4 160) (zb (k_X7_runMember τ x1 x2) (fun r_40 t_41 => k_X7_beside_l113 x1 x2 FU t_41 x3 x4 (mr τ 24 x4.toNatClampNeg) (mr τ 25 x4.toNatClampNeg) r_40 (0 : Int32))))) (zg (vp_in (((8 : Int32) * x1) + x5) 64) (zg (vp_in x5 8) (zg (vp_in (((8 : Int32) * x4) + x5) 1280) (zg (vp_in x5 8) (K (mJ (mJ τ 31 x5.toNatClampNeg (mj τ 13 (((8 : Int32) * x1) + x5).toNatClampNeg)) 32 x5.toNatClampNeg (mj (mJ τ 31 x5.toNatClampNeg (mj τ 13 (((8 : Int32) * x1) + x5).toNatClampNeg)) 22 (((8 : Int32) * x4) + x5).toNatClampNeg)) x3 x4 (x5 + (1 : Int32)))))))
noncomputable def k_X7_beside_l32 (x1 : Int32) (x2 : Int32) : Nat → MS → Int32 → Int32 → Int32 → Option (Int32 × MS)
  | 0 => fun _ _ _ _ => none
  | n + 1 => fun τ x3 x4 x5 => k_X7_beside_s32 x1 x2 (k_X7_beside_l32 x1 x2 n) τ x3 x4 x5
theorem k_X7_beside_l32_s (x1 : Int32) (x2 : Int32) (n : Nat) (τ : MS) (x3 : Int32) (x4 : Int32) (x5 : Int32) : k_X7_beside_l32 x1 x2 (n + 1) τ x3 x4 x5 = k_X7_beside_s32 x1 x2 (k_X7_beside_l32 x1 x2 n) τ x3 x4 x5 := rfl
theorem k_X7_beside_l32_z (x1 : Int32) (x2 : Int32) (τ : MS) (x3 : Int32) (x4 : Int32) (x5 : Int32) : k_X7_beside_l32 x1 x2 0 τ x3 x4 x5 = none := rfl
noncomputable def k_X7_beside (τ : MS) (x1 : Int32) (x2 : Int32) : Option (Int32 × MS) := zb (k_X7_barred (mI τ 0 (0 : Int32)) x1 x2) (fun r_47 t_48 => zi (0 ≤ r_47) (zb (k_X7_at t_48 x1 x2) (fun r_51 t_52 => k_X7_beside_l32 x1 x2 FU t_52 r_47 r_51 (0 : Int32))) (zb (k_X7_refuse t_48 r_47) (fun r_54 t_55 => some (r_54, t_55))))
set_option maxHeartbeats 4000000 in
set_option maxRecDepth 100000 in
theorem kc_X7_beside (l : Launch) (D : va_G) (cy : Nat → ClassId) (A : Nat → Prop) (ad : Nat → Nat) (τ τ' : MS) (x1 : Int32) (x2 : Int32) (r : Int32) (hf : k_X7_beside τ x1 x2 = some (r, τ')) : Met l yX7_beside (wz yX7_beside cX7_beside 9 (some .int)) ({ frames := 4, cells := 0, slots := 0, locals := 106 } : Room) (va_Pc [.ref (ad 0), .int x1, .int x2] (MWs D cy A ad τ)) (va_Qi (fun (r' : Int32) (u : MS) => r' = r ∧ u = τ') (MWp D cy A ad) A) 0 0 A := by
  refine Met.ofW (cc := cX7_beside) (maxL := 9) (ret := (some .int)) (by decide) rfl ?_
  intro p e s m args below meth c s₁ B hml hv
  obtain ⟨rfl, hw, hK⟩ := hv
  have hx := B.exec
  have hb := B.bytes
  have hr := B.returns
  have hts := atoms_spec (ws := (wz yX7_beside cX7_beside 9 (some .int))) B.pre
  have hown : s.vm.findClass RX7 = some m.cls := findClass_of_methodNamed B.named
  have hlocks := B.notSynchronized
  have S : CallFix p m c cX7_beside 9 s ([.ref (ad 0), .int x1, .int x2] : List Value).toArray (wz yX7_beside cX7_beside 9 (some .int)) RX7 := ⟨hx, hb, hml, hown, hts⟩
  have h7 : ∀ w ∈ wsX70, w ∈ (wz yX7_beside cX7_beside 9 (some .int)) := fun w h => wz_in (inlX7 w h)
  have hS : va_S A s.heap s.heap [] := va_S.rf
  have hl := lv_entry ([.ref (ad 0), .int x1, .int x2]) (n := 9) (Nat.le_of_ble_eq_true rfl)
  rw [lg_entry_eq]
  generalize (lg_sl ([.ref (ad 0), .int x1, .int x2]) ++ List.replicate (9 - (lg_sl ([.ref (ad 0), .int x1, .int x2])).length) Slot.unset).toArray = ls at hl ⊢
  have hl : lv_has ls 9 [(0, .ref (ad 0)), (1, .int x1), (2, .int x2)] := hl
  have B197 : ∀ (τ : MS) (y0 : Int32) (x3 : Int32) (x4 : Int32) (x5 : Int32) (x6 : Int32) (x7 : Int32) (x8 : Int32) (H : Heap) (locs : List Loc) (ls : Array Slot) (hf : k_X7_beside_b197 x1 x2 τ y0 x3 x4 x5 x6 x7 x8 = some (r, τ')) (hw : zw D A ad (mG cy ad τ) H) (hS : va_S A s.heap H locs) (hl : lv_has ls 9 [(0, .ref (ad 0)), (1, .int x1), (2, .int x2), (3, .int x3), (4, .int x4), (5, .int x5), (6, .int x6), (7, .int x7), (8, .int x8)]), W p l e (headSpec (wz yX7_beside cX7_beside 9 (some .int)) ({ frames := 4, cells := 0, slots := 0, locals := 106 } : Room)).room s m ([.ref (ad 0), .int x1, .int x2] : List Value).toArray below meth c H locs 0 0 (MQ below (va_Qi (fun (r' : Int32) (u : MS) => r' = r ∧ u = τ') (MWp D cy A ad) A) ([.ref (ad 0), .int x1, .int x2] : List Value).toArray s 0 0 A) (F0 m 197 ls [.int y0]) := by
    intro τ y0 x3 x4 x5 x6 x7 x8 H locs ls hf hw hS hl
    rw [k_X7_beside_b197] at hf
    exact mw_reti S hr hf hw hS hlocks dX7_beside_197
  have S113 : ∀ (K : MS → Int32 → Int32 → Int32 → Int32 → Int32 → Int32 → Option (Int32 × MS)) (_hKK : ∀ (τ : MS) (x3 : Int32) (x4 : Int32) (x5 : Int32) (x6 : Int32) (x7 : Int32) (x8 : Int32) (H : Heap) (locs : List Loc) (ls : Array Slot) (hf : K τ x3 x4 x5 x6 x7 x8 = some (r, τ')) (hw : zw D A ad (mG cy ad τ) H) (hS : va_S A s.heap H locs) (hl : lv_has ls 9 [(0, .ref (ad 0)), (1, .int x1), (2, .int x2), (3, .int x3), (4, .int x4), (5, .int x5), (6, .int x6), (7, .int x7), (8, .int x8)]), W p l e (headSpec (wz yX7_beside cX7_beside 9 (some .int)) ({ frames := 4, cells := 0, slots := 0, locals := 106 } : Room)).room s m ([.ref (ad 0), .int x1, .int x2] : List Value).toArray below meth c H locs 0 0 (MQ below (va_Qi (fun (r' : Int32) (u : MS) => r' = r ∧ u = τ') (MWp D cy A ad) A) ([.ref (ad 0), .int x1, .int x2] : List Value).toArray s 0 0 A) (F0 m 113 ls [])) (τ : MS) (x3 : Int32) (x4 : Int32) (x5 : Int32) (x6 : Int32) (x7 : Int32) (x8 : Int32) (H : Heap) (locs : List Loc) (ls : Array Slot) (hf : k_X7_beside_s113 x1 x2 K τ x3 x4 x5 x6 x7 x8 = some (r, τ')) (hw : zw D A ad (mG cy ad τ) H) (hS : va_S A s.heap H locs) (hl : lv_has ls 9 [(0, .ref (ad 0)), (1, .int x1), (2, .int x2), (3, .int x3), (4, .int x4), (5, .int x5), (6, .int x6), (7, .int x7), (8, .int x8)]), W p l e (headSpec (wz yX7_beside cX7_beside 9 (some .int)) ({ frames := 4, cells := 0, slots := 0, locals := 106 } : Room)).room s m ([.ref (ad 0), .int x1, .int x2] : List Value).toArray below meth c H locs 0 0 (MQ below (va_Qi (fun (r' : Int32) (u : MS) => r' = r ∧ u = τ') (MWp D cy A ad) A) ([.ref (ad 0), .int x1, .int x2] : List Value).toArray s 0 0 A) (F0 m 113 ls []) := by
    intro K hKK τ x3 x4 x5 x6 x7 x8 H locs ls hf hw hS hl
    rw [k_X7_beside_s113] at hf
    refine lv_iload hx hb dX7_beside_113 (lv_at hl 8 rfl) ?_
    refine lv_bipush (v := (8 : Int32)) hx hb dX7_beside_115 (by decide) ?_
    refine lv_icmp_ge (tgt := 165) hx hb dX7_beside_117 (by decide) (fun c_29 => ?_) (fun c_29 => ?_)
    · have hf := (zi_t c_29).symm.trans hf
      refine lv_aload_n hx hb dX7_beside_165 rfl (lv_at hl 0 rfl) ?_
      refine mr_get S h7 hK hw 24 (by decide) (wz_in (zin4 _ (List.mem_of_getElem? (i := 7) rfl))) rfl rfl dX7_beside_166 ?_
      refine lv_iload hx hb dX7_beside_169 (lv_at hl 4 rfl) ?_
      refine lv_iload hx hb dX7_beside_171 (lv_at hl 5 rfl) ?_
      obtain ⟨g_30, hf⟩ := zg_inv hf
      refine mr_iast S hK hw hS 24 rfl g_30 rfl dX7_beside_173 (fun H locs hw hS => ?_)
      refine lv_aload_n hx hb dX7_beside_174 rfl (lv_at hl 0 rfl) ?_
      refine mr_get S h7 hK hw 25 (by decide) (wz_in (zin4 _ (List.mem_of_getElem? (i := 8) rfl))) rfl rfl dX7_beside_175 ?_
      refine lv_iload hx hb dX7_beside_178 (lv_at hl 4 rfl) ?_
      refine lv_iload hx hb dX7_beside_180 (lv_at hl 6 rfl) ?_
      obtain ⟨g_31, hf⟩ := zg_inv hf
      refine mr_iast S hK hw hS 25 rfl g_31 rfl dX7_beside_182 (fun H locs hw hS => ?_)
      refine lv_iload hx hb dX7_beside_183 (lv_at hl 7 rfl) ?_
      refine lv_if_ne (tgt := 192) hx hb dX7_beside_185 (by decide) (fun c_32 => ?_) (fun c_32 => ?_)
      · have hf := (zi_f c_32).symm.trans hf
        refine lv_bipush (v := (10 : Int32)) hx hb dX7_beside_192 (by decide) ?_
        refine lv_iload hx hb dX7_beside_194 (lv_at hl 7 rfl) ?_
        refine lv_iadd hx hb dX7_beside_196 ?_
        exact B197 _ _ _ _ _ _ _ _ _ _ _ hf hw hS (lv_sub hl [0, 1, 2, 3, 4, 5, 6, 7, 8] rfl)
      · have hf := (zi_t c_32).symm.trans hf
        refine lv_iconst (v := (1 : Int32)) hx hb dX7_beside_188 (by decide) ?_
        refine lv_goto (tgt := 197) hx hb dX7_beside_189 (by decide) ?_
        exact B197 _ _ _ _ _ _ _ _ _ _ _ hf hw hS (lv_sub hl [0, 1, 2, 3, 4, 5, 6, 7, 8] rfl)
    · have hf := (zi_f c_29).symm.trans hf
      refine lv_aload_n hx hb dX7_beside_120 rfl (lv_at hl 0 rfl) ?_
      refine mr_get S h7 hK hw 13 (by decide) (wz_in (zin3 _ (List.mem_of_getElem? (i := 19) rfl))) rfl rfl dX7_beside_121 ?_
      refine lv_bipush (v := (8 : Int32)) hx hb dX7_beside_124 (by decide) ?_
      refine lv_iload_n hx hb dX7_beside_126 rfl (lv_at hl 1 rfl) ?_
      refine lv_imul hx hb dX7_beside_127 ?_
      refine lv_iload hx hb dX7_beside_128 (lv_at hl 8 rfl) ?_
      refine lv_iadd hx hb dX7_beside_130 ?_
      refine lv_aload_n hx hb dX7_beside_131 rfl (lv_at hl 0 rfl) ?_
      refine mr_get S h7 hK hw 31 (by decide) (wz_in (zin4 _ (List.mem_of_getElem? (i := 10) rfl))) rfl rfl dX7_beside_132 ?_
      refine lv_iload hx hb dX7_beside_135 (lv_at hl 8 rfl) ?_
      obtain ⟨g_33, hf⟩ := zg_inv hf
      refine mr_lald S hK hw 31 rfl g_33 dX7_beside_137 ?_
      obtain ⟨g_34, hf⟩ := zg_inv hf
      refine mr_last S hK hw hS 13 rfl g_34 rfl dX7_beside_138 (fun H locs hw hS => ?_)
      refine lv_aload_n hx hb dX7_beside_139 rfl (lv_at hl 0 rfl) ?_
      refine mr_get S h7 hK hw 22 (by decide) (wz_in (zin4 _ (List.mem_of_getElem? (i := 5) rfl))) rfl rfl dX7_beside_140 ?_
      refine lv_bipush (v := (8 : Int32)) hx hb dX7_beside_143 (by decide) ?_
      refine lv_iload hx hb dX7_beside_145 (lv_at hl 4 rfl) ?_
      refine lv_imul hx hb dX7_beside_147 ?_
      refine lv_iload hx hb dX7_beside_148 (lv_at hl 8 rfl) ?_
      refine lv_iadd hx hb dX7_beside_150 ?_
      refine lv_aload_n hx hb dX7_beside_151 rfl (lv_at hl 0 rfl) ?_
      refine mr_get S h7 hK hw 32 (by decide) (wz_in (zin4 _ (List.mem_of_getElem? (i := 11) rfl))) rfl rfl dX7_beside_152 ?_
      refine lv_iload hx hb dX7_beside_155 (lv_at hl 8 rfl) ?_
      obtain ⟨g_35, hf⟩ := zg_inv hf
      refine mr_lald S hK hw 32 rfl g_35 dX7_beside_157 ?_
      obtain ⟨g_36, hf⟩ := zg_inv hf
      refine mr_last S hK hw hS 22 rfl g_36 rfl dX7_beside_158 (fun H locs hw hS => ?_)
      refine lv_iinc (v := x8 + (1 : Int32)) (lv' := [(8, .int (x8 + (1 : Int32))), (0, .ref (ad 0)), (1, .int x1), (2, .int x2), (3, .int x3), (4, .int x4), (5, .int x5), (6, .int x6), (7, .int x7)]) hx hb dX7_beside_159 hl (k := 8) rfl rfl (by decide) rfl (fun ls hl => ?_)
      refine lv_goto (tgt := 113) hx hb dX7_beside_162 (by decide) ?_
      exact hKK _ _ _ _ _ _ _ _ _ _ hf hw hS (lv_sub hl [1, 2, 3, 4, 5, 6, 7, 8, 0] rfl)
  have L113 : ∀ (n : Nat) (τ : MS) (x3 : Int32) (x4 : Int32) (x5 : Int32) (x6 : Int32) (x7 : Int32) (x8 : Int32) (H : Heap) (locs : List Loc) (ls : Array Slot) (hf : k_X7_beside_l113 x1 x2 n τ x3 x4 x5 x6 x7 x8 = some (r, τ')) (hw : zw D A ad (mG cy ad τ) H) (hS : va_S A s.heap H locs) (hl : lv_has ls 9 [(0, .ref (ad 0)), (1, .int x1), (2, .int x2), (3, .int x3), (4, .int x4), (5, .int x5), (6, .int x6), (7, .int x7), (8, .int x8)]), W p l e (headSpec (wz yX7_beside cX7_beside 9 (some .int)) ({ frames := 4, cells := 0, slots := 0, locals := 106 } : Room)).room s m ([.ref (ad 0), .int x1, .int x2] : List Value).toArray below meth c H locs 0 0 (MQ below (va_Qi (fun (r' : Int32) (u : MS) => r' = r ∧ u = τ') (MWp D cy A ad) A) ([.ref (ad 0), .int x1, .int x2] : List Value).toArray s 0 0 A) (F0 m 113 ls []) := by
    intro n
    induction n with
    | zero =>
      intro τ x3 x4 x5 x6 x7 x8 H locs ls hf hw hS hl
      rw [k_X7_beside_l113_z] at hf
      cases hf
    | succ n ih =>
      intro τ x3 x4 x5 x6 x7 x8 H locs ls hf hw hS hl
      rw [k_X7_beside_l113_s] at hf
      exact S113 (k_X7_beside_l113 x1 x2 n) ih τ x3 x4 x5 x6 x7 x8 H locs ls hf hw hS hl
  have S32 : ∀ (K : MS → Int32 → Int32 → Int32 → Option (Int32 × MS)) (_hKK : ∀ (τ : MS) (x3 : Int32) (x4 : Int32) (x5 : Int32) (H : Heap) (locs : List Loc) (ls : Array Slot) (hf : K τ x3 x4 x5 = some (r, τ')) (hw : zw D A ad (mG cy ad τ) H) (hS : va_S A s.heap H locs) (hl : lv_has ls 9 [(0, .ref (ad 0)), (1, .int x1), (2, .int x2), (3, .int x3), (4, .int x4), (5, .int x5)]), W p l e (headSpec (wz yX7_beside cX7_beside 9 (some .int)) ({ frames := 4, cells := 0, slots := 0, locals := 106 } : Room)).room s m ([.ref (ad 0), .int x1, .int x2] : List Value).toArray below meth c H locs 0 0 (MQ below (va_Qi (fun (r' : Int32) (u : MS) => r' = r ∧ u = τ') (MWp D cy A ad) A) ([.ref (ad 0), .int x1, .int x2] : List Value).toArray s 0 0 A) (F0 m 32 ls [])) (τ : MS) (x3 : Int32) (x4 : Int32) (x5 : Int32) (H : Heap) (locs : List Loc) (ls : Array Slot) (hf : k_X7_beside_s32 x1 x2 K τ x3 x4 x5 = some (r, τ')) (hw : zw D A ad (mG cy ad τ) H) (hS : va_S A s.heap H locs) (hl : lv_has ls 9 [(0, .ref (ad 0)), (1, .int x1), (2, .int x2), (3, .int x3), (4, .int x4), (5, .int x5)]), W p l e (headSpec (wz yX7_beside cX7_beside 9 (some .int)) ({ frames := 4, cells := 0, slots := 0, locals := 106 } : Room)).room s m ([.ref (ad 0), .int x1, .int x2] : List Value).toArray below meth c H locs 0 0 (MQ below (va_Qi (fun (r' : Int32) (u : MS) => r' = r ∧ u = τ') (MWp D cy A ad) A) ([.ref (ad 0), .int x1, .int x2] : List Value).toArray s 0 0 A) (F0 m 32 ls []) := by
    intro K hKK τ x3 x4 x5 H locs ls hf hw hS hl
    rw [k_X7_beside_s32] at hf
    refine lv_iload hx hb dX7_beside_32 (lv_at hl 5 rfl) ?_
    refine lv_bipush (v := (8 : Int32)) hx hb dX7_beside_34 (by decide) ?_
    refine lv_icmp_ge (tgt := 84) hx hb dX7_beside_36 (by decide) (fun c_37 => ?_) (fun c_37 => ?_)
    · have hf := (zi_t c_37).symm.trans hf
      refine lv_aload_n hx hb dX7_beside_84 rfl (lv_at hl 0 rfl) ?_
      refine mr_get S h7 hK hw 24 (by decide) (wz_in (zin4 _ (List.mem_of_getElem? (i := 7) rfl))) rfl rfl dX7_beside_85 ?_
      refine lv_iload hx hb dX7_beside_88 (lv_at hl 4 rfl) ?_
      obtain ⟨g_38, hf⟩ := zg_inv hf
      refine mr_iald S hK hw 24 rfl g_38 dX7_beside_90 ?_
      refine lv_istore (lv' := [(5, .int (mr τ 24 x4.toNatClampNeg)), (0, .ref (ad 0)), (1, .int x1), (2, .int x2), (3, .int x3), (4, .int x4)]) hx hb dX7_beside_91 hl (by decide) rfl (fun ls hl => ?_)
      refine lv_aload_n hx hb dX7_beside_93 rfl (lv_at hl 1 rfl) ?_
      refine mr_get S h7 hK hw 25 (by decide) (wz_in (zin4 _ (List.mem_of_getElem? (i := 8) rfl))) rfl rfl dX7_beside_94 ?_
      refine lv_iload hx hb dX7_beside_97 (lv_at hl 5 rfl) ?_
      obtain ⟨g_39, hf⟩ := zg_inv hf
      refine mr_iald S hK hw 25 rfl g_39 dX7_beside_99 ?_
      refine lv_istore (lv' := [(6, .int (mr τ 25 x4.toNatClampNeg)), (5, .int (mr τ 24 x4.toNatClampNeg)), (0, .ref (ad 0)), (1, .int x1), (2, .int x2), (3, .int x3), (4, .int x4)]) hx hb dX7_beside_100 hl (by decide) rfl (fun ls hl => ?_)
      refine lv_aload_n hx hb dX7_beside_102 rfl (lv_at hl 2 rfl) ?_
      refine lv_iload_n hx hb dX7_beside_103 rfl (lv_at hl 3 rfl) ?_
      refine lv_iload_n hx hb dX7_beside_104 rfl (lv_at hl 4 rfl) ?_
      obtain ⟨r_40, t_41, e_42, hf⟩ := zb_inv hf
      refine mw_ci (As := [.int x1, .int x2]) (rest := []) (n := 2) S (kc_X7_runMember l D cy A ad _ _ _ _ _ e_42) (wz_V (zin16 _ (List.mem_of_getElem? (i := 5) rfl)) (zin16 _ (List.mem_of_getElem? (i := 2) rfl)) (zin16 _ (List.mem_of_getElem? (i := 3) rfl)) (zin16 _ (List.mem_of_getElem? (i := 4) rfl)) (zin1 _ (List.mem_of_getElem? (i := 5) rfl))) rfl ⟨rfl, rfl⟩ (by decide +kernel) ⟨Nat.le_of_ble_eq_true rfl, Nat.le_of_ble_eq_true rfl⟩ rfl hl.1 rfl (Nat.le_of_ble_eq_true rfl) hK hw hS dX7_beside_105 ⟨Nat.zero_le _, Nat.zero_le _⟩ (fun H locs hw hS => ?_)
      refine lv_istore (lv' := [(7, .int r_40), (6, .int (mr τ 25 x4.toNatClampNeg)), (5, .int (mr τ 24 x4.toNatClampNeg)), (0, .ref (ad 0)), (1, .int x1), (2, .int x2), (3, .int x3), (4, .int x4)]) hx hb dX7_beside_108 hl (by decide) rfl (fun ls hl => ?_)
      refine lv_iconst (v := (0 : Int32)) hx hb dX7_beside_110 (by decide) ?_
      refine lv_istore (lv' := [(8, .int (0 : Int32)), (7, .int r_40), (6, .int (mr τ 25 x4.toNatClampNeg)), (5, .int (mr τ 24 x4.toNatClampNeg)), (0, .ref (ad 0)), (1, .int x1), (2, .int x2), (3, .int x3), (4, .int x4)]) hx hb dX7_beside_111 hl (by decide) rfl (fun ls hl => ?_)
      exact L113 FU _ _ _ _ _ _ _ _ _ _ hf hw hS (lv_sub hl [4, 5, 6, 7, 8, 3, 2, 1, 0] rfl)
    · have hf := (zi_f c_37).symm.trans hf
      refine lv_aload_n hx hb dX7_beside_39 rfl (lv_at hl 0 rfl) ?_
      refine mr_get S h7 hK hw 31 (by decide) (wz_in (zin4 _ (List.mem_of_getElem? (i := 10) rfl))) rfl rfl dX7_beside_40 ?_
      refine lv_iload hx hb dX7_beside_43 (lv_at hl 5 rfl) ?_
      refine lv_aload_n hx hb dX7_beside_45 rfl (lv_at hl 0 rfl) ?_
      refine mr_get S h7 hK hw 13 (by decide) (wz_in (zin3 _ (List.mem_of_getElem? (i := 19) rfl))) rfl rfl dX7_beside_46 ?_
      refine lv_bipush (v := (8 : Int32)) hx hb dX7_beside_49 (by decide) ?_
      refine lv_iload_n hx hb dX7_beside_51 rfl (lv_at hl 1 rfl) ?_
      refine lv_imul hx hb dX7_beside_52 ?_
      refine lv_iload hx hb dX7_beside_53 (lv_at hl 5 rfl) ?_
      refine lv_iadd hx hb dX7_beside_55 ?_
      obtain ⟨g_43, hf⟩ := zg_inv hf
      refine mr_lald S hK hw 13 rfl g_43 dX7_beside_56 ?_
      obtain ⟨g_44, hf⟩ := zg_inv hf
      refine mr_last S hK hw hS 31 rfl g_44 rfl dX7_beside_57 (fun H locs hw hS => ?_)
      refine lv_aload_n hx hb dX7_beside_58 rfl (lv_at hl 0 rfl) ?_
      refine mr_get S h7 hK hw 32 (by decide) (wz_in (zin4 _ (List.mem_of_getElem? (i := 11) rfl))) rfl rfl dX7_beside_59 ?_
      refine lv_iload hx hb dX7_beside_62 (lv_at hl 5 rfl) ?_
      refine lv_aload_n hx hb dX7_beside_64 rfl (lv_at hl 0 rfl) ?_
      refine mr_get S h7 hK hw 22 (by decide) (wz_in (zin4 _ (List.mem_of_getElem? (i := 5) rfl))) rfl rfl dX7_beside_65 ?_
      refine lv_bipush (v := (8 : Int32)) hx hb dX7_beside_68 (by decide) ?_
      refine lv_iload hx hb dX7_beside_70 (lv_at hl 4 rfl) ?_
      refine lv_imul hx hb dX7_beside_72 ?_
      refine lv_iload hx hb dX7_beside_73 (lv_at hl 5 rfl) ?_
      refine lv_iadd hx hb dX7_beside_75 ?_
      obtain ⟨g_45, hf⟩ := zg_inv hf
      refine mr_lald S hK hw 22 rfl g_45 dX7_beside_76 ?_
      obtain ⟨g_46, hf⟩ := zg_inv hf
      refine mr_last S hK hw hS 32 rfl g_46 rfl dX7_beside_77 (fun H locs hw hS => ?_)
      refine lv_iinc (v := x5 + (1 : Int32)) (lv' := [(5, .int (x5 + (1 : Int32))), (0, .ref (ad 0)), (1, .int x1), (2, .int x2), (3, .int x3), (4, .int x4)]) hx hb dX7_beside_78 hl (k := 5) rfl rfl (by decide) rfl (fun ls hl => ?_)
      refine lv_goto (tgt := 32) hx hb dX7_beside_81 (by decide) ?_
      exact hKK _ _ _ _ _ _ _ hf hw hS (lv_sub hl [1, 2, 3, 4, 5, 0] rfl)
  have L32 : ∀ (n : Nat) (τ : MS) (x3 : Int32) (x4 : Int32) (x5 : Int32) (H : Heap) (locs : List Loc) (ls : Array Slot) (hf : k_X7_beside_l32 x1 x2 n τ x3 x4 x5 = some (r, τ')) (hw : zw D A ad (mG cy ad τ) H) (hS : va_S A s.heap H locs) (hl : lv_has ls 9 [(0, .ref (ad 0)), (1, .int x1), (2, .int x2), (3, .int x3), (4, .int x4), (5, .int x5)]), W p l e (headSpec (wz yX7_beside cX7_beside 9 (some .int)) ({ frames := 4, cells := 0, slots := 0, locals := 106 } : Room)).room s m ([.ref (ad 0), .int x1, .int x2] : List Value).toArray below meth c H locs 0 0 (MQ below (va_Qi (fun (r' : Int32) (u : MS) => r' = r ∧ u = τ') (MWp D cy A ad) A) ([.ref (ad 0), .int x1, .int x2] : List Value).toArray s 0 0 A) (F0 m 32 ls []) := by
    intro n
    induction n with
    | zero =>
      intro τ x3 x4 x5 H locs ls hf hw hS hl
      rw [k_X7_beside_l32_z] at hf
      cases hf
    | succ n ih =>
      intro τ x3 x4 x5 H locs ls hf hw hS hl
      rw [k_X7_beside_l32_s] at hf
      exact S32 (k_X7_beside_l32 x1 x2 n) ih τ x3 x4 x5 H locs ls hf hw hS hl
  rw [k_X7_beside] at hf
  refine lv_aload_n hx hb dX7_beside_0 rfl (lv_at hl 0 rfl) ?_
  refine lv_iconst (v := (0 : Int32)) hx hb dX7_beside_1 (by decide) ?_
  refine mr_put S h7 hK hw hS 0 (by decide) (wz_in (zin5 _ (List.mem_of_getElem? (i := 8) rfl))) rfl rfl rfl (mput_0 _ _ _ _) dX7_beside_2 (fun H locs hw hS => ?_)
  refine lv_aload_n hx hb dX7_beside_5 rfl (lv_at hl 0 rfl) ?_
  refine lv_iload_n hx hb dX7_beside_6 rfl (lv_at hl 1 rfl) ?_
  refine lv_iload_n hx hb dX7_beside_7 rfl (lv_at hl 2 rfl) ?_
  obtain ⟨r_47, t_48, e_49, hf⟩ := zb_inv hf
  refine mw_ci (As := [.int x1, .int x2]) (rest := []) (n := 2) S (kc_X7_barred l D cy A ad _ _ _ _ _ e_49) (wz_V (zin16 _ (List.mem_of_getElem? (i := 1) rfl)) (zin15 _ (List.mem_of_getElem? (i := 22) rfl)) (zin15 _ (List.mem_of_getElem? (i := 23) rfl)) (zin16 _ (List.mem_of_getElem? (i := 0) rfl)) (zin1 _ (List.mem_of_getElem? (i := 5) rfl))) rfl ⟨rfl, rfl⟩ (by decide +kernel) ⟨Nat.le_of_ble_eq_true rfl, Nat.le_of_ble_eq_true rfl⟩ rfl hl.1 rfl (Nat.le_of_ble_eq_true rfl) hK hw hS dX7_beside_8 ⟨Nat.zero_le _, Nat.zero_le _⟩ (fun H locs hw hS => ?_)
  refine lv_istore_n (lv' := [(3, .int r_47), (0, .ref (ad 0)), (1, .int x1), (2, .int x2)]) hx hb dX7_beside_11 rfl hl (by decide) rfl (fun ls hl => ?_)
  refine lv_iload_n hx hb dX7_beside_12 rfl (lv_at hl 0 rfl) ?_
  refine lv_if_ge (tgt := 22) hx hb dX7_beside_13 (by decide) (fun c_50 => ?_) (fun c_50 => ?_)
  · have hf := (zi_t c_50).symm.trans hf
    refine lv_iload_n hx hb dX7_beside_22 rfl (lv_at hl 2 rfl) ?_
    refine lv_iload_n hx hb dX7_beside_23 rfl (lv_at hl 3 rfl) ?_
    obtain ⟨r_51, t_52, e_53, hf⟩ := zb_inv hf
    refine mw_si (As := [.int x1, .int x2]) (rest := []) (n := 2) S (kc_X7_at l D cy A ad _ _ _ _ _ e_53) (wz_S (zin10 _ (List.mem_of_getElem? (i := 18) rfl)) (zin10 _ (List.mem_of_getElem? (i := 16) rfl)) (zin10 _ (List.mem_of_getElem? (i := 17) rfl)) (zin1 _ (List.mem_of_getElem? (i := 5) rfl))) rfl ⟨rfl, rfl⟩ (by decide +kernel) ⟨Nat.le_of_ble_eq_true rfl, Nat.le_of_ble_eq_true rfl⟩ rfl hl.1 rfl (Nat.le_of_ble_eq_true rfl) hK hw hS dX7_beside_24 ⟨Nat.zero_le _, Nat.zero_le _⟩ (fun H locs hw hS => ?_)
    refine lv_istore (lv' := [(4, .int r_51), (3, .int r_47), (0, .ref (ad 0)), (1, .int x1), (2, .int x2)]) hx hb dX7_beside_27 hl (by decide) rfl (fun ls hl => ?_)
    refine lv_iconst (v := (0 : Int32)) hx hb dX7_beside_29 (by decide) ?_
    refine lv_istore (lv' := [(5, .int (0 : Int32)), (4, .int r_51), (3, .int r_47), (0, .ref (ad 0)), (1, .int x1), (2, .int x2)]) hx hb dX7_beside_30 hl (by decide) rfl (fun ls hl => ?_)
    exact L32 FU _ _ _ _ _ _ _ hf hw hS (lv_sub hl [3, 4, 5, 2, 1, 0] rfl)
  · have hf := (zi_f c_50).symm.trans hf
    refine lv_aload_n hx hb dX7_beside_16 rfl (lv_at hl 1 rfl) ?_
    refine lv_iload_n hx hb dX7_beside_17 rfl (lv_at hl 0 rfl) ?_
    obtain ⟨r_54, t_55, e_56, hf⟩ := zb_inv hf
    refine mw_ci (As := [.int r_47]) (rest := []) (n := 1) S (kc_X7_refuse l D cy A ad _ _ _ _ e_56) (wz_V (zin5 _ (List.mem_of_getElem? (i := 16) rfl)) (zin5 _ (List.mem_of_getElem? (i := 13) rfl)) (zin5 _ (List.mem_of_getElem? (i := 14) rfl)) (zin5 _ (List.mem_of_getElem? (i := 15) rfl)) (zin1 _ (List.mem_of_getElem? (i := 5) rfl))) rfl ⟨rfl, rfl⟩ (by decide +kernel) ⟨Nat.le_of_ble_eq_true rfl, Nat.le_of_ble_eq_true rfl⟩ rfl hl.1 rfl (Nat.le_of_ble_eq_true rfl) hK hw hS dX7_beside_18 ⟨Nat.zero_le _, Nat.zero_le _⟩ (fun H locs hw hS => ?_)
    exact mw_reti S hr hf hw hS hlocks dX7_beside_21
noncomputable def k_X7_port_b38 (x1 : Int32) (x2 : Int32) (τ : MS) (y0 : Int64) : Option (Int64 × MS) := some (y0, τ)
noncomputable def k_X7_port_b37 (x1 : Int32) (x2 : Int32) (τ : MS) : Option (Int64 × MS) := k_X7_port_b38 x1 x2 τ (0 : Int64)
noncomputable def k_X7_port (τ : MS) (x1 : Int32) (x2 : Int32) : Option (Int64 × MS) := zb (k_X7_isController (mI τ 0 (0 : Int32)) x1) (fun r_10 t_11 => zi (r_10 = 0) (k_X7_port_b37 x1 x2 t_11) (zb (k_X7_in t_11 x2 (0 : Int32) (7 : Int32)) (fun r_14 t_15 => zi (r_14 = 0) (k_X7_port_b37 x1 x2 t_15) (zg (vp_in (((8 : Int32) * x1) + x2) 64) (k_X7_port_b38 x1 x2 t_15 (mj t_15 13 (((8 : Int32) * x1) + x2).toNatClampNeg))))))
set_option maxHeartbeats 4000000 in
set_option maxRecDepth 100000 in
theorem kc_X7_port (l : Launch) (D : va_G) (cy : Nat → ClassId) (A : Nat → Prop) (ad : Nat → Nat) (τ τ' : MS) (x1 : Int32) (x2 : Int32) (r : Int64) (hf : k_X7_port τ x1 x2 = some (r, τ')) : Met l yX7_port (wz yX7_port cX7_port 3 (some .long)) ({ frames := 2, cells := 0, slots := 0, locals := 43 } : Room) (va_Pc [.ref (ad 0), .int x1, .int x2] (MWs D cy A ad τ)) (va_Ql (fun (r' : Int64) (u : MS) => r' = r ∧ u = τ') (MWp D cy A ad) A) 0 0 A := by
  refine Met.ofW (cc := cX7_port) (maxL := 3) (ret := (some .long)) (by decide) rfl ?_
  intro p e s m args below meth c s₁ B hml hv
  obtain ⟨rfl, hw, hK⟩ := hv
  have hx := B.exec
  have hb := B.bytes
  have hr := B.returns
  have hts := atoms_spec (ws := (wz yX7_port cX7_port 3 (some .long))) B.pre
  have hown : s.vm.findClass RX7 = some m.cls := findClass_of_methodNamed B.named
  have hlocks := B.notSynchronized
  have S : CallFix p m c cX7_port 3 s ([.ref (ad 0), .int x1, .int x2] : List Value).toArray (wz yX7_port cX7_port 3 (some .long)) RX7 := ⟨hx, hb, hml, hown, hts⟩
  have h7 : ∀ w ∈ wsX70, w ∈ (wz yX7_port cX7_port 3 (some .long)) := fun w h => wz_in (inlX7 w h)
  have hS : va_S A s.heap s.heap [] := va_S.rf
  have hl := lv_entry ([.ref (ad 0), .int x1, .int x2]) (n := 3) (Nat.le_of_ble_eq_true rfl)
  rw [lg_entry_eq]
  generalize (lg_sl ([.ref (ad 0), .int x1, .int x2]) ++ List.replicate (3 - (lg_sl ([.ref (ad 0), .int x1, .int x2])).length) Slot.unset).toArray = ls at hl ⊢
  have hl : lv_has ls 3 [(0, .ref (ad 0)), (1, .int x1), (2, .int x2)] := hl
  have B38 : ∀ (τ : MS) (y0 : Int64) (H : Heap) (locs : List Loc) (ls : Array Slot) (hf : k_X7_port_b38 x1 x2 τ y0 = some (r, τ')) (hw : zw D A ad (mG cy ad τ) H) (hS : va_S A s.heap H locs) (hl : lv_has ls 3 [(0, .ref (ad 0)), (1, .int x1), (2, .int x2)]), W p l e (headSpec (wz yX7_port cX7_port 3 (some .long)) ({ frames := 2, cells := 0, slots := 0, locals := 43 } : Room)).room s m ([.ref (ad 0), .int x1, .int x2] : List Value).toArray below meth c H locs 0 0 (MQ below (va_Ql (fun (r' : Int64) (u : MS) => r' = r ∧ u = τ') (MWp D cy A ad) A) ([.ref (ad 0), .int x1, .int x2] : List Value).toArray s 0 0 A) (F0 m 38 ls [.long y0]) := by
    intro τ y0 H locs ls hf hw hS hl
    rw [k_X7_port_b38] at hf
    exact mw_retl S hr hf hw hS hlocks dX7_port_38
  have B37 : ∀ (τ : MS) (H : Heap) (locs : List Loc) (ls : Array Slot) (hf : k_X7_port_b37 x1 x2 τ = some (r, τ')) (hw : zw D A ad (mG cy ad τ) H) (hS : va_S A s.heap H locs) (hl : lv_has ls 3 [(0, .ref (ad 0)), (1, .int x1), (2, .int x2)]), W p l e (headSpec (wz yX7_port cX7_port 3 (some .long)) ({ frames := 2, cells := 0, slots := 0, locals := 43 } : Room)).room s m ([.ref (ad 0), .int x1, .int x2] : List Value).toArray below meth c H locs 0 0 (MQ below (va_Ql (fun (r' : Int64) (u : MS) => r' = r ∧ u = τ') (MWp D cy A ad) A) ([.ref (ad 0), .int x1, .int x2] : List Value).toArray s 0 0 A) (F0 m 37 ls []) := by
    intro τ H locs ls hf hw hS hl
    rw [k_X7_port_b37] at hf
    refine lv_lconst (v := (0 : Int64)) hx hb dX7_port_37 (by decide) ?_
    exact B38 _ _ _ _ _ hf hw hS (lv_sub hl [0, 1, 2] rfl)
  rw [k_X7_port] at hf
  refine lv_aload_n hx hb dX7_port_0 rfl (lv_at hl 0 rfl) ?_
  refine lv_iconst (v := (0 : Int32)) hx hb dX7_port_1 (by decide) ?_
  refine mr_put S h7 hK hw hS 0 (by decide) (wz_in (zin5 _ (List.mem_of_getElem? (i := 8) rfl))) rfl rfl rfl (mput_0 _ _ _ _) dX7_port_2 (fun H locs hw hS => ?_)
  refine lv_aload_n hx hb dX7_port_5 rfl (lv_at hl 0 rfl) ?_
  refine lv_iload_n hx hb dX7_port_6 rfl (lv_at hl 1 rfl) ?_
  obtain ⟨r_10, t_11, e_12, hf⟩ := zb_inv hf
  refine mw_ci (As := [.int x1]) (rest := []) (n := 1) S (kc_X7_isController l D cy A ad _ _ _ _ e_12) (wz_V (zin10 _ (List.mem_of_getElem? (i := 11) rfl)) (zin10 _ (List.mem_of_getElem? (i := 8) rfl)) (zin10 _ (List.mem_of_getElem? (i := 9) rfl)) (zin10 _ (List.mem_of_getElem? (i := 10) rfl)) (zin1 _ (List.mem_of_getElem? (i := 5) rfl))) rfl ⟨rfl, rfl⟩ (by decide +kernel) ⟨Nat.le_of_ble_eq_true rfl, Nat.le_of_ble_eq_true rfl⟩ rfl hl.1 rfl (Nat.le_of_ble_eq_true rfl) hK hw hS dX7_port_7 ⟨Nat.zero_le _, Nat.zero_le _⟩ (fun H locs hw hS => ?_)
  refine lv_if_eq (tgt := 37) hx hb dX7_port_10 (by decide) (fun c_13 => ?_) (fun c_13 => ?_)
  · have hf := (zi_t c_13).symm.trans hf
    exact B37 _ _ _ _ hf hw hS (lv_sub hl [0, 1, 2] rfl)
  · have hf := (zi_f c_13).symm.trans hf
    refine lv_iload_n hx hb dX7_port_13 rfl (lv_at hl 2 rfl) ?_
    refine lv_iconst (v := (0 : Int32)) hx hb dX7_port_14 (by decide) ?_
    refine lv_bipush (v := (7 : Int32)) hx hb dX7_port_15 (by decide) ?_
    obtain ⟨r_14, t_15, e_16, hf⟩ := zb_inv hf
    refine mw_si (As := [.int x2, .int (0 : Int32), .int (7 : Int32)]) (rest := []) (n := 3) S (kc_X7_in l D cy A ad _ _ _ _ _ _ e_16) (wz_S (zin5 _ (List.mem_of_getElem? (i := 12) rfl)) (zin5 _ (List.mem_of_getElem? (i := 10) rfl)) (zin5 _ (List.mem_of_getElem? (i := 11) rfl)) (zin1 _ (List.mem_of_getElem? (i := 5) rfl))) rfl ⟨rfl, rfl⟩ (by decide +kernel) ⟨Nat.le_of_ble_eq_true rfl, Nat.le_of_ble_eq_true rfl⟩ rfl hl.1 rfl (Nat.le_of_ble_eq_true rfl) hK hw hS dX7_port_17 ⟨Nat.zero_le _, Nat.zero_le _⟩ (fun H locs hw hS => ?_)
    refine lv_if_eq (tgt := 37) hx hb dX7_port_20 (by decide) (fun c_17 => ?_) (fun c_17 => ?_)
    · have hf := (zi_t c_17).symm.trans hf
      exact B37 _ _ _ _ hf hw hS (lv_sub hl [0, 1, 2] rfl)
    · have hf := (zi_f c_17).symm.trans hf
      refine lv_aload_n hx hb dX7_port_23 rfl (lv_at hl 0 rfl) ?_
      refine mr_get S h7 hK hw 13 (by decide) (wz_in (zin3 _ (List.mem_of_getElem? (i := 19) rfl))) rfl rfl dX7_port_24 ?_
      refine lv_bipush (v := (8 : Int32)) hx hb dX7_port_27 (by decide) ?_
      refine lv_iload_n hx hb dX7_port_29 rfl (lv_at hl 1 rfl) ?_
      refine lv_imul hx hb dX7_port_30 ?_
      refine lv_iload_n hx hb dX7_port_31 rfl (lv_at hl 2 rfl) ?_
      refine lv_iadd hx hb dX7_port_32 ?_
      obtain ⟨g_18, hf⟩ := zg_inv hf
      refine mr_lald S hK hw 13 rfl g_18 dX7_port_33 ?_
      refine lv_goto (tgt := 38) hx hb dX7_port_34 (by decide) ?_
      exact B38 _ _ _ _ _ hf hw hS (lv_sub hl [0, 1, 2] rfl)
noncomputable def k_X7_set_b23 (x1 : Int32) (x2 : Int32) (x3 : Int64) (τ : MS) : Option (Int32 × MS) := zb (k_X7_refuse τ (-1 : Int32)) (fun r_13 t_14 => some (r_13, t_14))
noncomputable def k_X7_set (τ : MS) (x1 : Int32) (x2 : Int32) (x3 : Int64) : Option (Int32 × MS) := zb (k_X7_isController (mI τ 0 (0 : Int32)) x1) (fun r_16 t_17 => zi (r_16 = 0) (k_X7_set_b23 x1 x2 x3 t_17) (zb (k_X7_in t_17 x2 (0 : Int32) (7 : Int32)) (fun r_20 t_21 => zi (r_20 = 0) (k_X7_set_b23 x1 x2 x3 t_21) (zg (vp_in (((8 : Int32) * x1) + x2) 64) (some ((1 : Int32), mJ t_21 13 (((8 : Int32) * x1) + x2).toNatClampNeg x3))))))
set_option maxHeartbeats 4000000 in
set_option maxRecDepth 100000 in
theorem kc_X7_set (l : Launch) (D : va_G) (cy : Nat → ClassId) (A : Nat → Prop) (ad : Nat → Nat) (τ τ' : MS) (x1 : Int32) (x2 : Int32) (x3 : Int64) (r : Int32) (hf : k_X7_set τ x1 x2 x3 = some (r, τ')) : Met l yX7_set (wz yX7_set cX7_set 5 (some .int)) ({ frames := 2, cells := 0, slots := 0, locals := 43 } : Room) (va_Pc [.ref (ad 0), .int x1, .int x2, .long x3] (MWs D cy A ad τ)) (va_Qi (fun (r' : Int32) (u : MS) => r' = r ∧ u = τ') (MWp D cy A ad) A) 0 0 A := by
  refine Met.ofW (cc := cX7_set) (maxL := 5) (ret := (some .int)) (by decide) rfl ?_
  intro p e s m args below meth c s₁ B hml hv
  obtain ⟨rfl, hw, hK⟩ := hv
  have hx := B.exec
  have hb := B.bytes
  have hr := B.returns
  have hts := atoms_spec (ws := (wz yX7_set cX7_set 5 (some .int))) B.pre
  have hown : s.vm.findClass RX7 = some m.cls := findClass_of_methodNamed B.named
  have hlocks := B.notSynchronized
  have S : CallFix p m c cX7_set 5 s ([.ref (ad 0), .int x1, .int x2, .long x3] : List Value).toArray (wz yX7_set cX7_set 5 (some .int)) RX7 := ⟨hx, hb, hml, hown, hts⟩
  have h7 : ∀ w ∈ wsX70, w ∈ (wz yX7_set cX7_set 5 (some .int)) := fun w h => wz_in (inlX7 w h)
  have hS : va_S A s.heap s.heap [] := va_S.rf
  have hl := lv_entry ([.ref (ad 0), .int x1, .int x2, .long x3]) (n := 5) (Nat.le_of_ble_eq_true rfl)
  rw [lg_entry_eq]
  generalize (lg_sl ([.ref (ad 0), .int x1, .int x2, .long x3]) ++ List.replicate (5 - (lg_sl ([.ref (ad 0), .int x1, .int x2, .long x3])).length) Slot.unset).toArray = ls at hl ⊢
  have hl : lv_has ls 5 [(0, .ref (ad 0)), (1, .int x1), (2, .int x2), (3, .long x3)] := hl
  have B23 : ∀ (τ : MS) (H : Heap) (locs : List Loc) (ls : Array Slot) (hf : k_X7_set_b23 x1 x2 x3 τ = some (r, τ')) (hw : zw D A ad (mG cy ad τ) H) (hS : va_S A s.heap H locs) (hl : lv_has ls 5 [(0, .ref (ad 0)), (1, .int x1), (2, .int x2), (3, .long x3)]), W p l e (headSpec (wz yX7_set cX7_set 5 (some .int)) ({ frames := 2, cells := 0, slots := 0, locals := 43 } : Room)).room s m ([.ref (ad 0), .int x1, .int x2, .long x3] : List Value).toArray below meth c H locs 0 0 (MQ below (va_Qi (fun (r' : Int32) (u : MS) => r' = r ∧ u = τ') (MWp D cy A ad) A) ([.ref (ad 0), .int x1, .int x2, .long x3] : List Value).toArray s 0 0 A) (F0 m 23 ls []) := by
    intro τ H locs ls hf hw hS hl
    rw [k_X7_set_b23] at hf
    refine lv_aload_n hx hb dX7_set_23 rfl (lv_at hl 0 rfl) ?_
    refine lv_iconst (v := (-1 : Int32)) hx hb dX7_set_24 (by decide) ?_
    obtain ⟨r_13, t_14, e_15, hf⟩ := zb_inv hf
    refine mw_ci (As := [.int (-1 : Int32)]) (rest := []) (n := 1) S (kc_X7_refuse l D cy A ad _ _ _ _ e_15) (wz_V (zin5 _ (List.mem_of_getElem? (i := 16) rfl)) (zin5 _ (List.mem_of_getElem? (i := 13) rfl)) (zin5 _ (List.mem_of_getElem? (i := 14) rfl)) (zin5 _ (List.mem_of_getElem? (i := 15) rfl)) (zin1 _ (List.mem_of_getElem? (i := 5) rfl))) rfl ⟨rfl, rfl⟩ (by decide +kernel) ⟨Nat.le_of_ble_eq_true rfl, Nat.le_of_ble_eq_true rfl⟩ rfl hl.1 rfl (Nat.le_of_ble_eq_true rfl) hK hw hS dX7_set_25 ⟨Nat.zero_le _, Nat.zero_le _⟩ (fun H locs hw hS => ?_)
    exact mw_reti S hr hf hw hS hlocks dX7_set_28
  rw [k_X7_set] at hf
  refine lv_aload_n hx hb dX7_set_0 rfl (lv_at hl 0 rfl) ?_
  refine lv_iconst (v := (0 : Int32)) hx hb dX7_set_1 (by decide) ?_
  refine mr_put S h7 hK hw hS 0 (by decide) (wz_in (zin5 _ (List.mem_of_getElem? (i := 8) rfl))) rfl rfl rfl (mput_0 _ _ _ _) dX7_set_2 (fun H locs hw hS => ?_)
  refine lv_aload_n hx hb dX7_set_5 rfl (lv_at hl 0 rfl) ?_
  refine lv_iload_n hx hb dX7_set_6 rfl (lv_at hl 1 rfl) ?_
  obtain ⟨r_16, t_17, e_18, hf⟩ := zb_inv hf
  refine mw_ci (As := [.int x1]) (rest := []) (n := 1) S (kc_X7_isController l D cy A ad _ _ _ _ e_18) (wz_V (zin10 _ (List.mem_of_getElem? (i := 11) rfl)) (zin10 _ (List.mem_of_getElem? (i := 8) rfl)) (zin10 _ (List.mem_of_getElem? (i := 9) rfl)) (zin10 _ (List.mem_of_getElem? (i := 10) rfl)) (zin1 _ (List.mem_of_getElem? (i := 5) rfl))) rfl ⟨rfl, rfl⟩ (by decide +kernel) ⟨Nat.le_of_ble_eq_true rfl, Nat.le_of_ble_eq_true rfl⟩ rfl hl.1 rfl (Nat.le_of_ble_eq_true rfl) hK hw hS dX7_set_7 ⟨Nat.zero_le _, Nat.zero_le _⟩ (fun H locs hw hS => ?_)
  refine lv_if_eq (tgt := 23) hx hb dX7_set_10 (by decide) (fun c_19 => ?_) (fun c_19 => ?_)
  · have hf := (zi_t c_19).symm.trans hf
    exact B23 _ _ _ _ hf hw hS (lv_sub hl [0, 1, 2, 3] rfl)
  · have hf := (zi_f c_19).symm.trans hf
    refine lv_iload_n hx hb dX7_set_13 rfl (lv_at hl 2 rfl) ?_
    refine lv_iconst (v := (0 : Int32)) hx hb dX7_set_14 (by decide) ?_
    refine lv_bipush (v := (7 : Int32)) hx hb dX7_set_15 (by decide) ?_
    obtain ⟨r_20, t_21, e_22, hf⟩ := zb_inv hf
    refine mw_si (As := [.int x2, .int (0 : Int32), .int (7 : Int32)]) (rest := []) (n := 3) S (kc_X7_in l D cy A ad _ _ _ _ _ _ e_22) (wz_S (zin5 _ (List.mem_of_getElem? (i := 12) rfl)) (zin5 _ (List.mem_of_getElem? (i := 10) rfl)) (zin5 _ (List.mem_of_getElem? (i := 11) rfl)) (zin1 _ (List.mem_of_getElem? (i := 5) rfl))) rfl ⟨rfl, rfl⟩ (by decide +kernel) ⟨Nat.le_of_ble_eq_true rfl, Nat.le_of_ble_eq_true rfl⟩ rfl hl.1 rfl (Nat.le_of_ble_eq_true rfl) hK hw hS dX7_set_17 ⟨Nat.zero_le _, Nat.zero_le _⟩ (fun H locs hw hS => ?_)
    refine lv_if_ne (tgt := 29) hx hb dX7_set_20 (by decide) (fun c_23 => ?_) (fun c_23 => ?_)
    · have hf := (zi_f c_23).symm.trans hf
      refine lv_aload_n hx hb dX7_set_29 rfl (lv_at hl 0 rfl) ?_
      refine mr_get S h7 hK hw 13 (by decide) (wz_in (zin3 _ (List.mem_of_getElem? (i := 19) rfl))) rfl rfl dX7_set_30 ?_
      refine lv_bipush (v := (8 : Int32)) hx hb dX7_set_33 (by decide) ?_
      refine lv_iload_n hx hb dX7_set_35 rfl (lv_at hl 1 rfl) ?_
      refine lv_imul hx hb dX7_set_36 ?_
      refine lv_iload_n hx hb dX7_set_37 rfl (lv_at hl 2 rfl) ?_
      refine lv_iadd hx hb dX7_set_38 ?_
      refine lv_lload_n hx hb dX7_set_39 rfl (lv_at hl 3 rfl) ?_
      obtain ⟨g_24, hf⟩ := zg_inv hf
      refine mr_last S hK hw hS 13 rfl g_24 rfl dX7_set_40 (fun H locs hw hS => ?_)
      refine lv_iconst (v := (1 : Int32)) hx hb dX7_set_41 (by decide) ?_
      exact mw_reti S hr hf hw hS hlocks dX7_set_42
    · have hf := (zi_t c_23).symm.trans hf
      exact B23 _ _ _ _ hf hw hS (lv_sub hl [0, 1, 2, 3] rfl)
noncomputable def k_X7_cell_b43 (x1 : Int32) (x2 : Int32) (x3 : Int32) (τ : MS) (y0 : Int64) : Option (Int64 × MS) := some (y0, τ)
noncomputable def k_X7_cell_b42 (x1 : Int32) (x2 : Int32) (x3 : Int32) (τ : MS) : Option (Int64 × MS) := k_X7_cell_b43 x1 x2 x3 τ (0 : Int64)
noncomputable def k_X7_cell (τ : MS) (x1 : Int32) (x2 : Int32) (x3 : Int32) : Option (Int64 × MS) := zb (k_X7_hasClass (mI τ 0 (0 : Int32)) x1 x2) (fun r_13 t_14 => zi (r_13 = 0) (k_X7_cell_b42 x1 x2 x3 t_14) (zb (k_X7_in t_14 x3 (0 : Int32) (7 : Int32)) (fun r_17 t_18 => zi (r_17 = 0) (k_X7_cell_b42 x1 x2 x3 t_18) (zb (k_X7_at t_18 x1 x2) (fun r_21 t_22 => zg (vp_in (((8 : Int32) * r_21) + x3) 1280) (k_X7_cell_b43 x1 x2 x3 t_22 (mj t_22 22 (((8 : Int32) * r_21) + x3).toNatClampNeg)))))))
set_option maxHeartbeats 4000000 in
set_option maxRecDepth 100000 in
theorem kc_X7_cell (l : Launch) (D : va_G) (cy : Nat → ClassId) (A : Nat → Prop) (ad : Nat → Nat) (τ τ' : MS) (x1 : Int32) (x2 : Int32) (x3 : Int32) (r : Int64) (hf : k_X7_cell τ x1 x2 x3 = some (r, τ')) : Met l yX7_cell (wz yX7_cell cX7_cell 4 (some .long)) ({ frames := 3, cells := 0, slots := 0, locals := 65 } : Room) (va_Pc [.ref (ad 0), .int x1, .int x2, .int x3] (MWs D cy A ad τ)) (va_Ql (fun (r' : Int64) (u : MS) => r' = r ∧ u = τ') (MWp D cy A ad) A) 0 0 A := by
  refine Met.ofW (cc := cX7_cell) (maxL := 4) (ret := (some .long)) (by decide) rfl ?_
  intro p e s m args below meth c s₁ B hml hv
  obtain ⟨rfl, hw, hK⟩ := hv
  have hx := B.exec
  have hb := B.bytes
  have hr := B.returns
  have hts := atoms_spec (ws := (wz yX7_cell cX7_cell 4 (some .long))) B.pre
  have hown : s.vm.findClass RX7 = some m.cls := findClass_of_methodNamed B.named
  have hlocks := B.notSynchronized
  have S : CallFix p m c cX7_cell 4 s ([.ref (ad 0), .int x1, .int x2, .int x3] : List Value).toArray (wz yX7_cell cX7_cell 4 (some .long)) RX7 := ⟨hx, hb, hml, hown, hts⟩
  have h7 : ∀ w ∈ wsX70, w ∈ (wz yX7_cell cX7_cell 4 (some .long)) := fun w h => wz_in (inlX7 w h)
  have hS : va_S A s.heap s.heap [] := va_S.rf
  have hl := lv_entry ([.ref (ad 0), .int x1, .int x2, .int x3]) (n := 4) (Nat.le_of_ble_eq_true rfl)
  rw [lg_entry_eq]
  generalize (lg_sl ([.ref (ad 0), .int x1, .int x2, .int x3]) ++ List.replicate (4 - (lg_sl ([.ref (ad 0), .int x1, .int x2, .int x3])).length) Slot.unset).toArray = ls at hl ⊢
  have hl : lv_has ls 4 [(0, .ref (ad 0)), (1, .int x1), (2, .int x2), (3, .int x3)] := hl
  have B43 : ∀ (τ : MS) (y0 : Int64) (H : Heap) (locs : List Loc) (ls : Array Slot) (hf : k_X7_cell_b43 x1 x2 x3 τ y0 = some (r, τ')) (hw : zw D A ad (mG cy ad τ) H) (hS : va_S A s.heap H locs) (hl : lv_has ls 4 [(0, .ref (ad 0)), (1, .int x1), (2, .int x2), (3, .int x3)]), W p l e (headSpec (wz yX7_cell cX7_cell 4 (some .long)) ({ frames := 3, cells := 0, slots := 0, locals := 65 } : Room)).room s m ([.ref (ad 0), .int x1, .int x2, .int x3] : List Value).toArray below meth c H locs 0 0 (MQ below (va_Ql (fun (r' : Int64) (u : MS) => r' = r ∧ u = τ') (MWp D cy A ad) A) ([.ref (ad 0), .int x1, .int x2, .int x3] : List Value).toArray s 0 0 A) (F0 m 43 ls [.long y0]) := by
    intro τ y0 H locs ls hf hw hS hl
    rw [k_X7_cell_b43] at hf
    exact mw_retl S hr hf hw hS hlocks dX7_cell_43
  have B42 : ∀ (τ : MS) (H : Heap) (locs : List Loc) (ls : Array Slot) (hf : k_X7_cell_b42 x1 x2 x3 τ = some (r, τ')) (hw : zw D A ad (mG cy ad τ) H) (hS : va_S A s.heap H locs) (hl : lv_has ls 4 [(0, .ref (ad 0)), (1, .int x1), (2, .int x2), (3, .int x3)]), W p l e (headSpec (wz yX7_cell cX7_cell 4 (some .long)) ({ frames := 3, cells := 0, slots := 0, locals := 65 } : Room)).room s m ([.ref (ad 0), .int x1, .int x2, .int x3] : List Value).toArray below meth c H locs 0 0 (MQ below (va_Ql (fun (r' : Int64) (u : MS) => r' = r ∧ u = τ') (MWp D cy A ad) A) ([.ref (ad 0), .int x1, .int x2, .int x3] : List Value).toArray s 0 0 A) (F0 m 42 ls []) := by
    intro τ H locs ls hf hw hS hl
    rw [k_X7_cell_b42] at hf
    refine lv_lconst (v := (0 : Int64)) hx hb dX7_cell_42 (by decide) ?_
    exact B43 _ _ _ _ _ hf hw hS (lv_sub hl [0, 1, 2, 3] rfl)
  rw [k_X7_cell] at hf
  refine lv_aload_n hx hb dX7_cell_0 rfl (lv_at hl 0 rfl) ?_
  refine lv_iconst (v := (0 : Int32)) hx hb dX7_cell_1 (by decide) ?_
  refine mr_put S h7 hK hw hS 0 (by decide) (wz_in (zin5 _ (List.mem_of_getElem? (i := 8) rfl))) rfl rfl rfl (mput_0 _ _ _ _) dX7_cell_2 (fun H locs hw hS => ?_)
  refine lv_aload_n hx hb dX7_cell_5 rfl (lv_at hl 0 rfl) ?_
  refine lv_iload_n hx hb dX7_cell_6 rfl (lv_at hl 1 rfl) ?_
  refine lv_iload_n hx hb dX7_cell_7 rfl (lv_at hl 2 rfl) ?_
  obtain ⟨r_13, t_14, e_15, hf⟩ := zb_inv hf
  refine mw_ci (As := [.int x1, .int x2]) (rest := []) (n := 2) S (kc_X7_hasClass l D cy A ad _ _ _ _ _ e_15) (wz_V (zin17 _ (List.mem_of_getElem? (i := 23) rfl)) (zin17 _ (List.mem_of_getElem? (i := 20) rfl)) (zin17 _ (List.mem_of_getElem? (i := 21) rfl)) (zin17 _ (List.mem_of_getElem? (i := 22) rfl)) (zin1 _ (List.mem_of_getElem? (i := 5) rfl))) rfl ⟨rfl, rfl⟩ (by decide +kernel) ⟨Nat.le_of_ble_eq_true rfl, Nat.le_of_ble_eq_true rfl⟩ rfl hl.1 rfl (Nat.le_of_ble_eq_true rfl) hK hw hS dX7_cell_8 ⟨Nat.zero_le _, Nat.zero_le _⟩ (fun H locs hw hS => ?_)
  refine lv_if_eq (tgt := 42) hx hb dX7_cell_11 (by decide) (fun c_16 => ?_) (fun c_16 => ?_)
  · have hf := (zi_t c_16).symm.trans hf
    exact B42 _ _ _ _ hf hw hS (lv_sub hl [0, 1, 2, 3] rfl)
  · have hf := (zi_f c_16).symm.trans hf
    refine lv_iload_n hx hb dX7_cell_14 rfl (lv_at hl 3 rfl) ?_
    refine lv_iconst (v := (0 : Int32)) hx hb dX7_cell_15 (by decide) ?_
    refine lv_bipush (v := (7 : Int32)) hx hb dX7_cell_16 (by decide) ?_
    obtain ⟨r_17, t_18, e_19, hf⟩ := zb_inv hf
    refine mw_si (As := [.int x3, .int (0 : Int32), .int (7 : Int32)]) (rest := []) (n := 3) S (kc_X7_in l D cy A ad _ _ _ _ _ _ e_19) (wz_S (zin5 _ (List.mem_of_getElem? (i := 12) rfl)) (zin5 _ (List.mem_of_getElem? (i := 10) rfl)) (zin5 _ (List.mem_of_getElem? (i := 11) rfl)) (zin1 _ (List.mem_of_getElem? (i := 5) rfl))) rfl ⟨rfl, rfl⟩ (by decide +kernel) ⟨Nat.le_of_ble_eq_true rfl, Nat.le_of_ble_eq_true rfl⟩ rfl hl.1 rfl (Nat.le_of_ble_eq_true rfl) hK hw hS dX7_cell_18 ⟨Nat.zero_le _, Nat.zero_le _⟩ (fun H locs hw hS => ?_)
    refine lv_if_eq (tgt := 42) hx hb dX7_cell_21 (by decide) (fun c_20 => ?_) (fun c_20 => ?_)
    · have hf := (zi_t c_20).symm.trans hf
      exact B42 _ _ _ _ hf hw hS (lv_sub hl [0, 1, 2, 3] rfl)
    · have hf := (zi_f c_20).symm.trans hf
      refine lv_aload_n hx hb dX7_cell_24 rfl (lv_at hl 0 rfl) ?_
      refine mr_get S h7 hK hw 22 (by decide) (wz_in (zin4 _ (List.mem_of_getElem? (i := 5) rfl))) rfl rfl dX7_cell_25 ?_
      refine lv_bipush (v := (8 : Int32)) hx hb dX7_cell_28 (by decide) ?_
      refine lv_iload_n hx hb dX7_cell_30 rfl (lv_at hl 1 rfl) ?_
      refine lv_iload_n hx hb dX7_cell_31 rfl (lv_at hl 2 rfl) ?_
      obtain ⟨r_21, t_22, e_23, hf⟩ := zb_inv hf
      refine mw_si (As := [.int x1, .int x2]) (rest := [.int (8 : Int32), .ref (ad 22)]) (n := 2) S (kc_X7_at l D cy A ad _ _ _ _ _ e_23) (wz_S (zin10 _ (List.mem_of_getElem? (i := 18) rfl)) (zin10 _ (List.mem_of_getElem? (i := 16) rfl)) (zin10 _ (List.mem_of_getElem? (i := 17) rfl)) (zin1 _ (List.mem_of_getElem? (i := 5) rfl))) rfl ⟨rfl, rfl⟩ (by decide +kernel) ⟨Nat.le_of_ble_eq_true rfl, Nat.le_of_ble_eq_true rfl⟩ rfl hl.1 rfl (Nat.le_of_ble_eq_true rfl) hK hw hS dX7_cell_32 ⟨Nat.zero_le _, Nat.zero_le _⟩ (fun H locs hw hS => ?_)
      refine lv_imul hx hb dX7_cell_35 ?_
      refine lv_iload_n hx hb dX7_cell_36 rfl (lv_at hl 3 rfl) ?_
      refine lv_iadd hx hb dX7_cell_37 ?_
      obtain ⟨g_24, hf⟩ := zg_inv hf
      refine mr_lald S hK hw 22 rfl g_24 dX7_cell_38 ?_
      refine lv_goto (tgt := 43) hx hb dX7_cell_39 (by decide) ?_
      exact B43 _ _ _ _ _ hf hw hS (lv_sub hl [0, 1, 2, 3] rfl)
noncomputable def k_X7_reaction (τ : MS) (x1 : Int32) (x2 : Int32) : Option (Int32 × MS) := zb (k_X7_isController (mI τ 0 (0 : Int32)) x1) (fun r_17 t_18 => zi (r_17 = 0) (zb (k_X7_refuse t_18 (-1 : Int32)) (fun r_30 t_31 => some (r_30, t_31))) (zb (k_X7_in t_18 x2 (0 : Int32) (2 : Int32)) (fun r_21 t_22 => zi (r_21 = 0) (zb (k_X7_refuse t_22 (-2 : Int32)) (fun r_27 t_28 => some (r_27, t_28))) (zg (vp_in x1 8) (zg (vp_in x1 8) (some (mr t_22 15 x1.toNatClampNeg, mR t_22 15 x1.toNatClampNeg x2)))))))
set_option maxHeartbeats 4000000 in
set_option maxRecDepth 100000 in
theorem kc_X7_reaction (l : Launch) (D : va_G) (cy : Nat → ClassId) (A : Nat → Prop) (ad : Nat → Nat) (τ τ' : MS) (x1 : Int32) (x2 : Int32) (r : Int32) (hf : k_X7_reaction τ x1 x2 = some (r, τ')) : Met l yX7_reaction (wz yX7_reaction cX7_reaction 4 (some .int)) ({ frames := 2, cells := 0, slots := 0, locals := 43 } : Room) (va_Pc [.ref (ad 0), .int x1, .int x2] (MWs D cy A ad τ)) (va_Qi (fun (r' : Int32) (u : MS) => r' = r ∧ u = τ') (MWp D cy A ad) A) 0 0 A := by
  refine Met.ofW (cc := cX7_reaction) (maxL := 4) (ret := (some .int)) (by decide) rfl ?_
  intro p e s m args below meth c s₁ B hml hv
  obtain ⟨rfl, hw, hK⟩ := hv
  have hx := B.exec
  have hb := B.bytes
  have hr := B.returns
  have hts := atoms_spec (ws := (wz yX7_reaction cX7_reaction 4 (some .int))) B.pre
  have hown : s.vm.findClass RX7 = some m.cls := findClass_of_methodNamed B.named
  have hlocks := B.notSynchronized
  have S : CallFix p m c cX7_reaction 4 s ([.ref (ad 0), .int x1, .int x2] : List Value).toArray (wz yX7_reaction cX7_reaction 4 (some .int)) RX7 := ⟨hx, hb, hml, hown, hts⟩
  have h7 : ∀ w ∈ wsX70, w ∈ (wz yX7_reaction cX7_reaction 4 (some .int)) := fun w h => wz_in (inlX7 w h)
  have hS : va_S A s.heap s.heap [] := va_S.rf
  have hl := lv_entry ([.ref (ad 0), .int x1, .int x2]) (n := 4) (Nat.le_of_ble_eq_true rfl)
  rw [lg_entry_eq]
  generalize (lg_sl ([.ref (ad 0), .int x1, .int x2]) ++ List.replicate (4 - (lg_sl ([.ref (ad 0), .int x1, .int x2])).length) Slot.unset).toArray = ls at hl ⊢
  have hl : lv_has ls 4 [(0, .ref (ad 0)), (1, .int x1), (2, .int x2)] := hl
  rw [k_X7_reaction] at hf
  refine lv_aload_n hx hb dX7_reaction_0 rfl (lv_at hl 0 rfl) ?_
  refine lv_iconst (v := (0 : Int32)) hx hb dX7_reaction_1 (by decide) ?_
  refine mr_put S h7 hK hw hS 0 (by decide) (wz_in (zin5 _ (List.mem_of_getElem? (i := 8) rfl))) rfl rfl rfl (mput_0 _ _ _ _) dX7_reaction_2 (fun H locs hw hS => ?_)
  refine lv_aload_n hx hb dX7_reaction_5 rfl (lv_at hl 0 rfl) ?_
  refine lv_iload_n hx hb dX7_reaction_6 rfl (lv_at hl 1 rfl) ?_
  obtain ⟨r_17, t_18, e_19, hf⟩ := zb_inv hf
  refine mw_ci (As := [.int x1]) (rest := []) (n := 1) S (kc_X7_isController l D cy A ad _ _ _ _ e_19) (wz_V (zin10 _ (List.mem_of_getElem? (i := 11) rfl)) (zin10 _ (List.mem_of_getElem? (i := 8) rfl)) (zin10 _ (List.mem_of_getElem? (i := 9) rfl)) (zin10 _ (List.mem_of_getElem? (i := 10) rfl)) (zin1 _ (List.mem_of_getElem? (i := 5) rfl))) rfl ⟨rfl, rfl⟩ (by decide +kernel) ⟨Nat.le_of_ble_eq_true rfl, Nat.le_of_ble_eq_true rfl⟩ rfl hl.1 rfl (Nat.le_of_ble_eq_true rfl) hK hw hS dX7_reaction_7 ⟨Nat.zero_le _, Nat.zero_le _⟩ (fun H locs hw hS => ?_)
  refine lv_if_ne (tgt := 19) hx hb dX7_reaction_10 (by decide) (fun c_20 => ?_) (fun c_20 => ?_)
  · have hf := (zi_f c_20).symm.trans hf
    refine lv_iload_n hx hb dX7_reaction_19 rfl (lv_at hl 2 rfl) ?_
    refine lv_iconst (v := (0 : Int32)) hx hb dX7_reaction_20 (by decide) ?_
    refine lv_iconst (v := (2 : Int32)) hx hb dX7_reaction_21 (by decide) ?_
    obtain ⟨r_21, t_22, e_23, hf⟩ := zb_inv hf
    refine mw_si (As := [.int x2, .int (0 : Int32), .int (2 : Int32)]) (rest := []) (n := 3) S (kc_X7_in l D cy A ad _ _ _ _ _ _ e_23) (wz_S (zin5 _ (List.mem_of_getElem? (i := 12) rfl)) (zin5 _ (List.mem_of_getElem? (i := 10) rfl)) (zin5 _ (List.mem_of_getElem? (i := 11) rfl)) (zin1 _ (List.mem_of_getElem? (i := 5) rfl))) rfl ⟨rfl, rfl⟩ (by decide +kernel) ⟨Nat.le_of_ble_eq_true rfl, Nat.le_of_ble_eq_true rfl⟩ rfl hl.1 rfl (Nat.le_of_ble_eq_true rfl) hK hw hS dX7_reaction_22 ⟨Nat.zero_le _, Nat.zero_le _⟩ (fun H locs hw hS => ?_)
    refine lv_if_ne (tgt := 35) hx hb dX7_reaction_25 (by decide) (fun c_24 => ?_) (fun c_24 => ?_)
    · have hf := (zi_f c_24).symm.trans hf
      refine lv_aload_n hx hb dX7_reaction_35 rfl (lv_at hl 0 rfl) ?_
      refine mr_get S h7 hK hw 15 (by decide) (wz_in (zin3 _ (List.mem_of_getElem? (i := 22) rfl))) rfl rfl dX7_reaction_36 ?_
      refine lv_iload_n hx hb dX7_reaction_39 rfl (lv_at hl 1 rfl) ?_
      obtain ⟨g_25, hf⟩ := zg_inv hf
      refine mr_iald S hK hw 15 rfl g_25 dX7_reaction_40 ?_
      refine lv_istore_n (lv' := [(3, .int (mr t_22 15 x1.toNatClampNeg)), (0, .ref (ad 0)), (1, .int x1), (2, .int x2)]) hx hb dX7_reaction_41 rfl hl (by decide) rfl (fun ls hl => ?_)
      refine lv_aload_n hx hb dX7_reaction_42 rfl (lv_at hl 1 rfl) ?_
      refine mr_get S h7 hK hw 15 (by decide) (wz_in (zin3 _ (List.mem_of_getElem? (i := 22) rfl))) rfl rfl dX7_reaction_43 ?_
      refine lv_iload_n hx hb dX7_reaction_46 rfl (lv_at hl 2 rfl) ?_
      refine lv_iload_n hx hb dX7_reaction_47 rfl (lv_at hl 3 rfl) ?_
      obtain ⟨g_26, hf⟩ := zg_inv hf
      refine mr_iast S hK hw hS 15 rfl g_26 rfl dX7_reaction_48 (fun H locs hw hS => ?_)
      refine lv_iload_n hx hb dX7_reaction_49 rfl (lv_at hl 0 rfl) ?_
      exact mw_reti S hr hf hw hS hlocks dX7_reaction_50
    · have hf := (zi_t c_24).symm.trans hf
      refine lv_aload_n hx hb dX7_reaction_28 rfl (lv_at hl 0 rfl) ?_
      refine lv_bipush (v := (-2 : Int32)) hx hb dX7_reaction_29 (by decide) ?_
      obtain ⟨r_27, t_28, e_29, hf⟩ := zb_inv hf
      refine mw_ci (As := [.int (-2 : Int32)]) (rest := []) (n := 1) S (kc_X7_refuse l D cy A ad _ _ _ _ e_29) (wz_V (zin5 _ (List.mem_of_getElem? (i := 16) rfl)) (zin5 _ (List.mem_of_getElem? (i := 13) rfl)) (zin5 _ (List.mem_of_getElem? (i := 14) rfl)) (zin5 _ (List.mem_of_getElem? (i := 15) rfl)) (zin1 _ (List.mem_of_getElem? (i := 5) rfl))) rfl ⟨rfl, rfl⟩ (by decide +kernel) ⟨Nat.le_of_ble_eq_true rfl, Nat.le_of_ble_eq_true rfl⟩ rfl hl.1 rfl (Nat.le_of_ble_eq_true rfl) hK hw hS dX7_reaction_31 ⟨Nat.zero_le _, Nat.zero_le _⟩ (fun H locs hw hS => ?_)
      exact mw_reti S hr hf hw hS hlocks dX7_reaction_34
  · have hf := (zi_t c_20).symm.trans hf
    refine lv_aload_n hx hb dX7_reaction_13 rfl (lv_at hl 0 rfl) ?_
    refine lv_iconst (v := (-1 : Int32)) hx hb dX7_reaction_14 (by decide) ?_
    obtain ⟨r_30, t_31, e_32, hf⟩ := zb_inv hf
    refine mw_ci (As := [.int (-1 : Int32)]) (rest := []) (n := 1) S (kc_X7_refuse l D cy A ad _ _ _ _ e_32) (wz_V (zin5 _ (List.mem_of_getElem? (i := 16) rfl)) (zin5 _ (List.mem_of_getElem? (i := 13) rfl)) (zin5 _ (List.mem_of_getElem? (i := 14) rfl)) (zin5 _ (List.mem_of_getElem? (i := 15) rfl)) (zin1 _ (List.mem_of_getElem? (i := 5) rfl))) rfl ⟨rfl, rfl⟩ (by decide +kernel) ⟨Nat.le_of_ble_eq_true rfl, Nat.le_of_ble_eq_true rfl⟩ rfl hl.1 rfl (Nat.le_of_ble_eq_true rfl) hK hw hS dX7_reaction_15 ⟨Nat.zero_le _, Nat.zero_le _⟩ (fun H locs hw hS => ?_)
    exact mw_reti S hr hf hw hS hlocks dX7_reaction_18
noncomputable def k_X7_update_b57 (x1 : Int32) (x2 : Int32) (τ : MS) (x3 : Int32) : Option (Int32 × MS) := zb (k_X7_refuse τ (-3 : Int32)) (fun r_26 t_27 => some (r_26, t_27))
noncomputable def k_X7_update_b21 (x1 : Int32) (x2 : Int32) (τ : MS) : Option (Int32 × MS) := zb (k_X7_refuse τ (-1 : Int32)) (fun r_29 t_30 => some (r_29, t_30))
noncomputable def k_X7_update (τ : MS) (x1 : Int32) (x2 : Int32) : Option (Int32 × MS) := zb (k_X7_isController (mI τ 0 (0 : Int32)) x1) (fun r_32 t_33 => zi (r_32 = 0) (k_X7_update_b21 x1 x2 t_33) (zb (k_X7_isRunnable t_33 x2) (fun r_36 t_37 => zi (r_36 = 0) (k_X7_update_b21 x1 x2 t_37) (zb (k_X7_at t_37 x1 x2) (fun r_40 t_41 => zg (vp_in r_40 160) (zi ((mr t_41 21 r_40.toNatClampNeg) = 0) (k_X7_update_b57 x1 x2 t_41 r_40) (zg (vp_in r_40 160) (zg (vp_in x2 21) (zi ((mr t_41 21 r_40.toNatClampNeg) = (mr t_41 6 x2.toNatClampNeg)) (k_X7_update_b57 x1 x2 t_41 r_40) (zb (k_X7_renew t_41 r_40 x2 (4 : Int32)) (fun _ t_49 => some ((1 : Int32), t_49))))))))))))
set_option maxHeartbeats 4000000 in
set_option maxRecDepth 100000 in
theorem kc_X7_update (l : Launch) (D : va_G) (cy : Nat → ClassId) (A : Nat → Prop) (ad : Nat → Nat) (τ τ' : MS) (x1 : Int32) (x2 : Int32) (r : Int32) (hf : k_X7_update τ x1 x2 = some (r, τ')) : Met l yX7_update (wz yX7_update cX7_update 4 (some .int)) ({ frames := 2, cells := 0, slots := 0, locals := 43 } : Room) (va_Pc [.ref (ad 0), .int x1, .int x2] (MWs D cy A ad τ)) (va_Qi (fun (r' : Int32) (u : MS) => r' = r ∧ u = τ') (MWp D cy A ad) A) 0 0 A := by
  refine Met.ofW (cc := cX7_update) (maxL := 4) (ret := (some .int)) (by decide) rfl ?_
  intro p e s m args below meth c s₁ B hml hv
  obtain ⟨rfl, hw, hK⟩ := hv
  have hx := B.exec
  have hb := B.bytes
  have hr := B.returns
  have hts := atoms_spec (ws := (wz yX7_update cX7_update 4 (some .int))) B.pre
  have hown : s.vm.findClass RX7 = some m.cls := findClass_of_methodNamed B.named
  have hlocks := B.notSynchronized
  have S : CallFix p m c cX7_update 4 s ([.ref (ad 0), .int x1, .int x2] : List Value).toArray (wz yX7_update cX7_update 4 (some .int)) RX7 := ⟨hx, hb, hml, hown, hts⟩
  have h7 : ∀ w ∈ wsX70, w ∈ (wz yX7_update cX7_update 4 (some .int)) := fun w h => wz_in (inlX7 w h)
  have hS : va_S A s.heap s.heap [] := va_S.rf
  have hl := lv_entry ([.ref (ad 0), .int x1, .int x2]) (n := 4) (Nat.le_of_ble_eq_true rfl)
  rw [lg_entry_eq]
  generalize (lg_sl ([.ref (ad 0), .int x1, .int x2]) ++ List.replicate (4 - (lg_sl ([.ref (ad 0), .int x1, .int x2])).length) Slot.unset).toArray = ls at hl ⊢
  have hl : lv_has ls 4 [(0, .ref (ad 0)), (1, .int x1), (2, .int x2)] := hl
  have B57 : ∀ (τ : MS) (x3 : Int32) (H : Heap) (locs : List Loc) (ls : Array Slot) (hf : k_X7_update_b57 x1 x2 τ x3 = some (r, τ')) (hw : zw D A ad (mG cy ad τ) H) (hS : va_S A s.heap H locs) (hl : lv_has ls 4 [(0, .ref (ad 0)), (1, .int x1), (2, .int x2), (3, .int x3)]), W p l e (headSpec (wz yX7_update cX7_update 4 (some .int)) ({ frames := 2, cells := 0, slots := 0, locals := 43 } : Room)).room s m ([.ref (ad 0), .int x1, .int x2] : List Value).toArray below meth c H locs 0 0 (MQ below (va_Qi (fun (r' : Int32) (u : MS) => r' = r ∧ u = τ') (MWp D cy A ad) A) ([.ref (ad 0), .int x1, .int x2] : List Value).toArray s 0 0 A) (F0 m 57 ls []) := by
    intro τ x3 H locs ls hf hw hS hl
    rw [k_X7_update_b57] at hf
    refine lv_aload_n hx hb dX7_update_57 rfl (lv_at hl 0 rfl) ?_
    refine lv_bipush (v := (-3 : Int32)) hx hb dX7_update_58 (by decide) ?_
    obtain ⟨r_26, t_27, e_28, hf⟩ := zb_inv hf
    refine mw_ci (As := [.int (-3 : Int32)]) (rest := []) (n := 1) S (kc_X7_refuse l D cy A ad _ _ _ _ e_28) (wz_V (zin5 _ (List.mem_of_getElem? (i := 16) rfl)) (zin5 _ (List.mem_of_getElem? (i := 13) rfl)) (zin5 _ (List.mem_of_getElem? (i := 14) rfl)) (zin5 _ (List.mem_of_getElem? (i := 15) rfl)) (zin1 _ (List.mem_of_getElem? (i := 5) rfl))) rfl ⟨rfl, rfl⟩ (by decide +kernel) ⟨Nat.le_of_ble_eq_true rfl, Nat.le_of_ble_eq_true rfl⟩ rfl hl.1 rfl (Nat.le_of_ble_eq_true rfl) hK hw hS dX7_update_60 ⟨Nat.zero_le _, Nat.zero_le _⟩ (fun H locs hw hS => ?_)
    exact mw_reti S hr hf hw hS hlocks dX7_update_63
  have B21 : ∀ (τ : MS) (H : Heap) (locs : List Loc) (ls : Array Slot) (hf : k_X7_update_b21 x1 x2 τ = some (r, τ')) (hw : zw D A ad (mG cy ad τ) H) (hS : va_S A s.heap H locs) (hl : lv_has ls 4 [(0, .ref (ad 0)), (1, .int x1), (2, .int x2)]), W p l e (headSpec (wz yX7_update cX7_update 4 (some .int)) ({ frames := 2, cells := 0, slots := 0, locals := 43 } : Room)).room s m ([.ref (ad 0), .int x1, .int x2] : List Value).toArray below meth c H locs 0 0 (MQ below (va_Qi (fun (r' : Int32) (u : MS) => r' = r ∧ u = τ') (MWp D cy A ad) A) ([.ref (ad 0), .int x1, .int x2] : List Value).toArray s 0 0 A) (F0 m 21 ls []) := by
    intro τ H locs ls hf hw hS hl
    rw [k_X7_update_b21] at hf
    refine lv_aload_n hx hb dX7_update_21 rfl (lv_at hl 0 rfl) ?_
    refine lv_iconst (v := (-1 : Int32)) hx hb dX7_update_22 (by decide) ?_
    obtain ⟨r_29, t_30, e_31, hf⟩ := zb_inv hf
    refine mw_ci (As := [.int (-1 : Int32)]) (rest := []) (n := 1) S (kc_X7_refuse l D cy A ad _ _ _ _ e_31) (wz_V (zin5 _ (List.mem_of_getElem? (i := 16) rfl)) (zin5 _ (List.mem_of_getElem? (i := 13) rfl)) (zin5 _ (List.mem_of_getElem? (i := 14) rfl)) (zin5 _ (List.mem_of_getElem? (i := 15) rfl)) (zin1 _ (List.mem_of_getElem? (i := 5) rfl))) rfl ⟨rfl, rfl⟩ (by decide +kernel) ⟨Nat.le_of_ble_eq_true rfl, Nat.le_of_ble_eq_true rfl⟩ rfl hl.1 rfl (Nat.le_of_ble_eq_true rfl) hK hw hS dX7_update_23 ⟨Nat.zero_le _, Nat.zero_le _⟩ (fun H locs hw hS => ?_)
    exact mw_reti S hr hf hw hS hlocks dX7_update_26
  rw [k_X7_update] at hf
  refine lv_aload_n hx hb dX7_update_0 rfl (lv_at hl 0 rfl) ?_
  refine lv_iconst (v := (0 : Int32)) hx hb dX7_update_1 (by decide) ?_
  refine mr_put S h7 hK hw hS 0 (by decide) (wz_in (zin5 _ (List.mem_of_getElem? (i := 8) rfl))) rfl rfl rfl (mput_0 _ _ _ _) dX7_update_2 (fun H locs hw hS => ?_)
  refine lv_aload_n hx hb dX7_update_5 rfl (lv_at hl 0 rfl) ?_
  refine lv_iload_n hx hb dX7_update_6 rfl (lv_at hl 1 rfl) ?_
  obtain ⟨r_32, t_33, e_34, hf⟩ := zb_inv hf
  refine mw_ci (As := [.int x1]) (rest := []) (n := 1) S (kc_X7_isController l D cy A ad _ _ _ _ e_34) (wz_V (zin10 _ (List.mem_of_getElem? (i := 11) rfl)) (zin10 _ (List.mem_of_getElem? (i := 8) rfl)) (zin10 _ (List.mem_of_getElem? (i := 9) rfl)) (zin10 _ (List.mem_of_getElem? (i := 10) rfl)) (zin1 _ (List.mem_of_getElem? (i := 5) rfl))) rfl ⟨rfl, rfl⟩ (by decide +kernel) ⟨Nat.le_of_ble_eq_true rfl, Nat.le_of_ble_eq_true rfl⟩ rfl hl.1 rfl (Nat.le_of_ble_eq_true rfl) hK hw hS dX7_update_7 ⟨Nat.zero_le _, Nat.zero_le _⟩ (fun H locs hw hS => ?_)
  refine lv_if_eq (tgt := 21) hx hb dX7_update_10 (by decide) (fun c_35 => ?_) (fun c_35 => ?_)
  · have hf := (zi_t c_35).symm.trans hf
    exact B21 _ _ _ _ hf hw hS (lv_sub hl [0, 1, 2] rfl)
  · have hf := (zi_f c_35).symm.trans hf
    refine lv_aload_n hx hb dX7_update_13 rfl (lv_at hl 0 rfl) ?_
    refine lv_iload_n hx hb dX7_update_14 rfl (lv_at hl 2 rfl) ?_
    obtain ⟨r_36, t_37, e_38, hf⟩ := zb_inv hf
    refine mw_ci (As := [.int x2]) (rest := []) (n := 1) S (kc_X7_isRunnable l D cy A ad _ _ _ _ e_38) (wz_V (zin10 _ (List.mem_of_getElem? (i := 15) rfl)) (zin10 _ (List.mem_of_getElem? (i := 12) rfl)) (zin10 _ (List.mem_of_getElem? (i := 13) rfl)) (zin10 _ (List.mem_of_getElem? (i := 14) rfl)) (zin1 _ (List.mem_of_getElem? (i := 5) rfl))) rfl ⟨rfl, rfl⟩ (by decide +kernel) ⟨Nat.le_of_ble_eq_true rfl, Nat.le_of_ble_eq_true rfl⟩ rfl hl.1 rfl (Nat.le_of_ble_eq_true rfl) hK hw hS dX7_update_15 ⟨Nat.zero_le _, Nat.zero_le _⟩ (fun H locs hw hS => ?_)
    refine lv_if_ne (tgt := 27) hx hb dX7_update_18 (by decide) (fun c_39 => ?_) (fun c_39 => ?_)
    · have hf := (zi_f c_39).symm.trans hf
      refine lv_iload_n hx hb dX7_update_27 rfl (lv_at hl 1 rfl) ?_
      refine lv_iload_n hx hb dX7_update_28 rfl (lv_at hl 2 rfl) ?_
      obtain ⟨r_40, t_41, e_42, hf⟩ := zb_inv hf
      refine mw_si (As := [.int x1, .int x2]) (rest := []) (n := 2) S (kc_X7_at l D cy A ad _ _ _ _ _ e_42) (wz_S (zin10 _ (List.mem_of_getElem? (i := 18) rfl)) (zin10 _ (List.mem_of_getElem? (i := 16) rfl)) (zin10 _ (List.mem_of_getElem? (i := 17) rfl)) (zin1 _ (List.mem_of_getElem? (i := 5) rfl))) rfl ⟨rfl, rfl⟩ (by decide +kernel) ⟨Nat.le_of_ble_eq_true rfl, Nat.le_of_ble_eq_true rfl⟩ rfl hl.1 rfl (Nat.le_of_ble_eq_true rfl) hK hw hS dX7_update_29 ⟨Nat.zero_le _, Nat.zero_le _⟩ (fun H locs hw hS => ?_)
      refine lv_istore_n (lv' := [(3, .int r_40), (0, .ref (ad 0)), (1, .int x1), (2, .int x2)]) hx hb dX7_update_32 rfl hl (by decide) rfl (fun ls hl => ?_)
      refine lv_aload_n hx hb dX7_update_33 rfl (lv_at hl 1 rfl) ?_
      refine mr_get S h7 hK hw 21 (by decide) (wz_in (zin4 _ (List.mem_of_getElem? (i := 4) rfl))) rfl rfl dX7_update_34 ?_
      refine lv_iload_n hx hb dX7_update_37 rfl (lv_at hl 0 rfl) ?_
      obtain ⟨g_43, hf⟩ := zg_inv hf
      refine mr_iald S hK hw 21 rfl g_43 dX7_update_38 ?_
      refine lv_if_eq (tgt := 57) hx hb dX7_update_39 (by decide) (fun c_44 => ?_) (fun c_44 => ?_)
      · have hf := (zi_t c_44).symm.trans hf
        exact B57 _ _ _ _ _ hf hw hS (lv_sub hl [1, 2, 3, 0] rfl)
      · have hf := (zi_f c_44).symm.trans hf
        refine lv_aload_n hx hb dX7_update_42 rfl (lv_at hl 1 rfl) ?_
        refine mr_get S h7 hK hw 21 (by decide) (wz_in (zin4 _ (List.mem_of_getElem? (i := 4) rfl))) rfl rfl dX7_update_43 ?_
        refine lv_iload_n hx hb dX7_update_46 rfl (lv_at hl 0 rfl) ?_
        obtain ⟨g_45, hf⟩ := zg_inv hf
        refine mr_iald S hK hw 21 rfl g_45 dX7_update_47 ?_
        refine lv_aload_n hx hb dX7_update_48 rfl (lv_at hl 1 rfl) ?_
        refine mr_get S h7 hK hw 6 (by decide) (wz_in (zin3 _ (List.mem_of_getElem? (i := 12) rfl))) rfl rfl dX7_update_49 ?_
        refine lv_iload_n hx hb dX7_update_52 rfl (lv_at hl 3 rfl) ?_
        obtain ⟨g_46, hf⟩ := zg_inv hf
        refine mr_iald S hK hw 6 rfl g_46 dX7_update_53 ?_
        refine lv_icmp_ne (tgt := 64) hx hb dX7_update_54 (by decide) (fun c_47 => ?_) (fun c_47 => ?_)
        · have hf := (zi_f c_47).symm.trans hf
          refine lv_aload_n hx hb dX7_update_64 rfl (lv_at hl 1 rfl) ?_
          refine lv_iload_n hx hb dX7_update_65 rfl (lv_at hl 0 rfl) ?_
          refine lv_iload_n hx hb dX7_update_66 rfl (lv_at hl 3 rfl) ?_
          refine lv_iconst (v := (4 : Int32)) hx hb dX7_update_67 (by decide) ?_
          obtain ⟨⟨⟩, t_49, e_50, hf⟩ := zb_inv hf
          refine mw_cv (As := [.int r_40, .int x2, .int (4 : Int32)]) (rest := []) (n := 3) S (kc_X7_renew l D cy A ad _ _ _ _ _ e_50) (wz_V (zin10 _ (List.mem_of_getElem? (i := 22) rfl)) (zin10 _ (List.mem_of_getElem? (i := 19) rfl)) (zin10 _ (List.mem_of_getElem? (i := 20) rfl)) (zin10 _ (List.mem_of_getElem? (i := 21) rfl)) (zin1 _ (List.mem_of_getElem? (i := 5) rfl))) rfl ⟨rfl, rfl⟩ (by decide +kernel) ⟨Nat.le_of_ble_eq_true rfl, Nat.le_of_ble_eq_true rfl⟩ rfl hl.1 rfl (Nat.le_of_ble_eq_true rfl) hK hw hS dX7_update_68 ⟨Nat.zero_le _, Nat.zero_le _⟩ (fun H locs hw hS => ?_)
          refine lv_iconst (v := (1 : Int32)) hx hb dX7_update_71 (by decide) ?_
          exact mw_reti S hr hf hw hS hlocks dX7_update_72
        · have hf := (zi_t c_47).symm.trans hf
          exact B57 _ _ _ _ _ hf hw hS (lv_sub hl [1, 2, 3, 0] rfl)
    · have hf := (zi_t c_39).symm.trans hf
      exact B21 _ _ _ _ hf hw hS (lv_sub hl [0, 1, 2] rfl)
noncomputable def k_X7_reset_b94 (x1 : Int32) (K : MS → Int32 → Int32 → Option (Int32 × MS)) (τ : MS) (x2 : Int32) (x3 : Int32) : Option (Int32 × MS) := K τ x2 (x3 + (1 : Int32))
noncomputable def k_X7_reset_s56 (x1 : Int32) (K : MS → Int32 → Int32 → Option (Int32 × MS)) (τ : MS) (x2 : Int32) (x3 : Int32) : Option (Int32 × MS) := zi ((mi τ 5) < x3) (some (x2, τ)) (zb (k_X7_at τ x1 x3) (fun r_24 t_25 => zg (vp_in r_24 160) (zi ((mr t_25 21 r_24.toNatClampNeg) = 0) (k_X7_reset_b94 x1 K t_25 x2 x3) (zb (k_X7_at t_25 x1 x3) (fun r_29 t_30 => zb (k_X7_renew t_30 r_29 x3 (0 : Int32)) (fun _ t_33 => k_X7_reset_b94 x1 K t_33 (x2 + (1 : Int32)) x3))))))
noncomputable def k_X7_reset_l56 (x1 : Int32) : Nat → MS → Int32 → Int32 → Option (Int32 × MS)
  | 0 => fun _ _ _ => none
  | n + 1 => fun τ x2 x3 => k_X7_reset_s56 x1 (k_X7_reset_l56 x1 n) τ x2 x3
theorem k_X7_reset_l56_s (x1 : Int32) (n : Nat) (τ : MS) (x2 : Int32) (x3 : Int32) : k_X7_reset_l56 x1 (n + 1) τ x2 x3 = k_X7_reset_s56 x1 (k_X7_reset_l56 x1 n) τ x2 x3 := rfl
theorem k_X7_reset_l56_z (x1 : Int32) (τ : MS) (x2 : Int32) (x3 : Int32) : k_X7_reset_l56 x1 0 τ x2 x3 = none := rfl
noncomputable def k_X7_reset_s28 (x1 : Int32) (K : MS → Int32 → Option (Int32 × MS)) (τ : MS) (x2 : Int32) : Option (Int32 × MS) := zi ((8 : Int32) ≤ x2) (k_X7_reset_l56 x1 FU τ (0 : Int32) (1 : Int32)) (zg (vp_in (((8 : Int32) * x1) + x2) 64) (K (mJ τ 13 (((8 : Int32) * x1) + x2).toNatClampNeg (0 : Int64)) (x2 + (1 : Int32))))
noncomputable def k_X7_reset_l28 (x1 : Int32) : Nat → MS → Int32 → Option (Int32 × MS)
  | 0 => fun _ _ => none
  | n + 1 => fun τ x2 => k_X7_reset_s28 x1 (k_X7_reset_l28 x1 n) τ x2
theorem k_X7_reset_l28_s (x1 : Int32) (n : Nat) (τ : MS) (x2 : Int32) : k_X7_reset_l28 x1 (n + 1) τ x2 = k_X7_reset_s28 x1 (k_X7_reset_l28 x1 n) τ x2 := rfl
theorem k_X7_reset_l28_z (x1 : Int32) (τ : MS) (x2 : Int32) : k_X7_reset_l28 x1 0 τ x2 = none := rfl
noncomputable def k_X7_reset (τ : MS) (x1 : Int32) : Option (Int32 × MS) := zb (k_X7_isController (mI τ 0 (0 : Int32)) x1) (fun r_37 t_38 => zi (r_37 = 0) (zb (k_X7_refuse t_38 (-1 : Int32)) (fun r_42 t_43 => some (r_42, t_43))) (zg (vp_in x1 8) (k_X7_reset_l28 x1 FU (mR t_38 14 x1.toNatClampNeg (vp_nar .boolean (0 : Int32))) (0 : Int32))))
set_option maxHeartbeats 4000000 in
set_option maxRecDepth 100000 in
theorem kc_X7_reset (l : Launch) (D : va_G) (cy : Nat → ClassId) (A : Nat → Prop) (ad : Nat → Nat) (τ τ' : MS) (x1 : Int32) (r : Int32) (hf : k_X7_reset τ x1 = some (r, τ')) : Met l yX7_reset (wz yX7_reset cX7_reset 4 (some .int)) ({ frames := 2, cells := 0, slots := 0, locals := 43 } : Room) (va_Pc [.ref (ad 0), .int x1] (MWs D cy A ad τ)) (va_Qi (fun (r' : Int32) (u : MS) => r' = r ∧ u = τ') (MWp D cy A ad) A) 0 0 A := by
  refine Met.ofW (cc := cX7_reset) (maxL := 4) (ret := (some .int)) (by decide) rfl ?_
  intro p e s m args below meth c s₁ B hml hv
  obtain ⟨rfl, hw, hK⟩ := hv
  have hx := B.exec
  have hb := B.bytes
  have hr := B.returns
  have hts := atoms_spec (ws := (wz yX7_reset cX7_reset 4 (some .int))) B.pre
  have hown : s.vm.findClass RX7 = some m.cls := findClass_of_methodNamed B.named
  have hlocks := B.notSynchronized
  have S : CallFix p m c cX7_reset 4 s ([.ref (ad 0), .int x1] : List Value).toArray (wz yX7_reset cX7_reset 4 (some .int)) RX7 := ⟨hx, hb, hml, hown, hts⟩
  have h7 : ∀ w ∈ wsX70, w ∈ (wz yX7_reset cX7_reset 4 (some .int)) := fun w h => wz_in (inlX7 w h)
  have hS : va_S A s.heap s.heap [] := va_S.rf
  have hl := lv_entry ([.ref (ad 0), .int x1]) (n := 4) (Nat.le_of_ble_eq_true rfl)
  rw [lg_entry_eq]
  generalize (lg_sl ([.ref (ad 0), .int x1]) ++ List.replicate (4 - (lg_sl ([.ref (ad 0), .int x1])).length) Slot.unset).toArray = ls at hl ⊢
  have hl : lv_has ls 4 [(0, .ref (ad 0)), (1, .int x1)] := hl
  have B94 : ∀ (K : MS → Int32 → Int32 → Option (Int32 × MS)) (_hKK : ∀ (τ : MS) (x2 : Int32) (x3 : Int32) (H : Heap) (locs : List Loc) (ls : Array Slot) (hf : K τ x2 x3 = some (r, τ')) (hw : zw D A ad (mG cy ad τ) H) (hS : va_S A s.heap H locs) (hl : lv_has ls 4 [(0, .ref (ad 0)), (1, .int x1), (2, .int x2), (3, .int x3)]), W p l e (headSpec (wz yX7_reset cX7_reset 4 (some .int)) ({ frames := 2, cells := 0, slots := 0, locals := 43 } : Room)).room s m ([.ref (ad 0), .int x1] : List Value).toArray below meth c H locs 0 0 (MQ below (va_Qi (fun (r' : Int32) (u : MS) => r' = r ∧ u = τ') (MWp D cy A ad) A) ([.ref (ad 0), .int x1] : List Value).toArray s 0 0 A) (F0 m 56 ls [])) (τ : MS) (x2 : Int32) (x3 : Int32) (H : Heap) (locs : List Loc) (ls : Array Slot) (hf : k_X7_reset_b94 x1 K τ x2 x3 = some (r, τ')) (hw : zw D A ad (mG cy ad τ) H) (hS : va_S A s.heap H locs) (hl : lv_has ls 4 [(0, .ref (ad 0)), (1, .int x1), (2, .int x2), (3, .int x3)]), W p l e (headSpec (wz yX7_reset cX7_reset 4 (some .int)) ({ frames := 2, cells := 0, slots := 0, locals := 43 } : Room)).room s m ([.ref (ad 0), .int x1] : List Value).toArray below meth c H locs 0 0 (MQ below (va_Qi (fun (r' : Int32) (u : MS) => r' = r ∧ u = τ') (MWp D cy A ad) A) ([.ref (ad 0), .int x1] : List Value).toArray s 0 0 A) (F0 m 94 ls []) := by
    intro K hKK τ x2 x3 H locs ls hf hw hS hl
    rw [k_X7_reset_b94] at hf
    refine lv_iinc (v := x3 + (1 : Int32)) (lv' := [(3, .int (x3 + (1 : Int32))), (0, .ref (ad 0)), (1, .int x1), (2, .int x2)]) hx hb dX7_reset_94 hl (k := 3) rfl rfl (by decide) rfl (fun ls hl => ?_)
    refine lv_goto (tgt := 56) hx hb dX7_reset_97 (by decide) ?_
    exact hKK _ _ _ _ _ _ hf hw hS (lv_sub hl [1, 2, 3, 0] rfl)
  have S56 : ∀ (K : MS → Int32 → Int32 → Option (Int32 × MS)) (_hKK : ∀ (τ : MS) (x2 : Int32) (x3 : Int32) (H : Heap) (locs : List Loc) (ls : Array Slot) (hf : K τ x2 x3 = some (r, τ')) (hw : zw D A ad (mG cy ad τ) H) (hS : va_S A s.heap H locs) (hl : lv_has ls 4 [(0, .ref (ad 0)), (1, .int x1), (2, .int x2), (3, .int x3)]), W p l e (headSpec (wz yX7_reset cX7_reset 4 (some .int)) ({ frames := 2, cells := 0, slots := 0, locals := 43 } : Room)).room s m ([.ref (ad 0), .int x1] : List Value).toArray below meth c H locs 0 0 (MQ below (va_Qi (fun (r' : Int32) (u : MS) => r' = r ∧ u = τ') (MWp D cy A ad) A) ([.ref (ad 0), .int x1] : List Value).toArray s 0 0 A) (F0 m 56 ls [])) (τ : MS) (x2 : Int32) (x3 : Int32) (H : Heap) (locs : List Loc) (ls : Array Slot) (hf : k_X7_reset_s56 x1 K τ x2 x3 = some (r, τ')) (hw : zw D A ad (mG cy ad τ) H) (hS : va_S A s.heap H locs) (hl : lv_has ls 4 [(0, .ref (ad 0)), (1, .int x1), (2, .int x2), (3, .int x3)]), W p l e (headSpec (wz yX7_reset cX7_reset 4 (some .int)) ({ frames := 2, cells := 0, slots := 0, locals := 43 } : Room)).room s m ([.ref (ad 0), .int x1] : List Value).toArray below meth c H locs 0 0 (MQ below (va_Qi (fun (r' : Int32) (u : MS) => r' = r ∧ u = τ') (MWp D cy A ad) A) ([.ref (ad 0), .int x1] : List Value).toArray s 0 0 A) (F0 m 56 ls []) := by
    intro K hKK τ x2 x3 H locs ls hf hw hS hl
    rw [k_X7_reset_s56] at hf
    refine lv_iload_n hx hb dX7_reset_56 rfl (lv_at hl 3 rfl) ?_
    refine lv_aload_n hx hb dX7_reset_57 rfl (lv_at hl 0 rfl) ?_
    refine mr_get S h7 hK hw 5 (by decide) (wz_in (zin8 _ (List.mem_of_getElem? (i := 13) rfl))) rfl rfl dX7_reset_58 ?_
    refine lv_icmp_gt (tgt := 100) hx hb dX7_reset_61 (by decide) (fun c_23 => ?_) (fun c_23 => ?_)
    · have hf := (zi_t c_23).symm.trans hf
      refine lv_iload_n hx hb dX7_reset_100 rfl (lv_at hl 2 rfl) ?_
      exact mw_reti S hr hf hw hS hlocks dX7_reset_101
    · have hf := (zi_f c_23).symm.trans hf
      refine lv_aload_n hx hb dX7_reset_64 rfl (lv_at hl 0 rfl) ?_
      refine mr_get S h7 hK hw 21 (by decide) (wz_in (zin4 _ (List.mem_of_getElem? (i := 4) rfl))) rfl rfl dX7_reset_65 ?_
      refine lv_iload_n hx hb dX7_reset_68 rfl (lv_at hl 1 rfl) ?_
      refine lv_iload_n hx hb dX7_reset_69 rfl (lv_at hl 3 rfl) ?_
      obtain ⟨r_24, t_25, e_26, hf⟩ := zb_inv hf
      refine mw_si (As := [.int x1, .int x3]) (rest := [.ref (ad 21)]) (n := 2) S (kc_X7_at l D cy A ad _ _ _ _ _ e_26) (wz_S (zin10 _ (List.mem_of_getElem? (i := 18) rfl)) (zin10 _ (List.mem_of_getElem? (i := 16) rfl)) (zin10 _ (List.mem_of_getElem? (i := 17) rfl)) (zin1 _ (List.mem_of_getElem? (i := 5) rfl))) rfl ⟨rfl, rfl⟩ (by decide +kernel) ⟨Nat.le_of_ble_eq_true rfl, Nat.le_of_ble_eq_true rfl⟩ rfl hl.1 rfl (Nat.le_of_ble_eq_true rfl) hK hw hS dX7_reset_70 ⟨Nat.zero_le _, Nat.zero_le _⟩ (fun H locs hw hS => ?_)
      obtain ⟨g_27, hf⟩ := zg_inv hf
      refine mr_iald S hK hw 21 rfl g_27 dX7_reset_73 ?_
      refine lv_if_ne (tgt := 80) hx hb dX7_reset_74 (by decide) (fun c_28 => ?_) (fun c_28 => ?_)
      · have hf := (zi_f c_28).symm.trans hf
        refine lv_aload_n hx hb dX7_reset_80 rfl (lv_at hl 0 rfl) ?_
        refine lv_iload_n hx hb dX7_reset_81 rfl (lv_at hl 1 rfl) ?_
        refine lv_iload_n hx hb dX7_reset_82 rfl (lv_at hl 3 rfl) ?_
        obtain ⟨r_29, t_30, e_31, hf⟩ := zb_inv hf
        refine mw_si (As := [.int x1, .int x3]) (rest := [.ref (ad 0)]) (n := 2) S (kc_X7_at l D cy A ad _ _ _ _ _ e_31) (wz_S (zin10 _ (List.mem_of_getElem? (i := 18) rfl)) (zin10 _ (List.mem_of_getElem? (i := 16) rfl)) (zin10 _ (List.mem_of_getElem? (i := 17) rfl)) (zin1 _ (List.mem_of_getElem? (i := 5) rfl))) rfl ⟨rfl, rfl⟩ (by decide +kernel) ⟨Nat.le_of_ble_eq_true rfl, Nat.le_of_ble_eq_true rfl⟩ rfl hl.1 rfl (Nat.le_of_ble_eq_true rfl) hK hw hS dX7_reset_83 ⟨Nat.zero_le _, Nat.zero_le _⟩ (fun H locs hw hS => ?_)
        refine lv_iload_n hx hb dX7_reset_86 rfl (lv_at hl 3 rfl) ?_
        refine lv_iconst (v := (0 : Int32)) hx hb dX7_reset_87 (by decide) ?_
        obtain ⟨⟨⟩, t_33, e_34, hf⟩ := zb_inv hf
        refine mw_cv (As := [.int r_29, .int x3, .int (0 : Int32)]) (rest := []) (n := 3) S (kc_X7_renew l D cy A ad _ _ _ _ _ e_34) (wz_V (zin10 _ (List.mem_of_getElem? (i := 22) rfl)) (zin10 _ (List.mem_of_getElem? (i := 19) rfl)) (zin10 _ (List.mem_of_getElem? (i := 20) rfl)) (zin10 _ (List.mem_of_getElem? (i := 21) rfl)) (zin1 _ (List.mem_of_getElem? (i := 5) rfl))) rfl ⟨rfl, rfl⟩ (by decide +kernel) ⟨Nat.le_of_ble_eq_true rfl, Nat.le_of_ble_eq_true rfl⟩ rfl hl.1 rfl (Nat.le_of_ble_eq_true rfl) hK hw hS dX7_reset_88 ⟨Nat.zero_le _, Nat.zero_le _⟩ (fun H locs hw hS => ?_)
        refine lv_iinc (v := x2 + (1 : Int32)) (lv' := [(2, .int (x2 + (1 : Int32))), (0, .ref (ad 0)), (1, .int x1), (3, .int x3)]) hx hb dX7_reset_91 hl (k := 2) rfl rfl (by decide) rfl (fun ls hl => ?_)
        exact B94 K hKK _ _ _ _ _ _ hf hw hS (lv_sub hl [1, 2, 0, 3] rfl)
      · have hf := (zi_t c_28).symm.trans hf
        refine lv_goto (tgt := 94) hx hb dX7_reset_77 (by decide) ?_
        exact B94 K hKK _ _ _ _ _ _ hf hw hS (lv_sub hl [0, 1, 2, 3] rfl)
  have L56 : ∀ (n : Nat) (τ : MS) (x2 : Int32) (x3 : Int32) (H : Heap) (locs : List Loc) (ls : Array Slot) (hf : k_X7_reset_l56 x1 n τ x2 x3 = some (r, τ')) (hw : zw D A ad (mG cy ad τ) H) (hS : va_S A s.heap H locs) (hl : lv_has ls 4 [(0, .ref (ad 0)), (1, .int x1), (2, .int x2), (3, .int x3)]), W p l e (headSpec (wz yX7_reset cX7_reset 4 (some .int)) ({ frames := 2, cells := 0, slots := 0, locals := 43 } : Room)).room s m ([.ref (ad 0), .int x1] : List Value).toArray below meth c H locs 0 0 (MQ below (va_Qi (fun (r' : Int32) (u : MS) => r' = r ∧ u = τ') (MWp D cy A ad) A) ([.ref (ad 0), .int x1] : List Value).toArray s 0 0 A) (F0 m 56 ls []) := by
    intro n
    induction n with
    | zero =>
      intro τ x2 x3 H locs ls hf hw hS hl
      rw [k_X7_reset_l56_z] at hf
      cases hf
    | succ n ih =>
      intro τ x2 x3 H locs ls hf hw hS hl
      rw [k_X7_reset_l56_s] at hf
      exact S56 (k_X7_reset_l56 x1 n) ih τ x2 x3 H locs ls hf hw hS hl
  have S28 : ∀ (K : MS → Int32 → Option (Int32 × MS)) (_hKK : ∀ (τ : MS) (x2 : Int32) (H : Heap) (locs : List Loc) (ls : Array Slot) (hf : K τ x2 = some (r, τ')) (hw : zw D A ad (mG cy ad τ) H) (hS : va_S A s.heap H locs) (hl : lv_has ls 4 [(0, .ref (ad 0)), (1, .int x1), (2, .int x2)]), W p l e (headSpec (wz yX7_reset cX7_reset 4 (some .int)) ({ frames := 2, cells := 0, slots := 0, locals := 43 } : Room)).room s m ([.ref (ad 0), .int x1] : List Value).toArray below meth c H locs 0 0 (MQ below (va_Qi (fun (r' : Int32) (u : MS) => r' = r ∧ u = τ') (MWp D cy A ad) A) ([.ref (ad 0), .int x1] : List Value).toArray s 0 0 A) (F0 m 28 ls [])) (τ : MS) (x2 : Int32) (H : Heap) (locs : List Loc) (ls : Array Slot) (hf : k_X7_reset_s28 x1 K τ x2 = some (r, τ')) (hw : zw D A ad (mG cy ad τ) H) (hS : va_S A s.heap H locs) (hl : lv_has ls 4 [(0, .ref (ad 0)), (1, .int x1), (2, .int x2)]), W p l e (headSpec (wz yX7_reset cX7_reset 4 (some .int)) ({ frames := 2, cells := 0, slots := 0, locals := 43 } : Room)).room s m ([.ref (ad 0), .int x1] : List Value).toArray below meth c H locs 0 0 (MQ below (va_Qi (fun (r' : Int32) (u : MS) => r' = r ∧ u = τ') (MWp D cy A ad) A) ([.ref (ad 0), .int x1] : List Value).toArray s 0 0 A) (F0 m 28 ls []) := by
    intro K hKK τ x2 H locs ls hf hw hS hl
    rw [k_X7_reset_s28] at hf
    refine lv_iload_n hx hb dX7_reset_28 rfl (lv_at hl 2 rfl) ?_
    refine lv_bipush (v := (8 : Int32)) hx hb dX7_reset_29 (by decide) ?_
    refine lv_icmp_ge (tgt := 52) hx hb dX7_reset_31 (by decide) (fun c_35 => ?_) (fun c_35 => ?_)
    · have hf := (zi_t c_35).symm.trans hf
      refine lv_iconst (v := (0 : Int32)) hx hb dX7_reset_52 (by decide) ?_
      refine lv_istore_n (lv' := [(2, .int (0 : Int32)), (0, .ref (ad 0)), (1, .int x1)]) hx hb dX7_reset_53 rfl hl (by decide) rfl (fun ls hl => ?_)
      refine lv_iconst (v := (1 : Int32)) hx hb dX7_reset_54 (by decide) ?_
      refine lv_istore_n (lv' := [(3, .int (1 : Int32)), (2, .int (0 : Int32)), (0, .ref (ad 0)), (1, .int x1)]) hx hb dX7_reset_55 rfl hl (by decide) rfl (fun ls hl => ?_)
      exact L56 FU _ _ _ _ _ _ hf hw hS (lv_sub hl [2, 3, 1, 0] rfl)
    · have hf := (zi_f c_35).symm.trans hf
      refine lv_aload_n hx hb dX7_reset_34 rfl (lv_at hl 0 rfl) ?_
      refine mr_get S h7 hK hw 13 (by decide) (wz_in (zin3 _ (List.mem_of_getElem? (i := 19) rfl))) rfl rfl dX7_reset_35 ?_
      refine lv_bipush (v := (8 : Int32)) hx hb dX7_reset_38 (by decide) ?_
      refine lv_iload_n hx hb dX7_reset_40 rfl (lv_at hl 1 rfl) ?_
      refine lv_imul hx hb dX7_reset_41 ?_
      refine lv_iload_n hx hb dX7_reset_42 rfl (lv_at hl 2 rfl) ?_
      refine lv_iadd hx hb dX7_reset_43 ?_
      refine lv_lconst (v := (0 : Int64)) hx hb dX7_reset_44 (by decide) ?_
      obtain ⟨g_36, hf⟩ := zg_inv hf
      refine mr_last S hK hw hS 13 rfl g_36 rfl dX7_reset_45 (fun H locs hw hS => ?_)
      refine lv_iinc (v := x2 + (1 : Int32)) (lv' := [(2, .int (x2 + (1 : Int32))), (0, .ref (ad 0)), (1, .int x1)]) hx hb dX7_reset_46 hl (k := 2) rfl rfl (by decide) rfl (fun ls hl => ?_)
      refine lv_goto (tgt := 28) hx hb dX7_reset_49 (by decide) ?_
      exact hKK _ _ _ _ _ hf hw hS (lv_sub hl [1, 2, 0] rfl)
  have L28 : ∀ (n : Nat) (τ : MS) (x2 : Int32) (H : Heap) (locs : List Loc) (ls : Array Slot) (hf : k_X7_reset_l28 x1 n τ x2 = some (r, τ')) (hw : zw D A ad (mG cy ad τ) H) (hS : va_S A s.heap H locs) (hl : lv_has ls 4 [(0, .ref (ad 0)), (1, .int x1), (2, .int x2)]), W p l e (headSpec (wz yX7_reset cX7_reset 4 (some .int)) ({ frames := 2, cells := 0, slots := 0, locals := 43 } : Room)).room s m ([.ref (ad 0), .int x1] : List Value).toArray below meth c H locs 0 0 (MQ below (va_Qi (fun (r' : Int32) (u : MS) => r' = r ∧ u = τ') (MWp D cy A ad) A) ([.ref (ad 0), .int x1] : List Value).toArray s 0 0 A) (F0 m 28 ls []) := by
    intro n
    induction n with
    | zero =>
      intro τ x2 H locs ls hf hw hS hl
      rw [k_X7_reset_l28_z] at hf
      cases hf
    | succ n ih =>
      intro τ x2 H locs ls hf hw hS hl
      rw [k_X7_reset_l28_s] at hf
      exact S28 (k_X7_reset_l28 x1 n) ih τ x2 H locs ls hf hw hS hl
  rw [k_X7_reset] at hf
  refine lv_aload_n hx hb dX7_reset_0 rfl (lv_at hl 0 rfl) ?_
  refine lv_iconst (v := (0 : Int32)) hx hb dX7_reset_1 (by decide) ?_
  refine mr_put S h7 hK hw hS 0 (by decide) (wz_in (zin5 _ (List.mem_of_getElem? (i := 8) rfl))) rfl rfl rfl (mput_0 _ _ _ _) dX7_reset_2 (fun H locs hw hS => ?_)
  refine lv_aload_n hx hb dX7_reset_5 rfl (lv_at hl 0 rfl) ?_
  refine lv_iload_n hx hb dX7_reset_6 rfl (lv_at hl 1 rfl) ?_
  obtain ⟨r_37, t_38, e_39, hf⟩ := zb_inv hf
  refine mw_ci (As := [.int x1]) (rest := []) (n := 1) S (kc_X7_isController l D cy A ad _ _ _ _ e_39) (wz_V (zin10 _ (List.mem_of_getElem? (i := 11) rfl)) (zin10 _ (List.mem_of_getElem? (i := 8) rfl)) (zin10 _ (List.mem_of_getElem? (i := 9) rfl)) (zin10 _ (List.mem_of_getElem? (i := 10) rfl)) (zin1 _ (List.mem_of_getElem? (i := 5) rfl))) rfl ⟨rfl, rfl⟩ (by decide +kernel) ⟨Nat.le_of_ble_eq_true rfl, Nat.le_of_ble_eq_true rfl⟩ rfl hl.1 rfl (Nat.le_of_ble_eq_true rfl) hK hw hS dX7_reset_7 ⟨Nat.zero_le _, Nat.zero_le _⟩ (fun H locs hw hS => ?_)
  refine lv_if_ne (tgt := 19) hx hb dX7_reset_10 (by decide) (fun c_40 => ?_) (fun c_40 => ?_)
  · have hf := (zi_f c_40).symm.trans hf
    refine lv_aload_n hx hb dX7_reset_19 rfl (lv_at hl 0 rfl) ?_
    refine mr_get S h7 hK hw 14 (by decide) (wz_in (zin3 _ (List.mem_of_getElem? (i := 21) rfl))) rfl rfl dX7_reset_20 ?_
    refine lv_iload_n hx hb dX7_reset_23 rfl (lv_at hl 1 rfl) ?_
    refine lv_iconst (v := (0 : Int32)) hx hb dX7_reset_24 (by decide) ?_
    obtain ⟨g_41, hf⟩ := zg_inv hf
    refine mr_zast S hK hw hS 14 rfl g_41 rfl dX7_reset_25 (fun H locs hw hS => ?_)
    refine lv_iconst (v := (0 : Int32)) hx hb dX7_reset_26 (by decide) ?_
    refine lv_istore_n (lv' := [(2, .int (0 : Int32)), (0, .ref (ad 0)), (1, .int x1)]) hx hb dX7_reset_27 rfl hl (by decide) rfl (fun ls hl => ?_)
    exact L28 FU _ _ _ _ _ hf hw hS (lv_sub hl [1, 2, 0] rfl)
  · have hf := (zi_t c_40).symm.trans hf
    refine lv_aload_n hx hb dX7_reset_13 rfl (lv_at hl 0 rfl) ?_
    refine lv_iconst (v := (-1 : Int32)) hx hb dX7_reset_14 (by decide) ?_
    obtain ⟨r_42, t_43, e_44, hf⟩ := zb_inv hf
    refine mw_ci (As := [.int (-1 : Int32)]) (rest := []) (n := 1) S (kc_X7_refuse l D cy A ad _ _ _ _ e_44) (wz_V (zin5 _ (List.mem_of_getElem? (i := 16) rfl)) (zin5 _ (List.mem_of_getElem? (i := 13) rfl)) (zin5 _ (List.mem_of_getElem? (i := 14) rfl)) (zin5 _ (List.mem_of_getElem? (i := 15) rfl)) (zin1 _ (List.mem_of_getElem? (i := 5) rfl))) rfl ⟨rfl, rfl⟩ (by decide +kernel) ⟨Nat.le_of_ble_eq_true rfl, Nat.le_of_ble_eq_true rfl⟩ rfl hl.1 rfl (Nat.le_of_ble_eq_true rfl) hK hw hS dX7_reset_15 ⟨Nat.zero_le _, Nat.zero_le _⟩ (fun H locs hw hS => ?_)
    exact mw_reti S hr hf hw hS hlocks dX7_reset_18
noncomputable def k_X7_fault_b109 (x1 : Int32) (x2 : Int32) (τ : MS) (y0 : Int32) : Option (Int32 × MS) := some (y0, τ)
noncomputable def k_X7_fault (τ : MS) (x1 : Int32) (x2 : Int32) : Option (Int32 × MS) := zb (k_X7_isController (mI τ 0 (0 : Int32)) x1) (fun r_25 t_26 => zi (r_25 = 0) (zb (k_X7_refuse t_26 (-1 : Int32)) (fun r_46 t_47 => some (r_46, t_47))) (zs (x2) (fun w_29 => zi (w_29 = 0) (zg (vp_in x1 8) (some (mr t_26 16 x1.toNatClampNeg, t_26))) (zi (w_29 = 1) (zg (vp_in x1 8) (some (mr t_26 17 x1.toNatClampNeg, t_26))) (zi (w_29 = 2) (zg (vp_in x1 8) (some (mr t_26 18 x1.toNatClampNeg, t_26))) (zi (w_29 = 3) (zg (vp_in x1 8) (some (mr t_26 19 x1.toNatClampNeg, t_26))) (zi (w_29 = 4) (zg (vp_in x1 8) (some (mr t_26 20 x1.toNatClampNeg, t_26))) (zi (w_29 = 5) (zg (vp_in x1 8) (zi ((mr t_26 14 x1.toNatClampNeg) = 0) (k_X7_fault_b109 x1 x2 t_26 (0 : Int32)) (k_X7_fault_b109 x1 x2 t_26 (1 : Int32)))) (zb (k_X7_refuse t_26 (-2 : Int32)) (fun r_43 t_44 => some (r_43, t_44)))))))))))
set_option maxHeartbeats 4000000 in
set_option maxRecDepth 100000 in
theorem kc_X7_fault (l : Launch) (D : va_G) (cy : Nat → ClassId) (A : Nat → Prop) (ad : Nat → Nat) (τ τ' : MS) (x1 : Int32) (x2 : Int32) (r : Int32) (hf : k_X7_fault τ x1 x2 = some (r, τ')) : Met l yX7_fault (wz yX7_fault cX7_fault 3 (some .int)) ({ frames := 2, cells := 0, slots := 0, locals := 43 } : Room) (va_Pc [.ref (ad 0), .int x1, .int x2] (MWs D cy A ad τ)) (va_Qi (fun (r' : Int32) (u : MS) => r' = r ∧ u = τ') (MWp D cy A ad) A) 0 0 A := by
  refine Met.ofW (cc := cX7_fault) (maxL := 3) (ret := (some .int)) (by decide) rfl ?_
  intro p e s m args below meth c s₁ B hml hv
  obtain ⟨rfl, hw, hK⟩ := hv
  have hx := B.exec
  have hb := B.bytes
  have hr := B.returns
  have hts := atoms_spec (ws := (wz yX7_fault cX7_fault 3 (some .int))) B.pre
  have hown : s.vm.findClass RX7 = some m.cls := findClass_of_methodNamed B.named
  have hlocks := B.notSynchronized
  have S : CallFix p m c cX7_fault 3 s ([.ref (ad 0), .int x1, .int x2] : List Value).toArray (wz yX7_fault cX7_fault 3 (some .int)) RX7 := ⟨hx, hb, hml, hown, hts⟩
  have h7 : ∀ w ∈ wsX70, w ∈ (wz yX7_fault cX7_fault 3 (some .int)) := fun w h => wz_in (inlX7 w h)
  have hS : va_S A s.heap s.heap [] := va_S.rf
  have hl := lv_entry ([.ref (ad 0), .int x1, .int x2]) (n := 3) (Nat.le_of_ble_eq_true rfl)
  rw [lg_entry_eq]
  generalize (lg_sl ([.ref (ad 0), .int x1, .int x2]) ++ List.replicate (3 - (lg_sl ([.ref (ad 0), .int x1, .int x2])).length) Slot.unset).toArray = ls at hl ⊢
  have hl : lv_has ls 3 [(0, .ref (ad 0)), (1, .int x1), (2, .int x2)] := hl
  have B109 : ∀ (τ : MS) (y0 : Int32) (H : Heap) (locs : List Loc) (ls : Array Slot) (hf : k_X7_fault_b109 x1 x2 τ y0 = some (r, τ')) (hw : zw D A ad (mG cy ad τ) H) (hS : va_S A s.heap H locs) (hl : lv_has ls 3 [(0, .ref (ad 0)), (1, .int x1), (2, .int x2)]), W p l e (headSpec (wz yX7_fault cX7_fault 3 (some .int)) ({ frames := 2, cells := 0, slots := 0, locals := 43 } : Room)).room s m ([.ref (ad 0), .int x1, .int x2] : List Value).toArray below meth c H locs 0 0 (MQ below (va_Qi (fun (r' : Int32) (u : MS) => r' = r ∧ u = τ') (MWp D cy A ad) A) ([.ref (ad 0), .int x1, .int x2] : List Value).toArray s 0 0 A) (F0 m 109 ls [.int y0]) := by
    intro τ y0 H locs ls hf hw hS hl
    rw [k_X7_fault_b109] at hf
    exact mw_reti S hr hf hw hS hlocks dX7_fault_109
  rw [k_X7_fault] at hf
  refine lv_aload_n hx hb dX7_fault_0 rfl (lv_at hl 0 rfl) ?_
  refine lv_iconst (v := (0 : Int32)) hx hb dX7_fault_1 (by decide) ?_
  refine mr_put S h7 hK hw hS 0 (by decide) (wz_in (zin5 _ (List.mem_of_getElem? (i := 8) rfl))) rfl rfl rfl (mput_0 _ _ _ _) dX7_fault_2 (fun H locs hw hS => ?_)
  refine lv_aload_n hx hb dX7_fault_5 rfl (lv_at hl 0 rfl) ?_
  refine lv_iload_n hx hb dX7_fault_6 rfl (lv_at hl 1 rfl) ?_
  obtain ⟨r_25, t_26, e_27, hf⟩ := zb_inv hf
  refine mw_ci (As := [.int x1]) (rest := []) (n := 1) S (kc_X7_isController l D cy A ad _ _ _ _ e_27) (wz_V (zin10 _ (List.mem_of_getElem? (i := 11) rfl)) (zin10 _ (List.mem_of_getElem? (i := 8) rfl)) (zin10 _ (List.mem_of_getElem? (i := 9) rfl)) (zin10 _ (List.mem_of_getElem? (i := 10) rfl)) (zin1 _ (List.mem_of_getElem? (i := 5) rfl))) rfl ⟨rfl, rfl⟩ (by decide +kernel) ⟨Nat.le_of_ble_eq_true rfl, Nat.le_of_ble_eq_true rfl⟩ rfl hl.1 rfl (Nat.le_of_ble_eq_true rfl) hK hw hS dX7_fault_7 ⟨Nat.zero_le _, Nat.zero_le _⟩ (fun H locs hw hS => ?_)
  refine lv_if_ne (tgt := 19) hx hb dX7_fault_10 (by decide) (fun c_28 => ?_) (fun c_28 => ?_)
  · have hf := (zi_f c_28).symm.trans hf
    refine lv_iload_n hx hb dX7_fault_19 rfl (lv_at hl 2 rfl) ?_
    refine lv_topi (fun w_29 ew_29 => ?_)
    have hf := (zs_e ew_29).symm.trans hf
    by_cases c_30 : w_29 = 0
    · have hf := (zi_t c_30).symm.trans hf
      refine lv_tableIn (tgt := 60) hx hb dX7_fault_20 (by rw [c_30]; decide) (by rw [c_30]; decide) (by rw [c_30]; rfl) (by decide) ?_
      refine lv_aload_n hx hb dX7_fault_60 rfl (lv_at hl 0 rfl) ?_
      refine mr_get S h7 hK hw 16 (by decide) (wz_in (zin3 _ (List.mem_of_getElem? (i := 23) rfl))) rfl rfl dX7_fault_61 ?_
      refine lv_iload_n hx hb dX7_fault_64 rfl (lv_at hl 1 rfl) ?_
      obtain ⟨g_31, hf⟩ := zg_inv hf
      refine mr_iald S hK hw 16 rfl g_31 dX7_fault_65 ?_
      exact mw_reti S hr hf hw hS hlocks dX7_fault_66
    have hf := (zi_f c_30).symm.trans hf
    by_cases c_32 : w_29 = 1
    · have hf := (zi_t c_32).symm.trans hf
      refine lv_tableIn (tgt := 67) hx hb dX7_fault_20 (by rw [c_32]; decide) (by rw [c_32]; decide) (by rw [c_32]; rfl) (by decide) ?_
      refine lv_aload_n hx hb dX7_fault_67 rfl (lv_at hl 0 rfl) ?_
      refine mr_get S h7 hK hw 17 (by decide) (wz_in (zin4 _ (List.mem_of_getElem? (i := 0) rfl))) rfl rfl dX7_fault_68 ?_
      refine lv_iload_n hx hb dX7_fault_71 rfl (lv_at hl 1 rfl) ?_
      obtain ⟨g_33, hf⟩ := zg_inv hf
      refine mr_iald S hK hw 17 rfl g_33 dX7_fault_72 ?_
      exact mw_reti S hr hf hw hS hlocks dX7_fault_73
    have hf := (zi_f c_32).symm.trans hf
    by_cases c_34 : w_29 = 2
    · have hf := (zi_t c_34).symm.trans hf
      refine lv_tableIn (tgt := 74) hx hb dX7_fault_20 (by rw [c_34]; decide) (by rw [c_34]; decide) (by rw [c_34]; rfl) (by decide) ?_
      refine lv_aload_n hx hb dX7_fault_74 rfl (lv_at hl 0 rfl) ?_
      refine mr_get S h7 hK hw 18 (by decide) (wz_in (zin4 _ (List.mem_of_getElem? (i := 1) rfl))) rfl rfl dX7_fault_75 ?_
      refine lv_iload_n hx hb dX7_fault_78 rfl (lv_at hl 1 rfl) ?_
      obtain ⟨g_35, hf⟩ := zg_inv hf
      refine mr_iald S hK hw 18 rfl g_35 dX7_fault_79 ?_
      exact mw_reti S hr hf hw hS hlocks dX7_fault_80
    have hf := (zi_f c_34).symm.trans hf
    by_cases c_36 : w_29 = 3
    · have hf := (zi_t c_36).symm.trans hf
      refine lv_tableIn (tgt := 81) hx hb dX7_fault_20 (by rw [c_36]; decide) (by rw [c_36]; decide) (by rw [c_36]; rfl) (by decide) ?_
      refine lv_aload_n hx hb dX7_fault_81 rfl (lv_at hl 0 rfl) ?_
      refine mr_get S h7 hK hw 19 (by decide) (wz_in (zin4 _ (List.mem_of_getElem? (i := 2) rfl))) rfl rfl dX7_fault_82 ?_
      refine lv_iload_n hx hb dX7_fault_85 rfl (lv_at hl 1 rfl) ?_
      obtain ⟨g_37, hf⟩ := zg_inv hf
      refine mr_iald S hK hw 19 rfl g_37 dX7_fault_86 ?_
      exact mw_reti S hr hf hw hS hlocks dX7_fault_87
    have hf := (zi_f c_36).symm.trans hf
    by_cases c_38 : w_29 = 4
    · have hf := (zi_t c_38).symm.trans hf
      refine lv_tableIn (tgt := 88) hx hb dX7_fault_20 (by rw [c_38]; decide) (by rw [c_38]; decide) (by rw [c_38]; rfl) (by decide) ?_
      refine lv_aload_n hx hb dX7_fault_88 rfl (lv_at hl 0 rfl) ?_
      refine mr_get S h7 hK hw 20 (by decide) (wz_in (zin4 _ (List.mem_of_getElem? (i := 3) rfl))) rfl rfl dX7_fault_89 ?_
      refine lv_iload_n hx hb dX7_fault_92 rfl (lv_at hl 1 rfl) ?_
      obtain ⟨g_39, hf⟩ := zg_inv hf
      refine mr_iald S hK hw 20 rfl g_39 dX7_fault_93 ?_
      exact mw_reti S hr hf hw hS hlocks dX7_fault_94
    have hf := (zi_f c_38).symm.trans hf
    by_cases c_40 : w_29 = 5
    · have hf := (zi_t c_40).symm.trans hf
      refine lv_tableIn (tgt := 95) hx hb dX7_fault_20 (by rw [c_40]; decide) (by rw [c_40]; decide) (by rw [c_40]; rfl) (by decide) ?_
      refine lv_aload_n hx hb dX7_fault_95 rfl (lv_at hl 0 rfl) ?_
      refine mr_get S h7 hK hw 14 (by decide) (wz_in (zin3 _ (List.mem_of_getElem? (i := 21) rfl))) rfl rfl dX7_fault_96 ?_
      refine lv_iload_n hx hb dX7_fault_99 rfl (lv_at hl 1 rfl) ?_
      obtain ⟨g_41, hf⟩ := zg_inv hf
      refine mr_zald S hK hw 14 rfl g_41 dX7_fault_100 ?_
      refine lv_if_eq (tgt := 108) hx hb dX7_fault_101 (by decide) (fun c_42 => ?_) (fun c_42 => ?_)
      · have hf := (zi_t c_42).symm.trans hf
        refine lv_iconst (v := (0 : Int32)) hx hb dX7_fault_108 (by decide) ?_
        exact B109 _ _ _ _ _ hf hw hS (lv_sub hl [0, 1, 2] rfl)
      · have hf := (zi_f c_42).symm.trans hf
        refine lv_iconst (v := (1 : Int32)) hx hb dX7_fault_104 (by decide) ?_
        refine lv_goto (tgt := 109) hx hb dX7_fault_105 (by decide) ?_
        exact B109 _ _ _ _ _ hf hw hS (lv_sub hl [0, 1, 2] rfl)
    have hf := (zi_f c_40).symm.trans hf
    refine lv_tableOut (tgt := 110) hx hb dX7_fault_20 (zs_out0_5 w_29 c_30 c_32 c_34 c_36 c_38 c_40) (by decide) ?_
    refine lv_aload_n hx hb dX7_fault_110 rfl (lv_at hl 0 rfl) ?_
    refine lv_bipush (v := (-2 : Int32)) hx hb dX7_fault_111 (by decide) ?_
    obtain ⟨r_43, t_44, e_45, hf⟩ := zb_inv hf
    refine mw_ci (As := [.int (-2 : Int32)]) (rest := []) (n := 1) S (kc_X7_refuse l D cy A ad _ _ _ _ e_45) (wz_V (zin5 _ (List.mem_of_getElem? (i := 16) rfl)) (zin5 _ (List.mem_of_getElem? (i := 13) rfl)) (zin5 _ (List.mem_of_getElem? (i := 14) rfl)) (zin5 _ (List.mem_of_getElem? (i := 15) rfl)) (zin1 _ (List.mem_of_getElem? (i := 5) rfl))) rfl ⟨rfl, rfl⟩ (by decide +kernel) ⟨Nat.le_of_ble_eq_true rfl, Nat.le_of_ble_eq_true rfl⟩ rfl hl.1 rfl (Nat.le_of_ble_eq_true rfl) hK hw hS dX7_fault_113 ⟨Nat.zero_le _, Nat.zero_le _⟩ (fun H locs hw hS => ?_)
    exact mw_reti S hr hf hw hS hlocks dX7_fault_116
  · have hf := (zi_t c_28).symm.trans hf
    refine lv_aload_n hx hb dX7_fault_13 rfl (lv_at hl 0 rfl) ?_
    refine lv_iconst (v := (-1 : Int32)) hx hb dX7_fault_14 (by decide) ?_
    obtain ⟨r_46, t_47, e_48, hf⟩ := zb_inv hf
    refine mw_ci (As := [.int (-1 : Int32)]) (rest := []) (n := 1) S (kc_X7_refuse l D cy A ad _ _ _ _ e_48) (wz_V (zin5 _ (List.mem_of_getElem? (i := 16) rfl)) (zin5 _ (List.mem_of_getElem? (i := 13) rfl)) (zin5 _ (List.mem_of_getElem? (i := 14) rfl)) (zin5 _ (List.mem_of_getElem? (i := 15) rfl)) (zin1 _ (List.mem_of_getElem? (i := 5) rfl))) rfl ⟨rfl, rfl⟩ (by decide +kernel) ⟨Nat.le_of_ble_eq_true rfl, Nat.le_of_ble_eq_true rfl⟩ rfl hl.1 rfl (Nat.le_of_ble_eq_true rfl) hK hw hS dX7_fault_15 ⟨Nat.zero_le _, Nat.zero_le _⟩ (fun H locs hw hS => ?_)
    exact mw_reti S hr hf hw hS hlocks dX7_fault_18
noncomputable def k_X7_same_b113 (x1 : Int32) (x2 : Int32) (x3 : Int32) (K : MS → Int32 → Int32 → Int32 → Int32 → Option (Int32 × MS)) (τ : MS) (y0 : Int32) (x4 : Int32) (x5 : Int32) (x6 : Int32) (x7 : Int32) : Option (Int32 × MS) := K τ x4 x5 y0 (x7 + (1 : Int32))
noncomputable def k_X7_same_b112 (x1 : Int32) (x2 : Int32) (x3 : Int32) (K : MS → Int32 → Int32 → Int32 → Int32 → Option (Int32 × MS)) (τ : MS) (x4 : Int32) (x5 : Int32) (x6 : Int32) (x7 : Int32) : Option (Int32 × MS) := k_X7_same_b113 x1 x2 x3 K τ (0 : Int32) x4 x5 x6 x7
noncomputable def k_X7_same_s66 (x1 : Int32) (x2 : Int32) (x3 : Int32) (K : MS → Int32 → Int32 → Int32 → Int32 → Option (Int32 × MS)) (τ : MS) (x4 : Int32) (x5 : Int32) (x6 : Int32) (x7 : Int32) : Option (Int32 × MS) := zi ((8 : Int32) ≤ x7) (zg (narrow .boolean (.int x6) = .int x6) (some (x6, τ))) (zi (x6 = 0) (k_X7_same_b112 x1 x2 x3 K τ x4 x5 x6 x7) (zg (vp_in (((8 : Int32) * x4) + x7) 1280) (zg (vp_in (((8 : Int32) * x5) + x7) 1280) (zi ((lg_cmp (mj τ 22 (((8 : Int32) * x4) + x7).toNatClampNeg) (mj τ 22 (((8 : Int32) * x5) + x7).toNatClampNeg)) = 0) (k_X7_same_b113 x1 x2 x3 K τ (1 : Int32) x4 x5 x6 x7) (k_X7_same_b112 x1 x2 x3 K τ x4 x5 x6 x7)))))
noncomputable def k_X7_same_l66 (x1 : Int32) (x2 : Int32) (x3 : Int32) : Nat → MS → Int32 → Int32 → Int32 → Int32 → Option (Int32 × MS)
  | 0 => fun _ _ _ _ _ => none
  | n + 1 => fun τ x4 x5 x6 x7 => k_X7_same_s66 x1 x2 x3 (k_X7_same_l66 x1 x2 x3 n) τ x4 x5 x6 x7
theorem k_X7_same_l66_s (x1 : Int32) (x2 : Int32) (x3 : Int32) (n : Nat) (τ : MS) (x4 : Int32) (x5 : Int32) (x6 : Int32) (x7 : Int32) : k_X7_same_l66 x1 x2 x3 (n + 1) τ x4 x5 x6 x7 = k_X7_same_s66 x1 x2 x3 (k_X7_same_l66 x1 x2 x3 n) τ x4 x5 x6 x7 := rfl
theorem k_X7_same_l66_z (x1 : Int32) (x2 : Int32) (x3 : Int32) (τ : MS) (x4 : Int32) (x5 : Int32) (x6 : Int32) (x7 : Int32) : k_X7_same_l66 x1 x2 x3 0 τ x4 x5 x6 x7 = none := rfl
noncomputable def k_X7_same_b61 (x1 : Int32) (x2 : Int32) (x3 : Int32) (τ : MS) (y0 : Int32) (x4 : Int32) (x5 : Int32) : Option (Int32 × MS) := k_X7_same_l66 x1 x2 x3 FU τ x4 x5 y0 (0 : Int32)
noncomputable def k_X7_same_b23 (x1 : Int32) (x2 : Int32) (x3 : Int32) (τ : MS) : Option (Int32 × MS) := zg (narrow .boolean (.int (0 : Int32)) = .int (0 : Int32)) (some ((0 : Int32), τ))
noncomputable def k_X7_same (τ : MS) (x1 : Int32) (x2 : Int32) (x3 : Int32) : Option (Int32 × MS) := zb (k_X7_hasClass (mI τ 0 (0 : Int32)) x1 x3) (fun r_32 t_33 => zi (r_32 = 0) (k_X7_same_b23 x1 x2 x3 t_33) (zb (k_X7_hasClass t_33 x2 x3) (fun r_36 t_37 => zi (r_36 = 0) (k_X7_same_b23 x1 x2 x3 t_37) (zb (k_X7_at t_37 x1 x3) (fun r_40 t_41 => zb (k_X7_at t_41 x2 x3) (fun r_43 t_44 => zg (vp_in r_40 160) (zg (vp_in r_43 160) (zi ((mr t_44 21 r_40.toNatClampNeg) = (mr t_44 21 r_43.toNatClampNeg)) (k_X7_same_b61 x1 x2 x3 t_44 (1 : Int32) r_40 r_43) (k_X7_same_b61 x1 x2 x3 t_44 (0 : Int32) r_40 r_43)))))))))
set_option maxHeartbeats 4000000 in
set_option maxRecDepth 100000 in
theorem kc_X7_same (l : Launch) (D : va_G) (cy : Nat → ClassId) (A : Nat → Prop) (ad : Nat → Nat) (τ τ' : MS) (x1 : Int32) (x2 : Int32) (x3 : Int32) (r : Int32) (hf : k_X7_same τ x1 x2 x3 = some (r, τ')) : Met l yX7_same (wz yX7_same cX7_same 8 (some .boolean)) ({ frames := 3, cells := 0, slots := 0, locals := 65 } : Room) (va_Pc [.ref (ad 0), .int x1, .int x2, .int x3] (MWs D cy A ad τ)) (va_Qi (fun (r' : Int32) (u : MS) => r' = r ∧ u = τ') (MWp D cy A ad) A) 0 0 A := by
  refine Met.ofW (cc := cX7_same) (maxL := 8) (ret := (some .boolean)) (by decide) rfl ?_
  intro p e s m args below meth c s₁ B hml hv
  obtain ⟨rfl, hw, hK⟩ := hv
  have hx := B.exec
  have hb := B.bytes
  have hr := B.returns
  have hts := atoms_spec (ws := (wz yX7_same cX7_same 8 (some .boolean))) B.pre
  have hown : s.vm.findClass RX7 = some m.cls := findClass_of_methodNamed B.named
  have hlocks := B.notSynchronized
  have S : CallFix p m c cX7_same 8 s ([.ref (ad 0), .int x1, .int x2, .int x3] : List Value).toArray (wz yX7_same cX7_same 8 (some .boolean)) RX7 := ⟨hx, hb, hml, hown, hts⟩
  have h7 : ∀ w ∈ wsX70, w ∈ (wz yX7_same cX7_same 8 (some .boolean)) := fun w h => wz_in (inlX7 w h)
  have hS : va_S A s.heap s.heap [] := va_S.rf
  have hl := lv_entry ([.ref (ad 0), .int x1, .int x2, .int x3]) (n := 8) (Nat.le_of_ble_eq_true rfl)
  rw [lg_entry_eq]
  generalize (lg_sl ([.ref (ad 0), .int x1, .int x2, .int x3]) ++ List.replicate (8 - (lg_sl ([.ref (ad 0), .int x1, .int x2, .int x3])).length) Slot.unset).toArray = ls at hl ⊢
  have hl : lv_has ls 8 [(0, .ref (ad 0)), (1, .int x1), (2, .int x2), (3, .int x3)] := hl
  have B113 : ∀ (K : MS → Int32 → Int32 → Int32 → Int32 → Option (Int32 × MS)) (_hKK : ∀ (τ : MS) (x4 : Int32) (x5 : Int32) (x6 : Int32) (x7 : Int32) (H : Heap) (locs : List Loc) (ls : Array Slot) (hf : K τ x4 x5 x6 x7 = some (r, τ')) (hw : zw D A ad (mG cy ad τ) H) (hS : va_S A s.heap H locs) (hl : lv_has ls 8 [(0, .ref (ad 0)), (1, .int x1), (2, .int x2), (3, .int x3), (4, .int x4), (5, .int x5), (6, .int x6), (7, .int x7)]), W p l e (headSpec (wz yX7_same cX7_same 8 (some .boolean)) ({ frames := 3, cells := 0, slots := 0, locals := 65 } : Room)).room s m ([.ref (ad 0), .int x1, .int x2, .int x3] : List Value).toArray below meth c H locs 0 0 (MQ below (va_Qi (fun (r' : Int32) (u : MS) => r' = r ∧ u = τ') (MWp D cy A ad) A) ([.ref (ad 0), .int x1, .int x2, .int x3] : List Value).toArray s 0 0 A) (F0 m 66 ls [])) (τ : MS) (y0 : Int32) (x4 : Int32) (x5 : Int32) (x6 : Int32) (x7 : Int32) (H : Heap) (locs : List Loc) (ls : Array Slot) (hf : k_X7_same_b113 x1 x2 x3 K τ y0 x4 x5 x6 x7 = some (r, τ')) (hw : zw D A ad (mG cy ad τ) H) (hS : va_S A s.heap H locs) (hl : lv_has ls 8 [(0, .ref (ad 0)), (1, .int x1), (2, .int x2), (3, .int x3), (4, .int x4), (5, .int x5), (6, .int x6), (7, .int x7)]), W p l e (headSpec (wz yX7_same cX7_same 8 (some .boolean)) ({ frames := 3, cells := 0, slots := 0, locals := 65 } : Room)).room s m ([.ref (ad 0), .int x1, .int x2, .int x3] : List Value).toArray below meth c H locs 0 0 (MQ below (va_Qi (fun (r' : Int32) (u : MS) => r' = r ∧ u = τ') (MWp D cy A ad) A) ([.ref (ad 0), .int x1, .int x2, .int x3] : List Value).toArray s 0 0 A) (F0 m 113 ls [.int y0]) := by
    intro K hKK τ y0 x4 x5 x6 x7 H locs ls hf hw hS hl
    rw [k_X7_same_b113] at hf
    refine lv_istore (lv' := [(6, .int y0), (0, .ref (ad 0)), (1, .int x1), (2, .int x2), (3, .int x3), (4, .int x4), (5, .int x5), (7, .int x7)]) hx hb dX7_same_113 hl (by decide) rfl (fun ls hl => ?_)
    refine lv_iinc (v := x7 + (1 : Int32)) (lv' := [(7, .int (x7 + (1 : Int32))), (6, .int y0), (0, .ref (ad 0)), (1, .int x1), (2, .int x2), (3, .int x3), (4, .int x4), (5, .int x5)]) hx hb dX7_same_115 hl (k := 7) rfl rfl (by decide) rfl (fun ls hl => ?_)
    refine lv_goto (tgt := 66) hx hb dX7_same_118 (by decide) ?_
    exact hKK _ _ _ _ _ _ _ _ hf hw hS (lv_sub hl [2, 3, 4, 5, 6, 7, 1, 0] rfl)
  have B112 : ∀ (K : MS → Int32 → Int32 → Int32 → Int32 → Option (Int32 × MS)) (_hKK : ∀ (τ : MS) (x4 : Int32) (x5 : Int32) (x6 : Int32) (x7 : Int32) (H : Heap) (locs : List Loc) (ls : Array Slot) (hf : K τ x4 x5 x6 x7 = some (r, τ')) (hw : zw D A ad (mG cy ad τ) H) (hS : va_S A s.heap H locs) (hl : lv_has ls 8 [(0, .ref (ad 0)), (1, .int x1), (2, .int x2), (3, .int x3), (4, .int x4), (5, .int x5), (6, .int x6), (7, .int x7)]), W p l e (headSpec (wz yX7_same cX7_same 8 (some .boolean)) ({ frames := 3, cells := 0, slots := 0, locals := 65 } : Room)).room s m ([.ref (ad 0), .int x1, .int x2, .int x3] : List Value).toArray below meth c H locs 0 0 (MQ below (va_Qi (fun (r' : Int32) (u : MS) => r' = r ∧ u = τ') (MWp D cy A ad) A) ([.ref (ad 0), .int x1, .int x2, .int x3] : List Value).toArray s 0 0 A) (F0 m 66 ls [])) (τ : MS) (x4 : Int32) (x5 : Int32) (x6 : Int32) (x7 : Int32) (H : Heap) (locs : List Loc) (ls : Array Slot) (hf : k_X7_same_b112 x1 x2 x3 K τ x4 x5 x6 x7 = some (r, τ')) (hw : zw D A ad (mG cy ad τ) H) (hS : va_S A s.heap H locs) (hl : lv_has ls 8 [(0, .ref (ad 0)), (1, .int x1), (2, .int x2), (3, .int x3), (4, .int x4), (5, .int x5), (6, .int x6), (7, .int x7)]), W p l e (headSpec (wz yX7_same cX7_same 8 (some .boolean)) ({ frames := 3, cells := 0, slots := 0, locals := 65 } : Room)).room s m ([.ref (ad 0), .int x1, .int x2, .int x3] : List Value).toArray below meth c H locs 0 0 (MQ below (va_Qi (fun (r' : Int32) (u : MS) => r' = r ∧ u = τ') (MWp D cy A ad) A) ([.ref (ad 0), .int x1, .int x2, .int x3] : List Value).toArray s 0 0 A) (F0 m 112 ls []) := by
    intro K hKK τ x4 x5 x6 x7 H locs ls hf hw hS hl
    rw [k_X7_same_b112] at hf
    refine lv_iconst (v := (0 : Int32)) hx hb dX7_same_112 (by decide) ?_
    exact B113 K hKK _ _ _ _ _ _ _ _ _ hf hw hS (lv_sub hl [0, 1, 2, 3, 4, 5, 6, 7] rfl)
  have S66 : ∀ (K : MS → Int32 → Int32 → Int32 → Int32 → Option (Int32 × MS)) (_hKK : ∀ (τ : MS) (x4 : Int32) (x5 : Int32) (x6 : Int32) (x7 : Int32) (H : Heap) (locs : List Loc) (ls : Array Slot) (hf : K τ x4 x5 x6 x7 = some (r, τ')) (hw : zw D A ad (mG cy ad τ) H) (hS : va_S A s.heap H locs) (hl : lv_has ls 8 [(0, .ref (ad 0)), (1, .int x1), (2, .int x2), (3, .int x3), (4, .int x4), (5, .int x5), (6, .int x6), (7, .int x7)]), W p l e (headSpec (wz yX7_same cX7_same 8 (some .boolean)) ({ frames := 3, cells := 0, slots := 0, locals := 65 } : Room)).room s m ([.ref (ad 0), .int x1, .int x2, .int x3] : List Value).toArray below meth c H locs 0 0 (MQ below (va_Qi (fun (r' : Int32) (u : MS) => r' = r ∧ u = τ') (MWp D cy A ad) A) ([.ref (ad 0), .int x1, .int x2, .int x3] : List Value).toArray s 0 0 A) (F0 m 66 ls [])) (τ : MS) (x4 : Int32) (x5 : Int32) (x6 : Int32) (x7 : Int32) (H : Heap) (locs : List Loc) (ls : Array Slot) (hf : k_X7_same_s66 x1 x2 x3 K τ x4 x5 x6 x7 = some (r, τ')) (hw : zw D A ad (mG cy ad τ) H) (hS : va_S A s.heap H locs) (hl : lv_has ls 8 [(0, .ref (ad 0)), (1, .int x1), (2, .int x2), (3, .int x3), (4, .int x4), (5, .int x5), (6, .int x6), (7, .int x7)]), W p l e (headSpec (wz yX7_same cX7_same 8 (some .boolean)) ({ frames := 3, cells := 0, slots := 0, locals := 65 } : Room)).room s m ([.ref (ad 0), .int x1, .int x2, .int x3] : List Value).toArray below meth c H locs 0 0 (MQ below (va_Qi (fun (r' : Int32) (u : MS) => r' = r ∧ u = τ') (MWp D cy A ad) A) ([.ref (ad 0), .int x1, .int x2, .int x3] : List Value).toArray s 0 0 A) (F0 m 66 ls []) := by
    intro K hKK τ x4 x5 x6 x7 H locs ls hf hw hS hl
    rw [k_X7_same_s66] at hf
    refine lv_iload hx hb dX7_same_66 (lv_at hl 7 rfl) ?_
    refine lv_bipush (v := (8 : Int32)) hx hb dX7_same_68 (by decide) ?_
    refine lv_icmp_ge (tgt := 121) hx hb dX7_same_70 (by decide) (fun c_25 => ?_) (fun c_25 => ?_)
    · have hf := (zi_t c_25).symm.trans hf
      refine lv_iload hx hb dX7_same_121 (lv_at hl 6 rfl) ?_
      obtain ⟨g_26, hf⟩ := zg_inv hf
      exact mw_retz S hr g_26 hf hw hS hlocks dX7_same_123
    · have hf := (zi_f c_25).symm.trans hf
      refine lv_iload hx hb dX7_same_73 (lv_at hl 6 rfl) ?_
      refine lv_if_eq (tgt := 112) hx hb dX7_same_75 (by decide) (fun c_27 => ?_) (fun c_27 => ?_)
      · have hf := (zi_t c_27).symm.trans hf
        exact B112 K hKK _ _ _ _ _ _ _ _ hf hw hS (lv_sub hl [0, 1, 2, 3, 4, 5, 6, 7] rfl)
      · have hf := (zi_f c_27).symm.trans hf
        refine lv_aload_n hx hb dX7_same_78 rfl (lv_at hl 0 rfl) ?_
        refine mr_get S h7 hK hw 22 (by decide) (wz_in (zin4 _ (List.mem_of_getElem? (i := 5) rfl))) rfl rfl dX7_same_79 ?_
        refine lv_bipush (v := (8 : Int32)) hx hb dX7_same_82 (by decide) ?_
        refine lv_iload hx hb dX7_same_84 (lv_at hl 4 rfl) ?_
        refine lv_imul hx hb dX7_same_86 ?_
        refine lv_iload hx hb dX7_same_87 (lv_at hl 7 rfl) ?_
        refine lv_iadd hx hb dX7_same_89 ?_
        obtain ⟨g_28, hf⟩ := zg_inv hf
        refine mr_lald S hK hw 22 rfl g_28 dX7_same_90 ?_
        refine lv_aload_n hx hb dX7_same_91 rfl (lv_at hl 0 rfl) ?_
        refine mr_get S h7 hK hw 22 (by decide) (wz_in (zin4 _ (List.mem_of_getElem? (i := 5) rfl))) rfl rfl dX7_same_92 ?_
        refine lv_bipush (v := (8 : Int32)) hx hb dX7_same_95 (by decide) ?_
        refine lv_iload hx hb dX7_same_97 (lv_at hl 5 rfl) ?_
        refine lv_imul hx hb dX7_same_99 ?_
        refine lv_iload hx hb dX7_same_100 (lv_at hl 7 rfl) ?_
        refine lv_iadd hx hb dX7_same_102 ?_
        obtain ⟨g_29, hf⟩ := zg_inv hf
        refine mr_lald S hK hw 22 rfl g_29 dX7_same_103 ?_
        refine W.lcmp hx hb dX7_same_104 ?_
        refine lv_if_ne (tgt := 112) hx hb dX7_same_105 (by decide) (fun c_30 => ?_) (fun c_30 => ?_)
        · have hf := (zi_f c_30).symm.trans hf
          exact B112 K hKK _ _ _ _ _ _ _ _ hf hw hS (lv_sub hl [0, 1, 2, 3, 4, 5, 6, 7] rfl)
        · have hf := (zi_t c_30).symm.trans hf
          refine lv_iconst (v := (1 : Int32)) hx hb dX7_same_108 (by decide) ?_
          refine lv_goto (tgt := 113) hx hb dX7_same_109 (by decide) ?_
          exact B113 K hKK _ _ _ _ _ _ _ _ _ hf hw hS (lv_sub hl [0, 1, 2, 3, 4, 5, 6, 7] rfl)
  have L66 : ∀ (n : Nat) (τ : MS) (x4 : Int32) (x5 : Int32) (x6 : Int32) (x7 : Int32) (H : Heap) (locs : List Loc) (ls : Array Slot) (hf : k_X7_same_l66 x1 x2 x3 n τ x4 x5 x6 x7 = some (r, τ')) (hw : zw D A ad (mG cy ad τ) H) (hS : va_S A s.heap H locs) (hl : lv_has ls 8 [(0, .ref (ad 0)), (1, .int x1), (2, .int x2), (3, .int x3), (4, .int x4), (5, .int x5), (6, .int x6), (7, .int x7)]), W p l e (headSpec (wz yX7_same cX7_same 8 (some .boolean)) ({ frames := 3, cells := 0, slots := 0, locals := 65 } : Room)).room s m ([.ref (ad 0), .int x1, .int x2, .int x3] : List Value).toArray below meth c H locs 0 0 (MQ below (va_Qi (fun (r' : Int32) (u : MS) => r' = r ∧ u = τ') (MWp D cy A ad) A) ([.ref (ad 0), .int x1, .int x2, .int x3] : List Value).toArray s 0 0 A) (F0 m 66 ls []) := by
    intro n
    induction n with
    | zero =>
      intro τ x4 x5 x6 x7 H locs ls hf hw hS hl
      rw [k_X7_same_l66_z] at hf
      cases hf
    | succ n ih =>
      intro τ x4 x5 x6 x7 H locs ls hf hw hS hl
      rw [k_X7_same_l66_s] at hf
      exact S66 (k_X7_same_l66 x1 x2 x3 n) ih τ x4 x5 x6 x7 H locs ls hf hw hS hl
  have B61 : ∀ (τ : MS) (y0 : Int32) (x4 : Int32) (x5 : Int32) (H : Heap) (locs : List Loc) (ls : Array Slot) (hf : k_X7_same_b61 x1 x2 x3 τ y0 x4 x5 = some (r, τ')) (hw : zw D A ad (mG cy ad τ) H) (hS : va_S A s.heap H locs) (hl : lv_has ls 8 [(0, .ref (ad 0)), (1, .int x1), (2, .int x2), (3, .int x3), (4, .int x4), (5, .int x5)]), W p l e (headSpec (wz yX7_same cX7_same 8 (some .boolean)) ({ frames := 3, cells := 0, slots := 0, locals := 65 } : Room)).room s m ([.ref (ad 0), .int x1, .int x2, .int x3] : List Value).toArray below meth c H locs 0 0 (MQ below (va_Qi (fun (r' : Int32) (u : MS) => r' = r ∧ u = τ') (MWp D cy A ad) A) ([.ref (ad 0), .int x1, .int x2, .int x3] : List Value).toArray s 0 0 A) (F0 m 61 ls [.int y0]) := by
    intro τ y0 x4 x5 H locs ls hf hw hS hl
    rw [k_X7_same_b61] at hf
    refine lv_istore (lv' := [(6, .int y0), (0, .ref (ad 0)), (1, .int x1), (2, .int x2), (3, .int x3), (4, .int x4), (5, .int x5)]) hx hb dX7_same_61 hl (by decide) rfl (fun ls hl => ?_)
    refine lv_iconst (v := (0 : Int32)) hx hb dX7_same_63 (by decide) ?_
    refine lv_istore (lv' := [(7, .int (0 : Int32)), (6, .int y0), (0, .ref (ad 0)), (1, .int x1), (2, .int x2), (3, .int x3), (4, .int x4), (5, .int x5)]) hx hb dX7_same_64 hl (by decide) rfl (fun ls hl => ?_)
    exact L66 FU _ _ _ _ _ _ _ _ hf hw hS (lv_sub hl [2, 3, 4, 5, 6, 7, 1, 0] rfl)
  have B23 : ∀ (τ : MS) (H : Heap) (locs : List Loc) (ls : Array Slot) (hf : k_X7_same_b23 x1 x2 x3 τ = some (r, τ')) (hw : zw D A ad (mG cy ad τ) H) (hS : va_S A s.heap H locs) (hl : lv_has ls 8 [(0, .ref (ad 0)), (1, .int x1), (2, .int x2), (3, .int x3)]), W p l e (headSpec (wz yX7_same cX7_same 8 (some .boolean)) ({ frames := 3, cells := 0, slots := 0, locals := 65 } : Room)).room s m ([.ref (ad 0), .int x1, .int x2, .int x3] : List Value).toArray below meth c H locs 0 0 (MQ below (va_Qi (fun (r' : Int32) (u : MS) => r' = r ∧ u = τ') (MWp D cy A ad) A) ([.ref (ad 0), .int x1, .int x2, .int x3] : List Value).toArray s 0 0 A) (F0 m 23 ls []) := by
    intro τ H locs ls hf hw hS hl
    rw [k_X7_same_b23] at hf
    refine lv_iconst (v := (0 : Int32)) hx hb dX7_same_23 (by decide) ?_
    obtain ⟨g_31, hf⟩ := zg_inv hf
    exact mw_retz S hr g_31 hf hw hS hlocks dX7_same_24
  rw [k_X7_same] at hf
  refine lv_aload_n hx hb dX7_same_0 rfl (lv_at hl 0 rfl) ?_
  refine lv_iconst (v := (0 : Int32)) hx hb dX7_same_1 (by decide) ?_
  refine mr_put S h7 hK hw hS 0 (by decide) (wz_in (zin5 _ (List.mem_of_getElem? (i := 8) rfl))) rfl rfl rfl (mput_0 _ _ _ _) dX7_same_2 (fun H locs hw hS => ?_)
  refine lv_aload_n hx hb dX7_same_5 rfl (lv_at hl 0 rfl) ?_
  refine lv_iload_n hx hb dX7_same_6 rfl (lv_at hl 1 rfl) ?_
  refine lv_iload_n hx hb dX7_same_7 rfl (lv_at hl 3 rfl) ?_
  obtain ⟨r_32, t_33, e_34, hf⟩ := zb_inv hf
  refine mw_ci (As := [.int x1, .int x3]) (rest := []) (n := 2) S (kc_X7_hasClass l D cy A ad _ _ _ _ _ e_34) (wz_V (zin17 _ (List.mem_of_getElem? (i := 23) rfl)) (zin17 _ (List.mem_of_getElem? (i := 20) rfl)) (zin17 _ (List.mem_of_getElem? (i := 21) rfl)) (zin17 _ (List.mem_of_getElem? (i := 22) rfl)) (zin1 _ (List.mem_of_getElem? (i := 5) rfl))) rfl ⟨rfl, rfl⟩ (by decide +kernel) ⟨Nat.le_of_ble_eq_true rfl, Nat.le_of_ble_eq_true rfl⟩ rfl hl.1 rfl (Nat.le_of_ble_eq_true rfl) hK hw hS dX7_same_8 ⟨Nat.zero_le _, Nat.zero_le _⟩ (fun H locs hw hS => ?_)
  refine lv_if_eq (tgt := 23) hx hb dX7_same_11 (by decide) (fun c_35 => ?_) (fun c_35 => ?_)
  · have hf := (zi_t c_35).symm.trans hf
    exact B23 _ _ _ _ hf hw hS (lv_sub hl [0, 1, 2, 3] rfl)
  · have hf := (zi_f c_35).symm.trans hf
    refine lv_aload_n hx hb dX7_same_14 rfl (lv_at hl 0 rfl) ?_
    refine lv_iload_n hx hb dX7_same_15 rfl (lv_at hl 2 rfl) ?_
    refine lv_iload_n hx hb dX7_same_16 rfl (lv_at hl 3 rfl) ?_
    obtain ⟨r_36, t_37, e_38, hf⟩ := zb_inv hf
    refine mw_ci (As := [.int x2, .int x3]) (rest := []) (n := 2) S (kc_X7_hasClass l D cy A ad _ _ _ _ _ e_38) (wz_V (zin17 _ (List.mem_of_getElem? (i := 23) rfl)) (zin17 _ (List.mem_of_getElem? (i := 20) rfl)) (zin17 _ (List.mem_of_getElem? (i := 21) rfl)) (zin17 _ (List.mem_of_getElem? (i := 22) rfl)) (zin1 _ (List.mem_of_getElem? (i := 5) rfl))) rfl ⟨rfl, rfl⟩ (by decide +kernel) ⟨Nat.le_of_ble_eq_true rfl, Nat.le_of_ble_eq_true rfl⟩ rfl hl.1 rfl (Nat.le_of_ble_eq_true rfl) hK hw hS dX7_same_17 ⟨Nat.zero_le _, Nat.zero_le _⟩ (fun H locs hw hS => ?_)
    refine lv_if_ne (tgt := 25) hx hb dX7_same_20 (by decide) (fun c_39 => ?_) (fun c_39 => ?_)
    · have hf := (zi_f c_39).symm.trans hf
      refine lv_iload_n hx hb dX7_same_25 rfl (lv_at hl 1 rfl) ?_
      refine lv_iload_n hx hb dX7_same_26 rfl (lv_at hl 3 rfl) ?_
      obtain ⟨r_40, t_41, e_42, hf⟩ := zb_inv hf
      refine mw_si (As := [.int x1, .int x3]) (rest := []) (n := 2) S (kc_X7_at l D cy A ad _ _ _ _ _ e_42) (wz_S (zin10 _ (List.mem_of_getElem? (i := 18) rfl)) (zin10 _ (List.mem_of_getElem? (i := 16) rfl)) (zin10 _ (List.mem_of_getElem? (i := 17) rfl)) (zin1 _ (List.mem_of_getElem? (i := 5) rfl))) rfl ⟨rfl, rfl⟩ (by decide +kernel) ⟨Nat.le_of_ble_eq_true rfl, Nat.le_of_ble_eq_true rfl⟩ rfl hl.1 rfl (Nat.le_of_ble_eq_true rfl) hK hw hS dX7_same_27 ⟨Nat.zero_le _, Nat.zero_le _⟩ (fun H locs hw hS => ?_)
      refine lv_istore (lv' := [(4, .int r_40), (0, .ref (ad 0)), (1, .int x1), (2, .int x2), (3, .int x3)]) hx hb dX7_same_30 hl (by decide) rfl (fun ls hl => ?_)
      refine lv_iload_n hx hb dX7_same_32 rfl (lv_at hl 3 rfl) ?_
      refine lv_iload_n hx hb dX7_same_33 rfl (lv_at hl 4 rfl) ?_
      obtain ⟨r_43, t_44, e_45, hf⟩ := zb_inv hf
      refine mw_si (As := [.int x2, .int x3]) (rest := []) (n := 2) S (kc_X7_at l D cy A ad _ _ _ _ _ e_45) (wz_S (zin10 _ (List.mem_of_getElem? (i := 18) rfl)) (zin10 _ (List.mem_of_getElem? (i := 16) rfl)) (zin10 _ (List.mem_of_getElem? (i := 17) rfl)) (zin1 _ (List.mem_of_getElem? (i := 5) rfl))) rfl ⟨rfl, rfl⟩ (by decide +kernel) ⟨Nat.le_of_ble_eq_true rfl, Nat.le_of_ble_eq_true rfl⟩ rfl hl.1 rfl (Nat.le_of_ble_eq_true rfl) hK hw hS dX7_same_34 ⟨Nat.zero_le _, Nat.zero_le _⟩ (fun H locs hw hS => ?_)
      refine lv_istore (lv' := [(5, .int r_43), (4, .int r_40), (0, .ref (ad 0)), (1, .int x1), (2, .int x2), (3, .int x3)]) hx hb dX7_same_37 hl (by decide) rfl (fun ls hl => ?_)
      refine lv_aload_n hx hb dX7_same_39 rfl (lv_at hl 2 rfl) ?_
      refine mr_get S h7 hK hw 21 (by decide) (wz_in (zin4 _ (List.mem_of_getElem? (i := 4) rfl))) rfl rfl dX7_same_40 ?_
      refine lv_iload hx hb dX7_same_43 (lv_at hl 1 rfl) ?_
      obtain ⟨g_46, hf⟩ := zg_inv hf
      refine mr_iald S hK hw 21 rfl g_46 dX7_same_45 ?_
      refine lv_aload_n hx hb dX7_same_46 rfl (lv_at hl 2 rfl) ?_
      refine mr_get S h7 hK hw 21 (by decide) (wz_in (zin4 _ (List.mem_of_getElem? (i := 4) rfl))) rfl rfl dX7_same_47 ?_
      refine lv_iload hx hb dX7_same_50 (lv_at hl 0 rfl) ?_
      obtain ⟨g_47, hf⟩ := zg_inv hf
      refine mr_iald S hK hw 21 rfl g_47 dX7_same_52 ?_
      refine lv_icmp_ne (tgt := 60) hx hb dX7_same_53 (by decide) (fun c_48 => ?_) (fun c_48 => ?_)
      · have hf := (zi_f c_48).symm.trans hf
        refine lv_iconst (v := (0 : Int32)) hx hb dX7_same_60 (by decide) ?_
        exact B61 _ _ _ _ _ _ _ hf hw hS (lv_sub hl [2, 3, 4, 5, 1, 0] rfl)
      · have hf := (zi_t c_48).symm.trans hf
        refine lv_iconst (v := (1 : Int32)) hx hb dX7_same_56 (by decide) ?_
        refine lv_goto (tgt := 61) hx hb dX7_same_57 (by decide) ?_
        exact B61 _ _ _ _ _ _ _ hf hw hS (lv_sub hl [2, 3, 4, 5, 1, 0] rfl)
    · have hf := (zi_t c_39).symm.trans hf
      exact B23 _ _ _ _ hf hw hS (lv_sub hl [0, 1, 2, 3] rfl)
noncomputable def k_X7_handle_b70 (x1 : Int32) (x2 : Int32) (τ : MS) (y0 : Int32) (x3 : Int32) : Option (Int32 × MS) := zb (k_X7_refuse τ y0) (fun r_23 t_24 => some (r_23, t_24))
noncomputable def k_X7_handle_b69 (x1 : Int32) (x2 : Int32) (τ : MS) (x3 : Int32) : Option (Int32 × MS) := k_X7_handle_b70 x1 x2 τ (-1 : Int32) x3
noncomputable def k_X7_handle_b38 (x1 : Int32) (x2 : Int32) (τ : MS) (y0 : Int32) (x3 : Int32) : Option (Int32 × MS) := zi (x3 = 0) (zb (k_X7_isController (mI τ 0 y0) x1) (fun r_27 t_28 => zi (r_27 = 0) (k_X7_handle_b69 x1 x2 t_28 x3) (zb (k_X7_isRunnable t_28 x2) (fun r_31 t_32 => zi (r_31 = 0) (k_X7_handle_b69 x1 x2 t_32 x3) (k_X7_handle_b70 x1 x2 t_32 (-3 : Int32) x3))))) (some ((0 : Int32), mI τ 0 y0))
noncomputable def k_X7_handle_b27 (x1 : Int32) (x2 : Int32) (τ : MS) (y0 : Int32) : Option (Int32 × MS) := zi (y0 = 0) (k_X7_handle_b38 x1 x2 τ (0 : Int32) y0) (k_X7_handle_b38 x1 x2 τ (1 : Int32) y0)
noncomputable def k_X7_handle_b26 (x1 : Int32) (x2 : Int32) (τ : MS) : Option (Int32 × MS) := k_X7_handle_b27 x1 x2 τ (0 : Int32)
noncomputable def k_X7_handle (τ : MS) (x1 : Int32) (x2 : Int32) : Option (Int32 × MS) := zb (k_X7_hasClass τ x1 x2) (fun r_36 t_37 => zi (r_36 = 0) (k_X7_handle_b26 x1 x2 t_37) (zb (k_X7_at t_37 x1 x2) (fun r_40 t_41 => zg (vp_in r_40 160) (zi ((mr t_41 24 r_40.toNatClampNeg) < 0) (k_X7_handle_b26 x1 x2 t_41) (k_X7_handle_b27 x1 x2 t_41 (1 : Int32))))))
set_option maxHeartbeats 4000000 in
set_option maxRecDepth 100000 in
theorem kc_X7_handle (l : Launch) (D : va_G) (cy : Nat → ClassId) (A : Nat → Prop) (ad : Nat → Nat) (τ τ' : MS) (x1 : Int32) (x2 : Int32) (r : Int32) (hf : k_X7_handle τ x1 x2 = some (r, τ')) : Met l yX7_handle (wz yX7_handle cX7_handle 4 (some .int)) ({ frames := 3, cells := 0, slots := 0, locals := 65 } : Room) (va_Pc [.ref (ad 0), .int x1, .int x2] (MWs D cy A ad τ)) (va_Qi (fun (r' : Int32) (u : MS) => r' = r ∧ u = τ') (MWp D cy A ad) A) 0 0 A := by
  refine Met.ofW (cc := cX7_handle) (maxL := 4) (ret := (some .int)) (by decide) rfl ?_
  intro p e s m args below meth c s₁ B hml hv
  obtain ⟨rfl, hw, hK⟩ := hv
  have hx := B.exec
  have hb := B.bytes
  have hr := B.returns
  have hts := atoms_spec (ws := (wz yX7_handle cX7_handle 4 (some .int))) B.pre
  have hown : s.vm.findClass RX7 = some m.cls := findClass_of_methodNamed B.named
  have hlocks := B.notSynchronized
  have S : CallFix p m c cX7_handle 4 s ([.ref (ad 0), .int x1, .int x2] : List Value).toArray (wz yX7_handle cX7_handle 4 (some .int)) RX7 := ⟨hx, hb, hml, hown, hts⟩
  have h7 : ∀ w ∈ wsX70, w ∈ (wz yX7_handle cX7_handle 4 (some .int)) := fun w h => wz_in (inlX7 w h)
  have hS : va_S A s.heap s.heap [] := va_S.rf
  have hl := lv_entry ([.ref (ad 0), .int x1, .int x2]) (n := 4) (Nat.le_of_ble_eq_true rfl)
  rw [lg_entry_eq]
  generalize (lg_sl ([.ref (ad 0), .int x1, .int x2]) ++ List.replicate (4 - (lg_sl ([.ref (ad 0), .int x1, .int x2])).length) Slot.unset).toArray = ls at hl ⊢
  have hl : lv_has ls 4 [(0, .ref (ad 0)), (1, .int x1), (2, .int x2)] := hl
  have B70 : ∀ (τ : MS) (y0 : Int32) (x3 : Int32) (H : Heap) (locs : List Loc) (ls : Array Slot) (hf : k_X7_handle_b70 x1 x2 τ y0 x3 = some (r, τ')) (hw : zw D A ad (mG cy ad τ) H) (hS : va_S A s.heap H locs) (hl : lv_has ls 4 [(0, .ref (ad 0)), (1, .int x1), (2, .int x2), (3, .int x3)]), W p l e (headSpec (wz yX7_handle cX7_handle 4 (some .int)) ({ frames := 3, cells := 0, slots := 0, locals := 65 } : Room)).room s m ([.ref (ad 0), .int x1, .int x2] : List Value).toArray below meth c H locs 0 0 (MQ below (va_Qi (fun (r' : Int32) (u : MS) => r' = r ∧ u = τ') (MWp D cy A ad) A) ([.ref (ad 0), .int x1, .int x2] : List Value).toArray s 0 0 A) (F0 m 70 ls [.int y0, .ref (ad 0)]) := by
    intro τ y0 x3 H locs ls hf hw hS hl
    rw [k_X7_handle_b70] at hf
    obtain ⟨r_23, t_24, e_25, hf⟩ := zb_inv hf
    refine mw_ci (As := [.int y0]) (rest := []) (n := 1) S (kc_X7_refuse l D cy A ad _ _ _ _ e_25) (wz_V (zin5 _ (List.mem_of_getElem? (i := 16) rfl)) (zin5 _ (List.mem_of_getElem? (i := 13) rfl)) (zin5 _ (List.mem_of_getElem? (i := 14) rfl)) (zin5 _ (List.mem_of_getElem? (i := 15) rfl)) (zin1 _ (List.mem_of_getElem? (i := 5) rfl))) rfl ⟨rfl, rfl⟩ (by decide +kernel) ⟨Nat.le_of_ble_eq_true rfl, Nat.le_of_ble_eq_true rfl⟩ rfl hl.1 rfl (Nat.le_of_ble_eq_true rfl) hK hw hS dX7_handle_70 ⟨Nat.zero_le _, Nat.zero_le _⟩ (fun H locs hw hS => ?_)
    exact mw_reti S hr hf hw hS hlocks dX7_handle_73
  have B69 : ∀ (τ : MS) (x3 : Int32) (H : Heap) (locs : List Loc) (ls : Array Slot) (hf : k_X7_handle_b69 x1 x2 τ x3 = some (r, τ')) (hw : zw D A ad (mG cy ad τ) H) (hS : va_S A s.heap H locs) (hl : lv_has ls 4 [(0, .ref (ad 0)), (1, .int x1), (2, .int x2), (3, .int x3)]), W p l e (headSpec (wz yX7_handle cX7_handle 4 (some .int)) ({ frames := 3, cells := 0, slots := 0, locals := 65 } : Room)).room s m ([.ref (ad 0), .int x1, .int x2] : List Value).toArray below meth c H locs 0 0 (MQ below (va_Qi (fun (r' : Int32) (u : MS) => r' = r ∧ u = τ') (MWp D cy A ad) A) ([.ref (ad 0), .int x1, .int x2] : List Value).toArray s 0 0 A) (F0 m 69 ls [.ref (ad 0)]) := by
    intro τ x3 H locs ls hf hw hS hl
    rw [k_X7_handle_b69] at hf
    refine lv_iconst (v := (-1 : Int32)) hx hb dX7_handle_69 (by decide) ?_
    exact B70 _ _ _ _ _ _ hf hw hS (lv_sub hl [0, 1, 2, 3] rfl)
  have B38 : ∀ (τ : MS) (y0 : Int32) (x3 : Int32) (H : Heap) (locs : List Loc) (ls : Array Slot) (hf : k_X7_handle_b38 x1 x2 τ y0 x3 = some (r, τ')) (hw : zw D A ad (mG cy ad τ) H) (hS : va_S A s.heap H locs) (hl : lv_has ls 4 [(0, .ref (ad 0)), (1, .int x1), (2, .int x2), (3, .int x3)]), W p l e (headSpec (wz yX7_handle cX7_handle 4 (some .int)) ({ frames := 3, cells := 0, slots := 0, locals := 65 } : Room)).room s m ([.ref (ad 0), .int x1, .int x2] : List Value).toArray below meth c H locs 0 0 (MQ below (va_Qi (fun (r' : Int32) (u : MS) => r' = r ∧ u = τ') (MWp D cy A ad) A) ([.ref (ad 0), .int x1, .int x2] : List Value).toArray s 0 0 A) (F0 m 38 ls [.int y0, .ref (ad 0)]) := by
    intro τ y0 x3 H locs ls hf hw hS hl
    rw [k_X7_handle_b38] at hf
    refine mr_put S h7 hK hw hS 0 (by decide) (wz_in (zin5 _ (List.mem_of_getElem? (i := 8) rfl))) rfl rfl rfl (mput_0 _ _ _ _) dX7_handle_38 (fun H locs hw hS => ?_)
    refine lv_iload_n hx hb dX7_handle_41 rfl (lv_at hl 3 rfl) ?_
    refine lv_if_eq (tgt := 47) hx hb dX7_handle_42 (by decide) (fun c_26 => ?_) (fun c_26 => ?_)
    · have hf := (zi_t c_26).symm.trans hf
      refine lv_aload_n hx hb dX7_handle_47 rfl (lv_at hl 0 rfl) ?_
      refine lv_aload_n hx hb dX7_handle_48 rfl (lv_at hl 0 rfl) ?_
      refine lv_iload_n hx hb dX7_handle_49 rfl (lv_at hl 1 rfl) ?_
      obtain ⟨r_27, t_28, e_29, hf⟩ := zb_inv hf
      refine mw_ci (As := [.int x1]) (rest := [.ref (ad 0)]) (n := 1) S (kc_X7_isController l D cy A ad _ _ _ _ e_29) (wz_V (zin10 _ (List.mem_of_getElem? (i := 11) rfl)) (zin10 _ (List.mem_of_getElem? (i := 8) rfl)) (zin10 _ (List.mem_of_getElem? (i := 9) rfl)) (zin10 _ (List.mem_of_getElem? (i := 10) rfl)) (zin1 _ (List.mem_of_getElem? (i := 5) rfl))) rfl ⟨rfl, rfl⟩ (by decide +kernel) ⟨Nat.le_of_ble_eq_true rfl, Nat.le_of_ble_eq_true rfl⟩ rfl hl.1 rfl (Nat.le_of_ble_eq_true rfl) hK hw hS dX7_handle_50 ⟨Nat.zero_le _, Nat.zero_le _⟩ (fun H locs hw hS => ?_)
      refine lv_if_eq (tgt := 69) hx hb dX7_handle_53 (by decide) (fun c_30 => ?_) (fun c_30 => ?_)
      · have hf := (zi_t c_30).symm.trans hf
        exact B69 _ _ _ _ _ hf hw hS (lv_sub hl [0, 1, 2, 3] rfl)
      · have hf := (zi_f c_30).symm.trans hf
        refine lv_aload_n hx hb dX7_handle_56 rfl (lv_at hl 0 rfl) ?_
        refine lv_iload_n hx hb dX7_handle_57 rfl (lv_at hl 2 rfl) ?_
        obtain ⟨r_31, t_32, e_33, hf⟩ := zb_inv hf
        refine mw_ci (As := [.int x2]) (rest := [.ref (ad 0)]) (n := 1) S (kc_X7_isRunnable l D cy A ad _ _ _ _ e_33) (wz_V (zin10 _ (List.mem_of_getElem? (i := 15) rfl)) (zin10 _ (List.mem_of_getElem? (i := 12) rfl)) (zin10 _ (List.mem_of_getElem? (i := 13) rfl)) (zin10 _ (List.mem_of_getElem? (i := 14) rfl)) (zin1 _ (List.mem_of_getElem? (i := 5) rfl))) rfl ⟨rfl, rfl⟩ (by decide +kernel) ⟨Nat.le_of_ble_eq_true rfl, Nat.le_of_ble_eq_true rfl⟩ rfl hl.1 rfl (Nat.le_of_ble_eq_true rfl) hK hw hS dX7_handle_58 ⟨Nat.zero_le _, Nat.zero_le _⟩ (fun H locs hw hS => ?_)
        refine lv_if_eq (tgt := 69) hx hb dX7_handle_61 (by decide) (fun c_34 => ?_) (fun c_34 => ?_)
        · have hf := (zi_t c_34).symm.trans hf
          exact B69 _ _ _ _ _ hf hw hS (lv_sub hl [0, 1, 2, 3] rfl)
        · have hf := (zi_f c_34).symm.trans hf
          refine lv_bipush (v := (-3 : Int32)) hx hb dX7_handle_64 (by decide) ?_
          refine lv_goto (tgt := 70) hx hb dX7_handle_66 (by decide) ?_
          exact B70 _ _ _ _ _ _ hf hw hS (lv_sub hl [0, 1, 2, 3] rfl)
    · have hf := (zi_f c_26).symm.trans hf
      refine lv_iconst (v := (0 : Int32)) hx hb dX7_handle_45 (by decide) ?_
      exact mw_reti S hr hf hw hS hlocks dX7_handle_46
  have B27 : ∀ (τ : MS) (y0 : Int32) (H : Heap) (locs : List Loc) (ls : Array Slot) (hf : k_X7_handle_b27 x1 x2 τ y0 = some (r, τ')) (hw : zw D A ad (mG cy ad τ) H) (hS : va_S A s.heap H locs) (hl : lv_has ls 4 [(0, .ref (ad 0)), (1, .int x1), (2, .int x2)]), W p l e (headSpec (wz yX7_handle cX7_handle 4 (some .int)) ({ frames := 3, cells := 0, slots := 0, locals := 65 } : Room)).room s m ([.ref (ad 0), .int x1, .int x2] : List Value).toArray below meth c H locs 0 0 (MQ below (va_Qi (fun (r' : Int32) (u : MS) => r' = r ∧ u = τ') (MWp D cy A ad) A) ([.ref (ad 0), .int x1, .int x2] : List Value).toArray s 0 0 A) (F0 m 27 ls [.int y0]) := by
    intro τ y0 H locs ls hf hw hS hl
    rw [k_X7_handle_b27] at hf
    refine lv_istore_n (lv' := [(3, .int y0), (0, .ref (ad 0)), (1, .int x1), (2, .int x2)]) hx hb dX7_handle_27 rfl hl (by decide) rfl (fun ls hl => ?_)
    refine lv_aload_n hx hb dX7_handle_28 rfl (lv_at hl 1 rfl) ?_
    refine lv_iload_n hx hb dX7_handle_29 rfl (lv_at hl 0 rfl) ?_
    refine lv_if_eq (tgt := 37) hx hb dX7_handle_30 (by decide) (fun c_35 => ?_) (fun c_35 => ?_)
    · have hf := (zi_t c_35).symm.trans hf
      refine lv_iconst (v := (0 : Int32)) hx hb dX7_handle_37 (by decide) ?_
      exact B38 _ _ _ _ _ _ hf hw hS (lv_sub hl [1, 2, 3, 0] rfl)
    · have hf := (zi_f c_35).symm.trans hf
      refine lv_iconst (v := (1 : Int32)) hx hb dX7_handle_33 (by decide) ?_
      refine lv_goto (tgt := 38) hx hb dX7_handle_34 (by decide) ?_
      exact B38 _ _ _ _ _ _ hf hw hS (lv_sub hl [1, 2, 3, 0] rfl)
  have B26 : ∀ (τ : MS) (H : Heap) (locs : List Loc) (ls : Array Slot) (hf : k_X7_handle_b26 x1 x2 τ = some (r, τ')) (hw : zw D A ad (mG cy ad τ) H) (hS : va_S A s.heap H locs) (hl : lv_has ls 4 [(0, .ref (ad 0)), (1, .int x1), (2, .int x2)]), W p l e (headSpec (wz yX7_handle cX7_handle 4 (some .int)) ({ frames := 3, cells := 0, slots := 0, locals := 65 } : Room)).room s m ([.ref (ad 0), .int x1, .int x2] : List Value).toArray below meth c H locs 0 0 (MQ below (va_Qi (fun (r' : Int32) (u : MS) => r' = r ∧ u = τ') (MWp D cy A ad) A) ([.ref (ad 0), .int x1, .int x2] : List Value).toArray s 0 0 A) (F0 m 26 ls []) := by
    intro τ H locs ls hf hw hS hl
    rw [k_X7_handle_b26] at hf
    refine lv_iconst (v := (0 : Int32)) hx hb dX7_handle_26 (by decide) ?_
    exact B27 _ _ _ _ _ hf hw hS (lv_sub hl [0, 1, 2] rfl)
  rw [k_X7_handle] at hf
  refine lv_aload_n hx hb dX7_handle_0 rfl (lv_at hl 0 rfl) ?_
  refine lv_iload_n hx hb dX7_handle_1 rfl (lv_at hl 1 rfl) ?_
  refine lv_iload_n hx hb dX7_handle_2 rfl (lv_at hl 2 rfl) ?_
  obtain ⟨r_36, t_37, e_38, hf⟩ := zb_inv hf
  refine mw_ci (As := [.int x1, .int x2]) (rest := []) (n := 2) S (kc_X7_hasClass l D cy A ad _ _ _ _ _ e_38) (wz_V (zin17 _ (List.mem_of_getElem? (i := 23) rfl)) (zin17 _ (List.mem_of_getElem? (i := 20) rfl)) (zin17 _ (List.mem_of_getElem? (i := 21) rfl)) (zin17 _ (List.mem_of_getElem? (i := 22) rfl)) (zin1 _ (List.mem_of_getElem? (i := 5) rfl))) rfl ⟨rfl, rfl⟩ (by decide +kernel) ⟨Nat.le_of_ble_eq_true rfl, Nat.le_of_ble_eq_true rfl⟩ rfl hl.1 rfl (Nat.le_of_ble_eq_true rfl) hK hw hS dX7_handle_3 ⟨Nat.zero_le _, Nat.zero_le _⟩ (fun H locs hw hS => ?_)
  refine lv_if_eq (tgt := 26) hx hb dX7_handle_6 (by decide) (fun c_39 => ?_) (fun c_39 => ?_)
  · have hf := (zi_t c_39).symm.trans hf
    exact B26 _ _ _ _ hf hw hS (lv_sub hl [0, 1, 2] rfl)
  · have hf := (zi_f c_39).symm.trans hf
    refine lv_aload_n hx hb dX7_handle_9 rfl (lv_at hl 0 rfl) ?_
    refine mr_get S h7 hK hw 24 (by decide) (wz_in (zin4 _ (List.mem_of_getElem? (i := 7) rfl))) rfl rfl dX7_handle_10 ?_
    refine lv_iload_n hx hb dX7_handle_13 rfl (lv_at hl 1 rfl) ?_
    refine lv_iload_n hx hb dX7_handle_14 rfl (lv_at hl 2 rfl) ?_
    obtain ⟨r_40, t_41, e_42, hf⟩ := zb_inv hf
    refine mw_si (As := [.int x1, .int x2]) (rest := [.ref (ad 24)]) (n := 2) S (kc_X7_at l D cy A ad _ _ _ _ _ e_42) (wz_S (zin10 _ (List.mem_of_getElem? (i := 18) rfl)) (zin10 _ (List.mem_of_getElem? (i := 16) rfl)) (zin10 _ (List.mem_of_getElem? (i := 17) rfl)) (zin1 _ (List.mem_of_getElem? (i := 5) rfl))) rfl ⟨rfl, rfl⟩ (by decide +kernel) ⟨Nat.le_of_ble_eq_true rfl, Nat.le_of_ble_eq_true rfl⟩ rfl hl.1 rfl (Nat.le_of_ble_eq_true rfl) hK hw hS dX7_handle_15 ⟨Nat.zero_le _, Nat.zero_le _⟩ (fun H locs hw hS => ?_)
    obtain ⟨g_43, hf⟩ := zg_inv hf
    refine mr_iald S hK hw 24 rfl g_43 dX7_handle_18 ?_
    refine lv_if_lt (tgt := 26) hx hb dX7_handle_19 (by decide) (fun c_44 => ?_) (fun c_44 => ?_)
    · have hf := (zi_t c_44).symm.trans hf
      exact B26 _ _ _ _ hf hw hS (lv_sub hl [0, 1, 2] rfl)
    · have hf := (zi_f c_44).symm.trans hf
      refine lv_iconst (v := (1 : Int32)) hx hb dX7_handle_22 (by decide) ?_
      refine lv_goto (tgt := 27) hx hb dX7_handle_23 (by decide) ?_
      exact B27 _ _ _ _ _ hf hw hS (lv_sub hl [0, 1, 2] rfl)
noncomputable def k_X7_octet_b71 (x1 : Int32) (x2 : Int32) (τ : MS) (y0 : Int32) : Option (Int32 × MS) := zg (narrow .byte (.int y0) = .int y0) (some (y0, τ))
noncomputable def k_X7_octet_b37 (x1 : Int32) (x2 : Int32) (τ : MS) (y0 : Int32) : Option (Int32 × MS) := zi ((mi (mI τ 0 y0) 0) ≤ 0) (zg (vp_in x1 21) (zb (k_X7_place (mI τ 0 y0) x1 (mr (mI τ 0 y0) 6 x1.toNatClampNeg)) (fun r_22 t_23 => zg (vp_in (((120 : Int32) * r_22) + x2) 21600) (k_X7_octet_b71 x1 x2 t_23 (mr t_23 7 (((120 : Int32) * r_22) + x2).toNatClampNeg))))) (k_X7_octet_b71 x1 x2 (mI τ 0 y0) (0 : Int32))
noncomputable def k_X7_octet_b36 (x1 : Int32) (x2 : Int32) (τ : MS) : Option (Int32 × MS) := k_X7_octet_b37 x1 x2 τ (1 : Int32)
noncomputable def k_X7_octet (τ : MS) (x1 : Int32) (x2 : Int32) : Option (Int32 × MS) := zb (k_X7_isRunnable τ x1) (fun r_26 t_27 => zi (r_26 = 0) (k_X7_octet_b36 x1 x2 t_27) (zi (x2 < 0) (k_X7_octet_b36 x1 x2 t_27) (zg (vp_in x1 21) (zb (k_X7_place t_27 x1 (mr t_27 6 x1.toNatClampNeg)) (fun r_32 t_33 => zg (vp_in r_32 180) (zi ((mr t_33 8 r_32.toNatClampNeg) ≤ x2) (k_X7_octet_b36 x1 x2 t_33) (k_X7_octet_b37 x1 x2 t_33 (0 : Int32))))))))
set_option maxHeartbeats 4000000 in
set_option maxRecDepth 100000 in
theorem kc_X7_octet (l : Launch) (D : va_G) (cy : Nat → ClassId) (A : Nat → Prop) (ad : Nat → Nat) (τ τ' : MS) (x1 : Int32) (x2 : Int32) (r : Int32) (hf : k_X7_octet τ x1 x2 = some (r, τ')) : Met l yX7_octet (wz yX7_octet cX7_octet 3 (some .byte)) ({ frames := 2, cells := 0, slots := 0, locals := 43 } : Room) (va_Pc [.ref (ad 0), .int x1, .int x2] (MWs D cy A ad τ)) (va_Qi (fun (r' : Int32) (u : MS) => r' = r ∧ u = τ') (MWp D cy A ad) A) 0 0 A := by
  refine Met.ofW (cc := cX7_octet) (maxL := 3) (ret := (some .byte)) (by decide) rfl ?_
  intro p e s m args below meth c s₁ B hml hv
  obtain ⟨rfl, hw, hK⟩ := hv
  have hx := B.exec
  have hb := B.bytes
  have hr := B.returns
  have hts := atoms_spec (ws := (wz yX7_octet cX7_octet 3 (some .byte))) B.pre
  have hown : s.vm.findClass RX7 = some m.cls := findClass_of_methodNamed B.named
  have hlocks := B.notSynchronized
  have S : CallFix p m c cX7_octet 3 s ([.ref (ad 0), .int x1, .int x2] : List Value).toArray (wz yX7_octet cX7_octet 3 (some .byte)) RX7 := ⟨hx, hb, hml, hown, hts⟩
  have h7 : ∀ w ∈ wsX70, w ∈ (wz yX7_octet cX7_octet 3 (some .byte)) := fun w h => wz_in (inlX7 w h)
  have hS : va_S A s.heap s.heap [] := va_S.rf
  have hl := lv_entry ([.ref (ad 0), .int x1, .int x2]) (n := 3) (Nat.le_of_ble_eq_true rfl)
  rw [lg_entry_eq]
  generalize (lg_sl ([.ref (ad 0), .int x1, .int x2]) ++ List.replicate (3 - (lg_sl ([.ref (ad 0), .int x1, .int x2])).length) Slot.unset).toArray = ls at hl ⊢
  have hl : lv_has ls 3 [(0, .ref (ad 0)), (1, .int x1), (2, .int x2)] := hl
  have B71 : ∀ (τ : MS) (y0 : Int32) (H : Heap) (locs : List Loc) (ls : Array Slot) (hf : k_X7_octet_b71 x1 x2 τ y0 = some (r, τ')) (hw : zw D A ad (mG cy ad τ) H) (hS : va_S A s.heap H locs) (hl : lv_has ls 3 [(0, .ref (ad 0)), (1, .int x1), (2, .int x2)]), W p l e (headSpec (wz yX7_octet cX7_octet 3 (some .byte)) ({ frames := 2, cells := 0, slots := 0, locals := 43 } : Room)).room s m ([.ref (ad 0), .int x1, .int x2] : List Value).toArray below meth c H locs 0 0 (MQ below (va_Qi (fun (r' : Int32) (u : MS) => r' = r ∧ u = τ') (MWp D cy A ad) A) ([.ref (ad 0), .int x1, .int x2] : List Value).toArray s 0 0 A) (F0 m 71 ls [.int y0]) := by
    intro τ y0 H locs ls hf hw hS hl
    rw [k_X7_octet_b71] at hf
    obtain ⟨g_19, hf⟩ := zg_inv hf
    exact mw_retz S hr g_19 hf hw hS hlocks dX7_octet_71
  have B37 : ∀ (τ : MS) (y0 : Int32) (H : Heap) (locs : List Loc) (ls : Array Slot) (hf : k_X7_octet_b37 x1 x2 τ y0 = some (r, τ')) (hw : zw D A ad (mG cy ad τ) H) (hS : va_S A s.heap H locs) (hl : lv_has ls 3 [(0, .ref (ad 0)), (1, .int x1), (2, .int x2)]), W p l e (headSpec (wz yX7_octet cX7_octet 3 (some .byte)) ({ frames := 2, cells := 0, slots := 0, locals := 43 } : Room)).room s m ([.ref (ad 0), .int x1, .int x2] : List Value).toArray below meth c H locs 0 0 (MQ below (va_Qi (fun (r' : Int32) (u : MS) => r' = r ∧ u = τ') (MWp D cy A ad) A) ([.ref (ad 0), .int x1, .int x2] : List Value).toArray s 0 0 A) (F0 m 37 ls [.int y0, .ref (ad 0)]) := by
    intro τ y0 H locs ls hf hw hS hl
    rw [k_X7_octet_b37] at hf
    refine mr_put S h7 hK hw hS 0 (by decide) (wz_in (zin5 _ (List.mem_of_getElem? (i := 8) rfl))) rfl rfl rfl (mput_0 _ _ _ _) dX7_octet_37 (fun H locs hw hS => ?_)
    refine lv_aload_n hx hb dX7_octet_40 rfl (lv_at hl 0 rfl) ?_
    refine mr_get S h7 hK hw 0 (by decide) (wz_in (zin5 _ (List.mem_of_getElem? (i := 8) rfl))) rfl rfl dX7_octet_41 ?_
    refine lv_if_le (tgt := 51) hx hb dX7_octet_44 (by decide) (fun c_20 => ?_) (fun c_20 => ?_)
    · have hf := (zi_t c_20).symm.trans hf
      refine lv_aload_n hx hb dX7_octet_51 rfl (lv_at hl 0 rfl) ?_
      refine mr_get S h7 hK hw 7 (by decide) (wz_in (zin3 _ (List.mem_of_getElem? (i := 13) rfl))) rfl rfl dX7_octet_52 ?_
      refine lv_bipush (v := (120 : Int32)) hx hb dX7_octet_55 (by decide) ?_
      refine lv_iload_n hx hb dX7_octet_57 rfl (lv_at hl 1 rfl) ?_
      refine lv_aload_n hx hb dX7_octet_58 rfl (lv_at hl 0 rfl) ?_
      refine mr_get S h7 hK hw 6 (by decide) (wz_in (zin3 _ (List.mem_of_getElem? (i := 12) rfl))) rfl rfl dX7_octet_59 ?_
      refine lv_iload_n hx hb dX7_octet_62 rfl (lv_at hl 1 rfl) ?_
      obtain ⟨g_21, hf⟩ := zg_inv hf
      refine mr_iald S hK hw 6 rfl g_21 dX7_octet_63 ?_
      obtain ⟨r_22, t_23, e_24, hf⟩ := zb_inv hf
      refine mw_si (As := [.int x1, .int (mr (mI τ 0 y0) 6 x1.toNatClampNeg)]) (rest := [.int (120 : Int32), .ref (ad 7)]) (n := 2) S (kc_X7_place l D cy A ad _ _ _ _ _ e_24) (wz_S (zin9 _ (List.mem_of_getElem? (i := 0) rfl)) (zin8 _ (List.mem_of_getElem? (i := 22) rfl)) (zin8 _ (List.mem_of_getElem? (i := 23) rfl)) (zin1 _ (List.mem_of_getElem? (i := 5) rfl))) rfl ⟨rfl, rfl⟩ (by decide +kernel) ⟨Nat.le_of_ble_eq_true rfl, Nat.le_of_ble_eq_true rfl⟩ rfl hl.1 rfl (Nat.le_of_ble_eq_true rfl) hK hw hS dX7_octet_64 ⟨Nat.zero_le _, Nat.zero_le _⟩ (fun H locs hw hS => ?_)
      refine lv_imul hx hb dX7_octet_67 ?_
      refine lv_iload_n hx hb dX7_octet_68 rfl (lv_at hl 2 rfl) ?_
      refine lv_iadd hx hb dX7_octet_69 ?_
      obtain ⟨g_25, hf⟩ := zg_inv hf
      refine mr_bald S hK hw 7 rfl g_25 dX7_octet_70 ?_
      exact B71 _ _ _ _ _ hf hw hS (lv_sub hl [0, 1, 2] rfl)
    · have hf := (zi_f c_20).symm.trans hf
      refine lv_iconst (v := (0 : Int32)) hx hb dX7_octet_47 (by decide) ?_
      refine lv_goto (tgt := 71) hx hb dX7_octet_48 (by decide) ?_
      exact B71 _ _ _ _ _ hf hw hS (lv_sub hl [0, 1, 2] rfl)
  have B36 : ∀ (τ : MS) (H : Heap) (locs : List Loc) (ls : Array Slot) (hf : k_X7_octet_b36 x1 x2 τ = some (r, τ')) (hw : zw D A ad (mG cy ad τ) H) (hS : va_S A s.heap H locs) (hl : lv_has ls 3 [(0, .ref (ad 0)), (1, .int x1), (2, .int x2)]), W p l e (headSpec (wz yX7_octet cX7_octet 3 (some .byte)) ({ frames := 2, cells := 0, slots := 0, locals := 43 } : Room)).room s m ([.ref (ad 0), .int x1, .int x2] : List Value).toArray below meth c H locs 0 0 (MQ below (va_Qi (fun (r' : Int32) (u : MS) => r' = r ∧ u = τ') (MWp D cy A ad) A) ([.ref (ad 0), .int x1, .int x2] : List Value).toArray s 0 0 A) (F0 m 36 ls [.ref (ad 0)]) := by
    intro τ H locs ls hf hw hS hl
    rw [k_X7_octet_b36] at hf
    refine lv_iconst (v := (1 : Int32)) hx hb dX7_octet_36 (by decide) ?_
    exact B37 _ _ _ _ _ hf hw hS (lv_sub hl [0, 1, 2] rfl)
  rw [k_X7_octet] at hf
  refine lv_aload_n hx hb dX7_octet_0 rfl (lv_at hl 0 rfl) ?_
  refine lv_aload_n hx hb dX7_octet_1 rfl (lv_at hl 0 rfl) ?_
  refine lv_iload_n hx hb dX7_octet_2 rfl (lv_at hl 1 rfl) ?_
  obtain ⟨r_26, t_27, e_28, hf⟩ := zb_inv hf
  refine mw_ci (As := [.int x1]) (rest := [.ref (ad 0)]) (n := 1) S (kc_X7_isRunnable l D cy A ad _ _ _ _ e_28) (wz_V (zin10 _ (List.mem_of_getElem? (i := 15) rfl)) (zin10 _ (List.mem_of_getElem? (i := 12) rfl)) (zin10 _ (List.mem_of_getElem? (i := 13) rfl)) (zin10 _ (List.mem_of_getElem? (i := 14) rfl)) (zin1 _ (List.mem_of_getElem? (i := 5) rfl))) rfl ⟨rfl, rfl⟩ (by decide +kernel) ⟨Nat.le_of_ble_eq_true rfl, Nat.le_of_ble_eq_true rfl⟩ rfl hl.1 rfl (Nat.le_of_ble_eq_true rfl) hK hw hS dX7_octet_3 ⟨Nat.zero_le _, Nat.zero_le _⟩ (fun H locs hw hS => ?_)
  refine lv_if_eq (tgt := 36) hx hb dX7_octet_6 (by decide) (fun c_29 => ?_) (fun c_29 => ?_)
  · have hf := (zi_t c_29).symm.trans hf
    exact B36 _ _ _ _ hf hw hS (lv_sub hl [0, 1, 2] rfl)
  · have hf := (zi_f c_29).symm.trans hf
    refine lv_iload_n hx hb dX7_octet_9 rfl (lv_at hl 2 rfl) ?_
    refine lv_if_lt (tgt := 36) hx hb dX7_octet_10 (by decide) (fun c_30 => ?_) (fun c_30 => ?_)
    · have hf := (zi_t c_30).symm.trans hf
      exact B36 _ _ _ _ hf hw hS (lv_sub hl [0, 1, 2] rfl)
    · have hf := (zi_f c_30).symm.trans hf
      refine lv_iload_n hx hb dX7_octet_13 rfl (lv_at hl 2 rfl) ?_
      refine lv_aload_n hx hb dX7_octet_14 rfl (lv_at hl 0 rfl) ?_
      refine mr_get S h7 hK hw 8 (by decide) (wz_in (zin3 _ (List.mem_of_getElem? (i := 14) rfl))) rfl rfl dX7_octet_15 ?_
      refine lv_iload_n hx hb dX7_octet_18 rfl (lv_at hl 1 rfl) ?_
      refine lv_aload_n hx hb dX7_octet_19 rfl (lv_at hl 0 rfl) ?_
      refine mr_get S h7 hK hw 6 (by decide) (wz_in (zin3 _ (List.mem_of_getElem? (i := 12) rfl))) rfl rfl dX7_octet_20 ?_
      refine lv_iload_n hx hb dX7_octet_23 rfl (lv_at hl 1 rfl) ?_
      obtain ⟨g_31, hf⟩ := zg_inv hf
      refine mr_iald S hK hw 6 rfl g_31 dX7_octet_24 ?_
      obtain ⟨r_32, t_33, e_34, hf⟩ := zb_inv hf
      refine mw_si (As := [.int x1, .int (mr t_27 6 x1.toNatClampNeg)]) (rest := [.ref (ad 8), .int x2, .ref (ad 0)]) (n := 2) S (kc_X7_place l D cy A ad _ _ _ _ _ e_34) (wz_S (zin9 _ (List.mem_of_getElem? (i := 0) rfl)) (zin8 _ (List.mem_of_getElem? (i := 22) rfl)) (zin8 _ (List.mem_of_getElem? (i := 23) rfl)) (zin1 _ (List.mem_of_getElem? (i := 5) rfl))) rfl ⟨rfl, rfl⟩ (by decide +kernel) ⟨Nat.le_of_ble_eq_true rfl, Nat.le_of_ble_eq_true rfl⟩ rfl hl.1 rfl (Nat.le_of_ble_eq_true rfl) hK hw hS dX7_octet_25 ⟨Nat.zero_le _, Nat.zero_le _⟩ (fun H locs hw hS => ?_)
      obtain ⟨g_35, hf⟩ := zg_inv hf
      refine mr_iald S hK hw 8 rfl g_35 dX7_octet_28 ?_
      refine lv_icmp_ge (tgt := 36) hx hb dX7_octet_29 (by decide) (fun c_36 => ?_) (fun c_36 => ?_)
      · have hf := (zi_t c_36).symm.trans hf
        exact B36 _ _ _ _ hf hw hS (lv_sub hl [0, 1, 2] rfl)
      · have hf := (zi_f c_36).symm.trans hf
        refine lv_iconst (v := (0 : Int32)) hx hb dX7_octet_32 (by decide) ?_
        refine lv_goto (tgt := 37) hx hb dX7_octet_33 (by decide) ?_
        exact B37 _ _ _ _ _ hf hw hS (lv_sub hl [0, 1, 2] rfl)
noncomputable def k_X7_divide_b29 (x1 : Int64) (x3 : Int64) (τ : MS) (y0 : Int64) : Option (Int64 × MS) := some (y0, τ)
noncomputable def k_X7_divide_b12 (x1 : Int64) (x3 : Int64) (τ : MS) (y0 : Int32) : Option (Int64 × MS) := zi ((mi (mI τ 0 y0) 0) ≤ 0) (zg (¬ x3 = 0) (k_X7_divide_b29 x1 x3 (mI τ 0 y0) (x1 / x3))) (k_X7_divide_b29 x1 x3 (mI τ 0 y0) (0 : Int64))
noncomputable def k_X7_divide (τ : MS) (x1 : Int64) (x3 : Int64) : Option (Int64 × MS) := zi ((lg_cmp x3 (0 : Int64)) = 0) (k_X7_divide_b12 x1 x3 τ (1 : Int32)) (k_X7_divide_b12 x1 x3 τ (0 : Int32))
set_option maxHeartbeats 4000000 in
set_option maxRecDepth 100000 in
theorem kc_X7_divide (l : Launch) (D : va_G) (cy : Nat → ClassId) (A : Nat → Prop) (ad : Nat → Nat) (τ τ' : MS) (x1 : Int64) (x3 : Int64) (r : Int64) (hf : k_X7_divide τ x1 x3 = some (r, τ')) : Met l yX7_divide (wz yX7_divide cX7_divide 5 (some .long)) ({ frames := 0, cells := 0, slots := 0, locals := 0 } : Room) (va_Pc [.ref (ad 0), .long x1, .long x3] (MWs D cy A ad τ)) (va_Ql (fun (r' : Int64) (u : MS) => r' = r ∧ u = τ') (MWp D cy A ad) A) 0 0 A := by
  refine Met.ofW (cc := cX7_divide) (maxL := 5) (ret := (some .long)) (by decide) rfl ?_
  intro p e s m args below meth c s₁ B hml hv
  obtain ⟨rfl, hw, hK⟩ := hv
  have hx := B.exec
  have hb := B.bytes
  have hr := B.returns
  have hts := atoms_spec (ws := (wz yX7_divide cX7_divide 5 (some .long))) B.pre
  have hown : s.vm.findClass RX7 = some m.cls := findClass_of_methodNamed B.named
  have hlocks := B.notSynchronized
  have S : CallFix p m c cX7_divide 5 s ([.ref (ad 0), .long x1, .long x3] : List Value).toArray (wz yX7_divide cX7_divide 5 (some .long)) RX7 := ⟨hx, hb, hml, hown, hts⟩
  have h7 : ∀ w ∈ wsX70, w ∈ (wz yX7_divide cX7_divide 5 (some .long)) := fun w h => wz_in (inlX7 w h)
  have hS : va_S A s.heap s.heap [] := va_S.rf
  have hl := lv_entry ([.ref (ad 0), .long x1, .long x3]) (n := 5) (Nat.le_of_ble_eq_true rfl)
  rw [lg_entry_eq]
  generalize (lg_sl ([.ref (ad 0), .long x1, .long x3]) ++ List.replicate (5 - (lg_sl ([.ref (ad 0), .long x1, .long x3])).length) Slot.unset).toArray = ls at hl ⊢
  have hl : lv_has ls 5 [(0, .ref (ad 0)), (1, .long x1), (3, .long x3)] := hl
  have B29 : ∀ (τ : MS) (y0 : Int64) (H : Heap) (locs : List Loc) (ls : Array Slot) (hf : k_X7_divide_b29 x1 x3 τ y0 = some (r, τ')) (hw : zw D A ad (mG cy ad τ) H) (hS : va_S A s.heap H locs) (hl : lv_has ls 5 [(0, .ref (ad 0)), (1, .long x1), (3, .long x3)]), W p l e (headSpec (wz yX7_divide cX7_divide 5 (some .long)) ({ frames := 0, cells := 0, slots := 0, locals := 0 } : Room)).room s m ([.ref (ad 0), .long x1, .long x3] : List Value).toArray below meth c H locs 0 0 (MQ below (va_Ql (fun (r' : Int64) (u : MS) => r' = r ∧ u = τ') (MWp D cy A ad) A) ([.ref (ad 0), .long x1, .long x3] : List Value).toArray s 0 0 A) (F0 m 29 ls [.long y0]) := by
    intro τ y0 H locs ls hf hw hS hl
    rw [k_X7_divide_b29] at hf
    exact mw_retl S hr hf hw hS hlocks dX7_divide_29
  have B12 : ∀ (τ : MS) (y0 : Int32) (H : Heap) (locs : List Loc) (ls : Array Slot) (hf : k_X7_divide_b12 x1 x3 τ y0 = some (r, τ')) (hw : zw D A ad (mG cy ad τ) H) (hS : va_S A s.heap H locs) (hl : lv_has ls 5 [(0, .ref (ad 0)), (1, .long x1), (3, .long x3)]), W p l e (headSpec (wz yX7_divide cX7_divide 5 (some .long)) ({ frames := 0, cells := 0, slots := 0, locals := 0 } : Room)).room s m ([.ref (ad 0), .long x1, .long x3] : List Value).toArray below meth c H locs 0 0 (MQ below (va_Ql (fun (r' : Int64) (u : MS) => r' = r ∧ u = τ') (MWp D cy A ad) A) ([.ref (ad 0), .long x1, .long x3] : List Value).toArray s 0 0 A) (F0 m 12 ls [.int y0, .ref (ad 0)]) := by
    intro τ y0 H locs ls hf hw hS hl
    rw [k_X7_divide_b12] at hf
    refine mr_put S h7 hK hw hS 0 (by decide) (wz_in (zin5 _ (List.mem_of_getElem? (i := 8) rfl))) rfl rfl rfl (mput_0 _ _ _ _) dX7_divide_12 (fun H locs hw hS => ?_)
    refine lv_aload_n hx hb dX7_divide_15 rfl (lv_at hl 0 rfl) ?_
    refine mr_get S h7 hK hw 0 (by decide) (wz_in (zin5 _ (List.mem_of_getElem? (i := 8) rfl))) rfl rfl dX7_divide_16 ?_
    refine lv_if_le (tgt := 26) hx hb dX7_divide_19 (by decide) (fun c_4 => ?_) (fun c_4 => ?_)
    · have hf := (zi_t c_4).symm.trans hf
      refine lv_lload_n hx hb dX7_divide_26 rfl (lv_at hl 1 rfl) ?_
      refine lv_lload_n hx hb dX7_divide_27 rfl (lv_at hl 2 rfl) ?_
      obtain ⟨g_5, hf⟩ := zg_inv hf
      refine lv_ldiv hx hb dX7_divide_28 g_5 ?_
      exact B29 _ _ _ _ _ hf hw hS (lv_sub hl [0, 1, 2] rfl)
    · have hf := (zi_f c_4).symm.trans hf
      refine lv_lconst (v := (0 : Int64)) hx hb dX7_divide_22 (by decide) ?_
      refine lv_goto (tgt := 29) hx hb dX7_divide_23 (by decide) ?_
      exact B29 _ _ _ _ _ hf hw hS (lv_sub hl [0, 1, 2] rfl)
  rw [k_X7_divide] at hf
  refine lv_aload_n hx hb dX7_divide_0 rfl (lv_at hl 0 rfl) ?_
  refine lv_lload_n hx hb dX7_divide_1 rfl (lv_at hl 2 rfl) ?_
  refine lv_lconst (v := (0 : Int64)) hx hb dX7_divide_2 (by decide) ?_
  refine W.lcmp hx hb dX7_divide_3 ?_
  refine lv_if_ne (tgt := 11) hx hb dX7_divide_4 (by decide) (fun c_6 => ?_) (fun c_6 => ?_)
  · have hf := (zi_f c_6).symm.trans hf
    refine lv_iconst (v := (0 : Int32)) hx hb dX7_divide_11 (by decide) ?_
    exact B12 _ _ _ _ _ hf hw hS (lv_sub hl [0, 1, 2] rfl)
  · have hf := (zi_t c_6).symm.trans hf
    refine lv_iconst (v := (1 : Int32)) hx hb dX7_divide_7 (by decide) ?_
    refine lv_goto (tgt := 12) hx hb dX7_divide_8 (by decide) ?_
    exact B12 _ _ _ _ _ hf hw hS (lv_sub hl [0, 1, 2] rfl)
noncomputable def k_X7_refused (τ : MS) : Option (Int32 × MS) := some (mi (mI τ 0 (0 : Int32)) 2, mI τ 0 (0 : Int32))
set_option maxHeartbeats 4000000 in
set_option maxRecDepth 100000 in
theorem kc_X7_refused (l : Launch) (D : va_G) (cy : Nat → ClassId) (A : Nat → Prop) (ad : Nat → Nat) (τ τ' : MS) (r : Int32) (hf : k_X7_refused τ = some (r, τ')) : Met l yX7_refused (wz yX7_refused cX7_refused 1 (some .int)) ({ frames := 0, cells := 0, slots := 0, locals := 0 } : Room) (va_Pc [.ref (ad 0)] (MWs D cy A ad τ)) (va_Qi (fun (r' : Int32) (u : MS) => r' = r ∧ u = τ') (MWp D cy A ad) A) 0 0 A := by
  refine Met.ofW (cc := cX7_refused) (maxL := 1) (ret := (some .int)) (by decide) rfl ?_
  intro p e s m args below meth c s₁ B hml hv
  obtain ⟨rfl, hw, hK⟩ := hv
  have hx := B.exec
  have hb := B.bytes
  have hr := B.returns
  have hts := atoms_spec (ws := (wz yX7_refused cX7_refused 1 (some .int))) B.pre
  have hown : s.vm.findClass RX7 = some m.cls := findClass_of_methodNamed B.named
  have hlocks := B.notSynchronized
  have S : CallFix p m c cX7_refused 1 s ([.ref (ad 0)] : List Value).toArray (wz yX7_refused cX7_refused 1 (some .int)) RX7 := ⟨hx, hb, hml, hown, hts⟩
  have h7 : ∀ w ∈ wsX70, w ∈ (wz yX7_refused cX7_refused 1 (some .int)) := fun w h => wz_in (inlX7 w h)
  have hS : va_S A s.heap s.heap [] := va_S.rf
  have hl := lv_entry ([.ref (ad 0)]) (n := 1) (Nat.le_of_ble_eq_true rfl)
  rw [lg_entry_eq]
  generalize (lg_sl ([.ref (ad 0)]) ++ List.replicate (1 - (lg_sl ([.ref (ad 0)])).length) Slot.unset).toArray = ls at hl ⊢
  have hl : lv_has ls 1 [(0, .ref (ad 0))] := hl
  rw [k_X7_refused] at hf
  refine lv_aload_n hx hb dX7_refused_0 rfl (lv_at hl 0 rfl) ?_
  refine lv_iconst (v := (0 : Int32)) hx hb dX7_refused_1 (by decide) ?_
  refine mr_put S h7 hK hw hS 0 (by decide) (wz_in (zin5 _ (List.mem_of_getElem? (i := 8) rfl))) rfl rfl rfl (mput_0 _ _ _ _) dX7_refused_2 (fun H locs hw hS => ?_)
  refine lv_aload_n hx hb dX7_refused_5 rfl (lv_at hl 0 rfl) ?_
  refine mr_get S h7 hK hw 2 (by decide) (wz_in (zin5 _ (List.mem_of_getElem? (i := 17) rfl))) rfl rfl dX7_refused_6 ?_
  exact mw_reti S hr hf hw hS hlocks dX7_refused_9
