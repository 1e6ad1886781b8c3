theorem zU_X5 {c0 : Cond} : GoodIn (c0 :: wsL_law) (va_wsU RX5 92 RX3 "java/lang/Enum" ⟨"RunClasses$Instruction", "ordinal", "()I"⟩ yJx29ce0_ordinal_8abf5 (wz yJx29ce0_ordinal_8abf5 cJx29ce0_ordinal_8abf5 1 (some .int))) := fun w hw => by
  rcases List.mem_append.mp hw with hw | hw
  · have : w ∈ wsL_law := by
      rcases List.mem_cons.mp hw with rfl | hw
      · exact (zin12 _ (List.mem_of_getElem? (i := 5) rfl))
      rcases List.mem_cons.mp hw with rfl | hw
      · exact (zin12 _ (List.mem_of_getElem? (i := 6) rfl))
      rcases List.mem_cons.mp hw with rfl | hw
      · exact (zin12 _ (List.mem_of_getElem? (i := 7) rfl))
      rcases List.mem_cons.mp hw with rfl | hw
      · exact (zin12 _ (List.mem_of_getElem? (i := 8) rfl))
      rcases List.mem_cons.mp hw with rfl | hw
      · exact (zin12 _ (List.mem_of_getElem? (i := 9) rfl))
      exact absurd hw List.not_mem_nil
    exact ⟨List.mem_cons_of_mem _ this, good_of_word (List.all_eq_true.mp zgood_all _ this)⟩
  · exact wz_gd (zin12 _ (List.mem_of_getElem? (i := 10) rfl)) w hw
noncomputable def k_X5_reckoned_b111 (x0 : Nat) (x1 : Int64) (x3 : Int64) (τ : CS) (y0 : Int64) : Option (Int64 × CS) := some (y0, τ)
noncomputable def k_X5_reckoned_b99 (x0 : Nat) (x1 : Int64) (x3 : Int64) (τ : CS) (y0 : Int64) : Option (Int64 × CS) := some (y0, τ)
noncomputable def k_X5_reckoned_b87 (x0 : Nat) (x1 : Int64) (x3 : Int64) (τ : CS) (y0 : Int64) : Option (Int64 × CS) := some (y0, τ)
noncomputable def k_X5_reckoned_b73 (x0 : Nat) (x1 : Int64) (x3 : Int64) (τ : CS) (y0 : Int64) : Option (Int64 × CS) := some (y0, τ)
noncomputable def k_X5_reckoned (τ : CS) (x0 : Nat) (x1 : Int64) (x3 : Int64) : Option (Int64 × CS) := zg (x0 < 19) (zb (k_Jx29ce0_ordinal_8abf5 τ x0) (fun r_19 t_20 => zg (vp_in r_19 19) (zs (zSw.getD r_19.toNatClampNeg 0) (fun w_24 => zi (w_24 = 13) (some (x1 + x3, t_20)) (zi (w_24 = 14) (some (x1 - x3, t_20)) (zi (w_24 = 15) (some (x1 * x3, t_20)) (zi (w_24 = 16) (zi ((lg_cmp x3 (0 : Int64)) = 0) (k_X5_reckoned_b73 x0 x1 x3 t_20 (0 : Int64)) (zg (¬ x3 = 0) (k_X5_reckoned_b73 x0 x1 x3 t_20 (x1 / x3)))) (zi (w_24 = 17) (zi ((lg_cmp x3 (0 : Int64)) = 0) (k_X5_reckoned_b87 x0 x1 x3 t_20 (0 : Int64)) (zg (¬ x3 = 0) (k_X5_reckoned_b87 x0 x1 x3 t_20 (x1 - x1 / x3 * x3)))) (zi (w_24 = 18) (zi (0 ≤ (lg_cmp x1 x3)) (k_X5_reckoned_b99 x0 x1 x3 t_20 (0 : Int64)) (k_X5_reckoned_b99 x0 x1 x3 t_20 (1 : Int64))) (zi ((lg_cmp x1 x3) = 0) (k_X5_reckoned_b111 x0 x1 x3 t_20 (1 : Int64)) (k_X5_reckoned_b111 x0 x1 x3 t_20 (0 : Int64))))))))))))
set_option maxHeartbeats 4000000 in
set_option maxRecDepth 100000 in
theorem kc_X5_reckoned (l : Launch) (D : va_G) (cy : Nat → ClassId) (A : Nat → Prop) (ad : Nat × Nat → Nat) (en : Nat → Nat) (tI tS : Nat) (τ τ' : CS) (x0 : Nat) (x1 : Int64) (x3 : Int64) (r : Int64) (hf : k_X5_reckoned τ x0 x1 x3 = some (r, τ')) : Met l yX5_reckoned (wz yX5_reckoned cX5_reckoned 5 (some .long)) ({ frames := 1, cells := 0, slots := 0, locals := 20 } : Room) (va_Pc [.ref (en x0), .long x1, .long x3] (CWs D cy A ad en tI tS τ)) (va_Ql (fun (r' : Int64) (u : CS) => r' = r ∧ u = τ') (CWp D cy A ad) A) 0 0 A := by
  refine Met.ofW (cc := cX5_reckoned) (maxL := 5) (ret := (some .long)) (by decide) rfl ?_
  intro p e s m args below meth c s₁ B hml hv
  obtain ⟨rfl, hw, hC⟩ := hv
  have hK := hC.1
  have hN := hC.2.1
  have hx := B.exec
  have hb := B.bytes
  have hr := B.returns
  have hts := atoms_spec (ws := (wz yX5_reckoned cX5_reckoned 5 (some .long))) B.pre
  have hown : s.vm.findClass RX5 = some m.cls := findClass_of_methodNamed B.named
  have hlocks := B.notSynchronized
  have S : CallFix p m c cX5_reckoned 5 s ([.ref (en x0), .long x1, .long x3] : List Value).toArray (wz yX5_reckoned cX5_reckoned 5 (some .long)) RX5 := ⟨hx, hb, hml, hown, hts⟩
  have hX1 : ∀ w ∈ wsX10, w ∈ (wz yX5_reckoned cX5_reckoned 5 (some .long)) := fun w h => wz_in (inlX1 w h)
  have hX2 : ∀ w ∈ wsX20, w ∈ (wz yX5_reckoned cX5_reckoned 5 (some .long)) := fun w h => wz_in (inlX2 w h)
  have hX4 : ∀ w ∈ wsX40, w ∈ (wz yX5_reckoned cX5_reckoned 5 (some .long)) := fun w h => wz_in (inlX4 w h)
  have hX5 : ∀ w ∈ wsX50, w ∈ (wz yX5_reckoned cX5_reckoned 5 (some .long)) := fun w h => wz_in (inlX5 w h)
  have hX6 : ∀ w ∈ wsX60, w ∈ (wz yX5_reckoned cX5_reckoned 5 (some .long)) := fun w h => wz_in (inlX6 w h)
  have hS : va_S A s.heap s.heap [] := va_S.rf
  have hl := lv_entry ([.ref (en x0), .long x1, .long x3]) (n := 5) (Nat.le_of_ble_eq_true rfl)
  rw [lg_entry_eq]
  generalize (lg_sl ([.ref (en x0), .long x1, .long x3]) ++ List.replicate (5 - (lg_sl ([.ref (en x0), .long x1, .long x3])).length) Slot.unset).toArray = ls at hl ⊢
  have hl : lv_has ls 5 [(0, .ref (en x0)), (1, .long x1), (3, .long x3)] := hl
  have B111 : ∀ (τ : CS) (y0 : Int64) (H : Heap) (locs : List Loc) (ls : Array Slot) (hf : k_X5_reckoned_b111 x0 x1 x3 τ y0 = some (r, τ')) (hw : zw D A ad (cG cy ad τ) H) (hS : va_S A s.heap H locs) (hl : lv_has ls 5 [(0, .ref (en x0)), (1, .long x1), (3, .long x3)]), W p l e (headSpec (wz yX5_reckoned cX5_reckoned 5 (some .long)) ({ frames := 1, cells := 0, slots := 0, locals := 20 } : Room)).room s m ([.ref (en x0), .long x1, .long x3] : List Value).toArray below meth c H locs 0 0 (MQ below (va_Ql (fun (r' : Int64) (u : CS) => r' = r ∧ u = τ') (CWp D cy A ad) A) ([.ref (en x0), .long x1, .long x3] : List Value).toArray s 0 0 A) (F0 m 111 ls [.long y0]) := by
    intro τ y0 H locs ls hf hw hS hl
    rw [k_X5_reckoned_b111] at hf
    exact cw_retl S hr hf hw hS hlocks dX5_reckoned_111
  have B99 : ∀ (τ : CS) (y0 : Int64) (H : Heap) (locs : List Loc) (ls : Array Slot) (hf : k_X5_reckoned_b99 x0 x1 x3 τ y0 = some (r, τ')) (hw : zw D A ad (cG cy ad τ) H) (hS : va_S A s.heap H locs) (hl : lv_has ls 5 [(0, .ref (en x0)), (1, .long x1), (3, .long x3)]), W p l e (headSpec (wz yX5_reckoned cX5_reckoned 5 (some .long)) ({ frames := 1, cells := 0, slots := 0, locals := 20 } : Room)).room s m ([.ref (en x0), .long x1, .long x3] : List Value).toArray below meth c H locs 0 0 (MQ below (va_Ql (fun (r' : Int64) (u : CS) => r' = r ∧ u = τ') (CWp D cy A ad) A) ([.ref (en x0), .long x1, .long x3] : List Value).toArray s 0 0 A) (F0 m 99 ls [.long y0]) := by
    intro τ y0 H locs ls hf hw hS hl
    rw [k_X5_reckoned_b99] at hf
    exact cw_retl S hr hf hw hS hlocks dX5_reckoned_99
  have B87 : ∀ (τ : CS) (y0 : Int64) (H : Heap) (locs : List Loc) (ls : Array Slot) (hf : k_X5_reckoned_b87 x0 x1 x3 τ y0 = some (r, τ')) (hw : zw D A ad (cG cy ad τ) H) (hS : va_S A s.heap H locs) (hl : lv_has ls 5 [(0, .ref (en x0)), (1, .long x1), (3, .long x3)]), W p l e (headSpec (wz yX5_reckoned cX5_reckoned 5 (some .long)) ({ frames := 1, cells := 0, slots := 0, locals := 20 } : Room)).room s m ([.ref (en x0), .long x1, .long x3] : List Value).toArray below meth c H locs 0 0 (MQ below (va_Ql (fun (r' : Int64) (u : CS) => r' = r ∧ u = τ') (CWp D cy A ad) A) ([.ref (en x0), .long x1, .long x3] : List Value).toArray s 0 0 A) (F0 m 87 ls [.long y0]) := by
    intro τ y0 H locs ls hf hw hS hl
    rw [k_X5_reckoned_b87] at hf
    exact cw_retl S hr hf hw hS hlocks dX5_reckoned_87
  have B73 : ∀ (τ : CS) (y0 : Int64) (H : Heap) (locs : List Loc) (ls : Array Slot) (hf : k_X5_reckoned_b73 x0 x1 x3 τ y0 = some (r, τ')) (hw : zw D A ad (cG cy ad τ) H) (hS : va_S A s.heap H locs) (hl : lv_has ls 5 [(0, .ref (en x0)), (1, .long x1), (3, .long x3)]), W p l e (headSpec (wz yX5_reckoned cX5_reckoned 5 (some .long)) ({ frames := 1, cells := 0, slots := 0, locals := 20 } : Room)).room s m ([.ref (en x0), .long x1, .long x3] : List Value).toArray below meth c H locs 0 0 (MQ below (va_Ql (fun (r' : Int64) (u : CS) => r' = r ∧ u = τ') (CWp D cy A ad) A) ([.ref (en x0), .long x1, .long x3] : List Value).toArray s 0 0 A) (F0 m 73 ls [.long y0]) := by
    intro τ y0 H locs ls hf hw hS hl
    rw [k_X5_reckoned_b73] at hf
    exact cw_retl S hr hf hw hS hlocks dX5_reckoned_73
  rw [k_X5_reckoned] at hf
  refine cr_getS S hC hS (wz_in (zin12 _ (List.mem_of_getElem? (i := 3) rfl))) dX5_reckoned_0 ?_
  refine lv_aload_n hx hb dX5_reckoned_3 rfl (lv_at hl 0 rfl) ?_
  obtain ⟨g_22, hf⟩ := zg_inv hf
  obtain ⟨r_19, t_20, e_21, hf⟩ := zb_inv hf
  refine cw_fi (va_runU (As := []) (rest := [.ref tS]) S (kc_Jx29ce0_ordinal_8abf5 l D cy A ad en tI tS _ _ x0 _ e_21) (va_cwU (own := RX5) (C := RX3) (owner := "java/lang/Enum") (x := ⟨"RunClasses$Instruction", "ordinal", "()I"⟩) 0 hts (zU_X5) rfl rfl rfl rfl (by decide +kernel) ⟨Nat.le_of_ble_eq_true rfl, Nat.le_of_ble_eq_true rfl⟩) ⟨cw_blind _, va_recvE hC.2.2.1.1 g_22 hS, cw_pre hC hw hS _⟩ rfl rfl hl.1 rfl (lv_room (Nat.le_of_ble_eq_true rfl)) dX5_reckoned_4 ⟨Nat.zero_le _, Nat.zero_le _⟩) hS (fun H locs hw hS => ?_)
  obtain ⟨g_23, hf⟩ := zg_inv hf
  refine cr_tS S hC hS g_23 dX5_reckoned_7 ?_
  refine lv_topi (fun w_24 ew_24 => ?_)
  have hf := (zs_e ew_24).symm.trans hf
  by_cases c_25 : w_24 = 13
  · have hf := (zi_t c_25).symm.trans hf
    refine lv_tableIn (tgt := 48) hx hb dX5_reckoned_8 (by rw [c_25]; decide) (by rw [c_25]; decide) (by rw [c_25]; rfl) (by decide) ?_
    refine lv_lload_n hx hb dX5_reckoned_48 rfl (lv_at hl 1 rfl) ?_
    refine lv_lload_n hx hb dX5_reckoned_49 rfl (lv_at hl 2 rfl) ?_
    refine lv_ladd hx hb dX5_reckoned_50 ?_
    exact cw_retl S hr hf hw hS hlocks dX5_reckoned_51
  have hf := (zi_f c_25).symm.trans hf
  by_cases c_26 : w_24 = 14
  · have hf := (zi_t c_26).symm.trans hf
    refine lv_tableIn (tgt := 52) hx hb dX5_reckoned_8 (by rw [c_26]; decide) (by rw [c_26]; decide) (by rw [c_26]; rfl) (by decide) ?_
    refine lv_lload_n hx hb dX5_reckoned_52 rfl (lv_at hl 1 rfl) ?_
    refine lv_lload_n hx hb dX5_reckoned_53 rfl (lv_at hl 2 rfl) ?_
    refine lv_lsub hx hb dX5_reckoned_54 ?_
    exact cw_retl S hr hf hw hS hlocks dX5_reckoned_55
  have hf := (zi_f c_26).symm.trans hf
  by_cases c_27 : w_24 = 15
  · have hf := (zi_t c_27).symm.trans hf
    refine lv_tableIn (tgt := 56) hx hb dX5_reckoned_8 (by rw [c_27]; decide) (by rw [c_27]; decide) (by rw [c_27]; rfl) (by decide) ?_
    refine lv_lload_n hx hb dX5_reckoned_56 rfl (lv_at hl 1 rfl) ?_
    refine lv_lload_n hx hb dX5_reckoned_57 rfl (lv_at hl 2 rfl) ?_
    refine lv_lmul hx hb dX5_reckoned_58 ?_
    exact cw_retl S hr hf hw hS hlocks dX5_reckoned_59
  have hf := (zi_f c_27).symm.trans hf
  by_cases c_28 : w_24 = 16
  · have hf := (zi_t c_28).symm.trans hf
    refine lv_tableIn (tgt := 60) hx hb dX5_reckoned_8 (by rw [c_28]; decide) (by rw [c_28]; decide) (by rw [c_28]; rfl) (by decide) ?_
    refine lv_lload_n hx hb dX5_reckoned_60 rfl (lv_at hl 2 rfl) ?_
    refine lv_lconst (v := (0 : Int64)) hx hb dX5_reckoned_61 (by decide) ?_
    refine W.lcmp hx hb dX5_reckoned_62 ?_
    refine lv_if_ne (tgt := 70) hx hb dX5_reckoned_63 (by decide) (fun c_29 => ?_) (fun c_29 => ?_)
    · have hf := (zi_f c_29).symm.trans hf
      refine lv_lload_n hx hb dX5_reckoned_70 rfl (lv_at hl 1 rfl) ?_
      refine lv_lload_n hx hb dX5_reckoned_71 rfl (lv_at hl 2 rfl) ?_
      obtain ⟨g_30, hf⟩ := zg_inv hf
      refine lv_ldiv hx hb dX5_reckoned_72 g_30 ?_
      exact B73 _ (x1 / x3) _ _ _ hf hw hS (lv_sub hl [0, 1, 2] rfl)
    · have hf := (zi_t c_29).symm.trans hf
      refine lv_lconst (v := (0 : Int64)) hx hb dX5_reckoned_66 (by decide) ?_
      refine lv_goto (tgt := 73) hx hb dX5_reckoned_67 (by decide) ?_
      exact B73 _ (0 : Int64) _ _ _ hf hw hS (lv_sub hl [0, 1, 2] rfl)
  have hf := (zi_f c_28).symm.trans hf
  by_cases c_31 : w_24 = 17
  · have hf := (zi_t c_31).symm.trans hf
    refine lv_tableIn (tgt := 74) hx hb dX5_reckoned_8 (by rw [c_31]; decide) (by rw [c_31]; decide) (by rw [c_31]; rfl) (by decide) ?_
    refine lv_lload_n hx hb dX5_reckoned_74 rfl (lv_at hl 2 rfl) ?_
    refine lv_lconst (v := (0 : Int64)) hx hb dX5_reckoned_75 (by decide) ?_
    refine W.lcmp hx hb dX5_reckoned_76 ?_
    refine lv_if_ne (tgt := 84) hx hb dX5_reckoned_77 (by decide) (fun c_32 => ?_) (fun c_32 => ?_)
    · have hf := (zi_f c_32).symm.trans hf
      refine lv_lload_n hx hb dX5_reckoned_84 rfl (lv_at hl 1 rfl) ?_
      refine lv_lload_n hx hb dX5_reckoned_85 rfl (lv_at hl 2 rfl) ?_
      obtain ⟨g_33, hf⟩ := zg_inv hf
      refine lv_lrem hx hb dX5_reckoned_86 g_33 ?_
      exact B87 _ (x1 - x1 / x3 * x3) _ _ _ hf hw hS (lv_sub hl [0, 1, 2] rfl)
    · have hf := (zi_t c_32).symm.trans hf
      refine lv_lconst (v := (0 : Int64)) hx hb dX5_reckoned_80 (by decide) ?_
      refine lv_goto (tgt := 87) hx hb dX5_reckoned_81 (by decide) ?_
      exact B87 _ (0 : Int64) _ _ _ hf hw hS (lv_sub hl [0, 1, 2] rfl)
  have hf := (zi_f c_31).symm.trans hf
  by_cases c_34 : w_24 = 18
  · have hf := (zi_t c_34).symm.trans hf
    refine lv_tableIn (tgt := 88) hx hb dX5_reckoned_8 (by rw [c_34]; decide) (by rw [c_34]; decide) (by rw [c_34]; rfl) (by decide) ?_
    refine lv_lload_n hx hb dX5_reckoned_88 rfl (lv_at hl 1 rfl) ?_
    refine lv_lload_n hx hb dX5_reckoned_89 rfl (lv_at hl 2 rfl) ?_
    refine W.lcmp hx hb dX5_reckoned_90 ?_
    refine lv_if_ge (tgt := 98) hx hb dX5_reckoned_91 (by decide) (fun c_35 => ?_) (fun c_35 => ?_)
    · have hf := (zi_t c_35).symm.trans hf
      refine lv_lconst (v := (0 : Int64)) hx hb dX5_reckoned_98 (by decide) ?_
      exact B99 _ (0 : Int64) _ _ _ hf hw hS (lv_sub hl [0, 1, 2] rfl)
    · have hf := (zi_f c_35).symm.trans hf
      refine lv_lconst (v := (1 : Int64)) hx hb dX5_reckoned_94 (by decide) ?_
      refine lv_goto (tgt := 99) hx hb dX5_reckoned_95 (by decide) ?_
      exact B99 _ (1 : Int64) _ _ _ hf hw hS (lv_sub hl [0, 1, 2] rfl)
  have hf := (zi_f c_34).symm.trans hf
  refine lv_tableOut (tgt := 100) hx hb dX5_reckoned_8 (zs_out13_18 w_24 c_25 c_26 c_27 c_28 c_31 c_34) (by decide) ?_
  refine lv_lload_n hx hb dX5_reckoned_100 rfl (lv_at hl 1 rfl) ?_
  refine lv_lload_n hx hb dX5_reckoned_101 rfl (lv_at hl 2 rfl) ?_
  refine W.lcmp hx hb dX5_reckoned_102 ?_
  refine lv_if_ne (tgt := 110) hx hb dX5_reckoned_103 (by decide) (fun c_36 => ?_) (fun c_36 => ?_)
  · have hf := (zi_f c_36).symm.trans hf
    refine lv_lconst (v := (0 : Int64)) hx hb dX5_reckoned_110 (by decide) ?_
    exact B111 _ (0 : Int64) _ _ _ hf hw hS (lv_sub hl [0, 1, 2] rfl)
  · have hf := (zi_t c_36).symm.trans hf
    refine lv_lconst (v := (1 : Int64)) hx hb dX5_reckoned_106 (by decide) ?_
    refine lv_goto (tgt := 111) hx hb dX5_reckoned_107 (by decide) ?_
    exact B111 _ (1 : Int64) _ _ _ hf hw hS (lv_sub hl [0, 1, 2] rfl)
noncomputable def k_X5_doIt_b311 (x1 : Nat) (x2 : Int32) (τ : CS) (y0 : Int32) (x5 : Int64) (x7 : Int64) : Option (Int32 × CS) := some (y0, τ)
noncomputable def k_X5_doIt_b299 (x1 : Nat) (x2 : Int32) (τ : CS) (x5 : Int64) (x7 : Int64) : Option (Int32 × CS) := zb (k_X5_reckoned τ x1 x7 x5) (fun r_119 t_120 => zg (cv t_120 1 0 = true) (zb (k_X5_lay t_120 r_119) (fun r_122 t_123 => k_X5_doIt_b311 x1 x2 t_123 r_122 x5 x7)))
noncomputable def k_X5_doIt_b260 (x1 : Nat) (x2 : Int32) (τ : CS) (y0 : Int32) : Option (Int32 × CS) := some (y0, τ)
noncomputable def k_X5_doIt_b225 (x1 : Nat) (x2 : Int32) (τ : CS) (y0 : Int32) (x3 : Int64) : Option (Int32 × CS) := some (y0, τ)
noncomputable def k_X5_doIt_b224 (x1 : Nat) (x2 : Int32) (τ : CS) (x3 : Int64) : Option (Int32 × CS) := k_X5_doIt_b225 x1 x2 τ (2 : Int32) x3
noncomputable def k_X5_doIt_b188 (x1 : Nat) (x2 : Int32) (τ : CS) (y0 : Int32) : Option (Int32 × CS) := some (y0, τ)
noncomputable def k_X5_doIt (τ : CS) (x1 : Nat) (x2 : Int32) : Option (Int32 × CS) := zg (x1 < 19) (zb (k_Jx29ce0_ordinal_8abf5 τ x1) (fun r_126 t_127 => zg (vp_in r_126 19) (zs (zSw.getD r_126.toNatClampNeg 0) (fun w_131 => zi (w_131 = 1) (zg (cv t_127 1 0 = true) (zb (k_X5_lay t_127 ((x2.toInt8.toInt32).toInt64)) (fun r_133 t_134 => some (r_133, t_134)))) (zi (w_131 = 2) (zg (cv t_127 1 0 = true) (zb (k_X6_numberAt t_127 (cr t_127 5) x2) (fun r_139 t_140 => zg (cv t_140 1 0 = true) (zb (k_X5_lay t_140 r_139) (fun r_142 t_143 => some (r_142, t_143)))))) (zi (w_131 = 3) (zg (cv t_127 1 0 = true) (zb (k_X5_take t_127) (fun r_148 t_149 => zb (k_X6_putNumber t_149 (cr t_127 5) x2 r_148) (fun _ t_152 => some ((0 : Int32), t_152))))) (zi (w_131 = 4) (zg (cv t_127 1 0 = true) (zb (k_X6_numberAt t_127 (cr t_127 4) x2) (fun r_156 t_157 => zg (cv t_157 1 0 = true) (zb (k_X5_lay t_157 r_156) (fun r_159 t_160 => some (r_159, t_160)))))) (zi (w_131 = 5) (zg (cv t_127 1 0 = true) (zb (k_X5_take t_127) (fun r_165 t_166 => zb (k_X6_putNumber t_166 (cr t_127 4) x2 r_165) (fun _ t_169 => some ((0 : Int32), t_169))))) (zi (w_131 = 6) (zg (cv t_127 1 0 = true) (zb (k_X6_numberAt t_127 0 ((ci t_127 106 0) - (1 : Int32))) (fun r_173 t_174 => zg (cv t_174 1 0 = true) (zb (k_X5_lay t_174 r_173) (fun r_176 t_177 => some (r_176, t_177)))))) (zi (w_131 = 7) (zg (cv t_127 1 0 = true) (zb (k_X5_goOnAt t_127 ((ci t_127 107 0) + (x2.toInt8.toInt32))) (fun r_182 t_183 => some (r_182, t_183)))) (zi (w_131 = 8) (zg (cv t_127 1 0 = true) (zb (k_X5_take t_127) (fun r_186 t_187 => zi ((lg_cmp r_186 (0 : Int64)) = 0) (zg (cv t_187 1 0 = true) (zb (k_X5_goOnAt t_187 ((ci t_187 107 0) + (x2.toInt8.toInt32))) (fun r_192 t_193 => k_X5_doIt_b188 x1 x2 t_193 r_192))) (k_X5_doIt_b188 x1 x2 t_187 (0 : Int32))))) (zi (w_131 = 9) (zg (cv t_127 1 0 = true) (zb (k_X5_take t_127) (fun r_196 t_197 => zi ((lg_cmp r_196 (0 : Int64)) < 0) (k_X5_doIt_b224 x1 x2 t_197 r_196) (zi (0 ≤ (lg_cmp r_196 (8 : Int64))) (k_X5_doIt_b224 x1 x2 t_197 r_196) (zg (cv t_197 1 0 = true) (zb (k_X6_numberAt t_197 (cr t_197 5) (r_196.toInt32)) (fun r_203 t_204 => zg (cv t_204 1 0 = true) (zb (k_X5_lay t_204 r_203) (fun r_206 t_207 => k_X5_doIt_b225 x1 x2 t_207 r_206 r_196))))))))) (zi (w_131 = 10) (zg (cv t_127 1 0 = true) (some ((0 : Int32), cI t_127 110 0 x2))) (zi (w_131 = 11) (zg (cv t_127 1 0 = true) (zi ((ci t_127 110 0) = (-1 : Int32)) (k_X5_doIt_b260 x1 x2 t_127 (5 : Int32)) (zb (k_X6_numberAt t_127 (cr t_127 4) (ci t_127 110 0)) (fun r_215 t_216 => zg (cv t_216 1 0 = true) (zb (k_X5_lay t_216 r_215) (fun r_218 t_219 => k_X5_doIt_b260 x1 x2 t_219 r_218)))))) (zi (w_131 = 12) (zg (cv t_127 1 0 = true) (some ((6 : Int32), cI t_127 109 0 x2))) (zg (cv t_127 1 0 = true) (zb (k_X5_take t_127) (fun r_224 t_225 => zg (cv t_225 1 0 = true) (zb (k_X5_take t_225) (fun r_228 t_229 => zi ((lg_cmp r_224 (0 : Int64)) = 0) (zb (k_X5_divides t_229 x1) (fun r_233 t_234 => zi (r_233 = 0) (k_X5_doIt_b299 x1 x2 t_234 r_224 r_228) (k_X5_doIt_b311 x1 x2 t_234 (4 : Int32) r_224 r_228))) (k_X5_doIt_b299 x1 x2 t_229 r_224 r_228)))))))))))))))))))))
set_option maxHeartbeats 4000000 in
set_option maxRecDepth 100000 in
theorem kc_X5_doIt (l : Launch) (D : va_G) (cy : Nat → ClassId) (A : Nat → Prop) (ad : Nat × Nat → Nat) (en : Nat → Nat) (tI tS : Nat) (τ τ' : CS) (x1 : Nat) (x2 : Int32) (r : Int32) (hf : k_X5_doIt τ x1 x2 = some (r, τ')) : Met l yX5_doIt (wz yX5_doIt cX5_doIt 9 (some .int)) ({ frames := 2, cells := 0, slots := 0, locals := 44 } : Room) (va_Pc [.ref (ad (1, 0)), .ref (en x1), .int x2] (CWs D cy A ad en tI tS τ)) (va_Qi (fun (r' : Int32) (u : CS) => r' = r ∧ u = τ') (CWp D cy A ad) A) 0 0 A := by
  refine Met.ofW (cc := cX5_doIt) (maxL := 9) (ret := (some .int)) (by decide) rfl ?_
  intro p e s m args below meth c s₁ B hml hv
  obtain ⟨rfl, hw, hC⟩ := hv
  have hK := hC.1
  have hN := hC.2.1
  have hx := B.exec
  have hb := B.bytes
  have hr := B.returns
  have hts := atoms_spec (ws := (wz yX5_doIt cX5_doIt 9 (some .int))) B.pre
  have hown : s.vm.findClass RX5 = some m.cls := findClass_of_methodNamed B.named
  have hlocks := B.notSynchronized
  have S : CallFix p m c cX5_doIt 9 s ([.ref (ad (1, 0)), .ref (en x1), .int x2] : List Value).toArray (wz yX5_doIt cX5_doIt 9 (some .int)) RX5 := ⟨hx, hb, hml, hown, hts⟩
  have hX1 : ∀ w ∈ wsX10, w ∈ (wz yX5_doIt cX5_doIt 9 (some .int)) := fun w h => wz_in (inlX1 w h)
  have hX2 : ∀ w ∈ wsX20, w ∈ (wz yX5_doIt cX5_doIt 9 (some .int)) := fun w h => wz_in (inlX2 w h)
  have hX4 : ∀ w ∈ wsX40, w ∈ (wz yX5_doIt cX5_doIt 9 (some .int)) := fun w h => wz_in (inlX4 w h)
  have hX5 : ∀ w ∈ wsX50, w ∈ (wz yX5_doIt cX5_doIt 9 (some .int)) := fun w h => wz_in (inlX5 w h)
  have hX6 : ∀ w ∈ wsX60, w ∈ (wz yX5_doIt cX5_doIt 9 (some .int)) := fun w h => wz_in (inlX6 w h)
  have hS : va_S A s.heap s.heap [] := va_S.rf
  have hl := lv_entry ([.ref (ad (1, 0)), .ref (en x1), .int x2]) (n := 9) (Nat.le_of_ble_eq_true rfl)
  rw [lg_entry_eq]
  generalize (lg_sl ([.ref (ad (1, 0)), .ref (en x1), .int x2]) ++ List.replicate (9 - (lg_sl ([.ref (ad (1, 0)), .ref (en x1), .int x2])).length) Slot.unset).toArray = ls at hl ⊢
  have hl : lv_has ls 9 [(0, .ref (ad (1, 0))), (1, .ref (en x1)), (2, .int x2)] := hl
  have B311 : ∀ (τ : CS) (y0 : Int32) (x5 : Int64) (x7 : Int64) (H : Heap) (locs : List Loc) (ls : Array Slot) (hf : k_X5_doIt_b311 x1 x2 τ y0 x5 x7 = some (r, τ')) (hw : zw D A ad (cG cy ad τ) H) (hS : va_S A s.heap H locs) (hl : lv_has ls 9 [(0, .ref (ad (1, 0))), (1, .ref (en x1)), (2, .int x2), (5, .long x5), (7, .long x7)]), W p l e (headSpec (wz yX5_doIt cX5_doIt 9 (some .int)) ({ frames := 2, cells := 0, slots := 0, locals := 44 } : Room)).room s m ([.ref (ad (1, 0)), .ref (en x1), .int x2] : List Value).toArray below meth c H locs 0 0 (MQ below (va_Qi (fun (r' : Int32) (u : CS) => r' = r ∧ u = τ') (CWp D cy A ad) A) ([.ref (ad (1, 0)), .ref (en x1), .int x2] : List Value).toArray s 0 0 A) (F0 m 311 ls [.int y0]) := by
    intro τ y0 x5 x7 H locs ls hf hw hS hl
    rw [k_X5_doIt_b311] at hf
    exact cw_reti S hr hf hw hS hlocks dX5_doIt_311
  have B299 : ∀ (τ : CS) (x5 : Int64) (x7 : Int64) (H : Heap) (locs : List Loc) (ls : Array Slot) (hf : k_X5_doIt_b299 x1 x2 τ x5 x7 = some (r, τ')) (hw : zw D A ad (cG cy ad τ) H) (hS : va_S A s.heap H locs) (hl : lv_has ls 9 [(0, .ref (ad (1, 0))), (1, .ref (en x1)), (2, .int x2), (5, .long x5), (7, .long x7)]), W p l e (headSpec (wz yX5_doIt cX5_doIt 9 (some .int)) ({ frames := 2, cells := 0, slots := 0, locals := 44 } : Room)).room s m ([.ref (ad (1, 0)), .ref (en x1), .int x2] : List Value).toArray below meth c H locs 0 0 (MQ below (va_Qi (fun (r' : Int32) (u : CS) => r' = r ∧ u = τ') (CWp D cy A ad) A) ([.ref (ad (1, 0)), .ref (en x1), .int x2] : List Value).toArray s 0 0 A) (F0 m 299 ls []) := by
    intro τ x5 x7 H locs ls hf hw hS hl
    rw [k_X5_doIt_b299] at hf
    refine lv_aload_n hx hb dX5_doIt_299 rfl (lv_at hl 0 rfl) ?_
    refine lv_aload_n hx hb dX5_doIt_300 rfl (lv_at hl 1 rfl) ?_
    refine lv_lload hx hb dX5_doIt_301 (lv_at hl 4 rfl) ?_
    refine lv_lload hx hb dX5_doIt_303 (lv_at hl 3 rfl) ?_
    obtain ⟨r_119, t_120, e_121, hf⟩ := zb_inv hf
    refine cw_fl (va_runS (As := [.ref (en x1), .long x7, .long x5]) (rest := [.ref (ad (1, 0))]) S (kc_X5_reckoned l D cy A ad en tI tS _ _ x1 x7 x5 _ e_121) (va_cwS 3 hts (wz_S (zin13 _ (List.mem_of_getElem? (i := 11) rfl)) (zin13 _ (List.mem_of_getElem? (i := 9) rfl)) (zin13 _ (List.mem_of_getElem? (i := 10) rfl)) (zin2 _ (List.mem_of_getElem? (i := 11) rfl))) rfl rfl rfl (by decide +kernel) ⟨Nat.le_of_ble_eq_true rfl, Nat.le_of_ble_eq_true rfl⟩) ⟨cw_blind _, cw_pre hC hw hS _⟩ rfl rfl hl.1 rfl (lv_room (Nat.le_of_ble_eq_true rfl)) dX5_doIt_305 ⟨Nat.zero_le _, Nat.zero_le _⟩) hS (fun H locs hw hS => ?_)
    obtain ⟨g_125, hf⟩ := zg_inv hf
    obtain ⟨r_122, t_123, e_124, hf⟩ := zb_inv hf
    refine cw_fi (va_runV (As := [.long r_119]) (rest := []) S (kc_X5_lay l D cy A ad en tI tS _ _ r_119 _ e_124) (cwV 1 hts (wz_V (zin12 _ (List.mem_of_getElem? (i := 15) rfl)) (zin12 _ (List.mem_of_getElem? (i := 12) rfl)) (zin12 _ (List.mem_of_getElem? (i := 13) rfl)) (zin12 _ (List.mem_of_getElem? (i := 14) rfl)) (zin2 _ (List.mem_of_getElem? (i := 11) rfl))) rfl rfl rfl (by decide +kernel) ⟨Nat.le_of_ble_eq_true rfl, Nat.le_of_ble_eq_true rfl⟩) ⟨cw_blind _, zw_recv hK hw (g := (1, 0)) (cG_at g_125) rfl, cw_pre hC hw hS _⟩ rfl rfl hl.1 rfl (lv_room (Nat.le_of_ble_eq_true rfl)) dX5_doIt_308 ⟨Nat.zero_le _, Nat.zero_le _⟩) hS (fun H locs hw hS => ?_)
    exact B311 _ r_122 x5 x7 _ _ _ hf hw hS (lv_sub hl [0, 1, 2, 3, 4] rfl)
  have B260 : ∀ (τ : CS) (y0 : Int32) (H : Heap) (locs : List Loc) (ls : Array Slot) (hf : k_X5_doIt_b260 x1 x2 τ y0 = some (r, τ')) (hw : zw D A ad (cG cy ad τ) H) (hS : va_S A s.heap H locs) (hl : lv_has ls 9 [(0, .ref (ad (1, 0))), (1, .ref (en x1)), (2, .int x2)]), W p l e (headSpec (wz yX5_doIt cX5_doIt 9 (some .int)) ({ frames := 2, cells := 0, slots := 0, locals := 44 } : Room)).room s m ([.ref (ad (1, 0)), .ref (en x1), .int x2] : List Value).toArray below meth c H locs 0 0 (MQ below (va_Qi (fun (r' : Int32) (u : CS) => r' = r ∧ u = τ') (CWp D cy A ad) A) ([.ref (ad (1, 0)), .ref (en x1), .int x2] : List Value).toArray s 0 0 A) (F0 m 260 ls [.int y0]) := by
    intro τ y0 H locs ls hf hw hS hl
    rw [k_X5_doIt_b260] at hf
    exact cw_reti S hr hf hw hS hlocks dX5_doIt_260
  have B225 : ∀ (τ : CS) (y0 : Int32) (x3 : Int64) (H : Heap) (locs : List Loc) (ls : Array Slot) (hf : k_X5_doIt_b225 x1 x2 τ y0 x3 = some (r, τ')) (hw : zw D A ad (cG cy ad τ) H) (hS : va_S A s.heap H locs) (hl : lv_has ls 9 [(0, .ref (ad (1, 0))), (1, .ref (en x1)), (2, .int x2), (3, .long x3)]), W p l e (headSpec (wz yX5_doIt cX5_doIt 9 (some .int)) ({ frames := 2, cells := 0, slots := 0, locals := 44 } : Room)).room s m ([.ref (ad (1, 0)), .ref (en x1), .int x2] : List Value).toArray below meth c H locs 0 0 (MQ below (va_Qi (fun (r' : Int32) (u : CS) => r' = r ∧ u = τ') (CWp D cy A ad) A) ([.ref (ad (1, 0)), .ref (en x1), .int x2] : List Value).toArray s 0 0 A) (F0 m 225 ls [.int y0]) := by
    intro τ y0 x3 H locs ls hf hw hS hl
    rw [k_X5_doIt_b225] at hf
    exact cw_reti S hr hf hw hS hlocks dX5_doIt_225
  have B224 : ∀ (τ : CS) (x3 : Int64) (H : Heap) (locs : List Loc) (ls : Array Slot) (hf : k_X5_doIt_b224 x1 x2 τ x3 = some (r, τ')) (hw : zw D A ad (cG cy ad τ) H) (hS : va_S A s.heap H locs) (hl : lv_has ls 9 [(0, .ref (ad (1, 0))), (1, .ref (en x1)), (2, .int x2), (3, .long x3)]), W p l e (headSpec (wz yX5_doIt cX5_doIt 9 (some .int)) ({ frames := 2, cells := 0, slots := 0, locals := 44 } : Room)).room s m ([.ref (ad (1, 0)), .ref (en x1), .int x2] : List Value).toArray below meth c H locs 0 0 (MQ below (va_Qi (fun (r' : Int32) (u : CS) => r' = r ∧ u = τ') (CWp D cy A ad) A) ([.ref (ad (1, 0)), .ref (en x1), .int x2] : List Value).toArray s 0 0 A) (F0 m 224 ls []) := by
    intro τ x3 H locs ls hf hw hS hl
    rw [k_X5_doIt_b224] at hf
    refine lv_iconst (v := (2 : Int32)) hx hb dX5_doIt_224 (by decide) ?_
    exact B225 _ (2 : Int32) x3 _ _ _ hf hw hS (lv_sub hl [0, 1, 2, 3] rfl)
  have B188 : ∀ (τ : CS) (y0 : Int32) (H : Heap) (locs : List Loc) (ls : Array Slot) (hf : k_X5_doIt_b188 x1 x2 τ y0 = some (r, τ')) (hw : zw D A ad (cG cy ad τ) H) (hS : va_S A s.heap H locs) (hl : lv_has ls 9 [(0, .ref (ad (1, 0))), (1, .ref (en x1)), (2, .int x2)]), W p l e (headSpec (wz yX5_doIt cX5_doIt 9 (some .int)) ({ frames := 2, cells := 0, slots := 0, locals := 44 } : Room)).room s m ([.ref (ad (1, 0)), .ref (en x1), .int x2] : List Value).toArray below meth c H locs 0 0 (MQ below (va_Qi (fun (r' : Int32) (u : CS) => r' = r ∧ u = τ') (CWp D cy A ad) A) ([.ref (ad (1, 0)), .ref (en x1), .int x2] : List Value).toArray s 0 0 A) (F0 m 188 ls [.int y0]) := by
    intro τ y0 H locs ls hf hw hS hl
    rw [k_X5_doIt_b188] at hf
    exact cw_reti S hr hf hw hS hlocks dX5_doIt_188
  rw [k_X5_doIt] at hf
  refine cr_getS S hC hS (wz_in (zin12 _ (List.mem_of_getElem? (i := 3) rfl))) dX5_doIt_0 ?_
  refine lv_aload_n hx hb dX5_doIt_3 rfl (lv_at hl 1 rfl) ?_
  obtain ⟨g_129, hf⟩ := zg_inv hf
  obtain ⟨r_126, t_127, e_128, hf⟩ := zb_inv hf
  refine cw_fi (va_runU (As := []) (rest := [.ref tS]) S (kc_Jx29ce0_ordinal_8abf5 l D cy A ad en tI tS _ _ x1 _ e_128) (va_cwU (own := RX5) (C := RX3) (owner := "java/lang/Enum") (x := ⟨"RunClasses$Instruction", "ordinal", "()I"⟩) 0 hts (zU_X5) rfl rfl rfl rfl (by decide +kernel) ⟨Nat.le_of_ble_eq_true rfl, Nat.le_of_ble_eq_true rfl⟩) ⟨cw_blind _, va_recvE hC.2.2.1.1 g_129 hS, cw_pre hC hw hS _⟩ rfl rfl hl.1 rfl (lv_room (Nat.le_of_ble_eq_true rfl)) dX5_doIt_4 ⟨Nat.zero_le _, Nat.zero_le _⟩) hS (fun H locs hw hS => ?_)
  obtain ⟨g_130, hf⟩ := zg_inv hf
  refine cr_tS S hC hS g_130 dX5_doIt_7 ?_
  refine lv_topi (fun w_131 ew_131 => ?_)
  have hf := (zs_e ew_131).symm.trans hf
  by_cases c_132 : w_131 = 1
  · have hf := (zi_t c_132).symm.trans hf
    refine lv_tableIn (tgt := 72) hx hb dX5_doIt_8 (by rw [c_132]; decide) (by rw [c_132]; decide) (by rw [c_132]; rfl) (by decide) ?_
    refine lv_aload_n hx hb dX5_doIt_72 rfl (lv_at hl 0 rfl) ?_
    refine lv_iload_n hx hb dX5_doIt_73 rfl (lv_at hl 2 rfl) ?_
    refine lv_i2b (v := x2.toInt8.toInt32) hx hb dX5_doIt_74 rfl ?_
    refine lv_i2l (v := (x2.toInt8.toInt32).toInt64) hx hb dX5_doIt_75 rfl ?_
    obtain ⟨g_136, hf⟩ := zg_inv hf
    obtain ⟨r_133, t_134, e_135, hf⟩ := zb_inv hf
    refine cw_fi (va_runV (As := [.long ((x2.toInt8.toInt32).toInt64)]) (rest := []) S (kc_X5_lay l D cy A ad en tI tS _ _ ((x2.toInt8.toInt32).toInt64) _ e_135) (cwV 1 hts (wz_V (zin12 _ (List.mem_of_getElem? (i := 15) rfl)) (zin12 _ (List.mem_of_getElem? (i := 12) rfl)) (zin12 _ (List.mem_of_getElem? (i := 13) rfl)) (zin12 _ (List.mem_of_getElem? (i := 14) rfl)) (zin2 _ (List.mem_of_getElem? (i := 11) rfl))) rfl rfl rfl (by decide +kernel) ⟨Nat.le_of_ble_eq_true rfl, Nat.le_of_ble_eq_true rfl⟩) ⟨cw_blind _, zw_recv hK hw (g := (1, 0)) (cG_at g_136) rfl, cw_pre hC hw hS _⟩ rfl rfl hl.1 rfl (lv_room (Nat.le_of_ble_eq_true rfl)) dX5_doIt_76 ⟨Nat.zero_le _, Nat.zero_le _⟩) hS (fun H locs hw hS => ?_)
    exact cw_reti S hr hf hw hS hlocks dX5_doIt_79
  have hf := (zi_f c_132).symm.trans hf
  by_cases c_137 : w_131 = 2
  · have hf := (zi_t c_137).symm.trans hf
    refine lv_tableIn (tgt := 80) hx hb dX5_doIt_8 (by rw [c_137]; decide) (by rw [c_137]; decide) (by rw [c_137]; rfl) (by decide) ?_
    refine lv_aload_n hx hb dX5_doIt_80 rfl (lv_at hl 0 rfl) ?_
    refine lv_aload_n hx hb dX5_doIt_81 rfl (lv_at hl 0 rfl) ?_
    obtain ⟨g_138, hf⟩ := zg_inv hf
    refine cr_get (v := .ref (ad (8, cr t_127 5))) S hK hw 1 0 g_138 hX5 rfl rfl 5 (by decide) (wz_in (zin3 _ (List.mem_of_getElem? (i := 5) rfl))) rfl rfl dX5_doIt_82 ?_
    refine lv_iload_n hx hb dX5_doIt_85 rfl (lv_at hl 2 rfl) ?_
    obtain ⟨r_139, t_140, e_141, hf⟩ := zb_inv hf
    refine cw_fl (va_runSN (As := [.ref (ad (8, cr t_127 5)), .int x2]) (rest := [.ref (ad (1, 0))]) S (kc_X6_numberAt l D cy A ad en tI tS _ _ (cr t_127 5) x2 _ e_141) ⟨va_cnB 2 hts (wz_gd (zin12 _ (List.mem_of_getElem? (i := 17) rfl))) rfl rfl rfl (hN.2 _ (List.mem_of_getElem? (i := 8) rfl)) (hts _ (wz_in (zin1 _ (List.mem_of_getElem? (i := 2) rfl)))) (by decide +kernel) ⟨Nat.le_of_ble_eq_true rfl, Nat.le_of_ble_eq_true rfl⟩, hts _ (wz_in (zin12 _ (List.mem_of_getElem? (i := 16) rfl))), trivial⟩ ⟨cw_blind _, cw_pre hC hw hS _⟩ rfl rfl hl.1 rfl (lv_room (Nat.le_of_ble_eq_true rfl)) dX5_doIt_86 ⟨Nat.zero_le _, Nat.zero_le _⟩) hS (fun H locs hw hS => ?_)
    obtain ⟨g_145, hf⟩ := zg_inv hf
    obtain ⟨r_142, t_143, e_144, hf⟩ := zb_inv hf
    refine cw_fi (va_runV (As := [.long r_139]) (rest := []) S (kc_X5_lay l D cy A ad en tI tS _ _ r_139 _ e_144) (cwV 1 hts (wz_V (zin12 _ (List.mem_of_getElem? (i := 15) rfl)) (zin12 _ (List.mem_of_getElem? (i := 12) rfl)) (zin12 _ (List.mem_of_getElem? (i := 13) rfl)) (zin12 _ (List.mem_of_getElem? (i := 14) rfl)) (zin2 _ (List.mem_of_getElem? (i := 11) rfl))) rfl rfl rfl (by decide +kernel) ⟨Nat.le_of_ble_eq_true rfl, Nat.le_of_ble_eq_true rfl⟩) ⟨cw_blind _, zw_recv hK hw (g := (1, 0)) (cG_at g_145) rfl, cw_pre hC hw hS _⟩ rfl rfl hl.1 rfl (lv_room (Nat.le_of_ble_eq_true rfl)) dX5_doIt_89 ⟨Nat.zero_le _, Nat.zero_le _⟩) hS (fun H locs hw hS => ?_)
    exact cw_reti S hr hf hw hS hlocks dX5_doIt_92
  have hf := (zi_f c_137).symm.trans hf
  by_cases c_146 : w_131 = 3
  · have hf := (zi_t c_146).symm.trans hf
    refine lv_tableIn (tgt := 93) hx hb dX5_doIt_8 (by rw [c_146]; decide) (by rw [c_146]; decide) (by rw [c_146]; rfl) (by decide) ?_
    refine lv_aload_n hx hb dX5_doIt_93 rfl (lv_at hl 0 rfl) ?_
    obtain ⟨g_147, hf⟩ := zg_inv hf
    refine cr_get (v := .ref (ad (8, cr t_127 5))) S hK hw 1 0 g_147 hX5 rfl rfl 5 (by decide) (wz_in (zin3 _ (List.mem_of_getElem? (i := 5) rfl))) rfl rfl dX5_doIt_94 ?_
    refine lv_iload_n hx hb dX5_doIt_97 rfl (lv_at hl 2 rfl) ?_
    refine lv_aload_n hx hb dX5_doIt_98 rfl (lv_at hl 0 rfl) ?_
    obtain ⟨r_148, t_149, e_150, hf⟩ := zb_inv hf
    refine cw_fl (va_runV (As := []) (rest := [.int x2, .ref (ad (8, cr t_127 5))]) S (kc_X5_take l D cy A ad en tI tS _ _ _ e_150) (cwV 0 hts (wz_V (zin12 _ (List.mem_of_getElem? (i := 21) rfl)) (zin12 _ (List.mem_of_getElem? (i := 18) rfl)) (zin12 _ (List.mem_of_getElem? (i := 19) rfl)) (zin12 _ (List.mem_of_getElem? (i := 20) rfl)) (zin2 _ (List.mem_of_getElem? (i := 11) rfl))) rfl rfl rfl (by decide +kernel) ⟨Nat.le_of_ble_eq_true rfl, Nat.le_of_ble_eq_true rfl⟩) ⟨cw_blind _, zw_recv hK hw (g := (1, 0)) (cG_at g_147) rfl, cw_pre hC hw hS _⟩ rfl rfl hl.1 rfl (lv_room (Nat.le_of_ble_eq_true rfl)) dX5_doIt_99 ⟨Nat.zero_le _, Nat.zero_le _⟩) hS (fun H locs hw hS => ?_)
    obtain ⟨⟨⟩, t_152, e_153, hf⟩ := zb_inv hf
    refine cw_fv (va_runSN (As := [.ref (ad (8, cr t_127 5)), .int x2, .long r_148]) (rest := []) S (kc_X6_putNumber l D cy A ad en tI tS _ _ (cr t_127 5) x2 r_148 e_153) ⟨va_cnB 3 hts (wz_gd (zin12 _ (List.mem_of_getElem? (i := 23) rfl))) rfl rfl rfl (hN.2 _ (List.mem_of_getElem? (i := 9) rfl)) (hts _ (wz_in (zin1 _ (List.mem_of_getElem? (i := 2) rfl)))) (by decide +kernel) ⟨Nat.le_of_ble_eq_true rfl, Nat.le_of_ble_eq_true rfl⟩, hts _ (wz_in (zin12 _ (List.mem_of_getElem? (i := 22) rfl))), trivial⟩ ⟨cw_blind _, cw_pre hC hw hS _⟩ rfl rfl hl.1 rfl (lv_room (Nat.le_of_ble_eq_true rfl)) dX5_doIt_102 ⟨Nat.zero_le _, Nat.zero_le _⟩) hS (fun H locs hw hS => ?_)
    refine lv_iconst (v := (0 : Int32)) hx hb dX5_doIt_105 (by decide) ?_
    exact cw_reti S hr hf hw hS hlocks dX5_doIt_106
  have hf := (zi_f c_146).symm.trans hf
  by_cases c_154 : w_131 = 4
  · have hf := (zi_t c_154).symm.trans hf
    refine lv_tableIn (tgt := 107) hx hb dX5_doIt_8 (by rw [c_154]; decide) (by rw [c_154]; decide) (by rw [c_154]; rfl) (by decide) ?_
    refine lv_aload_n hx hb dX5_doIt_107 rfl (lv_at hl 0 rfl) ?_
    refine lv_aload_n hx hb dX5_doIt_108 rfl (lv_at hl 0 rfl) ?_
    obtain ⟨g_155, hf⟩ := zg_inv hf
    refine cr_get (v := .ref (ad (8, cr t_127 4))) S hK hw 1 0 g_155 hX5 rfl rfl 4 (by decide) (wz_in (zin3 _ (List.mem_of_getElem? (i := 4) rfl))) rfl rfl dX5_doIt_109 ?_
    refine lv_iload_n hx hb dX5_doIt_112 rfl (lv_at hl 2 rfl) ?_
    obtain ⟨r_156, t_157, e_158, hf⟩ := zb_inv hf
    refine cw_fl (va_runSN (As := [.ref (ad (8, cr t_127 4)), .int x2]) (rest := [.ref (ad (1, 0))]) S (kc_X6_numberAt l D cy A ad en tI tS _ _ (cr t_127 4) x2 _ e_158) ⟨va_cnB 2 hts (wz_gd (zin12 _ (List.mem_of_getElem? (i := 17) rfl))) rfl rfl rfl (hN.2 _ (List.mem_of_getElem? (i := 8) rfl)) (hts _ (wz_in (zin1 _ (List.mem_of_getElem? (i := 2) rfl)))) (by decide +kernel) ⟨Nat.le_of_ble_eq_true rfl, Nat.le_of_ble_eq_true rfl⟩, hts _ (wz_in (zin12 _ (List.mem_of_getElem? (i := 16) rfl))), trivial⟩ ⟨cw_blind _, cw_pre hC hw hS _⟩ rfl rfl hl.1 rfl (lv_room (Nat.le_of_ble_eq_true rfl)) dX5_doIt_113 ⟨Nat.zero_le _, Nat.zero_le _⟩) hS (fun H locs hw hS => ?_)
    obtain ⟨g_162, hf⟩ := zg_inv hf
    obtain ⟨r_159, t_160, e_161, hf⟩ := zb_inv hf
    refine cw_fi (va_runV (As := [.long r_156]) (rest := []) S (kc_X5_lay l D cy A ad en tI tS _ _ r_156 _ e_161) (cwV 1 hts (wz_V (zin12 _ (List.mem_of_getElem? (i := 15) rfl)) (zin12 _ (List.mem_of_getElem? (i := 12) rfl)) (zin12 _ (List.mem_of_getElem? (i := 13) rfl)) (zin12 _ (List.mem_of_getElem? (i := 14) rfl)) (zin2 _ (List.mem_of_getElem? (i := 11) rfl))) rfl rfl rfl (by decide +kernel) ⟨Nat.le_of_ble_eq_true rfl, Nat.le_of_ble_eq_true rfl⟩) ⟨cw_blind _, zw_recv hK hw (g := (1, 0)) (cG_at g_162) rfl, cw_pre hC hw hS _⟩ rfl rfl hl.1 rfl (lv_room (Nat.le_of_ble_eq_true rfl)) dX5_doIt_116 ⟨Nat.zero_le _, Nat.zero_le _⟩) hS (fun H locs hw hS => ?_)
    exact cw_reti S hr hf hw hS hlocks dX5_doIt_119
  have hf := (zi_f c_154).symm.trans hf
  by_cases c_163 : w_131 = 5
  · have hf := (zi_t c_163).symm.trans hf
    refine lv_tableIn (tgt := 120) hx hb dX5_doIt_8 (by rw [c_163]; decide) (by rw [c_163]; decide) (by rw [c_163]; rfl) (by decide) ?_
    refine lv_aload_n hx hb dX5_doIt_120 rfl (lv_at hl 0 rfl) ?_
    obtain ⟨g_164, hf⟩ := zg_inv hf
    refine cr_get (v := .ref (ad (8, cr t_127 4))) S hK hw 1 0 g_164 hX5 rfl rfl 4 (by decide) (wz_in (zin3 _ (List.mem_of_getElem? (i := 4) rfl))) rfl rfl dX5_doIt_121 ?_
    refine lv_iload_n hx hb dX5_doIt_124 rfl (lv_at hl 2 rfl) ?_
    refine lv_aload_n hx hb dX5_doIt_125 rfl (lv_at hl 0 rfl) ?_
    obtain ⟨r_165, t_166, e_167, hf⟩ := zb_inv hf
    refine cw_fl (va_runV (As := []) (rest := [.int x2, .ref (ad (8, cr t_127 4))]) S (kc_X5_take l D cy A ad en tI tS _ _ _ e_167) (cwV 0 hts (wz_V (zin12 _ (List.mem_of_getElem? (i := 21) rfl)) (zin12 _ (List.mem_of_getElem? (i := 18) rfl)) (zin12 _ (List.mem_of_getElem? (i := 19) rfl)) (zin12 _ (List.mem_of_getElem? (i := 20) rfl)) (zin2 _ (List.mem_of_getElem? (i := 11) rfl))) rfl rfl rfl (by decide +kernel) ⟨Nat.le_of_ble_eq_true rfl, Nat.le_of_ble_eq_true rfl⟩) ⟨cw_blind _, zw_recv hK hw (g := (1, 0)) (cG_at g_164) rfl, cw_pre hC hw hS _⟩ rfl rfl hl.1 rfl (lv_room (Nat.le_of_ble_eq_true rfl)) dX5_doIt_126 ⟨Nat.zero_le _, Nat.zero_le _⟩) hS (fun H locs hw hS => ?_)
    obtain ⟨⟨⟩, t_169, e_170, hf⟩ := zb_inv hf
    refine cw_fv (va_runSN (As := [.ref (ad (8, cr t_127 4)), .int x2, .long r_165]) (rest := []) S (kc_X6_putNumber l D cy A ad en tI tS _ _ (cr t_127 4) x2 r_165 e_170) ⟨va_cnB 3 hts (wz_gd (zin12 _ (List.mem_of_getElem? (i := 23) rfl))) rfl rfl rfl (hN.2 _ (List.mem_of_getElem? (i := 9) rfl)) (hts _ (wz_in (zin1 _ (List.mem_of_getElem? (i := 2) rfl)))) (by decide +kernel) ⟨Nat.le_of_ble_eq_true rfl, Nat.le_of_ble_eq_true rfl⟩, hts _ (wz_in (zin12 _ (List.mem_of_getElem? (i := 22) rfl))), trivial⟩ ⟨cw_blind _, cw_pre hC hw hS _⟩ rfl rfl hl.1 rfl (lv_room (Nat.le_of_ble_eq_true rfl)) dX5_doIt_129 ⟨Nat.zero_le _, Nat.zero_le _⟩) hS (fun H locs hw hS => ?_)
    refine lv_iconst (v := (0 : Int32)) hx hb dX5_doIt_132 (by decide) ?_
    exact cw_reti S hr hf hw hS hlocks dX5_doIt_133
  have hf := (zi_f c_163).symm.trans hf
  by_cases c_171 : w_131 = 6
  · have hf := (zi_t c_171).symm.trans hf
    refine lv_tableIn (tgt := 134) hx hb dX5_doIt_8 (by rw [c_171]; decide) (by rw [c_171]; decide) (by rw [c_171]; rfl) (by decide) ?_
    refine lv_aload_n hx hb dX5_doIt_134 rfl (lv_at hl 0 rfl) ?_
    refine lv_aload_n hx hb dX5_doIt_135 rfl (lv_at hl 0 rfl) ?_
    obtain ⟨g_172, hf⟩ := zg_inv hf
    refine cr_get (v := .ref (ad (8, 0))) S hK hw 1 0 g_172 hX5 rfl rfl 0 (by decide) (wz_in (zin3 _ (List.mem_of_getElem? (i := 0) rfl))) rfl rfl dX5_doIt_136 ?_
    refine lv_aload_n hx hb dX5_doIt_139 rfl (lv_at hl 0 rfl) ?_
    refine cr_get (v := .int (ci t_127 106 0)) S hK hw 1 0 g_172 hX5 rfl rfl 6 (by decide) (wz_in (zin11 _ (List.mem_of_getElem? (i := 14) rfl))) rfl rfl dX5_doIt_140 ?_
    refine lv_iconst (v := (1 : Int32)) hx hb dX5_doIt_143 (by decide) ?_
    refine lv_isub hx hb dX5_doIt_144 ?_
    obtain ⟨r_173, t_174, e_175, hf⟩ := zb_inv hf
    refine cw_fl (va_runSN (As := [.ref (ad (8, 0)), .int ((ci t_127 106 0) - (1 : Int32))]) (rest := [.ref (ad (1, 0))]) S (kc_X6_numberAt l D cy A ad en tI tS _ _ 0 ((ci t_127 106 0) - (1 : Int32)) _ e_175) ⟨va_cnB 2 hts (wz_gd (zin12 _ (List.mem_of_getElem? (i := 17) rfl))) rfl rfl rfl (hN.2 _ (List.mem_of_getElem? (i := 8) rfl)) (hts _ (wz_in (zin1 _ (List.mem_of_getElem? (i := 2) rfl)))) (by decide +kernel) ⟨Nat.le_of_ble_eq_true rfl, Nat.le_of_ble_eq_true rfl⟩, hts _ (wz_in (zin12 _ (List.mem_of_getElem? (i := 16) rfl))), trivial⟩ ⟨cw_blind _, cw_pre hC hw hS _⟩ rfl rfl hl.1 rfl (lv_room (Nat.le_of_ble_eq_true rfl)) dX5_doIt_145 ⟨Nat.zero_le _, Nat.zero_le _⟩) hS (fun H locs hw hS => ?_)
    obtain ⟨g_179, hf⟩ := zg_inv hf
    obtain ⟨r_176, t_177, e_178, hf⟩ := zb_inv hf
    refine cw_fi (va_runV (As := [.long r_173]) (rest := []) S (kc_X5_lay l D cy A ad en tI tS _ _ r_173 _ e_178) (cwV 1 hts (wz_V (zin12 _ (List.mem_of_getElem? (i := 15) rfl)) (zin12 _ (List.mem_of_getElem? (i := 12) rfl)) (zin12 _ (List.mem_of_getElem? (i := 13) rfl)) (zin12 _ (List.mem_of_getElem? (i := 14) rfl)) (zin2 _ (List.mem_of_getElem? (i := 11) rfl))) rfl rfl rfl (by decide +kernel) ⟨Nat.le_of_ble_eq_true rfl, Nat.le_of_ble_eq_true rfl⟩) ⟨cw_blind _, zw_recv hK hw (g := (1, 0)) (cG_at g_179) rfl, cw_pre hC hw hS _⟩ rfl rfl hl.1 rfl (lv_room (Nat.le_of_ble_eq_true rfl)) dX5_doIt_148 ⟨Nat.zero_le _, Nat.zero_le _⟩) hS (fun H locs hw hS => ?_)
    exact cw_reti S hr hf hw hS hlocks dX5_doIt_151
  have hf := (zi_f c_171).symm.trans hf
  by_cases c_180 : w_131 = 7
  · have hf := (zi_t c_180).symm.trans hf
    refine lv_tableIn (tgt := 152) hx hb dX5_doIt_8 (by rw [c_180]; decide) (by rw [c_180]; decide) (by rw [c_180]; rfl) (by decide) ?_
    refine lv_aload_n hx hb dX5_doIt_152 rfl (lv_at hl 0 rfl) ?_
    refine lv_aload_n hx hb dX5_doIt_153 rfl (lv_at hl 0 rfl) ?_
    obtain ⟨g_181, hf⟩ := zg_inv hf
    refine cr_get (v := .int (ci t_127 107 0)) S hK hw 1 0 g_181 hX5 rfl rfl 7 (by decide) (wz_in (zin11 _ (List.mem_of_getElem? (i := 15) rfl))) rfl rfl dX5_doIt_154 ?_
    refine lv_iload_n hx hb dX5_doIt_157 rfl (lv_at hl 2 rfl) ?_
    refine lv_i2b (v := x2.toInt8.toInt32) hx hb dX5_doIt_158 rfl ?_
    refine lv_iadd hx hb dX5_doIt_159 ?_
    obtain ⟨r_182, t_183, e_184, hf⟩ := zb_inv hf
    refine cw_fi (va_runV (As := [.int ((ci t_127 107 0) + (x2.toInt8.toInt32))]) (rest := []) S (kc_X5_goOnAt l D cy A ad en tI tS _ _ ((ci t_127 107 0) + (x2.toInt8.toInt32)) _ e_184) (cwV 1 hts (wz_V (zin13 _ (List.mem_of_getElem? (i := 3) rfl)) (zin13 _ (List.mem_of_getElem? (i := 0) rfl)) (zin13 _ (List.mem_of_getElem? (i := 1) rfl)) (zin13 _ (List.mem_of_getElem? (i := 2) rfl)) (zin2 _ (List.mem_of_getElem? (i := 11) rfl))) rfl rfl rfl (by decide +kernel) ⟨Nat.le_of_ble_eq_true rfl, Nat.le_of_ble_eq_true rfl⟩) ⟨cw_blind _, zw_recv hK hw (g := (1, 0)) (cG_at g_181) rfl, cw_pre hC hw hS _⟩ rfl rfl hl.1 rfl (lv_room (Nat.le_of_ble_eq_true rfl)) dX5_doIt_160 ⟨Nat.zero_le _, Nat.zero_le _⟩) hS (fun H locs hw hS => ?_)
    exact cw_reti S hr hf hw hS hlocks dX5_doIt_163
  have hf := (zi_f c_180).symm.trans hf
  by_cases c_185 : w_131 = 8
  · have hf := (zi_t c_185).symm.trans hf
    refine lv_tableIn (tgt := 164) hx hb dX5_doIt_8 (by rw [c_185]; decide) (by rw [c_185]; decide) (by rw [c_185]; rfl) (by decide) ?_
    refine lv_aload_n hx hb dX5_doIt_164 rfl (lv_at hl 0 rfl) ?_
    obtain ⟨g_189, hf⟩ := zg_inv hf
    obtain ⟨r_186, t_187, e_188, hf⟩ := zb_inv hf
    refine cw_fl (va_runV (As := []) (rest := []) S (kc_X5_take l D cy A ad en tI tS _ _ _ e_188) (cwV 0 hts (wz_V (zin12 _ (List.mem_of_getElem? (i := 21) rfl)) (zin12 _ (List.mem_of_getElem? (i := 18) rfl)) (zin12 _ (List.mem_of_getElem? (i := 19) rfl)) (zin12 _ (List.mem_of_getElem? (i := 20) rfl)) (zin2 _ (List.mem_of_getElem? (i := 11) rfl))) rfl rfl rfl (by decide +kernel) ⟨Nat.le_of_ble_eq_true rfl, Nat.le_of_ble_eq_true rfl⟩) ⟨cw_blind _, zw_recv hK hw (g := (1, 0)) (cG_at g_189) rfl, cw_pre hC hw hS _⟩ rfl rfl hl.1 rfl (lv_room (Nat.le_of_ble_eq_true rfl)) dX5_doIt_165 ⟨Nat.zero_le _, Nat.zero_le _⟩) hS (fun H locs hw hS => ?_)
    refine lv_lconst (v := (0 : Int64)) hx hb dX5_doIt_168 (by decide) ?_
    refine W.lcmp hx hb dX5_doIt_169 ?_
    refine lv_if_ne (tgt := 187) hx hb dX5_doIt_170 (by decide) (fun c_190 => ?_) (fun c_190 => ?_)
    · have hf := (zi_f c_190).symm.trans hf
      refine lv_iconst (v := (0 : Int32)) hx hb dX5_doIt_187 (by decide) ?_
      exact B188 _ (0 : Int32) _ _ _ hf hw hS (lv_sub hl [0, 1, 2] rfl)
    · have hf := (zi_t c_190).symm.trans hf
      refine lv_aload_n hx hb dX5_doIt_173 rfl (lv_at hl 0 rfl) ?_
      refine lv_aload_n hx hb dX5_doIt_174 rfl (lv_at hl 0 rfl) ?_
      obtain ⟨g_191, hf⟩ := zg_inv hf
      refine cr_get (v := .int (ci t_187 107 0)) S hK hw 1 0 g_191 hX5 rfl rfl 7 (by decide) (wz_in (zin11 _ (List.mem_of_getElem? (i := 15) rfl))) rfl rfl dX5_doIt_175 ?_
      refine lv_iload_n hx hb dX5_doIt_178 rfl (lv_at hl 2 rfl) ?_
      refine lv_i2b (v := x2.toInt8.toInt32) hx hb dX5_doIt_179 rfl ?_
      refine lv_iadd hx hb dX5_doIt_180 ?_
      obtain ⟨r_192, t_193, e_194, hf⟩ := zb_inv hf
      refine cw_fi (va_runV (As := [.int ((ci t_187 107 0) + (x2.toInt8.toInt32))]) (rest := []) S (kc_X5_goOnAt l D cy A ad en tI tS _ _ ((ci t_187 107 0) + (x2.toInt8.toInt32)) _ e_194) (cwV 1 hts (wz_V (zin13 _ (List.mem_of_getElem? (i := 3) rfl)) (zin13 _ (List.mem_of_getElem? (i := 0) rfl)) (zin13 _ (List.mem_of_getElem? (i := 1) rfl)) (zin13 _ (List.mem_of_getElem? (i := 2) rfl)) (zin2 _ (List.mem_of_getElem? (i := 11) rfl))) rfl rfl rfl (by decide +kernel) ⟨Nat.le_of_ble_eq_true rfl, Nat.le_of_ble_eq_true rfl⟩) ⟨cw_blind _, zw_recv hK hw (g := (1, 0)) (cG_at g_191) rfl, cw_pre hC hw hS _⟩ rfl rfl hl.1 rfl (lv_room (Nat.le_of_ble_eq_true rfl)) dX5_doIt_181 ⟨Nat.zero_le _, Nat.zero_le _⟩) hS (fun H locs hw hS => ?_)
      refine lv_goto (tgt := 188) hx hb dX5_doIt_184 (by decide) ?_
      exact B188 _ r_192 _ _ _ hf hw hS (lv_sub hl [0, 1, 2] rfl)
  have hf := (zi_f c_185).symm.trans hf
  by_cases c_195 : w_131 = 9
  · have hf := (zi_t c_195).symm.trans hf
    refine lv_tableIn (tgt := 189) hx hb dX5_doIt_8 (by rw [c_195]; decide) (by rw [c_195]; decide) (by rw [c_195]; rfl) (by decide) ?_
    refine lv_aload_n hx hb dX5_doIt_189 rfl (lv_at hl 0 rfl) ?_
    obtain ⟨g_199, hf⟩ := zg_inv hf
    obtain ⟨r_196, t_197, e_198, hf⟩ := zb_inv hf
    refine cw_fl (va_runV (As := []) (rest := []) S (kc_X5_take l D cy A ad en tI tS _ _ _ e_198) (cwV 0 hts (wz_V (zin12 _ (List.mem_of_getElem? (i := 21) rfl)) (zin12 _ (List.mem_of_getElem? (i := 18) rfl)) (zin12 _ (List.mem_of_getElem? (i := 19) rfl)) (zin12 _ (List.mem_of_getElem? (i := 20) rfl)) (zin2 _ (List.mem_of_getElem? (i := 11) rfl))) rfl rfl rfl (by decide +kernel) ⟨Nat.le_of_ble_eq_true rfl, Nat.le_of_ble_eq_true rfl⟩) ⟨cw_blind _, zw_recv hK hw (g := (1, 0)) (cG_at g_199) rfl, cw_pre hC hw hS _⟩ rfl rfl hl.1 rfl (lv_room (Nat.le_of_ble_eq_true rfl)) dX5_doIt_190 ⟨Nat.zero_le _, Nat.zero_le _⟩) hS (fun H locs hw hS => ?_)
    refine lv_lstore_n (lv' := [(3, .long r_196), (0, .ref (ad (1, 0))), (1, .ref (en x1)), (2, .int x2)]) hx hb dX5_doIt_193 rfl hl (by decide) rfl (fun ls hl => ?_)
    refine lv_lload_n hx hb dX5_doIt_194 rfl (lv_at hl 0 rfl) ?_
    refine lv_lconst (v := (0 : Int64)) hx hb dX5_doIt_195 (by decide) ?_
    refine W.lcmp hx hb dX5_doIt_196 ?_
    refine lv_if_lt (tgt := 224) hx hb dX5_doIt_197 (by decide) (fun c_200 => ?_) (fun c_200 => ?_)
    · have hf := (zi_t c_200).symm.trans hf
      exact B224 _ r_196 _ _ _ hf hw hS (lv_sub hl [1, 2, 3, 0] rfl)
    · have hf := (zi_f c_200).symm.trans hf
      refine lv_lload_n hx hb dX5_doIt_200 rfl (lv_at hl 0 rfl) ?_
      refine lv_ldc2 (v := (8 : Int64)) hx hb hown (hts _ (wz_in (zin12 _ (List.mem_of_getElem? (i := 4) rfl)))) dX5_doIt_201 ?_
      refine W.lcmp hx hb dX5_doIt_204 ?_
      refine lv_if_ge (tgt := 224) hx hb dX5_doIt_205 (by decide) (fun c_201 => ?_) (fun c_201 => ?_)
      · have hf := (zi_t c_201).symm.trans hf
        exact B224 _ r_196 _ _ _ hf hw hS (lv_sub hl [1, 2, 3, 0] rfl)
      · have hf := (zi_f c_201).symm.trans hf
        refine lv_aload_n hx hb dX5_doIt_208 rfl (lv_at hl 1 rfl) ?_
        refine lv_aload_n hx hb dX5_doIt_209 rfl (lv_at hl 1 rfl) ?_
        obtain ⟨g_202, hf⟩ := zg_inv hf
        refine cr_get (v := .ref (ad (8, cr t_197 5))) S hK hw 1 0 g_202 hX5 rfl rfl 5 (by decide) (wz_in (zin3 _ (List.mem_of_getElem? (i := 5) rfl))) rfl rfl dX5_doIt_210 ?_
        refine lv_lload_n hx hb dX5_doIt_213 rfl (lv_at hl 0 rfl) ?_
        refine lv_l2i (v := r_196.toInt32) hx hb dX5_doIt_214 rfl ?_
        obtain ⟨r_203, t_204, e_205, hf⟩ := zb_inv hf
        refine cw_fl (va_runSN (As := [.ref (ad (8, cr t_197 5)), .int (r_196.toInt32)]) (rest := [.ref (ad (1, 0))]) S (kc_X6_numberAt l D cy A ad en tI tS _ _ (cr t_197 5) (r_196.toInt32) _ e_205) ⟨va_cnB 2 hts (wz_gd (zin12 _ (List.mem_of_getElem? (i := 17) rfl))) rfl rfl rfl (hN.2 _ (List.mem_of_getElem? (i := 8) rfl)) (hts _ (wz_in (zin1 _ (List.mem_of_getElem? (i := 2) rfl)))) (by decide +kernel) ⟨Nat.le_of_ble_eq_true rfl, Nat.le_of_ble_eq_true rfl⟩, hts _ (wz_in (zin12 _ (List.mem_of_getElem? (i := 16) rfl))), trivial⟩ ⟨cw_blind _, cw_pre hC hw hS _⟩ rfl rfl hl.1 rfl (lv_room (Nat.le_of_ble_eq_true rfl)) dX5_doIt_215 ⟨Nat.zero_le _, Nat.zero_le _⟩) hS (fun H locs hw hS => ?_)
        obtain ⟨g_209, hf⟩ := zg_inv hf
        obtain ⟨r_206, t_207, e_208, hf⟩ := zb_inv hf
        refine cw_fi (va_runV (As := [.long r_203]) (rest := []) S (kc_X5_lay l D cy A ad en tI tS _ _ r_203 _ e_208) (cwV 1 hts (wz_V (zin12 _ (List.mem_of_getElem? (i := 15) rfl)) (zin12 _ (List.mem_of_getElem? (i := 12) rfl)) (zin12 _ (List.mem_of_getElem? (i := 13) rfl)) (zin12 _ (List.mem_of_getElem? (i := 14) rfl)) (zin2 _ (List.mem_of_getElem? (i := 11) rfl))) rfl rfl rfl (by decide +kernel) ⟨Nat.le_of_ble_eq_true rfl, Nat.le_of_ble_eq_true rfl⟩) ⟨cw_blind _, zw_recv hK hw (g := (1, 0)) (cG_at g_209) rfl, cw_pre hC hw hS _⟩ rfl rfl hl.1 rfl (lv_room (Nat.le_of_ble_eq_true rfl)) dX5_doIt_218 ⟨Nat.zero_le _, Nat.zero_le _⟩) hS (fun H locs hw hS => ?_)
        refine lv_goto (tgt := 225) hx hb dX5_doIt_221 (by decide) ?_
        exact B225 _ r_206 r_196 _ _ _ hf hw hS (lv_sub hl [1, 2, 3, 0] rfl)
  have hf := (zi_f c_195).symm.trans hf
  by_cases c_210 : w_131 = 10
  · have hf := (zi_t c_210).symm.trans hf
    refine lv_tableIn (tgt := 226) hx hb dX5_doIt_8 (by rw [c_210]; decide) (by rw [c_210]; decide) (by rw [c_210]; rfl) (by decide) ?_
    refine lv_aload_n hx hb dX5_doIt_226 rfl (lv_at hl 0 rfl) ?_
    refine lv_iload_n hx hb dX5_doIt_227 rfl (lv_at hl 2 rfl) ?_
    obtain ⟨g_211, hf⟩ := zg_inv hf
    refine cr_put (v := .int x2) (σ1 := cI t_127 110 0 x2) S hK hw hS 1 0 g_211 hX5 tyX5 tyX5_ok nmX5 rfl rfl 10 (by decide) (wz_in (zin11 _ (List.mem_of_getElem? (i := 17) rfl))) rfl rfl rfl rfl (Nat.le_of_ble_eq_true rfl) dX5_doIt_228 rfl (cput_110 _ _ _ _ _) (cout_110 _ _ _ _ _) (fun H locs hw hS => ?_)
    refine lv_iconst (v := (0 : Int32)) hx hb dX5_doIt_231 (by decide) ?_
    exact cw_reti S hr hf hw hS hlocks dX5_doIt_232
  have hf := (zi_f c_210).symm.trans hf
  by_cases c_212 : w_131 = 11
  · have hf := (zi_t c_212).symm.trans hf
    refine lv_tableIn (tgt := 233) hx hb dX5_doIt_8 (by rw [c_212]; decide) (by rw [c_212]; decide) (by rw [c_212]; rfl) (by decide) ?_
    refine lv_aload_n hx hb dX5_doIt_233 rfl (lv_at hl 0 rfl) ?_
    obtain ⟨g_213, hf⟩ := zg_inv hf
    refine cr_get (v := .int (ci t_127 110 0)) S hK hw 1 0 g_213 hX5 rfl rfl 10 (by decide) (wz_in (zin11 _ (List.mem_of_getElem? (i := 17) rfl))) rfl rfl dX5_doIt_234 ?_
    refine lv_iconst (v := (-1 : Int32)) hx hb dX5_doIt_237 (by decide) ?_
    refine lv_icmp_ne (tgt := 245) hx hb dX5_doIt_238 (by decide) (fun c_214 => ?_) (fun c_214 => ?_)
    · have hf := (zi_f c_214).symm.trans hf
      refine lv_aload_n hx hb dX5_doIt_245 rfl (lv_at hl 0 rfl) ?_
      refine lv_aload_n hx hb dX5_doIt_246 rfl (lv_at hl 0 rfl) ?_
      refine cr_get (v := .ref (ad (8, cr t_127 4))) S hK hw 1 0 g_213 hX5 rfl rfl 4 (by decide) (wz_in (zin3 _ (List.mem_of_getElem? (i := 4) rfl))) rfl rfl dX5_doIt_247 ?_
      refine lv_aload_n hx hb dX5_doIt_250 rfl (lv_at hl 0 rfl) ?_
      refine cr_get (v := .int (ci t_127 110 0)) S hK hw 1 0 g_213 hX5 rfl rfl 10 (by decide) (wz_in (zin11 _ (List.mem_of_getElem? (i := 17) rfl))) rfl rfl dX5_doIt_251 ?_
      obtain ⟨r_215, t_216, e_217, hf⟩ := zb_inv hf
      refine cw_fl (va_runSN (As := [.ref (ad (8, cr t_127 4)), .int (ci t_127 110 0)]) (rest := [.ref (ad (1, 0))]) S (kc_X6_numberAt l D cy A ad en tI tS _ _ (cr t_127 4) (ci t_127 110 0) _ e_217) ⟨va_cnB 2 hts (wz_gd (zin12 _ (List.mem_of_getElem? (i := 17) rfl))) rfl rfl rfl (hN.2 _ (List.mem_of_getElem? (i := 8) rfl)) (hts _ (wz_in (zin1 _ (List.mem_of_getElem? (i := 2) rfl)))) (by decide +kernel) ⟨Nat.le_of_ble_eq_true rfl, Nat.le_of_ble_eq_true rfl⟩, hts _ (wz_in (zin12 _ (List.mem_of_getElem? (i := 16) rfl))), trivial⟩ ⟨cw_blind _, cw_pre hC hw hS _⟩ rfl rfl hl.1 rfl (lv_room (Nat.le_of_ble_eq_true rfl)) dX5_doIt_254 ⟨Nat.zero_le _, Nat.zero_le _⟩) hS (fun H locs hw hS => ?_)
      obtain ⟨g_221, hf⟩ := zg_inv hf
      obtain ⟨r_218, t_219, e_220, hf⟩ := zb_inv hf
      refine cw_fi (va_runV (As := [.long r_215]) (rest := []) S (kc_X5_lay l D cy A ad en tI tS _ _ r_215 _ e_220) (cwV 1 hts (wz_V (zin12 _ (List.mem_of_getElem? (i := 15) rfl)) (zin12 _ (List.mem_of_getElem? (i := 12) rfl)) (zin12 _ (List.mem_of_getElem? (i := 13) rfl)) (zin12 _ (List.mem_of_getElem? (i := 14) rfl)) (zin2 _ (List.mem_of_getElem? (i := 11) rfl))) rfl rfl rfl (by decide +kernel) ⟨Nat.le_of_ble_eq_true rfl, Nat.le_of_ble_eq_true rfl⟩) ⟨cw_blind _, zw_recv hK hw (g := (1, 0)) (cG_at g_221) rfl, cw_pre hC hw hS _⟩ rfl rfl hl.1 rfl (lv_room (Nat.le_of_ble_eq_true rfl)) dX5_doIt_257 ⟨Nat.zero_le _, Nat.zero_le _⟩) hS (fun H locs hw hS => ?_)
      exact B260 _ r_218 _ _ _ hf hw hS (lv_sub hl [0, 1, 2] rfl)
    · have hf := (zi_t c_214).symm.trans hf
      refine lv_iconst (v := (5 : Int32)) hx hb dX5_doIt_241 (by decide) ?_
      refine lv_goto (tgt := 260) hx hb dX5_doIt_242 (by decide) ?_
      exact B260 _ (5 : Int32) _ _ _ hf hw hS (lv_sub hl [0, 1, 2] rfl)
  have hf := (zi_f c_212).symm.trans hf
  by_cases c_222 : w_131 = 12
  · have hf := (zi_t c_222).symm.trans hf
    refine lv_tableIn (tgt := 261) hx hb dX5_doIt_8 (by rw [c_222]; decide) (by rw [c_222]; decide) (by rw [c_222]; rfl) (by decide) ?_
    refine lv_aload_n hx hb dX5_doIt_261 rfl (lv_at hl 0 rfl) ?_
    refine lv_iload_n hx hb dX5_doIt_262 rfl (lv_at hl 2 rfl) ?_
    obtain ⟨g_223, hf⟩ := zg_inv hf
    refine cr_put (v := .int x2) (σ1 := cI t_127 109 0 x2) S hK hw hS 1 0 g_223 hX5 tyX5 tyX5_ok nmX5 rfl rfl 9 (by decide) (wz_in (zin11 _ (List.mem_of_getElem? (i := 16) rfl))) rfl rfl rfl rfl (Nat.le_of_ble_eq_true rfl) dX5_doIt_263 rfl (cput_109 _ _ _ _ _) (cout_109 _ _ _ _ _) (fun H locs hw hS => ?_)
    refine lv_bipush (v := (6 : Int32)) hx hb dX5_doIt_266 (by decide) ?_
    exact cw_reti S hr hf hw hS hlocks dX5_doIt_268
  have hf := (zi_f c_222).symm.trans hf
  refine lv_tableOut (tgt := 269) hx hb dX5_doIt_8 (zs_out1_12 w_131 c_132 c_137 c_146 c_154 c_163 c_171 c_180 c_185 c_195 c_210 c_212 c_222) (by decide) ?_
  refine lv_aload_n hx hb dX5_doIt_269 rfl (lv_at hl 0 rfl) ?_
  obtain ⟨g_227, hf⟩ := zg_inv hf
  obtain ⟨r_224, t_225, e_226, hf⟩ := zb_inv hf
  refine cw_fl (va_runV (As := []) (rest := []) S (kc_X5_take l D cy A ad en tI tS _ _ _ e_226) (cwV 0 hts (wz_V (zin12 _ (List.mem_of_getElem? (i := 21) rfl)) (zin12 _ (List.mem_of_getElem? (i := 18) rfl)) (zin12 _ (List.mem_of_getElem? (i := 19) rfl)) (zin12 _ (List.mem_of_getElem? (i := 20) rfl)) (zin2 _ (List.mem_of_getElem? (i := 11) rfl))) rfl rfl rfl (by decide +kernel) ⟨Nat.le_of_ble_eq_true rfl, Nat.le_of_ble_eq_true rfl⟩) ⟨cw_blind _, zw_recv hK hw (g := (1, 0)) (cG_at g_227) rfl, cw_pre hC hw hS _⟩ rfl rfl hl.1 rfl (lv_room (Nat.le_of_ble_eq_true rfl)) dX5_doIt_270 ⟨Nat.zero_le _, Nat.zero_le _⟩) hS (fun H locs hw hS => ?_)
  refine lv_lstore (lv' := [(5, .long r_224), (0, .ref (ad (1, 0))), (1, .ref (en x1)), (2, .int x2)]) hx hb dX5_doIt_273 hl (by decide) rfl (fun ls hl => ?_)
  refine lv_aload_n hx hb dX5_doIt_275 rfl (lv_at hl 1 rfl) ?_
  obtain ⟨g_231, hf⟩ := zg_inv hf
  obtain ⟨r_228, t_229, e_230, hf⟩ := zb_inv hf
  refine cw_fl (va_runV (As := []) (rest := []) S (kc_X5_take l D cy A ad en tI tS _ _ _ e_230) (cwV 0 hts (wz_V (zin12 _ (List.mem_of_getElem? (i := 21) rfl)) (zin12 _ (List.mem_of_getElem? (i := 18) rfl)) (zin12 _ (List.mem_of_getElem? (i := 19) rfl)) (zin12 _ (List.mem_of_getElem? (i := 20) rfl)) (zin2 _ (List.mem_of_getElem? (i := 11) rfl))) rfl rfl rfl (by decide +kernel) ⟨Nat.le_of_ble_eq_true rfl, Nat.le_of_ble_eq_true rfl⟩) ⟨cw_blind _, zw_recv hK hw (g := (1, 0)) (cG_at g_231) rfl, cw_pre hC hw hS _⟩ rfl rfl hl.1 rfl (lv_room (Nat.le_of_ble_eq_true rfl)) dX5_doIt_276 ⟨Nat.zero_le _, Nat.zero_le _⟩) hS (fun H locs hw hS => ?_)
  refine lv_lstore (lv' := [(7, .long r_228), (5, .long r_224), (0, .ref (ad (1, 0))), (1, .ref (en x1)), (2, .int x2)]) hx hb dX5_doIt_279 hl (by decide) rfl (fun ls hl => ?_)
  refine lv_lload hx hb dX5_doIt_281 (lv_at hl 1 rfl) ?_
  refine lv_lconst (v := (0 : Int64)) hx hb dX5_doIt_283 (by decide) ?_
  refine W.lcmp hx hb dX5_doIt_284 ?_
  refine lv_if_ne (tgt := 299) hx hb dX5_doIt_285 (by decide) (fun c_232 => ?_) (fun c_232 => ?_)
  · have hf := (zi_f c_232).symm.trans hf
    exact B299 _ r_224 r_228 _ _ _ hf hw hS (lv_sub hl [2, 3, 4, 1, 0] rfl)
  · have hf := (zi_t c_232).symm.trans hf
    refine lv_aload_n hx hb dX5_doIt_288 rfl (lv_at hl 3 rfl) ?_
    obtain ⟨r_233, t_234, e_235, hf⟩ := zb_inv hf
    refine cw_fi (va_runS (As := [.ref (en x1)]) (rest := []) S (kc_X5_divides l D cy A ad en tI tS _ _ x1 _ e_235) (va_cwS 1 hts (wz_S (zin13 _ (List.mem_of_getElem? (i := 6) rfl)) (zin13 _ (List.mem_of_getElem? (i := 4) rfl)) (zin13 _ (List.mem_of_getElem? (i := 5) rfl)) (zin2 _ (List.mem_of_getElem? (i := 11) rfl))) rfl rfl rfl (by decide +kernel) ⟨Nat.le_of_ble_eq_true rfl, Nat.le_of_ble_eq_true rfl⟩) ⟨cw_blind _, cw_pre hC hw hS _⟩ rfl rfl hl.1 rfl (lv_room (Nat.le_of_ble_eq_true rfl)) dX5_doIt_289 ⟨Nat.zero_le _, Nat.zero_le _⟩) hS (fun H locs hw hS => ?_)
    refine lv_if_eq (tgt := 299) hx hb dX5_doIt_292 (by decide) (fun c_236 => ?_) (fun c_236 => ?_)
    · have hf := (zi_t c_236).symm.trans hf
      exact B299 _ r_224 r_228 _ _ _ hf hw hS (lv_sub hl [2, 3, 4, 1, 0] rfl)
    · have hf := (zi_f c_236).symm.trans hf
      refine lv_iconst (v := (4 : Int32)) hx hb dX5_doIt_295 (by decide) ?_
      refine lv_goto (tgt := 311) hx hb dX5_doIt_296 (by decide) ?_
      exact B311 _ (4 : Int32) r_224 r_228 _ _ _ hf hw hS (lv_sub hl [2, 3, 4, 1, 0] rfl)
noncomputable def k_X5_step_b122 (τ : CS) (x1 : Int32) (x2 : Nat) (x3 : Int32) (x4 : Int32) : Option (Int32 × CS) := some ((3 : Int32), τ)
noncomputable def k_X5_step_b92 (τ : CS) (x1 : Int32) (x2 : Nat) (x3 : Int32) (x4 : Int32) : Option (Int32 × CS) := zg (cv τ 1 0 = true) (zg (x2 < 19) (zi ((ci τ 106 0) < (zT3.getD x2 0)) (k_X5_step_b122 τ x1 x2 x3 x4) (zi ((((ci τ 106 0) - (zT3.getD x2 0)) + (zT4.getD x2 0)) ≤ (16 : Int32)) (zb (k_X5_doIt (cI τ 107 0 x3) x2 x4) (fun r_31 t_32 => some (r_31, t_32))) (k_X5_step_b122 τ x1 x2 x3 x4))))
noncomputable def k_X5_step_b48 (τ : CS) (y0 : Int32) (y1 : Int32) (x1 : Int32) (x2 : Nat) : Option (Int32 × CS) := zg (cv τ 1 0 = true) (zg (cv τ 9 (cr τ 3) = true) (zi ((y1 + y0) ≤ (nI (cbl τ (cr τ 3)))) (zb (k_X6_octetAt τ (cr τ 3) ((ci τ 107 0) + (1 : Int32))) (fun r_37 t_38 => zg (x2 < 19) (zi ((zT2.getD x2 0) = 0) (k_X5_step_b92 t_38 x1 x2 (y1 + y0) r_37) (zi (r_37 < (8 : Int32)) (k_X5_step_b92 t_38 x1 x2 (y1 + y0) r_37) (some ((2 : Int32), t_38)))))) (some ((1 : Int32), τ))))
noncomputable def k_X5_step_b24 (τ : CS) (x1 : Int32) : Option (Int32 × CS) := some ((1 : Int32), τ)
noncomputable def k_X5_step (τ : CS) : Option (Int32 × CS) := zg (cv τ 1 0 = true) (zb (k_X6_octetAt τ (cr τ 3) (ci τ 107 0)) (fun r_44 t_45 => zi (r_44 < 0) (k_X5_step_b24 t_45 r_44) (zi (r_44 < (19 : Int32)) (zg (vp_in r_44 19) (zg (cv t_45 1 0 = true) (zg ((r_44.toNatClampNeg) < 19) (zi ((zT1.getD (r_44.toNatClampNeg) 0) = 0) (k_X5_step_b48 t_45 (1 : Int32) (ci t_45 107 0) r_44 (r_44.toNatClampNeg)) (k_X5_step_b48 t_45 (2 : Int32) (ci t_45 107 0) r_44 (r_44.toNatClampNeg)))))) (k_X5_step_b24 t_45 r_44))))
set_option maxHeartbeats 4000000 in
set_option maxRecDepth 100000 in
theorem kc_X5_step (l : Launch) (D : va_G) (cy : Nat → ClassId) (A : Nat → Prop) (ad : Nat × Nat → Nat) (en : Nat → Nat) (tI tS : Nat) (τ τ' : CS) (r : Int32) (hf : k_X5_step τ = some (r, τ')) : Met l yX5_step (wz yX5_step cX5_step 5 (some .int)) ({ frames := 3, cells := 0, slots := 0, locals := 72 } : Room) (va_Pc [.ref (ad (1, 0))] (CWs D cy A ad en tI tS τ)) (va_Qi (fun (r' : Int32) (u : CS) => r' = r ∧ u = τ') (CWp D cy A ad) A) 0 0 A := by
  refine Met.ofW (cc := cX5_step) (maxL := 5) (ret := (some .int)) (by decide) rfl ?_
  intro p e s m args below meth c s₁ B hml hv
  obtain ⟨rfl, hw, hC⟩ := hv
  have hK := hC.1
  have hN := hC.2.1
  have hx := B.exec
  have hb := B.bytes
  have hr := B.returns
  have hts := atoms_spec (ws := (wz yX5_step cX5_step 5 (some .int))) B.pre
  have hown : s.vm.findClass RX5 = some m.cls := findClass_of_methodNamed B.named
  have hlocks := B.notSynchronized
  have S : CallFix p m c cX5_step 5 s ([.ref (ad (1, 0))] : List Value).toArray (wz yX5_step cX5_step 5 (some .int)) RX5 := ⟨hx, hb, hml, hown, hts⟩
  have hX1 : ∀ w ∈ wsX10, w ∈ (wz yX5_step cX5_step 5 (some .int)) := fun w h => wz_in (inlX1 w h)
  have hX2 : ∀ w ∈ wsX20, w ∈ (wz yX5_step cX5_step 5 (some .int)) := fun w h => wz_in (inlX2 w h)
  have hX4 : ∀ w ∈ wsX40, w ∈ (wz yX5_step cX5_step 5 (some .int)) := fun w h => wz_in (inlX4 w h)
  have hX5 : ∀ w ∈ wsX50, w ∈ (wz yX5_step cX5_step 5 (some .int)) := fun w h => wz_in (inlX5 w h)
  have hX6 : ∀ w ∈ wsX60, w ∈ (wz yX5_step cX5_step 5 (some .int)) := fun w h => wz_in (inlX6 w h)
  have hS : va_S A s.heap s.heap [] := va_S.rf
  have hl := lv_entry ([.ref (ad (1, 0))]) (n := 5) (Nat.le_of_ble_eq_true rfl)
  rw [lg_entry_eq]
  generalize (lg_sl ([.ref (ad (1, 0))]) ++ List.replicate (5 - (lg_sl ([.ref (ad (1, 0))])).length) Slot.unset).toArray = ls at hl ⊢
  have hl : lv_has ls 5 [(0, .ref (ad (1, 0)))] := hl
  have B122 : ∀ (τ : CS) (x1 : Int32) (x2 : Nat) (x3 : Int32) (x4 : Int32) (H : Heap) (locs : List Loc) (ls : Array Slot) (hf : k_X5_step_b122 τ x1 x2 x3 x4 = some (r, τ')) (hw : zw D A ad (cG cy ad τ) H) (hS : va_S A s.heap H locs) (hl : lv_has ls 5 [(0, .ref (ad (1, 0))), (1, .int x1), (2, .ref (en x2)), (3, .int x3), (4, .int x4)]), W p l e (headSpec (wz yX5_step cX5_step 5 (some .int)) ({ frames := 3, cells := 0, slots := 0, locals := 72 } : Room)).room s m ([.ref (ad (1, 0))] : List Value).toArray below meth c H locs 0 0 (MQ below (va_Qi (fun (r' : Int32) (u : CS) => r' = r ∧ u = τ') (CWp D cy A ad) A) ([.ref (ad (1, 0))] : List Value).toArray s 0 0 A) (F0 m 122 ls []) := by
    intro τ x1 x2 x3 x4 H locs ls hf hw hS hl
    rw [k_X5_step_b122] at hf
    refine lv_iconst (v := (3 : Int32)) hx hb dX5_step_122 (by decide) ?_
    exact cw_reti S hr hf hw hS hlocks dX5_step_123
  have B92 : ∀ (τ : CS) (x1 : Int32) (x2 : Nat) (x3 : Int32) (x4 : Int32) (H : Heap) (locs : List Loc) (ls : Array Slot) (hf : k_X5_step_b92 τ x1 x2 x3 x4 = some (r, τ')) (hw : zw D A ad (cG cy ad τ) H) (hS : va_S A s.heap H locs) (hl : lv_has ls 5 [(0, .ref (ad (1, 0))), (1, .int x1), (2, .ref (en x2)), (3, .int x3), (4, .int x4)]), W p l e (headSpec (wz yX5_step cX5_step 5 (some .int)) ({ frames := 3, cells := 0, slots := 0, locals := 72 } : Room)).room s m ([.ref (ad (1, 0))] : List Value).toArray below meth c H locs 0 0 (MQ below (va_Qi (fun (r' : Int32) (u : CS) => r' = r ∧ u = τ') (CWp D cy A ad) A) ([.ref (ad (1, 0))] : List Value).toArray s 0 0 A) (F0 m 92 ls []) := by
    intro τ x1 x2 x3 x4 H locs ls hf hw hS hl
    rw [k_X5_step_b92] at hf
    refine lv_aload_n hx hb dX5_step_92 rfl (lv_at hl 0 rfl) ?_
    obtain ⟨g_27, hf⟩ := zg_inv hf
    refine cr_get (v := .int (ci τ 106 0)) S hK hw 1 0 g_27 hX5 rfl rfl 6 (by decide) (wz_in (zin11 _ (List.mem_of_getElem? (i := 14) rfl))) rfl rfl dX5_step_93 ?_
    refine lv_aload_n hx hb dX5_step_96 rfl (lv_at hl 2 rfl) ?_
    obtain ⟨g_28, hf⟩ := zg_inv hf
    refine cr_getE (q := (zIE, "takes", "I", zT3)) S hC hS x2 g_28 (List.mem_of_getElem? (i := 3) rfl) (List.mem_of_getElem? (i := 22) rfl) rfl dX5_step_97 ?_
    refine lv_icmp_lt (tgt := 122) hx hb dX5_step_100 (by decide) (fun c_29 => ?_) (fun c_29 => ?_)
    · have hf := (zi_t c_29).symm.trans hf
      exact B122 _ x1 x2 x3 x4 _ _ _ hf hw hS (lv_sub hl [0, 1, 2, 3, 4] rfl)
    · have hf := (zi_f c_29).symm.trans hf
      refine lv_aload_n hx hb dX5_step_103 rfl (lv_at hl 0 rfl) ?_
      refine cr_get (v := .int (ci τ 106 0)) S hK hw 1 0 g_27 hX5 rfl rfl 6 (by decide) (wz_in (zin11 _ (List.mem_of_getElem? (i := 14) rfl))) rfl rfl dX5_step_104 ?_
      refine lv_aload_n hx hb dX5_step_107 rfl (lv_at hl 2 rfl) ?_
      refine cr_getE (q := (zIE, "takes", "I", zT3)) S hC hS x2 g_28 (List.mem_of_getElem? (i := 3) rfl) (List.mem_of_getElem? (i := 22) rfl) rfl dX5_step_108 ?_
      refine lv_isub hx hb dX5_step_111 ?_
      refine lv_aload_n hx hb dX5_step_112 rfl (lv_at hl 2 rfl) ?_
      refine cr_getE (q := (zIE, "lays", "I", zT4)) S hC hS x2 g_28 (List.mem_of_getElem? (i := 4) rfl) (List.mem_of_getElem? (i := 23) rfl) rfl dX5_step_113 ?_
      refine lv_iadd hx hb dX5_step_116 ?_
      refine lv_bipush (v := (16 : Int32)) hx hb dX5_step_117 (by decide) ?_
      refine lv_icmp_le (tgt := 124) hx hb dX5_step_119 (by decide) (fun c_30 => ?_) (fun c_30 => ?_)
      · have hf := (zi_t c_30).symm.trans hf
        refine lv_aload_n hx hb dX5_step_124 rfl (lv_at hl 0 rfl) ?_
        refine lv_iload_n hx hb dX5_step_125 rfl (lv_at hl 3 rfl) ?_
        refine cr_put (v := .int x3) (σ1 := cI τ 107 0 x3) S hK hw hS 1 0 g_27 hX5 tyX5 tyX5_ok nmX5 rfl rfl 7 (by decide) (wz_in (zin11 _ (List.mem_of_getElem? (i := 15) rfl))) rfl rfl rfl rfl (Nat.le_of_ble_eq_true rfl) dX5_step_126 rfl (cput_107 _ _ _ _ _) (cout_107 _ _ _ _ _) (fun H locs hw hS => ?_)
        refine lv_aload_n hx hb dX5_step_129 rfl (lv_at hl 0 rfl) ?_
        refine lv_aload_n hx hb dX5_step_130 rfl (lv_at hl 2 rfl) ?_
        refine lv_iload hx hb dX5_step_131 (lv_at hl 4 rfl) ?_
        obtain ⟨r_31, t_32, e_33, hf⟩ := zb_inv hf
        refine cw_fi (va_runV (As := [.ref (en x2), .int x4]) (rest := []) S (kc_X5_doIt l D cy A ad en tI tS _ _ x2 x4 _ e_33) (cwV 2 hts (wz_V (zin12 _ (List.mem_of_getElem? (i := 2) rfl)) (zin11 _ (List.mem_of_getElem? (i := 23) rfl)) (zin12 _ (List.mem_of_getElem? (i := 0) rfl)) (zin12 _ (List.mem_of_getElem? (i := 1) rfl)) (zin2 _ (List.mem_of_getElem? (i := 11) rfl))) rfl rfl rfl (by decide +kernel) ⟨Nat.le_of_ble_eq_true rfl, Nat.le_of_ble_eq_true rfl⟩) ⟨cw_blind _, zw_recv hK hw (g := (1, 0)) (cG_at g_27) rfl, cw_pre hC hw hS _⟩ rfl rfl hl.1 rfl (lv_room (Nat.le_of_ble_eq_true rfl)) dX5_step_133 ⟨Nat.zero_le _, Nat.zero_le _⟩) hS (fun H locs hw hS => ?_)
        exact cw_reti S hr hf hw hS hlocks dX5_step_136
      · have hf := (zi_f c_30).symm.trans hf
        exact B122 _ x1 x2 x3 x4 _ _ _ hf hw hS (lv_sub hl [0, 1, 2, 3, 4] rfl)
  have B48 : ∀ (τ : CS) (y0 : Int32) (y1 : Int32) (x1 : Int32) (x2 : Nat) (H : Heap) (locs : List Loc) (ls : Array Slot) (hf : k_X5_step_b48 τ y0 y1 x1 x2 = some (r, τ')) (hw : zw D A ad (cG cy ad τ) H) (hS : va_S A s.heap H locs) (hl : lv_has ls 5 [(0, .ref (ad (1, 0))), (1, .int x1), (2, .ref (en x2))]), W p l e (headSpec (wz yX5_step cX5_step 5 (some .int)) ({ frames := 3, cells := 0, slots := 0, locals := 72 } : Room)).room s m ([.ref (ad (1, 0))] : List Value).toArray below meth c H locs 0 0 (MQ below (va_Qi (fun (r' : Int32) (u : CS) => r' = r ∧ u = τ') (CWp D cy A ad) A) ([.ref (ad (1, 0))] : List Value).toArray s 0 0 A) (F0 m 48 ls [.int y0, .int y1]) := by
    intro τ y0 y1 x1 x2 H locs ls hf hw hS hl
    rw [k_X5_step_b48] at hf
    refine lv_iadd hx hb dX5_step_48 ?_
    refine lv_istore_n (lv' := [(3, .int (y1 + y0)), (0, .ref (ad (1, 0))), (1, .int x1), (2, .ref (en x2))]) hx hb dX5_step_49 rfl hl (by decide) rfl (fun ls hl => ?_)
    refine lv_iload_n hx hb dX5_step_50 rfl (lv_at hl 0 rfl) ?_
    refine lv_aload_n hx hb dX5_step_51 rfl (lv_at hl 1 rfl) ?_
    obtain ⟨g_34, hf⟩ := zg_inv hf
    refine cr_get (v := .ref (ad (9, cr τ 3))) S hK hw 1 0 g_34 hX5 rfl rfl 3 (by decide) (wz_in (zin3 _ (List.mem_of_getElem? (i := 3) rfl))) rfl rfl dX5_step_52 ?_
    obtain ⟨g_35, hf⟩ := zg_inv hf
    refine cr_alen (v := nI (cbl τ (cr τ 3))) S hK hw 9 (cr τ 3) 0 g_35 rfl rfl rfl dX5_step_55 ?_
    refine lv_icmp_le (tgt := 61) hx hb dX5_step_56 (by decide) (fun c_36 => ?_) (fun c_36 => ?_)
    · have hf := (zi_t c_36).symm.trans hf
      refine lv_aload_n hx hb dX5_step_61 rfl (lv_at hl 1 rfl) ?_
      refine cr_get (v := .ref (ad (9, cr τ 3))) S hK hw 1 0 g_34 hX5 rfl rfl 3 (by decide) (wz_in (zin3 _ (List.mem_of_getElem? (i := 3) rfl))) rfl rfl dX5_step_62 ?_
      refine lv_aload_n hx hb dX5_step_65 rfl (lv_at hl 1 rfl) ?_
      refine cr_get (v := .int (ci τ 107 0)) S hK hw 1 0 g_34 hX5 rfl rfl 7 (by decide) (wz_in (zin11 _ (List.mem_of_getElem? (i := 15) rfl))) rfl rfl dX5_step_66 ?_
      refine lv_iconst (v := (1 : Int32)) hx hb dX5_step_69 (by decide) ?_
      refine lv_iadd hx hb dX5_step_70 ?_
      obtain ⟨r_37, t_38, e_39, hf⟩ := zb_inv hf
      refine cw_fi (va_runSN (As := [.ref (ad (9, cr τ 3)), .int ((ci τ 107 0) + (1 : Int32))]) (rest := []) S (kc_X6_octetAt l D cy A ad en tI tS _ _ (cr τ 3) ((ci τ 107 0) + (1 : Int32)) _ e_39) ⟨va_cnB 2 hts (wz_gd (zin6 _ (List.mem_of_getElem? (i := 7) rfl))) rfl rfl rfl (hN.2 _ (List.mem_of_getElem? (i := 7) rfl)) (hts _ (wz_in (zin1 _ (List.mem_of_getElem? (i := 2) rfl)))) (by decide +kernel) ⟨Nat.le_of_ble_eq_true rfl, Nat.le_of_ble_eq_true rfl⟩, hts _ (wz_in (zin6 _ (List.mem_of_getElem? (i := 6) rfl))), trivial⟩ ⟨cw_blind _, cw_pre hC hw hS _⟩ rfl rfl hl.1 rfl (lv_room (Nat.le_of_ble_eq_true rfl)) dX5_step_71 ⟨Nat.zero_le _, Nat.zero_le _⟩) hS (fun H locs hw hS => ?_)
      refine lv_istore (lv' := [(4, .int r_37), (3, .int (y1 + y0)), (0, .ref (ad (1, 0))), (1, .int x1), (2, .ref (en x2))]) hx hb dX5_step_74 hl (by decide) rfl (fun ls hl => ?_)
      refine lv_aload_n hx hb dX5_step_76 rfl (lv_at hl 4 rfl) ?_
      obtain ⟨g_40, hf⟩ := zg_inv hf
      refine cr_getE (q := (zIE, "namesPlace", "Z", zT2)) S hC hS x2 g_40 (List.mem_of_getElem? (i := 2) rfl) (List.mem_of_getElem? (i := 21) rfl) rfl dX5_step_77 ?_
      refine lv_if_eq (tgt := 92) hx hb dX5_step_80 (by decide) (fun c_41 => ?_) (fun c_41 => ?_)
      · have hf := (zi_t c_41).symm.trans hf
        exact B92 _ x1 x2 (y1 + y0) r_37 _ _ _ hf hw hS (lv_sub hl [2, 3, 4, 1, 0] rfl)
      · have hf := (zi_f c_41).symm.trans hf
        refine lv_iload hx hb dX5_step_83 (lv_at hl 0 rfl) ?_
        refine lv_bipush (v := (8 : Int32)) hx hb dX5_step_85 (by decide) ?_
        refine lv_icmp_lt (tgt := 92) hx hb dX5_step_87 (by decide) (fun c_42 => ?_) (fun c_42 => ?_)
        · have hf := (zi_t c_42).symm.trans hf
          exact B92 _ x1 x2 (y1 + y0) r_37 _ _ _ hf hw hS (lv_sub hl [2, 3, 4, 1, 0] rfl)
        · have hf := (zi_f c_42).symm.trans hf
          refine lv_iconst (v := (2 : Int32)) hx hb dX5_step_90 (by decide) ?_
          exact cw_reti S hr hf hw hS hlocks dX5_step_91
    · have hf := (zi_f c_36).symm.trans hf
      refine lv_iconst (v := (1 : Int32)) hx hb dX5_step_59 (by decide) ?_
      exact cw_reti S hr hf hw hS hlocks dX5_step_60
  have B24 : ∀ (τ : CS) (x1 : Int32) (H : Heap) (locs : List Loc) (ls : Array Slot) (hf : k_X5_step_b24 τ x1 = some (r, τ')) (hw : zw D A ad (cG cy ad τ) H) (hS : va_S A s.heap H locs) (hl : lv_has ls 5 [(0, .ref (ad (1, 0))), (1, .int x1)]), W p l e (headSpec (wz yX5_step cX5_step 5 (some .int)) ({ frames := 3, cells := 0, slots := 0, locals := 72 } : Room)).room s m ([.ref (ad (1, 0))] : List Value).toArray below meth c H locs 0 0 (MQ below (va_Qi (fun (r' : Int32) (u : CS) => r' = r ∧ u = τ') (CWp D cy A ad) A) ([.ref (ad (1, 0))] : List Value).toArray s 0 0 A) (F0 m 24 ls []) := by
    intro τ x1 H locs ls hf hw hS hl
    rw [k_X5_step_b24] at hf
    refine lv_iconst (v := (1 : Int32)) hx hb dX5_step_24 (by decide) ?_
    exact cw_reti S hr hf hw hS hlocks dX5_step_25
  rw [k_X5_step] at hf
  refine lv_aload_n hx hb dX5_step_0 rfl (lv_at hl 0 rfl) ?_
  obtain ⟨g_43, hf⟩ := zg_inv hf
  refine cr_get (v := .ref (ad (9, cr τ 3))) S hK hw 1 0 g_43 hX5 rfl rfl 3 (by decide) (wz_in (zin3 _ (List.mem_of_getElem? (i := 3) rfl))) rfl rfl dX5_step_1 ?_
  refine lv_aload_n hx hb dX5_step_4 rfl (lv_at hl 0 rfl) ?_
  refine cr_get (v := .int (ci τ 107 0)) S hK hw 1 0 g_43 hX5 rfl rfl 7 (by decide) (wz_in (zin11 _ (List.mem_of_getElem? (i := 15) rfl))) rfl rfl dX5_step_5 ?_
  obtain ⟨r_44, t_45, e_46, hf⟩ := zb_inv hf
  refine cw_fi (va_runSN (As := [.ref (ad (9, cr τ 3)), .int (ci τ 107 0)]) (rest := []) S (kc_X6_octetAt l D cy A ad en tI tS _ _ (cr τ 3) (ci τ 107 0) _ e_46) ⟨va_cnB 2 hts (wz_gd (zin6 _ (List.mem_of_getElem? (i := 7) rfl))) rfl rfl rfl (hN.2 _ (List.mem_of_getElem? (i := 7) rfl)) (hts _ (wz_in (zin1 _ (List.mem_of_getElem? (i := 2) rfl)))) (by decide +kernel) ⟨Nat.le_of_ble_eq_true rfl, Nat.le_of_ble_eq_true rfl⟩, hts _ (wz_in (zin6 _ (List.mem_of_getElem? (i := 6) rfl))), trivial⟩ ⟨cw_blind _, cw_pre hC hw hS _⟩ rfl rfl hl.1 rfl (lv_room (Nat.le_of_ble_eq_true rfl)) dX5_step_8 ⟨Nat.zero_le _, Nat.zero_le _⟩) hS (fun H locs hw hS => ?_)
  refine lv_istore_n (lv' := [(1, .int r_44), (0, .ref (ad (1, 0)))]) hx hb dX5_step_11 rfl hl (by decide) rfl (fun ls hl => ?_)
  refine lv_iload_n hx hb dX5_step_12 rfl (lv_at hl 0 rfl) ?_
  refine lv_if_lt (tgt := 24) hx hb dX5_step_13 (by decide) (fun c_47 => ?_) (fun c_47 => ?_)
  · have hf := (zi_t c_47).symm.trans hf
    exact B24 _ r_44 _ _ _ hf hw hS (lv_sub hl [1, 0] rfl)
  · have hf := (zi_f c_47).symm.trans hf
    refine lv_iload_n hx hb dX5_step_16 rfl (lv_at hl 0 rfl) ?_
    refine cr_getI S hC hS (List.mem_of_getElem? (i := 19) rfl) dX5_step_17 ?_
    refine cr_tIlen S hC hS dX5_step_20 ?_
    refine lv_icmp_lt (tgt := 26) hx hb dX5_step_21 (by decide) (fun c_48 => ?_) (fun c_48 => ?_)
    · have hf := (zi_t c_48).symm.trans hf
      refine cr_getI S hC hS (List.mem_of_getElem? (i := 19) rfl) dX5_step_26 ?_
      refine lv_iload_n hx hb dX5_step_29 rfl (lv_at hl 0 rfl) ?_
      obtain ⟨g_49, hf⟩ := zg_inv hf
      refine cr_tI S hC hS g_49 dX5_step_30 ?_
      refine lv_astore_n (lv' := [(2, .ref (en (r_44.toNatClampNeg))), (1, .int r_44), (0, .ref (ad (1, 0)))]) hx hb dX5_step_31 rfl hl (by decide) rfl (fun ls hl => ?_)
      refine lv_aload_n hx hb dX5_step_32 rfl (lv_at hl 2 rfl) ?_
      obtain ⟨g_50, hf⟩ := zg_inv hf
      refine cr_get (v := .int (ci t_45 107 0)) S hK hw 1 0 g_50 hX5 rfl rfl 7 (by decide) (wz_in (zin11 _ (List.mem_of_getElem? (i := 15) rfl))) rfl rfl dX5_step_33 ?_
      refine lv_aload_n hx hb dX5_step_36 rfl (lv_at hl 0 rfl) ?_
      obtain ⟨g_51, hf⟩ := zg_inv hf
      refine cr_getE (q := (zIE, "hasOctet", "Z", zT1)) S hC hS (r_44.toNatClampNeg) g_51 (List.mem_of_getElem? (i := 1) rfl) (List.mem_of_getElem? (i := 20) rfl) rfl dX5_step_37 ?_
      refine lv_if_eq (tgt := 47) hx hb dX5_step_40 (by decide) (fun c_52 => ?_) (fun c_52 => ?_)
      · have hf := (zi_t c_52).symm.trans hf
        refine lv_iconst (v := (1 : Int32)) hx hb dX5_step_47 (by decide) ?_
        exact B48 _ (1 : Int32) (ci t_45 107 0) r_44 (r_44.toNatClampNeg) _ _ _ hf hw hS (lv_sub hl [2, 1, 0] rfl)
      · have hf := (zi_f c_52).symm.trans hf
        refine lv_iconst (v := (2 : Int32)) hx hb dX5_step_43 (by decide) ?_
        refine lv_goto (tgt := 48) hx hb dX5_step_44 (by decide) ?_
        exact B48 _ (2 : Int32) (ci t_45 107 0) r_44 (r_44.toNatClampNeg) _ _ _ hf hw hS (lv_sub hl [2, 1, 0] rfl)
    · have hf := (zi_f c_48).symm.trans hf
      exact B24 _ r_44 _ _ _ hf hw hS (lv_sub hl [1, 0] rfl)
noncomputable def k_X5_go_b107 (x1 : Nat) (x2 : Nat) (x3 : Nat) (x4 : Int32) (τ : CS) (y0 : Int32) (x5 : Int32) (x6 : Int32) : Option (Int32 × CS) := some (y0, τ)
noncomputable def k_X5_go_b105 (x1 : Nat) (x2 : Nat) (x3 : Nat) (x4 : Int32) (τ : CS) (x5 : Int32) (x6 : Int32) : Option (Int32 × CS) := k_X5_go_b107 x1 x2 x3 x4 τ x5 x5 x6
noncomputable def k_X5_go_b77 (x1 : Nat) (x2 : Nat) (x3 : Nat) (x4 : Int32) (τ : CS) (x5 : Int32) (x6 : Int32) : Option (Int32 × CS) := zg (cv τ 1 0 = true) (zi (x5 = 0) (zg (cv τ 9 (cr (cI τ 108 0 x6) 3) = true) (zi ((nI (cbl (cI τ 108 0 x6) (cr (cI τ 108 0 x6) 3))) ≤ (ci (cI τ 108 0 x6) 107 0)) (k_X5_go_b105 x1 x2 x3 x4 (cI τ 108 0 x6) x5 x6) (k_X5_go_b107 x1 x2 x3 x4 (cI τ 108 0 x6) (7 : Int32) x5 x6))) (k_X5_go_b105 x1 x2 x3 x4 (cI τ 108 0 x6) x5 x6))
noncomputable def k_X5_go_s41 (x1 : Nat) (x2 : Nat) (x3 : Nat) (x4 : Int32) (K : CS → Int32 → Int32 → Option (Int32 × CS)) (τ : CS) (x5 : Int32) (x6 : Int32) : Option (Int32 × CS) := zi (x5 = 0) (zg (cv τ 1 0 = true) (zg (cv τ 9 (cr τ 3) = true) (zi ((nI (cbl τ (cr τ 3))) ≤ (ci τ 107 0)) (k_X5_go_b77 x1 x2 x3 x4 τ x5 x6) (zi (x4 ≤ x6) (k_X5_go_b77 x1 x2 x3 x4 τ x5 x6) (zb (k_X5_step τ) (fun r_23 t_24 => K t_24 r_23 (x6 + (1 : Int32)))))))) (k_X5_go_b77 x1 x2 x3 x4 τ x5 x6)
noncomputable def k_X5_go_l41 (x1 : Nat) (x2 : Nat) (x3 : Nat) (x4 : Int32) : Nat → CS → Int32 → Int32 → Option (Int32 × CS)
  | 0 => fun _ _ _ => none
  | n + 1 => fun τ x5 x6 => k_X5_go_s41 x1 x2 x3 x4 (k_X5_go_l41 x1 x2 x3 x4 n) τ x5 x6
theorem k_X5_go_l41_s (x1 : Nat) (x2 : Nat) (x3 : Nat) (x4 : Int32) (n : Nat) (τ : CS) (x5 : Int32) (x6 : Int32) : k_X5_go_l41 x1 x2 x3 x4 (n + 1) τ x5 x6 = k_X5_go_s41 x1 x2 x3 x4 (k_X5_go_l41 x1 x2 x3 x4 n) τ x5 x6 := rfl
theorem k_X5_go_l41_z (x1 : Nat) (x2 : Nat) (x3 : Nat) (x4 : Int32) (τ : CS) (x5 : Int32) (x6 : Int32) : k_X5_go_l41 x1 x2 x3 x4 0 τ x5 x6 = none := rfl
noncomputable def k_X5_go (τ : CS) (x1 : Nat) (x2 : Nat) (x3 : Nat) (x4 : Int32) : Option (Int32 × CS) := zg (cv τ 1 0 = true) (k_X5_go_l41 x1 x2 x3 x4 FU (cI (cI (cI (cI (cR (cR (cR τ 3 x1) 4 x2) 5 x3) 106 0 (0 : Int32)) 107 0 (0 : Int32)) 109 0 (0 : Int32)) 110 0 (-1 : Int32)) (0 : Int32) (0 : Int32))
set_option maxHeartbeats 4000000 in
set_option maxRecDepth 100000 in
theorem kc_X5_go (l : Launch) (D : va_G) (cy : Nat → ClassId) (A : Nat → Prop) (ad : Nat × Nat → Nat) (en : Nat → Nat) (tI tS : Nat) (τ τ' : CS) (x1 : Nat) (x2 : Nat) (x3 : Nat) (x4 : Int32) (r : Int32) (hf : k_X5_go τ x1 x2 x3 x4 = some (r, τ')) : Met l yX5_go (wz yX5_go cX5_go 7 (some .int)) ({ frames := 4, cells := 0, slots := 0, locals := 96 } : Room) (va_Pc [.ref (ad (1, 0)), .ref (ad (9, x1)), .ref (ad (8, x2)), .ref (ad (8, x3)), .int x4] (CWs D cy A ad en tI tS τ)) (va_Qi (fun (r' : Int32) (u : CS) => r' = r ∧ u = τ') (CWp D cy A ad) A) 0 0 A := by
  refine Met.ofW (cc := cX5_go) (maxL := 7) (ret := (some .int)) (by decide) rfl ?_
  intro p e s m args below meth c s₁ B hml hv
  obtain ⟨rfl, hw, hC⟩ := hv
  have hK := hC.1
  have hN := hC.2.1
  have hx := B.exec
  have hb := B.bytes
  have hr := B.returns
  have hts := atoms_spec (ws := (wz yX5_go cX5_go 7 (some .int))) B.pre
  have hown : s.vm.findClass RX5 = some m.cls := findClass_of_methodNamed B.named
  have hlocks := B.notSynchronized
  have S : CallFix p m c cX5_go 7 s ([.ref (ad (1, 0)), .ref (ad (9, x1)), .ref (ad (8, x2)), .ref (ad (8, x3)), .int x4] : List Value).toArray (wz yX5_go cX5_go 7 (some .int)) RX5 := ⟨hx, hb, hml, hown, hts⟩
  have hX1 : ∀ w ∈ wsX10, w ∈ (wz yX5_go cX5_go 7 (some .int)) := fun w h => wz_in (inlX1 w h)
  have hX2 : ∀ w ∈ wsX20, w ∈ (wz yX5_go cX5_go 7 (some .int)) := fun w h => wz_in (inlX2 w h)
  have hX4 : ∀ w ∈ wsX40, w ∈ (wz yX5_go cX5_go 7 (some .int)) := fun w h => wz_in (inlX4 w h)
  have hX5 : ∀ w ∈ wsX50, w ∈ (wz yX5_go cX5_go 7 (some .int)) := fun w h => wz_in (inlX5 w h)
  have hX6 : ∀ w ∈ wsX60, w ∈ (wz yX5_go cX5_go 7 (some .int)) := fun w h => wz_in (inlX6 w h)
  have hS : va_S A s.heap s.heap [] := va_S.rf
  have hl := lv_entry ([.ref (ad (1, 0)), .ref (ad (9, x1)), .ref (ad (8, x2)), .ref (ad (8, x3)), .int x4]) (n := 7) (Nat.le_of_ble_eq_true rfl)
  rw [lg_entry_eq]
  generalize (lg_sl ([.ref (ad (1, 0)), .ref (ad (9, x1)), .ref (ad (8, x2)), .ref (ad (8, x3)), .int x4]) ++ List.replicate (7 - (lg_sl ([.ref (ad (1, 0)), .ref (ad (9, x1)), .ref (ad (8, x2)), .ref (ad (8, x3)), .int x4])).length) Slot.unset).toArray = ls at hl ⊢
  have hl : lv_has ls 7 [(0, .ref (ad (1, 0))), (1, .ref (ad (9, x1))), (2, .ref (ad (8, x2))), (3, .ref (ad (8, x3))), (4, .int x4)] := hl
  have B107 : ∀ (τ : CS) (y0 : Int32) (x5 : Int32) (x6 : Int32) (H : Heap) (locs : List Loc) (ls : Array Slot) (hf : k_X5_go_b107 x1 x2 x3 x4 τ y0 x5 x6 = some (r, τ')) (hw : zw D A ad (cG cy ad τ) H) (hS : va_S A s.heap H locs) (hl : lv_has ls 7 [(0, .ref (ad (1, 0))), (1, .ref (ad (9, x1))), (2, .ref (ad (8, x2))), (3, .ref (ad (8, x3))), (4, .int x4), (5, .int x5), (6, .int x6)]), W p l e (headSpec (wz yX5_go cX5_go 7 (some .int)) ({ frames := 4, cells := 0, slots := 0, locals := 96 } : Room)).room s m ([.ref (ad (1, 0)), .ref (ad (9, x1)), .ref (ad (8, x2)), .ref (ad (8, x3)), .int x4] : List Value).toArray below meth c H locs 0 0 (MQ below (va_Qi (fun (r' : Int32) (u : CS) => r' = r ∧ u = τ') (CWp D cy A ad) A) ([.ref (ad (1, 0)), .ref (ad (9, x1)), .ref (ad (8, x2)), .ref (ad (8, x3)), .int x4] : List Value).toArray s 0 0 A) (F0 m 107 ls [.int y0]) := by
    intro τ y0 x5 x6 H locs ls hf hw hS hl
    rw [k_X5_go_b107] at hf
    exact cw_reti S hr hf hw hS hlocks dX5_go_107
  have B105 : ∀ (τ : CS) (x5 : Int32) (x6 : Int32) (H : Heap) (locs : List Loc) (ls : Array Slot) (hf : k_X5_go_b105 x1 x2 x3 x4 τ x5 x6 = some (r, τ')) (hw : zw D A ad (cG cy ad τ) H) (hS : va_S A s.heap H locs) (hl : lv_has ls 7 [(0, .ref (ad (1, 0))), (1, .ref (ad (9, x1))), (2, .ref (ad (8, x2))), (3, .ref (ad (8, x3))), (4, .int x4), (5, .int x5), (6, .int x6)]), W p l e (headSpec (wz yX5_go cX5_go 7 (some .int)) ({ frames := 4, cells := 0, slots := 0, locals := 96 } : Room)).room s m ([.ref (ad (1, 0)), .ref (ad (9, x1)), .ref (ad (8, x2)), .ref (ad (8, x3)), .int x4] : List Value).toArray below meth c H locs 0 0 (MQ below (va_Qi (fun (r' : Int32) (u : CS) => r' = r ∧ u = τ') (CWp D cy A ad) A) ([.ref (ad (1, 0)), .ref (ad (9, x1)), .ref (ad (8, x2)), .ref (ad (8, x3)), .int x4] : List Value).toArray s 0 0 A) (F0 m 105 ls []) := by
    intro τ x5 x6 H locs ls hf hw hS hl
    rw [k_X5_go_b105] at hf
    refine lv_iload hx hb dX5_go_105 (lv_at hl 5 rfl) ?_
    exact B107 _ x5 x5 x6 _ _ _ hf hw hS (lv_sub hl [0, 1, 2, 3, 4, 5, 6] rfl)
  have B77 : ∀ (τ : CS) (x5 : Int32) (x6 : Int32) (H : Heap) (locs : List Loc) (ls : Array Slot) (hf : k_X5_go_b77 x1 x2 x3 x4 τ x5 x6 = some (r, τ')) (hw : zw D A ad (cG cy ad τ) H) (hS : va_S A s.heap H locs) (hl : lv_has ls 7 [(0, .ref (ad (1, 0))), (1, .ref (ad (9, x1))), (2, .ref (ad (8, x2))), (3, .ref (ad (8, x3))), (4, .int x4), (5, .int x5), (6, .int x6)]), W p l e (headSpec (wz yX5_go cX5_go 7 (some .int)) ({ frames := 4, cells := 0, slots := 0, locals := 96 } : Room)).room s m ([.ref (ad (1, 0)), .ref (ad (9, x1)), .ref (ad (8, x2)), .ref (ad (8, x3)), .int x4] : List Value).toArray below meth c H locs 0 0 (MQ below (va_Qi (fun (r' : Int32) (u : CS) => r' = r ∧ u = τ') (CWp D cy A ad) A) ([.ref (ad (1, 0)), .ref (ad (9, x1)), .ref (ad (8, x2)), .ref (ad (8, x3)), .int x4] : List Value).toArray s 0 0 A) (F0 m 77 ls []) := by
    intro τ x5 x6 H locs ls hf hw hS hl
    rw [k_X5_go_b77] at hf
    refine lv_aload_n hx hb dX5_go_77 rfl (lv_at hl 0 rfl) ?_
    refine lv_iload hx hb dX5_go_78 (lv_at hl 6 rfl) ?_
    obtain ⟨g_14, hf⟩ := zg_inv hf
    refine cr_put (v := .int x6) (σ1 := cI τ 108 0 x6) S hK hw hS 1 0 g_14 hX5 tyX5 tyX5_ok nmX5 rfl rfl 8 (by decide) (wz_in (zin11 _ (List.mem_of_getElem? (i := 18) rfl))) rfl rfl rfl rfl (Nat.le_of_ble_eq_true rfl) dX5_go_80 rfl (cput_108 _ _ _ _ _) (cout_108 _ _ _ _ _) (fun H locs hw hS => ?_)
    refine lv_iload hx hb dX5_go_83 (lv_at hl 5 rfl) ?_
    refine lv_if_ne (tgt := 105) hx hb dX5_go_85 (by decide) (fun c_15 => ?_) (fun c_15 => ?_)
    · have hf := (zi_f c_15).symm.trans hf
      exact B105 _ x5 x6 _ _ _ hf hw hS (lv_sub hl [0, 1, 2, 3, 4, 5, 6] rfl)
    · have hf := (zi_t c_15).symm.trans hf
      refine lv_aload_n hx hb dX5_go_88 rfl (lv_at hl 0 rfl) ?_
      refine cr_get (v := .int (ci (cI τ 108 0 x6) 107 0)) S hK hw 1 0 g_14 hX5 rfl rfl 7 (by decide) (wz_in (zin11 _ (List.mem_of_getElem? (i := 15) rfl))) rfl rfl dX5_go_89 ?_
      refine lv_aload_n hx hb dX5_go_92 rfl (lv_at hl 0 rfl) ?_
      refine cr_get (v := .ref (ad (9, cr (cI τ 108 0 x6) 3))) S hK hw 1 0 g_14 hX5 rfl rfl 3 (by decide) (wz_in (zin3 _ (List.mem_of_getElem? (i := 3) rfl))) rfl rfl dX5_go_93 ?_
      obtain ⟨g_16, hf⟩ := zg_inv hf
      refine cr_alen (v := nI (cbl (cI τ 108 0 x6) (cr (cI τ 108 0 x6) 3))) S hK hw 9 (cr (cI τ 108 0 x6) 3) 0 g_16 rfl rfl rfl dX5_go_96 ?_
      refine lv_icmp_ge (tgt := 105) hx hb dX5_go_97 (by decide) (fun c_17 => ?_) (fun c_17 => ?_)
      · have hf := (zi_t c_17).symm.trans hf
        exact B105 _ x5 x6 _ _ _ hf hw hS (lv_sub hl [0, 1, 2, 3, 4, 5, 6] rfl)
      · have hf := (zi_f c_17).symm.trans hf
        refine lv_bipush (v := (7 : Int32)) hx hb dX5_go_100 (by decide) ?_
        refine lv_goto (tgt := 107) hx hb dX5_go_102 (by decide) ?_
        exact B107 _ (7 : Int32) x5 x6 _ _ _ hf hw hS (lv_sub hl [0, 1, 2, 3, 4, 5, 6] rfl)
  have S41 : ∀ (K : CS → Int32 → Int32 → Option (Int32 × CS)) (_hKK : ∀ (τ : CS) (x5 : Int32) (x6 : Int32) (H : Heap) (locs : List Loc) (ls : Array Slot) (hf : K τ x5 x6 = some (r, τ')) (hw : zw D A ad (cG cy ad τ) H) (hS : va_S A s.heap H locs) (hl : lv_has ls 7 [(0, .ref (ad (1, 0))), (1, .ref (ad (9, x1))), (2, .ref (ad (8, x2))), (3, .ref (ad (8, x3))), (4, .int x4), (5, .int x5), (6, .int x6)]), W p l e (headSpec (wz yX5_go cX5_go 7 (some .int)) ({ frames := 4, cells := 0, slots := 0, locals := 96 } : Room)).room s m ([.ref (ad (1, 0)), .ref (ad (9, x1)), .ref (ad (8, x2)), .ref (ad (8, x3)), .int x4] : List Value).toArray below meth c H locs 0 0 (MQ below (va_Qi (fun (r' : Int32) (u : CS) => r' = r ∧ u = τ') (CWp D cy A ad) A) ([.ref (ad (1, 0)), .ref (ad (9, x1)), .ref (ad (8, x2)), .ref (ad (8, x3)), .int x4] : List Value).toArray s 0 0 A) (F0 m 41 ls [])) (τ : CS) (x5 : Int32) (x6 : Int32) (H : Heap) (locs : List Loc) (ls : Array Slot) (hf : k_X5_go_s41 x1 x2 x3 x4 K τ x5 x6 = some (r, τ')) (hw : zw D A ad (cG cy ad τ) H) (hS : va_S A s.heap H locs) (hl : lv_has ls 7 [(0, .ref (ad (1, 0))), (1, .ref (ad (9, x1))), (2, .ref (ad (8, x2))), (3, .ref (ad (8, x3))), (4, .int x4), (5, .int x5), (6, .int x6)]), W p l e (headSpec (wz yX5_go cX5_go 7 (some .int)) ({ frames := 4, cells := 0, slots := 0, locals := 96 } : Room)).room s m ([.ref (ad (1, 0)), .ref (ad (9, x1)), .ref (ad (8, x2)), .ref (ad (8, x3)), .int x4] : List Value).toArray below meth c H locs 0 0 (MQ below (va_Qi (fun (r' : Int32) (u : CS) => r' = r ∧ u = τ') (CWp D cy A ad) A) ([.ref (ad (1, 0)), .ref (ad (9, x1)), .ref (ad (8, x2)), .ref (ad (8, x3)), .int x4] : List Value).toArray s 0 0 A) (F0 m 41 ls []) := by
    intro K hKK τ x5 x6 H locs ls hf hw hS hl
    rw [k_X5_go_s41] at hf
    refine lv_iload hx hb dX5_go_41 (lv_at hl 5 rfl) ?_
    refine lv_if_ne (tgt := 77) hx hb dX5_go_43 (by decide) (fun c_18 => ?_) (fun c_18 => ?_)
    · have hf := (zi_f c_18).symm.trans hf
      exact B77 _ x5 x6 _ _ _ hf hw hS (lv_sub hl [0, 1, 2, 3, 4, 5, 6] rfl)
    · have hf := (zi_t c_18).symm.trans hf
      refine lv_aload_n hx hb dX5_go_46 rfl (lv_at hl 0 rfl) ?_
      obtain ⟨g_19, hf⟩ := zg_inv hf
      refine cr_get (v := .int (ci τ 107 0)) S hK hw 1 0 g_19 hX5 rfl rfl 7 (by decide) (wz_in (zin11 _ (List.mem_of_getElem? (i := 15) rfl))) rfl rfl dX5_go_47 ?_
      refine lv_aload_n hx hb dX5_go_50 rfl (lv_at hl 0 rfl) ?_
      refine cr_get (v := .ref (ad (9, cr τ 3))) S hK hw 1 0 g_19 hX5 rfl rfl 3 (by decide) (wz_in (zin3 _ (List.mem_of_getElem? (i := 3) rfl))) rfl rfl dX5_go_51 ?_
      obtain ⟨g_20, hf⟩ := zg_inv hf
      refine cr_alen (v := nI (cbl τ (cr τ 3))) S hK hw 9 (cr τ 3) 0 g_20 rfl rfl rfl dX5_go_54 ?_
      refine lv_icmp_ge (tgt := 77) hx hb dX5_go_55 (by decide) (fun c_21 => ?_) (fun c_21 => ?_)
      · have hf := (zi_t c_21).symm.trans hf
        exact B77 _ x5 x6 _ _ _ hf hw hS (lv_sub hl [0, 1, 2, 3, 4, 5, 6] rfl)
      · have hf := (zi_f c_21).symm.trans hf
        refine lv_iload hx hb dX5_go_58 (lv_at hl 6 rfl) ?_
        refine lv_iload hx hb dX5_go_60 (lv_at hl 4 rfl) ?_
        refine lv_icmp_ge (tgt := 77) hx hb dX5_go_62 (by decide) (fun c_22 => ?_) (fun c_22 => ?_)
        · have hf := (zi_t c_22).symm.trans hf
          exact B77 _ x5 x6 _ _ _ hf hw hS (lv_sub hl [0, 1, 2, 3, 4, 5, 6] rfl)
        · have hf := (zi_f c_22).symm.trans hf
          refine lv_iinc (v := x6 + (1 : Int32)) (lv' := [(6, .int (x6 + (1 : Int32))), (0, .ref (ad (1, 0))), (1, .ref (ad (9, x1))), (2, .ref (ad (8, x2))), (3, .ref (ad (8, x3))), (4, .int x4), (5, .int x5)]) hx hb dX5_go_65 hl (k := 6) rfl rfl (by decide) rfl (fun ls hl => ?_)
          refine lv_aload_n hx hb dX5_go_68 rfl (lv_at hl 1 rfl) ?_
          obtain ⟨r_23, t_24, e_25, hf⟩ := zb_inv hf
          refine cw_fi (va_runV (As := []) (rest := []) S (kc_X5_step l D cy A ad en tI tS _ _ _ e_25) (cwV 0 hts (wz_V (zin11 _ (List.mem_of_getElem? (i := 22) rfl)) (zin11 _ (List.mem_of_getElem? (i := 19) rfl)) (zin11 _ (List.mem_of_getElem? (i := 20) rfl)) (zin11 _ (List.mem_of_getElem? (i := 21) rfl)) (zin2 _ (List.mem_of_getElem? (i := 11) rfl))) rfl rfl rfl (by decide +kernel) ⟨Nat.le_of_ble_eq_true rfl, Nat.le_of_ble_eq_true rfl⟩) ⟨cw_blind _, zw_recv hK hw (g := (1, 0)) (cG_at g_19) rfl, cw_pre hC hw hS _⟩ rfl rfl hl.1 rfl (lv_room (Nat.le_of_ble_eq_true rfl)) dX5_go_69 ⟨Nat.zero_le _, Nat.zero_le _⟩) hS (fun H locs hw hS => ?_)
          refine lv_istore (lv' := [(5, .int r_23), (6, .int (x6 + (1 : Int32))), (0, .ref (ad (1, 0))), (1, .ref (ad (9, x1))), (2, .ref (ad (8, x2))), (3, .ref (ad (8, x3))), (4, .int x4)]) hx hb dX5_go_72 hl (by decide) rfl (fun ls hl => ?_)
          refine lv_goto (tgt := 41) hx hb dX5_go_74 (by decide) ?_
          exact hKK _ r_23 (x6 + (1 : Int32)) _ _ _ hf hw hS (lv_sub hl [2, 3, 4, 5, 6, 0, 1] rfl)
  have L41 : ∀ (n : Nat) (τ : CS) (x5 : Int32) (x6 : Int32) (H : Heap) (locs : List Loc) (ls : Array Slot) (hf : k_X5_go_l41 x1 x2 x3 x4 n τ x5 x6 = some (r, τ')) (hw : zw D A ad (cG cy ad τ) H) (hS : va_S A s.heap H locs) (hl : lv_has ls 7 [(0, .ref (ad (1, 0))), (1, .ref (ad (9, x1))), (2, .ref (ad (8, x2))), (3, .ref (ad (8, x3))), (4, .int x4), (5, .int x5), (6, .int x6)]), W p l e (headSpec (wz yX5_go cX5_go 7 (some .int)) ({ frames := 4, cells := 0, slots := 0, locals := 96 } : Room)).room s m ([.ref (ad (1, 0)), .ref (ad (9, x1)), .ref (ad (8, x2)), .ref (ad (8, x3)), .int x4] : List Value).toArray below meth c H locs 0 0 (MQ below (va_Qi (fun (r' : Int32) (u : CS) => r' = r ∧ u = τ') (CWp D cy A ad) A) ([.ref (ad (1, 0)), .ref (ad (9, x1)), .ref (ad (8, x2)), .ref (ad (8, x3)), .int x4] : List Value).toArray s 0 0 A) (F0 m 41 ls []) := by
    intro n
    induction n with
    | zero =>
      intro τ x5 x6 H locs ls hf hw hS hl
      rw [k_X5_go_l41_z] at hf
      cases hf
    | succ n ih =>
      intro τ x5 x6 H locs ls hf hw hS hl
      rw [k_X5_go_l41_s] at hf
      exact S41 (k_X5_go_l41 x1 x2 x3 x4 n) ih τ x5 x6 H locs ls hf hw hS hl
  rw [k_X5_go] at hf
  refine lv_aload_n hx hb dX5_go_0 rfl (lv_at hl 0 rfl) ?_
  refine lv_aload_n hx hb dX5_go_1 rfl (lv_at hl 1 rfl) ?_
  obtain ⟨g_26, hf⟩ := zg_inv hf
  refine cr_put (v := .ref (ad (9, x1))) (σ1 := cR τ 3 x1) S hK hw hS 1 0 g_26 hX5 tyX5 tyX5_ok nmX5 rfl rfl 3 (by decide) (wz_in (zin3 _ (List.mem_of_getElem? (i := 3) rfl))) rfl rfl rfl rfl (Nat.le_of_ble_eq_true rfl) dX5_go_2 rfl (cputR_3 _ _ _ _) (coutR_3 _ _ _ _) (fun H locs hw hS => ?_)
  refine lv_aload_n hx hb dX5_go_5 rfl (lv_at hl 0 rfl) ?_
  refine lv_aload_n hx hb dX5_go_6 rfl (lv_at hl 2 rfl) ?_
  refine cr_put (v := .ref (ad (8, x2))) (σ1 := cR (cR τ 3 x1) 4 x2) S hK hw hS 1 0 g_26 hX5 tyX5 tyX5_ok nmX5 rfl rfl 4 (by decide) (wz_in (zin3 _ (List.mem_of_getElem? (i := 4) rfl))) rfl rfl rfl rfl (Nat.le_of_ble_eq_true rfl) dX5_go_7 rfl (cputR_4 _ _ _ _) (coutR_4 _ _ _ _) (fun H locs hw hS => ?_)
  refine lv_aload_n hx hb dX5_go_10 rfl (lv_at hl 0 rfl) ?_
  refine lv_aload_n hx hb dX5_go_11 rfl (lv_at hl 3 rfl) ?_
  refine cr_put (v := .ref (ad (8, x3))) (σ1 := cR (cR (cR τ 3 x1) 4 x2) 5 x3) S hK hw hS 1 0 g_26 hX5 tyX5 tyX5_ok nmX5 rfl rfl 5 (by decide) (wz_in (zin3 _ (List.mem_of_getElem? (i := 5) rfl))) rfl rfl rfl rfl (Nat.le_of_ble_eq_true rfl) dX5_go_12 rfl (cputR_5 _ _ _ _) (coutR_5 _ _ _ _) (fun H locs hw hS => ?_)
  refine lv_aload_n hx hb dX5_go_15 rfl (lv_at hl 0 rfl) ?_
  refine lv_iconst (v := (0 : Int32)) hx hb dX5_go_16 (by decide) ?_
  refine cr_put (v := .int (0 : Int32)) (σ1 := cI (cR (cR (cR τ 3 x1) 4 x2) 5 x3) 106 0 (0 : Int32)) S hK hw hS 1 0 g_26 hX5 tyX5 tyX5_ok nmX5 rfl rfl 6 (by decide) (wz_in (zin11 _ (List.mem_of_getElem? (i := 14) rfl))) rfl rfl rfl rfl (Nat.le_of_ble_eq_true rfl) dX5_go_17 rfl (cput_106 _ _ _ _ _) (cout_106 _ _ _ _ _) (fun H locs hw hS => ?_)
  refine lv_aload_n hx hb dX5_go_20 rfl (lv_at hl 0 rfl) ?_
  refine lv_iconst (v := (0 : Int32)) hx hb dX5_go_21 (by decide) ?_
  refine cr_put (v := .int (0 : Int32)) (σ1 := cI (cI (cR (cR (cR τ 3 x1) 4 x2) 5 x3) 106 0 (0 : Int32)) 107 0 (0 : Int32)) S hK hw hS 1 0 g_26 hX5 tyX5 tyX5_ok nmX5 rfl rfl 7 (by decide) (wz_in (zin11 _ (List.mem_of_getElem? (i := 15) rfl))) rfl rfl rfl rfl (Nat.le_of_ble_eq_true rfl) dX5_go_22 rfl (cput_107 _ _ _ _ _) (cout_107 _ _ _ _ _) (fun H locs hw hS => ?_)
  refine lv_aload_n hx hb dX5_go_25 rfl (lv_at hl 0 rfl) ?_
  refine lv_iconst (v := (0 : Int32)) hx hb dX5_go_26 (by decide) ?_
  refine cr_put (v := .int (0 : Int32)) (σ1 := cI (cI (cI (cR (cR (cR τ 3 x1) 4 x2) 5 x3) 106 0 (0 : Int32)) 107 0 (0 : Int32)) 109 0 (0 : Int32)) S hK hw hS 1 0 g_26 hX5 tyX5 tyX5_ok nmX5 rfl rfl 9 (by decide) (wz_in (zin11 _ (List.mem_of_getElem? (i := 16) rfl))) rfl rfl rfl rfl (Nat.le_of_ble_eq_true rfl) dX5_go_27 rfl (cput_109 _ _ _ _ _) (cout_109 _ _ _ _ _) (fun H locs hw hS => ?_)
  refine lv_aload_n hx hb dX5_go_30 rfl (lv_at hl 0 rfl) ?_
  refine lv_iconst (v := (-1 : Int32)) hx hb dX5_go_31 (by decide) ?_
  refine cr_put (v := .int (-1 : Int32)) (σ1 := cI (cI (cI (cI (cR (cR (cR τ 3 x1) 4 x2) 5 x3) 106 0 (0 : Int32)) 107 0 (0 : Int32)) 109 0 (0 : Int32)) 110 0 (-1 : Int32)) S hK hw hS 1 0 g_26 hX5 tyX5 tyX5_ok nmX5 rfl rfl 10 (by decide) (wz_in (zin11 _ (List.mem_of_getElem? (i := 17) rfl))) rfl rfl rfl rfl (Nat.le_of_ble_eq_true rfl) dX5_go_32 rfl (cput_110 _ _ _ _ _) (cout_110 _ _ _ _ _) (fun H locs hw hS => ?_)
  refine lv_iconst (v := (0 : Int32)) hx hb dX5_go_35 (by decide) ?_
  refine lv_istore (lv' := [(5, .int (0 : Int32)), (0, .ref (ad (1, 0))), (1, .ref (ad (9, x1))), (2, .ref (ad (8, x2))), (3, .ref (ad (8, x3))), (4, .int x4)]) hx hb dX5_go_36 hl (by decide) rfl (fun ls hl => ?_)
  refine lv_iconst (v := (0 : Int32)) hx hb dX5_go_38 (by decide) ?_
  refine lv_istore (lv' := [(6, .int (0 : Int32)), (5, .int (0 : Int32)), (0, .ref (ad (1, 0))), (1, .ref (ad (9, x1))), (2, .ref (ad (8, x2))), (3, .ref (ad (8, x3))), (4, .int x4)]) hx hb dX5_go_39 hl (by decide) rfl (fun ls hl => ?_)
  exact L41 FU _ (0 : Int32) (0 : Int32) _ _ _ hf hw hS (lv_sub hl [2, 3, 4, 5, 6, 1, 0] rfl)
noncomputable def k_X5_goOnCopies (τ : CS) (x1 : Nat) (x2 : Nat) (x3 : Nat) (x4 : Int32) : Option (Int32 × CS) := zg (cv τ 1 0 = true) (zb (k_X6_copyNumbers τ x2 1) (fun _ t_15 => zg (cv t_15 1 0 = true) (zb (k_X6_copyNumbers t_15 x3 2) (fun _ t_19 => zg (cv t_19 1 0 = true) (zb (k_X5_go t_19 x1 1 2 x4) (fun r_22 t_23 => some (r_22, t_23)))))))
set_option maxHeartbeats 4000000 in
set_option maxRecDepth 100000 in
theorem kc_X5_goOnCopies (l : Launch) (D : va_G) (cy : Nat → ClassId) (A : Nat → Prop) (ad : Nat × Nat → Nat) (en : Nat → Nat) (tI tS : Nat) (τ τ' : CS) (x1 : Nat) (x2 : Nat) (x3 : Nat) (x4 : Int32) (r : Int32) (hf : k_X5_goOnCopies τ x1 x2 x3 x4 = some (r, τ')) : Met l yX5_goOnCopies (wz yX5_goOnCopies cX5_goOnCopies 5 (some .int)) ({ frames := 5, cells := 0, slots := 0, locals := 122 } : Room) (va_Pc [.ref (ad (1, 0)), .ref (ad (9, x1)), .ref (ad (8, x2)), .ref (ad (8, x3)), .int x4] (CWs D cy A ad en tI tS τ)) (va_Qi (fun (r' : Int32) (u : CS) => r' = r ∧ u = τ') (CWp D cy A ad) A) 0 0 A := by
  refine Met.ofW (cc := cX5_goOnCopies) (maxL := 5) (ret := (some .int)) (by decide) rfl ?_
  intro p e s m args below meth c s₁ B hml hv
  obtain ⟨rfl, hw, hC⟩ := hv
  have hK := hC.1
  have hN := hC.2.1
  have hx := B.exec
  have hb := B.bytes
  have hr := B.returns
  have hts := atoms_spec (ws := (wz yX5_goOnCopies cX5_goOnCopies 5 (some .int))) B.pre
  have hown : s.vm.findClass RX5 = some m.cls := findClass_of_methodNamed B.named
  have hlocks := B.notSynchronized
  have S : CallFix p m c cX5_goOnCopies 5 s ([.ref (ad (1, 0)), .ref (ad (9, x1)), .ref (ad (8, x2)), .ref (ad (8, x3)), .int x4] : List Value).toArray (wz yX5_goOnCopies cX5_goOnCopies 5 (some .int)) RX5 := ⟨hx, hb, hml, hown, hts⟩
  have hX1 : ∀ w ∈ wsX10, w ∈ (wz yX5_goOnCopies cX5_goOnCopies 5 (some .int)) := fun w h => wz_in (inlX1 w h)
  have hX2 : ∀ w ∈ wsX20, w ∈ (wz yX5_goOnCopies cX5_goOnCopies 5 (some .int)) := fun w h => wz_in (inlX2 w h)
  have hX4 : ∀ w ∈ wsX40, w ∈ (wz yX5_goOnCopies cX5_goOnCopies 5 (some .int)) := fun w h => wz_in (inlX4 w h)
  have hX5 : ∀ w ∈ wsX50, w ∈ (wz yX5_goOnCopies cX5_goOnCopies 5 (some .int)) := fun w h => wz_in (inlX5 w h)
  have hX6 : ∀ w ∈ wsX60, w ∈ (wz yX5_goOnCopies cX5_goOnCopies 5 (some .int)) := fun w h => wz_in (inlX6 w h)
  have hS : va_S A s.heap s.heap [] := va_S.rf
  have hl := lv_entry ([.ref (ad (1, 0)), .ref (ad (9, x1)), .ref (ad (8, x2)), .ref (ad (8, x3)), .int x4]) (n := 5) (Nat.le_of_ble_eq_true rfl)
  rw [lg_entry_eq]
  generalize (lg_sl ([.ref (ad (1, 0)), .ref (ad (9, x1)), .ref (ad (8, x2)), .ref (ad (8, x3)), .int x4]) ++ List.replicate (5 - (lg_sl ([.ref (ad (1, 0)), .ref (ad (9, x1)), .ref (ad (8, x2)), .ref (ad (8, x3)), .int x4])).length) Slot.unset).toArray = ls at hl ⊢
  have hl : lv_has ls 5 [(0, .ref (ad (1, 0))), (1, .ref (ad (9, x1))), (2, .ref (ad (8, x2))), (3, .ref (ad (8, x3))), (4, .int x4)] := hl
  rw [k_X5_goOnCopies] at hf
  refine lv_aload_n hx hb dX5_goOnCopies_0 rfl (lv_at hl 2 rfl) ?_
  refine lv_aload_n hx hb dX5_goOnCopies_1 rfl (lv_at hl 0 rfl) ?_
  obtain ⟨g_13, hf⟩ := zg_inv hf
  refine cr_get (v := .ref (ad (8, 1))) S hK hw 1 0 g_13 hX5 rfl rfl 1 (by decide) (wz_in (zin3 _ (List.mem_of_getElem? (i := 1) rfl))) rfl rfl dX5_goOnCopies_2 ?_
  obtain ⟨⟨⟩, t_15, e_16, hf⟩ := zb_inv hf
  refine cw_fv (va_runSN (As := [.ref (ad (8, x2)), .ref (ad (8, 1))]) (rest := []) S (kc_X6_copyNumbers l D cy A ad en tI tS _ _ x2 1 e_16) ⟨va_cnB 2 hts (wz_gd (zin15 _ (List.mem_of_getElem? (i := 13) rfl))) rfl rfl rfl (hN.2 _ (List.mem_of_getElem? (i := 11) rfl)) (hts _ (wz_in (zin1 _ (List.mem_of_getElem? (i := 2) rfl)))) (by decide +kernel) ⟨Nat.le_of_ble_eq_true rfl, Nat.le_of_ble_eq_true rfl⟩, hts _ (wz_in (zin15 _ (List.mem_of_getElem? (i := 12) rfl))), trivial⟩ ⟨cw_blind _, cw_pre hC hw hS _⟩ rfl rfl hl.1 rfl (lv_room (Nat.le_of_ble_eq_true rfl)) dX5_goOnCopies_5 ⟨Nat.zero_le _, Nat.zero_le _⟩) hS (fun H locs hw hS => ?_)
  refine lv_aload_n hx hb dX5_goOnCopies_8 rfl (lv_at hl 3 rfl) ?_
  refine lv_aload_n hx hb dX5_goOnCopies_9 rfl (lv_at hl 0 rfl) ?_
  obtain ⟨g_17, hf⟩ := zg_inv hf
  refine cr_get (v := .ref (ad (8, 2))) S hK hw 1 0 g_17 hX5 rfl rfl 2 (by decide) (wz_in (zin3 _ (List.mem_of_getElem? (i := 2) rfl))) rfl rfl dX5_goOnCopies_10 ?_
  obtain ⟨⟨⟩, t_19, e_20, hf⟩ := zb_inv hf
  refine cw_fv (va_runSN (As := [.ref (ad (8, x3)), .ref (ad (8, 2))]) (rest := []) S (kc_X6_copyNumbers l D cy A ad en tI tS _ _ x3 2 e_20) ⟨va_cnB 2 hts (wz_gd (zin15 _ (List.mem_of_getElem? (i := 13) rfl))) rfl rfl rfl (hN.2 _ (List.mem_of_getElem? (i := 11) rfl)) (hts _ (wz_in (zin1 _ (List.mem_of_getElem? (i := 2) rfl)))) (by decide +kernel) ⟨Nat.le_of_ble_eq_true rfl, Nat.le_of_ble_eq_true rfl⟩, hts _ (wz_in (zin15 _ (List.mem_of_getElem? (i := 12) rfl))), trivial⟩ ⟨cw_blind _, cw_pre hC hw hS _⟩ rfl rfl hl.1 rfl (lv_room (Nat.le_of_ble_eq_true rfl)) dX5_goOnCopies_13 ⟨Nat.zero_le _, Nat.zero_le _⟩) hS (fun H locs hw hS => ?_)
  refine lv_aload_n hx hb dX5_goOnCopies_16 rfl (lv_at hl 0 rfl) ?_
  refine lv_aload_n hx hb dX5_goOnCopies_17 rfl (lv_at hl 1 rfl) ?_
  refine lv_aload_n hx hb dX5_goOnCopies_18 rfl (lv_at hl 0 rfl) ?_
  obtain ⟨g_21, hf⟩ := zg_inv hf
  refine cr_get (v := .ref (ad (8, 1))) S hK hw 1 0 g_21 hX5 rfl rfl 1 (by decide) (wz_in (zin3 _ (List.mem_of_getElem? (i := 1) rfl))) rfl rfl dX5_goOnCopies_19 ?_
  refine lv_aload_n hx hb dX5_goOnCopies_22 rfl (lv_at hl 0 rfl) ?_
  refine cr_get (v := .ref (ad (8, 2))) S hK hw 1 0 g_21 hX5 rfl rfl 2 (by decide) (wz_in (zin3 _ (List.mem_of_getElem? (i := 2) rfl))) rfl rfl dX5_goOnCopies_23 ?_
  refine lv_iload hx hb dX5_goOnCopies_26 (lv_at hl 4 rfl) ?_
  obtain ⟨r_22, t_23, e_24, hf⟩ := zb_inv hf
  refine cw_fi (va_runV (As := [.ref (ad (9, x1)), .ref (ad (8, 1)), .ref (ad (8, 2)), .int x4]) (rest := []) S (kc_X5_go l D cy A ad en tI tS _ _ x1 1 2 x4 _ e_24) (cwV 4 hts (wz_V (zin11 _ (List.mem_of_getElem? (i := 13) rfl)) (zin15 _ (List.mem_of_getElem? (i := 14) rfl)) (zin11 _ (List.mem_of_getElem? (i := 11) rfl)) (zin11 _ (List.mem_of_getElem? (i := 12) rfl)) (zin2 _ (List.mem_of_getElem? (i := 11) rfl))) rfl rfl rfl (by decide +kernel) ⟨Nat.le_of_ble_eq_true rfl, Nat.le_of_ble_eq_true rfl⟩) ⟨cw_blind _, zw_recv hK hw (g := (1, 0)) (cG_at g_21) rfl, cw_pre hC hw hS _⟩ rfl rfl hl.1 rfl (lv_room (Nat.le_of_ble_eq_true rfl)) dX5_goOnCopies_28 ⟨Nat.zero_le _, Nat.zero_le _⟩) hS (fun H locs hw hS => ?_)
  exact cw_reti S hr hf hw hS hlocks dX5_goOnCopies_31
