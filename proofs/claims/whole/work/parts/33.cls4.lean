noncomputable def k_X6_call_b93 (x1 : Nat) (x2 : Nat) (x3 : Int32) (x4 : Nat) (τ : CS) (x5 : Int32) : Option (Int32 × CS) := some (x5, τ)
noncomputable def k_X6_call_b45 (x1 : Nat) (x2 : Nat) (x3 : Int32) (x4 : Nat) (τ : CS) (x5 : Int32) : Option (Int32 × CS) := zi (x5 = 0) (k_X6_call_b93 x1 x2 x3 x4 τ x5) (zg (cv τ 4 x1 = true) (zg (cv τ 0 0 = true) (zg (cv τ 1 0 = true) (k_X6_call_b93 x1 x2 x3 x4 (cI (cI (cI (cI (cI τ 404 x1 x5) 405 x1 x3) 406 x1 (ci (cI (cI τ 404 x1 x5) 405 x1 x3) 108 0)) 407 x1 (ci (cI (cI (cI τ 404 x1 x5) 405 x1 x3) 406 x1 (ci (cI (cI τ 404 x1 x5) 405 x1 x3) 108 0)) 109 0)) 408 x1 ((ci (cI (cI (cI (cI τ 404 x1 x5) 405 x1 x3) 406 x1 (ci (cI (cI τ 404 x1 x5) 405 x1 x3) 108 0)) 407 x1 (ci (cI (cI (cI τ 404 x1 x5) 405 x1 x3) 406 x1 (ci (cI (cI τ 404 x1 x5) 405 x1 x3) 108 0)) 109 0)) 408 x1) + (1 : Int32))) x5))))
noncomputable def k_X6_call (τ : CS) (x1 : Nat) (x2 : Nat) (x3 : Int32) (x4 : Nat) : Option (Int32 × CS) := zg (cv τ 0 0 = true) (zg (cv τ 4 x1 = true) (zg (cv τ 6 x2 = true) (zg (cv τ 1 0 = true) (zb (k_X5_go τ x4 (3 + x1) (11 + x2) (ci τ 0 0)) (fun r_23 t_24 => zg (cv t_24 0 0 = true) (zg (cv t_24 1 0 = true) (zi ((ci t_24 110 0) = (-1 : Int32)) (k_X6_call_b45 x1 x2 x3 x4 t_24 r_23) (zg (cv t_24 6 x2 = true) (k_X6_call_b45 x1 x2 x3 x4 (cI t_24 602 x2 (ci t_24 110 0)) r_23)))))))))
set_option maxHeartbeats 4000000 in
set_option maxRecDepth 100000 in
theorem kc_X6_call (l : Launch) (D : va_G) (cy : Nat → ClassId) (A : Nat → Prop) (ad : Nat × Nat → Nat) (en : Nat → Nat) (tI tS : Nat) (τ τ' : CS) (x1 : Nat) (x2 : Nat) (x3 : Int32) (x4 : Nat) (r : Int32) (hf : k_X6_call τ x1 x2 x3 x4 = some (r, τ')) : Met l yX6_call (wz yX6_call cX6_call 6 (some .int)) ({ frames := 5, cells := 0, slots := 0, locals := 122 } : Room) (va_Pc [.ref (ad (0, 0)), .ref (ad (4, x1)), .ref (ad (6, x2)), .int x3, .ref (ad (9, x4))] (CWs D cy A ad en tI tS τ)) (va_Qi (fun (r' : Int32) (u : CS) => r' = r ∧ u = τ') (CWp D cy A ad) A) 0 0 A := by
  refine Met.ofW (cc := cX6_call) (maxL := 6) (ret := (some .int)) (by decide) rfl ?_
  intro p e s m args below meth c s₁ B hml hv
  obtain ⟨rfl, hw, hC⟩ := hv
  have hK := hC.1
  have hN := hC.2.1
  have hx := B.exec
  have hb := B.bytes
  have hr := B.returns
  have hts := atoms_spec (ws := (wz yX6_call cX6_call 6 (some .int))) B.pre
  have hown : s.vm.findClass RX6 = some m.cls := findClass_of_methodNamed B.named
  have hlocks := B.notSynchronized
  have S : CallFix p m c cX6_call 6 s ([.ref (ad (0, 0)), .ref (ad (4, x1)), .ref (ad (6, x2)), .int x3, .ref (ad (9, x4))] : List Value).toArray (wz yX6_call cX6_call 6 (some .int)) RX6 := ⟨hx, hb, hml, hown, hts⟩
  have hX1 : ∀ w ∈ wsX10, w ∈ (wz yX6_call cX6_call 6 (some .int)) := fun w h => wz_in (inlX1 w h)
  have hX2 : ∀ w ∈ wsX20, w ∈ (wz yX6_call cX6_call 6 (some .int)) := fun w h => wz_in (inlX2 w h)
  have hX4 : ∀ w ∈ wsX40, w ∈ (wz yX6_call cX6_call 6 (some .int)) := fun w h => wz_in (inlX4 w h)
  have hX5 : ∀ w ∈ wsX50, w ∈ (wz yX6_call cX6_call 6 (some .int)) := fun w h => wz_in (inlX5 w h)
  have hX6 : ∀ w ∈ wsX60, w ∈ (wz yX6_call cX6_call 6 (some .int)) := fun w h => wz_in (inlX6 w h)
  have hS : va_S A s.heap s.heap [] := va_S.rf
  have hl := lv_entry ([.ref (ad (0, 0)), .ref (ad (4, x1)), .ref (ad (6, x2)), .int x3, .ref (ad (9, x4))]) (n := 6) (Nat.le_of_ble_eq_true rfl)
  rw [lg_entry_eq]
  generalize (lg_sl ([.ref (ad (0, 0)), .ref (ad (4, x1)), .ref (ad (6, x2)), .int x3, .ref (ad (9, x4))]) ++ List.replicate (6 - (lg_sl ([.ref (ad (0, 0)), .ref (ad (4, x1)), .ref (ad (6, x2)), .int x3, .ref (ad (9, x4))])).length) Slot.unset).toArray = ls at hl ⊢
  have hl : lv_has ls 6 [(0, .ref (ad (0, 0))), (1, .ref (ad (4, x1))), (2, .ref (ad (6, x2))), (3, .int x3), (4, .ref (ad (9, x4)))] := hl
  have B93 : ∀ (τ : CS) (x5 : Int32) (H : Heap) (locs : List Loc) (ls : Array Slot) (hf : k_X6_call_b93 x1 x2 x3 x4 τ x5 = some (r, τ')) (hw : zw D A ad (cG cy ad τ) H) (hS : va_S A s.heap H locs) (hl : lv_has ls 6 [(0, .ref (ad (0, 0))), (1, .ref (ad (4, x1))), (2, .ref (ad (6, x2))), (3, .int x3), (4, .ref (ad (9, x4))), (5, .int x5)]), W p l e (headSpec (wz yX6_call cX6_call 6 (some .int)) ({ frames := 5, cells := 0, slots := 0, locals := 122 } : Room)).room s m ([.ref (ad (0, 0)), .ref (ad (4, x1)), .ref (ad (6, x2)), .int x3, .ref (ad (9, x4))] : List Value).toArray below meth c H locs 0 0 (MQ below (va_Qi (fun (r' : Int32) (u : CS) => r' = r ∧ u = τ') (CWp D cy A ad) A) ([.ref (ad (0, 0)), .ref (ad (4, x1)), .ref (ad (6, x2)), .int x3, .ref (ad (9, x4))] : List Value).toArray s 0 0 A) (F0 m 93 ls []) := by
    intro τ x5 H locs ls hf hw hS hl
    rw [k_X6_call_b93] at hf
    refine lv_iload hx hb dX6_call_93 (lv_at hl 5 rfl) ?_
    exact cw_reti S hr hf hw hS hlocks dX6_call_95
  have B45 : ∀ (τ : CS) (x5 : Int32) (H : Heap) (locs : List Loc) (ls : Array Slot) (hf : k_X6_call_b45 x1 x2 x3 x4 τ x5 = some (r, τ')) (hw : zw D A ad (cG cy ad τ) H) (hS : va_S A s.heap H locs) (hl : lv_has ls 6 [(0, .ref (ad (0, 0))), (1, .ref (ad (4, x1))), (2, .ref (ad (6, x2))), (3, .int x3), (4, .ref (ad (9, x4))), (5, .int x5)]), W p l e (headSpec (wz yX6_call cX6_call 6 (some .int)) ({ frames := 5, cells := 0, slots := 0, locals := 122 } : Room)).room s m ([.ref (ad (0, 0)), .ref (ad (4, x1)), .ref (ad (6, x2)), .int x3, .ref (ad (9, x4))] : List Value).toArray below meth c H locs 0 0 (MQ below (va_Qi (fun (r' : Int32) (u : CS) => r' = r ∧ u = τ') (CWp D cy A ad) A) ([.ref (ad (0, 0)), .ref (ad (4, x1)), .ref (ad (6, x2)), .int x3, .ref (ad (9, x4))] : List Value).toArray s 0 0 A) (F0 m 45 ls []) := by
    intro τ x5 H locs ls hf hw hS hl
    rw [k_X6_call_b45] at hf
    refine lv_iload hx hb dX6_call_45 (lv_at hl 5 rfl) ?_
    refine lv_if_eq (tgt := 93) hx hb dX6_call_47 (by decide) (fun c_16 => ?_) (fun c_16 => ?_)
    · have hf := (zi_t c_16).symm.trans hf
      exact B93 _ x5 _ _ _ hf hw hS (lv_sub hl [0, 1, 2, 3, 4, 5] rfl)
    · have hf := (zi_f c_16).symm.trans hf
      refine lv_aload_n hx hb dX6_call_50 rfl (lv_at hl 1 rfl) ?_
      refine lv_iload hx hb dX6_call_51 (lv_at hl 5 rfl) ?_
      obtain ⟨g_17, hf⟩ := zg_inv hf
      refine cr_putN (v := .int x5) (σ1 := cI τ 404 x1 x5) S hK hw hS 4 x1 g_17 hX1 tyX1 tyX1_ok nmX1 rfl rfl 4 (by decide) hN (List.mem_of_getElem? (i := 3) rfl) rfl rfl rfl rfl (Nat.le_of_ble_eq_true rfl) dX6_call_53 rfl (cput_404 _ _ _ _ _) (cout_404 _ _ _ _ _) (fun H locs hw hS => ?_)
      refine lv_aload_n hx hb dX6_call_56 rfl (lv_at hl 1 rfl) ?_
      refine lv_iload_n hx hb dX6_call_57 rfl (lv_at hl 3 rfl) ?_
      refine cr_putN (v := .int x3) (σ1 := cI (cI τ 404 x1 x5) 405 x1 x3) S hK hw hS 4 x1 g_17 hX1 tyX1 tyX1_ok nmX1 rfl rfl 5 (by decide) hN (List.mem_of_getElem? (i := 4) rfl) rfl rfl rfl rfl (Nat.le_of_ble_eq_true rfl) dX6_call_58 rfl (cput_405 _ _ _ _ _) (cout_405 _ _ _ _ _) (fun H locs hw hS => ?_)
      refine lv_aload_n hx hb dX6_call_61 rfl (lv_at hl 1 rfl) ?_
      refine lv_aload_n hx hb dX6_call_62 rfl (lv_at hl 0 rfl) ?_
      obtain ⟨g_18, hf⟩ := zg_inv hf
      refine cr_get (v := .ref (ad (1, 0))) S hK hw 0 0 g_18 hX6 rfl rfl 3 (by decide) (wz_in (zin2 _ (List.mem_of_getElem? (i := 12) rfl))) rfl rfl dX6_call_63 ?_
      obtain ⟨g_19, hf⟩ := zg_inv hf
      refine cr_getN (v := .int (ci (cI (cI τ 404 x1 x5) 405 x1 x3) 108 0)) S hK hw 1 0 g_19 hX5 rfl rfl 8 (by decide) hN (List.mem_of_getElem? (i := 8) rfl) rfl rfl dX6_call_66 ?_
      refine cr_putN (v := .int (ci (cI (cI τ 404 x1 x5) 405 x1 x3) 108 0)) (σ1 := cI (cI (cI τ 404 x1 x5) 405 x1 x3) 406 x1 (ci (cI (cI τ 404 x1 x5) 405 x1 x3) 108 0)) S hK hw hS 4 x1 g_17 hX1 tyX1 tyX1_ok nmX1 rfl rfl 6 (by decide) hN (List.mem_of_getElem? (i := 5) rfl) rfl rfl rfl rfl (Nat.le_of_ble_eq_true rfl) dX6_call_69 rfl (cput_406 _ _ _ _ _) (cout_406 _ _ _ _ _) (fun H locs hw hS => ?_)
      refine lv_aload_n hx hb dX6_call_72 rfl (lv_at hl 1 rfl) ?_
      refine lv_aload_n hx hb dX6_call_73 rfl (lv_at hl 0 rfl) ?_
      refine cr_get (v := .ref (ad (1, 0))) S hK hw 0 0 g_18 hX6 rfl rfl 3 (by decide) (wz_in (zin2 _ (List.mem_of_getElem? (i := 12) rfl))) rfl rfl dX6_call_74 ?_
      refine cr_getN (v := .int (ci (cI (cI (cI τ 404 x1 x5) 405 x1 x3) 406 x1 (ci (cI (cI τ 404 x1 x5) 405 x1 x3) 108 0)) 109 0)) S hK hw 1 0 g_19 hX5 rfl rfl 9 (by decide) hN (List.mem_of_getElem? (i := 9) rfl) rfl rfl dX6_call_77 ?_
      refine cr_putN (v := .int (ci (cI (cI (cI τ 404 x1 x5) 405 x1 x3) 406 x1 (ci (cI (cI τ 404 x1 x5) 405 x1 x3) 108 0)) 109 0)) (σ1 := cI (cI (cI (cI τ 404 x1 x5) 405 x1 x3) 406 x1 (ci (cI (cI τ 404 x1 x5) 405 x1 x3) 108 0)) 407 x1 (ci (cI (cI (cI τ 404 x1 x5) 405 x1 x3) 406 x1 (ci (cI (cI τ 404 x1 x5) 405 x1 x3) 108 0)) 109 0)) S hK hw hS 4 x1 g_17 hX1 tyX1 tyX1_ok nmX1 rfl rfl 7 (by decide) hN (List.mem_of_getElem? (i := 6) rfl) rfl rfl rfl rfl (Nat.le_of_ble_eq_true rfl) dX6_call_80 rfl (cput_407 _ _ _ _ _) (cout_407 _ _ _ _ _) (fun H locs hw hS => ?_)
      refine lv_aload_n hx hb dX6_call_83 rfl (lv_at hl 1 rfl) ?_
      refine lv_dup hx hb dX6_call_84 rfl ?_
      refine cr_getN (v := .int (ci (cI (cI (cI (cI τ 404 x1 x5) 405 x1 x3) 406 x1 (ci (cI (cI τ 404 x1 x5) 405 x1 x3) 108 0)) 407 x1 (ci (cI (cI (cI τ 404 x1 x5) 405 x1 x3) 406 x1 (ci (cI (cI τ 404 x1 x5) 405 x1 x3) 108 0)) 109 0)) 408 x1)) S hK hw 4 x1 g_17 hX1 rfl rfl 8 (by decide) hN (List.mem_of_getElem? (i := 7) rfl) rfl rfl dX6_call_85 ?_
      refine lv_iconst (v := (1 : Int32)) hx hb dX6_call_88 (by decide) ?_
      refine lv_iadd hx hb dX6_call_89 ?_
      refine cr_putN (v := .int ((ci (cI (cI (cI (cI τ 404 x1 x5) 405 x1 x3) 406 x1 (ci (cI (cI τ 404 x1 x5) 405 x1 x3) 108 0)) 407 x1 (ci (cI (cI (cI τ 404 x1 x5) 405 x1 x3) 406 x1 (ci (cI (cI τ 404 x1 x5) 405 x1 x3) 108 0)) 109 0)) 408 x1) + (1 : Int32))) (σ1 := cI (cI (cI (cI (cI τ 404 x1 x5) 405 x1 x3) 406 x1 (ci (cI (cI τ 404 x1 x5) 405 x1 x3) 108 0)) 407 x1 (ci (cI (cI (cI τ 404 x1 x5) 405 x1 x3) 406 x1 (ci (cI (cI τ 404 x1 x5) 405 x1 x3) 108 0)) 109 0)) 408 x1 ((ci (cI (cI (cI (cI τ 404 x1 x5) 405 x1 x3) 406 x1 (ci (cI (cI τ 404 x1 x5) 405 x1 x3) 108 0)) 407 x1 (ci (cI (cI (cI τ 404 x1 x5) 405 x1 x3) 406 x1 (ci (cI (cI τ 404 x1 x5) 405 x1 x3) 108 0)) 109 0)) 408 x1) + (1 : Int32))) S hK hw hS 4 x1 g_17 hX1 tyX1 tyX1_ok nmX1 rfl rfl 8 (by decide) hN (List.mem_of_getElem? (i := 7) rfl) rfl rfl rfl rfl (Nat.le_of_ble_eq_true rfl) dX6_call_90 rfl (cput_408 _ _ _ _ _) (cout_408 _ _ _ _ _) (fun H locs hw hS => ?_)
      exact B93 _ x5 _ _ _ hf hw hS (lv_sub hl [0, 1, 2, 3, 4, 5] rfl)
  rw [k_X6_call] at hf
  refine lv_aload_n hx hb dX6_call_0 rfl (lv_at hl 0 rfl) ?_
  obtain ⟨g_20, hf⟩ := zg_inv hf
  refine cr_get (v := .ref (ad (1, 0))) S hK hw 0 0 g_20 hX6 rfl rfl 3 (by decide) (wz_in (zin2 _ (List.mem_of_getElem? (i := 12) rfl))) rfl rfl dX6_call_1 ?_
  refine lv_aload hx hb dX6_call_4 (lv_at hl 4 rfl) ?_
  refine lv_aload_n hx hb dX6_call_6 rfl (lv_at hl 1 rfl) ?_
  obtain ⟨g_21, hf⟩ := zg_inv hf
  refine cr_getN (v := .ref (ad (8, 3 + x1))) S hK hw 4 x1 g_21 hX1 rfl rfl 0 (by decide) hN (List.mem_of_getElem? (i := 0) rfl) rfl rfl dX6_call_7 ?_
  refine lv_aload_n hx hb dX6_call_10 rfl (lv_at hl 2 rfl) ?_
  obtain ⟨g_22, hf⟩ := zg_inv hf
  refine cr_getN (v := .ref (ad (8, 11 + x2))) S hK hw 6 x2 g_22 hX4 rfl rfl 0 (by decide) hN (List.mem_of_getElem? (i := 15) rfl) rfl rfl dX6_call_11 ?_
  refine lv_aload_n hx hb dX6_call_14 rfl (lv_at hl 0 rfl) ?_
  refine cr_get (v := .int (ci τ 0 0)) S hK hw 0 0 g_20 hX6 rfl rfl 0 (by decide) (wz_in (zin2 _ (List.mem_of_getElem? (i := 2) rfl))) rfl rfl dX6_call_15 ?_
  obtain ⟨g_26, hf⟩ := zg_inv hf
  obtain ⟨r_23, t_24, e_25, hf⟩ := zb_inv hf
  refine cw_fi (va_runVN (As := [.ref (ad (9, x4)), .ref (ad (8, 3 + x1)), .ref (ad (8, 11 + x2)), .int (ci τ 0 0)]) (rest := []) S (kc_X5_go l D cy A ad en tI tS _ _ x4 (3 + x1) (11 + x2) (ci τ 0 0) _ e_25) ⟨va_cnB 4 hts (wz_gd (zin11 _ (List.mem_of_getElem? (i := 13) rfl))) rfl rfl rfl (hN.2 _ (List.mem_of_getElem? (i := 6) rfl)) (hts _ (wz_in (zin2 _ (List.mem_of_getElem? (i := 11) rfl)))) (by decide +kernel) ⟨Nat.le_of_ble_eq_true rfl, Nat.le_of_ble_eq_true rfl⟩, hts _ (wz_in (zin11 _ (List.mem_of_getElem? (i := 11) rfl))), hts _ (wz_in (zin11 _ (List.mem_of_getElem? (i := 12) rfl)))⟩ ⟨cw_blind _, zw_recv hK hw (g := (1, 0)) (cG_at g_26) rfl, cw_pre hC hw hS _⟩ rfl rfl hl.1 rfl (lv_room (Nat.le_of_ble_eq_true rfl)) dX6_call_18 ⟨Nat.zero_le _, Nat.zero_le _⟩) hS (fun H locs hw hS => ?_)
  refine lv_istore (lv' := [(5, .int r_23), (0, .ref (ad (0, 0))), (1, .ref (ad (4, x1))), (2, .ref (ad (6, x2))), (3, .int x3), (4, .ref (ad (9, x4)))]) hx hb dX6_call_21 hl (by decide) rfl (fun ls hl => ?_)
  refine lv_aload_n hx hb dX6_call_23 rfl (lv_at hl 1 rfl) ?_
  obtain ⟨g_27, hf⟩ := zg_inv hf
  refine cr_get (v := .ref (ad (1, 0))) S hK hw 0 0 g_27 hX6 rfl rfl 3 (by decide) (wz_in (zin2 _ (List.mem_of_getElem? (i := 12) rfl))) rfl rfl dX6_call_24 ?_
  obtain ⟨g_28, hf⟩ := zg_inv hf
  refine cr_getN (v := .int (ci t_24 110 0)) S hK hw 1 0 g_28 hX5 rfl rfl 10 (by decide) hN (List.mem_of_getElem? (i := 10) rfl) rfl rfl dX6_call_27 ?_
  refine lv_iconst (v := (-1 : Int32)) hx hb dX6_call_30 (by decide) ?_
  refine lv_icmp_eq (tgt := 45) hx hb dX6_call_31 (by decide) (fun c_29 => ?_) (fun c_29 => ?_)
  · have hf := (zi_t c_29).symm.trans hf
    exact B45 _ r_23 _ _ _ hf hw hS (lv_sub hl [1, 2, 3, 4, 5, 0] rfl)
  · have hf := (zi_f c_29).symm.trans hf
    refine lv_aload_n hx hb dX6_call_34 rfl (lv_at hl 3 rfl) ?_
    refine lv_aload_n hx hb dX6_call_35 rfl (lv_at hl 1 rfl) ?_
    refine cr_get (v := .ref (ad (1, 0))) S hK hw 0 0 g_27 hX6 rfl rfl 3 (by decide) (wz_in (zin2 _ (List.mem_of_getElem? (i := 12) rfl))) rfl rfl dX6_call_36 ?_
    refine cr_getN (v := .int (ci t_24 110 0)) S hK hw 1 0 g_28 hX5 rfl rfl 10 (by decide) hN (List.mem_of_getElem? (i := 10) rfl) rfl rfl dX6_call_39 ?_
    obtain ⟨g_30, hf⟩ := zg_inv hf
    refine cr_putN (v := .int (ci t_24 110 0)) (σ1 := cI t_24 602 x2 (ci t_24 110 0)) S hK hw hS 6 x2 g_30 hX4 tyX4 tyX4_ok nmX4 rfl rfl 2 (by decide) hN (List.mem_of_getElem? (i := 17) rfl) rfl rfl rfl rfl (Nat.le_of_ble_eq_true rfl) dX6_call_42 rfl (cput_602 _ _ _ _ _) (cout_602 _ _ _ _ _) (fun H locs hw hS => ?_)
    exact B45 _ r_23 _ _ _ hf hw hS (lv_sub hl [1, 2, 3, 4, 5, 0] rfl)
noncomputable def k_X6_callStart_b42 (x1 : Nat) (x2 : Int32) (τ : CS) (x3 : Option Nat) (x4 : Option Nat) : Option (Int32 × CS) := some ((0 : Int32), τ)
noncomputable def k_X6_callStart (τ : CS) (x1 : Nat) (x2 : Int32) : Option (Int32 × CS) := zg (cv τ 4 x1 = true) (zb (k_X1_classOf τ x1 x2) (fun r_22 t_23 => zg (cv t_23 0 0 = true) (zb (k_X6_newestOf t_23 x2) (fun r_26 t_27 => zo (r_22) (k_X6_callStart_b42 x1 x2 t_27 r_22 r_26) (fun i_30 => zo (r_26) (k_X6_callStart_b42 x1 x2 t_27 (some i_30) r_26) (fun i_32 => zg (cv t_27 6 i_30 = true) (zg (cv t_27 7 i_32 = true) (zi ((ci t_27 601 i_30) = (ci t_27 700 i_32)) (zo (if cs t_27 i_32 = true then some (3 + 3 * i_32) else none) (k_X6_callStart_b42 x1 x2 t_27 (some i_30) (some i_32)) (fun i_37 => zg (cv t_27 0 0 = true) (zb (k_X6_call t_27 x1 i_30 x2 i_37) (fun r_39 t_40 => some (r_39, t_40))))) (k_X6_callStart_b42 x1 x2 t_27 (some i_30) (some i_32))))))))))
set_option maxHeartbeats 4000000 in
set_option maxRecDepth 100000 in
theorem kc_X6_callStart (l : Launch) (D : va_G) (cy : Nat → ClassId) (A : Nat → Prop) (ad : Nat × Nat → Nat) (en : Nat → Nat) (tI tS : Nat) (τ τ' : CS) (x1 : Nat) (x2 : Int32) (r : Int32) (hf : k_X6_callStart τ x1 x2 = some (r, τ')) : Met l yX6_callStart (wz yX6_callStart cX6_callStart 5 (some .int)) ({ frames := 6, cells := 0, slots := 0, locals := 147 } : Room) (va_Pc [.ref (ad (0, 0)), .ref (ad (4, x1)), .int x2] (CWs D cy A ad en tI tS τ)) (va_Qi (fun (r' : Int32) (u : CS) => r' = r ∧ u = τ') (CWp D cy A ad) A) 0 0 A := by
  refine Met.ofW (cc := cX6_callStart) (maxL := 5) (ret := (some .int)) (by decide) rfl ?_
  intro p e s m args below meth c s₁ B hml hv
  obtain ⟨rfl, hw, hC⟩ := hv
  have hK := hC.1
  have hN := hC.2.1
  have hx := B.exec
  have hb := B.bytes
  have hr := B.returns
  have hts := atoms_spec (ws := (wz yX6_callStart cX6_callStart 5 (some .int))) B.pre
  have hown : s.vm.findClass RX6 = some m.cls := findClass_of_methodNamed B.named
  have hlocks := B.notSynchronized
  have S : CallFix p m c cX6_callStart 5 s ([.ref (ad (0, 0)), .ref (ad (4, x1)), .int x2] : List Value).toArray (wz yX6_callStart cX6_callStart 5 (some .int)) RX6 := ⟨hx, hb, hml, hown, hts⟩
  have hX1 : ∀ w ∈ wsX10, w ∈ (wz yX6_callStart cX6_callStart 5 (some .int)) := fun w h => wz_in (inlX1 w h)
  have hX2 : ∀ w ∈ wsX20, w ∈ (wz yX6_callStart cX6_callStart 5 (some .int)) := fun w h => wz_in (inlX2 w h)
  have hX4 : ∀ w ∈ wsX40, w ∈ (wz yX6_callStart cX6_callStart 5 (some .int)) := fun w h => wz_in (inlX4 w h)
  have hX5 : ∀ w ∈ wsX50, w ∈ (wz yX6_callStart cX6_callStart 5 (some .int)) := fun w h => wz_in (inlX5 w h)
  have hX6 : ∀ w ∈ wsX60, w ∈ (wz yX6_callStart cX6_callStart 5 (some .int)) := fun w h => wz_in (inlX6 w h)
  have hS : va_S A s.heap s.heap [] := va_S.rf
  have hl := lv_entry ([.ref (ad (0, 0)), .ref (ad (4, x1)), .int x2]) (n := 5) (Nat.le_of_ble_eq_true rfl)
  rw [lg_entry_eq]
  generalize (lg_sl ([.ref (ad (0, 0)), .ref (ad (4, x1)), .int x2]) ++ List.replicate (5 - (lg_sl ([.ref (ad (0, 0)), .ref (ad (4, x1)), .int x2])).length) Slot.unset).toArray = ls at hl ⊢
  have hl : lv_has ls 5 [(0, .ref (ad (0, 0))), (1, .ref (ad (4, x1))), (2, .int x2)] := hl
  have B42 : ∀ (τ : CS) (x3 : Option Nat) (x4 : Option Nat) (H : Heap) (locs : List Loc) (ls : Array Slot) (hf : k_X6_callStart_b42 x1 x2 τ x3 x4 = some (r, τ')) (hw : zw D A ad (cG cy ad τ) H) (hS : va_S A s.heap H locs) (hl : lv_has ls 5 [(0, .ref (ad (0, 0))), (1, .ref (ad (4, x1))), (2, .int x2), (3, rn ad 6 x3), (4, rn ad 7 x4)]), W p l e (headSpec (wz yX6_callStart cX6_callStart 5 (some .int)) ({ frames := 6, cells := 0, slots := 0, locals := 147 } : Room)).room s m ([.ref (ad (0, 0)), .ref (ad (4, x1)), .int x2] : List Value).toArray below meth c H locs 0 0 (MQ below (va_Qi (fun (r' : Int32) (u : CS) => r' = r ∧ u = τ') (CWp D cy A ad) A) ([.ref (ad (0, 0)), .ref (ad (4, x1)), .int x2] : List Value).toArray s 0 0 A) (F0 m 42 ls []) := by
    intro τ x3 x4 H locs ls hf hw hS hl
    rw [k_X6_callStart_b42] at hf
    refine lv_iconst (v := (0 : Int32)) hx hb dX6_callStart_42 (by decide) ?_
    exact cw_reti S hr hf hw hS hlocks dX6_callStart_43
  rw [k_X6_callStart] at hf
  refine lv_aload_n hx hb dX6_callStart_0 rfl (lv_at hl 1 rfl) ?_
  refine lv_iload_n hx hb dX6_callStart_1 rfl (lv_at hl 2 rfl) ?_
  obtain ⟨g_25, hf⟩ := zg_inv hf
  obtain ⟨r_22, t_23, e_24, hf⟩ := zb_inv hf
  refine cw_fq (kd := 6) (va_runVN (As := [.int x2]) (rest := []) S (kc_X1_classOf l D cy A ad en tI tS _ _ x1 x2 _ e_24) ⟨va_cnB 1 hts (wz_gd (zin9 _ (List.mem_of_getElem? (i := 18) rfl))) rfl rfl rfl (hN.2 _ (List.mem_of_getElem? (i := 3) rfl)) (hts _ (wz_in (zin2 _ (List.mem_of_getElem? (i := 6) rfl)))) (by decide +kernel) ⟨Nat.le_of_ble_eq_true rfl, Nat.le_of_ble_eq_true rfl⟩, hts _ (wz_in (zin9 _ (List.mem_of_getElem? (i := 16) rfl))), hts _ (wz_in (zin9 _ (List.mem_of_getElem? (i := 17) rfl)))⟩ ⟨cw_blind _, zw_recv hK hw (g := (4, x1)) (cG_at g_25) rfl, cw_pre hC hw hS _⟩ rfl rfl hl.1 rfl (lv_room (Nat.le_of_ble_eq_true rfl)) dX6_callStart_2 ⟨Nat.zero_le _, Nat.zero_le _⟩) hS (fun H locs hw hS => ?_)
  refine zr_astore_n (lv' := [(3, rn ad 6 r_22), (0, .ref (ad (0, 0))), (1, .ref (ad (4, x1))), (2, .int x2)]) hx hb dX6_callStart_5 rfl hl (by decide) (by first | rfl | simp [zcat]) (fun ls hl => ?_)
  refine lv_aload_n hx hb dX6_callStart_6 rfl (lv_at hl 1 rfl) ?_
  refine lv_iload_n hx hb dX6_callStart_7 rfl (lv_at hl 3 rfl) ?_
  obtain ⟨g_29, hf⟩ := zg_inv hf
  obtain ⟨r_26, t_27, e_28, hf⟩ := zb_inv hf
  refine cw_fq (kd := 7) (va_runV (As := [.int x2]) (rest := []) S (kc_X6_newestOf l D cy A ad en tI tS _ _ x2 _ e_28) (cwV 1 hts (wz_V (zin6 _ (List.mem_of_getElem? (i := 1) rfl)) (zin5 _ (List.mem_of_getElem? (i := 22) rfl)) (zin5 _ (List.mem_of_getElem? (i := 23) rfl)) (zin6 _ (List.mem_of_getElem? (i := 0) rfl)) (zin1 _ (List.mem_of_getElem? (i := 2) rfl))) rfl rfl rfl (by decide +kernel) ⟨Nat.le_of_ble_eq_true rfl, Nat.le_of_ble_eq_true rfl⟩) ⟨cw_blind _, zw_recv hK hw (g := (0, 0)) (cG_at g_29) rfl, cw_pre hC hw hS _⟩ rfl rfl hl.1 rfl (lv_room (Nat.le_of_ble_eq_true rfl)) dX6_callStart_8 ⟨Nat.zero_le _, Nat.zero_le _⟩) hS (fun H locs hw hS => ?_)
  refine zr_astore (lv' := [(4, rn ad 7 r_26), (3, rn ad 6 r_22), (0, .ref (ad (0, 0))), (1, .ref (ad (4, x1))), (2, .int x2)]) hx hb dX6_callStart_11 hl (by decide) (by first | rfl | simp [zcat]) (fun ls hl => ?_)
  refine zr_aload_n hx hb dX6_callStart_13 rfl (lv_at hl 1 rfl) ?_
  refine zr_ifnull (kd := 6) (o := r_22) hx hb dX6_callStart_14 (tgt := 42) (by decide) (fun o_31 => ?_) (fun i_30 o_31 => ?_)
  · have hf := (zo_n o_31).symm.trans hf
    exact B42 _ r_22 r_26 _ _ _ hf hw hS (lv_sub hl [2, 3, 4, 1, 0] rfl)
  · have hf := (zo_s o_31).symm.trans hf
    rw [o_31] at hl
    have hl : lv_has ls 5 [(4, rn ad 7 r_26), (3, .ref (ad (6, i_30))), (0, .ref (ad (0, 0))), (1, .ref (ad (4, x1))), (2, .int x2)] := hl
    refine zr_aload hx hb dX6_callStart_17 (lv_at hl 0 rfl) ?_
    refine zr_ifnull (kd := 7) (o := r_26) hx hb dX6_callStart_19 (tgt := 42) (by decide) (fun o_33 => ?_) (fun i_32 o_33 => ?_)
    · have hf := (zo_n o_33).symm.trans hf
      exact B42 _ (some i_30) r_26 _ _ _ hf hw hS (lv_sub hl [2, 3, 4, 1, 0] rfl)
    · have hf := (zo_s o_33).symm.trans hf
      rw [o_33] at hl
      have hl : lv_has ls 5 [(4, .ref (ad (7, i_32))), (3, .ref (ad (6, i_30))), (0, .ref (ad (0, 0))), (1, .ref (ad (4, x1))), (2, .int x2)] := hl
      refine lv_aload_n hx hb dX6_callStart_22 rfl (lv_at hl 1 rfl) ?_
      obtain ⟨g_34, hf⟩ := zg_inv hf
      refine cr_getN (v := .int (ci t_27 601 i_30)) S hK hw 6 i_30 g_34 hX4 rfl rfl 1 (by decide) hN (List.mem_of_getElem? (i := 16) rfl) rfl rfl dX6_callStart_23 ?_
      refine lv_aload hx hb dX6_callStart_26 (lv_at hl 0 rfl) ?_
      obtain ⟨g_35, hf⟩ := zg_inv hf
      refine cr_getN (v := .int (ci t_27 700 i_32)) S hK hw 7 i_32 g_35 hX2 rfl rfl 0 (by decide) hN (List.mem_of_getElem? (i := 11) rfl) rfl rfl dX6_callStart_28 ?_
      refine lv_icmp_ne (tgt := 42) hx hb dX6_callStart_31 (by decide) (fun c_36 => ?_) (fun c_36 => ?_)
      · have hf := (zi_f c_36).symm.trans hf
        exact B42 _ (some i_30) (some i_32) _ _ _ hf hw hS (lv_sub hl [2, 3, 4, 1, 0] rfl)
      · have hf := (zi_t c_36).symm.trans hf
        refine lv_aload hx hb dX6_callStart_34 (lv_at hl 0 rfl) ?_
        refine cr_getN (v := rn ad 9 (if cs t_27 i_32 = true then some (3 + 3 * i_32) else none)) S hK hw 7 i_32 g_35 hX2 rfl rfl 2 (by decide) hN (List.mem_of_getElem? (i := 13) rfl) rfl rfl dX6_callStart_36 ?_
        refine zr_ifnonnull (kd := 9) (o := if cs t_27 i_32 = true then some (3 + 3 * i_32) else none) hx hb dX6_callStart_39 (tgt := 44) (by decide) (fun i_37 o_38 => ?_) (fun o_38 => ?_)
        · have hf := (zo_s o_38).symm.trans hf
          refine lv_aload_n hx hb dX6_callStart_44 rfl (lv_at hl 2 rfl) ?_
          refine lv_aload_n hx hb dX6_callStart_45 rfl (lv_at hl 3 rfl) ?_
          refine lv_aload_n hx hb dX6_callStart_46 rfl (lv_at hl 1 rfl) ?_
          refine lv_iload_n hx hb dX6_callStart_47 rfl (lv_at hl 4 rfl) ?_
          refine lv_aload hx hb dX6_callStart_48 (lv_at hl 0 rfl) ?_
          refine cr_getN (v := .ref (ad (9, i_37))) S hK hw 7 i_32 g_35 hX2 rfl rfl 2 (by decide) hN (List.mem_of_getElem? (i := 13) rfl) rfl (by show some (rn ad 9 (if cs t_27 i_32 = true then some (3 + 3 * i_32) else none)) = some _; rw [o_38]; rfl) dX6_callStart_50 ?_
          obtain ⟨g_42, hf⟩ := zg_inv hf
          obtain ⟨r_39, t_40, e_41, hf⟩ := zb_inv hf
          refine cw_fi (va_runV (As := [.ref (ad (4, x1)), .ref (ad (6, i_30)), .int x2, .ref (ad (9, i_37))]) (rest := []) S (kc_X6_call l D cy A ad en tI tS _ _ x1 i_30 x2 i_37 _ e_41) (cwV 4 hts (wz_V (zin11 _ (List.mem_of_getElem? (i := 10) rfl)) (zin11 _ (List.mem_of_getElem? (i := 7) rfl)) (zin11 _ (List.mem_of_getElem? (i := 8) rfl)) (zin11 _ (List.mem_of_getElem? (i := 9) rfl)) (zin1 _ (List.mem_of_getElem? (i := 2) rfl))) rfl rfl rfl (by decide +kernel) ⟨Nat.le_of_ble_eq_true rfl, Nat.le_of_ble_eq_true rfl⟩) ⟨cw_blind _, zw_recv hK hw (g := (0, 0)) (cG_at g_42) rfl, cw_pre hC hw hS _⟩ rfl rfl hl.1 rfl (lv_room (Nat.le_of_ble_eq_true rfl)) dX6_callStart_53 ⟨Nat.zero_le _, Nat.zero_le _⟩) hS (fun H locs hw hS => ?_)
          exact cw_reti S hr hf hw hS hlocks dX6_callStart_56
        · have hf := (zo_n o_38).symm.trans hf
          exact B42 _ (some i_30) (some i_32) _ _ _ hf hw hS (lv_sub hl [2, 3, 4, 1, 0] rfl)
noncomputable def k_X6_react_b26 (x0 : Nat) (x1 : Nat) (τ : CS) : Option (Unit × CS) := some ((), τ)
noncomputable def k_X6_react_b13 (x0 : Nat) (x1 : Nat) (τ : CS) : Option (Unit × CS) := zg (cv τ 4 x0 = true) (zi ((ci τ 403 x0) = (2 : Int32)) (k_X6_react_b26 x0 x1 (cI τ 402 x0 (0 : Int32))) (k_X6_react_b26 x0 x1 τ))
noncomputable def k_X6_react (τ : CS) (x0 : Nat) (x1 : Nat) : Option (Unit × CS) := zg (cv τ 4 x0 = true) (zi ((ci τ 403 x0) = (1 : Int32)) (zg (cv τ 6 x1 = true) (k_X6_react_b13 x0 x1 (cI τ 603 x1 (1 : Int32)))) (k_X6_react_b13 x0 x1 τ))
set_option maxHeartbeats 4000000 in
set_option maxRecDepth 100000 in
theorem kc_X6_react (l : Launch) (D : va_G) (cy : Nat → ClassId) (A : Nat → Prop) (ad : Nat × Nat → Nat) (en : Nat → Nat) (tI tS : Nat) (τ τ' : CS) (x0 : Nat) (x1 : Nat) (hf : k_X6_react τ x0 x1 = some ((), τ')) : Met l yX6_react (wz yX6_react cX6_react 2 none) ({ frames := 0, cells := 0, slots := 0, locals := 0 } : Room) (va_Pc [.ref (ad (4, x0)), .ref (ad (6, x1))] (CWs D cy A ad en tI tS τ)) (va_Qv (fun (u : CS) => u = τ') (CWp D cy A ad) A) 0 0 A := by
  refine Met.ofW (cc := cX6_react) (maxL := 2) (ret := none) (by decide) rfl ?_
  intro p e s m args below meth c s₁ B hml hv
  obtain ⟨rfl, hw, hC⟩ := hv
  have hK := hC.1
  have hN := hC.2.1
  have hx := B.exec
  have hb := B.bytes
  have hr := B.returns
  have hts := atoms_spec (ws := (wz yX6_react cX6_react 2 none)) B.pre
  have hown : s.vm.findClass RX6 = some m.cls := findClass_of_methodNamed B.named
  have hlocks := B.notSynchronized
  have S : CallFix p m c cX6_react 2 s ([.ref (ad (4, x0)), .ref (ad (6, x1))] : List Value).toArray (wz yX6_react cX6_react 2 none) RX6 := ⟨hx, hb, hml, hown, hts⟩
  have hX1 : ∀ w ∈ wsX10, w ∈ (wz yX6_react cX6_react 2 none) := fun w h => wz_in (inlX1 w h)
  have hX2 : ∀ w ∈ wsX20, w ∈ (wz yX6_react cX6_react 2 none) := fun w h => wz_in (inlX2 w h)
  have hX4 : ∀ w ∈ wsX40, w ∈ (wz yX6_react cX6_react 2 none) := fun w h => wz_in (inlX4 w h)
  have hX5 : ∀ w ∈ wsX50, w ∈ (wz yX6_react cX6_react 2 none) := fun w h => wz_in (inlX5 w h)
  have hX6 : ∀ w ∈ wsX60, w ∈ (wz yX6_react cX6_react 2 none) := fun w h => wz_in (inlX6 w h)
  have hS : va_S A s.heap s.heap [] := va_S.rf
  have hl := lv_entry ([.ref (ad (4, x0)), .ref (ad (6, x1))]) (n := 2) (Nat.le_of_ble_eq_true rfl)
  rw [lg_entry_eq]
  generalize (lg_sl ([.ref (ad (4, x0)), .ref (ad (6, x1))]) ++ List.replicate (2 - (lg_sl ([.ref (ad (4, x0)), .ref (ad (6, x1))])).length) Slot.unset).toArray = ls at hl ⊢
  have hl : lv_has ls 2 [(0, .ref (ad (4, x0))), (1, .ref (ad (6, x1)))] := hl
  have B26 : ∀ (τ : CS) (H : Heap) (locs : List Loc) (ls : Array Slot) (hf : k_X6_react_b26 x0 x1 τ = some ((), τ')) (hw : zw D A ad (cG cy ad τ) H) (hS : va_S A s.heap H locs) (hl : lv_has ls 2 [(0, .ref (ad (4, x0))), (1, .ref (ad (6, x1)))]), W p l e (headSpec (wz yX6_react cX6_react 2 none) ({ frames := 0, cells := 0, slots := 0, locals := 0 } : Room)).room s m ([.ref (ad (4, x0)), .ref (ad (6, x1))] : List Value).toArray below meth c H locs 0 0 (MQ below (va_Qv (fun (u : CS) => u = τ') (CWp D cy A ad) A) ([.ref (ad (4, x0)), .ref (ad (6, x1))] : List Value).toArray s 0 0 A) (F0 m 26 ls []) := by
    intro τ H locs ls hf hw hS hl
    rw [k_X6_react_b26] at hf
    exact cw_retv S hr hf hw hS hlocks dX6_react_26
  have B13 : ∀ (τ : CS) (H : Heap) (locs : List Loc) (ls : Array Slot) (hf : k_X6_react_b13 x0 x1 τ = some ((), τ')) (hw : zw D A ad (cG cy ad τ) H) (hS : va_S A s.heap H locs) (hl : lv_has ls 2 [(0, .ref (ad (4, x0))), (1, .ref (ad (6, x1)))]), W p l e (headSpec (wz yX6_react cX6_react 2 none) ({ frames := 0, cells := 0, slots := 0, locals := 0 } : Room)).room s m ([.ref (ad (4, x0)), .ref (ad (6, x1))] : List Value).toArray below meth c H locs 0 0 (MQ below (va_Qv (fun (u : CS) => u = τ') (CWp D cy A ad) A) ([.ref (ad (4, x0)), .ref (ad (6, x1))] : List Value).toArray s 0 0 A) (F0 m 13 ls []) := by
    intro τ H locs ls hf hw hS hl
    rw [k_X6_react_b13] at hf
    refine lv_aload_n hx hb dX6_react_13 rfl (lv_at hl 0 rfl) ?_
    obtain ⟨g_6, hf⟩ := zg_inv hf
    refine cr_getN (v := .int (ci τ 403 x0)) S hK hw 4 x0 g_6 hX1 rfl rfl 3 (by decide) hN (List.mem_of_getElem? (i := 2) rfl) rfl rfl dX6_react_14 ?_
    refine lv_iconst (v := (2 : Int32)) hx hb dX6_react_17 (by decide) ?_
    refine lv_icmp_ne (tgt := 26) hx hb dX6_react_18 (by decide) (fun c_7 => ?_) (fun c_7 => ?_)
    · have hf := (zi_f c_7).symm.trans hf
      exact B26 _ _ _ _ hf hw hS (lv_sub hl [0, 1] rfl)
    · have hf := (zi_t c_7).symm.trans hf
      refine lv_aload_n hx hb dX6_react_21 rfl (lv_at hl 0 rfl) ?_
      refine lv_iconst (v := (0 : Int32)) hx hb dX6_react_22 (by decide) ?_
      refine cr_putN (v := .int (0 : Int32)) (σ1 := cI τ 402 x0 (0 : Int32)) S hK hw hS 4 x0 g_6 hX1 tyX1 tyX1_ok nmX1 rfl rfl 2 (by decide) hN (List.mem_of_getElem? (i := 1) rfl) rfl rfl rfl rfl (Nat.le_of_ble_eq_true rfl) dX6_react_23 rfl (cput_402 _ _ _ _ _) (cout_402 _ _ _ _ _) (fun H locs hw hS => ?_)
      exact B26 _ _ _ _ hf hw hS (lv_sub hl [0, 1] rfl)
  rw [k_X6_react] at hf
  refine lv_aload_n hx hb dX6_react_0 rfl (lv_at hl 0 rfl) ?_
  obtain ⟨g_8, hf⟩ := zg_inv hf
  refine cr_getN (v := .int (ci τ 403 x0)) S hK hw 4 x0 g_8 hX1 rfl rfl 3 (by decide) hN (List.mem_of_getElem? (i := 2) rfl) rfl rfl dX6_react_1 ?_
  refine lv_iconst (v := (1 : Int32)) hx hb dX6_react_4 (by decide) ?_
  refine lv_icmp_ne (tgt := 13) hx hb dX6_react_5 (by decide) (fun c_9 => ?_) (fun c_9 => ?_)
  · have hf := (zi_f c_9).symm.trans hf
    exact B13 _ _ _ _ hf hw hS (lv_sub hl [0, 1] rfl)
  · have hf := (zi_t c_9).symm.trans hf
    refine lv_aload_n hx hb dX6_react_8 rfl (lv_at hl 1 rfl) ?_
    refine lv_iconst (v := (1 : Int32)) hx hb dX6_react_9 (by decide) ?_
    obtain ⟨g_10, hf⟩ := zg_inv hf
    refine cr_putN (v := .int (1 : Int32)) (σ1 := cI τ 603 x1 (1 : Int32)) S hK hw hS 6 x1 g_10 hX4 tyX4 tyX4_ok nmX4 rfl rfl 3 (by decide) hN (List.mem_of_getElem? (i := 18) rfl) rfl rfl rfl rfl (Nat.le_of_ble_eq_true rfl) dX6_react_10 rfl (cput_603 _ _ _ _ _) (cout_603 _ _ _ _ _) (fun H locs hw hS => ?_)
    exact B13 _ _ _ _ hf hw hS (lv_sub hl [0, 1] rfl)
noncomputable def k_X6_callRun_b156 (x1 : Int32) (x2 : Int32) (x3 : Int32) (τ : CS) (y0 : Int32) (x4 : Nat) (x5 : Nat) (x6 : Nat) (x7 : Int32) : Option (Int32 × CS) := some (y0, τ)
noncomputable def k_X6_callRun_b142 (x1 : Int32) (x2 : Int32) (x3 : Int32) (τ : CS) (x4 : Nat) (x5 : Nat) (x6 : Nat) (x7 : Int32) : Option (Int32 × CS) := zi (x7 = 0) (k_X6_callRun_b156 x1 x2 x3 τ (1 : Int32) x4 x5 x6 x7) (k_X6_callRun_b156 x1 x2 x3 τ ((10 : Int32) + x7) x4 x5 x6 x7)
noncomputable def k_X6_callRun_b72 (x1 : Int32) (x2 : Int32) (x3 : Int32) (τ : CS) (x4 : Nat) (x5 : Nat) (x6 : Option Nat) : Option (Int32 × CS) := zg (cv τ 0 0 = true) (zb (k_X6_refuse τ (-3 : Int32)) (fun r_49 t_50 => some (r_49, t_50)))
noncomputable def k_X6_callRun_b24 (x1 : Int32) (x2 : Int32) (x3 : Int32) (τ : CS) (x4 : Option Nat) (x5 : Option Nat) : Option (Int32 × CS) := zg (cv τ 0 0 = true) (zb (k_X6_refuse τ (-1 : Int32)) (fun r_53 t_54 => some (r_53, t_54)))
noncomputable def k_X6_callRun (τ : CS) (x1 : Int32) (x2 : Int32) (x3 : Int32) : Option (Int32 × CS) := zg (cv τ 0 0 = true) (zb (k_X6_controllerAt τ x1) (fun r_57 t_58 => zg (cv t_58 0 0 = true) (zb (k_X6_newestOf t_58 x2) (fun r_61 t_62 => zo (r_57) (k_X6_callRun_b24 x1 x2 x3 t_62 r_57 r_61) (fun i_65 => zo (r_61) (k_X6_callRun_b24 x1 x2 x3 t_62 (some i_65) r_61) (fun i_67 => zg (cv t_62 4 i_65 = true) (zb (k_X1_classOf t_62 i_65 x2) (fun r_69 t_70 => zo (r_69) (k_X6_callRun_b72 x1 x2 x3 t_70 i_65 i_67 r_69) (fun i_73 => zg (cv t_70 4 i_65 = true) (zi ((ci t_70 402 i_65) = 0) (k_X6_callRun_b72 x1 x2 x3 t_70 i_65 i_67 (some i_73)) (zg (cv t_70 6 i_73 = true) (zi ((ci t_70 603 i_73) = 0) (zg (cv t_70 7 i_67 = true) (zi ((ci t_70 601 i_73) = (ci t_70 700 i_67)) (zi (x3 = 0) (zg (cv t_70 0 0 = true) (zb (k_X6_call t_70 i_65 i_73 x2 (4 + 3 * i_67)) (fun r_82 t_83 => zi (r_82 = 0) (k_X6_callRun_b142 x1 x2 x3 t_83 i_65 i_67 i_73 r_82) (zb (k_X6_react t_83 i_65 i_73) (fun _ t_88 => k_X6_callRun_b142 x1 x2 x3 t_88 i_65 i_67 i_73 r_82))))) (zg (cv t_70 0 0 = true) (zg (cv t_70 1 0 = true) (zb (k_X5_goOnCopies t_70 (4 + 3 * i_67) (3 + i_65) (11 + i_73) (ci t_70 0 0)) (fun r_91 t_92 => k_X6_callRun_b142 x1 x2 x3 t_92 i_65 i_67 i_73 r_91))))) (k_X6_callRun_b72 x1 x2 x3 t_70 i_65 i_67 (some i_73)))) (k_X6_callRun_b72 x1 x2 x3 t_70 i_65 i_67 (some i_73))))))))))))))
set_option maxHeartbeats 4000000 in
set_option maxRecDepth 100000 in
theorem kc_X6_callRun (l : Launch) (D : va_G) (cy : Nat → ClassId) (A : Nat → Prop) (ad : Nat × Nat → Nat) (en : Nat → Nat) (tI tS : Nat) (τ τ' : CS) (x1 : Int32) (x2 : Int32) (x3 : Int32) (r : Int32) (hf : k_X6_callRun τ x1 x2 x3 = some (r, τ')) : Met l yX6_callRun (wz yX6_callRun cX6_callRun 8 (some .int)) ({ frames := 6, cells := 0, slots := 0, locals := 147 } : Room) (va_Pc [.ref (ad (0, 0)), .int x1, .int x2, .int x3] (CWs D cy A ad en tI tS τ)) (va_Qi (fun (r' : Int32) (u : CS) => r' = r ∧ u = τ') (CWp D cy A ad) A) 0 0 A := by
  refine Met.ofW (cc := cX6_callRun) (maxL := 8) (ret := (some .int)) (by decide) rfl ?_
  intro p e s m args below meth c s₁ B hml hv
  obtain ⟨rfl, hw, hC⟩ := hv
  have hK := hC.1
  have hN := hC.2.1
  have hx := B.exec
  have hb := B.bytes
  have hr := B.returns
  have hts := atoms_spec (ws := (wz yX6_callRun cX6_callRun 8 (some .int))) B.pre
  have hown : s.vm.findClass RX6 = some m.cls := findClass_of_methodNamed B.named
  have hlocks := B.notSynchronized
  have S : CallFix p m c cX6_callRun 8 s ([.ref (ad (0, 0)), .int x1, .int x2, .int x3] : List Value).toArray (wz yX6_callRun cX6_callRun 8 (some .int)) RX6 := ⟨hx, hb, hml, hown, hts⟩
  have hX1 : ∀ w ∈ wsX10, w ∈ (wz yX6_callRun cX6_callRun 8 (some .int)) := fun w h => wz_in (inlX1 w h)
  have hX2 : ∀ w ∈ wsX20, w ∈ (wz yX6_callRun cX6_callRun 8 (some .int)) := fun w h => wz_in (inlX2 w h)
  have hX4 : ∀ w ∈ wsX40, w ∈ (wz yX6_callRun cX6_callRun 8 (some .int)) := fun w h => wz_in (inlX4 w h)
  have hX5 : ∀ w ∈ wsX50, w ∈ (wz yX6_callRun cX6_callRun 8 (some .int)) := fun w h => wz_in (inlX5 w h)
  have hX6 : ∀ w ∈ wsX60, w ∈ (wz yX6_callRun cX6_callRun 8 (some .int)) := fun w h => wz_in (inlX6 w h)
  have hS : va_S A s.heap s.heap [] := va_S.rf
  have hl := lv_entry ([.ref (ad (0, 0)), .int x1, .int x2, .int x3]) (n := 8) (Nat.le_of_ble_eq_true rfl)
  rw [lg_entry_eq]
  generalize (lg_sl ([.ref (ad (0, 0)), .int x1, .int x2, .int x3]) ++ List.replicate (8 - (lg_sl ([.ref (ad (0, 0)), .int x1, .int x2, .int x3])).length) Slot.unset).toArray = ls at hl ⊢
  have hl : lv_has ls 8 [(0, .ref (ad (0, 0))), (1, .int x1), (2, .int x2), (3, .int x3)] := hl
  have B156 : ∀ (τ : CS) (y0 : Int32) (x4 : Nat) (x5 : Nat) (x6 : Nat) (x7 : Int32) (H : Heap) (locs : List Loc) (ls : Array Slot) (hf : k_X6_callRun_b156 x1 x2 x3 τ y0 x4 x5 x6 x7 = some (r, τ')) (hw : zw D A ad (cG cy ad τ) H) (hS : va_S A s.heap H locs) (hl : lv_has ls 8 [(0, .ref (ad (0, 0))), (1, .int x1), (2, .int x2), (3, .int x3), (4, .ref (ad (4, x4))), (5, .ref (ad (7, x5))), (6, .ref (ad (6, x6))), (7, .int x7)]), W p l e (headSpec (wz yX6_callRun cX6_callRun 8 (some .int)) ({ frames := 6, cells := 0, slots := 0, locals := 147 } : Room)).room s m ([.ref (ad (0, 0)), .int x1, .int x2, .int x3] : List Value).toArray below meth c H locs 0 0 (MQ below (va_Qi (fun (r' : Int32) (u : CS) => r' = r ∧ u = τ') (CWp D cy A ad) A) ([.ref (ad (0, 0)), .int x1, .int x2, .int x3] : List Value).toArray s 0 0 A) (F0 m 156 ls [.int y0]) := by
    intro τ y0 x4 x5 x6 x7 H locs ls hf hw hS hl
    rw [k_X6_callRun_b156] at hf
    exact cw_reti S hr hf hw hS hlocks dX6_callRun_156
  have B142 : ∀ (τ : CS) (x4 : Nat) (x5 : Nat) (x6 : Nat) (x7 : Int32) (H : Heap) (locs : List Loc) (ls : Array Slot) (hf : k_X6_callRun_b142 x1 x2 x3 τ x4 x5 x6 x7 = some (r, τ')) (hw : zw D A ad (cG cy ad τ) H) (hS : va_S A s.heap H locs) (hl : lv_has ls 8 [(0, .ref (ad (0, 0))), (1, .int x1), (2, .int x2), (3, .int x3), (4, .ref (ad (4, x4))), (5, .ref (ad (7, x5))), (6, .ref (ad (6, x6))), (7, .int x7)]), W p l e (headSpec (wz yX6_callRun cX6_callRun 8 (some .int)) ({ frames := 6, cells := 0, slots := 0, locals := 147 } : Room)).room s m ([.ref (ad (0, 0)), .int x1, .int x2, .int x3] : List Value).toArray below meth c H locs 0 0 (MQ below (va_Qi (fun (r' : Int32) (u : CS) => r' = r ∧ u = τ') (CWp D cy A ad) A) ([.ref (ad (0, 0)), .int x1, .int x2, .int x3] : List Value).toArray s 0 0 A) (F0 m 142 ls []) := by
    intro τ x4 x5 x6 x7 H locs ls hf hw hS hl
    rw [k_X6_callRun_b142] at hf
    refine lv_iload hx hb dX6_callRun_142 (lv_at hl 7 rfl) ?_
    refine lv_if_ne (tgt := 151) hx hb dX6_callRun_144 (by decide) (fun c_48 => ?_) (fun c_48 => ?_)
    · have hf := (zi_f c_48).symm.trans hf
      refine lv_bipush (v := (10 : Int32)) hx hb dX6_callRun_151 (by decide) ?_
      refine lv_iload hx hb dX6_callRun_153 (lv_at hl 7 rfl) ?_
      refine lv_iadd hx hb dX6_callRun_155 ?_
      exact B156 _ ((10 : Int32) + x7) x4 x5 x6 x7 _ _ _ hf hw hS (lv_sub hl [0, 1, 2, 3, 4, 5, 6, 7] rfl)
    · have hf := (zi_t c_48).symm.trans hf
      refine lv_iconst (v := (1 : Int32)) hx hb dX6_callRun_147 (by decide) ?_
      refine lv_goto (tgt := 156) hx hb dX6_callRun_148 (by decide) ?_
      exact B156 _ (1 : Int32) x4 x5 x6 x7 _ _ _ hf hw hS (lv_sub hl [0, 1, 2, 3, 4, 5, 6, 7] rfl)
  have B72 : ∀ (τ : CS) (x4 : Nat) (x5 : Nat) (x6 : Option Nat) (H : Heap) (locs : List Loc) (ls : Array Slot) (hf : k_X6_callRun_b72 x1 x2 x3 τ x4 x5 x6 = some (r, τ')) (hw : zw D A ad (cG cy ad τ) H) (hS : va_S A s.heap H locs) (hl : lv_has ls 8 [(0, .ref (ad (0, 0))), (1, .int x1), (2, .int x2), (3, .int x3), (4, .ref (ad (4, x4))), (5, .ref (ad (7, x5))), (6, rn ad 6 x6)]), W p l e (headSpec (wz yX6_callRun cX6_callRun 8 (some .int)) ({ frames := 6, cells := 0, slots := 0, locals := 147 } : Room)).room s m ([.ref (ad (0, 0)), .int x1, .int x2, .int x3] : List Value).toArray below meth c H locs 0 0 (MQ below (va_Qi (fun (r' : Int32) (u : CS) => r' = r ∧ u = τ') (CWp D cy A ad) A) ([.ref (ad (0, 0)), .int x1, .int x2, .int x3] : List Value).toArray s 0 0 A) (F0 m 72 ls []) := by
    intro τ x4 x5 x6 H locs ls hf hw hS hl
    rw [k_X6_callRun_b72] at hf
    refine lv_aload_n hx hb dX6_callRun_72 rfl (lv_at hl 0 rfl) ?_
    refine lv_bipush (v := (-3 : Int32)) hx hb dX6_callRun_73 (by decide) ?_
    obtain ⟨g_52, hf⟩ := zg_inv hf
    obtain ⟨r_49, t_50, e_51, hf⟩ := zb_inv hf
    refine cw_fi (va_runV (As := [.int (-3 : Int32)]) (rest := []) S (kc_X6_refuse l D cy A ad en tI tS _ _ (-3 : Int32) _ e_51) (cwV 1 hts (wz_V (zin4 _ (List.mem_of_getElem? (i := 22) rfl)) (zin4 _ (List.mem_of_getElem? (i := 19) rfl)) (zin4 _ (List.mem_of_getElem? (i := 20) rfl)) (zin4 _ (List.mem_of_getElem? (i := 21) rfl)) (zin1 _ (List.mem_of_getElem? (i := 2) rfl))) rfl rfl rfl (by decide +kernel) ⟨Nat.le_of_ble_eq_true rfl, Nat.le_of_ble_eq_true rfl⟩) ⟨cw_blind _, zw_recv hK hw (g := (0, 0)) (cG_at g_52) rfl, cw_pre hC hw hS _⟩ rfl rfl hl.1 rfl (lv_room (Nat.le_of_ble_eq_true rfl)) dX6_callRun_75 ⟨Nat.zero_le _, Nat.zero_le _⟩) hS (fun H locs hw hS => ?_)
    exact cw_reti S hr hf hw hS hlocks dX6_callRun_78
  have B24 : ∀ (τ : CS) (x4 : Option Nat) (x5 : Option Nat) (H : Heap) (locs : List Loc) (ls : Array Slot) (hf : k_X6_callRun_b24 x1 x2 x3 τ x4 x5 = some (r, τ')) (hw : zw D A ad (cG cy ad τ) H) (hS : va_S A s.heap H locs) (hl : lv_has ls 8 [(0, .ref (ad (0, 0))), (1, .int x1), (2, .int x2), (3, .int x3), (4, rn ad 4 x4), (5, rn ad 7 x5)]), W p l e (headSpec (wz yX6_callRun cX6_callRun 8 (some .int)) ({ frames := 6, cells := 0, slots := 0, locals := 147 } : Room)).room s m ([.ref (ad (0, 0)), .int x1, .int x2, .int x3] : List Value).toArray below meth c H locs 0 0 (MQ below (va_Qi (fun (r' : Int32) (u : CS) => r' = r ∧ u = τ') (CWp D cy A ad) A) ([.ref (ad (0, 0)), .int x1, .int x2, .int x3] : List Value).toArray s 0 0 A) (F0 m 24 ls []) := by
    intro τ x4 x5 H locs ls hf hw hS hl
    rw [k_X6_callRun_b24] at hf
    refine lv_aload_n hx hb dX6_callRun_24 rfl (lv_at hl 0 rfl) ?_
    refine lv_iconst (v := (-1 : Int32)) hx hb dX6_callRun_25 (by decide) ?_
    obtain ⟨g_56, hf⟩ := zg_inv hf
    obtain ⟨r_53, t_54, e_55, hf⟩ := zb_inv hf
    refine cw_fi (va_runV (As := [.int (-1 : Int32)]) (rest := []) S (kc_X6_refuse l D cy A ad en tI tS _ _ (-1 : Int32) _ e_55) (cwV 1 hts (wz_V (zin4 _ (List.mem_of_getElem? (i := 22) rfl)) (zin4 _ (List.mem_of_getElem? (i := 19) rfl)) (zin4 _ (List.mem_of_getElem? (i := 20) rfl)) (zin4 _ (List.mem_of_getElem? (i := 21) rfl)) (zin1 _ (List.mem_of_getElem? (i := 2) rfl))) rfl rfl rfl (by decide +kernel) ⟨Nat.le_of_ble_eq_true rfl, Nat.le_of_ble_eq_true rfl⟩) ⟨cw_blind _, zw_recv hK hw (g := (0, 0)) (cG_at g_56) rfl, cw_pre hC hw hS _⟩ rfl rfl hl.1 rfl (lv_room (Nat.le_of_ble_eq_true rfl)) dX6_callRun_26 ⟨Nat.zero_le _, Nat.zero_le _⟩) hS (fun H locs hw hS => ?_)
    exact cw_reti S hr hf hw hS hlocks dX6_callRun_29
  rw [k_X6_callRun] at hf
  refine lv_aload_n hx hb dX6_callRun_0 rfl (lv_at hl 0 rfl) ?_
  refine lv_iload_n hx hb dX6_callRun_1 rfl (lv_at hl 1 rfl) ?_
  obtain ⟨g_60, hf⟩ := zg_inv hf
  obtain ⟨r_57, t_58, e_59, hf⟩ := zb_inv hf
  refine cw_fq (kd := 4) (va_runV (As := [.int x1]) (rest := []) S (kc_X6_controllerAt l D cy A ad en tI tS _ _ x1 _ e_59) (cwV 1 hts (wz_V (zin9 _ (List.mem_of_getElem? (i := 15) rfl)) (zin9 _ (List.mem_of_getElem? (i := 12) rfl)) (zin9 _ (List.mem_of_getElem? (i := 13) rfl)) (zin9 _ (List.mem_of_getElem? (i := 14) rfl)) (zin1 _ (List.mem_of_getElem? (i := 2) rfl))) rfl rfl rfl (by decide +kernel) ⟨Nat.le_of_ble_eq_true rfl, Nat.le_of_ble_eq_true rfl⟩) ⟨cw_blind _, zw_recv hK hw (g := (0, 0)) (cG_at g_60) rfl, cw_pre hC hw hS _⟩ rfl rfl hl.1 rfl (lv_room (Nat.le_of_ble_eq_true rfl)) dX6_callRun_2 ⟨Nat.zero_le _, Nat.zero_le _⟩) hS (fun H locs hw hS => ?_)
  refine zr_astore (lv' := [(4, rn ad 4 r_57), (0, .ref (ad (0, 0))), (1, .int x1), (2, .int x2), (3, .int x3)]) hx hb dX6_callRun_5 hl (by decide) (by first | rfl | simp [zcat]) (fun ls hl => ?_)
  refine lv_aload_n hx hb dX6_callRun_7 rfl (lv_at hl 1 rfl) ?_
  refine lv_iload_n hx hb dX6_callRun_8 rfl (lv_at hl 3 rfl) ?_
  obtain ⟨g_64, hf⟩ := zg_inv hf
  obtain ⟨r_61, t_62, e_63, hf⟩ := zb_inv hf
  refine cw_fq (kd := 7) (va_runV (As := [.int x2]) (rest := []) S (kc_X6_newestOf l D cy A ad en tI tS _ _ x2 _ e_63) (cwV 1 hts (wz_V (zin6 _ (List.mem_of_getElem? (i := 1) rfl)) (zin5 _ (List.mem_of_getElem? (i := 22) rfl)) (zin5 _ (List.mem_of_getElem? (i := 23) rfl)) (zin6 _ (List.mem_of_getElem? (i := 0) rfl)) (zin1 _ (List.mem_of_getElem? (i := 2) rfl))) rfl rfl rfl (by decide +kernel) ⟨Nat.le_of_ble_eq_true rfl, Nat.le_of_ble_eq_true rfl⟩) ⟨cw_blind _, zw_recv hK hw (g := (0, 0)) (cG_at g_64) rfl, cw_pre hC hw hS _⟩ rfl rfl hl.1 rfl (lv_room (Nat.le_of_ble_eq_true rfl)) dX6_callRun_9 ⟨Nat.zero_le _, Nat.zero_le _⟩) hS (fun H locs hw hS => ?_)
  refine zr_astore (lv' := [(5, rn ad 7 r_61), (4, rn ad 4 r_57), (0, .ref (ad (0, 0))), (1, .int x1), (2, .int x2), (3, .int x3)]) hx hb dX6_callRun_12 hl (by decide) (by first | rfl | simp [zcat]) (fun ls hl => ?_)
  refine zr_aload hx hb dX6_callRun_14 (lv_at hl 1 rfl) ?_
  refine zr_ifnull (kd := 4) (o := r_57) hx hb dX6_callRun_16 (tgt := 24) (by decide) (fun o_66 => ?_) (fun i_65 o_66 => ?_)
  · have hf := (zo_n o_66).symm.trans hf
    exact B24 _ r_57 r_61 _ _ _ hf hw hS (lv_sub hl [2, 3, 4, 5, 1, 0] rfl)
  · have hf := (zo_s o_66).symm.trans hf
    rw [o_66] at hl
    have hl : lv_has ls 8 [(5, rn ad 7 r_61), (4, .ref (ad (4, i_65))), (0, .ref (ad (0, 0))), (1, .int x1), (2, .int x2), (3, .int x3)] := hl
    refine zr_aload hx hb dX6_callRun_19 (lv_at hl 0 rfl) ?_
    refine zr_ifnonnull (kd := 7) (o := r_61) hx hb dX6_callRun_21 (tgt := 30) (by decide) (fun i_67 o_68 => ?_) (fun o_68 => ?_)
    · have hf := (zo_s o_68).symm.trans hf
      rw [o_68] at hl
      have hl : lv_has ls 8 [(5, .ref (ad (7, i_67))), (4, .ref (ad (4, i_65))), (0, .ref (ad (0, 0))), (1, .int x1), (2, .int x2), (3, .int x3)] := hl
      refine lv_aload hx hb dX6_callRun_30 (lv_at hl 1 rfl) ?_
      refine lv_iload_n hx hb dX6_callRun_32 rfl (lv_at hl 4 rfl) ?_
      obtain ⟨g_72, hf⟩ := zg_inv hf
      obtain ⟨r_69, t_70, e_71, hf⟩ := zb_inv hf
      refine cw_fq (kd := 6) (va_runVN (As := [.int x2]) (rest := []) S (kc_X1_classOf l D cy A ad en tI tS _ _ i_65 x2 _ e_71) ⟨va_cnB 1 hts (wz_gd (zin9 _ (List.mem_of_getElem? (i := 18) rfl))) rfl rfl rfl (hN.2 _ (List.mem_of_getElem? (i := 3) rfl)) (hts _ (wz_in (zin2 _ (List.mem_of_getElem? (i := 6) rfl)))) (by decide +kernel) ⟨Nat.le_of_ble_eq_true rfl, Nat.le_of_ble_eq_true rfl⟩, hts _ (wz_in (zin9 _ (List.mem_of_getElem? (i := 16) rfl))), hts _ (wz_in (zin9 _ (List.mem_of_getElem? (i := 17) rfl)))⟩ ⟨cw_blind _, zw_recv hK hw (g := (4, i_65)) (cG_at g_72) rfl, cw_pre hC hw hS _⟩ rfl rfl hl.1 rfl (lv_room (Nat.le_of_ble_eq_true rfl)) dX6_callRun_33 ⟨Nat.zero_le _, Nat.zero_le _⟩) hS (fun H locs hw hS => ?_)
      refine zr_astore (lv' := [(6, rn ad 6 r_69), (5, .ref (ad (7, i_67))), (4, .ref (ad (4, i_65))), (0, .ref (ad (0, 0))), (1, .int x1), (2, .int x2), (3, .int x3)]) hx hb dX6_callRun_36 hl (by decide) (by first | rfl | simp [zcat]) (fun ls hl => ?_)
      refine zr_aload hx hb dX6_callRun_38 (lv_at hl 0 rfl) ?_
      refine zr_ifnull (kd := 6) (o := r_69) hx hb dX6_callRun_40 (tgt := 72) (by decide) (fun o_74 => ?_) (fun i_73 o_74 => ?_)
      · have hf := (zo_n o_74).symm.trans hf
        exact B72 _ i_65 i_67 r_69 _ _ _ hf hw hS (lv_sub hl [3, 4, 5, 6, 2, 1, 0] rfl)
      · have hf := (zo_s o_74).symm.trans hf
        rw [o_74] at hl
        have hl : lv_has ls 8 [(6, .ref (ad (6, i_73))), (5, .ref (ad (7, i_67))), (4, .ref (ad (4, i_65))), (0, .ref (ad (0, 0))), (1, .int x1), (2, .int x2), (3, .int x3)] := hl
        refine lv_aload hx hb dX6_callRun_43 (lv_at hl 2 rfl) ?_
        obtain ⟨g_75, hf⟩ := zg_inv hf
        refine cr_getN (v := .int (ci t_70 402 i_65)) S hK hw 4 i_65 g_75 hX1 rfl rfl 2 (by decide) hN (List.mem_of_getElem? (i := 1) rfl) rfl rfl dX6_callRun_45 ?_
        refine lv_if_eq (tgt := 72) hx hb dX6_callRun_48 (by decide) (fun c_76 => ?_) (fun c_76 => ?_)
        · have hf := (zi_t c_76).symm.trans hf
          exact B72 _ i_65 i_67 (some i_73) _ _ _ hf hw hS (lv_sub hl [3, 4, 5, 6, 2, 1, 0] rfl)
        · have hf := (zi_f c_76).symm.trans hf
          refine lv_aload hx hb dX6_callRun_51 (lv_at hl 0 rfl) ?_
          obtain ⟨g_77, hf⟩ := zg_inv hf
          refine cr_getN (v := .int (ci t_70 603 i_73)) S hK hw 6 i_73 g_77 hX4 rfl rfl 3 (by decide) hN (List.mem_of_getElem? (i := 18) rfl) rfl rfl dX6_callRun_53 ?_
          refine lv_if_ne (tgt := 72) hx hb dX6_callRun_56 (by decide) (fun c_78 => ?_) (fun c_78 => ?_)
          · have hf := (zi_f c_78).symm.trans hf
            exact B72 _ i_65 i_67 (some i_73) _ _ _ hf hw hS (lv_sub hl [3, 4, 5, 6, 2, 1, 0] rfl)
          · have hf := (zi_t c_78).symm.trans hf
            refine lv_aload hx hb dX6_callRun_59 (lv_at hl 0 rfl) ?_
            refine cr_getN (v := .int (ci t_70 601 i_73)) S hK hw 6 i_73 g_77 hX4 rfl rfl 1 (by decide) hN (List.mem_of_getElem? (i := 16) rfl) rfl rfl dX6_callRun_61 ?_
            refine lv_aload hx hb dX6_callRun_64 (lv_at hl 1 rfl) ?_
            obtain ⟨g_79, hf⟩ := zg_inv hf
            refine cr_getN (v := .int (ci t_70 700 i_67)) S hK hw 7 i_67 g_79 hX2 rfl rfl 0 (by decide) hN (List.mem_of_getElem? (i := 11) rfl) rfl rfl dX6_callRun_66 ?_
            refine lv_icmp_eq (tgt := 79) hx hb dX6_callRun_69 (by decide) (fun c_80 => ?_) (fun c_80 => ?_)
            · have hf := (zi_t c_80).symm.trans hf
              refine lv_iload_n hx hb dX6_callRun_79 rfl (lv_at hl 6 rfl) ?_
              refine lv_if_eq (tgt := 114) hx hb dX6_callRun_80 (by decide) (fun c_81 => ?_) (fun c_81 => ?_)
              · have hf := (zi_t c_81).symm.trans hf
                refine lv_aload_n hx hb dX6_callRun_114 rfl (lv_at hl 3 rfl) ?_
                refine lv_aload hx hb dX6_callRun_115 (lv_at hl 2 rfl) ?_
                refine lv_aload hx hb dX6_callRun_117 (lv_at hl 0 rfl) ?_
                refine lv_iload_n hx hb dX6_callRun_119 rfl (lv_at hl 5 rfl) ?_
                refine lv_aload hx hb dX6_callRun_120 (lv_at hl 1 rfl) ?_
                refine cr_getN (v := .ref (ad (9, 4 + 3 * i_67))) S hK hw 7 i_67 g_79 hX2 rfl rfl 3 (by decide) hN (List.mem_of_getElem? (i := 14) rfl) rfl rfl dX6_callRun_122 ?_
                obtain ⟨g_85, hf⟩ := zg_inv hf
                obtain ⟨r_82, t_83, e_84, hf⟩ := zb_inv hf
                refine cw_fi (va_runV (As := [.ref (ad (4, i_65)), .ref (ad (6, i_73)), .int x2, .ref (ad (9, 4 + 3 * i_67))]) (rest := []) S (kc_X6_call l D cy A ad en tI tS _ _ i_65 i_73 x2 (4 + 3 * i_67) _ e_84) (cwV 4 hts (wz_V (zin11 _ (List.mem_of_getElem? (i := 10) rfl)) (zin11 _ (List.mem_of_getElem? (i := 7) rfl)) (zin11 _ (List.mem_of_getElem? (i := 8) rfl)) (zin11 _ (List.mem_of_getElem? (i := 9) rfl)) (zin1 _ (List.mem_of_getElem? (i := 2) rfl))) rfl rfl rfl (by decide +kernel) ⟨Nat.le_of_ble_eq_true rfl, Nat.le_of_ble_eq_true rfl⟩) ⟨cw_blind _, zw_recv hK hw (g := (0, 0)) (cG_at g_85) rfl, cw_pre hC hw hS _⟩ rfl rfl hl.1 rfl (lv_room (Nat.le_of_ble_eq_true rfl)) dX6_callRun_125 ⟨Nat.zero_le _, Nat.zero_le _⟩) hS (fun H locs hw hS => ?_)
                refine lv_istore (lv' := [(7, .int r_82), (6, .ref (ad (6, i_73))), (5, .ref (ad (7, i_67))), (4, .ref (ad (4, i_65))), (0, .ref (ad (0, 0))), (1, .int x1), (2, .int x2), (3, .int x3)]) hx hb dX6_callRun_128 hl (by decide) rfl (fun ls hl => ?_)
                refine lv_iload hx hb dX6_callRun_130 (lv_at hl 0 rfl) ?_
                refine lv_if_eq (tgt := 142) hx hb dX6_callRun_132 (by decide) (fun c_86 => ?_) (fun c_86 => ?_)
                · have hf := (zi_t c_86).symm.trans hf
                  exact B142 _ i_65 i_67 i_73 r_82 _ _ _ hf hw hS (lv_sub hl [4, 5, 6, 7, 3, 2, 1, 0] rfl)
                · have hf := (zi_f c_86).symm.trans hf
                  refine lv_aload hx hb dX6_callRun_135 (lv_at hl 3 rfl) ?_
                  refine lv_aload hx hb dX6_callRun_137 (lv_at hl 1 rfl) ?_
                  obtain ⟨⟨⟩, t_88, e_89, hf⟩ := zb_inv hf
                  refine cw_fv (va_runS (As := [.ref (ad (4, i_65)), .ref (ad (6, i_73))]) (rest := []) S (kc_X6_react l D cy A ad en tI tS _ _ i_65 i_73 e_89) (va_cwS 2 hts (wz_S (zin15 _ (List.mem_of_getElem? (i := 17) rfl)) (zin15 _ (List.mem_of_getElem? (i := 15) rfl)) (zin15 _ (List.mem_of_getElem? (i := 16) rfl)) (zin1 _ (List.mem_of_getElem? (i := 2) rfl))) rfl rfl rfl (by decide +kernel) ⟨Nat.le_of_ble_eq_true rfl, Nat.le_of_ble_eq_true rfl⟩) ⟨cw_blind _, cw_pre hC hw hS _⟩ rfl rfl hl.1 rfl (lv_room (Nat.le_of_ble_eq_true rfl)) dX6_callRun_139 ⟨Nat.zero_le _, Nat.zero_le _⟩) hS (fun H locs hw hS => ?_)
                  exact B142 _ i_65 i_67 i_73 r_82 _ _ _ hf hw hS (lv_sub hl [4, 5, 6, 7, 3, 2, 1, 0] rfl)
              · have hf := (zi_f c_81).symm.trans hf
                refine lv_aload_n hx hb dX6_callRun_83 rfl (lv_at hl 3 rfl) ?_
                obtain ⟨g_90, hf⟩ := zg_inv hf
                refine cr_get (v := .ref (ad (1, 0))) S hK hw 0 0 g_90 hX6 rfl rfl 3 (by decide) (wz_in (zin2 _ (List.mem_of_getElem? (i := 12) rfl))) rfl rfl dX6_callRun_84 ?_
                refine lv_aload hx hb dX6_callRun_87 (lv_at hl 1 rfl) ?_
                refine cr_getN (v := .ref (ad (9, 4 + 3 * i_67))) S hK hw 7 i_67 g_79 hX2 rfl rfl 3 (by decide) hN (List.mem_of_getElem? (i := 14) rfl) rfl rfl dX6_callRun_89 ?_
                refine lv_aload hx hb dX6_callRun_92 (lv_at hl 2 rfl) ?_
                refine cr_getN (v := .ref (ad (8, 3 + i_65))) S hK hw 4 i_65 g_75 hX1 rfl rfl 0 (by decide) hN (List.mem_of_getElem? (i := 0) rfl) rfl rfl dX6_callRun_94 ?_
                refine lv_aload hx hb dX6_callRun_97 (lv_at hl 0 rfl) ?_
                refine cr_getN (v := .ref (ad (8, 11 + i_73))) S hK hw 6 i_73 g_77 hX4 rfl rfl 0 (by decide) hN (List.mem_of_getElem? (i := 15) rfl) rfl rfl dX6_callRun_99 ?_
                refine lv_aload_n hx hb dX6_callRun_102 rfl (lv_at hl 3 rfl) ?_
                refine cr_get (v := .int (ci t_70 0 0)) S hK hw 0 0 g_90 hX6 rfl rfl 0 (by decide) (wz_in (zin2 _ (List.mem_of_getElem? (i := 2) rfl))) rfl rfl dX6_callRun_103 ?_
                obtain ⟨g_94, hf⟩ := zg_inv hf
                obtain ⟨r_91, t_92, e_93, hf⟩ := zb_inv hf
                refine cw_fi (va_runVN (As := [.ref (ad (9, 4 + 3 * i_67)), .ref (ad (8, 3 + i_65)), .ref (ad (8, 11 + i_73)), .int (ci t_70 0 0)]) (rest := []) S (kc_X5_goOnCopies l D cy A ad en tI tS _ _ (4 + 3 * i_67) (3 + i_65) (11 + i_73) (ci t_70 0 0) _ e_93) ⟨va_cnB 4 hts (wz_gd (zin15 _ (List.mem_of_getElem? (i := 11) rfl))) rfl rfl rfl (hN.2 _ (List.mem_of_getElem? (i := 10) rfl)) (hts _ (wz_in (zin2 _ (List.mem_of_getElem? (i := 11) rfl)))) (by decide +kernel) ⟨Nat.le_of_ble_eq_true rfl, Nat.le_of_ble_eq_true rfl⟩, hts _ (wz_in (zin15 _ (List.mem_of_getElem? (i := 9) rfl))), hts _ (wz_in (zin15 _ (List.mem_of_getElem? (i := 10) rfl)))⟩ ⟨cw_blind _, zw_recv hK hw (g := (1, 0)) (cG_at g_94) rfl, cw_pre hC hw hS _⟩ rfl rfl hl.1 rfl (lv_room (Nat.le_of_ble_eq_true rfl)) dX6_callRun_106 ⟨Nat.zero_le _, Nat.zero_le _⟩) hS (fun H locs hw hS => ?_)
                refine lv_istore (lv' := [(7, .int r_91), (6, .ref (ad (6, i_73))), (5, .ref (ad (7, i_67))), (4, .ref (ad (4, i_65))), (0, .ref (ad (0, 0))), (1, .int x1), (2, .int x2), (3, .int x3)]) hx hb dX6_callRun_109 hl (by decide) rfl (fun ls hl => ?_)
                refine lv_goto (tgt := 142) hx hb dX6_callRun_111 (by decide) ?_
                exact B142 _ i_65 i_67 i_73 r_91 _ _ _ hf hw hS (lv_sub hl [4, 5, 6, 7, 3, 2, 1, 0] rfl)
            · have hf := (zi_f c_80).symm.trans hf
              exact B72 _ i_65 i_67 (some i_73) _ _ _ hf hw hS (lv_sub hl [3, 4, 5, 6, 2, 1, 0] rfl)
    · have hf := (zo_n o_68).symm.trans hf
      exact B24 _ (some i_65) r_61 _ _ _ hf hw hS (lv_sub hl [2, 3, 4, 5, 1, 0] rfl)
noncomputable def k_X6_power_s32 (x1 : Int32) (K : CS → Nat → Int32 → Option (Int32 × CS)) (τ : CS) (x2 : Nat) (x3 : Int32) : Option (Int32 × CS) := zg (cv τ 0 0 = true) (zi ((ci τ 6 0) < x3) (zg (cv τ 4 x2 = true) (some ((1 : Int32), cI τ 402 x2 (1 : Int32)))) (zb (k_X6_callStart τ x2 x3) (fun r_27 t_28 => zi (r_27 = 0) (K t_28 x2 (x3 + (1 : Int32))) (some ((10 : Int32) + r_27, t_28)))))
noncomputable def k_X6_power_l32 (x1 : Int32) : Nat → CS → Nat → Int32 → Option (Int32 × CS)
  | 0 => fun _ _ _ => none
  | n + 1 => fun τ x2 x3 => k_X6_power_s32 x1 (k_X6_power_l32 x1 n) τ x2 x3
theorem k_X6_power_l32_s (x1 : Int32) (n : Nat) (τ : CS) (x2 : Nat) (x3 : Int32) : k_X6_power_l32 x1 (n + 1) τ x2 x3 = k_X6_power_s32 x1 (k_X6_power_l32 x1 n) τ x2 x3 := rfl
theorem k_X6_power_l32_z (x1 : Int32) (τ : CS) (x2 : Nat) (x3 : Int32) : k_X6_power_l32 x1 0 τ x2 x3 = none := rfl
noncomputable def k_X6_power (τ : CS) (x1 : Int32) : Option (Int32 × CS) := zg (cv τ 0 0 = true) (zb (k_X6_controllerAt τ x1) (fun r_31 t_32 => zo (r_31) (zg (cv t_32 0 0 = true) (zb (k_X6_refuse t_32 (-1 : Int32)) (fun r_37 t_38 => some (r_37, t_38)))) (fun i_35 => zg (cv t_32 4 i_35 = true) (zi ((ci t_32 402 i_35) = 0) (k_X6_power_l32 x1 FU t_32 i_35 (1 : Int32)) (zg (cv t_32 0 0 = true) (zb (k_X6_refuse t_32 (-3 : Int32)) (fun r_43 t_44 => some (r_43, t_44))))))))
set_option maxHeartbeats 4000000 in
set_option maxRecDepth 100000 in
theorem kc_X6_power (l : Launch) (D : va_G) (cy : Nat → ClassId) (A : Nat → Prop) (ad : Nat × Nat → Nat) (en : Nat → Nat) (tI tS : Nat) (τ τ' : CS) (x1 : Int32) (r : Int32) (hf : k_X6_power τ x1 = some (r, τ')) : Met l yX6_power (wz yX6_power cX6_power 5 (some .int)) ({ frames := 7, cells := 0, slots := 0, locals := 171 } : Room) (va_Pc [.ref (ad (0, 0)), .int x1] (CWs D cy A ad en tI tS τ)) (va_Qi (fun (r' : Int32) (u : CS) => r' = r ∧ u = τ') (CWp D cy A ad) A) 0 0 A := by
  refine Met.ofW (cc := cX6_power) (maxL := 5) (ret := (some .int)) (by decide) rfl ?_
  intro p e s m args below meth c s₁ B hml hv
  obtain ⟨rfl, hw, hC⟩ := hv
  have hK := hC.1
  have hN := hC.2.1
  have hx := B.exec
  have hb := B.bytes
  have hr := B.returns
  have hts := atoms_spec (ws := (wz yX6_power cX6_power 5 (some .int))) B.pre
  have hown : s.vm.findClass RX6 = some m.cls := findClass_of_methodNamed B.named
  have hlocks := B.notSynchronized
  have S : CallFix p m c cX6_power 5 s ([.ref (ad (0, 0)), .int x1] : List Value).toArray (wz yX6_power cX6_power 5 (some .int)) RX6 := ⟨hx, hb, hml, hown, hts⟩
  have hX1 : ∀ w ∈ wsX10, w ∈ (wz yX6_power cX6_power 5 (some .int)) := fun w h => wz_in (inlX1 w h)
  have hX2 : ∀ w ∈ wsX20, w ∈ (wz yX6_power cX6_power 5 (some .int)) := fun w h => wz_in (inlX2 w h)
  have hX4 : ∀ w ∈ wsX40, w ∈ (wz yX6_power cX6_power 5 (some .int)) := fun w h => wz_in (inlX4 w h)
  have hX5 : ∀ w ∈ wsX50, w ∈ (wz yX6_power cX6_power 5 (some .int)) := fun w h => wz_in (inlX5 w h)
  have hX6 : ∀ w ∈ wsX60, w ∈ (wz yX6_power cX6_power 5 (some .int)) := fun w h => wz_in (inlX6 w h)
  have hS : va_S A s.heap s.heap [] := va_S.rf
  have hl := lv_entry ([.ref (ad (0, 0)), .int x1]) (n := 5) (Nat.le_of_ble_eq_true rfl)
  rw [lg_entry_eq]
  generalize (lg_sl ([.ref (ad (0, 0)), .int x1]) ++ List.replicate (5 - (lg_sl ([.ref (ad (0, 0)), .int x1])).length) Slot.unset).toArray = ls at hl ⊢
  have hl : lv_has ls 5 [(0, .ref (ad (0, 0))), (1, .int x1)] := hl
  have S32 : ∀ (K : CS → Nat → Int32 → Option (Int32 × CS)) (_hKK : ∀ (τ : CS) (x2 : Nat) (x3 : Int32) (H : Heap) (locs : List Loc) (ls : Array Slot) (hf : K τ x2 x3 = some (r, τ')) (hw : zw D A ad (cG cy ad τ) H) (hS : va_S A s.heap H locs) (hl : lv_has ls 5 [(0, .ref (ad (0, 0))), (1, .int x1), (2, .ref (ad (4, x2))), (3, .int x3)]), W p l e (headSpec (wz yX6_power cX6_power 5 (some .int)) ({ frames := 7, cells := 0, slots := 0, locals := 171 } : Room)).room s m ([.ref (ad (0, 0)), .int x1] : List Value).toArray below meth c H locs 0 0 (MQ below (va_Qi (fun (r' : Int32) (u : CS) => r' = r ∧ u = τ') (CWp D cy A ad) A) ([.ref (ad (0, 0)), .int x1] : List Value).toArray s 0 0 A) (F0 m 32 ls [])) (τ : CS) (x2 : Nat) (x3 : Int32) (H : Heap) (locs : List Loc) (ls : Array Slot) (hf : k_X6_power_s32 x1 K τ x2 x3 = some (r, τ')) (hw : zw D A ad (cG cy ad τ) H) (hS : va_S A s.heap H locs) (hl : lv_has ls 5 [(0, .ref (ad (0, 0))), (1, .int x1), (2, .ref (ad (4, x2))), (3, .int x3)]), W p l e (headSpec (wz yX6_power cX6_power 5 (some .int)) ({ frames := 7, cells := 0, slots := 0, locals := 171 } : Room)).room s m ([.ref (ad (0, 0)), .int x1] : List Value).toArray below meth c H locs 0 0 (MQ below (va_Qi (fun (r' : Int32) (u : CS) => r' = r ∧ u = τ') (CWp D cy A ad) A) ([.ref (ad (0, 0)), .int x1] : List Value).toArray s 0 0 A) (F0 m 32 ls []) := by
    intro K hKK τ x2 x3 H locs ls hf hw hS hl
    rw [k_X6_power_s32] at hf
    refine lv_iload_n hx hb dX6_power_32 rfl (lv_at hl 3 rfl) ?_
    refine lv_aload_n hx hb dX6_power_33 rfl (lv_at hl 0 rfl) ?_
    obtain ⟨g_24, hf⟩ := zg_inv hf
    refine cr_get (v := .int (ci τ 6 0)) S hK hw 0 0 g_24 hX6 rfl rfl 6 (by decide) (wz_in (zin6 _ (List.mem_of_getElem? (i := 12) rfl))) rfl rfl dX6_power_34 ?_
    refine lv_icmp_gt (tgt := 65) hx hb dX6_power_37 (by decide) (fun c_25 => ?_) (fun c_25 => ?_)
    · have hf := (zi_t c_25).symm.trans hf
      refine lv_aload_n hx hb dX6_power_65 rfl (lv_at hl 2 rfl) ?_
      refine lv_iconst (v := (1 : Int32)) hx hb dX6_power_66 (by decide) ?_
      obtain ⟨g_26, hf⟩ := zg_inv hf
      refine cr_putN (v := .int (1 : Int32)) (σ1 := cI τ 402 x2 (1 : Int32)) S hK hw hS 4 x2 g_26 hX1 tyX1 tyX1_ok nmX1 rfl rfl 2 (by decide) hN (List.mem_of_getElem? (i := 1) rfl) rfl rfl rfl rfl (Nat.le_of_ble_eq_true rfl) dX6_power_67 rfl (cput_402 _ _ _ _ _) (cout_402 _ _ _ _ _) (fun H locs hw hS => ?_)
      refine lv_iconst (v := (1 : Int32)) hx hb dX6_power_70 (by decide) ?_
      exact cw_reti S hr hf hw hS hlocks dX6_power_71
    · have hf := (zi_f c_25).symm.trans hf
      refine lv_aload_n hx hb dX6_power_40 rfl (lv_at hl 0 rfl) ?_
      refine lv_aload_n hx hb dX6_power_41 rfl (lv_at hl 2 rfl) ?_
      refine lv_iload_n hx hb dX6_power_42 rfl (lv_at hl 3 rfl) ?_
      obtain ⟨r_27, t_28, e_29, hf⟩ := zb_inv hf
      refine cw_fi (va_runV (As := [.ref (ad (4, x2)), .int x3]) (rest := []) S (kc_X6_callStart l D cy A ad en tI tS _ _ x2 x3 _ e_29) (cwV 2 hts (wz_V (zin11 _ (List.mem_of_getElem? (i := 6) rfl)) (zin11 _ (List.mem_of_getElem? (i := 3) rfl)) (zin11 _ (List.mem_of_getElem? (i := 4) rfl)) (zin11 _ (List.mem_of_getElem? (i := 5) rfl)) (zin1 _ (List.mem_of_getElem? (i := 2) rfl))) rfl rfl rfl (by decide +kernel) ⟨Nat.le_of_ble_eq_true rfl, Nat.le_of_ble_eq_true rfl⟩) ⟨cw_blind _, zw_recv hK hw (g := (0, 0)) (cG_at g_24) rfl, cw_pre hC hw hS _⟩ rfl rfl hl.1 rfl (lv_room (Nat.le_of_ble_eq_true rfl)) dX6_power_43 ⟨Nat.zero_le _, Nat.zero_le _⟩) hS (fun H locs hw hS => ?_)
      refine lv_istore (lv' := [(4, .int r_27), (0, .ref (ad (0, 0))), (1, .int x1), (2, .ref (ad (4, x2))), (3, .int x3)]) hx hb dX6_power_46 hl (by decide) rfl (fun ls hl => ?_)
      refine lv_iload hx hb dX6_power_48 (lv_at hl 0 rfl) ?_
      refine lv_if_eq (tgt := 59) hx hb dX6_power_50 (by decide) (fun c_30 => ?_) (fun c_30 => ?_)
      · have hf := (zi_t c_30).symm.trans hf
        refine lv_iinc (v := x3 + (1 : Int32)) (lv' := [(3, .int (x3 + (1 : Int32))), (4, .int r_27), (0, .ref (ad (0, 0))), (1, .int x1), (2, .ref (ad (4, x2)))]) hx hb dX6_power_59 hl (k := 4) rfl rfl (by decide) rfl (fun ls hl => ?_)
        refine lv_goto (tgt := 32) hx hb dX6_power_62 (by decide) ?_
        exact hKK _ x2 (x3 + (1 : Int32)) _ _ _ hf hw hS (lv_sub hl [2, 3, 4, 0] rfl)
      · have hf := (zi_f c_30).symm.trans hf
        refine lv_bipush (v := (10 : Int32)) hx hb dX6_power_53 (by decide) ?_
        refine lv_iload hx hb dX6_power_55 (lv_at hl 0 rfl) ?_
        refine lv_iadd hx hb dX6_power_57 ?_
        exact cw_reti S hr hf hw hS hlocks dX6_power_58
  have L32 : ∀ (n : Nat) (τ : CS) (x2 : Nat) (x3 : Int32) (H : Heap) (locs : List Loc) (ls : Array Slot) (hf : k_X6_power_l32 x1 n τ x2 x3 = some (r, τ')) (hw : zw D A ad (cG cy ad τ) H) (hS : va_S A s.heap H locs) (hl : lv_has ls 5 [(0, .ref (ad (0, 0))), (1, .int x1), (2, .ref (ad (4, x2))), (3, .int x3)]), W p l e (headSpec (wz yX6_power cX6_power 5 (some .int)) ({ frames := 7, cells := 0, slots := 0, locals := 171 } : Room)).room s m ([.ref (ad (0, 0)), .int x1] : List Value).toArray below meth c H locs 0 0 (MQ below (va_Qi (fun (r' : Int32) (u : CS) => r' = r ∧ u = τ') (CWp D cy A ad) A) ([.ref (ad (0, 0)), .int x1] : List Value).toArray s 0 0 A) (F0 m 32 ls []) := by
    intro n
    induction n with
    | zero =>
      intro τ x2 x3 H locs ls hf hw hS hl
      rw [k_X6_power_l32_z] at hf
      cases hf
    | succ n ih =>
      intro τ x2 x3 H locs ls hf hw hS hl
      rw [k_X6_power_l32_s] at hf
      exact S32 (k_X6_power_l32 x1 n) ih τ x2 x3 H locs ls hf hw hS hl
  rw [k_X6_power] at hf
  refine lv_aload_n hx hb dX6_power_0 rfl (lv_at hl 0 rfl) ?_
  refine lv_iload_n hx hb dX6_power_1 rfl (lv_at hl 1 rfl) ?_
  obtain ⟨g_34, hf⟩ := zg_inv hf
  obtain ⟨r_31, t_32, e_33, hf⟩ := zb_inv hf
  refine cw_fq (kd := 4) (va_runV (As := [.int x1]) (rest := []) S (kc_X6_controllerAt l D cy A ad en tI tS _ _ x1 _ e_33) (cwV 1 hts (wz_V (zin9 _ (List.mem_of_getElem? (i := 15) rfl)) (zin9 _ (List.mem_of_getElem? (i := 12) rfl)) (zin9 _ (List.mem_of_getElem? (i := 13) rfl)) (zin9 _ (List.mem_of_getElem? (i := 14) rfl)) (zin1 _ (List.mem_of_getElem? (i := 2) rfl))) rfl rfl rfl (by decide +kernel) ⟨Nat.le_of_ble_eq_true rfl, Nat.le_of_ble_eq_true rfl⟩) ⟨cw_blind _, zw_recv hK hw (g := (0, 0)) (cG_at g_34) rfl, cw_pre hC hw hS _⟩ rfl rfl hl.1 rfl (lv_room (Nat.le_of_ble_eq_true rfl)) dX6_power_2 ⟨Nat.zero_le _, Nat.zero_le _⟩) hS (fun H locs hw hS => ?_)
  refine zr_astore_n (lv' := [(2, rn ad 4 r_31), (0, .ref (ad (0, 0))), (1, .int x1)]) hx hb dX6_power_5 rfl hl (by decide) (by first | rfl | simp [zcat]) (fun ls hl => ?_)
  refine zr_aload_n hx hb dX6_power_6 rfl (lv_at hl 0 rfl) ?_
  refine zr_ifnonnull (kd := 4) (o := r_31) hx hb dX6_power_7 (tgt := 16) (by decide) (fun i_35 o_36 => ?_) (fun o_36 => ?_)
  · have hf := (zo_s o_36).symm.trans hf
    rw [o_36] at hl
    have hl : lv_has ls 5 [(2, .ref (ad (4, i_35))), (0, .ref (ad (0, 0))), (1, .int x1)] := hl
    refine lv_aload_n hx hb dX6_power_16 rfl (lv_at hl 0 rfl) ?_
    obtain ⟨g_41, hf⟩ := zg_inv hf
    refine cr_getN (v := .int (ci t_32 402 i_35)) S hK hw 4 i_35 g_41 hX1 rfl rfl 2 (by decide) hN (List.mem_of_getElem? (i := 1) rfl) rfl rfl dX6_power_17 ?_
    refine lv_if_eq (tgt := 30) hx hb dX6_power_20 (by decide) (fun c_42 => ?_) (fun c_42 => ?_)
    · have hf := (zi_t c_42).symm.trans hf
      refine lv_iconst (v := (1 : Int32)) hx hb dX6_power_30 (by decide) ?_
      refine lv_istore_n (lv' := [(3, .int (1 : Int32)), (2, .ref (ad (4, i_35))), (0, .ref (ad (0, 0))), (1, .int x1)]) hx hb dX6_power_31 rfl hl (by decide) rfl (fun ls hl => ?_)
      exact L32 FU _ i_35 (1 : Int32) _ _ _ hf hw hS (lv_sub hl [2, 3, 1, 0] rfl)
    · have hf := (zi_f c_42).symm.trans hf
      refine lv_aload_n hx hb dX6_power_23 rfl (lv_at hl 1 rfl) ?_
      refine lv_bipush (v := (-3 : Int32)) hx hb dX6_power_24 (by decide) ?_
      obtain ⟨g_46, hf⟩ := zg_inv hf
      obtain ⟨r_43, t_44, e_45, hf⟩ := zb_inv hf
      refine cw_fi (va_runV (As := [.int (-3 : Int32)]) (rest := []) S (kc_X6_refuse l D cy A ad en tI tS _ _ (-3 : Int32) _ e_45) (cwV 1 hts (wz_V (zin4 _ (List.mem_of_getElem? (i := 22) rfl)) (zin4 _ (List.mem_of_getElem? (i := 19) rfl)) (zin4 _ (List.mem_of_getElem? (i := 20) rfl)) (zin4 _ (List.mem_of_getElem? (i := 21) rfl)) (zin1 _ (List.mem_of_getElem? (i := 2) rfl))) rfl rfl rfl (by decide +kernel) ⟨Nat.le_of_ble_eq_true rfl, Nat.le_of_ble_eq_true rfl⟩) ⟨cw_blind _, zw_recv hK hw (g := (0, 0)) (cG_at g_46) rfl, cw_pre hC hw hS _⟩ rfl rfl hl.1 rfl (lv_room (Nat.le_of_ble_eq_true rfl)) dX6_power_26 ⟨Nat.zero_le _, Nat.zero_le _⟩) hS (fun H locs hw hS => ?_)
      exact cw_reti S hr hf hw hS hlocks dX6_power_29
  · have hf := (zo_n o_36).symm.trans hf
    refine lv_aload_n hx hb dX6_power_10 rfl (lv_at hl 1 rfl) ?_
    refine lv_iconst (v := (-1 : Int32)) hx hb dX6_power_11 (by decide) ?_
    obtain ⟨g_40, hf⟩ := zg_inv hf
    obtain ⟨r_37, t_38, e_39, hf⟩ := zb_inv hf
    refine cw_fi (va_runV (As := [.int (-1 : Int32)]) (rest := []) S (kc_X6_refuse l D cy A ad en tI tS _ _ (-1 : Int32) _ e_39) (cwV 1 hts (wz_V (zin4 _ (List.mem_of_getElem? (i := 22) rfl)) (zin4 _ (List.mem_of_getElem? (i := 19) rfl)) (zin4 _ (List.mem_of_getElem? (i := 20) rfl)) (zin4 _ (List.mem_of_getElem? (i := 21) rfl)) (zin1 _ (List.mem_of_getElem? (i := 2) rfl))) rfl rfl rfl (by decide +kernel) ⟨Nat.le_of_ble_eq_true rfl, Nat.le_of_ble_eq_true rfl⟩) ⟨cw_blind _, zw_recv hK hw (g := (0, 0)) (cG_at g_40) rfl, cw_pre hC hw hS _⟩ rfl rfl hl.1 rfl (lv_room (Nat.le_of_ble_eq_true rfl)) dX6_power_12 ⟨Nat.zero_le _, Nat.zero_le _⟩) hS (fun H locs hw hS => ?_)
    exact cw_reti S hr hf hw hS hlocks dX6_power_15
noncomputable def k_X6_run (τ : CS) (x1 : Int32) (x2 : Int32) : Option (Int32 × CS) := zg (cv τ 0 0 = true) (zb (k_X6_callRun τ x1 x2 (0 : Int32)) (fun r_5 t_6 => some (r_5, t_6)))
set_option maxHeartbeats 4000000 in
set_option maxRecDepth 100000 in
theorem kc_X6_run (l : Launch) (D : va_G) (cy : Nat → ClassId) (A : Nat → Prop) (ad : Nat × Nat → Nat) (en : Nat → Nat) (tI tS : Nat) (τ τ' : CS) (x1 : Int32) (x2 : Int32) (r : Int32) (hf : k_X6_run τ x1 x2 = some (r, τ')) : Met l yX6_run (wz yX6_run cX6_run 3 (some .int)) ({ frames := 7, cells := 0, slots := 0, locals := 174 } : Room) (va_Pc [.ref (ad (0, 0)), .int x1, .int x2] (CWs D cy A ad en tI tS τ)) (va_Qi (fun (r' : Int32) (u : CS) => r' = r ∧ u = τ') (CWp D cy A ad) A) 0 0 A := by
  refine Met.ofW (cc := cX6_run) (maxL := 3) (ret := (some .int)) (by decide) rfl ?_
  intro p e s m args below meth c s₁ B hml hv
  obtain ⟨rfl, hw, hC⟩ := hv
  have hK := hC.1
  have hN := hC.2.1
  have hx := B.exec
  have hb := B.bytes
  have hr := B.returns
  have hts := atoms_spec (ws := (wz yX6_run cX6_run 3 (some .int))) B.pre
  have hown : s.vm.findClass RX6 = some m.cls := findClass_of_methodNamed B.named
  have hlocks := B.notSynchronized
  have S : CallFix p m c cX6_run 3 s ([.ref (ad (0, 0)), .int x1, .int x2] : List Value).toArray (wz yX6_run cX6_run 3 (some .int)) RX6 := ⟨hx, hb, hml, hown, hts⟩
  have hX1 : ∀ w ∈ wsX10, w ∈ (wz yX6_run cX6_run 3 (some .int)) := fun w h => wz_in (inlX1 w h)
  have hX2 : ∀ w ∈ wsX20, w ∈ (wz yX6_run cX6_run 3 (some .int)) := fun w h => wz_in (inlX2 w h)
  have hX4 : ∀ w ∈ wsX40, w ∈ (wz yX6_run cX6_run 3 (some .int)) := fun w h => wz_in (inlX4 w h)
  have hX5 : ∀ w ∈ wsX50, w ∈ (wz yX6_run cX6_run 3 (some .int)) := fun w h => wz_in (inlX5 w h)
  have hX6 : ∀ w ∈ wsX60, w ∈ (wz yX6_run cX6_run 3 (some .int)) := fun w h => wz_in (inlX6 w h)
  have hS : va_S A s.heap s.heap [] := va_S.rf
  have hl := lv_entry ([.ref (ad (0, 0)), .int x1, .int x2]) (n := 3) (Nat.le_of_ble_eq_true rfl)
  rw [lg_entry_eq]
  generalize (lg_sl ([.ref (ad (0, 0)), .int x1, .int x2]) ++ List.replicate (3 - (lg_sl ([.ref (ad (0, 0)), .int x1, .int x2])).length) Slot.unset).toArray = ls at hl ⊢
  have hl : lv_has ls 3 [(0, .ref (ad (0, 0))), (1, .int x1), (2, .int x2)] := hl
  rw [k_X6_run] at hf
  refine lv_aload_n hx hb dX6_run_0 rfl (lv_at hl 0 rfl) ?_
  refine lv_iload_n hx hb dX6_run_1 rfl (lv_at hl 1 rfl) ?_
  refine lv_iload_n hx hb dX6_run_2 rfl (lv_at hl 2 rfl) ?_
  refine lv_iconst (v := (0 : Int32)) hx hb dX6_run_3 (by decide) ?_
  obtain ⟨g_8, hf⟩ := zg_inv hf
  obtain ⟨r_5, t_6, e_7, hf⟩ := zb_inv hf
  refine cw_fi (va_runV (As := [.int x1, .int x2, .int (0 : Int32)]) (rest := []) S (kc_X6_callRun l D cy A ad en tI tS _ _ x1 x2 (0 : Int32) _ e_7) (cwV 3 hts (wz_V (zin15 _ (List.mem_of_getElem? (i := 8) rfl)) (zin15 _ (List.mem_of_getElem? (i := 5) rfl)) (zin15 _ (List.mem_of_getElem? (i := 6) rfl)) (zin15 _ (List.mem_of_getElem? (i := 7) rfl)) (zin1 _ (List.mem_of_getElem? (i := 2) rfl))) rfl rfl rfl (by decide +kernel) ⟨Nat.le_of_ble_eq_true rfl, Nat.le_of_ble_eq_true rfl⟩) ⟨cw_blind _, zw_recv hK hw (g := (0, 0)) (cG_at g_8) rfl, cw_pre hC hw hS _⟩ rfl rfl hl.1 rfl (lv_room (Nat.le_of_ble_eq_true rfl)) dX6_run_4 ⟨Nat.zero_le _, Nat.zero_le _⟩) hS (fun H locs hw hS => ?_)
  exact cw_reti S hr hf hw hS hlocks dX6_run_7
noncomputable def k_X6_beside (τ : CS) (x1 : Int32) (x2 : Int32) : Option (Int32 × CS) := zg (cv τ 0 0 = true) (zb (k_X6_callRun τ x1 x2 (1 : Int32)) (fun r_5 t_6 => some (r_5, t_6)))
set_option maxHeartbeats 4000000 in
set_option maxRecDepth 100000 in
theorem kc_X6_beside (l : Launch) (D : va_G) (cy : Nat → ClassId) (A : Nat → Prop) (ad : Nat × Nat → Nat) (en : Nat → Nat) (tI tS : Nat) (τ τ' : CS) (x1 : Int32) (x2 : Int32) (r : Int32) (hf : k_X6_beside τ x1 x2 = some (r, τ')) : Met l yX6_beside (wz yX6_beside cX6_beside 3 (some .int)) ({ frames := 7, cells := 0, slots := 0, locals := 174 } : Room) (va_Pc [.ref (ad (0, 0)), .int x1, .int x2] (CWs D cy A ad en tI tS τ)) (va_Qi (fun (r' : Int32) (u : CS) => r' = r ∧ u = τ') (CWp D cy A ad) A) 0 0 A := by
  refine Met.ofW (cc := cX6_beside) (maxL := 3) (ret := (some .int)) (by decide) rfl ?_
  intro p e s m args below meth c s₁ B hml hv
  obtain ⟨rfl, hw, hC⟩ := hv
  have hK := hC.1
  have hN := hC.2.1
  have hx := B.exec
  have hb := B.bytes
  have hr := B.returns
  have hts := atoms_spec (ws := (wz yX6_beside cX6_beside 3 (some .int))) B.pre
  have hown : s.vm.findClass RX6 = some m.cls := findClass_of_methodNamed B.named
  have hlocks := B.notSynchronized
  have S : CallFix p m c cX6_beside 3 s ([.ref (ad (0, 0)), .int x1, .int x2] : List Value).toArray (wz yX6_beside cX6_beside 3 (some .int)) RX6 := ⟨hx, hb, hml, hown, hts⟩
  have hX1 : ∀ w ∈ wsX10, w ∈ (wz yX6_beside cX6_beside 3 (some .int)) := fun w h => wz_in (inlX1 w h)
  have hX2 : ∀ w ∈ wsX20, w ∈ (wz yX6_beside cX6_beside 3 (some .int)) := fun w h => wz_in (inlX2 w h)
  have hX4 : ∀ w ∈ wsX40, w ∈ (wz yX6_beside cX6_beside 3 (some .int)) := fun w h => wz_in (inlX4 w h)
  have hX5 : ∀ w ∈ wsX50, w ∈ (wz yX6_beside cX6_beside 3 (some .int)) := fun w h => wz_in (inlX5 w h)
  have hX6 : ∀ w ∈ wsX60, w ∈ (wz yX6_beside cX6_beside 3 (some .int)) := fun w h => wz_in (inlX6 w h)
  have hS : va_S A s.heap s.heap [] := va_S.rf
  have hl := lv_entry ([.ref (ad (0, 0)), .int x1, .int x2]) (n := 3) (Nat.le_of_ble_eq_true rfl)
  rw [lg_entry_eq]
  generalize (lg_sl ([.ref (ad (0, 0)), .int x1, .int x2]) ++ List.replicate (3 - (lg_sl ([.ref (ad (0, 0)), .int x1, .int x2])).length) Slot.unset).toArray = ls at hl ⊢
  have hl : lv_has ls 3 [(0, .ref (ad (0, 0))), (1, .int x1), (2, .int x2)] := hl
  rw [k_X6_beside] at hf
  refine lv_aload_n hx hb dX6_beside_0 rfl (lv_at hl 0 rfl) ?_
  refine lv_iload_n hx hb dX6_beside_1 rfl (lv_at hl 1 rfl) ?_
  refine lv_iload_n hx hb dX6_beside_2 rfl (lv_at hl 2 rfl) ?_
  refine lv_iconst (v := (1 : Int32)) hx hb dX6_beside_3 (by decide) ?_
  obtain ⟨g_8, hf⟩ := zg_inv hf
  obtain ⟨r_5, t_6, e_7, hf⟩ := zb_inv hf
  refine cw_fi (va_runV (As := [.int x1, .int x2, .int (1 : Int32)]) (rest := []) S (kc_X6_callRun l D cy A ad en tI tS _ _ x1 x2 (1 : Int32) _ e_7) (cwV 3 hts (wz_V (zin15 _ (List.mem_of_getElem? (i := 8) rfl)) (zin15 _ (List.mem_of_getElem? (i := 5) rfl)) (zin15 _ (List.mem_of_getElem? (i := 6) rfl)) (zin15 _ (List.mem_of_getElem? (i := 7) rfl)) (zin1 _ (List.mem_of_getElem? (i := 2) rfl))) rfl rfl rfl (by decide +kernel) ⟨Nat.le_of_ble_eq_true rfl, Nat.le_of_ble_eq_true rfl⟩) ⟨cw_blind _, zw_recv hK hw (g := (0, 0)) (cG_at g_8) rfl, cw_pre hC hw hS _⟩ rfl rfl hl.1 rfl (lv_room (Nat.le_of_ble_eq_true rfl)) dX6_beside_4 ⟨Nat.zero_le _, Nat.zero_le _⟩) hS (fun H locs hw hS => ?_)
  exact cw_reti S hr hf hw hS hlocks dX6_beside_7
noncomputable def k_X6_port_b22 (x1 : Int32) (x2 : Int32) (τ : CS) (y0 : Int64) (x3 : Option Nat) : Option (Int64 × CS) := some (y0, τ)
noncomputable def k_X6_port (τ : CS) (x1 : Int32) (x2 : Int32) : Option (Int64 × CS) := zg (cv τ 0 0 = true) (zb (k_X6_controllerAt τ x1) (fun r_11 t_12 => zo (r_11) (k_X6_port_b22 x1 x2 t_12 (0 : Int64) r_11) (fun i_15 => zg (cv t_12 4 i_15 = true) (zb (k_X6_numberAt t_12 (3 + i_15) x2) (fun r_18 t_19 => k_X6_port_b22 x1 x2 t_19 r_18 (some i_15))))))
set_option maxHeartbeats 4000000 in
set_option maxRecDepth 100000 in
theorem kc_X6_port (l : Launch) (D : va_G) (cy : Nat → ClassId) (A : Nat → Prop) (ad : Nat × Nat → Nat) (en : Nat → Nat) (tI tS : Nat) (τ τ' : CS) (x1 : Int32) (x2 : Int32) (r : Int64) (hf : k_X6_port τ x1 x2 = some (r, τ')) : Met l yX6_port (wz yX6_port cX6_port 4 (some .long)) ({ frames := 1, cells := 0, slots := 0, locals := 21 } : Room) (va_Pc [.ref (ad (0, 0)), .int x1, .int x2] (CWs D cy A ad en tI tS τ)) (va_Ql (fun (r' : Int64) (u : CS) => r' = r ∧ u = τ') (CWp D cy A ad) A) 0 0 A := by
  refine Met.ofW (cc := cX6_port) (maxL := 4) (ret := (some .long)) (by decide) rfl ?_
  intro p e s m args below meth c s₁ B hml hv
  obtain ⟨rfl, hw, hC⟩ := hv
  have hK := hC.1
  have hN := hC.2.1
  have hx := B.exec
  have hb := B.bytes
  have hr := B.returns
  have hts := atoms_spec (ws := (wz yX6_port cX6_port 4 (some .long))) B.pre
  have hown : s.vm.findClass RX6 = some m.cls := findClass_of_methodNamed B.named
  have hlocks := B.notSynchronized
  have S : CallFix p m c cX6_port 4 s ([.ref (ad (0, 0)), .int x1, .int x2] : List Value).toArray (wz yX6_port cX6_port 4 (some .long)) RX6 := ⟨hx, hb, hml, hown, hts⟩
  have hX1 : ∀ w ∈ wsX10, w ∈ (wz yX6_port cX6_port 4 (some .long)) := fun w h => wz_in (inlX1 w h)
  have hX2 : ∀ w ∈ wsX20, w ∈ (wz yX6_port cX6_port 4 (some .long)) := fun w h => wz_in (inlX2 w h)
  have hX4 : ∀ w ∈ wsX40, w ∈ (wz yX6_port cX6_port 4 (some .long)) := fun w h => wz_in (inlX4 w h)
  have hX5 : ∀ w ∈ wsX50, w ∈ (wz yX6_port cX6_port 4 (some .long)) := fun w h => wz_in (inlX5 w h)
  have hX6 : ∀ w ∈ wsX60, w ∈ (wz yX6_port cX6_port 4 (some .long)) := fun w h => wz_in (inlX6 w h)
  have hS : va_S A s.heap s.heap [] := va_S.rf
  have hl := lv_entry ([.ref (ad (0, 0)), .int x1, .int x2]) (n := 4) (Nat.le_of_ble_eq_true rfl)
  rw [lg_entry_eq]
  generalize (lg_sl ([.ref (ad (0, 0)), .int x1, .int x2]) ++ List.replicate (4 - (lg_sl ([.ref (ad (0, 0)), .int x1, .int x2])).length) Slot.unset).toArray = ls at hl ⊢
  have hl : lv_has ls 4 [(0, .ref (ad (0, 0))), (1, .int x1), (2, .int x2)] := hl
  have B22 : ∀ (τ : CS) (y0 : Int64) (x3 : Option Nat) (H : Heap) (locs : List Loc) (ls : Array Slot) (hf : k_X6_port_b22 x1 x2 τ y0 x3 = some (r, τ')) (hw : zw D A ad (cG cy ad τ) H) (hS : va_S A s.heap H locs) (hl : lv_has ls 4 [(0, .ref (ad (0, 0))), (1, .int x1), (2, .int x2), (3, rn ad 4 x3)]), W p l e (headSpec (wz yX6_port cX6_port 4 (some .long)) ({ frames := 1, cells := 0, slots := 0, locals := 21 } : Room)).room s m ([.ref (ad (0, 0)), .int x1, .int x2] : List Value).toArray below meth c H locs 0 0 (MQ below (va_Ql (fun (r' : Int64) (u : CS) => r' = r ∧ u = τ') (CWp D cy A ad) A) ([.ref (ad (0, 0)), .int x1, .int x2] : List Value).toArray s 0 0 A) (F0 m 22 ls [.long y0]) := by
    intro τ y0 x3 H locs ls hf hw hS hl
    rw [k_X6_port_b22] at hf
    exact cw_retl S hr hf hw hS hlocks dX6_port_22
  rw [k_X6_port] at hf
  refine lv_aload_n hx hb dX6_port_0 rfl (lv_at hl 0 rfl) ?_
  refine lv_iload_n hx hb dX6_port_1 rfl (lv_at hl 1 rfl) ?_
  obtain ⟨g_14, hf⟩ := zg_inv hf
  obtain ⟨r_11, t_12, e_13, hf⟩ := zb_inv hf
  refine cw_fq (kd := 4) (va_runV (As := [.int x1]) (rest := []) S (kc_X6_controllerAt l D cy A ad en tI tS _ _ x1 _ e_13) (cwV 1 hts (wz_V (zin9 _ (List.mem_of_getElem? (i := 15) rfl)) (zin9 _ (List.mem_of_getElem? (i := 12) rfl)) (zin9 _ (List.mem_of_getElem? (i := 13) rfl)) (zin9 _ (List.mem_of_getElem? (i := 14) rfl)) (zin1 _ (List.mem_of_getElem? (i := 2) rfl))) rfl rfl rfl (by decide +kernel) ⟨Nat.le_of_ble_eq_true rfl, Nat.le_of_ble_eq_true rfl⟩) ⟨cw_blind _, zw_recv hK hw (g := (0, 0)) (cG_at g_14) rfl, cw_pre hC hw hS _⟩ rfl rfl hl.1 rfl (lv_room (Nat.le_of_ble_eq_true rfl)) dX6_port_2 ⟨Nat.zero_le _, Nat.zero_le _⟩) hS (fun H locs hw hS => ?_)
  refine zr_astore_n (lv' := [(3, rn ad 4 r_11), (0, .ref (ad (0, 0))), (1, .int x1), (2, .int x2)]) hx hb dX6_port_5 rfl hl (by decide) (by first | rfl | simp [zcat]) (fun ls hl => ?_)
  refine zr_aload_n hx hb dX6_port_6 rfl (lv_at hl 0 rfl) ?_
  refine zr_ifnonnull (kd := 4) (o := r_11) hx hb dX6_port_7 (tgt := 14) (by decide) (fun i_15 o_16 => ?_) (fun o_16 => ?_)
  · have hf := (zo_s o_16).symm.trans hf
    rw [o_16] at hl
    have hl : lv_has ls 4 [(3, .ref (ad (4, i_15))), (0, .ref (ad (0, 0))), (1, .int x1), (2, .int x2)] := hl
    refine lv_aload_n hx hb dX6_port_14 rfl (lv_at hl 0 rfl) ?_
    obtain ⟨g_17, hf⟩ := zg_inv hf
    refine cr_getN (v := .ref (ad (8, 3 + i_15))) S hK hw 4 i_15 g_17 hX1 rfl rfl 0 (by decide) hN (List.mem_of_getElem? (i := 0) rfl) rfl rfl dX6_port_15 ?_
    refine lv_iload_n hx hb dX6_port_18 rfl (lv_at hl 3 rfl) ?_
    obtain ⟨r_18, t_19, e_20, hf⟩ := zb_inv hf
    refine cw_fl (va_runS (As := [.ref (ad (8, 3 + i_15)), .int x2]) (rest := []) S (kc_X6_numberAt l D cy A ad en tI tS _ _ (3 + i_15) x2 _ e_20) (va_cwS 2 hts (wz_S (zin12 _ (List.mem_of_getElem? (i := 17) rfl)) (zin16 _ (List.mem_of_getElem? (i := 18) rfl)) (zin12 _ (List.mem_of_getElem? (i := 16) rfl)) (zin1 _ (List.mem_of_getElem? (i := 2) rfl))) rfl rfl rfl (by decide +kernel) ⟨Nat.le_of_ble_eq_true rfl, Nat.le_of_ble_eq_true rfl⟩) ⟨cw_blind _, cw_pre hC hw hS _⟩ rfl rfl hl.1 rfl (lv_room (Nat.le_of_ble_eq_true rfl)) dX6_port_19 ⟨Nat.zero_le _, Nat.zero_le _⟩) hS (fun H locs hw hS => ?_)
    exact B22 _ r_18 (some i_15) _ _ _ hf hw hS (lv_sub hl [1, 2, 3, 0] rfl)
  · have hf := (zo_n o_16).symm.trans hf
    refine lv_lconst (v := (0 : Int64)) hx hb dX6_port_10 (by decide) ?_
    refine lv_goto (tgt := 22) hx hb dX6_port_11 (by decide) ?_
    exact B22 _ (0 : Int64) r_11 _ _ _ hf hw hS (lv_sub hl [1, 2, 3, 0] rfl)
noncomputable def k_X6_set_b26 (x1 : Int32) (x2 : Int32) (x3 : Int64) (τ : CS) (x5 : Option Nat) : Option (Int32 × CS) := zg (cv τ 0 0 = true) (zb (k_X6_refuse τ (-1 : Int32)) (fun r_18 t_19 => some (r_18, t_19)))
noncomputable def k_X6_set (τ : CS) (x1 : Int32) (x2 : Int32) (x3 : Int64) : Option (Int32 × CS) := zg (cv τ 0 0 = true) (zb (k_X6_controllerAt τ x1) (fun r_22 t_23 => zo (r_22) (k_X6_set_b26 x1 x2 x3 t_23 r_22) (fun i_26 => zi (x2 < 0) (k_X6_set_b26 x1 x2 x3 t_23 (some i_26)) (zg (cv t_23 4 i_26 = true) (zg (cv t_23 8 (3 + i_26) = true) (zi (x2 < (nI (jl (3 + i_26)))) (zb (k_X6_putNumber t_23 (3 + i_26) x2 x3) (fun _ t_33 => some ((1 : Int32), t_33))) (k_X6_set_b26 x1 x2 x3 t_23 (some i_26))))))))
set_option maxHeartbeats 4000000 in
set_option maxRecDepth 100000 in
theorem kc_X6_set (l : Launch) (D : va_G) (cy : Nat → ClassId) (A : Nat → Prop) (ad : Nat × Nat → Nat) (en : Nat → Nat) (tI tS : Nat) (τ τ' : CS) (x1 : Int32) (x2 : Int32) (x3 : Int64) (r : Int32) (hf : k_X6_set τ x1 x2 x3 = some (r, τ')) : Met l yX6_set (wz yX6_set cX6_set 6 (some .int)) ({ frames := 1, cells := 0, slots := 0, locals := 23 } : Room) (va_Pc [.ref (ad (0, 0)), .int x1, .int x2, .long x3] (CWs D cy A ad en tI tS τ)) (va_Qi (fun (r' : Int32) (u : CS) => r' = r ∧ u = τ') (CWp D cy A ad) A) 0 0 A := by
  refine Met.ofW (cc := cX6_set) (maxL := 6) (ret := (some .int)) (by decide) rfl ?_
  intro p e s m args below meth c s₁ B hml hv
  obtain ⟨rfl, hw, hC⟩ := hv
  have hK := hC.1
  have hN := hC.2.1
  have hx := B.exec
  have hb := B.bytes
  have hr := B.returns
  have hts := atoms_spec (ws := (wz yX6_set cX6_set 6 (some .int))) B.pre
  have hown : s.vm.findClass RX6 = some m.cls := findClass_of_methodNamed B.named
  have hlocks := B.notSynchronized
  have S : CallFix p m c cX6_set 6 s ([.ref (ad (0, 0)), .int x1, .int x2, .long x3] : List Value).toArray (wz yX6_set cX6_set 6 (some .int)) RX6 := ⟨hx, hb, hml, hown, hts⟩
  have hX1 : ∀ w ∈ wsX10, w ∈ (wz yX6_set cX6_set 6 (some .int)) := fun w h => wz_in (inlX1 w h)
  have hX2 : ∀ w ∈ wsX20, w ∈ (wz yX6_set cX6_set 6 (some .int)) := fun w h => wz_in (inlX2 w h)
  have hX4 : ∀ w ∈ wsX40, w ∈ (wz yX6_set cX6_set 6 (some .int)) := fun w h => wz_in (inlX4 w h)
  have hX5 : ∀ w ∈ wsX50, w ∈ (wz yX6_set cX6_set 6 (some .int)) := fun w h => wz_in (inlX5 w h)
  have hX6 : ∀ w ∈ wsX60, w ∈ (wz yX6_set cX6_set 6 (some .int)) := fun w h => wz_in (inlX6 w h)
  have hS : va_S A s.heap s.heap [] := va_S.rf
  have hl := lv_entry ([.ref (ad (0, 0)), .int x1, .int x2, .long x3]) (n := 6) (Nat.le_of_ble_eq_true rfl)
  rw [lg_entry_eq]
  generalize (lg_sl ([.ref (ad (0, 0)), .int x1, .int x2, .long x3]) ++ List.replicate (6 - (lg_sl ([.ref (ad (0, 0)), .int x1, .int x2, .long x3])).length) Slot.unset).toArray = ls at hl ⊢
  have hl : lv_has ls 6 [(0, .ref (ad (0, 0))), (1, .int x1), (2, .int x2), (3, .long x3)] := hl
  have B26 : ∀ (τ : CS) (x5 : Option Nat) (H : Heap) (locs : List Loc) (ls : Array Slot) (hf : k_X6_set_b26 x1 x2 x3 τ x5 = some (r, τ')) (hw : zw D A ad (cG cy ad τ) H) (hS : va_S A s.heap H locs) (hl : lv_has ls 6 [(0, .ref (ad (0, 0))), (1, .int x1), (2, .int x2), (3, .long x3), (5, rn ad 4 x5)]), W p l e (headSpec (wz yX6_set cX6_set 6 (some .int)) ({ frames := 1, cells := 0, slots := 0, locals := 23 } : Room)).room s m ([.ref (ad (0, 0)), .int x1, .int x2, .long x3] : List Value).toArray below meth c H locs 0 0 (MQ below (va_Qi (fun (r' : Int32) (u : CS) => r' = r ∧ u = τ') (CWp D cy A ad) A) ([.ref (ad (0, 0)), .int x1, .int x2, .long x3] : List Value).toArray s 0 0 A) (F0 m 26 ls []) := by
    intro τ x5 H locs ls hf hw hS hl
    rw [k_X6_set_b26] at hf
    refine lv_aload_n hx hb dX6_set_26 rfl (lv_at hl 0 rfl) ?_
    refine lv_iconst (v := (-1 : Int32)) hx hb dX6_set_27 (by decide) ?_
    obtain ⟨g_21, hf⟩ := zg_inv hf
    obtain ⟨r_18, t_19, e_20, hf⟩ := zb_inv hf
    refine cw_fi (va_runV (As := [.int (-1 : Int32)]) (rest := []) S (kc_X6_refuse l D cy A ad en tI tS _ _ (-1 : Int32) _ e_20) (cwV 1 hts (wz_V (zin4 _ (List.mem_of_getElem? (i := 22) rfl)) (zin4 _ (List.mem_of_getElem? (i := 19) rfl)) (zin4 _ (List.mem_of_getElem? (i := 20) rfl)) (zin4 _ (List.mem_of_getElem? (i := 21) rfl)) (zin1 _ (List.mem_of_getElem? (i := 2) rfl))) rfl rfl rfl (by decide +kernel) ⟨Nat.le_of_ble_eq_true rfl, Nat.le_of_ble_eq_true rfl⟩) ⟨cw_blind _, zw_recv hK hw (g := (0, 0)) (cG_at g_21) rfl, cw_pre hC hw hS _⟩ rfl rfl hl.1 rfl (lv_room (Nat.le_of_ble_eq_true rfl)) dX6_set_28 ⟨Nat.zero_le _, Nat.zero_le _⟩) hS (fun H locs hw hS => ?_)
    exact cw_reti S hr hf hw hS hlocks dX6_set_31
  rw [k_X6_set] at hf
  refine lv_aload_n hx hb dX6_set_0 rfl (lv_at hl 0 rfl) ?_
  refine lv_iload_n hx hb dX6_set_1 rfl (lv_at hl 1 rfl) ?_
  obtain ⟨g_25, hf⟩ := zg_inv hf
  obtain ⟨r_22, t_23, e_24, hf⟩ := zb_inv hf
  refine cw_fq (kd := 4) (va_runV (As := [.int x1]) (rest := []) S (kc_X6_controllerAt l D cy A ad en tI tS _ _ x1 _ e_24) (cwV 1 hts (wz_V (zin9 _ (List.mem_of_getElem? (i := 15) rfl)) (zin9 _ (List.mem_of_getElem? (i := 12) rfl)) (zin9 _ (List.mem_of_getElem? (i := 13) rfl)) (zin9 _ (List.mem_of_getElem? (i := 14) rfl)) (zin1 _ (List.mem_of_getElem? (i := 2) rfl))) rfl rfl rfl (by decide +kernel) ⟨Nat.le_of_ble_eq_true rfl, Nat.le_of_ble_eq_true rfl⟩) ⟨cw_blind _, zw_recv hK hw (g := (0, 0)) (cG_at g_25) rfl, cw_pre hC hw hS _⟩ rfl rfl hl.1 rfl (lv_room (Nat.le_of_ble_eq_true rfl)) dX6_set_2 ⟨Nat.zero_le _, Nat.zero_le _⟩) hS (fun H locs hw hS => ?_)
  refine zr_astore (lv' := [(5, rn ad 4 r_22), (0, .ref (ad (0, 0))), (1, .int x1), (2, .int x2), (3, .long x3)]) hx hb dX6_set_5 hl (by decide) (by first | rfl | simp [zcat]) (fun ls hl => ?_)
  refine zr_aload hx hb dX6_set_7 (lv_at hl 0 rfl) ?_
  refine zr_ifnull (kd := 4) (o := r_22) hx hb dX6_set_9 (tgt := 26) (by decide) (fun o_27 => ?_) (fun i_26 o_27 => ?_)
  · have hf := (zo_n o_27).symm.trans hf
    exact B26 _ r_22 _ _ _ hf hw hS (lv_sub hl [1, 2, 3, 4, 0] rfl)
  · have hf := (zo_s o_27).symm.trans hf
    rw [o_27] at hl
    have hl : lv_has ls 6 [(5, .ref (ad (4, i_26))), (0, .ref (ad (0, 0))), (1, .int x1), (2, .int x2), (3, .long x3)] := hl
    refine lv_iload_n hx hb dX6_set_12 rfl (lv_at hl 3 rfl) ?_
    refine lv_if_lt (tgt := 26) hx hb dX6_set_13 (by decide) (fun c_28 => ?_) (fun c_28 => ?_)
    · have hf := (zi_t c_28).symm.trans hf
      exact B26 _ (some i_26) _ _ _ hf hw hS (lv_sub hl [1, 2, 3, 4, 0] rfl)
    · have hf := (zi_f c_28).symm.trans hf
      refine lv_iload_n hx hb dX6_set_16 rfl (lv_at hl 3 rfl) ?_
      refine lv_aload hx hb dX6_set_17 (lv_at hl 0 rfl) ?_
      obtain ⟨g_29, hf⟩ := zg_inv hf
      refine cr_getN (v := .ref (ad (8, 3 + i_26))) S hK hw 4 i_26 g_29 hX1 rfl rfl 0 (by decide) hN (List.mem_of_getElem? (i := 0) rfl) rfl rfl dX6_set_19 ?_
      obtain ⟨g_30, hf⟩ := zg_inv hf
      refine cr_alen (v := nI (jl (3 + i_26))) S hK hw 8 (3 + i_26) 2 g_30 rfl rfl rfl dX6_set_22 ?_
      refine lv_icmp_lt (tgt := 32) hx hb dX6_set_23 (by decide) (fun c_31 => ?_) (fun c_31 => ?_)
      · have hf := (zi_t c_31).symm.trans hf
        refine lv_aload hx hb dX6_set_32 (lv_at hl 0 rfl) ?_
        refine cr_getN (v := .ref (ad (8, 3 + i_26))) S hK hw 4 i_26 g_29 hX1 rfl rfl 0 (by decide) hN (List.mem_of_getElem? (i := 0) rfl) rfl rfl dX6_set_34 ?_
        refine lv_iload_n hx hb dX6_set_37 rfl (lv_at hl 3 rfl) ?_
        refine lv_lload_n hx hb dX6_set_38 rfl (lv_at hl 4 rfl) ?_
        obtain ⟨⟨⟩, t_33, e_34, hf⟩ := zb_inv hf
        refine cw_fv (va_runS (As := [.ref (ad (8, 3 + i_26)), .int x2, .long x3]) (rest := []) S (kc_X6_putNumber l D cy A ad en tI tS _ _ (3 + i_26) x2 x3 e_34) (va_cwS 3 hts (wz_S (zin12 _ (List.mem_of_getElem? (i := 23) rfl)) (zin17 _ (List.mem_of_getElem? (i := 3) rfl)) (zin12 _ (List.mem_of_getElem? (i := 22) rfl)) (zin1 _ (List.mem_of_getElem? (i := 2) rfl))) rfl rfl rfl (by decide +kernel) ⟨Nat.le_of_ble_eq_true rfl, Nat.le_of_ble_eq_true rfl⟩) ⟨cw_blind _, cw_pre hC hw hS _⟩ rfl rfl hl.1 rfl (lv_room (Nat.le_of_ble_eq_true rfl)) dX6_set_39 ⟨Nat.zero_le _, Nat.zero_le _⟩) hS (fun H locs hw hS => ?_)
        refine lv_iconst (v := (1 : Int32)) hx hb dX6_set_42 (by decide) ?_
        exact cw_reti S hr hf hw hS hlocks dX6_set_43
      · have hf := (zi_f c_31).symm.trans hf
        exact B26 _ (some i_26) _ _ _ hf hw hS (lv_sub hl [1, 2, 3, 4, 0] rfl)
noncomputable def k_X6_cell_b26 (x1 : Int32) (x2 : Int32) (x3 : Int32) (τ : CS) (y0 : Int64) (x4 : Option Nat) : Option (Int64 × CS) := some (y0, τ)
noncomputable def k_X6_cell (τ : CS) (x1 : Int32) (x2 : Int32) (x3 : Int32) : Option (Int64 × CS) := zg (cv τ 0 0 = true) (zb (k_X6_classAt τ x1 x2) (fun r_11 t_12 => zo (r_11) (k_X6_cell_b26 x1 x2 x3 t_12 (0 : Int64) r_11) (fun i_15 => zg (cv t_12 6 i_15 = true) (zb (k_X6_numberAt t_12 (11 + i_15) x3) (fun r_18 t_19 => k_X6_cell_b26 x1 x2 x3 t_19 r_18 (some i_15))))))
set_option maxHeartbeats 4000000 in
set_option maxRecDepth 100000 in
theorem kc_X6_cell (l : Launch) (D : va_G) (cy : Nat → ClassId) (A : Nat → Prop) (ad : Nat × Nat → Nat) (en : Nat → Nat) (tI tS : Nat) (τ τ' : CS) (x1 : Int32) (x2 : Int32) (x3 : Int32) (r : Int64) (hf : k_X6_cell τ x1 x2 x3 = some (r, τ')) : Met l yX6_cell (wz yX6_cell cX6_cell 5 (some .long)) ({ frames := 2, cells := 0, slots := 0, locals := 44 } : Room) (va_Pc [.ref (ad (0, 0)), .int x1, .int x2, .int x3] (CWs D cy A ad en tI tS τ)) (va_Ql (fun (r' : Int64) (u : CS) => r' = r ∧ u = τ') (CWp D cy A ad) A) 0 0 A := by
  refine Met.ofW (cc := cX6_cell) (maxL := 5) (ret := (some .long)) (by decide) rfl ?_
  intro p e s m args below meth c s₁ B hml hv
  obtain ⟨rfl, hw, hC⟩ := hv
  have hK := hC.1
  have hN := hC.2.1
  have hx := B.exec
  have hb := B.bytes
  have hr := B.returns
  have hts := atoms_spec (ws := (wz yX6_cell cX6_cell 5 (some .long))) B.pre
  have hown : s.vm.findClass RX6 = some m.cls := findClass_of_methodNamed B.named
  have hlocks := B.notSynchronized
  have S : CallFix p m c cX6_cell 5 s ([.ref (ad (0, 0)), .int x1, .int x2, .int x3] : List Value).toArray (wz yX6_cell cX6_cell 5 (some .long)) RX6 := ⟨hx, hb, hml, hown, hts⟩
  have hX1 : ∀ w ∈ wsX10, w ∈ (wz yX6_cell cX6_cell 5 (some .long)) := fun w h => wz_in (inlX1 w h)
  have hX2 : ∀ w ∈ wsX20, w ∈ (wz yX6_cell cX6_cell 5 (some .long)) := fun w h => wz_in (inlX2 w h)
  have hX4 : ∀ w ∈ wsX40, w ∈ (wz yX6_cell cX6_cell 5 (some .long)) := fun w h => wz_in (inlX4 w h)
  have hX5 : ∀ w ∈ wsX50, w ∈ (wz yX6_cell cX6_cell 5 (some .long)) := fun w h => wz_in (inlX5 w h)
  have hX6 : ∀ w ∈ wsX60, w ∈ (wz yX6_cell cX6_cell 5 (some .long)) := fun w h => wz_in (inlX6 w h)
  have hS : va_S A s.heap s.heap [] := va_S.rf
  have hl := lv_entry ([.ref (ad (0, 0)), .int x1, .int x2, .int x3]) (n := 5) (Nat.le_of_ble_eq_true rfl)
  rw [lg_entry_eq]
  generalize (lg_sl ([.ref (ad (0, 0)), .int x1, .int x2, .int x3]) ++ List.replicate (5 - (lg_sl ([.ref (ad (0, 0)), .int x1, .int x2, .int x3])).length) Slot.unset).toArray = ls at hl ⊢
  have hl : lv_has ls 5 [(0, .ref (ad (0, 0))), (1, .int x1), (2, .int x2), (3, .int x3)] := hl
  have B26 : ∀ (τ : CS) (y0 : Int64) (x4 : Option Nat) (H : Heap) (locs : List Loc) (ls : Array Slot) (hf : k_X6_cell_b26 x1 x2 x3 τ y0 x4 = some (r, τ')) (hw : zw D A ad (cG cy ad τ) H) (hS : va_S A s.heap H locs) (hl : lv_has ls 5 [(0, .ref (ad (0, 0))), (1, .int x1), (2, .int x2), (3, .int x3), (4, rn ad 6 x4)]), W p l e (headSpec (wz yX6_cell cX6_cell 5 (some .long)) ({ frames := 2, cells := 0, slots := 0, locals := 44 } : Room)).room s m ([.ref (ad (0, 0)), .int x1, .int x2, .int x3] : List Value).toArray below meth c H locs 0 0 (MQ below (va_Ql (fun (r' : Int64) (u : CS) => r' = r ∧ u = τ') (CWp D cy A ad) A) ([.ref (ad (0, 0)), .int x1, .int x2, .int x3] : List Value).toArray s 0 0 A) (F0 m 26 ls [.long y0]) := by
    intro τ y0 x4 H locs ls hf hw hS hl
    rw [k_X6_cell_b26] at hf
    exact cw_retl S hr hf hw hS hlocks dX6_cell_26
  rw [k_X6_cell] at hf
  refine lv_aload_n hx hb dX6_cell_0 rfl (lv_at hl 0 rfl) ?_
  refine lv_iload_n hx hb dX6_cell_1 rfl (lv_at hl 1 rfl) ?_
  refine lv_iload_n hx hb dX6_cell_2 rfl (lv_at hl 2 rfl) ?_
  obtain ⟨g_14, hf⟩ := zg_inv hf
  obtain ⟨r_11, t_12, e_13, hf⟩ := zb_inv hf
  refine cw_fq (kd := 6) (va_runV (As := [.int x1, .int x2]) (rest := []) S (kc_X6_classAt l D cy A ad en tI tS _ _ x1 x2 _ e_13) (cwV 2 hts (wz_V (zin17 _ (List.mem_of_getElem? (i := 15) rfl)) (zin17 _ (List.mem_of_getElem? (i := 12) rfl)) (zin17 _ (List.mem_of_getElem? (i := 13) rfl)) (zin17 _ (List.mem_of_getElem? (i := 14) rfl)) (zin1 _ (List.mem_of_getElem? (i := 2) rfl))) rfl rfl rfl (by decide +kernel) ⟨Nat.le_of_ble_eq_true rfl, Nat.le_of_ble_eq_true rfl⟩) ⟨cw_blind _, zw_recv hK hw (g := (0, 0)) (cG_at g_14) rfl, cw_pre hC hw hS _⟩ rfl rfl hl.1 rfl (lv_room (Nat.le_of_ble_eq_true rfl)) dX6_cell_3 ⟨Nat.zero_le _, Nat.zero_le _⟩) hS (fun H locs hw hS => ?_)
  refine zr_astore (lv' := [(4, rn ad 6 r_11), (0, .ref (ad (0, 0))), (1, .int x1), (2, .int x2), (3, .int x3)]) hx hb dX6_cell_6 hl (by decide) (by first | rfl | simp [zcat]) (fun ls hl => ?_)
  refine zr_aload hx hb dX6_cell_8 (lv_at hl 0 rfl) ?_
  refine zr_ifnonnull (kd := 6) (o := r_11) hx hb dX6_cell_10 (tgt := 17) (by decide) (fun i_15 o_16 => ?_) (fun o_16 => ?_)
  · have hf := (zo_s o_16).symm.trans hf
    rw [o_16] at hl
    have hl : lv_has ls 5 [(4, .ref (ad (6, i_15))), (0, .ref (ad (0, 0))), (1, .int x1), (2, .int x2), (3, .int x3)] := hl
    refine lv_aload hx hb dX6_cell_17 (lv_at hl 0 rfl) ?_
    obtain ⟨g_17, hf⟩ := zg_inv hf
    refine cr_getN (v := .ref (ad (8, 11 + i_15))) S hK hw 6 i_15 g_17 hX4 rfl rfl 0 (by decide) hN (List.mem_of_getElem? (i := 15) rfl) rfl rfl dX6_cell_19 ?_
    refine lv_iload_n hx hb dX6_cell_22 rfl (lv_at hl 4 rfl) ?_
    obtain ⟨r_18, t_19, e_20, hf⟩ := zb_inv hf
    refine cw_fl (va_runS (As := [.ref (ad (8, 11 + i_15)), .int x3]) (rest := []) S (kc_X6_numberAt l D cy A ad en tI tS _ _ (11 + i_15) x3 _ e_20) (va_cwS 2 hts (wz_S (zin12 _ (List.mem_of_getElem? (i := 17) rfl)) (zin16 _ (List.mem_of_getElem? (i := 18) rfl)) (zin12 _ (List.mem_of_getElem? (i := 16) rfl)) (zin1 _ (List.mem_of_getElem? (i := 2) rfl))) rfl rfl rfl (by decide +kernel) ⟨Nat.le_of_ble_eq_true rfl, Nat.le_of_ble_eq_true rfl⟩) ⟨cw_blind _, cw_pre hC hw hS _⟩ rfl rfl hl.1 rfl (lv_room (Nat.le_of_ble_eq_true rfl)) dX6_cell_23 ⟨Nat.zero_le _, Nat.zero_le _⟩) hS (fun H locs hw hS => ?_)
    exact B26 _ r_18 (some i_15) _ _ _ hf hw hS (lv_sub hl [1, 2, 3, 4, 0] rfl)
  · have hf := (zo_n o_16).symm.trans hf
    refine lv_lconst (v := (0 : Int64)) hx hb dX6_cell_13 (by decide) ?_
    refine lv_goto (tgt := 26) hx hb dX6_cell_14 (by decide) ?_
    exact B26 _ (0 : Int64) r_11 _ _ _ hf hw hS (lv_sub hl [1, 2, 3, 4, 0] rfl)
noncomputable def k_X6_reaction_b25 (x1 : Int32) (x2 : Int32) (τ : CS) (x3 : Nat) : Option (Int32 × CS) := zg (cv τ 0 0 = true) (zb (k_X6_refuse τ (-2 : Int32)) (fun r_18 t_19 => some (r_18, t_19)))
noncomputable def k_X6_reaction (τ : CS) (x1 : Int32) (x2 : Int32) : Option (Int32 × CS) := zg (cv τ 0 0 = true) (zb (k_X6_controllerAt τ x1) (fun r_22 t_23 => zo (r_22) (zg (cv t_23 0 0 = true) (zb (k_X6_refuse t_23 (-1 : Int32)) (fun r_28 t_29 => some (r_28, t_29)))) (fun i_26 => zi (x2 < 0) (k_X6_reaction_b25 x1 x2 t_23 i_26) (zi (x2 ≤ (2 : Int32)) (zg (cv t_23 4 i_26 = true) (some (ci t_23 403 i_26, cI t_23 403 i_26 x2))) (k_X6_reaction_b25 x1 x2 t_23 i_26)))))
set_option maxHeartbeats 4000000 in
set_option maxRecDepth 100000 in
theorem kc_X6_reaction (l : Launch) (D : va_G) (cy : Nat → ClassId) (A : Nat → Prop) (ad : Nat × Nat → Nat) (en : Nat → Nat) (tI tS : Nat) (τ τ' : CS) (x1 : Int32) (x2 : Int32) (r : Int32) (hf : k_X6_reaction τ x1 x2 = some (r, τ')) : Met l yX6_reaction (wz yX6_reaction cX6_reaction 5 (some .int)) ({ frames := 1, cells := 0, slots := 0, locals := 21 } : Room) (va_Pc [.ref (ad (0, 0)), .int x1, .int x2] (CWs D cy A ad en tI tS τ)) (va_Qi (fun (r' : Int32) (u : CS) => r' = r ∧ u = τ') (CWp D cy A ad) A) 0 0 A := by
  refine Met.ofW (cc := cX6_reaction) (maxL := 5) (ret := (some .int)) (by decide) rfl ?_
  intro p e s m args below meth c s₁ B hml hv
  obtain ⟨rfl, hw, hC⟩ := hv
  have hK := hC.1
  have hN := hC.2.1
  have hx := B.exec
  have hb := B.bytes
  have hr := B.returns
  have hts := atoms_spec (ws := (wz yX6_reaction cX6_reaction 5 (some .int))) B.pre
  have hown : s.vm.findClass RX6 = some m.cls := findClass_of_methodNamed B.named
  have hlocks := B.notSynchronized
  have S : CallFix p m c cX6_reaction 5 s ([.ref (ad (0, 0)), .int x1, .int x2] : List Value).toArray (wz yX6_reaction cX6_reaction 5 (some .int)) RX6 := ⟨hx, hb, hml, hown, hts⟩
  have hX1 : ∀ w ∈ wsX10, w ∈ (wz yX6_reaction cX6_reaction 5 (some .int)) := fun w h => wz_in (inlX1 w h)
  have hX2 : ∀ w ∈ wsX20, w ∈ (wz yX6_reaction cX6_reaction 5 (some .int)) := fun w h => wz_in (inlX2 w h)
  have hX4 : ∀ w ∈ wsX40, w ∈ (wz yX6_reaction cX6_reaction 5 (some .int)) := fun w h => wz_in (inlX4 w h)
  have hX5 : ∀ w ∈ wsX50, w ∈ (wz yX6_reaction cX6_reaction 5 (some .int)) := fun w h => wz_in (inlX5 w h)
  have hX6 : ∀ w ∈ wsX60, w ∈ (wz yX6_reaction cX6_reaction 5 (some .int)) := fun w h => wz_in (inlX6 w h)
  have hS : va_S A s.heap s.heap [] := va_S.rf
  have hl := lv_entry ([.ref (ad (0, 0)), .int x1, .int x2]) (n := 5) (Nat.le_of_ble_eq_true rfl)
  rw [lg_entry_eq]
  generalize (lg_sl ([.ref (ad (0, 0)), .int x1, .int x2]) ++ List.replicate (5 - (lg_sl ([.ref (ad (0, 0)), .int x1, .int x2])).length) Slot.unset).toArray = ls at hl ⊢
  have hl : lv_has ls 5 [(0, .ref (ad (0, 0))), (1, .int x1), (2, .int x2)] := hl
  have B25 : ∀ (τ : CS) (x3 : Nat) (H : Heap) (locs : List Loc) (ls : Array Slot) (hf : k_X6_reaction_b25 x1 x2 τ x3 = some (r, τ')) (hw : zw D A ad (cG cy ad τ) H) (hS : va_S A s.heap H locs) (hl : lv_has ls 5 [(0, .ref (ad (0, 0))), (1, .int x1), (2, .int x2), (3, .ref (ad (4, x3)))]), W p l e (headSpec (wz yX6_reaction cX6_reaction 5 (some .int)) ({ frames := 1, cells := 0, slots := 0, locals := 21 } : Room)).room s m ([.ref (ad (0, 0)), .int x1, .int x2] : List Value).toArray below meth c H locs 0 0 (MQ below (va_Qi (fun (r' : Int32) (u : CS) => r' = r ∧ u = τ') (CWp D cy A ad) A) ([.ref (ad (0, 0)), .int x1, .int x2] : List Value).toArray s 0 0 A) (F0 m 25 ls []) := by
    intro τ x3 H locs ls hf hw hS hl
    rw [k_X6_reaction_b25] at hf
    refine lv_aload_n hx hb dX6_reaction_25 rfl (lv_at hl 0 rfl) ?_
    refine lv_bipush (v := (-2 : Int32)) hx hb dX6_reaction_26 (by decide) ?_
    obtain ⟨g_21, hf⟩ := zg_inv hf
    obtain ⟨r_18, t_19, e_20, hf⟩ := zb_inv hf
    refine cw_fi (va_runV (As := [.int (-2 : Int32)]) (rest := []) S (kc_X6_refuse l D cy A ad en tI tS _ _ (-2 : Int32) _ e_20) (cwV 1 hts (wz_V (zin4 _ (List.mem_of_getElem? (i := 22) rfl)) (zin4 _ (List.mem_of_getElem? (i := 19) rfl)) (zin4 _ (List.mem_of_getElem? (i := 20) rfl)) (zin4 _ (List.mem_of_getElem? (i := 21) rfl)) (zin1 _ (List.mem_of_getElem? (i := 2) rfl))) rfl rfl rfl (by decide +kernel) ⟨Nat.le_of_ble_eq_true rfl, Nat.le_of_ble_eq_true rfl⟩) ⟨cw_blind _, zw_recv hK hw (g := (0, 0)) (cG_at g_21) rfl, cw_pre hC hw hS _⟩ rfl rfl hl.1 rfl (lv_room (Nat.le_of_ble_eq_true rfl)) dX6_reaction_28 ⟨Nat.zero_le _, Nat.zero_le _⟩) hS (fun H locs hw hS => ?_)
    exact cw_reti S hr hf hw hS hlocks dX6_reaction_31
  rw [k_X6_reaction] at hf
  refine lv_aload_n hx hb dX6_reaction_0 rfl (lv_at hl 0 rfl) ?_
  refine lv_iload_n hx hb dX6_reaction_1 rfl (lv_at hl 1 rfl) ?_
  obtain ⟨g_25, hf⟩ := zg_inv hf
  obtain ⟨r_22, t_23, e_24, hf⟩ := zb_inv hf
  refine cw_fq (kd := 4) (va_runV (As := [.int x1]) (rest := []) S (kc_X6_controllerAt l D cy A ad en tI tS _ _ x1 _ e_24) (cwV 1 hts (wz_V (zin9 _ (List.mem_of_getElem? (i := 15) rfl)) (zin9 _ (List.mem_of_getElem? (i := 12) rfl)) (zin9 _ (List.mem_of_getElem? (i := 13) rfl)) (zin9 _ (List.mem_of_getElem? (i := 14) rfl)) (zin1 _ (List.mem_of_getElem? (i := 2) rfl))) rfl rfl rfl (by decide +kernel) ⟨Nat.le_of_ble_eq_true rfl, Nat.le_of_ble_eq_true rfl⟩) ⟨cw_blind _, zw_recv hK hw (g := (0, 0)) (cG_at g_25) rfl, cw_pre hC hw hS _⟩ rfl rfl hl.1 rfl (lv_room (Nat.le_of_ble_eq_true rfl)) dX6_reaction_2 ⟨Nat.zero_le _, Nat.zero_le _⟩) hS (fun H locs hw hS => ?_)
  refine zr_astore_n (lv' := [(3, rn ad 4 r_22), (0, .ref (ad (0, 0))), (1, .int x1), (2, .int x2)]) hx hb dX6_reaction_5 rfl hl (by decide) (by first | rfl | simp [zcat]) (fun ls hl => ?_)
  refine zr_aload_n hx hb dX6_reaction_6 rfl (lv_at hl 0 rfl) ?_
  refine zr_ifnonnull (kd := 4) (o := r_22) hx hb dX6_reaction_7 (tgt := 16) (by decide) (fun i_26 o_27 => ?_) (fun o_27 => ?_)
  · have hf := (zo_s o_27).symm.trans hf
    rw [o_27] at hl
    have hl : lv_has ls 5 [(3, .ref (ad (4, i_26))), (0, .ref (ad (0, 0))), (1, .int x1), (2, .int x2)] := hl
    refine lv_iload_n hx hb dX6_reaction_16 rfl (lv_at hl 3 rfl) ?_
    refine lv_if_lt (tgt := 25) hx hb dX6_reaction_17 (by decide) (fun c_32 => ?_) (fun c_32 => ?_)
    · have hf := (zi_t c_32).symm.trans hf
      exact B25 _ i_26 _ _ _ hf hw hS (lv_sub hl [1, 2, 3, 0] rfl)
    · have hf := (zi_f c_32).symm.trans hf
      refine lv_iload_n hx hb dX6_reaction_20 rfl (lv_at hl 3 rfl) ?_
      refine lv_iconst (v := (2 : Int32)) hx hb dX6_reaction_21 (by decide) ?_
      refine lv_icmp_le (tgt := 32) hx hb dX6_reaction_22 (by decide) (fun c_33 => ?_) (fun c_33 => ?_)
      · have hf := (zi_t c_33).symm.trans hf
        refine lv_aload_n hx hb dX6_reaction_32 rfl (lv_at hl 0 rfl) ?_
        obtain ⟨g_34, hf⟩ := zg_inv hf
        refine cr_getN (v := .int (ci t_23 403 i_26)) S hK hw 4 i_26 g_34 hX1 rfl rfl 3 (by decide) hN (List.mem_of_getElem? (i := 2) rfl) rfl rfl dX6_reaction_33 ?_
        refine lv_istore (lv' := [(4, .int (ci t_23 403 i_26)), (3, .ref (ad (4, i_26))), (0, .ref (ad (0, 0))), (1, .int x1), (2, .int x2)]) hx hb dX6_reaction_36 hl (by decide) rfl (fun ls hl => ?_)
        refine lv_aload_n hx hb dX6_reaction_38 rfl (lv_at hl 1 rfl) ?_
        refine lv_iload_n hx hb dX6_reaction_39 rfl (lv_at hl 4 rfl) ?_
        refine cr_putN (v := .int x2) (σ1 := cI t_23 403 i_26 x2) S hK hw hS 4 i_26 g_34 hX1 tyX1 tyX1_ok nmX1 rfl rfl 3 (by decide) hN (List.mem_of_getElem? (i := 2) rfl) rfl rfl rfl rfl (Nat.le_of_ble_eq_true rfl) dX6_reaction_40 rfl (cput_403 _ _ _ _ _) (cout_403 _ _ _ _ _) (fun H locs hw hS => ?_)
        refine lv_iload hx hb dX6_reaction_43 (lv_at hl 0 rfl) ?_
        exact cw_reti S hr hf hw hS hlocks dX6_reaction_45
      · have hf := (zi_f c_33).symm.trans hf
        exact B25 _ i_26 _ _ _ hf hw hS (lv_sub hl [1, 2, 3, 0] rfl)
  · have hf := (zo_n o_27).symm.trans hf
    refine lv_aload_n hx hb dX6_reaction_10 rfl (lv_at hl 1 rfl) ?_
    refine lv_iconst (v := (-1 : Int32)) hx hb dX6_reaction_11 (by decide) ?_
    obtain ⟨g_31, hf⟩ := zg_inv hf
    obtain ⟨r_28, t_29, e_30, hf⟩ := zb_inv hf
    refine cw_fi (va_runV (As := [.int (-1 : Int32)]) (rest := []) S (kc_X6_refuse l D cy A ad en tI tS _ _ (-1 : Int32) _ e_30) (cwV 1 hts (wz_V (zin4 _ (List.mem_of_getElem? (i := 22) rfl)) (zin4 _ (List.mem_of_getElem? (i := 19) rfl)) (zin4 _ (List.mem_of_getElem? (i := 20) rfl)) (zin4 _ (List.mem_of_getElem? (i := 21) rfl)) (zin1 _ (List.mem_of_getElem? (i := 2) rfl))) rfl rfl rfl (by decide +kernel) ⟨Nat.le_of_ble_eq_true rfl, Nat.le_of_ble_eq_true rfl⟩) ⟨cw_blind _, zw_recv hK hw (g := (0, 0)) (cG_at g_31) rfl, cw_pre hC hw hS _⟩ rfl rfl hl.1 rfl (lv_room (Nat.le_of_ble_eq_true rfl)) dX6_reaction_12 ⟨Nat.zero_le _, Nat.zero_le _⟩) hS (fun H locs hw hS => ?_)
    exact cw_reti S hr hf hw hS hlocks dX6_reaction_15
noncomputable def k_X6_update_b53 (x1 : Int32) (x2 : Int32) (τ : CS) (x3 : Nat) (x4 : Nat) (x5 : Option Nat) : Option (Int32 × CS) := zg (cv τ 0 0 = true) (zb (k_X6_refuse τ (-3 : Int32)) (fun r_33 t_34 => some (r_33, t_34)))
noncomputable def k_X6_update_b22 (x1 : Int32) (x2 : Int32) (τ : CS) (x3 : Option Nat) (x4 : Option Nat) : Option (Int32 × CS) := zg (cv τ 0 0 = true) (zb (k_X6_refuse τ (-1 : Int32)) (fun r_37 t_38 => some (r_37, t_38)))
noncomputable def k_X6_update (τ : CS) (x1 : Int32) (x2 : Int32) : Option (Int32 × CS) := zg (cv τ 0 0 = true) (zb (k_X6_controllerAt τ x1) (fun r_41 t_42 => zg (cv t_42 0 0 = true) (zb (k_X6_newestOf t_42 x2) (fun r_45 t_46 => zo (r_41) (k_X6_update_b22 x1 x2 t_46 r_41 r_45) (fun i_49 => zo (r_45) (k_X6_update_b22 x1 x2 t_46 (some i_49) r_45) (fun i_51 => zg (cv t_46 4 i_49 = true) (zb (k_X1_classOf t_46 i_49 x2) (fun r_53 t_54 => zo (r_53) (k_X6_update_b53 x1 x2 t_54 i_49 i_51 r_53) (fun i_57 => zg (cv t_54 6 i_57 = true) (zg (cv t_54 7 i_51 = true) (zi ((ci t_54 601 i_57) = (ci t_54 700 i_51)) (k_X6_update_b53 x1 x2 t_54 i_49 i_51 (some i_57)) (zb (k_X4_becomeAnew t_54 i_57 (ci t_54 700 i_51) (4 : Int32)) (fun _ t_63 => some ((1 : Int32), t_63))))))))))))))
set_option maxHeartbeats 4000000 in
set_option maxRecDepth 100000 in
theorem kc_X6_update (l : Launch) (D : va_G) (cy : Nat → ClassId) (A : Nat → Prop) (ad : Nat × Nat → Nat) (en : Nat → Nat) (tI tS : Nat) (τ τ' : CS) (x1 : Int32) (x2 : Int32) (r : Int32) (hf : k_X6_update τ x1 x2 = some (r, τ')) : Met l yX6_update (wz yX6_update cX6_update 6 (some .int)) ({ frames := 1, cells := 0, slots := 0, locals := 23 } : Room) (va_Pc [.ref (ad (0, 0)), .int x1, .int x2] (CWs D cy A ad en tI tS τ)) (va_Qi (fun (r' : Int32) (u : CS) => r' = r ∧ u = τ') (CWp D cy A ad) A) 0 0 A := by
  refine Met.ofW (cc := cX6_update) (maxL := 6) (ret := (some .int)) (by decide) rfl ?_
  intro p e s m args below meth c s₁ B hml hv
  obtain ⟨rfl, hw, hC⟩ := hv
  have hK := hC.1
  have hN := hC.2.1
  have hx := B.exec
  have hb := B.bytes
  have hr := B.returns
  have hts := atoms_spec (ws := (wz yX6_update cX6_update 6 (some .int))) B.pre
  have hown : s.vm.findClass RX6 = some m.cls := findClass_of_methodNamed B.named
  have hlocks := B.notSynchronized
  have S : CallFix p m c cX6_update 6 s ([.ref (ad (0, 0)), .int x1, .int x2] : List Value).toArray (wz yX6_update cX6_update 6 (some .int)) RX6 := ⟨hx, hb, hml, hown, hts⟩
  have hX1 : ∀ w ∈ wsX10, w ∈ (wz yX6_update cX6_update 6 (some .int)) := fun w h => wz_in (inlX1 w h)
  have hX2 : ∀ w ∈ wsX20, w ∈ (wz yX6_update cX6_update 6 (some .int)) := fun w h => wz_in (inlX2 w h)
  have hX4 : ∀ w ∈ wsX40, w ∈ (wz yX6_update cX6_update 6 (some .int)) := fun w h => wz_in (inlX4 w h)
  have hX5 : ∀ w ∈ wsX50, w ∈ (wz yX6_update cX6_update 6 (some .int)) := fun w h => wz_in (inlX5 w h)
  have hX6 : ∀ w ∈ wsX60, w ∈ (wz yX6_update cX6_update 6 (some .int)) := fun w h => wz_in (inlX6 w h)
  have hS : va_S A s.heap s.heap [] := va_S.rf
  have hl := lv_entry ([.ref (ad (0, 0)), .int x1, .int x2]) (n := 6) (Nat.le_of_ble_eq_true rfl)
  rw [lg_entry_eq]
  generalize (lg_sl ([.ref (ad (0, 0)), .int x1, .int x2]) ++ List.replicate (6 - (lg_sl ([.ref (ad (0, 0)), .int x1, .int x2])).length) Slot.unset).toArray = ls at hl ⊢
  have hl : lv_has ls 6 [(0, .ref (ad (0, 0))), (1, .int x1), (2, .int x2)] := hl
  have B53 : ∀ (τ : CS) (x3 : Nat) (x4 : Nat) (x5 : Option Nat) (H : Heap) (locs : List Loc) (ls : Array Slot) (hf : k_X6_update_b53 x1 x2 τ x3 x4 x5 = some (r, τ')) (hw : zw D A ad (cG cy ad τ) H) (hS : va_S A s.heap H locs) (hl : lv_has ls 6 [(0, .ref (ad (0, 0))), (1, .int x1), (2, .int x2), (3, .ref (ad (4, x3))), (4, .ref (ad (7, x4))), (5, rn ad 6 x5)]), W p l e (headSpec (wz yX6_update cX6_update 6 (some .int)) ({ frames := 1, cells := 0, slots := 0, locals := 23 } : Room)).room s m ([.ref (ad (0, 0)), .int x1, .int x2] : List Value).toArray below meth c H locs 0 0 (MQ below (va_Qi (fun (r' : Int32) (u : CS) => r' = r ∧ u = τ') (CWp D cy A ad) A) ([.ref (ad (0, 0)), .int x1, .int x2] : List Value).toArray s 0 0 A) (F0 m 53 ls []) := by
    intro τ x3 x4 x5 H locs ls hf hw hS hl
    rw [k_X6_update_b53] at hf
    refine lv_aload_n hx hb dX6_update_53 rfl (lv_at hl 0 rfl) ?_
    refine lv_bipush (v := (-3 : Int32)) hx hb dX6_update_54 (by decide) ?_
    obtain ⟨g_36, hf⟩ := zg_inv hf
    obtain ⟨r_33, t_34, e_35, hf⟩ := zb_inv hf
    refine cw_fi (va_runV (As := [.int (-3 : Int32)]) (rest := []) S (kc_X6_refuse l D cy A ad en tI tS _ _ (-3 : Int32) _ e_35) (cwV 1 hts (wz_V (zin4 _ (List.mem_of_getElem? (i := 22) rfl)) (zin4 _ (List.mem_of_getElem? (i := 19) rfl)) (zin4 _ (List.mem_of_getElem? (i := 20) rfl)) (zin4 _ (List.mem_of_getElem? (i := 21) rfl)) (zin1 _ (List.mem_of_getElem? (i := 2) rfl))) rfl rfl rfl (by decide +kernel) ⟨Nat.le_of_ble_eq_true rfl, Nat.le_of_ble_eq_true rfl⟩) ⟨cw_blind _, zw_recv hK hw (g := (0, 0)) (cG_at g_36) rfl, cw_pre hC hw hS _⟩ rfl rfl hl.1 rfl (lv_room (Nat.le_of_ble_eq_true rfl)) dX6_update_56 ⟨Nat.zero_le _, Nat.zero_le _⟩) hS (fun H locs hw hS => ?_)
    exact cw_reti S hr hf hw hS hlocks dX6_update_59
  have B22 : ∀ (τ : CS) (x3 : Option Nat) (x4 : Option Nat) (H : Heap) (locs : List Loc) (ls : Array Slot) (hf : k_X6_update_b22 x1 x2 τ x3 x4 = some (r, τ')) (hw : zw D A ad (cG cy ad τ) H) (hS : va_S A s.heap H locs) (hl : lv_has ls 6 [(0, .ref (ad (0, 0))), (1, .int x1), (2, .int x2), (3, rn ad 4 x3), (4, rn ad 7 x4)]), W p l e (headSpec (wz yX6_update cX6_update 6 (some .int)) ({ frames := 1, cells := 0, slots := 0, locals := 23 } : Room)).room s m ([.ref (ad (0, 0)), .int x1, .int x2] : List Value).toArray below meth c H locs 0 0 (MQ below (va_Qi (fun (r' : Int32) (u : CS) => r' = r ∧ u = τ') (CWp D cy A ad) A) ([.ref (ad (0, 0)), .int x1, .int x2] : List Value).toArray s 0 0 A) (F0 m 22 ls []) := by
    intro τ x3 x4 H locs ls hf hw hS hl
    rw [k_X6_update_b22] at hf
    refine lv_aload_n hx hb dX6_update_22 rfl (lv_at hl 0 rfl) ?_
    refine lv_iconst (v := (-1 : Int32)) hx hb dX6_update_23 (by decide) ?_
    obtain ⟨g_40, hf⟩ := zg_inv hf
    obtain ⟨r_37, t_38, e_39, hf⟩ := zb_inv hf
    refine cw_fi (va_runV (As := [.int (-1 : Int32)]) (rest := []) S (kc_X6_refuse l D cy A ad en tI tS _ _ (-1 : Int32) _ e_39) (cwV 1 hts (wz_V (zin4 _ (List.mem_of_getElem? (i := 22) rfl)) (zin4 _ (List.mem_of_getElem? (i := 19) rfl)) (zin4 _ (List.mem_of_getElem? (i := 20) rfl)) (zin4 _ (List.mem_of_getElem? (i := 21) rfl)) (zin1 _ (List.mem_of_getElem? (i := 2) rfl))) rfl rfl rfl (by decide +kernel) ⟨Nat.le_of_ble_eq_true rfl, Nat.le_of_ble_eq_true rfl⟩) ⟨cw_blind _, zw_recv hK hw (g := (0, 0)) (cG_at g_40) rfl, cw_pre hC hw hS _⟩ rfl rfl hl.1 rfl (lv_room (Nat.le_of_ble_eq_true rfl)) dX6_update_24 ⟨Nat.zero_le _, Nat.zero_le _⟩) hS (fun H locs hw hS => ?_)
    exact cw_reti S hr hf hw hS hlocks dX6_update_27
  rw [k_X6_update] at hf
  refine lv_aload_n hx hb dX6_update_0 rfl (lv_at hl 0 rfl) ?_
  refine lv_iload_n hx hb dX6_update_1 rfl (lv_at hl 1 rfl) ?_
  obtain ⟨g_44, hf⟩ := zg_inv hf
  obtain ⟨r_41, t_42, e_43, hf⟩ := zb_inv hf
  refine cw_fq (kd := 4) (va_runV (As := [.int x1]) (rest := []) S (kc_X6_controllerAt l D cy A ad en tI tS _ _ x1 _ e_43) (cwV 1 hts (wz_V (zin9 _ (List.mem_of_getElem? (i := 15) rfl)) (zin9 _ (List.mem_of_getElem? (i := 12) rfl)) (zin9 _ (List.mem_of_getElem? (i := 13) rfl)) (zin9 _ (List.mem_of_getElem? (i := 14) rfl)) (zin1 _ (List.mem_of_getElem? (i := 2) rfl))) rfl rfl rfl (by decide +kernel) ⟨Nat.le_of_ble_eq_true rfl, Nat.le_of_ble_eq_true rfl⟩) ⟨cw_blind _, zw_recv hK hw (g := (0, 0)) (cG_at g_44) rfl, cw_pre hC hw hS _⟩ rfl rfl hl.1 rfl (lv_room (Nat.le_of_ble_eq_true rfl)) dX6_update_2 ⟨Nat.zero_le _, Nat.zero_le _⟩) hS (fun H locs hw hS => ?_)
  refine zr_astore_n (lv' := [(3, rn ad 4 r_41), (0, .ref (ad (0, 0))), (1, .int x1), (2, .int x2)]) hx hb dX6_update_5 rfl hl (by decide) (by first | rfl | simp [zcat]) (fun ls hl => ?_)
  refine lv_aload_n hx hb dX6_update_6 rfl (lv_at hl 1 rfl) ?_
  refine lv_iload_n hx hb dX6_update_7 rfl (lv_at hl 3 rfl) ?_
  obtain ⟨g_48, hf⟩ := zg_inv hf
  obtain ⟨r_45, t_46, e_47, hf⟩ := zb_inv hf
  refine cw_fq (kd := 7) (va_runV (As := [.int x2]) (rest := []) S (kc_X6_newestOf l D cy A ad en tI tS _ _ x2 _ e_47) (cwV 1 hts (wz_V (zin6 _ (List.mem_of_getElem? (i := 1) rfl)) (zin5 _ (List.mem_of_getElem? (i := 22) rfl)) (zin5 _ (List.mem_of_getElem? (i := 23) rfl)) (zin6 _ (List.mem_of_getElem? (i := 0) rfl)) (zin1 _ (List.mem_of_getElem? (i := 2) rfl))) rfl rfl rfl (by decide +kernel) ⟨Nat.le_of_ble_eq_true rfl, Nat.le_of_ble_eq_true rfl⟩) ⟨cw_blind _, zw_recv hK hw (g := (0, 0)) (cG_at g_48) rfl, cw_pre hC hw hS _⟩ rfl rfl hl.1 rfl (lv_room (Nat.le_of_ble_eq_true rfl)) dX6_update_8 ⟨Nat.zero_le _, Nat.zero_le _⟩) hS (fun H locs hw hS => ?_)
  refine zr_astore (lv' := [(4, rn ad 7 r_45), (3, rn ad 4 r_41), (0, .ref (ad (0, 0))), (1, .int x1), (2, .int x2)]) hx hb dX6_update_11 hl (by decide) (by first | rfl | simp [zcat]) (fun ls hl => ?_)
  refine zr_aload_n hx hb dX6_update_13 rfl (lv_at hl 1 rfl) ?_
  refine zr_ifnull (kd := 4) (o := r_41) hx hb dX6_update_14 (tgt := 22) (by decide) (fun o_50 => ?_) (fun i_49 o_50 => ?_)
  · have hf := (zo_n o_50).symm.trans hf
    exact B22 _ r_41 r_45 _ _ _ hf hw hS (lv_sub hl [2, 3, 4, 1, 0] rfl)
  · have hf := (zo_s o_50).symm.trans hf
    rw [o_50] at hl
    have hl : lv_has ls 6 [(4, rn ad 7 r_45), (3, .ref (ad (4, i_49))), (0, .ref (ad (0, 0))), (1, .int x1), (2, .int x2)] := hl
    refine zr_aload hx hb dX6_update_17 (lv_at hl 0 rfl) ?_
    refine zr_ifnonnull (kd := 7) (o := r_45) hx hb dX6_update_19 (tgt := 28) (by decide) (fun i_51 o_52 => ?_) (fun o_52 => ?_)
    · have hf := (zo_s o_52).symm.trans hf
      rw [o_52] at hl
      have hl : lv_has ls 6 [(4, .ref (ad (7, i_51))), (3, .ref (ad (4, i_49))), (0, .ref (ad (0, 0))), (1, .int x1), (2, .int x2)] := hl
      refine lv_aload_n hx hb dX6_update_28 rfl (lv_at hl 1 rfl) ?_
      refine lv_iload_n hx hb dX6_update_29 rfl (lv_at hl 4 rfl) ?_
      obtain ⟨g_56, hf⟩ := zg_inv hf
      obtain ⟨r_53, t_54, e_55, hf⟩ := zb_inv hf
      refine cw_fq (kd := 6) (va_runVN (As := [.int x2]) (rest := []) S (kc_X1_classOf l D cy A ad en tI tS _ _ i_49 x2 _ e_55) ⟨va_cnB 1 hts (wz_gd (zin9 _ (List.mem_of_getElem? (i := 18) rfl))) rfl rfl rfl (hN.2 _ (List.mem_of_getElem? (i := 3) rfl)) (hts _ (wz_in (zin2 _ (List.mem_of_getElem? (i := 6) rfl)))) (by decide +kernel) ⟨Nat.le_of_ble_eq_true rfl, Nat.le_of_ble_eq_true rfl⟩, hts _ (wz_in (zin9 _ (List.mem_of_getElem? (i := 16) rfl))), hts _ (wz_in (zin9 _ (List.mem_of_getElem? (i := 17) rfl)))⟩ ⟨cw_blind _, zw_recv hK hw (g := (4, i_49)) (cG_at g_56) rfl, cw_pre hC hw hS _⟩ rfl rfl hl.1 rfl (lv_room (Nat.le_of_ble_eq_true rfl)) dX6_update_30 ⟨Nat.zero_le _, Nat.zero_le _⟩) hS (fun H locs hw hS => ?_)
      refine zr_astore (lv' := [(5, rn ad 6 r_53), (4, .ref (ad (7, i_51))), (3, .ref (ad (4, i_49))), (0, .ref (ad (0, 0))), (1, .int x1), (2, .int x2)]) hx hb dX6_update_33 hl (by decide) (by first | rfl | simp [zcat]) (fun ls hl => ?_)
      refine zr_aload hx hb dX6_update_35 (lv_at hl 0 rfl) ?_
      refine zr_ifnull (kd := 6) (o := r_53) hx hb dX6_update_37 (tgt := 53) (by decide) (fun o_58 => ?_) (fun i_57 o_58 => ?_)
      · have hf := (zo_n o_58).symm.trans hf
        exact B53 _ i_49 i_51 r_53 _ _ _ hf hw hS (lv_sub hl [3, 4, 5, 2, 1, 0] rfl)
      · have hf := (zo_s o_58).symm.trans hf
        rw [o_58] at hl
        have hl : lv_has ls 6 [(5, .ref (ad (6, i_57))), (4, .ref (ad (7, i_51))), (3, .ref (ad (4, i_49))), (0, .ref (ad (0, 0))), (1, .int x1), (2, .int x2)] := hl
        refine lv_aload hx hb dX6_update_40 (lv_at hl 0 rfl) ?_
        obtain ⟨g_59, hf⟩ := zg_inv hf
        refine cr_getN (v := .int (ci t_54 601 i_57)) S hK hw 6 i_57 g_59 hX4 rfl rfl 1 (by decide) hN (List.mem_of_getElem? (i := 16) rfl) rfl rfl dX6_update_42 ?_
        refine lv_aload hx hb dX6_update_45 (lv_at hl 1 rfl) ?_
        obtain ⟨g_60, hf⟩ := zg_inv hf
        refine cr_getN (v := .int (ci t_54 700 i_51)) S hK hw 7 i_51 g_60 hX2 rfl rfl 0 (by decide) hN (List.mem_of_getElem? (i := 11) rfl) rfl rfl dX6_update_47 ?_
        refine lv_icmp_ne (tgt := 60) hx hb dX6_update_50 (by decide) (fun c_61 => ?_) (fun c_61 => ?_)
        · have hf := (zi_f c_61).symm.trans hf
          refine lv_aload hx hb dX6_update_60 (lv_at hl 0 rfl) ?_
          refine lv_aload hx hb dX6_update_62 (lv_at hl 1 rfl) ?_
          refine cr_getN (v := .int (ci t_54 700 i_51)) S hK hw 7 i_51 g_60 hX2 rfl rfl 0 (by decide) hN (List.mem_of_getElem? (i := 11) rfl) rfl rfl dX6_update_64 ?_
          refine lv_iconst (v := (4 : Int32)) hx hb dX6_update_67 (by decide) ?_
          obtain ⟨⟨⟩, t_63, e_64, hf⟩ := zb_inv hf
          refine cw_fv (va_runVN (As := [.int (ci t_54 700 i_51), .int (4 : Int32)]) (rest := []) S (kc_X4_becomeAnew l D cy A ad en tI tS _ _ i_57 (ci t_54 700 i_51) (4 : Int32) e_64) ⟨va_cnB 2 hts (wz_gd (zin18 _ (List.mem_of_getElem? (i := 14) rfl))) rfl rfl rfl (hN.2 _ (List.mem_of_getElem? (i := 12) rfl)) (hts _ (wz_in (zin9 _ (List.mem_of_getElem? (i := 11) rfl)))) (by decide +kernel) ⟨Nat.le_of_ble_eq_true rfl, Nat.le_of_ble_eq_true rfl⟩, hts _ (wz_in (zin18 _ (List.mem_of_getElem? (i := 12) rfl))), hts _ (wz_in (zin18 _ (List.mem_of_getElem? (i := 13) rfl)))⟩ ⟨cw_blind _, zw_recv hK hw (g := (6, i_57)) (cG_at g_59) rfl, cw_pre hC hw hS _⟩ rfl rfl hl.1 rfl (lv_room (Nat.le_of_ble_eq_true rfl)) dX6_update_68 ⟨Nat.zero_le _, Nat.zero_le _⟩) hS (fun H locs hw hS => ?_)
          refine lv_iconst (v := (1 : Int32)) hx hb dX6_update_71 (by decide) ?_
          exact cw_reti S hr hf hw hS hlocks dX6_update_72
        · have hf := (zi_t c_61).symm.trans hf
          exact B53 _ i_49 i_51 (some i_57) _ _ _ hf hw hS (lv_sub hl [3, 4, 5, 2, 1, 0] rfl)
    · have hf := (zo_n o_52).symm.trans hf
      exact B22 _ (some i_49) r_45 _ _ _ hf hw hS (lv_sub hl [2, 3, 4, 1, 0] rfl)
noncomputable def k_J7_fill_d0a16_s6 (x0 : Nat) (x1 : Int64) (K : CS → Int32 → Int32 → Option (Unit × CS)) (τ : CS) (x3 : Int32) (x4 : Int32) : Option (Unit × CS) := zi (x4 ≤ x3) (some ((), τ)) (zg (cv τ 8 x0 = true) (zg (vp_in x3 (jl x0)) (K (cJ τ x0 x3.toNatClampNeg x1) (x3 + (1 : Int32)) x4)))
noncomputable def k_J7_fill_d0a16_l6 (x0 : Nat) (x1 : Int64) : Nat → CS → Int32 → Int32 → Option (Unit × CS)
  | 0 => fun _ _ _ => none
  | n + 1 => fun τ x3 x4 => k_J7_fill_d0a16_s6 x0 x1 (k_J7_fill_d0a16_l6 x0 x1 n) τ x3 x4
theorem k_J7_fill_d0a16_l6_s (x0 : Nat) (x1 : Int64) (n : Nat) (τ : CS) (x3 : Int32) (x4 : Int32) : k_J7_fill_d0a16_l6 x0 x1 (n + 1) τ x3 x4 = k_J7_fill_d0a16_s6 x0 x1 (k_J7_fill_d0a16_l6 x0 x1 n) τ x3 x4 := rfl
theorem k_J7_fill_d0a16_l6_z (x0 : Nat) (x1 : Int64) (τ : CS) (x3 : Int32) (x4 : Int32) : k_J7_fill_d0a16_l6 x0 x1 0 τ x3 x4 = none := rfl
noncomputable def k_J7_fill_d0a16 (τ : CS) (x0 : Nat) (x1 : Int64) : Option (Unit × CS) := zg (cv τ 8 x0 = true) (k_J7_fill_d0a16_l6 x0 x1 FU τ (0 : Int32) (nI (jl x0)))
set_option maxHeartbeats 4000000 in
set_option maxRecDepth 100000 in
theorem kc_J7_fill_d0a16 (l : Launch) (D : va_G) (cy : Nat → ClassId) (A : Nat → Prop) (ad : Nat × Nat → Nat) (en : Nat → Nat) (tI tS : Nat) (τ τ' : CS) (x0 : Nat) (x1 : Int64) (hf : k_J7_fill_d0a16 τ x0 x1 = some ((), τ')) : Met l yJ7_fill_d0a16 (wz yJ7_fill_d0a16 cJ7_fill_d0a16 5 none) ({ frames := 0, cells := 0, slots := 0, locals := 0 } : Room) (va_Pc [.ref (ad (8, x0)), .long x1] (CWs D cy A ad en tI tS τ)) (va_Qv (fun (u : CS) => u = τ') (CWp D cy A ad) A) 0 0 A := by
  refine Met.ofW (cc := cJ7_fill_d0a16) (maxL := 5) (ret := none) (by decide) rfl ?_
  intro p e s m args below meth c s₁ B hml hv
  obtain ⟨rfl, hw, hC⟩ := hv
  have hK := hC.1
  have hN := hC.2.1
  have hx := B.exec
  have hb := B.bytes
  have hr := B.returns
  have hts := atoms_spec (ws := (wz yJ7_fill_d0a16 cJ7_fill_d0a16 5 none)) B.pre
  have hown : s.vm.findClass RJ7 = some m.cls := findClass_of_methodNamed B.named
  have hlocks := B.notSynchronized
  have S : CallFix p m c cJ7_fill_d0a16 5 s ([.ref (ad (8, x0)), .long x1] : List Value).toArray (wz yJ7_fill_d0a16 cJ7_fill_d0a16 5 none) RJ7 := ⟨hx, hb, hml, hown, hts⟩
  have hX1 : ∀ w ∈ wsX10, w ∈ (wz yJ7_fill_d0a16 cJ7_fill_d0a16 5 none) := fun w h => wz_in (inlX1 w h)
  have hX2 : ∀ w ∈ wsX20, w ∈ (wz yJ7_fill_d0a16 cJ7_fill_d0a16 5 none) := fun w h => wz_in (inlX2 w h)
  have hX4 : ∀ w ∈ wsX40, w ∈ (wz yJ7_fill_d0a16 cJ7_fill_d0a16 5 none) := fun w h => wz_in (inlX4 w h)
  have hX5 : ∀ w ∈ wsX50, w ∈ (wz yJ7_fill_d0a16 cJ7_fill_d0a16 5 none) := fun w h => wz_in (inlX5 w h)
  have hX6 : ∀ w ∈ wsX60, w ∈ (wz yJ7_fill_d0a16 cJ7_fill_d0a16 5 none) := fun w h => wz_in (inlX6 w h)
  have hS : va_S A s.heap s.heap [] := va_S.rf
  have hl := lv_entry ([.ref (ad (8, x0)), .long x1]) (n := 5) (Nat.le_of_ble_eq_true rfl)
  rw [lg_entry_eq]
  generalize (lg_sl ([.ref (ad (8, x0)), .long x1]) ++ List.replicate (5 - (lg_sl ([.ref (ad (8, x0)), .long x1])).length) Slot.unset).toArray = ls at hl ⊢
  have hl : lv_has ls 5 [(0, .ref (ad (8, x0))), (1, .long x1)] := hl
  have S6 : ∀ (K : CS → Int32 → Int32 → Option (Unit × CS)) (_hKK : ∀ (τ : CS) (x3 : Int32) (x4 : Int32) (H : Heap) (locs : List Loc) (ls : Array Slot) (hf : K τ x3 x4 = some ((), τ')) (hw : zw D A ad (cG cy ad τ) H) (hS : va_S A s.heap H locs) (hl : lv_has ls 5 [(0, .ref (ad (8, x0))), (1, .long x1), (3, .int x3), (4, .int x4)]), W p l e (headSpec (wz yJ7_fill_d0a16 cJ7_fill_d0a16 5 none) ({ frames := 0, cells := 0, slots := 0, locals := 0 } : Room)).room s m ([.ref (ad (8, x0)), .long x1] : List Value).toArray below meth c H locs 0 0 (MQ below (va_Qv (fun (u : CS) => u = τ') (CWp D cy A ad) A) ([.ref (ad (8, x0)), .long x1] : List Value).toArray s 0 0 A) (F0 m 6 ls [])) (τ : CS) (x3 : Int32) (x4 : Int32) (H : Heap) (locs : List Loc) (ls : Array Slot) (hf : k_J7_fill_d0a16_s6 x0 x1 K τ x3 x4 = some ((), τ')) (hw : zw D A ad (cG cy ad τ) H) (hS : va_S A s.heap H locs) (hl : lv_has ls 5 [(0, .ref (ad (8, x0))), (1, .long x1), (3, .int x3), (4, .int x4)]), W p l e (headSpec (wz yJ7_fill_d0a16 cJ7_fill_d0a16 5 none) ({ frames := 0, cells := 0, slots := 0, locals := 0 } : Room)).room s m ([.ref (ad (8, x0)), .long x1] : List Value).toArray below meth c H locs 0 0 (MQ below (va_Qv (fun (u : CS) => u = τ') (CWp D cy A ad) A) ([.ref (ad (8, x0)), .long x1] : List Value).toArray s 0 0 A) (F0 m 6 ls []) := by
    intro K hKK τ x3 x4 H locs ls hf hw hS hl
    rw [k_J7_fill_d0a16_s6] at hf
    refine lv_iload_n hx hb dJ7_fill_d0a16_6 rfl (lv_at hl 2 rfl) ?_
    refine lv_iload hx hb dJ7_fill_d0a16_7 (lv_at hl 3 rfl) ?_
    refine lv_icmp_ge (tgt := 22) hx hb dJ7_fill_d0a16_9 (by decide) (fun c_5 => ?_) (fun c_5 => ?_)
    · have hf := (zi_t c_5).symm.trans hf
      exact cw_retv S hr hf hw hS hlocks dJ7_fill_d0a16_22
    · have hf := (zi_f c_5).symm.trans hf
      refine lv_aload_n hx hb dJ7_fill_d0a16_12 rfl (lv_at hl 0 rfl) ?_
      refine lv_iload_n hx hb dJ7_fill_d0a16_13 rfl (lv_at hl 2 rfl) ?_
      refine lv_lload_n hx hb dJ7_fill_d0a16_14 rfl (lv_at hl 1 rfl) ?_
      obtain ⟨g_6, hf⟩ := zg_inv hf
      obtain ⟨g_7, hf⟩ := zg_inv hf
      refine cr_last S hK hw hS x0 g_6 g_7 dJ7_fill_d0a16_15 (fun H locs hw hS => ?_)
      refine lv_iinc (v := x3 + (1 : Int32)) (lv' := [(3, .int (x3 + (1 : Int32))), (0, .ref (ad (8, x0))), (1, .long x1), (4, .int x4)]) hx hb dJ7_fill_d0a16_16 hl (k := 2) rfl rfl (by decide) rfl (fun ls hl => ?_)
      refine lv_goto (tgt := 6) hx hb dJ7_fill_d0a16_19 (by decide) ?_
      exact hKK _ (x3 + (1 : Int32)) x4 _ _ _ hf hw hS (lv_sub hl [1, 2, 0, 3] rfl)
  have L6 : ∀ (n : Nat) (τ : CS) (x3 : Int32) (x4 : Int32) (H : Heap) (locs : List Loc) (ls : Array Slot) (hf : k_J7_fill_d0a16_l6 x0 x1 n τ x3 x4 = some ((), τ')) (hw : zw D A ad (cG cy ad τ) H) (hS : va_S A s.heap H locs) (hl : lv_has ls 5 [(0, .ref (ad (8, x0))), (1, .long x1), (3, .int x3), (4, .int x4)]), W p l e (headSpec (wz yJ7_fill_d0a16 cJ7_fill_d0a16 5 none) ({ frames := 0, cells := 0, slots := 0, locals := 0 } : Room)).room s m ([.ref (ad (8, x0)), .long x1] : List Value).toArray below meth c H locs 0 0 (MQ below (va_Qv (fun (u : CS) => u = τ') (CWp D cy A ad) A) ([.ref (ad (8, x0)), .long x1] : List Value).toArray s 0 0 A) (F0 m 6 ls []) := by
    intro n
    induction n with
    | zero =>
      intro τ x3 x4 H locs ls hf hw hS hl
      rw [k_J7_fill_d0a16_l6_z] at hf
      cases hf
    | succ n ih =>
      intro τ x3 x4 H locs ls hf hw hS hl
      rw [k_J7_fill_d0a16_l6_s] at hf
      exact S6 (k_J7_fill_d0a16_l6 x0 x1 n) ih τ x3 x4 H locs ls hf hw hS hl
  rw [k_J7_fill_d0a16] at hf
  refine lv_iconst (v := (0 : Int32)) hx hb dJ7_fill_d0a16_0 (by decide) ?_
  refine lv_istore_n (lv' := [(3, .int (0 : Int32)), (0, .ref (ad (8, x0))), (1, .long x1)]) hx hb dJ7_fill_d0a16_1 rfl hl (by decide) rfl (fun ls hl => ?_)
  refine lv_aload_n hx hb dJ7_fill_d0a16_2 rfl (lv_at hl 1 rfl) ?_
  obtain ⟨g_8, hf⟩ := zg_inv hf
  refine cr_alen (v := nI (jl x0)) S hK hw 8 x0 2 g_8 rfl rfl rfl dJ7_fill_d0a16_3 ?_
  refine lv_istore (lv' := [(4, .int (nI (jl x0))), (3, .int (0 : Int32)), (0, .ref (ad (8, x0))), (1, .long x1)]) hx hb dJ7_fill_d0a16_4 hl (by decide) rfl (fun ls hl => ?_)
  exact L6 FU _ (0 : Int32) (nI (jl x0)) _ _ _ hf hw hS (lv_sub hl [2, 3, 1, 0] rfl)
noncomputable def k_X6_reset_b83 (x1 : Int32) (K : CS → Nat → Int32 → Int32 → Option (Int32 × CS)) (τ : CS) (x2 : Nat) (x3 : Int32) (x4 : Int32) (x5 : Option Nat) (x6 : Option Nat) : Option (Int32 × CS) := K τ x2 x3 (x4 + (1 : Int32))
noncomputable def k_X6_reset_s34 (x1 : Int32) (K : CS → Nat → Int32 → Int32 → Option (Int32 × CS)) (τ : CS) (x2 : Nat) (x3 : Int32) (x4 : Int32) : Option (Int32 × CS) := zg (cv τ 0 0 = true) (zi ((ci τ 6 0) < x4) (some (x3, τ)) (zg (cv τ 4 x2 = true) (zb (k_X1_classOf τ x2 x4) (fun r_36 t_37 => zg (cv t_37 0 0 = true) (zb (k_X6_newestOf t_37 x4) (fun r_40 t_41 => zo (r_36) (k_X6_reset_b83 x1 K t_41 x2 x3 x4 r_36 r_40) (fun i_44 => zo (r_40) (k_X6_reset_b83 x1 K t_41 x2 x3 x4 (some i_44) r_40) (fun i_46 => zg (cv t_41 7 i_46 = true) (zg (cv t_41 6 i_44 = true) (zb (k_X4_becomeAnew t_41 i_44 (ci t_41 700 i_46) (0 : Int32)) (fun _ t_50 => k_X6_reset_b83 x1 K t_50 x2 (x3 + (1 : Int32)) x4 (some i_44) (some i_46))))))))))))
noncomputable def k_X6_reset_l34 (x1 : Int32) : Nat → CS → Nat → Int32 → Int32 → Option (Int32 × CS)
  | 0 => fun _ _ _ _ => none
  | n + 1 => fun τ x2 x3 x4 => k_X6_reset_s34 x1 (k_X6_reset_l34 x1 n) τ x2 x3 x4
theorem k_X6_reset_l34_s (x1 : Int32) (n : Nat) (τ : CS) (x2 : Nat) (x3 : Int32) (x4 : Int32) : k_X6_reset_l34 x1 (n + 1) τ x2 x3 x4 = k_X6_reset_s34 x1 (k_X6_reset_l34 x1 n) τ x2 x3 x4 := rfl
theorem k_X6_reset_l34_z (x1 : Int32) (τ : CS) (x2 : Nat) (x3 : Int32) (x4 : Int32) : k_X6_reset_l34 x1 0 τ x2 x3 x4 = none := rfl
noncomputable def k_X6_reset (τ : CS) (x1 : Int32) : Option (Int32 × CS) := zg (cv τ 0 0 = true) (zb (k_X6_controllerAt τ x1) (fun r_53 t_54 => zo (r_53) (zg (cv t_54 0 0 = true) (zb (k_X6_refuse t_54 (-1 : Int32)) (fun r_59 t_60 => some (r_59, t_60)))) (fun i_57 => zg (cv t_54 4 i_57 = true) (zb (k_J7_fill_d0a16 (cI t_54 402 i_57 (0 : Int32)) (3 + i_57) (0 : Int64)) (fun _ t_65 => k_X6_reset_l34 x1 FU t_65 i_57 (0 : Int32) (1 : Int32))))))
set_option maxHeartbeats 4000000 in
set_option maxRecDepth 100000 in
theorem kc_X6_reset (l : Launch) (D : va_G) (cy : Nat → ClassId) (A : Nat → Prop) (ad : Nat × Nat → Nat) (en : Nat → Nat) (tI tS : Nat) (τ τ' : CS) (x1 : Int32) (r : Int32) (hf : k_X6_reset τ x1 = some (r, τ')) : Met l yX6_reset (wz yX6_reset cX6_reset 7 (some .int)) ({ frames := 1, cells := 0, slots := 0, locals := 24 } : Room) (va_Pc [.ref (ad (0, 0)), .int x1] (CWs D cy A ad en tI tS τ)) (va_Qi (fun (r' : Int32) (u : CS) => r' = r ∧ u = τ') (CWp D cy A ad) A) 0 0 A := by
  refine Met.ofW (cc := cX6_reset) (maxL := 7) (ret := (some .int)) (by decide) rfl ?_
  intro p e s m args below meth c s₁ B hml hv
  obtain ⟨rfl, hw, hC⟩ := hv
  have hK := hC.1
  have hN := hC.2.1
  have hx := B.exec
  have hb := B.bytes
  have hr := B.returns
  have hts := atoms_spec (ws := (wz yX6_reset cX6_reset 7 (some .int))) B.pre
  have hown : s.vm.findClass RX6 = some m.cls := findClass_of_methodNamed B.named
  have hlocks := B.notSynchronized
  have S : CallFix p m c cX6_reset 7 s ([.ref (ad (0, 0)), .int x1] : List Value).toArray (wz yX6_reset cX6_reset 7 (some .int)) RX6 := ⟨hx, hb, hml, hown, hts⟩
  have hX1 : ∀ w ∈ wsX10, w ∈ (wz yX6_reset cX6_reset 7 (some .int)) := fun w h => wz_in (inlX1 w h)
  have hX2 : ∀ w ∈ wsX20, w ∈ (wz yX6_reset cX6_reset 7 (some .int)) := fun w h => wz_in (inlX2 w h)
  have hX4 : ∀ w ∈ wsX40, w ∈ (wz yX6_reset cX6_reset 7 (some .int)) := fun w h => wz_in (inlX4 w h)
  have hX5 : ∀ w ∈ wsX50, w ∈ (wz yX6_reset cX6_reset 7 (some .int)) := fun w h => wz_in (inlX5 w h)
  have hX6 : ∀ w ∈ wsX60, w ∈ (wz yX6_reset cX6_reset 7 (some .int)) := fun w h => wz_in (inlX6 w h)
  have hS : va_S A s.heap s.heap [] := va_S.rf
  have hl := lv_entry ([.ref (ad (0, 0)), .int x1]) (n := 7) (Nat.le_of_ble_eq_true rfl)
  rw [lg_entry_eq]
  generalize (lg_sl ([.ref (ad (0, 0)), .int x1]) ++ List.replicate (7 - (lg_sl ([.ref (ad (0, 0)), .int x1])).length) Slot.unset).toArray = ls at hl ⊢
  have hl : lv_has ls 7 [(0, .ref (ad (0, 0))), (1, .int x1)] := hl
  have B83 : ∀ (K : CS → Nat → Int32 → Int32 → Option (Int32 × CS)) (_hKK : ∀ (τ : CS) (x2 : Nat) (x3 : Int32) (x4 : Int32) (H : Heap) (locs : List Loc) (ls : Array Slot) (hf : K τ x2 x3 x4 = some (r, τ')) (hw : zw D A ad (cG cy ad τ) H) (hS : va_S A s.heap H locs) (hl : lv_has ls 7 [(0, .ref (ad (0, 0))), (1, .int x1), (2, .ref (ad (4, x2))), (3, .int x3), (4, .int x4)]), W p l e (headSpec (wz yX6_reset cX6_reset 7 (some .int)) ({ frames := 1, cells := 0, slots := 0, locals := 24 } : Room)).room s m ([.ref (ad (0, 0)), .int x1] : List Value).toArray below meth c H locs 0 0 (MQ below (va_Qi (fun (r' : Int32) (u : CS) => r' = r ∧ u = τ') (CWp D cy A ad) A) ([.ref (ad (0, 0)), .int x1] : List Value).toArray s 0 0 A) (F0 m 34 ls [])) (τ : CS) (x2 : Nat) (x3 : Int32) (x4 : Int32) (x5 : Option Nat) (x6 : Option Nat) (H : Heap) (locs : List Loc) (ls : Array Slot) (hf : k_X6_reset_b83 x1 K τ x2 x3 x4 x5 x6 = some (r, τ')) (hw : zw D A ad (cG cy ad τ) H) (hS : va_S A s.heap H locs) (hl : lv_has ls 7 [(0, .ref (ad (0, 0))), (1, .int x1), (2, .ref (ad (4, x2))), (3, .int x3), (4, .int x4), (5, rn ad 6 x5), (6, rn ad 7 x6)]), W p l e (headSpec (wz yX6_reset cX6_reset 7 (some .int)) ({ frames := 1, cells := 0, slots := 0, locals := 24 } : Room)).room s m ([.ref (ad (0, 0)), .int x1] : List Value).toArray below meth c H locs 0 0 (MQ below (va_Qi (fun (r' : Int32) (u : CS) => r' = r ∧ u = τ') (CWp D cy A ad) A) ([.ref (ad (0, 0)), .int x1] : List Value).toArray s 0 0 A) (F0 m 83 ls []) := by
    intro K hKK τ x2 x3 x4 x5 x6 H locs ls hf hw hS hl
    rw [k_X6_reset_b83] at hf
    refine lv_iinc (v := x4 + (1 : Int32)) (lv' := [(4, .int (x4 + (1 : Int32))), (0, .ref (ad (0, 0))), (1, .int x1), (2, .ref (ad (4, x2))), (3, .int x3), (5, rn ad 6 x5), (6, rn ad 7 x6)]) hx hb dX6_reset_83 hl (k := 4) rfl rfl (by decide) (by first | rfl | simp [zcat]) (fun ls hl => ?_)
    refine lv_goto (tgt := 34) hx hb dX6_reset_86 (by decide) ?_
    exact hKK _ x2 x3 (x4 + (1 : Int32)) _ _ _ hf hw hS (lv_sub hl [1, 2, 3, 4, 0] rfl)
  have S34 : ∀ (K : CS → Nat → Int32 → Int32 → Option (Int32 × CS)) (_hKK : ∀ (τ : CS) (x2 : Nat) (x3 : Int32) (x4 : Int32) (H : Heap) (locs : List Loc) (ls : Array Slot) (hf : K τ x2 x3 x4 = some (r, τ')) (hw : zw D A ad (cG cy ad τ) H) (hS : va_S A s.heap H locs) (hl : lv_has ls 7 [(0, .ref (ad (0, 0))), (1, .int x1), (2, .ref (ad (4, x2))), (3, .int x3), (4, .int x4)]), W p l e (headSpec (wz yX6_reset cX6_reset 7 (some .int)) ({ frames := 1, cells := 0, slots := 0, locals := 24 } : Room)).room s m ([.ref (ad (0, 0)), .int x1] : List Value).toArray below meth c H locs 0 0 (MQ below (va_Qi (fun (r' : Int32) (u : CS) => r' = r ∧ u = τ') (CWp D cy A ad) A) ([.ref (ad (0, 0)), .int x1] : List Value).toArray s 0 0 A) (F0 m 34 ls [])) (τ : CS) (x2 : Nat) (x3 : Int32) (x4 : Int32) (H : Heap) (locs : List Loc) (ls : Array Slot) (hf : k_X6_reset_s34 x1 K τ x2 x3 x4 = some (r, τ')) (hw : zw D A ad (cG cy ad τ) H) (hS : va_S A s.heap H locs) (hl : lv_has ls 7 [(0, .ref (ad (0, 0))), (1, .int x1), (2, .ref (ad (4, x2))), (3, .int x3), (4, .int x4)]), W p l e (headSpec (wz yX6_reset cX6_reset 7 (some .int)) ({ frames := 1, cells := 0, slots := 0, locals := 24 } : Room)).room s m ([.ref (ad (0, 0)), .int x1] : List Value).toArray below meth c H locs 0 0 (MQ below (va_Qi (fun (r' : Int32) (u : CS) => r' = r ∧ u = τ') (CWp D cy A ad) A) ([.ref (ad (0, 0)), .int x1] : List Value).toArray s 0 0 A) (F0 m 34 ls []) := by
    intro K hKK τ x2 x3 x4 H locs ls hf hw hS hl
    rw [k_X6_reset_s34] at hf
    refine lv_iload hx hb dX6_reset_34 (lv_at hl 4 rfl) ?_
    refine lv_aload_n hx hb dX6_reset_36 rfl (lv_at hl 0 rfl) ?_
    obtain ⟨g_34, hf⟩ := zg_inv hf
    refine cr_get (v := .int (ci τ 6 0)) S hK hw 0 0 g_34 hX6 rfl rfl 6 (by decide) (wz_in (zin6 _ (List.mem_of_getElem? (i := 12) rfl))) rfl rfl dX6_reset_37 ?_
    refine lv_icmp_gt (tgt := 89) hx hb dX6_reset_40 (by decide) (fun c_35 => ?_) (fun c_35 => ?_)
    · have hf := (zi_t c_35).symm.trans hf
      refine lv_iload_n hx hb dX6_reset_89 rfl (lv_at hl 3 rfl) ?_
      exact cw_reti S hr hf hw hS hlocks dX6_reset_90
    · have hf := (zi_f c_35).symm.trans hf
      refine lv_aload_n hx hb dX6_reset_43 rfl (lv_at hl 2 rfl) ?_
      refine lv_iload hx hb dX6_reset_44 (lv_at hl 4 rfl) ?_
      obtain ⟨g_39, hf⟩ := zg_inv hf
      obtain ⟨r_36, t_37, e_38, hf⟩ := zb_inv hf
      refine cw_fq (kd := 6) (va_runVN (As := [.int x4]) (rest := []) S (kc_X1_classOf l D cy A ad en tI tS _ _ x2 x4 _ e_38) ⟨va_cnB 1 hts (wz_gd (zin9 _ (List.mem_of_getElem? (i := 18) rfl))) rfl rfl rfl (hN.2 _ (List.mem_of_getElem? (i := 3) rfl)) (hts _ (wz_in (zin2 _ (List.mem_of_getElem? (i := 6) rfl)))) (by decide +kernel) ⟨Nat.le_of_ble_eq_true rfl, Nat.le_of_ble_eq_true rfl⟩, hts _ (wz_in (zin9 _ (List.mem_of_getElem? (i := 16) rfl))), hts _ (wz_in (zin9 _ (List.mem_of_getElem? (i := 17) rfl)))⟩ ⟨cw_blind _, zw_recv hK hw (g := (4, x2)) (cG_at g_39) rfl, cw_pre hC hw hS _⟩ rfl rfl hl.1 rfl (lv_room (Nat.le_of_ble_eq_true rfl)) dX6_reset_46 ⟨Nat.zero_le _, Nat.zero_le _⟩) hS (fun H locs hw hS => ?_)
      refine zr_astore (lv' := [(5, rn ad 6 r_36), (0, .ref (ad (0, 0))), (1, .int x1), (2, .ref (ad (4, x2))), (3, .int x3), (4, .int x4)]) hx hb dX6_reset_49 hl (by decide) (by first | rfl | simp [zcat]) (fun ls hl => ?_)
      refine lv_aload_n hx hb dX6_reset_51 rfl (lv_at hl 1 rfl) ?_
      refine lv_iload hx hb dX6_reset_52 (lv_at hl 5 rfl) ?_
      obtain ⟨g_43, hf⟩ := zg_inv hf
      obtain ⟨r_40, t_41, e_42, hf⟩ := zb_inv hf
      refine cw_fq (kd := 7) (va_runV (As := [.int x4]) (rest := []) S (kc_X6_newestOf l D cy A ad en tI tS _ _ x4 _ e_42) (cwV 1 hts (wz_V (zin6 _ (List.mem_of_getElem? (i := 1) rfl)) (zin5 _ (List.mem_of_getElem? (i := 22) rfl)) (zin5 _ (List.mem_of_getElem? (i := 23) rfl)) (zin6 _ (List.mem_of_getElem? (i := 0) rfl)) (zin1 _ (List.mem_of_getElem? (i := 2) rfl))) rfl rfl rfl (by decide +kernel) ⟨Nat.le_of_ble_eq_true rfl, Nat.le_of_ble_eq_true rfl⟩) ⟨cw_blind _, zw_recv hK hw (g := (0, 0)) (cG_at g_43) rfl, cw_pre hC hw hS _⟩ rfl rfl hl.1 rfl (lv_room (Nat.le_of_ble_eq_true rfl)) dX6_reset_54 ⟨Nat.zero_le _, Nat.zero_le _⟩) hS (fun H locs hw hS => ?_)
      refine zr_astore (lv' := [(6, rn ad 7 r_40), (5, rn ad 6 r_36), (0, .ref (ad (0, 0))), (1, .int x1), (2, .ref (ad (4, x2))), (3, .int x3), (4, .int x4)]) hx hb dX6_reset_57 hl (by decide) (by first | rfl | simp [zcat]) (fun ls hl => ?_)
      refine zr_aload hx hb dX6_reset_59 (lv_at hl 1 rfl) ?_
      refine zr_ifnull (kd := 6) (o := r_36) hx hb dX6_reset_61 (tgt := 83) (by decide) (fun o_45 => ?_) (fun i_44 o_45 => ?_)
      · have hf := (zo_n o_45).symm.trans hf
        exact B83 K hKK _ x2 x3 x4 r_36 r_40 _ _ _ hf hw hS (lv_sub hl [2, 3, 4, 5, 6, 1, 0] rfl)
      · have hf := (zo_s o_45).symm.trans hf
        rw [o_45] at hl
        have hl : lv_has ls 7 [(6, rn ad 7 r_40), (5, .ref (ad (6, i_44))), (0, .ref (ad (0, 0))), (1, .int x1), (2, .ref (ad (4, x2))), (3, .int x3), (4, .int x4)] := hl
        refine zr_aload hx hb dX6_reset_64 (lv_at hl 0 rfl) ?_
        refine zr_ifnull (kd := 7) (o := r_40) hx hb dX6_reset_66 (tgt := 83) (by decide) (fun o_47 => ?_) (fun i_46 o_47 => ?_)
        · have hf := (zo_n o_47).symm.trans hf
          exact B83 K hKK _ x2 x3 x4 (some i_44) r_40 _ _ _ hf hw hS (lv_sub hl [2, 3, 4, 5, 6, 1, 0] rfl)
        · have hf := (zo_s o_47).symm.trans hf
          rw [o_47] at hl
          have hl : lv_has ls 7 [(6, .ref (ad (7, i_46))), (5, .ref (ad (6, i_44))), (0, .ref (ad (0, 0))), (1, .int x1), (2, .ref (ad (4, x2))), (3, .int x3), (4, .int x4)] := hl
          refine lv_aload hx hb dX6_reset_69 (lv_at hl 1 rfl) ?_
          refine lv_aload hx hb dX6_reset_71 (lv_at hl 0 rfl) ?_
          obtain ⟨g_48, hf⟩ := zg_inv hf
          refine cr_getN (v := .int (ci t_41 700 i_46)) S hK hw 7 i_46 g_48 hX2 rfl rfl 0 (by decide) hN (List.mem_of_getElem? (i := 11) rfl) rfl rfl dX6_reset_73 ?_
          refine lv_iconst (v := (0 : Int32)) hx hb dX6_reset_76 (by decide) ?_
          obtain ⟨g_52, hf⟩ := zg_inv hf
          obtain ⟨⟨⟩, t_50, e_51, hf⟩ := zb_inv hf
          refine cw_fv (va_runVN (As := [.int (ci t_41 700 i_46), .int (0 : Int32)]) (rest := []) S (kc_X4_becomeAnew l D cy A ad en tI tS _ _ i_44 (ci t_41 700 i_46) (0 : Int32) e_51) ⟨va_cnB 2 hts (wz_gd (zin18 _ (List.mem_of_getElem? (i := 14) rfl))) rfl rfl rfl (hN.2 _ (List.mem_of_getElem? (i := 12) rfl)) (hts _ (wz_in (zin9 _ (List.mem_of_getElem? (i := 11) rfl)))) (by decide +kernel) ⟨Nat.le_of_ble_eq_true rfl, Nat.le_of_ble_eq_true rfl⟩, hts _ (wz_in (zin18 _ (List.mem_of_getElem? (i := 12) rfl))), hts _ (wz_in (zin18 _ (List.mem_of_getElem? (i := 13) rfl)))⟩ ⟨cw_blind _, zw_recv hK hw (g := (6, i_44)) (cG_at g_52) rfl, cw_pre hC hw hS _⟩ rfl rfl hl.1 rfl (lv_room (Nat.le_of_ble_eq_true rfl)) dX6_reset_77 ⟨Nat.zero_le _, Nat.zero_le _⟩) hS (fun H locs hw hS => ?_)
          refine lv_iinc (v := x3 + (1 : Int32)) (lv' := [(3, .int (x3 + (1 : Int32))), (6, .ref (ad (7, i_46))), (5, .ref (ad (6, i_44))), (0, .ref (ad (0, 0))), (1, .int x1), (2, .ref (ad (4, x2))), (4, .int x4)]) hx hb dX6_reset_80 hl (k := 5) rfl rfl (by decide) rfl (fun ls hl => ?_)
          exact B83 K hKK _ x2 (x3 + (1 : Int32)) x4 (some i_44) (some i_46) _ _ _ hf hw hS (lv_sub hl [3, 4, 5, 0, 6, 2, 1] rfl)
  have L34 : ∀ (n : Nat) (τ : CS) (x2 : Nat) (x3 : Int32) (x4 : Int32) (H : Heap) (locs : List Loc) (ls : Array Slot) (hf : k_X6_reset_l34 x1 n τ x2 x3 x4 = some (r, τ')) (hw : zw D A ad (cG cy ad τ) H) (hS : va_S A s.heap H locs) (hl : lv_has ls 7 [(0, .ref (ad (0, 0))), (1, .int x1), (2, .ref (ad (4, x2))), (3, .int x3), (4, .int x4)]), W p l e (headSpec (wz yX6_reset cX6_reset 7 (some .int)) ({ frames := 1, cells := 0, slots := 0, locals := 24 } : Room)).room s m ([.ref (ad (0, 0)), .int x1] : List Value).toArray below meth c H locs 0 0 (MQ below (va_Qi (fun (r' : Int32) (u : CS) => r' = r ∧ u = τ') (CWp D cy A ad) A) ([.ref (ad (0, 0)), .int x1] : List Value).toArray s 0 0 A) (F0 m 34 ls []) := by
    intro n
    induction n with
    | zero =>
      intro τ x2 x3 x4 H locs ls hf hw hS hl
      rw [k_X6_reset_l34_z] at hf
      cases hf
    | succ n ih =>
      intro τ x2 x3 x4 H locs ls hf hw hS hl
      rw [k_X6_reset_l34_s] at hf
      exact S34 (k_X6_reset_l34 x1 n) ih τ x2 x3 x4 H locs ls hf hw hS hl
  rw [k_X6_reset] at hf
  refine lv_aload_n hx hb dX6_reset_0 rfl (lv_at hl 0 rfl) ?_
  refine lv_iload_n hx hb dX6_reset_1 rfl (lv_at hl 1 rfl) ?_
  obtain ⟨g_56, hf⟩ := zg_inv hf
  obtain ⟨r_53, t_54, e_55, hf⟩ := zb_inv hf
  refine cw_fq (kd := 4) (va_runV (As := [.int x1]) (rest := []) S (kc_X6_controllerAt l D cy A ad en tI tS _ _ x1 _ e_55) (cwV 1 hts (wz_V (zin9 _ (List.mem_of_getElem? (i := 15) rfl)) (zin9 _ (List.mem_of_getElem? (i := 12) rfl)) (zin9 _ (List.mem_of_getElem? (i := 13) rfl)) (zin9 _ (List.mem_of_getElem? (i := 14) rfl)) (zin1 _ (List.mem_of_getElem? (i := 2) rfl))) rfl rfl rfl (by decide +kernel) ⟨Nat.le_of_ble_eq_true rfl, Nat.le_of_ble_eq_true rfl⟩) ⟨cw_blind _, zw_recv hK hw (g := (0, 0)) (cG_at g_56) rfl, cw_pre hC hw hS _⟩ rfl rfl hl.1 rfl (lv_room (Nat.le_of_ble_eq_true rfl)) dX6_reset_2 ⟨Nat.zero_le _, Nat.zero_le _⟩) hS (fun H locs hw hS => ?_)
  refine zr_astore_n (lv' := [(2, rn ad 4 r_53), (0, .ref (ad (0, 0))), (1, .int x1)]) hx hb dX6_reset_5 rfl hl (by decide) (by first | rfl | simp [zcat]) (fun ls hl => ?_)
  refine zr_aload_n hx hb dX6_reset_6 rfl (lv_at hl 0 rfl) ?_
  refine zr_ifnonnull (kd := 4) (o := r_53) hx hb dX6_reset_7 (tgt := 16) (by decide) (fun i_57 o_58 => ?_) (fun o_58 => ?_)
  · have hf := (zo_s o_58).symm.trans hf
    rw [o_58] at hl
    have hl : lv_has ls 7 [(2, .ref (ad (4, i_57))), (0, .ref (ad (0, 0))), (1, .int x1)] := hl
    refine lv_aload_n hx hb dX6_reset_16 rfl (lv_at hl 0 rfl) ?_
    refine lv_iconst (v := (0 : Int32)) hx hb dX6_reset_17 (by decide) ?_
    obtain ⟨g_63, hf⟩ := zg_inv hf
    refine cr_putN (v := .int (0 : Int32)) (σ1 := cI t_54 402 i_57 (0 : Int32)) S hK hw hS 4 i_57 g_63 hX1 tyX1 tyX1_ok nmX1 rfl rfl 2 (by decide) hN (List.mem_of_getElem? (i := 1) rfl) rfl rfl rfl rfl (Nat.le_of_ble_eq_true rfl) dX6_reset_18 rfl (cput_402 _ _ _ _ _) (cout_402 _ _ _ _ _) (fun H locs hw hS => ?_)
    refine lv_aload_n hx hb dX6_reset_21 rfl (lv_at hl 0 rfl) ?_
    refine cr_getN (v := .ref (ad (8, 3 + i_57))) S hK hw 4 i_57 g_63 hX1 rfl rfl 0 (by decide) hN (List.mem_of_getElem? (i := 0) rfl) rfl rfl dX6_reset_22 ?_
    refine lv_lconst (v := (0 : Int64)) hx hb dX6_reset_25 (by decide) ?_
    obtain ⟨⟨⟩, t_65, e_66, hf⟩ := zb_inv hf
    refine cw_fv (va_runS (As := [.ref (ad (8, 3 + i_57)), .long (0 : Int64)]) (rest := []) S (kc_J7_fill_d0a16 l D cy A ad en tI tS _ _ (3 + i_57) (0 : Int64) e_66) (va_cwS 2 hts (wz_S (zin19 _ (List.mem_of_getElem? (i := 2) rfl)) (zin19 _ (List.mem_of_getElem? (i := 0) rfl)) (zin19 _ (List.mem_of_getElem? (i := 1) rfl)) (zin7 _ (List.mem_of_getElem? (i := 0) rfl))) rfl rfl rfl (by decide +kernel) ⟨Nat.le_of_ble_eq_true rfl, Nat.le_of_ble_eq_true rfl⟩) ⟨cw_blind _, cw_pre hC hw hS _⟩ rfl rfl hl.1 rfl (lv_room (Nat.le_of_ble_eq_true rfl)) dX6_reset_26 ⟨Nat.zero_le _, Nat.zero_le _⟩) hS (fun H locs hw hS => ?_)
    refine lv_iconst (v := (0 : Int32)) hx hb dX6_reset_29 (by decide) ?_
    refine lv_istore_n (lv' := [(3, .int (0 : Int32)), (2, .ref (ad (4, i_57))), (0, .ref (ad (0, 0))), (1, .int x1)]) hx hb dX6_reset_30 rfl hl (by decide) rfl (fun ls hl => ?_)
    refine lv_iconst (v := (1 : Int32)) hx hb dX6_reset_31 (by decide) ?_
    refine lv_istore (lv' := [(4, .int (1 : Int32)), (3, .int (0 : Int32)), (2, .ref (ad (4, i_57))), (0, .ref (ad (0, 0))), (1, .int x1)]) hx hb dX6_reset_32 hl (by decide) rfl (fun ls hl => ?_)
    exact L34 FU _ i_57 (0 : Int32) (1 : Int32) _ _ _ hf hw hS (lv_sub hl [3, 4, 2, 1, 0] rfl)
  · have hf := (zo_n o_58).symm.trans hf
    refine lv_aload_n hx hb dX6_reset_10 rfl (lv_at hl 1 rfl) ?_
    refine lv_iconst (v := (-1 : Int32)) hx hb dX6_reset_11 (by decide) ?_
    obtain ⟨g_62, hf⟩ := zg_inv hf
    obtain ⟨r_59, t_60, e_61, hf⟩ := zb_inv hf
    refine cw_fi (va_runV (As := [.int (-1 : Int32)]) (rest := []) S (kc_X6_refuse l D cy A ad en tI tS _ _ (-1 : Int32) _ e_61) (cwV 1 hts (wz_V (zin4 _ (List.mem_of_getElem? (i := 22) rfl)) (zin4 _ (List.mem_of_getElem? (i := 19) rfl)) (zin4 _ (List.mem_of_getElem? (i := 20) rfl)) (zin4 _ (List.mem_of_getElem? (i := 21) rfl)) (zin1 _ (List.mem_of_getElem? (i := 2) rfl))) rfl rfl rfl (by decide +kernel) ⟨Nat.le_of_ble_eq_true rfl, Nat.le_of_ble_eq_true rfl⟩) ⟨cw_blind _, zw_recv hK hw (g := (0, 0)) (cG_at g_62) rfl, cw_pre hC hw hS _⟩ rfl rfl hl.1 rfl (lv_room (Nat.le_of_ble_eq_true rfl)) dX6_reset_12 ⟨Nat.zero_le _, Nat.zero_le _⟩) hS (fun H locs hw hS => ?_)
    exact cw_reti S hr hf hw hS hlocks dX6_reset_15
noncomputable def k_X6_fault_b93 (x1 : Int32) (x2 : Int32) (τ : CS) (y0 : Int32) (x3 : Nat) : Option (Int32 × CS) := some (y0, τ)
noncomputable def k_X6_fault (τ : CS) (x1 : Int32) (x2 : Int32) : Option (Int32 × CS) := zg (cv τ 0 0 = true) (zb (k_X6_controllerAt τ x1) (fun r_29 t_30 => zo (r_29) (zg (cv t_30 0 0 = true) (zb (k_X6_refuse t_30 (-1 : Int32)) (fun r_35 t_36 => some (r_35, t_36)))) (fun i_33 => zs (x2) (fun w_39 => zi (w_39 = 0) (zg (cv t_30 4 i_33 = true) (some (ci t_30 404 i_33, t_30))) (zi (w_39 = 1) (zg (cv t_30 4 i_33 = true) (some (ci t_30 405 i_33, t_30))) (zi (w_39 = 2) (zg (cv t_30 4 i_33 = true) (some (ci t_30 406 i_33, t_30))) (zi (w_39 = 3) (zg (cv t_30 4 i_33 = true) (some (ci t_30 407 i_33, t_30))) (zi (w_39 = 4) (zg (cv t_30 4 i_33 = true) (some (ci t_30 408 i_33, t_30))) (zi (w_39 = 5) (zg (cv t_30 4 i_33 = true) (zi ((ci t_30 402 i_33) = 0) (k_X6_fault_b93 x1 x2 t_30 (0 : Int32) i_33) (k_X6_fault_b93 x1 x2 t_30 (1 : Int32) i_33))) (zg (cv t_30 0 0 = true) (zb (k_X6_refuse t_30 (-2 : Int32)) (fun r_53 t_54 => some (r_53, t_54)))))))))))))
set_option maxHeartbeats 4000000 in
set_option maxRecDepth 100000 in
theorem kc_X6_fault (l : Launch) (D : va_G) (cy : Nat → ClassId) (A : Nat → Prop) (ad : Nat × Nat → Nat) (en : Nat → Nat) (tI tS : Nat) (τ τ' : CS) (x1 : Int32) (x2 : Int32) (r : Int32) (hf : k_X6_fault τ x1 x2 = some (r, τ')) : Met l yX6_fault (wz yX6_fault cX6_fault 4 (some .int)) ({ frames := 1, cells := 0, slots := 0, locals := 21 } : Room) (va_Pc [.ref (ad (0, 0)), .int x1, .int x2] (CWs D cy A ad en tI tS τ)) (va_Qi (fun (r' : Int32) (u : CS) => r' = r ∧ u = τ') (CWp D cy A ad) A) 0 0 A := by
  refine Met.ofW (cc := cX6_fault) (maxL := 4) (ret := (some .int)) (by decide) rfl ?_
  intro p e s m args below meth c s₁ B hml hv
  obtain ⟨rfl, hw, hC⟩ := hv
  have hK := hC.1
  have hN := hC.2.1
  have hx := B.exec
  have hb := B.bytes
  have hr := B.returns
  have hts := atoms_spec (ws := (wz yX6_fault cX6_fault 4 (some .int))) B.pre
  have hown : s.vm.findClass RX6 = some m.cls := findClass_of_methodNamed B.named
  have hlocks := B.notSynchronized
  have S : CallFix p m c cX6_fault 4 s ([.ref (ad (0, 0)), .int x1, .int x2] : List Value).toArray (wz yX6_fault cX6_fault 4 (some .int)) RX6 := ⟨hx, hb, hml, hown, hts⟩
  have hX1 : ∀ w ∈ wsX10, w ∈ (wz yX6_fault cX6_fault 4 (some .int)) := fun w h => wz_in (inlX1 w h)
  have hX2 : ∀ w ∈ wsX20, w ∈ (wz yX6_fault cX6_fault 4 (some .int)) := fun w h => wz_in (inlX2 w h)
  have hX4 : ∀ w ∈ wsX40, w ∈ (wz yX6_fault cX6_fault 4 (some .int)) := fun w h => wz_in (inlX4 w h)
  have hX5 : ∀ w ∈ wsX50, w ∈ (wz yX6_fault cX6_fault 4 (some .int)) := fun w h => wz_in (inlX5 w h)
  have hX6 : ∀ w ∈ wsX60, w ∈ (wz yX6_fault cX6_fault 4 (some .int)) := fun w h => wz_in (inlX6 w h)
  have hS : va_S A s.heap s.heap [] := va_S.rf
  have hl := lv_entry ([.ref (ad (0, 0)), .int x1, .int x2]) (n := 4) (Nat.le_of_ble_eq_true rfl)
  rw [lg_entry_eq]
  generalize (lg_sl ([.ref (ad (0, 0)), .int x1, .int x2]) ++ List.replicate (4 - (lg_sl ([.ref (ad (0, 0)), .int x1, .int x2])).length) Slot.unset).toArray = ls at hl ⊢
  have hl : lv_has ls 4 [(0, .ref (ad (0, 0))), (1, .int x1), (2, .int x2)] := hl
  have B93 : ∀ (τ : CS) (y0 : Int32) (x3 : Nat) (H : Heap) (locs : List Loc) (ls : Array Slot) (hf : k_X6_fault_b93 x1 x2 τ y0 x3 = some (r, τ')) (hw : zw D A ad (cG cy ad τ) H) (hS : va_S A s.heap H locs) (hl : lv_has ls 4 [(0, .ref (ad (0, 0))), (1, .int x1), (2, .int x2), (3, .ref (ad (4, x3)))]), W p l e (headSpec (wz yX6_fault cX6_fault 4 (some .int)) ({ frames := 1, cells := 0, slots := 0, locals := 21 } : Room)).room s m ([.ref (ad (0, 0)), .int x1, .int x2] : List Value).toArray below meth c H locs 0 0 (MQ below (va_Qi (fun (r' : Int32) (u : CS) => r' = r ∧ u = τ') (CWp D cy A ad) A) ([.ref (ad (0, 0)), .int x1, .int x2] : List Value).toArray s 0 0 A) (F0 m 93 ls [.int y0]) := by
    intro τ y0 x3 H locs ls hf hw hS hl
    rw [k_X6_fault_b93] at hf
    exact cw_reti S hr hf hw hS hlocks dX6_fault_93
  rw [k_X6_fault] at hf
  refine lv_aload_n hx hb dX6_fault_0 rfl (lv_at hl 0 rfl) ?_
  refine lv_iload_n hx hb dX6_fault_1 rfl (lv_at hl 1 rfl) ?_
  obtain ⟨g_32, hf⟩ := zg_inv hf
  obtain ⟨r_29, t_30, e_31, hf⟩ := zb_inv hf
  refine cw_fq (kd := 4) (va_runV (As := [.int x1]) (rest := []) S (kc_X6_controllerAt l D cy A ad en tI tS _ _ x1 _ e_31) (cwV 1 hts (wz_V (zin9 _ (List.mem_of_getElem? (i := 15) rfl)) (zin9 _ (List.mem_of_getElem? (i := 12) rfl)) (zin9 _ (List.mem_of_getElem? (i := 13) rfl)) (zin9 _ (List.mem_of_getElem? (i := 14) rfl)) (zin1 _ (List.mem_of_getElem? (i := 2) rfl))) rfl rfl rfl (by decide +kernel) ⟨Nat.le_of_ble_eq_true rfl, Nat.le_of_ble_eq_true rfl⟩) ⟨cw_blind _, zw_recv hK hw (g := (0, 0)) (cG_at g_32) rfl, cw_pre hC hw hS _⟩ rfl rfl hl.1 rfl (lv_room (Nat.le_of_ble_eq_true rfl)) dX6_fault_2 ⟨Nat.zero_le _, Nat.zero_le _⟩) hS (fun H locs hw hS => ?_)
  refine zr_astore_n (lv' := [(3, rn ad 4 r_29), (0, .ref (ad (0, 0))), (1, .int x1), (2, .int x2)]) hx hb dX6_fault_5 rfl hl (by decide) (by first | rfl | simp [zcat]) (fun ls hl => ?_)
  refine zr_aload_n hx hb dX6_fault_6 rfl (lv_at hl 0 rfl) ?_
  refine zr_ifnonnull (kd := 4) (o := r_29) hx hb dX6_fault_7 (tgt := 16) (by decide) (fun i_33 o_34 => ?_) (fun o_34 => ?_)
  · have hf := (zo_s o_34).symm.trans hf
    rw [o_34] at hl
    have hl : lv_has ls 4 [(3, .ref (ad (4, i_33))), (0, .ref (ad (0, 0))), (1, .int x1), (2, .int x2)] := hl
    refine lv_iload_n hx hb dX6_fault_16 rfl (lv_at hl 3 rfl) ?_
    refine lv_topi (fun w_39 ew_39 => ?_)
    have hf := (zs_e ew_39).symm.trans hf
    by_cases c_40 : w_39 = 0
    · have hf := (zi_t c_40).symm.trans hf
      refine lv_tableIn (tgt := 56) hx hb dX6_fault_17 (by rw [c_40]; decide) (by rw [c_40]; decide) (by rw [c_40]; rfl) (by decide) ?_
      refine lv_aload_n hx hb dX6_fault_56 rfl (lv_at hl 0 rfl) ?_
      obtain ⟨g_41, hf⟩ := zg_inv hf
      refine cr_getN (v := .int (ci t_30 404 i_33)) S hK hw 4 i_33 g_41 hX1 rfl rfl 4 (by decide) hN (List.mem_of_getElem? (i := 3) rfl) rfl rfl dX6_fault_57 ?_
      exact cw_reti S hr hf hw hS hlocks dX6_fault_60
    have hf := (zi_f c_40).symm.trans hf
    by_cases c_42 : w_39 = 1
    · have hf := (zi_t c_42).symm.trans hf
      refine lv_tableIn (tgt := 61) hx hb dX6_fault_17 (by rw [c_42]; decide) (by rw [c_42]; decide) (by rw [c_42]; rfl) (by decide) ?_
      refine lv_aload_n hx hb dX6_fault_61 rfl (lv_at hl 0 rfl) ?_
      obtain ⟨g_43, hf⟩ := zg_inv hf
      refine cr_getN (v := .int (ci t_30 405 i_33)) S hK hw 4 i_33 g_43 hX1 rfl rfl 5 (by decide) hN (List.mem_of_getElem? (i := 4) rfl) rfl rfl dX6_fault_62 ?_
      exact cw_reti S hr hf hw hS hlocks dX6_fault_65
    have hf := (zi_f c_42).symm.trans hf
    by_cases c_44 : w_39 = 2
    · have hf := (zi_t c_44).symm.trans hf
      refine lv_tableIn (tgt := 66) hx hb dX6_fault_17 (by rw [c_44]; decide) (by rw [c_44]; decide) (by rw [c_44]; rfl) (by decide) ?_
      refine lv_aload_n hx hb dX6_fault_66 rfl (lv_at hl 0 rfl) ?_
      obtain ⟨g_45, hf⟩ := zg_inv hf
      refine cr_getN (v := .int (ci t_30 406 i_33)) S hK hw 4 i_33 g_45 hX1 rfl rfl 6 (by decide) hN (List.mem_of_getElem? (i := 5) rfl) rfl rfl dX6_fault_67 ?_
      exact cw_reti S hr hf hw hS hlocks dX6_fault_70
    have hf := (zi_f c_44).symm.trans hf
    by_cases c_46 : w_39 = 3
    · have hf := (zi_t c_46).symm.trans hf
      refine lv_tableIn (tgt := 71) hx hb dX6_fault_17 (by rw [c_46]; decide) (by rw [c_46]; decide) (by rw [c_46]; rfl) (by decide) ?_
      refine lv_aload_n hx hb dX6_fault_71 rfl (lv_at hl 0 rfl) ?_
      obtain ⟨g_47, hf⟩ := zg_inv hf
      refine cr_getN (v := .int (ci t_30 407 i_33)) S hK hw 4 i_33 g_47 hX1 rfl rfl 7 (by decide) hN (List.mem_of_getElem? (i := 6) rfl) rfl rfl dX6_fault_72 ?_
      exact cw_reti S hr hf hw hS hlocks dX6_fault_75
    have hf := (zi_f c_46).symm.trans hf
    by_cases c_48 : w_39 = 4
    · have hf := (zi_t c_48).symm.trans hf
      refine lv_tableIn (tgt := 76) hx hb dX6_fault_17 (by rw [c_48]; decide) (by rw [c_48]; decide) (by rw [c_48]; rfl) (by decide) ?_
      refine lv_aload_n hx hb dX6_fault_76 rfl (lv_at hl 0 rfl) ?_
      obtain ⟨g_49, hf⟩ := zg_inv hf
      refine cr_getN (v := .int (ci t_30 408 i_33)) S hK hw 4 i_33 g_49 hX1 rfl rfl 8 (by decide) hN (List.mem_of_getElem? (i := 7) rfl) rfl rfl dX6_fault_77 ?_
      exact cw_reti S hr hf hw hS hlocks dX6_fault_80
    have hf := (zi_f c_48).symm.trans hf
    by_cases c_50 : w_39 = 5
    · have hf := (zi_t c_50).symm.trans hf
      refine lv_tableIn (tgt := 81) hx hb dX6_fault_17 (by rw [c_50]; decide) (by rw [c_50]; decide) (by rw [c_50]; rfl) (by decide) ?_
      refine lv_aload_n hx hb dX6_fault_81 rfl (lv_at hl 0 rfl) ?_
      obtain ⟨g_51, hf⟩ := zg_inv hf
      refine cr_getN (v := .int (ci t_30 402 i_33)) S hK hw 4 i_33 g_51 hX1 rfl rfl 2 (by decide) hN (List.mem_of_getElem? (i := 1) rfl) rfl rfl dX6_fault_82 ?_
      refine lv_if_eq (tgt := 92) hx hb dX6_fault_85 (by decide) (fun c_52 => ?_) (fun c_52 => ?_)
      · have hf := (zi_t c_52).symm.trans hf
        refine lv_iconst (v := (0 : Int32)) hx hb dX6_fault_92 (by decide) ?_
        exact B93 _ (0 : Int32) i_33 _ _ _ hf hw hS (lv_sub hl [1, 2, 3, 0] rfl)
      · have hf := (zi_f c_52).symm.trans hf
        refine lv_iconst (v := (1 : Int32)) hx hb dX6_fault_88 (by decide) ?_
        refine lv_goto (tgt := 93) hx hb dX6_fault_89 (by decide) ?_
        exact B93 _ (1 : Int32) i_33 _ _ _ hf hw hS (lv_sub hl [1, 2, 3, 0] rfl)
    have hf := (zi_f c_50).symm.trans hf
    refine lv_tableOut (tgt := 94) hx hb dX6_fault_17 (zs_out0_5 w_39 c_40 c_42 c_44 c_46 c_48 c_50) (by decide) ?_
    refine lv_aload_n hx hb dX6_fault_94 rfl (lv_at hl 1 rfl) ?_
    refine lv_bipush (v := (-2 : Int32)) hx hb dX6_fault_95 (by decide) ?_
    obtain ⟨g_56, hf⟩ := zg_inv hf
    obtain ⟨r_53, t_54, e_55, hf⟩ := zb_inv hf
    refine cw_fi (va_runV (As := [.int (-2 : Int32)]) (rest := []) S (kc_X6_refuse l D cy A ad en tI tS _ _ (-2 : Int32) _ e_55) (cwV 1 hts (wz_V (zin4 _ (List.mem_of_getElem? (i := 22) rfl)) (zin4 _ (List.mem_of_getElem? (i := 19) rfl)) (zin4 _ (List.mem_of_getElem? (i := 20) rfl)) (zin4 _ (List.mem_of_getElem? (i := 21) rfl)) (zin1 _ (List.mem_of_getElem? (i := 2) rfl))) rfl rfl rfl (by decide +kernel) ⟨Nat.le_of_ble_eq_true rfl, Nat.le_of_ble_eq_true rfl⟩) ⟨cw_blind _, zw_recv hK hw (g := (0, 0)) (cG_at g_56) rfl, cw_pre hC hw hS _⟩ rfl rfl hl.1 rfl (lv_room (Nat.le_of_ble_eq_true rfl)) dX6_fault_97 ⟨Nat.zero_le _, Nat.zero_le _⟩) hS (fun H locs hw hS => ?_)
    exact cw_reti S hr hf hw hS hlocks dX6_fault_100
  · have hf := (zo_n o_34).symm.trans hf
    refine lv_aload_n hx hb dX6_fault_10 rfl (lv_at hl 1 rfl) ?_
    refine lv_iconst (v := (-1 : Int32)) hx hb dX6_fault_11 (by decide) ?_
    obtain ⟨g_38, hf⟩ := zg_inv hf
    obtain ⟨r_35, t_36, e_37, hf⟩ := zb_inv hf
    refine cw_fi (va_runV (As := [.int (-1 : Int32)]) (rest := []) S (kc_X6_refuse l D cy A ad en tI tS _ _ (-1 : Int32) _ e_37) (cwV 1 hts (wz_V (zin4 _ (List.mem_of_getElem? (i := 22) rfl)) (zin4 _ (List.mem_of_getElem? (i := 19) rfl)) (zin4 _ (List.mem_of_getElem? (i := 20) rfl)) (zin4 _ (List.mem_of_getElem? (i := 21) rfl)) (zin1 _ (List.mem_of_getElem? (i := 2) rfl))) rfl rfl rfl (by decide +kernel) ⟨Nat.le_of_ble_eq_true rfl, Nat.le_of_ble_eq_true rfl⟩) ⟨cw_blind _, zw_recv hK hw (g := (0, 0)) (cG_at g_38) rfl, cw_pre hC hw hS _⟩ rfl rfl hl.1 rfl (lv_room (Nat.le_of_ble_eq_true rfl)) dX6_fault_12 ⟨Nat.zero_le _, Nat.zero_le _⟩) hS (fun H locs hw hS => ?_)
    exact cw_reti S hr hf hw hS hlocks dX6_fault_15
noncomputable def k_X6_same_s44 (x1 : Int32) (x2 : Int32) (x3 : Int32) (K : CS → Nat → Nat → Int32 → Option (Int32 × CS)) (τ : CS) (x4 : Nat) (x5 : Nat) (x6 : Int32) : Option (Int32 × CS) := zi ((8 : Int32) ≤ x6) (zg (narrow .boolean (.int (1 : Int32)) = .int (1 : Int32)) (some ((1 : Int32), τ))) (zg (cv τ 6 x4 = true) (zb (k_X6_numberAt τ (11 + x4) x6) (fun r_32 t_33 => zg (cv t_33 6 x5 = true) (zb (k_X6_numberAt t_33 (11 + x5) x6) (fun r_36 t_37 => zi ((lg_cmp r_32 r_36) = 0) (K t_37 x4 x5 (x6 + (1 : Int32))) (zg (narrow .boolean (.int (0 : Int32)) = .int (0 : Int32)) (some ((0 : Int32), t_37))))))))
noncomputable def k_X6_same_l44 (x1 : Int32) (x2 : Int32) (x3 : Int32) : Nat → CS → Nat → Nat → Int32 → Option (Int32 × CS)
  | 0 => fun _ _ _ _ => none
  | n + 1 => fun τ x4 x5 x6 => k_X6_same_s44 x1 x2 x3 (k_X6_same_l44 x1 x2 x3 n) τ x4 x5 x6
theorem k_X6_same_l44_s (x1 : Int32) (x2 : Int32) (x3 : Int32) (n : Nat) (τ : CS) (x4 : Nat) (x5 : Nat) (x6 : Int32) : k_X6_same_l44 x1 x2 x3 (n + 1) τ x4 x5 x6 = k_X6_same_s44 x1 x2 x3 (k_X6_same_l44 x1 x2 x3 n) τ x4 x5 x6 := rfl
theorem k_X6_same_l44_z (x1 : Int32) (x2 : Int32) (x3 : Int32) (τ : CS) (x4 : Nat) (x5 : Nat) (x6 : Int32) : k_X6_same_l44 x1 x2 x3 0 τ x4 x5 x6 = none := rfl
noncomputable def k_X6_same_b39 (x1 : Int32) (x2 : Int32) (x3 : Int32) (τ : CS) (x4 : Option Nat) (x5 : Option Nat) : Option (Int32 × CS) := zg (narrow .boolean (.int (0 : Int32)) = .int (0 : Int32)) (some ((0 : Int32), τ))
noncomputable def k_X6_same (τ : CS) (x1 : Int32) (x2 : Int32) (x3 : Int32) : Option (Int32 × CS) := zg (cv τ 0 0 = true) (zb (k_X6_classAt τ x1 x3) (fun r_42 t_43 => zg (cv t_43 0 0 = true) (zb (k_X6_classAt t_43 x2 x3) (fun r_46 t_47 => zo (r_42) (k_X6_same_b39 x1 x2 x3 t_47 r_42 r_46) (fun i_50 => zo (r_46) (k_X6_same_b39 x1 x2 x3 t_47 (some i_50) r_46) (fun i_52 => zg (cv t_47 6 i_50 = true) (zg (cv t_47 6 i_52 = true) (zi ((ci t_47 601 i_50) = (ci t_47 601 i_52)) (k_X6_same_l44 x1 x2 x3 FU t_47 i_50 i_52 (0 : Int32)) (k_X6_same_b39 x1 x2 x3 t_47 (some i_50) (some i_52))))))))))
set_option maxHeartbeats 4000000 in
set_option maxRecDepth 100000 in
theorem kc_X6_same (l : Launch) (D : va_G) (cy : Nat → ClassId) (A : Nat → Prop) (ad : Nat × Nat → Nat) (en : Nat → Nat) (tI tS : Nat) (τ τ' : CS) (x1 : Int32) (x2 : Int32) (x3 : Int32) (r : Int32) (hf : k_X6_same τ x1 x2 x3 = some (r, τ')) : Met l yX6_same (wz yX6_same cX6_same 7 (some .boolean)) ({ frames := 2, cells := 0, slots := 0, locals := 44 } : Room) (va_Pc [.ref (ad (0, 0)), .int x1, .int x2, .int x3] (CWs D cy A ad en tI tS τ)) (va_Qi (fun (r' : Int32) (u : CS) => r' = r ∧ u = τ') (CWp D cy A ad) A) 0 0 A := by
  refine Met.ofW (cc := cX6_same) (maxL := 7) (ret := (some .boolean)) (by decide) rfl ?_
  intro p e s m args below meth c s₁ B hml hv
  obtain ⟨rfl, hw, hC⟩ := hv
  have hK := hC.1
  have hN := hC.2.1
  have hx := B.exec
  have hb := B.bytes
  have hr := B.returns
  have hts := atoms_spec (ws := (wz yX6_same cX6_same 7 (some .boolean))) B.pre
  have hown : s.vm.findClass RX6 = some m.cls := findClass_of_methodNamed B.named
  have hlocks := B.notSynchronized
  have S : CallFix p m c cX6_same 7 s ([.ref (ad (0, 0)), .int x1, .int x2, .int x3] : List Value).toArray (wz yX6_same cX6_same 7 (some .boolean)) RX6 := ⟨hx, hb, hml, hown, hts⟩
  have hX1 : ∀ w ∈ wsX10, w ∈ (wz yX6_same cX6_same 7 (some .boolean)) := fun w h => wz_in (inlX1 w h)
  have hX2 : ∀ w ∈ wsX20, w ∈ (wz yX6_same cX6_same 7 (some .boolean)) := fun w h => wz_in (inlX2 w h)
  have hX4 : ∀ w ∈ wsX40, w ∈ (wz yX6_same cX6_same 7 (some .boolean)) := fun w h => wz_in (inlX4 w h)
  have hX5 : ∀ w ∈ wsX50, w ∈ (wz yX6_same cX6_same 7 (some .boolean)) := fun w h => wz_in (inlX5 w h)
  have hX6 : ∀ w ∈ wsX60, w ∈ (wz yX6_same cX6_same 7 (some .boolean)) := fun w h => wz_in (inlX6 w h)
  have hS : va_S A s.heap s.heap [] := va_S.rf
  have hl := lv_entry ([.ref (ad (0, 0)), .int x1, .int x2, .int x3]) (n := 7) (Nat.le_of_ble_eq_true rfl)
  rw [lg_entry_eq]
  generalize (lg_sl ([.ref (ad (0, 0)), .int x1, .int x2, .int x3]) ++ List.replicate (7 - (lg_sl ([.ref (ad (0, 0)), .int x1, .int x2, .int x3])).length) Slot.unset).toArray = ls at hl ⊢
  have hl : lv_has ls 7 [(0, .ref (ad (0, 0))), (1, .int x1), (2, .int x2), (3, .int x3)] := hl
  have S44 : ∀ (K : CS → Nat → Nat → Int32 → Option (Int32 × CS)) (_hKK : ∀ (τ : CS) (x4 : Nat) (x5 : Nat) (x6 : Int32) (H : Heap) (locs : List Loc) (ls : Array Slot) (hf : K τ x4 x5 x6 = some (r, τ')) (hw : zw D A ad (cG cy ad τ) H) (hS : va_S A s.heap H locs) (hl : lv_has ls 7 [(0, .ref (ad (0, 0))), (1, .int x1), (2, .int x2), (3, .int x3), (4, .ref (ad (6, x4))), (5, .ref (ad (6, x5))), (6, .int x6)]), W p l e (headSpec (wz yX6_same cX6_same 7 (some .boolean)) ({ frames := 2, cells := 0, slots := 0, locals := 44 } : Room)).room s m ([.ref (ad (0, 0)), .int x1, .int x2, .int x3] : List Value).toArray below meth c H locs 0 0 (MQ below (va_Qi (fun (r' : Int32) (u : CS) => r' = r ∧ u = τ') (CWp D cy A ad) A) ([.ref (ad (0, 0)), .int x1, .int x2, .int x3] : List Value).toArray s 0 0 A) (F0 m 44 ls [])) (τ : CS) (x4 : Nat) (x5 : Nat) (x6 : Int32) (H : Heap) (locs : List Loc) (ls : Array Slot) (hf : k_X6_same_s44 x1 x2 x3 K τ x4 x5 x6 = some (r, τ')) (hw : zw D A ad (cG cy ad τ) H) (hS : va_S A s.heap H locs) (hl : lv_has ls 7 [(0, .ref (ad (0, 0))), (1, .int x1), (2, .int x2), (3, .int x3), (4, .ref (ad (6, x4))), (5, .ref (ad (6, x5))), (6, .int x6)]), W p l e (headSpec (wz yX6_same cX6_same 7 (some .boolean)) ({ frames := 2, cells := 0, slots := 0, locals := 44 } : Room)).room s m ([.ref (ad (0, 0)), .int x1, .int x2, .int x3] : List Value).toArray below meth c H locs 0 0 (MQ below (va_Qi (fun (r' : Int32) (u : CS) => r' = r ∧ u = τ') (CWp D cy A ad) A) ([.ref (ad (0, 0)), .int x1, .int x2, .int x3] : List Value).toArray s 0 0 A) (F0 m 44 ls []) := by
    intro K hKK τ x4 x5 x6 H locs ls hf hw hS hl
    rw [k_X6_same_s44] at hf
    refine lv_iload hx hb dX6_same_44 (lv_at hl 6 rfl) ?_
    refine lv_bipush (v := (8 : Int32)) hx hb dX6_same_46 (by decide) ?_
    refine lv_icmp_ge (tgt := 83) hx hb dX6_same_48 (by decide) (fun c_29 => ?_) (fun c_29 => ?_)
    · have hf := (zi_t c_29).symm.trans hf
      refine lv_iconst (v := (1 : Int32)) hx hb dX6_same_83 (by decide) ?_
      obtain ⟨g_30, hf⟩ := zg_inv hf
      exact cw_retz S hr g_30 hf hw hS hlocks dX6_same_84
    · have hf := (zi_f c_29).symm.trans hf
      refine lv_aload hx hb dX6_same_51 (lv_at hl 4 rfl) ?_
      obtain ⟨g_31, hf⟩ := zg_inv hf
      refine cr_getN (v := .ref (ad (8, 11 + x4))) S hK hw 6 x4 g_31 hX4 rfl rfl 0 (by decide) hN (List.mem_of_getElem? (i := 15) rfl) rfl rfl dX6_same_53 ?_
      refine lv_iload hx hb dX6_same_56 (lv_at hl 6 rfl) ?_
      obtain ⟨r_32, t_33, e_34, hf⟩ := zb_inv hf
      refine cw_fl (va_runS (As := [.ref (ad (8, 11 + x4)), .int x6]) (rest := []) S (kc_X6_numberAt l D cy A ad en tI tS _ _ (11 + x4) x6 _ e_34) (va_cwS 2 hts (wz_S (zin12 _ (List.mem_of_getElem? (i := 17) rfl)) (zin16 _ (List.mem_of_getElem? (i := 18) rfl)) (zin12 _ (List.mem_of_getElem? (i := 16) rfl)) (zin1 _ (List.mem_of_getElem? (i := 2) rfl))) rfl rfl rfl (by decide +kernel) ⟨Nat.le_of_ble_eq_true rfl, Nat.le_of_ble_eq_true rfl⟩) ⟨cw_blind _, cw_pre hC hw hS _⟩ rfl rfl hl.1 rfl (lv_room (Nat.le_of_ble_eq_true rfl)) dX6_same_58 ⟨Nat.zero_le _, Nat.zero_le _⟩) hS (fun H locs hw hS => ?_)
      refine lv_aload hx hb dX6_same_61 (lv_at hl 5 rfl) ?_
      obtain ⟨g_35, hf⟩ := zg_inv hf
      refine cr_getN (v := .ref (ad (8, 11 + x5))) S hK hw 6 x5 g_35 hX4 rfl rfl 0 (by decide) hN (List.mem_of_getElem? (i := 15) rfl) rfl rfl dX6_same_63 ?_
      refine lv_iload hx hb dX6_same_66 (lv_at hl 6 rfl) ?_
      obtain ⟨r_36, t_37, e_38, hf⟩ := zb_inv hf
      refine cw_fl (va_runS (As := [.ref (ad (8, 11 + x5)), .int x6]) (rest := [.long r_32]) S (kc_X6_numberAt l D cy A ad en tI tS _ _ (11 + x5) x6 _ e_38) (va_cwS 2 hts (wz_S (zin12 _ (List.mem_of_getElem? (i := 17) rfl)) (zin16 _ (List.mem_of_getElem? (i := 18) rfl)) (zin12 _ (List.mem_of_getElem? (i := 16) rfl)) (zin1 _ (List.mem_of_getElem? (i := 2) rfl))) rfl rfl rfl (by decide +kernel) ⟨Nat.le_of_ble_eq_true rfl, Nat.le_of_ble_eq_true rfl⟩) ⟨cw_blind _, cw_pre hC hw hS _⟩ rfl rfl hl.1 rfl (lv_room (Nat.le_of_ble_eq_true rfl)) dX6_same_68 ⟨Nat.zero_le _, Nat.zero_le _⟩) hS (fun H locs hw hS => ?_)
      refine W.lcmp hx hb dX6_same_71 ?_
      refine lv_if_eq (tgt := 77) hx hb dX6_same_72 (by decide) (fun c_39 => ?_) (fun c_39 => ?_)
      · have hf := (zi_t c_39).symm.trans hf
        refine lv_iinc (v := x6 + (1 : Int32)) (lv' := [(6, .int (x6 + (1 : Int32))), (0, .ref (ad (0, 0))), (1, .int x1), (2, .int x2), (3, .int x3), (4, .ref (ad (6, x4))), (5, .ref (ad (6, x5)))]) hx hb dX6_same_77 hl (k := 6) rfl rfl (by decide) rfl (fun ls hl => ?_)
        refine lv_goto (tgt := 44) hx hb dX6_same_80 (by decide) ?_
        exact hKK _ x4 x5 (x6 + (1 : Int32)) _ _ _ hf hw hS (lv_sub hl [1, 2, 3, 4, 5, 6, 0] rfl)
      · have hf := (zi_f c_39).symm.trans hf
        refine lv_iconst (v := (0 : Int32)) hx hb dX6_same_75 (by decide) ?_
        obtain ⟨g_40, hf⟩ := zg_inv hf
        exact cw_retz S hr g_40 hf hw hS hlocks dX6_same_76
  have L44 : ∀ (n : Nat) (τ : CS) (x4 : Nat) (x5 : Nat) (x6 : Int32) (H : Heap) (locs : List Loc) (ls : Array Slot) (hf : k_X6_same_l44 x1 x2 x3 n τ x4 x5 x6 = some (r, τ')) (hw : zw D A ad (cG cy ad τ) H) (hS : va_S A s.heap H locs) (hl : lv_has ls 7 [(0, .ref (ad (0, 0))), (1, .int x1), (2, .int x2), (3, .int x3), (4, .ref (ad (6, x4))), (5, .ref (ad (6, x5))), (6, .int x6)]), W p l e (headSpec (wz yX6_same cX6_same 7 (some .boolean)) ({ frames := 2, cells := 0, slots := 0, locals := 44 } : Room)).room s m ([.ref (ad (0, 0)), .int x1, .int x2, .int x3] : List Value).toArray below meth c H locs 0 0 (MQ below (va_Qi (fun (r' : Int32) (u : CS) => r' = r ∧ u = τ') (CWp D cy A ad) A) ([.ref (ad (0, 0)), .int x1, .int x2, .int x3] : List Value).toArray s 0 0 A) (F0 m 44 ls []) := by
    intro n
    induction n with
    | zero =>
      intro τ x4 x5 x6 H locs ls hf hw hS hl
      rw [k_X6_same_l44_z] at hf
      cases hf
    | succ n ih =>
      intro τ x4 x5 x6 H locs ls hf hw hS hl
      rw [k_X6_same_l44_s] at hf
      exact S44 (k_X6_same_l44 x1 x2 x3 n) ih τ x4 x5 x6 H locs ls hf hw hS hl
  have B39 : ∀ (τ : CS) (x4 : Option Nat) (x5 : Option Nat) (H : Heap) (locs : List Loc) (ls : Array Slot) (hf : k_X6_same_b39 x1 x2 x3 τ x4 x5 = some (r, τ')) (hw : zw D A ad (cG cy ad τ) H) (hS : va_S A s.heap H locs) (hl : lv_has ls 7 [(0, .ref (ad (0, 0))), (1, .int x1), (2, .int x2), (3, .int x3), (4, rn ad 6 x4), (5, rn ad 6 x5)]), W p l e (headSpec (wz yX6_same cX6_same 7 (some .boolean)) ({ frames := 2, cells := 0, slots := 0, locals := 44 } : Room)).room s m ([.ref (ad (0, 0)), .int x1, .int x2, .int x3] : List Value).toArray below meth c H locs 0 0 (MQ below (va_Qi (fun (r' : Int32) (u : CS) => r' = r ∧ u = τ') (CWp D cy A ad) A) ([.ref (ad (0, 0)), .int x1, .int x2, .int x3] : List Value).toArray s 0 0 A) (F0 m 39 ls []) := by
    intro τ x4 x5 H locs ls hf hw hS hl
    rw [k_X6_same_b39] at hf
    refine lv_iconst (v := (0 : Int32)) hx hb dX6_same_39 (by decide) ?_
    obtain ⟨g_41, hf⟩ := zg_inv hf
    exact cw_retz S hr g_41 hf hw hS hlocks dX6_same_40
  rw [k_X6_same] at hf
  refine lv_aload_n hx hb dX6_same_0 rfl (lv_at hl 0 rfl) ?_
  refine lv_iload_n hx hb dX6_same_1 rfl (lv_at hl 1 rfl) ?_
  refine lv_iload_n hx hb dX6_same_2 rfl (lv_at hl 3 rfl) ?_
  obtain ⟨g_45, hf⟩ := zg_inv hf
  obtain ⟨r_42, t_43, e_44, hf⟩ := zb_inv hf
  refine cw_fq (kd := 6) (va_runV (As := [.int x1, .int x3]) (rest := []) S (kc_X6_classAt l D cy A ad en tI tS _ _ x1 x3 _ e_44) (cwV 2 hts (wz_V (zin17 _ (List.mem_of_getElem? (i := 15) rfl)) (zin17 _ (List.mem_of_getElem? (i := 12) rfl)) (zin17 _ (List.mem_of_getElem? (i := 13) rfl)) (zin17 _ (List.mem_of_getElem? (i := 14) rfl)) (zin1 _ (List.mem_of_getElem? (i := 2) rfl))) rfl rfl rfl (by decide +kernel) ⟨Nat.le_of_ble_eq_true rfl, Nat.le_of_ble_eq_true rfl⟩) ⟨cw_blind _, zw_recv hK hw (g := (0, 0)) (cG_at g_45) rfl, cw_pre hC hw hS _⟩ rfl rfl hl.1 rfl (lv_room (Nat.le_of_ble_eq_true rfl)) dX6_same_3 ⟨Nat.zero_le _, Nat.zero_le _⟩) hS (fun H locs hw hS => ?_)
  refine zr_astore (lv' := [(4, rn ad 6 r_42), (0, .ref (ad (0, 0))), (1, .int x1), (2, .int x2), (3, .int x3)]) hx hb dX6_same_6 hl (by decide) (by first | rfl | simp [zcat]) (fun ls hl => ?_)
  refine lv_aload_n hx hb dX6_same_8 rfl (lv_at hl 1 rfl) ?_
  refine lv_iload_n hx hb dX6_same_9 rfl (lv_at hl 3 rfl) ?_
  refine lv_iload_n hx hb dX6_same_10 rfl (lv_at hl 4 rfl) ?_
  obtain ⟨g_49, hf⟩ := zg_inv hf
  obtain ⟨r_46, t_47, e_48, hf⟩ := zb_inv hf
  refine cw_fq (kd := 6) (va_runV (As := [.int x2, .int x3]) (rest := []) S (kc_X6_classAt l D cy A ad en tI tS _ _ x2 x3 _ e_48) (cwV 2 hts (wz_V (zin17 _ (List.mem_of_getElem? (i := 15) rfl)) (zin17 _ (List.mem_of_getElem? (i := 12) rfl)) (zin17 _ (List.mem_of_getElem? (i := 13) rfl)) (zin17 _ (List.mem_of_getElem? (i := 14) rfl)) (zin1 _ (List.mem_of_getElem? (i := 2) rfl))) rfl rfl rfl (by decide +kernel) ⟨Nat.le_of_ble_eq_true rfl, Nat.le_of_ble_eq_true rfl⟩) ⟨cw_blind _, zw_recv hK hw (g := (0, 0)) (cG_at g_49) rfl, cw_pre hC hw hS _⟩ rfl rfl hl.1 rfl (lv_room (Nat.le_of_ble_eq_true rfl)) dX6_same_11 ⟨Nat.zero_le _, Nat.zero_le _⟩) hS (fun H locs hw hS => ?_)
  refine zr_astore (lv' := [(5, rn ad 6 r_46), (4, rn ad 6 r_42), (0, .ref (ad (0, 0))), (1, .int x1), (2, .int x2), (3, .int x3)]) hx hb dX6_same_14 hl (by decide) (by first | rfl | simp [zcat]) (fun ls hl => ?_)
  refine zr_aload hx hb dX6_same_16 (lv_at hl 1 rfl) ?_
  refine zr_ifnull (kd := 6) (o := r_42) hx hb dX6_same_18 (tgt := 39) (by decide) (fun o_51 => ?_) (fun i_50 o_51 => ?_)
  · have hf := (zo_n o_51).symm.trans hf
    exact B39 _ r_42 r_46 _ _ _ hf hw hS (lv_sub hl [2, 3, 4, 5, 1, 0] rfl)
  · have hf := (zo_s o_51).symm.trans hf
    rw [o_51] at hl
    have hl : lv_has ls 7 [(5, rn ad 6 r_46), (4, .ref (ad (6, i_50))), (0, .ref (ad (0, 0))), (1, .int x1), (2, .int x2), (3, .int x3)] := hl
    refine zr_aload hx hb dX6_same_21 (lv_at hl 0 rfl) ?_
    refine zr_ifnull (kd := 6) (o := r_46) hx hb dX6_same_23 (tgt := 39) (by decide) (fun o_53 => ?_) (fun i_52 o_53 => ?_)
    · have hf := (zo_n o_53).symm.trans hf
      exact B39 _ (some i_50) r_46 _ _ _ hf hw hS (lv_sub hl [2, 3, 4, 5, 1, 0] rfl)
    · have hf := (zo_s o_53).symm.trans hf
      rw [o_53] at hl
      have hl : lv_has ls 7 [(5, .ref (ad (6, i_52))), (4, .ref (ad (6, i_50))), (0, .ref (ad (0, 0))), (1, .int x1), (2, .int x2), (3, .int x3)] := hl
      refine lv_aload hx hb dX6_same_26 (lv_at hl 1 rfl) ?_
      obtain ⟨g_54, hf⟩ := zg_inv hf
      refine cr_getN (v := .int (ci t_47 601 i_50)) S hK hw 6 i_50 g_54 hX4 rfl rfl 1 (by decide) hN (List.mem_of_getElem? (i := 16) rfl) rfl rfl dX6_same_28 ?_
      refine lv_aload hx hb dX6_same_31 (lv_at hl 0 rfl) ?_
      obtain ⟨g_55, hf⟩ := zg_inv hf
      refine cr_getN (v := .int (ci t_47 601 i_52)) S hK hw 6 i_52 g_55 hX4 rfl rfl 1 (by decide) hN (List.mem_of_getElem? (i := 16) rfl) rfl rfl dX6_same_33 ?_
      refine lv_icmp_eq (tgt := 41) hx hb dX6_same_36 (by decide) (fun c_56 => ?_) (fun c_56 => ?_)
      · have hf := (zi_t c_56).symm.trans hf
        refine lv_iconst (v := (0 : Int32)) hx hb dX6_same_41 (by decide) ?_
        refine lv_istore (lv' := [(6, .int (0 : Int32)), (5, .ref (ad (6, i_52))), (4, .ref (ad (6, i_50))), (0, .ref (ad (0, 0))), (1, .int x1), (2, .int x2), (3, .int x3)]) hx hb dX6_same_42 hl (by decide) rfl (fun ls hl => ?_)
        exact L44 FU _ i_50 i_52 (0 : Int32) _ _ _ hf hw hS (lv_sub hl [3, 4, 5, 6, 2, 1, 0] rfl)
      · have hf := (zi_f c_56).symm.trans hf
        exact B39 _ (some i_50) (some i_52) _ _ _ hf hw hS (lv_sub hl [2, 3, 4, 5, 1, 0] rfl)
noncomputable def k_X6_refused (τ : CS) : Option (Int32 × CS) := zg (cv τ 0 0 = true) (some (ci τ 7 0, τ))
set_option maxHeartbeats 4000000 in
set_option maxRecDepth 100000 in
theorem kc_X6_refused (l : Launch) (D : va_G) (cy : Nat → ClassId) (A : Nat → Prop) (ad : Nat × Nat → Nat) (en : Nat → Nat) (tI tS : Nat) (τ τ' : CS) (r : Int32) (hf : k_X6_refused τ = some (r, τ')) : Met l yX6_refused (wz yX6_refused cX6_refused 1 (some .int)) ({ frames := 0, cells := 0, slots := 0, locals := 0 } : Room) (va_Pc [.ref (ad (0, 0))] (CWs D cy A ad en tI tS τ)) (va_Qi (fun (r' : Int32) (u : CS) => r' = r ∧ u = τ') (CWp D cy A ad) A) 0 0 A := by
  refine Met.ofW (cc := cX6_refused) (maxL := 1) (ret := (some .int)) (by decide) rfl ?_
  intro p e s m args below meth c s₁ B hml hv
  obtain ⟨rfl, hw, hC⟩ := hv
  have hK := hC.1
  have hN := hC.2.1
  have hx := B.exec
  have hb := B.bytes
  have hr := B.returns
  have hts := atoms_spec (ws := (wz yX6_refused cX6_refused 1 (some .int))) B.pre
  have hown : s.vm.findClass RX6 = some m.cls := findClass_of_methodNamed B.named
  have hlocks := B.notSynchronized
  have S : CallFix p m c cX6_refused 1 s ([.ref (ad (0, 0))] : List Value).toArray (wz yX6_refused cX6_refused 1 (some .int)) RX6 := ⟨hx, hb, hml, hown, hts⟩
  have hX1 : ∀ w ∈ wsX10, w ∈ (wz yX6_refused cX6_refused 1 (some .int)) := fun w h => wz_in (inlX1 w h)
  have hX2 : ∀ w ∈ wsX20, w ∈ (wz yX6_refused cX6_refused 1 (some .int)) := fun w h => wz_in (inlX2 w h)
  have hX4 : ∀ w ∈ wsX40, w ∈ (wz yX6_refused cX6_refused 1 (some .int)) := fun w h => wz_in (inlX4 w h)
  have hX5 : ∀ w ∈ wsX50, w ∈ (wz yX6_refused cX6_refused 1 (some .int)) := fun w h => wz_in (inlX5 w h)
  have hX6 : ∀ w ∈ wsX60, w ∈ (wz yX6_refused cX6_refused 1 (some .int)) := fun w h => wz_in (inlX6 w h)
  have hS : va_S A s.heap s.heap [] := va_S.rf
  have hl := lv_entry ([.ref (ad (0, 0))]) (n := 1) (Nat.le_of_ble_eq_true rfl)
  rw [lg_entry_eq]
  generalize (lg_sl ([.ref (ad (0, 0))]) ++ List.replicate (1 - (lg_sl ([.ref (ad (0, 0))])).length) Slot.unset).toArray = ls at hl ⊢
  have hl : lv_has ls 1 [(0, .ref (ad (0, 0)))] := hl
  rw [k_X6_refused] at hf
  refine lv_aload_n hx hb dX6_refused_0 rfl (lv_at hl 0 rfl) ?_
  obtain ⟨g_2, hf⟩ := zg_inv hf
  refine cr_get (v := .int (ci τ 7 0)) S hK hw 0 0 g_2 hX6 rfl rfl 7 (by decide) (wz_in (zin4 _ (List.mem_of_getElem? (i := 23) rfl))) rfl rfl dX6_refused_1 ?_
  exact cw_reti S hr hf hw hS hlocks dX6_refused_4
