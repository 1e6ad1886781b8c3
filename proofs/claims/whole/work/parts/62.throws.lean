/-! ===== the calls that may throw, over the machine ===== -/
section CXR
variable {p : Program} {l : Launch} {e : Env} {R : Room} {s : State} {m : MethodId} {args : Array Value} {below : List Frame} {meth : Method} {c : Code} {H : Heap} {locs : List Loc} {cells slots : Nat} {Q : State → Prop}
variable {cc : ByteArray} {nL pc : Nat} {ls : Array Slot} {rest : List Value} {D : va_G} {A : Nat → Prop} {cy : Nat → ClassId} {H0 : Heap} {Ts : List Cond} {ad : Nat × Nat → Nat} {σ σ' : CS} {own : String} {XC : String → State → State → Prop}
theorem cx_reti {x : Int32} {r : Option Int32} (S : CallFix p m c cc nL s args Ts own) (hr : meth.sig.returnType = some .int) (hf : some (some x, σ) = some (r, σ')) (hw : zw D A ad (cG cy ad σ) H) (hS : va_S A s.heap H locs) (hlocks : meth.locks = false) (hdg : decode cc pc = .ok (.ireturn, 1)) : W p l e R s m args below meth c H locs cells slots (vx_MQ below (va_Qi (fun (r' : Int32) (u : CS) => r = some r' ∧ u = σ') (CWp D cy A ad) A) XC args s cells slots A) (F0 m pc ls [.int x]) :=
  vx_ret (W.iret (v := x) S.1 S.2.1 hr (fun t ht hW => ⟨⟨x, σ, rfl, ⟨(congrArg Prod.fst (Option.some.inj hf)).symm, congrArg Prod.snd (Option.some.inj hf)⟩, by unfold CWp; rw [ht]; exact hw⟩, hS.F ht⟩) hS.2.2 hdg hlocks)
theorem cx_retz {x : Int32} {r : Option Int32} {ty : FieldType} (S : CallFix p m c cc nL s args Ts own) (hr : meth.sig.returnType = some ty) (hn : narrow ty (.int x) = .int x) (hf : some (some x, σ) = some (r, σ')) (hw : zw D A ad (cG cy ad σ) H) (hS : va_S A s.heap H locs) (hlocks : meth.locks = false) (hdg : decode cc pc = .ok (.ireturn, 1)) : W p l e R s m args below meth c H locs cells slots (vx_MQ below (va_Qi (fun (r' : Int32) (u : CS) => r = some r' ∧ u = σ') (CWp D cy A ad) A) XC args s cells slots A) (F0 m pc ls [.int x]) :=
  vx_ret (W.zret (v := x) S.1 S.2.1 hr hn (fun t ht hW => ⟨⟨x, σ, rfl, ⟨(congrArg Prod.fst (Option.some.inj hf)).symm, congrArg Prod.snd (Option.some.inj hf)⟩, by unfold CWp; rw [ht]; exact hw⟩, hS.F ht⟩) hS.2.2 hdg hlocks)
theorem cx_retl {x : Int64} {r : Option Int64} (S : CallFix p m c cc nL s args Ts own) (hr : meth.sig.returnType = some .long) (hf : some (some x, σ) = some (r, σ')) (hw : zw D A ad (cG cy ad σ) H) (hS : va_S A s.heap H locs) (hlocks : meth.locks = false) (hdg : decode cc pc = .ok (.lreturn, 1)) : W p l e R s m args below meth c H locs cells slots (vx_MQ below (va_Ql (fun (r' : Int64) (u : CS) => r = some r' ∧ u = σ') (CWp D cy A ad) A) XC args s cells slots A) (F0 m pc ls [.long x]) :=
  vx_ret (W.lret (v := x) S.1 S.2.1 hr (fun t ht hW => ⟨⟨x, σ, rfl, ⟨(congrArg Prod.fst (Option.some.inj hf)).symm, congrArg Prod.snd (Option.some.inj hf)⟩, by unfold CWp; rw [ht]; exact hw⟩, hS.F ht⟩) hS.2.2 hdg hlocks)
end CXR
def exB : List Cond := exC.map (fun q => Cond.castable q.1 q.2) ++ exD.map (fun q => Cond.declares q)
theorem exB_all {A : Nat → Prop} {s : State} {args : Array Value} {H : Heap} (h : EX A s H) : ∀ w ∈ exB, w.before args s = true := by
  intro w hw
  rcases List.mem_append.mp hw with hw | hw
  · obtain ⟨q, hq, rfl⟩ := List.mem_map.mp hw
    exact va_Nw.use rfl (h.1 q hq)
  · obtain ⟨q, hq, rfl⟩ := List.mem_map.mp hw
    exact va_Nw.use rfl (h.2.1 q hq)
abbrev wzo (y : MethodName) (b : ByteArray) (n : Nat) (r : Option FieldType) : List Cond := Cond.code y b n r :: Cond.methodLink RX6 175 (Bundle.initS zX) :: wsL_law
theorem wzo_in {c0 c1 w : Cond} (h : w ∈ wsL_law) : w ∈ c0 :: c1 :: wsL_law := List.mem_cons_of_mem _ (List.mem_cons_of_mem _ h)
theorem goodIn_c {c0 : Cond} {big ws : List Cond} (h : GoodIn big ws) : GoodIn (c0 :: big) ws := fun w hw => ⟨List.mem_cons_of_mem _ (h w hw).1, (h w hw).2⟩
theorem atS_X6_handle : ∀ w ∈ (vx_atS RX6 165 zI ["java/lang/RuntimeException", "java/lang/Exception"]).filter goodWord, w ∈ wz yX6_handle cX6_handle 4 (some .int) := fun w h => wz_in (List.mem_append_left _ (List.mem_append_right _ h))
theorem atS_X6_divide : ∀ w ∈ (vx_atS RX6 180 zA ["java/lang/RuntimeException", "java/lang/Exception"]).filter goodWord, w ∈ wz yX6_divide cX6_divide 5 (some .long) := fun w h => wz_in (List.mem_append_right _ h)
theorem atS_octet0 : ∀ w ∈ (vx_atS RX6 175 zX ["java/lang/IndexOutOfBoundsException", "java/lang/RuntimeException", "java/lang/Exception"]).filter goodWord, w ∈ Cond.methodLink RX6 175 (Bundle.initS zX) :: (vx_atM "java/lang/ArrayIndexOutOfBoundsException" ["java/lang/IndexOutOfBoundsException", "java/lang/RuntimeException", "java/lang/Exception"]).filter goodWord := by decide +kernel
theorem atS_X6_octet : ∀ w ∈ (vx_atS RX6 175 zX ["java/lang/IndexOutOfBoundsException", "java/lang/RuntimeException", "java/lang/Exception"]).filter goodWord, w ∈ wzo yX6_octet cX6_octet 4 (some .byte) := fun w h => by
  rcases List.mem_cons.mp (atS_octet0 w h) with rfl | h
  · exact List.mem_cons_of_mem _ List.mem_cons_self
  · exact wzo_in (List.mem_append_left _ (List.mem_append_left _ (List.mem_append_left _ (List.mem_append_right _ h))))
noncomputable def k_X6_handle_b45 (x1 : Int32) (x2 : Int32) (τ : CS) (x3 : Option Nat) : Option (Option Int32 × CS) := zg (cv τ 0 0 = true) (zb (k_X6_refuse τ (-1 : Int32)) (fun r_29 t_30 => some (some (r_29), t_30)))
noncomputable def k_X6_handle_b29 (x1 : Int32) (x2 : Int32) (τ : CS) (x3 : Option Nat) : Option (Option Int32 × CS) := zg (cv τ 0 0 = true) (zb (k_X6_controllerAt τ x1) (fun r_33 t_34 => zo (r_33) (k_X6_handle_b45 x1 x2 t_34 x3) (fun i_37 => zg (cv t_34 0 0 = true) (zb (k_X6_newestOf t_34 x2) (fun r_39 t_40 => zo (r_39) (k_X6_handle_b45 x1 x2 t_40 x3) (fun i_43 => zg (cv t_40 0 0 = true) (zb (k_X6_refuse t_40 (-3 : Int32)) (fun r_45 t_46 => some (some (r_45), t_46)))))))))
noncomputable def k_X6_handle (τ : CS) (x1 : Int32) (x2 : Int32) : Option (Option Int32 × CS) := zg (cv τ 0 0 = true) (zb (k_X6_classAt τ x1 x2) (fun r_49 t_50 => zo (r_49) (k_X6_handle_b29 x1 x2 t_50 r_49) (fun i_53 => zg (cv t_50 6 i_53 = true) (zi ((ci t_50 602 i_53) = (-1 : Int32)) (k_X6_handle_b29 x1 x2 t_50 (some i_53)) (some (none, t_50))))))
set_option maxHeartbeats 4000000 in
set_option maxRecDepth 100000 in
theorem kc_X6_handle (l : Launch) (hst : l.stackTraces = false) (D : va_G) (cy : Nat → ClassId) (A : Nat → Prop) (ad : Nat × Nat → Nat) (en : Nat → Nat) (tI tS : Nat) (τ τ' : CS) (x1 : Int32) (x2 : Int32) (r : Option Int32) (hf : k_X6_handle τ x1 x2 = some (r, τ')) : vx_Met l yX6_handle (wz yX6_handle cX6_handle 4 (some .int)) ({ frames := 8, cells := 1, slots := 6, locals := 120 } : Room) (va_Pc [.ref (ad (0, 0)), .int x1, .int x2] (CWs D cy A ad en tI tS τ)) (va_Qi (fun (r' : Int32) (u : CS) => r = some r' ∧ u = τ') (CWp D cy A ad) A) (vx_X (fun (u : CS) => r = none ∧ u = τ') (fun E u t => E = zI ∧ CWp D cy A ad u t) A) 1 6 A := by
  refine vx_ofW (cc := cX6_handle) (maxL := 4) (ret := (some .int)) (by decide) rfl ?_
  intro p e s m args below meth c s₁ B hml htab hv
  obtain ⟨rfl, hw, hC⟩ := hv
  have hK := hC.1
  have hN := hC.2.1
  have hx := B.exec
  have hb := B.bytes
  have hr := B.returns
  have hts := atoms_spec (ws := (wz yX6_handle cX6_handle 4 (some .int))) B.pre
  have hown : s.vm.findClass RX6 = some m.cls := findClass_of_methodNamed B.named
  have hlocks := B.notSynchronized
  have S : CallFix p m c cX6_handle 4 s ([.ref (ad (0, 0)), .int x1, .int x2] : List Value).toArray (wz yX6_handle cX6_handle 4 (some .int)) RX6 := ⟨hx, hb, hml, hown, hts⟩
  have hX1 : ∀ w ∈ wsX10, w ∈ (wz yX6_handle cX6_handle 4 (some .int)) := fun w h => wz_in (inlX1 w h)
  have hX2 : ∀ w ∈ wsX20, w ∈ (wz yX6_handle cX6_handle 4 (some .int)) := fun w h => wz_in (inlX2 w h)
  have hX4 : ∀ w ∈ wsX40, w ∈ (wz yX6_handle cX6_handle 4 (some .int)) := fun w h => wz_in (inlX4 w h)
  have hX5 : ∀ w ∈ wsX50, w ∈ (wz yX6_handle cX6_handle 4 (some .int)) := fun w h => wz_in (inlX5 w h)
  have hX6 : ∀ w ∈ wsX60, w ∈ (wz yX6_handle cX6_handle 4 (some .int)) := fun w h => wz_in (inlX6 w h)
  have hS : va_S A s.heap s.heap [] := va_S.rf
  have hl := lv_entry ([.ref (ad (0, 0)), .int x1, .int x2]) (n := 4) (Nat.le_of_ble_eq_true rfl)
  rw [lg_entry_eq]
  generalize (lg_sl ([.ref (ad (0, 0)), .int x1, .int x2]) ++ List.replicate (4 - (lg_sl ([.ref (ad (0, 0)), .int x1, .int x2])).length) Slot.unset).toArray = ls at hl ⊢
  have hl : lv_has ls 4 [(0, .ref (ad (0, 0))), (1, .int x1), (2, .int x2)] := hl
  have B45 : ∀ (τ : CS) (x3 : Option Nat) (H : Heap) (locs : List Loc) (ls : Array Slot) (hf : k_X6_handle_b45 x1 x2 τ x3 = some (r, τ')) (hw : zw D A ad (cG cy ad τ) H) (hS : va_S A s.heap H locs) (hl : lv_has ls 4 [(0, .ref (ad (0, 0))), (1, .int x1), (2, .int x2), (3, rn ad 6 x3)]), W p l e (headSpec (wz yX6_handle cX6_handle 4 (some .int)) ({ frames := 8, cells := 1, slots := 6, locals := 120 } : Room)).room s m ([.ref (ad (0, 0)), .int x1, .int x2] : List Value).toArray below meth c H locs 0 0 (vx_MQ below (va_Qi (fun (r' : Int32) (u : CS) => r = some r' ∧ u = τ') (CWp D cy A ad) A) (vx_X (fun (u : CS) => r = none ∧ u = τ') (fun E u t => E = zI ∧ CWp D cy A ad u t) A) ([.ref (ad (0, 0)), .int x1, .int x2] : List Value).toArray s 1 6 A) (F0 m 45 ls []) := by
    intro τ x3 H locs ls hf hw hS hl
    rw [k_X6_handle_b45] at hf
    refine lv_aload_n hx hb dX6_handle_45 rfl (lv_at hl 0 rfl) ?_
    refine lv_iconst (v := (-1 : Int32)) hx hb dX6_handle_46 (by decide) ?_
    obtain ⟨g_32, hf⟩ := zg_inv hf
    obtain ⟨r_29, t_30, e_31, hf⟩ := zb_inv hf
    refine cw_fi (va_runV (As := [.int (-1 : Int32)]) (rest := []) S (kc_X6_refuse l D cy A ad en tI tS _ _ (-1 : Int32) _ e_31) (cwV 1 hts (wz_V (zin4 _ (List.mem_of_getElem? (i := 22) rfl)) (zin4 _ (List.mem_of_getElem? (i := 19) rfl)) (zin4 _ (List.mem_of_getElem? (i := 20) rfl)) (zin4 _ (List.mem_of_getElem? (i := 21) rfl)) (zin1 _ (List.mem_of_getElem? (i := 2) rfl))) rfl rfl rfl (by decide +kernel) ⟨Nat.le_of_ble_eq_true rfl, Nat.le_of_ble_eq_true rfl⟩) ⟨cw_blind _, zw_recv hK hw (g := (0, 0)) (cG_at g_32) rfl, cw_pre hC hw hS _⟩ rfl rfl hl.1 rfl (lv_room (Nat.le_of_ble_eq_true rfl)) dX6_handle_47 ⟨Nat.zero_le _, Nat.zero_le _⟩) hS (fun H locs hw hS => ?_)
    refine W.widen (k := 1) (n := 6) (Nat.zero_le _) (Nat.zero_le _) ?_
    exact cx_reti S hr hf hw hS hlocks dX6_handle_50
  have B29 : ∀ (τ : CS) (x3 : Option Nat) (H : Heap) (locs : List Loc) (ls : Array Slot) (hf : k_X6_handle_b29 x1 x2 τ x3 = some (r, τ')) (hw : zw D A ad (cG cy ad τ) H) (hS : va_S A s.heap H locs) (hl : lv_has ls 4 [(0, .ref (ad (0, 0))), (1, .int x1), (2, .int x2), (3, rn ad 6 x3)]), W p l e (headSpec (wz yX6_handle cX6_handle 4 (some .int)) ({ frames := 8, cells := 1, slots := 6, locals := 120 } : Room)).room s m ([.ref (ad (0, 0)), .int x1, .int x2] : List Value).toArray below meth c H locs 0 0 (vx_MQ below (va_Qi (fun (r' : Int32) (u : CS) => r = some r' ∧ u = τ') (CWp D cy A ad) A) (vx_X (fun (u : CS) => r = none ∧ u = τ') (fun E u t => E = zI ∧ CWp D cy A ad u t) A) ([.ref (ad (0, 0)), .int x1, .int x2] : List Value).toArray s 1 6 A) (F0 m 29 ls []) := by
    intro τ x3 H locs ls hf hw hS hl
    rw [k_X6_handle_b29] at hf
    refine lv_aload_n hx hb dX6_handle_29 rfl (lv_at hl 0 rfl) ?_
    refine lv_iload_n hx hb dX6_handle_30 rfl (lv_at hl 1 rfl) ?_
    obtain ⟨g_36, hf⟩ := zg_inv hf
    obtain ⟨r_33, t_34, e_35, hf⟩ := zb_inv hf
    refine cw_fq (kd := 4) (va_runV (As := [.int x1]) (rest := []) S (kc_X6_controllerAt l D cy A ad en tI tS _ _ x1 _ e_35) (cwV 1 hts (wz_V (zin9 _ (List.mem_of_getElem? (i := 15) rfl)) (zin9 _ (List.mem_of_getElem? (i := 12) rfl)) (zin9 _ (List.mem_of_getElem? (i := 13) rfl)) (zin9 _ (List.mem_of_getElem? (i := 14) rfl)) (zin1 _ (List.mem_of_getElem? (i := 2) rfl))) rfl rfl rfl (by decide +kernel) ⟨Nat.le_of_ble_eq_true rfl, Nat.le_of_ble_eq_true rfl⟩) ⟨cw_blind _, zw_recv hK hw (g := (0, 0)) (cG_at g_36) rfl, cw_pre hC hw hS _⟩ rfl rfl hl.1 rfl (lv_room (Nat.le_of_ble_eq_true rfl)) dX6_handle_31 ⟨Nat.zero_le _, Nat.zero_le _⟩) hS (fun H locs hw hS => ?_)
    refine zr_ifnull (kd := 4) (o := r_33) hx hb dX6_handle_34 (tgt := 45) (by decide) (fun o_38 => ?_) (fun i_37 o_38 => ?_)
    · have hf := (zo_n o_38).symm.trans hf
      exact B45 _ x3 _ _ _ hf hw hS (lv_sub hl [0, 1, 2, 3] rfl)
    · have hf := (zo_s o_38).symm.trans hf
      refine lv_aload_n hx hb dX6_handle_37 rfl (lv_at hl 0 rfl) ?_
      refine lv_iload_n hx hb dX6_handle_38 rfl (lv_at hl 2 rfl) ?_
      obtain ⟨g_42, hf⟩ := zg_inv hf
      obtain ⟨r_39, t_40, e_41, hf⟩ := zb_inv hf
      refine cw_fq (kd := 7) (va_runV (As := [.int x2]) (rest := []) S (kc_X6_newestOf l D cy A ad en tI tS _ _ x2 _ e_41) (cwV 1 hts (wz_V (zin6 _ (List.mem_of_getElem? (i := 1) rfl)) (zin5 _ (List.mem_of_getElem? (i := 22) rfl)) (zin5 _ (List.mem_of_getElem? (i := 23) rfl)) (zin6 _ (List.mem_of_getElem? (i := 0) rfl)) (zin1 _ (List.mem_of_getElem? (i := 2) rfl))) rfl rfl rfl (by decide +kernel) ⟨Nat.le_of_ble_eq_true rfl, Nat.le_of_ble_eq_true rfl⟩) ⟨cw_blind _, zw_recv hK hw (g := (0, 0)) (cG_at g_42) rfl, cw_pre hC hw hS _⟩ rfl rfl hl.1 rfl (lv_room (Nat.le_of_ble_eq_true rfl)) dX6_handle_39 ⟨Nat.zero_le _, Nat.zero_le _⟩) hS (fun H locs hw hS => ?_)
      refine zr_ifnonnull (kd := 7) (o := r_39) hx hb dX6_handle_42 (tgt := 51) (by decide) (fun i_43 o_44 => ?_) (fun o_44 => ?_)
      · have hf := (zo_s o_44).symm.trans hf
        refine lv_aload_n hx hb dX6_handle_51 rfl (lv_at hl 0 rfl) ?_
        refine lv_bipush (v := (-3 : Int32)) hx hb dX6_handle_52 (by decide) ?_
        obtain ⟨g_48, hf⟩ := zg_inv hf
        obtain ⟨r_45, t_46, e_47, hf⟩ := zb_inv hf
        refine cw_fi (va_runV (As := [.int (-3 : Int32)]) (rest := []) S (kc_X6_refuse l D cy A ad en tI tS _ _ (-3 : Int32) _ e_47) (cwV 1 hts (wz_V (zin4 _ (List.mem_of_getElem? (i := 22) rfl)) (zin4 _ (List.mem_of_getElem? (i := 19) rfl)) (zin4 _ (List.mem_of_getElem? (i := 20) rfl)) (zin4 _ (List.mem_of_getElem? (i := 21) rfl)) (zin1 _ (List.mem_of_getElem? (i := 2) rfl))) rfl rfl rfl (by decide +kernel) ⟨Nat.le_of_ble_eq_true rfl, Nat.le_of_ble_eq_true rfl⟩) ⟨cw_blind _, zw_recv hK hw (g := (0, 0)) (cG_at g_48) rfl, cw_pre hC hw hS _⟩ rfl rfl hl.1 rfl (lv_room (Nat.le_of_ble_eq_true rfl)) dX6_handle_54 ⟨Nat.zero_le _, Nat.zero_le _⟩) hS (fun H locs hw hS => ?_)
        refine W.widen (k := 1) (n := 6) (Nat.zero_le _) (Nat.zero_le _) ?_
        exact cx_reti S hr hf hw hS hlocks dX6_handle_57
      · have hf := (zo_n o_44).symm.trans hf
        exact B45 _ x3 _ _ _ hf hw hS (lv_sub hl [0, 1, 2, 3] rfl)
  rw [k_X6_handle] at hf
  refine lv_aload_n hx hb dX6_handle_0 rfl (lv_at hl 0 rfl) ?_
  refine lv_iload_n hx hb dX6_handle_1 rfl (lv_at hl 1 rfl) ?_
  refine lv_iload_n hx hb dX6_handle_2 rfl (lv_at hl 2 rfl) ?_
  obtain ⟨g_52, hf⟩ := zg_inv hf
  obtain ⟨r_49, t_50, e_51, hf⟩ := zb_inv hf
  refine cw_fq (kd := 6) (va_runV (As := [.int x1, .int x2]) (rest := []) S (kc_X6_classAt l D cy A ad en tI tS _ _ x1 x2 _ e_51) (cwV 2 hts (wz_V (zin17 _ (List.mem_of_getElem? (i := 15) rfl)) (zin17 _ (List.mem_of_getElem? (i := 12) rfl)) (zin17 _ (List.mem_of_getElem? (i := 13) rfl)) (zin17 _ (List.mem_of_getElem? (i := 14) rfl)) (zin1 _ (List.mem_of_getElem? (i := 2) rfl))) rfl rfl rfl (by decide +kernel) ⟨Nat.le_of_ble_eq_true rfl, Nat.le_of_ble_eq_true rfl⟩) ⟨cw_blind _, zw_recv hK hw (g := (0, 0)) (cG_at g_52) rfl, cw_pre hC hw hS _⟩ rfl rfl hl.1 rfl (lv_room (Nat.le_of_ble_eq_true rfl)) dX6_handle_3 ⟨Nat.zero_le _, Nat.zero_le _⟩) hS (fun H locs hw hS => ?_)
  refine zr_astore_n (lv' := [(3, rn ad 6 r_49), (0, .ref (ad (0, 0))), (1, .int x1), (2, .int x2)]) hx hb dX6_handle_6 rfl hl (by decide) (by first | rfl | simp [zcat]) (fun ls hl => ?_)
  refine zr_aload_n hx hb dX6_handle_7 rfl (lv_at hl 0 rfl) ?_
  refine zr_ifnull (kd := 6) (o := r_49) hx hb dX6_handle_8 (tgt := 29) (by decide) (fun o_54 => ?_) (fun i_53 o_54 => ?_)
  · have hf := (zo_n o_54).symm.trans hf
    exact B29 _ r_49 _ _ _ hf hw hS (lv_sub hl [1, 2, 3, 0] rfl)
  · have hf := (zo_s o_54).symm.trans hf
    rw [o_54] at hl
    have hl : lv_has ls 4 [(3, .ref (ad (6, i_53))), (0, .ref (ad (0, 0))), (1, .int x1), (2, .int x2)] := hl
    refine lv_aload_n hx hb dX6_handle_11 rfl (lv_at hl 0 rfl) ?_
    obtain ⟨g_55, hf⟩ := zg_inv hf
    refine cr_getN (v := .int (ci t_50 602 i_53)) S hK hw 6 i_53 g_55 hX4 rfl rfl 2 (by decide) hN (List.mem_of_getElem? (i := 17) rfl) rfl rfl dX6_handle_12 ?_
    refine lv_iconst (v := (-1 : Int32)) hx hb dX6_handle_15 (by decide) ?_
    refine lv_icmp_eq (tgt := 29) hx hb dX6_handle_16 (by decide) (fun c_56 => ?_) (fun c_56 => ?_)
    · have hf := (zi_t c_56).symm.trans hf
      exact B29 _ (some i_53) _ _ _ hf hw hS (lv_sub hl [1, 2, 3, 0] rfl)
    · have hf := (zi_f c_56).symm.trans hf
      obtain ⟨sa, hsa⟩ := hC.2.2.2.2.2.2.2.2.1
      exact vx_throwS (own := RX6) (cls := zI) (text := "no call is under way") (names := ["java/lang/RuntimeException", "java/lang/Exception"]) (ik := 161) (is := 163) (ic := 165) (sa := sa) (A := A) hx hb hst hown (by decide) (by decide) (hts _ (wz_in (zin20 _ (List.mem_of_getElem? (i := 7) rfl)))) (hts _ (wz_in (zin20 _ (List.mem_of_getElem? (i := 8) rfl)))) hsa (vx_hat (B := exB) (fun w hw => hts _ (atS_X6_handle w hw)) (by decide +kernel) (exB_all hC.2.2.2.2)) (by decide +kernel) hC.2.2.2.2.2.2.1 hC.2.2.2.2.2.2.2.1 hS (hl.1.trans hml.symm) dX6_handle_19 dX6_handle_22 dX6_handle_23 dX6_handle_25 dX6_handle_28 (fun x hx => (htab x hx).elim) (by decide) (by decide) (by decide) (by decide) hlocks (fun t hv hs hq => ⟨_, ⟨(congrArg Prod.fst (Option.some.inj hf)).symm, congrArg Prod.snd (Option.some.inj hf)⟩, ⟨rfl, zw_keep hw (fun q h1 _ => hq q h1)⟩, ⟨Nat.le_trans hS.1 hs, fun q h1 h2 => (hq q (Nat.lt_of_lt_of_le h1 hS.1)).trans (hS.2.1 q h1 h2)⟩⟩) hS.2.2 (by decide) (by decide)
noncomputable def k_X6_divide (τ : CS) (x1 : Int64) (x3 : Int64) : Option (Option Int64 × CS) := zi ((lg_cmp x3 (0 : Int64)) = 0) (some (none, τ)) (zg (¬ x3 = 0) (some (some (x1 / x3), τ)))
set_option maxHeartbeats 4000000 in
set_option maxRecDepth 100000 in
theorem kc_X6_divide (l : Launch) (hst : l.stackTraces = false) (D : va_G) (cy : Nat → ClassId) (A : Nat → Prop) (ad : Nat × Nat → Nat) (en : Nat → Nat) (tI tS : Nat) (τ τ' : CS) (x1 : Int64) (x3 : Int64) (r : Option Int64) (hf : k_X6_divide τ x1 x3 = some (r, τ')) : vx_Met l yX6_divide (wz yX6_divide cX6_divide 5 (some .long)) ({ frames := 8, cells := 1, slots := 6, locals := 120 } : Room) (va_Pc [.ref (ad (0, 0)), .long x1, .long x3] (CWs D cy A ad en tI tS τ)) (va_Ql (fun (r' : Int64) (u : CS) => r = some r' ∧ u = τ') (CWp D cy A ad) A) (vx_X (fun (u : CS) => r = none ∧ u = τ') (fun E u t => E = zA ∧ CWp D cy A ad u t) A) 1 6 A := by
  refine vx_ofW (cc := cX6_divide) (maxL := 5) (ret := (some .long)) (by decide) rfl ?_
  intro p e s m args below meth c s₁ B hml htab hv
  obtain ⟨rfl, hw, hC⟩ := hv
  have hK := hC.1
  have hN := hC.2.1
  have hx := B.exec
  have hb := B.bytes
  have hr := B.returns
  have hts := atoms_spec (ws := (wz yX6_divide cX6_divide 5 (some .long))) B.pre
  have hown : s.vm.findClass RX6 = some m.cls := findClass_of_methodNamed B.named
  have hlocks := B.notSynchronized
  have S : CallFix p m c cX6_divide 5 s ([.ref (ad (0, 0)), .long x1, .long x3] : List Value).toArray (wz yX6_divide cX6_divide 5 (some .long)) RX6 := ⟨hx, hb, hml, hown, hts⟩
  have hX1 : ∀ w ∈ wsX10, w ∈ (wz yX6_divide cX6_divide 5 (some .long)) := fun w h => wz_in (inlX1 w h)
  have hX2 : ∀ w ∈ wsX20, w ∈ (wz yX6_divide cX6_divide 5 (some .long)) := fun w h => wz_in (inlX2 w h)
  have hX4 : ∀ w ∈ wsX40, w ∈ (wz yX6_divide cX6_divide 5 (some .long)) := fun w h => wz_in (inlX4 w h)
  have hX5 : ∀ w ∈ wsX50, w ∈ (wz yX6_divide cX6_divide 5 (some .long)) := fun w h => wz_in (inlX5 w h)
  have hX6 : ∀ w ∈ wsX60, w ∈ (wz yX6_divide cX6_divide 5 (some .long)) := fun w h => wz_in (inlX6 w h)
  have hS : va_S A s.heap s.heap [] := va_S.rf
  have hl := lv_entry ([.ref (ad (0, 0)), .long x1, .long x3]) (n := 5) (Nat.le_of_ble_eq_true rfl)
  rw [lg_entry_eq]
  generalize (lg_sl ([.ref (ad (0, 0)), .long x1, .long x3]) ++ List.replicate (5 - (lg_sl ([.ref (ad (0, 0)), .long x1, .long x3])).length) Slot.unset).toArray = ls at hl ⊢
  have hl : lv_has ls 5 [(0, .ref (ad (0, 0))), (1, .long x1), (3, .long x3)] := hl
  rw [k_X6_divide] at hf
  refine lv_lload_n hx hb dX6_divide_0 rfl (lv_at hl 2 rfl) ?_
  refine lv_lconst (v := (0 : Int64)) hx hb dX6_divide_1 (by decide) ?_
  refine W.lcmp hx hb dX6_divide_2 ?_
  refine lv_if_ne (tgt := 16) hx hb dX6_divide_3 (by decide) (fun c_3 => ?_) (fun c_3 => ?_)
  · have hf := (zi_f c_3).symm.trans hf
    refine lv_lload_n hx hb dX6_divide_16 rfl (lv_at hl 1 rfl) ?_
    refine lv_lload_n hx hb dX6_divide_17 rfl (lv_at hl 2 rfl) ?_
    obtain ⟨g_4, hf⟩ := zg_inv hf
    refine lv_ldiv hx hb dX6_divide_18 g_4 ?_
    refine W.widen (k := 1) (n := 6) (Nat.zero_le _) (Nat.zero_le _) ?_
    exact cx_retl S hr hf hw hS hlocks dX6_divide_19
  · have hf := (zi_t c_3).symm.trans hf
    obtain ⟨sa, hsa⟩ := hC.2.2.2.2.2.2.2.2.2.2
    exact vx_throwS (own := RX6) (cls := zA) (text := "by 0") (names := ["java/lang/RuntimeException", "java/lang/Exception"]) (ik := 176) (is := 178) (ic := 180) (sa := sa) (A := A) hx hb hst hown (by decide) (by decide) (hts _ (wz_in (zin21 _ (List.mem_of_getElem? (i := 16) rfl)))) (hts _ (wz_in (zin21 _ (List.mem_of_getElem? (i := 17) rfl)))) hsa (vx_hat (B := exB) (fun w hw => hts _ (atS_X6_divide w hw)) (by decide +kernel) (exB_all hC.2.2.2.2)) (by decide +kernel) hC.2.2.2.2.2.2.1 hC.2.2.2.2.2.2.2.1 hS (hl.1.trans hml.symm) dX6_divide_6 dX6_divide_9 dX6_divide_10 dX6_divide_12 dX6_divide_15 (fun x hx => (htab x hx).elim) (by decide) (by decide) (by decide) (by decide) hlocks (fun t hv hs hq => ⟨_, ⟨(congrArg Prod.fst (Option.some.inj hf)).symm, congrArg Prod.snd (Option.some.inj hf)⟩, ⟨rfl, zw_keep hw (fun q h1 _ => hq q h1)⟩, ⟨Nat.le_trans hS.1 hs, fun q h1 h2 => (hq q (Nat.lt_of_lt_of_le h1 hS.1)).trans (hS.2.1 q h1 h2)⟩⟩) hS.2.2 (by decide) (by decide)
noncomputable def k_X6_octet_b23 (x1 : Int32) (x2 : Int32) (τ : CS) (x3 : Option Nat) : Option (Option Int32 × CS) := some (none, τ)
noncomputable def k_X6_octet (τ : CS) (x1 : Int32) (x2 : Int32) : Option (Option Int32 × CS) := zg (cv τ 0 0 = true) (zb (k_X6_newestOf τ x1) (fun r_13 t_14 => zo (r_13) (k_X6_octet_b23 x1 x2 t_14 r_13) (fun i_17 => zi (x2 < 0) (k_X6_octet_b23 x1 x2 t_14 (some i_17)) (zg (cv t_14 7 i_17 = true) (zg (cv t_14 9 (2 + 3 * i_17) = true) (zi (x2 < (nI (cbl t_14 (2 + 3 * i_17)))) (zg (vp_in x2 (cbl t_14 (2 + 3 * i_17))) (zg (narrow .byte (.int (cb t_14 (2 + 3 * i_17) x2.toNatClampNeg)) = .int (cb t_14 (2 + 3 * i_17) x2.toNatClampNeg)) (some (some (cb t_14 (2 + 3 * i_17) x2.toNatClampNeg), t_14)))) (k_X6_octet_b23 x1 x2 t_14 (some i_17))))))))
set_option maxHeartbeats 4000000 in
set_option maxRecDepth 100000 in
theorem kc_X6_octet (l : Launch) (hst : l.stackTraces = false) (D : va_G) (cy : Nat → ClassId) (A : Nat → Prop) (ad : Nat × Nat → Nat) (en : Nat → Nat) (tI tS : Nat) (τ τ' : CS) (x1 : Int32) (x2 : Int32) (r : Option Int32) (hf : k_X6_octet τ x1 x2 = some (r, τ')) : vx_Met l yX6_octet (wzo yX6_octet cX6_octet 4 (some .byte)) ({ frames := 8, cells := 1, slots := 6, locals := 120 } : Room) (va_Pc [.ref (ad (0, 0)), .int x1, .int x2] (CWs D cy A ad en tI tS τ)) (va_Qi (fun (r' : Int32) (u : CS) => r = some r' ∧ u = τ') (CWp D cy A ad) A) (vx_X (fun (u : CS) => r = none ∧ u = τ') (fun E u t => E = zX ∧ CWp D cy A ad u t) A) 1 6 A := by
  refine vx_ofW (cc := cX6_octet) (maxL := 4) (ret := (some .byte)) (by decide) rfl ?_
  intro p e s m args below meth c s₁ B hml htab hv
  obtain ⟨rfl, hw, hC⟩ := hv
  have hK := hC.1
  have hN := hC.2.1
  have hx := B.exec
  have hb := B.bytes
  have hr := B.returns
  have hts := atoms_spec (ws := (wzo yX6_octet cX6_octet 4 (some .byte))) B.pre
  have hown : s.vm.findClass RX6 = some m.cls := findClass_of_methodNamed B.named
  have hlocks := B.notSynchronized
  have S : CallFix p m c cX6_octet 4 s ([.ref (ad (0, 0)), .int x1, .int x2] : List Value).toArray (wzo yX6_octet cX6_octet 4 (some .byte)) RX6 := ⟨hx, hb, hml, hown, hts⟩
  have hX1 : ∀ w ∈ wsX10, w ∈ (wzo yX6_octet cX6_octet 4 (some .byte)) := fun w h => wzo_in (inlX1 w h)
  have hX2 : ∀ w ∈ wsX20, w ∈ (wzo yX6_octet cX6_octet 4 (some .byte)) := fun w h => wzo_in (inlX2 w h)
  have hX4 : ∀ w ∈ wsX40, w ∈ (wzo yX6_octet cX6_octet 4 (some .byte)) := fun w h => wzo_in (inlX4 w h)
  have hX5 : ∀ w ∈ wsX50, w ∈ (wzo yX6_octet cX6_octet 4 (some .byte)) := fun w h => wzo_in (inlX5 w h)
  have hX6 : ∀ w ∈ wsX60, w ∈ (wzo yX6_octet cX6_octet 4 (some .byte)) := fun w h => wzo_in (inlX6 w h)
  have hS : va_S A s.heap s.heap [] := va_S.rf
  have hl := lv_entry ([.ref (ad (0, 0)), .int x1, .int x2]) (n := 4) (Nat.le_of_ble_eq_true rfl)
  rw [lg_entry_eq]
  generalize (lg_sl ([.ref (ad (0, 0)), .int x1, .int x2]) ++ List.replicate (4 - (lg_sl ([.ref (ad (0, 0)), .int x1, .int x2])).length) Slot.unset).toArray = ls at hl ⊢
  have hl : lv_has ls 4 [(0, .ref (ad (0, 0))), (1, .int x1), (2, .int x2)] := hl
  have B23 : ∀ (τ : CS) (x3 : Option Nat) (H : Heap) (locs : List Loc) (ls : Array Slot) (hf : k_X6_octet_b23 x1 x2 τ x3 = some (r, τ')) (hw : zw D A ad (cG cy ad τ) H) (hS : va_S A s.heap H locs) (hl : lv_has ls 4 [(0, .ref (ad (0, 0))), (1, .int x1), (2, .int x2), (3, rn ad 7 x3)]), W p l e (headSpec (wzo yX6_octet cX6_octet 4 (some .byte)) ({ frames := 8, cells := 1, slots := 6, locals := 120 } : Room)).room s m ([.ref (ad (0, 0)), .int x1, .int x2] : List Value).toArray below meth c H locs 0 0 (vx_MQ below (va_Qi (fun (r' : Int32) (u : CS) => r = some r' ∧ u = τ') (CWp D cy A ad) A) (vx_X (fun (u : CS) => r = none ∧ u = τ') (fun E u t => E = zX ∧ CWp D cy A ad u t) A) ([.ref (ad (0, 0)), .int x1, .int x2] : List Value).toArray s 1 6 A) (F0 m 23 ls []) := by
    intro τ x3 H locs ls hf hw hS hl
    rw [k_X6_octet_b23] at hf
    obtain ⟨sa, hsa⟩ := hC.2.2.2.2.2.2.2.2.2.1
    exact vx_throwS (own := RX6) (cls := zX) (text := "no such octet") (names := ["java/lang/IndexOutOfBoundsException", "java/lang/RuntimeException", "java/lang/Exception"]) (ik := 171) (is := 173) (ic := 175) (sa := sa) (A := A) hx hb hst hown (by decide) (by decide) (hts _ (wzo_in (zin21 _ (List.mem_of_getElem? (i := 1) rfl)))) (hts _ (wzo_in (zin21 _ (List.mem_of_getElem? (i := 3) rfl)))) hsa (vx_hat (B := exB) (fun w hw => hts _ (atS_X6_octet w hw)) (by decide +kernel) (exB_all hC.2.2.2.2)) (by decide +kernel) hC.2.2.2.2.2.2.1 hC.2.2.2.2.2.2.2.1 hS (hl.1.trans hml.symm) dX6_octet_23 dX6_octet_26 dX6_octet_27 dX6_octet_29 dX6_octet_32 (fun x hx => (htab x hx).elim) (by decide) (by decide) (by decide) (by decide) hlocks (fun t hv hs hq => ⟨_, ⟨(congrArg Prod.fst (Option.some.inj hf)).symm, congrArg Prod.snd (Option.some.inj hf)⟩, ⟨rfl, zw_keep hw (fun q h1 _ => hq q h1)⟩, ⟨Nat.le_trans hS.1 hs, fun q h1 h2 => (hq q (Nat.lt_of_lt_of_le h1 hS.1)).trans (hS.2.1 q h1 h2)⟩⟩) hS.2.2 (by decide) (by decide)
  rw [k_X6_octet] at hf
  refine lv_aload_n hx hb dX6_octet_0 rfl (lv_at hl 0 rfl) ?_
  refine lv_iload_n hx hb dX6_octet_1 rfl (lv_at hl 1 rfl) ?_
  obtain ⟨g_16, hf⟩ := zg_inv hf
  obtain ⟨r_13, t_14, e_15, hf⟩ := zb_inv hf
  refine cw_fq (kd := 7) (va_runV (As := [.int x1]) (rest := []) S (kc_X6_newestOf l D cy A ad en tI tS _ _ x1 _ e_15) (cwV 1 hts (goodIn_c (wz_V (zin6 _ (List.mem_of_getElem? (i := 1) rfl)) (zin5 _ (List.mem_of_getElem? (i := 22) rfl)) (zin5 _ (List.mem_of_getElem? (i := 23) rfl)) (zin6 _ (List.mem_of_getElem? (i := 0) rfl)) (zin1 _ (List.mem_of_getElem? (i := 2) rfl)))) rfl rfl rfl (by decide +kernel) ⟨Nat.le_of_ble_eq_true rfl, Nat.le_of_ble_eq_true rfl⟩) ⟨cw_blind _, zw_recv hK hw (g := (0, 0)) (cG_at g_16) rfl, cw_pre hC hw hS _⟩ rfl rfl hl.1 rfl (lv_room (Nat.le_of_ble_eq_true rfl)) dX6_octet_2 ⟨Nat.zero_le _, Nat.zero_le _⟩) hS (fun H locs hw hS => ?_)
  refine zr_astore_n (lv' := [(3, rn ad 7 r_13), (0, .ref (ad (0, 0))), (1, .int x1), (2, .int x2)]) hx hb dX6_octet_5 rfl hl (by decide) (by first | rfl | simp [zcat]) (fun ls hl => ?_)
  refine zr_aload_n hx hb dX6_octet_6 rfl (lv_at hl 0 rfl) ?_
  refine zr_ifnull (kd := 7) (o := r_13) hx hb dX6_octet_7 (tgt := 23) (by decide) (fun o_18 => ?_) (fun i_17 o_18 => ?_)
  · have hf := (zo_n o_18).symm.trans hf
    exact B23 _ r_13 _ _ _ hf hw hS (lv_sub hl [1, 2, 3, 0] rfl)
  · have hf := (zo_s o_18).symm.trans hf
    rw [o_18] at hl
    have hl : lv_has ls 4 [(3, .ref (ad (7, i_17))), (0, .ref (ad (0, 0))), (1, .int x1), (2, .int x2)] := hl
    refine lv_iload_n hx hb dX6_octet_10 rfl (lv_at hl 3 rfl) ?_
    refine lv_if_lt (tgt := 23) hx hb dX6_octet_11 (by decide) (fun c_19 => ?_) (fun c_19 => ?_)
    · have hf := (zi_t c_19).symm.trans hf
      exact B23 _ (some i_17) _ _ _ hf hw hS (lv_sub hl [1, 2, 3, 0] rfl)
    · have hf := (zi_f c_19).symm.trans hf
      refine lv_iload_n hx hb dX6_octet_14 rfl (lv_at hl 3 rfl) ?_
      refine lv_aload_n hx hb dX6_octet_15 rfl (lv_at hl 0 rfl) ?_
      obtain ⟨g_20, hf⟩ := zg_inv hf
      refine cr_getN (v := .ref (ad (9, 2 + 3 * i_17))) S hK hw 7 i_17 g_20 hX2 rfl rfl 1 (by decide) hN (List.mem_of_getElem? (i := 12) rfl) rfl rfl dX6_octet_16 ?_
      obtain ⟨g_21, hf⟩ := zg_inv hf
      refine cr_alen (v := nI (cbl t_14 (2 + 3 * i_17))) S hK hw 9 (2 + 3 * i_17) 0 g_21 rfl rfl rfl dX6_octet_19 ?_
      refine lv_icmp_lt (tgt := 33) hx hb dX6_octet_20 (by decide) (fun c_22 => ?_) (fun c_22 => ?_)
      · have hf := (zi_t c_22).symm.trans hf
        refine lv_aload_n hx hb dX6_octet_33 rfl (lv_at hl 0 rfl) ?_
        refine cr_getN (v := .ref (ad (9, 2 + 3 * i_17))) S hK hw 7 i_17 g_20 hX2 rfl rfl 1 (by decide) hN (List.mem_of_getElem? (i := 12) rfl) rfl rfl dX6_octet_34 ?_
        refine lv_iload_n hx hb dX6_octet_37 rfl (lv_at hl 3 rfl) ?_
        obtain ⟨g_23, hf⟩ := zg_inv hf
        refine cr_bald S hK hw (2 + 3 * i_17) g_21 g_23 dX6_octet_38 ?_
        obtain ⟨g_24, hf⟩ := zg_inv hf
        refine W.widen (k := 1) (n := 6) (Nat.zero_le _) (Nat.zero_le _) ?_
        exact cx_retz S hr g_24 hf hw hS hlocks dX6_octet_39
      · have hf := (zi_f c_22).symm.trans hf
        exact B23 _ (some i_17) _ _ _ hf hw hS (lv_sub hl [1, 2, 3, 0] rfl)
