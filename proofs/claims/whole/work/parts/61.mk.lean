/-! ===== make, over the machine ===== -/
/-- behind a call that makes things: the addresses of what stood are the same -/
def CWm (D : va_G) (cy : Nat → ClassId) (A : Nat → Prop) (ad : Nat × Nat → Nat) (σ : CS) (t : State) : Prop := ∃ ad1 : Nat × Nat → Nat, (∀ k i, k ≤ 5 → ad1 (k, i) = ad (k, i)) ∧ zw D A ad1 (cG cy ad1 σ) t.heap
section CMR
variable {p : Program} {l : Launch} {e : Env} {R : Room} {s : State} {m : MethodId} {args : Array Value} {below : List Frame} {meth : Method} {c : Code} {H : Heap} {locs : List Loc} {cells slots : Nat} {Q : State → Prop}
variable {cc : ByteArray} {nL pc : Nat} {ls : Array Slot} {rest : List Value} {D : va_G} {A : Nat → Prop} {cy : Nat → ClassId} {H0 : Heap} {Ts : List Cond} {ad ad1 : Nat × Nat → Nat} {σ σ' : CS} {own : String}
theorem cm_reti {x r : Int32} (S : CallFix p m c cc nL s args Ts own) (hr : meth.sig.returnType = some .int) (hf : some (x, σ) = some (r, σ')) (ha : ∀ k i, k ≤ 5 → ad1 (k, i) = ad (k, i)) (hw : zw D A ad1 (cG cy ad1 σ) H) (hS : va_S A s.heap H locs) (hlocks : meth.locks = false) (hdg : decode cc pc = .ok (.ireturn, 1)) : W p l e R s m args below meth c H locs cells slots (MQ below (va_Qi (fun (r' : Int32) (u : CS) => r' = r ∧ u = σ') (CWm D cy A ad) A) args s cells slots A) (F0 m pc ls [.int x]) :=
  W.iret (v := x) S.1 S.2.1 hr (fun t ht hW => ⟨⟨x, σ, rfl, ⟨congrArg Prod.fst (Option.some.inj hf), congrArg Prod.snd (Option.some.inj hf)⟩, ⟨ad1, ha, by rw [ht]; exact hw⟩⟩, hS.F ht⟩) hS.2.2 hdg hlocks
theorem cm_retv (S : CallFix p m c cc nL s args Ts own) (hr : meth.sig.returnType = none) (hf : some ((), σ) = some ((), σ')) (ha : ∀ k i, k ≤ 5 → ad1 (k, i) = ad (k, i)) (hw : zw D A ad1 (cG cy ad1 σ) H) (hS : va_S A s.heap H locs) (hlocks : meth.locks = false) (hdg : decode cc pc = .ok (.return_, 1)) : W p l e R s m args below meth c H locs cells slots (MQ below (va_Qv (fun (u : CS) => u = σ') (CWm D cy A ad) A) args s cells slots A) (F0 m pc ls []) :=
  W.vret S.1 S.2.1 hr (fun t ht hW => ⟨⟨σ, rfl, congrArg Prod.snd (Option.some.inj hf), ⟨ad1, ha, by rw [ht]; exact hw⟩⟩, hS.F ht⟩) hS.2.2 hdg hlocks
end CMR
noncomputable def k_X6_mkIt (τ : CS) (c : Nat) (x2 : Int32) (n : Nat) : Option (Int32 × CS) := zg (c < 8 ∧ cv τ 4 c = true ∧ cv τ 5 c = true ∧ cv τ 7 n = true ∧ (∃ j, j < 20 ∧ x2 = nI (j + 1)) ∧ (∀ i, 1 ≤ i → cv τ 1 i = false) ∧ (∀ i, 8 ≤ i → cv τ 4 i = false) ∧ ∀ i, 160 ≤ i → cv τ 6 i = false) (some ((1 : Int32), cMk τ (20 * c + (x2 - (1 : Int32)).toNatClampNeg) (ci τ 700 n)))
set_option maxHeartbeats 4000000 in
set_option maxRecDepth 100000 in
theorem kc_X1_load (l : Launch) (D : va_G) (cy : Nat → ClassId) (A : Nat → Prop) (ad : Nat × Nat → Nat) (σ : CS) {fs : List Value} (xs : List va_E) (n : Nat) (x : Int32) (j : Nat) (a : Nat) (ha : ad (10, 0) = a) (hx0 : xs[0]? = some (.inr (4, fs))) (hxj : x = nI (j + 1)) (hj : j < 20) (h4 : cv σ 4 n = true) (h5 : cv σ 5 n = true) : Met l yX1_load (wz yX1_load cX1_load 3 none) ({ frames := 0, cells := 0, slots := 0, locals := 0 } : Room) (va_Pc [.ref (ad (4, n)), .int x, .ref a] (fun U => zw D A ad (cL cy ad σ xs) U.heap ∧ va_K D vwCl (ztys cy) U)) (va_Qv (fun _ => True) (fun (_ : Unit) t => zw D A ad (fun g => if g = (5, n) then some (.inl (cy 6, 20, .inr (.inr (.inr (.inr (va_up (fun j => (co σ 6 (20 * n + j)).map (fun i => ad (6, i))) j (some (ad (10, 0))))))))) else cL cy ad σ xs g) t.heap) A) 0 0 A := by
  subst ha
  subst hxj
  refine Met.ofW (cc := cX1_load) (maxL := 3) (ret := none) (by decide) rfl ?_
  intro p e s m args below meth c s₁ B hml hv
  obtain ⟨rfl, hw, hK⟩ := hv
  have hx := B.exec
  have hb := B.bytes
  have hr := B.returns
  have hts := atoms_spec (ws := (wz yX1_load cX1_load 3 none)) B.pre
  have hown : s.vm.findClass RX1 = some m.cls := findClass_of_methodNamed B.named
  have hlocks := B.notSynchronized
  have S : CallFix p m c cX1_load 3 s ([.ref (ad (4, n)), .int (nI (j + 1)), .ref (ad (10, 0))] : List Value).toArray (wz yX1_load cX1_load 3 none) RX1 := ⟨hx, hb, hml, hown, hts⟩
  have hX1 : ∀ w ∈ wsX10, w ∈ (wz yX1_load cX1_load 3 none) := fun w h => wz_in (inlX1 w h)
  have hS : va_S A s.heap s.heap [] := va_S.rf
  have hl := lv_entry ([.ref (ad (4, n)), .int (nI (j + 1)), .ref (ad (10, 0))]) (n := 3) (Nat.le_of_ble_eq_true rfl)
  rw [lg_entry_eq]
  generalize (lg_sl ([.ref (ad (4, n)), .int (nI (j + 1)), .ref (ad (10, 0))]) ++ List.replicate (3 - (lg_sl ([.ref (ad (4, n)), .int (nI (j + 1)), .ref (ad (10, 0))])).length) Slot.unset).toArray = ls at hl ⊢
  have hl : lv_has ls 3 [(0, .ref (ad (4, n))), (1, .int (nI (j + 1))), (2, .ref (ad (10, 0)))] := hl
  have he4 : cL cy ad σ xs (4, n) = some (.inr (2, cF4 ad σ n)) := (cL_n (by decide)).trans (cG_at h4)
  have he5 : cL cy ad σ xs (5, n) = some (.inl (cy 6, 20, .inr (.inr (.inr (.inr (fun j => (co σ 6 (20 * n + j)).map (fun i => ad (6, i)))))))) := (cL_n (by decide)).trans (cG_at h5)
  refine lv_iload_n hx hb dX1_load_0 rfl (lv_at hl 1 rfl) ?_
  refine lv_iconst (v := (1 : Int32)) hx hb dX1_load_1 (by decide) ?_
  refine lv_icmp_lt (tgt := 23) hx hb dX1_load_2 (by decide) (fun q => absurd q (nI_nlt (a := j + 1) (b := 1) (by omega) (by omega))) (fun _ => ?_)
  refine lv_iload_n hx hb dX1_load_5 rfl (lv_at hl 1 rfl) ?_
  refine lv_aload_n hx hb dX1_load_6 rfl (lv_at hl 0 rfl) ?_
  refine zr_get (g := (4, n)) (v := .ref (ad (5, n))) S hX1 hK hw he4 rfl 1 (by decide) (wz_in (zin2 _ (List.mem_of_getElem? (i := 20) rfl))) (fun _ h => h) rfl dX1_load_7 ?_
  refine zr_alen (g := (5, n)) (v := (20 : Int32)) S hK hw 6 he5 rfl (show Int32.ofNat 20 = (20 : Int32) from by decide) dX1_load_10 ?_
  refine lv_icmp_gt (tgt := 23) hx hb dX1_load_11 (by decide) (fun q => absurd q (nI_nlt (a := 20) (b := j + 1) (by omega) (by omega))) (fun _ => ?_)
  refine lv_aload_n hx hb dX1_load_14 rfl (lv_at hl 0 rfl) ?_
  refine zr_get (g := (4, n)) (v := .ref (ad (5, n))) S hX1 hK hw he4 rfl 1 (by decide) (wz_in (zin2 _ (List.mem_of_getElem? (i := 20) rfl))) (fun _ h => h) rfl dX1_load_15 ?_
  refine lv_iload_n hx hb dX1_load_18 rfl (lv_at hl 1 rfl) ?_
  refine lv_iconst (v := (1 : Int32)) hx hb dX1_load_19 (by decide) ?_
  refine lv_isub hx hb dX1_load_20 ?_
  rw [show nI (j + 1) - (1 : Int32) = nI j from nI_pred j]
  refine lv_aload_n hx hb dX1_load_21 rfl (lv_at hl 2 rfl) ?_
  refine zr_aast (g := (5, n)) (gv := (10, 0)) (r := (RX4, TX4, 4)) S hK hw hS 6 4 he5 rfl (cL_t.trans hx0) rfl (vp_in_nI (by omega) (by omega)) dX1_load_22 (G1 := fun g => if g = (5, n) then some (.inl (cy 6, 20, .inr (.inr (.inr (.inr (va_up (fun j => (co σ 6 (20 * n + j)).map (fun i => ad (6, i))) j (some (ad (10, 0))))))))) else cL cy ad σ xs g) ((if_pos rfl).trans (by rw [nI_clamp (by omega)])) (fun g hg => if_neg hg) (fun H locs hw hS => ?_)
  exact W.vret hx hb hr (fun t ht hW => ⟨⟨(), rfl, trivial, by show zw D A ad _ t.heap; rw [ht]; exact hw⟩, hS.F ht⟩) hS.2.2 dX1_load_23
noncomputable def k_X6_make_b43 (x1 : Int32) (x2 : Int32) (τ : CS) (x3 : Nat) (x4 : Nat) : Option (Int32 × CS) := zg (cv τ 0 0 = true) (zb (k_X6_refuse τ (-3 : Int32)) (fun r_28 t_29 => some (r_28, t_29)))
noncomputable def k_X6_make_b22 (x1 : Int32) (x2 : Int32) (τ : CS) (x3 : Option Nat) (x4 : Option Nat) : Option (Int32 × CS) := zg (cv τ 0 0 = true) (zb (k_X6_refuse τ (-1 : Int32)) (fun r_32 t_33 => some (r_32, t_33)))
noncomputable def k_X6_make (τ : CS) (x1 : Int32) (x2 : Int32) : Option (Int32 × CS) := zg (cv τ 0 0 = true) (zb (k_X6_controllerAt τ x1) (fun r_36 t_37 => zg (cv t_37 0 0 = true) (zb (k_X6_newestOf t_37 x2) (fun r_40 t_41 => zo (r_36) (k_X6_make_b22 x1 x2 t_41 r_36 r_40) (fun i_44 => zo (r_40) (k_X6_make_b22 x1 x2 t_41 (some i_44) r_40) (fun i_46 => zg (cv t_41 4 i_44 = true) (zi ((ci t_41 402 i_44) = 0) (zb (k_X1_classOf t_41 i_44 x2) (fun r_50 t_51 => zo (r_50) (k_X6_mkIt t_51 i_44 x2 i_46) (fun i_53 => k_X6_make_b43 x1 x2 t_51 i_44 i_46))) (k_X6_make_b43 x1 x2 t_41 i_44 i_46))))))))
set_option maxHeartbeats 4000000 in
set_option maxRecDepth 100000 in
theorem kc_X6_make (l : Launch) (D : va_G) (cy : Nat → ClassId) (A : Nat → Prop) (ad : Nat × Nat → Nat) (en : Nat → Nat) (tI tS : Nat) (τ τ' : CS) (x1 : Int32) (x2 : Int32) (r : Int32) (hf : k_X6_make τ x1 x2 = some (r, τ')) : Met l yX6_make (wz yX6_make cX6_make 5 (some .int)) ({ frames := 2, cells := 2, slots := 12, locals := 33 } : Room) (va_Pc [.ref (ad (0, 0)), .int x1, .int x2] (CWs D cy A ad en tI tS τ)) (va_Qi (fun (r' : Int32) (u : CS) => r' = r ∧ u = τ') (CWm D cy A ad) A) 2 12 A := by
  refine Met.ofW (cc := cX6_make) (maxL := 5) (ret := (some .int)) (by decide) rfl ?_
  intro p e s m args below meth c s₁ B hml hv
  obtain ⟨rfl, hw, hC⟩ := hv
  have hK := hC.1
  have hN := hC.2.1
  have hx := B.exec
  have hb := B.bytes
  have hr := B.returns
  have hts := atoms_spec (ws := (wz yX6_make cX6_make 5 (some .int))) B.pre
  have hown : s.vm.findClass RX6 = some m.cls := findClass_of_methodNamed B.named
  have hlocks := B.notSynchronized
  have S : CallFix p m c cX6_make 5 s ([.ref (ad (0, 0)), .int x1, .int x2] : List Value).toArray (wz yX6_make cX6_make 5 (some .int)) RX6 := ⟨hx, hb, hml, hown, hts⟩
  have hX1 : ∀ w ∈ wsX10, w ∈ (wz yX6_make cX6_make 5 (some .int)) := fun w h => wz_in (inlX1 w h)
  have hX2 : ∀ w ∈ wsX20, w ∈ (wz yX6_make cX6_make 5 (some .int)) := fun w h => wz_in (inlX2 w h)
  have hX4 : ∀ w ∈ wsX40, w ∈ (wz yX6_make cX6_make 5 (some .int)) := fun w h => wz_in (inlX4 w h)
  have hX5 : ∀ w ∈ wsX50, w ∈ (wz yX6_make cX6_make 5 (some .int)) := fun w h => wz_in (inlX5 w h)
  have hX6 : ∀ w ∈ wsX60, w ∈ (wz yX6_make cX6_make 5 (some .int)) := fun w h => wz_in (inlX6 w h)
  have hS : va_S A s.heap s.heap [] := va_S.rf
  have hl := lv_entry ([.ref (ad (0, 0)), .int x1, .int x2]) (n := 5) (Nat.le_of_ble_eq_true rfl)
  rw [lg_entry_eq]
  generalize (lg_sl ([.ref (ad (0, 0)), .int x1, .int x2]) ++ List.replicate (5 - (lg_sl ([.ref (ad (0, 0)), .int x1, .int x2])).length) Slot.unset).toArray = ls at hl ⊢
  have hl : lv_has ls 5 [(0, .ref (ad (0, 0))), (1, .int x1), (2, .int x2)] := hl
  have B43 : ∀ (τ : CS) (x3 : Nat) (x4 : Nat) (H : Heap) (locs : List Loc) (ls : Array Slot) (hf : k_X6_make_b43 x1 x2 τ x3 x4 = some (r, τ')) (hw : zw D A ad (cG cy ad τ) H) (hS : va_S A s.heap H locs) (hl : lv_has ls 5 [(0, .ref (ad (0, 0))), (1, .int x1), (2, .int x2), (3, .ref (ad (4, x3))), (4, .ref (ad (7, x4)))]), W p l e (headSpec (wz yX6_make cX6_make 5 (some .int)) ({ frames := 2, cells := 2, slots := 12, locals := 33 } : Room)).room s m ([.ref (ad (0, 0)), .int x1, .int x2] : List Value).toArray below meth c H locs 0 0 (MQ below (va_Qi (fun (r' : Int32) (u : CS) => r' = r ∧ u = τ') (CWm D cy A ad) A) ([.ref (ad (0, 0)), .int x1, .int x2] : List Value).toArray s 2 12 A) (F0 m 43 ls []) := by
    intro τ x3 x4 H locs ls hf hw hS hl
    rw [k_X6_make_b43] at hf
    refine lv_aload_n hx hb dX6_make_43 rfl (lv_at hl 0 rfl) ?_
    refine lv_bipush (v := (-3 : Int32)) hx hb dX6_make_44 (by decide) ?_
    obtain ⟨g_31, hf⟩ := zg_inv hf
    obtain ⟨r_28, t_29, e_30, hf⟩ := zb_inv hf
    refine cw_fi (va_runV (As := [.int (-3 : Int32)]) (rest := []) S (kc_X6_refuse l D cy A ad en tI tS _ _ (-3 : Int32) _ e_30) (cwV 1 hts (wz_V (zin4 _ (List.mem_of_getElem? (i := 22) rfl)) (zin4 _ (List.mem_of_getElem? (i := 19) rfl)) (zin4 _ (List.mem_of_getElem? (i := 20) rfl)) (zin4 _ (List.mem_of_getElem? (i := 21) rfl)) (zin1 _ (List.mem_of_getElem? (i := 2) rfl))) rfl rfl rfl (by decide +kernel) ⟨Nat.le_of_ble_eq_true rfl, Nat.le_of_ble_eq_true rfl⟩) ⟨cw_blind _, zw_recv hK hw (g := (0, 0)) (cG_at g_31) rfl, cw_pre hC hw hS _⟩ rfl rfl hl.1 rfl (lv_room (Nat.le_of_ble_eq_true rfl)) dX6_make_46 ⟨Nat.zero_le _, Nat.zero_le _⟩) hS (fun H locs hw hS => ?_)
    refine W.widen (k := 2) (n := 12) (Nat.zero_le _) (Nat.zero_le _) ?_
    exact cm_reti S hr hf (fun _ _ _ => rfl) hw hS hlocks dX6_make_49
  have B22 : ∀ (τ : CS) (x3 : Option Nat) (x4 : Option Nat) (H : Heap) (locs : List Loc) (ls : Array Slot) (hf : k_X6_make_b22 x1 x2 τ x3 x4 = some (r, τ')) (hw : zw D A ad (cG cy ad τ) H) (hS : va_S A s.heap H locs) (hl : lv_has ls 5 [(0, .ref (ad (0, 0))), (1, .int x1), (2, .int x2), (3, rn ad 4 x3), (4, rn ad 7 x4)]), W p l e (headSpec (wz yX6_make cX6_make 5 (some .int)) ({ frames := 2, cells := 2, slots := 12, locals := 33 } : Room)).room s m ([.ref (ad (0, 0)), .int x1, .int x2] : List Value).toArray below meth c H locs 0 0 (MQ below (va_Qi (fun (r' : Int32) (u : CS) => r' = r ∧ u = τ') (CWm D cy A ad) A) ([.ref (ad (0, 0)), .int x1, .int x2] : List Value).toArray s 2 12 A) (F0 m 22 ls []) := by
    intro τ x3 x4 H locs ls hf hw hS hl
    rw [k_X6_make_b22] at hf
    refine lv_aload_n hx hb dX6_make_22 rfl (lv_at hl 0 rfl) ?_
    refine lv_iconst (v := (-1 : Int32)) hx hb dX6_make_23 (by decide) ?_
    obtain ⟨g_35, hf⟩ := zg_inv hf
    obtain ⟨r_32, t_33, e_34, hf⟩ := zb_inv hf
    refine cw_fi (va_runV (As := [.int (-1 : Int32)]) (rest := []) S (kc_X6_refuse l D cy A ad en tI tS _ _ (-1 : Int32) _ e_34) (cwV 1 hts (wz_V (zin4 _ (List.mem_of_getElem? (i := 22) rfl)) (zin4 _ (List.mem_of_getElem? (i := 19) rfl)) (zin4 _ (List.mem_of_getElem? (i := 20) rfl)) (zin4 _ (List.mem_of_getElem? (i := 21) rfl)) (zin1 _ (List.mem_of_getElem? (i := 2) rfl))) rfl rfl rfl (by decide +kernel) ⟨Nat.le_of_ble_eq_true rfl, Nat.le_of_ble_eq_true rfl⟩) ⟨cw_blind _, zw_recv hK hw (g := (0, 0)) (cG_at g_35) rfl, cw_pre hC hw hS _⟩ rfl rfl hl.1 rfl (lv_room (Nat.le_of_ble_eq_true rfl)) dX6_make_24 ⟨Nat.zero_le _, Nat.zero_le _⟩) hS (fun H locs hw hS => ?_)
    refine W.widen (k := 2) (n := 12) (Nat.zero_le _) (Nat.zero_le _) ?_
    exact cm_reti S hr hf (fun _ _ _ => rfl) hw hS hlocks dX6_make_27
  rw [k_X6_make] at hf
  refine lv_aload_n hx hb dX6_make_0 rfl (lv_at hl 0 rfl) ?_
  refine lv_iload_n hx hb dX6_make_1 rfl (lv_at hl 1 rfl) ?_
  obtain ⟨g_39, hf⟩ := zg_inv hf
  obtain ⟨r_36, t_37, e_38, hf⟩ := zb_inv hf
  refine cw_fq (kd := 4) (va_runV (As := [.int x1]) (rest := []) S (kc_X6_controllerAt l D cy A ad en tI tS _ _ x1 _ e_38) (cwV 1 hts (wz_V (zin9 _ (List.mem_of_getElem? (i := 15) rfl)) (zin9 _ (List.mem_of_getElem? (i := 12) rfl)) (zin9 _ (List.mem_of_getElem? (i := 13) rfl)) (zin9 _ (List.mem_of_getElem? (i := 14) rfl)) (zin1 _ (List.mem_of_getElem? (i := 2) rfl))) rfl rfl rfl (by decide +kernel) ⟨Nat.le_of_ble_eq_true rfl, Nat.le_of_ble_eq_true rfl⟩) ⟨cw_blind _, zw_recv hK hw (g := (0, 0)) (cG_at g_39) rfl, cw_pre hC hw hS _⟩ rfl rfl hl.1 rfl (lv_room (Nat.le_of_ble_eq_true rfl)) dX6_make_2 ⟨Nat.zero_le _, Nat.zero_le _⟩) hS (fun H locs hw hS => ?_)
  refine zr_astore_n (lv' := [(3, rn ad 4 r_36), (0, .ref (ad (0, 0))), (1, .int x1), (2, .int x2)]) hx hb dX6_make_5 rfl hl (by decide) (by first | rfl | simp [zcat]) (fun ls hl => ?_)
  refine lv_aload_n hx hb dX6_make_6 rfl (lv_at hl 1 rfl) ?_
  refine lv_iload_n hx hb dX6_make_7 rfl (lv_at hl 3 rfl) ?_
  obtain ⟨g_43, hf⟩ := zg_inv hf
  obtain ⟨r_40, t_41, e_42, hf⟩ := zb_inv hf
  refine cw_fq (kd := 7) (va_runV (As := [.int x2]) (rest := []) S (kc_X6_newestOf l D cy A ad en tI tS _ _ x2 _ e_42) (cwV 1 hts (wz_V (zin6 _ (List.mem_of_getElem? (i := 1) rfl)) (zin5 _ (List.mem_of_getElem? (i := 22) rfl)) (zin5 _ (List.mem_of_getElem? (i := 23) rfl)) (zin6 _ (List.mem_of_getElem? (i := 0) rfl)) (zin1 _ (List.mem_of_getElem? (i := 2) rfl))) rfl rfl rfl (by decide +kernel) ⟨Nat.le_of_ble_eq_true rfl, Nat.le_of_ble_eq_true rfl⟩) ⟨cw_blind _, zw_recv hK hw (g := (0, 0)) (cG_at g_43) rfl, cw_pre hC hw hS _⟩ rfl rfl hl.1 rfl (lv_room (Nat.le_of_ble_eq_true rfl)) dX6_make_8 ⟨Nat.zero_le _, Nat.zero_le _⟩) hS (fun H locs hw hS => ?_)
  refine zr_astore (lv' := [(4, rn ad 7 r_40), (3, rn ad 4 r_36), (0, .ref (ad (0, 0))), (1, .int x1), (2, .int x2)]) hx hb dX6_make_11 hl (by decide) (by first | rfl | simp [zcat]) (fun ls hl => ?_)
  refine zr_aload_n hx hb dX6_make_13 rfl (lv_at hl 1 rfl) ?_
  refine zr_ifnull (kd := 4) (o := r_36) hx hb dX6_make_14 (tgt := 22) (by decide) (fun o_45 => ?_) (fun i_44 o_45 => ?_)
  · have hf := (zo_n o_45).symm.trans hf
    exact B22 _ r_36 r_40 _ _ _ hf hw hS (lv_sub hl [2, 3, 4, 1, 0] rfl)
  · have hf := (zo_s o_45).symm.trans hf
    rw [o_45] at hl
    have hl : lv_has ls 5 [(4, rn ad 7 r_40), (3, .ref (ad (4, i_44))), (0, .ref (ad (0, 0))), (1, .int x1), (2, .int x2)] := hl
    refine zr_aload hx hb dX6_make_17 (lv_at hl 0 rfl) ?_
    refine zr_ifnonnull (kd := 7) (o := r_40) hx hb dX6_make_19 (tgt := 28) (by decide) (fun i_46 o_47 => ?_) (fun o_47 => ?_)
    · have hf := (zo_s o_47).symm.trans hf
      rw [o_47] at hl
      have hl : lv_has ls 5 [(4, .ref (ad (7, i_46))), (3, .ref (ad (4, i_44))), (0, .ref (ad (0, 0))), (1, .int x1), (2, .int x2)] := hl
      refine lv_aload_n hx hb dX6_make_28 rfl (lv_at hl 1 rfl) ?_
      obtain ⟨g_48, hf⟩ := zg_inv hf
      refine cr_getN (v := .int (ci t_41 402 i_44)) S hK hw 4 i_44 g_48 hX1 rfl rfl 2 (by decide) hN (List.mem_of_getElem? (i := 1) rfl) rfl rfl dX6_make_29 ?_
      refine lv_if_ne (tgt := 43) hx hb dX6_make_32 (by decide) (fun c_49 => ?_) (fun c_49 => ?_)
      · have hf := (zi_f c_49).symm.trans hf
        exact B43 _ i_44 i_46 _ _ _ hf hw hS (lv_sub hl [2, 3, 4, 1, 0] rfl)
      · have hf := (zi_t c_49).symm.trans hf
        refine lv_aload_n hx hb dX6_make_35 rfl (lv_at hl 1 rfl) ?_
        refine lv_iload_n hx hb dX6_make_36 rfl (lv_at hl 4 rfl) ?_
        obtain ⟨r_50, t_51, e_52, hf⟩ := zb_inv hf
        refine cw_fq (kd := 6) (va_runVN (As := [.int x2]) (rest := []) S (kc_X1_classOf l D cy A ad en tI tS _ _ i_44 x2 _ e_52) ⟨va_cnB 1 hts (wz_gd (zin9 _ (List.mem_of_getElem? (i := 18) rfl))) rfl rfl rfl (hN.2 _ (List.mem_of_getElem? (i := 3) rfl)) (hts _ (wz_in (zin2 _ (List.mem_of_getElem? (i := 6) rfl)))) (by decide +kernel) ⟨Nat.le_of_ble_eq_true rfl, Nat.le_of_ble_eq_true rfl⟩, hts _ (wz_in (zin9 _ (List.mem_of_getElem? (i := 16) rfl))), hts _ (wz_in (zin9 _ (List.mem_of_getElem? (i := 17) rfl)))⟩ ⟨cw_blind _, zw_recv hK hw (g := (4, i_44)) (cG_at g_48) rfl, cw_pre hC hw hS _⟩ rfl rfl hl.1 rfl (lv_room (Nat.le_of_ble_eq_true rfl)) dX6_make_37 ⟨Nat.zero_le _, Nat.zero_le _⟩) hS (fun H locs hw hS => ?_)
        refine zr_ifnull (kd := 6) (o := r_50) hx hb dX6_make_40 (tgt := 50) (by decide) (fun o_54 => ?_) (fun i_53 o_54 => ?_)
        · have hf := (zo_n o_54).symm.trans hf
          refine lv_aload_n hx hb dX6_make_50 rfl (lv_at hl 1 rfl) ?_
          refine lv_iload_n hx hb dX6_make_51 rfl (lv_at hl 4 rfl) ?_
          rw [k_X6_mkIt] at hf
          obtain ⟨⟨g1, g2, g3, g4, ⟨j, hj, hxj⟩, g6, g7, g8⟩, hf⟩ := zg_inv hf
          have hkj : (x2 - (1 : Int32)).toNatClampNeg = j := by rw [hxj, show nI (j + 1) - 1 = nI j from nI_pred j, nI_clamp (by omega)]
          rw [hkj] at hf
          have hw0 : zw D A ad (cL cy ad t_51 []) H := by rw [cL_0]; exact hw
          refine cl_new (C := RX4) (T := TX4) (N := 4) (ci := 4) (fs := [.null, .int 0, .int 0, .int 0]) S hX4 tyX4 tyX4_ok (wz_in (zin9 _ (List.mem_of_getElem? (i := 9) rfl))) (wz_in (zin9 _ (List.mem_of_getElem? (i := 10) rfl))) (wz_in (zin9 _ (List.mem_of_getElem? (i := 11) rfl))) hK hw0 hS hC.2.2.2.1 rfl (fun z hz => by match z, hz with | 0, _ => rfl | 1, _ => rfl | 2, _ => rfl | 3, _ => rfl) (Nat.le_of_ble_eq_true rfl) (Nat.le_of_ble_eq_true rfl) dX6_make_52 (fun q H hw hS => ?_)
          have hw : zw D A (adT ad 0 q) (cL cy (adT ad 0 q) t_51 [.inr (4, [.null, .int 0, .int 0, .int 0])]) H := hw
          refine lv_dup hx hb dX6_make_55 rfl ?_
          refine lv_aload hx hb dX6_make_56 (lv_at hl 0 rfl) ?_
          have e7 : adT ad 0 q (7, i_46) = ad (7, i_46) := adT_n _ _ _ (by intro z; cases z)
          rw [← e7]
          refine zr_getN (g := (7, i_46)) (v := .int (ci t_51 700 i_46)) S hX2 hK hw (((cL_n (by decide)).trans (cG_at g4)).trans (show cE cy (adT ad 0 q) t_51 7 i_46 = some (.inr (3, cF7 (adT ad 0 q) t_51 i_46)) from rfl)) rfl 0 (by decide) (hN.1 _ (List.mem_of_getElem? (i := 11) rfl)) (fun _ h => h) rfl dX6_make_58 ?_
          refine va_callv (va_runIN (As := [.int (ci t_51 700 i_46)]) (rest := [.ref q, .int x2, .ref (ad (4, i_44))]) S (kc_X4_init l D cy A (adT ad 0 q) t_51 [] q (ci t_51 700 i_46) (adT_s ad 0 q)) ⟨va_cnB 1 hts (wz_gd (zin9 _ (List.mem_of_getElem? (i := 20) rfl))) rfl rfl rfl (hN.2 _ (List.mem_of_getElem? (i := 4) rfl)) (hts _ (wz_in (zin9 _ (List.mem_of_getElem? (i := 11) rfl)))) (by decide +kernel) ⟨Nat.le_of_ble_eq_true rfl, Nat.le_of_ble_eq_true rfl⟩, rfl, hts _ (wz_in (zin9 _ (List.mem_of_getElem? (i := 19) rfl)))⟩ ⟨pb_X4_init D cy A (adT ad 0 q) t_51 [] _, fun U hU hW => ⟨rfl, by rw [hU]; exact hw, va_K.moved hW.alike hK, fun z hz => hC.2.2.2.1 z (Nat.le_trans hS.1 (by rw [← hU]; exact hz))⟩⟩ rfl rfl hl.1 rfl (lv_room (Nat.le_of_ble_eq_true rfl)) dX6_make_61 ⟨Nat.le_of_ble_eq_true rfl, Nat.le_of_ble_eq_true rfl⟩) hS (fun q _ h => h) (fun q h => h) (fun u t H1 locs1 ht hvm hq hB hz1 hk1 hS1 => ?_)
          have hw : zw D A (adT (adT ad 0 q) 1 u) (cL cy (adT (adT ad 0 q) 1 u) t_51 [.inr (4, [.ref u, .int (ci t_51 700 i_46), .int (-1 : Int32), .int 0]), .inl (cy 2, 8, .inr (.inl (fun _ => 0)))]) t.heap := hB
          rw [ht] at hw
          have e4 : (adT (adT ad 0 q) 1 u) (4, i_44) = ad (4, i_44) := (adT_n _ _ _ (by intro z; cases z)).trans (adT_n _ _ _ (by intro z; cases z))
          have e10 : (adT (adT ad 0 q) 1 u) (10, 0) = q := (adT_n _ _ _ (by intro z; cases z)).trans (adT_s _ _ _)
          rw [← e4]
          refine va_callv (va_runVN (As := [.int x2, .ref q]) (rest := []) S (kc_X1_load l D cy A (adT (adT ad 0 q) 1 u) t_51 [.inr (4, [.ref u, .int (ci t_51 700 i_46), .int (-1 : Int32), .int 0]), .inl (cy 2, 8, .inr (.inl (fun _ => 0)))] i_44 x2 j q e10 rfl hxj hj g2 g3) ⟨va_cnB 2 hts (wz_gd (zin10 _ (List.mem_of_getElem? (i := 3) rfl))) rfl rfl rfl (hN.2 _ (List.mem_of_getElem? (i := 5) rfl)) (hts _ (wz_in (zin2 _ (List.mem_of_getElem? (i := 6) rfl)))) (by decide +kernel) ⟨Nat.le_of_ble_eq_true rfl, Nat.le_of_ble_eq_true rfl⟩, hts _ (wz_in (zin10 _ (List.mem_of_getElem? (i := 1) rfl))), hts _ (wz_in (zin10 _ (List.mem_of_getElem? (i := 2) rfl)))⟩ ⟨fun a U g mk z => by obtain ⟨z0, z1, z2⟩ := z; exact ⟨z0, z1, va_K.moved (u := U) (U := U.calling g mk a) (Vm.Alike.refl U.vm) z2⟩, zw_recv hK hw (g := (4, i_44)) (((cL_n (by decide)).trans (cG_at g2)).trans (show cE cy (adT (adT ad 0 q) 1 u) t_51 4 i_44 = some (.inr (2, cF4 (adT (adT ad 0 q) 1 u) t_51 i_44)) from rfl)) rfl, fun U hU hW => ⟨rfl, by rw [hU]; exact hw, va_K.moved hW.alike hK⟩⟩ rfl rfl hl.1 rfl (lv_room (Nat.le_of_ble_eq_true rfl)) dX6_make_64 ⟨Nat.le_of_ble_eq_true rfl, Nat.le_of_ble_eq_true rfl⟩) hS1 (fun q _ h => h) (fun q h => h) (fun _ t2 H2 locs2 ht2 hvm2 hq2 hB2 hz2 hk2 hS2 => ?_)
          rw [ht2] at hB2
          have hw3 := make_ren (e := (ci t_51 700 i_46)) g1 hj g6 g7 g8 g3 hB2 (if_pos rfl) (fun g hg => (if_neg hg).trans (by rw [show (adT (adT ad 0 q) 1 u) (10, 1) = u from adT_s _ _ _]; rfl))
          refine lv_iconst (v := (1 : Int32)) hx hb dX6_make_67 (by decide) ?_
          exact cm_reti S hr hf (fun k i hk => (adM_n (by omega) (by omega)).trans ((adT_n _ _ _ (fun z => by have := (Prod.mk.inj z).1; omega)).trans (adT_n _ _ _ (fun z => by have := (Prod.mk.inj z).1; omega)))) hw3 hS2 hlocks dX6_make_68
        · have hf := (zo_s o_54).symm.trans hf
          exact B43 _ i_44 i_46 _ _ _ hf hw hS (lv_sub hl [2, 3, 4, 1, 0] rfl)
    · have hf := (zo_n o_47).symm.trans hf
      exact B22 _ (some i_44) r_40 _ _ _ hf hw hS (lv_sub hl [2, 3, 4, 1, 0] rfl)
