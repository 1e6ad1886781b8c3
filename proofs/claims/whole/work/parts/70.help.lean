/-! ===== the law's helpers ===== -/
theorem zw_mono {ι : Type} {D : va_G} {A B : Nat → Prop} {ad : ι → Nat} {G : ι → Option va_E} {H : Heap} (hw : zw D A ad G H) (hAB : ∀ q, A q → B q) : zw D B ad G H := by
  obtain ⟨⟨L, F, hP, hD, hG⟩, hi⟩ := hw
  exact ⟨⟨L, F, hP, hD.weaken (fun _ q _ h => hAB _ h), hG⟩, hi⟩
/-- the same world, its cells told more narrowly -/
theorem zw_narrow {ι : Type} {D : va_G} {A B : Nat → Prop} {ad : ι → Nat} {G : ι → Option va_E} {H : Heap} (hw : zw D A ad G H) (hAB : ∀ q, q < H.size → A q → B q) : zw D B ad G H := by
  obtain ⟨⟨L, F, hP, hD, hG⟩, hi⟩ := hw
  exact ⟨⟨L, F, hP, hD.weaken (fun k q hk h => hAB _ (hP k q hk).lt h), hG⟩, hi⟩
theorem ST.narrow {A B : Nat → Prop} {en : Nat → Nat} {tI tS : Nat} {U : State} {H : Heap} (h : ST A en tI tS U H) (hAB : ∀ q, B q → A q) : ST B en tI tS U H :=
  ⟨h.1.narrow hAB, h.2.1.narrow hAB, h.2.2.1.narrow hAB, h.2.2.2.1.narrow hAB, h.2.2.2.2.narrow hAB⟩
theorem EX.narrow {A B : Nat → Prop} {U : State} {H : Heap} (h : EX A U H) (hAB : ∀ q, B q → A q) : EX B U H :=
  ⟨h.1, h.2.1, h.2.2.1.narrow hAB, h.2.2.2.1.narrow hAB, h.2.2.2.2⟩
theorem CK_law {D : va_G} {cy : Nat → ClassId} {AL AC : Nat → Prop} {en : Nat → Nat} {tI tS : Nat} {s U : State} {H : Heap} {locs : List Loc} (hC : CK D cy AL en tI tS s s.heap) (hS : va_S AL s.heap H locs) (hAC : ∀ q, AC q → AL q) (hn : ∀ q : Nat, H.size ≤ q → AC q) (hU : U.heap = H) (hW : s.WarmedH U.vm) : CK D cy AC en tI tS U U.heap := by
  have h1 := hC.on hS hW
  subst hU
  exact ⟨h1.1, h1.2.1, h1.2.2.1.narrow hAC, hn, h1.2.2.2.2.narrow hAC⟩
/-- the law's row of one long -/
def outA (D : va_G) (cy : Nat → ClassId) (o : Nat) (f : Nat → Int64) (H : Heap) : Prop := va_at D vwCl (o, .inl (cy 2, 1, .inr (.inl f))) H
section LO
variable {p : Program} {l : Launch} {e : Env} {R : Room} {s : State} {m : MethodId} {args : Array Value} {below : List Frame} {meth : Method} {c : Code} {H : Heap} {locs : List Loc} {cells slots : Nat} {Q : State → Prop}
variable {cc : ByteArray} {nL pc : Nat} {ls : Array Slot} {rest : List Value} {D : va_G} {A0 AC : Nat → Prop} {cy : Nat → ClassId} {H0 : Heap} {Ts : List Cond} {own : String} {ι : Type} {ad : ι → Nat} {G : ι → Option va_E}
theorem lo_last (S : CallFix p m c cc nL s args Ts own) (hK : va_K D vwCl (ztys cy) s) {o : Nat} {f : Nat → Int64} (hw : zw D AC ad G H) (hO : outA D cy o f H) (ho : ¬ AC o) (hS0 : va_S A0 H0 H locs) (hAC : ∀ q, AC q → A0 q) (hA0 : A0 o) {x : Int64} (hdg : decode cc pc = .ok (.lastore, 1))
    (kk : ∀ (H1 : Heap) (locs1 : List Loc), zw D AC ad G H1 → outA D cy o (vp_updL f 0 x) H1 → va_S A0 H0 H1 locs1 → W p l e R s m args below meth c H1 locs1 cells slots Q (F0 m (pc + 1) ls rest)) : W p l e R s m args below meth c H locs cells slots Q (F0 m pc ls (.long x :: .int (0 : Int32) :: .ref o :: rest)) := by
  obtain ⟨hx, hb, hml, hown, hts⟩ := S
  obtain ⟨⟨L, F, hP, hD, hG⟩, hi⟩ := hw
  have hP1 : va_P D vwCl [(o, .inl (cy 2, 1, .inr (.inl f)))] H := fun k q hk => by
    match k, hk with
    | 0, hk => cases hk; exact hO
    | k + 1, hk => simp at hk
  have hD1 : va_D A0 [(o, (.inl (cy 2, 1, .inr (.inl f)) : va_E))] := by
    refine ⟨fun i j p q hp hq _ => ?_, fun k q hk => ?_⟩
    · match i, j, hp, hq with
      | 0, 0, _, _ => rfl
      | i + 1, _, hp, _ => simp at hp
      | 0, j + 1, _, hq => simp at hq
    · match k, hk with
      | 0, hk => cases hk; exact hA0
      | k + 1, hk => simp at hk
  have hP2 := hP.app hP1
  have hD2 := (hD.weaken (B := A0) (fun _ q _ h => hAC _ h)).app hD1 (fun i j p q hp hq z => by
    match j, hq with
    | 0, hq => cases hq; exact ho (by have := hD.2 i p hp; rw [z] at this; exact this)
    | j + 1, hq => simp at hq)
  have hk : (va_pl L F ++ [(o, (.inl (cy 2, 1, .inr (.inl f)) : va_E))])[(va_pl L F).length]? = some (o, .inl (cy 2, 1, .inr (.inl f))) := by simp
  have e0 : ∀ e1 : va_E, (va_pl L F ++ [(o, (.inl (cy 2, 1, .inr (.inl f)) : va_E))]).set (va_pl L F).length (o, e1) = va_pl L F ++ [(o, e1)] := fun e1 => by simp
  refine va_last (D := D) (cl := vwCl) hx hb hK hP2 hD2 hS0 (va_pl L F).length 2 hk rfl (vp_in_nI (n := 0) (by omega) (by omega)) hdg (fun H1 locs1 hP3 _ hS1 => kk H1 locs1 ⟨⟨L, F, fun k q hk => ?_, hD, hG⟩, hi⟩ ?_ hS1)
  · rw [e0] at hP3
    exact hP3 k q ((List.getElem?_append_left (List.getElem?_eq_some_iff.mp hk).1).trans hk)
  · rw [e0] at hP3
    exact hP3 (va_pl L F).length _ (by simp)
end LO
theorem wzo_V {c0 : Cond} {own C : String} {index : Nat} {y : MethodName} {b : ByteArray} {n : Nat} {r : Option FieldType} (h : Cond.code y b n r ∈ wsL_law) (h1 : Cond.methodLink own index y ∈ wsL_law) (h2 : Cond.instanceMethod y ∈ wsL_law) (h3 : Cond.selects C y y ∈ wsL_law) (h4 : Cond.initialized C ∈ wsL_law) : GoodIn (c0 :: Cond.methodLink RX6 175 (Bundle.initS zX) :: wsL_law) (wsV own index C y (wzo y b n r)) := fun w hw => by
  rcases List.mem_append.mp hw with hw | hw
  · exact goodIn_c (wz_V h h1 h2 h3 h4) w (List.mem_append_left _ hw)
  · rcases List.mem_cons.mp hw with rfl | hw
    · exact goodIn_c (wz_gd h) _ List.mem_cons_self
    · rcases List.mem_cons.mp hw with rfl | hw
      · exact ⟨List.mem_cons_of_mem _ List.mem_cons_self, good_of_word (by decide +kernel)⟩
      · exact goodIn_c (wz_gd h) _ (List.mem_cons_of_mem _ hw)
set_option maxHeartbeats 4000000 in
set_option maxRecDepth 100000 in
theorem kc_L_cell (l : Launch) (A : Nat → Prop) (b L : Nat) (xs : Nat → Int32) (hL : L ≤ 321) : Met l yL_cell (wz yL_cell cL_cell 2 (some .int)) ({ frames := 0, cells := 0, slots := 0, locals := 0 } : Room) (va_Pc [.ref b, .int (0 : Int32)] (fun U => va_X b L xs U U.heap ∧ b < U.heap.size ∧ ¬ A b)) (va_Qi (fun (_ : Int32) (_ : Unit) => True) (fun _ _ => True) A) 0 0 A := by
  refine Met.ofW (cc := cL_cell) (maxL := 2) (ret := (some .int)) (by decide) rfl ?_
  intro p e s m args below meth c s₁ B hml hv
  obtain ⟨rfl, hX, hbl, hbA⟩ := hv
  have hx := B.exec
  have hb := B.bytes
  have hr := B.returns
  have hlocks := B.notSynchronized
  have hS : va_S A s.heap s.heap [] := va_S.rf
  have hl := lv_entry ([.ref b, .int (0 : Int32)]) (n := 2) (Nat.le_of_ble_eq_true rfl)
  rw [lg_entry_eq]
  generalize (lg_sl ([.ref b, .int (0 : Int32)]) ++ List.replicate (2 - (lg_sl ([.ref b, .int (0 : Int32)])).length) Slot.unset).toArray = ls at hl ⊢
  have hl : lv_has ls 2 [(0, .ref b), (1, .int (0 : Int32))] := hl
  refine lv_iload_n hx hb dL_cell_0 rfl (lv_at hl 1 rfl) ?_
  refine lv_aload_n hx hb dL_cell_1 rfl (lv_at hl 0 rfl) ?_
  refine va_slen hx hb hX hbl hbA hS dL_cell_2 ?_
  refine lv_icmp_ge (tgt := 12) hx hb dL_cell_3 (by decide) (fun c_1 => ?_) (fun c_1 => ?_)
  · refine lv_iconst (v := (0 : Int32)) hx hb dL_cell_12 (by decide) ?_
    exact W.iret (v := (0 : Int32)) hx hb hr (fun t ht hW => ⟨⟨_, (), rfl, trivial, trivial⟩, hS.F ht⟩) hS.2.2 dL_cell_13 hlocks
  · have hin : vp_in (0 : Int32) L := vp_in_nI (n := 0) (by
      rcases Nat.eq_zero_or_pos L with h | h
      · subst h
        exact absurd (show nI 0 ≤ nI 0 from by decide) c_1
      · exact h) (by omega)
    refine lv_aload_n hx hb dL_cell_6 rfl (lv_at hl 0 rfl) ?_
    refine lv_iload_n hx hb dL_cell_7 rfl (lv_at hl 1 rfl) ?_
    refine va_sld hx hb hX hbl hbA hS hin dL_cell_8 ?_
    refine lv_goto (tgt := 13) hx hb dL_cell_9 (by decide) ?_
    exact W.iret (v := xs (0 : Int32).toNatClampNeg) hx hb hr (fun t ht hW => ⟨⟨_, (), rfl, trivial, trivial⟩, hS.F ht⟩) hS.2.2 dL_cell_13 hlocks
/-- a helper's words: its own code, the one link that the list lacks, the law's words -/
abbrev wlh (y : MethodName) (b : ByteArray) (n : Nat) (hh : List (Nat × Nat × Nat × Nat)) : List Cond := Cond.codeWith y b n (some .int) hh :: Cond.methodLink RX6 175 (Bundle.initS zX) :: wsL_law
set_option maxHeartbeats 4000000 in
set_option maxRecDepth 100000 in
theorem kc_L_handle (l : Launch) (hst : l.stackTraces = false) (D : va_G) (cy : Nat → ClassId) (AC : Nat → Prop) (ad : Nat × Nat → Nat) (en : Nat → Nat) (tI tS : Nat) (σ σ' : CS) (x1 x2 : Int32) (r : Option Int32) (h00 : cv σ 0 0 = true) (hf : k_X6_handle σ x1 x2 = some (r, σ')) (o : Nat) (f : Nat → Int64) (ho : ¬ AC o) : vx_Met l yL_handle (wlh yL_handle cL_handle 5 [(0, 10, 13, 13)]) ({ frames := 9, cells := 1, slots := 6, locals := 160 } : Room) (va_Pc [.ref (ad (0, 0)), .int x1, .int x2, .ref o] (fun U => CWs D cy AC ad en tI tS σ U ∧ outA D cy o f U.heap)) (va_Qi (fun (r' : Int32) (u : CS × (Nat → Int64)) => u.1 = σ' ∧ ((r = none ∧ r' = nI 1) ∨ ∃ v, r = some v ∧ r' = nI 0 ∧ u.2 0 = v.toInt64)) (fun (u : CS × (Nat → Int64)) t => CWp D cy AC ad u.1 t ∧ outA D cy o u.2 t.heap) (fun q : Nat => AC q ∨ q = o)) (vx_X (fun _ : Unit => False) (fun _ _ _ => True) (fun q : Nat => AC q ∨ q = o)) 1 6 (fun q : Nat => AC q ∨ q = o) := by
  refine vx_ofWH (cc := cL_handle) (maxL := 5) (ret := (some .int)) (by decide) rfl ?_
  intro p e s m args below meth c s₁ B hml hv
  obtain ⟨rfl, ⟨hw, hC⟩, hO⟩ := hv
  have hx := B.exec
  have hb := B.bytes
  have hr := B.returns
  have hts := atoms_spec (ws := (wlh yL_handle cL_handle 5 [(0, 10, 13, 13)])) B.pre
  have hown : s.vm.findClass RL = some m.cls := findClass_of_methodNamed B.named
  have hlocks := B.notSynchronized
  have htab := vx_table (x := yL_handle) B (hts _ List.mem_cons_self)
  have S : CallFix p m c cL_handle 5 s ([.ref (ad (0, 0)), .int x1, .int x2, .ref o] : List Value).toArray (wlh yL_handle cL_handle 5 [(0, 10, 13, 13)]) RL := ⟨hx, hb, hml, hown, hts⟩
  have hS : va_S (fun q : Nat => AC q ∨ q = o) s.heap s.heap [] := va_S.rf
  have hl := lv_entry ([.ref (ad (0, 0)), .int x1, .int x2, .ref o]) (n := 5) (Nat.le_of_ble_eq_true rfl)
  rw [lg_entry_eq]
  generalize (lg_sl ([.ref (ad (0, 0)), .int x1, .int x2, .ref o]) ++ List.replicate (5 - (lg_sl ([.ref (ad (0, 0)), .int x1, .int x2, .ref o])).length) Slot.unset).toArray = ls at hl ⊢
  have hl : lv_has ls 5 [(0, .ref (ad (0, 0))), (1, .int x1), (2, .int x2), (3, .ref o)] := hl
  refine lv_aload_n hx hb dL_handle_0 rfl (lv_at hl 3 rfl) ?_
  refine lv_iconst (v := (0 : Int32)) hx hb dL_handle_1 (by decide) ?_
  refine lv_aload_n hx hb dL_handle_2 rfl (lv_at hl 0 rfl) ?_
  refine lv_iload_n hx hb dL_handle_3 rfl (lv_at hl 1 rfl) ?_
  refine lv_iload_n hx hb dL_handle_4 rfl (lv_at hl 2 rfl) ?_
  refine vx_calli (vx_runV (As := [.int x1, .int x2]) (rest := [.int (0 : Int32), .ref o]) S (kc_X6_handle l hst D cy AC ad en tI tS _ _ x1 x2 _ hf) (cwV 2 hts (goodIn_c (wz_V (zin20 _ (List.mem_of_getElem? (i := 6) rfl)) (zin20 _ (List.mem_of_getElem? (i := 3) rfl)) (zin20 _ (List.mem_of_getElem? (i := 4) rfl)) (zin20 _ (List.mem_of_getElem? (i := 5) rfl)) (zin1 _ (List.mem_of_getElem? (i := 2) rfl)))) rfl rfl rfl (by decide +kernel) ⟨Nat.le_of_ble_eq_true rfl, Nat.le_of_ble_eq_true rfl⟩) ⟨cw_blind _, zw_recv hC.1 hw (g := (0, 0)) (ci := 6) ((cG_at h00).trans rfl) rfl, fun U hU hW => ⟨rfl, by rw [hU]; exact hw, by rw [hU]; exact hC.on va_S.rf hW⟩⟩ rfl rfl hl.1 rfl (lv_room (Nat.le_of_ble_eq_true rfl)) dL_handle_5 ⟨Nat.le_of_ble_eq_true rfl, Nat.le_of_ble_eq_true rfl⟩) hS (fun q _ h => Or.inl h) (fun q h => Or.inl h) (fun q _ h => Or.inl h) (fun E ce q9 u t H1 locs1 ht hvm hq hB hz1 hk1 hS1 hce hcv hcl => ?_) (fun r1 u t H1 locs1 ht hvm hq hB hz1 hk1 hS1 => ?_)
  · obtain ⟨hE, hB⟩ := hB
    subst hE
    obtain ⟨hq1, hq2⟩ := hq
    subst ht
    have hO1 : outA D cy o f t.heap := va_at.kept hO (hk1 o (va_at.lt hO) ho)
    refine vx_catch (own := RL) (name := zI) hown [] ⟨0, 10, 13, 13⟩ [] htab (fun z hz => by cases hz) (by decide) (by decide) (hts _ (List.mem_cons_of_mem _ (List.mem_cons_of_mem _ (zin20 _ (List.mem_of_getElem? (i := 2) rfl))))) (exB_all hC.2.2.2.2 _ (by decide +kernel)) hce hcv hcl ?_
    refine lv_astore (lv' := [(4, .ref q9), (0, .ref (ad (0, 0))), (1, .int x1), (2, .int x2), (3, .ref o)]) hx hb dL_handle_13 hl (by decide) rfl (fun ls hl => ?_)
    refine lv_iconst (v := (1 : Int32)) hx hb dL_handle_15 (by decide) ?_
    exact vx_ret (W.iret (v := (1 : Int32)) hx hb hr (fun t2 ht2 hW => ⟨⟨_, (u, f), rfl, ⟨hq2, Or.inl ⟨hq1, rfl⟩⟩, ⟨by unfold CWp; rw [ht2]; exact hB, by show outA D cy o f t2.heap; rw [ht2]; exact hO1⟩⟩, hS1.F ht2⟩) hS1.2.2 dL_handle_16 hlocks)
  · obtain ⟨hq1, hq2⟩ := hq
    subst ht
    have hO1 : outA D cy o f t.heap := va_at.kept hO (hk1 o (va_at.lt hO) ho)
    refine lv_i2l (v := r1.toInt64) hx hb dL_handle_8 rfl ?_
    refine lo_last S hC.1 hB hO1 ho hS1 (fun q h => Or.inl h) (Or.inr rfl) dL_handle_9 (fun H2 locs2 hw2 hO2 hS2 => ?_)
    refine lv_goto (tgt := 17) hx hb dL_handle_10 (by decide) ?_
    refine lv_iconst (v := (0 : Int32)) hx hb dL_handle_17 (by decide) ?_
    refine W.widen (k := 1) (n := 6) (Nat.le_refl _) (Nat.le_refl _) ?_
    exact vx_ret (W.iret (v := (0 : Int32)) hx hb hr (fun t2 ht2 hW => ⟨⟨_, (u, vp_updL f 0 r1.toInt64), rfl, ⟨hq2, Or.inr ⟨r1, hq1, rfl, rfl⟩⟩, ⟨by unfold CWp; rw [ht2]; exact hw2, by show outA D cy o _ t2.heap; rw [ht2]; exact hO2⟩⟩, hS2.F ht2⟩) hS2.2.2 dL_handle_18 hlocks)
set_option maxHeartbeats 4000000 in
set_option maxRecDepth 100000 in
theorem kc_L_octet (l : Launch) (hst : l.stackTraces = false) (D : va_G) (cy : Nat → ClassId) (AC : Nat → Prop) (ad : Nat × Nat → Nat) (en : Nat → Nat) (tI tS : Nat) (σ σ' : CS) (x1 x2 : Int32) (r : Option Int32) (h00 : cv σ 0 0 = true) (hf : k_X6_octet σ x1 x2 = some (r, σ')) (o : Nat) (f : Nat → Int64) (ho : ¬ AC o) : vx_Met l yL_octet (wlh yL_octet cL_octet 5 [(0, 10, 13, 19)]) ({ frames := 9, cells := 1, slots := 6, locals := 160 } : Room) (va_Pc [.ref (ad (0, 0)), .int x1, .int x2, .ref o] (fun U => CWs D cy AC ad en tI tS σ U ∧ outA D cy o f U.heap)) (va_Qi (fun (r' : Int32) (u : CS × (Nat → Int64)) => u.1 = σ' ∧ ((r = none ∧ r' = nI 1) ∨ ∃ v, r = some v ∧ r' = nI 0 ∧ u.2 0 = v.toInt64)) (fun (u : CS × (Nat → Int64)) t => CWp D cy AC ad u.1 t ∧ outA D cy o u.2 t.heap) (fun q : Nat => AC q ∨ q = o)) (vx_X (fun _ : Unit => False) (fun _ _ _ => True) (fun q : Nat => AC q ∨ q = o)) 1 6 (fun q : Nat => AC q ∨ q = o) := by
  refine vx_ofWH (cc := cL_octet) (maxL := 5) (ret := (some .int)) (by decide) rfl ?_
  intro p e s m args below meth c s₁ B hml hv
  obtain ⟨rfl, ⟨hw, hC⟩, hO⟩ := hv
  have hx := B.exec
  have hb := B.bytes
  have hr := B.returns
  have hts := atoms_spec (ws := (wlh yL_octet cL_octet 5 [(0, 10, 13, 19)])) B.pre
  have hown : s.vm.findClass RL = some m.cls := findClass_of_methodNamed B.named
  have hlocks := B.notSynchronized
  have htab := vx_table (x := yL_octet) B (hts _ List.mem_cons_self)
  have S : CallFix p m c cL_octet 5 s ([.ref (ad (0, 0)), .int x1, .int x2, .ref o] : List Value).toArray (wlh yL_octet cL_octet 5 [(0, 10, 13, 19)]) RL := ⟨hx, hb, hml, hown, hts⟩
  have hS : va_S (fun q : Nat => AC q ∨ q = o) s.heap s.heap [] := va_S.rf
  have hl := lv_entry ([.ref (ad (0, 0)), .int x1, .int x2, .ref o]) (n := 5) (Nat.le_of_ble_eq_true rfl)
  rw [lg_entry_eq]
  generalize (lg_sl ([.ref (ad (0, 0)), .int x1, .int x2, .ref o]) ++ List.replicate (5 - (lg_sl ([.ref (ad (0, 0)), .int x1, .int x2, .ref o])).length) Slot.unset).toArray = ls at hl ⊢
  have hl : lv_has ls 5 [(0, .ref (ad (0, 0))), (1, .int x1), (2, .int x2), (3, .ref o)] := hl
  refine lv_aload_n hx hb dL_octet_0 rfl (lv_at hl 3 rfl) ?_
  refine lv_iconst (v := (0 : Int32)) hx hb dL_octet_1 (by decide) ?_
  refine lv_aload_n hx hb dL_octet_2 rfl (lv_at hl 0 rfl) ?_
  refine lv_iload_n hx hb dL_octet_3 rfl (lv_at hl 1 rfl) ?_
  refine lv_iload_n hx hb dL_octet_4 rfl (lv_at hl 2 rfl) ?_
  refine vx_calli (vx_runV (As := [.int x1, .int x2]) (rest := [.int (0 : Int32), .ref o]) S (kc_X6_octet l hst D cy AC ad en tI tS _ _ x1 x2 _ hf) (cwV 2 hts (wzo_V (zin21 _ (List.mem_of_getElem? (i := 0) rfl)) (zin20 _ (List.mem_of_getElem? (i := 21) rfl)) (zin20 _ (List.mem_of_getElem? (i := 22) rfl)) (zin20 _ (List.mem_of_getElem? (i := 23) rfl)) (zin1 _ (List.mem_of_getElem? (i := 2) rfl))) rfl rfl rfl (by decide +kernel) ⟨Nat.le_of_ble_eq_true rfl, Nat.le_of_ble_eq_true rfl⟩) ⟨cw_blind _, zw_recv hC.1 hw (g := (0, 0)) (ci := 6) ((cG_at h00).trans rfl) rfl, fun U hU hW => ⟨rfl, by rw [hU]; exact hw, by rw [hU]; exact hC.on va_S.rf hW⟩⟩ rfl rfl hl.1 rfl (lv_room (Nat.le_of_ble_eq_true rfl)) dL_octet_5 ⟨Nat.le_of_ble_eq_true rfl, Nat.le_of_ble_eq_true rfl⟩) hS (fun q _ h => Or.inl h) (fun q h => Or.inl h) (fun q _ h => Or.inl h) (fun E ce q9 u t H1 locs1 ht hvm hq hB hz1 hk1 hS1 hce hcv hcl => ?_) (fun r1 u t H1 locs1 ht hvm hq hB hz1 hk1 hS1 => ?_)
  · obtain ⟨hE, hB⟩ := hB
    subst hE
    obtain ⟨hq1, hq2⟩ := hq
    subst ht
    have hO1 : outA D cy o f t.heap := va_at.kept hO (hk1 o (va_at.lt hO) ho)
    refine vx_catch (own := RL) (name := zX) hown [] ⟨0, 10, 13, 19⟩ [] htab (fun z hz => by cases hz) (by decide) (by decide) (hts _ (List.mem_cons_of_mem _ (List.mem_cons_of_mem _ (zin20 _ (List.mem_of_getElem? (i := 20) rfl))))) (exB_all hC.2.2.2.2 _ (by decide +kernel)) hce hcv hcl ?_
    refine lv_astore (lv' := [(4, .ref q9), (0, .ref (ad (0, 0))), (1, .int x1), (2, .int x2), (3, .ref o)]) hx hb dL_octet_13 hl (by decide) rfl (fun ls hl => ?_)
    refine lv_iconst (v := (1 : Int32)) hx hb dL_octet_15 (by decide) ?_
    exact vx_ret (W.iret (v := (1 : Int32)) hx hb hr (fun t2 ht2 hW => ⟨⟨_, (u, f), rfl, ⟨hq2, Or.inl ⟨hq1, rfl⟩⟩, ⟨by unfold CWp; rw [ht2]; exact hB, by show outA D cy o f t2.heap; rw [ht2]; exact hO1⟩⟩, hS1.F ht2⟩) hS1.2.2 dL_octet_16 hlocks)
  · obtain ⟨hq1, hq2⟩ := hq
    subst ht
    have hO1 : outA D cy o f t.heap := va_at.kept hO (hk1 o (va_at.lt hO) ho)
    refine lv_i2l (v := r1.toInt64) hx hb dL_octet_8 rfl ?_
    refine lo_last S hC.1 hB hO1 ho hS1 (fun q h => Or.inl h) (Or.inr rfl) dL_octet_9 (fun H2 locs2 hw2 hO2 hS2 => ?_)
    refine lv_goto (tgt := 17) hx hb dL_octet_10 (by decide) ?_
    refine lv_iconst (v := (0 : Int32)) hx hb dL_octet_17 (by decide) ?_
    refine W.widen (k := 1) (n := 6) (Nat.le_refl _) (Nat.le_refl _) ?_
    exact vx_ret (W.iret (v := (0 : Int32)) hx hb hr (fun t2 ht2 hW => ⟨⟨_, (u, vp_updL f 0 r1.toInt64), rfl, ⟨hq2, Or.inr ⟨r1, hq1, rfl, rfl⟩⟩, ⟨by unfold CWp; rw [ht2]; exact hw2, by show outA D cy o _ t2.heap; rw [ht2]; exact hO2⟩⟩, hS2.F ht2⟩) hS2.2.2 dL_octet_18 hlocks)
set_option maxHeartbeats 4000000 in
set_option maxRecDepth 100000 in
theorem kc_L_divide (l : Launch) (hst : l.stackTraces = false) (D : va_G) (cy : Nat → ClassId) (AC : Nat → Prop) (ad : Nat × Nat → Nat) (en : Nat → Nat) (tI tS : Nat) (σ σ' : CS) (x1 x2 : Int64) (r : Option Int64) (h00 : cv σ 0 0 = true) (hf : k_X6_divide σ x1 x2 = some (r, σ')) (o : Nat) (f : Nat → Int64) (ho : ¬ AC o) : vx_Met l yL_divide (wlh yL_divide cL_divide 7 [(0, 10, 13, 25)]) ({ frames := 9, cells := 1, slots := 6, locals := 160 } : Room) (va_Pc [.ref (ad (0, 0)), .long x1, .long x2, .ref o] (fun U => CWs D cy AC ad en tI tS σ U ∧ outA D cy o f U.heap)) (va_Qi (fun (r' : Int32) (u : CS × (Nat → Int64)) => u.1 = σ' ∧ ((r = none ∧ r' = nI 1) ∨ ∃ v, r = some v ∧ r' = nI 0 ∧ u.2 0 = v)) (fun (u : CS × (Nat → Int64)) t => CWp D cy AC ad u.1 t ∧ outA D cy o u.2 t.heap) (fun q : Nat => AC q ∨ q = o)) (vx_X (fun _ : Unit => False) (fun _ _ _ => True) (fun q : Nat => AC q ∨ q = o)) 1 6 (fun q : Nat => AC q ∨ q = o) := by
  refine vx_ofWH (cc := cL_divide) (maxL := 7) (ret := (some .int)) (by decide) rfl ?_
  intro p e s m args below meth c s₁ B hml hv
  obtain ⟨rfl, ⟨hw, hC⟩, hO⟩ := hv
  have hx := B.exec
  have hb := B.bytes
  have hr := B.returns
  have hts := atoms_spec (ws := (wlh yL_divide cL_divide 7 [(0, 10, 13, 25)])) B.pre
  have hown : s.vm.findClass RL = some m.cls := findClass_of_methodNamed B.named
  have hlocks := B.notSynchronized
  have htab := vx_table (x := yL_divide) B (hts _ List.mem_cons_self)
  have S : CallFix p m c cL_divide 7 s ([.ref (ad (0, 0)), .long x1, .long x2, .ref o] : List Value).toArray (wlh yL_divide cL_divide 7 [(0, 10, 13, 25)]) RL := ⟨hx, hb, hml, hown, hts⟩
  have hS : va_S (fun q : Nat => AC q ∨ q = o) s.heap s.heap [] := va_S.rf
  have hl := lv_entry ([.ref (ad (0, 0)), .long x1, .long x2, .ref o]) (n := 7) (Nat.le_of_ble_eq_true rfl)
  rw [lg_entry_eq]
  generalize (lg_sl ([.ref (ad (0, 0)), .long x1, .long x2, .ref o]) ++ List.replicate (7 - (lg_sl ([.ref (ad (0, 0)), .long x1, .long x2, .ref o])).length) Slot.unset).toArray = ls at hl ⊢
  have hl : lv_has ls 7 [(0, .ref (ad (0, 0))), (1, .long x1), (3, .long x2), (5, .ref o)] := hl
  refine lv_aload hx hb dL_divide_0 (lv_at hl 3 rfl) ?_
  refine lv_iconst (v := (0 : Int32)) hx hb dL_divide_2 (by decide) ?_
  refine lv_aload_n hx hb dL_divide_3 rfl (lv_at hl 0 rfl) ?_
  refine lv_lload_n hx hb dL_divide_4 rfl (lv_at hl 1 rfl) ?_
  refine lv_lload_n hx hb dL_divide_5 rfl (lv_at hl 2 rfl) ?_
  refine vx_calll (vx_runV (As := [.long x1, .long x2]) (rest := [.int (0 : Int32), .ref o]) S (kc_X6_divide l hst D cy AC ad en tI tS _ _ x1 x2 _ hf) (cwV 2 hts (goodIn_c (wz_V (zin21 _ (List.mem_of_getElem? (i := 15) rfl)) (zin21 _ (List.mem_of_getElem? (i := 12) rfl)) (zin21 _ (List.mem_of_getElem? (i := 13) rfl)) (zin21 _ (List.mem_of_getElem? (i := 14) rfl)) (zin1 _ (List.mem_of_getElem? (i := 2) rfl)))) rfl rfl rfl (by decide +kernel) ⟨Nat.le_of_ble_eq_true rfl, Nat.le_of_ble_eq_true rfl⟩) ⟨cw_blind _, zw_recv hC.1 hw (g := (0, 0)) (ci := 6) ((cG_at h00).trans rfl) rfl, fun U hU hW => ⟨rfl, by rw [hU]; exact hw, by rw [hU]; exact hC.on va_S.rf hW⟩⟩ rfl rfl hl.1 rfl (lv_room (Nat.le_of_ble_eq_true rfl)) dL_divide_6 ⟨Nat.le_of_ble_eq_true rfl, Nat.le_of_ble_eq_true rfl⟩) hS (fun q _ h => Or.inl h) (fun q h => Or.inl h) (fun q _ h => Or.inl h) (fun E ce q9 u t H1 locs1 ht hvm hq hB hz1 hk1 hS1 hce hcv hcl => ?_) (fun r1 u t H1 locs1 ht hvm hq hB hz1 hk1 hS1 => ?_)
  · obtain ⟨hE, hB⟩ := hB
    subst hE
    obtain ⟨hq1, hq2⟩ := hq
    subst ht
    have hO1 : outA D cy o f t.heap := va_at.kept hO (hk1 o (va_at.lt hO) ho)
    refine vx_catch (own := RL) (name := zA) hown [] ⟨0, 10, 13, 25⟩ [] htab (fun z hz => by cases hz) (by decide) (by decide) (hts _ (List.mem_cons_of_mem _ (List.mem_cons_of_mem _ (zin21 _ (List.mem_of_getElem? (i := 11) rfl))))) (exB_all hC.2.2.2.2 _ (by decide +kernel)) hce hcv hcl ?_
    refine lv_astore (lv' := [(6, .ref q9), (0, .ref (ad (0, 0))), (1, .long x1), (3, .long x2), (5, .ref o)]) hx hb dL_divide_13 hl (by decide) rfl (fun ls hl => ?_)
    refine lv_iconst (v := (1 : Int32)) hx hb dL_divide_15 (by decide) ?_
    exact vx_ret (W.iret (v := (1 : Int32)) hx hb hr (fun t2 ht2 hW => ⟨⟨_, (u, f), rfl, ⟨hq2, Or.inl ⟨hq1, rfl⟩⟩, ⟨by unfold CWp; rw [ht2]; exact hB, by show outA D cy o f t2.heap; rw [ht2]; exact hO1⟩⟩, hS1.F ht2⟩) hS1.2.2 dL_divide_16 hlocks)
  · obtain ⟨hq1, hq2⟩ := hq
    subst ht
    have hO1 : outA D cy o f t.heap := va_at.kept hO (hk1 o (va_at.lt hO) ho)
    refine lo_last S hC.1 hB hO1 ho hS1 (fun q h => Or.inl h) (Or.inr rfl) dL_divide_9 (fun H2 locs2 hw2 hO2 hS2 => ?_)
    refine lv_goto (tgt := 17) hx hb dL_divide_10 (by decide) ?_
    refine lv_iconst (v := (0 : Int32)) hx hb dL_divide_17 (by decide) ?_
    refine W.widen (k := 1) (n := 6) (Nat.le_refl _) (Nat.le_refl _) ?_
    exact vx_ret (W.iret (v := (0 : Int32)) hx hb hr (fun t2 ht2 hW => ⟨⟨_, (u, vp_updL f 0 r1), rfl, ⟨hq2, Or.inr ⟨r1, hq1, rfl, rfl⟩⟩, ⟨by unfold CWp; rw [ht2]; exact hw2, by show outA D cy o _ t2.heap; rw [ht2]; exact hO2⟩⟩, hS2.F ht2⟩) hS2.2.2 dL_divide_18 hlocks)
