/-! ===== the law, from its entry ===== -/
theorem zw_nil {ι : Type} {D : va_G} {A : Nat → Prop} {ad : ι → Nat} {G : ι → Option va_E} (h : ∀ g, G g = none) {H : Heap} : zw D A ad G H :=
  ⟨⟨[], fun _ => .inr (0, []), fun k q h => by simp [va_pl] at h, ⟨fun i j p q h => by simp [va_pl] at h, fun k q h => by simp [va_pl] at h⟩, fun g e hg => by rw [h g] at hg; cases hg⟩, fun g g' e e' hg => by rw [h g] at hg; cases hg⟩
theorem clm_nI (r : Int32) : ∃ B : Nat, B ≤ 65536 ∧ clm r = nI B ∧ clm6 r = nI B := by
  unfold clm clm6
  by_cases h0 : r < 0
  · have h1 : ¬ 65536 < r := fun q => by
      rw [Int32.lt_iff_toInt_lt] at h0 q
      have z0 : (0 : Int32).toInt = 0 := by decide
      have z1 : (65536 : Int32).toInt = 65536 := by decide
      omega
    have h2 : ¬ 0 < r := fun q => by
      rw [Int32.lt_iff_toInt_lt] at h0 q
      omega
    exact ⟨0, by omega, by rw [if_pos h0]; rfl, by rw [if_neg h1, if_neg h2]; rfl⟩
  · by_cases h1 : r ≤ 65536
    · obtain ⟨B, hB, rfl⟩ := nI_of2 (x := r) (M := 65536) (n := 65536) (by decide) h0 h1
      have h2 : ¬ 65536 < nI B := Int32.not_lt.mpr h1
      refine ⟨B, hB, by rw [if_neg h0, if_pos h1], ?_⟩
      rw [if_neg h2]
      by_cases h3 : 0 < nI B
      · rw [if_pos h3]
      · rw [if_neg h3]
        rcases Nat.eq_zero_or_pos B with rfl | hp
        · rfl
        · exact absurd (show nI 0 < nI B from nI_lt hp (by omega)) h3
    · have h2 : 65536 < r := Int32.not_le.mp h1
      exact ⟨65536, by omega, by rw [if_neg h0, if_neg h1]; rfl, by rw [if_pos h2, if_pos (by decide)]; rfl⟩
theorem rel_init {r : Int32} {τ : MS} (hZ : ZM (clm r) 160 τ) : Rel 0 (sI (clm6 r)) τ := by
  obtain ⟨B, hB, e7, e6⟩ := clm_nI r
  rw [e7] at hZ
  rw [e6]
  obtain ⟨z1, z2, z3⟩ := hZ
  have zi : ∀ k, k ≠ 1 → mi τ k = nI 0 := fun k h => by rw [z1, if_neg h]
  have zr : ∀ a j, a ≠ 24 → mr τ a j = nI 0 := fun a j h => by rw [z2, if_neg (fun q => h q.1)]
  refine ⟨0, 0, B, 0, fun _ => 0, Nat.le_refl _, ?_, ?_, ?_, ?_, ?_, ?_⟩
  · exact ⟨rfl, rfl, rfl, rfl, rfl, rfl, fun c hc => ⟨decide_eq_true hc, decide_eq_true hc⟩, fun a ha => decide_eq_true ha, fun i hi => absurd hi (Nat.not_lt_zero _), fun i _ _ => rfl, fun i hi => decide_eq_false (by omega), fun i _ => rfl, fun i _ => rfl, fun i hi => decide_eq_false (by omega)⟩
  · exact ⟨rfl, by rw [z1, if_pos rfl], hB, rfl, zi 3 (by decide), Nat.zero_le _, rfl, zi 5 (by decide), Nat.zero_le _, (zi 2 (by decide)).symm, zi 26 (by decide)⟩
  · intro j hj
    rw [zr 4 j (by decide)]
    exact ⟨rfl, isB_0⟩
  · intro i hi
    exact absurd hi (Nat.not_lt_zero _)
  · intro c hc
    unfold RC
    rw [zr 14 c (by decide), zr 15 c (by decide), zr 16 c (by decide), zr 17 c (by decide), zr 18 c (by decide), zr 19 c (by decide), zr 20 c (by decide)]
    exact ⟨rfl, Or.inl rfl, rfl, rfl, rfl, rfl, rfl, rfl, fun p hp => (z3 13 _).symm⟩
  · intro c i hc hi
    refine ⟨Or.inl ⟨rfl, zr 21 _ (by decide), ?_⟩, 0, Nat.le_refl _, zr 25 _ (by decide)⟩
    rw [z2, if_pos ⟨rfl, by omega⟩]
def cel (L : Nat) (xs : Nat → Int32) : Int32 := if 0 < L then xs 0 else 0
set_option maxHeartbeats 4000000 in
set_option maxRecDepth 100000 in
theorem kc_L_cell2 (l : Launch) (b L : Nat) (xs : Nat → Int32) (hL : L ≤ 321) : Met l yL_cell (wz yL_cell cL_cell 2 (some .int)) ({ frames := 0, cells := 0, slots := 0, locals := 0 } : Room) (va_Pc [.ref b, .int (0 : Int32)] (fun U => va_X b L xs U U.heap ∧ b < U.heap.size)) (va_Qi (fun (r : Int32) (_ : Unit) => r = cel L xs) (fun _ _ => True) (fun _ => False)) 0 0 (fun _ => False) := by
  refine Met.ofW (cc := cL_cell) (maxL := 2) (ret := (some .int)) (by decide) rfl ?_
  intro p e s m args below meth c s₁ B hml hv
  obtain ⟨rfl, hX, hbl⟩ := hv
  have hx := B.exec
  have hb := B.bytes
  have hr := B.returns
  have hlocks := B.notSynchronized
  have hbA : ¬ (fun _ : Nat => False) b := fun h => h
  have hS : va_S (fun _ => False) s.heap s.heap [] := va_S.rf
  have hl := lv_entry ([.ref b, .int (0 : Int32)]) (n := 2) (Nat.le_of_ble_eq_true rfl)
  rw [lg_entry_eq]
  generalize (lg_sl ([.ref b, .int (0 : Int32)]) ++ List.replicate (2 - (lg_sl ([.ref b, .int (0 : Int32)])).length) Slot.unset).toArray = ls at hl ⊢
  have hl : lv_has ls 2 [(0, .ref b), (1, .int (0 : Int32))] := hl
  refine lv_iload_n hx hb dL_cell_0 rfl (lv_at hl 1 rfl) ?_
  refine lv_aload_n hx hb dL_cell_1 rfl (lv_at hl 0 rfl) ?_
  refine va_slen hx hb hX hbl hbA hS dL_cell_2 ?_
  refine lv_icmp_ge (tgt := 12) hx hb dL_cell_3 (by decide) (fun c_1 => ?_) (fun c_1 => ?_)
  · have h0 : ¬ 0 < L := fun q => by
      have := (nI_leI (a := L) (b := 0) (by omega) (by omega)).mp c_1
      omega
    refine lv_iconst (v := (0 : Int32)) hx hb dL_cell_12 (by decide) ?_
    exact W.iret (v := (0 : Int32)) hx hb hr (fun t ht hW => ⟨⟨_, (), rfl, by unfold cel; rw [if_neg h0], trivial⟩, hS.F ht⟩) hS.2.2 dL_cell_13 hlocks
  · have h0 : 0 < L := by
      rcases Nat.eq_zero_or_pos L with h | h
      · subst h
        exact absurd (show nI 0 ≤ nI 0 from by decide) c_1
      · exact h
    have hin : vp_in (0 : Int32) L := vp_in_nI (n := 0) h0 (by omega)
    refine lv_aload_n hx hb dL_cell_6 rfl (lv_at hl 0 rfl) ?_
    refine lv_iload_n hx hb dL_cell_7 rfl (lv_at hl 1 rfl) ?_
    refine va_sld hx hb hX hbl hbA hS hin dL_cell_8 ?_
    refine lv_goto (tgt := 13) hx hb dL_cell_9 (by decide) ?_
    exact W.iret (v := xs (0 : Int32).toNatClampNeg) hx hb hr (fun t ht hW => ⟨⟨_, (), rfl, by unfold cel; rw [if_pos h0]; rfl, trivial⟩, hS.F ht⟩) hS.2.2 dL_cell_13 hlocks
set_option maxHeartbeats 4000000 in
set_option maxRecDepth 100000 in
theorem whole_start {p : Program} {e : Env} {s : State} {m : MethodId} {below : List Frame} {meth : Method} {c : Code} (l : Launch) (hflags : l.flags = flags0) {b L : Nat} {xs : Nat → Int32} (hL : L ≤ 321) (C0 : lw_At p s m meth c b L xs) : W p l e room_1 s m #[Value.ref b] below meth c s.heap [] 0 0 (lw_Z below #[Value.ref b] s) (entryFrame m ([Value.ref b] : List Value).toArray 8) := by
  obtain ⟨hx, hb, hr, hml, hown, hts, hX, hbl, hlocks, hgv⟩ := C0
  have hg : ∀ w ∈ flatC gvn, w.before #[Value.ref b] s = true := flat_of_before _ hgv
  have hts0 : ∀ w ∈ (Cond.methodLink RX6 175 (Bundle.initS zX) :: wsL_law), w.before #[Value.ref b] s = true := fun w h => by
    rcases List.mem_cons.mp h with rfl | h
    · exact hts _ (by decide +kernel)
    · exact hts _ (wsL_law_in w h)
  have hst : l.stackTraces = false := by unfold Launch.stackTraces; rw [hflags]; decide
  obtain ⟨D, cy, hK⟩ := st_K hts
  obtain ⟨en, tI, tS, hC⟩ := st_CK hts hg hK
  have S : CallFix p m c cL_law 8 s ([.ref b] : List Value).toArray (Cond.methodLink RX6 175 (Bundle.initS zX) :: wsL_law) RL := ⟨hx, hb, hml, hown, hts0⟩
  have hbA : ¬ (fun q : Nat => s.heap.size ≤ q) b := Nat.not_le.mpr hbl
  have hS : va_S (fun q : Nat => s.heap.size ≤ q) s.heap s.heap [] := va_S.rf
  have hl := lv_entry ([.ref b]) (n := 8) (Nat.le_of_ble_eq_true rfl)
  rw [lg_entry_eq]
  generalize (lg_sl ([.ref b]) ++ List.replicate (8 - (lg_sl ([.ref b])).length) Slot.unset).toArray = ls at hl ⊢
  have hl : lv_has ls 8 [(0, .ref b)] := hl
  have hw0 : zw D (fun q : Nat => s.heap.size ≤ q) (fun _ => 0) (cL cy (fun _ => 0) zC []) s.heap := zw_nil (fun g => by
    obtain ⟨k, i⟩ := g
    by_cases hk : k = 10
    · subst hk; rw [cL_t]; rfl
    · rw [cL_n hk]; rfl)
  have hX6 : ∀ w ∈ wsX60, w ∈ (Cond.methodLink RX6 175 (Bundle.initS zX) :: wsL_law) := fun w h => wz_in (inlX6 w h)
  have hX7 : ∀ w ∈ wsX70, w ∈ (Cond.methodLink RX6 175 (Bundle.initS zX) :: wsL_law) := fun w h => wz_in (inlX7 w h)
  refine cl_new (C := RX6) (T := TX6) (N := 8) (ci := 6) (fs := [.int 0, .null, .null, .null, .null, .int 0, .int 0, .int 0]) S hX6 tyX6 tyX6_ok (wz_in (zin1 _ (List.mem_of_getElem? (i := 0) rfl))) (wz_in (zin1 _ (List.mem_of_getElem? (i := 1) rfl))) (wz_in (zin1 _ (List.mem_of_getElem? (i := 2) rfl))) hK hw0 hS (fun _ h => h) rfl (fun z hz => by match z, hz with | 0, _ => rfl | 1, _ => rfl | 2, _ => rfl | 3, _ => rfl | 4, _ => rfl | 5, _ => rfl | 6, _ => rfl | 7, _ => rfl) (Nat.le_of_ble_eq_true rfl) (Nat.le_of_ble_eq_true rfl) dL_law_0 (fun q H hw hS => ?_)
  have hw : zw D (fun q : Nat => s.heap.size ≤ q) (adT (fun _ => 0) 0 q) (cL cy (adT (fun _ => 0) 0 q) zC [XH 0 .null .null .null .null]) H := hw
  refine lv_dup hx hb dL_law_3 rfl ?_
  refine lv_aload_n hx hb dL_law_4 rfl (lv_at hl 0 rfl) ?_
  refine lv_iconst (v := (0 : Int32)) hx hb dL_law_5 (by decide) ?_
  refine va_calli (va_runS (As := [.ref b, .int (0 : Int32)]) (rest := [.ref q, .ref q]) S (kc_L_cell2 l b L xs hL) (va_cwS 2 hts0 (wz_S (zin1 _ (List.mem_of_getElem? (i := 11) rfl)) (zin1 _ (List.mem_of_getElem? (i := 8) rfl)) (zin1 _ (List.mem_of_getElem? (i := 9) rfl)) (zin1 _ (List.mem_of_getElem? (i := 10) rfl))) rfl rfl rfl (by decide +kernel) ⟨Nat.le_of_ble_eq_true rfl, Nat.le_of_ble_eq_true rfl⟩) ⟨fun a U g mk q => ⟨q.1, va_X.moved (u := U) (U := U.calling g mk a) (Vm.Alike.refl U.vm) q.2.1, q.2.2⟩, fun U hU hW => ⟨rfl, by rw [hU]; exact va_X.moved hW.alike (va_X.kept hX (hS.2.1 b hbl hbA)), by rw [hU]; exact Nat.lt_of_lt_of_le hbl hS.1⟩⟩ rfl rfl hl.1 rfl (lv_room (Nat.le_of_ble_eq_true rfl)) dL_law_6 ⟨Nat.le_of_ble_eq_true rfl, Nat.le_of_ble_eq_true rfl⟩) hS (fun _ _ h => h.elim) (fun _ h => h.elim) (fun r u9 t H1 locs1 ht hvm hq _ hz1 hk1 hS1 => ?_)
  subst hq
  have hw := zw_keep hw (fun q h _ => hk1 q h (fun z => z))
  have hS := hS1
  refine va_callv (va_runI (As := [.int (cel L xs)]) (rest := [.ref q]) S (kc_X6_init l D cy (fun q : Nat => s.heap.size ≤ q) (adT (fun _ => 0) 0 q) q (cel L xs) (adT_s _ _ _)) ⟨callB_of 1 hts0 (wz_gd (zin1 _ (List.mem_of_getElem? (i := 14) rfl))) rfl rfl rfl (hts0 _ (wz_in (zin1 _ (List.mem_of_getElem? (i := 2) rfl)))) (hts0 _ (wz_in (zin1 _ (List.mem_of_getElem? (i := 12) rfl)))) (by decide +kernel) ⟨Nat.le_of_ble_eq_true rfl, Nat.le_of_ble_eq_true rfl⟩, rfl, hts0 _ (wz_in (zin1 _ (List.mem_of_getElem? (i := 13) rfl)))⟩ ⟨pb_X6_init D cy (fun q : Nat => s.heap.size ≤ q) (adT (fun _ => 0) 0 q) _, fun U hU hW => ⟨rfl, by rw [hU]; exact hw, va_K.moved hW.alike hK, fun z hz => Nat.le_trans hS.1 (by rw [← hU]; exact hz), va_AO.moved hW.alike (va_AO.of (hts _ (by decide +kernel))), va_AO.moved hW.alike (va_AO.of (hts _ (by decide +kernel))), va_AO.moved hW.alike (va_AO.of (hts _ (by decide +kernel))), hC.2.1.warm hW⟩⟩ rfl rfl hl.1 rfl (lv_room (Nat.le_of_ble_eq_true rfl)) dL_law_9 ⟨Nat.le_of_ble_eq_true rfl, Nat.le_of_ble_eq_true rfl⟩) hS (fun q _ h => h) (fun q h => h) (fun u t H1 locs1 ht hvm hq hB hz1 hk1 hS1 => ?_)
  obtain ⟨hu0, hB⟩ := hB
  rw [ht] at hB
  refine lv_astore_n (lv' := [(1, .ref q), (0, .ref b)]) hx hb dL_law_12 rfl hl (by decide) rfl (fun ls hl => ?_)
  refine va_forget (fun q hq => hS1.2.2 q hq) ?_
  have hSC : va_S (fun q : Nat => s.heap.size ≤ q) s.heap H1 [] := ⟨hS1.1, hS1.2.1, fun q hq => by simp at hq⟩
  clear hS1 hk1 hz1 ht hvm hw
  have hS : va_S (fun q : Nat => H1.size ≤ q) H1 H1 [] := va_S.rf
  have hw0 : zw D (fun q : Nat => H1.size ≤ q) (fun _ : Nat => 0) (fun _ => none) H1 := zw_nil (fun _ => rfl)
  refine zr_new (C := RX7) (T := TX7) (N := 33) (ci := 7) (fs := fsM (fun _ => 0) 0 (nI 0)) S hX7 tyX7 tyX7_ok (wz_in (zin1 _ (List.mem_of_getElem? (i := 3) rfl))) (wz_in (zin1 _ (List.mem_of_getElem? (i := 4) rfl))) (wz_in (zin1 _ (List.mem_of_getElem? (i := 5) rfl))) hK hw0 hS (fun _ h => h) rfl (fun z hz => by match z, hz with | 0, _ => rfl | 1, _ => rfl | 2, _ => rfl | 3, _ => rfl | 4, _ => rfl | 5, _ => rfl | 6, _ => rfl | 7, _ => rfl | 8, _ => rfl | 9, _ => rfl | 10, _ => rfl | 11, _ => rfl | 12, _ => rfl | 13, _ => rfl | 14, _ => rfl | 15, _ => rfl | 16, _ => rfl | 17, _ => rfl | 18, _ => rfl | 19, _ => rfl | 20, _ => rfl | 21, _ => rfl | 22, _ => rfl | 23, _ => rfl | 24, _ => rfl | 25, _ => rfl | 26, _ => rfl | 27, _ => rfl | 28, _ => rfl | 29, _ => rfl | 30, _ => rfl | 31, _ => rfl | 32, _ => rfl | k + 33, h => exact absurd h (by omega)) (Nat.le_of_ble_eq_true rfl) (Nat.le_of_ble_eq_true rfl) dL_law_13 (fun q2 H2 hnm hS => ?_)
  have hw := hnm (fun _ => q2) (pM cy (fun _ => q2) 0 1 (nI 0)) 0 rfl rfl (fun g e h => by cases h) (pM_0.trans rfl) (fun g hg => by unfold pM; rw [if_neg hg, if_neg (by omega)])
  have hb1 : b < H1.size := Nat.lt_of_lt_of_le hbl hSC.1
  have hbA1 : ¬ (fun q : Nat => H1.size ≤ q) b := Nat.not_le.mpr hb1
  have hX2 : va_X b L xs s H2 := va_X.kept (va_X.kept hX (hSC.2.1 b hbl hbA)) (hS.2.1 b hb1 hbA1)
  refine lv_dup hx hb dL_law_16 rfl ?_
  refine lv_aload_n hx hb dL_law_17 rfl (lv_at hl 1 rfl) ?_
  refine lv_iconst (v := (0 : Int32)) hx hb dL_law_18 (by decide) ?_
  refine va_calli (va_runS (As := [.ref b, .int (0 : Int32)]) (rest := [.ref q2, .ref q2]) S (kc_L_cell2 l b L xs hL) (va_cwS 2 hts0 (wz_S (zin1 _ (List.mem_of_getElem? (i := 11) rfl)) (zin1 _ (List.mem_of_getElem? (i := 8) rfl)) (zin1 _ (List.mem_of_getElem? (i := 9) rfl)) (zin1 _ (List.mem_of_getElem? (i := 10) rfl))) rfl rfl rfl (by decide +kernel) ⟨Nat.le_of_ble_eq_true rfl, Nat.le_of_ble_eq_true rfl⟩) ⟨fun a U g mk q => ⟨q.1, va_X.moved (u := U) (U := U.calling g mk a) (Vm.Alike.refl U.vm) q.2.1, q.2.2⟩, fun U hU hW => ⟨rfl, by rw [hU]; exact va_X.moved hW.alike hX2, by rw [hU]; exact Nat.lt_of_lt_of_le hb1 hS.1⟩⟩ rfl rfl hl.1 rfl (lv_room (Nat.le_of_ble_eq_true rfl)) dL_law_19 ⟨Nat.le_of_ble_eq_true rfl, Nat.le_of_ble_eq_true rfl⟩) hS (fun _ _ h => h.elim) (fun _ h => h.elim) (fun r u9 t H3 locs3 ht hvm hq _ hz1 hk1 hS3 => ?_)
  subst hq
  have hw := zw_keep hw (fun q h _ => hk1 q h (fun z => z))
  have hS := hS3
  clear hS3
  refine va_callv (va_runI (As := [.int (cel L xs)]) (rest := [.ref q2]) S (kc_X7_init l D cy (fun q : Nat => H1.size ≤ q) (fun _ => q2) q2 (cel L xs) rfl) ⟨callB_of 1 hts0 (wz_gd (zin3 _ (List.mem_of_getElem? (i := 8) rfl))) rfl rfl rfl (hts0 _ (wz_in (zin1 _ (List.mem_of_getElem? (i := 5) rfl)))) (hts0 _ (wz_in (zin3 _ (List.mem_of_getElem? (i := 6) rfl)))) (by decide +kernel) ⟨Nat.le_of_ble_eq_true rfl, Nat.le_of_ble_eq_true rfl⟩, rfl, hts0 _ (wz_in (zin3 _ (List.mem_of_getElem? (i := 7) rfl)))⟩ ⟨pb_X7_init D cy (fun q : Nat => H1.size ≤ q) (fun _ => q2) _, fun U hU hW => ⟨rfl, by rw [hU]; exact hw, va_K.moved hW.alike hK, fun z hz => Nat.le_trans hS.1 (by rw [← hU]; exact hz)⟩⟩ rfl rfl hl.1 rfl (lv_room (Nat.le_of_ble_eq_true rfl)) dL_law_22 ⟨Nat.le_of_ble_eq_true rfl, Nat.le_of_ble_eq_true rfl⟩) hS (fun q _ h => h) (fun q h => h) (fun v t H4 locs4 ht hvm hq hB hz1 hk1 hS4 => ?_)
  obtain ⟨adM, τ⟩ := v
  obtain ⟨hv0, hZ, hM⟩ := hB
  have hv0 : adM 0 = q2 := hv0
  have hM : zw D (fun q : Nat => H1.size ≤ q) adM (mG cy adM τ) t.heap := hM
  rw [ht] at hM
  refine lv_astore_n (lv' := [(2, .ref q2), (1, .ref q), (0, .ref b)]) hx hb dL_law_25 rfl hl (by decide) rfl (fun ls hl => ?_)
  refine va_forget (fun q hq => Nat.le_trans hSC.1 (hS4.2.2 q hq)) ?_
  have hSM : va_S (fun q : Nat => H1.size ≤ q) H1 H4 [] := ⟨hS4.1, hS4.2.1, fun q hq => by simp at hq⟩
  have hS : va_S (fun q : Nat => H4.size ≤ q) H4 H4 [] := va_S.rf
  have hw0 : zw D (fun q : Nat => H4.size ≤ q) (fun _ : Nat => 0) (fun _ => none) H4 := zw_nil (fun _ => rfl)
  refine lv_iconst (v := (1 : Int32)) hx hb dL_law_26 (by decide) ?_
  refine zr_newa (N' := 1) (ty := .long) (a0 := (1, .inr (.inl (fun _ => 0)))) S rfl (wz_in (zin1 _ (List.mem_of_getElem? (i := 6) rfl))) hK hw0 hS (fun _ h => h) 2 rfl (fun _ => rfl) (by decide) (by decide) (Nat.le_of_ble_eq_true rfl) (Nat.le_of_ble_eq_true rfl) (Nat.le_of_ble_eq_true rfl) dL_law_27 (fun o H5 hnm hS => ?_)
  have hwo := hnm (fun _ => o) (fun g => if g = 0 then some (.inl (cy 2, 1, .inr (.inl (fun _ => 0)))) else none) 0 rfl rfl (fun g e h => by cases h) (if_pos rfl) (fun g hg => if_neg hg)
  have hO : outA D cy o (fun _ => 0) H5 := zw_at hwo (g := 0) (if_pos rfl)
  have ho1 : H4.size ≤ o := zw_A hwo (g := 0) (if_pos rfl)
  have ho2 : o < H5.size := zw_lt hwo (g := 0) (if_pos rfl)
  refine lv_astore_n (lv' := [(3, .ref o), (2, .ref q2), (1, .ref q), (0, .ref b)]) hx hb dL_law_29 rfl hl (by decide) rfl (fun ls hl => ?_)
  refine lv_iconst (v := nI 1) hx hb dL_law_30 (by decide) ?_
  refine lv_istore (lv' := [(4, .int (nI 1)), (3, .ref o), (2, .ref q2), (1, .ref q), (0, .ref b)]) hx hb dL_law_31 hl (by decide) rfl (fun ls hl => ?_)
  have s1 := hSC.1
  have s2 := hSM.1
  have s3 := hS.1
  have k12 : ∀ z : Nat, z < H1.size → H5[z]? = H1[z]? := fun z hz => (hS.2.1 z (by omega) (Nat.not_le.mpr (by omega))).trans (hSM.2.1 z hz (Nat.not_le.mpr hz))
  have k45 : ∀ z : Nat, z < H4.size → H5[z]? = H4[z]? := fun z hz => hS.2.1 z hz (Nat.not_le.mpr hz)
  have h6 : zw D (fun z : Nat => s.heap.size ≤ z ∧ ¬ (H1.size ≤ z ∧ z < H5.size)) u (cG cy u (sI (clm6 (cel L xs)))) H5 := zw_keep (zw_narrow hB (fun z hz h => ⟨h, by omega⟩)) (fun z hz _ => k12 z hz)
  have h7 : zw D (fun z : Nat => H1.size ≤ z ∧ z < H4.size) adM (mG cy adM τ) H5 := zw_keep (zw_narrow hM (fun z hz h => ⟨h, hz⟩)) (fun z hz _ => k45 z hz)
  have hSF : va_S (fun q : Nat => s.heap.size ≤ q) s.heap H5 [] := ⟨by omega, fun z hz h => (k12 z (by omega)).trans (hSC.2.1 z hz h), fun q hq => by simp at hq⟩
  have hLC : LC p l s m #[Value.ref b] c D cy (fun z : Nat => s.heap.size ≤ z ∧ ¬ (H1.size ≤ z ∧ z < H5.size)) (fun z : Nat => H1.size ≤ z ∧ z < H4.size) en tI tS b L o H5.size xs := ⟨S, hst, hC, hX, hbl, fun z h => h.1, fun z h => by omega, fun z h h2 => h.2 ⟨h2.1, by omega⟩, by omega, fun h => h.2 ⟨by omega, ho2⟩, fun h => by omega, fun z h => ⟨by omega, by omega⟩⟩
  have hl : lv_has ls 8 [(0, .ref b), (1, .ref q), (2, .ref (adM 0)), (3, .ref o), (4, .int (nI 1))] := by rw [hv0]; exact lv_sub hl [4, 3, 2, 1, 0] rfl
  exact law_loop hL hr hlocks hLC 65 0 1 rfl (by omega) (by omega) _ _ (Nat.le_of_ble_eq_true rfl) (Nat.le_of_ble_eq_true rfl) _ _ _ _ ls ⟨rel_init hZ, Nat.le_refl _, ⟨u, hu0, h6⟩, h7, ⟨_, hO⟩, hSF⟩ hl
