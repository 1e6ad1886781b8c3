/-! ===== the law: the turn that files a runnable ===== -/
section LW
variable {p : Program} {l : Launch} {e : Env} {s : State} {m : MethodId} {args : Array Value} {below : List Frame} {meth : Method} {c : Code} {H : Heap} {locs : List Loc} {cells slots : Nat} {Q : State → Prop}
variable {ls : Array Slot} {D : va_G} {cy : Nat → ClassId} {AC AM : Nat → Prop} {en : Nat → Nat} {tI tS b L xa o hi N : Nat} {xs : Nat → Int32} {adM : Nat → Nat} {σ : CS} {τ : MS} {w : Int32}
set_option maxHeartbeats 4000000 in
set_option maxRecDepth 100000 in
theorem law_c1 (hLC : LC p l s m args c D cy AC AM en tI tS b L o hi xs) (hI : LI s D cy AC AM xa o hi adM N σ τ H locs) (hN : N + 20 < 2147483648) (hrm : cells + 100 ≤ room_1.cells ∧ slots + 50000 ≤ room_1.slots) (hin0 : vp_in w L) (hin1 : vp_in (w + (1 : Int32)) L) (hin2 : vp_in (w + (2 : Int32)) L) (hin3 : vp_in (w + (3 : Int32)) L) (hin4 : vp_in (w + (4 : Int32)) L) (hl : lv_has ls 8 [(0, .ref b), (1, .ref xa), (2, .ref (adM 0)), (3, .ref o), (4, .int w)]) (fin : ∀ (σ' : CS) (τ' : MS) (H' : Heap) (locs' : List Loc) (ls' : Array Slot), LI s D cy AC AM xa o hi adM (N + 20) σ' τ' H' locs' → lv_has ls' 8 [(0, .ref b), (1, .ref xa), (2, .ref (adM 0)), (3, .ref o), (4, .int w)] → W p l e room_1 s m args below meth c H' locs' (cells + 100) (slots + 50000) Q (F0 m 1000 ls' [])) : W p l e room_1 s m args below meth c H locs cells slots Q (F0 m 205 ls []) := by
  obtain ⟨S, hst, hC, hX, hbl, hAC, hAM, hd, hob, hoC, hoM, hnC⟩ := hLC
  obtain ⟨hR, hhi, ⟨ad, rfl, h6⟩, h7, ⟨f, hO⟩, hS⟩ := hI
  obtain ⟨hx, hb, hml, hown, hts⟩ := id S
  have hbA : ¬ (fun q : Nat => s.heap.size ≤ q) b := Nat.not_le.mpr hbl
  have hK := hC.1
  have h00 := hR.h00
  obtain ⟨hr1, hr2⟩ := id hrm
  refine lv_aload_n hx hb dL_law_205 rfl (lv_at hl 1 rfl) ?_
  refine lv_aload_n hx hb dL_law_206 rfl (lv_at hl 0 rfl) ?_
  refine lv_iload hx hb dL_law_207 (lv_at hl 4 rfl) ?_
  refine lv_iconst (v := (1 : Int32)) hx hb dL_law_209 (by decide) ?_
  refine lv_iadd hx hb dL_law_210 ?_
  refine va_sld hx hb hX hbl hbA hS hin1 dL_law_211 ?_
  obtain ⟨r, σ', τ', e6, e7, hR'⟩ := sim_runnable hR (xs (w + (1 : Int32)).toNatClampNeg)
  refine va_calli (va_runV (As := [.int (xs (w + (1 : Int32)).toNatClampNeg)]) (rest := []) S (kc_X6_runnable l D cy AC ad en tI tS _ _ (xs (w + (1 : Int32)).toNatClampNeg) _ e6) (cwV 1 hts (wz_V (zin5 _ (List.mem_of_getElem? (i := 21) rfl)) (zin5 _ (List.mem_of_getElem? (i := 18) rfl)) (zin5 _ (List.mem_of_getElem? (i := 19) rfl)) (zin5 _ (List.mem_of_getElem? (i := 20) rfl)) (zin1 _ (List.mem_of_getElem? (i := 2) rfl))) rfl rfl rfl (by decide +kernel) ⟨Nat.le_of_ble_eq_true rfl, Nat.le_of_ble_eq_true rfl⟩) ⟨cw_blind _, zw_recv hK h6 (g := (0, 0)) (ci := 6) ((cG_at h00).trans rfl) rfl, fun U hU hW => ⟨rfl, by rw [hU]; exact h6, CK_law hC hS hAC (fun q h => hnC q (Nat.le_trans hhi h)) hU hW⟩⟩ rfl rfl hl.1 rfl (lv_room (Nat.le_of_ble_eq_true rfl)) dL_law_212 ⟨by omega, by omega⟩) hS (fun q _ h => hAC q h) (fun q h => hAC q h) (fun r0 u0 t0 H1 locs1 ht hvm hq hB hz1 hk1 hS1 => ?_)
  obtain ⟨hq, hu⟩ := hq
  have hu := hu.symm
  subst hu
  have hq := hq.symm
  subst hq
  subst ht
  obtain ⟨ad1, had1, hB⟩ := hB
  have h7 := zw_keep h7 (fun q h z => hk1 q h (fun y => hd q y z))
  have hO := va_at.kept hO (hk1 o (va_at.lt hO) hoC)
  have h6 := hB
  have hS := hS1
  have hhi := Nat.le_trans hhi hz1
  refine lv_aload_n hx hb dL_law_215 rfl (lv_at hl 2 rfl) ?_
  refine lv_aload_n hx hb dL_law_216 rfl (lv_at hl 0 rfl) ?_
  refine lv_iload hx hb dL_law_217 (lv_at hl 4 rfl) ?_
  refine lv_iconst (v := (1 : Int32)) hx hb dL_law_219 (by decide) ?_
  refine lv_iadd hx hb dL_law_220 ?_
  refine va_sld hx hb hX hbl hbA hS hin1 dL_law_221 ?_
  refine va_calli (va_runV (As := [.int (xs (w + (1 : Int32)).toNatClampNeg)]) (rest := [.int r]) S (kc_X7_runnable l D cy AM adM _ _ (xs (w + (1 : Int32)).toNatClampNeg) _ e7) (cwV 1 hts (wz_V (zin8 _ (List.mem_of_getElem? (i := 12) rfl)) (zin8 _ (List.mem_of_getElem? (i := 9) rfl)) (zin8 _ (List.mem_of_getElem? (i := 10) rfl)) (zin8 _ (List.mem_of_getElem? (i := 11) rfl)) (zin1 _ (List.mem_of_getElem? (i := 5) rfl))) rfl rfl rfl (by decide +kernel) ⟨Nat.le_of_ble_eq_true rfl, Nat.le_of_ble_eq_true rfl⟩) ⟨mw_blind _, zw_recv hK h7 (g := 0) (ci := 7) rfl rfl, mw_pre hK h7 _⟩ rfl rfl hl.1 rfl (lv_room (Nat.le_of_ble_eq_true rfl)) dL_law_222 ⟨by omega, by omega⟩) hS (fun q _ h => hAM q h) (fun q h => hAM q h) (fun r1 u1 t1 H1 locs1 ht hvm hq hB hz1 hk1 hS1 => ?_)
  obtain ⟨hq, hu⟩ := hq
  have hu := hu.symm
  subst hu
  have hq := hq.symm
  subst hq
  subst ht
  have h6 := zw_keep h6 (fun q h z => hk1 q h (fun y => hd q z y))
  have hO := va_at.kept hO (hk1 o (va_at.lt hO) hoM)
  have h7 := hB
  have hS := hS1
  have hhi := Nat.le_trans hhi hz1
  refine lv_icmp_eq (tgt := 1000) hx hb dL_law_225 (by decide) (fun c_0 => ?_) (fun c_0 => absurd rfl c_0)
  refine W.widen (k := cells + 100) (n := slots + 50000) (by omega) (by omega) ?_
  exact fin _ _ _ _ _ ⟨(hR'.mono (Nat.le_add_right _ _)), hhi, ⟨ad1, had1 0 0 (by decide), h6⟩, h7, ⟨f, hO⟩, hS⟩ hl
end LW
