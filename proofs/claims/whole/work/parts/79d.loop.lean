/-! ===== the law: its loop ===== -/
section LW
variable {p : Program} {l : Launch} {e : Env} {s : State} {m : MethodId} {args : Array Value} {below : List Frame} {meth : Method} {c : Code} {H : Heap} {locs : List Loc} {cells slots : Nat} {Q : State → Prop}
variable {ls : Array Slot} {D : va_G} {cy : Nat → ClassId} {AC AM : Nat → Prop} {en : Nat → Nat} {tI tS b L xa o hi N : Nat} {xs : Nat → Int32} {adM : Nat → Nat} {σ : CS} {τ : MS} {w : Int32}
set_option maxHeartbeats 4000000 in
set_option maxRecDepth 100000 in
theorem law_loop (hL : L ≤ 321) (hr : meth.sig.returnType = ret) (hlocks : meth.locks = false) (hLC : LC p l s m #[Value.ref b] c D cy AC AM en tI tS b L o hi xs) : ∀ (n t i : Nat), i = 1 + 5 * t → L < i + 5 * n → t + n ≤ 66 → ∀ (cells slots : Nat), cells ≤ 1000 + 100 * t → slots ≤ 50000 + 50000 * t → ∀ (σ : CS) (τ : MS) (H : Heap) (locs : List Loc) (ls : Array Slot), LI s D cy AC AM xa o hi adM (20 * t) σ τ H locs → lv_has ls 8 [(0, .ref b), (1, .ref xa), (2, .ref (adM 0)), (3, .ref o), (4, .int (nI i))] → W p l e room_1 s m #[Value.ref b] below meth c H locs cells slots (lw_Z below #[Value.ref b] s) (F0 m 33 ls []) := by
  intro n
  induction n with
  | zero =>
    intro t i hi5 hLn htn cells slots hcl hsl σ τ H locs ls hI hl
    obtain ⟨S, hst, hC, hX, hbl, hAC, hAM, hd, hob, hoC, hoM, hnC⟩ := hLC
    have hS := hI.2.2.2.2.2
    obtain ⟨hx, hb, hml, hown, hts⟩ := id S
    have hbA : ¬ (fun q : Nat => s.heap.size ≤ q) b := Nat.not_le.mpr hbl
    refine lv_iload hx hb dL_law_33 (lv_at hl 4 rfl) ?_
    refine lv_aload_n hx hb dL_law_35 rfl (lv_at hl 0 rfl) ?_
    refine va_slen hx hb hX hbl hbA hS dL_law_36 ?_
    refine lv_iconst (v := nI 5) hx hb dL_law_37 (by decide) ?_
    refine lv_isub hx hb dL_law_38 ?_
    have hcm : (nI L - nI 5).toInt = (L : Int) - 5 := pk_sub_toInt (by omega) (by omega)
    have hci : (nI i).toInt = (i : Int) := nI_toInt (by omega)
    refine lv_icmp_gt (tgt := 1006) hx hb dL_law_39 (by decide) (fun c_0 => ?_) (fun c_0 => ?_)
    · refine lv_iconst (v := 1) hx hb dL_law_1006 (by decide) ?_
      refine va_forget (fun q hq => hS.2.2 q hq) ?_
      refine W.widen (k := 600384) (n := 7288888) (by omega) (by omega) ?_
      exact lw_ret hx hb hr hlocks dL_law_1007
    · exact absurd (Int32.lt_iff_toInt_lt.mpr (show (nI L - nI 5).toInt < (nI i).toInt by rw [hcm, hci]; omega)) c_0
  | succ n ih =>
    intro t i hi5 hLn htn cells slots hcl hsl σ τ H locs ls hI hl
    have ih := ih (t + 1) (i + 5) (by omega) (by omega) (by omega)
    obtain ⟨S, hst, hC, hX, hbl, hAC, hAM, hd, hob, hoC, hoM, hnC⟩ := id hLC
    have hS := hI.2.2.2.2.2
    obtain ⟨hx, hb, hml, hown, hts⟩ := id S
    have hbA : ¬ (fun q : Nat => s.heap.size ≤ q) b := Nat.not_le.mpr hbl
    refine lv_iload hx hb dL_law_33 (lv_at hl 4 rfl) ?_
    refine lv_aload_n hx hb dL_law_35 rfl (lv_at hl 0 rfl) ?_
    refine va_slen hx hb hX hbl hbA hS dL_law_36 ?_
    refine lv_iconst (v := nI 5) hx hb dL_law_37 (by decide) ?_
    refine lv_isub hx hb dL_law_38 ?_
    have hcm : (nI L - nI 5).toInt = (L : Int) - 5 := pk_sub_toInt (by omega) (by omega)
    have hci : (nI i).toInt = (i : Int) := nI_toInt (by omega)
    refine lv_icmp_gt (tgt := 1006) hx hb dL_law_39 (by decide) (fun c_0 => ?_) (fun c_0 => ?_)
    · refine lv_iconst (v := 1) hx hb dL_law_1006 (by decide) ?_
      refine va_forget (fun q hq => hS.2.2 q hq) ?_
      refine W.widen (k := 600384) (n := 7288888) (by omega) (by omega) ?_
      exact lw_ret hx hb hr hlocks dL_law_1007
    · have hlt : i + 5 ≤ L := by
        have h2 : ¬ (nI L - nI 5).toInt < (nI i).toInt := fun z => c_0 (Int32.lt_iff_toInt_lt.mpr z)
        rw [hcm, hci] at h2
        omega
      have hin0 : vp_in (nI i) L := vp_in_nI (by omega) (by omega)
      have hin1 : vp_in (nI i + (1 : Int32)) L := by rw [show (1 : Int32) = nI 1 from by decide, nI_add]; exact vp_in_nI (by omega) (by omega)
      have hin2 : vp_in (nI i + (2 : Int32)) L := by rw [show (2 : Int32) = nI 2 from by decide, nI_add]; exact vp_in_nI (by omega) (by omega)
      have hin3 : vp_in (nI i + (3 : Int32)) L := by rw [show (3 : Int32) = nI 3 from by decide, nI_add]; exact vp_in_nI (by omega) (by omega)
      have hin4 : vp_in (nI i + (4 : Int32)) L := by rw [show (4 : Int32) = nI 4 from by decide, nI_add]; exact vp_in_nI (by omega) (by omega)
      have hN : 20 * t + 20 < 2147483648 := by omega
      have hrm : cells + 100 ≤ room_1.cells ∧ slots + 50000 ≤ room_1.slots := ⟨show cells + 100 ≤ 600384 by omega, show slots + 50000 ≤ 7288888 by omega⟩
      have fin : ∀ (σ' : CS) (τ' : MS) (H' : Heap) (locs' : List Loc) (ls' : Array Slot), LI s D cy AC AM xa o hi adM (20 * t + 20) σ' τ' H' locs' → lv_has ls' 8 [(0, .ref b), (1, .ref xa), (2, .ref (adM 0)), (3, .ref o), (4, .int (nI i))] → W p l e room_1 s m #[Value.ref b] below meth c H' locs' (cells + 100) (slots + 50000) (lw_Z below #[Value.ref b] s) (F0 m 1000 ls' []) := by
        intro σ' τ' H' locs' ls' hI' hl'
        refine lv_iinc (v := nI (i + 5)) (lv' := [(4, .int (nI (i + 5))), (0, .ref b), (1, .ref xa), (2, .ref (adM 0)), (3, .ref o)]) hx hb dL_law_1000 hl' (k := 4) rfl (by rw [show Int32.ofInt 5 = nI 5 from by decide]; exact nI_add _ _) (by decide) rfl (fun ls hl => ?_)
        refine lv_goto (tgt := 33) hx hb dL_law_1003 (by decide) ?_
        exact ih _ _ (by omega) (by omega) _ _ _ _ _ hI' (lv_sub hl [1, 2, 3, 4, 0] rfl)
      refine lv_aload_n hx hb dL_law_42 rfl (lv_at hl 0 rfl) ?_
      refine lv_iload hx hb dL_law_43 (lv_at hl 4 rfl) ?_
      refine va_sld hx hb hX hbl hbA hS hin0 dL_law_45 ?_
      refine lv_bipush (v := (31 : Int32)) hx hb dL_law_46 (by decide) ?_
      refine lv_iand hx hb dL_law_48 ?_
      refine lv_topi (fun z ez => ?_)
      by_cases c0 : z = 0
      · refine lv_tableIn (tgt := 136) hx hb dL_law_49 (by rw [c0]; decide) (by rw [c0]; decide) (by rw [c0]; rfl) (by decide) ?_
        exact law_c0 hLC hI hN hrm hin0 hin1 hin2 hin3 hin4 hl fin
      by_cases c1 : z = 1
      · refine lv_tableIn (tgt := 205) hx hb dL_law_49 (by rw [c1]; decide) (by rw [c1]; decide) (by rw [c1]; rfl) (by decide) ?_
        exact law_c1 hLC hI hN hrm hin0 hin1 hin2 hin3 hin4 hl fin
      by_cases c2 : z = 2
      · refine lv_tableIn (tgt := 230) hx hb dL_law_49 (by rw [c2]; decide) (by rw [c2]; decide) (by rw [c2]; rfl) (by decide) ?_
        exact law_c2 hLC hI hN hrm hin0 hin1 hin2 hin3 hin4 hl fin
      by_cases c3 : z = 3
      · refine lv_tableIn (tgt := 267) hx hb dL_law_49 (by rw [c3]; decide) (by rw [c3]; decide) (by rw [c3]; rfl) (by decide) ?_
        exact law_c3 hLC hI hN hrm hin0 hin1 hin2 hin3 hin4 hl fin
      by_cases c4 : z = 4
      · refine lv_tableIn (tgt := 292) hx hb dL_law_49 (by rw [c4]; decide) (by rw [c4]; decide) (by rw [c4]; rfl) (by decide) ?_
        exact law_c4 hLC hI hN hrm hin0 hin1 hin2 hin3 hin4 hl fin
      by_cases c5 : z = 5
      · refine lv_tableIn (tgt := 329) hx hb dL_law_49 (by rw [c5]; decide) (by rw [c5]; decide) (by rw [c5]; rfl) (by decide) ?_
        exact law_c5 hLC hI hN hrm hin0 hin1 hin2 hin3 hin4 hl fin
      by_cases c6 : z = 6
      · refine lv_tableIn (tgt := 366) hx hb dL_law_49 (by rw [c6]; decide) (by rw [c6]; decide) (by rw [c6]; rfl) (by decide) ?_
        exact law_c6 hLC hI hN hrm hin0 hin1 hin2 hin3 hin4 hl fin
      by_cases c7 : z = 7
      · refine lv_tableIn (tgt := 404) hx hb dL_law_49 (by rw [c7]; decide) (by rw [c7]; decide) (by rw [c7]; rfl) (by decide) ?_
        exact law_c7 hLC hI hN hrm hin0 hin1 hin2 hin3 hin4 hl fin
      by_cases c8 : z = 8
      · refine lv_tableIn (tgt := 485) hx hb dL_law_49 (by rw [c8]; decide) (by rw [c8]; decide) (by rw [c8]; rfl) (by decide) ?_
        exact law_c8 hLC hI hN hrm hin0 hin1 hin2 hin3 hin4 hl fin
      by_cases c9 : z = 9
      · refine lv_tableIn (tgt := 535) hx hb dL_law_49 (by rw [c9]; decide) (by rw [c9]; decide) (by rw [c9]; rfl) (by decide) ?_
        exact law_c9 hLC hI hN hrm hin0 hin1 hin2 hin3 hin4 hl fin
      by_cases c10 : z = 10
      · refine lv_tableIn (tgt := 572) hx hb dL_law_49 (by rw [c10]; decide) (by rw [c10]; decide) (by rw [c10]; rfl) (by decide) ?_
        exact law_c10 hLC hI hN hrm hin0 hin1 hin2 hin3 hin4 hl fin
      by_cases c11 : z = 11
      · refine lv_tableIn (tgt := 609) hx hb dL_law_49 (by rw [c11]; decide) (by rw [c11]; decide) (by rw [c11]; rfl) (by decide) ?_
        exact law_c11 hLC hI hN hrm hin0 hin1 hin2 hin3 hin4 hl fin
      by_cases c12 : z = 12
      · refine lv_tableIn (tgt := 634) hx hb dL_law_49 (by rw [c12]; decide) (by rw [c12]; decide) (by rw [c12]; rfl) (by decide) ?_
        exact law_c12 hLC hI hN hrm hin0 hin1 hin2 hin3 hin4 hl fin
      by_cases c13 : z = 13
      · refine lv_tableIn (tgt := 671) hx hb dL_law_49 (by rw [c13]; decide) (by rw [c13]; decide) (by rw [c13]; rfl) (by decide) ?_
        exact law_c13 hLC hI hN hrm hin0 hin1 hin2 hin3 hin4 hl fin
      by_cases c14 : z = 14
      · refine lv_tableIn (tgt := 720) hx hb dL_law_49 (by rw [c14]; decide) (by rw [c14]; decide) (by rw [c14]; rfl) (by decide) ?_
        exact law_c14 hLC hI hN hrm hin0 hin1 hin2 hin3 hin4 hl fin
      by_cases c15 : z = 15
      · refine lv_tableIn (tgt := 788) hx hb dL_law_49 (by rw [c15]; decide) (by rw [c15]; decide) (by rw [c15]; rfl) (by decide) ?_
        exact law_c15 hLC hI hN hrm hin0 hin1 hin2 hin3 hin4 hl fin
      by_cases c16 : z = 16
      · refine lv_tableIn (tgt := 856) hx hb dL_law_49 (by rw [c16]; decide) (by rw [c16]; decide) (by rw [c16]; rfl) (by decide) ?_
        exact law_c16 hLC hI hN hrm hin0 hin1 hin2 hin3 hin4 hl fin
      by_cases c17 : z = 17
      · refine lv_tableIn (tgt := 987) hx hb dL_law_49 (by rw [c17]; decide) (by rw [c17]; decide) (by rw [c17]; rfl) (by decide) ?_
        exact law_c17 hLC hI hN hrm hin0 hin1 hin2 hin3 hin4 hl fin
      refine lv_tableOut (tgt := 1000) hx hb dL_law_49 (zs_out0_17 z c0 c1 c2 c3 c4 c5 c6 c7 c8 c9 c10 c11 c12 c13 c14 c15 c16 c17) (by decide) ?_
      refine W.widen (k := cells + 100) (n := slots + 50000) (by omega) (by omega) ?_
      exact fin _ _ _ _ _ ⟨hI.1.mono (Nat.le_add_right _ _), hI.2⟩ hl
end LW
