/-! ===== the law: the turn that files a runnable ===== -/
section LW
variable {p : Program} {l : Launch} {e : Env} {s : State} {m : MethodId} {args : Array Value} {below : List Frame} {meth : Method} {c : Code} {H : Heap} {locs : List Loc} {cells slots : Nat} {Q : State → Prop}
variable {ls : Array Slot} {D : va_G} {cy : Nat → ClassId} {AC AM : Nat → Prop} {en : Nat → Nat} {tI tS b L xa o hi N : Nat} {xs : Nat → Int32} {adM : Nat → Nat} {σ : CS} {τ : MS} {w : Int32}
set_option maxHeartbeats 4000000 in
set_option maxRecDepth 100000 in
theorem law_c1 (hLC : LC p l s m args c D cy AC AM en tI tS b L o hi xs) (hI : LI s D cy AC AM xa o hi adM N σ τ H locs) (hN : N + 20 < 2147483648) (hrm : cells + 100 ≤ room_1.cells ∧ slots + 50000 ≤ room_1.slots) (hin0 : vp_in w L) (hin1 : vp_in (w + (1 : Int32)) L) (hin2 : vp_in (w + (2 : Int32)) L) (hin3 : vp_in (w + (3 : Int32)) L) (hin4 : vp_in (w + (4 : Int32)) L) (hl : lv_has ls 8 [(0, .ref b), (1, .ref xa), (2, .ref (adM 0)), (3, .ref o), (4, .int w)]) (fin : ∀ (σ' : CS) (τ' : MS) (H' : Heap) (locs' : List Loc) (ls' : Array Slot), LI s D cy AC AM xa o hi adM (N + 20) σ' τ' H' locs' → lv_has ls' 8 [(0, .ref b), (1, .ref xa), (2, .ref (adM 0)), (3, .ref o), (4, .int w)] → W p l e room_1 s m args below meth c H' locs' (cells + 100) (slots + 50000) Q (F0 m 1000 ls' [])) : W p l e room_1 s m args below meth c H locs cells slots Q (F0 m 205 ls []) := by
  obtain ⟨S, hst, hC, hX, hbl, hAC, hAM, hd, hob, hoC, hoM, hnC⟩ := hLC
  obtain ⟨hR, hhi, ⟨ad, rfl, h6⟩, h7, ⟨f, hO⟩, hS⟩ := hI
  obtain ⟨hx, hb, hml, hown, hts⟩ := id S
  have hbA : ¬ (fun q : Nat => s.heap.size ≤ q) b := Nat.not_le.mpr hbl
  have hK := hC.1
  have h00 := hR.h00
  obtain ⟨hr1, hr2⟩ := id hrm
  sorry
end LW
