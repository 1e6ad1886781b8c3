/-! ===== the model made ===== -/
def zM : MS := (fun _ => nI 0, fun _ _ => nI 0, fun _ _ => 0)
def rf (ad : Nat → Nat) (d k : Nat) : Value := if k < d then .ref (ad k) else .null
/-- the model's fields where its rows below d are set -/
def fsM (ad : Nat → Nat) (d : Nat) (bud : Int32) : List Value := [.int (nI 0), .int bud, .int (nI 0), .int (nI 0), rf ad d 4, .int (nI 0), rf ad d 6, rf ad d 7, rf ad d 8, rf ad d 9, rf ad d 10, rf ad d 11, rf ad d 12, rf ad d 13, rf ad d 14, rf ad d 15, rf ad d 16, rf ad d 17, rf ad d 18, rf ad d 19, rf ad d 20, rf ad d 21, rf ad d 22, rf ad d 23, rf ad d 24, rf ad d 25, .int (nI 0), rf ad d 27, .int (nI 0), .int (nI 0), .int (nI 0), rf ad d 31, rf ad d 32]
def pM (cy : Nat → ClassId) (ad : Nat → Nat) (df d : Nat) (bud : Int32) : Nat → Option va_E := fun g => if g = 0 then some (.inr (7, fsM ad df bud)) else if g < d then mG cy (fun _ => 0) zM g else none
theorem fsM_congr {ad ad1 : Nat → Nat} {d : Nat} {bud : Int32} (h : ∀ k, k < d → ad1 k = ad k) : fsM ad1 d bud = fsM ad d bud := by
  have hr : ∀ k, rf ad1 d k = rf ad d k := fun k => by
    unfold rf
    by_cases hk : k < d
    · rw [if_pos hk, if_pos hk, h k hk]
    · rw [if_neg hk, if_neg hk]
  unfold fsM
  simp only [hr]
theorem pM_new {cy : Nat → ClassId} {ad : Nat → Nat} {df d g0 q : Nat} {bud : Int32} (h0 : 0 < g0) (hf : df ≤ g0) (hd : d ≤ g0) (hgap : ∀ g, d ≤ g → g < g0 → mG cy (fun _ => 0) zM g = none) : (∀ g, g ≠ g0 → pM cy (va_up ad g0 q) df (g0 + 1) bud g = pM cy ad df d bud g) ∧ pM cy ad df d bud g0 = none ∧ va_up ad g0 q g0 = q ∧ (∀ g e, pM cy ad df d bud g = some e → va_up ad g0 q g = ad g) ∧ pM cy (va_up ad g0 q) df (g0 + 1) bud g0 = mG cy (fun _ => 0) zM g0 := by
  have hn : pM cy ad df d bud g0 = none := by unfold pM; rw [if_neg (by omega), if_neg (by omega)]
  refine ⟨fun g hg => ?_, hn, va_up_self _ _ _, fun g e h => va_up_ne _ _ (fun z => by rw [z, hn] at h; cases h), ?_⟩
  · unfold pM
    by_cases hz : g = 0
    · rw [if_pos hz, if_pos hz, fsM_congr (fun k hk => va_up_ne _ _ (by omega))]
    · rw [if_neg hz, if_neg hz]
      by_cases h1 : g < d
      · rw [if_pos h1, if_pos (by omega)]
      · rw [if_neg h1]
        by_cases h2 : g < g0 + 1
        · rw [if_pos h2]
          exact hgap g (by omega) (by omega)
        · rw [if_neg h2]
  · unfold pM
    rw [if_neg (by omega), if_pos (by omega)]
theorem pM_put {cy : Nat → ClassId} {ad : Nat → Nat} {df df' d : Nat} {bud bud' : Int32} : ∀ g, g ≠ 0 → pM cy ad df' d bud' g = pM cy ad df d bud g := fun g hg => by
  unfold pM
  rw [if_neg hg, if_neg hg]
theorem pM_0 {cy : Nat → ClassId} {ad : Nat → Nat} {df d : Nat} {bud : Int32} : pM cy ad df d bud 0 = some (.inr (7, fsM ad df bud)) := if_pos rfl
/-- the least and the most of the steps -/
def clm (x : Int32) : Int32 := if x < 0 then 0 else if x ≤ 65536 then x else 65536
/-- the model's state at its birth -/
def ZM (bud : Int32) (i : Nat) (τ : MS) : Prop := (∀ k, mi τ k = if k = 1 then bud else nI 0) ∧ (∀ a j, mr τ a j = if a = 24 ∧ j < i then -nI 1 else nI 0) ∧ ∀ a j, mj τ a j = 0
abbrev pc_X7_init (D : va_G) (cy : Nat → ClassId) (A : Nat → Prop) (ad : Nat → Nat) (U : State) : Prop := zw D A ad (pM cy ad 0 1 (nI 0)) U.heap ∧ va_K D vwCl (ztys cy) U ∧ (∀ q : Nat, U.heap.size ≤ q → A q)
abbrev qc_X7_init (D : va_G) (cy : Nat → ClassId) (A : Nat → Prop) (a0 : Nat) (x1 : Int32) : (Nat → Nat) × MS → State → Prop := fun u t => u.1 0 = a0 ∧ ZM (clm x1) 160 u.2 ∧ zw D A u.1 (mG cy u.1 u.2) t.heap
theorem pb_X7_init (D : va_G) (cy : Nat → ClassId) (A : Nat → Prop) (ad : Nat → Nat) (av : List Value) : FrameBlind (va_Pc av (pc_X7_init D cy A ad)) := fun a U g mk q => by
  obtain ⟨q0, qP, qK, qA⟩ := q
  exact ⟨q0, qP, va_K.moved (u := U) (U := U.calling g mk a) (Vm.Alike.refl U.vm) qK, qA⟩
set_option maxHeartbeats 4000000 in
set_option maxRecDepth 100000 in
theorem kc_X7_init (l : Launch) (D : va_G) (cy : Nat → ClassId) (A : Nat → Prop) (ad : Nat → Nat) (a0 : Nat) (x1 : Int32) (ha0 : ad 0 = a0) : Met l yX7_init (wz yX7_init cX7_init 3 none) ({ frames := 1, cells := 24, slots := 24713, locals := 40 } : Room) (va_Pc [.ref a0, .int x1] (pc_X7_init D cy A ad)) (va_Qv (fun _ => True) (qc_X7_init D cy A a0 x1) A) 24 24713 A := by
  refine Met.ofW (cc := cX7_init) (maxL := 3) (ret := none) (by decide) rfl ?_
  intro p e s m args below meth c s₁ B hml hv
  obtain ⟨rfl, hw, hK, hA⟩ := hv
  have hx := B.exec
  have hb := B.bytes
  have hr := B.returns
  have hts := atoms_spec (ws := (wz yX7_init cX7_init 3 none)) B.pre
  have hown : s.vm.findClass RX7 = some m.cls := findClass_of_methodNamed B.named
  have hlocks := B.notSynchronized
  have hin : meth.name = "<init>" := (name_of_methodNamed B.named B.method).1
  have S : CallFix p m c cX7_init 3 s ([.ref a0, .int x1] : List Value).toArray (wz yX7_init cX7_init 3 none) RX7 := ⟨hx, hb, hml, hown, hts⟩
  have hX7 : ∀ w ∈ wsX70, w ∈ (wz yX7_init cX7_init 3 none) := fun w h => wz_in (inlX7 w h)
  have hS : va_S A s.heap s.heap [] := va_S.rf
  have hl := lv_entry ([.ref a0, .int x1]) (n := 3) (Nat.le_of_ble_eq_true rfl)
  rw [lg_entry_eq]
  generalize (lg_sl ([.ref a0, .int x1]) ++ List.replicate (3 - (lg_sl ([.ref a0, .int x1])).length) Slot.unset).toArray = ls at hl ⊢
  have hl : lv_has ls 3 [(0, .ref a0), (1, .int x1)] := hl
  refine lv_aload_n hx hb dX7_init_0 rfl (lv_at hl 0 rfl) ?_
  refine W.objInit hx hb hown (hts _ (wz_in (zin3 _ (List.mem_of_getElem? (i := 9) rfl)))) (hts _ (wz_in (zin1 _ (List.mem_of_getElem? (i := 16) rfl)))) (hts _ (wz_in (zin1 _ (List.mem_of_getElem? (i := 17) rfl)))) rfl (by rw [hml]; exact hl.1) rfl dX7_init_1 (Nat.le_of_ble_eq_true rfl) (Nat.le_of_ble_eq_true rfl) ?_
  refine W.eq (g2 := F0 m 4 ls []) rfl ?_
  refine lv_aload_n hx hb dX7_init_4 rfl (lv_at hl 0 rfl) ?_
  refine lv_bipush (v := (120 : Int32)) hx hb dX7_init_5 (by decide) ?_
  refine zr_newa (ty := .byte) (a0 := (120, .inl (fun _ => nI 0))) S rfl (wz_in (zin2 _ (List.mem_of_getElem? (i := 13) rfl))) hK hw hS hA 0 rfl (fun _ => rfl) (by decide) (by decide) (Nat.le_of_ble_eq_true rfl) (Nat.le_of_ble_eq_true rfl) (Nat.le_of_ble_eq_true rfl) dX7_init_7 (fun q H hnm hS => ?_)
  obtain ⟨n1, n2, n3, n4, n5⟩ := pM_new (cy := cy) (ad := ad) (df := 0) (d := 1) (g0 := 4) (q := q) (bud := nI 0) (by decide) (by decide) (by decide) (fun g h1 h2 => by rcases (show g = 1 ∨ g = 2 ∨ g = 3 by omega) with rfl | rfl | rfl <;> rfl)
  have hw := hnm (va_up ad 4 q) (pM cy (va_up ad 4 q) 0 5 (nI 0)) 4 n2 n3 n4 (n5.trans rfl) n1
  have ha0 : va_up ad 4 q 0 = a0 := (va_up_ne _ _ (by decide)).trans ha0
  generalize va_up ad 4 q = ad at hw n3 ha0
  subst n3
  refine W.eq (g2 := F0 m 9 ls [.ref (ad 4), .ref (ad 0)]) (by rw [ha0]) ?_
  refine zr_putF (g := 0) (v := .ref (ad 4)) S hX7 tyX7 tyX7_ok nmX7 hK hw hS pM_0 rfl 4 (by decide) (wz_in (zin3 _ (List.mem_of_getElem? (i := 10) rfl))) rfl rfl hin rfl rfl rfl (Nat.le_of_ble_eq_true rfl) dX7_init_9 (G1 := pM cy ad 5 5 (nI 0)) (pM_0.trans rfl) pM_put (fun H locs hw hS => ?_)
  refine lv_aload_n hx hb dX7_init_12 rfl (lv_at hl 0 rfl) ?_
  refine lv_bipush (v := (21 : Int32)) hx hb dX7_init_13 (by decide) ?_
  refine zr_newa (ty := .int) (a0 := (21, .inl (fun _ => nI 0))) S rfl (wz_in (zin3 _ (List.mem_of_getElem? (i := 11) rfl))) hK hw hS hA 1 rfl (fun _ => rfl) (by decide) (by decide) (Nat.le_of_ble_eq_true rfl) (Nat.le_of_ble_eq_true rfl) (Nat.le_of_ble_eq_true rfl) dX7_init_15 (fun q H hnm hS => ?_)
  obtain ⟨n1, n2, n3, n4, n5⟩ := pM_new (cy := cy) (ad := ad) (df := 5) (d := 5) (g0 := 6) (q := q) (bud := nI 0) (by decide) (by decide) (by decide) (fun g h1 h2 => by rcases (show g = 5 by omega) with rfl <;> rfl)
  have hw := hnm (va_up ad 6 q) (pM cy (va_up ad 6 q) 5 7 (nI 0)) 6 n2 n3 n4 (n5.trans rfl) n1
  have ha0 : va_up ad 6 q 0 = a0 := (va_up_ne _ _ (by decide)).trans ha0
  generalize va_up ad 6 q = ad at hw n3 ha0
  subst n3
  refine W.eq (g2 := F0 m 17 ls [.ref (ad 6), .ref (ad 0)]) (by rw [ha0]) ?_
  refine zr_putF (g := 0) (v := .ref (ad 6)) S hX7 tyX7 tyX7_ok nmX7 hK hw hS pM_0 rfl 6 (by decide) (wz_in (zin3 _ (List.mem_of_getElem? (i := 12) rfl))) rfl rfl hin rfl rfl rfl (Nat.le_of_ble_eq_true rfl) dX7_init_17 (G1 := pM cy ad 7 7 (nI 0)) (pM_0.trans rfl) pM_put (fun H locs hw hS => ?_)
  refine lv_aload_n hx hb dX7_init_20 rfl (lv_at hl 0 rfl) ?_
  refine lv_sipush (v := (21600 : Int32)) hx hb dX7_init_21 (by decide) ?_
  refine zr_newa (ty := .byte) (a0 := (21600, .inl (fun _ => nI 0))) S rfl (wz_in (zin2 _ (List.mem_of_getElem? (i := 13) rfl))) hK hw hS hA 0 rfl (fun _ => rfl) (by decide) (by decide) (Nat.le_of_ble_eq_true rfl) (Nat.le_of_ble_eq_true rfl) (Nat.le_of_ble_eq_true rfl) dX7_init_24 (fun q H hnm hS => ?_)
  obtain ⟨n1, n2, n3, n4, n5⟩ := pM_new (cy := cy) (ad := ad) (df := 7) (d := 7) (g0 := 7) (q := q) (bud := nI 0) (by decide) (by decide) (by decide) (fun g h1 h2 => by omega)
  have hw := hnm (va_up ad 7 q) (pM cy (va_up ad 7 q) 7 8 (nI 0)) 7 n2 n3 n4 (n5.trans rfl) n1
  have ha0 : va_up ad 7 q 0 = a0 := (va_up_ne _ _ (by decide)).trans ha0
  generalize va_up ad 7 q = ad at hw n3 ha0
  subst n3
  refine W.eq (g2 := F0 m 26 ls [.ref (ad 7), .ref (ad 0)]) (by rw [ha0]) ?_
  refine zr_putF (g := 0) (v := .ref (ad 7)) S hX7 tyX7 tyX7_ok nmX7 hK hw hS pM_0 rfl 7 (by decide) (wz_in (zin3 _ (List.mem_of_getElem? (i := 13) rfl))) rfl rfl hin rfl rfl rfl (Nat.le_of_ble_eq_true rfl) dX7_init_26 (G1 := pM cy ad 8 8 (nI 0)) (pM_0.trans rfl) pM_put (fun H locs hw hS => ?_)
  refine lv_aload_n hx hb dX7_init_29 rfl (lv_at hl 0 rfl) ?_
  refine lv_sipush (v := (180 : Int32)) hx hb dX7_init_30 (by decide) ?_
  refine zr_newa (ty := .int) (a0 := (180, .inl (fun _ => nI 0))) S rfl (wz_in (zin3 _ (List.mem_of_getElem? (i := 11) rfl))) hK hw hS hA 1 rfl (fun _ => rfl) (by decide) (by decide) (Nat.le_of_ble_eq_true rfl) (Nat.le_of_ble_eq_true rfl) (Nat.le_of_ble_eq_true rfl) dX7_init_33 (fun q H hnm hS => ?_)
  obtain ⟨n1, n2, n3, n4, n5⟩ := pM_new (cy := cy) (ad := ad) (df := 8) (d := 8) (g0 := 8) (q := q) (bud := nI 0) (by decide) (by decide) (by decide) (fun g h1 h2 => by omega)
  have hw := hnm (va_up ad 8 q) (pM cy (va_up ad 8 q) 8 9 (nI 0)) 8 n2 n3 n4 (n5.trans rfl) n1
  have ha0 : va_up ad 8 q 0 = a0 := (va_up_ne _ _ (by decide)).trans ha0
  generalize va_up ad 8 q = ad at hw n3 ha0
  subst n3
  refine W.eq (g2 := F0 m 35 ls [.ref (ad 8), .ref (ad 0)]) (by rw [ha0]) ?_
  refine zr_putF (g := 0) (v := .ref (ad 8)) S hX7 tyX7 tyX7_ok nmX7 hK hw hS pM_0 rfl 8 (by decide) (wz_in (zin3 _ (List.mem_of_getElem? (i := 14) rfl))) rfl rfl hin rfl rfl rfl (Nat.le_of_ble_eq_true rfl) dX7_init_35 (G1 := pM cy ad 9 9 (nI 0)) (pM_0.trans rfl) pM_put (fun H locs hw hS => ?_)
  refine lv_aload_n hx hb dX7_init_38 rfl (lv_at hl 0 rfl) ?_
  refine lv_sipush (v := (180 : Int32)) hx hb dX7_init_39 (by decide) ?_
  refine zr_newa (ty := .int) (a0 := (180, .inl (fun _ => nI 0))) S rfl (wz_in (zin3 _ (List.mem_of_getElem? (i := 11) rfl))) hK hw hS hA 1 rfl (fun _ => rfl) (by decide) (by decide) (Nat.le_of_ble_eq_true rfl) (Nat.le_of_ble_eq_true rfl) (Nat.le_of_ble_eq_true rfl) dX7_init_42 (fun q H hnm hS => ?_)
  obtain ⟨n1, n2, n3, n4, n5⟩ := pM_new (cy := cy) (ad := ad) (df := 9) (d := 9) (g0 := 9) (q := q) (bud := nI 0) (by decide) (by decide) (by decide) (fun g h1 h2 => by omega)
  have hw := hnm (va_up ad 9 q) (pM cy (va_up ad 9 q) 9 10 (nI 0)) 9 n2 n3 n4 (n5.trans rfl) n1
  have ha0 : va_up ad 9 q 0 = a0 := (va_up_ne _ _ (by decide)).trans ha0
  generalize va_up ad 9 q = ad at hw n3 ha0
  subst n3
  refine W.eq (g2 := F0 m 44 ls [.ref (ad 9), .ref (ad 0)]) (by rw [ha0]) ?_
  refine zr_putF (g := 0) (v := .ref (ad 9)) S hX7 tyX7 tyX7_ok nmX7 hK hw hS pM_0 rfl 9 (by decide) (wz_in (zin3 _ (List.mem_of_getElem? (i := 15) rfl))) rfl rfl hin rfl rfl rfl (Nat.le_of_ble_eq_true rfl) dX7_init_44 (G1 := pM cy ad 10 10 (nI 0)) (pM_0.trans rfl) pM_put (fun H locs hw hS => ?_)
  refine lv_aload_n hx hb dX7_init_47 rfl (lv_at hl 0 rfl) ?_
  refine lv_sipush (v := (180 : Int32)) hx hb dX7_init_48 (by decide) ?_
  refine zr_newa (ty := .int) (a0 := (180, .inl (fun _ => nI 0))) S rfl (wz_in (zin3 _ (List.mem_of_getElem? (i := 11) rfl))) hK hw hS hA 1 rfl (fun _ => rfl) (by decide) (by decide) (Nat.le_of_ble_eq_true rfl) (Nat.le_of_ble_eq_true rfl) (Nat.le_of_ble_eq_true rfl) dX7_init_51 (fun q H hnm hS => ?_)
  obtain ⟨n1, n2, n3, n4, n5⟩ := pM_new (cy := cy) (ad := ad) (df := 10) (d := 10) (g0 := 10) (q := q) (bud := nI 0) (by decide) (by decide) (by decide) (fun g h1 h2 => by omega)
  have hw := hnm (va_up ad 10 q) (pM cy (va_up ad 10 q) 10 11 (nI 0)) 10 n2 n3 n4 (n5.trans rfl) n1
  have ha0 : va_up ad 10 q 0 = a0 := (va_up_ne _ _ (by decide)).trans ha0
  generalize va_up ad 10 q = ad at hw n3 ha0
  subst n3
  refine W.eq (g2 := F0 m 53 ls [.ref (ad 10), .ref (ad 0)]) (by rw [ha0]) ?_
  refine zr_putF (g := 0) (v := .ref (ad 10)) S hX7 tyX7 tyX7_ok nmX7 hK hw hS pM_0 rfl 10 (by decide) (wz_in (zin3 _ (List.mem_of_getElem? (i := 16) rfl))) rfl rfl hin rfl rfl rfl (Nat.le_of_ble_eq_true rfl) dX7_init_53 (G1 := pM cy ad 11 11 (nI 0)) (pM_0.trans rfl) pM_put (fun H locs hw hS => ?_)
  refine lv_aload_n hx hb dX7_init_56 rfl (lv_at hl 0 rfl) ?_
  refine lv_sipush (v := (180 : Int32)) hx hb dX7_init_57 (by decide) ?_
  refine zr_newa (ty := .int) (a0 := (180, .inl (fun _ => nI 0))) S rfl (wz_in (zin3 _ (List.mem_of_getElem? (i := 11) rfl))) hK hw hS hA 1 rfl (fun _ => rfl) (by decide) (by decide) (Nat.le_of_ble_eq_true rfl) (Nat.le_of_ble_eq_true rfl) (Nat.le_of_ble_eq_true rfl) dX7_init_60 (fun q H hnm hS => ?_)
  obtain ⟨n1, n2, n3, n4, n5⟩ := pM_new (cy := cy) (ad := ad) (df := 11) (d := 11) (g0 := 11) (q := q) (bud := nI 0) (by decide) (by decide) (by decide) (fun g h1 h2 => by omega)
  have hw := hnm (va_up ad 11 q) (pM cy (va_up ad 11 q) 11 12 (nI 0)) 11 n2 n3 n4 (n5.trans rfl) n1
  have ha0 : va_up ad 11 q 0 = a0 := (va_up_ne _ _ (by decide)).trans ha0
  generalize va_up ad 11 q = ad at hw n3 ha0
  subst n3
  refine W.eq (g2 := F0 m 62 ls [.ref (ad 11), .ref (ad 0)]) (by rw [ha0]) ?_
  refine zr_putF (g := 0) (v := .ref (ad 11)) S hX7 tyX7 tyX7_ok nmX7 hK hw hS pM_0 rfl 11 (by decide) (wz_in (zin3 _ (List.mem_of_getElem? (i := 17) rfl))) rfl rfl hin rfl rfl rfl (Nat.le_of_ble_eq_true rfl) dX7_init_62 (G1 := pM cy ad 12 12 (nI 0)) (pM_0.trans rfl) pM_put (fun H locs hw hS => ?_)
  refine lv_aload_n hx hb dX7_init_65 rfl (lv_at hl 0 rfl) ?_
  refine lv_sipush (v := (180 : Int32)) hx hb dX7_init_66 (by decide) ?_
  refine zr_newa (ty := .int) (a0 := (180, .inl (fun _ => nI 0))) S rfl (wz_in (zin3 _ (List.mem_of_getElem? (i := 11) rfl))) hK hw hS hA 1 rfl (fun _ => rfl) (by decide) (by decide) (Nat.le_of_ble_eq_true rfl) (Nat.le_of_ble_eq_true rfl) (Nat.le_of_ble_eq_true rfl) dX7_init_69 (fun q H hnm hS => ?_)
  obtain ⟨n1, n2, n3, n4, n5⟩ := pM_new (cy := cy) (ad := ad) (df := 12) (d := 12) (g0 := 12) (q := q) (bud := nI 0) (by decide) (by decide) (by decide) (fun g h1 h2 => by omega)
  have hw := hnm (va_up ad 12 q) (pM cy (va_up ad 12 q) 12 13 (nI 0)) 12 n2 n3 n4 (n5.trans rfl) n1
  have ha0 : va_up ad 12 q 0 = a0 := (va_up_ne _ _ (by decide)).trans ha0
  generalize va_up ad 12 q = ad at hw n3 ha0
  subst n3
  refine W.eq (g2 := F0 m 71 ls [.ref (ad 12), .ref (ad 0)]) (by rw [ha0]) ?_
  refine zr_putF (g := 0) (v := .ref (ad 12)) S hX7 tyX7 tyX7_ok nmX7 hK hw hS pM_0 rfl 12 (by decide) (wz_in (zin3 _ (List.mem_of_getElem? (i := 18) rfl))) rfl rfl hin rfl rfl rfl (Nat.le_of_ble_eq_true rfl) dX7_init_71 (G1 := pM cy ad 13 13 (nI 0)) (pM_0.trans rfl) pM_put (fun H locs hw hS => ?_)
  refine lv_aload_n hx hb dX7_init_74 rfl (lv_at hl 0 rfl) ?_
  refine lv_bipush (v := (64 : Int32)) hx hb dX7_init_75 (by decide) ?_
  refine zr_newa (ty := .long) (a0 := (64, .inr (.inl (fun _ => 0)))) S rfl (wz_in (zin1 _ (List.mem_of_getElem? (i := 6) rfl))) hK hw hS hA 2 rfl (fun _ => rfl) (by decide) (by decide) (Nat.le_of_ble_eq_true rfl) (Nat.le_of_ble_eq_true rfl) (Nat.le_of_ble_eq_true rfl) dX7_init_77 (fun q H hnm hS => ?_)
  obtain ⟨n1, n2, n3, n4, n5⟩ := pM_new (cy := cy) (ad := ad) (df := 13) (d := 13) (g0 := 13) (q := q) (bud := nI 0) (by decide) (by decide) (by decide) (fun g h1 h2 => by omega)
  have hw := hnm (va_up ad 13 q) (pM cy (va_up ad 13 q) 13 14 (nI 0)) 13 n2 n3 n4 (n5.trans rfl) n1
  have ha0 : va_up ad 13 q 0 = a0 := (va_up_ne _ _ (by decide)).trans ha0
  generalize va_up ad 13 q = ad at hw n3 ha0
  subst n3
  refine W.eq (g2 := F0 m 79 ls [.ref (ad 13), .ref (ad 0)]) (by rw [ha0]) ?_
  refine zr_putF (g := 0) (v := .ref (ad 13)) S hX7 tyX7 tyX7_ok nmX7 hK hw hS pM_0 rfl 13 (by decide) (wz_in (zin3 _ (List.mem_of_getElem? (i := 19) rfl))) rfl rfl hin rfl rfl rfl (Nat.le_of_ble_eq_true rfl) dX7_init_79 (G1 := pM cy ad 14 14 (nI 0)) (pM_0.trans rfl) pM_put (fun H locs hw hS => ?_)
  refine lv_aload_n hx hb dX7_init_82 rfl (lv_at hl 0 rfl) ?_
  refine lv_bipush (v := (8 : Int32)) hx hb dX7_init_83 (by decide) ?_
  refine zr_newa (ty := .boolean) (a0 := (8, .inl (fun _ => nI 0))) S rfl (wz_in (zin3 _ (List.mem_of_getElem? (i := 20) rfl))) hK hw hS hA 3 rfl (fun _ => rfl) (by decide) (by decide) (Nat.le_of_ble_eq_true rfl) (Nat.le_of_ble_eq_true rfl) (Nat.le_of_ble_eq_true rfl) dX7_init_85 (fun q H hnm hS => ?_)
  obtain ⟨n1, n2, n3, n4, n5⟩ := pM_new (cy := cy) (ad := ad) (df := 14) (d := 14) (g0 := 14) (q := q) (bud := nI 0) (by decide) (by decide) (by decide) (fun g h1 h2 => by omega)
  have hw := hnm (va_up ad 14 q) (pM cy (va_up ad 14 q) 14 15 (nI 0)) 14 n2 n3 n4 (n5.trans rfl) n1
  have ha0 : va_up ad 14 q 0 = a0 := (va_up_ne _ _ (by decide)).trans ha0
  generalize va_up ad 14 q = ad at hw n3 ha0
  subst n3
  refine W.eq (g2 := F0 m 87 ls [.ref (ad 14), .ref (ad 0)]) (by rw [ha0]) ?_
  refine zr_putF (g := 0) (v := .ref (ad 14)) S hX7 tyX7 tyX7_ok nmX7 hK hw hS pM_0 rfl 14 (by decide) (wz_in (zin3 _ (List.mem_of_getElem? (i := 21) rfl))) rfl rfl hin rfl rfl rfl (Nat.le_of_ble_eq_true rfl) dX7_init_87 (G1 := pM cy ad 15 15 (nI 0)) (pM_0.trans rfl) pM_put (fun H locs hw hS => ?_)
  refine lv_aload_n hx hb dX7_init_90 rfl (lv_at hl 0 rfl) ?_
  refine lv_bipush (v := (8 : Int32)) hx hb dX7_init_91 (by decide) ?_
  refine zr_newa (ty := .int) (a0 := (8, .inl (fun _ => nI 0))) S rfl (wz_in (zin3 _ (List.mem_of_getElem? (i := 11) rfl))) hK hw hS hA 1 rfl (fun _ => rfl) (by decide) (by decide) (Nat.le_of_ble_eq_true rfl) (Nat.le_of_ble_eq_true rfl) (Nat.le_of_ble_eq_true rfl) dX7_init_93 (fun q H hnm hS => ?_)
  obtain ⟨n1, n2, n3, n4, n5⟩ := pM_new (cy := cy) (ad := ad) (df := 15) (d := 15) (g0 := 15) (q := q) (bud := nI 0) (by decide) (by decide) (by decide) (fun g h1 h2 => by omega)
  have hw := hnm (va_up ad 15 q) (pM cy (va_up ad 15 q) 15 16 (nI 0)) 15 n2 n3 n4 (n5.trans rfl) n1
  have ha0 : va_up ad 15 q 0 = a0 := (va_up_ne _ _ (by decide)).trans ha0
  generalize va_up ad 15 q = ad at hw n3 ha0
  subst n3
  refine W.eq (g2 := F0 m 95 ls [.ref (ad 15), .ref (ad 0)]) (by rw [ha0]) ?_
  refine zr_putF (g := 0) (v := .ref (ad 15)) S hX7 tyX7 tyX7_ok nmX7 hK hw hS pM_0 rfl 15 (by decide) (wz_in (zin3 _ (List.mem_of_getElem? (i := 22) rfl))) rfl rfl hin rfl rfl rfl (Nat.le_of_ble_eq_true rfl) dX7_init_95 (G1 := pM cy ad 16 16 (nI 0)) (pM_0.trans rfl) pM_put (fun H locs hw hS => ?_)
  refine lv_aload_n hx hb dX7_init_98 rfl (lv_at hl 0 rfl) ?_
  refine lv_bipush (v := (8 : Int32)) hx hb dX7_init_99 (by decide) ?_
  refine zr_newa (ty := .int) (a0 := (8, .inl (fun _ => nI 0))) S rfl (wz_in (zin3 _ (List.mem_of_getElem? (i := 11) rfl))) hK hw hS hA 1 rfl (fun _ => rfl) (by decide) (by decide) (Nat.le_of_ble_eq_true rfl) (Nat.le_of_ble_eq_true rfl) (Nat.le_of_ble_eq_true rfl) dX7_init_101 (fun q H hnm hS => ?_)
  obtain ⟨n1, n2, n3, n4, n5⟩ := pM_new (cy := cy) (ad := ad) (df := 16) (d := 16) (g0 := 16) (q := q) (bud := nI 0) (by decide) (by decide) (by decide) (fun g h1 h2 => by omega)
  have hw := hnm (va_up ad 16 q) (pM cy (va_up ad 16 q) 16 17 (nI 0)) 16 n2 n3 n4 (n5.trans rfl) n1
  have ha0 : va_up ad 16 q 0 = a0 := (va_up_ne _ _ (by decide)).trans ha0
  generalize va_up ad 16 q = ad at hw n3 ha0
  subst n3
  refine W.eq (g2 := F0 m 103 ls [.ref (ad 16), .ref (ad 0)]) (by rw [ha0]) ?_
  refine zr_putF (g := 0) (v := .ref (ad 16)) S hX7 tyX7 tyX7_ok nmX7 hK hw hS pM_0 rfl 16 (by decide) (wz_in (zin3 _ (List.mem_of_getElem? (i := 23) rfl))) rfl rfl hin rfl rfl rfl (Nat.le_of_ble_eq_true rfl) dX7_init_103 (G1 := pM cy ad 17 17 (nI 0)) (pM_0.trans rfl) pM_put (fun H locs hw hS => ?_)
  refine lv_aload_n hx hb dX7_init_106 rfl (lv_at hl 0 rfl) ?_
  refine lv_bipush (v := (8 : Int32)) hx hb dX7_init_107 (by decide) ?_
  refine zr_newa (ty := .int) (a0 := (8, .inl (fun _ => nI 0))) S rfl (wz_in (zin3 _ (List.mem_of_getElem? (i := 11) rfl))) hK hw hS hA 1 rfl (fun _ => rfl) (by decide) (by decide) (Nat.le_of_ble_eq_true rfl) (Nat.le_of_ble_eq_true rfl) (Nat.le_of_ble_eq_true rfl) dX7_init_109 (fun q H hnm hS => ?_)
  obtain ⟨n1, n2, n3, n4, n5⟩ := pM_new (cy := cy) (ad := ad) (df := 17) (d := 17) (g0 := 17) (q := q) (bud := nI 0) (by decide) (by decide) (by decide) (fun g h1 h2 => by omega)
  have hw := hnm (va_up ad 17 q) (pM cy (va_up ad 17 q) 17 18 (nI 0)) 17 n2 n3 n4 (n5.trans rfl) n1
  have ha0 : va_up ad 17 q 0 = a0 := (va_up_ne _ _ (by decide)).trans ha0
  generalize va_up ad 17 q = ad at hw n3 ha0
  subst n3
  refine W.eq (g2 := F0 m 111 ls [.ref (ad 17), .ref (ad 0)]) (by rw [ha0]) ?_
  refine zr_putF (g := 0) (v := .ref (ad 17)) S hX7 tyX7 tyX7_ok nmX7 hK hw hS pM_0 rfl 17 (by decide) (wz_in (zin4 _ (List.mem_of_getElem? (i := 0) rfl))) rfl rfl hin rfl rfl rfl (Nat.le_of_ble_eq_true rfl) dX7_init_111 (G1 := pM cy ad 18 18 (nI 0)) (pM_0.trans rfl) pM_put (fun H locs hw hS => ?_)
  refine lv_aload_n hx hb dX7_init_114 rfl (lv_at hl 0 rfl) ?_
  refine lv_bipush (v := (8 : Int32)) hx hb dX7_init_115 (by decide) ?_
  refine zr_newa (ty := .int) (a0 := (8, .inl (fun _ => nI 0))) S rfl (wz_in (zin3 _ (List.mem_of_getElem? (i := 11) rfl))) hK hw hS hA 1 rfl (fun _ => rfl) (by decide) (by decide) (Nat.le_of_ble_eq_true rfl) (Nat.le_of_ble_eq_true rfl) (Nat.le_of_ble_eq_true rfl) dX7_init_117 (fun q H hnm hS => ?_)
  obtain ⟨n1, n2, n3, n4, n5⟩ := pM_new (cy := cy) (ad := ad) (df := 18) (d := 18) (g0 := 18) (q := q) (bud := nI 0) (by decide) (by decide) (by decide) (fun g h1 h2 => by omega)
  have hw := hnm (va_up ad 18 q) (pM cy (va_up ad 18 q) 18 19 (nI 0)) 18 n2 n3 n4 (n5.trans rfl) n1
  have ha0 : va_up ad 18 q 0 = a0 := (va_up_ne _ _ (by decide)).trans ha0
  generalize va_up ad 18 q = ad at hw n3 ha0
  subst n3
  refine W.eq (g2 := F0 m 119 ls [.ref (ad 18), .ref (ad 0)]) (by rw [ha0]) ?_
  refine zr_putF (g := 0) (v := .ref (ad 18)) S hX7 tyX7 tyX7_ok nmX7 hK hw hS pM_0 rfl 18 (by decide) (wz_in (zin4 _ (List.mem_of_getElem? (i := 1) rfl))) rfl rfl hin rfl rfl rfl (Nat.le_of_ble_eq_true rfl) dX7_init_119 (G1 := pM cy ad 19 19 (nI 0)) (pM_0.trans rfl) pM_put (fun H locs hw hS => ?_)
  refine lv_aload_n hx hb dX7_init_122 rfl (lv_at hl 0 rfl) ?_
  refine lv_bipush (v := (8 : Int32)) hx hb dX7_init_123 (by decide) ?_
  refine zr_newa (ty := .int) (a0 := (8, .inl (fun _ => nI 0))) S rfl (wz_in (zin3 _ (List.mem_of_getElem? (i := 11) rfl))) hK hw hS hA 1 rfl (fun _ => rfl) (by decide) (by decide) (Nat.le_of_ble_eq_true rfl) (Nat.le_of_ble_eq_true rfl) (Nat.le_of_ble_eq_true rfl) dX7_init_125 (fun q H hnm hS => ?_)
  obtain ⟨n1, n2, n3, n4, n5⟩ := pM_new (cy := cy) (ad := ad) (df := 19) (d := 19) (g0 := 19) (q := q) (bud := nI 0) (by decide) (by decide) (by decide) (fun g h1 h2 => by omega)
  have hw := hnm (va_up ad 19 q) (pM cy (va_up ad 19 q) 19 20 (nI 0)) 19 n2 n3 n4 (n5.trans rfl) n1
  have ha0 : va_up ad 19 q 0 = a0 := (va_up_ne _ _ (by decide)).trans ha0
  generalize va_up ad 19 q = ad at hw n3 ha0
  subst n3
  refine W.eq (g2 := F0 m 127 ls [.ref (ad 19), .ref (ad 0)]) (by rw [ha0]) ?_
  refine zr_putF (g := 0) (v := .ref (ad 19)) S hX7 tyX7 tyX7_ok nmX7 hK hw hS pM_0 rfl 19 (by decide) (wz_in (zin4 _ (List.mem_of_getElem? (i := 2) rfl))) rfl rfl hin rfl rfl rfl (Nat.le_of_ble_eq_true rfl) dX7_init_127 (G1 := pM cy ad 20 20 (nI 0)) (pM_0.trans rfl) pM_put (fun H locs hw hS => ?_)
  refine lv_aload_n hx hb dX7_init_130 rfl (lv_at hl 0 rfl) ?_
  refine lv_bipush (v := (8 : Int32)) hx hb dX7_init_131 (by decide) ?_
  refine zr_newa (ty := .int) (a0 := (8, .inl (fun _ => nI 0))) S rfl (wz_in (zin3 _ (List.mem_of_getElem? (i := 11) rfl))) hK hw hS hA 1 rfl (fun _ => rfl) (by decide) (by decide) (Nat.le_of_ble_eq_true rfl) (Nat.le_of_ble_eq_true rfl) (Nat.le_of_ble_eq_true rfl) dX7_init_133 (fun q H hnm hS => ?_)
  obtain ⟨n1, n2, n3, n4, n5⟩ := pM_new (cy := cy) (ad := ad) (df := 20) (d := 20) (g0 := 20) (q := q) (bud := nI 0) (by decide) (by decide) (by decide) (fun g h1 h2 => by omega)
  have hw := hnm (va_up ad 20 q) (pM cy (va_up ad 20 q) 20 21 (nI 0)) 20 n2 n3 n4 (n5.trans rfl) n1
  have ha0 : va_up ad 20 q 0 = a0 := (va_up_ne _ _ (by decide)).trans ha0
  generalize va_up ad 20 q = ad at hw n3 ha0
  subst n3
  refine W.eq (g2 := F0 m 135 ls [.ref (ad 20), .ref (ad 0)]) (by rw [ha0]) ?_
  refine zr_putF (g := 0) (v := .ref (ad 20)) S hX7 tyX7 tyX7_ok nmX7 hK hw hS pM_0 rfl 20 (by decide) (wz_in (zin4 _ (List.mem_of_getElem? (i := 3) rfl))) rfl rfl hin rfl rfl rfl (Nat.le_of_ble_eq_true rfl) dX7_init_135 (G1 := pM cy ad 21 21 (nI 0)) (pM_0.trans rfl) pM_put (fun H locs hw hS => ?_)
  refine lv_aload_n hx hb dX7_init_138 rfl (lv_at hl 0 rfl) ?_
  refine lv_sipush (v := (160 : Int32)) hx hb dX7_init_139 (by decide) ?_
  refine zr_newa (ty := .int) (a0 := (160, .inl (fun _ => nI 0))) S rfl (wz_in (zin3 _ (List.mem_of_getElem? (i := 11) rfl))) hK hw hS hA 1 rfl (fun _ => rfl) (by decide) (by decide) (Nat.le_of_ble_eq_true rfl) (Nat.le_of_ble_eq_true rfl) (Nat.le_of_ble_eq_true rfl) dX7_init_142 (fun q H hnm hS => ?_)
  obtain ⟨n1, n2, n3, n4, n5⟩ := pM_new (cy := cy) (ad := ad) (df := 21) (d := 21) (g0 := 21) (q := q) (bud := nI 0) (by decide) (by decide) (by decide) (fun g h1 h2 => by omega)
  have hw := hnm (va_up ad 21 q) (pM cy (va_up ad 21 q) 21 22 (nI 0)) 21 n2 n3 n4 (n5.trans rfl) n1
  have ha0 : va_up ad 21 q 0 = a0 := (va_up_ne _ _ (by decide)).trans ha0
  generalize va_up ad 21 q = ad at hw n3 ha0
  subst n3
  refine W.eq (g2 := F0 m 144 ls [.ref (ad 21), .ref (ad 0)]) (by rw [ha0]) ?_
  refine zr_putF (g := 0) (v := .ref (ad 21)) S hX7 tyX7 tyX7_ok nmX7 hK hw hS pM_0 rfl 21 (by decide) (wz_in (zin4 _ (List.mem_of_getElem? (i := 4) rfl))) rfl rfl hin rfl rfl rfl (Nat.le_of_ble_eq_true rfl) dX7_init_144 (G1 := pM cy ad 22 22 (nI 0)) (pM_0.trans rfl) pM_put (fun H locs hw hS => ?_)
  refine lv_aload_n hx hb dX7_init_147 rfl (lv_at hl 0 rfl) ?_
  refine lv_sipush (v := (1280 : Int32)) hx hb dX7_init_148 (by decide) ?_
  refine zr_newa (ty := .long) (a0 := (1280, .inr (.inl (fun _ => 0)))) S rfl (wz_in (zin1 _ (List.mem_of_getElem? (i := 6) rfl))) hK hw hS hA 2 rfl (fun _ => rfl) (by decide) (by decide) (Nat.le_of_ble_eq_true rfl) (Nat.le_of_ble_eq_true rfl) (Nat.le_of_ble_eq_true rfl) dX7_init_151 (fun q H hnm hS => ?_)
  obtain ⟨n1, n2, n3, n4, n5⟩ := pM_new (cy := cy) (ad := ad) (df := 22) (d := 22) (g0 := 22) (q := q) (bud := nI 0) (by decide) (by decide) (by decide) (fun g h1 h2 => by omega)
  have hw := hnm (va_up ad 22 q) (pM cy (va_up ad 22 q) 22 23 (nI 0)) 22 n2 n3 n4 (n5.trans rfl) n1
  have ha0 : va_up ad 22 q 0 = a0 := (va_up_ne _ _ (by decide)).trans ha0
  generalize va_up ad 22 q = ad at hw n3 ha0
  subst n3
  refine W.eq (g2 := F0 m 153 ls [.ref (ad 22), .ref (ad 0)]) (by rw [ha0]) ?_
  refine zr_putF (g := 0) (v := .ref (ad 22)) S hX7 tyX7 tyX7_ok nmX7 hK hw hS pM_0 rfl 22 (by decide) (wz_in (zin4 _ (List.mem_of_getElem? (i := 5) rfl))) rfl rfl hin rfl rfl rfl (Nat.le_of_ble_eq_true rfl) dX7_init_153 (G1 := pM cy ad 23 23 (nI 0)) (pM_0.trans rfl) pM_put (fun H locs hw hS => ?_)
  refine lv_aload_n hx hb dX7_init_156 rfl (lv_at hl 0 rfl) ?_
  refine lv_sipush (v := (160 : Int32)) hx hb dX7_init_157 (by decide) ?_
  refine zr_newa (ty := .boolean) (a0 := (160, .inl (fun _ => nI 0))) S rfl (wz_in (zin3 _ (List.mem_of_getElem? (i := 20) rfl))) hK hw hS hA 3 rfl (fun _ => rfl) (by decide) (by decide) (Nat.le_of_ble_eq_true rfl) (Nat.le_of_ble_eq_true rfl) (Nat.le_of_ble_eq_true rfl) dX7_init_160 (fun q H hnm hS => ?_)
  obtain ⟨n1, n2, n3, n4, n5⟩ := pM_new (cy := cy) (ad := ad) (df := 23) (d := 23) (g0 := 23) (q := q) (bud := nI 0) (by decide) (by decide) (by decide) (fun g h1 h2 => by omega)
  have hw := hnm (va_up ad 23 q) (pM cy (va_up ad 23 q) 23 24 (nI 0)) 23 n2 n3 n4 (n5.trans rfl) n1
  have ha0 : va_up ad 23 q 0 = a0 := (va_up_ne _ _ (by decide)).trans ha0
  generalize va_up ad 23 q = ad at hw n3 ha0
  subst n3
  refine W.eq (g2 := F0 m 162 ls [.ref (ad 23), .ref (ad 0)]) (by rw [ha0]) ?_
  refine zr_putF (g := 0) (v := .ref (ad 23)) S hX7 tyX7 tyX7_ok nmX7 hK hw hS pM_0 rfl 23 (by decide) (wz_in (zin4 _ (List.mem_of_getElem? (i := 6) rfl))) rfl rfl hin rfl rfl rfl (Nat.le_of_ble_eq_true rfl) dX7_init_162 (G1 := pM cy ad 24 24 (nI 0)) (pM_0.trans rfl) pM_put (fun H locs hw hS => ?_)
  refine lv_aload_n hx hb dX7_init_165 rfl (lv_at hl 0 rfl) ?_
  refine lv_sipush (v := (160 : Int32)) hx hb dX7_init_166 (by decide) ?_
  refine zr_newa (ty := .int) (a0 := (160, .inl (fun _ => nI 0))) S rfl (wz_in (zin3 _ (List.mem_of_getElem? (i := 11) rfl))) hK hw hS hA 1 rfl (fun _ => rfl) (by decide) (by decide) (Nat.le_of_ble_eq_true rfl) (Nat.le_of_ble_eq_true rfl) (Nat.le_of_ble_eq_true rfl) dX7_init_169 (fun q H hnm hS => ?_)
  obtain ⟨n1, n2, n3, n4, n5⟩ := pM_new (cy := cy) (ad := ad) (df := 24) (d := 24) (g0 := 24) (q := q) (bud := nI 0) (by decide) (by decide) (by decide) (fun g h1 h2 => by omega)
  have hw := hnm (va_up ad 24 q) (pM cy (va_up ad 24 q) 24 25 (nI 0)) 24 n2 n3 n4 (n5.trans rfl) n1
  have ha0 : va_up ad 24 q 0 = a0 := (va_up_ne _ _ (by decide)).trans ha0
  generalize va_up ad 24 q = ad at hw n3 ha0
  subst n3
  refine W.eq (g2 := F0 m 171 ls [.ref (ad 24), .ref (ad 0)]) (by rw [ha0]) ?_
  refine zr_putF (g := 0) (v := .ref (ad 24)) S hX7 tyX7 tyX7_ok nmX7 hK hw hS pM_0 rfl 24 (by decide) (wz_in (zin4 _ (List.mem_of_getElem? (i := 7) rfl))) rfl rfl hin rfl rfl rfl (Nat.le_of_ble_eq_true rfl) dX7_init_171 (G1 := pM cy ad 25 25 (nI 0)) (pM_0.trans rfl) pM_put (fun H locs hw hS => ?_)
  refine lv_aload_n hx hb dX7_init_174 rfl (lv_at hl 0 rfl) ?_
  refine lv_sipush (v := (160 : Int32)) hx hb dX7_init_175 (by decide) ?_
  refine zr_newa (ty := .int) (a0 := (160, .inl (fun _ => nI 0))) S rfl (wz_in (zin3 _ (List.mem_of_getElem? (i := 11) rfl))) hK hw hS hA 1 rfl (fun _ => rfl) (by decide) (by decide) (Nat.le_of_ble_eq_true rfl) (Nat.le_of_ble_eq_true rfl) (Nat.le_of_ble_eq_true rfl) dX7_init_178 (fun q H hnm hS => ?_)
  obtain ⟨n1, n2, n3, n4, n5⟩ := pM_new (cy := cy) (ad := ad) (df := 25) (d := 25) (g0 := 25) (q := q) (bud := nI 0) (by decide) (by decide) (by decide) (fun g h1 h2 => by omega)
  have hw := hnm (va_up ad 25 q) (pM cy (va_up ad 25 q) 25 26 (nI 0)) 25 n2 n3 n4 (n5.trans rfl) n1
  have ha0 : va_up ad 25 q 0 = a0 := (va_up_ne _ _ (by decide)).trans ha0
  generalize va_up ad 25 q = ad at hw n3 ha0
  subst n3
  refine W.eq (g2 := F0 m 180 ls [.ref (ad 25), .ref (ad 0)]) (by rw [ha0]) ?_
  refine zr_putF (g := 0) (v := .ref (ad 25)) S hX7 tyX7 tyX7_ok nmX7 hK hw hS pM_0 rfl 25 (by decide) (wz_in (zin4 _ (List.mem_of_getElem? (i := 8) rfl))) rfl rfl hin rfl rfl rfl (Nat.le_of_ble_eq_true rfl) dX7_init_180 (G1 := pM cy ad 26 26 (nI 0)) (pM_0.trans rfl) pM_put (fun H locs hw hS => ?_)
  refine lv_aload_n hx hb dX7_init_183 rfl (lv_at hl 0 rfl) ?_
  refine lv_bipush (v := (16 : Int32)) hx hb dX7_init_184 (by decide) ?_
  refine zr_newa (ty := .long) (a0 := (16, .inr (.inl (fun _ => 0)))) S rfl (wz_in (zin1 _ (List.mem_of_getElem? (i := 6) rfl))) hK hw hS hA 2 rfl (fun _ => rfl) (by decide) (by decide) (Nat.le_of_ble_eq_true rfl) (Nat.le_of_ble_eq_true rfl) (Nat.le_of_ble_eq_true rfl) dX7_init_186 (fun q H hnm hS => ?_)
  obtain ⟨n1, n2, n3, n4, n5⟩ := pM_new (cy := cy) (ad := ad) (df := 26) (d := 26) (g0 := 27) (q := q) (bud := nI 0) (by decide) (by decide) (by decide) (fun g h1 h2 => by rcases (show g = 26 by omega) with rfl <;> rfl)
  have hw := hnm (va_up ad 27 q) (pM cy (va_up ad 27 q) 26 28 (nI 0)) 27 n2 n3 n4 (n5.trans rfl) n1
  have ha0 : va_up ad 27 q 0 = a0 := (va_up_ne _ _ (by decide)).trans ha0
  generalize va_up ad 27 q = ad at hw n3 ha0
  subst n3
  refine W.eq (g2 := F0 m 188 ls [.ref (ad 27), .ref (ad 0)]) (by rw [ha0]) ?_
  refine zr_putF (g := 0) (v := .ref (ad 27)) S hX7 tyX7 tyX7_ok nmX7 hK hw hS pM_0 rfl 27 (by decide) (wz_in (zin4 _ (List.mem_of_getElem? (i := 9) rfl))) rfl rfl hin rfl rfl rfl (Nat.le_of_ble_eq_true rfl) dX7_init_188 (G1 := pM cy ad 28 28 (nI 0)) (pM_0.trans rfl) pM_put (fun H locs hw hS => ?_)
  refine lv_aload_n hx hb dX7_init_191 rfl (lv_at hl 0 rfl) ?_
  refine lv_bipush (v := (8 : Int32)) hx hb dX7_init_192 (by decide) ?_
  refine zr_newa (ty := .long) (a0 := (8, .inr (.inl (fun _ => 0)))) S rfl (wz_in (zin1 _ (List.mem_of_getElem? (i := 6) rfl))) hK hw hS hA 2 rfl (fun _ => rfl) (by decide) (by decide) (Nat.le_of_ble_eq_true rfl) (Nat.le_of_ble_eq_true rfl) (Nat.le_of_ble_eq_true rfl) dX7_init_194 (fun q H hnm hS => ?_)
  obtain ⟨n1, n2, n3, n4, n5⟩ := pM_new (cy := cy) (ad := ad) (df := 28) (d := 28) (g0 := 31) (q := q) (bud := nI 0) (by decide) (by decide) (by decide) (fun g h1 h2 => by rcases (show g = 28 ∨ g = 29 ∨ g = 30 by omega) with rfl | rfl | rfl <;> rfl)
  have hw := hnm (va_up ad 31 q) (pM cy (va_up ad 31 q) 28 32 (nI 0)) 31 n2 n3 n4 (n5.trans rfl) n1
  have ha0 : va_up ad 31 q 0 = a0 := (va_up_ne _ _ (by decide)).trans ha0
  generalize va_up ad 31 q = ad at hw n3 ha0
  subst n3
  refine W.eq (g2 := F0 m 196 ls [.ref (ad 31), .ref (ad 0)]) (by rw [ha0]) ?_
  refine zr_putF (g := 0) (v := .ref (ad 31)) S hX7 tyX7 tyX7_ok nmX7 hK hw hS pM_0 rfl 31 (by decide) (wz_in (zin4 _ (List.mem_of_getElem? (i := 10) rfl))) rfl rfl hin rfl rfl rfl (Nat.le_of_ble_eq_true rfl) dX7_init_196 (G1 := pM cy ad 32 32 (nI 0)) (pM_0.trans rfl) pM_put (fun H locs hw hS => ?_)
  refine lv_aload_n hx hb dX7_init_199 rfl (lv_at hl 0 rfl) ?_
  refine lv_bipush (v := (8 : Int32)) hx hb dX7_init_200 (by decide) ?_
  refine zr_newa (ty := .long) (a0 := (8, .inr (.inl (fun _ => 0)))) S rfl (wz_in (zin1 _ (List.mem_of_getElem? (i := 6) rfl))) hK hw hS hA 2 rfl (fun _ => rfl) (by decide) (by decide) (Nat.le_of_ble_eq_true rfl) (Nat.le_of_ble_eq_true rfl) (Nat.le_of_ble_eq_true rfl) dX7_init_202 (fun q H hnm hS => ?_)
  obtain ⟨n1, n2, n3, n4, n5⟩ := pM_new (cy := cy) (ad := ad) (df := 32) (d := 32) (g0 := 32) (q := q) (bud := nI 0) (by decide) (by decide) (by decide) (fun g h1 h2 => by omega)
  have hw := hnm (va_up ad 32 q) (pM cy (va_up ad 32 q) 32 33 (nI 0)) 32 n2 n3 n4 (n5.trans rfl) n1
  have ha0 : va_up ad 32 q 0 = a0 := (va_up_ne _ _ (by decide)).trans ha0
  generalize va_up ad 32 q = ad at hw n3 ha0
  subst n3
  refine W.eq (g2 := F0 m 204 ls [.ref (ad 32), .ref (ad 0)]) (by rw [ha0]) ?_
  refine zr_putF (g := 0) (v := .ref (ad 32)) S hX7 tyX7 tyX7_ok nmX7 hK hw hS pM_0 rfl 32 (by decide) (wz_in (zin4 _ (List.mem_of_getElem? (i := 11) rfl))) rfl rfl hin rfl rfl rfl (Nat.le_of_ble_eq_true rfl) dX7_init_204 (G1 := pM cy ad 33 33 (nI 0)) (pM_0.trans rfl) pM_put (fun H locs hw hS => ?_)
  have K228 : ∀ (y : Int32), y = clm x1 → W p l e (headSpec (wz yX7_init cX7_init 3 none) ({ frames := 1, cells := 24, slots := 24713, locals := 40 } : Room)).room s m ([.ref a0, .int x1] : List Value).toArray below meth c H locs 24 24713 (MQ below (va_Qv (fun _ => True) (qc_X7_init D cy A a0 x1) A) ([.ref a0, .int x1] : List Value).toArray s 24 24713 A) (F0 m 228 ls [.int y, .ref a0]) := by
    intro y hy
    refine W.eq (g2 := F0 m 228 ls [.int y, .ref (ad 0)]) (by rw [ha0]) ?_
    refine zr_putF (g := 0) (v := .int y) S hX7 tyX7 tyX7_ok nmX7 hK hw hS pM_0 rfl 1 (by decide) (wz_in (zin4 _ (List.mem_of_getElem? (i := 13) rfl))) rfl rfl hin rfl rfl rfl (Nat.le_of_ble_eq_true rfl) dX7_init_228 (G1 := pM cy ad 33 33 y) (pM_0.trans rfl) pM_put (fun H locs hw hS => ?_)
    have hG : pM cy ad 33 33 y = mG cy ad (fun k => if k = 1 then y else nI 0, fun _ _ => nI 0, fun _ _ => 0) := by
      funext g
      match g with
      | 0 => rfl
      | 1 => rfl
      | 2 => rfl
      | 3 => rfl
      | 4 => rfl
      | 5 => rfl
      | 6 => rfl
      | 7 => rfl
      | 8 => rfl
      | 9 => rfl
      | 10 => rfl
      | 11 => rfl
      | 12 => rfl
      | 13 => rfl
      | 14 => rfl
      | 15 => rfl
      | 16 => rfl
      | 17 => rfl
      | 18 => rfl
      | 19 => rfl
      | 20 => rfl
      | 21 => rfl
      | 22 => rfl
      | 23 => rfl
      | 24 => rfl
      | 25 => rfl
      | 26 => rfl
      | 27 => rfl
      | 28 => rfl
      | 29 => rfl
      | 30 => rfl
      | 31 => rfl
      | 32 => rfl
      | g + 33 => unfold pM; rw [if_neg (by omega), if_neg (by omega)]; rfl
    rw [hG] at hw
    refine lv_iconst (v := nI 0) hx hb dX7_init_231 (by decide) ?_
    refine lv_istore_n (lv' := [(2, .int (nI 0)), (0, .ref a0), (1, .int x1)]) hx hb dX7_init_232 rfl hl (by decide) rfl (fun ls hl => ?_)
    have L : ∀ (n i : Nat) (τ : MS) (H : Heap) (locs : List Loc) (ls : Array Slot), i + n = 160 → ZM (clm x1) i τ → zw D A ad (mG cy ad τ) H → va_S A s.heap H locs → lv_has ls 3 [(0, .ref a0), (1, .int x1), (2, .int (nI i))] → W p l e (headSpec (wz yX7_init cX7_init 3 none) ({ frames := 1, cells := 24, slots := 24713, locals := 40 } : Room)).room s m ([.ref a0, .int x1] : List Value).toArray below meth c H locs 24 24713 (MQ below (va_Qv (fun _ => True) (qc_X7_init D cy A a0 x1) A) ([.ref a0, .int x1] : List Value).toArray s 24 24713 A) (F0 m 233 ls []) := by
      intro n
      induction n with
      | zero =>
        intro i τ H locs ls hi hZ hw hS hl
        have hi : i = 160 := by omega
        subst hi
        refine lv_iload_n hx hb dX7_init_233 rfl (lv_at hl 2 rfl) ?_
        refine lv_sipush (v := nI 160) hx hb dX7_init_234 (by decide) ?_
        refine lv_icmp_ge (tgt := 253) hx hb dX7_init_237 (by decide) (fun _ => ?_) (fun q => absurd (nI_le (Nat.le_refl 160) (by omega)) q)
        exact W.vret hx hb hr (fun t ht hW => ⟨⟨(ad, τ), rfl, trivial, ⟨ha0, hZ, by rw [ht]; exact hw⟩⟩, hS.F ht⟩) hS.2.2 dX7_init_253
      | succ n ih =>
        intro i τ H locs ls hi hZ hw hS hl
        refine lv_iload_n hx hb dX7_init_233 rfl (lv_at hl 2 rfl) ?_
        refine lv_sipush (v := nI 160) hx hb dX7_init_234 (by decide) ?_
        refine lv_icmp_ge (tgt := 253) hx hb dX7_init_237 (by decide) (fun q => absurd ((nI_leI (by omega) (by omega)).mp q) (by omega)) (fun _ => ?_)
        refine lv_aload_n hx hb dX7_init_240 rfl (lv_at hl 0 rfl) ?_
        refine W.eq (g2 := F0 m 241 ls [.ref (ad 0)]) (by rw [ha0]) ?_
        refine mr_get (v := .ref (ad 24)) S hX7 hK hw 24 (by decide) (wz_in (zin4 _ (List.mem_of_getElem? (i := 7) rfl))) rfl rfl dX7_init_241 ?_
        refine lv_iload_n hx hb dX7_init_244 rfl (lv_at hl 2 rfl) ?_
        refine lv_iconst (v := -nI 1) hx hb dX7_init_245 (by decide) ?_
        refine mr_iast S hK hw hS 24 (n := 160) rfl (vp_in_nI (by omega) (by omega)) (by simp [mG, mr_R]) dX7_init_246 (fun H locs hw hS => ?_)
        rw [nI_clamp (by omega)] at hw
        refine lv_iinc (v := nI (i + 1)) (lv' := [(2, .int (nI (i + 1))), (0, .ref a0), (1, .int x1)]) hx hb dX7_init_247 hl (k := 2) rfl (nI_1 i) (by decide) rfl (fun ls hl => ?_)
        refine lv_goto (tgt := 233) hx hb dX7_init_250 (by decide) ?_
        refine ih (i + 1) (mR τ 24 i (-nI 1)) _ _ _ (by omega) ⟨hZ.1, fun a j => ?_, hZ.2.2⟩ hw hS (lv_sub hl [1, 2, 0] rfl)
        have h0 := hZ.2.1 a j
        rw [mr_R]
        by_cases ha : a = 24
        · subst ha
          rw [if_pos rfl, upd]
          by_cases hj : j = i
          · rw [if_pos hj, if_pos ⟨rfl, by omega⟩]
          · rw [if_neg hj, h0]
            by_cases hji : j < i
            · rw [if_pos ⟨rfl, hji⟩, if_pos ⟨rfl, by omega⟩]
            · rw [if_neg (by omega), if_neg (by omega)]
        · rw [if_neg ha, h0, if_neg (fun q => ha q.1), if_neg (fun q => ha q.1)]
    exact L 160 0 _ _ _ _ rfl ⟨fun k => by rw [← hy]; rfl, fun a j => by rw [if_neg (by omega)]; rfl, fun a j => rfl⟩ hw hS (lv_sub hl [1, 2, 0] rfl)
  refine lv_aload_n hx hb dX7_init_207 rfl (lv_at hl 0 rfl) ?_
  refine lv_iload_n hx hb dX7_init_208 rfl (lv_at hl 1 rfl) ?_
  refine lv_if_ge (tgt := 216) hx hb dX7_init_209 (by decide) (fun c_0 => ?_) (fun c_0 => ?_)
  · have h0 : ¬ x1 < 0 := Int32.not_lt.mpr c_0
    refine lv_iload_n hx hb dX7_init_216 rfl (lv_at hl 1 rfl) ?_
    refine lv_ldc (v := (65536 : Int32)) hx hb hown (hts _ (wz_in (zin4 _ (List.mem_of_getElem? (i := 12) rfl)))) dX7_init_217 ?_
    refine lv_icmp_le (tgt := 227) hx hb dX7_init_219 (by decide) (fun c_1 => ?_) (fun c_1 => ?_)
    · refine lv_iload_n hx hb dX7_init_227 rfl (lv_at hl 1 rfl) ?_
      exact K228 x1 (by unfold clm; rw [if_neg h0, if_pos c_1])
    · refine lv_ldc (v := (65536 : Int32)) hx hb hown (hts _ (wz_in (zin4 _ (List.mem_of_getElem? (i := 12) rfl)))) dX7_init_222 ?_
      refine lv_goto (tgt := 228) hx hb dX7_init_224 (by decide) ?_
      exact K228 65536 (by unfold clm; rw [if_neg h0, if_neg c_1])
  · refine lv_iconst (v := (0 : Int32)) hx hb dX7_init_212 (by decide) ?_
    refine lv_goto (tgt := 228) hx hb dX7_init_213 (by decide) ?_
    exact K228 0 (by unfold clm; rw [if_pos (Int32.not_le.mp c_0)])
