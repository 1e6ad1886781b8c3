/-! ===== an edition kept, over the machine ===== -/
theorem okF_congr {n : Nat} {f f' : Nat → Int32} (h : ∀ j, j < n → f j = f' j) : ∀ (k at_ : Nat), okF n f k at_ → okF n f' k at_
  | 0, _, h0 => h0
  | k + 1, at_, h0 => by
    rcases h0 with h0 | ⟨h1, h2⟩
    · exact Or.inl h0
    · have e : oc f (at_ + 1) = oc f' (at_ + 1) := by unfold oc; rw [h _ (by omega)]
      exact Or.inr ⟨by rw [← e]; exact h1, by rw [← e]; exact okF_congr h k _ h2⟩
theorem cOf_congr {n mk : Nat} {f f' : Nat → Int32} (h : ∀ j, j < n → f j = f' j) : ∀ (k at_ : Nat), okF n f k at_ → cOf n f mk k at_ = cOf n f' mk k at_
  | 0, _, _ => rfl
  | k + 1, at_, h0 => by
    show (if at_ < n then (if oc f at_ = mk then some (at_ + 2, oc f (at_ + 1)) else cOf n f mk k (at_ + 2 + oc f (at_ + 1))) else none) = (if at_ < n then (if oc f' at_ = mk then some (at_ + 2, oc f' (at_ + 1)) else cOf n f' mk k (at_ + 2 + oc f' (at_ + 1))) else none)
    by_cases hn : at_ < n
    · rcases h0 with h0 | ⟨h1, h2⟩
      · omega
      · have e : oc f (at_ + 1) = oc f' (at_ + 1) := by unfold oc; rw [h _ (by omega)]
        have e0 : oc f at_ = oc f' at_ := by unfold oc; rw [h _ hn]
        rw [if_pos hn, if_pos hn, ← e0, ← e, cOf_congr h k _ h2]
    · rw [if_neg hn, if_neg hn]
/-- what must stand for an edition to be kept -/
def KeepOk (τ : CS) (i S : Nat) (b : Bool) (sp sl rp rl : Nat) : Prop := cv τ 0 0 = true ∧ cv τ 9 0 = true ∧ cv τ 3 0 = true ∧ cbl τ 0 = 120 ∧ (∀ j, j < 120 → isB (cb τ 0 j)) ∧ ci τ 5 0 = nI S ∧ S ≤ 120 ∧ okF S (cb τ 0) 121 0 ∧ cOf S (cb τ 0) 1 121 0 = (if b = true then some (sp, sl) else none) ∧ cOf S (cb τ 0) 2 121 0 = some (rp, rl) ∧ i < 20 ∧ ∀ j, 1 ≤ j → cv τ 1 j = false
theorem ptof {D : va_G} {cy : Nat → ClassId} {A : Nat → Prop} {ad : Nat × Nat → Nat} {en : Nat → Nat} {tI tS : Nat} {σ : CS} {s : State} (hC : CK D cy A en tI tS s s.heap) (hw : zw D A ad (cG cy ad σ) s.heap) : pt D cy A ad σ [] s := ⟨by rw [cL_0]; exact hw, hC.1, hC.2.2.2.1, hC.2.2.2.2.1 ("[B", "java/lang/Cloneable") (by simp [exC])⟩
set_option maxHeartbeats 4000000 in
set_option maxRecDepth 100000 in
theorem kc_X6_keepEdition (l : Launch) (D : va_G) (cy : Nat → ClassId) (A : Nat → Prop) (ad : Nat × Nat → Nat) (en : Nat → Nat) (tI tS : Nat) (τ : CS) (i S : Nat) (num : Int32) (b : Bool) (sp sl rp rl : Nat) (hk : KeepOk τ i S b sp sl rp rl) : Met l yX6_keepEdition (wz yX6_keepEdition cX6_keepEdition 6 none) ({ frames := 6, cells := 4, slots := 364, locals := 220 } : Room) (va_Pc [.ref (ad (0, 0)), .int (nI (i + 1)), .int num] (CWs D cy A ad en tI tS τ)) (va_Qv (fun (u : CS) => u = cI (cKp τ i num S b sp sl rp rl) 5 0 (0 : Int32)) (CWm D cy A ad) A) 4 364 A := by
  obtain ⟨k00, k90, k30, k120, kB, kS, kS2, kok, ks, kr, ki, k1v⟩ := hk
  refine Met.ofW (cc := cX6_keepEdition) (maxL := 6) (ret := none) (by decide) rfl ?_
  intro p e s m args below meth c s₁ B hml hv
  obtain ⟨rfl, hw, hC⟩ := hv
  have hK := hC.1
  have hN := hC.2.1
  have hx := B.exec
  have hb := B.bytes
  have hr := B.returns
  have hts := atoms_spec (ws := (wz yX6_keepEdition cX6_keepEdition 6 none)) B.pre
  have hown : s.vm.findClass RX6 = some m.cls := findClass_of_methodNamed B.named
  have hlocks := B.notSynchronized
  have S0 : CallFix p m c cX6_keepEdition 6 s ([.ref (ad (0, 0)), .int (nI (i + 1)), .int num] : List Value).toArray (wz yX6_keepEdition cX6_keepEdition 6 none) RX6 := ⟨hx, hb, hml, hown, hts⟩
  have hX6 : ∀ w ∈ wsX60, w ∈ (wz yX6_keepEdition cX6_keepEdition 6 none) := fun w h => wz_in (inlX6 w h)
  have hX2 : ∀ w ∈ wsX20, w ∈ (wz yX6_keepEdition cX6_keepEdition 6 none) := fun w h => wz_in (inlX2 w h)
  have hS : va_S A s.heap s.heap [] := va_S.rf
  have hl := lv_entry ([.ref (ad (0, 0)), .int (nI (i + 1)), .int num]) (n := 6) (Nat.le_of_ble_eq_true rfl)
  rw [lg_entry_eq]
  generalize (lg_sl ([.ref (ad (0, 0)), .int (nI (i + 1)), .int num]) ++ List.replicate (6 - (lg_sl ([.ref (ad (0, 0)), .int (nI (i + 1)), .int num])).length) Slot.unset).toArray = ls at hl ⊢
  have hl : lv_has ls 6 [(0, .ref (ad (0, 0))), (1, .int (nI (i + 1))), (2, .int num)] := hl
  have hP := ptof hC hw
  have hg0 : cL cy ad τ [] (9, 0) = some (.inl (cy 0, 120, .inl (cb τ 0))) := by rw [cL_0]; exact (cG_at k90).trans (by simp only [cE]; rw [k120])
  have E67 : ∀ (ad1 : Nat × Nat → Nat) (H : Heap) (locs : List Loc) (ls : Array Slot), (∀ k i, k ≤ 5 → ad1 (k, i) = ad (k, i)) → zw D A ad1 (cG cy ad1 (cKp τ i num S b sp sl rp rl)) H → va_S A s.heap H locs → ls[0]? = some (.val (.ref (ad (0, 0)))) → W p l e (headSpec (wz yX6_keepEdition cX6_keepEdition 6 none) ({ frames := 6, cells := 4, slots := 364, locals := 220 } : Room)).room s m ([.ref (ad (0, 0)), .int (nI (i + 1)), .int num] : List Value).toArray below meth c H locs 4 364 (MQ below (va_Qv (fun (u : CS) => u = cI (cKp τ i num S b sp sl rp rl) 5 0 (0 : Int32)) (CWm D cy A ad) A) ([.ref (ad (0, 0)), .int (nI (i + 1)), .int num] : List Value).toArray s 4 364 A) (F0 m 67 ls []) := by
    intro ad1 H locs ls ha hw hS hl
    refine lv_aload_n hx hb dX6_keepEdition_67 rfl hl ?_
    refine lv_iconst (v := (0 : Int32)) hx hb dX6_keepEdition_68 (by decide) ?_
    refine W.eq (g2 := F0 m 69 ls [.int (0 : Int32), .ref (ad1 (0, 0))]) (by rw [ha 0 0 (by decide)]) ?_
    refine cr_put (v := .int (0 : Int32)) (σ1 := cI (cKp τ i num S b sp sl rp rl) 5 0 (0 : Int32)) S0 hK hw hS 0 0 (by rw [cv_K, if_neg (by omega), if_neg (by omega), if_neg (by omega), if_neg (by omega), if_neg (by omega), if_neg (by omega)]; exact k00) hX6 tyX6 tyX6_ok nmX6 rfl rfl 5 (by decide) (wz_in (zin4 _ (List.mem_of_getElem? (i := 18) rfl))) rfl rfl rfl rfl (Nat.le_of_ble_eq_true rfl) dX6_keepEdition_69 rfl (cput_5 _ _ _ _ _) (cout_5 _ _ _ _ _) (fun H locs hw hS => ?_)
    exact cm_retv S0 hr rfl ha hw hS hlocks dX6_keepEdition_72
  have MK : ∀ (ad1 : Nat × Nat → Nat) (X : List va_E) (v4 : Value) (ts tr : Nat) (fO fR : Nat → Int32) (H : Heap) (locs : List Loc) (ls : Array Slot) (cells slots : Nat), cells ≤ 3 → slots ≤ 360 → (∀ k j, k ≤ 9 → ad1 (k, j) = ad (k, j)) → (tr ≠ 0 ∧ ts ≠ 0 ∧ ts ≠ tr ∧ tr < X.length ∧ ts ≠ X.length ∧ 0 < X.length) → X[0]? = some (.inl (cy 0, S, .inl fO)) → (∀ j, j < S → fO j = cb τ 0 j) → (b = true → ∃ fS : Nat → Int32, X[ts]? = some (.inl (cy 0, sl, .inl fS)) ∧ ∀ j, j < sl → fS j = cb τ 0 (sp + j)) → X[tr]? = some (.inl (cy 0, rl, .inl fR)) → (∀ j, j < rl → fR j = cb τ 0 (rp + j)) → v4 = (if b = true then .ref (ad1 (10, ts)) else .null) → zw D A ad1 (cL cy ad1 τ X) H → va_S A s.heap H locs → lv_has ls 6 [(0, .ref (ad (0, 0))), (1, .int (nI (i + 1))), (2, .int num), (3, .ref (ad1 (10, 0))), (4, v4), (5, .ref (ad1 (10, tr)))] → W p l e (headSpec (wz yX6_keepEdition cX6_keepEdition 6 none) ({ frames := 6, cells := 4, slots := 364, locals := 220 } : Room)).room s m ([.ref (ad (0, 0)), .int (nI (i + 1)), .int num] : List Value).toArray below meth c H locs cells slots (MQ below (va_Qv (fun (u : CS) => u = cI (cKp τ i num S b sp sl rp rl) 5 0 (0 : Int32)) (CWm D cy A ad) A) ([.ref (ad (0, 0)), .int (nI (i + 1)), .int num] : List Value).toArray s 4 364 A) (F0 m 27 ls []) := by
    intro ad1 X v4 ts tr fO fR H locs ls cells slots hc1 hc2 ha hd x0 hO xS xR hR hv4 hw hS hl
    obtain ⟨d1, d2, d3, d4, d5, d6⟩ := hd
    refine lv_aload hx hb dX6_keepEdition_27 (lv_at hl 5 rfl) ?_
    refine lv_ifnull hx hb dX6_keepEdition_29 ?_
    refine lv_iload_n hx hb dX6_keepEdition_32 rfl (lv_at hl 1 rfl) ?_
    refine lv_iconst (v := nI 1) hx hb dX6_keepEdition_33 (by decide) ?_
    refine lv_icmp_lt (tgt := 67) hx hb dX6_keepEdition_34 (by decide) (fun c_0 => absurd ((nI_ltI (by omega) (by omega)).mp c_0) (by omega)) (fun _ => ?_)
    refine lv_iload_n hx hb dX6_keepEdition_37 rfl (lv_at hl 1 rfl) ?_
    refine lv_aload_n hx hb dX6_keepEdition_38 rfl (lv_at hl 0 rfl) ?_
    have e0 : cL cy ad1 τ X (0, 0) = some (.inr (6, cF0 ad1 τ 0)) := (cL_n (by decide)).trans (cG_at k00)
    have e3 : cL cy ad1 τ X (3, 0) = some (.inl (cy 5, 20, .inr (.inr (.inr (.inr (fun j => (co τ 7 j).map (fun i => ad1 (7, i)))))))) := (cL_n (by decide)).trans (cG_at k30)
    refine W.eq (g2 := F0 m 39 ls [.ref (ad1 (0, 0)), .int (nI (i + 1))]) (by rw [ha 0 0 (by decide)]) ?_
    refine zr_get (g := (0, 0)) (v := .ref (ad1 (3, 0))) S0 hX6 hK hw e0 rfl 2 (by decide) (wz_in (zin2 _ (List.mem_of_getElem? (i := 8) rfl))) (fun _ h => h) rfl dX6_keepEdition_39 ?_
    refine zr_alen (g := (3, 0)) (v := nI 20) S0 hK hw 5 e3 rfl rfl dX6_keepEdition_42 ?_
    refine lv_icmp_gt (tgt := 67) hx hb dX6_keepEdition_43 (by decide) (fun c_0 => absurd ((nI_ltI (by omega) (by omega)).mp c_0) (by omega)) (fun _ => ?_)
    refine lv_aload_n hx hb dX6_keepEdition_46 rfl (lv_at hl 0 rfl) ?_
    refine W.eq (g2 := F0 m 47 ls [.ref (ad1 (0, 0))]) (by rw [ha 0 0 (by decide)]) ?_
    refine zr_get (g := (0, 0)) (v := .ref (ad1 (3, 0))) S0 hX6 hK hw e0 rfl 2 (by decide) (wz_in (zin2 _ (List.mem_of_getElem? (i := 8) rfl))) (fun _ h => h) rfl dX6_keepEdition_47 ?_
    refine lv_iload_n hx hb dX6_keepEdition_50 rfl (lv_at hl 1 rfl) ?_
    refine lv_iconst (v := (1 : Int32)) hx hb dX6_keepEdition_51 (by decide) ?_
    refine lv_isub hx hb dX6_keepEdition_52 ?_
    rw [show nI (i + 1) - (1 : Int32) = nI i from nI_pred i]
    refine cl_new (C := RX2) (T := TX2) (N := 4) (ci := 3) (fs := [.int 0, .null, .null, .null]) S0 hX2 tyX2 tyX2_ok (wz_in (zin2 _ (List.mem_of_getElem? (i := 7) rfl))) (wz_in (zin6 _ (List.mem_of_getElem? (i := 17) rfl))) (wz_in (zin6 _ (List.mem_of_getElem? (i := 18) rfl))) hK hw hS hC.2.2.2.1 rfl (fun z hz => by match z, hz with | 0, _ => rfl | 1, _ => rfl | 2, _ => rfl | 3, _ => rfl) (show cells + 1 ≤ 4 by omega) (show slots + 4 ≤ 364 by omega) dX6_keepEdition_53 (fun q H hw hS => ?_)
    have hqq : (adT ad1 X.length q) (10, X.length) = q := adT_s ad1 X.length q
    have h3q : (adT ad1 X.length q) (3, 0) = ad1 (3, 0) := adT_n _ _ _ (by intro z; cases z)
    have htq : ∀ t : Nat, t ≠ X.length → (adT ad1 X.length q) (10, t) = ad1 (10, t) := fun t ht => adT_n _ _ _ (fun z => ht (Prod.mk.inj z).2)
    refine lv_dup hx hb dX6_keepEdition_56 rfl ?_
    refine lv_iload_n hx hb dX6_keepEdition_57 rfl (lv_at hl 2 rfl) ?_
    refine lv_aload_n hx hb dX6_keepEdition_58 rfl (lv_at hl 3 rfl) ?_
    have F66 : ∀ (H : Heap) (locs : List Loc), zw D A (adT ad1 X.length q) (cL cy (adT ad1 X.length q) τ (X ++ [.inr (3, [.int num, .ref (ad1 (10, 0)), v4, .ref (ad1 (10, tr))])])) H → va_S A s.heap H locs → W p l e (headSpec (wz yX6_keepEdition cX6_keepEdition 6 none) ({ frames := 6, cells := 4, slots := 364, locals := 220 } : Room)).room s m ([.ref (ad (0, 0)), .int (nI (i + 1)), .int num] : List Value).toArray below meth c H locs (cells + 1) (slots + 4) (MQ below (va_Qv (fun (u : CS) => u = cI (cKp τ i num S b sp sl rp rl) 5 0 (0 : Int32)) (CWm D cy A ad) A) ([.ref (ad (0, 0)), .int (nI (i + 1)), .int num] : List Value).toArray s 4 364 A) (F0 m 66 ls [.ref q, .int (nI i), .ref (ad1 (3, 0))]) := by
      intro H locs hw hS
      have e3q : cL cy (adT ad1 X.length q) τ (X ++ [.inr (3, [.int num, .ref (ad1 (10, 0)), v4, .ref (ad1 (10, tr))])]) (3, 0) = some (.inl (cy 5, 20, .inr (.inr (.inr (.inr (fun j => (co τ 7 j).map (fun i => (adT ad1 X.length q) (7, i)))))))) := (cL_n (by decide)).trans (cG_at k30)
      have exq : ∀ t : Nat, t < X.length → cL cy (adT ad1 X.length q) τ (X ++ [.inr (3, [.int num, .ref (ad1 (10, 0)), v4, .ref (ad1 (10, tr))])]) (10, t) = X[t]? := fun t ht => cL_t.trans (List.getElem?_append_left ht)
      have eeq : cL cy (adT ad1 X.length q) τ (X ++ [.inr (3, [.int num, .ref (ad1 (10, 0)), v4, .ref (ad1 (10, tr))])]) (10, X.length) = some (.inr (3, [.int num, .ref (ad1 (10, 0)), v4, .ref (ad1 (10, tr))])) := by rw [cL_t]; simp
      refine W.eq (g2 := F0 m 66 ls [.ref ((adT ad1 X.length q) (10, X.length)), .int (nI i), .ref ((adT ad1 X.length q) (3, 0))]) (by rw [hqq, h3q]) ?_
      refine zr_aast (g := (3, 0)) (gv := (10, X.length)) (r := (RX2, TX2, 4)) S0 hK hw hS 5 3 e3q rfl eeq rfl (vp_in_nI ki (by omega)) dX6_keepEdition_66 (G1 := fun g => if g = (3, 0) then some (.inl (cy 5, 20, .inr (.inr (.inr (.inr (va_up (fun j => (co τ 7 j).map (fun i => (adT ad1 X.length q) (7, i))) i (some ((adT ad1 X.length q) (10, X.length))))))))) else cL cy (adT ad1 X.length q) τ (X ++ [.inr (3, [.int num, .ref (ad1 (10, 0)), v4, .ref (ad1 (10, tr))])]) g) ((if_pos rfl).trans (by rw [nI_clamp (by omega)])) (fun g hg => if_neg hg) (fun H locs hw hS => ?_)
      have hw3 := keep_ren (num := num) (len := S) (b := b) (sp := sp) (sl := sl) (rp := rp) (rl := rl) (i := i) (ts := ts) (tr := tr) (te := X.length) k1v ⟨d1, by omega, by omega, d2, d3, d5⟩ hw ((if_neg (by intro z; cases z)).trans ((exq 0 d6).trans x0)) hO (fun hb => by
        obtain ⟨fS, h1, h2⟩ := xS hb
        exact ⟨fS, (if_neg (by intro z; cases z)).trans ((exq ts (List.getElem?_eq_some_iff.mp h1).1).trans h1), h2⟩) ((if_neg (by intro z; cases z)).trans ((exq tr d4).trans xR)) hR ((if_neg (by intro z; cases z)).trans (eeq.trans (by rw [htq 0 (by omega), htq tr (by omega), htq ts d5, hv4]))) (if_pos rfl) (fun g h1 h2 => (if_neg h1).trans (by obtain ⟨kd, j⟩ := g; exact cL_n (fun z => by subst z; have h3 : (10 : Nat) ≤ 9 := h2; omega)))
      refine W.widen (k := 4) (n := 364) (by omega) (by omega) ?_
      exact E67 _ _ _ _ (fun k j hk => (adK_n (by omega) (by omega)).trans ((adT_k ad1 X.length q k j (by omega)).trans (ha k j (by omega)))) hw3 hS (lv_at hl 0 rfl)
    subst hv4
    cases b with
    | true =>
      refine lv_aload hx hb dX6_keepEdition_59 (lv_at hl 4 rfl) ?_
      refine lv_aload hx hb dX6_keepEdition_61 (lv_at hl 5 rfl) ?_
      refine va_callv (va_runIN (As := [.int num, .ref (ad1 (10, 0)), .ref (ad1 (10, ts)), .ref (ad1 (10, tr))]) (rest := [.ref q, .int (nI i), .ref (ad1 (3, 0))]) S0 (kc_X2_initS l D cy A (adT ad1 X.length q) τ X q num (ad1 (10, 0)) (ad1 (10, ts)) (ad1 (10, tr)) hqq) ⟨va_cnB 4 hts (wz_gd (zin7 _ (List.mem_of_getElem? (i := 23) rfl))) rfl rfl rfl (hN.2 _ (List.mem_of_getElem? (i := 2) rfl)) (hts _ (wz_in (zin6 _ (List.mem_of_getElem? (i := 18) rfl)))) (by decide +kernel) ⟨Nat.le_of_ble_eq_true rfl, Nat.le_of_ble_eq_true rfl⟩, rfl, hts _ (wz_in (zin7 _ (List.mem_of_getElem? (i := 22) rfl)))⟩ ⟨pb_X2_initS D cy A (adT ad1 X.length q) τ X _, fun U hU hW => ⟨rfl, by rw [hU]; exact hw, va_K.moved hW.alike hK, fun z hz => hC.2.2.2.1 z (Nat.le_trans hS.1 (by rw [← hU]; exact hz))⟩⟩ rfl rfl hl.1 rfl (lv_room (Nat.le_of_ble_eq_true rfl)) dX6_keepEdition_63 ⟨by show cells + 1 + 0 ≤ 4; omega, by show slots + 4 + 0 ≤ 364; omega⟩) hS (fun q _ h => h) (fun q h => h) (fun u t H1 locs1 ht hvm hq hB hz1 hk1 hS1 => ?_)
      have hB : zw D A (adT ad1 X.length q) (cL cy (adT ad1 X.length q) τ (X ++ [.inr (3, [.int num, .ref (ad1 (10, 0)), .ref (ad1 (10, ts)), .ref (ad1 (10, tr))])])) t.heap := hB
      rw [ht] at hB
      exact F66 H1 locs1 hB hS1
    | false =>
      refine lv_aloadN hx hb dX6_keepEdition_59 (lv_at hl 4 rfl) ?_
      refine lv_aload hx hb dX6_keepEdition_61 (lv_at hl 5 rfl) ?_
      refine va_callv (va_runIN (As := [.int num, .ref (ad1 (10, 0)), .null, .ref (ad1 (10, tr))]) (rest := [.ref q, .int (nI i), .ref (ad1 (3, 0))]) S0 (kc_X2_init l D cy A (adT ad1 X.length q) τ X q num (ad1 (10, 0)) (ad1 (10, tr)) hqq) ⟨va_cnB 4 hts (wz_gd (zin7 _ (List.mem_of_getElem? (i := 23) rfl))) rfl rfl rfl (hN.2 _ (List.mem_of_getElem? (i := 2) rfl)) (hts _ (wz_in (zin6 _ (List.mem_of_getElem? (i := 18) rfl)))) (by decide +kernel) ⟨Nat.le_of_ble_eq_true rfl, Nat.le_of_ble_eq_true rfl⟩, rfl, hts _ (wz_in (zin7 _ (List.mem_of_getElem? (i := 22) rfl)))⟩ ⟨pb_X2_init D cy A (adT ad1 X.length q) τ X _, fun U hU hW => ⟨rfl, by rw [hU]; exact hw, va_K.moved hW.alike hK, fun z hz => hC.2.2.2.1 z (Nat.le_trans hS.1 (by rw [← hU]; exact hz))⟩⟩ rfl rfl hl.1 rfl (lv_room (Nat.le_of_ble_eq_true rfl)) dX6_keepEdition_63 ⟨by show cells + 1 + 0 ≤ 4; omega, by show slots + 4 + 0 ≤ 364; omega⟩) hS (fun q _ h => h) (fun q h => h) (fun u t H1 locs1 ht hvm hq hB hz1 hk1 hS1 => ?_)
      have hB : zw D A (adT ad1 X.length q) (cL cy (adT ad1 X.length q) τ (X ++ [.inr (3, [.int num, .ref (ad1 (10, 0)), .null, .ref (ad1 (10, tr))])])) t.heap := hB
      rw [ht] at hB
      exact F66 H1 locs1 hB hS1
  refine lv_aload_n hx hb dX6_keepEdition_0 rfl (lv_at hl 0 rfl) ?_
  refine cr_get (v := .ref (ad (9, 0))) S0 hK hw 0 0 k00 hX6 rfl rfl 4 (by decide) (wz_in (zin2 _ (List.mem_of_getElem? (i := 14) rfl))) rfl rfl dX6_keepEdition_1 ?_
  refine lv_iconst (v := nI 0) hx hb dX6_keepEdition_4 (by decide) ?_
  refine lv_aload_n hx hb dX6_keepEdition_5 rfl (lv_at hl 0 rfl) ?_
  refine cr_get (v := .int (ci τ 5 0)) S0 hK hw 0 0 k00 hX6 rfl rfl 5 (by decide) (wz_in (zin4 _ (List.mem_of_getElem? (i := 18) rfl))) rfl rfl dX6_keepEdition_6 ?_
  rw [kS]
  refine va_callr (va_runS (As := [.ref (ad (9, 0)), .int (nI 0), .int (nI S)]) (rest := []) S0 (kt_X6_copyOf l D cy A ad τ [] (9, 0) 120 (cb τ 0) 0 S hg0 kB (by omega) (by omega)) (va_cwS 3 hts (wz_S (zin6 _ (List.mem_of_getElem? (i := 21) rfl)) (zin6 _ (List.mem_of_getElem? (i := 19) rfl)) (zin6 _ (List.mem_of_getElem? (i := 20) rfl)) (zin1 _ (List.mem_of_getElem? (i := 2) rfl))) rfl rfl rfl (by decide +kernel) ⟨Nat.le_of_ble_eq_true rfl, Nat.le_of_ble_eq_true rfl⟩) ⟨pt_blind _, pt_pre hP hP.1 hS _⟩ rfl rfl hl.1 rfl (lv_room (Nat.le_of_ble_eq_true rfl)) dX6_keepEdition_9 ⟨Nat.le_of_ble_eq_true rfl, Nat.le_of_ble_eq_true rfl⟩) hS (fun _ _ h => h) (fun _ h => h) (fun u q0 t H1 locs1 ht hvm hq hM hz1 hk1 hS1 => ?_)
  rw [ht] at hM
  obtain ⟨fO, hO, hw1⟩ := hM
  have hS := hS1
  have hO : ∀ j, j < S → fO j = cb τ 0 j := fun j hj => by rw [hO j hj, Nat.zero_add]
  have hw1 : zw D A (adT ad 0 q0) (cL cy (adT ad 0 q0) τ [.inl (cy 0, S, .inl fO)]) H1 := hw1
  have hOB : ∀ j, j < S → isB (fO j) := fun j hj => by rw [hO j hj]; exact kB j (by omega)
  have hok1 : okF S fO 121 0 := okF_congr (fun j hj => (hO j hj).symm) _ _ kok
  have hc1 : cOf S fO 1 121 0 = (if b = true then some (sp, sl) else none) := (cOf_congr hO _ _ hok1).trans ks
  have hc2 : cOf S fO 2 121 0 = some (rp, rl) := (cOf_congr hO _ _ hok1).trans kr
  have hq00 : adT ad 0 q0 (10, 0) = q0 := adT_s ad 0 q0
  refine lv_astore_n (lv' := [(3, .ref q0), (0, .ref (ad (0, 0))), (1, .int (nI (i + 1))), (2, .int num)]) hx hb dX6_keepEdition_12 rfl hl (by decide) rfl (fun ls hl => ?_)
  refine lv_aload_n hx hb dX6_keepEdition_13 rfl (lv_at hl 0 rfl) ?_
  refine lv_iconst (v := nI 1) hx hb dX6_keepEdition_14 (by decide) ?_
  rw [← hq00] at hl ⊢
  refine va_callq (va_runS (As := [.ref (adT ad 0 q0 (10, 0)), .int (nI 1)]) (rest := []) S0 (kt_X6_codeOf l D cy A (adT ad 0 q0) τ [.inl (cy 0, S, .inl fO)] (10, 0) S fO 1 121 cL_t hOB hok1 (by omega) kS2) (va_cwS 2 hts (wz_S (zin7 _ (List.mem_of_getElem? (i := 21) rfl)) (zin7 _ (List.mem_of_getElem? (i := 19) rfl)) (zin7 _ (List.mem_of_getElem? (i := 20) rfl)) (zin1 _ (List.mem_of_getElem? (i := 2) rfl))) rfl rfl rfl (by decide +kernel) ⟨Nat.le_of_ble_eq_true rfl, Nat.le_of_ble_eq_true rfl⟩) ⟨pt_blind _, pt_pre hP hw1 hS _⟩ rfl rfl hl.1 rfl (lv_room (Nat.le_of_ble_eq_true rfl)) dX6_keepEdition_15 ⟨Nat.le_of_ble_eq_true rfl, Nat.le_of_ble_eq_true rfl⟩) hS (fun _ _ h => h) (fun _ h => h) (fun r u t H2 locs2 ht2 hvm hq hM hz1 hk1 hS2 => ?_)
  have hq := hq.symm
  subst hq
  rw [ht2] at hM
  have hS := hS2
  rcases hM with ⟨rfl, hcn, hw2⟩ | ⟨fr, sz, q1, rfl, hcs, hfs, fS, hfS, hw2⟩
  · have hbf : b = false := by
      rw [hc1] at hcn
      cases b with
      | true => cases hcn
      | false => rfl
    have ha0 : (adT ad 0 q0) (10, 0) = adT ad 0 q0 (10, 0) := rfl
    refine lv_astoreN (lv' := [(4, .null), (3, .ref (adT ad 0 q0 (10, 0))), (0, .ref (ad (0, 0))), (1, .int (nI (i + 1))), (2, .int num)]) hx hb dX6_keepEdition_18 hl (by decide) rfl (fun ls hl => ?_)
    refine lv_aload_n hx hb dX6_keepEdition_20 rfl (lv_at hl 1 rfl) ?_
    refine lv_iconst (v := nI 2) hx hb dX6_keepEdition_21 (by decide) ?_
    rw [← ha0] at hl ⊢
    refine va_callq (va_runS (As := [.ref ((adT ad 0 q0) (10, 0)), .int (nI 2)]) (rest := []) S0 (kt_X6_codeOf l D cy A (adT ad 0 q0) τ [.inl (cy 0, S, .inl fO)] (10, 0) S fO 2 121 cL_t hOB hok1 (by omega) kS2) (va_cwS 2 hts (wz_S (zin7 _ (List.mem_of_getElem? (i := 21) rfl)) (zin7 _ (List.mem_of_getElem? (i := 19) rfl)) (zin7 _ (List.mem_of_getElem? (i := 20) rfl)) (zin1 _ (List.mem_of_getElem? (i := 2) rfl))) rfl rfl rfl (by decide +kernel) ⟨Nat.le_of_ble_eq_true rfl, Nat.le_of_ble_eq_true rfl⟩) ⟨pt_blind _, pt_pre hP hw2 hS _⟩ rfl rfl hl.1 rfl (lv_room (Nat.le_of_ble_eq_true rfl)) dX6_keepEdition_22 ⟨Nat.le_of_ble_eq_true rfl, Nat.le_of_ble_eq_true rfl⟩) hS (fun _ _ h => h) (fun _ h => h) (fun r u t H3 locs3 ht3 hvm hq hM hz1 hk1 hS3 => ?_)
    have hq := hq.symm
    subst hq
    rw [ht3] at hM
    have hS := hS3
    rcases hM with ⟨-, hcn3, -⟩ | ⟨fr2, sz2, q2, rfl, hcs3, hfs3, fR, hfR, hw3⟩
    · rw [hc2] at hcn3; cases hcn3
    have hcr : (rp, rl) = (fr2, sz2) := by rw [hc2] at hcs3; exact Option.some.inj hcs3
    have hfr2 : fr2 = rp := (Prod.mk.inj hcr).1.symm
    have hsz2 : sz2 = rl := (Prod.mk.inj hcr).2.symm
    subst hfr2
    subst hsz2
    have hw3 : zw D A (adT (adT ad 0 q0) 1 q2) (cL cy (adT (adT ad 0 q0) 1 q2) τ [.inl (cy 0, S, .inl fO), .inl (cy 0, sz2, .inl fR)]) H3 := hw3
    have hq2 : (adT (adT ad 0 q0) 1 q2) (10, 1) = q2 := adT_s _ 1 q2
    have hb0 : (adT (adT ad 0 q0) 1 q2) (10, 0) = (adT ad 0 q0) (10, 0) := adT_n _ _ _ (by intro z; cases z)
    refine lv_astore (lv' := [(5, .ref q2), (4, .null), (3, .ref ((adT ad 0 q0) (10, 0))), (0, .ref (ad (0, 0))), (1, .int (nI (i + 1))), (2, .int num)]) hx hb dX6_keepEdition_25 hl (by decide) rfl (fun ls hl => ?_)
    rw [← hb0, ← hq2] at hl
    have hfR2 : ∀ j, j < sz2 → fR j = cb τ 0 (fr2 + j) := fun j hj => (hfR j hj).trans (hO _ (by omega))
    exact MK (adT (adT ad 0 q0) 1 q2) [.inl (cy 0, S, .inl fO), .inl (cy 0, sz2, .inl fR)] (.null) 9 1 fO fR H3 locs3 ls _ _ (Nat.le_of_ble_eq_true rfl) (Nat.le_of_ble_eq_true rfl) (fun k j hk => (adT_k _ 1 q2 k j hk).trans ((adT_k ad 0 q0 k j hk))) ⟨by decide, by decide, by decide, Nat.lt_of_lt_of_le (show 1 < 2 by decide) (Nat.le_refl _), by show ¬ (9 = 2); decide, Nat.zero_lt_succ _⟩ rfl hO (fun h => by rw [hbf] at h; cases h) rfl hfR2 (by rw [hbf]; rfl) hw3 hS (lv_sub hl [3, 4, 5, 2, 1, 0] rfl)
  · have hbt : b = true := by
      rw [hc1] at hcs
      cases b with
      | true => rfl
      | false => cases hcs
    have hcs2 : (sp, sl) = (fr, sz) := by rw [hc1, if_pos hbt] at hcs; exact Option.some.inj hcs
    have hfr : fr = sp := (Prod.mk.inj hcs2).1.symm
    have hsz : sz = sl := (Prod.mk.inj hcs2).2.symm
    subst hfr
    subst hsz
    have hw2 : zw D A (adT (adT ad 0 q0) 1 q1) (cL cy (adT (adT ad 0 q0) 1 q1) τ [.inl (cy 0, S, .inl fO), .inl (cy 0, sz, .inl fS)]) H2 := hw2
    have hq1 : (adT (adT ad 0 q0) 1 q1) (10, 1) = q1 := adT_s _ 1 q1
    have ha0 : (adT (adT ad 0 q0) 1 q1) (10, 0) = adT ad 0 q0 (10, 0) := adT_n _ _ _ (by intro z; cases z)
    refine lv_astore (lv' := [(4, .ref q1), (3, .ref (adT ad 0 q0 (10, 0))), (0, .ref (ad (0, 0))), (1, .int (nI (i + 1))), (2, .int num)]) hx hb dX6_keepEdition_18 hl (by decide) rfl (fun ls hl => ?_)
    refine lv_aload_n hx hb dX6_keepEdition_20 rfl (lv_at hl 1 rfl) ?_
    refine lv_iconst (v := nI 2) hx hb dX6_keepEdition_21 (by decide) ?_
    rw [← ha0] at hl ⊢
    refine va_callq (va_runS (As := [.ref ((adT (adT ad 0 q0) 1 q1) (10, 0)), .int (nI 2)]) (rest := []) S0 (kt_X6_codeOf l D cy A (adT (adT ad 0 q0) 1 q1) τ [.inl (cy 0, S, .inl fO), .inl (cy 0, sz, .inl fS)] (10, 0) S fO 2 121 cL_t hOB hok1 (by omega) kS2) (va_cwS 2 hts (wz_S (zin7 _ (List.mem_of_getElem? (i := 21) rfl)) (zin7 _ (List.mem_of_getElem? (i := 19) rfl)) (zin7 _ (List.mem_of_getElem? (i := 20) rfl)) (zin1 _ (List.mem_of_getElem? (i := 2) rfl))) rfl rfl rfl (by decide +kernel) ⟨Nat.le_of_ble_eq_true rfl, Nat.le_of_ble_eq_true rfl⟩) ⟨pt_blind _, pt_pre hP hw2 hS _⟩ rfl rfl hl.1 rfl (lv_room (Nat.le_of_ble_eq_true rfl)) dX6_keepEdition_22 ⟨Nat.le_of_ble_eq_true rfl, Nat.le_of_ble_eq_true rfl⟩) hS (fun _ _ h => h) (fun _ h => h) (fun r u t H3 locs3 ht3 hvm hq hM hz1 hk1 hS3 => ?_)
    have hq := hq.symm
    subst hq
    rw [ht3] at hM
    have hS := hS3
    rcases hM with ⟨-, hcn3, -⟩ | ⟨fr2, sz2, q2, rfl, hcs3, hfs3, fR, hfR, hw3⟩
    · rw [hc2] at hcn3; cases hcn3
    have hcr : (rp, rl) = (fr2, sz2) := by rw [hc2] at hcs3; exact Option.some.inj hcs3
    have hfr2 : fr2 = rp := (Prod.mk.inj hcr).1.symm
    have hsz2 : sz2 = rl := (Prod.mk.inj hcr).2.symm
    subst hfr2
    subst hsz2
    have hw3 : zw D A (adT (adT (adT ad 0 q0) 1 q1) 2 q2) (cL cy (adT (adT (adT ad 0 q0) 1 q1) 2 q2) τ [.inl (cy 0, S, .inl fO), .inl (cy 0, sz, .inl fS), .inl (cy 0, sz2, .inl fR)]) H3 := hw3
    have hq2 : (adT (adT (adT ad 0 q0) 1 q1) 2 q2) (10, 2) = q2 := adT_s _ 2 q2
    have hb0 : (adT (adT (adT ad 0 q0) 1 q1) 2 q2) (10, 0) = (adT (adT ad 0 q0) 1 q1) (10, 0) := adT_n _ _ _ (by intro z; cases z)
    refine lv_astore (lv' := [(5, .ref q2), (4, .ref q1), (3, .ref ((adT (adT ad 0 q0) 1 q1) (10, 0))), (0, .ref (ad (0, 0))), (1, .int (nI (i + 1))), (2, .int num)]) hx hb dX6_keepEdition_25 hl (by decide) rfl (fun ls hl => ?_)
    rw [← hb0, ← hq2] at hl
    have hb1 : (adT (adT (adT ad 0 q0) 1 q1) 2 q2) (10, 1) = q1 := (adT_n _ _ _ (by intro z; cases z)).trans hq1
    have hfS2 : ∀ j, j < sz → fS j = cb τ 0 (fr + j) := fun j hj => (hfS j hj).trans (hO _ (by omega))
    have hfR2 : ∀ j, j < sz2 → fR j = cb τ 0 (fr2 + j) := fun j hj => (hfR j hj).trans (hO _ (by omega))
    exact MK (adT (adT (adT ad 0 q0) 1 q1) 2 q2) [.inl (cy 0, S, .inl fO), .inl (cy 0, sz, .inl fS), .inl (cy 0, sz2, .inl fR)] (.ref q1) 1 2 fO fR H3 locs3 ls _ _ (Nat.le_of_ble_eq_true rfl) (Nat.le_of_ble_eq_true rfl) (fun k j hk => (adT_k _ 2 q2 k j hk).trans ((adT_k _ 1 q1 k j hk).trans (adT_k ad 0 q0 k j hk))) ⟨by decide, by decide, by decide, Nat.lt_of_lt_of_le (show 2 < 3 by decide) (Nat.le_refl _), by show ¬ (1 = 3); decide, Nat.zero_lt_succ _⟩ rfl hO (fun _ => ⟨fS, rfl, hfS2⟩) rfl hfR2 (by rw [if_pos hbt, hb1]) hw3 hS (lv_sub hl [3, 4, 5, 2, 1, 0] rfl)
