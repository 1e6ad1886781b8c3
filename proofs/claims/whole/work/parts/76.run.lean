/-! ===== a runnable or an edition added, over the machine ===== -/
def KAddR (τ : CS) (r : Int32) (τ' : CS) : Prop := cv τ 0 0 = true ∧ ((¬ ci τ 6 0 < 20 ∧ k_X6_refuse τ (-4) = some (r, τ')) ∨ (ci τ 6 0 < 20 ∧ ∃ (i S : Nat) (b : Bool) (sp sl rp rl : Nat), ci τ 6 0 + 1 = nI (i + 1) ∧ KeepOk (cI τ 6 0 (nI (i + 1))) i S b sp sl rp rl ∧ τ' = cI (cKp (cI τ 6 0 (nI (i + 1))) i (1 : Int32) S b sp sl rp rl) 5 0 (0 : Int32) ∧ r = nI (i + 1)))
def KAddE (τ : CS) (x1 x2 : Int32) (r : Int32) (τ' : CS) : Prop := cv τ 0 0 = true ∧ ((¬ x2 < 9 ∧ k_X6_refuse τ (-4) = some (r, τ')) ∨ (x2 < 9 ∧ ∃ (i S : Nat) (b : Bool) (sp sl rp rl : Nat), x1 = nI (i + 1) ∧ KeepOk τ i S b sp sl rp rl ∧ τ' = cI (cKp τ i (x2 + 1) S b sp sl rp rl) 5 0 (0 : Int32) ∧ r = x2 + 1))
def KRun (τ : CS) (x1 : Int32) (r : Int32) (τ' : CS) : Prop := cv τ 0 0 = true ∧ cv τ 9 0 = true ∧ ∃ o : Option Nat, k_X6_newestOf τ x1 = some (o, τ) ∧ ((¬ x1 = 0 ∧ o = none ∧ k_X6_refuse τ (-1) = some (r, τ')) ∨ ((x1 = 0 ∨ ∃ n, o = some n) ∧ ∃ q : Int32, k_X6_isRight τ 0 (ci τ 5 0) = some (q, τ) ∧ ((q = 0 ∧ k_X6_refuse (cI τ 5 0 (0 : Int32)) (-2) = some (r, τ')) ∨ (¬ q = 0 ∧ ((o = none ∧ KAddR τ r τ') ∨ ∃ n, o = some n ∧ cv τ 7 n = true ∧ KAddE τ x1 (ci τ 700 n) r τ')))))
section CMF
variable {p : Program} {l : Launch} {e : Env} {R : Room} {s : State} {m : MethodId} {args : Array Value} {below : List Frame} {meth : Method} {c : Code} {H : Heap} {locs : List Loc} {cells slots : Nat} {Q : State → Prop}
variable {pc : Nat} {ls : Array Slot} {rest st : List Value} {a : Array Value} {D : va_G} {A : Nat → Prop} {cy : Nat → ClassId} {H0 : Heap} {ad : Nat × Nat → Nat} {σ' : CS} {mc ms : Nat}
theorem cm_fi {r : Int32} (hr : va_Run p l e R s m args below meth c H locs cells slots mc ms (F0 m pc ls st) rest (va_Qi (fun (r' : Int32) (u : CS) => r' = r ∧ u = σ') (CWm D cy A ad) A a) A) (hS : va_S A H0 H locs) (kk : ∀ (ad1 : Nat × Nat → Nat) (H1 : Heap) (locs1 : List Loc), (∀ k i, k ≤ 5 → ad1 (k, i) = ad (k, i)) → zw D A ad1 (cG cy ad1 σ') H1 → va_S A H0 H1 locs1 → W p l e R s m args below meth c H1 locs1 (cells + mc) (slots + ms) Q (F0 m (pc + 3) ls (.int r :: rest))) : W p l e R s m args below meth c H locs cells slots Q (F0 m pc ls st) := by
  refine va_calli hr hS (fun q _ h => h) (fun q h => h) (fun r1 u t H1 locs1 ht hvm hq hB hz1 hk1 hS1 => ?_)
  obtain ⟨rfl, rfl⟩ := hq
  subst ht
  obtain ⟨ad1, h1, h2⟩ := hB
  exact kk _ _ _ h1 h2 hS1
theorem cm_fv (hr : va_Run p l e R s m args below meth c H locs cells slots mc ms (F0 m pc ls st) rest (va_Qv (fun (u : CS) => u = σ') (CWm D cy A ad) A a) A) (hS : va_S A H0 H locs) (kk : ∀ (ad1 : Nat × Nat → Nat) (H1 : Heap) (locs1 : List Loc), (∀ k i, k ≤ 5 → ad1 (k, i) = ad (k, i)) → zw D A ad1 (cG cy ad1 σ') H1 → va_S A H0 H1 locs1 → W p l e R s m args below meth c H1 locs1 (cells + mc) (slots + ms) Q (F0 m (pc + 3) ls rest)) : W p l e R s m args below meth c H locs cells slots Q (F0 m pc ls st) := by
  refine va_callv hr hS (fun q _ h => h) (fun q h => h) (fun u t H1 locs1 ht hvm hq hB hz1 hk1 hS1 => ?_)
  subst hq
  subst ht
  obtain ⟨ad1, h1, h2⟩ := hB
  exact kk _ _ _ h1 h2 hS1
end CMF
set_option maxHeartbeats 4000000 in
set_option maxRecDepth 100000 in
theorem kc_X6_addRunnable (l : Launch) (D : va_G) (cy : Nat → ClassId) (A : Nat → Prop) (ad : Nat × Nat → Nat) (en : Nat → Nat) (tI tS : Nat) (τ τ' : CS)  (r : Int32) (hf : KAddR τ r τ') : Met l yX6_addRunnable (wz yX6_addRunnable cX6_addRunnable 1 (some .int)) ({ frames := 7, cells := 4, slots := 364, locals := 260 } : Room) (va_Pc [.ref (ad (0, 0))] (CWs D cy A ad en tI tS τ)) (va_Qi (fun (r' : Int32) (u : CS) => r' = r ∧ u = τ') (CWm D cy A ad) A) 4 364 A := by
  obtain ⟨g00, hf⟩ := hf
  refine Met.ofW (cc := cX6_addRunnable) (maxL := 1) (ret := (some .int)) (by decide) rfl ?_
  intro p e s m args below meth c s₁ B hml hv
  obtain ⟨rfl, hw, hC⟩ := hv
  have hK := hC.1
  have hN := hC.2.1
  have hx := B.exec
  have hb := B.bytes
  have hr := B.returns
  have hts := atoms_spec (ws := (wz yX6_addRunnable cX6_addRunnable 1 (some .int))) B.pre
  have hown : s.vm.findClass RX6 = some m.cls := findClass_of_methodNamed B.named
  have hlocks := B.notSynchronized
  have S : CallFix p m c cX6_addRunnable 1 s ([.ref (ad (0, 0))] : List Value).toArray (wz yX6_addRunnable cX6_addRunnable 1 (some .int)) RX6 := ⟨hx, hb, hml, hown, hts⟩
  have hX6 : ∀ w ∈ wsX60, w ∈ (wz yX6_addRunnable cX6_addRunnable 1 (some .int)) := fun w h => wz_in (inlX6 w h)
  have hX2 : ∀ w ∈ wsX20, w ∈ (wz yX6_addRunnable cX6_addRunnable 1 (some .int)) := fun w h => wz_in (inlX2 w h)
  have hS : va_S A s.heap s.heap [] := va_S.rf
  have hl := lv_entry ([.ref (ad (0, 0))]) (n := 1) (Nat.le_of_ble_eq_true rfl)
  rw [lg_entry_eq]
  generalize (lg_sl ([.ref (ad (0, 0))]) ++ List.replicate (1 - (lg_sl ([.ref (ad (0, 0))])).length) Slot.unset).toArray = ls at hl ⊢
  have hl : lv_has ls 1 [(0, .ref (ad (0, 0)))] := hl
  refine lv_aload_n hx hb dX6_addRunnable_0 rfl (lv_at hl 0 rfl) ?_
  refine cr_get (v := .int (ci τ 6 0)) S hK hw 0 0 g00 hX6 rfl rfl 6 (by decide) (wz_in (zin6 _ (List.mem_of_getElem? (i := 12) rfl))) rfl rfl dX6_addRunnable_1 ?_
  refine lv_bipush (v := (20 : Int32)) hx hb dX6_addRunnable_4 (by decide) ?_
  refine lv_icmp_lt (tgt := 16) hx hb dX6_addRunnable_6 (by decide) (fun c_0 => ?_) (fun c_0 => ?_)
  · rcases hf with ⟨h, -⟩ | ⟨-, i, S9, b, sp, sl, rp, rl, hi, hk, rfl, rfl⟩
    · exact absurd c_0 h
    · refine lv_aload_n hx hb dX6_addRunnable_16 rfl (lv_at hl 0 rfl) ?_
      refine lv_dup hx hb dX6_addRunnable_17 rfl ?_
      refine cr_get (v := .int (ci τ 6 0)) S hK hw 0 0 g00 hX6 rfl rfl 6 (by decide) (wz_in (zin6 _ (List.mem_of_getElem? (i := 12) rfl))) rfl rfl dX6_addRunnable_18 ?_
      refine lv_iconst (v := (1 : Int32)) hx hb dX6_addRunnable_21 (by decide) ?_
      refine lv_iadd hx hb dX6_addRunnable_22 ?_
      rw [hi]
      refine cr_put (v := .int (nI (i + 1))) (σ1 := cI τ 6 0 (nI (i + 1))) S hK hw hS 0 0 g00 hX6 tyX6 tyX6_ok nmX6 rfl rfl 6 (by decide) (wz_in (zin6 _ (List.mem_of_getElem? (i := 12) rfl))) rfl rfl rfl rfl (Nat.le_of_ble_eq_true rfl) dX6_addRunnable_23 rfl (cput_6 _ _ _ _ _) (cout_6 _ _ _ _ _) (fun H locs hw hS => ?_)
      have g01 : cv (cI τ 6 0 (nI (i + 1))) 0 0 = true := g00
      refine lv_aload_n hx hb dX6_addRunnable_26 rfl (lv_at hl 0 rfl) ?_
      refine lv_aload_n hx hb dX6_addRunnable_27 rfl (lv_at hl 0 rfl) ?_
      refine cr_get (v := .int (nI (i + 1))) S hK hw 0 0 g01 hX6 rfl rfl 6 (by decide) (wz_in (zin6 _ (List.mem_of_getElem? (i := 12) rfl))) rfl (by simp [cF0, ci_I]) dX6_addRunnable_28 ?_
      refine lv_iconst (v := (1 : Int32)) hx hb dX6_addRunnable_31 (by decide) ?_
      refine cm_fv (va_runV (As := [.int (nI (i + 1)), .int (1 : Int32)]) (rest := []) S (kc_X6_keepEdition l D cy A ad en tI tS _ i S9 (1 : Int32) b sp sl rp rl hk) (cwV 2 hts (wz_V (zin6 _ (List.mem_of_getElem? (i := 16) rfl)) (zin6 _ (List.mem_of_getElem? (i := 13) rfl)) (zin6 _ (List.mem_of_getElem? (i := 14) rfl)) (zin6 _ (List.mem_of_getElem? (i := 15) rfl)) (zin1 _ (List.mem_of_getElem? (i := 2) rfl))) rfl rfl rfl (by decide +kernel) ⟨Nat.le_of_ble_eq_true rfl, Nat.le_of_ble_eq_true rfl⟩) ⟨cw_blind _, zw_recv hK hw (g := (0, 0)) (cG_at g01) rfl, cw_pre hC hw hS _⟩ rfl rfl hl.1 rfl (lv_room (Nat.le_of_ble_eq_true rfl)) dX6_addRunnable_32 ⟨Nat.le_of_ble_eq_true rfl, Nat.le_of_ble_eq_true rfl⟩) hS (fun ad1 H locs ha hw hS => ?_)
      refine lv_aload_n hx hb dX6_addRunnable_35 rfl (lv_at hl 0 rfl) ?_
      refine W.eq (g2 := F0 m 36 ls [.ref (ad1 (0, 0))]) (by rw [ha 0 0 (by decide)]) ?_
      have g02 : cv (cI (cKp (cI τ 6 0 (nI (i + 1))) i (1 : Int32) S9 b sp sl rp rl) 5 0 (0 : Int32)) 0 0 = true := by rw [cv_I, cv_K, if_neg (by omega), if_neg (by omega), if_neg (by omega), if_neg (by omega), if_neg (by omega), if_neg (by omega)]; exact g00
      refine cr_get (v := .int (nI (i + 1))) S hK hw 0 0 g02 hX6 rfl rfl 6 (by decide) (wz_in (zin6 _ (List.mem_of_getElem? (i := 12) rfl))) rfl (by simp [cF0, ci_I, ci_K]) dX6_addRunnable_36 ?_
      exact cm_reti S hr rfl ha hw hS hlocks dX6_addRunnable_39
  · rcases hf with ⟨-, h⟩ | ⟨h, -⟩
    · refine lv_aload_n hx hb dX6_addRunnable_9 rfl (lv_at hl 0 rfl) ?_
      refine lv_bipush (v := (-4 : Int32)) hx hb dX6_addRunnable_10 (by decide) ?_
      refine cw_fi (va_runV (As := [.int (-4 : Int32)]) (rest := []) S (kc_X6_refuse l D cy A ad en tI tS _ _ (-4 : Int32) _ h) (cwV 1 hts (wz_V (zin4 _ (List.mem_of_getElem? (i := 22) rfl)) (zin4 _ (List.mem_of_getElem? (i := 19) rfl)) (zin4 _ (List.mem_of_getElem? (i := 20) rfl)) (zin4 _ (List.mem_of_getElem? (i := 21) rfl)) (zin1 _ (List.mem_of_getElem? (i := 2) rfl))) rfl rfl rfl (by decide +kernel) ⟨Nat.le_of_ble_eq_true rfl, Nat.le_of_ble_eq_true rfl⟩) ⟨cw_blind _, zw_recv hK hw (g := (0, 0)) (cG_at g00) rfl, cw_pre hC hw hS _⟩ rfl rfl hl.1 rfl (lv_room (Nat.le_of_ble_eq_true rfl)) dX6_addRunnable_12 ⟨Nat.zero_le _, Nat.zero_le _⟩) hS (fun H locs hw hS => ?_)
      refine W.widen (k := 4) (n := 364) (Nat.zero_le _) (Nat.zero_le _) ?_
      exact cm_reti S hr rfl (fun _ _ _ => rfl) hw hS hlocks dX6_addRunnable_15
    · exact absurd h c_0
set_option maxHeartbeats 4000000 in
set_option maxRecDepth 100000 in
theorem kc_X6_addEdition (l : Launch) (D : va_G) (cy : Nat → ClassId) (A : Nat → Prop) (ad : Nat × Nat → Nat) (en : Nat → Nat) (tI tS : Nat) (τ τ' : CS) (x1 x2 : Int32) (r : Int32) (hf : KAddE τ x1 x2 r τ') : Met l yX6_addEdition (wz yX6_addEdition cX6_addEdition 3 (some .int)) ({ frames := 7, cells := 4, slots := 364, locals := 260 } : Room) (va_Pc [.ref (ad (0, 0)), .int x1, .int x2] (CWs D cy A ad en tI tS τ)) (va_Qi (fun (r' : Int32) (u : CS) => r' = r ∧ u = τ') (CWm D cy A ad) A) 4 364 A := by
  obtain ⟨g00, hf⟩ := hf
  refine Met.ofW (cc := cX6_addEdition) (maxL := 3) (ret := (some .int)) (by decide) rfl ?_
  intro p e s m args below meth c s₁ B hml hv
  obtain ⟨rfl, hw, hC⟩ := hv
  have hK := hC.1
  have hN := hC.2.1
  have hx := B.exec
  have hb := B.bytes
  have hr := B.returns
  have hts := atoms_spec (ws := (wz yX6_addEdition cX6_addEdition 3 (some .int))) B.pre
  have hown : s.vm.findClass RX6 = some m.cls := findClass_of_methodNamed B.named
  have hlocks := B.notSynchronized
  have S : CallFix p m c cX6_addEdition 3 s ([.ref (ad (0, 0)), .int x1, .int x2] : List Value).toArray (wz yX6_addEdition cX6_addEdition 3 (some .int)) RX6 := ⟨hx, hb, hml, hown, hts⟩
  have hX6 : ∀ w ∈ wsX60, w ∈ (wz yX6_addEdition cX6_addEdition 3 (some .int)) := fun w h => wz_in (inlX6 w h)
  have hX2 : ∀ w ∈ wsX20, w ∈ (wz yX6_addEdition cX6_addEdition 3 (some .int)) := fun w h => wz_in (inlX2 w h)
  have hS : va_S A s.heap s.heap [] := va_S.rf
  have hl := lv_entry ([.ref (ad (0, 0)), .int x1, .int x2]) (n := 3) (Nat.le_of_ble_eq_true rfl)
  rw [lg_entry_eq]
  generalize (lg_sl ([.ref (ad (0, 0)), .int x1, .int x2]) ++ List.replicate (3 - (lg_sl ([.ref (ad (0, 0)), .int x1, .int x2])).length) Slot.unset).toArray = ls at hl ⊢
  have hl : lv_has ls 3 [(0, .ref (ad (0, 0))), (1, .int x1), (2, .int x2)] := hl
  refine lv_iload_n hx hb dX6_addEdition_0 rfl (lv_at hl 2 rfl) ?_
  refine lv_bipush (v := (9 : Int32)) hx hb dX6_addEdition_1 (by decide) ?_
  refine lv_icmp_lt (tgt := 13) hx hb dX6_addEdition_3 (by decide) (fun c_0 => ?_) (fun c_0 => ?_)
  · rcases hf with ⟨h, -⟩ | ⟨-, i, S9, b, sp, sl, rp, rl, rfl, hk, rfl, rfl⟩
    · exact absurd c_0 h
    · refine lv_aload_n hx hb dX6_addEdition_13 rfl (lv_at hl 0 rfl) ?_
      refine lv_iload_n hx hb dX6_addEdition_14 rfl (lv_at hl 1 rfl) ?_
      refine lv_iload_n hx hb dX6_addEdition_15 rfl (lv_at hl 2 rfl) ?_
      refine lv_iconst (v := (1 : Int32)) hx hb dX6_addEdition_16 (by decide) ?_
      refine lv_iadd hx hb dX6_addEdition_17 ?_
      refine cm_fv (va_runV (As := [.int (nI (i + 1)), .int (x2 + (1 : Int32))]) (rest := []) S (kc_X6_keepEdition l D cy A ad en tI tS _ i S9 (x2 + (1 : Int32)) b sp sl rp rl hk) (cwV 2 hts (wz_V (zin6 _ (List.mem_of_getElem? (i := 16) rfl)) (zin6 _ (List.mem_of_getElem? (i := 13) rfl)) (zin6 _ (List.mem_of_getElem? (i := 14) rfl)) (zin6 _ (List.mem_of_getElem? (i := 15) rfl)) (zin1 _ (List.mem_of_getElem? (i := 2) rfl))) rfl rfl rfl (by decide +kernel) ⟨Nat.le_of_ble_eq_true rfl, Nat.le_of_ble_eq_true rfl⟩) ⟨cw_blind _, zw_recv hK hw (g := (0, 0)) (cG_at g00) rfl, cw_pre hC hw hS _⟩ rfl rfl hl.1 rfl (lv_room (Nat.le_of_ble_eq_true rfl)) dX6_addEdition_18 ⟨Nat.le_of_ble_eq_true rfl, Nat.le_of_ble_eq_true rfl⟩) hS (fun ad1 H locs ha hw hS => ?_)
      refine lv_iload_n hx hb dX6_addEdition_21 rfl (lv_at hl 2 rfl) ?_
      refine lv_iconst (v := (1 : Int32)) hx hb dX6_addEdition_22 (by decide) ?_
      refine lv_iadd hx hb dX6_addEdition_23 ?_
      exact cm_reti S hr rfl ha hw hS hlocks dX6_addEdition_24
  · rcases hf with ⟨-, h⟩ | ⟨h, -⟩
    · refine lv_aload_n hx hb dX6_addEdition_6 rfl (lv_at hl 0 rfl) ?_
      refine lv_bipush (v := (-4 : Int32)) hx hb dX6_addEdition_7 (by decide) ?_
      refine cw_fi (va_runV (As := [.int (-4 : Int32)]) (rest := []) S (kc_X6_refuse l D cy A ad en tI tS _ _ (-4 : Int32) _ h) (cwV 1 hts (wz_V (zin4 _ (List.mem_of_getElem? (i := 22) rfl)) (zin4 _ (List.mem_of_getElem? (i := 19) rfl)) (zin4 _ (List.mem_of_getElem? (i := 20) rfl)) (zin4 _ (List.mem_of_getElem? (i := 21) rfl)) (zin1 _ (List.mem_of_getElem? (i := 2) rfl))) rfl rfl rfl (by decide +kernel) ⟨Nat.le_of_ble_eq_true rfl, Nat.le_of_ble_eq_true rfl⟩) ⟨cw_blind _, zw_recv hK hw (g := (0, 0)) (cG_at g00) rfl, cw_pre hC hw hS _⟩ rfl rfl hl.1 rfl (lv_room (Nat.le_of_ble_eq_true rfl)) dX6_addEdition_9 ⟨Nat.zero_le _, Nat.zero_le _⟩) hS (fun H locs hw hS => ?_)
      refine W.widen (k := 4) (n := 364) (Nat.zero_le _) (Nat.zero_le _) ?_
      exact cm_reti S hr rfl (fun _ _ _ => rfl) hw hS hlocks dX6_addEdition_12
    · exact absurd h c_0
set_option maxHeartbeats 4000000 in
set_option maxRecDepth 100000 in
theorem kc_X6_runnable (l : Launch) (D : va_G) (cy : Nat → ClassId) (A : Nat → Prop) (ad : Nat × Nat → Nat) (en : Nat → Nat) (tI tS : Nat) (τ τ' : CS) (x1 : Int32) (r : Int32) (hf : KRun τ x1 r τ') : Met l yX6_runnable (wz yX6_runnable cX6_runnable 3 (some .int)) ({ frames := 8, cells := 4, slots := 364, locals := 300 } : Room) (va_Pc [.ref (ad (0, 0)), .int x1] (CWs D cy A ad en tI tS τ)) (va_Qi (fun (r' : Int32) (u : CS) => r' = r ∧ u = τ') (CWm D cy A ad) A) 4 364 A := by
  obtain ⟨g00, g90, o, hn, hf⟩ := hf
  refine Met.ofW (cc := cX6_runnable) (maxL := 3) (ret := (some .int)) (by decide) rfl ?_
  intro p e s m args below meth c s₁ B hml hv
  obtain ⟨rfl, hw, hC⟩ := hv
  have hK := hC.1
  have hN := hC.2.1
  have hx := B.exec
  have hb := B.bytes
  have hr := B.returns
  have hts := atoms_spec (ws := (wz yX6_runnable cX6_runnable 3 (some .int))) B.pre
  have hown : s.vm.findClass RX6 = some m.cls := findClass_of_methodNamed B.named
  have hlocks := B.notSynchronized
  have S : CallFix p m c cX6_runnable 3 s ([.ref (ad (0, 0)), .int x1] : List Value).toArray (wz yX6_runnable cX6_runnable 3 (some .int)) RX6 := ⟨hx, hb, hml, hown, hts⟩
  have hX6 : ∀ w ∈ wsX60, w ∈ (wz yX6_runnable cX6_runnable 3 (some .int)) := fun w h => wz_in (inlX6 w h)
  have hX2 : ∀ w ∈ wsX20, w ∈ (wz yX6_runnable cX6_runnable 3 (some .int)) := fun w h => wz_in (inlX2 w h)
  have hS : va_S A s.heap s.heap [] := va_S.rf
  have hl := lv_entry ([.ref (ad (0, 0)), .int x1]) (n := 3) (Nat.le_of_ble_eq_true rfl)
  rw [lg_entry_eq]
  generalize (lg_sl ([.ref (ad (0, 0)), .int x1]) ++ List.replicate (3 - (lg_sl ([.ref (ad (0, 0)), .int x1])).length) Slot.unset).toArray = ls at hl ⊢
  have hl : lv_has ls 3 [(0, .ref (ad (0, 0))), (1, .int x1)] := hl
  refine lv_aload_n hx hb dX6_runnable_0 rfl (lv_at hl 0 rfl) ?_
  refine lv_iload_n hx hb dX6_runnable_1 rfl (lv_at hl 1 rfl) ?_
  refine cw_fq (kd := 7) (va_runV (As := [.int x1]) (rest := []) S (kc_X6_newestOf l D cy A ad en tI tS _ _ x1 _ hn) (cwV 1 hts (wz_V (zin6 _ (List.mem_of_getElem? (i := 1) rfl)) (zin5 _ (List.mem_of_getElem? (i := 22) rfl)) (zin5 _ (List.mem_of_getElem? (i := 23) rfl)) (zin6 _ (List.mem_of_getElem? (i := 0) rfl)) (zin1 _ (List.mem_of_getElem? (i := 2) rfl))) rfl rfl rfl (by decide +kernel) ⟨Nat.le_of_ble_eq_true rfl, Nat.le_of_ble_eq_true rfl⟩) ⟨cw_blind _, zw_recv hK hw (g := (0, 0)) (cG_at g00) rfl, cw_pre hC hw hS _⟩ rfl rfl hl.1 rfl (lv_room (Nat.le_of_ble_eq_true rfl)) dX6_runnable_2 ⟨Nat.zero_le _, Nat.zero_le _⟩) hS (fun H locs hw hS => ?_)
  refine zr_astore_n (lv' := [(2, rn ad 7 o), (0, .ref (ad (0, 0))), (1, .int x1)]) hx hb dX6_runnable_5 rfl hl (by decide) (by first | rfl | simp [zcat]) (fun ls hl => ?_)
  have B20 : ∀ (ls : Array Slot), lv_has ls 3 [(2, rn ad 7 o), (0, .ref (ad (0, 0))), (1, .int x1)] → (x1 = 0 ∨ ∃ n, o = some n) → W p l e (headSpec (wz yX6_runnable cX6_runnable 3 (some .int)) ({ frames := 8, cells := 4, slots := 364, locals := 300 } : Room)).room s m ([.ref (ad (0, 0)), .int x1] : List Value).toArray below meth c H locs 0 0 (MQ below (va_Qi (fun (r' : Int32) (u : CS) => r' = r ∧ u = τ') (CWm D cy A ad) A) ([.ref (ad (0, 0)), .int x1] : List Value).toArray s 4 364 A) (F0 m 20 ls []) := by
    intro ls hl hxo
    rcases hf with ⟨h1, h2, -⟩ | ⟨-, q, hrt, hf⟩
    · rcases hxo with h | ⟨n, h⟩
      · exact absurd h h1
      · rw [h2] at h; cases h
    refine lv_aload_n hx hb dX6_runnable_20 rfl (lv_at hl 1 rfl) ?_
    refine cr_get (v := .ref (ad (9, 0))) S hK hw 0 0 g00 hX6 rfl rfl 4 (by decide) (wz_in (zin2 _ (List.mem_of_getElem? (i := 14) rfl))) rfl rfl dX6_runnable_21 ?_
    refine lv_aload_n hx hb dX6_runnable_24 rfl (lv_at hl 1 rfl) ?_
    refine cr_get (v := .int (ci τ 5 0)) S hK hw 0 0 g00 hX6 rfl rfl 5 (by decide) (wz_in (zin4 _ (List.mem_of_getElem? (i := 18) rfl))) rfl rfl dX6_runnable_25 ?_
    refine cw_fi (va_runS (As := [.ref (ad (9, 0)), .int (ci τ 5 0)]) (rest := []) S (kc_X6_isRight l D cy A ad en tI tS _ _ 0 (ci τ 5 0) _ hrt) (va_cwS 2 hts (wz_S (zin6 _ (List.mem_of_getElem? (i := 4) rfl)) (zin6 _ (List.mem_of_getElem? (i := 2) rfl)) (zin6 _ (List.mem_of_getElem? (i := 3) rfl)) (zin1 _ (List.mem_of_getElem? (i := 2) rfl))) rfl rfl rfl (by decide +kernel) ⟨Nat.le_of_ble_eq_true rfl, Nat.le_of_ble_eq_true rfl⟩) ⟨cw_blind _, cw_pre hC hw hS _⟩ rfl rfl hl.1 rfl (lv_room (Nat.le_of_ble_eq_true rfl)) dX6_runnable_28 ⟨Nat.zero_le _, Nat.zero_le _⟩) hS (fun H locs hw hS => ?_)
    refine lv_if_ne (tgt := 46) hx hb dX6_runnable_31 (by decide) (fun c_0 => ?_) (fun c_0 => ?_)
    · rcases hf with ⟨h, -⟩ | ⟨-, hf⟩
      · exact absurd h c_0
      refine zr_aload_n hx hb dX6_runnable_46 rfl (lv_at hl 0 rfl) ?_
      refine zr_ifnonnull (kd := 7) (o := o) hx hb dX6_runnable_47 (tgt := 55) (by decide) (fun n ho => ?_) (fun ho => ?_)
      · rcases hf with ⟨h, -⟩ | ⟨n2, h2, gn, ha⟩
        · rw [ho] at h; cases h
        have hnn : n2 = n := by rw [ho] at h2; exact (Option.some.inj h2).symm
        subst hnn
        rw [ho] at hl
        have hl : lv_has ls 3 [(2, .ref (ad (7, n2))), (0, .ref (ad (0, 0))), (1, .int x1)] := hl
        refine lv_aload_n hx hb dX6_runnable_55 rfl (lv_at hl 1 rfl) ?_
        refine lv_iload_n hx hb dX6_runnable_56 rfl (lv_at hl 2 rfl) ?_
        refine lv_aload_n hx hb dX6_runnable_57 rfl (lv_at hl 0 rfl) ?_
        refine cr_getN (v := .int (ci τ 700 n2)) S hK hw 7 n2 gn hX2 rfl rfl 0 (by decide) hN (List.mem_of_getElem? (i := 11) rfl) rfl rfl dX6_runnable_58 ?_
        refine cm_fi (va_runV (As := [.int x1, .int (ci τ 700 n2)]) (rest := []) S (kc_X6_addEdition l D cy A ad en tI tS _ _ x1 (ci τ 700 n2) _ ha) (cwV 2 hts (wz_V (zin8 _ (List.mem_of_getElem? (i := 8) rfl)) (zin8 _ (List.mem_of_getElem? (i := 5) rfl)) (zin8 _ (List.mem_of_getElem? (i := 6) rfl)) (zin8 _ (List.mem_of_getElem? (i := 7) rfl)) (zin1 _ (List.mem_of_getElem? (i := 2) rfl))) rfl rfl rfl (by decide +kernel) ⟨Nat.le_of_ble_eq_true rfl, Nat.le_of_ble_eq_true rfl⟩) ⟨cw_blind _, zw_recv hK hw (g := (0, 0)) (cG_at g00) rfl, cw_pre hC hw hS _⟩ rfl rfl hl.1 rfl (lv_room (Nat.le_of_ble_eq_true rfl)) dX6_runnable_61 ⟨Nat.le_of_ble_eq_true rfl, Nat.le_of_ble_eq_true rfl⟩) hS (fun ad1 H locs ha hw hS => ?_)
        exact cm_reti S hr rfl ha hw hS hlocks dX6_runnable_64
      · rcases hf with ⟨-, ha⟩ | ⟨n2, h2, -⟩
        · refine lv_aload_n hx hb dX6_runnable_50 rfl (lv_at hl 1 rfl) ?_
          refine cm_fi (va_runV (As := []) (rest := []) S (kc_X6_addRunnable l D cy A ad en tI tS _ _ _ ha) (cwV 0 hts (wz_V (zin6 _ (List.mem_of_getElem? (i := 11) rfl)) (zin6 _ (List.mem_of_getElem? (i := 8) rfl)) (zin6 _ (List.mem_of_getElem? (i := 9) rfl)) (zin6 _ (List.mem_of_getElem? (i := 10) rfl)) (zin1 _ (List.mem_of_getElem? (i := 2) rfl))) rfl rfl rfl (by decide +kernel) ⟨Nat.le_of_ble_eq_true rfl, Nat.le_of_ble_eq_true rfl⟩) ⟨cw_blind _, zw_recv hK hw (g := (0, 0)) (cG_at g00) rfl, cw_pre hC hw hS _⟩ rfl rfl hl.1 rfl (lv_room (Nat.le_of_ble_eq_true rfl)) dX6_runnable_51 ⟨Nat.le_of_ble_eq_true rfl, Nat.le_of_ble_eq_true rfl⟩) hS (fun ad1 H locs ha hw hS => ?_)
          exact cm_reti S hr rfl ha hw hS hlocks dX6_runnable_54
        · rw [ho] at h2; cases h2
    · rcases hf with ⟨-, h⟩ | ⟨h, -⟩
      · refine lv_aload_n hx hb dX6_runnable_34 rfl (lv_at hl 1 rfl) ?_
        refine lv_iconst (v := (0 : Int32)) hx hb dX6_runnable_35 (by decide) ?_
        refine cr_put (v := .int (0 : Int32)) (σ1 := cI τ 5 0 (0 : Int32)) S hK hw hS 0 0 g00 hX6 tyX6 tyX6_ok nmX6 rfl rfl 5 (by decide) (wz_in (zin4 _ (List.mem_of_getElem? (i := 18) rfl))) rfl rfl rfl rfl (Nat.le_of_ble_eq_true rfl) dX6_runnable_36 rfl (cput_5 _ _ _ _ _) (cout_5 _ _ _ _ _) (fun H locs hw hS => ?_)
        have g01 : cv (cI τ 5 0 (0 : Int32)) 0 0 = true := g00
        refine lv_aload_n hx hb dX6_runnable_39 rfl (lv_at hl 1 rfl) ?_
        refine lv_bipush (v := (-2 : Int32)) hx hb dX6_runnable_40 (by decide) ?_
        refine cw_fi (va_runV (As := [.int (-2 : Int32)]) (rest := []) S (kc_X6_refuse l D cy A ad en tI tS _ _ (-2 : Int32) _ h) (cwV 1 hts (wz_V (zin4 _ (List.mem_of_getElem? (i := 22) rfl)) (zin4 _ (List.mem_of_getElem? (i := 19) rfl)) (zin4 _ (List.mem_of_getElem? (i := 20) rfl)) (zin4 _ (List.mem_of_getElem? (i := 21) rfl)) (zin1 _ (List.mem_of_getElem? (i := 2) rfl))) rfl rfl rfl (by decide +kernel) ⟨Nat.le_of_ble_eq_true rfl, Nat.le_of_ble_eq_true rfl⟩) ⟨cw_blind _, zw_recv hK hw (g := (0, 0)) (cG_at g01) rfl, cw_pre hC hw hS _⟩ rfl rfl hl.1 rfl (lv_room (Nat.le_of_ble_eq_true rfl)) dX6_runnable_42 ⟨Nat.zero_le _, Nat.zero_le _⟩) hS (fun H locs hw hS => ?_)
        refine W.widen (k := 4) (n := 364) (Nat.zero_le _) (Nat.zero_le _) ?_
        exact cm_reti S hr rfl (fun _ _ _ => rfl) hw hS hlocks dX6_runnable_45
      · exact absurd c_0 h
  refine lv_iload_n hx hb dX6_runnable_6 rfl (lv_at hl 2 rfl) ?_
  refine lv_if_eq (tgt := 20) hx hb dX6_runnable_7 (by decide) (fun c_0 => B20 _ hl (Or.inl c_0)) (fun c_0 => ?_)
  refine zr_aload_n hx hb dX6_runnable_10 rfl (lv_at hl 0 rfl) ?_
  refine zr_ifnonnull (kd := 7) (o := o) hx hb dX6_runnable_11 (tgt := 20) (by decide) (fun n ho => B20 _ hl (Or.inr ⟨n, ho⟩)) (fun ho => ?_)
  rcases hf with ⟨-, -, h⟩ | ⟨h, -⟩
  · refine lv_aload_n hx hb dX6_runnable_14 rfl (lv_at hl 1 rfl) ?_
    refine lv_iconst (v := (-1 : Int32)) hx hb dX6_runnable_15 (by decide) ?_
    refine cw_fi (va_runV (As := [.int (-1 : Int32)]) (rest := []) S (kc_X6_refuse l D cy A ad en tI tS _ _ (-1 : Int32) _ h) (cwV 1 hts (wz_V (zin4 _ (List.mem_of_getElem? (i := 22) rfl)) (zin4 _ (List.mem_of_getElem? (i := 19) rfl)) (zin4 _ (List.mem_of_getElem? (i := 20) rfl)) (zin4 _ (List.mem_of_getElem? (i := 21) rfl)) (zin1 _ (List.mem_of_getElem? (i := 2) rfl))) rfl rfl rfl (by decide +kernel) ⟨Nat.le_of_ble_eq_true rfl, Nat.le_of_ble_eq_true rfl⟩) ⟨cw_blind _, zw_recv hK hw (g := (0, 0)) (cG_at g00) rfl, cw_pre hC hw hS _⟩ rfl rfl hl.1 rfl (lv_room (Nat.le_of_ble_eq_true rfl)) dX6_runnable_16 ⟨Nat.zero_le _, Nat.zero_le _⟩) hS (fun H locs hw hS => ?_)
    refine W.widen (k := 4) (n := 364) (Nat.zero_le _) (Nat.zero_le _) ?_
    exact cm_reti S hr rfl (fun _ _ _ => rfl) hw hS hlocks dX6_runnable_19
  · rcases h with h | ⟨n, h⟩
    · exact absurd h c_0
    · rw [ho] at h; cases h
