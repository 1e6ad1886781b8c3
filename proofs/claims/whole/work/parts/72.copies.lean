/-! ===== rows of octets copied ===== -/
theorem cL_old {cy : Nat → ClassId} {ad : Nat × Nat → Nat} {σ : CS} {X : List va_E} {g : Nat × Nat} {e e0 : va_E} {q : Nat} (h : cL cy ad σ X g = some e) : cL cy (adT ad X.length q) σ (X ++ [e0]) g = some e ∧ adT ad X.length q g = ad g := by
  obtain ⟨k, i⟩ := g
  by_cases hk : k = 10
  · subst hk
    rw [cL_t] at h
    have hi : i < X.length := (List.getElem?_eq_some_iff.mp h).1
    refine ⟨?_, adT_n _ _ _ (fun z => by have := (Prod.mk.inj z).2; omega)⟩
    rw [cL_t, List.getElem?_append_left hi]
    exact h
  · rw [cL_n hk] at h
    refine ⟨?_, adT_n _ _ _ (fun z => hk (Prod.mk.inj z).1)⟩
    rw [cL_n hk, cG_ad (adT_k _ _ _)]
    exact h
/-- a list of temporaries, and all that a copy needs -/
def pt (D : va_G) (cy : Nat → ClassId) (A : Nat → Prop) (ad : Nat × Nat → Nat) (σ : CS) (X : List va_E) (U : State) : Prop := zw D A ad (cL cy ad σ X) U.heap ∧ va_K D vwCl (ztys cy) U ∧ (∀ q : Nat, U.heap.size ≤ q → A q) ∧ va_Nw (.castable "[B" "java/lang/Cloneable") U
theorem pt_blind {D : va_G} {cy : Nat → ClassId} {A : Nat → Prop} {ad : Nat × Nat → Nat} {σ : CS} {X : List va_E} (av : List Value) : FrameBlind (va_Pc av (pt D cy A ad σ X)) := fun a U g mk q => by
  obtain ⟨q0, qP, qK, qA, qN⟩ := q
  exact ⟨q0, qP, va_K.moved (u := U) (U := U.calling g mk a) (Vm.Alike.refl U.vm) qK, qA, va_Nw.same rfl rfl qN⟩
theorem pt_pre {D : va_G} {cy : Nat → ClassId} {A : Nat → Prop} {ad ad' : Nat × Nat → Nat} {σ σ' : CS} {X X' : List va_E} {s : State} {H : Heap} {locs : List Loc} (hP : pt D cy A ad σ X s) (hw : zw D A ad' (cL cy ad' σ' X') H) (hS : va_S A s.heap H locs) (av : List Value) : ∀ U : State, U.heap = H → s.WarmedH U.vm → va_Pc av (pt D cy A ad' σ' X') av.toArray U := fun U hU hW => ⟨rfl, by rw [hU]; exact hw, va_K.moved hW.alike hP.2.1, fun q hq => hP.2.2.1 q (Nat.le_trans hS.1 (by rw [← hU]; exact hq)), va_Nw.warmC hW hP.2.2.2⟩
/-- a new temporary: a row of octets as f has them from fr on -/
def rowM (D : va_G) (cy : Nat → ClassId) (A : Nat → Prop) (ad : Nat × Nat → Nat) (σ : CS) (X : List va_E) (len fr : Nat) (f : Nat → Int32) (q : Nat) (H : Heap) : Prop := ∃ f' : Nat → Int32, (∀ j, j < len → f' j = f (fr + j)) ∧ zw D A (adT ad X.length q) (cL cy (adT ad X.length q) σ (X ++ [.inl (cy 0, len, .inl f')])) H
theorem isB_fits {x : Int32} (h : isB x) : fits .byte (.int x) = true := by
  have := pk_fb x
  unfold isB at h
  rw [h] at this
  exact this
section CPY
variable {p : Program} {l : Launch} {e : Env} {R : Room} {s : State} {m : MethodId} {args : Array Value} {below : List Frame} {meth : Method} {c : Code} {H : Heap} {locs : List Loc} {cells slots : Nat} {Q : State → Prop}
variable {cc : ByteArray} {nL pc : Nat} {ls : Array Slot} {rest : List Value} {D : va_G} {A : Nat → Prop} {cy : Nat → ClassId} {H0 : Heap} {Ts : List Cond} {own : String} {ι : Type} {ad : ι → Nat} {G : ι → Option va_E}
theorem zr_copyb (S : CallFix p m c cc nL s args Ts own) (hls : ls.size = nL) {index : Nat} (hlink : Cond.methodLink own index arraycopyName ∈ Ts) (hnat : Cond.native arraycopyName ∈ Ts) (hstat : Cond.static arraycopyName ∈ Ts) (hini : Cond.initialized "java/lang/System" ∈ Ts) (hK : va_K D vwCl (ztys cy) s) (hw : zw D A ad G H) (hS : va_S A H0 H locs) {g g1 : ι} {n0 n1 : Nat} {f f1 : Nat → Int32} (ha0 : G g = some (.inl (cy 0, n0, .inl f))) (ha1 : G g1 = some (.inl (cy 0, n1, .inl f1))) {sp dp n : Int32} (h1 : ¬ sp < 0) (h2 : ¬ dp < 0) (h3 : ¬ n < 0) (h4 : sp.toNatClampNeg + n.toNatClampNeg ≤ n0) (h5 : dp.toNatClampNeg + n.toNatClampNeg ≤ n1) (hfit : ∀ i, i < n.toNatClampNeg → fits .byte (.int (f (sp.toNatClampNeg + i))) = true)
    (hframes : 1 ≤ R.frames) (hlocals : (rest.map fun v => v.category).sum + (nativeFrameWords "java/lang/System" "arraycopy" 5 + 11) ≤ R.locals) (hdg : decode cc pc = .ok (.invokestatic index, 3))
    {G1 : ι → Option va_E} (h6 : G1 g1 = some (.inl (cy 0, n1, .inl (va_cpy f f1 sp.toNatClampNeg dp.toNatClampNeg n.toNatClampNeg)))) (h7 : ∀ g', g' ≠ g1 → G1 g' = G g')
    (kk : ∀ (H1 : Heap) (locs1 : List Loc), zw D A ad G1 H1 → va_S A H0 H1 locs1 → W p l e R s m args below meth c H1 locs1 cells slots Q (F0 m (pc + 3) ls rest)) : W p l e R s m args below meth c H locs cells slots Q (F0 m pc ls (.int n :: .int dp :: .ref (ad g1) :: .int sp :: .ref (ad g) :: rest)) := by
  obtain ⟨hx, hb, hml, hown, hts⟩ := S
  obtain ⟨⟨L, F, hP, hD, hG⟩, hi⟩ := hw
  obtain ⟨hL, hF⟩ := hG g _ ha0
  obtain ⟨hL1, hF1⟩ := hG g1 _ ha1
  obtain ⟨k0, hk0⟩ := va_pl_get (X := []) (f := F) hL
  obtain ⟨k1, hk1⟩ := va_pl_get (X := []) (f := F) hL1
  have hq0 : (va_pl L F)[k0]? = some (ad g, .inl (cy 0, n0, .inl f)) := by rw [← hF]; exact hk0
  have hq1 : (va_pl L F)[k1]? = some (ad g1, .inl (cy 0, n1, .inl f1)) := by rw [← hF1]; exact hk1
  exact va_copyi (D := D) (cl := vwCl) hx hb (hml.trans hls.symm) hown (hts _ hlink) (hts _ hnat) (hts _ hstat) (hts _ hini) hK hP hD hS k0 k1 0 0 hq0 hq1 rfl rfl rfl h1 h2 h3 h4 h5 hfit hframes hlocals hdg (fun H1 locs1 hP1 hD1 hS1 => kk H1 locs1 (zw_set hG hi ha1 hD hk1 hP1 hD1 h6 h7) hS1)
theorem zr_cloneb (S : CallFix p m c cc nL s args Ts own) (hls : ls.size = nL) {index : Nat} (hlink : Cond.methodLink own index ⟨"[B", "clone", "()Ljava/lang/Object;"⟩ ∈ Ts) (hsame : Cond.sameMethod "[B" "java/lang/Object" "clone" "()Ljava/lang/Object;" ∈ Ts) (hnat : Cond.native ⟨"java/lang/Object", "clone", "()Ljava/lang/Object;"⟩ ∈ Ts) (hinst : Cond.instanceMethod ⟨"java/lang/Object", "clone", "()Ljava/lang/Object;"⟩ ∈ Ts) (hsel : Cond.selects "[B" ⟨"[B", "clone", "()Ljava/lang/Object;"⟩ ⟨"java/lang/Object", "clone", "()Ljava/lang/Object;"⟩ ∈ Ts) (hcl : va_Nw (.castable "[B" "java/lang/Cloneable") s) (hK : va_K D vwCl (ztys cy) s) (hw : zw D A ad G H) (hS : va_S A H0 H locs) (hA : ∀ q, H0.size ≤ q → A q) {g : ι} {n0 : Nat} {f : Nat → Int32} (ha0 : G g = some (.inl (cy 0, n0, .inl f))) (hfit : ∀ i, i < n0 → isB (f i))
    (hframes : 1 ≤ R.frames) (hlocals : (rest.map fun v => v.category).sum + 14 ≤ R.locals) (hcells : cells + 1 ≤ R.cells) (hslots : slots + n0 ≤ R.slots) (hdg : decode cc pc = .ok (.invokevirtual index, 3))
    (kk : ∀ (q : Nat) (H1 : Heap), (∀ (ad1 : ι → Nat) (G1 : ι → Option va_E) (g0 : ι), G g0 = none → ad1 g0 = q → (∀ g e, G g = some e → ad1 g = ad g) → G1 g0 = some (.inl (cy 0, n0, .inl f)) → (∀ g, g ≠ g0 → G1 g = G g) → zw D A ad1 G1 H1) → va_S A H0 H1 locs → W p l e R s m args below meth c H1 locs (cells + 1) (slots + n0) Q (F0 m (pc + 3) ls (.ref q :: rest))) : W p l e R s m args below meth c H locs cells slots Q (F0 m pc ls (.ref (ad g) :: rest)) := by
  obtain ⟨hx, hb, hml, hown, hts⟩ := S
  obtain ⟨⟨L, F, hP, hD, hG⟩, hi⟩ := hw
  obtain ⟨hL, hF⟩ := hG g _ ha0
  obtain ⟨k0, hk0⟩ := va_pl_get (X := []) (f := F) hL
  have hq0 : (va_pl L F)[k0]? = some (ad g, .inl (cy 0, n0, .inl f)) := by rw [← hF]; exact hk0
  exact va_clone (D := D) (cl := vwCl) hx hb (hml.trans hls.symm) hown (hts _ hlink) (hts _ hsame) (hts _ hnat) (hts _ hinst) (hts _ hsel) hcl hK hP hD hS hA k0 0 hq0 rfl (hK.2 0 (cy 0, .byte) rfl).2 (fun i v hv => by
    rw [vp_cell_i] at hv
    have hi1 : i < n0 := by
      have := (Array.getElem?_eq_some_iff.mp hv).1
      rw [arrV_size] at this
      exact this
    rw [arrV_read _ _ hi1] at hv
    cases hv
    exact isB_fits (hfit i hi1)) hframes hlocals hcells hslots hdg (fun q H1 hK1 hP1 hD1 hS1 => kk q H1 (fun ad1 G1 g0 h0 h1 h2 h3 h4 => zw_push hG hi hP1 hD1 h0 h1 h2 h3 h4) hS1)
theorem zr_castb (S : CallFix p m c cc nL s args Ts own) {index : Nat} (hlink : Cond.classLink own index "[B" ∈ Ts) (hK : va_K D vwCl (ztys cy) s) (hw : zw D A ad G H) {g : ι} {n0 : Nat} {f : Nat → Int32} (ha0 : G g = some (.inl (cy 0, n0, .inl f))) (hdg : decode cc pc = .ok (.checkcast index, 3))
    (kk : W p l e R s m args below meth c H locs cells slots Q (F0 m (pc + 3) ls (.ref (ad g) :: rest))) : W p l e R s m args below meth c H locs cells slots Q (F0 m pc ls (.ref (ad g) :: rest)) := by
  obtain ⟨hx, hb, hml, hown, hts⟩ := S
  obtain ⟨⟨L, F, hP, hD, hG⟩, hi⟩ := hw
  obtain ⟨hL, hF⟩ := hG g _ ha0
  obtain ⟨k0, hk0⟩ := va_pl_get (X := []) (f := F) hL
  have hq0 : (va_pl L F)[k0]? = some (ad g, .inl (cy 0, n0, .inl f)) := by rw [← hF]; exact hk0
  exact va_castA hx hb hown (hts _ hlink) hP k0 hq0 (hK.2 0 (cy 0, .byte) rfl).2 hdg kk
end CPY
/-! the first member with a mark, where every member lies within -/
def oc (f : Nat → Int32) (i : Nat) : Nat := (f i &&& 255).toNatClampNeg
def okF (n : Nat) (f : Nat → Int32) : Nat → Nat → Prop
  | 0, _ => False
  | k + 1, at_ => at_ = n ∨ (at_ + 2 + oc f (at_ + 1) ≤ n ∧ okF n f k (at_ + 2 + oc f (at_ + 1)))
def cOf (n : Nat) (f : Nat → Int32) (mk : Nat) : Nat → Nat → Option (Nat × Nat)
  | 0, _ => none
  | k + 1, at_ => if at_ < n then (if oc f at_ = mk then some (at_ + 2, oc f (at_ + 1)) else cOf n f mk k (at_ + 2 + oc f (at_ + 1))) else none
theorem oc_nI {f : Nat → Int32} {i : Nat} (h : isB (f i)) : f i &&& 255 = nI (oc f i) ∧ oc f i < 256 := by
  obtain ⟨k, hk, h1, -⟩ := isB_of h
  have : oc f i = k := by unfold oc; rw [h1, nI_clamp (by omega)]
  rw [this]
  exact ⟨h1, hk⟩
set_option maxHeartbeats 4000000 in
set_option maxRecDepth 100000 in
theorem kt_J7_checkLength_df160 (l : Launch) (fr to : Nat) (h : fr ≤ to) (ht : to < 1000) : Met l yJ7_checkLength_df160 (wz yJ7_checkLength_df160 cJ7_checkLength_df160 2 none) ({ frames := 0, cells := 0, slots := 0, locals := 0 } : Room) (va_Pc [.int (nI fr), .int (nI to)] (fun _ => True)) (va_Qv (fun _ : Unit => True) (fun _ _ => True) (fun _ => False)) 0 0 (fun _ => False) := by
  refine Met.ofW (cc := cJ7_checkLength_df160) (maxL := 2) (ret := none) (by decide) rfl ?_
  intro p e s m args below meth c s₁ B hml hv
  obtain ⟨rfl, -⟩ := hv
  have hx := B.exec
  have hb := B.bytes
  have hr := B.returns
  have hlocks := B.notSynchronized
  have hS : va_S (fun _ => False) s.heap s.heap [] := va_S.rf
  have hl := lv_entry ([.int (nI fr), .int (nI to)]) (n := 2) (Nat.le_of_ble_eq_true rfl)
  rw [lg_entry_eq]
  generalize (lg_sl ([.int (nI fr), .int (nI to)]) ++ List.replicate (2 - (lg_sl ([.int (nI fr), .int (nI to)])).length) Slot.unset).toArray = ls at hl ⊢
  have hl : lv_has ls 2 [(0, .int (nI fr)), (1, .int (nI to))] := hl
  refine lv_iload_n hx hb dJ7_checkLength_df160_0 rfl (lv_at hl 1 rfl) ?_
  refine lv_iload_n hx hb dJ7_checkLength_df160_1 rfl (lv_at hl 0 rfl) ?_
  refine lv_icmp_ge (tgt := 37) hx hb dJ7_checkLength_df160_2 (by decide) (fun c_0 => ?_) (fun c_0 => absurd ((nI_leI (by omega) (by omega)).mpr h) c_0)
  exact W.vret hx hb hr (fun t ht hW => ⟨⟨(), rfl, trivial, trivial⟩, hS.F ht⟩) hS.2.2 dJ7_checkLength_df160_37 hlocks
set_option maxHeartbeats 4000000 in
set_option maxRecDepth 100000 in
theorem kt_J7_copyOfRangeByte_39247 (l : Launch) (D : va_G) (cy : Nat → ClassId) (A : Nat → Prop) (ad : Nat × Nat → Nat) (σ : CS) (X : List va_E) (g : Nat × Nat) (n : Nat) (f : Nat → Int32) (fr to : Nat) (hg : cL cy ad σ X g = some (.inl (cy 0, n, .inl f))) (hB : ∀ i, i < n → isB (f i)) (h1 : fr ≤ to) (h2 : to ≤ n) (h3 : n ≤ 120) : Met l yJ7_copyOfRangeByte_39247 (wz yJ7_copyOfRangeByte_39247 cJ7_copyOfRangeByte_39247 5 (some (.array .byte))) ({ frames := 2, cells := 1, slots := 120, locals := 60 } : Room) (va_Pc [.ref (ad g), .int (nI fr), .int (nI to)] (pt D cy A ad σ X)) (va_Qr (fun _ : Unit => True) (fun _ q t => rowM D cy A ad σ X (to - fr) fr f q t.heap) A) 1 120 A := by
  refine Met.ofW (cc := cJ7_copyOfRangeByte_39247) (maxL := 5) (ret := (some (.array .byte))) (by decide) rfl ?_
  intro p e s m args below meth c s₁ B hml hv
  obtain ⟨rfl, hP⟩ := hv
  have hw := hP.1
  have hK := hP.2.1
  have hx := B.exec
  have hb := B.bytes
  have hr := B.returns
  have hts := atoms_spec (ws := (wz yJ7_copyOfRangeByte_39247 cJ7_copyOfRangeByte_39247 5 (some (.array .byte)))) B.pre
  have hown : s.vm.findClass RJ7 = some m.cls := findClass_of_methodNamed B.named
  have hlocks := B.notSynchronized
  have S : CallFix p m c cJ7_copyOfRangeByte_39247 5 s ([.ref (ad g), .int (nI fr), .int (nI to)] : List Value).toArray (wz yJ7_copyOfRangeByte_39247 cJ7_copyOfRangeByte_39247 5 (some (.array .byte))) RJ7 := ⟨hx, hb, hml, hown, hts⟩
  have hS : va_S A s.heap s.heap [] := va_S.rf
  have hl := lv_entry ([.ref (ad g), .int (nI fr), .int (nI to)]) (n := 5) (Nat.le_of_ble_eq_true rfl)
  rw [lg_entry_eq]
  generalize (lg_sl ([.ref (ad g), .int (nI fr), .int (nI to)]) ++ List.replicate (5 - (lg_sl ([.ref (ad g), .int (nI fr), .int (nI to)])).length) Slot.unset).toArray = ls at hl ⊢
  have hl : lv_has ls 5 [(0, .ref (ad g)), (1, .int (nI fr)), (2, .int (nI to))] := hl
  refine lv_iload_n hx hb dJ7_copyOfRangeByte_39247_0 rfl (lv_at hl 1 rfl) ?_
  refine lv_iload_n hx hb dJ7_copyOfRangeByte_39247_1 rfl (lv_at hl 2 rfl) ?_
  refine va_callv (va_runS (As := [.int (nI fr), .int (nI to)]) (rest := []) S (kt_J7_checkLength_df160 l fr to h1 (by omega)) (va_cwS 2 hts (wz_S (zin7 _ (List.mem_of_getElem? (i := 18) rfl)) (zin7 _ (List.mem_of_getElem? (i := 16) rfl)) (zin7 _ (List.mem_of_getElem? (i := 17) rfl)) (zin7 _ (List.mem_of_getElem? (i := 0) rfl))) rfl rfl rfl (by decide +kernel) ⟨Nat.le_of_ble_eq_true rfl, Nat.le_of_ble_eq_true rfl⟩) ⟨fun a U g mk q => q, fun U hU hW => ⟨rfl, trivial⟩⟩ rfl rfl hl.1 rfl (lv_room (Nat.le_of_ble_eq_true rfl)) dJ7_copyOfRangeByte_39247_2 ⟨Nat.zero_le _, Nat.zero_le _⟩) hS (fun _ _ h => h.elim) (fun _ h => h.elim) (fun u t H1 locs1 ht hvm hq _ hz1 hk1 hS1 => ?_)
  have hw := zw_keep hw (fun q h _ => hk1 q h (fun z => z))
  have hS := hS1
  refine lv_iload_n hx hb dJ7_copyOfRangeByte_39247_5 rfl (lv_at hl 2 rfl) ?_
  refine lv_iload_n hx hb dJ7_copyOfRangeByte_39247_6 rfl (lv_at hl 1 rfl) ?_
  refine lv_isub hx hb dJ7_copyOfRangeByte_39247_7 ?_
  rw [nI_sub2 h1]
  refine lv_istore_n (lv' := [(3, .int (nI (to - fr))), (0, .ref (ad g)), (1, .int (nI fr)), (2, .int (nI to))]) hx hb dJ7_copyOfRangeByte_39247_8 rfl hl (by decide) rfl (fun ls hl => ?_)
  refine lv_iload_n hx hb dJ7_copyOfRangeByte_39247_9 rfl (lv_at hl 0 rfl) ?_
  refine W.widen (k := 0) (n := 120 - (to - fr)) (Nat.zero_le _) (Nat.zero_le _) ?_
  refine cl_newa (N' := to - fr) (a0 := (to - fr, .inl (fun _ => 0))) S rfl (wz_in (zin2 _ (List.mem_of_getElem? (i := 13) rfl))) hK hw hS hP.2.2.1 0 rfl (fun cA => by rw [vp_cell_i]; rfl) (nI_pos (by omega)) (nI_clamp (by omega)) (by show (to - fr) * 1 ≤ _; omega) (Nat.le_of_ble_eq_true rfl) (show 120 - (to - fr) + (to - fr) ≤ 120 by omega) dJ7_copyOfRangeByte_39247_10 (fun q H hw hS => ?_)
  have hg1 := cL_old (e0 := .inl (cy 0, (to - fr, .inl (fun _ => 0)))) (q := q) hg
  have ht1 : cL cy (adT ad X.length q) σ (X ++ [.inl (cy 0, (to - fr, .inl (fun _ => 0)))]) (10, X.length) = some (.inl (cy 0, (to - fr, .inl (fun _ => 0)))) := by rw [cL_t]; simp
  refine lv_astore (lv' := [(4, .ref q), (3, .int (nI (to - fr))), (0, .ref (ad g)), (1, .int (nI fr)), (2, .int (nI to))]) hx hb dJ7_copyOfRangeByte_39247_12 hl (by decide) rfl (fun ls hl => ?_)
  refine lv_aload_n hx hb dJ7_copyOfRangeByte_39247_14 rfl (lv_at hl 2 rfl) ?_
  refine lv_iload_n hx hb dJ7_copyOfRangeByte_39247_15 rfl (lv_at hl 3 rfl) ?_
  refine lv_aload hx hb dJ7_copyOfRangeByte_39247_16 (lv_at hl 0 rfl) ?_
  refine lv_iconst (v := nI 0) hx hb dJ7_copyOfRangeByte_39247_18 (by decide) ?_
  refine lv_aload_n hx hb dJ7_copyOfRangeByte_39247_19 rfl (lv_at hl 2 rfl) ?_
  have hgq : ad g = adT ad X.length q g := hg1.2.symm
  have hqq : q = adT ad X.length q (10, X.length) := (adT_s ad X.length q).symm
  refine W.eq (g2 := F0 m 20 ls [.ref (adT ad X.length q g), .int (nI 0), .ref (adT ad X.length q (10, X.length)), .int (nI fr), .ref (adT ad X.length q g)]) (by rw [← hgq, ← hqq]) ?_
  refine zr_alen (v := nI n) S hK hw 0 hg1.1 rfl rfl dJ7_copyOfRangeByte_39247_20 ?_
  refine lv_iload_n hx hb dJ7_copyOfRangeByte_39247_21 rfl (lv_at hl 3 rfl) ?_
  refine lv_isub hx hb dJ7_copyOfRangeByte_39247_22 ?_
  rw [nI_sub2 (by omega)]
  refine lv_iload_n hx hb dJ7_copyOfRangeByte_39247_23 rfl (lv_at hl 1 rfl) ?_
  refine va_mmin hx hb (hml.trans hl.1.symm) hown (hts _ (wz_in (zin7 _ (List.mem_of_getElem? (i := 11) rfl)))) (hts _ (wz_in (zin1 _ (List.mem_of_getElem? (i := 20) rfl)))) (hts _ (wz_in (zin1 _ (List.mem_of_getElem? (i := 21) rfl)))) (hts _ (wz_in (zin1 _ (List.mem_of_getElem? (i := 22) rfl)))) (Nat.le_of_ble_eq_true rfl) (Nat.le_of_ble_eq_true rfl) (Nat.le_of_ble_eq_true rfl) (show 120 - (to - fr) + (to - fr) ≤ 120 by omega) dJ7_copyOfRangeByte_39247_24 ?_
  rw [show (if nI (to - fr) < nI (n - fr) then nI (to - fr) else nI (n - fr)) = nI (to - fr) from by
    by_cases hh : nI (to - fr) < nI (n - fr)
    · rw [if_pos hh]
    · rw [if_neg hh]
      have hh2 : ¬ to - fr < n - fr := fun z => hh ((nI_ltI (by omega) (by omega)).mpr z)
      rw [show n - fr = to - fr by omega]]
  refine zr_copyb S hl.1 (wz_in (zin7 _ (List.mem_of_getElem? (i := 12) rfl))) (wz_in (zin7 _ (List.mem_of_getElem? (i := 13) rfl))) (wz_in (zin7 _ (List.mem_of_getElem? (i := 14) rfl))) (wz_in (zin7 _ (List.mem_of_getElem? (i := 15) rfl))) hK hw hS hg1.1 ht1 (nI_pos (by omega)) (nI_pos (by omega)) (nI_pos (by omega)) (by rw [nI_clamp (by omega), nI_clamp (by omega)]; omega) (by rw [nI_clamp (by omega), nI_clamp (by omega)]; omega) (fun i hi => isB_fits (hB _ (by rw [nI_clamp (by omega)] at hi ⊢; omega))) (Nat.le_of_ble_eq_true rfl) (Nat.le_of_ble_eq_true rfl) dJ7_copyOfRangeByte_39247_27 (G1 := cL cy (adT ad X.length q) σ (X ++ [.inl (cy 0, (to - fr, .inl (va_cpy f (fun _ => 0) fr 0 (to - fr))))])) ?_ ?_ (fun H locs hw hS => ?_)
  · rw [cL_t, nI_clamp (by omega), nI_clamp (by omega), nI_clamp (by omega)]; simp
  · intro g' hg'
    have := cL_set (cy := cy) (ad := adT ad X.length q) (σ := σ) (xs := X ++ [.inl (cy 0, (to - fr, .inl (fun _ => 0)))]) (j := X.length) (e := .inl (cy 0, (to - fr, .inl (va_cpy f (fun _ => 0) fr 0 (to - fr))))) g' hg'
    rw [List.set_append_right _ _ (Nat.le_refl _), Nat.sub_self] at this
    exact this
  refine lv_aload hx hb dJ7_copyOfRangeByte_39247_30 (lv_at hl 0 rfl) ?_
  refine W.widen (k := 1) (n := 120) (Nat.le_of_ble_eq_true rfl) (by omega) ?_
  exact W.aret (v := .ref q) hx hb hr (Or.inr ⟨_, rfl⟩) (Or.inr ⟨_, rfl⟩) (fun t ht hW => ⟨⟨(), q, rfl, trivial, ⟨va_cpy f (fun _ => 0) fr 0 (to - fr), fun j hj => by unfold va_cpy; rw [if_pos ⟨Nat.zero_le _, by omega⟩, Nat.sub_zero], by rw [ht]; exact hw⟩⟩, hS.F ht⟩) hS.2.2 dJ7_copyOfRangeByte_39247_32 hlocks
set_option maxHeartbeats 4000000 in
set_option maxRecDepth 100000 in
theorem kt_J7_copyOfRange_39247 (l : Launch) (D : va_G) (cy : Nat → ClassId) (A : Nat → Prop) (ad : Nat × Nat → Nat) (σ : CS) (X : List va_E) (g : Nat × Nat) (n : Nat) (f : Nat → Int32) (fr to : Nat) (hg : cL cy ad σ X g = some (.inl (cy 0, n, .inl f))) (hB : ∀ i, i < n → isB (f i)) (h1 : fr ≤ to) (h2 : to ≤ n) (h3 : n ≤ 120) : Met l yJ7_copyOfRange_39247 (wz yJ7_copyOfRange_39247 cJ7_copyOfRange_39247 3 (some (.array .byte))) ({ frames := 3, cells := 1, slots := 120, locals := 100 } : Room) (va_Pc [.ref (ad g), .int (nI fr), .int (nI to)] (pt D cy A ad σ X)) (va_Qr (fun _ : Unit => True) (fun _ q t => rowM D cy A ad σ X (to - fr) fr f q t.heap) A) 1 120 A := by
  refine Met.ofW (cc := cJ7_copyOfRange_39247) (maxL := 3) (ret := (some (.array .byte))) (by decide) rfl ?_
  intro p e s m args below meth c s₁ B hml hv
  obtain ⟨rfl, hP⟩ := hv
  have hw := hP.1
  have hK := hP.2.1
  have hx := B.exec
  have hb := B.bytes
  have hr := B.returns
  have hts := atoms_spec (ws := (wz yJ7_copyOfRange_39247 cJ7_copyOfRange_39247 3 (some (.array .byte)))) B.pre
  have hown : s.vm.findClass RJ7 = some m.cls := findClass_of_methodNamed B.named
  have hlocks := B.notSynchronized
  have S : CallFix p m c cJ7_copyOfRange_39247 3 s ([.ref (ad g), .int (nI fr), .int (nI to)] : List Value).toArray (wz yJ7_copyOfRange_39247 cJ7_copyOfRange_39247 3 (some (.array .byte))) RJ7 := ⟨hx, hb, hml, hown, hts⟩
  have hS : va_S A s.heap s.heap [] := va_S.rf
  have hl := lv_entry ([.ref (ad g), .int (nI fr), .int (nI to)]) (n := 3) (Nat.le_of_ble_eq_true rfl)
  rw [lg_entry_eq]
  generalize (lg_sl ([.ref (ad g), .int (nI fr), .int (nI to)]) ++ List.replicate (3 - (lg_sl ([.ref (ad g), .int (nI fr), .int (nI to)])).length) Slot.unset).toArray = ls at hl ⊢
  have hl : lv_has ls 3 [(0, .ref (ad g)), (1, .int (nI fr)), (2, .int (nI to))] := hl
  have K : W p l e (headSpec (wz yJ7_copyOfRange_39247 cJ7_copyOfRange_39247 3 (some (.array .byte))) ({ frames := 3, cells := 1, slots := 120, locals := 100 } : Room)).room s m ([.ref (ad g), .int (nI fr), .int (nI to)] : List Value).toArray below meth c s.heap [] 0 0 (MQ below (va_Qr (fun _ : Unit => True) (fun _ q t => rowM D cy A ad σ X (to - fr) fr f q t.heap) A) ([.ref (ad g), .int (nI fr), .int (nI to)] : List Value).toArray s 1 120 A) (F0 m 10 ls []) := by
    refine lv_aload_n hx hb dJ7_copyOfRange_39247_10 rfl (lv_at hl 0 rfl) ?_
    refine lv_iload_n hx hb dJ7_copyOfRange_39247_11 rfl (lv_at hl 1 rfl) ?_
    refine lv_iload_n hx hb dJ7_copyOfRange_39247_12 rfl (lv_at hl 2 rfl) ?_
    refine va_callr (va_runS (As := [.ref (ad g), .int (nI fr), .int (nI to)]) (rest := []) S (kt_J7_copyOfRangeByte_39247 l D cy A ad σ X g n f fr to hg hB h1 h2 h3) (va_cwS 3 hts (wz_S (zin7 _ (List.mem_of_getElem? (i := 10) rfl)) (zin7 _ (List.mem_of_getElem? (i := 8) rfl)) (zin7 _ (List.mem_of_getElem? (i := 9) rfl)) (zin7 _ (List.mem_of_getElem? (i := 0) rfl))) rfl rfl rfl (by decide +kernel) ⟨Nat.le_of_ble_eq_true rfl, Nat.le_of_ble_eq_true rfl⟩) ⟨pt_blind _, pt_pre hP hw hS _⟩ rfl rfl hl.1 rfl (lv_room (Nat.le_of_ble_eq_true rfl)) dJ7_copyOfRange_39247_13 ⟨Nat.le_of_ble_eq_true rfl, Nat.le_of_ble_eq_true rfl⟩) hS (fun _ _ h => h) (fun _ h => h) (fun u q t H1 locs1 ht hvm hq hM hz1 hk1 hS1 => ?_)
    exact W.aret (v := .ref q) hx hb hr (Or.inr ⟨_, rfl⟩) (Or.inr ⟨_, rfl⟩) (fun t2 ht2 hW => ⟨⟨(), q, rfl, trivial, by dsimp only; rw [ht2, ← ht]; exact hM⟩, hS1.F ht2⟩) hS1.2.2 dJ7_copyOfRange_39247_16 hlocks
  refine lv_iload_n hx hb dJ7_copyOfRange_39247_0 rfl (lv_at hl 1 rfl) ?_
  refine lv_if_ne (tgt := 10) hx hb dJ7_copyOfRange_39247_1 (by decide) (fun c_0 => K) (fun c_0 => ?_)
  have hfr : fr = 0 := by
    have : nI fr = nI 0 := c_0
    exact (nI_eq (by omega) (by omega)).mp this
  refine lv_iload_n hx hb dJ7_copyOfRange_39247_4 rfl (lv_at hl 2 rfl) ?_
  refine lv_aload_n hx hb dJ7_copyOfRange_39247_5 rfl (lv_at hl 0 rfl) ?_
  refine zr_alen (v := nI n) S hK hw 0 hg rfl rfl dJ7_copyOfRange_39247_6 ?_
  refine lv_icmp_eq (tgt := 17) hx hb dJ7_copyOfRange_39247_7 (by decide) (fun c_1 => ?_) (fun c_1 => K)
  have hto : to = n := (nI_eq (by omega) (by omega)).mp c_1
  subst hfr
  subst hto
  refine lv_aload_n hx hb dJ7_copyOfRange_39247_17 rfl (lv_at hl 0 rfl) ?_
  refine W.widen (k := 0) (n := 120 - to) (Nat.zero_le _) (Nat.zero_le _) ?_
  refine zr_cloneb S hl.1 (wz_in (zin7 _ (List.mem_of_getElem? (i := 2) rfl))) (wz_in (zin7 _ (List.mem_of_getElem? (i := 3) rfl))) (wz_in (zin7 _ (List.mem_of_getElem? (i := 4) rfl))) (wz_in (zin7 _ (List.mem_of_getElem? (i := 5) rfl))) (wz_in (zin7 _ (List.mem_of_getElem? (i := 6) rfl))) hP.2.2.2 hK hw hS hP.2.2.1 hg hB (Nat.le_of_ble_eq_true rfl) (Nat.le_of_ble_eq_true rfl) (Nat.le_of_ble_eq_true rfl) (show 120 - to + to ≤ 120 by omega) dJ7_copyOfRange_39247_18 (fun q H hw1 hS => ?_)
  have hw := cL_new (e := .inl (cy 0, to, .inl f)) hw1
  have ht1 : cL cy (adT ad X.length q) σ (X ++ [.inl (cy 0, to, .inl f)]) (10, X.length) = some (.inl (cy 0, to, .inl f)) := by rw [cL_t]; simp
  have hqq : q = adT ad X.length q (10, X.length) := (adT_s ad X.length q).symm
  refine W.eq (g2 := F0 m 21 ls [.ref (adT ad X.length q (10, X.length))]) (by rw [← hqq]) ?_
  refine zr_castb S (wz_in (zin7 _ (List.mem_of_getElem? (i := 7) rfl))) hK hw ht1 dJ7_copyOfRange_39247_21 ?_
  refine W.widen (k := 1) (n := 120) (Nat.le_of_ble_eq_true rfl) (by omega) ?_
  exact W.aret (v := .ref (adT ad X.length q (10, X.length))) hx hb hr (Or.inr ⟨_, rfl⟩) (Or.inr ⟨_, rfl⟩) (fun t ht hW => ⟨⟨(), q, by rw [← hqq], trivial, ⟨f, fun j hj => by rw [Nat.zero_add], by rw [ht]; exact hw⟩⟩, hS.F ht⟩) hS.2.2 dJ7_copyOfRange_39247_24 hlocks
set_option maxHeartbeats 4000000 in
set_option maxRecDepth 100000 in
theorem kt_X6_copyOf (l : Launch) (D : va_G) (cy : Nat → ClassId) (A : Nat → Prop) (ad : Nat × Nat → Nat) (σ : CS) (X : List va_E) (g : Nat × Nat) (n : Nat) (f : Nat → Int32) (fr sz : Nat) (hg : cL cy ad σ X g = some (.inl (cy 0, n, .inl f))) (hB : ∀ i, i < n → isB (f i)) (h2 : fr + sz ≤ n) (h3 : n ≤ 120) : Met l yX6_copyOf (wz yX6_copyOf cX6_copyOf 3 (some (.array .byte))) ({ frames := 4, cells := 1, slots := 120, locals := 140 } : Room) (va_Pc [.ref (ad g), .int (nI fr), .int (nI sz)] (pt D cy A ad σ X)) (va_Qr (fun _ : Unit => True) (fun _ q t => rowM D cy A ad σ X (sz) fr f q t.heap) A) 1 120 A := by
  refine Met.ofW (cc := cX6_copyOf) (maxL := 3) (ret := (some (.array .byte))) (by decide) rfl ?_
  intro p e s m args below meth c s₁ B hml hv
  obtain ⟨rfl, hP⟩ := hv
  have hw := hP.1
  have hK := hP.2.1
  have hx := B.exec
  have hb := B.bytes
  have hr := B.returns
  have hts := atoms_spec (ws := (wz yX6_copyOf cX6_copyOf 3 (some (.array .byte)))) B.pre
  have hown : s.vm.findClass RX6 = some m.cls := findClass_of_methodNamed B.named
  have hlocks := B.notSynchronized
  have S : CallFix p m c cX6_copyOf 3 s ([.ref (ad g), .int (nI fr), .int (nI sz)] : List Value).toArray (wz yX6_copyOf cX6_copyOf 3 (some (.array .byte))) RX6 := ⟨hx, hb, hml, hown, hts⟩
  have hS : va_S A s.heap s.heap [] := va_S.rf
  have hl := lv_entry ([.ref (ad g), .int (nI fr), .int (nI sz)]) (n := 3) (Nat.le_of_ble_eq_true rfl)
  rw [lg_entry_eq]
  generalize (lg_sl ([.ref (ad g), .int (nI fr), .int (nI sz)]) ++ List.replicate (3 - (lg_sl ([.ref (ad g), .int (nI fr), .int (nI sz)])).length) Slot.unset).toArray = ls at hl ⊢
  have hl : lv_has ls 3 [(0, .ref (ad g)), (1, .int (nI fr)), (2, .int (nI sz))] := hl
  have z0 : ∀ k : Nat, k ≤ 120 → ¬ nI k < 0 := fun k hk => nI_pos (by omega)
  refine lv_iload_n hx hb dX6_copyOf_0 rfl (lv_at hl 1 rfl) ?_
  refine lv_if_lt (tgt := 22) hx hb dX6_copyOf_1 (by decide) (fun c_0 => absurd c_0 (z0 _ (by omega))) (fun c_0 => ?_)
  refine lv_iload_n hx hb dX6_copyOf_4 rfl (lv_at hl 2 rfl) ?_
  refine lv_if_lt (tgt := 22) hx hb dX6_copyOf_5 (by decide) (fun c_0 => absurd c_0 (z0 _ (by omega))) (fun c_0 => ?_)
  refine lv_iload_n hx hb dX6_copyOf_8 rfl (lv_at hl 1 rfl) ?_
  refine lv_aload_n hx hb dX6_copyOf_9 rfl (lv_at hl 0 rfl) ?_
  refine zr_alen (v := nI n) S hK hw 0 hg rfl rfl dX6_copyOf_10 ?_
  refine lv_icmp_gt (tgt := 22) hx hb dX6_copyOf_11 (by decide) (fun c_1 => absurd ((nI_ltI (by omega) (by omega)).mp c_1) (by omega)) (fun c_1 => ?_)
  refine lv_iload_n hx hb dX6_copyOf_14 rfl (lv_at hl 2 rfl) ?_
  refine lv_aload_n hx hb dX6_copyOf_15 rfl (lv_at hl 0 rfl) ?_
  refine zr_alen (v := nI n) S hK hw 0 hg rfl rfl dX6_copyOf_16 ?_
  refine lv_iload_n hx hb dX6_copyOf_17 rfl (lv_at hl 1 rfl) ?_
  refine lv_isub hx hb dX6_copyOf_18 ?_
  rw [nI_sub2 (by omega)]
  refine lv_icmp_le (tgt := 26) hx hb dX6_copyOf_19 (by decide) (fun c_2 => ?_) (fun c_2 => absurd ((nI_leI (by omega) (by omega)).mpr (by omega)) c_2)
  refine lv_aload_n hx hb dX6_copyOf_26 rfl (lv_at hl 0 rfl) ?_
  refine lv_iload_n hx hb dX6_copyOf_27 rfl (lv_at hl 1 rfl) ?_
  refine lv_iload_n hx hb dX6_copyOf_28 rfl (lv_at hl 1 rfl) ?_
  refine lv_iload_n hx hb dX6_copyOf_29 rfl (lv_at hl 2 rfl) ?_
  refine lv_iadd hx hb dX6_copyOf_30 ?_
  rw [nI_add]
  refine va_callr (va_runS (As := [.ref (ad g), .int (nI fr), .int (nI (fr + sz))]) (rest := []) S (kt_J7_copyOfRange_39247 l D cy A ad σ X g n f fr (fr + sz) hg hB (by omega) h2 h3) (va_cwS 3 hts (wz_S (zin7 _ (List.mem_of_getElem? (i := 1) rfl)) (zin6 _ (List.mem_of_getElem? (i := 22) rfl)) (zin6 _ (List.mem_of_getElem? (i := 23) rfl)) (zin7 _ (List.mem_of_getElem? (i := 0) rfl))) rfl rfl rfl (by decide +kernel) ⟨Nat.le_of_ble_eq_true rfl, Nat.le_of_ble_eq_true rfl⟩) ⟨pt_blind _, pt_pre hP hw hS _⟩ rfl rfl hl.1 rfl (lv_room (Nat.le_of_ble_eq_true rfl)) dX6_copyOf_31 ⟨Nat.le_of_ble_eq_true rfl, Nat.le_of_ble_eq_true rfl⟩) hS (fun _ _ h => h) (fun _ h => h) (fun u q t H1 locs1 ht hvm hq hM hz1 hk1 hS1 => ?_)
  rw [show fr + sz - fr = sz by omega] at hM
  exact W.aret (v := .ref q) hx hb hr (Or.inr ⟨_, rfl⟩) (Or.inr ⟨_, rfl⟩) (fun t2 ht2 hW => ⟨⟨(), q, rfl, trivial, by dsimp only; rw [ht2, ← ht]; exact hM⟩, hS1.F ht2⟩) hS1.2.2 dX6_copyOf_34 hlocks
set_option maxHeartbeats 4000000 in
set_option maxRecDepth 100000 in
theorem kt_X6_octetAt (l : Launch) (D : va_G) (cy : Nat → ClassId) (A : Nat → Prop) (ad : Nat × Nat → Nat) (σ : CS) (X : List va_E) (g : Nat × Nat) (n : Nat) (f : Nat → Int32) (i : Nat) (hg : cL cy ad σ X g = some (.inl (cy 0, n, .inl f))) (hB : ∀ i, i < n → isB (f i)) (hi : i < n) (h3 : n ≤ 120) : Met l yX6_octetAt (wz yX6_octetAt cX6_octetAt 2 (some .int)) ({ frames := 0, cells := 0, slots := 0, locals := 0 } : Room) (va_Pc [.ref (ad g), .int (nI i)] (pt D cy A ad σ X)) (va_Qi (fun (r : Int32) (_ : Unit) => r = nI (oc f i)) (fun _ t => zw D A ad (cL cy ad σ X) t.heap) A) 0 0 A := by
  refine Met.ofW (cc := cX6_octetAt) (maxL := 2) (ret := (some .int)) (by decide) rfl ?_
  intro p e s m args below meth c s₁ B hml hv
  obtain ⟨rfl, hP⟩ := hv
  have hw := hP.1
  have hK := hP.2.1
  have hx := B.exec
  have hb := B.bytes
  have hr := B.returns
  have hts := atoms_spec (ws := (wz yX6_octetAt cX6_octetAt 2 (some .int))) B.pre
  have hown : s.vm.findClass RX6 = some m.cls := findClass_of_methodNamed B.named
  have hlocks := B.notSynchronized
  have S : CallFix p m c cX6_octetAt 2 s ([.ref (ad g), .int (nI i)] : List Value).toArray (wz yX6_octetAt cX6_octetAt 2 (some .int)) RX6 := ⟨hx, hb, hml, hown, hts⟩
  have hS : va_S A s.heap s.heap [] := va_S.rf
  have hl := lv_entry ([.ref (ad g), .int (nI i)]) (n := 2) (Nat.le_of_ble_eq_true rfl)
  rw [lg_entry_eq]
  generalize (lg_sl ([.ref (ad g), .int (nI i)]) ++ List.replicate (2 - (lg_sl ([.ref (ad g), .int (nI i)])).length) Slot.unset).toArray = ls at hl ⊢
  have hl : lv_has ls 2 [(0, .ref (ad g)), (1, .int (nI i))] := hl
  refine lv_iload_n hx hb dX6_octetAt_0 rfl (lv_at hl 1 rfl) ?_
  refine lv_if_lt (tgt := 20) hx hb dX6_octetAt_1 (by decide) (fun c_0 => absurd c_0 (nI_pos (by omega))) (fun c_0 => ?_)
  refine lv_iload_n hx hb dX6_octetAt_4 rfl (lv_at hl 1 rfl) ?_
  refine lv_aload_n hx hb dX6_octetAt_5 rfl (lv_at hl 0 rfl) ?_
  refine zr_alen (v := nI n) S hK hw 0 hg rfl rfl dX6_octetAt_6 ?_
  refine lv_icmp_ge (tgt := 20) hx hb dX6_octetAt_7 (by decide) (fun c_1 => absurd ((nI_leI (by omega) (by omega)).mp c_1) (by omega)) (fun c_1 => ?_)
  refine lv_aload_n hx hb dX6_octetAt_10 rfl (lv_at hl 0 rfl) ?_
  refine lv_iload_n hx hb dX6_octetAt_11 rfl (lv_at hl 1 rfl) ?_
  refine zr_bald S hK hw 0 hg rfl (vp_in_nI hi (by omega)) dX6_octetAt_12 ?_
  refine lv_sipush (v := (255 : Int32)) hx hb dX6_octetAt_13 (by decide) ?_
  refine lv_iand hx hb dX6_octetAt_16 ?_
  refine lv_goto (tgt := 21) hx hb dX6_octetAt_17 (by decide) ?_
  rw [nI_clamp (by omega), (oc_nI (hB i hi)).1]
  exact W.iret (v := nI (oc f i)) hx hb hr (fun t ht hW => ⟨⟨_, (), rfl, rfl, by dsimp only; rw [ht]; exact hw⟩, hS.F ht⟩) hS.2.2 dX6_octetAt_21 hlocks
set_option maxHeartbeats 4000000 in
set_option maxRecDepth 100000 in
theorem kt_X6_codeOf (l : Launch) (D : va_G) (cy : Nat → ClassId) (A : Nat → Prop) (ad : Nat × Nat → Nat) (σ : CS) (X : List va_E) (g : Nat × Nat) (n : Nat) (f : Nat → Int32) (mk : Nat) (k0 : Nat) (hg : cL cy ad σ X g = some (.inl (cy 0, n, .inl f))) (hB : ∀ i, i < n → isB (f i)) (hk : okF n f k0 0) (hmk : mk < 256) (h3 : n ≤ 120) : Met l yX6_codeOf (wz yX6_codeOf cX6_codeOf 4 (some (.array .byte))) ({ frames := 5, cells := 1, slots := 120, locals := 180 } : Room) (va_Pc [.ref (ad g), .int (nI mk)] (pt D cy A ad σ X)) (va_Qq (fun (r u : Option Nat) => r = u) (fun (u : Option Nat) t => (u = none ∧ cOf n f mk k0 0 = none ∧ zw D A ad (cL cy ad σ X) t.heap) ∨ ∃ (fr sz q : Nat), u = some q ∧ cOf n f mk k0 0 = some (fr, sz) ∧ fr + sz ≤ n ∧ rowM D cy A ad σ X sz fr f q t.heap) A) 1 120 A := by
  refine Met.ofW (cc := cX6_codeOf) (maxL := 4) (ret := (some (.array .byte))) (by decide) rfl ?_
  intro p e s m args below meth c s₁ B hml hv
  obtain ⟨rfl, hP⟩ := hv
  have hw := hP.1
  have hK := hP.2.1
  have hx := B.exec
  have hb := B.bytes
  have hr := B.returns
  have hts := atoms_spec (ws := (wz yX6_codeOf cX6_codeOf 4 (some (.array .byte)))) B.pre
  have hown : s.vm.findClass RX6 = some m.cls := findClass_of_methodNamed B.named
  have hlocks := B.notSynchronized
  have S : CallFix p m c cX6_codeOf 4 s ([.ref (ad g), .int (nI mk)] : List Value).toArray (wz yX6_codeOf cX6_codeOf 4 (some (.array .byte))) RX6 := ⟨hx, hb, hml, hown, hts⟩
  have hS : va_S A s.heap s.heap [] := va_S.rf
  have hl := lv_entry ([.ref (ad g), .int (nI mk)]) (n := 4) (Nat.le_of_ble_eq_true rfl)
  rw [lg_entry_eq]
  generalize (lg_sl ([.ref (ad g), .int (nI mk)]) ++ List.replicate (4 - (lg_sl ([.ref (ad g), .int (nI mk)])).length) Slot.unset).toArray = ls at hl ⊢
  have hl : lv_has ls 4 [(0, .ref (ad g)), (1, .int (nI mk))] := hl
  refine lv_iconst (v := nI 0) hx hb dX6_codeOf_0 (by decide) ?_
  refine lv_istore_n (lv' := [(2, .int (nI 0)), (0, .ref (ad g)), (1, .int (nI mk))]) hx hb dX6_codeOf_1 rfl hl (by decide) rfl (fun ls hl => ?_)
  have K : ∀ (k at_ : Nat) (H : Heap) (locs : List Loc) (ls : Array Slot), at_ ≤ n → okF n f k at_ → cOf n f mk k0 0 = cOf n f mk k at_ → zw D A ad (cL cy ad σ X) H → va_S A s.heap H locs → lv_has ls 4 [(0, .ref (ad g)), (1, .int (nI mk)), (2, .int (nI at_))] → W p l e (headSpec (wz yX6_codeOf cX6_codeOf 4 (some (.array .byte))) ({ frames := 5, cells := 1, slots := 120, locals := 180 } : Room)).room s m ([.ref (ad g), .int (nI mk)] : List Value).toArray below meth c H locs 0 0 (MQ below (va_Qq (fun (r u : Option Nat) => r = u) (fun (u : Option Nat) t => (u = none ∧ cOf n f mk k0 0 = none ∧ zw D A ad (cL cy ad σ X) t.heap) ∨ ∃ (fr sz q : Nat), u = some q ∧ cOf n f mk k0 0 = some (fr, sz) ∧ fr + sz ≤ n ∧ rowM D cy A ad σ X sz fr f q t.heap) A) ([.ref (ad g), .int (nI mk)] : List Value).toArray s 1 120 A) (F0 m 2 ls []) := by
    intro k
    induction k with
    | zero => intro at_ H locs ls _ h; exact h.elim
    | succ k ih =>
      intro at_ H locs ls hat hok hco hw hS hl
      refine lv_iload_n hx hb dX6_codeOf_2 rfl (lv_at hl 2 rfl) ?_
      refine lv_aload_n hx hb dX6_codeOf_3 rfl (lv_at hl 0 rfl) ?_
      refine zr_alen (v := nI n) S hK hw 0 hg rfl rfl dX6_codeOf_4 ?_
      refine lv_icmp_ge (tgt := 43) hx hb dX6_codeOf_5 (by decide) (fun c_1 => ?_) (fun c_1 => ?_)
      · have hn : n ≤ at_ := (nI_leI (by omega) (by omega)).mp c_1
        have hcn : cOf n f mk k0 0 = none := by rw [hco]; unfold cOf; rw [if_neg (by omega)]
        refine lv_null hx hb dX6_codeOf_43 ?_
        refine W.widen (k := 1) (n := 120) (Nat.zero_le _) (Nat.zero_le _) ?_
        exact W.aret (v := .null) hx hb hr (Or.inr ⟨_, rfl⟩) (Or.inl rfl) (fun t ht hW => ⟨⟨none, none, rfl, rfl, Or.inl ⟨rfl, hcn, by rw [ht]; exact hw⟩⟩, hS.F ht⟩) hS.2.2 dX6_codeOf_44 hlocks
      · have hlt : at_ < n := Nat.lt_of_not_le (fun z => c_1 ((nI_leI (by omega) (by omega)).mpr z))
        have hok2 : at_ + 2 + oc f (at_ + 1) ≤ n ∧ okF n f k (at_ + 2 + oc f (at_ + 1)) := by
          rcases hok with h | h
          · omega
          · exact h
        have ho0 := (oc_nI (hB at_ hlt)).2
        have ho1 := (oc_nI (hB (at_ + 1) (by omega))).2
        refine lv_aload_n hx hb dX6_codeOf_8 rfl (lv_at hl 0 rfl) ?_
        refine lv_iload_n hx hb dX6_codeOf_9 rfl (lv_at hl 2 rfl) ?_
        refine lv_iconst (v := nI 1) hx hb dX6_codeOf_10 (by decide) ?_
        refine lv_iadd hx hb dX6_codeOf_11 ?_
        rw [nI_add]
        refine va_calli (va_runS (As := [.ref (ad g), .int (nI (at_ + 1))]) (rest := []) S (kt_X6_octetAt l D cy A ad σ X g n f (at_ + 1) hg hB (by omega) h3) (va_cwS 2 hts (wz_S (zin6 _ (List.mem_of_getElem? (i := 7) rfl)) (zin6 _ (List.mem_of_getElem? (i := 5) rfl)) (zin6 _ (List.mem_of_getElem? (i := 6) rfl)) (zin1 _ (List.mem_of_getElem? (i := 2) rfl))) rfl rfl rfl (by decide +kernel) ⟨Nat.le_of_ble_eq_true rfl, Nat.le_of_ble_eq_true rfl⟩) ⟨pt_blind _, pt_pre hP hw hS _⟩ rfl rfl hl.1 rfl (lv_room (Nat.le_of_ble_eq_true rfl)) dX6_codeOf_12 ⟨Nat.zero_le _, Nat.zero_le _⟩) hS (fun _ _ h => h) (fun _ h => h) (fun u _ t H1 locs1 ht hvm hq hw hz1 hk1 hS => ?_)
        subst hq
        rw [ht] at hw
        refine lv_istore_n (lv' := [(3, .int (nI (oc f (at_ + 1)))), (0, .ref (ad g)), (1, .int (nI mk)), (2, .int (nI at_))]) hx hb dX6_codeOf_15 rfl hl (by decide) rfl (fun ls hl => ?_)
        refine lv_aload_n hx hb dX6_codeOf_16 rfl (lv_at hl 1 rfl) ?_
        refine lv_iload_n hx hb dX6_codeOf_17 rfl (lv_at hl 3 rfl) ?_
        refine va_calli (va_runS (As := [.ref (ad g), .int (nI at_)]) (rest := []) S (kt_X6_octetAt l D cy A ad σ X g n f at_ hg hB (by omega) h3) (va_cwS 2 hts (wz_S (zin6 _ (List.mem_of_getElem? (i := 7) rfl)) (zin6 _ (List.mem_of_getElem? (i := 5) rfl)) (zin6 _ (List.mem_of_getElem? (i := 6) rfl)) (zin1 _ (List.mem_of_getElem? (i := 2) rfl))) rfl rfl rfl (by decide +kernel) ⟨Nat.le_of_ble_eq_true rfl, Nat.le_of_ble_eq_true rfl⟩) ⟨pt_blind _, pt_pre hP hw hS _⟩ rfl rfl hl.1 rfl (lv_room (Nat.le_of_ble_eq_true rfl)) dX6_codeOf_18 ⟨Nat.zero_le _, Nat.zero_le _⟩) hS (fun _ _ h => h) (fun _ h => h) (fun u _ t H1 locs1 ht hvm hq hw hz1 hk1 hS => ?_)
        subst hq
        rw [ht] at hw
        refine lv_iload_n hx hb dX6_codeOf_21 rfl (lv_at hl 2 rfl) ?_
        refine lv_icmp_ne (tgt := 34) hx hb dX6_codeOf_22 (by decide) (fun c_2 => ?_) (fun c_2 => ?_)
        · have hne : ¬ oc f at_ = mk := fun z => c_2 (by rw [z])
          have hco2 : cOf n f mk k0 0 = cOf n f mk k (at_ + 2 + oc f (at_ + 1)) := by rw [hco]; show (if at_ < n then _ else _) = _; rw [if_pos hlt, if_neg hne]
          refine lv_iload_n hx hb dX6_codeOf_34 rfl (lv_at hl 3 rfl) ?_
          refine lv_iconst (v := nI 2) hx hb dX6_codeOf_35 (by decide) ?_
          refine lv_iload_n hx hb dX6_codeOf_36 rfl (lv_at hl 0 rfl) ?_
          refine lv_iadd hx hb dX6_codeOf_37 ?_
          refine lv_iadd hx hb dX6_codeOf_38 ?_
          rw [nI_add, nI_add, show at_ + (2 + oc f (at_ + 1)) = at_ + 2 + oc f (at_ + 1) by omega]
          refine lv_istore_n (lv' := [(2, .int (nI (at_ + 2 + oc f (at_ + 1)))), (3, .int (nI (oc f (at_ + 1)))), (0, .ref (ad g)), (1, .int (nI mk))]) hx hb dX6_codeOf_39 rfl hl (by decide) rfl (fun ls hl => ?_)
          refine lv_goto (tgt := 2) hx hb dX6_codeOf_40 (by decide) ?_
          exact ih _ _ _ _ hok2.1 hok2.2 hco2 hw hS (lv_sub hl [2, 3, 0] rfl)
        · have heq : oc f at_ = mk := (nI_eq (by omega) (by omega)).mp c_2
          have hco2 : cOf n f mk k0 0 = some (at_ + 2, oc f (at_ + 1)) := by rw [hco]; show (if at_ < n then _ else _) = _; rw [if_pos hlt, if_pos heq]
          refine lv_aload_n hx hb dX6_codeOf_25 rfl (lv_at hl 1 rfl) ?_
          refine lv_iload_n hx hb dX6_codeOf_26 rfl (lv_at hl 3 rfl) ?_
          refine lv_iconst (v := nI 2) hx hb dX6_codeOf_27 (by decide) ?_
          refine lv_iadd hx hb dX6_codeOf_28 ?_
          rw [nI_add]
          refine lv_iload_n hx hb dX6_codeOf_29 rfl (lv_at hl 0 rfl) ?_
          refine va_callr (va_runS (As := [.ref (ad g), .int (nI (at_ + 2)), .int (nI (oc f (at_ + 1)))]) (rest := []) S (kt_X6_copyOf l D cy A ad σ X g n f (at_ + 2) (oc f (at_ + 1)) hg hB hok2.1 h3) (va_cwS 3 hts (wz_S (zin6 _ (List.mem_of_getElem? (i := 21) rfl)) (zin6 _ (List.mem_of_getElem? (i := 19) rfl)) (zin6 _ (List.mem_of_getElem? (i := 20) rfl)) (zin1 _ (List.mem_of_getElem? (i := 2) rfl))) rfl rfl rfl (by decide +kernel) ⟨Nat.le_of_ble_eq_true rfl, Nat.le_of_ble_eq_true rfl⟩) ⟨pt_blind _, pt_pre hP hw hS _⟩ rfl rfl hl.1 rfl (lv_room (Nat.le_of_ble_eq_true rfl)) dX6_codeOf_30 ⟨Nat.le_of_ble_eq_true rfl, Nat.le_of_ble_eq_true rfl⟩) hS (fun _ _ h => h) (fun _ h => h) (fun u q t H1 locs1 ht hvm hq hM hz1 hk1 hS1 => ?_)
          exact W.aret (v := .ref q) hx hb hr (Or.inr ⟨_, rfl⟩) (Or.inr ⟨_, rfl⟩) (fun t2 ht2 hW => ⟨⟨some q, some q, rfl, rfl, Or.inr ⟨_, _, q, rfl, hco2, hok2.1, by rw [ht2, ← ht]; exact hM⟩⟩, hS1.F ht2⟩) hS1.2.2 dX6_codeOf_33 hlocks
  exact K k0 0 _ _ _ (Nat.zero_le _) hk rfl hw hS (lv_sub hl [1, 2, 0] rfl)
