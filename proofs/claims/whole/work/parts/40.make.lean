/-! ===== things that are made: generic rows over a world by names ===== -/
theorem zw_ren {ι : Type} {D : va_G} {A : Nat → Prop} {ad ad2 : ι → Nat} {G G2 : ι → Option va_E} {H : Heap} (hw : zw D A ad G H) (ρ : ι → ι) (h1 : ∀ g e, G2 g = some e → G (ρ g) = some e ∧ ad (ρ g) = ad2 g) (h2 : ∀ g g' e e', G2 g = some e → G2 g' = some e' → ρ g = ρ g' → g = g') : zw D A ad2 G2 H := by
  obtain ⟨⟨L, F, hP, hD, hG⟩, hi⟩ := hw
  refine ⟨⟨L, F, hP, hD, fun g e h => ?_⟩, fun g g' e e' h h' q => ?_⟩
  · obtain ⟨k1, k2⟩ := h1 g e h
    rw [← k2]
    exact hG _ _ k1
  · obtain ⟨k1, k2⟩ := h1 g e h
    obtain ⟨k3, k4⟩ := h1 g' e' h'
    exact h2 g g' e e' h h' (hi _ _ _ _ k1 k3 (by rw [k2, k4, q]))
theorem zw_push {ι : Type} {D : va_G} {A : Nat → Prop} {ad : ι → Nat} {G : ι → Option va_E} {L : List Nat} {F : Nat → va_E} {q : Nat} {e0 : va_E} {H1 : Heap} (hG : ∀ g e, G g = some e → ad g ∈ L ∧ F (ad g) = e) (hi : ∀ g g' e e', G g = some e → G g' = some e' → ad g = ad g' → g = g') (hP : va_P D vwCl (va_pl L F ++ [(q, e0)]) H1) (hD : va_D A (va_pl L F ++ [(q, e0)]))
    {ad1 : ι → Nat} {G1 : ι → Option va_E} {g0 : ι} (h0 : G g0 = none) (h1 : ad1 g0 = q) (h2 : ∀ g e, G g = some e → ad1 g = ad g) (h3 : G1 g0 = some e0) (h4 : ∀ g, g ≠ g0 → G1 g = G g) : zw D A ad1 G1 H1 := by
  have hq : q ∉ L := by
    intro hq
    obtain ⟨k, hk⟩ := va_pl_get (X := []) (f := F) hq
    have hk1 : (va_pl L F)[k]? = some (q, F q) := hk
    have hlt := (List.getElem?_eq_some_iff.mp hk1).1
    have h9 : (va_pl L F ++ [(q, e0)])[(va_pl L F).length]? = some (q, e0) := by simp
    have := hD.1 k (va_pl L F).length _ _ ((List.getElem?_append_left hlt).trans hk1) h9 rfl
    omega
  rw [va_pl_push hq] at hP hD
  refine ⟨⟨_, _, hP, hD, fun g e h => ?_⟩, fun g g' e e' h h' hh => ?_⟩
  · by_cases hg : g = g0
    · subst hg
      rw [h3] at h
      cases h
      rw [h1]
      exact ⟨List.mem_append_right _ (List.mem_singleton.mpr rfl), va_up_self _ _ _⟩
    · rw [h4 g hg] at h
      obtain ⟨k1, k2⟩ := hG g e h
      rw [h2 g e h]
      have hne : ad g ≠ q := fun z => hq (by rw [← z]; exact k1)
      exact ⟨List.mem_append_left _ k1, by rw [va_up_ne _ _ hne]; exact k2⟩
  · have key : ∀ g e, g ≠ g0 → G1 g = some e → ad1 g ≠ q := by
      intro g e hg h z
      rw [h4 g hg] at h
      rw [h2 g e h] at z
      exact hq (z ▸ (hG g e h).1)
    by_cases hg : g = g0
    · by_cases hg' : g' = g0
      · rw [hg, hg']
      · subst hg
        exact absurd (hh.symm.trans h1) (key g' e' hg' h')
    · by_cases hg' : g' = g0
      · subst hg'
        exact absurd (hh.trans h1) (key g e hg h)
      · rw [h4 g hg] at h
        rw [h4 g' hg'] at h'
        rw [h2 g e h, h2 g' e' h'] at hh
        exact hi _ _ _ _ h h' hh
section ZN
variable {p : Program} {l : Launch} {e : Env} {R : Room} {s : State} {m : MethodId} {args : Array Value} {below : List Frame} {meth : Method} {c : Code} {H : Heap} {locs : List Loc} {cells slots : Nat} {Q : State → Prop}
variable {cc : ByteArray} {nL pc : Nat} {ls : Array Slot} {rest : List Value} {D : va_G} {A : Nat → Prop} {cy : Nat → ClassId} {H0 : Heap} {Ts : List Cond} {own : String} {ι : Type} {ad : ι → Nat} {G : ι → Option va_E}
theorem zr_new (S : CallFix p m c cc nL s args Ts own) {C : String} {T : u_T} {N ci index : Nat} (hin : ∀ w ∈ u_ws C T N, w ∈ Ts) (ty : Nat → FieldType) (hty : ∀ k, k < N → parseFieldDescriptor (T k).2.2.1 = some (ty k)) (hcl : Cond.classLink own index C ∈ Ts) (hinst : Cond.instantiable C N ∈ Ts) (hini : Cond.initialized C ∈ Ts) (hK : va_K D vwCl (ztys cy) s) (hw : zw D A ad G H) (hS : va_S A H0 H locs) (hA : ∀ q, H0.size ≤ q → A q) (hc : vwCl[ci]? = some (C, T, N)) {fs : List Value} (hfs : ∀ j, j < N → defaultValue (ty j) = vp_V fs j) (hcells : cells + 1 ≤ R.cells) (hslots : slots + N ≤ R.slots) (hdg : decode cc pc = .ok (.new index, 3))
    (kk : ∀ (q : Nat) (H1 : Heap), (∀ (ad1 : ι → Nat) (G1 : ι → Option va_E) (g0 : ι), G g0 = none → ad1 g0 = q → (∀ g e, G g = some e → ad1 g = ad g) → G1 g0 = some (.inr (ci, fs)) → (∀ g, g ≠ g0 → G1 g = G g) → zw D A ad1 G1 H1) → va_S A H0 H1 locs → W p l e R s m args below meth c H1 locs (cells + 1) (slots + N) Q (F0 m (pc + 3) ls (.ref q :: rest))) : W p l e R s m args below meth c H locs cells slots Q (F0 m pc ls rest) := by
  obtain ⟨hx, hb, hml, hown, hts⟩ := S
  obtain ⟨⟨L, F, hP, hD, hG⟩, hi⟩ := hw
  exact va_new (D := D) (cl := vwCl) hx hb hts hin ty hty hown (hts _ hcl) (hts _ hinst) (hts _ hini) hK hP hD hS hA hc hfs hcells hslots hdg (fun q H1 hP1 hD1 hS1 => kk q H1 (fun ad1 G1 g0 h0 h1 h2 h3 h4 => zw_push hG hi hP1 hD1 h0 h1 h2 h3 h4) hS1)
theorem zcy {cA : ClassId} {ty : FieldType} {t : Nat} (h : va_K D vwCl (ztys cy ++ [(cA, ty)]) s) (ht : (ztys cy)[t]? = some (cy t, ty)) : cA = cy t := by
  have h1 := (h.2 7 (cA, ty) rfl).2
  have hlt : t < (ztys cy).length := (List.getElem?_eq_some_iff.mp ht).1
  have h2 := (h.2 t (cy t, ty) ((List.getElem?_append_left hlt).trans ht)).2
  cases ty with
  | object C =>
    obtain ⟨-, -, -, -, -, a⟩ := h1
    obtain ⟨-, -, -, -, -, b⟩ := h2
    exact Option.some.inj (a.symm.trans b)
  | _ => exact Option.some.inj (Eq.trans (Eq.symm h1) h2)
theorem zr_newa (S : CallFix p m c cc nL s args Ts own) {atype : ArrayType} {ty : FieldType} (hty : newarray.typeOf atype = ty) (harr : Cond.arrayClass ty ∈ Ts) (hK : va_K D vwCl (ztys cy) s) (hw : zw D A ad G H) (hS : va_S A H0 H locs) (hA : ∀ q, H0.size ≤ q → A q) (t : Nat) (ht : (ztys cy)[t]? = some (cy t, ty)) {n : Int32} {N' : Nat} {a0 : vp_A} (ha : ∀ cA : ClassId, vp_cell cA a0 = arrV cA N' (fun _ => defaultValue ty)) (hn : ¬ n < 0) (hN : n.toNatClampNeg = N') (hbytes : N' * componentBytes ty ≤ 536870912) (hcells : cells + 1 ≤ R.cells) (hslots : slots + N' ≤ R.slots) (hdg : decode cc pc = .ok (.newarray atype, 2))
    (kk : ∀ (q : Nat) (H1 : Heap), (∀ (ad1 : ι → Nat) (G1 : ι → Option va_E) (g0 : ι), G g0 = none → ad1 g0 = q → (∀ g e, G g = some e → ad1 g = ad g) → G1 g0 = some (.inl (cy t, a0)) → (∀ g, g ≠ g0 → G1 g = G g) → zw D A ad1 G1 H1) → va_S A H0 H1 locs → W p l e R s m args below meth c H1 locs (cells + 1) (slots + N') Q (F0 m (pc + 2) ls (.ref q :: rest))) : W p l e R s m args below meth c H locs cells slots Q (F0 m pc ls (.int n :: rest)) := by
  obtain ⟨hx, hb, hml, hown, hts⟩ := S
  obtain ⟨⟨L, F, hP, hD, hG⟩, hi⟩ := hw
  subst hty
  exact va_newa (D := D) (cl := vwCl) (atype := atype) hx hb (hts _ harr) rfl hK hP hD hS hA ha hn hN hbytes hcells hslots hdg (fun q cA H1 hK1 hP1 hD1 hS1 => by
    have hcA := zcy hK1 ht
    subst hcA
    exact kk q H1 (fun ad1 G1 g0 h0 h1 h2 h3 h4 => zw_push hG hi hP1 hD1 h0 h1 h2 h3 h4) hS1)
theorem zr_newq (S : CallFix p m c cc nL s args Ts own) {C : String} {index : Nat} (hcl : Cond.classLink own index C ∈ Ts) (hover : va_AO C s) (hK : va_K D vwCl (ztys cy) s) (hw : zw D A ad G H) (hS : va_S A H0 H locs) (hA : ∀ q, H0.size ≤ q → A q) (t : Nat) (ht : (ztys cy)[t]? = some (cy t, .object C)) {n : Int32} {N' : Nat} (hn : ¬ n < 0) (hN : n.toNatClampNeg = N') (hbytes : N' * 4 ≤ 536870912) (hcells : cells + 1 ≤ R.cells) (hslots : slots + N' ≤ R.slots) (hdg : decode cc pc = .ok (.anewarray index, 3))
    (kk : ∀ (q : Nat) (H1 : Heap), (∀ (ad1 : ι → Nat) (G1 : ι → Option va_E) (g0 : ι), G g0 = none → ad1 g0 = q → (∀ g e, G g = some e → ad1 g = ad g) → G1 g0 = some (.inl (cy t, N', .inr (.inr (.inr (.inr (fun _ => none)))))) → (∀ g, g ≠ g0 → G1 g = G g) → zw D A ad1 G1 H1) → va_S A H0 H1 locs → W p l e R s m args below meth c H1 locs (cells + 1) (slots + N') Q (F0 m (pc + 3) ls (.ref q :: rest))) : W p l e R s m args below meth c H locs cells slots Q (F0 m pc ls (.int n :: rest)) := by
  obtain ⟨hx, hb, hml, hown, hts⟩ := S
  obtain ⟨⟨L, F, hP, hD, hG⟩, hi⟩ := hw
  exact va_newq (D := D) (cl := vwCl) hx hb hown (hts _ hcl) hover hK hP hD hS hA hn hN hbytes hcells hslots hdg (fun q cA H1 hK1 hP1 hD1 hS1 => by
    have hcA := zcy hK1 ht
    subst hcA
    exact kk q H1 (fun ad1 G1 g0 h0 h1 h2 h3 h4 => zw_push hG hi hP1 hD1 h0 h1 h2 h3 h4) hS1)
theorem zr_putF (S : CallFix p m c cc nL s args Ts own) {C ref : String} {T : u_T} {N ci index : Nat} (hin : ∀ w ∈ u_ws C T N, w ∈ Ts) (ty0 : Nat → FieldType) (hty : ∀ k, k < N → parseFieldDescriptor (T k).2.2.1 = some (ty0 k)) (hnm : ∀ a, a < N → ∀ b, b < N → a ≠ b → (T a).2.1 ≠ (T b).2.1) (hK : va_K D vwCl (ztys cy) s) (hw : zw D A ad G H) (hS0 : va_S A H0 H locs) {g : ι} {fs : List Value} (he : G g = some (.inr (ci, fs))) (hc : vwCl[ci]? = some (C, T, N)) (k : Nat) (hk : k < N) (hlink : Cond.fieldLink own index ref (T k).2.1 (T k).2.2.1 ∈ Ts) (hd1 : (T k).1 = ref) (hfin : (T k).2.2.2 = true) (hin2 : meth.name = "<init>") (hdecl : (T k).1 = own) {v : Value} (hn : narrow (ty0 k) v = v) (hfit : fits (ty0 k) v = true) (hl : k < fs.length) (hdg : decode cc pc = .ok (.putfield index, 3))
    {G1 : ι → Option va_E} (h1 : G1 g = some (.inr (ci, fs.set k v))) (h2 : ∀ g', g' ≠ g → G1 g' = G g')
    (kk : ∀ (H1 : Heap) (locs1 : List Loc), zw D A ad G1 H1 → va_S A H0 H1 locs1 → W p l e R s m args below meth c H1 locs1 cells slots Q (F0 m (pc + 3) ls rest)) : W p l e R s m args below meth c H locs cells slots Q (F0 m pc ls (v :: .ref (ad g) :: rest)) := by
  obtain ⟨hx, hb, hml, hown, hts⟩ := S
  obtain ⟨⟨L, F, hP, hD, hG⟩, hi⟩ := hw
  obtain ⟨hL, hF⟩ := hG g _ he
  obtain ⟨k0, hk0⟩ := va_pl_get (X := []) (f := F) hL
  have hk1 : (va_pl L F)[k0]? = some (ad g, .inr (ci, fs)) := by rw [← hF]; exact hk0
  exact va_putF (D := D) (cl := vwCl) hx hb hts hin ty0 hty hnm hown hK hP hD hS0 k0 hk1 hc k hk (hts _ hlink) (fun x h => by rw [hd1] at h; exact h) hfin hin2 hdecl (hty k hk) hn hfit hl hdg fun H1 locs1 hP1 hD1 hS1 => kk H1 locs1 (zw_set hG hi he hD hk0 hP1 hD1 h1 h2) hS1
theorem zr_aast (S : CallFix p m c cc nL s args Ts own) (hK : va_K D vwCl (ztys cy) s) (hw : zw D A ad G H) (hS : va_S A H0 H locs) {g gv : ι} (t ci : Nat) {r : vw_C} {n : Nat} {vs : List Value} {f : Nat → Option Nat} (ha : G g = some (.inl (cy t, n, .inr (.inr (.inr (.inr f)))))) (ht : (ztys cy)[t]? = some (cy t, .object r.1)) (hv : G gv = some (.inr (ci, vs))) (hc : vwCl[ci]? = some r) {i : Int32} (hin : vp_in i n) (hdg : decode cc pc = .ok (.aastore, 1))
    {G1 : ι → Option va_E} (h1 : G1 g = some (.inl (cy t, n, .inr (.inr (.inr (.inr (va_up f i.toNatClampNeg (some (ad gv))))))))) (h2 : ∀ g', g' ≠ g → G1 g' = G g')
    (kk : ∀ (H1 : Heap) (locs1 : List Loc), zw D A ad G1 H1 → va_S A H0 H1 locs1 → W p l e R s m args below meth c H1 locs1 cells slots Q (F0 m (pc + 1) ls rest)) : W p l e R s m args below meth c H locs cells slots Q (F0 m pc ls (.ref (ad gv) :: .int i :: .ref (ad g) :: rest)) := by
  obtain ⟨hx, hb, hml, hown, hts⟩ := S
  obtain ⟨⟨L, F, hP, hD, hG⟩, hi⟩ := hw
  obtain ⟨hL, hF⟩ := hG g _ ha
  obtain ⟨k0, hk0⟩ := va_pl_get (X := []) (f := F) hL
  have hk1 : (va_pl L F)[k0]? = some (ad g, .inl (cy t, n, .inr (.inr (.inr (.inr f))))) := by rw [← hF]; exact hk0
  obtain ⟨hLv, hFv⟩ := hG gv _ hv
  obtain ⟨k2, hk2⟩ := va_pl_get (X := []) (f := F) hLv
  have hk3 : (va_pl L F)[k2]? = some (ad gv, .inr (ci, vs)) := by rw [← hFv]; exact hk2
  exact va_astq (D := D) (cl := vwCl) (r := r) hx hb hK hP hD hS k0 t k2 ci hk1 ht hk3 hc hin hdg fun H1 locs1 hP1 hD1 hS1 => kk H1 locs1 (zw_set hG hi ha hD hk0 hP1 hD1 h1 h2) hS1
end ZN
/-! ===== temporary things beside the class's world: kind 10 ===== -/
theorem cG_ad {cy : Nat → ClassId} {ad ad1 : Nat × Nat → Nat} {σ : CS} (h : ∀ k i, k ≤ 9 → ad1 (k, i) = ad (k, i)) : cG cy ad1 σ = cG cy ad σ := by
  funext g
  unfold cG
  split
  · unfold cE
    split <;> first | rfl | simp [cF0, cF1, cF4, cF6, cF7, rn, h]
  · rfl
def cX (cy : Nat → ClassId) (ad : Nat × Nat → Nat) (σ : CS) (X : Nat → Option va_E) : Nat × Nat → Option va_E := fun g => if g.1 = 10 then X g.2 else cG cy ad σ g
theorem cX_0 (cy : Nat → ClassId) (ad : Nat × Nat → Nat) (σ : CS) : cX cy ad σ (fun _ => none) = cG cy ad σ := by
  funext g
  unfold cX
  split
  · rename_i h
    unfold cG
    rw [h]
    split <;> rfl
  · rfl
theorem cX_t {cy : Nat → ClassId} {ad : Nat × Nat → Nat} {σ : CS} {X : Nat → Option va_E} {j : Nat} : cX cy ad σ X (10, j) = X j := if_pos rfl
theorem cX_n {cy : Nat → ClassId} {ad : Nat × Nat → Nat} {σ : CS} {X : Nat → Option va_E} {k i : Nat} (h : k ≠ 10) : cX cy ad σ X (k, i) = cG cy ad σ (k, i) := if_neg h
/-- another temporary, or what one of them is now -/
theorem cX_up {cy : Nat → ClassId} {ad : Nat × Nat → Nat} {σ : CS} {X : Nat → Option va_E} {j : Nat} {o : Option va_E} : ∀ g, g ≠ (10, j) → cX cy ad σ (va_up X j o) g = cX cy ad σ X g := by
  intro g hg
  unfold cX
  split
  · rename_i h
    rw [va_up_ne]
    exact fun q => hg (Prod.ext h q)
  · rfl
/-- the addresses, with a new one for a temporary -/
def adT (ad : Nat × Nat → Nat) (j q : Nat) : Nat × Nat → Nat := fun g => if g = (10, j) then q else ad g
theorem adT_s (ad : Nat × Nat → Nat) (j q : Nat) : adT ad j q (10, j) = q := if_pos rfl
theorem adT_n (ad : Nat × Nat → Nat) (j q : Nat) {g : Nat × Nat} (h : g ≠ (10, j)) : adT ad j q g = ad g := if_neg h
theorem adT_k (ad : Nat × Nat → Nat) (j q : Nat) : ∀ k i, k ≤ 9 → adT ad j q (k, i) = ad (k, i) := fun k i h => adT_n ad j q (fun z => by have := congrArg Prod.fst z; simp at this; omega)
/-- what a making row gives, told for temporaries -/
theorem cX_new {D : va_G} {A : Nat → Prop} {cy : Nat → ClassId} {ad : Nat × Nat → Nat} {σ : CS} {X : Nat → Option va_E} {j q : Nat} {e : va_E} {H1 : Heap} (hX : X j = none) (h : ∀ (ad1 : Nat × Nat → Nat) (G1 : Nat × Nat → Option va_E) (g0 : Nat × Nat), cX cy ad σ X g0 = none → ad1 g0 = q → (∀ g e, cX cy ad σ X g = some e → ad1 g = ad g) → G1 g0 = some e → (∀ g, g ≠ g0 → G1 g = cX cy ad σ X g) → zw D A ad1 G1 H1) : zw D A (adT ad j q) (cX cy (adT ad j q) σ (va_up X j (some e))) H1 := by
  refine h (adT ad j q) _ (10, j) (cX_t.trans hX) (adT_s _ _ _) (fun g e' he => adT_n _ _ _ (fun z => ?_)) (cX_t.trans (va_up_self _ _ _)) (fun g hg => ?_)
  · rw [z, cX_t, hX] at he; cases he
  · rw [cX_up g hg]
    unfold cX
    rw [cG_ad (adT_k ad j q)]
/-- the class's world and a list of temporaries -/
def cL (cy : Nat → ClassId) (ad : Nat × Nat → Nat) (σ : CS) (xs : List va_E) : Nat × Nat → Option va_E := cX cy ad σ (fun i => xs[i]?)
theorem cL_0 (cy : Nat → ClassId) (ad : Nat × Nat → Nat) (σ : CS) : cL cy ad σ [] = cG cy ad σ := by
  unfold cL
  rw [show (fun i : Nat => ([] : List va_E)[i]?) = fun _ => none from funext fun i => by simp]
  exact cX_0 cy ad σ
theorem cL_t {cy : Nat → ClassId} {ad : Nat × Nat → Nat} {σ : CS} {xs : List va_E} {j : Nat} : cL cy ad σ xs (10, j) = xs[j]? := cX_t
theorem cL_n {cy : Nat → ClassId} {ad : Nat × Nat → Nat} {σ : CS} {xs : List va_E} {k i : Nat} (h : k ≠ 10) : cL cy ad σ xs (k, i) = cG cy ad σ (k, i) := cX_n h
theorem cL_set {cy : Nat → ClassId} {ad : Nat × Nat → Nat} {σ : CS} {xs : List va_E} {j : Nat} {e : va_E} : ∀ g, g ≠ (10, j) → cL cy ad σ (xs.set j e) g = cL cy ad σ xs g := by
  intro g hg
  unfold cL cX
  split
  · rename_i h
    exact List.getElem?_set_ne (fun q => hg (Prod.ext h q.symm))
  · rfl
theorem cL_new {D : va_G} {A : Nat → Prop} {cy : Nat → ClassId} {ad : Nat × Nat → Nat} {σ : CS} {xs : List va_E} {q : Nat} {e : va_E} {H1 : Heap} (h : ∀ (ad1 : Nat × Nat → Nat) (G1 : Nat × Nat → Option va_E) (g0 : Nat × Nat), cL cy ad σ xs g0 = none → ad1 g0 = q → (∀ g e, cL cy ad σ xs g = some e → ad1 g = ad g) → G1 g0 = some e → (∀ g, g ≠ g0 → G1 g = cL cy ad σ xs g) → zw D A ad1 G1 H1) : zw D A (adT ad xs.length q) (cL cy (adT ad xs.length q) σ (xs ++ [e])) H1 := by
  have hX := cX_new (X := fun i => xs[i]?) (j := xs.length) (by simp) h
  have he : va_up (fun i => xs[i]?) xs.length (some e) = fun i => (xs ++ [e])[i]? := by
    funext i
    by_cases hi : i = xs.length
    · subst hi
      rw [va_up_self]
      simp
    · rw [va_up_ne _ _ hi]
      by_cases hl : i < xs.length
      · rw [List.getElem?_append_left hl]
      · rw [List.getElem?_eq_none (by omega), List.getElem?_eq_none (by simp; omega)]
  rw [he] at hX
  exact hX
section CLR
variable {p : Program} {l : Launch} {e : Env} {R : Room} {s : State} {m : MethodId} {args : Array Value} {below : List Frame} {meth : Method} {c : Code} {H : Heap} {locs : List Loc} {cells slots : Nat} {Q : State → Prop}
variable {cc : ByteArray} {nL pc : Nat} {ls : Array Slot} {rest : List Value} {D : va_G} {A : Nat → Prop} {cy : Nat → ClassId} {H0 : Heap} {Ts : List Cond} {ad : Nat × Nat → Nat} {σ : CS} {own : String} {xs : List va_E}
theorem cl_get (S : CallFix p m c cc nL s args Ts own) {C ref : String} {T : u_T} {N ci index : Nat} (hin : ∀ w ∈ u_ws C T N, w ∈ Ts) (hK : va_K D vwCl (ztys cy) s) (hw : zw D A ad (cL cy ad σ xs) H) (j : Nat) {a : Nat} (ha : ad (10, j) = a) {fs : List Value} (he : xs[j]? = some (.inr (ci, fs))) (hc : vwCl[ci]? = some (C, T, N)) (k : Nat) (hk : k < N) (hlink : Cond.fieldLink own index ref (T k).2.1 (T k).2.2.1 ∈ Ts) (hd1 : (T k).1 = ref) {v : Value} (hv : fs[k]? = some v) (hdg : decode cc pc = .ok (.getfield index, 3))
    (kk : W p l e R s m args below meth c H locs cells slots Q (F0 m (pc + 3) ls (v :: rest))) : W p l e R s m args below meth c H locs cells slots Q (F0 m pc ls (.ref a :: rest)) := by
  subst ha
  exact zr_get (g := (10, j)) S hin hK hw (cL_t.trans he) hc k hk hlink (fun x h => by rw [hd1] at h; exact h) hv hdg kk
theorem cl_put (S : CallFix p m c cc nL s args Ts own) {C ref : String} {T : u_T} {N ci index : Nat} (hin : ∀ w ∈ u_ws C T N, w ∈ Ts) (ty0 : Nat → FieldType) (hty : ∀ k, k < N → parseFieldDescriptor (T k).2.2.1 = some (ty0 k)) (hnm : ∀ a, a < N → ∀ b, b < N → a ≠ b → (T a).2.1 ≠ (T b).2.1) (hK : va_K D vwCl (ztys cy) s) (hw : zw D A ad (cL cy ad σ xs) H) (hS0 : va_S A H0 H locs) (j : Nat) {a : Nat} (ha : ad (10, j) = a) {fs : List Value} (he : xs[j]? = some (.inr (ci, fs))) (hc : vwCl[ci]? = some (C, T, N)) (k : Nat) (hk : k < N) (hlink : Cond.fieldLink own index ref (T k).2.1 (T k).2.2.1 ∈ Ts) (hd1 : (T k).1 = ref) (hfin : (T k).2.2.2 = false) {v : Value} (hn : narrow (ty0 k) v = v) (hfit : fits (ty0 k) v = true) (hl : k < fs.length) (hj : j < xs.length) (hdg : decode cc pc = .ok (.putfield index, 3))
    (kk : ∀ (H1 : Heap) (locs1 : List Loc), zw D A ad (cL cy ad σ (xs.set j (.inr (ci, fs.set k v)))) H1 → va_S A H0 H1 locs1 → W p l e R s m args below meth c H1 locs1 cells slots Q (F0 m (pc + 3) ls rest)) : W p l e R s m args below meth c H locs cells slots Q (F0 m pc ls (v :: .ref a :: rest)) := by
  subst ha
  exact zr_put (g := (10, j)) S hin ty0 hty hnm hK hw hS0 (cL_t.trans he) hc k hk hlink (fun x h => by rw [hd1] at h; exact h) hfin (hty k hk) hn hfit hl hdg (cL_t.trans (List.getElem?_set_self hj)) cL_set kk
theorem cl_putF (S : CallFix p m c cc nL s args Ts own) {C ref : String} {T : u_T} {N ci index : Nat} (hin : ∀ w ∈ u_ws C T N, w ∈ Ts) (ty0 : Nat → FieldType) (hty : ∀ k, k < N → parseFieldDescriptor (T k).2.2.1 = some (ty0 k)) (hnm : ∀ a, a < N → ∀ b, b < N → a ≠ b → (T a).2.1 ≠ (T b).2.1) (hK : va_K D vwCl (ztys cy) s) (hw : zw D A ad (cL cy ad σ xs) H) (hS0 : va_S A H0 H locs) (j : Nat) {a : Nat} (ha : ad (10, j) = a) {fs : List Value} (he : xs[j]? = some (.inr (ci, fs))) (hc : vwCl[ci]? = some (C, T, N)) (k : Nat) (hk : k < N) (hlink : Cond.fieldLink own index ref (T k).2.1 (T k).2.2.1 ∈ Ts) (hd1 : (T k).1 = ref) (hfin : (T k).2.2.2 = true) (hin2 : meth.name = "<init>") (hdecl : (T k).1 = own) {v : Value} (hn : narrow (ty0 k) v = v) (hfit : fits (ty0 k) v = true) (hl : k < fs.length) (hj : j < xs.length) (hdg : decode cc pc = .ok (.putfield index, 3))
    (kk : ∀ (H1 : Heap) (locs1 : List Loc), zw D A ad (cL cy ad σ (xs.set j (.inr (ci, fs.set k v)))) H1 → va_S A H0 H1 locs1 → W p l e R s m args below meth c H1 locs1 cells slots Q (F0 m (pc + 3) ls rest)) : W p l e R s m args below meth c H locs cells slots Q (F0 m pc ls (v :: .ref a :: rest)) := by
  subst ha
  exact zr_putF (g := (10, j)) S hin ty0 hty hnm hK hw hS0 (cL_t.trans he) hc k hk hlink hd1 hfin hin2 hdecl hn hfit hl hdg (cL_t.trans (List.getElem?_set_self hj)) cL_set kk
theorem cl_newa (S : CallFix p m c cc nL s args Ts own) {atype : ArrayType} {ty : FieldType} (hty : newarray.typeOf atype = ty) (harr : Cond.arrayClass ty ∈ Ts) (hK : va_K D vwCl (ztys cy) s) (hw : zw D A ad (cL cy ad σ xs) H) (hS : va_S A H0 H locs) (hA : ∀ q, H0.size ≤ q → A q) (t : Nat) (ht : (ztys cy)[t]? = some (cy t, ty)) {n : Int32} {N' : Nat} {a0 : vp_A} (ha : ∀ cA : ClassId, vp_cell cA a0 = arrV cA N' (fun _ => defaultValue ty)) (hn : ¬ n < 0) (hN : n.toNatClampNeg = N') (hbytes : N' * componentBytes ty ≤ 536870912) (hcells : cells + 1 ≤ R.cells) (hslots : slots + N' ≤ R.slots) (hdg : decode cc pc = .ok (.newarray atype, 2))
    (kk : ∀ (q : Nat) (H1 : Heap), zw D A (adT ad xs.length q) (cL cy (adT ad xs.length q) σ (xs ++ [.inl (cy t, a0)])) H1 → va_S A H0 H1 locs → W p l e R s m args below meth c H1 locs (cells + 1) (slots + N') Q (F0 m (pc + 2) ls (.ref q :: rest))) : W p l e R s m args below meth c H locs cells slots Q (F0 m pc ls (.int n :: rest)) :=
  zr_newa S hty harr hK hw hS hA t ht ha hn hN hbytes hcells hslots hdg (fun q H1 h hS1 => kk q H1 (cL_new h) hS1)
theorem cl_newq (S : CallFix p m c cc nL s args Ts own) {C : String} {index : Nat} (hcl : Cond.classLink own index C ∈ Ts) (hover : va_AO C s) (hK : va_K D vwCl (ztys cy) s) (hw : zw D A ad (cL cy ad σ xs) H) (hS : va_S A H0 H locs) (hA : ∀ q, H0.size ≤ q → A q) (t : Nat) (ht : (ztys cy)[t]? = some (cy t, .object C)) {n : Int32} {N' : Nat} (hn : ¬ n < 0) (hN : n.toNatClampNeg = N') (hbytes : N' * 4 ≤ 536870912) (hcells : cells + 1 ≤ R.cells) (hslots : slots + N' ≤ R.slots) (hdg : decode cc pc = .ok (.anewarray index, 3))
    (kk : ∀ (q : Nat) (H1 : Heap), zw D A (adT ad xs.length q) (cL cy (adT ad xs.length q) σ (xs ++ [.inl (cy t, N', .inr (.inr (.inr (.inr (fun _ => none)))))])) H1 → va_S A H0 H1 locs → W p l e R s m args below meth c H1 locs (cells + 1) (slots + N') Q (F0 m (pc + 3) ls (.ref q :: rest))) : W p l e R s m args below meth c H locs cells slots Q (F0 m pc ls (.int n :: rest)) :=
  zr_newq S hcl hover hK hw hS hA t ht hn hN hbytes hcells hslots hdg (fun q H1 h hS1 => kk q H1 (cL_new h) hS1)
theorem cl_new (S : CallFix p m c cc nL s args Ts own) {C : String} {T : u_T} {N ci index : Nat} (hin : ∀ w ∈ u_ws C T N, w ∈ Ts) (ty : Nat → FieldType) (hty : ∀ k, k < N → parseFieldDescriptor (T k).2.2.1 = some (ty k)) (hcl : Cond.classLink own index C ∈ Ts) (hinst : Cond.instantiable C N ∈ Ts) (hini : Cond.initialized C ∈ Ts) (hK : va_K D vwCl (ztys cy) s) (hw : zw D A ad (cL cy ad σ xs) H) (hS : va_S A H0 H locs) (hA : ∀ q, H0.size ≤ q → A q) (hc : vwCl[ci]? = some (C, T, N)) {fs : List Value} (hfs : ∀ j, j < N → defaultValue (ty j) = vp_V fs j) (hcells : cells + 1 ≤ R.cells) (hslots : slots + N ≤ R.slots) (hdg : decode cc pc = .ok (.new index, 3))
    (kk : ∀ (q : Nat) (H1 : Heap), zw D A (adT ad xs.length q) (cL cy (adT ad xs.length q) σ (xs ++ [.inr (ci, fs)])) H1 → va_S A H0 H1 locs → W p l e R s m args below meth c H1 locs (cells + 1) (slots + N) Q (F0 m (pc + 3) ls (.ref q :: rest))) : W p l e R s m args below meth c H locs cells slots Q (F0 m pc ls rest) :=
  zr_new S hin ty hty hcl hinst hini hK hw hS hA hc hfs hcells hslots hdg (fun q H1 h hS1 => kk q H1 (cL_new h) hS1)
end CLR
