/-! ===== the pure side's words: choice, guard, bind ===== -/
/-- choice by any proposition -/
noncomputable def zi {γ : Type} (c : Prop) (a b : γ) : γ := @ite γ c (Classical.propDecidable c) a b
theorem zi_t {γ : Type} {c : Prop} {a b : γ} (h : c) : zi c a b = a := by unfold zi; exact if_pos h
theorem zi_f {γ : Type} {c : Prop} {a b : γ} (h : ¬ c) : zi c a b = b := by unfold zi; exact if_neg h
/-- what the machine must find true before it goes on -/
noncomputable def zg {γ : Type} (c : Prop) (o : Option γ) : Option γ := zi c o none
theorem zg_inv {γ : Type} {c : Prop} {o : Option γ} {x : γ} (h : zg c o = some x) : c ∧ o = some x := by
  unfold zg at h
  by_cases hc : c
  · rw [zi_t hc] at h; exact ⟨hc, h⟩
  · rw [zi_f hc] at h; cases h
theorem zg_t {γ : Type} {c : Prop} {o : Option γ} (h : c) : zg c o = o := zi_t h
/-- behind a call: its answer and the state that it leaves -/
def zb {α β γ : Type} (o : Option (α × β)) (f : α → β → Option γ) : Option γ := match o with
  | none => none
  | some q => f q.1 q.2
theorem zb_inv {α β γ : Type} {o : Option (α × β)} {f : α → β → Option γ} {x : γ} (h : zb o f = some x) : ∃ a b, o = some (a, b) ∧ f a b = some x := by
  match o, h with
  | some (a, b), h => exact ⟨a, b, rfl, h⟩
theorem zb_s {α β γ : Type} {o : Option (α × β)} {f : α → β → Option γ} {a : α} {b : β} (h : o = some (a, b)) : zb o f = f a b := by subst h; rfl
/-! ===== loops run on fuel; a switched value has a name ===== -/
def FU : Nat := 70000
def zs {α β : Type} (x : α) (f : α → β) : β := f x
theorem zs_e {α β : Type} {x y : α} {f : α → β} (h : y = x) : zs x f = f y := by subst h; rfl
theorem zs_out0_5 (x : Int32) (h0 : ¬ x = 0) (h1 : ¬ x = 1) (h2 : ¬ x = 2) (h3 : ¬ x = 3) (h4 : ¬ x = 4) (h5 : ¬ x = 5) : x.toInt < 0 ∨ 5 < x.toInt := by
  have k0 : x.toInt ≠ 0 := fun q => h0 (Int32.toInt_inj.mp (q.trans (by decide)))
  have k1 : x.toInt ≠ 1 := fun q => h1 (Int32.toInt_inj.mp (q.trans (by decide)))
  have k2 : x.toInt ≠ 2 := fun q => h2 (Int32.toInt_inj.mp (q.trans (by decide)))
  have k3 : x.toInt ≠ 3 := fun q => h3 (Int32.toInt_inj.mp (q.trans (by decide)))
  have k4 : x.toInt ≠ 4 := fun q => h4 (Int32.toInt_inj.mp (q.trans (by decide)))
  have k5 : x.toInt ≠ 5 := fun q => h5 (Int32.toInt_inj.mp (q.trans (by decide)))
  omega
theorem zs_out5_10 (x : Int32) (h5 : ¬ x = 5) (h6 : ¬ x = 6) (h7 : ¬ x = 7) (h8 : ¬ x = 8) (h9 : ¬ x = 9) (h10 : ¬ x = 10) : x.toInt < 5 ∨ 10 < x.toInt := by
  have k5 : x.toInt ≠ 5 := fun q => h5 (Int32.toInt_inj.mp (q.trans (by decide)))
  have k6 : x.toInt ≠ 6 := fun q => h6 (Int32.toInt_inj.mp (q.trans (by decide)))
  have k7 : x.toInt ≠ 7 := fun q => h7 (Int32.toInt_inj.mp (q.trans (by decide)))
  have k8 : x.toInt ≠ 8 := fun q => h8 (Int32.toInt_inj.mp (q.trans (by decide)))
  have k9 : x.toInt ≠ 9 := fun q => h9 (Int32.toInt_inj.mp (q.trans (by decide)))
  have k10 : x.toInt ≠ 10 := fun q => h10 (Int32.toInt_inj.mp (q.trans (by decide)))
  omega
theorem zs_out12_17 (x : Int32) (h12 : ¬ x = 12) (h13 : ¬ x = 13) (h14 : ¬ x = 14) (h15 : ¬ x = 15) (h16 : ¬ x = 16) (h17 : ¬ x = 17) : x.toInt < 12 ∨ 17 < x.toInt := by
  have k12 : x.toInt ≠ 12 := fun q => h12 (Int32.toInt_inj.mp (q.trans (by decide)))
  have k13 : x.toInt ≠ 13 := fun q => h13 (Int32.toInt_inj.mp (q.trans (by decide)))
  have k14 : x.toInt ≠ 14 := fun q => h14 (Int32.toInt_inj.mp (q.trans (by decide)))
  have k15 : x.toInt ≠ 15 := fun q => h15 (Int32.toInt_inj.mp (q.trans (by decide)))
  have k16 : x.toInt ≠ 16 := fun q => h16 (Int32.toInt_inj.mp (q.trans (by decide)))
  have k17 : x.toInt ≠ 17 := fun q => h17 (Int32.toInt_inj.mp (q.trans (by decide)))
  omega
theorem zs_out1_12 (x : Int32) (h1 : ¬ x = 1) (h2 : ¬ x = 2) (h3 : ¬ x = 3) (h4 : ¬ x = 4) (h5 : ¬ x = 5) (h6 : ¬ x = 6) (h7 : ¬ x = 7) (h8 : ¬ x = 8) (h9 : ¬ x = 9) (h10 : ¬ x = 10) (h11 : ¬ x = 11) (h12 : ¬ x = 12) : x.toInt < 1 ∨ 12 < x.toInt := by
  have k1 : x.toInt ≠ 1 := fun q => h1 (Int32.toInt_inj.mp (q.trans (by decide)))
  have k2 : x.toInt ≠ 2 := fun q => h2 (Int32.toInt_inj.mp (q.trans (by decide)))
  have k3 : x.toInt ≠ 3 := fun q => h3 (Int32.toInt_inj.mp (q.trans (by decide)))
  have k4 : x.toInt ≠ 4 := fun q => h4 (Int32.toInt_inj.mp (q.trans (by decide)))
  have k5 : x.toInt ≠ 5 := fun q => h5 (Int32.toInt_inj.mp (q.trans (by decide)))
  have k6 : x.toInt ≠ 6 := fun q => h6 (Int32.toInt_inj.mp (q.trans (by decide)))
  have k7 : x.toInt ≠ 7 := fun q => h7 (Int32.toInt_inj.mp (q.trans (by decide)))
  have k8 : x.toInt ≠ 8 := fun q => h8 (Int32.toInt_inj.mp (q.trans (by decide)))
  have k9 : x.toInt ≠ 9 := fun q => h9 (Int32.toInt_inj.mp (q.trans (by decide)))
  have k10 : x.toInt ≠ 10 := fun q => h10 (Int32.toInt_inj.mp (q.trans (by decide)))
  have k11 : x.toInt ≠ 11 := fun q => h11 (Int32.toInt_inj.mp (q.trans (by decide)))
  have k12 : x.toInt ≠ 12 := fun q => h12 (Int32.toInt_inj.mp (q.trans (by decide)))
  omega
theorem zs_out13_18 (x : Int32) (h13 : ¬ x = 13) (h14 : ¬ x = 14) (h15 : ¬ x = 15) (h16 : ¬ x = 16) (h17 : ¬ x = 17) (h18 : ¬ x = 18) : x.toInt < 13 ∨ 18 < x.toInt := by
  have k13 : x.toInt ≠ 13 := fun q => h13 (Int32.toInt_inj.mp (q.trans (by decide)))
  have k14 : x.toInt ≠ 14 := fun q => h14 (Int32.toInt_inj.mp (q.trans (by decide)))
  have k15 : x.toInt ≠ 15 := fun q => h15 (Int32.toInt_inj.mp (q.trans (by decide)))
  have k16 : x.toInt ≠ 16 := fun q => h16 (Int32.toInt_inj.mp (q.trans (by decide)))
  have k17 : x.toInt ≠ 17 := fun q => h17 (Int32.toInt_inj.mp (q.trans (by decide)))
  have k18 : x.toInt ≠ 18 := fun q => h18 (Int32.toInt_inj.mp (q.trans (by decide)))
  omega
theorem zs_out0_17 (x : Int32) (h0 : ¬ x = 0) (h1 : ¬ x = 1) (h2 : ¬ x = 2) (h3 : ¬ x = 3) (h4 : ¬ x = 4) (h5 : ¬ x = 5) (h6 : ¬ x = 6) (h7 : ¬ x = 7) (h8 : ¬ x = 8) (h9 : ¬ x = 9) (h10 : ¬ x = 10) (h11 : ¬ x = 11) (h12 : ¬ x = 12) (h13 : ¬ x = 13) (h14 : ¬ x = 14) (h15 : ¬ x = 15) (h16 : ¬ x = 16) (h17 : ¬ x = 17) : x.toInt < 0 ∨ 17 < x.toInt := by
  have k0 : x.toInt ≠ 0 := fun q => h0 (Int32.toInt_inj.mp (q.trans (by decide)))
  have k1 : x.toInt ≠ 1 := fun q => h1 (Int32.toInt_inj.mp (q.trans (by decide)))
  have k2 : x.toInt ≠ 2 := fun q => h2 (Int32.toInt_inj.mp (q.trans (by decide)))
  have k3 : x.toInt ≠ 3 := fun q => h3 (Int32.toInt_inj.mp (q.trans (by decide)))
  have k4 : x.toInt ≠ 4 := fun q => h4 (Int32.toInt_inj.mp (q.trans (by decide)))
  have k5 : x.toInt ≠ 5 := fun q => h5 (Int32.toInt_inj.mp (q.trans (by decide)))
  have k6 : x.toInt ≠ 6 := fun q => h6 (Int32.toInt_inj.mp (q.trans (by decide)))
  have k7 : x.toInt ≠ 7 := fun q => h7 (Int32.toInt_inj.mp (q.trans (by decide)))
  have k8 : x.toInt ≠ 8 := fun q => h8 (Int32.toInt_inj.mp (q.trans (by decide)))
  have k9 : x.toInt ≠ 9 := fun q => h9 (Int32.toInt_inj.mp (q.trans (by decide)))
  have k10 : x.toInt ≠ 10 := fun q => h10 (Int32.toInt_inj.mp (q.trans (by decide)))
  have k11 : x.toInt ≠ 11 := fun q => h11 (Int32.toInt_inj.mp (q.trans (by decide)))
  have k12 : x.toInt ≠ 12 := fun q => h12 (Int32.toInt_inj.mp (q.trans (by decide)))
  have k13 : x.toInt ≠ 13 := fun q => h13 (Int32.toInt_inj.mp (q.trans (by decide)))
  have k14 : x.toInt ≠ 14 := fun q => h14 (Int32.toInt_inj.mp (q.trans (by decide)))
  have k15 : x.toInt ≠ 15 := fun q => h15 (Int32.toInt_inj.mp (q.trans (by decide)))
  have k16 : x.toInt ≠ 16 := fun q => h16 (Int32.toInt_inj.mp (q.trans (by decide)))
  have k17 : x.toInt ≠ 17 := fun q => h17 (Int32.toInt_inj.mp (q.trans (by decide)))
  omega
/-! ===== a world by names: what lies at the address of each name ===== -/
def zw {ι : Type} (D : va_G) (A : Nat → Prop) (ad : ι → Nat) (G : ι → Option va_E) (H : Heap) : Prop :=
  (∃ (L : List Nat) (F : Nat → va_E), va_P D vwCl (va_pl L F) H ∧ va_D A (va_pl L F) ∧ ∀ g e, G g = some e → ad g ∈ L ∧ F (ad g) = e) ∧ ∀ g g' e e', G g = some e → G g' = some e' → ad g = ad g' → g = g'
theorem zw_at {ι : Type} {D : va_G} {A : Nat → Prop} {ad : ι → Nat} {G : ι → Option va_E} {H : Heap} (hw : zw D A ad G H) {g : ι} {e : va_E} (h : G g = some e) : va_at D vwCl (ad g, e) H := by
  obtain ⟨⟨L, F, hP, hD, hG⟩, hi⟩ := hw
  obtain ⟨hL, hF⟩ := hG g e h
  obtain ⟨k, hk⟩ := va_pl_get (X := []) (f := F) hL
  have h2 := hP k _ hk
  rw [hF] at h2
  exact h2
theorem zw_A {ι : Type} {D : va_G} {A : Nat → Prop} {ad : ι → Nat} {G : ι → Option va_E} {H : Heap} (hw : zw D A ad G H) {g : ι} {e : va_E} (h : G g = some e) : A (ad g) := by
  obtain ⟨⟨L, F, hP, hD, hG⟩, hi⟩ := hw
  obtain ⟨hL, hF⟩ := hG g e h
  obtain ⟨k, hk⟩ := va_pl_get (X := []) (f := F) hL
  exact hD.2 k _ hk
theorem zw_lt {ι : Type} {D : va_G} {A : Nat → Prop} {ad : ι → Nat} {G : ι → Option va_E} {H : Heap} (hw : zw D A ad G H) {g : ι} {e : va_E} (h : G g = some e) : ad g < H.size := (zw_at hw h).lt
/-- the same world behind a call that wrote elsewhere -/
theorem zw_keep {ι : Type} {D : va_G} {A : Nat → Prop} {ad : ι → Nat} {G : ι → Option va_E} {H H1 : Heap} (hw : zw D A ad G H) (h : ∀ q : Nat, q < H.size → A q → H1[q]? = H[q]?) : zw D A ad G H1 := by
  obtain ⟨⟨L, F, hP, hD, hG⟩, hi⟩ := hw
  exact ⟨⟨L, F, fun k q hk => (hP k q hk).kept (h _ (hP k q hk).lt (hD.2 k q hk)), hD, hG⟩, hi⟩
/-- one name's thing is another now -/
theorem zw_set {ι : Type} {D : va_G} {A : Nat → Prop} {ad : ι → Nat} {G : ι → Option va_E} {L : List Nat} {F : Nat → va_E} {g : ι} {e e1 : va_E} {k : Nat} {H1 : Heap} (hG : ∀ g e, G g = some e → ad g ∈ L ∧ F (ad g) = e) (hi : ∀ g g' e e', G g = some e → G g' = some e' → ad g = ad g' → g = g') (hg : G g = some e) (hD0 : va_D A (va_pl L F)) (hk : (va_pl L F)[k]? = some (ad g, F (ad g)))
    (hP : va_P D vwCl ((va_pl L F).set k (ad g, e1)) H1) (hD : va_D A ((va_pl L F).set k (ad g, e1))) {G1 : ι → Option va_E} (h1 : G1 g = some e1) (h2 : ∀ g', g' ≠ g → G1 g' = G g') : zw D A ad G1 H1 := by
  have hs : (va_pl L F).set k (ad g, e1) = va_pl L (va_up F (ad g) e1) := va_pl_set (X := []) hD0 (hG g e hg).1 hk
  rw [hs] at hP hD
  refine ⟨⟨L, _, hP, hD, fun g' e' h => ?_⟩, fun g' g'' e' e'' h' h'' q => ?_⟩
  · by_cases hh : g' = g
    · subst hh
      rw [h1] at h
      cases h
      exact ⟨(hG g' e hg).1, va_up_self _ _ _⟩
    · rw [h2 g' hh] at h
      have hne : ad g' ≠ ad g := fun q => hh (hi _ _ _ _ h hg q)
      exact ⟨(hG g' e' h).1, by rw [va_up_ne _ _ hne]; exact (hG g' e' h).2⟩
  · by_cases a1 : g' = g
    · by_cases a2 : g'' = g
      · rw [a1, a2]
      · subst a1
        rw [h2 g'' a2] at h''
        exact hi _ _ _ _ hg h'' q
    · rw [h2 g' a1] at h'
      by_cases a2 : g'' = g
      · subst a2
        exact hi _ _ _ _ h' hg q
      · rw [h2 g'' a2] at h''
        exact hi _ _ _ _ h' h'' q
/-- the array classes, by their numbers -/
abbrev ztys (cy : Nat → ClassId) : List (ClassId × FieldType) := [(cy 0, .byte), (cy 1, .int), (cy 2, .long), (cy 3, .boolean), (cy 4, .object "RunClasses$Controller"), (cy 5, .object "RunClasses$Edition"), (cy 6, .object "RunClasses$Loaded")]
section ZR
variable {p : Program} {l : Launch} {e : Env} {R : Room} {s : State} {m : MethodId} {args : Array Value} {below : List Frame} {meth : Method} {c : Code} {H : Heap} {locs : List Loc} {cells slots : Nat} {Q : State → Prop}
variable {cc : ByteArray} {nL pc : Nat} {ls : Array Slot} {rest : List Value} {D : va_G} {A : Nat → Prop} {tys : List (ClassId × FieldType)} {H0 : Heap} {Ts : List Cond} {own : String} {ι : Type} {ad : ι → Nat} {G : ι → Option va_E}
theorem zr_get (S : CallFix p m c cc nL s args Ts own) {C ref : String} {T : u_T} {N ci index : Nat} (hin : ∀ w ∈ u_ws C T N, w ∈ Ts) (hK : va_K D vwCl tys s) (hw : zw D A ad G H) {g : ι} {fs : List Value} (he : G g = some (.inr (ci, fs))) (hc : vwCl[ci]? = some (C, T, N)) (k : Nat) (hk : k < N) (hlink : Cond.fieldLink own index ref (T k).2.1 (T k).2.2.1 ∈ Ts) (hsame : ∀ x, s.fieldFound? (T k).1 (T k).2.1 (T k).2.2.1 = some x → s.fieldFound? ref (T k).2.1 (T k).2.2.1 = some x) {v : Value} (hv : fs[k]? = some v) (hdg : decode cc pc = .ok (.getfield index, 3))
    (kk : W p l e R s m args below meth c H locs cells slots Q (F0 m (pc + 3) ls (v :: rest))) : W p l e R s m args below meth c H locs cells slots Q (F0 m pc ls (.ref (ad g) :: rest)) := by
  obtain ⟨hx, hb, hml, hown, hts⟩ := S
  exact va_get (D := D) (cl := vwCl) (ws := [(ad g, .inr (ci, fs))]) hx hb hts hin hown hK (fun j q hj => by
    match j, hj with
    | 0, hj => cases hj; exact zw_at hw he
    | j + 1, hj => simp at hj) 0 rfl hc k hk (hts _ hlink) hsame hv hdg kk
theorem zr_put (S : CallFix p m c cc nL s args Ts own) {C ref : String} {T : u_T} {N ci index : Nat} (hin : ∀ w ∈ u_ws C T N, w ∈ Ts) (ty0 : Nat → FieldType) (hty : ∀ k, k < N → parseFieldDescriptor (T k).2.2.1 = some (ty0 k)) (hnm : ∀ a, a < N → ∀ b, b < N → a ≠ b → (T a).2.1 ≠ (T b).2.1) (hK : va_K D vwCl tys s) (hw : zw D A ad G H) (hS0 : va_S A H0 H locs) {g : ι} {fs : List Value} (he : G g = some (.inr (ci, fs))) (hc : vwCl[ci]? = some (C, T, N)) (k : Nat) (hk : k < N) (hlink : Cond.fieldLink own index ref (T k).2.1 (T k).2.2.1 ∈ Ts) (hsame : ∀ x, s.fieldFound? (T k).1 (T k).2.1 (T k).2.2.1 = some x → s.fieldFound? ref (T k).2.1 (T k).2.2.1 = some x) (hfin : (T k).2.2.2 = false) {ty : FieldType} {v : Value} (hd : parseFieldDescriptor (T k).2.2.1 = some ty) (hn : narrow ty v = v) (hfit : fits ty v = true) (hl : k < fs.length) (hdg : decode cc pc = .ok (.putfield index, 3))
    {G1 : ι → Option va_E} (h1 : G1 g = some (.inr (ci, fs.set k v))) (h2 : ∀ g', g' ≠ g → G1 g' = G g')
    (kk : ∀ (H1 : Heap) (locs1 : List Loc), zw D A ad G1 H1 → va_S A H0 H1 locs1 → W p l e R s m args below meth c H1 locs1 cells slots Q (F0 m (pc + 3) ls rest)) : W p l e R s m args below meth c H locs cells slots Q (F0 m pc ls (v :: .ref (ad g) :: rest)) := by
  obtain ⟨hx, hb, hml, hown, hts⟩ := S
  obtain ⟨⟨L, F, hP, hD, hG⟩, hi⟩ := hw
  obtain ⟨hL, hF⟩ := hG g _ he
  obtain ⟨k0, hk0⟩ := va_pl_get (X := []) (f := F) hL
  have hk1 : (va_pl L F)[k0]? = some (ad g, .inr (ci, fs)) := by rw [← hF]; exact hk0
  exact va_put (D := D) (cl := vwCl) hx hb hts hin ty0 hty hnm hown hK hP hD hS0 k0 hk1 hc k hk (hts _ hlink) hsame hfin hd hn hfit hl hdg fun H1 locs1 hP1 hD1 hS1 => kk H1 locs1 (zw_set hG hi he hD hk0 hP1 hD1 h1 h2) hS1
theorem zr_iald (S : CallFix p m c cc nL s args Ts own) (hK : va_K D vwCl tys s) (hw : zw D A ad G H) {g : ι} (t0 : Nat) {cA : ClassId} {n : Nat} {f : Nat → Int32} (ha : G g = some (.inl (cA, n, .inl f))) (ht : tys[t0]? = some (cA, .int)) {i : Int32} (hin : vp_in i n) (hdg : decode cc pc = .ok (.iaload, 1))
    (kk : W p l e R s m args below meth c H locs cells slots Q (F0 m (pc + 1) ls (.int (f i.toNatClampNeg) :: rest))) : W p l e R s m args below meth c H locs cells slots Q (F0 m pc ls (.int i :: .ref (ad g) :: rest)) := by
  obtain ⟨hx, hb, hml, hown, hts⟩ := S
  exact va_iald (D := D) (cl := vwCl) (ws := [(ad g, .inl (cA, n, .inl f))]) hx hb hK (fun j q hj => by
    match j, hj with
    | 0, hj => cases hj; exact zw_at hw ha
    | j + 1, hj => simp at hj) 0 t0 rfl ht hin hdg kk
theorem zr_bald (S : CallFix p m c cc nL s args Ts own) (hK : va_K D vwCl tys s) (hw : zw D A ad G H) {g : ι} (t0 : Nat) {cA : ClassId} {n : Nat} {f : Nat → Int32} (ha : G g = some (.inl (cA, n, .inl f))) (ht : tys[t0]? = some (cA, .byte)) {i : Int32} (hin : vp_in i n) (hdg : decode cc pc = .ok (.baload, 1))
    (kk : W p l e R s m args below meth c H locs cells slots Q (F0 m (pc + 1) ls (.int (f i.toNatClampNeg) :: rest))) : W p l e R s m args below meth c H locs cells slots Q (F0 m pc ls (.int i :: .ref (ad g) :: rest)) := by
  obtain ⟨hx, hb, hml, hown, hts⟩ := S
  exact va_bald (D := D) (cl := vwCl) (ws := [(ad g, .inl (cA, n, .inl f))]) hx hb hK (fun j q hj => by
    match j, hj with
    | 0, hj => cases hj; exact zw_at hw ha
    | j + 1, hj => simp at hj) 0 t0 rfl ht hin hdg kk
theorem zr_zald (S : CallFix p m c cc nL s args Ts own) (hK : va_K D vwCl tys s) (hw : zw D A ad G H) {g : ι} (t0 : Nat) {cA : ClassId} {n : Nat} {f : Nat → Int32} (ha : G g = some (.inl (cA, n, .inl f))) (ht : tys[t0]? = some (cA, .boolean)) {i : Int32} (hin : vp_in i n) (hdg : decode cc pc = .ok (.baload, 1))
    (kk : W p l e R s m args below meth c H locs cells slots Q (F0 m (pc + 1) ls (.int (f i.toNatClampNeg) :: rest))) : W p l e R s m args below meth c H locs cells slots Q (F0 m pc ls (.int i :: .ref (ad g) :: rest)) := by
  obtain ⟨hx, hb, hml, hown, hts⟩ := S
  exact va_zald (D := D) (cl := vwCl) (ws := [(ad g, .inl (cA, n, .inl f))]) hx hb hK (fun j q hj => by
    match j, hj with
    | 0, hj => cases hj; exact zw_at hw ha
    | j + 1, hj => simp at hj) 0 t0 rfl ht hin hdg kk
theorem zr_lald (S : CallFix p m c cc nL s args Ts own) (hK : va_K D vwCl tys s) (hw : zw D A ad G H) {g : ι} (t0 : Nat) {cA : ClassId} {n : Nat} {f : Nat → Int64} (ha : G g = some (.inl (cA, n, .inr (.inl f)))) (ht : tys[t0]? = some (cA, .long)) {i : Int32} (hin : vp_in i n) (hdg : decode cc pc = .ok (.laload, 1))
    (kk : W p l e R s m args below meth c H locs cells slots Q (F0 m (pc + 1) ls (.long (f i.toNatClampNeg) :: rest))) : W p l e R s m args below meth c H locs cells slots Q (F0 m pc ls (.int i :: .ref (ad g) :: rest)) := by
  obtain ⟨hx, hb, hml, hown, hts⟩ := S
  exact va_lald (D := D) (cl := vwCl) (ws := [(ad g, .inl (cA, n, .inr (.inl f)))]) hx hb hK (fun j q hj => by
    match j, hj with
    | 0, hj => cases hj; exact zw_at hw ha
    | j + 1, hj => simp at hj) 0 t0 rfl ht hin hdg kk
theorem zr_aald (S : CallFix p m c cc nL s args Ts own) (hK : va_K D vwCl tys s) (hw : zw D A ad G H) {g : ι} (t0 : Nat) {cA : ClassId} {C : String} {n : Nat} {f : Nat → Option Nat} (ha : G g = some (.inl (cA, n, .inr (.inr (.inr (.inr f)))))) (ht : tys[t0]? = some (cA, .object C)) {i : Int32} (hin : vp_in i n) (hdg : decode cc pc = .ok (.aaload, 1))
    (kk : W p l e R s m args below meth c H locs cells slots Q (F0 m (pc + 1) ls (va_rf (f i.toNatClampNeg) :: rest))) : W p l e R s m args below meth c H locs cells slots Q (F0 m pc ls (.int i :: .ref (ad g) :: rest)) := by
  obtain ⟨hx, hb, hml, hown, hts⟩ := S
  exact va_aldq (D := D) (cl := vwCl) (ws := [(ad g, .inl (cA, n, .inr (.inr (.inr (.inr f)))))]) hx hb hK (fun j q hj => by
    match j, hj with
    | 0, hj => cases hj; exact zw_at hw ha
    | j + 1, hj => simp at hj) 0 t0 rfl ht hin hdg kk
theorem zr_alen (S : CallFix p m c cc nL s args Ts own) (hK : va_K D vwCl tys s) (hw : zw D A ad G H) {g : ι} (t0 : Nat) {cA : ClassId} {x : vp_A} {ty : FieldType} (ha : G g = some (.inl (cA, x))) (ht : tys[t0]? = some (cA, ty)) {v : Int32} (hv : Int32.ofNat x.1 = v) (hdg : decode cc pc = .ok (.arraylength, 1))
    (kk : W p l e R s m args below meth c H locs cells slots Q (F0 m (pc + 1) ls (.int v :: rest))) : W p l e R s m args below meth c H locs cells slots Q (F0 m pc ls (.ref (ad g) :: rest)) := by
  obtain ⟨hx, hb, hml, hown, hts⟩ := S
  exact va_alen (D := D) (cl := vwCl) (ws := [(ad g, .inl (cA, x))]) hx hb hK (fun j q hj => by
    match j, hj with
    | 0, hj => cases hj; exact zw_at hw ha
    | j + 1, hj => simp at hj) 0 t0 rfl ht hv hdg kk
theorem zr_iast (S : CallFix p m c cc nL s args Ts own) (hK : va_K D vwCl tys s) (hw : zw D A ad G H) (hS0 : va_S A H0 H locs) {g : ι} (t0 : Nat) {cA : ClassId} {n : Nat} {f : Nat → Int32} (ha : G g = some (.inl (cA, n, .inl f))) (ht : tys[t0]? = some (cA, .int)) {i x : Int32} (hin : vp_in i n) (hdg : decode cc pc = .ok (.iastore, 1))
    {G1 : ι → Option va_E} (h1 : G1 g = some (.inl (cA, n, .inl (upd f i.toNatClampNeg x)))) (h2 : ∀ g', g' ≠ g → G1 g' = G g')
    (kk : ∀ (H1 : Heap) (locs1 : List Loc), zw D A ad G1 H1 → va_S A H0 H1 locs1 → W p l e R s m args below meth c H1 locs1 cells slots Q (F0 m (pc + 1) ls rest)) : W p l e R s m args below meth c H locs cells slots Q (F0 m pc ls (.int x :: .int i :: .ref (ad g) :: rest)) := by
  obtain ⟨hx, hb, hml, hown, hts⟩ := S
  obtain ⟨⟨L, F, hP, hD, hG⟩, hi⟩ := hw
  obtain ⟨hL, hF⟩ := hG g _ ha
  obtain ⟨k0, hk0⟩ := va_pl_get (X := []) (f := F) hL
  have hk1 : (va_pl L F)[k0]? = some (ad g, .inl (cA, n, .inl f)) := by rw [← hF]; exact hk0
  exact va_iast (D := D) (cl := vwCl) hx hb hK hP hD hS0 k0 t0 hk1 ht hin hdg fun H1 locs1 hP1 hD1 hS1 => kk H1 locs1 (zw_set hG hi ha hD hk0 hP1 hD1 h1 h2) hS1
theorem zr_bast (S : CallFix p m c cc nL s args Ts own) (hK : va_K D vwCl tys s) (hw : zw D A ad G H) (hS0 : va_S A H0 H locs) {g : ι} (t0 : Nat) {cA : ClassId} {n : Nat} {f : Nat → Int32} (ha : G g = some (.inl (cA, n, .inl f))) (ht : tys[t0]? = some (cA, .byte)) {i x : Int32} (hin : vp_in i n) (hdg : decode cc pc = .ok (.bastore, 1))
    {G1 : ι → Option va_E} (h1 : G1 g = some (.inl (cA, n, .inl (upd f i.toNatClampNeg (vp_nar .byte x))))) (h2 : ∀ g', g' ≠ g → G1 g' = G g')
    (kk : ∀ (H1 : Heap) (locs1 : List Loc), zw D A ad G1 H1 → va_S A H0 H1 locs1 → W p l e R s m args below meth c H1 locs1 cells slots Q (F0 m (pc + 1) ls rest)) : W p l e R s m args below meth c H locs cells slots Q (F0 m pc ls (.int x :: .int i :: .ref (ad g) :: rest)) := by
  obtain ⟨hx, hb, hml, hown, hts⟩ := S
  obtain ⟨⟨L, F, hP, hD, hG⟩, hi⟩ := hw
  obtain ⟨hL, hF⟩ := hG g _ ha
  obtain ⟨k0, hk0⟩ := va_pl_get (X := []) (f := F) hL
  have hk1 : (va_pl L F)[k0]? = some (ad g, .inl (cA, n, .inl f)) := by rw [← hF]; exact hk0
  exact va_bast (D := D) (cl := vwCl) hx hb hK hP hD hS0 k0 t0 hk1 ht hin hdg fun H1 locs1 hP1 hD1 hS1 => kk H1 locs1 (zw_set hG hi ha hD hk0 hP1 hD1 h1 h2) hS1
theorem zr_zast (S : CallFix p m c cc nL s args Ts own) (hK : va_K D vwCl tys s) (hw : zw D A ad G H) (hS0 : va_S A H0 H locs) {g : ι} (t0 : Nat) {cA : ClassId} {n : Nat} {f : Nat → Int32} (ha : G g = some (.inl (cA, n, .inl f))) (ht : tys[t0]? = some (cA, .boolean)) {i x : Int32} (hin : vp_in i n) (hdg : decode cc pc = .ok (.bastore, 1))
    {G1 : ι → Option va_E} (h1 : G1 g = some (.inl (cA, n, .inl (upd f i.toNatClampNeg (vp_nar .boolean x))))) (h2 : ∀ g', g' ≠ g → G1 g' = G g')
    (kk : ∀ (H1 : Heap) (locs1 : List Loc), zw D A ad G1 H1 → va_S A H0 H1 locs1 → W p l e R s m args below meth c H1 locs1 cells slots Q (F0 m (pc + 1) ls rest)) : W p l e R s m args below meth c H locs cells slots Q (F0 m pc ls (.int x :: .int i :: .ref (ad g) :: rest)) := by
  obtain ⟨hx, hb, hml, hown, hts⟩ := S
  obtain ⟨⟨L, F, hP, hD, hG⟩, hi⟩ := hw
  obtain ⟨hL, hF⟩ := hG g _ ha
  obtain ⟨k0, hk0⟩ := va_pl_get (X := []) (f := F) hL
  have hk1 : (va_pl L F)[k0]? = some (ad g, .inl (cA, n, .inl f)) := by rw [← hF]; exact hk0
  exact va_zast (D := D) (cl := vwCl) hx hb hK hP hD hS0 k0 t0 hk1 ht hin hdg fun H1 locs1 hP1 hD1 hS1 => kk H1 locs1 (zw_set hG hi ha hD hk0 hP1 hD1 h1 h2) hS1
theorem zr_last (S : CallFix p m c cc nL s args Ts own) (hK : va_K D vwCl tys s) (hw : zw D A ad G H) (hS0 : va_S A H0 H locs) {g : ι} (t0 : Nat) {cA : ClassId} {n : Nat} {f : Nat → Int64} (ha : G g = some (.inl (cA, n, .inr (.inl f)))) (ht : tys[t0]? = some (cA, .long)) {i : Int32} {x : Int64} (hin : vp_in i n) (hdg : decode cc pc = .ok (.lastore, 1))
    {G1 : ι → Option va_E} (h1 : G1 g = some (.inl (cA, n, .inr (.inl (vp_updL f i.toNatClampNeg x))))) (h2 : ∀ g', g' ≠ g → G1 g' = G g')
    (kk : ∀ (H1 : Heap) (locs1 : List Loc), zw D A ad G1 H1 → va_S A H0 H1 locs1 → W p l e R s m args below meth c H1 locs1 cells slots Q (F0 m (pc + 1) ls rest)) : W p l e R s m args below meth c H locs cells slots Q (F0 m pc ls (.long x :: .int i :: .ref (ad g) :: rest)) := by
  obtain ⟨hx, hb, hml, hown, hts⟩ := S
  obtain ⟨⟨L, F, hP, hD, hG⟩, hi⟩ := hw
  obtain ⟨hL, hF⟩ := hG g _ ha
  obtain ⟨k0, hk0⟩ := va_pl_get (X := []) (f := F) hL
  have hk1 : (va_pl L F)[k0]? = some (ad g, .inl (cA, n, .inr (.inl f))) := by rw [← hF]; exact hk0
  exact va_last (D := D) (cl := vwCl) hx hb hK hP hD hS0 k0 t0 hk1 ht hin hdg fun H1 locs1 hP1 hD1 hS1 => kk H1 locs1 (zw_set hG hi ha hD hk0 hP1 hD1 h1 h2) hS1
end ZR
