/-! ===== the reference: what a state of it is; its one object and its rows, by the number of the field ===== -/
abbrev MS : Type := (Nat → Int32) × (Nat → Nat → Int32) × (Nat → Nat → Int64)
def mi (τ : MS) (k : Nat) : Int32 := τ.1 k
def mr (τ : MS) (k : Nat) : Nat → Int32 := τ.2.1 k
def mj (τ : MS) (k : Nat) : Nat → Int64 := τ.2.2 k
def mI (τ : MS) (k : Nat) (v : Int32) : MS := (va_up τ.1 k v, τ.2)
def mR (τ : MS) (k i : Nat) (v : Int32) : MS := (τ.1, va_up τ.2.1 k (upd (τ.2.1 k) i v), τ.2.2)
def mJ (τ : MS) (k i : Nat) (v : Int64) : MS := (τ.1, τ.2.1, va_up τ.2.2 k (vp_updL (τ.2.2 k) i v))
theorem mi_I (τ : MS) (k j : Nat) (v : Int32) : mi (mI τ k v) j = if j = k then v else mi τ j := rfl
theorem mr_I (τ : MS) (k j : Nat) (v : Int32) : mr (mI τ k v) j = mr τ j := rfl
theorem mj_I (τ : MS) (k j : Nat) (v : Int32) : mj (mI τ k v) j = mj τ j := rfl
theorem mi_R (τ : MS) (k i j : Nat) (v : Int32) : mi (mR τ k i v) j = mi τ j := rfl
theorem mr_R (τ : MS) (k i j : Nat) (v : Int32) : mr (mR τ k i v) j = if j = k then upd (mr τ k) i v else mr τ j := rfl
theorem mj_R (τ : MS) (k i j : Nat) (v : Int32) : mj (mR τ k i v) j = mj τ j := rfl
theorem mi_J (τ : MS) (k i j : Nat) (v : Int64) : mi (mJ τ k i v) j = mi τ j := rfl
theorem mr_J (τ : MS) (k i j : Nat) (v : Int64) : mr (mJ τ k i v) j = mr τ j := rfl
theorem mj_J (τ : MS) (k i j : Nat) (v : Int64) : mj (mJ τ k i v) j = if j = k then vp_updL (mj τ k) i v else mj τ j := rfl
def mF (ad : Nat → Nat) (τ : MS) : List Value := [.int (mi τ 0), .int (mi τ 1), .int (mi τ 2), .int (mi τ 3), .ref (ad 4), .int (mi τ 5), .ref (ad 6), .ref (ad 7), .ref (ad 8), .ref (ad 9), .ref (ad 10), .ref (ad 11), .ref (ad 12), .ref (ad 13), .ref (ad 14), .ref (ad 15), .ref (ad 16), .ref (ad 17), .ref (ad 18), .ref (ad 19), .ref (ad 20), .ref (ad 21), .ref (ad 22), .ref (ad 23), .ref (ad 24), .ref (ad 25), .int (mi τ 26), .ref (ad 27), .int (mi τ 28), .int (mi τ 29), .int (mi τ 30), .ref (ad 31), .ref (ad 32)]
def mG (cy : Nat → ClassId) (ad : Nat → Nat) (τ : MS) : Nat → Option va_E := fun g => match g with
  | 0 => some (.inr (7, mF ad τ))
  | 4 => some (.inl (cy 0, 120, .inl (mr τ 4)))
  | 6 => some (.inl (cy 1, 21, .inl (mr τ 6)))
  | 7 => some (.inl (cy 0, 21600, .inl (mr τ 7)))
  | 8 => some (.inl (cy 1, 180, .inl (mr τ 8)))
  | 9 => some (.inl (cy 1, 180, .inl (mr τ 9)))
  | 10 => some (.inl (cy 1, 180, .inl (mr τ 10)))
  | 11 => some (.inl (cy 1, 180, .inl (mr τ 11)))
  | 12 => some (.inl (cy 1, 180, .inl (mr τ 12)))
  | 13 => some (.inl (cy 2, 64, .inr (.inl (mj τ 13))))
  | 14 => some (.inl (cy 3, 8, .inl (mr τ 14)))
  | 15 => some (.inl (cy 1, 8, .inl (mr τ 15)))
  | 16 => some (.inl (cy 1, 8, .inl (mr τ 16)))
  | 17 => some (.inl (cy 1, 8, .inl (mr τ 17)))
  | 18 => some (.inl (cy 1, 8, .inl (mr τ 18)))
  | 19 => some (.inl (cy 1, 8, .inl (mr τ 19)))
  | 20 => some (.inl (cy 1, 8, .inl (mr τ 20)))
  | 21 => some (.inl (cy 1, 160, .inl (mr τ 21)))
  | 22 => some (.inl (cy 2, 1280, .inr (.inl (mj τ 22))))
  | 23 => some (.inl (cy 3, 160, .inl (mr τ 23)))
  | 24 => some (.inl (cy 1, 160, .inl (mr τ 24)))
  | 25 => some (.inl (cy 1, 160, .inl (mr τ 25)))
  | 27 => some (.inl (cy 2, 16, .inr (.inl (mj τ 27))))
  | 31 => some (.inl (cy 2, 8, .inr (.inl (mj τ 31))))
  | 32 => some (.inl (cy 2, 8, .inr (.inl (mj τ 32))))
  | _ => none
theorem mput_0 (cy : Nat → ClassId) (ad : Nat → Nat) (τ : MS) (v : Int32) : mG cy ad (mI τ 0 v) 0 = some (.inr (7, (mF ad τ).set 0 (.int v))) := rfl
theorem mput_1 (cy : Nat → ClassId) (ad : Nat → Nat) (τ : MS) (v : Int32) : mG cy ad (mI τ 1 v) 0 = some (.inr (7, (mF ad τ).set 1 (.int v))) := rfl
theorem mput_2 (cy : Nat → ClassId) (ad : Nat → Nat) (τ : MS) (v : Int32) : mG cy ad (mI τ 2 v) 0 = some (.inr (7, (mF ad τ).set 2 (.int v))) := rfl
theorem mput_3 (cy : Nat → ClassId) (ad : Nat → Nat) (τ : MS) (v : Int32) : mG cy ad (mI τ 3 v) 0 = some (.inr (7, (mF ad τ).set 3 (.int v))) := rfl
theorem mput_5 (cy : Nat → ClassId) (ad : Nat → Nat) (τ : MS) (v : Int32) : mG cy ad (mI τ 5 v) 0 = some (.inr (7, (mF ad τ).set 5 (.int v))) := rfl
theorem mput_26 (cy : Nat → ClassId) (ad : Nat → Nat) (τ : MS) (v : Int32) : mG cy ad (mI τ 26 v) 0 = some (.inr (7, (mF ad τ).set 26 (.int v))) := rfl
theorem mput_28 (cy : Nat → ClassId) (ad : Nat → Nat) (τ : MS) (v : Int32) : mG cy ad (mI τ 28 v) 0 = some (.inr (7, (mF ad τ).set 28 (.int v))) := rfl
theorem mput_29 (cy : Nat → ClassId) (ad : Nat → Nat) (τ : MS) (v : Int32) : mG cy ad (mI τ 29 v) 0 = some (.inr (7, (mF ad τ).set 29 (.int v))) := rfl
theorem mput_30 (cy : Nat → ClassId) (ad : Nat → Nat) (τ : MS) (v : Int32) : mG cy ad (mI τ 30 v) 0 = some (.inr (7, (mF ad τ).set 30 (.int v))) := rfl
theorem mG_I (cy : Nat → ClassId) (ad : Nat → Nat) (τ : MS) (k : Nat) (v : Int32) : ∀ g, g ≠ 0 → mG cy ad (mI τ k v) g = mG cy ad τ g := by
  intro g hg
  unfold mG
  split <;> first | exact absurd rfl hg | rfl
theorem mG_R (cy : Nat → ClassId) (ad : Nat → Nat) (τ : MS) (k i : Nat) (v : Int32) : ∀ g, g ≠ k → mG cy ad (mR τ k i v) g = mG cy ad τ g := by
  intro g hg
  unfold mG
  split <;> first | rfl | (simp only [mr_R, if_neg hg])
theorem mG_J (cy : Nat → ClassId) (ad : Nat → Nat) (τ : MS) (k i : Nat) (v : Int64) : ∀ g, g ≠ k → mG cy ad (mJ τ k i v) g = mG cy ad τ g := by
  intro g hg
  unfold mG
  split <;> first | rfl | (simp only [mj_J, if_neg hg])
/-- the reference stands in the state U as τ says -/
def MWs (D : va_G) (cy : Nat → ClassId) (A : Nat → Prop) (ad : Nat → Nat) (τ : MS) (U : State) : Prop := zw D A ad (mG cy ad τ) U.heap ∧ va_K D vwCl (ztys cy) U
def MWp (D : va_G) (cy : Nat → ClassId) (A : Nat → Prop) (ad : Nat → Nat) (τ : MS) (t : State) : Prop := zw D A ad (mG cy ad τ) t.heap
section MRW
variable {p : Program} {l : Launch} {e : Env} {R : Room} {s : State} {m : MethodId} {args : Array Value} {below : List Frame} {meth : Method} {c : Code} {H : Heap} {locs : List Loc} {cells slots : Nat} {Q : State → Prop}
variable {cc : ByteArray} {nL pc : Nat} {ls : Array Slot} {rest : List Value} {D : va_G} {A : Nat → Prop} {cy : Nat → ClassId} {H0 : Heap} {Ts : List Cond} {ad : Nat → Nat} {τ : MS}
theorem mr_get (S : CallFix p m c cc nL s args Ts RX7) (h7 : ∀ w ∈ wsX70, w ∈ Ts) (hK : va_K D vwCl (ztys cy) s) (hw : zw D A ad (mG cy ad τ) H) (k : Nat) (hk : k < 33) {index : Nat} (hlink : Cond.fieldLink RX7 index "RunClassesModel" (TX7 k).2.1 (TX7 k).2.2.1 ∈ Ts) (hown : (TX7 k).1 = "RunClassesModel") {v : Value} (hv : (mF ad τ)[k]? = some v) (hdg : decode cc pc = .ok (.getfield index, 3))
    (kk : W p l e R s m args below meth c H locs cells slots Q (F0 m (pc + 3) ls (v :: rest))) : W p l e R s m args below meth c H locs cells slots Q (F0 m pc ls (.ref (ad 0) :: rest)) :=
  zr_get (C := RX7) (T := TX7) (N := 33) (ci := 7) (g := 0) S h7 hK hw rfl rfl k hk hlink (fun x h => by rw [hown] at h; exact h) hv hdg kk
theorem mr_put (S : CallFix p m c cc nL s args Ts RX7) (h7 : ∀ w ∈ wsX70, w ∈ Ts) (hK : va_K D vwCl (ztys cy) s) (hw : zw D A ad (mG cy ad τ) H) (hS : va_S A H0 H locs) (k : Nat) (hk : k < 33) {index : Nat} (hlink : Cond.fieldLink RX7 index "RunClassesModel" (TX7 k).2.1 (TX7 k).2.2.1 ∈ Ts) (hown : (TX7 k).1 = "RunClassesModel") (hfin : (TX7 k).2.2.2 = false) (hti : tyX7 k = .int) {v : Int32} (hp : mG cy ad (mI τ k v) 0 = some (.inr (7, (mF ad τ).set k (.int v)))) (hdg : decode cc pc = .ok (.putfield index, 3))
    (kk : ∀ (H1 : Heap) (locs1 : List Loc), zw D A ad (mG cy ad (mI τ k v)) H1 → va_S A H0 H1 locs1 → W p l e R s m args below meth c H1 locs1 cells slots Q (F0 m (pc + 3) ls rest)) : W p l e R s m args below meth c H locs cells slots Q (F0 m pc ls (.int v :: .ref (ad 0) :: rest)) :=
  zr_put (C := RX7) (T := TX7) (N := 33) (ci := 7) (g := 0) S h7 tyX7 tyX7_ok nmX7 hK hw hS rfl rfl k hk hlink (fun x h => by rw [hown] at h; exact h) hfin (by rw [tyX7_ok k hk, hti]) rfl rfl (by simpa [mF] using hk) hdg hp (mG_I cy ad τ k v) kk
theorem mr_iald (S : CallFix p m c cc nL s args Ts RX7) (hK : va_K D vwCl (ztys cy) s) (hw : zw D A ad (mG cy ad τ) H) (k : Nat) {n : Nat} (ha : mG cy ad τ k = some (.inl (cy 1, n, .inl (mr τ k)))) {i : Int32} (hin : vp_in i n) (hdg : decode cc pc = .ok (.iaload, 1))
    (kk : W p l e R s m args below meth c H locs cells slots Q (F0 m (pc + 1) ls (.int (mr τ k i.toNatClampNeg) :: rest))) : W p l e R s m args below meth c H locs cells slots Q (F0 m pc ls (.int i :: .ref (ad k) :: rest)) :=
  zr_iald S hK hw 1 ha rfl hin hdg kk
theorem mr_bald (S : CallFix p m c cc nL s args Ts RX7) (hK : va_K D vwCl (ztys cy) s) (hw : zw D A ad (mG cy ad τ) H) (k : Nat) {n : Nat} (ha : mG cy ad τ k = some (.inl (cy 0, n, .inl (mr τ k)))) {i : Int32} (hin : vp_in i n) (hdg : decode cc pc = .ok (.baload, 1))
    (kk : W p l e R s m args below meth c H locs cells slots Q (F0 m (pc + 1) ls (.int (mr τ k i.toNatClampNeg) :: rest))) : W p l e R s m args below meth c H locs cells slots Q (F0 m pc ls (.int i :: .ref (ad k) :: rest)) :=
  zr_bald S hK hw 0 ha rfl hin hdg kk
theorem mr_zald (S : CallFix p m c cc nL s args Ts RX7) (hK : va_K D vwCl (ztys cy) s) (hw : zw D A ad (mG cy ad τ) H) (k : Nat) {n : Nat} (ha : mG cy ad τ k = some (.inl (cy 3, n, .inl (mr τ k)))) {i : Int32} (hin : vp_in i n) (hdg : decode cc pc = .ok (.baload, 1))
    (kk : W p l e R s m args below meth c H locs cells slots Q (F0 m (pc + 1) ls (.int (mr τ k i.toNatClampNeg) :: rest))) : W p l e R s m args below meth c H locs cells slots Q (F0 m pc ls (.int i :: .ref (ad k) :: rest)) :=
  zr_zald S hK hw 3 ha rfl hin hdg kk
theorem mr_lald (S : CallFix p m c cc nL s args Ts RX7) (hK : va_K D vwCl (ztys cy) s) (hw : zw D A ad (mG cy ad τ) H) (k : Nat) {n : Nat} (ha : mG cy ad τ k = some (.inl (cy 2, n, .inr (.inl (mj τ k))))) {i : Int32} (hin : vp_in i n) (hdg : decode cc pc = .ok (.laload, 1))
    (kk : W p l e R s m args below meth c H locs cells slots Q (F0 m (pc + 1) ls (.long (mj τ k i.toNatClampNeg) :: rest))) : W p l e R s m args below meth c H locs cells slots Q (F0 m pc ls (.int i :: .ref (ad k) :: rest)) :=
  zr_lald S hK hw 2 ha rfl hin hdg kk
theorem mr_iast (S : CallFix p m c cc nL s args Ts RX7) (hK : va_K D vwCl (ztys cy) s) (hw : zw D A ad (mG cy ad τ) H) (hS : va_S A H0 H locs) (k : Nat) {n : Nat} (ha : mG cy ad τ k = some (.inl (cy 1, n, .inl (mr τ k)))) {i x : Int32} (hin : vp_in i n) (hp : mG cy ad (mR τ k i.toNatClampNeg x) k = some (.inl (cy 1, n, .inl (upd (mr τ k) i.toNatClampNeg x)))) (hdg : decode cc pc = .ok (.iastore, 1))
    (kk : ∀ (H1 : Heap) (locs1 : List Loc), zw D A ad (mG cy ad (mR τ k i.toNatClampNeg x)) H1 → va_S A H0 H1 locs1 → W p l e R s m args below meth c H1 locs1 cells slots Q (F0 m (pc + 1) ls rest)) : W p l e R s m args below meth c H locs cells slots Q (F0 m pc ls (.int x :: .int i :: .ref (ad k) :: rest)) :=
  zr_iast S hK hw hS 1 ha rfl hin hdg hp (mG_R cy ad τ k _ _) kk
theorem mr_bast (S : CallFix p m c cc nL s args Ts RX7) (hK : va_K D vwCl (ztys cy) s) (hw : zw D A ad (mG cy ad τ) H) (hS : va_S A H0 H locs) (k : Nat) {n : Nat} (ha : mG cy ad τ k = some (.inl (cy 0, n, .inl (mr τ k)))) {i x : Int32} (hin : vp_in i n) (hp : mG cy ad (mR τ k i.toNatClampNeg (vp_nar .byte x)) k = some (.inl (cy 0, n, .inl (upd (mr τ k) i.toNatClampNeg (vp_nar .byte x))))) (hdg : decode cc pc = .ok (.bastore, 1))
    (kk : ∀ (H1 : Heap) (locs1 : List Loc), zw D A ad (mG cy ad (mR τ k i.toNatClampNeg (vp_nar .byte x))) H1 → va_S A H0 H1 locs1 → W p l e R s m args below meth c H1 locs1 cells slots Q (F0 m (pc + 1) ls rest)) : W p l e R s m args below meth c H locs cells slots Q (F0 m pc ls (.int x :: .int i :: .ref (ad k) :: rest)) :=
  zr_bast S hK hw hS 0 ha rfl hin hdg hp (mG_R cy ad τ k _ _) kk
theorem mr_zast (S : CallFix p m c cc nL s args Ts RX7) (hK : va_K D vwCl (ztys cy) s) (hw : zw D A ad (mG cy ad τ) H) (hS : va_S A H0 H locs) (k : Nat) {n : Nat} (ha : mG cy ad τ k = some (.inl (cy 3, n, .inl (mr τ k)))) {i x : Int32} (hin : vp_in i n) (hp : mG cy ad (mR τ k i.toNatClampNeg (vp_nar .boolean x)) k = some (.inl (cy 3, n, .inl (upd (mr τ k) i.toNatClampNeg (vp_nar .boolean x))))) (hdg : decode cc pc = .ok (.bastore, 1))
    (kk : ∀ (H1 : Heap) (locs1 : List Loc), zw D A ad (mG cy ad (mR τ k i.toNatClampNeg (vp_nar .boolean x))) H1 → va_S A H0 H1 locs1 → W p l e R s m args below meth c H1 locs1 cells slots Q (F0 m (pc + 1) ls rest)) : W p l e R s m args below meth c H locs cells slots Q (F0 m pc ls (.int x :: .int i :: .ref (ad k) :: rest)) :=
  zr_zast S hK hw hS 3 ha rfl hin hdg hp (mG_R cy ad τ k _ _) kk
theorem mr_last (S : CallFix p m c cc nL s args Ts RX7) (hK : va_K D vwCl (ztys cy) s) (hw : zw D A ad (mG cy ad τ) H) (hS : va_S A H0 H locs) (k : Nat) {n : Nat} (ha : mG cy ad τ k = some (.inl (cy 2, n, .inr (.inl (mj τ k))))) {i : Int32} {x : Int64} (hin : vp_in i n) (hp : mG cy ad (mJ τ k i.toNatClampNeg x) k = some (.inl (cy 2, n, .inr (.inl (vp_updL (mj τ k) i.toNatClampNeg x))))) (hdg : decode cc pc = .ok (.lastore, 1))
    (kk : ∀ (H1 : Heap) (locs1 : List Loc), zw D A ad (mG cy ad (mJ τ k i.toNatClampNeg x)) H1 → va_S A H0 H1 locs1 → W p l e R s m args below meth c H1 locs1 cells slots Q (F0 m (pc + 1) ls rest)) : W p l e R s m args below meth c H locs cells slots Q (F0 m pc ls (.long x :: .int i :: .ref (ad k) :: rest)) :=
  zr_last S hK hw hS 2 ha rfl hin hdg hp (mG_J cy ad τ k _ _) kk
theorem mw_blind (av : List Value) : FrameBlind (va_Pc av (MWs D cy A ad τ)) := fun a U g mk q => by
  obtain ⟨q0, qP, qK⟩ := q
  exact ⟨q0, qP, va_K.moved (u := U) (U := U.calling g mk a) (Vm.Alike.refl U.vm) qK⟩
theorem mw_pre (hK : va_K D vwCl (ztys cy) s) (hw : zw D A ad (mG cy ad τ) H) (av : List Value) : ∀ U : State, U.heap = H → s.WarmedH U.vm → va_Pc av (MWs D cy A ad τ) av.toArray U := fun U hU hW => ⟨rfl, by rw [hU]; exact hw, va_K.moved hW.alike hK⟩
theorem zw_recv {ι : Type} {ad : ι → Nat} {G : ι → Option va_E} {tys : List (ClassId × FieldType)} (hK : va_K D vwCl tys s) (hw : zw D A ad G H) {g : ι} {ci : Nat} {fs : List Value} (he : G g = some (.inr (ci, fs))) {q : vw_C} (hc : vwCl[ci]? = some q) : ∃ cell : Cell, H[ad g]? = some cell ∧ cell.vm.isStatics = false ∧ s.vm.findClass q.1 = some cell.cls :=
  va_recv (D := D) (cl := vwCl) (ws := [(ad g, .inr (ci, fs))]) hK (fun j q hj => by
    match j, hj with
    | 0, hj => cases hj; exact zw_at hw he
    | j + 1, hj => simp at hj) hc (q0 := 0) rfl
variable {y : MethodName} {bytes : ByteArray} {maxL n index : Nat} {ret : Option FieldType} {ws ws' : List Cond} {rm : Room} {As st : List Value} {own : String} {τ' : MS}
theorem mw_ci {r : Int32} (S : CallFix p m c cc nL s args Ts own) (hM : Met l y ws rm (va_Pc (.ref (ad 0) :: As) (MWs D cy A ad τ)) (va_Qi (fun r' u => r' = r ∧ u = τ') (MWp D cy A ad) A) 0 0 A) (hG : GoodIn Ts (wsV own index RX7 y ws)) (hws : ws = Cond.code y bytes maxL ret :: ws') (hrm : rm.cells = 0 ∧ rm.slots = 0) (hd : y.cls = RX7 ∧ y.cls ≠ "java/lang/invoke/MethodHandle" ∧ y.cls ≠ "java/lang/invoke/VarHandle" ∧ (parseMethodDescriptor y.desc).map (fun d => d.parameters.length) = some n) (hR : rm.frames + 1 ≤ R.frames ∧ 8 + (maxL + 11) + rm.locals ≤ R.locals) (hn : As.length = n) (hl : ls.size = nL) (hst : st = As.reverse ++ .ref (ad 0) :: rest) (hro : (rest.map fun v => v.category).sum ≤ 8) (hK : va_K D vwCl (ztys cy) s) (hw : zw D A ad (mG cy ad τ) H) (hS : va_S A H0 H locs) (hdg : decode cc pc = .ok (.invokevirtual index, 3)) (hcs : cells + 0 ≤ R.cells ∧ slots + 0 ≤ R.slots)
    (kk : ∀ (H1 : Heap) (locs1 : List Loc), zw D A ad (mG cy ad τ') H1 → va_S A H0 H1 locs1 → W p l e R s m args below meth c H1 locs1 cells slots Q (F0 m (pc + 3) ls (.int r :: rest))) : W p l e R s m args below meth c H locs cells slots Q (F0 m pc ls st) := by
  refine va_calli (va_runV S hM (cwV n S.2.2.2.2 hG hws hrm.1 hrm.2 hd hR) ⟨mw_blind _, zw_recv hK hw (g := 0) (ci := 7) rfl rfl, mw_pre hK hw _⟩ rfl hn hl hst (lv_room hro) hdg hcs) hS (fun q _ h => h) (fun q h => h) (fun r1 u t H1 locs1 ht hvm hq hB hz1 hk1 hS1 => ?_)
  obtain ⟨rfl, rfl⟩ := hq
  subst ht
  exact kk _ _ hB hS1
theorem mw_cl {r : Int64} (S : CallFix p m c cc nL s args Ts own) (hM : Met l y ws rm (va_Pc (.ref (ad 0) :: As) (MWs D cy A ad τ)) (va_Ql (fun r' u => r' = r ∧ u = τ') (MWp D cy A ad) A) 0 0 A) (hG : GoodIn Ts (wsV own index RX7 y ws)) (hws : ws = Cond.code y bytes maxL ret :: ws') (hrm : rm.cells = 0 ∧ rm.slots = 0) (hd : y.cls = RX7 ∧ y.cls ≠ "java/lang/invoke/MethodHandle" ∧ y.cls ≠ "java/lang/invoke/VarHandle" ∧ (parseMethodDescriptor y.desc).map (fun d => d.parameters.length) = some n) (hR : rm.frames + 1 ≤ R.frames ∧ 8 + (maxL + 11) + rm.locals ≤ R.locals) (hn : As.length = n) (hl : ls.size = nL) (hst : st = As.reverse ++ .ref (ad 0) :: rest) (hro : (rest.map fun v => v.category).sum ≤ 8) (hK : va_K D vwCl (ztys cy) s) (hw : zw D A ad (mG cy ad τ) H) (hS : va_S A H0 H locs) (hdg : decode cc pc = .ok (.invokevirtual index, 3)) (hcs : cells + 0 ≤ R.cells ∧ slots + 0 ≤ R.slots)
    (kk : ∀ (H1 : Heap) (locs1 : List Loc), zw D A ad (mG cy ad τ') H1 → va_S A H0 H1 locs1 → W p l e R s m args below meth c H1 locs1 cells slots Q (F0 m (pc + 3) ls (.long r :: rest))) : W p l e R s m args below meth c H locs cells slots Q (F0 m pc ls st) := by
  refine va_calll (va_runV S hM (cwV n S.2.2.2.2 hG hws hrm.1 hrm.2 hd hR) ⟨mw_blind _, zw_recv hK hw (g := 0) (ci := 7) rfl rfl, mw_pre hK hw _⟩ rfl hn hl hst (lv_room hro) hdg hcs) hS (fun q _ h => h) (fun q h => h) (fun r1 u t H1 locs1 ht hvm hq hB hz1 hk1 hS1 => ?_)
  obtain ⟨rfl, rfl⟩ := hq
  subst ht
  exact kk _ _ hB hS1
theorem mw_cv (S : CallFix p m c cc nL s args Ts own) (hM : Met l y ws rm (va_Pc (.ref (ad 0) :: As) (MWs D cy A ad τ)) (va_Qv (fun u => u = τ') (MWp D cy A ad) A) 0 0 A) (hG : GoodIn Ts (wsV own index RX7 y ws)) (hws : ws = Cond.code y bytes maxL ret :: ws') (hrm : rm.cells = 0 ∧ rm.slots = 0) (hd : y.cls = RX7 ∧ y.cls ≠ "java/lang/invoke/MethodHandle" ∧ y.cls ≠ "java/lang/invoke/VarHandle" ∧ (parseMethodDescriptor y.desc).map (fun d => d.parameters.length) = some n) (hR : rm.frames + 1 ≤ R.frames ∧ 8 + (maxL + 11) + rm.locals ≤ R.locals) (hn : As.length = n) (hl : ls.size = nL) (hst : st = As.reverse ++ .ref (ad 0) :: rest) (hro : (rest.map fun v => v.category).sum ≤ 8) (hK : va_K D vwCl (ztys cy) s) (hw : zw D A ad (mG cy ad τ) H) (hS : va_S A H0 H locs) (hdg : decode cc pc = .ok (.invokevirtual index, 3)) (hcs : cells + 0 ≤ R.cells ∧ slots + 0 ≤ R.slots)
    (kk : ∀ (H1 : Heap) (locs1 : List Loc), zw D A ad (mG cy ad τ') H1 → va_S A H0 H1 locs1 → W p l e R s m args below meth c H1 locs1 cells slots Q (F0 m (pc + 3) ls (rest))) : W p l e R s m args below meth c H locs cells slots Q (F0 m pc ls st) := by
  refine va_callv (va_runV S hM (cwV n S.2.2.2.2 hG hws hrm.1 hrm.2 hd hR) ⟨mw_blind _, zw_recv hK hw (g := 0) (ci := 7) rfl rfl, mw_pre hK hw _⟩ rfl hn hl hst (lv_room hro) hdg hcs) hS (fun q _ h => h) (fun q h => h) (fun u t H1 locs1 ht hvm hq hB hz1 hk1 hS1 => ?_)
  subst hq
  subst ht
  exact kk _ _ hB hS1
theorem mw_si {r : Int32} (S : CallFix p m c cc nL s args Ts own) (hM : Met l y ws rm (va_Pc As (MWs D cy A ad τ)) (va_Qi (fun r' u => r' = r ∧ u = τ') (MWp D cy A ad) A) 0 0 A) (hG : GoodIn Ts (va_wsS own index y ws)) (hws : ws = Cond.code y bytes maxL ret :: ws') (hrm : rm.cells = 0 ∧ rm.slots = 0) (hd : y.cls ≠ "java/lang/invoke/MethodHandle" ∧ y.cls ≠ "java/lang/invoke/VarHandle" ∧ (parseMethodDescriptor y.desc).map (fun d => d.parameters.length) = some n) (hR : rm.frames + 1 ≤ R.frames ∧ 8 + (maxL + 11) + rm.locals ≤ R.locals) (hn : As.length = n) (hl : ls.size = nL) (hst : st = As.reverse ++ rest) (hro : (rest.map fun v => v.category).sum ≤ 8) (hK : va_K D vwCl (ztys cy) s) (hw : zw D A ad (mG cy ad τ) H) (hS : va_S A H0 H locs) (hdg : decode cc pc = .ok (.invokestatic index, 3)) (hcs : cells + 0 ≤ R.cells ∧ slots + 0 ≤ R.slots)
    (kk : ∀ (H1 : Heap) (locs1 : List Loc), zw D A ad (mG cy ad τ') H1 → va_S A H0 H1 locs1 → W p l e R s m args below meth c H1 locs1 cells slots Q (F0 m (pc + 3) ls (.int r :: rest))) : W p l e R s m args below meth c H locs cells slots Q (F0 m pc ls st) := by
  refine va_calli (va_runS S hM (va_cwS n S.2.2.2.2 hG hws hrm.1 hrm.2 hd hR) ⟨mw_blind _, mw_pre hK hw _⟩ rfl hn hl hst (lv_room hro) hdg hcs) hS (fun q _ h => h) (fun q h => h) (fun r1 u t H1 locs1 ht hvm hq hB hz1 hk1 hS1 => ?_)
  obtain ⟨rfl, rfl⟩ := hq
  subst ht
  exact kk _ _ hB hS1
theorem mw_sl {r : Int64} (S : CallFix p m c cc nL s args Ts own) (hM : Met l y ws rm (va_Pc As (MWs D cy A ad τ)) (va_Ql (fun r' u => r' = r ∧ u = τ') (MWp D cy A ad) A) 0 0 A) (hG : GoodIn Ts (va_wsS own index y ws)) (hws : ws = Cond.code y bytes maxL ret :: ws') (hrm : rm.cells = 0 ∧ rm.slots = 0) (hd : y.cls ≠ "java/lang/invoke/MethodHandle" ∧ y.cls ≠ "java/lang/invoke/VarHandle" ∧ (parseMethodDescriptor y.desc).map (fun d => d.parameters.length) = some n) (hR : rm.frames + 1 ≤ R.frames ∧ 8 + (maxL + 11) + rm.locals ≤ R.locals) (hn : As.length = n) (hl : ls.size = nL) (hst : st = As.reverse ++ rest) (hro : (rest.map fun v => v.category).sum ≤ 8) (hK : va_K D vwCl (ztys cy) s) (hw : zw D A ad (mG cy ad τ) H) (hS : va_S A H0 H locs) (hdg : decode cc pc = .ok (.invokestatic index, 3)) (hcs : cells + 0 ≤ R.cells ∧ slots + 0 ≤ R.slots)
    (kk : ∀ (H1 : Heap) (locs1 : List Loc), zw D A ad (mG cy ad τ') H1 → va_S A H0 H1 locs1 → W p l e R s m args below meth c H1 locs1 cells slots Q (F0 m (pc + 3) ls (.long r :: rest))) : W p l e R s m args below meth c H locs cells slots Q (F0 m pc ls st) := by
  refine va_calll (va_runS S hM (va_cwS n S.2.2.2.2 hG hws hrm.1 hrm.2 hd hR) ⟨mw_blind _, mw_pre hK hw _⟩ rfl hn hl hst (lv_room hro) hdg hcs) hS (fun q _ h => h) (fun q h => h) (fun r1 u t H1 locs1 ht hvm hq hB hz1 hk1 hS1 => ?_)
  obtain ⟨rfl, rfl⟩ := hq
  subst ht
  exact kk _ _ hB hS1
theorem mw_sv (S : CallFix p m c cc nL s args Ts own) (hM : Met l y ws rm (va_Pc As (MWs D cy A ad τ)) (va_Qv (fun u => u = τ') (MWp D cy A ad) A) 0 0 A) (hG : GoodIn Ts (va_wsS own index y ws)) (hws : ws = Cond.code y bytes maxL ret :: ws') (hrm : rm.cells = 0 ∧ rm.slots = 0) (hd : y.cls ≠ "java/lang/invoke/MethodHandle" ∧ y.cls ≠ "java/lang/invoke/VarHandle" ∧ (parseMethodDescriptor y.desc).map (fun d => d.parameters.length) = some n) (hR : rm.frames + 1 ≤ R.frames ∧ 8 + (maxL + 11) + rm.locals ≤ R.locals) (hn : As.length = n) (hl : ls.size = nL) (hst : st = As.reverse ++ rest) (hro : (rest.map fun v => v.category).sum ≤ 8) (hK : va_K D vwCl (ztys cy) s) (hw : zw D A ad (mG cy ad τ) H) (hS : va_S A H0 H locs) (hdg : decode cc pc = .ok (.invokestatic index, 3)) (hcs : cells + 0 ≤ R.cells ∧ slots + 0 ≤ R.slots)
    (kk : ∀ (H1 : Heap) (locs1 : List Loc), zw D A ad (mG cy ad τ') H1 → va_S A H0 H1 locs1 → W p l e R s m args below meth c H1 locs1 cells slots Q (F0 m (pc + 3) ls (rest))) : W p l e R s m args below meth c H locs cells slots Q (F0 m pc ls st) := by
  refine va_callv (va_runS S hM (va_cwS n S.2.2.2.2 hG hws hrm.1 hrm.2 hd hR) ⟨mw_blind _, mw_pre hK hw _⟩ rfl hn hl hst (lv_room hro) hdg hcs) hS (fun q _ h => h) (fun q h => h) (fun u t H1 locs1 ht hvm hq hB hz1 hk1 hS1 => ?_)
  subst hq
  subst ht
  exact kk _ _ hB hS1
theorem mw_reti {x r : Int32} (S : CallFix p m c cc nL s args Ts own) (hr : meth.sig.returnType = some .int) (hf : some (x, τ) = some (r, τ')) (hw : zw D A ad (mG cy ad τ) H) (hS : va_S A s.heap H locs) (hlocks : meth.locks = false) (hdg : decode cc pc = .ok (.ireturn, 1)) : W p l e R s m args below meth c H locs cells slots (MQ below (va_Qi (fun r' u => r' = r ∧ u = τ') (MWp D cy A ad) A) args s cells slots A) (F0 m pc ls [.int x]) :=
  W.iret (v := x) S.1 S.2.1 hr (fun t ht hW => ⟨⟨x, τ, rfl, ⟨congrArg Prod.fst (Option.some.inj hf), congrArg Prod.snd (Option.some.inj hf)⟩, by unfold MWp; rw [ht]; exact hw⟩, hS.F ht⟩) hS.2.2 hdg hlocks
theorem mw_retl {x r : Int64} (S : CallFix p m c cc nL s args Ts own) (hr : meth.sig.returnType = some .long) (hf : some (x, τ) = some (r, τ')) (hw : zw D A ad (mG cy ad τ) H) (hS : va_S A s.heap H locs) (hlocks : meth.locks = false) (hdg : decode cc pc = .ok (.lreturn, 1)) : W p l e R s m args below meth c H locs cells slots (MQ below (va_Ql (fun r' u => r' = r ∧ u = τ') (MWp D cy A ad) A) args s cells slots A) (F0 m pc ls [.long x]) :=
  W.lret (v := x) S.1 S.2.1 hr (fun t ht hW => ⟨⟨x, τ, rfl, ⟨congrArg Prod.fst (Option.some.inj hf), congrArg Prod.snd (Option.some.inj hf)⟩, by unfold MWp; rw [ht]; exact hw⟩, hS.F ht⟩) hS.2.2 hdg hlocks
theorem mw_retv (S : CallFix p m c cc nL s args Ts own) (hr : meth.sig.returnType = none) (hf : some ((), τ) = some ((), τ')) (hw : zw D A ad (mG cy ad τ) H) (hS : va_S A s.heap H locs) (hlocks : meth.locks = false) (hdg : decode cc pc = .ok (.return_, 1)) : W p l e R s m args below meth c H locs cells slots (MQ below (va_Qv (fun u => u = τ') (MWp D cy A ad) A) args s cells slots A) (F0 m pc ls []) :=
  W.vret S.1 S.2.1 hr (fun t ht hW => ⟨⟨τ, rfl, congrArg Prod.snd (Option.some.inj hf), by unfold MWp; rw [ht]; exact hw⟩, hS.F ht⟩) hS.2.2 hdg hlocks
theorem mw_retz {x r : Int32} {ty : FieldType} (S : CallFix p m c cc nL s args Ts own) (hr : meth.sig.returnType = some ty) (hn : narrow ty (.int x) = .int x) (hf : some (x, τ) = some (r, τ')) (hw : zw D A ad (mG cy ad τ) H) (hS : va_S A s.heap H locs) (hlocks : meth.locks = false) (hdg : decode cc pc = .ok (.ireturn, 1)) : W p l e R s m args below meth c H locs cells slots (MQ below (va_Qi (fun r' u => r' = r ∧ u = τ') (MWp D cy A ad) A) args s cells slots A) (F0 m pc ls [.int x]) :=
  W.zret (v := x) S.1 S.2.1 hr hn (fun t ht hW => ⟨⟨x, τ, rfl, ⟨congrArg Prod.fst (Option.some.inj hf), congrArg Prod.snd (Option.some.inj hf)⟩, by unfold MWp; rw [ht]; exact hw⟩, hS.F ht⟩) hS.2.2 hdg hlocks
end MRW
