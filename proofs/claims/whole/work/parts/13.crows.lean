/-! ===== what the class's statics hold, and the nest's words ===== -/
abbrev zIE : String := "RunClasses$Instruction"
abbrev zID : String := "LRunClasses$Instruction;"
def zNm : List String := ["LAY", "LAY_CELL", "TAKE_TO_CELL", "LAY_PORT", "TAKE_TO_PORT", "ADD", "SUBTRACT", "MULTIPLY", "DIVIDE", "REMAINDER", "LESS", "EQUAL", "LAY_AGAIN", "GO_ON", "GO_ON_IF_ZERO", "LAY_CELL_TAKEN", "KEEP_HANDLE", "LAY_BY_HANDLE", "GIVE_UP"]
def zT0 : List Int32 := [0, 1, 2, 3, 4, 5, 6, 7, 8, 9, 10, 11, 12, 13, 14, 15, 16, 17, 18]
def zT1 : List Int32 := [1, 1, 1, 1, 1, 0, 0, 0, 0, 0, 0, 0, 0, 1, 1, 0, 1, 0, 1]
def zT2 : List Int32 := [0, 1, 1, 1, 1, 0, 0, 0, 0, 0, 0, 0, 0, 0, 0, 0, 1, 0, 0]
def zT3 : List Int32 := [0, 0, 1, 0, 1, 2, 2, 2, 2, 2, 2, 2, 1, 0, 1, 1, 0, 0, 0]
def zT4 : List Int32 := [1, 1, 0, 1, 0, 1, 1, 1, 1, 1, 1, 1, 2, 0, 0, 1, 0, 1, 0]
def zSw : List Int32 := [1, 2, 3, 4, 5, 13, 14, 15, 16, 17, 18, 0, 6, 7, 8, 9, 10, 11, 12]
def zFl : List (String × String × String × List Int32) := [("java/lang/Enum", "ordinal", "I", zT0), (zIE, "hasOctet", "Z", zT1), (zIE, "namesPlace", "Z", zT2), (zIE, "takes", "I", zT3), (zIE, "lays", "I", zT4)]
def ST (A : Nat → Prop) (en : Nat → Nat) (tI tS : Nat) (U : State) (H : Heap) : Prop :=
  va_En zIE zID zNm zFl en A U H ∧ va_Z "RunClasses" "INSTRUCTIONS" "[LRunClasses$Instruction;" (.ref tI) A U H ∧ va_T (.object zIE) tI 19 (fun i => .ref (en i)) A U H ∧ va_Z "RunClasses$1" "$SwitchMap$RunClasses$Instruction" "[I" (.ref tS) A U H ∧ va_T .int tS 19 (fun i => .int (zSw.getD i 0)) A U H
theorem ST.moved {A : Nat → Prop} {en : Nat → Nat} {tI tS : Nat} {u U : State} {H : Heap} (hvm : u.vm.Alike U.vm) (h : ST A en tI tS u H) : ST A en tI tS U H :=
  ⟨h.1.moved hvm, h.2.1.moved hvm, h.2.2.1.moved hvm, h.2.2.2.1.moved hvm, h.2.2.2.2.moved hvm⟩
theorem ST.kept {A : Nat → Prop} {en : Nat → Nat} {tI tS : Nat} {U : State} {H H1 : Heap} (h : ST A en tI tS U H) (hq : ∀ a : Nat, a < H.size → ¬ A a → H1[a]? = H[a]?) : ST A en tI tS U H1 :=
  ⟨h.1.kept hq, h.2.1.kept hq, h.2.2.1.kept hq, h.2.2.2.1.kept hq, h.2.2.2.2.kept hq⟩
def nF : List (String × Nat × String × String × String) := [("RunClasses", 108, "RunClasses$Controller", "ports", "[J"), ("RunClasses", 80, "RunClasses$Controller", "up", "Z"), ("RunClasses", 127, "RunClasses$Controller", "reaction", "I"), ("RunClasses", 143, "RunClasses$Controller", "faultKind", "I"), ("RunClasses", 146, "RunClasses$Controller", "faultRunnable", "I"), ("RunClasses", 149, "RunClasses$Controller", "faultSteps", "I"), ("RunClasses", 152, "RunClasses$Controller", "faultGiven", "I"), ("RunClasses", 155, "RunClasses$Controller", "faults", "I"), ("RunClasses", 223, "RunClasses$Way", "steps", "I"), ("RunClasses", 226, "RunClasses$Way", "given", "I"), ("RunClasses", 222, "RunClasses$Way", "handle", "I"), ("RunClasses", 70, "RunClasses$Edition", "number", "I"), ("RunClasses", 168, "RunClasses$Edition", "octets", "[B"), ("RunClasses", 198, "RunClasses$Edition", "startCode", "[B"), ("RunClasses", 208, "RunClasses$Edition", "runCode", "[B"), ("RunClasses", 124, "RunClasses$Loaded", "cells", "[J"), ("RunClasses", 130, "RunClasses$Loaded", "edition", "I"), ("RunClasses", 158, "RunClasses$Loaded", "handle", "I"), ("RunClasses", 205, "RunClasses$Loaded", "stopped", "Z"), ("RunClasses$Way", 63, "RunClasses", "INSTRUCTIONS", "[LRunClasses$Instruction;"), ("RunClasses$Way", 67, "RunClasses$Instruction", "hasOctet", "Z"), ("RunClasses$Way", 73, "RunClasses$Instruction", "namesPlace", "Z"), ("RunClasses$Way", 76, "RunClasses$Instruction", "takes", "I"), ("RunClasses$Way", 79, "RunClasses$Instruction", "lays", "I")]
def nM : List (String × Nat × MethodName) := [("RunClasses", 29, yX1_init), ("RunClasses", 38, yX5_init), ("RunClasses", 195, yX2_init), ("RunClasses", 84, yX1_classOf), ("RunClasses", 90, yX4_init), ("RunClasses", 93, yX1_load), ("RunClasses", 219, yX5_go), ("RunClasses$Way", 59, yX6_octetAt), ("RunClasses$Way", 99, yX6_numberAt), ("RunClasses$Way", 107, yX6_putNumber), ("RunClasses", 211, yX5_goOnCopies), ("RunClasses$Way", 31, yX6_copyNumbers), ("RunClasses", 133, yX4_becomeAnew)]
def NW (U : State) : Prop := (∀ q ∈ nF, va_Nw (.fieldLinkNest q.1 q.2.1 q.2.2.1 q.2.2.2.1 q.2.2.2.2 "RunClasses") U) ∧ ∀ q ∈ nM, va_Nw (.methodLinkNest q.1 q.2.1 q.2.2 "RunClasses") U
theorem NW.warm {s U : State} (hW : s.WarmedH U.vm) (h : NW s) : NW U := ⟨fun q hq => va_Nw.warmF hW (h.1 q hq), fun q hq => va_Nw.warmM hW (h.2 q hq)⟩
theorem NW.same {u U : State} (hv : u.vm = U.vm) (h : NW u) : NW U := ⟨fun q hq => va_Nw.same rfl hv (h.1 q hq), fun q hq => va_Nw.same rfl hv (h.2 q hq)⟩
abbrev zI : String := "java/lang/IllegalStateException"
abbrev zX : String := "java/lang/ArrayIndexOutOfBoundsException"
abbrev zA : String := "java/lang/ArithmeticException"
def exC : List (String × String) := [(zI, zI), (zA, zA), (zX, zX), ("[B", "java/lang/Cloneable")]
def exD : List MethodName := [⟨"java/lang/RuntimeException", "<init>", "(Ljava/lang/String;)V"⟩, ⟨"java/lang/Exception", "<init>", "(Ljava/lang/String;)V"⟩, ⟨"java/lang/Throwable", "<init>", "(Ljava/lang/String;)V"⟩, ⟨"java/lang/IndexOutOfBoundsException", "<init>", "(Ljava/lang/String;)V"⟩]
/-- what a throw and a clone need -/
def EX (A : Nat → Prop) (U : State) (H : Heap) : Prop := (∀ q ∈ exC, va_Nw (.castable q.1 q.2) U) ∧ (∀ q ∈ exD, va_Nw (.declares q) U) ∧ vx_Zq Bundle.tN "UNASSIGNED_STACK" Bundle.steD A U H ∧ vx_Zq Bundle.tN "SUPPRESSED_SENTINEL" Bundle.listD A U H ∧ (∃ sa, vk_R RX6 163 "no call is under way" sa U) ∧ (∃ sa, vk_R RX6 173 "no such octet" sa U) ∧ ∃ sa, vk_R RX6 178 "by 0" sa U
theorem EX.warm {A : Nat → Prop} {s U : State} {H H1 : Heap} (hW : s.WarmedH U.vm) (hq : ∀ a : Nat, a < H.size → ¬ A a → H1[a]? = H[a]?) (h : EX A s H) : EX A U H1 :=
  ⟨fun q hq => va_Nw.warmC hW (h.1 q hq), fun q hq => va_Nw.warmD hW (h.2.1 q hq), (h.2.2.1.kept hq).moved hW.alike, (h.2.2.2.1.kept hq).moved hW.alike, h.2.2.2.2.1.imp fun _ k => k.warm hW, h.2.2.2.2.2.1.imp fun _ k => k.warm hW, h.2.2.2.2.2.2.imp fun _ k => k.warm hW⟩
theorem EX.same {A : Nat → Prop} {u U : State} {H : Heap} (hv : u.vm = U.vm) (h : EX A u H) : EX A U H :=
  ⟨fun q hq => va_Nw.same rfl hv (h.1 q hq), fun q hq => va_Nw.same rfl hv (h.2.1 q hq), h.2.2.1.moved (hv ▸ Vm.Alike.refl u.vm), h.2.2.2.1.moved (hv ▸ Vm.Alike.refl u.vm), h.2.2.2.2.1.imp fun _ k => k.same hv.symm, h.2.2.2.2.2.1.imp fun _ k => k.same hv.symm, h.2.2.2.2.2.2.imp fun _ k => k.same hv.symm⟩
/-- what of the class never changes, at the state U: classes, links, statics, and that all new cells are its own -/
def CK (D : va_G) (cy : Nat → ClassId) (A : Nat → Prop) (en : Nat → Nat) (tI tS : Nat) (U : State) (H : Heap) : Prop := va_K D vwCl (ztys cy) U ∧ NW U ∧ ST A en tI tS U H ∧ (∀ q : Nat, H.size ≤ q → A q) ∧ EX A U H
theorem CK.on {D : va_G} {cy : Nat → ClassId} {A : Nat → Prop} {en : Nat → Nat} {tI tS : Nat} {s U : State} {H H1 : Heap} {locs : List Loc} (h : CK D cy A en tI tS s H) (hS : va_S A H H1 locs) (hW : s.WarmedH U.vm) : CK D cy A en tI tS U H1 :=
  ⟨va_K.moved hW.alike h.1, h.2.1.warm hW, (h.2.2.1.kept hS.2.1).moved hW.alike, fun q hq => h.2.2.2.1 q (Nat.le_trans hS.1 hq), h.2.2.2.2.warm hW hS.2.1⟩
/-- the class stands in the state U as σ says -/
def CWs (D : va_G) (cy : Nat → ClassId) (A : Nat → Prop) (ad : Nat × Nat → Nat) (en : Nat → Nat) (tI tS : Nat) (σ : CS) (U : State) : Prop := zw D A ad (cG cy ad σ) U.heap ∧ CK D cy A en tI tS U U.heap
def CWp (D : va_G) (cy : Nat → ClassId) (A : Nat → Prop) (ad : Nat × Nat → Nat) (σ : CS) (t : State) : Prop := zw D A ad (cG cy ad σ) t.heap
theorem zcat (o : Option Nat) : (va_rf o).category = 1 := by cases o <;> rfl
section CRW
variable {p : Program} {l : Launch} {e : Env} {R : Room} {s : State} {m : MethodId} {args : Array Value} {below : List Frame} {meth : Method} {c : Code} {H : Heap} {locs : List Loc} {cells slots : Nat} {Q : State → Prop}
variable {cc : ByteArray} {nL pc : Nat} {ls : Array Slot} {rest : List Value} {D : va_G} {A : Nat → Prop} {cy : Nat → ClassId} {H0 : Heap} {Ts : List Cond} {ad : Nat × Nat → Nat} {σ : CS} {own : String} {en : Nat → Nat} {tI tS : Nat}
/-! references that may be null -/
theorem zr_aload_n (hx : p.tables.exec = Jvm.exec) (hb : c.code = cc) {k : Fin 4} {i : Nat} {o : Option Nat} (hdg : decode cc pc = .ok (.aload_n k, 1)) (hi : (k : Nat) = i) (hl : ls[i]? = some (.val (va_rf o))) (kk : W p l e R s m args below meth c H locs cells slots Q (F0 m (pc + 1) ls (va_rf o :: rest))) : W p l e R s m args below meth c H locs cells slots Q (F0 m pc ls rest) := by
  cases o with
  | none => exact lv_aload_nN hx hb hdg hi hl kk
  | some a => exact lv_aload_n hx hb hdg hi hl kk
theorem zr_aload (hx : p.tables.exec = Jvm.exec) (hb : c.code = cc) {i : Nat} {o : Option Nat} (hdg : decode cc pc = .ok (.aload i, 2)) (hl : ls[i]? = some (.val (va_rf o))) (kk : W p l e R s m args below meth c H locs cells slots Q (F0 m (pc + 2) ls (va_rf o :: rest))) : W p l e R s m args below meth c H locs cells slots Q (F0 m pc ls rest) := by
  cases o with
  | none => exact lv_aloadN hx hb hdg hl kk
  | some a => exact lv_aload hx hb hdg hl kk
theorem zr_astore_n (hx : p.tables.exec = Jvm.exec) (hb : c.code = cc) {k : Fin 4} {i nL : Nat} {o : Option Nat} {lv lv' : List (Nat × Value)} (hdg : decode cc pc = .ok (.astore_n k, 1)) (hi : (k : Nat) = i) (h : lv_has ls nL lv) (hn : i < nL) (hl : (i, va_rf o) :: lv.filter (fun q => !(q.1 == i) && !(q.1 + 1 == i && q.2.category == 2)) = lv') (kk : ∀ ls' : Array Slot, lv_has ls' nL lv' → W p l e R s m args below meth c H locs cells slots Q (F0 m (pc + 1) ls' rest)) : W p l e R s m args below meth c H locs cells slots Q (F0 m pc ls (va_rf o :: rest)) := by
  cases o with
  | none => exact lv_astore_nN hx hb hdg hi h hn hl kk
  | some a => exact lv_astore_n hx hb hdg hi h hn hl kk
theorem zr_astore (hx : p.tables.exec = Jvm.exec) (hb : c.code = cc) {i nL : Nat} {o : Option Nat} {lv lv' : List (Nat × Value)} (hdg : decode cc pc = .ok (.astore i, 2)) (h : lv_has ls nL lv) (hn : i < nL) (hl : (i, va_rf o) :: lv.filter (fun q => !(q.1 == i) && !(q.1 + 1 == i && q.2.category == 2)) = lv') (kk : ∀ ls' : Array Slot, lv_has ls' nL lv' → W p l e R s m args below meth c H locs cells slots Q (F0 m (pc + 2) ls' rest)) : W p l e R s m args below meth c H locs cells slots Q (F0 m pc ls (va_rf o :: rest)) := by
  cases o with
  | none => exact lv_astoreN hx hb hdg h hn hl kk
  | some a => exact lv_astore hx hb hdg h hn hl kk
theorem zr_ifnull (hx : p.tables.exec = Jvm.exec) (hb : c.code = cc) {kd : Nat} {o : Option Nat} {off : Int} {tgt : Nat} (hdg : decode cc pc = .ok (.ifnull off, 3)) (ht : (pc : Int) + off = (tgt : Int)) (kn : o = none → W p l e R s m args below meth c H locs cells slots Q (F0 m tgt ls rest)) (ks : ∀ i, o = some i → W p l e R s m args below meth c H locs cells slots Q (F0 m (pc + 3) ls rest)) : W p l e R s m args below meth c H locs cells slots Q (F0 m pc ls (rn ad kd o :: rest)) := by
  cases o with
  | none => exact lv_ifnullN hx hb hdg ht (kn rfl)
  | some a => exact lv_ifnull hx hb hdg (ks a rfl)
theorem zr_ifnonnull (hx : p.tables.exec = Jvm.exec) (hb : c.code = cc) {kd : Nat} {o : Option Nat} {off : Int} {tgt : Nat} (hdg : decode cc pc = .ok (.ifnonnull off, 3)) (ht : (pc : Int) + off = (tgt : Int)) (ks : ∀ i, o = some i → W p l e R s m args below meth c H locs cells slots Q (F0 m tgt ls rest)) (kn : o = none → W p l e R s m args below meth c H locs cells slots Q (F0 m (pc + 3) ls rest)) : W p l e R s m args below meth c H locs cells slots Q (F0 m pc ls (rn ad kd o :: rest)) := by
  cases o with
  | none => exact lv_ifnonnullN hx hb hdg (kn rfl)
  | some a => exact lv_ifnonnull hx hb hdg ht (ks a rfl)
/-! fields -/
theorem zr_getN {ι : Type} {ad : ι → Nat} {G : ι → Option va_E} {tys : List (ClassId × FieldType)} (S : CallFix p m c cc nL s args Ts own) {C ref host : String} {T : u_T} {N ci index : Nat} (hin : ∀ w ∈ u_ws C T N, w ∈ Ts) (hK : va_K D vwCl tys s) (hw : zw D A ad G H) {g : ι} {fs : List Value} (he : G g = some (.inr (ci, fs))) (hc : vwCl[ci]? = some (C, T, N)) (k : Nat) (hk : k < N) (hlink : va_Nw (.fieldLinkNest own index ref (T k).2.1 (T k).2.2.1 host) s) (hsame : ∀ x, s.fieldFound? (T k).1 (T k).2.1 (T k).2.2.1 = some x → s.fieldFound? ref (T k).2.1 (T k).2.2.1 = some x) {v : Value} (hv : fs[k]? = some v) (hdg : decode cc pc = .ok (.getfield index, 3))
    (kk : W p l e R s m args below meth c H locs cells slots Q (F0 m (pc + 3) ls (v :: rest))) : W p l e R s m args below meth c H locs cells slots Q (F0 m pc ls (.ref (ad g) :: rest)) := by
  obtain ⟨hx, hb, hml, hown, hts⟩ := S
  exact va_getN (D := D) (cl := vwCl) (ws := [(ad g, .inr (ci, fs))]) hx hb hts hin hown hK (fun j q hj => by
    match j, hj with
    | 0, hj => cases hj; exact zw_at hw he
    | j + 1, hj => simp at hj) 0 rfl hc k hk (va_Nw.use rfl hlink) hsame hv hdg kk
theorem zr_putN {ι : Type} {ad : ι → Nat} {G : ι → Option va_E} {tys : List (ClassId × FieldType)} (S : CallFix p m c cc nL s args Ts own) {C ref host : String} {T : u_T} {N ci index : Nat} (hin : ∀ w ∈ u_ws C T N, w ∈ Ts) (ty0 : Nat → FieldType) (hty : ∀ k, k < N → parseFieldDescriptor (T k).2.2.1 = some (ty0 k)) (hnm : ∀ a, a < N → ∀ b, b < N → a ≠ b → (T a).2.1 ≠ (T b).2.1) (hK : va_K D vwCl tys s) (hw : zw D A ad G H) (hS0 : va_S A H0 H locs) {g : ι} {fs : List Value} (he : G g = some (.inr (ci, fs))) (hc : vwCl[ci]? = some (C, T, N)) (k : Nat) (hk : k < N) (hlink : va_Nw (.fieldLinkNest own index ref (T k).2.1 (T k).2.2.1 host) s) (hsame : ∀ x, s.fieldFound? (T k).1 (T k).2.1 (T k).2.2.1 = some x → s.fieldFound? ref (T k).2.1 (T k).2.2.1 = some x) (hfin : (T k).2.2.2 = false) {ty : FieldType} {v : Value} (hd : parseFieldDescriptor (T k).2.2.1 = some ty) (hn : narrow ty v = v) (hfit : fits ty v = true) (hl : k < fs.length) (hdg : decode cc pc = .ok (.putfield index, 3))
    {G1 : ι → Option va_E} (h1 : G1 g = some (.inr (ci, fs.set k v))) (h2 : ∀ g', g' ≠ g → G1 g' = G g')
    (kk : ∀ (H1 : Heap) (locs1 : List Loc), zw D A ad G1 H1 → va_S A H0 H1 locs1 → W p l e R s m args below meth c H1 locs1 cells slots Q (F0 m (pc + 3) ls rest)) : W p l e R s m args below meth c H locs cells slots Q (F0 m pc ls (v :: .ref (ad g) :: rest)) := by
  obtain ⟨hx, hb, hml, hown, hts⟩ := S
  obtain ⟨⟨L, F, hP, hD, hG⟩, hi⟩ := hw
  obtain ⟨hL, hF⟩ := hG g _ he
  obtain ⟨k0, hk0⟩ := va_pl_get (X := []) (f := F) hL
  have hk1 : (va_pl L F)[k0]? = some (ad g, .inr (ci, fs)) := by rw [← hF]; exact hk0
  exact va_putN (D := D) (cl := vwCl) hx hb hts hin ty0 hty hnm hown hK hP hD hS0 k0 hk1 hc k hk (va_Nw.use rfl hlink) hsame hfin hd hn hfit hl hdg fun H1 locs1 hP1 hD1 hS1 => kk H1 locs1 (zw_set hG hi he hD hk0 hP1 hD1 h1 h2) hS1
theorem cr_get (S : CallFix p m c cc nL s args Ts own) (hK : va_K D vwCl (ztys cy) s) (hw : zw D A ad (cG cy ad σ) H) (kd i : Nat) (hv : cv σ kd i = true) {C ref : String} {T : u_T} {N ci index : Nat} (hin : ∀ w ∈ u_ws C T N, w ∈ Ts) {fs : List Value} (he : cE cy ad σ kd i = some (.inr (ci, fs))) (hc : vwCl[ci]? = some (C, T, N)) (k : Nat) (hk : k < N) (hlink : Cond.fieldLink own index ref (T k).2.1 (T k).2.2.1 ∈ Ts) (hd : (T k).1 = ref) {v : Value} (hfv : fs[k]? = some v) (hdg : decode cc pc = .ok (.getfield index, 3))
    (kk : W p l e R s m args below meth c H locs cells slots Q (F0 m (pc + 3) ls (v :: rest))) : W p l e R s m args below meth c H locs cells slots Q (F0 m pc ls (.ref (ad (kd, i)) :: rest)) :=
  zr_get (g := (kd, i)) S hin hK hw ((cG_at hv).trans he) hc k hk hlink (fun x h => by rw [hd] at h; exact h) hfv hdg kk
theorem cr_getN (S : CallFix p m c cc nL s args Ts own) (hK : va_K D vwCl (ztys cy) s) (hw : zw D A ad (cG cy ad σ) H) (kd i : Nat) (hv : cv σ kd i = true) {C ref : String} {T : u_T} {N ci index : Nat} (hin : ∀ w ∈ u_ws C T N, w ∈ Ts) {fs : List Value} (he : cE cy ad σ kd i = some (.inr (ci, fs))) (hc : vwCl[ci]? = some (C, T, N)) (k : Nat) (hk : k < N) (hN : NW s) (hq : (own, index, ref, (T k).2.1, (T k).2.2.1) ∈ nF) (hd : (T k).1 = ref) {v : Value} (hfv : fs[k]? = some v) (hdg : decode cc pc = .ok (.getfield index, 3))
    (kk : W p l e R s m args below meth c H locs cells slots Q (F0 m (pc + 3) ls (v :: rest))) : W p l e R s m args below meth c H locs cells slots Q (F0 m pc ls (.ref (ad (kd, i)) :: rest)) :=
  zr_getN (g := (kd, i)) S hin hK hw ((cG_at hv).trans he) hc k hk (hN.1 _ hq) (fun x h => by rw [hd] at h; exact h) hfv hdg kk
theorem cr_put (S : CallFix p m c cc nL s args Ts own) (hK : va_K D vwCl (ztys cy) s) (hw : zw D A ad (cG cy ad σ) H) (hS : va_S A H0 H locs) (kd i : Nat) (hv : cv σ kd i = true) {C ref : String} {T : u_T} {N ci index : Nat} (hin : ∀ w ∈ u_ws C T N, w ∈ Ts) (ty0 : Nat → FieldType) (hty : ∀ k, k < N → parseFieldDescriptor (T k).2.2.1 = some (ty0 k)) (hnm : ∀ a, a < N → ∀ b, b < N → a ≠ b → (T a).2.1 ≠ (T b).2.1) {fs : List Value} (he : cE cy ad σ kd i = some (.inr (ci, fs))) (hc : vwCl[ci]? = some (C, T, N)) (k : Nat) (hk : k < N) (hlink : Cond.fieldLink own index ref (T k).2.1 (T k).2.2.1 ∈ Ts) (hd : (T k).1 = ref) (hfin : (T k).2.2.2 = false) {v : Value} (hn : narrow (ty0 k) v = v) (hfit : fits (ty0 k) v = true) (hlen : k < fs.length) (hdg : decode cc pc = .ok (.putfield index, 3))
    {σ1 : CS} (hv1 : cv σ1 = cv σ) (hp : cE cy ad σ1 kd i = some (.inr (ci, fs.set k v))) (ho : ∀ k' i', ¬ (k' = kd ∧ i' = i) → cE cy ad σ1 k' i' = cE cy ad σ k' i')
    (kk : ∀ (H1 : Heap) (locs1 : List Loc), zw D A ad (cG cy ad σ1) H1 → va_S A H0 H1 locs1 → W p l e R s m args below meth c H1 locs1 cells slots Q (F0 m (pc + 3) ls rest)) : W p l e R s m args below meth c H locs cells slots Q (F0 m pc ls (v :: .ref (ad (kd, i)) :: rest)) :=
  zr_put (g := (kd, i)) S hin ty0 hty hnm hK hw hS ((cG_at hv).trans he) hc k hk hlink (fun x h => by rw [hd] at h; exact h) hfin (hty k hk) hn hfit hlen hdg ((cG_at (by rw [hv1]; exact hv)).trans hp) (cG_ne hv1 ho) kk
theorem cr_putN (S : CallFix p m c cc nL s args Ts own) (hK : va_K D vwCl (ztys cy) s) (hw : zw D A ad (cG cy ad σ) H) (hS : va_S A H0 H locs) (kd i : Nat) (hv : cv σ kd i = true) {C ref : String} {T : u_T} {N ci index : Nat} (hin : ∀ w ∈ u_ws C T N, w ∈ Ts) (ty0 : Nat → FieldType) (hty : ∀ k, k < N → parseFieldDescriptor (T k).2.2.1 = some (ty0 k)) (hnm : ∀ a, a < N → ∀ b, b < N → a ≠ b → (T a).2.1 ≠ (T b).2.1) {fs : List Value} (he : cE cy ad σ kd i = some (.inr (ci, fs))) (hc : vwCl[ci]? = some (C, T, N)) (k : Nat) (hk : k < N) (hN : NW s) (hq : (own, index, ref, (T k).2.1, (T k).2.2.1) ∈ nF) (hd : (T k).1 = ref) (hfin : (T k).2.2.2 = false) {v : Value} (hn : narrow (ty0 k) v = v) (hfit : fits (ty0 k) v = true) (hlen : k < fs.length) (hdg : decode cc pc = .ok (.putfield index, 3))
    {σ1 : CS} (hv1 : cv σ1 = cv σ) (hp : cE cy ad σ1 kd i = some (.inr (ci, fs.set k v))) (ho : ∀ k' i', ¬ (k' = kd ∧ i' = i) → cE cy ad σ1 k' i' = cE cy ad σ k' i')
    (kk : ∀ (H1 : Heap) (locs1 : List Loc), zw D A ad (cG cy ad σ1) H1 → va_S A H0 H1 locs1 → W p l e R s m args below meth c H1 locs1 cells slots Q (F0 m (pc + 3) ls rest)) : W p l e R s m args below meth c H locs cells slots Q (F0 m pc ls (v :: .ref (ad (kd, i)) :: rest)) :=
  zr_putN (g := (kd, i)) S hin ty0 hty hnm hK hw hS ((cG_at hv).trans he) hc k hk (hN.1 _ hq) (fun x h => by rw [hd] at h; exact h) hfin (hty k hk) hn hfit hlen hdg ((cG_at (by rw [hv1]; exact hv)).trans hp) (cG_ne hv1 ho) kk
/-! arrays -/
theorem cr_lald (S : CallFix p m c cc nL s args Ts own) (hK : va_K D vwCl (ztys cy) s) (hw : zw D A ad (cG cy ad σ) H) (a : Nat) (hv : cv σ 8 a = true) {i : Int32} (hin : vp_in i (jl a)) (hdg : decode cc pc = .ok (.laload, 1)) (kk : W p l e R s m args below meth c H locs cells slots Q (F0 m (pc + 1) ls (.long (cj σ a i.toNatClampNeg) :: rest))) : W p l e R s m args below meth c H locs cells slots Q (F0 m pc ls (.int i :: .ref (ad (8, a)) :: rest)) :=
  zr_lald (g := (8, a)) S hK hw 2 (cG_at hv) rfl hin hdg kk
theorem cr_last (S : CallFix p m c cc nL s args Ts own) (hK : va_K D vwCl (ztys cy) s) (hw : zw D A ad (cG cy ad σ) H) (hS : va_S A H0 H locs) (a : Nat) (hv : cv σ 8 a = true) {i : Int32} {x : Int64} (hin : vp_in i (jl a)) (hdg : decode cc pc = .ok (.lastore, 1)) (kk : ∀ (H1 : Heap) (locs1 : List Loc), zw D A ad (cG cy ad (cJ σ a i.toNatClampNeg x)) H1 → va_S A H0 H1 locs1 → W p l e R s m args below meth c H1 locs1 cells slots Q (F0 m (pc + 1) ls rest)) : W p l e R s m args below meth c H locs cells slots Q (F0 m pc ls (.long x :: .int i :: .ref (ad (8, a)) :: rest)) :=
  zr_last (g := (8, a)) (G1 := cG cy ad (cJ σ a i.toNatClampNeg x)) S hK hw hS 2 (cG_at hv) rfl hin hdg ((cG_at (σ := cJ σ a i.toNatClampNeg x) hv).trans (by simp [cE, cj_J])) (cG_ne rfl (coutJ cy ad σ a _ _)) kk
theorem cr_bald (S : CallFix p m c cc nL s args Ts own) (hK : va_K D vwCl (ztys cy) s) (hw : zw D A ad (cG cy ad σ) H) (a : Nat) (hv : cv σ 9 a = true) {i : Int32} (hin : vp_in i (cbl σ a)) (hdg : decode cc pc = .ok (.baload, 1)) (kk : W p l e R s m args below meth c H locs cells slots Q (F0 m (pc + 1) ls (.int (cb σ a i.toNatClampNeg) :: rest))) : W p l e R s m args below meth c H locs cells slots Q (F0 m pc ls (.int i :: .ref (ad (9, a)) :: rest)) :=
  zr_bald (g := (9, a)) S hK hw 0 (cG_at hv) rfl hin hdg kk
theorem cr_bast (S : CallFix p m c cc nL s args Ts own) (hK : va_K D vwCl (ztys cy) s) (hw : zw D A ad (cG cy ad σ) H) (hS : va_S A H0 H locs) (a : Nat) (hv : cv σ 9 a = true) {i x : Int32} (hin : vp_in i (cbl σ a)) (hdg : decode cc pc = .ok (.bastore, 1)) (kk : ∀ (H1 : Heap) (locs1 : List Loc), zw D A ad (cG cy ad (cB σ a i.toNatClampNeg (vp_nar .byte x))) H1 → va_S A H0 H1 locs1 → W p l e R s m args below meth c H1 locs1 cells slots Q (F0 m (pc + 1) ls rest)) : W p l e R s m args below meth c H locs cells slots Q (F0 m pc ls (.int x :: .int i :: .ref (ad (9, a)) :: rest)) :=
  zr_bast (g := (9, a)) (G1 := cG cy ad (cB σ a i.toNatClampNeg (vp_nar .byte x))) S hK hw hS 0 (cG_at hv) rfl hin hdg ((cG_at (σ := cB σ a i.toNatClampNeg (vp_nar .byte x)) hv).trans (by simp [cE, cb_B, cbl_B])) (cG_ne rfl (coutB cy ad σ a _ _)) kk
theorem cr_alen (S : CallFix p m c cc nL s args Ts own) (hK : va_K D vwCl (ztys cy) s) (hw : zw D A ad (cG cy ad σ) H) (kd a t : Nat) (hv : cv σ kd a = true) {cA : ClassId} {x : vp_A} {ty : FieldType} (he : cE cy ad σ kd a = some (.inl (cA, x))) (ht : (ztys cy)[t]? = some (cA, ty)) {v : Int32} (hx : Int32.ofNat x.1 = v) (hdg : decode cc pc = .ok (.arraylength, 1)) (kk : W p l e R s m args below meth c H locs cells slots Q (F0 m (pc + 1) ls (.int v :: rest))) : W p l e R s m args below meth c H locs cells slots Q (F0 m pc ls (.ref (ad (kd, a)) :: rest)) :=
  zr_alen (g := (kd, a)) S hK hw t ((cG_at hv).trans he) ht hx hdg kk
theorem cr_aald (S : CallFix p m c cc nL s args Ts own) (hK : va_K D vwCl (ztys cy) s) (hw : zw D A ad (cG cy ad σ) H) (kd a t : Nat) (hv : cv σ kd a = true) {cA : ClassId} {C : String} {n : Nat} {f : Nat → Option Nat} (he : cE cy ad σ kd a = some (.inl (cA, n, .inr (.inr (.inr (.inr f)))))) (ht : (ztys cy)[t]? = some (cA, .object C)) {i : Int32} (hin : vp_in i n) {v : Value} (hfv : va_rf (f i.toNatClampNeg) = v) (hdg : decode cc pc = .ok (.aaload, 1)) (kk : W p l e R s m args below meth c H locs cells slots Q (F0 m (pc + 1) ls (v :: rest))) : W p l e R s m args below meth c H locs cells slots Q (F0 m pc ls (.int i :: .ref (ad (kd, a)) :: rest)) :=
  zr_aald (g := (kd, a)) S hK hw t ((cG_at hv).trans he) ht hin hdg (by rw [hfv]; exact kk)
/-! the constants and their tables -/
theorem cr_getE (S : CallFix p m c cc nL s args Ts own) (hC : CK D cy A en tI tS s s.heap) (hS : va_S A s.heap H locs) (i : Nat) (hi : i < 19) {q : String × String × String × List Int32} (hq : q ∈ zFl) {ref : String} {index : Nat} (hn : (own, index, ref, q.2.1, q.2.2.1) ∈ nF) (hd : q.1 = ref) (hdg : decode cc pc = .ok (.getfield index, 3)) (kk : W p l e R s m args below meth c H locs cells slots Q (F0 m (pc + 3) ls (.int (q.2.2.2.getD i 0) :: rest))) : W p l e R s m args below meth c H locs cells slots Q (F0 m pc ls (.ref (en i) :: rest)) := by
  obtain ⟨cf, k, fi, f, cell, h1, h2, h3, h4, h5, h6⟩ := ((hC.2.2.1.1.1 i hi).2.2 q hq).kept hS.2.1
  subst hd
  exact va_Wgetf S.1 S.2.1 S.2.2.2.1 (va_Nw.use rfl (hC.2.1.1 _ hn)) h1 h2 h3 h4 (v := .int (q.2.2.2.getD i 0)) h5 rfl rfl hdg kk
theorem cr_getI (S : CallFix p m c cc nL s args Ts own) (hC : CK D cy A en tI tS s s.heap) (hS : va_S A s.heap H locs) {index : Nat} (hn : (own, index, "RunClasses", "INSTRUCTIONS", "[LRunClasses$Instruction;") ∈ nF) (hdg : decode cc pc = .ok (.getstatic index, 3)) (kk : W p l e R s m args below meth c H locs cells slots Q (F0 m (pc + 3) ls (.ref tI :: rest))) : W p l e R s m args below meth c H locs cells slots Q (F0 m pc ls rest) :=
  va_getsN S.1 S.2.1 hC.2.2.1.2.1 hS S.2.2.2.1 (va_Nw.use rfl (hC.2.1.1 _ hn)) (fun _ h => h) hdg kk
theorem cr_getS (S : CallFix p m c cc nL s args Ts own) (hC : CK D cy A en tI tS s s.heap) (hS : va_S A s.heap H locs) {index : Nat} (hn : Cond.fieldLink own index "RunClasses$1" "$SwitchMap$RunClasses$Instruction" "[I" ∈ Ts) (hdg : decode cc pc = .ok (.getstatic index, 3)) (kk : W p l e R s m args below meth c H locs cells slots Q (F0 m (pc + 3) ls (.ref tS :: rest))) : W p l e R s m args below meth c H locs cells slots Q (F0 m pc ls rest) :=
  va_gets S.1 S.2.1 hC.2.2.1.2.2.2.1 hS S.2.2.2.1 (S.2.2.2.2 _ hn) (fun _ h => h) hdg kk
theorem cr_getC (S : CallFix p m c cc nL s args Ts own) (hC : CK D cy A en tI tS s s.heap) (hS : va_S A s.heap H locs) (i : Nat) (hi : i < 19) {index : Nat} {n : String} (hnm : zNm.getD i "" = n) (hn : Cond.fieldLink own index zIE n zID ∈ Ts) (hdg : decode cc pc = .ok (.getstatic index, 3)) (kk : W p l e R s m args below meth c H locs cells slots Q (F0 m (pc + 3) ls (.ref (en i) :: rest))) : W p l e R s m args below meth c H locs cells slots Q (F0 m pc ls rest) := by
  subst hnm
  exact va_gets S.1 S.2.1 (hC.2.2.1.1.1 i hi).1 hS S.2.2.2.1 (S.2.2.2.2 _ hn) (fun _ h => h) hdg kk
theorem cr_tI (S : CallFix p m c cc nL s args Ts own) (hC : CK D cy A en tI tS s s.heap) (hS : va_S A s.heap H locs) {i : Int32} (hin : vp_in i 19) (hdg : decode cc pc = .ok (.aaload, 1)) (kk : W p l e R s m args below meth c H locs cells slots Q (F0 m (pc + 1) ls (.ref (en i.toNatClampNeg) :: rest))) : W p l e R s m args below meth c H locs cells slots Q (F0 m pc ls (.int i :: .ref tI :: rest)) :=
  vb_tq S.1 S.2.1 hC.2.2.1.2.2.1 hS hin rfl hdg kk
theorem cr_tIlen (S : CallFix p m c cc nL s args Ts own) (hC : CK D cy A en tI tS s s.heap) (hS : va_S A s.heap H locs) (hdg : decode cc pc = .ok (.arraylength, 1)) (kk : W p l e R s m args below meth c H locs cells slots Q (F0 m (pc + 1) ls (.int 19 :: rest))) : W p l e R s m args below meth c H locs cells slots Q (F0 m pc ls (.ref tI :: rest)) :=
  va_tlen S.1 S.2.1 hC.2.2.1.2.2.1 hS (v := 19) (by decide) hdg kk
theorem cr_tS (S : CallFix p m c cc nL s args Ts own) (hC : CK D cy A en tI tS s s.heap) (hS : va_S A s.heap H locs) {i : Int32} (hin : vp_in i 19) (hdg : decode cc pc = .ok (.iaload, 1)) (kk : W p l e R s m args below meth c H locs cells slots Q (F0 m (pc + 1) ls (.int (zSw.getD i.toNatClampNeg 0) :: rest))) : W p l e R s m args below meth c H locs cells slots Q (F0 m pc ls (.int i :: .ref tS :: rest)) :=
  va_ti S.1 S.2.1 hC.2.2.1.2.2.2.2 hS hin rfl hdg kk
theorem cr_acmp_eq (S : CallFix p m c cc nL s args Ts own) (hC : CK D cy A en tI tS s s.heap) {i j : Nat} (hi : i < 19) (hj : j < 19) {off : Int} {tgt : Nat} (hdg : decode cc pc = .ok (.if_acmp .eq off, 3)) (ht : (pc : Int) + off = (tgt : Int)) (kt : i = j → W p l e R s m args below meth c H locs cells slots Q (F0 m tgt ls rest)) (kf : ¬ i = j → W p l e R s m args below meth c H locs cells slots Q (F0 m (pc + 3) ls rest)) : W p l e R s m args below meth c H locs cells slots Q (F0 m pc ls (.ref (en j) :: .ref (en i) :: rest)) :=
  lv_acmp_eq (rx := some (en i)) (ry := some (en j)) S.1 S.2.1 hdg ht (fun h => kt (hC.2.2.1.1.2 i j hi hj (Option.some.inj h))) (fun h => kf (fun q => h (by rw [q])))
theorem cr_acmp_ne (S : CallFix p m c cc nL s args Ts own) (hC : CK D cy A en tI tS s s.heap) {i j : Nat} (hi : i < 19) (hj : j < 19) {off : Int} {tgt : Nat} (hdg : decode cc pc = .ok (.if_acmp .ne off, 3)) (ht : (pc : Int) + off = (tgt : Int)) (kt : ¬ i = j → W p l e R s m args below meth c H locs cells slots Q (F0 m tgt ls rest)) (kf : i = j → W p l e R s m args below meth c H locs cells slots Q (F0 m (pc + 3) ls rest)) : W p l e R s m args below meth c H locs cells slots Q (F0 m pc ls (.ref (en j) :: .ref (en i) :: rest)) :=
  lv_acmp_ne (rx := some (en i)) (ry := some (en j)) S.1 S.2.1 hdg ht (fun h => kt (fun q => h (by rw [q]))) (fun h => kf (hC.2.2.1.1.2 i j hi hj (Option.some.inj h)))
/-! calls -/
theorem cw_blind (av : List Value) : FrameBlind (va_Pc av (CWs D cy A ad en tI tS σ)) := fun a U g mk q => by
  obtain ⟨q0, qP, qK, qN, qS, qA, qX⟩ := q
  exact ⟨q0, qP, va_K.moved (u := U) (U := U.calling g mk a) (Vm.Alike.refl U.vm) qK, qN.same rfl, qS.moved (Vm.Alike.refl U.vm), qA, qX.same rfl⟩
theorem cw_pre (hC : CK D cy A en tI tS s s.heap) (hw : zw D A ad (cG cy ad σ) H) (hS : va_S A s.heap H locs) (av : List Value) : ∀ U : State, U.heap = H → s.WarmedH U.vm → va_Pc av (CWs D cy A ad en tI tS σ) av.toArray U := fun U hU hW => ⟨rfl, by rw [hU]; exact hw, by rw [hU]; exact hC.on hS hW⟩
variable {st : List Value} {a : Array Value} {σ' : CS}
theorem cw_fi {r : Int32} (hr : va_Run p l e R s m args below meth c H locs cells slots 0 0 (F0 m pc ls st) rest (va_Qi (fun (r' : Int32) (u : CS) => r' = r ∧ u = σ') (CWp D cy A ad) A a) A) (hS : va_S A H0 H locs) (kk : ∀ (H1 : Heap) (locs1 : List Loc), zw D A ad (cG cy ad σ') H1 → va_S A H0 H1 locs1 → W p l e R s m args below meth c H1 locs1 cells slots Q (F0 m (pc + 3) ls (.int r :: rest))) : W p l e R s m args below meth c H locs cells slots Q (F0 m pc ls st) := by
  refine va_calli hr hS (fun q _ h => h) (fun q h => h) (fun r1 u t H1 locs1 ht hvm hq hB hz1 hk1 hS1 => ?_)
  obtain ⟨rfl, rfl⟩ := hq
  subst ht
  exact kk _ _ hB hS1
theorem cw_fl {r : Int64} (hr : va_Run p l e R s m args below meth c H locs cells slots 0 0 (F0 m pc ls st) rest (va_Ql (fun (r' : Int64) (u : CS) => r' = r ∧ u = σ') (CWp D cy A ad) A a) A) (hS : va_S A H0 H locs) (kk : ∀ (H1 : Heap) (locs1 : List Loc), zw D A ad (cG cy ad σ') H1 → va_S A H0 H1 locs1 → W p l e R s m args below meth c H1 locs1 cells slots Q (F0 m (pc + 3) ls (.long r :: rest))) : W p l e R s m args below meth c H locs cells slots Q (F0 m pc ls st) := by
  refine va_calll hr hS (fun q _ h => h) (fun q h => h) (fun r1 u t H1 locs1 ht hvm hq hB hz1 hk1 hS1 => ?_)
  obtain ⟨rfl, rfl⟩ := hq
  subst ht
  exact kk _ _ hB hS1
theorem cw_fv (hr : va_Run p l e R s m args below meth c H locs cells slots 0 0 (F0 m pc ls st) rest (va_Qv (fun (u : CS) => u = σ') (CWp D cy A ad) A a) A) (hS : va_S A H0 H locs) (kk : ∀ (H1 : Heap) (locs1 : List Loc), zw D A ad (cG cy ad σ') H1 → va_S A H0 H1 locs1 → W p l e R s m args below meth c H1 locs1 cells slots Q (F0 m (pc + 3) ls rest)) : W p l e R s m args below meth c H locs cells slots Q (F0 m pc ls st) := by
  refine va_callv hr hS (fun q _ h => h) (fun q h => h) (fun u t H1 locs1 ht hvm hq hB hz1 hk1 hS1 => ?_)
  subst hq
  subst ht
  exact kk _ _ hB hS1
theorem cw_fq {kd : Nat} {r : Option Nat} (hr : va_Run p l e R s m args below meth c H locs cells slots 0 0 (F0 m pc ls st) rest (va_Qq (fun (r' : Option Nat) (u : CS) => r' = r.map (fun i => ad (kd, i)) ∧ u = σ') (CWp D cy A ad) A a) A) (hS : va_S A H0 H locs) (kk : ∀ (H1 : Heap) (locs1 : List Loc), zw D A ad (cG cy ad σ') H1 → va_S A H0 H1 locs1 → W p l e R s m args below meth c H1 locs1 cells slots Q (F0 m (pc + 3) ls (rn ad kd r :: rest))) : W p l e R s m args below meth c H locs cells slots Q (F0 m pc ls st) := by
  refine va_callq hr hS (fun q _ h => h) (fun q h => h) (fun r1 u t H1 locs1 ht hvm hq hB hz1 hk1 hS1 => ?_)
  obtain ⟨rfl, rfl⟩ := hq
  subst ht
  exact kk _ _ hB hS1
/-! returns -/
theorem cw_reti {x r : Int32} (S : CallFix p m c cc nL s args Ts own) (hr : meth.sig.returnType = some .int) (hf : some (x, σ) = some (r, σ')) (hw : zw D A ad (cG cy ad σ) H) (hS : va_S A s.heap H locs) (hlocks : meth.locks = false) (hdg : decode cc pc = .ok (.ireturn, 1)) : W p l e R s m args below meth c H locs cells slots (MQ below (va_Qi (fun (r' : Int32) (u : CS) => r' = r ∧ u = σ') (CWp D cy A ad) A) args s cells slots A) (F0 m pc ls [.int x]) :=
  W.iret (v := x) S.1 S.2.1 hr (fun t ht hW => ⟨⟨x, σ, rfl, ⟨congrArg Prod.fst (Option.some.inj hf), congrArg Prod.snd (Option.some.inj hf)⟩, by unfold CWp; rw [ht]; exact hw⟩, hS.F ht⟩) hS.2.2 hdg hlocks
theorem cw_retz {x r : Int32} {ty : FieldType} (S : CallFix p m c cc nL s args Ts own) (hr : meth.sig.returnType = some ty) (hn : narrow ty (.int x) = .int x) (hf : some (x, σ) = some (r, σ')) (hw : zw D A ad (cG cy ad σ) H) (hS : va_S A s.heap H locs) (hlocks : meth.locks = false) (hdg : decode cc pc = .ok (.ireturn, 1)) : W p l e R s m args below meth c H locs cells slots (MQ below (va_Qi (fun (r' : Int32) (u : CS) => r' = r ∧ u = σ') (CWp D cy A ad) A) args s cells slots A) (F0 m pc ls [.int x]) :=
  W.zret (v := x) S.1 S.2.1 hr hn (fun t ht hW => ⟨⟨x, σ, rfl, ⟨congrArg Prod.fst (Option.some.inj hf), congrArg Prod.snd (Option.some.inj hf)⟩, by unfold CWp; rw [ht]; exact hw⟩, hS.F ht⟩) hS.2.2 hdg hlocks
theorem cw_retl {x r : Int64} (S : CallFix p m c cc nL s args Ts own) (hr : meth.sig.returnType = some .long) (hf : some (x, σ) = some (r, σ')) (hw : zw D A ad (cG cy ad σ) H) (hS : va_S A s.heap H locs) (hlocks : meth.locks = false) (hdg : decode cc pc = .ok (.lreturn, 1)) : W p l e R s m args below meth c H locs cells slots (MQ below (va_Ql (fun (r' : Int64) (u : CS) => r' = r ∧ u = σ') (CWp D cy A ad) A) args s cells slots A) (F0 m pc ls [.long x]) :=
  W.lret (v := x) S.1 S.2.1 hr (fun t ht hW => ⟨⟨x, σ, rfl, ⟨congrArg Prod.fst (Option.some.inj hf), congrArg Prod.snd (Option.some.inj hf)⟩, by unfold CWp; rw [ht]; exact hw⟩, hS.F ht⟩) hS.2.2 hdg hlocks
theorem cw_retv (S : CallFix p m c cc nL s args Ts own) (hr : meth.sig.returnType = none) (hf : some ((), σ) = some ((), σ')) (hw : zw D A ad (cG cy ad σ) H) (hS : va_S A s.heap H locs) (hlocks : meth.locks = false) (hdg : decode cc pc = .ok (.return_, 1)) : W p l e R s m args below meth c H locs cells slots (MQ below (va_Qv (fun (u : CS) => u = σ') (CWp D cy A ad) A) args s cells slots A) (F0 m pc ls []) :=
  W.vret S.1 S.2.1 hr (fun t ht hW => ⟨⟨σ, rfl, congrArg Prod.snd (Option.some.inj hf), by unfold CWp; rw [ht]; exact hw⟩, hS.F ht⟩) hS.2.2 hdg hlocks
theorem cw_retq {kd : Nat} {x r : Option Nat} {rt : FieldType} (S : CallFix p m c cc nL s args Ts own) (hr : meth.sig.returnType = some rt) (hrt : (∃ n, rt = .object n) ∨ ∃ t, rt = .array t) (hf : some (x, σ) = some (r, σ')) (hw : zw D A ad (cG cy ad σ) H) (hS : va_S A s.heap H locs) (hlocks : meth.locks = false) (hdg : decode cc pc = .ok (.areturn, 1)) : W p l e R s m args below meth c H locs cells slots (MQ below (va_Qq (fun (r' : Option Nat) (u : CS) => r' = r.map (fun i => ad (kd, i)) ∧ u = σ') (CWp D cy A ad) A) args s cells slots A) (F0 m pc ls [rn ad kd x]) :=
  W.aret (v := rn ad kd x) S.1 S.2.1 hr hrt (va_rf_or _) (fun t ht hW => ⟨⟨_, σ, rfl, ⟨by rw [show x = r from congrArg Prod.fst (Option.some.inj hf)], congrArg Prod.snd (Option.some.inj hf)⟩, by unfold CWp; rw [ht]; exact hw⟩, hS.F ht⟩) hS.2.2 hdg hlocks
end CRW
/-! null or not, on the pure side -/
def zo {β : Type} (o : Option Nat) (n : β) (f : Nat → β) : β := match o with
  | none => n
  | some i => f i
theorem zo_n {β : Type} {o : Option Nat} {n : β} {f : Nat → β} (h : o = none) : zo o n f = n := by subst h; rfl
theorem zo_s {β : Type} {o : Option Nat} {n : β} {f : Nat → β} {i : Nat} (h : o = some i) : zo o n f = f i := by subst h; rfl
