/-! ===== what the start gives ===== -/
theorem st_prim {s : State} {args : Array Value} {ty : FieldType} (h : (Cond.arrayClass ty).before args s = true) : ∃ cA : ClassId, ArrOfT s cA ty ∧ s.vm.findClass ("[" ++ ty.toString) = some cA := by
  obtain ⟨c, k, comp, h1, h2, h3⟩ := Cond.arrayClass_spec h
  exact ⟨c, fun N z => ⟨fun k h => (by cases h), k, h2, comp, h3⟩, h1⟩
theorem st_obj {s : State} {args : Array Value} {C : String} (h : (Cond.arrayOver (.object C)).before args s = true) : ∃ cA : ClassId, ArrOfT s cA (.object C) ∧ va_RA s cA (.object C) := by
  obtain ⟨comp, c, k, h1, h2, h3, h4, h5⟩ := Cond.arrayOver_spec h
  exact ⟨c, fun N z => ⟨fun k h => (by cases h), k, h3, comp, h4⟩, k, comp, h3, h4, h1, h5⟩
set_option maxRecDepth 100000 in
theorem st_K {s : State} {args : Array Value} (hts : ∀ w ∈ lw_tbl, w.before args s = true) : ∃ (D : va_G) (cy : Nat → ClassId), va_K D vwCl (ztys cy) s := by
  obtain ⟨c0, i0, k0⟩ := u_known (C := RJ0) (T := TJ0) (N := 2) (n := 4) hts inJ0 (hts (.instantiable RJ0 4) (by decide +kernel))
  obtain ⟨c1, i1, k1⟩ := u_known (C := RJx00060) (T := TJx00060) (N := 6) (n := 6) hts inJx00060 (hts (.instantiable RJx00060 6) (by decide +kernel))
  obtain ⟨c2, i2, k2⟩ := u_known (C := RX1) (T := TX1) (N := 9) (n := 9) hts inX1 (hts (.instantiable RX1 9) (by decide +kernel))
  obtain ⟨c3, i3, k3⟩ := u_known (C := RX2) (T := TX2) (N := 4) (n := 4) hts inX2 (hts (.instantiable RX2 4) (by decide +kernel))
  obtain ⟨c4, i4, k4⟩ := u_known (C := RX4) (T := TX4) (N := 4) (n := 4) hts inX4 (hts (.instantiable RX4 4) (by decide +kernel))
  obtain ⟨c5, i5, k5⟩ := u_known (C := RX5) (T := TX5) (N := 11) (n := 11) hts inX5 (hts (.instantiable RX5 11) (by decide +kernel))
  obtain ⟨c6, i6, k6⟩ := u_known (C := RX6) (T := TX6) (N := 8) (n := 8) hts inX6 (hts (.instantiable RX6 8) (by decide +kernel))
  obtain ⟨c7, i7, k7⟩ := u_known (C := RX7) (T := TX7) (N := 33) (n := 33) hts inX7 (hts (.instantiable RX7 33) (by decide +kernel))
  obtain ⟨a0, p0, q0⟩ := st_prim (hts (.arrayClass .byte) (by decide +kernel))
  obtain ⟨a1, p1, q1⟩ := st_prim (hts (.arrayClass .int) (by decide +kernel))
  obtain ⟨a2, p2, q2⟩ := st_prim (hts (.arrayClass .long) (by decide +kernel))
  obtain ⟨a3, p3, q3⟩ := st_prim (hts (.arrayClass .boolean) (by decide +kernel))
  obtain ⟨a4, p4, q4⟩ := st_obj (hts (.arrayOver (.object RX1)) (by decide +kernel))
  obtain ⟨a5, p5, q5⟩ := st_obj (hts (.arrayOver (.object RX2)) (by decide +kernel))
  obtain ⟨a6, p6, q6⟩ := st_obj (hts (.arrayOver (.object RX4)) (by decide +kernel))
  refine ⟨(fun k => match k with | 0 => c0 | 1 => c1 | 2 => c2 | 3 => c3 | 4 => c4 | 5 => c5 | 6 => c6 | _ => c7, fun k => match k with | 0 => i0 | 1 => i1 | 2 => i2 | 3 => i3 | 4 => i4 | 5 => i5 | 6 => i6 | _ => i7), fun k => match k with | 0 => a0 | 1 => a1 | 2 => a2 | 3 => a3 | 4 => a4 | 5 => a5 | _ => a6, fun k q hq => ?_, fun k q hq => ?_⟩
  · match k, hq with
    | 0, hq => cases hq; exact k0
    | 1, hq => cases hq; exact k1
    | 2, hq => cases hq; exact k2
    | 3, hq => cases hq; exact k3
    | 4, hq => cases hq; exact k4
    | 5, hq => cases hq; exact k5
    | 6, hq => cases hq; exact k6
    | 7, hq => cases hq; exact k7
    | k + 8, hq => simp [vwCl] at hq
  · match k, hq with
    | 0, hq => cases hq; exact ⟨p0, q0⟩
    | 1, hq => cases hq; exact ⟨p1, q1⟩
    | 2, hq => cases hq; exact ⟨p2, q2⟩
    | 3, hq => cases hq; exact ⟨p3, q3⟩
    | 4, hq => cases hq; exact ⟨p4, q4⟩
    | 5, hq => cases hq; exact ⟨p5, q5⟩
    | 6, hq => cases hq; exact ⟨p6, q6⟩
    | k + 7, hq => simp at hq
set_option maxRecDepth 100000 in
theorem st_nF : ∀ q ∈ nF, Cond.fieldLinkNest q.1 q.2.1 q.2.2.1 q.2.2.2.1 q.2.2.2.2 "RunClasses" ∈ lw_tbl := by decide +kernel
set_option maxRecDepth 100000 in
theorem st_nM : ∀ q ∈ nM, Cond.methodLinkNest q.1 q.2.1 q.2.2 "RunClasses" ∈ lw_tbl := by decide +kernel
set_option maxRecDepth 100000 in
theorem st_exC : ∀ q ∈ exC, Cond.castable q.1 q.2 ∈ lw_tbl := by decide +kernel
set_option maxRecDepth 100000 in
theorem st_exD : ∀ q ∈ exD, Cond.declares q ∈ lw_tbl := by decide +kernel
set_option maxRecDepth 100000 in
theorem st_lays : ∀ i, i < zNm.length → Cond.laysStatic zIE (zNm.getD i "") zID ∈ lw_tbl := by decide +kernel
abbrev gvn : Cond := Jvm.Cond.and given_1 narrow_1
set_option maxRecDepth 100000 in
theorem st_ex : ∀ i, i < zNm.length → Cond.exactly (.static zIE (zNm.getD i "") zID) zIE ∈ flatC gvn := by decide +kernel
set_option maxRecDepth 100000 in
theorem st_fl : ∀ q ∈ zFl, ∀ i, i < zNm.length → Cond.eq (.field (.static zIE (zNm.getD i "") zID) q.1 q.2.1 q.2.2.1) (.int (q.2.2.2.getD i 0)) ∈ flatC gvn := by decide +kernel
def neP : List (Nat × Nat × Nat) := [(8, 9, 62), (8, 0, 71), (9, 0, 72), (8, 1, 79), (9, 1, 80), (0, 1, 81), (8, 2, 88), (9, 2, 89), (0, 2, 90), (1, 2, 91), (8, 3, 98), (9, 3, 99), (0, 3, 100), (1, 3, 101), (2, 3, 102), (8, 4, 109), (9, 4, 110), (0, 4, 111), (1, 4, 112), (2, 4, 113), (3, 4, 114), (8, 5, 121), (9, 5, 122), (0, 5, 123), (1, 5, 124), (2, 5, 125), (3, 5, 126), (4, 5, 127), (8, 6, 134), (9, 6, 135), (0, 6, 136), (1, 6, 137), (2, 6, 138), (3, 6, 139), (4, 6, 140), (5, 6, 141), (8, 7, 148), (9, 7, 149), (0, 7, 150), (1, 7, 151), (2, 7, 152), (3, 7, 153), (4, 7, 154), (5, 7, 155), (6, 7, 156), (8, 10, 163), (9, 10, 164), (0, 10, 165), (1, 10, 166), (2, 10, 167), (3, 10, 168), (4, 10, 169), (5, 10, 170), (6, 10, 171), (7, 10, 172), (8, 11, 179), (9, 11, 180), (0, 11, 181), (1, 11, 182), (2, 11, 183), (3, 11, 184), (4, 11, 185), (5, 11, 186), (6, 11, 187), (7, 11, 188), (10, 11, 189), (8, 12, 196), (9, 12, 197), (0, 12, 198), (1, 12, 199), (2, 12, 200), (3, 12, 201), (4, 12, 202), (5, 12, 203), (6, 12, 204), (7, 12, 205), (10, 12, 206), (11, 12, 207), (8, 13, 214), (9, 13, 215), (0, 13, 216), (1, 13, 217), (2, 13, 218), (3, 13, 219), (4, 13, 220), (5, 13, 221), (6, 13, 222), (7, 13, 223), (10, 13, 224), (11, 13, 225), (12, 13, 226), (8, 14, 233), (9, 14, 234), (0, 14, 235), (1, 14, 236), (2, 14, 237), (3, 14, 238), (4, 14, 239), (5, 14, 240), (6, 14, 241), (7, 14, 242), (10, 14, 243), (11, 14, 244), (12, 14, 245), (13, 14, 246), (8, 15, 253), (9, 15, 254), (0, 15, 255), (1, 15, 256), (2, 15, 257), (3, 15, 258), (4, 15, 259), (5, 15, 260), (6, 15, 261), (7, 15, 262), (10, 15, 263), (11, 15, 264), (12, 15, 265), (13, 15, 266), (14, 15, 267), (8, 16, 274), (9, 16, 275), (0, 16, 276), (1, 16, 277), (2, 16, 278), (3, 16, 279), (4, 16, 280), (5, 16, 281), (6, 16, 282), (7, 16, 283), (10, 16, 284), (11, 16, 285), (12, 16, 286), (13, 16, 287), (14, 16, 288), (15, 16, 289), (8, 17, 296), (9, 17, 297), (0, 17, 298), (1, 17, 299), (2, 17, 300), (3, 17, 301), (4, 17, 302), (5, 17, 303), (6, 17, 304), (7, 17, 305), (10, 17, 306), (11, 17, 307), (12, 17, 308), (13, 17, 309), (14, 17, 310), (15, 17, 311), (16, 17, 312), (8, 18, 319), (9, 18, 320), (0, 18, 321), (1, 18, 322), (2, 18, 323), (3, 18, 324), (4, 18, 325), (5, 18, 326), (6, 18, 327), (7, 18, 328), (10, 18, 329), (11, 18, 330), (12, 18, 331), (13, 18, 332), (14, 18, 333), (15, 18, 334), (16, 18, 335), (17, 18, 336)]
set_option maxRecDepth 100000 in
theorem st_neP : ∀ q ∈ neP, (flatC gvn)[q.2.2]? = some (Cond.not (.eq (.static zIE (zNm.getD q.1 "") zID) (.static zIE (zNm.getD q.2.1 "") zID))) := by decide +kernel
theorem st_neQ : ∀ i, i < zNm.length → ∀ j, j < zNm.length → i ≠ j → ∃ q ∈ neP, (q.1 = i ∧ q.2.1 = j) ∨ (q.1 = j ∧ q.2.1 = i) := by decide +kernel
theorem st_ne (i : Nat) (hi : i < zNm.length) (j : Nat) (hj : j < zNm.length) (hij : i ≠ j) : (Cond.not (.eq (.static zIE (zNm.getD i "") zID) (.static zIE (zNm.getD j "") zID)) ∈ flatC gvn ∨ Cond.not (.eq (.static zIE (zNm.getD j "") zID) (.static zIE (zNm.getD i "") zID)) ∈ flatC gvn) := by
  obtain ⟨q, hq, ⟨rfl, rfl⟩ | ⟨rfl, rfl⟩⟩ := st_neQ i hi j hj hij
  · exact Or.inl (List.mem_of_getElem? (st_neP q hq))
  · exact Or.inr (List.mem_of_getElem? (st_neP q hq))
set_option maxRecDepth 100000 in
theorem st_el : ∀ i, i < 19 → Cond.eq (.elem (.static "RunClasses" "INSTRUCTIONS" "[LRunClasses$Instruction;") (.int (Int32.ofNat i))) (.static zIE (zNm.getD i "") zID) ∈ flatC gvn := by decide +kernel
set_option maxRecDepth 100000 in
theorem st_sw : ∀ i, i < 19 → Cond.eq (.elem (.static "RunClasses$1" "$SwitchMap$RunClasses$Instruction" "[I") (.int (Int32.ofNat i))) (.int (zSw.getD i 0)) ∈ flatC gvn := by decide +kernel
set_option maxRecDepth 100000 in
theorem st_w : ∀ w ∈ ([.exactly (.static "RunClasses" "INSTRUCTIONS" "[LRunClasses$Instruction;") "[LRunClasses$Instruction;", .arrayOf (.static "RunClasses" "INSTRUCTIONS" "[LRunClasses$Instruction;") (.object zIE), .eq (.length (.static "RunClasses" "INSTRUCTIONS" "[LRunClasses$Instruction;")) (.int 19), .arrayOf (.static "RunClasses$1" "$SwitchMap$RunClasses$Instruction" "[I") .int, .eq (.length (.static "RunClasses$1" "$SwitchMap$RunClasses$Instruction" "[I")) (.int 19), .isRef (.static Bundle.tN "UNASSIGNED_STACK" Bundle.steD), .isRef (.static Bundle.tN "SUPPRESSED_SENTINEL" Bundle.listD), .exactly (.string RX6 163) "java/lang/String", .exactly (.string RX6 173) "java/lang/String", .exactly (.string RX6 178) "java/lang/String"] : List Cond), w ∈ flatC gvn := by decide +kernel
set_option maxRecDepth 100000 in
theorem st_t : ∀ w ∈ ([.laysStatic "RunClasses" "INSTRUCTIONS" "[LRunClasses$Instruction;", .initialized "RunClasses", .laysStatic "RunClasses$1" "$SwitchMap$RunClasses$Instruction" "[I", .initialized "RunClasses$1", .initialized zIE, .laysStatic Bundle.tN "UNASSIGNED_STACK" Bundle.steD, .laysStatic Bundle.tN "SUPPRESSED_SENTINEL" Bundle.listD, .initialized Bundle.tN, .stringRef RX6 163 "no call is under way", .stringRef RX6 173 "no such octet", .stringRef RX6 178 "by 0"] : List Cond), w ∈ lw_tbl := by decide +kernel
theorem st_str {s : State} {args : Array Value} {own tx : String} {k : Nat} (h1 : (Cond.stringRef own k tx).before args s = true) (h2 : (Cond.exactly (.string own k) "java/lang/String").before args s = true) : ∃ sa, vk_R own k tx sa s := by
  obtain ⟨a, c, cell, kk, q1, -⟩ := Cond.exactly_spec h2
  exact ⟨a, vk_R.of (A := args) h1 q1⟩
set_option maxRecDepth 100000 in
theorem st_CK {s : State} {args : Array Value} {D : va_G} {cy : Nat → ClassId} (hts : ∀ w ∈ lw_tbl, w.before args s = true) (hg : ∀ w ∈ flatC gvn, w.before args s = true) (hK : va_K D vwCl (ztys cy) s) : ∃ (en : Nat → Nat) (tI tS : Nat), CK D cy (fun q : Nat => s.heap.size ≤ q) en tI tS s s.heap := by
  have hA : ∀ a : Nat, a < s.heap.size → ¬ (fun q : Nat => s.heap.size ≤ q) a := fun a h => Nat.not_le.mpr h
  have g := fun w h => hg w (st_w w h)
  have t := fun w h => hts w (st_t w h)
  obtain ⟨en, hE, hev⟩ := va_Enof2 (E := zIE) (d := zID) (nm := zNm) (F := zFl) (A := fun q : Nat => s.heap.size ≤ q) (fun i hi => hts _ (st_lays i hi)) (t (.initialized zIE) (by simp)) (fun i hi => hg _ (st_ex i hi)) (fun q hq i hi => hg _ (st_fl q hq i hi)) (fun i j hi hj hij => (st_ne i hi j hj hij).imp (fun h => hg _ h) (fun h => hg _ h)) hA
  obtain ⟨tI, e1, hT1⟩ := va_Tof (tm := .static "RunClasses" "INSTRUCTIONS" "[LRunClasses$Instruction;") (ty := .object zIE) (N := 19) (f := fun i => .ref (en i)) (A := fun q : Nat => s.heap.size ≤ q) (by omega) (g _ (by simp)) (va_eqt (g (.eq (.length (.static "RunClasses" "INSTRUCTIONS" "[LRunClasses$Instruction;")) (.int 19)) (by simp))) (fun j hj => va_eqv (hg _ (st_el j hj)) (hev j hj)) hA
  obtain ⟨tS, e2, hT2⟩ := va_Tof (tm := .static "RunClasses$1" "$SwitchMap$RunClasses$Instruction" "[I") (ty := .int) (N := 19) (f := fun i => .int (zSw.getD i 0)) (A := fun q : Nat => s.heap.size ≤ q) (by omega) (g _ (by simp)) (va_eqt (g (.eq (.length (.static "RunClasses$1" "$SwitchMap$RunClasses$Instruction" "[I")) (.int 19)) (by simp))) (fun j hj => va_eqt (hg _ (st_sw j hj))) hA
  refine ⟨en, tI, tS, hK, ⟨fun q hq => va_Nw.of (A := args) rfl (hts _ (st_nF q hq)), fun q hq => va_Nw.of (A := args) rfl (hts _ (st_nM q hq))⟩, ⟨hE, va_Zref (t _ (by simp)) (t _ (by simp)) e1 hA, hT1, va_Zref (t _ (by simp)) (t _ (by simp)) e2 hA, hT2⟩, fun q h => h, ⟨fun q hq => va_Nw.of (A := args) rfl (hts _ (st_exC q hq)), fun q hq => va_Nw.of (A := args) rfl (hts _ (st_exD q hq)), vx_Zqof (t _ (by simp)) (t _ (by simp)) (g _ (by simp)) hA, vx_Zqof (t _ (by simp)) (t _ (by simp)) (g _ (by simp)) hA, st_str (args := args) (t _ (by simp)) (g _ (by simp)), st_str (args := args) (t _ (by simp)) (g _ (by simp)), st_str (args := args) (t _ (by simp)) (g _ (by simp))⟩⟩
