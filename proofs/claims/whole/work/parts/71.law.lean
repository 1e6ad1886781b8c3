/-! ===== the law: one turn ===== -/
section LW
variable {p : Program} {l : Launch} {e : Env} {s : State} {m : MethodId} {args : Array Value} {below : List Frame} {meth : Method} {c : Code} {H : Heap} {locs : List Loc} {cells slots : Nat} {Q : State → Prop}
variable {ls : Array Slot} {D : va_G} {cy : Nat → ClassId} {AC AM : Nat → Prop} {en : Nat → Nat} {tI tS b L xa o hi N : Nat} {xs : Nat → Int32} {adM : Nat → Nat} {σ : CS} {τ : MS} {w : Int32}
/-- what stands through the whole law -/
def LC (p : Program) (l : Launch) (s : State) (m : MethodId) (args : Array Value) (c : Code) (D : va_G) (cy : Nat → ClassId) (AC AM : Nat → Prop) (en : Nat → Nat) (tI tS b L o hi : Nat) (xs : Nat → Int32) : Prop :=
  CallFix p m c cL_law 8 s args (Cond.methodLink RX6 175 (Bundle.initS zX) :: wsL_law) RL ∧ l.stackTraces = false ∧ CK D cy (fun q : Nat => s.heap.size ≤ q) en tI tS s s.heap ∧ va_X b L xs s s.heap ∧ b < s.heap.size ∧ (∀ q, AC q → s.heap.size ≤ q) ∧ (∀ q, AM q → s.heap.size ≤ q) ∧ (∀ q, AC q → ¬ AM q) ∧ s.heap.size ≤ o ∧ ¬ AC o ∧ ¬ AM o ∧ ∀ q, hi ≤ q → AC q
/-- what stands between two turns -/
def LI (s : State) (D : va_G) (cy : Nat → ClassId) (AC AM : Nat → Prop) (xa o hi : Nat) (adM : Nat → Nat) (N : Nat) (σ : CS) (τ : MS) (H : Heap) (locs : List Loc) : Prop :=
  Rel N σ τ ∧ hi ≤ H.size ∧ (∃ ad : Nat × Nat → Nat, ad (0, 0) = xa ∧ zw D AC ad (cG cy ad σ) H) ∧ zw D AM adM (mG cy adM τ) H ∧ (∃ f, outA D cy o f H) ∧ va_S (fun q : Nat => s.heap.size ≤ q) s.heap H locs
theorem Rel.h00 (h : Rel N σ τ) : cv σ 0 0 = true := by
  obtain ⟨S, R, B, C, E, hC, hV, hr⟩ := h
  exact hV.1
theorem wlh_S {y : MethodName} {bb : ByteArray} {n index : Nat} {hh : List (Nat × Nat × Nat × Nat)} (h : Cond.codeWith y bb n (some .int) hh ∈ wsL_law) (h1 : Cond.methodLink RL index y ∈ wsL_law) (h2 : Cond.static y ∈ wsL_law) (h3 : Cond.initialized y.cls ∈ wsL_law) : GoodIn (Cond.methodLink RX6 175 (Bundle.initS zX) :: wsL_law) (va_wsS RL index y (wlh y bb n hh)) := fun w hw => by
  have hin : ∀ w, w ∈ wsL_law → w ∈ Cond.methodLink RX6 175 (Bundle.initS zX) :: wsL_law ∧ ((w.onTables && w.keeps) = true ∨ ∃ ty, w = .arrayClass ty) := fun w h => ⟨List.mem_cons_of_mem _ h, good_of_word (List.all_eq_true.mp zgood_all _ h)⟩
  rcases List.mem_append.mp hw with hw | hw
  · rcases List.mem_cons.mp hw with rfl | hw
    · exact hin _ h1
    rcases List.mem_cons.mp hw with rfl | hw
    · exact hin _ h2
    rcases List.mem_cons.mp hw with rfl | hw
    · exact hin _ h3
    · exact absurd hw List.not_mem_nil
  · rcases List.mem_cons.mp hw with rfl | hw
    · exact hin _ h
    rcases List.mem_cons.mp hw with rfl | hw
    · exact ⟨List.mem_cons_self, good_of_word (by decide +kernel)⟩
    · exact hin _ hw
theorem xl_blind {σ : CS} {ad : Nat × Nat → Nat} {f : Nat → Int64} {av : List Value} : FrameBlind (va_Pc av (fun U => CWs D cy AC ad en tI tS σ U ∧ outA D cy o f U.heap)) := fun a U g mk q => by
  obtain ⟨q0, ⟨q1, q2⟩, q3⟩ := q
  exact ⟨q0, ((cw_blind av) a U g mk ⟨q0, q1, q2⟩).2, q3⟩
theorem lo_ld {R : Room} {cc : ByteArray} {pc : Nat} {rest : List Value} {f : Nat → Int64} (hx : p.tables.exec = Jvm.exec) (hb : c.code = cc) (hK : va_K D vwCl (ztys cy) s) (hO : outA D cy o f H) (hdg : decode cc pc = .ok (.laload, 1))
    (kk : W p l e R s m args below meth c H locs cells slots Q (F0 m (pc + 1) ls (.long (f 0) :: rest))) : W p l e R s m args below meth c H locs cells slots Q (F0 m pc ls (.int (0 : Int32) :: .ref o :: rest)) :=
  va_lald (D := D) (cl := vwCl) (ws := [(o, .inl (cy 2, 1, .inr (.inl f)))]) hx hb hK (fun j q hj => by
    match j, hj with
    | 0, hj => cases hj; exact hO
    | j + 1, hj => simp at hj) 0 2 rfl rfl (vp_in_nI (n := 0) (by omega) (by omega)) hdg kk
set_option maxHeartbeats 4000000 in
set_option maxRecDepth 100000 in
theorem law_c0 (hLC : LC p l s m args c D cy AC AM en tI tS b L o hi xs) (hI : LI s D cy AC AM xa o hi adM N σ τ H locs) (hN : N + 20 < 2147483648) (hrm : cells + 100 ≤ room_1.cells ∧ slots + 50000 ≤ room_1.slots) (hin0 : vp_in w L) (hin1 : vp_in (w + (1 : Int32)) L) (hin2 : vp_in (w + (2 : Int32)) L) (hin3 : vp_in (w + (3 : Int32)) L) (hin4 : vp_in (w + (4 : Int32)) L) (hl : lv_has ls 8 [(0, .ref b), (1, .ref xa), (2, .ref (adM 0)), (3, .ref o), (4, .int w)]) (fin : ∀ (σ' : CS) (τ' : MS) (H' : Heap) (locs' : List Loc) (ls' : Array Slot), LI s D cy AC AM xa o hi adM (N + 20) σ' τ' H' locs' → lv_has ls' 8 [(0, .ref b), (1, .ref xa), (2, .ref (adM 0)), (3, .ref o), (4, .int w)] → W p l e room_1 s m args below meth c H' locs' (cells + 100) (slots + 50000) Q (F0 m 1000 ls' [])) : W p l e room_1 s m args below meth c H locs cells slots Q (F0 m 136 ls []) := by
  obtain ⟨S, hst, hC, hX, hbl, hAC, hAM, hd, hob, hoC, hoM, hnC⟩ := hLC
  obtain ⟨hR, hhi, ⟨ad, rfl, h6⟩, h7, ⟨f, hO⟩, hS⟩ := hI
  obtain ⟨hx, hb, hml, hown, hts⟩ := id S
  have hbA : ¬ (fun q : Nat => s.heap.size ≤ q) b := Nat.not_le.mpr hbl
  have hK := hC.1
  have h00 := hR.h00
  obtain ⟨hr1, hr2⟩ := id hrm
  refine lv_aload_n hx hb dL_law_136 rfl (lv_at hl 1 rfl) ?_
  refine lv_aload_n hx hb dL_law_137 rfl (lv_at hl 0 rfl) ?_
  refine lv_iload hx hb dL_law_138 (lv_at hl 4 rfl) ?_
  refine lv_iconst (v := (1 : Int32)) hx hb dL_law_140 (by decide) ?_
  refine lv_iadd hx hb dL_law_141 ?_
  refine va_sld hx hb hX hbl hbA hS hin1 dL_law_142 ?_
  refine lv_i2l (v := (xs (w + (1 : Int32)).toNatClampNeg).toInt64) hx hb dL_law_143 rfl ?_
  refine lv_bipush (v := (32 : Int32)) hx hb dL_law_144 (by decide) ?_
  refine lv_lshl (v := ((xs (w + (1 : Int32)).toNatClampNeg).toInt64) <<< ((32 : Int32).toInt64 &&& 63)) hx hb dL_law_146 rfl ?_
  refine lv_aload_n hx hb dL_law_147 rfl (lv_at hl 0 rfl) ?_
  refine lv_iload hx hb dL_law_148 (lv_at hl 4 rfl) ?_
  refine lv_iconst (v := (2 : Int32)) hx hb dL_law_150 (by decide) ?_
  refine lv_iadd hx hb dL_law_151 ?_
  refine va_sld hx hb hX hbl hbA hS hin2 dL_law_152 ?_
  refine lv_i2l (v := (xs (w + (2 : Int32)).toNatClampNeg).toInt64) hx hb dL_law_153 rfl ?_
  refine lv_ldc2 (v := (4294967295 : Int64)) hx hb hown (hts _ (wz_in (zin1 _ (List.mem_of_getElem? (i := 7) rfl)))) dL_law_154 ?_
  refine lv_land hx hb dL_law_157 ?_
  refine lv_lor hx hb dL_law_158 ?_
  refine lv_aload_n hx hb dL_law_159 rfl (lv_at hl 0 rfl) ?_
  refine lv_iload hx hb dL_law_160 (lv_at hl 4 rfl) ?_
  refine lv_iconst (v := (3 : Int32)) hx hb dL_law_162 (by decide) ?_
  refine lv_iadd hx hb dL_law_163 ?_
  refine va_sld hx hb hX hbl hbA hS hin3 dL_law_164 ?_
  obtain ⟨r, σ', τ', e6, e7, hR'⟩ := sim_file hR ((((xs (w + (1 : Int32)).toNatClampNeg).toInt64) <<< ((32 : Int32).toInt64 &&& 63)) ||| (((xs (w + (2 : Int32)).toNatClampNeg).toInt64) &&& (4294967295 : Int64))) (xs (w + (3 : Int32)).toNatClampNeg)
  refine va_calli (va_runV (As := [.long ((((xs (w + (1 : Int32)).toNatClampNeg).toInt64) <<< ((32 : Int32).toInt64 &&& 63)) ||| (((xs (w + (2 : Int32)).toNatClampNeg).toInt64) &&& (4294967295 : Int64))), .int (xs (w + (3 : Int32)).toNatClampNeg)]) (rest := []) S (kc_X6_file l D cy AC ad en tI tS _ _ ((((xs (w + (1 : Int32)).toNatClampNeg).toInt64) <<< ((32 : Int32).toInt64 &&& 63)) ||| (((xs (w + (2 : Int32)).toNatClampNeg).toInt64) &&& (4294967295 : Int64))) (xs (w + (3 : Int32)).toNatClampNeg) _ e6) (cwV 2 hts (wz_V (zin4 _ (List.mem_of_getElem? (i := 17) rfl)) (zin4 _ (List.mem_of_getElem? (i := 14) rfl)) (zin4 _ (List.mem_of_getElem? (i := 15) rfl)) (zin4 _ (List.mem_of_getElem? (i := 16) rfl)) (zin1 _ (List.mem_of_getElem? (i := 2) rfl))) rfl rfl rfl (by decide +kernel) ⟨Nat.le_of_ble_eq_true rfl, Nat.le_of_ble_eq_true rfl⟩) ⟨cw_blind _, zw_recv hK h6 (g := (0, 0)) (ci := 6) ((cG_at h00).trans rfl) rfl, fun U hU hW => ⟨rfl, by rw [hU]; exact h6, CK_law hC hS hAC (fun q h => hnC q (Nat.le_trans hhi h)) hU hW⟩⟩ rfl rfl hl.1 rfl (lv_room (Nat.le_of_ble_eq_true rfl)) dL_law_165 ⟨by omega, by omega⟩) hS (fun q _ h => hAC q h) (fun q h => hAC q h) (fun r0 u0 t0 H1 locs1 ht hvm hq hB hz1 hk1 hS1 => ?_)
  obtain ⟨hq, hu⟩ := hq
  have hu := hu.symm
  subst hu
  have hq := hq.symm
  subst hq
  subst ht
  have h7 := zw_keep h7 (fun q h z => hk1 q h (fun y => hd q y z))
  have hO := va_at.kept hO (hk1 o (va_at.lt hO) hoC)
  have h6 := hB
  have hS := hS1
  have hhi := Nat.le_trans hhi hz1
  refine lv_aload_n hx hb dL_law_168 rfl (lv_at hl 2 rfl) ?_
  refine lv_aload_n hx hb dL_law_169 rfl (lv_at hl 0 rfl) ?_
  refine lv_iload hx hb dL_law_170 (lv_at hl 4 rfl) ?_
  refine lv_iconst (v := (1 : Int32)) hx hb dL_law_172 (by decide) ?_
  refine lv_iadd hx hb dL_law_173 ?_
  refine va_sld hx hb hX hbl hbA hS hin1 dL_law_174 ?_
  refine lv_i2l (v := (xs (w + (1 : Int32)).toNatClampNeg).toInt64) hx hb dL_law_175 rfl ?_
  refine lv_bipush (v := (32 : Int32)) hx hb dL_law_176 (by decide) ?_
  refine lv_lshl (v := ((xs (w + (1 : Int32)).toNatClampNeg).toInt64) <<< ((32 : Int32).toInt64 &&& 63)) hx hb dL_law_178 rfl ?_
  refine lv_aload_n hx hb dL_law_179 rfl (lv_at hl 0 rfl) ?_
  refine lv_iload hx hb dL_law_180 (lv_at hl 4 rfl) ?_
  refine lv_iconst (v := (2 : Int32)) hx hb dL_law_182 (by decide) ?_
  refine lv_iadd hx hb dL_law_183 ?_
  refine va_sld hx hb hX hbl hbA hS hin2 dL_law_184 ?_
  refine lv_i2l (v := (xs (w + (2 : Int32)).toNatClampNeg).toInt64) hx hb dL_law_185 rfl ?_
  refine lv_ldc2 (v := (4294967295 : Int64)) hx hb hown (hts _ (wz_in (zin1 _ (List.mem_of_getElem? (i := 7) rfl)))) dL_law_186 ?_
  refine lv_land hx hb dL_law_189 ?_
  refine lv_lor hx hb dL_law_190 ?_
  refine lv_aload_n hx hb dL_law_191 rfl (lv_at hl 0 rfl) ?_
  refine lv_iload hx hb dL_law_192 (lv_at hl 4 rfl) ?_
  refine lv_iconst (v := (3 : Int32)) hx hb dL_law_194 (by decide) ?_
  refine lv_iadd hx hb dL_law_195 ?_
  refine va_sld hx hb hX hbl hbA hS hin3 dL_law_196 ?_
  refine va_calli (va_runV (As := [.long ((((xs (w + (1 : Int32)).toNatClampNeg).toInt64) <<< ((32 : Int32).toInt64 &&& 63)) ||| (((xs (w + (2 : Int32)).toNatClampNeg).toInt64) &&& (4294967295 : Int64))), .int (xs (w + (3 : Int32)).toNatClampNeg)]) (rest := [.int r]) S (kc_X7_file l D cy AM adM _ _ ((((xs (w + (1 : Int32)).toNatClampNeg).toInt64) <<< ((32 : Int32).toInt64 &&& 63)) ||| (((xs (w + (2 : Int32)).toNatClampNeg).toInt64) &&& (4294967295 : Int64))) (xs (w + (3 : Int32)).toNatClampNeg) _ e7) (cwV 2 hts (wz_V (zin5 _ (List.mem_of_getElem? (i := 7) rfl)) (zin5 _ (List.mem_of_getElem? (i := 4) rfl)) (zin5 _ (List.mem_of_getElem? (i := 5) rfl)) (zin5 _ (List.mem_of_getElem? (i := 6) rfl)) (zin1 _ (List.mem_of_getElem? (i := 5) rfl))) rfl rfl rfl (by decide +kernel) ⟨Nat.le_of_ble_eq_true rfl, Nat.le_of_ble_eq_true rfl⟩) ⟨mw_blind _, zw_recv hK h7 (g := 0) (ci := 7) rfl rfl, mw_pre hK h7 _⟩ rfl rfl hl.1 rfl (lv_room (Nat.le_of_ble_eq_true rfl)) dL_law_197 ⟨by omega, by omega⟩) hS (fun q _ h => hAM q h) (fun q h => hAM q h) (fun r1 u1 t1 H1 locs1 ht hvm hq hB hz1 hk1 hS1 => ?_)
  obtain ⟨hq, hu⟩ := hq
  have hu := hu.symm
  subst hu
  have hq := hq.symm
  subst hq
  subst ht
  have h6 := zw_keep h6 (fun q h z => hk1 q h (fun y => hd q z y))
  have hO := va_at.kept hO (hk1 o (va_at.lt hO) hoM)
  have h7 := hB
  have hS := hS1
  have hhi := Nat.le_trans hhi hz1
  refine lv_icmp_eq (tgt := 1000) hx hb dL_law_200 (by decide) (fun c_0 => ?_) (fun c_0 => absurd rfl c_0)
  refine W.widen (k := cells + 100) (n := slots + 50000) (by omega) (by omega) ?_
  exact fin _ _ _ _ _ ⟨(hR'.mono (Nat.le_add_right _ _)), hhi, ⟨ad, rfl, h6⟩, h7, ⟨f, hO⟩, hS⟩ hl
set_option maxHeartbeats 4000000 in
set_option maxRecDepth 100000 in
theorem law_c2 (hLC : LC p l s m args c D cy AC AM en tI tS b L o hi xs) (hI : LI s D cy AC AM xa o hi adM N σ τ H locs) (hN : N + 20 < 2147483648) (hrm : cells + 100 ≤ room_1.cells ∧ slots + 50000 ≤ room_1.slots) (hin0 : vp_in w L) (hin1 : vp_in (w + (1 : Int32)) L) (hin2 : vp_in (w + (2 : Int32)) L) (hin3 : vp_in (w + (3 : Int32)) L) (hin4 : vp_in (w + (4 : Int32)) L) (hl : lv_has ls 8 [(0, .ref b), (1, .ref xa), (2, .ref (adM 0)), (3, .ref o), (4, .int w)]) (fin : ∀ (σ' : CS) (τ' : MS) (H' : Heap) (locs' : List Loc) (ls' : Array Slot), LI s D cy AC AM xa o hi adM (N + 20) σ' τ' H' locs' → lv_has ls' 8 [(0, .ref b), (1, .ref xa), (2, .ref (adM 0)), (3, .ref o), (4, .int w)] → W p l e room_1 s m args below meth c H' locs' (cells + 100) (slots + 50000) Q (F0 m 1000 ls' [])) : W p l e room_1 s m args below meth c H locs cells slots Q (F0 m 230 ls []) := by
  obtain ⟨S, hst, hC, hX, hbl, hAC, hAM, hd, hob, hoC, hoM, hnC⟩ := hLC
  obtain ⟨hR, hhi, ⟨ad, rfl, h6⟩, h7, ⟨f, hO⟩, hS⟩ := hI
  obtain ⟨hx, hb, hml, hown, hts⟩ := id S
  have hbA : ¬ (fun q : Nat => s.heap.size ≤ q) b := Nat.not_le.mpr hbl
  have hK := hC.1
  have h00 := hR.h00
  obtain ⟨hr1, hr2⟩ := id hrm
  refine lv_aload_n hx hb dL_law_230 rfl (lv_at hl 1 rfl) ?_
  refine lv_aload_n hx hb dL_law_231 rfl (lv_at hl 0 rfl) ?_
  refine lv_iload hx hb dL_law_232 (lv_at hl 4 rfl) ?_
  refine lv_iconst (v := (1 : Int32)) hx hb dL_law_234 (by decide) ?_
  refine lv_iadd hx hb dL_law_235 ?_
  refine va_sld hx hb hX hbl hbA hS hin1 dL_law_236 ?_
  refine lv_aload_n hx hb dL_law_237 rfl (lv_at hl 0 rfl) ?_
  refine lv_iload hx hb dL_law_238 (lv_at hl 4 rfl) ?_
  refine lv_iconst (v := (2 : Int32)) hx hb dL_law_240 (by decide) ?_
  refine lv_iadd hx hb dL_law_241 ?_
  refine va_sld hx hb hX hbl hbA hS hin2 dL_law_242 ?_
  obtain ⟨r, σ', τ', e6, e7, hR'⟩ := sim_make hR (xs (w + (1 : Int32)).toNatClampNeg) (xs (w + (2 : Int32)).toNatClampNeg)
  refine va_calli (va_runV (As := [.int (xs (w + (1 : Int32)).toNatClampNeg), .int (xs (w + (2 : Int32)).toNatClampNeg)]) (rest := []) S (kc_X6_make l D cy AC ad en tI tS _ _ (xs (w + (1 : Int32)).toNatClampNeg) (xs (w + (2 : Int32)).toNatClampNeg) _ e6) (cwV 2 hts (wz_V (zin9 _ (List.mem_of_getElem? (i := 8) rfl)) (zin9 _ (List.mem_of_getElem? (i := 5) rfl)) (zin9 _ (List.mem_of_getElem? (i := 6) rfl)) (zin9 _ (List.mem_of_getElem? (i := 7) rfl)) (zin1 _ (List.mem_of_getElem? (i := 2) rfl))) rfl rfl rfl (by decide +kernel) ⟨Nat.le_of_ble_eq_true rfl, Nat.le_of_ble_eq_true rfl⟩) ⟨cw_blind _, zw_recv hK h6 (g := (0, 0)) (ci := 6) ((cG_at h00).trans rfl) rfl, fun U hU hW => ⟨rfl, by rw [hU]; exact h6, CK_law hC hS hAC (fun q h => hnC q (Nat.le_trans hhi h)) hU hW⟩⟩ rfl rfl hl.1 rfl (lv_room (Nat.le_of_ble_eq_true rfl)) dL_law_243 ⟨by omega, by omega⟩) hS (fun q _ h => hAC q h) (fun q h => hAC q h) (fun r0 u0 t0 H1 locs1 ht hvm hq hB hz1 hk1 hS1 => ?_)
  obtain ⟨hq, hu⟩ := hq
  have hu := hu.symm
  subst hu
  have hq := hq.symm
  subst hq
  subst ht
  obtain ⟨ad1, had1, hB⟩ := hB
  have h7 := zw_keep h7 (fun q h z => hk1 q h (fun y => hd q y z))
  have hO := va_at.kept hO (hk1 o (va_at.lt hO) hoC)
  have h6 := hB
  have hS := hS1
  have hhi := Nat.le_trans hhi hz1
  refine lv_aload_n hx hb dL_law_246 rfl (lv_at hl 2 rfl) ?_
  refine lv_aload_n hx hb dL_law_247 rfl (lv_at hl 0 rfl) ?_
  refine lv_iload hx hb dL_law_248 (lv_at hl 4 rfl) ?_
  refine lv_iconst (v := (1 : Int32)) hx hb dL_law_250 (by decide) ?_
  refine lv_iadd hx hb dL_law_251 ?_
  refine va_sld hx hb hX hbl hbA hS hin1 dL_law_252 ?_
  refine lv_aload_n hx hb dL_law_253 rfl (lv_at hl 0 rfl) ?_
  refine lv_iload hx hb dL_law_254 (lv_at hl 4 rfl) ?_
  refine lv_iconst (v := (2 : Int32)) hx hb dL_law_256 (by decide) ?_
  refine lv_iadd hx hb dL_law_257 ?_
  refine va_sld hx hb hX hbl hbA hS hin2 dL_law_258 ?_
  refine va_calli (va_runV (As := [.int (xs (w + (1 : Int32)).toNatClampNeg), .int (xs (w + (2 : Int32)).toNatClampNeg)]) (rest := [.int r]) S (kc_X7_make l D cy AM adM _ _ (xs (w + (1 : Int32)).toNatClampNeg) (xs (w + (2 : Int32)).toNatClampNeg) _ e7) (cwV 2 hts (wz_V (zin10 _ (List.mem_of_getElem? (i := 7) rfl)) (zin10 _ (List.mem_of_getElem? (i := 4) rfl)) (zin10 _ (List.mem_of_getElem? (i := 5) rfl)) (zin10 _ (List.mem_of_getElem? (i := 6) rfl)) (zin1 _ (List.mem_of_getElem? (i := 5) rfl))) rfl rfl rfl (by decide +kernel) ⟨Nat.le_of_ble_eq_true rfl, Nat.le_of_ble_eq_true rfl⟩) ⟨mw_blind _, zw_recv hK h7 (g := 0) (ci := 7) rfl rfl, mw_pre hK h7 _⟩ rfl rfl hl.1 rfl (lv_room (Nat.le_of_ble_eq_true rfl)) dL_law_259 ⟨by omega, by omega⟩) hS (fun q _ h => hAM q h) (fun q h => hAM q h) (fun r1 u1 t1 H1 locs1 ht hvm hq hB hz1 hk1 hS1 => ?_)
  obtain ⟨hq, hu⟩ := hq
  have hu := hu.symm
  subst hu
  have hq := hq.symm
  subst hq
  subst ht
  have h6 := zw_keep h6 (fun q h z => hk1 q h (fun y => hd q z y))
  have hO := va_at.kept hO (hk1 o (va_at.lt hO) hoM)
  have h7 := hB
  have hS := hS1
  have hhi := Nat.le_trans hhi hz1
  refine lv_icmp_eq (tgt := 1000) hx hb dL_law_262 (by decide) (fun c_0 => ?_) (fun c_0 => absurd rfl c_0)
  refine W.widen (k := cells + 100) (n := slots + 50000) (by omega) (by omega) ?_
  exact fin _ _ _ _ _ ⟨(hR'.mono (Nat.le_add_right _ _)), hhi, ⟨ad1, had1 0 0 (by decide), h6⟩, h7, ⟨f, hO⟩, hS⟩ hl
set_option maxHeartbeats 4000000 in
set_option maxRecDepth 100000 in
theorem law_c3 (hLC : LC p l s m args c D cy AC AM en tI tS b L o hi xs) (hI : LI s D cy AC AM xa o hi adM N σ τ H locs) (hN : N + 20 < 2147483648) (hrm : cells + 100 ≤ room_1.cells ∧ slots + 50000 ≤ room_1.slots) (hin0 : vp_in w L) (hin1 : vp_in (w + (1 : Int32)) L) (hin2 : vp_in (w + (2 : Int32)) L) (hin3 : vp_in (w + (3 : Int32)) L) (hin4 : vp_in (w + (4 : Int32)) L) (hl : lv_has ls 8 [(0, .ref b), (1, .ref xa), (2, .ref (adM 0)), (3, .ref o), (4, .int w)]) (fin : ∀ (σ' : CS) (τ' : MS) (H' : Heap) (locs' : List Loc) (ls' : Array Slot), LI s D cy AC AM xa o hi adM (N + 20) σ' τ' H' locs' → lv_has ls' 8 [(0, .ref b), (1, .ref xa), (2, .ref (adM 0)), (3, .ref o), (4, .int w)] → W p l e room_1 s m args below meth c H' locs' (cells + 100) (slots + 50000) Q (F0 m 1000 ls' [])) : W p l e room_1 s m args below meth c H locs cells slots Q (F0 m 267 ls []) := by
  obtain ⟨S, hst, hC, hX, hbl, hAC, hAM, hd, hob, hoC, hoM, hnC⟩ := hLC
  obtain ⟨hR, hhi, ⟨ad, rfl, h6⟩, h7, ⟨f, hO⟩, hS⟩ := hI
  obtain ⟨hx, hb, hml, hown, hts⟩ := id S
  have hbA : ¬ (fun q : Nat => s.heap.size ≤ q) b := Nat.not_le.mpr hbl
  have hK := hC.1
  have h00 := hR.h00
  obtain ⟨hr1, hr2⟩ := id hrm
  refine lv_aload_n hx hb dL_law_267 rfl (lv_at hl 1 rfl) ?_
  refine lv_aload_n hx hb dL_law_268 rfl (lv_at hl 0 rfl) ?_
  refine lv_iload hx hb dL_law_269 (lv_at hl 4 rfl) ?_
  refine lv_iconst (v := (1 : Int32)) hx hb dL_law_271 (by decide) ?_
  refine lv_iadd hx hb dL_law_272 ?_
  refine va_sld hx hb hX hbl hbA hS hin1 dL_law_273 ?_
  obtain ⟨r, σ', τ', e6, e7, hR'⟩ := sim_power hN hR (xs (w + (1 : Int32)).toNatClampNeg)
  refine va_calli (va_runV (As := [.int (xs (w + (1 : Int32)).toNatClampNeg)]) (rest := []) S (kc_X6_power l D cy AC ad en tI tS _ _ (xs (w + (1 : Int32)).toNatClampNeg) _ e6) (cwV 1 hts (wz_V (zin11 _ (List.mem_of_getElem? (i := 2) rfl)) (zin10 _ (List.mem_of_getElem? (i := 23) rfl)) (zin11 _ (List.mem_of_getElem? (i := 0) rfl)) (zin11 _ (List.mem_of_getElem? (i := 1) rfl)) (zin1 _ (List.mem_of_getElem? (i := 2) rfl))) rfl rfl rfl (by decide +kernel) ⟨Nat.le_of_ble_eq_true rfl, Nat.le_of_ble_eq_true rfl⟩) ⟨cw_blind _, zw_recv hK h6 (g := (0, 0)) (ci := 6) ((cG_at h00).trans rfl) rfl, fun U hU hW => ⟨rfl, by rw [hU]; exact h6, CK_law hC hS hAC (fun q h => hnC q (Nat.le_trans hhi h)) hU hW⟩⟩ rfl rfl hl.1 rfl (lv_room (Nat.le_of_ble_eq_true rfl)) dL_law_274 ⟨by omega, by omega⟩) hS (fun q _ h => hAC q h) (fun q h => hAC q h) (fun r0 u0 t0 H1 locs1 ht hvm hq hB hz1 hk1 hS1 => ?_)
  obtain ⟨hq, hu⟩ := hq
  have hu := hu.symm
  subst hu
  have hq := hq.symm
  subst hq
  subst ht
  have h7 := zw_keep h7 (fun q h z => hk1 q h (fun y => hd q y z))
  have hO := va_at.kept hO (hk1 o (va_at.lt hO) hoC)
  have h6 := hB
  have hS := hS1
  have hhi := Nat.le_trans hhi hz1
  refine lv_aload_n hx hb dL_law_277 rfl (lv_at hl 2 rfl) ?_
  refine lv_aload_n hx hb dL_law_278 rfl (lv_at hl 0 rfl) ?_
  refine lv_iload hx hb dL_law_279 (lv_at hl 4 rfl) ?_
  refine lv_iconst (v := (1 : Int32)) hx hb dL_law_281 (by decide) ?_
  refine lv_iadd hx hb dL_law_282 ?_
  refine va_sld hx hb hX hbl hbA hS hin1 dL_law_283 ?_
  refine va_calli (va_runV (As := [.int (xs (w + (1 : Int32)).toNatClampNeg)]) (rest := [.int r]) S (kc_X7_power l D cy AM adM _ _ (xs (w + (1 : Int32)).toNatClampNeg) _ e7) (cwV 1 hts (wz_V (zin13 _ (List.mem_of_getElem? (i := 15) rfl)) (zin13 _ (List.mem_of_getElem? (i := 12) rfl)) (zin13 _ (List.mem_of_getElem? (i := 13) rfl)) (zin13 _ (List.mem_of_getElem? (i := 14) rfl)) (zin1 _ (List.mem_of_getElem? (i := 5) rfl))) rfl rfl rfl (by decide +kernel) ⟨Nat.le_of_ble_eq_true rfl, Nat.le_of_ble_eq_true rfl⟩) ⟨mw_blind _, zw_recv hK h7 (g := 0) (ci := 7) rfl rfl, mw_pre hK h7 _⟩ rfl rfl hl.1 rfl (lv_room (Nat.le_of_ble_eq_true rfl)) dL_law_284 ⟨by omega, by omega⟩) hS (fun q _ h => hAM q h) (fun q h => hAM q h) (fun r1 u1 t1 H1 locs1 ht hvm hq hB hz1 hk1 hS1 => ?_)
  obtain ⟨hq, hu⟩ := hq
  have hu := hu.symm
  subst hu
  have hq := hq.symm
  subst hq
  subst ht
  have h6 := zw_keep h6 (fun q h z => hk1 q h (fun y => hd q z y))
  have hO := va_at.kept hO (hk1 o (va_at.lt hO) hoM)
  have h7 := hB
  have hS := hS1
  have hhi := Nat.le_trans hhi hz1
  refine lv_icmp_eq (tgt := 1000) hx hb dL_law_287 (by decide) (fun c_0 => ?_) (fun c_0 => absurd rfl c_0)
  refine W.widen (k := cells + 100) (n := slots + 50000) (by omega) (by omega) ?_
  exact fin _ _ _ _ _ ⟨hR', hhi, ⟨ad, rfl, h6⟩, h7, ⟨f, hO⟩, hS⟩ hl
set_option maxHeartbeats 4000000 in
set_option maxRecDepth 100000 in
theorem law_c4 (hLC : LC p l s m args c D cy AC AM en tI tS b L o hi xs) (hI : LI s D cy AC AM xa o hi adM N σ τ H locs) (hN : N + 20 < 2147483648) (hrm : cells + 100 ≤ room_1.cells ∧ slots + 50000 ≤ room_1.slots) (hin0 : vp_in w L) (hin1 : vp_in (w + (1 : Int32)) L) (hin2 : vp_in (w + (2 : Int32)) L) (hin3 : vp_in (w + (3 : Int32)) L) (hin4 : vp_in (w + (4 : Int32)) L) (hl : lv_has ls 8 [(0, .ref b), (1, .ref xa), (2, .ref (adM 0)), (3, .ref o), (4, .int w)]) (fin : ∀ (σ' : CS) (τ' : MS) (H' : Heap) (locs' : List Loc) (ls' : Array Slot), LI s D cy AC AM xa o hi adM (N + 20) σ' τ' H' locs' → lv_has ls' 8 [(0, .ref b), (1, .ref xa), (2, .ref (adM 0)), (3, .ref o), (4, .int w)] → W p l e room_1 s m args below meth c H' locs' (cells + 100) (slots + 50000) Q (F0 m 1000 ls' [])) : W p l e room_1 s m args below meth c H locs cells slots Q (F0 m 292 ls []) := by
  obtain ⟨S, hst, hC, hX, hbl, hAC, hAM, hd, hob, hoC, hoM, hnC⟩ := hLC
  obtain ⟨hR, hhi, ⟨ad, rfl, h6⟩, h7, ⟨f, hO⟩, hS⟩ := hI
  obtain ⟨hx, hb, hml, hown, hts⟩ := id S
  have hbA : ¬ (fun q : Nat => s.heap.size ≤ q) b := Nat.not_le.mpr hbl
  have hK := hC.1
  have h00 := hR.h00
  obtain ⟨hr1, hr2⟩ := id hrm
  refine lv_aload_n hx hb dL_law_292 rfl (lv_at hl 1 rfl) ?_
  refine lv_aload_n hx hb dL_law_293 rfl (lv_at hl 0 rfl) ?_
  refine lv_iload hx hb dL_law_294 (lv_at hl 4 rfl) ?_
  refine lv_iconst (v := (1 : Int32)) hx hb dL_law_296 (by decide) ?_
  refine lv_iadd hx hb dL_law_297 ?_
  refine va_sld hx hb hX hbl hbA hS hin1 dL_law_298 ?_
  refine lv_aload_n hx hb dL_law_299 rfl (lv_at hl 0 rfl) ?_
  refine lv_iload hx hb dL_law_300 (lv_at hl 4 rfl) ?_
  refine lv_iconst (v := (2 : Int32)) hx hb dL_law_302 (by decide) ?_
  refine lv_iadd hx hb dL_law_303 ?_
  refine va_sld hx hb hX hbl hbA hS hin2 dL_law_304 ?_
  obtain ⟨r, σ', τ', e6, e7, hR'⟩ := sim_run hN hR (xs (w + (1 : Int32)).toNatClampNeg) (xs (w + (2 : Int32)).toNatClampNeg)
  refine va_calli (va_runV (As := [.int (xs (w + (1 : Int32)).toNatClampNeg), .int (xs (w + (2 : Int32)).toNatClampNeg)]) (rest := []) S (kc_X6_run l D cy AC ad en tI tS _ _ (xs (w + (1 : Int32)).toNatClampNeg) (xs (w + (2 : Int32)).toNatClampNeg) _ e6) (cwV 2 hts (wz_V (zin15 _ (List.mem_of_getElem? (i := 4) rfl)) (zin15 _ (List.mem_of_getElem? (i := 1) rfl)) (zin15 _ (List.mem_of_getElem? (i := 2) rfl)) (zin15 _ (List.mem_of_getElem? (i := 3) rfl)) (zin1 _ (List.mem_of_getElem? (i := 2) rfl))) rfl rfl rfl (by decide +kernel) ⟨Nat.le_of_ble_eq_true rfl, Nat.le_of_ble_eq_true rfl⟩) ⟨cw_blind _, zw_recv hK h6 (g := (0, 0)) (ci := 6) ((cG_at h00).trans rfl) rfl, fun U hU hW => ⟨rfl, by rw [hU]; exact h6, CK_law hC hS hAC (fun q h => hnC q (Nat.le_trans hhi h)) hU hW⟩⟩ rfl rfl hl.1 rfl (lv_room (Nat.le_of_ble_eq_true rfl)) dL_law_305 ⟨by omega, by omega⟩) hS (fun q _ h => hAC q h) (fun q h => hAC q h) (fun r0 u0 t0 H1 locs1 ht hvm hq hB hz1 hk1 hS1 => ?_)
  obtain ⟨hq, hu⟩ := hq
  have hu := hu.symm
  subst hu
  have hq := hq.symm
  subst hq
  subst ht
  have h7 := zw_keep h7 (fun q h z => hk1 q h (fun y => hd q y z))
  have hO := va_at.kept hO (hk1 o (va_at.lt hO) hoC)
  have h6 := hB
  have hS := hS1
  have hhi := Nat.le_trans hhi hz1
  refine lv_aload_n hx hb dL_law_308 rfl (lv_at hl 2 rfl) ?_
  refine lv_aload_n hx hb dL_law_309 rfl (lv_at hl 0 rfl) ?_
  refine lv_iload hx hb dL_law_310 (lv_at hl 4 rfl) ?_
  refine lv_iconst (v := (1 : Int32)) hx hb dL_law_312 (by decide) ?_
  refine lv_iadd hx hb dL_law_313 ?_
  refine va_sld hx hb hX hbl hbA hS hin1 dL_law_314 ?_
  refine lv_aload_n hx hb dL_law_315 rfl (lv_at hl 0 rfl) ?_
  refine lv_iload hx hb dL_law_316 (lv_at hl 4 rfl) ?_
  refine lv_iconst (v := (2 : Int32)) hx hb dL_law_318 (by decide) ?_
  refine lv_iadd hx hb dL_law_319 ?_
  refine va_sld hx hb hX hbl hbA hS hin2 dL_law_320 ?_
  refine va_calli (va_runV (As := [.int (xs (w + (1 : Int32)).toNatClampNeg), .int (xs (w + (2 : Int32)).toNatClampNeg)]) (rest := [.int r]) S (kc_X7_run l D cy AM adM _ _ (xs (w + (1 : Int32)).toNatClampNeg) (xs (w + (2 : Int32)).toNatClampNeg) _ e7) (cwV 2 hts (wz_V (zin15 _ (List.mem_of_getElem? (i := 21) rfl)) (zin15 _ (List.mem_of_getElem? (i := 18) rfl)) (zin15 _ (List.mem_of_getElem? (i := 19) rfl)) (zin15 _ (List.mem_of_getElem? (i := 20) rfl)) (zin1 _ (List.mem_of_getElem? (i := 5) rfl))) rfl rfl rfl (by decide +kernel) ⟨Nat.le_of_ble_eq_true rfl, Nat.le_of_ble_eq_true rfl⟩) ⟨mw_blind _, zw_recv hK h7 (g := 0) (ci := 7) rfl rfl, mw_pre hK h7 _⟩ rfl rfl hl.1 rfl (lv_room (Nat.le_of_ble_eq_true rfl)) dL_law_321 ⟨by omega, by omega⟩) hS (fun q _ h => hAM q h) (fun q h => hAM q h) (fun r1 u1 t1 H1 locs1 ht hvm hq hB hz1 hk1 hS1 => ?_)
  obtain ⟨hq, hu⟩ := hq
  have hu := hu.symm
  subst hu
  have hq := hq.symm
  subst hq
  subst ht
  have h6 := zw_keep h6 (fun q h z => hk1 q h (fun y => hd q z y))
  have hO := va_at.kept hO (hk1 o (va_at.lt hO) hoM)
  have h7 := hB
  have hS := hS1
  have hhi := Nat.le_trans hhi hz1
  refine lv_icmp_eq (tgt := 1000) hx hb dL_law_324 (by decide) (fun c_0 => ?_) (fun c_0 => absurd rfl c_0)
  refine W.widen (k := cells + 100) (n := slots + 50000) (by omega) (by omega) ?_
  exact fin _ _ _ _ _ ⟨hR', hhi, ⟨ad, rfl, h6⟩, h7, ⟨f, hO⟩, hS⟩ hl
set_option maxHeartbeats 4000000 in
set_option maxRecDepth 100000 in
theorem law_c5 (hLC : LC p l s m args c D cy AC AM en tI tS b L o hi xs) (hI : LI s D cy AC AM xa o hi adM N σ τ H locs) (hN : N + 20 < 2147483648) (hrm : cells + 100 ≤ room_1.cells ∧ slots + 50000 ≤ room_1.slots) (hin0 : vp_in w L) (hin1 : vp_in (w + (1 : Int32)) L) (hin2 : vp_in (w + (2 : Int32)) L) (hin3 : vp_in (w + (3 : Int32)) L) (hin4 : vp_in (w + (4 : Int32)) L) (hl : lv_has ls 8 [(0, .ref b), (1, .ref xa), (2, .ref (adM 0)), (3, .ref o), (4, .int w)]) (fin : ∀ (σ' : CS) (τ' : MS) (H' : Heap) (locs' : List Loc) (ls' : Array Slot), LI s D cy AC AM xa o hi adM (N + 20) σ' τ' H' locs' → lv_has ls' 8 [(0, .ref b), (1, .ref xa), (2, .ref (adM 0)), (3, .ref o), (4, .int w)] → W p l e room_1 s m args below meth c H' locs' (cells + 100) (slots + 50000) Q (F0 m 1000 ls' [])) : W p l e room_1 s m args below meth c H locs cells slots Q (F0 m 329 ls []) := by
  obtain ⟨S, hst, hC, hX, hbl, hAC, hAM, hd, hob, hoC, hoM, hnC⟩ := hLC
  obtain ⟨hR, hhi, ⟨ad, rfl, h6⟩, h7, ⟨f, hO⟩, hS⟩ := hI
  obtain ⟨hx, hb, hml, hown, hts⟩ := id S
  have hbA : ¬ (fun q : Nat => s.heap.size ≤ q) b := Nat.not_le.mpr hbl
  have hK := hC.1
  have h00 := hR.h00
  obtain ⟨hr1, hr2⟩ := id hrm
  refine lv_aload_n hx hb dL_law_329 rfl (lv_at hl 1 rfl) ?_
  refine lv_aload_n hx hb dL_law_330 rfl (lv_at hl 0 rfl) ?_
  refine lv_iload hx hb dL_law_331 (lv_at hl 4 rfl) ?_
  refine lv_iconst (v := (1 : Int32)) hx hb dL_law_333 (by decide) ?_
  refine lv_iadd hx hb dL_law_334 ?_
  refine va_sld hx hb hX hbl hbA hS hin1 dL_law_335 ?_
  refine lv_aload_n hx hb dL_law_336 rfl (lv_at hl 0 rfl) ?_
  refine lv_iload hx hb dL_law_337 (lv_at hl 4 rfl) ?_
  refine lv_iconst (v := (2 : Int32)) hx hb dL_law_339 (by decide) ?_
  refine lv_iadd hx hb dL_law_340 ?_
  refine va_sld hx hb hX hbl hbA hS hin2 dL_law_341 ?_
  obtain ⟨r, σ', τ', e6, e7, hR'⟩ := sim_beside hN hR (xs (w + (1 : Int32)).toNatClampNeg) (xs (w + (2 : Int32)).toNatClampNeg)
  refine va_calli (va_runV (As := [.int (xs (w + (1 : Int32)).toNatClampNeg), .int (xs (w + (2 : Int32)).toNatClampNeg)]) (rest := []) S (kc_X6_beside l D cy AC ad en tI tS _ _ (xs (w + (1 : Int32)).toNatClampNeg) (xs (w + (2 : Int32)).toNatClampNeg) _ e6) (cwV 2 hts (wz_V (zin16 _ (List.mem_of_getElem? (i := 9) rfl)) (zin16 _ (List.mem_of_getElem? (i := 6) rfl)) (zin16 _ (List.mem_of_getElem? (i := 7) rfl)) (zin16 _ (List.mem_of_getElem? (i := 8) rfl)) (zin1 _ (List.mem_of_getElem? (i := 2) rfl))) rfl rfl rfl (by decide +kernel) ⟨Nat.le_of_ble_eq_true rfl, Nat.le_of_ble_eq_true rfl⟩) ⟨cw_blind _, zw_recv hK h6 (g := (0, 0)) (ci := 6) ((cG_at h00).trans rfl) rfl, fun U hU hW => ⟨rfl, by rw [hU]; exact h6, CK_law hC hS hAC (fun q h => hnC q (Nat.le_trans hhi h)) hU hW⟩⟩ rfl rfl hl.1 rfl (lv_room (Nat.le_of_ble_eq_true rfl)) dL_law_342 ⟨by omega, by omega⟩) hS (fun q _ h => hAC q h) (fun q h => hAC q h) (fun r0 u0 t0 H1 locs1 ht hvm hq hB hz1 hk1 hS1 => ?_)
  obtain ⟨hq, hu⟩ := hq
  have hu := hu.symm
  subst hu
  have hq := hq.symm
  subst hq
  subst ht
  have h7 := zw_keep h7 (fun q h z => hk1 q h (fun y => hd q y z))
  have hO := va_at.kept hO (hk1 o (va_at.lt hO) hoC)
  have h6 := hB
  have hS := hS1
  have hhi := Nat.le_trans hhi hz1
  refine lv_aload_n hx hb dL_law_345 rfl (lv_at hl 2 rfl) ?_
  refine lv_aload_n hx hb dL_law_346 rfl (lv_at hl 0 rfl) ?_
  refine lv_iload hx hb dL_law_347 (lv_at hl 4 rfl) ?_
  refine lv_iconst (v := (1 : Int32)) hx hb dL_law_349 (by decide) ?_
  refine lv_iadd hx hb dL_law_350 ?_
  refine va_sld hx hb hX hbl hbA hS hin1 dL_law_351 ?_
  refine lv_aload_n hx hb dL_law_352 rfl (lv_at hl 0 rfl) ?_
  refine lv_iload hx hb dL_law_353 (lv_at hl 4 rfl) ?_
  refine lv_iconst (v := (2 : Int32)) hx hb dL_law_355 (by decide) ?_
  refine lv_iadd hx hb dL_law_356 ?_
  refine va_sld hx hb hX hbl hbA hS hin2 dL_law_357 ?_
  refine va_calli (va_runV (As := [.int (xs (w + (1 : Int32)).toNatClampNeg), .int (xs (w + (2 : Int32)).toNatClampNeg)]) (rest := [.int r]) S (kc_X7_beside l D cy AM adM _ _ (xs (w + (1 : Int32)).toNatClampNeg) (xs (w + (2 : Int32)).toNatClampNeg) _ e7) (cwV 2 hts (wz_V (zin16 _ (List.mem_of_getElem? (i := 13) rfl)) (zin16 _ (List.mem_of_getElem? (i := 10) rfl)) (zin16 _ (List.mem_of_getElem? (i := 11) rfl)) (zin16 _ (List.mem_of_getElem? (i := 12) rfl)) (zin1 _ (List.mem_of_getElem? (i := 5) rfl))) rfl rfl rfl (by decide +kernel) ⟨Nat.le_of_ble_eq_true rfl, Nat.le_of_ble_eq_true rfl⟩) ⟨mw_blind _, zw_recv hK h7 (g := 0) (ci := 7) rfl rfl, mw_pre hK h7 _⟩ rfl rfl hl.1 rfl (lv_room (Nat.le_of_ble_eq_true rfl)) dL_law_358 ⟨by omega, by omega⟩) hS (fun q _ h => hAM q h) (fun q h => hAM q h) (fun r1 u1 t1 H1 locs1 ht hvm hq hB hz1 hk1 hS1 => ?_)
  obtain ⟨hq, hu⟩ := hq
  have hu := hu.symm
  subst hu
  have hq := hq.symm
  subst hq
  subst ht
  have h6 := zw_keep h6 (fun q h z => hk1 q h (fun y => hd q z y))
  have hO := va_at.kept hO (hk1 o (va_at.lt hO) hoM)
  have h7 := hB
  have hS := hS1
  have hhi := Nat.le_trans hhi hz1
  refine lv_icmp_eq (tgt := 1000) hx hb dL_law_361 (by decide) (fun c_0 => ?_) (fun c_0 => absurd rfl c_0)
  refine W.widen (k := cells + 100) (n := slots + 50000) (by omega) (by omega) ?_
  exact fin _ _ _ _ _ ⟨hR', hhi, ⟨ad, rfl, h6⟩, h7, ⟨f, hO⟩, hS⟩ hl
set_option maxHeartbeats 4000000 in
set_option maxRecDepth 100000 in
theorem law_c6 (hLC : LC p l s m args c D cy AC AM en tI tS b L o hi xs) (hI : LI s D cy AC AM xa o hi adM N σ τ H locs) (hN : N + 20 < 2147483648) (hrm : cells + 100 ≤ room_1.cells ∧ slots + 50000 ≤ room_1.slots) (hin0 : vp_in w L) (hin1 : vp_in (w + (1 : Int32)) L) (hin2 : vp_in (w + (2 : Int32)) L) (hin3 : vp_in (w + (3 : Int32)) L) (hin4 : vp_in (w + (4 : Int32)) L) (hl : lv_has ls 8 [(0, .ref b), (1, .ref xa), (2, .ref (adM 0)), (3, .ref o), (4, .int w)]) (fin : ∀ (σ' : CS) (τ' : MS) (H' : Heap) (locs' : List Loc) (ls' : Array Slot), LI s D cy AC AM xa o hi adM (N + 20) σ' τ' H' locs' → lv_has ls' 8 [(0, .ref b), (1, .ref xa), (2, .ref (adM 0)), (3, .ref o), (4, .int w)] → W p l e room_1 s m args below meth c H' locs' (cells + 100) (slots + 50000) Q (F0 m 1000 ls' [])) : W p l e room_1 s m args below meth c H locs cells slots Q (F0 m 366 ls []) := by
  obtain ⟨S, hst, hC, hX, hbl, hAC, hAM, hd, hob, hoC, hoM, hnC⟩ := hLC
  obtain ⟨hR, hhi, ⟨ad, rfl, h6⟩, h7, ⟨f, hO⟩, hS⟩ := hI
  obtain ⟨hx, hb, hml, hown, hts⟩ := id S
  have hbA : ¬ (fun q : Nat => s.heap.size ≤ q) b := Nat.not_le.mpr hbl
  have hK := hC.1
  have h00 := hR.h00
  obtain ⟨hr1, hr2⟩ := id hrm
  refine lv_aload_n hx hb dL_law_366 rfl (lv_at hl 1 rfl) ?_
  refine lv_aload_n hx hb dL_law_367 rfl (lv_at hl 0 rfl) ?_
  refine lv_iload hx hb dL_law_368 (lv_at hl 4 rfl) ?_
  refine lv_iconst (v := (1 : Int32)) hx hb dL_law_370 (by decide) ?_
  refine lv_iadd hx hb dL_law_371 ?_
  refine va_sld hx hb hX hbl hbA hS hin1 dL_law_372 ?_
  refine lv_aload_n hx hb dL_law_373 rfl (lv_at hl 0 rfl) ?_
  refine lv_iload hx hb dL_law_374 (lv_at hl 4 rfl) ?_
  refine lv_iconst (v := (2 : Int32)) hx hb dL_law_376 (by decide) ?_
  refine lv_iadd hx hb dL_law_377 ?_
  refine va_sld hx hb hX hbl hbA hS hin2 dL_law_378 ?_
  obtain ⟨r, σ', τ', e6, e7, hR'⟩ := sim_port hR (xs (w + (1 : Int32)).toNatClampNeg) (xs (w + (2 : Int32)).toNatClampNeg)
  refine va_calll (va_runV (As := [.int (xs (w + (1 : Int32)).toNatClampNeg), .int (xs (w + (2 : Int32)).toNatClampNeg)]) (rest := []) S (kc_X6_port l D cy AC ad en tI tS _ _ (xs (w + (1 : Int32)).toNatClampNeg) (xs (w + (2 : Int32)).toNatClampNeg) _ e6) (cwV 2 hts (wz_V (zin16 _ (List.mem_of_getElem? (i := 17) rfl)) (zin16 _ (List.mem_of_getElem? (i := 14) rfl)) (zin16 _ (List.mem_of_getElem? (i := 15) rfl)) (zin16 _ (List.mem_of_getElem? (i := 16) rfl)) (zin1 _ (List.mem_of_getElem? (i := 2) rfl))) rfl rfl rfl (by decide +kernel) ⟨Nat.le_of_ble_eq_true rfl, Nat.le_of_ble_eq_true rfl⟩) ⟨cw_blind _, zw_recv hK h6 (g := (0, 0)) (ci := 6) ((cG_at h00).trans rfl) rfl, fun U hU hW => ⟨rfl, by rw [hU]; exact h6, CK_law hC hS hAC (fun q h => hnC q (Nat.le_trans hhi h)) hU hW⟩⟩ rfl rfl hl.1 rfl (lv_room (Nat.le_of_ble_eq_true rfl)) dL_law_379 ⟨by omega, by omega⟩) hS (fun q _ h => hAC q h) (fun q h => hAC q h) (fun r0 u0 t0 H1 locs1 ht hvm hq hB hz1 hk1 hS1 => ?_)
  obtain ⟨hq, hu⟩ := hq
  have hu := hu.symm
  subst hu
  have hq := hq.symm
  subst hq
  subst ht
  have h7 := zw_keep h7 (fun q h z => hk1 q h (fun y => hd q y z))
  have hO := va_at.kept hO (hk1 o (va_at.lt hO) hoC)
  have h6 := hB
  have hS := hS1
  have hhi := Nat.le_trans hhi hz1
  refine lv_aload_n hx hb dL_law_382 rfl (lv_at hl 2 rfl) ?_
  refine lv_aload_n hx hb dL_law_383 rfl (lv_at hl 0 rfl) ?_
  refine lv_iload hx hb dL_law_384 (lv_at hl 4 rfl) ?_
  refine lv_iconst (v := (1 : Int32)) hx hb dL_law_386 (by decide) ?_
  refine lv_iadd hx hb dL_law_387 ?_
  refine va_sld hx hb hX hbl hbA hS hin1 dL_law_388 ?_
  refine lv_aload_n hx hb dL_law_389 rfl (lv_at hl 0 rfl) ?_
  refine lv_iload hx hb dL_law_390 (lv_at hl 4 rfl) ?_
  refine lv_iconst (v := (2 : Int32)) hx hb dL_law_392 (by decide) ?_
  refine lv_iadd hx hb dL_law_393 ?_
  refine va_sld hx hb hX hbl hbA hS hin2 dL_law_394 ?_
  refine va_calll (va_runV (As := [.int (xs (w + (1 : Int32)).toNatClampNeg), .int (xs (w + (2 : Int32)).toNatClampNeg)]) (rest := [.long r]) S (kc_X7_port l D cy AM adM _ _ (xs (w + (1 : Int32)).toNatClampNeg) (xs (w + (2 : Int32)).toNatClampNeg) _ e7) (cwV 2 hts (wz_V (zin16 _ (List.mem_of_getElem? (i := 22) rfl)) (zin16 _ (List.mem_of_getElem? (i := 19) rfl)) (zin16 _ (List.mem_of_getElem? (i := 20) rfl)) (zin16 _ (List.mem_of_getElem? (i := 21) rfl)) (zin1 _ (List.mem_of_getElem? (i := 5) rfl))) rfl rfl rfl (by decide +kernel) ⟨Nat.le_of_ble_eq_true rfl, Nat.le_of_ble_eq_true rfl⟩) ⟨mw_blind _, zw_recv hK h7 (g := 0) (ci := 7) rfl rfl, mw_pre hK h7 _⟩ rfl rfl hl.1 rfl (lv_room (Nat.le_of_ble_eq_true rfl)) dL_law_395 ⟨by omega, by omega⟩) hS (fun q _ h => hAM q h) (fun q h => hAM q h) (fun r1 u1 t1 H1 locs1 ht hvm hq hB hz1 hk1 hS1 => ?_)
  obtain ⟨hq, hu⟩ := hq
  have hu := hu.symm
  subst hu
  have hq := hq.symm
  subst hq
  subst ht
  have h6 := zw_keep h6 (fun q h z => hk1 q h (fun y => hd q z y))
  have hO := va_at.kept hO (hk1 o (va_at.lt hO) hoM)
  have h7 := hB
  have hS := hS1
  have hhi := Nat.le_trans hhi hz1
  refine W.lcmp hx hb dL_law_398 ?_
  refine lv_if_eq (tgt := 1000) hx hb dL_law_399 (by decide) (fun c_0 => ?_) (fun c_0 => absurd ((lg_cmp_eq _ _).mpr rfl) c_0)
  refine W.widen (k := cells + 100) (n := slots + 50000) (by omega) (by omega) ?_
  exact fin _ _ _ _ _ ⟨(hR'.mono (Nat.le_add_right _ _)), hhi, ⟨ad, rfl, h6⟩, h7, ⟨f, hO⟩, hS⟩ hl
set_option maxHeartbeats 4000000 in
set_option maxRecDepth 100000 in
theorem law_c7 (hLC : LC p l s m args c D cy AC AM en tI tS b L o hi xs) (hI : LI s D cy AC AM xa o hi adM N σ τ H locs) (hN : N + 20 < 2147483648) (hrm : cells + 100 ≤ room_1.cells ∧ slots + 50000 ≤ room_1.slots) (hin0 : vp_in w L) (hin1 : vp_in (w + (1 : Int32)) L) (hin2 : vp_in (w + (2 : Int32)) L) (hin3 : vp_in (w + (3 : Int32)) L) (hin4 : vp_in (w + (4 : Int32)) L) (hl : lv_has ls 8 [(0, .ref b), (1, .ref xa), (2, .ref (adM 0)), (3, .ref o), (4, .int w)]) (fin : ∀ (σ' : CS) (τ' : MS) (H' : Heap) (locs' : List Loc) (ls' : Array Slot), LI s D cy AC AM xa o hi adM (N + 20) σ' τ' H' locs' → lv_has ls' 8 [(0, .ref b), (1, .ref xa), (2, .ref (adM 0)), (3, .ref o), (4, .int w)] → W p l e room_1 s m args below meth c H' locs' (cells + 100) (slots + 50000) Q (F0 m 1000 ls' [])) : W p l e room_1 s m args below meth c H locs cells slots Q (F0 m 404 ls []) := by
  obtain ⟨S, hst, hC, hX, hbl, hAC, hAM, hd, hob, hoC, hoM, hnC⟩ := hLC
  obtain ⟨hR, hhi, ⟨ad, rfl, h6⟩, h7, ⟨f, hO⟩, hS⟩ := hI
  obtain ⟨hx, hb, hml, hown, hts⟩ := id S
  have hbA : ¬ (fun q : Nat => s.heap.size ≤ q) b := Nat.not_le.mpr hbl
  have hK := hC.1
  have h00 := hR.h00
  obtain ⟨hr1, hr2⟩ := id hrm
  refine lv_aload_n hx hb dL_law_404 rfl (lv_at hl 1 rfl) ?_
  refine lv_aload_n hx hb dL_law_405 rfl (lv_at hl 0 rfl) ?_
  refine lv_iload hx hb dL_law_406 (lv_at hl 4 rfl) ?_
  refine lv_iconst (v := (1 : Int32)) hx hb dL_law_408 (by decide) ?_
  refine lv_iadd hx hb dL_law_409 ?_
  refine va_sld hx hb hX hbl hbA hS hin1 dL_law_410 ?_
  refine lv_aload_n hx hb dL_law_411 rfl (lv_at hl 0 rfl) ?_
  refine lv_iload hx hb dL_law_412 (lv_at hl 4 rfl) ?_
  refine lv_iconst (v := (2 : Int32)) hx hb dL_law_414 (by decide) ?_
  refine lv_iadd hx hb dL_law_415 ?_
  refine va_sld hx hb hX hbl hbA hS hin2 dL_law_416 ?_
  refine lv_aload_n hx hb dL_law_417 rfl (lv_at hl 0 rfl) ?_
  refine lv_iload hx hb dL_law_418 (lv_at hl 4 rfl) ?_
  refine lv_iconst (v := (3 : Int32)) hx hb dL_law_420 (by decide) ?_
  refine lv_iadd hx hb dL_law_421 ?_
  refine va_sld hx hb hX hbl hbA hS hin3 dL_law_422 ?_
  refine lv_i2l (v := (xs (w + (3 : Int32)).toNatClampNeg).toInt64) hx hb dL_law_423 rfl ?_
  refine lv_bipush (v := (32 : Int32)) hx hb dL_law_424 (by decide) ?_
  refine lv_lshl (v := ((xs (w + (3 : Int32)).toNatClampNeg).toInt64) <<< ((32 : Int32).toInt64 &&& 63)) hx hb dL_law_426 rfl ?_
  refine lv_aload_n hx hb dL_law_427 rfl (lv_at hl 0 rfl) ?_
  refine lv_iload hx hb dL_law_428 (lv_at hl 4 rfl) ?_
  refine lv_iconst (v := (4 : Int32)) hx hb dL_law_430 (by decide) ?_
  refine lv_iadd hx hb dL_law_431 ?_
  refine va_sld hx hb hX hbl hbA hS hin4 dL_law_432 ?_
  refine lv_i2l (v := (xs (w + (4 : Int32)).toNatClampNeg).toInt64) hx hb dL_law_433 rfl ?_
  refine lv_ldc2 (v := (4294967295 : Int64)) hx hb hown (hts _ (wz_in (zin1 _ (List.mem_of_getElem? (i := 7) rfl)))) dL_law_434 ?_
  refine lv_land hx hb dL_law_437 ?_
  refine lv_lor hx hb dL_law_438 ?_
  obtain ⟨r, σ', τ', e6, e7, hR'⟩ := sim_set hR (xs (w + (1 : Int32)).toNatClampNeg) (xs (w + (2 : Int32)).toNatClampNeg) ((((xs (w + (3 : Int32)).toNatClampNeg).toInt64) <<< ((32 : Int32).toInt64 &&& 63)) ||| (((xs (w + (4 : Int32)).toNatClampNeg).toInt64) &&& (4294967295 : Int64)))
  refine va_calli (va_runV (As := [.int (xs (w + (1 : Int32)).toNatClampNeg), .int (xs (w + (2 : Int32)).toNatClampNeg), .long ((((xs (w + (3 : Int32)).toNatClampNeg).toInt64) <<< ((32 : Int32).toInt64 &&& 63)) ||| (((xs (w + (4 : Int32)).toNatClampNeg).toInt64) &&& (4294967295 : Int64)))]) (rest := []) S (kc_X6_set l D cy AC ad en tI tS _ _ (xs (w + (1 : Int32)).toNatClampNeg) (xs (w + (2 : Int32)).toNatClampNeg) ((((xs (w + (3 : Int32)).toNatClampNeg).toInt64) <<< ((32 : Int32).toInt64 &&& 63)) ||| (((xs (w + (4 : Int32)).toNatClampNeg).toInt64) &&& (4294967295 : Int64))) _ e6) (cwV 3 hts (wz_V (zin17 _ (List.mem_of_getElem? (i := 2) rfl)) (zin16 _ (List.mem_of_getElem? (i := 23) rfl)) (zin17 _ (List.mem_of_getElem? (i := 0) rfl)) (zin17 _ (List.mem_of_getElem? (i := 1) rfl)) (zin1 _ (List.mem_of_getElem? (i := 2) rfl))) rfl rfl rfl (by decide +kernel) ⟨Nat.le_of_ble_eq_true rfl, Nat.le_of_ble_eq_true rfl⟩) ⟨cw_blind _, zw_recv hK h6 (g := (0, 0)) (ci := 6) ((cG_at h00).trans rfl) rfl, fun U hU hW => ⟨rfl, by rw [hU]; exact h6, CK_law hC hS hAC (fun q h => hnC q (Nat.le_trans hhi h)) hU hW⟩⟩ rfl rfl hl.1 rfl (lv_room (Nat.le_of_ble_eq_true rfl)) dL_law_439 ⟨by omega, by omega⟩) hS (fun q _ h => hAC q h) (fun q h => hAC q h) (fun r0 u0 t0 H1 locs1 ht hvm hq hB hz1 hk1 hS1 => ?_)
  obtain ⟨hq, hu⟩ := hq
  have hu := hu.symm
  subst hu
  have hq := hq.symm
  subst hq
  subst ht
  have h7 := zw_keep h7 (fun q h z => hk1 q h (fun y => hd q y z))
  have hO := va_at.kept hO (hk1 o (va_at.lt hO) hoC)
  have h6 := hB
  have hS := hS1
  have hhi := Nat.le_trans hhi hz1
  refine lv_aload_n hx hb dL_law_442 rfl (lv_at hl 2 rfl) ?_
  refine lv_aload_n hx hb dL_law_443 rfl (lv_at hl 0 rfl) ?_
  refine lv_iload hx hb dL_law_444 (lv_at hl 4 rfl) ?_
  refine lv_iconst (v := (1 : Int32)) hx hb dL_law_446 (by decide) ?_
  refine lv_iadd hx hb dL_law_447 ?_
  refine va_sld hx hb hX hbl hbA hS hin1 dL_law_448 ?_
  refine lv_aload_n hx hb dL_law_449 rfl (lv_at hl 0 rfl) ?_
  refine lv_iload hx hb dL_law_450 (lv_at hl 4 rfl) ?_
  refine lv_iconst (v := (2 : Int32)) hx hb dL_law_452 (by decide) ?_
  refine lv_iadd hx hb dL_law_453 ?_
  refine va_sld hx hb hX hbl hbA hS hin2 dL_law_454 ?_
  refine lv_aload_n hx hb dL_law_455 rfl (lv_at hl 0 rfl) ?_
  refine lv_iload hx hb dL_law_456 (lv_at hl 4 rfl) ?_
  refine lv_iconst (v := (3 : Int32)) hx hb dL_law_458 (by decide) ?_
  refine lv_iadd hx hb dL_law_459 ?_
  refine va_sld hx hb hX hbl hbA hS hin3 dL_law_460 ?_
  refine lv_i2l (v := (xs (w + (3 : Int32)).toNatClampNeg).toInt64) hx hb dL_law_461 rfl ?_
  refine lv_bipush (v := (32 : Int32)) hx hb dL_law_462 (by decide) ?_
  refine lv_lshl (v := ((xs (w + (3 : Int32)).toNatClampNeg).toInt64) <<< ((32 : Int32).toInt64 &&& 63)) hx hb dL_law_464 rfl ?_
  refine lv_aload_n hx hb dL_law_465 rfl (lv_at hl 0 rfl) ?_
  refine lv_iload hx hb dL_law_466 (lv_at hl 4 rfl) ?_
  refine lv_iconst (v := (4 : Int32)) hx hb dL_law_468 (by decide) ?_
  refine lv_iadd hx hb dL_law_469 ?_
  refine va_sld hx hb hX hbl hbA hS hin4 dL_law_470 ?_
  refine lv_i2l (v := (xs (w + (4 : Int32)).toNatClampNeg).toInt64) hx hb dL_law_471 rfl ?_
  refine lv_ldc2 (v := (4294967295 : Int64)) hx hb hown (hts _ (wz_in (zin1 _ (List.mem_of_getElem? (i := 7) rfl)))) dL_law_472 ?_
  refine lv_land hx hb dL_law_475 ?_
  refine lv_lor hx hb dL_law_476 ?_
  refine va_calli (va_runV (As := [.int (xs (w + (1 : Int32)).toNatClampNeg), .int (xs (w + (2 : Int32)).toNatClampNeg), .long ((((xs (w + (3 : Int32)).toNatClampNeg).toInt64) <<< ((32 : Int32).toInt64 &&& 63)) ||| (((xs (w + (4 : Int32)).toNatClampNeg).toInt64) &&& (4294967295 : Int64)))]) (rest := [.int r]) S (kc_X7_set l D cy AM adM _ _ (xs (w + (1 : Int32)).toNatClampNeg) (xs (w + (2 : Int32)).toNatClampNeg) ((((xs (w + (3 : Int32)).toNatClampNeg).toInt64) <<< ((32 : Int32).toInt64 &&& 63)) ||| (((xs (w + (4 : Int32)).toNatClampNeg).toInt64) &&& (4294967295 : Int64))) _ e7) (cwV 3 hts (wz_V (zin17 _ (List.mem_of_getElem? (i := 7) rfl)) (zin17 _ (List.mem_of_getElem? (i := 4) rfl)) (zin17 _ (List.mem_of_getElem? (i := 5) rfl)) (zin17 _ (List.mem_of_getElem? (i := 6) rfl)) (zin1 _ (List.mem_of_getElem? (i := 5) rfl))) rfl rfl rfl (by decide +kernel) ⟨Nat.le_of_ble_eq_true rfl, Nat.le_of_ble_eq_true rfl⟩) ⟨mw_blind _, zw_recv hK h7 (g := 0) (ci := 7) rfl rfl, mw_pre hK h7 _⟩ rfl rfl hl.1 rfl (lv_room (Nat.le_of_ble_eq_true rfl)) dL_law_477 ⟨by omega, by omega⟩) hS (fun q _ h => hAM q h) (fun q h => hAM q h) (fun r1 u1 t1 H1 locs1 ht hvm hq hB hz1 hk1 hS1 => ?_)
  obtain ⟨hq, hu⟩ := hq
  have hu := hu.symm
  subst hu
  have hq := hq.symm
  subst hq
  subst ht
  have h6 := zw_keep h6 (fun q h z => hk1 q h (fun y => hd q z y))
  have hO := va_at.kept hO (hk1 o (va_at.lt hO) hoM)
  have h7 := hB
  have hS := hS1
  have hhi := Nat.le_trans hhi hz1
  refine lv_icmp_eq (tgt := 1000) hx hb dL_law_480 (by decide) (fun c_0 => ?_) (fun c_0 => absurd rfl c_0)
  refine W.widen (k := cells + 100) (n := slots + 50000) (by omega) (by omega) ?_
  exact fin _ _ _ _ _ ⟨(hR'.mono (Nat.le_add_right _ _)), hhi, ⟨ad, rfl, h6⟩, h7, ⟨f, hO⟩, hS⟩ hl
set_option maxHeartbeats 4000000 in
set_option maxRecDepth 100000 in
theorem law_c8 (hLC : LC p l s m args c D cy AC AM en tI tS b L o hi xs) (hI : LI s D cy AC AM xa o hi adM N σ τ H locs) (hN : N + 20 < 2147483648) (hrm : cells + 100 ≤ room_1.cells ∧ slots + 50000 ≤ room_1.slots) (hin0 : vp_in w L) (hin1 : vp_in (w + (1 : Int32)) L) (hin2 : vp_in (w + (2 : Int32)) L) (hin3 : vp_in (w + (3 : Int32)) L) (hin4 : vp_in (w + (4 : Int32)) L) (hl : lv_has ls 8 [(0, .ref b), (1, .ref xa), (2, .ref (adM 0)), (3, .ref o), (4, .int w)]) (fin : ∀ (σ' : CS) (τ' : MS) (H' : Heap) (locs' : List Loc) (ls' : Array Slot), LI s D cy AC AM xa o hi adM (N + 20) σ' τ' H' locs' → lv_has ls' 8 [(0, .ref b), (1, .ref xa), (2, .ref (adM 0)), (3, .ref o), (4, .int w)] → W p l e room_1 s m args below meth c H' locs' (cells + 100) (slots + 50000) Q (F0 m 1000 ls' [])) : W p l e room_1 s m args below meth c H locs cells slots Q (F0 m 485 ls []) := by
  obtain ⟨S, hst, hC, hX, hbl, hAC, hAM, hd, hob, hoC, hoM, hnC⟩ := hLC
  obtain ⟨hR, hhi, ⟨ad, rfl, h6⟩, h7, ⟨f, hO⟩, hS⟩ := hI
  obtain ⟨hx, hb, hml, hown, hts⟩ := id S
  have hbA : ¬ (fun q : Nat => s.heap.size ≤ q) b := Nat.not_le.mpr hbl
  have hK := hC.1
  have h00 := hR.h00
  obtain ⟨hr1, hr2⟩ := id hrm
  refine lv_aload_n hx hb dL_law_485 rfl (lv_at hl 1 rfl) ?_
  refine lv_aload_n hx hb dL_law_486 rfl (lv_at hl 0 rfl) ?_
  refine lv_iload hx hb dL_law_487 (lv_at hl 4 rfl) ?_
  refine lv_iconst (v := (1 : Int32)) hx hb dL_law_489 (by decide) ?_
  refine lv_iadd hx hb dL_law_490 ?_
  refine va_sld hx hb hX hbl hbA hS hin1 dL_law_491 ?_
  refine lv_aload_n hx hb dL_law_492 rfl (lv_at hl 0 rfl) ?_
  refine lv_iload hx hb dL_law_493 (lv_at hl 4 rfl) ?_
  refine lv_iconst (v := (2 : Int32)) hx hb dL_law_495 (by decide) ?_
  refine lv_iadd hx hb dL_law_496 ?_
  refine va_sld hx hb hX hbl hbA hS hin2 dL_law_497 ?_
  refine lv_aload_n hx hb dL_law_498 rfl (lv_at hl 0 rfl) ?_
  refine lv_iload hx hb dL_law_499 (lv_at hl 4 rfl) ?_
  refine lv_iconst (v := (3 : Int32)) hx hb dL_law_501 (by decide) ?_
  refine lv_iadd hx hb dL_law_502 ?_
  refine va_sld hx hb hX hbl hbA hS hin3 dL_law_503 ?_
  obtain ⟨r, σ', τ', e6, e7, hR'⟩ := sim_cell hR (xs (w + (1 : Int32)).toNatClampNeg) (xs (w + (2 : Int32)).toNatClampNeg) (xs (w + (3 : Int32)).toNatClampNeg)
  refine va_calll (va_runV (As := [.int (xs (w + (1 : Int32)).toNatClampNeg), .int (xs (w + (2 : Int32)).toNatClampNeg), .int (xs (w + (3 : Int32)).toNatClampNeg)]) (rest := []) S (kc_X6_cell l D cy AC ad en tI tS _ _ (xs (w + (1 : Int32)).toNatClampNeg) (xs (w + (2 : Int32)).toNatClampNeg) (xs (w + (3 : Int32)).toNatClampNeg) _ e6) (cwV 3 hts (wz_V (zin17 _ (List.mem_of_getElem? (i := 11) rfl)) (zin17 _ (List.mem_of_getElem? (i := 8) rfl)) (zin17 _ (List.mem_of_getElem? (i := 9) rfl)) (zin17 _ (List.mem_of_getElem? (i := 10) rfl)) (zin1 _ (List.mem_of_getElem? (i := 2) rfl))) rfl rfl rfl (by decide +kernel) ⟨Nat.le_of_ble_eq_true rfl, Nat.le_of_ble_eq_true rfl⟩) ⟨cw_blind _, zw_recv hK h6 (g := (0, 0)) (ci := 6) ((cG_at h00).trans rfl) rfl, fun U hU hW => ⟨rfl, by rw [hU]; exact h6, CK_law hC hS hAC (fun q h => hnC q (Nat.le_trans hhi h)) hU hW⟩⟩ rfl rfl hl.1 rfl (lv_room (Nat.le_of_ble_eq_true rfl)) dL_law_504 ⟨by omega, by omega⟩) hS (fun q _ h => hAC q h) (fun q h => hAC q h) (fun r0 u0 t0 H1 locs1 ht hvm hq hB hz1 hk1 hS1 => ?_)
  obtain ⟨hq, hu⟩ := hq
  have hu := hu.symm
  subst hu
  have hq := hq.symm
  subst hq
  subst ht
  have h7 := zw_keep h7 (fun q h z => hk1 q h (fun y => hd q y z))
  have hO := va_at.kept hO (hk1 o (va_at.lt hO) hoC)
  have h6 := hB
  have hS := hS1
  have hhi := Nat.le_trans hhi hz1
  refine lv_aload_n hx hb dL_law_507 rfl (lv_at hl 2 rfl) ?_
  refine lv_aload_n hx hb dL_law_508 rfl (lv_at hl 0 rfl) ?_
  refine lv_iload hx hb dL_law_509 (lv_at hl 4 rfl) ?_
  refine lv_iconst (v := (1 : Int32)) hx hb dL_law_511 (by decide) ?_
  refine lv_iadd hx hb dL_law_512 ?_
  refine va_sld hx hb hX hbl hbA hS hin1 dL_law_513 ?_
  refine lv_aload_n hx hb dL_law_514 rfl (lv_at hl 0 rfl) ?_
  refine lv_iload hx hb dL_law_515 (lv_at hl 4 rfl) ?_
  refine lv_iconst (v := (2 : Int32)) hx hb dL_law_517 (by decide) ?_
  refine lv_iadd hx hb dL_law_518 ?_
  refine va_sld hx hb hX hbl hbA hS hin2 dL_law_519 ?_
  refine lv_aload_n hx hb dL_law_520 rfl (lv_at hl 0 rfl) ?_
  refine lv_iload hx hb dL_law_521 (lv_at hl 4 rfl) ?_
  refine lv_iconst (v := (3 : Int32)) hx hb dL_law_523 (by decide) ?_
  refine lv_iadd hx hb dL_law_524 ?_
  refine va_sld hx hb hX hbl hbA hS hin3 dL_law_525 ?_
  refine va_calll (va_runV (As := [.int (xs (w + (1 : Int32)).toNatClampNeg), .int (xs (w + (2 : Int32)).toNatClampNeg), .int (xs (w + (3 : Int32)).toNatClampNeg)]) (rest := [.long r]) S (kc_X7_cell l D cy AM adM _ _ (xs (w + (1 : Int32)).toNatClampNeg) (xs (w + (2 : Int32)).toNatClampNeg) (xs (w + (3 : Int32)).toNatClampNeg) _ e7) (cwV 3 hts (wz_V (zin17 _ (List.mem_of_getElem? (i := 19) rfl)) (zin17 _ (List.mem_of_getElem? (i := 16) rfl)) (zin17 _ (List.mem_of_getElem? (i := 17) rfl)) (zin17 _ (List.mem_of_getElem? (i := 18) rfl)) (zin1 _ (List.mem_of_getElem? (i := 5) rfl))) rfl rfl rfl (by decide +kernel) ⟨Nat.le_of_ble_eq_true rfl, Nat.le_of_ble_eq_true rfl⟩) ⟨mw_blind _, zw_recv hK h7 (g := 0) (ci := 7) rfl rfl, mw_pre hK h7 _⟩ rfl rfl hl.1 rfl (lv_room (Nat.le_of_ble_eq_true rfl)) dL_law_526 ⟨by omega, by omega⟩) hS (fun q _ h => hAM q h) (fun q h => hAM q h) (fun r1 u1 t1 H1 locs1 ht hvm hq hB hz1 hk1 hS1 => ?_)
  obtain ⟨hq, hu⟩ := hq
  have hu := hu.symm
  subst hu
  have hq := hq.symm
  subst hq
  subst ht
  have h6 := zw_keep h6 (fun q h z => hk1 q h (fun y => hd q z y))
  have hO := va_at.kept hO (hk1 o (va_at.lt hO) hoM)
  have h7 := hB
  have hS := hS1
  have hhi := Nat.le_trans hhi hz1
  refine W.lcmp hx hb dL_law_529 ?_
  refine lv_if_eq (tgt := 1000) hx hb dL_law_530 (by decide) (fun c_0 => ?_) (fun c_0 => absurd ((lg_cmp_eq _ _).mpr rfl) c_0)
  refine W.widen (k := cells + 100) (n := slots + 50000) (by omega) (by omega) ?_
  exact fin _ _ _ _ _ ⟨(hR'.mono (Nat.le_add_right _ _)), hhi, ⟨ad, rfl, h6⟩, h7, ⟨f, hO⟩, hS⟩ hl
set_option maxHeartbeats 4000000 in
set_option maxRecDepth 100000 in
theorem law_c9 (hLC : LC p l s m args c D cy AC AM en tI tS b L o hi xs) (hI : LI s D cy AC AM xa o hi adM N σ τ H locs) (hN : N + 20 < 2147483648) (hrm : cells + 100 ≤ room_1.cells ∧ slots + 50000 ≤ room_1.slots) (hin0 : vp_in w L) (hin1 : vp_in (w + (1 : Int32)) L) (hin2 : vp_in (w + (2 : Int32)) L) (hin3 : vp_in (w + (3 : Int32)) L) (hin4 : vp_in (w + (4 : Int32)) L) (hl : lv_has ls 8 [(0, .ref b), (1, .ref xa), (2, .ref (adM 0)), (3, .ref o), (4, .int w)]) (fin : ∀ (σ' : CS) (τ' : MS) (H' : Heap) (locs' : List Loc) (ls' : Array Slot), LI s D cy AC AM xa o hi adM (N + 20) σ' τ' H' locs' → lv_has ls' 8 [(0, .ref b), (1, .ref xa), (2, .ref (adM 0)), (3, .ref o), (4, .int w)] → W p l e room_1 s m args below meth c H' locs' (cells + 100) (slots + 50000) Q (F0 m 1000 ls' [])) : W p l e room_1 s m args below meth c H locs cells slots Q (F0 m 535 ls []) := by
  obtain ⟨S, hst, hC, hX, hbl, hAC, hAM, hd, hob, hoC, hoM, hnC⟩ := hLC
  obtain ⟨hR, hhi, ⟨ad, rfl, h6⟩, h7, ⟨f, hO⟩, hS⟩ := hI
  obtain ⟨hx, hb, hml, hown, hts⟩ := id S
  have hbA : ¬ (fun q : Nat => s.heap.size ≤ q) b := Nat.not_le.mpr hbl
  have hK := hC.1
  have h00 := hR.h00
  obtain ⟨hr1, hr2⟩ := id hrm
  refine lv_aload_n hx hb dL_law_535 rfl (lv_at hl 1 rfl) ?_
  refine lv_aload_n hx hb dL_law_536 rfl (lv_at hl 0 rfl) ?_
  refine lv_iload hx hb dL_law_537 (lv_at hl 4 rfl) ?_
  refine lv_iconst (v := (1 : Int32)) hx hb dL_law_539 (by decide) ?_
  refine lv_iadd hx hb dL_law_540 ?_
  refine va_sld hx hb hX hbl hbA hS hin1 dL_law_541 ?_
  refine lv_aload_n hx hb dL_law_542 rfl (lv_at hl 0 rfl) ?_
  refine lv_iload hx hb dL_law_543 (lv_at hl 4 rfl) ?_
  refine lv_iconst (v := (2 : Int32)) hx hb dL_law_545 (by decide) ?_
  refine lv_iadd hx hb dL_law_546 ?_
  refine va_sld hx hb hX hbl hbA hS hin2 dL_law_547 ?_
  obtain ⟨r, σ', τ', e6, e7, hR'⟩ := sim_reaction hR (xs (w + (1 : Int32)).toNatClampNeg) (xs (w + (2 : Int32)).toNatClampNeg)
  refine va_calli (va_runV (As := [.int (xs (w + (1 : Int32)).toNatClampNeg), .int (xs (w + (2 : Int32)).toNatClampNeg)]) (rest := []) S (kc_X6_reaction l D cy AC ad en tI tS _ _ (xs (w + (1 : Int32)).toNatClampNeg) (xs (w + (2 : Int32)).toNatClampNeg) _ e6) (cwV 2 hts (wz_V (zin18 _ (List.mem_of_getElem? (i := 3) rfl)) (zin18 _ (List.mem_of_getElem? (i := 0) rfl)) (zin18 _ (List.mem_of_getElem? (i := 1) rfl)) (zin18 _ (List.mem_of_getElem? (i := 2) rfl)) (zin1 _ (List.mem_of_getElem? (i := 2) rfl))) rfl rfl rfl (by decide +kernel) ⟨Nat.le_of_ble_eq_true rfl, Nat.le_of_ble_eq_true rfl⟩) ⟨cw_blind _, zw_recv hK h6 (g := (0, 0)) (ci := 6) ((cG_at h00).trans rfl) rfl, fun U hU hW => ⟨rfl, by rw [hU]; exact h6, CK_law hC hS hAC (fun q h => hnC q (Nat.le_trans hhi h)) hU hW⟩⟩ rfl rfl hl.1 rfl (lv_room (Nat.le_of_ble_eq_true rfl)) dL_law_548 ⟨by omega, by omega⟩) hS (fun q _ h => hAC q h) (fun q h => hAC q h) (fun r0 u0 t0 H1 locs1 ht hvm hq hB hz1 hk1 hS1 => ?_)
  obtain ⟨hq, hu⟩ := hq
  have hu := hu.symm
  subst hu
  have hq := hq.symm
  subst hq
  subst ht
  have h7 := zw_keep h7 (fun q h z => hk1 q h (fun y => hd q y z))
  have hO := va_at.kept hO (hk1 o (va_at.lt hO) hoC)
  have h6 := hB
  have hS := hS1
  have hhi := Nat.le_trans hhi hz1
  refine lv_aload_n hx hb dL_law_551 rfl (lv_at hl 2 rfl) ?_
  refine lv_aload_n hx hb dL_law_552 rfl (lv_at hl 0 rfl) ?_
  refine lv_iload hx hb dL_law_553 (lv_at hl 4 rfl) ?_
  refine lv_iconst (v := (1 : Int32)) hx hb dL_law_555 (by decide) ?_
  refine lv_iadd hx hb dL_law_556 ?_
  refine va_sld hx hb hX hbl hbA hS hin1 dL_law_557 ?_
  refine lv_aload_n hx hb dL_law_558 rfl (lv_at hl 0 rfl) ?_
  refine lv_iload hx hb dL_law_559 (lv_at hl 4 rfl) ?_
  refine lv_iconst (v := (2 : Int32)) hx hb dL_law_561 (by decide) ?_
  refine lv_iadd hx hb dL_law_562 ?_
  refine va_sld hx hb hX hbl hbA hS hin2 dL_law_563 ?_
  refine va_calli (va_runV (As := [.int (xs (w + (1 : Int32)).toNatClampNeg), .int (xs (w + (2 : Int32)).toNatClampNeg)]) (rest := [.int r]) S (kc_X7_reaction l D cy AM adM _ _ (xs (w + (1 : Int32)).toNatClampNeg) (xs (w + (2 : Int32)).toNatClampNeg) _ e7) (cwV 2 hts (wz_V (zin18 _ (List.mem_of_getElem? (i := 7) rfl)) (zin18 _ (List.mem_of_getElem? (i := 4) rfl)) (zin18 _ (List.mem_of_getElem? (i := 5) rfl)) (zin18 _ (List.mem_of_getElem? (i := 6) rfl)) (zin1 _ (List.mem_of_getElem? (i := 5) rfl))) rfl rfl rfl (by decide +kernel) ⟨Nat.le_of_ble_eq_true rfl, Nat.le_of_ble_eq_true rfl⟩) ⟨mw_blind _, zw_recv hK h7 (g := 0) (ci := 7) rfl rfl, mw_pre hK h7 _⟩ rfl rfl hl.1 rfl (lv_room (Nat.le_of_ble_eq_true rfl)) dL_law_564 ⟨by omega, by omega⟩) hS (fun q _ h => hAM q h) (fun q h => hAM q h) (fun r1 u1 t1 H1 locs1 ht hvm hq hB hz1 hk1 hS1 => ?_)
  obtain ⟨hq, hu⟩ := hq
  have hu := hu.symm
  subst hu
  have hq := hq.symm
  subst hq
  subst ht
  have h6 := zw_keep h6 (fun q h z => hk1 q h (fun y => hd q z y))
  have hO := va_at.kept hO (hk1 o (va_at.lt hO) hoM)
  have h7 := hB
  have hS := hS1
  have hhi := Nat.le_trans hhi hz1
  refine lv_icmp_eq (tgt := 1000) hx hb dL_law_567 (by decide) (fun c_0 => ?_) (fun c_0 => absurd rfl c_0)
  refine W.widen (k := cells + 100) (n := slots + 50000) (by omega) (by omega) ?_
  exact fin _ _ _ _ _ ⟨(hR'.mono (Nat.le_add_right _ _)), hhi, ⟨ad, rfl, h6⟩, h7, ⟨f, hO⟩, hS⟩ hl
set_option maxHeartbeats 4000000 in
set_option maxRecDepth 100000 in
theorem law_c10 (hLC : LC p l s m args c D cy AC AM en tI tS b L o hi xs) (hI : LI s D cy AC AM xa o hi adM N σ τ H locs) (hN : N + 20 < 2147483648) (hrm : cells + 100 ≤ room_1.cells ∧ slots + 50000 ≤ room_1.slots) (hin0 : vp_in w L) (hin1 : vp_in (w + (1 : Int32)) L) (hin2 : vp_in (w + (2 : Int32)) L) (hin3 : vp_in (w + (3 : Int32)) L) (hin4 : vp_in (w + (4 : Int32)) L) (hl : lv_has ls 8 [(0, .ref b), (1, .ref xa), (2, .ref (adM 0)), (3, .ref o), (4, .int w)]) (fin : ∀ (σ' : CS) (τ' : MS) (H' : Heap) (locs' : List Loc) (ls' : Array Slot), LI s D cy AC AM xa o hi adM (N + 20) σ' τ' H' locs' → lv_has ls' 8 [(0, .ref b), (1, .ref xa), (2, .ref (adM 0)), (3, .ref o), (4, .int w)] → W p l e room_1 s m args below meth c H' locs' (cells + 100) (slots + 50000) Q (F0 m 1000 ls' [])) : W p l e room_1 s m args below meth c H locs cells slots Q (F0 m 572 ls []) := by
  obtain ⟨S, hst, hC, hX, hbl, hAC, hAM, hd, hob, hoC, hoM, hnC⟩ := hLC
  obtain ⟨hR, hhi, ⟨ad, rfl, h6⟩, h7, ⟨f, hO⟩, hS⟩ := hI
  obtain ⟨hx, hb, hml, hown, hts⟩ := id S
  have hbA : ¬ (fun q : Nat => s.heap.size ≤ q) b := Nat.not_le.mpr hbl
  have hK := hC.1
  have h00 := hR.h00
  obtain ⟨hr1, hr2⟩ := id hrm
  refine lv_aload_n hx hb dL_law_572 rfl (lv_at hl 1 rfl) ?_
  refine lv_aload_n hx hb dL_law_573 rfl (lv_at hl 0 rfl) ?_
  refine lv_iload hx hb dL_law_574 (lv_at hl 4 rfl) ?_
  refine lv_iconst (v := (1 : Int32)) hx hb dL_law_576 (by decide) ?_
  refine lv_iadd hx hb dL_law_577 ?_
  refine va_sld hx hb hX hbl hbA hS hin1 dL_law_578 ?_
  refine lv_aload_n hx hb dL_law_579 rfl (lv_at hl 0 rfl) ?_
  refine lv_iload hx hb dL_law_580 (lv_at hl 4 rfl) ?_
  refine lv_iconst (v := (2 : Int32)) hx hb dL_law_582 (by decide) ?_
  refine lv_iadd hx hb dL_law_583 ?_
  refine va_sld hx hb hX hbl hbA hS hin2 dL_law_584 ?_
  obtain ⟨r, σ', τ', e6, e7, hR'⟩ := sim_update hR (xs (w + (1 : Int32)).toNatClampNeg) (xs (w + (2 : Int32)).toNatClampNeg)
  refine va_calli (va_runV (As := [.int (xs (w + (1 : Int32)).toNatClampNeg), .int (xs (w + (2 : Int32)).toNatClampNeg)]) (rest := []) S (kc_X6_update l D cy AC ad en tI tS _ _ (xs (w + (1 : Int32)).toNatClampNeg) (xs (w + (2 : Int32)).toNatClampNeg) _ e6) (cwV 2 hts (wz_V (zin18 _ (List.mem_of_getElem? (i := 11) rfl)) (zin18 _ (List.mem_of_getElem? (i := 8) rfl)) (zin18 _ (List.mem_of_getElem? (i := 9) rfl)) (zin18 _ (List.mem_of_getElem? (i := 10) rfl)) (zin1 _ (List.mem_of_getElem? (i := 2) rfl))) rfl rfl rfl (by decide +kernel) ⟨Nat.le_of_ble_eq_true rfl, Nat.le_of_ble_eq_true rfl⟩) ⟨cw_blind _, zw_recv hK h6 (g := (0, 0)) (ci := 6) ((cG_at h00).trans rfl) rfl, fun U hU hW => ⟨rfl, by rw [hU]; exact h6, CK_law hC hS hAC (fun q h => hnC q (Nat.le_trans hhi h)) hU hW⟩⟩ rfl rfl hl.1 rfl (lv_room (Nat.le_of_ble_eq_true rfl)) dL_law_585 ⟨by omega, by omega⟩) hS (fun q _ h => hAC q h) (fun q h => hAC q h) (fun r0 u0 t0 H1 locs1 ht hvm hq hB hz1 hk1 hS1 => ?_)
  obtain ⟨hq, hu⟩ := hq
  have hu := hu.symm
  subst hu
  have hq := hq.symm
  subst hq
  subst ht
  have h7 := zw_keep h7 (fun q h z => hk1 q h (fun y => hd q y z))
  have hO := va_at.kept hO (hk1 o (va_at.lt hO) hoC)
  have h6 := hB
  have hS := hS1
  have hhi := Nat.le_trans hhi hz1
  refine lv_aload_n hx hb dL_law_588 rfl (lv_at hl 2 rfl) ?_
  refine lv_aload_n hx hb dL_law_589 rfl (lv_at hl 0 rfl) ?_
  refine lv_iload hx hb dL_law_590 (lv_at hl 4 rfl) ?_
  refine lv_iconst (v := (1 : Int32)) hx hb dL_law_592 (by decide) ?_
  refine lv_iadd hx hb dL_law_593 ?_
  refine va_sld hx hb hX hbl hbA hS hin1 dL_law_594 ?_
  refine lv_aload_n hx hb dL_law_595 rfl (lv_at hl 0 rfl) ?_
  refine lv_iload hx hb dL_law_596 (lv_at hl 4 rfl) ?_
  refine lv_iconst (v := (2 : Int32)) hx hb dL_law_598 (by decide) ?_
  refine lv_iadd hx hb dL_law_599 ?_
  refine va_sld hx hb hX hbl hbA hS hin2 dL_law_600 ?_
  refine va_calli (va_runV (As := [.int (xs (w + (1 : Int32)).toNatClampNeg), .int (xs (w + (2 : Int32)).toNatClampNeg)]) (rest := [.int r]) S (kc_X7_update l D cy AM adM _ _ (xs (w + (1 : Int32)).toNatClampNeg) (xs (w + (2 : Int32)).toNatClampNeg) _ e7) (cwV 2 hts (wz_V (zin18 _ (List.mem_of_getElem? (i := 19) rfl)) (zin18 _ (List.mem_of_getElem? (i := 16) rfl)) (zin18 _ (List.mem_of_getElem? (i := 17) rfl)) (zin18 _ (List.mem_of_getElem? (i := 18) rfl)) (zin1 _ (List.mem_of_getElem? (i := 5) rfl))) rfl rfl rfl (by decide +kernel) ⟨Nat.le_of_ble_eq_true rfl, Nat.le_of_ble_eq_true rfl⟩) ⟨mw_blind _, zw_recv hK h7 (g := 0) (ci := 7) rfl rfl, mw_pre hK h7 _⟩ rfl rfl hl.1 rfl (lv_room (Nat.le_of_ble_eq_true rfl)) dL_law_601 ⟨by omega, by omega⟩) hS (fun q _ h => hAM q h) (fun q h => hAM q h) (fun r1 u1 t1 H1 locs1 ht hvm hq hB hz1 hk1 hS1 => ?_)
  obtain ⟨hq, hu⟩ := hq
  have hu := hu.symm
  subst hu
  have hq := hq.symm
  subst hq
  subst ht
  have h6 := zw_keep h6 (fun q h z => hk1 q h (fun y => hd q z y))
  have hO := va_at.kept hO (hk1 o (va_at.lt hO) hoM)
  have h7 := hB
  have hS := hS1
  have hhi := Nat.le_trans hhi hz1
  refine lv_icmp_eq (tgt := 1000) hx hb dL_law_604 (by decide) (fun c_0 => ?_) (fun c_0 => absurd rfl c_0)
  refine W.widen (k := cells + 100) (n := slots + 50000) (by omega) (by omega) ?_
  exact fin _ _ _ _ _ ⟨(hR'.mono (Nat.le_add_right _ _)), hhi, ⟨ad, rfl, h6⟩, h7, ⟨f, hO⟩, hS⟩ hl
set_option maxHeartbeats 4000000 in
set_option maxRecDepth 100000 in
theorem law_c11 (hLC : LC p l s m args c D cy AC AM en tI tS b L o hi xs) (hI : LI s D cy AC AM xa o hi adM N σ τ H locs) (hN : N + 20 < 2147483648) (hrm : cells + 100 ≤ room_1.cells ∧ slots + 50000 ≤ room_1.slots) (hin0 : vp_in w L) (hin1 : vp_in (w + (1 : Int32)) L) (hin2 : vp_in (w + (2 : Int32)) L) (hin3 : vp_in (w + (3 : Int32)) L) (hin4 : vp_in (w + (4 : Int32)) L) (hl : lv_has ls 8 [(0, .ref b), (1, .ref xa), (2, .ref (adM 0)), (3, .ref o), (4, .int w)]) (fin : ∀ (σ' : CS) (τ' : MS) (H' : Heap) (locs' : List Loc) (ls' : Array Slot), LI s D cy AC AM xa o hi adM (N + 20) σ' τ' H' locs' → lv_has ls' 8 [(0, .ref b), (1, .ref xa), (2, .ref (adM 0)), (3, .ref o), (4, .int w)] → W p l e room_1 s m args below meth c H' locs' (cells + 100) (slots + 50000) Q (F0 m 1000 ls' [])) : W p l e room_1 s m args below meth c H locs cells slots Q (F0 m 609 ls []) := by
  obtain ⟨S, hst, hC, hX, hbl, hAC, hAM, hd, hob, hoC, hoM, hnC⟩ := hLC
  obtain ⟨hR, hhi, ⟨ad, rfl, h6⟩, h7, ⟨f, hO⟩, hS⟩ := hI
  obtain ⟨hx, hb, hml, hown, hts⟩ := id S
  have hbA : ¬ (fun q : Nat => s.heap.size ≤ q) b := Nat.not_le.mpr hbl
  have hK := hC.1
  have h00 := hR.h00
  obtain ⟨hr1, hr2⟩ := id hrm
  refine lv_aload_n hx hb dL_law_609 rfl (lv_at hl 1 rfl) ?_
  refine lv_aload_n hx hb dL_law_610 rfl (lv_at hl 0 rfl) ?_
  refine lv_iload hx hb dL_law_611 (lv_at hl 4 rfl) ?_
  refine lv_iconst (v := (1 : Int32)) hx hb dL_law_613 (by decide) ?_
  refine lv_iadd hx hb dL_law_614 ?_
  refine va_sld hx hb hX hbl hbA hS hin1 dL_law_615 ?_
  obtain ⟨r, σ', τ', e6, e7, hR'⟩ := sim_reset hR (xs (w + (1 : Int32)).toNatClampNeg)
  refine va_calli (va_runV (As := [.int (xs (w + (1 : Int32)).toNatClampNeg)]) (rest := []) S (kc_X6_reset l D cy AC ad en tI tS _ _ (xs (w + (1 : Int32)).toNatClampNeg) _ e6) (cwV 1 hts (wz_V (zin18 _ (List.mem_of_getElem? (i := 23) rfl)) (zin18 _ (List.mem_of_getElem? (i := 20) rfl)) (zin18 _ (List.mem_of_getElem? (i := 21) rfl)) (zin18 _ (List.mem_of_getElem? (i := 22) rfl)) (zin1 _ (List.mem_of_getElem? (i := 2) rfl))) rfl rfl rfl (by decide +kernel) ⟨Nat.le_of_ble_eq_true rfl, Nat.le_of_ble_eq_true rfl⟩) ⟨cw_blind _, zw_recv hK h6 (g := (0, 0)) (ci := 6) ((cG_at h00).trans rfl) rfl, fun U hU hW => ⟨rfl, by rw [hU]; exact h6, CK_law hC hS hAC (fun q h => hnC q (Nat.le_trans hhi h)) hU hW⟩⟩ rfl rfl hl.1 rfl (lv_room (Nat.le_of_ble_eq_true rfl)) dL_law_616 ⟨by omega, by omega⟩) hS (fun q _ h => hAC q h) (fun q h => hAC q h) (fun r0 u0 t0 H1 locs1 ht hvm hq hB hz1 hk1 hS1 => ?_)
  obtain ⟨hq, hu⟩ := hq
  have hu := hu.symm
  subst hu
  have hq := hq.symm
  subst hq
  subst ht
  have h7 := zw_keep h7 (fun q h z => hk1 q h (fun y => hd q y z))
  have hO := va_at.kept hO (hk1 o (va_at.lt hO) hoC)
  have h6 := hB
  have hS := hS1
  have hhi := Nat.le_trans hhi hz1
  refine lv_aload_n hx hb dL_law_619 rfl (lv_at hl 2 rfl) ?_
  refine lv_aload_n hx hb dL_law_620 rfl (lv_at hl 0 rfl) ?_
  refine lv_iload hx hb dL_law_621 (lv_at hl 4 rfl) ?_
  refine lv_iconst (v := (1 : Int32)) hx hb dL_law_623 (by decide) ?_
  refine lv_iadd hx hb dL_law_624 ?_
  refine va_sld hx hb hX hbl hbA hS hin1 dL_law_625 ?_
  refine va_calli (va_runV (As := [.int (xs (w + (1 : Int32)).toNatClampNeg)]) (rest := [.int r]) S (kc_X7_reset l D cy AM adM _ _ (xs (w + (1 : Int32)).toNatClampNeg) _ e7) (cwV 1 hts (wz_V (zin19 _ (List.mem_of_getElem? (i := 6) rfl)) (zin19 _ (List.mem_of_getElem? (i := 3) rfl)) (zin19 _ (List.mem_of_getElem? (i := 4) rfl)) (zin19 _ (List.mem_of_getElem? (i := 5) rfl)) (zin1 _ (List.mem_of_getElem? (i := 5) rfl))) rfl rfl rfl (by decide +kernel) ⟨Nat.le_of_ble_eq_true rfl, Nat.le_of_ble_eq_true rfl⟩) ⟨mw_blind _, zw_recv hK h7 (g := 0) (ci := 7) rfl rfl, mw_pre hK h7 _⟩ rfl rfl hl.1 rfl (lv_room (Nat.le_of_ble_eq_true rfl)) dL_law_626 ⟨by omega, by omega⟩) hS (fun q _ h => hAM q h) (fun q h => hAM q h) (fun r1 u1 t1 H1 locs1 ht hvm hq hB hz1 hk1 hS1 => ?_)
  obtain ⟨hq, hu⟩ := hq
  have hu := hu.symm
  subst hu
  have hq := hq.symm
  subst hq
  subst ht
  have h6 := zw_keep h6 (fun q h z => hk1 q h (fun y => hd q z y))
  have hO := va_at.kept hO (hk1 o (va_at.lt hO) hoM)
  have h7 := hB
  have hS := hS1
  have hhi := Nat.le_trans hhi hz1
  refine lv_icmp_eq (tgt := 1000) hx hb dL_law_629 (by decide) (fun c_0 => ?_) (fun c_0 => absurd rfl c_0)
  refine W.widen (k := cells + 100) (n := slots + 50000) (by omega) (by omega) ?_
  exact fin _ _ _ _ _ ⟨(hR'.mono (Nat.le_add_right _ _)), hhi, ⟨ad, rfl, h6⟩, h7, ⟨f, hO⟩, hS⟩ hl
set_option maxHeartbeats 4000000 in
set_option maxRecDepth 100000 in
theorem law_c12 (hLC : LC p l s m args c D cy AC AM en tI tS b L o hi xs) (hI : LI s D cy AC AM xa o hi adM N σ τ H locs) (hN : N + 20 < 2147483648) (hrm : cells + 100 ≤ room_1.cells ∧ slots + 50000 ≤ room_1.slots) (hin0 : vp_in w L) (hin1 : vp_in (w + (1 : Int32)) L) (hin2 : vp_in (w + (2 : Int32)) L) (hin3 : vp_in (w + (3 : Int32)) L) (hin4 : vp_in (w + (4 : Int32)) L) (hl : lv_has ls 8 [(0, .ref b), (1, .ref xa), (2, .ref (adM 0)), (3, .ref o), (4, .int w)]) (fin : ∀ (σ' : CS) (τ' : MS) (H' : Heap) (locs' : List Loc) (ls' : Array Slot), LI s D cy AC AM xa o hi adM (N + 20) σ' τ' H' locs' → lv_has ls' 8 [(0, .ref b), (1, .ref xa), (2, .ref (adM 0)), (3, .ref o), (4, .int w)] → W p l e room_1 s m args below meth c H' locs' (cells + 100) (slots + 50000) Q (F0 m 1000 ls' [])) : W p l e room_1 s m args below meth c H locs cells slots Q (F0 m 634 ls []) := by
  obtain ⟨S, hst, hC, hX, hbl, hAC, hAM, hd, hob, hoC, hoM, hnC⟩ := hLC
  obtain ⟨hR, hhi, ⟨ad, rfl, h6⟩, h7, ⟨f, hO⟩, hS⟩ := hI
  obtain ⟨hx, hb, hml, hown, hts⟩ := id S
  have hbA : ¬ (fun q : Nat => s.heap.size ≤ q) b := Nat.not_le.mpr hbl
  have hK := hC.1
  have h00 := hR.h00
  obtain ⟨hr1, hr2⟩ := id hrm
  refine lv_aload_n hx hb dL_law_634 rfl (lv_at hl 1 rfl) ?_
  refine lv_aload_n hx hb dL_law_635 rfl (lv_at hl 0 rfl) ?_
  refine lv_iload hx hb dL_law_636 (lv_at hl 4 rfl) ?_
  refine lv_iconst (v := (1 : Int32)) hx hb dL_law_638 (by decide) ?_
  refine lv_iadd hx hb dL_law_639 ?_
  refine va_sld hx hb hX hbl hbA hS hin1 dL_law_640 ?_
  refine lv_aload_n hx hb dL_law_641 rfl (lv_at hl 0 rfl) ?_
  refine lv_iload hx hb dL_law_642 (lv_at hl 4 rfl) ?_
  refine lv_iconst (v := (2 : Int32)) hx hb dL_law_644 (by decide) ?_
  refine lv_iadd hx hb dL_law_645 ?_
  refine va_sld hx hb hX hbl hbA hS hin2 dL_law_646 ?_
  obtain ⟨r, σ', τ', e6, e7, hR'⟩ := sim_fault hR (xs (w + (1 : Int32)).toNatClampNeg) (xs (w + (2 : Int32)).toNatClampNeg)
  refine va_calli (va_runV (As := [.int (xs (w + (1 : Int32)).toNatClampNeg), .int (xs (w + (2 : Int32)).toNatClampNeg)]) (rest := []) S (kc_X6_fault l D cy AC ad en tI tS _ _ (xs (w + (1 : Int32)).toNatClampNeg) (xs (w + (2 : Int32)).toNatClampNeg) _ e6) (cwV 2 hts (wz_V (zin19 _ (List.mem_of_getElem? (i := 10) rfl)) (zin19 _ (List.mem_of_getElem? (i := 7) rfl)) (zin19 _ (List.mem_of_getElem? (i := 8) rfl)) (zin19 _ (List.mem_of_getElem? (i := 9) rfl)) (zin1 _ (List.mem_of_getElem? (i := 2) rfl))) rfl rfl rfl (by decide +kernel) ⟨Nat.le_of_ble_eq_true rfl, Nat.le_of_ble_eq_true rfl⟩) ⟨cw_blind _, zw_recv hK h6 (g := (0, 0)) (ci := 6) ((cG_at h00).trans rfl) rfl, fun U hU hW => ⟨rfl, by rw [hU]; exact h6, CK_law hC hS hAC (fun q h => hnC q (Nat.le_trans hhi h)) hU hW⟩⟩ rfl rfl hl.1 rfl (lv_room (Nat.le_of_ble_eq_true rfl)) dL_law_647 ⟨by omega, by omega⟩) hS (fun q _ h => hAC q h) (fun q h => hAC q h) (fun r0 u0 t0 H1 locs1 ht hvm hq hB hz1 hk1 hS1 => ?_)
  obtain ⟨hq, hu⟩ := hq
  have hu := hu.symm
  subst hu
  have hq := hq.symm
  subst hq
  subst ht
  have h7 := zw_keep h7 (fun q h z => hk1 q h (fun y => hd q y z))
  have hO := va_at.kept hO (hk1 o (va_at.lt hO) hoC)
  have h6 := hB
  have hS := hS1
  have hhi := Nat.le_trans hhi hz1
  refine lv_aload_n hx hb dL_law_650 rfl (lv_at hl 2 rfl) ?_
  refine lv_aload_n hx hb dL_law_651 rfl (lv_at hl 0 rfl) ?_
  refine lv_iload hx hb dL_law_652 (lv_at hl 4 rfl) ?_
  refine lv_iconst (v := (1 : Int32)) hx hb dL_law_654 (by decide) ?_
  refine lv_iadd hx hb dL_law_655 ?_
  refine va_sld hx hb hX hbl hbA hS hin1 dL_law_656 ?_
  refine lv_aload_n hx hb dL_law_657 rfl (lv_at hl 0 rfl) ?_
  refine lv_iload hx hb dL_law_658 (lv_at hl 4 rfl) ?_
  refine lv_iconst (v := (2 : Int32)) hx hb dL_law_660 (by decide) ?_
  refine lv_iadd hx hb dL_law_661 ?_
  refine va_sld hx hb hX hbl hbA hS hin2 dL_law_662 ?_
  refine va_calli (va_runV (As := [.int (xs (w + (1 : Int32)).toNatClampNeg), .int (xs (w + (2 : Int32)).toNatClampNeg)]) (rest := [.int r]) S (kc_X7_fault l D cy AM adM _ _ (xs (w + (1 : Int32)).toNatClampNeg) (xs (w + (2 : Int32)).toNatClampNeg) _ e7) (cwV 2 hts (wz_V (zin19 _ (List.mem_of_getElem? (i := 14) rfl)) (zin19 _ (List.mem_of_getElem? (i := 11) rfl)) (zin19 _ (List.mem_of_getElem? (i := 12) rfl)) (zin19 _ (List.mem_of_getElem? (i := 13) rfl)) (zin1 _ (List.mem_of_getElem? (i := 5) rfl))) rfl rfl rfl (by decide +kernel) ⟨Nat.le_of_ble_eq_true rfl, Nat.le_of_ble_eq_true rfl⟩) ⟨mw_blind _, zw_recv hK h7 (g := 0) (ci := 7) rfl rfl, mw_pre hK h7 _⟩ rfl rfl hl.1 rfl (lv_room (Nat.le_of_ble_eq_true rfl)) dL_law_663 ⟨by omega, by omega⟩) hS (fun q _ h => hAM q h) (fun q h => hAM q h) (fun r1 u1 t1 H1 locs1 ht hvm hq hB hz1 hk1 hS1 => ?_)
  obtain ⟨hq, hu⟩ := hq
  have hu := hu.symm
  subst hu
  have hq := hq.symm
  subst hq
  subst ht
  have h6 := zw_keep h6 (fun q h z => hk1 q h (fun y => hd q z y))
  have hO := va_at.kept hO (hk1 o (va_at.lt hO) hoM)
  have h7 := hB
  have hS := hS1
  have hhi := Nat.le_trans hhi hz1
  refine lv_icmp_eq (tgt := 1000) hx hb dL_law_666 (by decide) (fun c_0 => ?_) (fun c_0 => absurd rfl c_0)
  refine W.widen (k := cells + 100) (n := slots + 50000) (by omega) (by omega) ?_
  exact fin _ _ _ _ _ ⟨(hR'.mono (Nat.le_add_right _ _)), hhi, ⟨ad, rfl, h6⟩, h7, ⟨f, hO⟩, hS⟩ hl
set_option maxHeartbeats 4000000 in
set_option maxRecDepth 100000 in
theorem law_c13 (hLC : LC p l s m args c D cy AC AM en tI tS b L o hi xs) (hI : LI s D cy AC AM xa o hi adM N σ τ H locs) (hN : N + 20 < 2147483648) (hrm : cells + 100 ≤ room_1.cells ∧ slots + 50000 ≤ room_1.slots) (hin0 : vp_in w L) (hin1 : vp_in (w + (1 : Int32)) L) (hin2 : vp_in (w + (2 : Int32)) L) (hin3 : vp_in (w + (3 : Int32)) L) (hin4 : vp_in (w + (4 : Int32)) L) (hl : lv_has ls 8 [(0, .ref b), (1, .ref xa), (2, .ref (adM 0)), (3, .ref o), (4, .int w)]) (fin : ∀ (σ' : CS) (τ' : MS) (H' : Heap) (locs' : List Loc) (ls' : Array Slot), LI s D cy AC AM xa o hi adM (N + 20) σ' τ' H' locs' → lv_has ls' 8 [(0, .ref b), (1, .ref xa), (2, .ref (adM 0)), (3, .ref o), (4, .int w)] → W p l e room_1 s m args below meth c H' locs' (cells + 100) (slots + 50000) Q (F0 m 1000 ls' [])) : W p l e room_1 s m args below meth c H locs cells slots Q (F0 m 671 ls []) := by
  obtain ⟨S, hst, hC, hX, hbl, hAC, hAM, hd, hob, hoC, hoM, hnC⟩ := hLC
  obtain ⟨hR, hhi, ⟨ad, rfl, h6⟩, h7, ⟨f, hO⟩, hS⟩ := hI
  obtain ⟨hx, hb, hml, hown, hts⟩ := id S
  have hbA : ¬ (fun q : Nat => s.heap.size ≤ q) b := Nat.not_le.mpr hbl
  have hK := hC.1
  have h00 := hR.h00
  obtain ⟨hr1, hr2⟩ := id hrm
  refine lv_aload_n hx hb dL_law_671 rfl (lv_at hl 1 rfl) ?_
  refine lv_aload_n hx hb dL_law_672 rfl (lv_at hl 0 rfl) ?_
  refine lv_iload hx hb dL_law_673 (lv_at hl 4 rfl) ?_
  refine lv_iconst (v := (1 : Int32)) hx hb dL_law_675 (by decide) ?_
  refine lv_iadd hx hb dL_law_676 ?_
  refine va_sld hx hb hX hbl hbA hS hin1 dL_law_677 ?_
  refine lv_aload_n hx hb dL_law_678 rfl (lv_at hl 0 rfl) ?_
  refine lv_iload hx hb dL_law_679 (lv_at hl 4 rfl) ?_
  refine lv_iconst (v := (2 : Int32)) hx hb dL_law_681 (by decide) ?_
  refine lv_iadd hx hb dL_law_682 ?_
  refine va_sld hx hb hX hbl hbA hS hin2 dL_law_683 ?_
  refine lv_aload_n hx hb dL_law_684 rfl (lv_at hl 0 rfl) ?_
  refine lv_iload hx hb dL_law_685 (lv_at hl 4 rfl) ?_
  refine lv_iconst (v := (3 : Int32)) hx hb dL_law_687 (by decide) ?_
  refine lv_iadd hx hb dL_law_688 ?_
  refine va_sld hx hb hX hbl hbA hS hin3 dL_law_689 ?_
  obtain ⟨r, σ', τ', e6, e7, hR'⟩ := sim_same3 hR (xs (w + (1 : Int32)).toNatClampNeg) (xs (w + (2 : Int32)).toNatClampNeg) (xs (w + (3 : Int32)).toNatClampNeg)
  refine va_calli (va_runV (As := [.int (xs (w + (1 : Int32)).toNatClampNeg), .int (xs (w + (2 : Int32)).toNatClampNeg), .int (xs (w + (3 : Int32)).toNatClampNeg)]) (rest := []) S (kc_X6_same l D cy AC ad en tI tS _ _ (xs (w + (1 : Int32)).toNatClampNeg) (xs (w + (2 : Int32)).toNatClampNeg) (xs (w + (3 : Int32)).toNatClampNeg) _ e6) (cwV 3 hts (wz_V (zin19 _ (List.mem_of_getElem? (i := 18) rfl)) (zin19 _ (List.mem_of_getElem? (i := 15) rfl)) (zin19 _ (List.mem_of_getElem? (i := 16) rfl)) (zin19 _ (List.mem_of_getElem? (i := 17) rfl)) (zin1 _ (List.mem_of_getElem? (i := 2) rfl))) rfl rfl rfl (by decide +kernel) ⟨Nat.le_of_ble_eq_true rfl, Nat.le_of_ble_eq_true rfl⟩) ⟨cw_blind _, zw_recv hK h6 (g := (0, 0)) (ci := 6) ((cG_at h00).trans rfl) rfl, fun U hU hW => ⟨rfl, by rw [hU]; exact h6, CK_law hC hS hAC (fun q h => hnC q (Nat.le_trans hhi h)) hU hW⟩⟩ rfl rfl hl.1 rfl (lv_room (Nat.le_of_ble_eq_true rfl)) dL_law_690 ⟨by omega, by omega⟩) hS (fun q _ h => hAC q h) (fun q h => hAC q h) (fun r0 u0 t0 H1 locs1 ht hvm hq hB hz1 hk1 hS1 => ?_)
  obtain ⟨hq, hu⟩ := hq
  have hu := hu.symm
  subst hu
  have hq := hq.symm
  subst hq
  subst ht
  have h7 := zw_keep h7 (fun q h z => hk1 q h (fun y => hd q y z))
  have hO := va_at.kept hO (hk1 o (va_at.lt hO) hoC)
  have h6 := hB
  have hS := hS1
  have hhi := Nat.le_trans hhi hz1
  refine lv_aload_n hx hb dL_law_693 rfl (lv_at hl 2 rfl) ?_
  refine lv_aload_n hx hb dL_law_694 rfl (lv_at hl 0 rfl) ?_
  refine lv_iload hx hb dL_law_695 (lv_at hl 4 rfl) ?_
  refine lv_iconst (v := (1 : Int32)) hx hb dL_law_697 (by decide) ?_
  refine lv_iadd hx hb dL_law_698 ?_
  refine va_sld hx hb hX hbl hbA hS hin1 dL_law_699 ?_
  refine lv_aload_n hx hb dL_law_700 rfl (lv_at hl 0 rfl) ?_
  refine lv_iload hx hb dL_law_701 (lv_at hl 4 rfl) ?_
  refine lv_iconst (v := (2 : Int32)) hx hb dL_law_703 (by decide) ?_
  refine lv_iadd hx hb dL_law_704 ?_
  refine va_sld hx hb hX hbl hbA hS hin2 dL_law_705 ?_
  refine lv_aload_n hx hb dL_law_706 rfl (lv_at hl 0 rfl) ?_
  refine lv_iload hx hb dL_law_707 (lv_at hl 4 rfl) ?_
  refine lv_iconst (v := (3 : Int32)) hx hb dL_law_709 (by decide) ?_
  refine lv_iadd hx hb dL_law_710 ?_
  refine va_sld hx hb hX hbl hbA hS hin3 dL_law_711 ?_
  refine va_calli (va_runV (As := [.int (xs (w + (1 : Int32)).toNatClampNeg), .int (xs (w + (2 : Int32)).toNatClampNeg), .int (xs (w + (3 : Int32)).toNatClampNeg)]) (rest := [.int r]) S (kc_X7_same l D cy AM adM _ _ (xs (w + (1 : Int32)).toNatClampNeg) (xs (w + (2 : Int32)).toNatClampNeg) (xs (w + (3 : Int32)).toNatClampNeg) _ e7) (cwV 3 hts (wz_V (zin19 _ (List.mem_of_getElem? (i := 22) rfl)) (zin19 _ (List.mem_of_getElem? (i := 19) rfl)) (zin19 _ (List.mem_of_getElem? (i := 20) rfl)) (zin19 _ (List.mem_of_getElem? (i := 21) rfl)) (zin1 _ (List.mem_of_getElem? (i := 5) rfl))) rfl rfl rfl (by decide +kernel) ⟨Nat.le_of_ble_eq_true rfl, Nat.le_of_ble_eq_true rfl⟩) ⟨mw_blind _, zw_recv hK h7 (g := 0) (ci := 7) rfl rfl, mw_pre hK h7 _⟩ rfl rfl hl.1 rfl (lv_room (Nat.le_of_ble_eq_true rfl)) dL_law_712 ⟨by omega, by omega⟩) hS (fun q _ h => hAM q h) (fun q h => hAM q h) (fun r1 u1 t1 H1 locs1 ht hvm hq hB hz1 hk1 hS1 => ?_)
  obtain ⟨hq, hu⟩ := hq
  have hu := hu.symm
  subst hu
  have hq := hq.symm
  subst hq
  subst ht
  have h6 := zw_keep h6 (fun q h z => hk1 q h (fun y => hd q z y))
  have hO := va_at.kept hO (hk1 o (va_at.lt hO) hoM)
  have h7 := hB
  have hS := hS1
  have hhi := Nat.le_trans hhi hz1
  refine lv_icmp_eq (tgt := 1000) hx hb dL_law_715 (by decide) (fun c_0 => ?_) (fun c_0 => absurd rfl c_0)
  refine W.widen (k := cells + 100) (n := slots + 50000) (by omega) (by omega) ?_
  exact fin _ _ _ _ _ ⟨(hR'.mono (Nat.le_add_right _ _)), hhi, ⟨ad, rfl, h6⟩, h7, ⟨f, hO⟩, hS⟩ hl
set_option maxHeartbeats 4000000 in
set_option maxRecDepth 100000 in
theorem law_c14 (hLC : LC p l s m args c D cy AC AM en tI tS b L o hi xs) (hI : LI s D cy AC AM xa o hi adM N σ τ H locs) (hN : N + 20 < 2147483648) (hrm : cells + 100 ≤ room_1.cells ∧ slots + 50000 ≤ room_1.slots) (hin0 : vp_in w L) (hin1 : vp_in (w + (1 : Int32)) L) (hin2 : vp_in (w + (2 : Int32)) L) (hin3 : vp_in (w + (3 : Int32)) L) (hin4 : vp_in (w + (4 : Int32)) L) (hl : lv_has ls 8 [(0, .ref b), (1, .ref xa), (2, .ref (adM 0)), (3, .ref o), (4, .int w)]) (fin : ∀ (σ' : CS) (τ' : MS) (H' : Heap) (locs' : List Loc) (ls' : Array Slot), LI s D cy AC AM xa o hi adM (N + 20) σ' τ' H' locs' → lv_has ls' 8 [(0, .ref b), (1, .ref xa), (2, .ref (adM 0)), (3, .ref o), (4, .int w)] → W p l e room_1 s m args below meth c H' locs' (cells + 100) (slots + 50000) Q (F0 m 1000 ls' [])) : W p l e room_1 s m args below meth c H locs cells slots Q (F0 m 720 ls []) := by
  obtain ⟨S, hst, hC, hX, hbl, hAC, hAM, hd, hob, hoC, hoM, hnC⟩ := hLC
  obtain ⟨hR, hhi, ⟨ad, rfl, h6⟩, h7, ⟨f, hO⟩, hS⟩ := hI
  obtain ⟨hx, hb, hml, hown, hts⟩ := id S
  have hbA : ¬ (fun q : Nat => s.heap.size ≤ q) b := Nat.not_le.mpr hbl
  have hK := hC.1
  have h00 := hR.h00
  obtain ⟨hr1, hr2⟩ := id hrm
  refine lv_aload_n hx hb dL_law_720 rfl (lv_at hl 1 rfl) ?_
  refine lv_aload_n hx hb dL_law_721 rfl (lv_at hl 0 rfl) ?_
  refine lv_iload hx hb dL_law_722 (lv_at hl 4 rfl) ?_
  refine lv_iconst (v := (1 : Int32)) hx hb dL_law_724 (by decide) ?_
  refine lv_iadd hx hb dL_law_725 ?_
  refine va_sld hx hb hX hbl hbA hS hin1 dL_law_726 ?_
  refine lv_aload_n hx hb dL_law_727 rfl (lv_at hl 0 rfl) ?_
  refine lv_iload hx hb dL_law_728 (lv_at hl 4 rfl) ?_
  refine lv_iconst (v := (2 : Int32)) hx hb dL_law_730 (by decide) ?_
  refine lv_iadd hx hb dL_law_731 ?_
  refine va_sld hx hb hX hbl hbA hS hin2 dL_law_732 ?_
  refine lv_aload_n hx hb dL_law_733 rfl (lv_at hl 3 rfl) ?_
  obtain ⟨ro, v, σ', τ', e6, e7, hth, hR'⟩ := sim_handle hR (xs (w + (1 : Int32)).toNatClampNeg) (xs (w + (2 : Int32)).toNatClampNeg)
  have hA2 : ∀ q : Nat, AC q ∨ q = o → s.heap.size ≤ q := fun q h => h.elim (fun h => hAC q h) (fun h => h ▸ hob)
  refine vx_calli (vx_runSX (hh := [(0, 10, 13, 13)]) (As := [.ref (ad (0, 0)), .int (xs (w + (1 : Int32)).toNatClampNeg), .int (xs (w + (2 : Int32)).toNatClampNeg), .ref o]) (rest := []) S (kc_L_handle l hst D cy AC ad en tI tS σ σ' (xs (w + (1 : Int32)).toNatClampNeg) (xs (w + (2 : Int32)).toNatClampNeg) ro h00 e6 o f hoC) (vx_cwSW 4 hts (wlh_S (zin20 _ (List.mem_of_getElem? (i := 1) rfl)) (zin19 _ (List.mem_of_getElem? (i := 23) rfl)) (zin20 _ (List.mem_of_getElem? (i := 0) rfl)) (zin1 _ (List.mem_of_getElem? (i := 10) rfl))) rfl rfl rfl (by decide +kernel) ⟨Nat.le_of_ble_eq_true rfl, Nat.le_of_ble_eq_true rfl⟩) ⟨xl_blind, fun U hU hW => ⟨rfl, ⟨by rw [hU]; exact h6, CK_law hC hS hAC (fun q h => hnC q (Nat.le_trans hhi h)) hU hW⟩, by rw [hU]; exact hO⟩⟩ rfl rfl hl.1 rfl (lv_room (Nat.le_of_ble_eq_true rfl)) dL_law_734 ⟨by omega, by omega⟩) hS (fun q _ h => hA2 q h) (fun q h => hA2 q h) (fun q _ h => hA2 q h) (fun E ce q9 u t H1 locs1 ht hvm hq hB hz1 hk1 hS1 hce hcv hcl => hq.elim) (fun k u t H1 locs1 ht hvm hq hB hz1 hk1 hS1 => ?_)
  obtain ⟨hq1, hq2⟩ := hq
  obtain ⟨u, f1⟩ := u
  obtain ⟨h6, hO⟩ := hB
  dsimp only at hq1 hq2 h6 hO
  subst hq1
  subst ht
  have h7 := zw_keep h7 (fun q h z => hk1 q h (fun y => y.elim (fun y => hd q y z) (fun y => hoM (y ▸ z))))
  have hS := hS1
  have hhi := Nat.le_trans hhi hz1
  refine lv_istore (lv' := [(5, .int k), (0, .ref b), (1, .ref (ad (0, 0))), (2, .ref (adM 0)), (3, .ref o), (4, .int w)]) hx hb dL_law_737 hl (by decide) rfl (fun ls hl => ?_)
  refine lv_aload_n hx hb dL_law_739 rfl (lv_at hl 3 rfl) ?_
  refine lv_aload_n hx hb dL_law_740 rfl (lv_at hl 1 rfl) ?_
  refine lv_iload hx hb dL_law_741 (lv_at hl 5 rfl) ?_
  refine lv_iconst (v := (1 : Int32)) hx hb dL_law_743 (by decide) ?_
  refine lv_iadd hx hb dL_law_744 ?_
  refine va_sld hx hb hX hbl hbA hS hin1 dL_law_745 ?_
  refine lv_aload_n hx hb dL_law_746 rfl (lv_at hl 1 rfl) ?_
  refine lv_iload hx hb dL_law_747 (lv_at hl 5 rfl) ?_
  refine lv_iconst (v := (2 : Int32)) hx hb dL_law_749 (by decide) ?_
  refine lv_iadd hx hb dL_law_750 ?_
  refine va_sld hx hb hX hbl hbA hS hin2 dL_law_751 ?_
  refine va_calli (va_runV (As := [.int (xs (w + (1 : Int32)).toNatClampNeg), .int (xs (w + (2 : Int32)).toNatClampNeg)]) (rest := []) S (kc_X7_handle l D cy AM adM _ _ (xs (w + (1 : Int32)).toNatClampNeg) (xs (w + (2 : Int32)).toNatClampNeg) _ e7) (cwV 2 hts (wz_V (zin20 _ (List.mem_of_getElem? (i := 12) rfl)) (zin20 _ (List.mem_of_getElem? (i := 9) rfl)) (zin20 _ (List.mem_of_getElem? (i := 10) rfl)) (zin20 _ (List.mem_of_getElem? (i := 11) rfl)) (zin1 _ (List.mem_of_getElem? (i := 5) rfl))) rfl rfl rfl (by decide +kernel) ⟨Nat.le_of_ble_eq_true rfl, Nat.le_of_ble_eq_true rfl⟩) ⟨mw_blind _, zw_recv hK h7 (g := 0) (ci := 7) rfl rfl, mw_pre hK h7 _⟩ rfl rfl hl.1 rfl (lv_room (Nat.le_of_ble_eq_true rfl)) dL_law_752 ⟨by omega, by omega⟩) hS (fun q _ h => hAM q h) (fun q h => hAM q h) (fun r1 u1 t1 H1 locs1 ht hvm hq hB hz1 hk1 hS1 => ?_)
  obtain ⟨hq, hu⟩ := hq
  have hu := hu.symm
  subst hu
  have hq := hq.symm
  subst hq
  subst ht
  have h6 := zw_keep h6 (fun q h z => hk1 q h (fun y => hd q z y))
  have hO := va_at.kept hO (hk1 o (va_at.lt hO) hoM)
  have h7 := hB
  have hS := hS1
  have hhi := Nat.le_trans hhi hz1
  refine lv_istore (lv' := [(6, .int v), (5, .int k), (0, .ref b), (1, .ref (ad (0, 0))), (2, .ref (adM 0)), (3, .ref o), (4, .int w)]) hx hb dL_law_755 hl (by decide) rfl (fun ls hl => ?_)
  refine lv_aload_n hx hb dL_law_757 rfl (lv_at hl 4 rfl) ?_
  refine va_calli (va_runV (As := []) (rest := []) S (kc_X7_thrown l D cy AM adM _ _ (mi τ' 0) rfl) (cwV 0 hts (wz_V (zin20 _ (List.mem_of_getElem? (i := 16) rfl)) (zin20 _ (List.mem_of_getElem? (i := 13) rfl)) (zin20 _ (List.mem_of_getElem? (i := 14) rfl)) (zin20 _ (List.mem_of_getElem? (i := 15) rfl)) (zin1 _ (List.mem_of_getElem? (i := 5) rfl))) rfl rfl rfl (by decide +kernel) ⟨Nat.le_of_ble_eq_true rfl, Nat.le_of_ble_eq_true rfl⟩) ⟨mw_blind _, zw_recv hK h7 (g := 0) (ci := 7) rfl rfl, mw_pre hK h7 _⟩ rfl rfl hl.1 rfl (lv_room (Nat.le_of_ble_eq_true rfl)) dL_law_758 ⟨by omega, by omega⟩) hS (fun q _ h => hAM q h) (fun q h => hAM q h) (fun r2 u2 t2 H1 locs1 ht hvm hq hB hz1 hk1 hS1 => ?_)
  obtain ⟨hq, hu⟩ := hq
  have hu := hu.symm
  subst hu
  have hq := hq.symm
  subst hq
  subst ht
  have h6 := zw_keep h6 (fun q h z => hk1 q h (fun y => hd q z y))
  have hO := va_at.kept hO (hk1 o (va_at.lt hO) hoM)
  have h7 := hB
  have hS := hS1
  have hhi := Nat.le_trans hhi hz1
  refine lv_iload hx hb dL_law_761 (lv_at hl 1 rfl) ?_
  have hk : mi τ' 0 = k := by
    rcases hq2 with ⟨z1, z2⟩ | ⟨z, z1, z2, z3⟩ <;> rcases hth with ⟨y1, y2⟩ | ⟨y1, y2⟩
    · rw [y2, z2]
    · rw [z1] at y1; cases y1
    · rw [z1] at y1; cases y1
    · rw [y2, z2]
  refine lv_icmp_eq (tgt := 768) hx hb dL_law_763 (by decide) (fun c_0 => ?_) (fun c_0 => absurd hk c_0)
  refine lv_iload hx hb dL_law_768 (lv_at hl 1 rfl) ?_
  refine lv_if_ne (tgt := 785) hx hb dL_law_770 (by decide) (fun c_1 => ?_) (fun c_1 => ?_)
  · refine lv_goto (tgt := 1000) hx hb dL_law_785 (by decide) ?_
    refine W.widen (k := cells + 100) (n := slots + 50000) (by omega) (by omega) ?_
    exact fin _ _ _ _ _ ⟨hR'.mono (Nat.le_add_right _ _), hhi, ⟨ad, rfl, h6⟩, h7, ⟨f1, hO⟩, hS⟩ (lv_sub hl [2, 3, 4, 5, 6] rfl)
  · have hv : ∃ z : Int64, f1 0 = z ∧ z = v.toInt64 := by
      rcases hq2 with ⟨z1, z2⟩ | ⟨z, z1, z2, z3⟩
      · exact absurd (z2.symm.trans c_1) (by decide)
      · rcases hth with ⟨y1, y2⟩ | ⟨y1, y2⟩
        · rw [z1] at y1; cases y1
        · rw [z1] at y1; cases y1; exact ⟨_, z3, rfl⟩
    obtain ⟨z, hz, hzv⟩ := hv
    refine lv_aload_n hx hb dL_law_773 rfl (lv_at hl 5 rfl) ?_
    refine lv_iconst (v := (0 : Int32)) hx hb dL_law_774 (by decide) ?_
    refine lo_ld (D := D) (cy := cy) hx hb hK hO dL_law_775 ?_
    rw [hz]
    refine lv_iload hx hb dL_law_776 (lv_at hl 0 rfl) ?_
    refine lv_i2l (v := v.toInt64) hx hb dL_law_778 rfl ?_
    refine W.lcmp hx hb dL_law_779 ?_
    refine lv_if_eq (tgt := 785) hx hb dL_law_780 (by decide) (fun c_2 => ?_) (fun c_2 => absurd ((lg_cmp_eq _ _).mpr hzv) c_2)
    refine lv_goto (tgt := 1000) hx hb dL_law_785 (by decide) ?_
    refine W.widen (k := cells + 100) (n := slots + 50000) (by omega) (by omega) ?_
    exact fin _ _ _ _ _ ⟨hR'.mono (Nat.le_add_right _ _), hhi, ⟨ad, rfl, h6⟩, h7, ⟨f1, hO⟩, hS⟩ (lv_sub hl [2, 3, 4, 5, 6] rfl)
set_option maxHeartbeats 4000000 in
set_option maxRecDepth 100000 in
theorem law_c15 (hLC : LC p l s m args c D cy AC AM en tI tS b L o hi xs) (hI : LI s D cy AC AM xa o hi adM N σ τ H locs) (hN : N + 20 < 2147483648) (hrm : cells + 100 ≤ room_1.cells ∧ slots + 50000 ≤ room_1.slots) (hin0 : vp_in w L) (hin1 : vp_in (w + (1 : Int32)) L) (hin2 : vp_in (w + (2 : Int32)) L) (hin3 : vp_in (w + (3 : Int32)) L) (hin4 : vp_in (w + (4 : Int32)) L) (hl : lv_has ls 8 [(0, .ref b), (1, .ref xa), (2, .ref (adM 0)), (3, .ref o), (4, .int w)]) (fin : ∀ (σ' : CS) (τ' : MS) (H' : Heap) (locs' : List Loc) (ls' : Array Slot), LI s D cy AC AM xa o hi adM (N + 20) σ' τ' H' locs' → lv_has ls' 8 [(0, .ref b), (1, .ref xa), (2, .ref (adM 0)), (3, .ref o), (4, .int w)] → W p l e room_1 s m args below meth c H' locs' (cells + 100) (slots + 50000) Q (F0 m 1000 ls' [])) : W p l e room_1 s m args below meth c H locs cells slots Q (F0 m 788 ls []) := by
  obtain ⟨S, hst, hC, hX, hbl, hAC, hAM, hd, hob, hoC, hoM, hnC⟩ := hLC
  obtain ⟨hR, hhi, ⟨ad, rfl, h6⟩, h7, ⟨f, hO⟩, hS⟩ := hI
  obtain ⟨hx, hb, hml, hown, hts⟩ := id S
  have hbA : ¬ (fun q : Nat => s.heap.size ≤ q) b := Nat.not_le.mpr hbl
  have hK := hC.1
  have h00 := hR.h00
  obtain ⟨hr1, hr2⟩ := id hrm
  refine lv_aload_n hx hb dL_law_788 rfl (lv_at hl 1 rfl) ?_
  refine lv_aload_n hx hb dL_law_789 rfl (lv_at hl 0 rfl) ?_
  refine lv_iload hx hb dL_law_790 (lv_at hl 4 rfl) ?_
  refine lv_iconst (v := (1 : Int32)) hx hb dL_law_792 (by decide) ?_
  refine lv_iadd hx hb dL_law_793 ?_
  refine va_sld hx hb hX hbl hbA hS hin1 dL_law_794 ?_
  refine lv_aload_n hx hb dL_law_795 rfl (lv_at hl 0 rfl) ?_
  refine lv_iload hx hb dL_law_796 (lv_at hl 4 rfl) ?_
  refine lv_iconst (v := (2 : Int32)) hx hb dL_law_798 (by decide) ?_
  refine lv_iadd hx hb dL_law_799 ?_
  refine va_sld hx hb hX hbl hbA hS hin2 dL_law_800 ?_
  refine lv_aload_n hx hb dL_law_801 rfl (lv_at hl 3 rfl) ?_
  obtain ⟨ro, v, σ', τ', e6, e7, hth, hR'⟩ := sim_octet hR (xs (w + (1 : Int32)).toNatClampNeg) (xs (w + (2 : Int32)).toNatClampNeg)
  have hA2 : ∀ q : Nat, AC q ∨ q = o → s.heap.size ≤ q := fun q h => h.elim (fun h => hAC q h) (fun h => h ▸ hob)
  refine vx_calli (vx_runSX (hh := [(0, 10, 13, 19)]) (As := [.ref (ad (0, 0)), .int (xs (w + (1 : Int32)).toNatClampNeg), .int (xs (w + (2 : Int32)).toNatClampNeg), .ref o]) (rest := []) S (kc_L_octet l hst D cy AC ad en tI tS σ σ' (xs (w + (1 : Int32)).toNatClampNeg) (xs (w + (2 : Int32)).toNatClampNeg) ro h00 e6 o f hoC) (vx_cwSW 4 hts (wlh_S (zin20 _ (List.mem_of_getElem? (i := 19) rfl)) (zin20 _ (List.mem_of_getElem? (i := 17) rfl)) (zin20 _ (List.mem_of_getElem? (i := 18) rfl)) (zin1 _ (List.mem_of_getElem? (i := 10) rfl))) rfl rfl rfl (by decide +kernel) ⟨Nat.le_of_ble_eq_true rfl, Nat.le_of_ble_eq_true rfl⟩) ⟨xl_blind, fun U hU hW => ⟨rfl, ⟨by rw [hU]; exact h6, CK_law hC hS hAC (fun q h => hnC q (Nat.le_trans hhi h)) hU hW⟩, by rw [hU]; exact hO⟩⟩ rfl rfl hl.1 rfl (lv_room (Nat.le_of_ble_eq_true rfl)) dL_law_802 ⟨by omega, by omega⟩) hS (fun q _ h => hA2 q h) (fun q h => hA2 q h) (fun q _ h => hA2 q h) (fun E ce q9 u t H1 locs1 ht hvm hq hB hz1 hk1 hS1 hce hcv hcl => hq.elim) (fun k u t H1 locs1 ht hvm hq hB hz1 hk1 hS1 => ?_)
  obtain ⟨hq1, hq2⟩ := hq
  obtain ⟨u, f1⟩ := u
  obtain ⟨h6, hO⟩ := hB
  dsimp only at hq1 hq2 h6 hO
  subst hq1
  subst ht
  have h7 := zw_keep h7 (fun q h z => hk1 q h (fun y => y.elim (fun y => hd q y z) (fun y => hoM (y ▸ z))))
  have hS := hS1
  have hhi := Nat.le_trans hhi hz1
  refine lv_istore (lv' := [(5, .int k), (0, .ref b), (1, .ref (ad (0, 0))), (2, .ref (adM 0)), (3, .ref o), (4, .int w)]) hx hb dL_law_805 hl (by decide) rfl (fun ls hl => ?_)
  refine lv_aload_n hx hb dL_law_807 rfl (lv_at hl 3 rfl) ?_
  refine lv_aload_n hx hb dL_law_808 rfl (lv_at hl 1 rfl) ?_
  refine lv_iload hx hb dL_law_809 (lv_at hl 5 rfl) ?_
  refine lv_iconst (v := (1 : Int32)) hx hb dL_law_811 (by decide) ?_
  refine lv_iadd hx hb dL_law_812 ?_
  refine va_sld hx hb hX hbl hbA hS hin1 dL_law_813 ?_
  refine lv_aload_n hx hb dL_law_814 rfl (lv_at hl 1 rfl) ?_
  refine lv_iload hx hb dL_law_815 (lv_at hl 5 rfl) ?_
  refine lv_iconst (v := (2 : Int32)) hx hb dL_law_817 (by decide) ?_
  refine lv_iadd hx hb dL_law_818 ?_
  refine va_sld hx hb hX hbl hbA hS hin2 dL_law_819 ?_
  refine va_calli (va_runV (As := [.int (xs (w + (1 : Int32)).toNatClampNeg), .int (xs (w + (2 : Int32)).toNatClampNeg)]) (rest := []) S (kc_X7_octet l D cy AM adM _ _ (xs (w + (1 : Int32)).toNatClampNeg) (xs (w + (2 : Int32)).toNatClampNeg) _ e7) (cwV 2 hts (wz_V (zin21 _ (List.mem_of_getElem? (i := 7) rfl)) (zin21 _ (List.mem_of_getElem? (i := 4) rfl)) (zin21 _ (List.mem_of_getElem? (i := 5) rfl)) (zin21 _ (List.mem_of_getElem? (i := 6) rfl)) (zin1 _ (List.mem_of_getElem? (i := 5) rfl))) rfl rfl rfl (by decide +kernel) ⟨Nat.le_of_ble_eq_true rfl, Nat.le_of_ble_eq_true rfl⟩) ⟨mw_blind _, zw_recv hK h7 (g := 0) (ci := 7) rfl rfl, mw_pre hK h7 _⟩ rfl rfl hl.1 rfl (lv_room (Nat.le_of_ble_eq_true rfl)) dL_law_820 ⟨by omega, by omega⟩) hS (fun q _ h => hAM q h) (fun q h => hAM q h) (fun r1 u1 t1 H1 locs1 ht hvm hq hB hz1 hk1 hS1 => ?_)
  obtain ⟨hq, hu⟩ := hq
  have hu := hu.symm
  subst hu
  have hq := hq.symm
  subst hq
  subst ht
  have h6 := zw_keep h6 (fun q h z => hk1 q h (fun y => hd q z y))
  have hO := va_at.kept hO (hk1 o (va_at.lt hO) hoM)
  have h7 := hB
  have hS := hS1
  have hhi := Nat.le_trans hhi hz1
  refine lv_istore (lv' := [(6, .int v), (5, .int k), (0, .ref b), (1, .ref (ad (0, 0))), (2, .ref (adM 0)), (3, .ref o), (4, .int w)]) hx hb dL_law_823 hl (by decide) rfl (fun ls hl => ?_)
  refine lv_aload_n hx hb dL_law_825 rfl (lv_at hl 4 rfl) ?_
  refine va_calli (va_runV (As := []) (rest := []) S (kc_X7_thrown l D cy AM adM _ _ (mi τ' 0) rfl) (cwV 0 hts (wz_V (zin20 _ (List.mem_of_getElem? (i := 16) rfl)) (zin20 _ (List.mem_of_getElem? (i := 13) rfl)) (zin20 _ (List.mem_of_getElem? (i := 14) rfl)) (zin20 _ (List.mem_of_getElem? (i := 15) rfl)) (zin1 _ (List.mem_of_getElem? (i := 5) rfl))) rfl rfl rfl (by decide +kernel) ⟨Nat.le_of_ble_eq_true rfl, Nat.le_of_ble_eq_true rfl⟩) ⟨mw_blind _, zw_recv hK h7 (g := 0) (ci := 7) rfl rfl, mw_pre hK h7 _⟩ rfl rfl hl.1 rfl (lv_room (Nat.le_of_ble_eq_true rfl)) dL_law_826 ⟨by omega, by omega⟩) hS (fun q _ h => hAM q h) (fun q h => hAM q h) (fun r2 u2 t2 H1 locs1 ht hvm hq hB hz1 hk1 hS1 => ?_)
  obtain ⟨hq, hu⟩ := hq
  have hu := hu.symm
  subst hu
  have hq := hq.symm
  subst hq
  subst ht
  have h6 := zw_keep h6 (fun q h z => hk1 q h (fun y => hd q z y))
  have hO := va_at.kept hO (hk1 o (va_at.lt hO) hoM)
  have h7 := hB
  have hS := hS1
  have hhi := Nat.le_trans hhi hz1
  refine lv_iload hx hb dL_law_829 (lv_at hl 1 rfl) ?_
  have hk : mi τ' 0 = k := by
    rcases hq2 with ⟨z1, z2⟩ | ⟨z, z1, z2, z3⟩ <;> rcases hth with ⟨y1, y2⟩ | ⟨y1, y2⟩
    · rw [y2, z2]
    · rw [z1] at y1; cases y1
    · rw [z1] at y1; cases y1
    · rw [y2, z2]
  refine lv_icmp_eq (tgt := 836) hx hb dL_law_831 (by decide) (fun c_0 => ?_) (fun c_0 => absurd hk c_0)
  refine lv_iload hx hb dL_law_836 (lv_at hl 1 rfl) ?_
  refine lv_if_ne (tgt := 853) hx hb dL_law_838 (by decide) (fun c_1 => ?_) (fun c_1 => ?_)
  · refine lv_goto (tgt := 1000) hx hb dL_law_853 (by decide) ?_
    refine W.widen (k := cells + 100) (n := slots + 50000) (by omega) (by omega) ?_
    exact fin _ _ _ _ _ ⟨hR'.mono (Nat.le_add_right _ _), hhi, ⟨ad, rfl, h6⟩, h7, ⟨f1, hO⟩, hS⟩ (lv_sub hl [2, 3, 4, 5, 6] rfl)
  · have hv : ∃ z : Int64, f1 0 = z ∧ z = v.toInt64 := by
      rcases hq2 with ⟨z1, z2⟩ | ⟨z, z1, z2, z3⟩
      · exact absurd (z2.symm.trans c_1) (by decide)
      · rcases hth with ⟨y1, y2⟩ | ⟨y1, y2⟩
        · rw [z1] at y1; cases y1
        · rw [z1] at y1; cases y1; exact ⟨_, z3, rfl⟩
    obtain ⟨z, hz, hzv⟩ := hv
    refine lv_aload_n hx hb dL_law_841 rfl (lv_at hl 5 rfl) ?_
    refine lv_iconst (v := (0 : Int32)) hx hb dL_law_842 (by decide) ?_
    refine lo_ld (D := D) (cy := cy) hx hb hK hO dL_law_843 ?_
    rw [hz]
    refine lv_iload hx hb dL_law_844 (lv_at hl 0 rfl) ?_
    refine lv_i2l (v := v.toInt64) hx hb dL_law_846 rfl ?_
    refine W.lcmp hx hb dL_law_847 ?_
    refine lv_if_eq (tgt := 853) hx hb dL_law_848 (by decide) (fun c_2 => ?_) (fun c_2 => absurd ((lg_cmp_eq _ _).mpr hzv) c_2)
    refine lv_goto (tgt := 1000) hx hb dL_law_853 (by decide) ?_
    refine W.widen (k := cells + 100) (n := slots + 50000) (by omega) (by omega) ?_
    exact fin _ _ _ _ _ ⟨hR'.mono (Nat.le_add_right _ _), hhi, ⟨ad, rfl, h6⟩, h7, ⟨f1, hO⟩, hS⟩ (lv_sub hl [2, 3, 4, 5, 6] rfl)
set_option maxHeartbeats 4000000 in
set_option maxRecDepth 100000 in
theorem law_c16 (hLC : LC p l s m args c D cy AC AM en tI tS b L o hi xs) (hI : LI s D cy AC AM xa o hi adM N σ τ H locs) (hN : N + 20 < 2147483648) (hrm : cells + 100 ≤ room_1.cells ∧ slots + 50000 ≤ room_1.slots) (hin0 : vp_in w L) (hin1 : vp_in (w + (1 : Int32)) L) (hin2 : vp_in (w + (2 : Int32)) L) (hin3 : vp_in (w + (3 : Int32)) L) (hin4 : vp_in (w + (4 : Int32)) L) (hl : lv_has ls 8 [(0, .ref b), (1, .ref xa), (2, .ref (adM 0)), (3, .ref o), (4, .int w)]) (fin : ∀ (σ' : CS) (τ' : MS) (H' : Heap) (locs' : List Loc) (ls' : Array Slot), LI s D cy AC AM xa o hi adM (N + 20) σ' τ' H' locs' → lv_has ls' 8 [(0, .ref b), (1, .ref xa), (2, .ref (adM 0)), (3, .ref o), (4, .int w)] → W p l e room_1 s m args below meth c H' locs' (cells + 100) (slots + 50000) Q (F0 m 1000 ls' [])) : W p l e room_1 s m args below meth c H locs cells slots Q (F0 m 856 ls []) := by
  obtain ⟨S, hst, hC, hX, hbl, hAC, hAM, hd, hob, hoC, hoM, hnC⟩ := hLC
  obtain ⟨hR, hhi, ⟨ad, rfl, h6⟩, h7, ⟨f, hO⟩, hS⟩ := hI
  obtain ⟨hx, hb, hml, hown, hts⟩ := id S
  have hbA : ¬ (fun q : Nat => s.heap.size ≤ q) b := Nat.not_le.mpr hbl
  have hK := hC.1
  have h00 := hR.h00
  obtain ⟨hr1, hr2⟩ := id hrm
  refine lv_aload_n hx hb dL_law_856 rfl (lv_at hl 1 rfl) ?_
  refine lv_aload_n hx hb dL_law_857 rfl (lv_at hl 0 rfl) ?_
  refine lv_iload hx hb dL_law_858 (lv_at hl 4 rfl) ?_
  refine lv_iconst (v := (1 : Int32)) hx hb dL_law_860 (by decide) ?_
  refine lv_iadd hx hb dL_law_861 ?_
  refine va_sld hx hb hX hbl hbA hS hin1 dL_law_862 ?_
  refine lv_i2l (v := (xs (w + (1 : Int32)).toNatClampNeg).toInt64) hx hb dL_law_863 rfl ?_
  refine lv_bipush (v := (32 : Int32)) hx hb dL_law_864 (by decide) ?_
  refine lv_lshl (v := ((xs (w + (1 : Int32)).toNatClampNeg).toInt64) <<< ((32 : Int32).toInt64 &&& 63)) hx hb dL_law_866 rfl ?_
  refine lv_aload_n hx hb dL_law_867 rfl (lv_at hl 0 rfl) ?_
  refine lv_iload hx hb dL_law_868 (lv_at hl 4 rfl) ?_
  refine lv_iconst (v := (2 : Int32)) hx hb dL_law_870 (by decide) ?_
  refine lv_iadd hx hb dL_law_871 ?_
  refine va_sld hx hb hX hbl hbA hS hin2 dL_law_872 ?_
  refine lv_i2l (v := (xs (w + (2 : Int32)).toNatClampNeg).toInt64) hx hb dL_law_873 rfl ?_
  refine lv_ldc2 (v := (4294967295 : Int64)) hx hb hown (hts _ (wz_in (zin1 _ (List.mem_of_getElem? (i := 7) rfl)))) dL_law_874 ?_
  refine lv_land hx hb dL_law_877 ?_
  refine lv_lor hx hb dL_law_878 ?_
  refine lv_aload_n hx hb dL_law_879 rfl (lv_at hl 0 rfl) ?_
  refine lv_iload hx hb dL_law_880 (lv_at hl 4 rfl) ?_
  refine lv_iconst (v := (3 : Int32)) hx hb dL_law_882 (by decide) ?_
  refine lv_iadd hx hb dL_law_883 ?_
  refine va_sld hx hb hX hbl hbA hS hin3 dL_law_884 ?_
  refine lv_i2l (v := (xs (w + (3 : Int32)).toNatClampNeg).toInt64) hx hb dL_law_885 rfl ?_
  refine lv_bipush (v := (32 : Int32)) hx hb dL_law_886 (by decide) ?_
  refine lv_lshl (v := ((xs (w + (3 : Int32)).toNatClampNeg).toInt64) <<< ((32 : Int32).toInt64 &&& 63)) hx hb dL_law_888 rfl ?_
  refine lv_aload_n hx hb dL_law_889 rfl (lv_at hl 0 rfl) ?_
  refine lv_iload hx hb dL_law_890 (lv_at hl 4 rfl) ?_
  refine lv_iconst (v := (4 : Int32)) hx hb dL_law_892 (by decide) ?_
  refine lv_iadd hx hb dL_law_893 ?_
  refine va_sld hx hb hX hbl hbA hS hin4 dL_law_894 ?_
  refine lv_i2l (v := (xs (w + (4 : Int32)).toNatClampNeg).toInt64) hx hb dL_law_895 rfl ?_
  refine lv_ldc2 (v := (4294967295 : Int64)) hx hb hown (hts _ (wz_in (zin1 _ (List.mem_of_getElem? (i := 7) rfl)))) dL_law_896 ?_
  refine lv_land hx hb dL_law_899 ?_
  refine lv_lor hx hb dL_law_900 ?_
  refine lv_aload_n hx hb dL_law_901 rfl (lv_at hl 3 rfl) ?_
  obtain ⟨ro, v, σ', τ', e6, e7, hth, hR'⟩ := sim_divide hR ((((xs (w + (1 : Int32)).toNatClampNeg).toInt64) <<< ((32 : Int32).toInt64 &&& 63)) ||| (((xs (w + (2 : Int32)).toNatClampNeg).toInt64) &&& (4294967295 : Int64))) ((((xs (w + (3 : Int32)).toNatClampNeg).toInt64) <<< ((32 : Int32).toInt64 &&& 63)) ||| (((xs (w + (4 : Int32)).toNatClampNeg).toInt64) &&& (4294967295 : Int64)))
  have hA2 : ∀ q : Nat, AC q ∨ q = o → s.heap.size ≤ q := fun q h => h.elim (fun h => hAC q h) (fun h => h ▸ hob)
  refine vx_calli (vx_runSX (hh := [(0, 10, 13, 25)]) (As := [.ref (ad (0, 0)), .long ((((xs (w + (1 : Int32)).toNatClampNeg).toInt64) <<< ((32 : Int32).toInt64 &&& 63)) ||| (((xs (w + (2 : Int32)).toNatClampNeg).toInt64) &&& (4294967295 : Int64))), .long ((((xs (w + (3 : Int32)).toNatClampNeg).toInt64) <<< ((32 : Int32).toInt64 &&& 63)) ||| (((xs (w + (4 : Int32)).toNatClampNeg).toInt64) &&& (4294967295 : Int64))), .ref o]) (rest := []) S (kc_L_divide l hst D cy AC ad en tI tS σ σ' ((((xs (w + (1 : Int32)).toNatClampNeg).toInt64) <<< ((32 : Int32).toInt64 &&& 63)) ||| (((xs (w + (2 : Int32)).toNatClampNeg).toInt64) &&& (4294967295 : Int64))) ((((xs (w + (3 : Int32)).toNatClampNeg).toInt64) <<< ((32 : Int32).toInt64 &&& 63)) ||| (((xs (w + (4 : Int32)).toNatClampNeg).toInt64) &&& (4294967295 : Int64))) ro h00 e6 o f hoC) (vx_cwSW 4 hts (wlh_S (zin21 _ (List.mem_of_getElem? (i := 10) rfl)) (zin21 _ (List.mem_of_getElem? (i := 8) rfl)) (zin21 _ (List.mem_of_getElem? (i := 9) rfl)) (zin1 _ (List.mem_of_getElem? (i := 10) rfl))) rfl rfl rfl (by decide +kernel) ⟨Nat.le_of_ble_eq_true rfl, Nat.le_of_ble_eq_true rfl⟩) ⟨xl_blind, fun U hU hW => ⟨rfl, ⟨by rw [hU]; exact h6, CK_law hC hS hAC (fun q h => hnC q (Nat.le_trans hhi h)) hU hW⟩, by rw [hU]; exact hO⟩⟩ rfl rfl hl.1 rfl (lv_room (Nat.le_of_ble_eq_true rfl)) dL_law_902 ⟨by omega, by omega⟩) hS (fun q _ h => hA2 q h) (fun q h => hA2 q h) (fun q _ h => hA2 q h) (fun E ce q9 u t H1 locs1 ht hvm hq hB hz1 hk1 hS1 hce hcv hcl => hq.elim) (fun k u t H1 locs1 ht hvm hq hB hz1 hk1 hS1 => ?_)
  obtain ⟨hq1, hq2⟩ := hq
  obtain ⟨u, f1⟩ := u
  obtain ⟨h6, hO⟩ := hB
  dsimp only at hq1 hq2 h6 hO
  subst hq1
  subst ht
  have h7 := zw_keep h7 (fun q h z => hk1 q h (fun y => y.elim (fun y => hd q y z) (fun y => hoM (y ▸ z))))
  have hS := hS1
  have hhi := Nat.le_trans hhi hz1
  refine lv_istore (lv' := [(5, .int k), (0, .ref b), (1, .ref (ad (0, 0))), (2, .ref (adM 0)), (3, .ref o), (4, .int w)]) hx hb dL_law_905 hl (by decide) rfl (fun ls hl => ?_)
  refine lv_aload_n hx hb dL_law_907 rfl (lv_at hl 3 rfl) ?_
  refine lv_aload_n hx hb dL_law_908 rfl (lv_at hl 1 rfl) ?_
  refine lv_iload hx hb dL_law_909 (lv_at hl 5 rfl) ?_
  refine lv_iconst (v := (1 : Int32)) hx hb dL_law_911 (by decide) ?_
  refine lv_iadd hx hb dL_law_912 ?_
  refine va_sld hx hb hX hbl hbA hS hin1 dL_law_913 ?_
  refine lv_i2l (v := (xs (w + (1 : Int32)).toNatClampNeg).toInt64) hx hb dL_law_914 rfl ?_
  refine lv_bipush (v := (32 : Int32)) hx hb dL_law_915 (by decide) ?_
  refine lv_lshl (v := ((xs (w + (1 : Int32)).toNatClampNeg).toInt64) <<< ((32 : Int32).toInt64 &&& 63)) hx hb dL_law_917 rfl ?_
  refine lv_aload_n hx hb dL_law_918 rfl (lv_at hl 1 rfl) ?_
  refine lv_iload hx hb dL_law_919 (lv_at hl 5 rfl) ?_
  refine lv_iconst (v := (2 : Int32)) hx hb dL_law_921 (by decide) ?_
  refine lv_iadd hx hb dL_law_922 ?_
  refine va_sld hx hb hX hbl hbA hS hin2 dL_law_923 ?_
  refine lv_i2l (v := (xs (w + (2 : Int32)).toNatClampNeg).toInt64) hx hb dL_law_924 rfl ?_
  refine lv_ldc2 (v := (4294967295 : Int64)) hx hb hown (hts _ (wz_in (zin1 _ (List.mem_of_getElem? (i := 7) rfl)))) dL_law_925 ?_
  refine lv_land hx hb dL_law_928 ?_
  refine lv_lor hx hb dL_law_929 ?_
  refine lv_aload_n hx hb dL_law_930 rfl (lv_at hl 1 rfl) ?_
  refine lv_iload hx hb dL_law_931 (lv_at hl 5 rfl) ?_
  refine lv_iconst (v := (3 : Int32)) hx hb dL_law_933 (by decide) ?_
  refine lv_iadd hx hb dL_law_934 ?_
  refine va_sld hx hb hX hbl hbA hS hin3 dL_law_935 ?_
  refine lv_i2l (v := (xs (w + (3 : Int32)).toNatClampNeg).toInt64) hx hb dL_law_936 rfl ?_
  refine lv_bipush (v := (32 : Int32)) hx hb dL_law_937 (by decide) ?_
  refine lv_lshl (v := ((xs (w + (3 : Int32)).toNatClampNeg).toInt64) <<< ((32 : Int32).toInt64 &&& 63)) hx hb dL_law_939 rfl ?_
  refine lv_aload_n hx hb dL_law_940 rfl (lv_at hl 1 rfl) ?_
  refine lv_iload hx hb dL_law_941 (lv_at hl 5 rfl) ?_
  refine lv_iconst (v := (4 : Int32)) hx hb dL_law_943 (by decide) ?_
  refine lv_iadd hx hb dL_law_944 ?_
  refine va_sld hx hb hX hbl hbA hS hin4 dL_law_945 ?_
  refine lv_i2l (v := (xs (w + (4 : Int32)).toNatClampNeg).toInt64) hx hb dL_law_946 rfl ?_
  refine lv_ldc2 (v := (4294967295 : Int64)) hx hb hown (hts _ (wz_in (zin1 _ (List.mem_of_getElem? (i := 7) rfl)))) dL_law_947 ?_
  refine lv_land hx hb dL_law_950 ?_
  refine lv_lor hx hb dL_law_951 ?_
  refine va_calll (va_runV (As := [.long ((((xs (w + (1 : Int32)).toNatClampNeg).toInt64) <<< ((32 : Int32).toInt64 &&& 63)) ||| (((xs (w + (2 : Int32)).toNatClampNeg).toInt64) &&& (4294967295 : Int64))), .long ((((xs (w + (3 : Int32)).toNatClampNeg).toInt64) <<< ((32 : Int32).toInt64 &&& 63)) ||| (((xs (w + (4 : Int32)).toNatClampNeg).toInt64) &&& (4294967295 : Int64)))]) (rest := []) S (kc_X7_divide l D cy AM adM _ _ ((((xs (w + (1 : Int32)).toNatClampNeg).toInt64) <<< ((32 : Int32).toInt64 &&& 63)) ||| (((xs (w + (2 : Int32)).toNatClampNeg).toInt64) &&& (4294967295 : Int64))) ((((xs (w + (3 : Int32)).toNatClampNeg).toInt64) <<< ((32 : Int32).toInt64 &&& 63)) ||| (((xs (w + (4 : Int32)).toNatClampNeg).toInt64) &&& (4294967295 : Int64))) _ e7) (cwV 2 hts (wz_V (zin21 _ (List.mem_of_getElem? (i := 21) rfl)) (zin21 _ (List.mem_of_getElem? (i := 18) rfl)) (zin21 _ (List.mem_of_getElem? (i := 19) rfl)) (zin21 _ (List.mem_of_getElem? (i := 20) rfl)) (zin1 _ (List.mem_of_getElem? (i := 5) rfl))) rfl rfl rfl (by decide +kernel) ⟨Nat.le_of_ble_eq_true rfl, Nat.le_of_ble_eq_true rfl⟩) ⟨mw_blind _, zw_recv hK h7 (g := 0) (ci := 7) rfl rfl, mw_pre hK h7 _⟩ rfl rfl hl.1 rfl (lv_room (Nat.le_of_ble_eq_true rfl)) dL_law_952 ⟨by omega, by omega⟩) hS (fun q _ h => hAM q h) (fun q h => hAM q h) (fun r1 u1 t1 H1 locs1 ht hvm hq hB hz1 hk1 hS1 => ?_)
  obtain ⟨hq, hu⟩ := hq
  have hu := hu.symm
  subst hu
  have hq := hq.symm
  subst hq
  subst ht
  have h6 := zw_keep h6 (fun q h z => hk1 q h (fun y => hd q z y))
  have hO := va_at.kept hO (hk1 o (va_at.lt hO) hoM)
  have h7 := hB
  have hS := hS1
  have hhi := Nat.le_trans hhi hz1
  refine lv_lstore (lv' := [(6, .long v), (5, .int k), (0, .ref b), (1, .ref (ad (0, 0))), (2, .ref (adM 0)), (3, .ref o), (4, .int w)]) hx hb dL_law_955 hl (by decide) rfl (fun ls hl => ?_)
  refine lv_aload_n hx hb dL_law_957 rfl (lv_at hl 4 rfl) ?_
  refine va_calli (va_runV (As := []) (rest := []) S (kc_X7_thrown l D cy AM adM _ _ (mi τ' 0) rfl) (cwV 0 hts (wz_V (zin20 _ (List.mem_of_getElem? (i := 16) rfl)) (zin20 _ (List.mem_of_getElem? (i := 13) rfl)) (zin20 _ (List.mem_of_getElem? (i := 14) rfl)) (zin20 _ (List.mem_of_getElem? (i := 15) rfl)) (zin1 _ (List.mem_of_getElem? (i := 5) rfl))) rfl rfl rfl (by decide +kernel) ⟨Nat.le_of_ble_eq_true rfl, Nat.le_of_ble_eq_true rfl⟩) ⟨mw_blind _, zw_recv hK h7 (g := 0) (ci := 7) rfl rfl, mw_pre hK h7 _⟩ rfl rfl hl.1 rfl (lv_room (Nat.le_of_ble_eq_true rfl)) dL_law_958 ⟨by omega, by omega⟩) hS (fun q _ h => hAM q h) (fun q h => hAM q h) (fun r2 u2 t2 H1 locs1 ht hvm hq hB hz1 hk1 hS1 => ?_)
  obtain ⟨hq, hu⟩ := hq
  have hu := hu.symm
  subst hu
  have hq := hq.symm
  subst hq
  subst ht
  have h6 := zw_keep h6 (fun q h z => hk1 q h (fun y => hd q z y))
  have hO := va_at.kept hO (hk1 o (va_at.lt hO) hoM)
  have h7 := hB
  have hS := hS1
  have hhi := Nat.le_trans hhi hz1
  refine lv_iload hx hb dL_law_961 (lv_at hl 1 rfl) ?_
  have hk : mi τ' 0 = k := by
    rcases hq2 with ⟨z1, z2⟩ | ⟨z, z1, z2, z3⟩ <;> rcases hth with ⟨y1, y2⟩ | ⟨y1, y2⟩
    · rw [y2, z2]
    · rw [z1] at y1; cases y1
    · rw [z1] at y1; cases y1
    · rw [y2, z2]
  refine lv_icmp_eq (tgt := 968) hx hb dL_law_963 (by decide) (fun c_0 => ?_) (fun c_0 => absurd hk c_0)
  refine lv_iload hx hb dL_law_968 (lv_at hl 1 rfl) ?_
  refine lv_if_ne (tgt := 984) hx hb dL_law_970 (by decide) (fun c_1 => ?_) (fun c_1 => ?_)
  · refine lv_goto (tgt := 1000) hx hb dL_law_984 (by decide) ?_
    refine W.widen (k := cells + 100) (n := slots + 50000) (by omega) (by omega) ?_
    exact fin _ _ _ _ _ ⟨hR'.mono (Nat.le_add_right _ _), hhi, ⟨ad, rfl, h6⟩, h7, ⟨f1, hO⟩, hS⟩ (lv_sub hl [2, 3, 4, 5, 6] rfl)
  · have hv : ∃ z : Int64, f1 0 = z ∧ z = v := by
      rcases hq2 with ⟨z1, z2⟩ | ⟨z, z1, z2, z3⟩
      · exact absurd (z2.symm.trans c_1) (by decide)
      · rcases hth with ⟨y1, y2⟩ | ⟨y1, y2⟩
        · rw [z1] at y1; cases y1
        · rw [z1] at y1; cases y1; exact ⟨_, z3, rfl⟩
    obtain ⟨z, hz, hzv⟩ := hv
    refine lv_aload_n hx hb dL_law_973 rfl (lv_at hl 5 rfl) ?_
    refine lv_iconst (v := (0 : Int32)) hx hb dL_law_974 (by decide) ?_
    refine lo_ld (D := D) (cy := cy) hx hb hK hO dL_law_975 ?_
    rw [hz]
    refine lv_lload hx hb dL_law_976 (lv_at hl 0 rfl) ?_
    refine W.lcmp hx hb dL_law_978 ?_
    refine lv_if_eq (tgt := 984) hx hb dL_law_979 (by decide) (fun c_2 => ?_) (fun c_2 => absurd ((lg_cmp_eq _ _).mpr hzv) c_2)
    refine lv_goto (tgt := 1000) hx hb dL_law_984 (by decide) ?_
    refine W.widen (k := cells + 100) (n := slots + 50000) (by omega) (by omega) ?_
    exact fin _ _ _ _ _ ⟨hR'.mono (Nat.le_add_right _ _), hhi, ⟨ad, rfl, h6⟩, h7, ⟨f1, hO⟩, hS⟩ (lv_sub hl [2, 3, 4, 5, 6] rfl)
set_option maxHeartbeats 4000000 in
set_option maxRecDepth 100000 in
theorem law_c17 (hLC : LC p l s m args c D cy AC AM en tI tS b L o hi xs) (hI : LI s D cy AC AM xa o hi adM N σ τ H locs) (hN : N + 20 < 2147483648) (hrm : cells + 100 ≤ room_1.cells ∧ slots + 50000 ≤ room_1.slots) (hin0 : vp_in w L) (hin1 : vp_in (w + (1 : Int32)) L) (hin2 : vp_in (w + (2 : Int32)) L) (hin3 : vp_in (w + (3 : Int32)) L) (hin4 : vp_in (w + (4 : Int32)) L) (hl : lv_has ls 8 [(0, .ref b), (1, .ref xa), (2, .ref (adM 0)), (3, .ref o), (4, .int w)]) (fin : ∀ (σ' : CS) (τ' : MS) (H' : Heap) (locs' : List Loc) (ls' : Array Slot), LI s D cy AC AM xa o hi adM (N + 20) σ' τ' H' locs' → lv_has ls' 8 [(0, .ref b), (1, .ref xa), (2, .ref (adM 0)), (3, .ref o), (4, .int w)] → W p l e room_1 s m args below meth c H' locs' (cells + 100) (slots + 50000) Q (F0 m 1000 ls' [])) : W p l e room_1 s m args below meth c H locs cells slots Q (F0 m 987 ls []) := by
  obtain ⟨S, hst, hC, hX, hbl, hAC, hAM, hd, hob, hoC, hoM, hnC⟩ := hLC
  obtain ⟨hR, hhi, ⟨ad, rfl, h6⟩, h7, ⟨f, hO⟩, hS⟩ := hI
  obtain ⟨hx, hb, hml, hown, hts⟩ := id S
  have hbA : ¬ (fun q : Nat => s.heap.size ≤ q) b := Nat.not_le.mpr hbl
  have hK := hC.1
  have h00 := hR.h00
  obtain ⟨hr1, hr2⟩ := id hrm
  refine lv_aload_n hx hb dL_law_987 rfl (lv_at hl 1 rfl) ?_
  obtain ⟨r, σ', τ', e6, e7, hR'⟩ := sim_refused hR
  refine va_calli (va_runV (As := []) (rest := []) S (kc_X6_refused l D cy AC ad en tI tS _ _ _ e6) (cwV 0 hts (wz_V (zin22 _ (List.mem_of_getElem? (i := 1) rfl)) (zin21 _ (List.mem_of_getElem? (i := 22) rfl)) (zin21 _ (List.mem_of_getElem? (i := 23) rfl)) (zin22 _ (List.mem_of_getElem? (i := 0) rfl)) (zin1 _ (List.mem_of_getElem? (i := 2) rfl))) rfl rfl rfl (by decide +kernel) ⟨Nat.le_of_ble_eq_true rfl, Nat.le_of_ble_eq_true rfl⟩) ⟨cw_blind _, zw_recv hK h6 (g := (0, 0)) (ci := 6) ((cG_at h00).trans rfl) rfl, fun U hU hW => ⟨rfl, by rw [hU]; exact h6, CK_law hC hS hAC (fun q h => hnC q (Nat.le_trans hhi h)) hU hW⟩⟩ rfl rfl hl.1 rfl (lv_room (Nat.le_of_ble_eq_true rfl)) dL_law_988 ⟨by omega, by omega⟩) hS (fun q _ h => hAC q h) (fun q h => hAC q h) (fun r0 u0 t0 H1 locs1 ht hvm hq hB hz1 hk1 hS1 => ?_)
  obtain ⟨hq, hu⟩ := hq
  have hu := hu.symm
  subst hu
  have hq := hq.symm
  subst hq
  subst ht
  have h7 := zw_keep h7 (fun q h z => hk1 q h (fun y => hd q y z))
  have hO := va_at.kept hO (hk1 o (va_at.lt hO) hoC)
  have h6 := hB
  have hS := hS1
  have hhi := Nat.le_trans hhi hz1
  refine lv_aload_n hx hb dL_law_991 rfl (lv_at hl 2 rfl) ?_
  refine va_calli (va_runV (As := []) (rest := [.int r]) S (kc_X7_refused l D cy AM adM _ _ _ e7) (cwV 0 hts (wz_V (zin22 _ (List.mem_of_getElem? (i := 5) rfl)) (zin22 _ (List.mem_of_getElem? (i := 2) rfl)) (zin22 _ (List.mem_of_getElem? (i := 3) rfl)) (zin22 _ (List.mem_of_getElem? (i := 4) rfl)) (zin1 _ (List.mem_of_getElem? (i := 5) rfl))) rfl rfl rfl (by decide +kernel) ⟨Nat.le_of_ble_eq_true rfl, Nat.le_of_ble_eq_true rfl⟩) ⟨mw_blind _, zw_recv hK h7 (g := 0) (ci := 7) rfl rfl, mw_pre hK h7 _⟩ rfl rfl hl.1 rfl (lv_room (Nat.le_of_ble_eq_true rfl)) dL_law_992 ⟨by omega, by omega⟩) hS (fun q _ h => hAM q h) (fun q h => hAM q h) (fun r1 u1 t1 H1 locs1 ht hvm hq hB hz1 hk1 hS1 => ?_)
  obtain ⟨hq, hu⟩ := hq
  have hu := hu.symm
  subst hu
  have hq := hq.symm
  subst hq
  subst ht
  have h6 := zw_keep h6 (fun q h z => hk1 q h (fun y => hd q z y))
  have hO := va_at.kept hO (hk1 o (va_at.lt hO) hoM)
  have h7 := hB
  have hS := hS1
  have hhi := Nat.le_trans hhi hz1
  refine lv_icmp_eq (tgt := 1000) hx hb dL_law_995 (by decide) (fun c_0 => ?_) (fun c_0 => absurd rfl c_0)
  refine W.widen (k := cells + 100) (n := slots + 50000) (by omega) (by omega) ?_
  exact fin _ _ _ _ _ ⟨(hR'.mono (Nat.le_add_right _ _)), hhi, ⟨ad, rfl, h6⟩, h7, ⟨f, hO⟩, hS⟩ hl
end LW
