/-! ===== pure side: naturals among ints, and what the pure words come to ===== -/
theorem ln0 : (0 : Int32) = nI 0 := rfl
theorem ln1 : (1 : Int32) = nI 1 := rfl
theorem ln2 : (2 : Int32) = nI 2 := rfl
theorem ln3 : (3 : Int32) = nI 3 := rfl
theorem ln4 : (4 : Int32) = nI 4 := rfl
theorem ln5 : (5 : Int32) = nI 5 := rfl
theorem ln6 : (6 : Int32) = nI 6 := rfl
theorem ln7 : (7 : Int32) = nI 7 := rfl
theorem ln8 : (8 : Int32) = nI 8 := rfl
theorem ln9 : (9 : Int32) = nI 9 := rfl
theorem ln10 : (10 : Int32) = nI 10 := rfl
theorem ln11 : (11 : Int32) = nI 11 := rfl
theorem ln12 : (12 : Int32) = nI 12 := rfl
theorem ln13 : (13 : Int32) = nI 13 := rfl
theorem ln14 : (14 : Int32) = nI 14 := rfl
theorem ln15 : (15 : Int32) = nI 15 := rfl
theorem ln16 : (16 : Int32) = nI 16 := rfl
theorem ln17 : (17 : Int32) = nI 17 := rfl
theorem ln18 : (18 : Int32) = nI 18 := rfl
theorem ln19 : (19 : Int32) = nI 19 := rfl
theorem ln20 : (20 : Int32) = nI 20 := rfl
theorem ln21 : (21 : Int32) = nI 21 := rfl
theorem ln64 : (64 : Int32) = nI 64 := rfl
theorem ln120 : (120 : Int32) = nI 120 := rfl
theorem ln160 : (160 : Int32) = nI 160 := rfl
theorem ln180 : (180 : Int32) = nI 180 := rfl
theorem ln255 : (255 : Int32) = nI 255 := rfl
theorem ln1280 : (1280 : Int32) = nI 1280 := rfl
theorem ln21600 : (21600 : Int32) = nI 21600 := rfl
theorem zi_T {γ : Type} {a b : γ} : zi True a b = a := zi_t trivial
theorem zi_F {γ : Type} {a b : γ} : zi False a b = b := zi_f (fun h => h)
theorem zg_T {γ : Type} {o : Option γ} : zg True o = o := zg_t trivial
theorem zb_S {α β γ : Type} {a : α} {b : β} {f : α → β → Option γ} : zb (some (a, b)) f = f a b := rfl
theorem zo_N {β : Type} {n : β} {f : Nat → β} : zo none n f = n := rfl
theorem zo_S {β : Type} {n : β} {f : Nat → β} {i : Nat} : zo (some i) n f = f i := rfl
theorem zs_D {α β : Type} {x : α} {f : α → β} : zs x f = f x := rfl
theorem zi_le_t {γ : Type} {a b : Nat} {x y : γ} (h : a ≤ b) (hb : b < 2147483648) : zi (nI a ≤ nI b) x y = x := zi_t (nI_le h hb)
theorem zi_le_f {γ : Type} {a b : Nat} {x y : γ} (h : b < a) (hb : a < 2147483648) : zi (nI a ≤ nI b) x y = y := zi_f (nI_ge h hb)
theorem zi_lt_t {γ : Type} {a b : Nat} {x y : γ} (h : a < b) (hb : b < 2147483648) : zi (nI a < nI b) x y = x := zi_t (nI_lt h hb)
theorem zi_lt_f {γ : Type} {a b : Nat} {x y : γ} (h : b ≤ a) (hb : a < 2147483648) : zi (nI a < nI b) x y = y := zi_f (nI_nlt h hb)
theorem zi_eq_t {γ : Type} {a b : Nat} {x y : γ} (h : a = b) : zi (nI a = nI b) x y = x := zi_t (congrArg nI h)
theorem zi_eq_f {γ : Type} {a b : Nat} {x y : γ} (h : a < b ∨ b < a) (ha : a < 2147483648) (hb : b < 2147483648) : zi (nI a = nI b) x y = y := zi_f (fun q => by have := (nI_eq ha hb).mp q; omega)
theorem nI_m {a b : Nat} (hb : 0 < b) (ha : a < 2147483648) (hb2 : b < 2147483648) : ¬ nI a = -nI b ∧ -nI b < nI a ∧ ¬ nI a ≤ -nI b := by
  have h1 := nI_toInt (n := a) ha
  have h2 := sb_negT (w := b) hb2
  refine ⟨fun q => ?_, ?_, fun q => ?_⟩
  · rw [q, h2] at h1
    omega
  · rw [Int32.lt_iff_toInt_lt, h1, h2]
    omega
  · rw [Int32.le_iff_toInt_le, h1, h2] at q
    omega
theorem zi_eq_m {γ : Type} {a b : Nat} {x y : γ} (hb : 0 < b) (ha : a < 2147483648) (hb2 : b < 2147483648) : zi (nI a = -nI b) x y = y := zi_f (nI_m hb ha hb2).1
theorem zi_lt_m {γ : Type} {a b : Nat} {x y : γ} (hb : 0 < b) (ha : a < 2147483648) (hb2 : b < 2147483648) : zi (-nI b < nI a) x y = x := zi_t (nI_m hb ha hb2).2.1
theorem zi_le_m {γ : Type} {a b : Nat} {x y : γ} (hb : 0 < b) (ha : a < 2147483648) (hb2 : b < 2147483648) : zi (nI a ≤ -nI b) x y = y := zi_f (nI_m hb ha hb2).2.2
theorem zg_in {γ : Type} {a n : Nat} {o : Option γ} (h : a < n) (hn : n < 2147483648) : zg (vp_in (nI a) n) o = o := zg_t (vp_in_nI h hn)
theorem nI_sub2 {a b : Nat} (h : b ≤ a) : nI a - nI b = nI (a - b) := pk_sub h
theorem nI_cl2 {n : Nat} (h : n < 2147483648) : (nI n).toNatClampNeg = n := nI_clamp h
theorem zn0 {γ : Type} {o : Option γ} : zg (narrow .boolean (.int (nI 0)) = .int (nI 0)) o = o := zg_t (by decide)
theorem zn1 {γ : Type} {o : Option γ} : zg (narrow .boolean (.int (nI 1)) = .int (nI 1)) o = o := zg_t (by decide)
/-! bytes -/
def isB (x : Int32) : Prop := x.toInt8.toInt32 = x
theorem isB_nar {x : Int32} (h : isB x) : vp_nar .byte x = x := (vp_nar_byte x).trans h
theorem isB_i2b (z : Int32) : isB z.toInt8.toInt32 := by unfold isB; simp
theorem isB_0 : isB 0 := by unfold isB; decide
theorem isB_ret {x : Int32} (h : isB x) : narrow .byte (.int x) = .int x := by
  have := pk_nb x
  unfold isB at h
  rw [h] at this
  exact this
theorem by_tab : ∀ n, n < 256 → (Int8.ofNat n).toInt32 &&& 255 = nI n ∧ (nI n).toInt8.toInt32 = (Int8.ofNat n).toInt32 ∧ (n < 128 → (Int8.ofNat n).toInt32 = nI n) ∧ (128 ≤ n → (Int8.ofNat n).toInt32 < 0) := by decide +kernel
theorem isB_of {x : Int32} (h : isB x) : ∃ n : Nat, n < 256 ∧ x &&& 255 = nI n ∧ (nI n).toInt8.toInt32 = x ∧ (n < 128 → x = nI n) ∧ (128 ≤ n → x < 0) := by
  have he : x.toInt8 = Int8.ofNat x.toInt8.toBitVec.toNat := by
    apply Int8.toBitVec_inj.mp
    show x.toInt8.toBitVec = BitVec.ofNat 8 _
    simp
  have hb := by_tab x.toInt8.toBitVec.toNat x.toInt8.toBitVec.isLt
  rw [← he] at hb
  unfold isB at h
  rw [h] at hb
  exact ⟨_, x.toInt8.toBitVec.isLt, hb.1, hb.2.1, hb.2.2.1, hb.2.2.2⟩
/-! the arguments: out of range, or a natural -/
theorem ix8 (x : Int32) : (x < 0 ∨ nI 8 ≤ x) ∨ ∃ c : Nat, c < 8 ∧ x = nI c := by
  rcases pk_ix x (n := 8) (by decide) with h | h | h
  · exact Or.inl (Or.inl h)
  · exact Or.inl (Or.inr h)
  · exact Or.inr h
theorem ix20 (x : Int32) : (x < 1 ∨ 20 < x) ∨ ∃ j : Nat, j < 20 ∧ x = nI (j + 1) := by
  rcases pk_ix x (n := 21) (by decide) with h | h | ⟨j, hj, rfl⟩
  · left; left
    rw [Int32.lt_iff_toInt_lt] at h ⊢
    have h0 : (0 : Int32).toInt = 0 := by decide
    have h1 : (1 : Int32).toInt = 1 := by decide
    omega
  · left; right
    rw [Int32.le_iff_toInt_le] at h
    rw [Int32.lt_iff_toInt_lt]
    have h0 : (nI 21).toInt = 21 := by decide
    have h1 : (20 : Int32).toInt = 20 := by decide
    omega
  · rcases Nat.eq_zero_or_pos j with rfl | h
    · left; left; decide
    · exact Or.inr ⟨j - 1, by omega, by rw [Nat.sub_add_cancel h]⟩
theorem o8_7 {x : Int32} (h : x < 0 ∨ nI 8 ≤ x) : x < 0 ∨ 7 < x := by
  rcases h with h | h
  · exact Or.inl h
  · right
    rw [Int32.le_iff_toInt_le] at h
    rw [Int32.lt_iff_toInt_lt]
    have h0 : (nI 8).toInt = 8 := by decide
    have h1 : (7 : Int32).toInt = 7 := by decide
    omega
/-! ===== what stands in both: the relation ===== -/
def pl (E : Nat → Nat) (i : Nat) : Nat := 9 * i + (E i - 1)
def RV (R : Nat) (σ : CS) : Prop := cv σ 0 0 = true ∧ cv σ 1 0 = true ∧ cv σ 2 0 = true ∧ cv σ 3 0 = true ∧ cv σ 9 0 = true ∧ cbl σ 0 = 120 ∧ (∀ c, c < 8 → cv σ 4 c = true ∧ cv σ 5 c = true) ∧ (∀ a, a < 11 → cv σ 8 a = true) ∧ (∀ i, i < R → cv σ 7 i = true ∧ cv σ 9 (2 + 3 * i) = true ∧ cv σ 9 (4 + 3 * i) = true ∧ (cs σ i = true → cv σ 9 (3 + 3 * i) = true)) ∧ (∀ i, R ≤ i → i < 20 → cv σ 7 i = false) ∧ (∀ i, 8 ≤ i → cv σ 4 i = false) ∧ (∀ i, 160 ≤ i → cv σ 6 i = false) ∧ (∀ i, 20 ≤ i → cv σ 7 i = false) ∧ ∀ i, 1 ≤ i → cv σ 1 i = false
def RG (S R B C : Nat) (σ : CS) (τ : MS) : Prop := ci σ 0 0 = nI B ∧ mi τ 1 = nI B ∧ B ≤ 65536 ∧ ci σ 5 0 = nI S ∧ mi τ 3 = nI S ∧ S ≤ 120 ∧ ci σ 6 0 = nI R ∧ mi τ 5 = nI R ∧ R ≤ 20 ∧ ci σ 7 0 = mi τ 2 ∧ mi τ 26 = nI C
def RU (σ : CS) (τ : MS) : Prop := ∀ j, j < 120 → cb σ 0 j = mr τ 4 j ∧ isB (mr τ 4 j)
def RB (σ : CS) (τ : MS) (a len o : Nat) : Prop := cbl σ a = len ∧ ∀ j, j < len → cb σ a j = mr τ 7 (o + j) ∧ isB (mr τ 7 (o + j))
def RE (E : Nat → Nat) (σ : CS) (τ : MS) (i : Nat) : Prop := 1 ≤ E i ∧ E i ≤ 9 ∧ ci σ 700 i = nI (E i) ∧ mr τ 6 (i + 1) = nI (E i) ∧ ∃ len rs rl : Nat, len ≤ 120 ∧ mr τ 8 (pl E i) = nI len ∧ RB σ τ (2 + 3 * i) len (120 * pl E i) ∧ mr τ 11 (pl E i) = nI rs ∧ mr τ 12 (pl E i) = nI rl ∧ rs + rl ≤ len ∧ RB σ τ (4 + 3 * i) rl (120 * pl E i + rs) ∧ ((cs σ i = false ∧ mr τ 9 (pl E i) = -nI 1) ∨ (cs σ i = true ∧ ∃ ss sl : Nat, mr τ 9 (pl E i) = nI ss ∧ mr τ 10 (pl E i) = nI sl ∧ ss + sl ≤ len ∧ RB σ τ (3 + 3 * i) sl (120 * pl E i + ss)))
def RC (σ : CS) (τ : MS) (c : Nat) : Prop := ci σ 402 c = mr τ 14 c ∧ (mr τ 14 c = nI 0 ∨ mr τ 14 c = nI 1) ∧ ci σ 403 c = mr τ 15 c ∧ ci σ 404 c = mr τ 16 c ∧ ci σ 405 c = mr τ 17 c ∧ ci σ 406 c = mr τ 18 c ∧ ci σ 407 c = mr τ 19 c ∧ ci σ 408 c = mr τ 20 c ∧ ∀ p, p < 8 → cj σ (3 + c) p = mj τ 13 (8 * c + p)
def RKy (R : Nat) (σ : CS) (τ : MS) (k i : Nat) : Prop := cv σ 6 k = true ∧ cv σ 8 (11 + k) = true ∧ i < R ∧ (∃ e : Nat, 1 ≤ e ∧ e ≤ 9 ∧ ci σ 601 k = nI e ∧ mr τ 21 k = nI e) ∧ ci σ 603 k = mr τ 23 k ∧ (mr τ 23 k = nI 0 ∨ mr τ 23 k = nI 1) ∧ (∀ j, j < 8 → cj σ (11 + k) j = mj τ 22 (8 * k + j)) ∧ ((ci σ 602 k = -nI 1 ∧ mr τ 24 k = -nI 1) ∨ ∃ h : Nat, h < 8 ∧ ci σ 602 k = nI h ∧ mr τ 24 k = nI h)
def RKn (σ : CS) (τ : MS) (k : Nat) : Prop := cv σ 6 k = false ∧ mr τ 21 k = nI 0 ∧ mr τ 24 k = -nI 1
def RK (R C : Nat) (σ : CS) (τ : MS) (k i : Nat) : Prop := (RKn σ τ k ∨ RKy R σ τ k i) ∧ ∃ q : Nat, q ≤ C ∧ mr τ 25 k = nI q
def RelA (S R B C : Nat) (E : Nat → Nat) (σ : CS) (τ : MS) : Prop := RV R σ ∧ RG S R B C σ τ ∧ RU σ τ ∧ (∀ i, i < R → RE E σ τ i) ∧ (∀ c, c < 8 → RC σ τ c) ∧ ∀ c i, c < 8 → i < 20 → RK R C σ τ (20 * c + i) i
def Rel (N : Nat) (σ : CS) (τ : MS) : Prop := ∃ (S R B C : Nat) (E : Nat → Nat), C ≤ N ∧ RelA S R B C E σ τ
def Sim {α : Type} (N : Nat) (o6 : Option (α × CS)) (o7 : Option (α × MS)) : Prop := ∃ (r : α) (σ' : CS) (τ' : MS), o6 = some (r, σ') ∧ o7 = some (r, τ') ∧ Rel N σ' τ'
theorem Rel.mono {N M : Nat} {σ : CS} {τ : MS} (h : Rel N σ τ) (hm : N ≤ M) : Rel M σ τ := by
  obtain ⟨S, R, B, C, E, hC, hA⟩ := h
  exact ⟨S, R, B, C, E, Nat.le_trans hC hm, hA⟩
theorem Rel.thrown {N : Nat} {σ : CS} {τ : MS} (h : Rel N σ τ) (v : Int32) : Rel N σ (mI τ 0 v) := by
  obtain ⟨S, R, B, C, E, hC, hV, hG, hU, hE, hc, hk⟩ := h
  exact ⟨S, R, B, C, E, hC, hV, hG, hU, hE, hc, hk⟩
theorem Rel.refuse {N : Nat} {σ : CS} {τ : MS} (h : Rel N σ τ) : Rel N (cI σ 7 0 (ci σ 7 0 + 1)) (mI τ 2 (mi τ 2 + 1)) := by
  obtain ⟨S, R, B, C, E, hC, hV, hG, hU, hE, hc, hk⟩ := h
  refine ⟨S, R, B, C, E, hC, hV, ?_, hU, ?_, ?_, ?_⟩
  · obtain ⟨g1, g2, g3, g4, g5, g6, g7, g8, g9, g10, g11⟩ := hG
    exact ⟨g1, g2, g3, g4, g5, g6, g7, g8, g9, by simp only [ci_I, mi_I, g10, ↓reduceIte, Nat.reduceEqDiff, reduceCtorEq, Nat.reduceAdd, Nat.reduceMul, Nat.reduceSub, eq_self_iff_true, true_and, and_true, false_and, and_false, and_self], g11⟩
  · exact hE
  · exact hc
  · exact hk
/-! the helpers of both, at what stands -/
section EV
variable {S R B C N : Nat} {E : Nat → Nat} {σ : CS} {τ : MS}
theorem e6_ctrl_o (hV : RV R σ) {x : Int32} (h : x < 0 ∨ nI 8 ≤ x) : k_X6_controllerAt σ x = some (none, σ) := by
  unfold k_X6_controllerAt k_X6_controllerAt_b13
  by_cases h0 : x < 0
  · exact zi_t h0
  · rcases h with h | h
    · exact absurd h h0
    · rw [zi_f h0, zg_t hV.1, zg_t hV.2.2.1, zi_f (show ¬ x < 8 from Int32.not_lt.mpr h)]
theorem e6_ctrl (hV : RV R σ) {c : Nat} (hc : c < 8) : k_X6_controllerAt σ (nI c) = some (some c, σ) := by
  unfold k_X6_controllerAt
  simp (disch := omega) only [zi_le_t, zi_le_f, zi_lt_t, zi_lt_f, zi_eq_t, zi_eq_f, zi_eq_m, zi_lt_m, zi_le_m, zg_in, zi_T, zi_F, zg_T, zb_S, zo_N, zo_S, zs_D, nI_add, pk_mul, nI_sub2, nI_cl2, eq_self_iff_true, ln0, ln1, ln2, ln3, ln4, ln5, ln6, ln7, ln8, ln9, ln10, ln11, ln12, ln13, ln14, ln15, ln16, ln17, ln18, ln19, ln20, ln21, ln64, ln120, ln160, ln180, ln255, ln1280, ln21600, hV.1, hV.2.2.1, co, (hV.2.2.2.2.2.2.1 c hc).1, ↓reduceIte, Nat.reduceEqDiff, reduceCtorEq, Nat.reduceAdd, Nat.reduceMul, Nat.reduceSub, eq_self_iff_true, true_and, and_true, false_and, and_false, and_self]
theorem e6_new_o (hV : RV R σ) {x : Int32} (h : x < 1 ∨ 20 < x) : k_X6_newestOf σ x = some (none, σ) := by
  unfold k_X6_newestOf k_X6_newestOf_b14
  by_cases h0 : x < 1
  · exact zi_t h0
  · rcases h with h | h
    · exact absurd h h0
    · rw [zi_f h0, zg_t hV.1, zg_t hV.2.2.2.1, zi_f (Int32.not_le.mpr h)]
theorem e6_new_y (hV : RV R σ) {j : Nat} (hj : j < R) (hR : R ≤ 20) : k_X6_newestOf σ (nI (j + 1)) = some (some j, σ) := by
  unfold k_X6_newestOf
  simp (disch := omega) only [zi_le_t, zi_le_f, zi_lt_t, zi_lt_f, zi_eq_t, zi_eq_f, zi_eq_m, zi_lt_m, zi_le_m, zg_in, zi_T, zi_F, zg_T, zb_S, zo_N, zo_S, zs_D, nI_add, pk_mul, nI_sub2, nI_cl2, eq_self_iff_true, ln0, ln1, ln2, ln3, ln4, ln5, ln6, ln7, ln8, ln9, ln10, ln11, ln12, ln13, ln14, ln15, ln16, ln17, ln18, ln19, ln20, ln21, ln64, ln120, ln160, ln180, ln255, ln1280, ln21600, hV.1, hV.2.2.2.1, co, Nat.add_sub_cancel, (hV.2.2.2.2.2.2.2.2.1 j hj).1, ↓reduceIte, Nat.reduceEqDiff, reduceCtorEq, Nat.reduceAdd, Nat.reduceMul, Nat.reduceSub, eq_self_iff_true, true_and, and_true, false_and, and_false, and_self]
theorem e6_new_n (hV : RV R σ) {j : Nat} (hj : R ≤ j) (hR : j < 20) : k_X6_newestOf σ (nI (j + 1)) = some (none, σ) := by
  unfold k_X6_newestOf
  simp (disch := omega) only [zi_le_t, zi_le_f, zi_lt_t, zi_lt_f, zi_eq_t, zi_eq_f, zi_eq_m, zi_lt_m, zi_le_m, zg_in, zi_T, zi_F, zg_T, zb_S, zo_N, zo_S, zs_D, nI_add, pk_mul, nI_sub2, nI_cl2, eq_self_iff_true, ln0, ln1, ln2, ln3, ln4, ln5, ln6, ln7, ln8, ln9, ln10, ln11, ln12, ln13, ln14, ln15, ln16, ln17, ln18, ln19, ln20, ln21, ln64, ln120, ln160, ln180, ln255, ln1280, ln21600, hV.1, hV.2.2.2.1, co, Nat.add_sub_cancel, hV.2.2.2.2.2.2.2.2.2.1 j hj hR, ↓reduceIte, Nat.reduceEqDiff, reduceCtorEq, Nat.reduceAdd, Nat.reduceMul, Nat.reduceSub, eq_self_iff_true, true_and, and_true, false_and, and_false, and_self, Bool.false_eq_true]
theorem e6_ref (hV : RV R σ) (w : Int32) : k_X6_refuse σ w = some (w, cI σ 7 0 (ci σ 7 0 + 1)) := by
  unfold k_X6_refuse
  exact zg_t hV.1
theorem e7_ref (w : Int32) : k_X7_refuse τ w = some (w, mI τ 2 (mi τ 2 + 1)) := rfl
theorem e7_in_t {a lo hi : Nat} (h1 : lo ≤ a) (h2 : a ≤ hi) (hh : hi < 2147483648) : k_X7_in τ (nI a) (nI lo) (nI hi) = some (nI 1, τ) := by
  unfold k_X7_in k_X7_in_b14 k_X7_in_b15
  simp (disch := omega) only [zi_le_t, zi_le_f, zi_lt_t, zi_lt_f, zi_eq_t, zi_eq_f, zi_eq_m, zi_lt_m, zi_le_m, zg_in, zi_T, zi_F, zg_T, zb_S, zo_N, zo_S, zs_D, nI_add, pk_mul, nI_sub2, nI_cl2, eq_self_iff_true, ln0, ln1, ln2, ln3, ln4, ln5, ln6, ln7, ln8, ln9, ln10, ln11, ln12, ln13, ln14, ln15, ln16, ln17, ln18, ln19, ln20, ln21, ln64, ln120, ln160, ln180, ln255, ln1280, ln21600, zn1]
theorem e7_in_f {a lo hi : Nat} (h : a < lo ∨ hi < a) (ha : a < 2147483648) (hl : lo < 2147483648) : k_X7_in τ (nI a) (nI lo) (nI hi) = some (nI 0, τ) := by
  unfold k_X7_in k_X7_in_b14 k_X7_in_b15
  by_cases h1 : a < lo
  · simp (disch := omega) only [zi_le_t, zi_le_f, zi_lt_t, zi_lt_f, zi_eq_t, zi_eq_f, zi_eq_m, zi_lt_m, zi_le_m, zg_in, zi_T, zi_F, zg_T, zb_S, zo_N, zo_S, zs_D, nI_add, pk_mul, nI_sub2, nI_cl2, eq_self_iff_true, ln0, ln1, ln2, ln3, ln4, ln5, ln6, ln7, ln8, ln9, ln10, ln11, ln12, ln13, ln14, ln15, ln16, ln17, ln18, ln19, ln20, ln21, ln64, ln120, ln160, ln180, ln255, ln1280, ln21600, zn0]
  · simp (disch := omega) only [zi_le_t, zi_le_f, zi_lt_t, zi_lt_f, zi_eq_t, zi_eq_f, zi_eq_m, zi_lt_m, zi_le_m, zg_in, zi_T, zi_F, zg_T, zb_S, zo_N, zo_S, zs_D, nI_add, pk_mul, nI_sub2, nI_cl2, eq_self_iff_true, ln0, ln1, ln2, ln3, ln4, ln5, ln6, ln7, ln8, ln9, ln10, ln11, ln12, ln13, ln14, ln15, ln16, ln17, ln18, ln19, ln20, ln21, ln64, ln120, ln160, ln180, ln255, ln1280, ln21600, zn0]
theorem e7_in_n {x lo hi : Int32} (h : x < lo ∨ hi < x) : k_X7_in τ x lo hi = some (nI 0, τ) := by
  unfold k_X7_in k_X7_in_b14 k_X7_in_b15
  by_cases h1 : x < lo
  · rw [zi_t h1]; exact zn0
  · rcases h with h | h
    · exact absurd h h1
    · rw [zi_f h1, zi_t h]; exact zn0
theorem e7_ctrl {c : Nat} (hc : c < 8) : k_X7_isController τ (nI c) = some (nI 1, τ) := by
  unfold k_X7_isController
  simp (disch := omega) only [zi_le_t, zi_le_f, zi_lt_t, zi_lt_f, zi_eq_t, zi_eq_f, zi_eq_m, zi_lt_m, zi_le_m, zg_in, zi_T, zi_F, zg_T, zb_S, zo_N, zo_S, zs_D, nI_add, pk_mul, nI_sub2, nI_cl2, eq_self_iff_true, ln0, ln1, ln2, ln3, ln4, ln5, ln6, ln7, ln8, ln9, ln10, ln11, ln12, ln13, ln14, ln15, ln16, ln17, ln18, ln19, ln20, ln21, ln64, ln120, ln160, ln180, ln255, ln1280, ln21600, e7_in_t, zn1]
theorem e7_ctrl_o {x : Int32} (h : x < 0 ∨ nI 8 ≤ x) : k_X7_isController τ x = some (nI 0, τ) := by
  unfold k_X7_isController
  rw [e7_in_n (o8_7 h)]
  exact zn0
theorem e7_run_y (h5 : mi τ 5 = nI R) {j : Nat} (hj : j < R) (hR : R ≤ 20) : k_X7_isRunnable τ (nI (j + 1)) = some (nI 1, τ) := by
  unfold k_X7_isRunnable
  rw [h5]
  simp (disch := omega) only [zi_le_t, zi_le_f, zi_lt_t, zi_lt_f, zi_eq_t, zi_eq_f, zi_eq_m, zi_lt_m, zi_le_m, zg_in, zi_T, zi_F, zg_T, zb_S, zo_N, zo_S, zs_D, nI_add, pk_mul, nI_sub2, nI_cl2, eq_self_iff_true, ln0, ln1, ln2, ln3, ln4, ln5, ln6, ln7, ln8, ln9, ln10, ln11, ln12, ln13, ln14, ln15, ln16, ln17, ln18, ln19, ln20, ln21, ln64, ln120, ln160, ln180, ln255, ln1280, ln21600, e7_in_t, zn1]
theorem e7_run_n (h5 : mi τ 5 = nI R) {j : Nat} (hj : R ≤ j) (hR : j < 20) : k_X7_isRunnable τ (nI (j + 1)) = some (nI 0, τ) := by
  unfold k_X7_isRunnable
  rw [h5]
  simp (disch := omega) only [zi_le_t, zi_le_f, zi_lt_t, zi_lt_f, zi_eq_t, zi_eq_f, zi_eq_m, zi_lt_m, zi_le_m, zg_in, zi_T, zi_F, zg_T, zb_S, zo_N, zo_S, zs_D, nI_add, pk_mul, nI_sub2, nI_cl2, eq_self_iff_true, ln0, ln1, ln2, ln3, ln4, ln5, ln6, ln7, ln8, ln9, ln10, ln11, ln12, ln13, ln14, ln15, ln16, ln17, ln18, ln19, ln20, ln21, ln64, ln120, ln160, ln180, ln255, ln1280, ln21600, e7_in_f, zn0]
theorem e7_run_o (h5 : mi τ 5 = nI R) (hR : R ≤ 20) {x : Int32} (h : x < 1 ∨ 20 < x) : k_X7_isRunnable τ x = some (nI 0, τ) := by
  unfold k_X7_isRunnable
  rw [h5, e7_in_n]
  · exact zn0
  · rcases h with h | h
    · exact Or.inl h
    · right
      rw [Int32.lt_iff_toInt_lt] at h ⊢
      rw [nI_toInt (by omega)]
      have h1 : (20 : Int32).toInt = 20 := by decide
      omega
theorem e7_at {c j : Nat} : k_X7_at τ (nI c) (nI (j + 1)) = some (nI (20 * c + j), τ) := by
  unfold k_X7_at
  simp (disch := omega) only [zi_le_t, zi_le_f, zi_lt_t, zi_lt_f, zi_eq_t, zi_eq_f, zi_eq_m, zi_lt_m, zi_le_m, zg_in, zi_T, zi_F, zg_T, zb_S, zo_N, zo_S, zs_D, nI_add, pk_mul, nI_sub2, nI_cl2, eq_self_iff_true, ln0, ln1, ln2, ln3, ln4, ln5, ln6, ln7, ln8, ln9, ln10, ln11, ln12, ln13, ln14, ln15, ln16, ln17, ln18, ln19, ln20, ln21, ln64, ln120, ln160, ln180, ln255, ln1280, ln21600]
  rw [show 20 * c + (j + 1) - 1 = 20 * c + j by omega]
theorem e7_pl {j e : Nat} (h : 1 ≤ e) : k_X7_place τ (nI (j + 1)) (nI e) = some (nI (9 * j + (e - 1)), τ) := by
  unfold k_X7_place
  simp (disch := omega) only [zi_le_t, zi_le_f, zi_lt_t, zi_lt_f, zi_eq_t, zi_eq_f, zi_eq_m, zi_lt_m, zi_le_m, zg_in, zi_T, zi_F, zg_T, zb_S, zo_N, zo_S, zs_D, nI_add, pk_mul, nI_sub2, nI_cl2, eq_self_iff_true, ln0, ln1, ln2, ln3, ln4, ln5, ln6, ln7, ln8, ln9, ln10, ln11, ln12, ln13, ln14, ln15, ln16, ln17, ln18, ln19, ln20, ln21, ln64, ln120, ln160, ln180, ln255, ln1280, ln21600, Nat.add_sub_cancel]
  rw [show 9 * j + e - 1 = 9 * j + (e - 1) by omega]
theorem e6_cls_o (hV : RV R σ) {c : Nat} {x : Int32} (hc : c < 8) (h : x < 1 ∨ 20 < x) : k_X1_classOf σ c x = some (none, σ) := by
  unfold k_X1_classOf k_X1_classOf_b25 k_X1_classOf_b26
  by_cases h0 : x < 1
  · exact zi_t h0
  · rcases h with h | h
    · exact absurd h h0
    · rw [zi_f h0, zg_t (hV.2.2.2.2.2.2.1 c hc).1, zg_t (hV.2.2.2.2.2.2.1 c hc).2, zi_t h]
theorem e6_cls_y (hV : RV R σ) {c j : Nat} (hc : c < 8) (hj : j < 20) (h : cv σ 6 (20 * c + j) = true) : k_X1_classOf σ c (nI (j + 1)) = some (some (20 * c + j), σ) := by
  unfold k_X1_classOf k_X1_classOf_b26
  simp (disch := omega) only [zi_le_t, zi_le_f, zi_lt_t, zi_lt_f, zi_eq_t, zi_eq_f, zi_eq_m, zi_lt_m, zi_le_m, zg_in, zi_T, zi_F, zg_T, zb_S, zo_N, zo_S, zs_D, nI_add, pk_mul, nI_sub2, nI_cl2, eq_self_iff_true, ln0, ln1, ln2, ln3, ln4, ln5, ln6, ln7, ln8, ln9, ln10, ln11, ln12, ln13, ln14, ln15, ln16, ln17, ln18, ln19, ln20, ln21, ln64, ln120, ln160, ln180, ln255, ln1280, ln21600, (hV.2.2.2.2.2.2.1 c hc).1, (hV.2.2.2.2.2.2.1 c hc).2, co, Nat.add_sub_cancel, h, ↓reduceIte, Nat.reduceEqDiff, reduceCtorEq, Nat.reduceAdd, Nat.reduceMul, Nat.reduceSub, eq_self_iff_true, true_and, and_true, false_and, and_false, and_self]
theorem e6_cls_n (hV : RV R σ) {c j : Nat} (hc : c < 8) (hj : j < 20) (h : cv σ 6 (20 * c + j) = false) : k_X1_classOf σ c (nI (j + 1)) = some (none, σ) := by
  unfold k_X1_classOf k_X1_classOf_b26
  simp (disch := omega) only [zi_le_t, zi_le_f, zi_lt_t, zi_lt_f, zi_eq_t, zi_eq_f, zi_eq_m, zi_lt_m, zi_le_m, zg_in, zi_T, zi_F, zg_T, zb_S, zo_N, zo_S, zs_D, nI_add, pk_mul, nI_sub2, nI_cl2, eq_self_iff_true, ln0, ln1, ln2, ln3, ln4, ln5, ln6, ln7, ln8, ln9, ln10, ln11, ln12, ln13, ln14, ln15, ln16, ln17, ln18, ln19, ln20, ln21, ln64, ln120, ln160, ln180, ln255, ln1280, ln21600, (hV.2.2.2.2.2.2.1 c hc).1, (hV.2.2.2.2.2.2.1 c hc).2, co, Nat.add_sub_cancel, h, ↓reduceIte, Nat.reduceEqDiff, reduceCtorEq, Nat.reduceAdd, Nat.reduceMul, Nat.reduceSub, eq_self_iff_true, true_and, and_true, false_and, and_false, and_self, Bool.false_eq_true]
theorem jl_8 {a : Nat} (h : 0 < a) : jl a = 8 := by
  unfold jl
  rw [if_neg (by omega)]
theorem jl_0 : jl 0 = 16 := rfl
theorem e6_num {a j : Nat} (ha : cv σ 8 a = true) (h0 : 0 < a) (hj : j < 8) : k_X6_numberAt σ a (nI j) = some (cj σ a j, σ) := by
  unfold k_X6_numberAt k_X6_numberAt_b17
  simp (disch := omega) only [jl_8 h0, zi_le_t, zi_le_f, zi_lt_t, zi_lt_f, zi_eq_t, zi_eq_f, zi_eq_m, zi_lt_m, zi_le_m, zg_in, zi_T, zi_F, zg_T, zb_S, zo_N, zo_S, zs_D, nI_add, pk_mul, nI_sub2, nI_cl2, eq_self_iff_true, ln0, ln1, ln2, ln3, ln4, ln5, ln6, ln7, ln8, ln9, ln10, ln11, ln12, ln13, ln14, ln15, ln16, ln17, ln18, ln19, ln20, ln21, ln64, ln120, ln160, ln180, ln255, ln1280, ln21600, ha]
theorem e6_num_o {a : Nat} {x : Int32} (ha : cv σ 8 a = true) (h0 : 0 < a) (h : x < 0 ∨ nI 8 ≤ x) : k_X6_numberAt σ a x = some (0, σ) := by
  unfold k_X6_numberAt k_X6_numberAt_b16 k_X6_numberAt_b17
  by_cases h1 : x < 0
  · exact zi_t h1
  · rcases h with h | h
    · exact absurd h h1
    · rw [zi_f h1, zg_t ha, jl_8 h0, zi_t h]
theorem e6_putN {a j : Nat} {v : Int64} (ha : cv σ 8 a = true) (h0 : 0 < a) (hj : j < 8) : k_X6_putNumber σ a (nI j) v = some ((), cJ σ a j v) := by
  unfold k_X6_putNumber k_X6_putNumber_b14
  simp (disch := omega) only [jl_8 h0, zi_le_t, zi_le_f, zi_lt_t, zi_lt_f, zi_eq_t, zi_eq_f, zi_eq_m, zi_lt_m, zi_le_m, zg_in, zi_T, zi_F, zg_T, zb_S, zo_N, zo_S, zs_D, nI_add, pk_mul, nI_sub2, nI_cl2, eq_self_iff_true, ln0, ln1, ln2, ln3, ln4, ln5, ln6, ln7, ln8, ln9, ln10, ln11, ln12, ln13, ln14, ln15, ln16, ln17, ln18, ln19, ln20, ln21, ln64, ln120, ln160, ln180, ln255, ln1280, ln21600, ha]
theorem e7_has_y (hG : RG S R B C σ τ) {c j : Nat} (hc : c < 8) (hj : j < R) (h : ∃ e : Nat, 1 ≤ e ∧ e ≤ 9 ∧ mr τ 21 (20 * c + j) = nI e) : k_X7_hasClass τ (nI c) (nI (j + 1)) = some (nI 1, τ) := by
  obtain ⟨g1, g2, g3, g4, g5, g6, g7, g8, g9, g10, g11⟩ := hG
  obtain ⟨e, he1, he2, he⟩ := h
  unfold k_X7_hasClass k_X7_hasClass_b33 k_X7_hasClass_b34
  simp (disch := omega) only [e7_ctrl hc, e7_run_y g8 hj g9, e7_at, zi_le_t, zi_le_f, zi_lt_t, zi_lt_f, zi_eq_t, zi_eq_f, zi_eq_m, zi_lt_m, zi_le_m, zg_in, zi_T, zi_F, zg_T, zb_S, zo_N, zo_S, zs_D, nI_add, pk_mul, nI_sub2, nI_cl2, eq_self_iff_true, ln0, ln1, ln2, ln3, ln4, ln5, ln6, ln7, ln8, ln9, ln10, ln11, ln12, ln13, ln14, ln15, ln16, ln17, ln18, ln19, ln20, ln21, ln64, ln120, ln160, ln180, ln255, ln1280, ln21600, he, zn1]
theorem e7_has_n (hG : RG S R B C σ τ) {c j : Nat} (hc : c < 8) (hj : j < 20) (h : mr τ 21 (20 * c + j) = nI 0) : k_X7_hasClass τ (nI c) (nI (j + 1)) = some (nI 0, τ) := by
  obtain ⟨g1, g2, g3, g4, g5, g6, g7, g8, g9, g10, g11⟩ := hG
  unfold k_X7_hasClass k_X7_hasClass_b33 k_X7_hasClass_b34
  by_cases hj2 : j < R
  · simp (disch := omega) only [e7_ctrl hc, e7_run_y g8 hj2 g9, e7_at, zi_le_t, zi_le_f, zi_lt_t, zi_lt_f, zi_eq_t, zi_eq_f, zi_eq_m, zi_lt_m, zi_le_m, zg_in, zi_T, zi_F, zg_T, zb_S, zo_N, zo_S, zs_D, nI_add, pk_mul, nI_sub2, nI_cl2, eq_self_iff_true, ln0, ln1, ln2, ln3, ln4, ln5, ln6, ln7, ln8, ln9, ln10, ln11, ln12, ln13, ln14, ln15, ln16, ln17, ln18, ln19, ln20, ln21, ln64, ln120, ln160, ln180, ln255, ln1280, ln21600, h, zn0]
  · simp (disch := omega) only [e7_ctrl hc, e7_run_n g8 (Nat.not_lt.mp hj2) hj, zi_le_t, zi_le_f, zi_lt_t, zi_lt_f, zi_eq_t, zi_eq_f, zi_eq_m, zi_lt_m, zi_le_m, zg_in, zi_T, zi_F, zg_T, zb_S, zo_N, zo_S, zs_D, nI_add, pk_mul, nI_sub2, nI_cl2, eq_self_iff_true, ln0, ln1, ln2, ln3, ln4, ln5, ln6, ln7, ln8, ln9, ln10, ln11, ln12, ln13, ln14, ln15, ln16, ln17, ln18, ln19, ln20, ln21, ln64, ln120, ln160, ln180, ln255, ln1280, ln21600, zn0]
theorem e7_has_o (hG : RG S R B C σ τ) {x y : Int32} (h : (x < 0 ∨ nI 8 ≤ x) ∨ (∃ c : Nat, c < 8 ∧ x = nI c) ∧ (y < 1 ∨ 20 < y)) : k_X7_hasClass τ x y = some (nI 0, τ) := by
  obtain ⟨g1, g2, g3, g4, g5, g6, g7, g8, g9, g10, g11⟩ := hG
  unfold k_X7_hasClass k_X7_hasClass_b33 k_X7_hasClass_b34
  rcases h with h | ⟨⟨c, hc, rfl⟩, h⟩
  · simp (disch := omega) only [e7_ctrl_o h, zi_le_t, zi_le_f, zi_lt_t, zi_lt_f, zi_eq_t, zi_eq_f, zi_eq_m, zi_lt_m, zi_le_m, zg_in, zi_T, zi_F, zg_T, zb_S, zo_N, zo_S, zs_D, nI_add, pk_mul, nI_sub2, nI_cl2, eq_self_iff_true, ln0, ln1, ln2, ln3, ln4, ln5, ln6, ln7, ln8, ln9, ln10, ln11, ln12, ln13, ln14, ln15, ln16, ln17, ln18, ln19, ln20, ln21, ln64, ln120, ln160, ln180, ln255, ln1280, ln21600, zn0]
  · simp (disch := omega) only [e7_ctrl hc, e7_run_o g8 g9 h, zi_le_t, zi_le_f, zi_lt_t, zi_lt_f, zi_eq_t, zi_eq_f, zi_eq_m, zi_lt_m, zi_le_m, zg_in, zi_T, zi_F, zg_T, zb_S, zo_N, zo_S, zs_D, nI_add, pk_mul, nI_sub2, nI_cl2, eq_self_iff_true, ln0, ln1, ln2, ln3, ln4, ln5, ln6, ln7, ln8, ln9, ln10, ln11, ln12, ln13, ln14, ln15, ln16, ln17, ln18, ln19, ln20, ln21, ln64, ln120, ln160, ln180, ln255, ln1280, ln21600, zn0]
/-- a class, or none, for both alike -/
theorem cls_two (hA : RelA S R B C E σ τ) (x y : Int32) : (k_X6_classAt σ x y = some (none, σ) ∧ k_X7_hasClass τ x y = some (nI 0, τ)) ∨ ∃ c j : Nat, c < 8 ∧ j < R ∧ x = nI c ∧ y = nI (j + 1) ∧ RKy R σ τ (20 * c + j) j ∧ k_X6_classAt σ x y = some (some (20 * c + j), σ) ∧ k_X7_hasClass τ x y = some (nI 1, τ) := by
  obtain ⟨hV, hG, hU, hE, hc, hk⟩ := hA
  rcases ix8 x with h | ⟨c, hc8, rfl⟩
  · left
    refine ⟨?_, e7_has_o hG (Or.inl h)⟩
    unfold k_X6_classAt k_X6_classAt_b19
    rw [zg_t hV.1, e6_ctrl_o hV h]
    rfl
  · rcases ix20 y with h | ⟨j, hj, rfl⟩
    · left
      refine ⟨?_, e7_has_o hG (Or.inr ⟨⟨c, hc8, rfl⟩, h⟩)⟩
      unfold k_X6_classAt k_X6_classAt_b19
      rw [zg_t hV.1, e6_ctrl hV hc8, zb_S, zo_S, zg_t (hV.2.2.2.2.2.2.1 c hc8).1, e6_cls_o hV hc8 h]
      rfl
    · obtain ⟨h1 | h1, -⟩ := hk c j hc8 hj
      · left
        refine ⟨?_, e7_has_n hG hc8 hj h1.2.1⟩
        unfold k_X6_classAt k_X6_classAt_b19
        rw [zg_t hV.1, e6_ctrl hV hc8, zb_S, zo_S, zg_t (hV.2.2.2.2.2.2.1 c hc8).1, e6_cls_n hV hc8 hj h1.1]
        rfl
      · right
        obtain ⟨e, he1, he2, he3, he4⟩ := h1.2.2.2.1
        refine ⟨c, j, hc8, h1.2.2.1, rfl, rfl, h1, ?_, e7_has_y hG hc8 h1.2.2.1 ⟨e, he1, he2, he4⟩⟩
        unfold k_X6_classAt k_X6_classAt_b19
        rw [zg_t hV.1, e6_ctrl hV hc8, zb_S, zo_S, zg_t (hV.2.2.2.2.2.2.1 c hc8).1, e6_cls_y hV hc8 hj h1.1]
        rfl
end EV
