/-! ===== the class: what a state of it is; its objects and rows, by kind and number ===== -/
-- kinds: 0 the object, 1 its way, 2 the row of controllers, 3 the row of newest editions, 4 controllers, 5 their rows of classes, 6 classes, 7 editions, 8 rows of longs (0 pile, 1 copied ports, 2 copied cells, 3 + c ports, 11 + k cells), 9 rows of bytes (0 under way, 1 the way's first, 2 + 3 i octets, 3 + 3 i start, 4 + 3 i run)
abbrev CS : Type := (Nat → Nat → Int32) × (Nat → Nat → Int32) × (Nat → Nat) × (Nat → Nat → Int64) × (Nat → Nat → Bool) × (Nat → Bool) × (Nat → Nat)
def ci (σ : CS) (f i : Nat) : Int32 := σ.1 f i
def cb (σ : CS) (a : Nat) : Nat → Int32 := σ.2.1 a
def cbl (σ : CS) (a : Nat) : Nat := σ.2.2.1 a
def cj (σ : CS) (a : Nat) : Nat → Int64 := σ.2.2.2.1 a
def cv (σ : CS) (k i : Nat) : Bool := σ.2.2.2.2.1 k i
def cs (σ : CS) (i : Nat) : Bool := σ.2.2.2.2.2.1 i
def cr (σ : CS) (k : Nat) : Nat := σ.2.2.2.2.2.2 k
def cI (σ : CS) (f i : Nat) (v : Int32) : CS := (fun f' i' => if f' = f ∧ i' = i then v else σ.1 f' i', σ.2)
def cB (σ : CS) (a j : Nat) (v : Int32) : CS := (σ.1, va_up σ.2.1 a (upd (σ.2.1 a) j v), σ.2.2)
def cJ (σ : CS) (a j : Nat) (v : Int64) : CS := (σ.1, σ.2.1, σ.2.2.1, va_up σ.2.2.2.1 a (vp_updL (σ.2.2.2.1 a) j v), σ.2.2.2.2)
def cR (σ : CS) (k : Nat) (a : Nat) : CS := (σ.1, σ.2.1, σ.2.2.1, σ.2.2.2.1, σ.2.2.2.2.1, σ.2.2.2.2.2.1, va_up σ.2.2.2.2.2.2 k a)
theorem ci_I (σ : CS) (f i : Nat) (v : Int32) (f' i' : Nat) : ci (cI σ f i v) f' i' = if f' = f ∧ i' = i then v else ci σ f' i' := rfl
theorem cb_I (σ : CS) (f i : Nat) (v : Int32) : cb (cI σ f i v) = cb σ := rfl
theorem cbl_I (σ : CS) (f i : Nat) (v : Int32) : cbl (cI σ f i v) = cbl σ := rfl
theorem cj_I (σ : CS) (f i : Nat) (v : Int32) : cj (cI σ f i v) = cj σ := rfl
theorem cv_I (σ : CS) (f i : Nat) (v : Int32) : cv (cI σ f i v) = cv σ := rfl
theorem cs_I (σ : CS) (f i : Nat) (v : Int32) : cs (cI σ f i v) = cs σ := rfl
theorem cr_I (σ : CS) (f i : Nat) (v : Int32) : cr (cI σ f i v) = cr σ := rfl
theorem ci_B (σ : CS) (a j : Nat) (v : Int32) : ci (cB σ a j v) = ci σ := rfl
theorem cb_B (σ : CS) (a j : Nat) (v : Int32) (a' : Nat) : cb (cB σ a j v) a' = if a' = a then upd (cb σ a) j v else cb σ a' := rfl
theorem cbl_B (σ : CS) (a j : Nat) (v : Int32) : cbl (cB σ a j v) = cbl σ := rfl
theorem cj_B (σ : CS) (a j : Nat) (v : Int32) : cj (cB σ a j v) = cj σ := rfl
theorem cv_B (σ : CS) (a j : Nat) (v : Int32) : cv (cB σ a j v) = cv σ := rfl
theorem cs_B (σ : CS) (a j : Nat) (v : Int32) : cs (cB σ a j v) = cs σ := rfl
theorem cr_B (σ : CS) (a j : Nat) (v : Int32) : cr (cB σ a j v) = cr σ := rfl
theorem ci_J (σ : CS) (a j : Nat) (v : Int64) : ci (cJ σ a j v) = ci σ := rfl
theorem cb_J (σ : CS) (a j : Nat) (v : Int64) : cb (cJ σ a j v) = cb σ := rfl
theorem cbl_J (σ : CS) (a j : Nat) (v : Int64) : cbl (cJ σ a j v) = cbl σ := rfl
theorem cj_J (σ : CS) (a j : Nat) (v : Int64) (a' : Nat) : cj (cJ σ a j v) a' = if a' = a then vp_updL (cj σ a) j v else cj σ a' := rfl
theorem cv_J (σ : CS) (a j : Nat) (v : Int64) : cv (cJ σ a j v) = cv σ := rfl
theorem cs_J (σ : CS) (a j : Nat) (v : Int64) : cs (cJ σ a j v) = cs σ := rfl
theorem cr_J (σ : CS) (a j : Nat) (v : Int64) : cr (cJ σ a j v) = cr σ := rfl
theorem ci_R (σ : CS) (k a : Nat) : ci (cR σ k a) = ci σ := rfl
theorem cb_R (σ : CS) (k a : Nat) : cb (cR σ k a) = cb σ := rfl
theorem cbl_R (σ : CS) (k a : Nat) : cbl (cR σ k a) = cbl σ := rfl
theorem cj_R (σ : CS) (k a : Nat) : cj (cR σ k a) = cj σ := rfl
theorem cv_R (σ : CS) (k a : Nat) : cv (cR σ k a) = cv σ := rfl
theorem cs_R (σ : CS) (k a : Nat) : cs (cR σ k a) = cs σ := rfl
theorem cr_R (σ : CS) (k a k' : Nat) : cr (cR σ k a) k' = if k' = k then a else cr σ k' := rfl
/-- a name if its thing stands -/
def co (σ : CS) (k i : Nat) : Option Nat := if cv σ k i = true then some i else none
/-- how long a row of longs is -/
def jl (a : Nat) : Nat := if a = 0 then 16 else 8
/-- an address behind a name that may be wanting -/
abbrev rn (ad : Nat × Nat → Nat) (k : Nat) (o : Option Nat) : Value := va_rf (o.map (fun i => ad (k, i)))
def cF0 (ad : Nat × Nat → Nat) (σ : CS) (i : Nat) : List Value := [.int (ci σ 0 i), .ref (ad (2, 0)), .ref (ad (3, 0)), .ref (ad (1, 0)), .ref (ad (9, 0)), .int (ci σ 5 i), .int (ci σ 6 i), .int (ci σ 7 i)]
def cF1 (ad : Nat × Nat → Nat) (σ : CS) (i : Nat) : List Value := [.ref (ad (8, 0)), .ref (ad (8, 1)), .ref (ad (8, 2)), .ref (ad (9, cr σ (3 + 100 * i))), .ref (ad (8, cr σ (4 + 100 * i))), .ref (ad (8, cr σ (5 + 100 * i))), .int (ci σ 106 i), .int (ci σ 107 i), .int (ci σ 108 i), .int (ci σ 109 i), .int (ci σ 110 i)]
def cF4 (ad : Nat × Nat → Nat) (σ : CS) (i : Nat) : List Value := [.ref (ad (8, 3 + i)), .ref (ad (5, i)), .int (ci σ 402 i), .int (ci σ 403 i), .int (ci σ 404 i), .int (ci σ 405 i), .int (ci σ 406 i), .int (ci σ 407 i), .int (ci σ 408 i)]
def cF6 (ad : Nat × Nat → Nat) (σ : CS) (i : Nat) : List Value := [.ref (ad (8, 11 + i)), .int (ci σ 601 i), .int (ci σ 602 i), .int (ci σ 603 i)]
def cF7 (ad : Nat × Nat → Nat) (σ : CS) (i : Nat) : List Value := [.int (ci σ 700 i), .ref (ad (9, 2 + 3 * i)), rn ad 9 (if cs σ i = true then some (3 + 3 * i) else none), .ref (ad (9, 4 + 3 * i))]
def cE (cy : Nat → ClassId) (ad : Nat × Nat → Nat) (σ : CS) (k i : Nat) : Option va_E := match k with
  | 0 => some (.inr (6, cF0 ad σ i))
  | 1 => some (.inr (5, cF1 ad σ i))
  | 2 => some (.inl (cy 4, 8, .inr (.inr (.inr (.inr (fun j => (co σ 4 j).map (fun i => ad (4, i))))))))
  | 3 => some (.inl (cy 5, 20, .inr (.inr (.inr (.inr (fun j => (co σ 7 j).map (fun i => ad (7, i))))))))
  | 4 => some (.inr (2, cF4 ad σ i))
  | 5 => some (.inl (cy 6, 20, .inr (.inr (.inr (.inr (fun j => (co σ 6 (20 * i + j)).map (fun i => ad (6, i))))))))
  | 6 => some (.inr (4, cF6 ad σ i))
  | 7 => some (.inr (3, cF7 ad σ i))
  | 8 => some (.inl (cy 2, jl i, .inr (.inl (cj σ i))))
  | 9 => some (.inl (cy 0, cbl σ i, .inl (cb σ i)))
  | _ => none
def cG (cy : Nat → ClassId) (ad : Nat × Nat → Nat) (σ : CS) : Nat × Nat → Option va_E := fun g => if cv σ g.1 g.2 = true then cE cy ad σ g.1 g.2 else none
theorem cG_at {cy : Nat → ClassId} {ad : Nat × Nat → Nat} {σ : CS} {k i : Nat} (h : cv σ k i = true) : cG cy ad σ (k, i) = cE cy ad σ k i := if_pos h
theorem cG_ne {cy : Nat → ClassId} {ad : Nat × Nat → Nat} {σ σ' : CS} {k i : Nat} (hv : cv σ' = cv σ) (h : ∀ k' i', ¬ (k' = k ∧ i' = i) → cE cy ad σ' k' i' = cE cy ad σ k' i') : ∀ g, g ≠ (k, i) → cG cy ad σ' g = cG cy ad σ g := by
  intro g hg
  unfold cG
  rw [hv, h g.1 g.2 (fun q => hg (Prod.ext q.1 q.2))]
theorem cput_0 (cy : Nat → ClassId) (ad : Nat × Nat → Nat) (σ : CS) (i : Nat) (v : Int32) : cE cy ad (cI σ 0 i v) 0 i = some (.inr (6, (cF0 ad σ i).set 0 (.int v))) := by simp [cE, cF0, ci_I, cs_I, cr_I]
theorem cout_0 (cy : Nat → ClassId) (ad : Nat × Nat → Nat) (σ : CS) (i : Nat) (v : Int32) : ∀ k' i', ¬ (k' = 0 ∧ i' = i) → cE cy ad (cI σ 0 i v) k' i' = cE cy ad σ k' i' := by
  intro k' i' h
  unfold cE
  split <;> first | rfl | (simp [cF0, cF1, cF4, cF6, cF7, ci_I, cs_I, cr_I]; done) | (have hi : ¬ i' = i := fun q => h ⟨rfl, q⟩; simp [cF0, cF1, cF4, cF6, cF7, ci_I, cs_I, cr_I, hi])
theorem cput_5 (cy : Nat → ClassId) (ad : Nat × Nat → Nat) (σ : CS) (i : Nat) (v : Int32) : cE cy ad (cI σ 5 i v) 0 i = some (.inr (6, (cF0 ad σ i).set 5 (.int v))) := by simp [cE, cF0, ci_I, cs_I, cr_I]
theorem cout_5 (cy : Nat → ClassId) (ad : Nat × Nat → Nat) (σ : CS) (i : Nat) (v : Int32) : ∀ k' i', ¬ (k' = 0 ∧ i' = i) → cE cy ad (cI σ 5 i v) k' i' = cE cy ad σ k' i' := by
  intro k' i' h
  unfold cE
  split <;> first | rfl | (simp [cF0, cF1, cF4, cF6, cF7, ci_I, cs_I, cr_I]; done) | (have hi : ¬ i' = i := fun q => h ⟨rfl, q⟩; simp [cF0, cF1, cF4, cF6, cF7, ci_I, cs_I, cr_I, hi])
theorem cput_6 (cy : Nat → ClassId) (ad : Nat × Nat → Nat) (σ : CS) (i : Nat) (v : Int32) : cE cy ad (cI σ 6 i v) 0 i = some (.inr (6, (cF0 ad σ i).set 6 (.int v))) := by simp [cE, cF0, ci_I, cs_I, cr_I]
theorem cout_6 (cy : Nat → ClassId) (ad : Nat × Nat → Nat) (σ : CS) (i : Nat) (v : Int32) : ∀ k' i', ¬ (k' = 0 ∧ i' = i) → cE cy ad (cI σ 6 i v) k' i' = cE cy ad σ k' i' := by
  intro k' i' h
  unfold cE
  split <;> first | rfl | (simp [cF0, cF1, cF4, cF6, cF7, ci_I, cs_I, cr_I]; done) | (have hi : ¬ i' = i := fun q => h ⟨rfl, q⟩; simp [cF0, cF1, cF4, cF6, cF7, ci_I, cs_I, cr_I, hi])
theorem cput_7 (cy : Nat → ClassId) (ad : Nat × Nat → Nat) (σ : CS) (i : Nat) (v : Int32) : cE cy ad (cI σ 7 i v) 0 i = some (.inr (6, (cF0 ad σ i).set 7 (.int v))) := by simp [cE, cF0, ci_I, cs_I, cr_I]
theorem cout_7 (cy : Nat → ClassId) (ad : Nat × Nat → Nat) (σ : CS) (i : Nat) (v : Int32) : ∀ k' i', ¬ (k' = 0 ∧ i' = i) → cE cy ad (cI σ 7 i v) k' i' = cE cy ad σ k' i' := by
  intro k' i' h
  unfold cE
  split <;> first | rfl | (simp [cF0, cF1, cF4, cF6, cF7, ci_I, cs_I, cr_I]; done) | (have hi : ¬ i' = i := fun q => h ⟨rfl, q⟩; simp [cF0, cF1, cF4, cF6, cF7, ci_I, cs_I, cr_I, hi])
theorem cput_106 (cy : Nat → ClassId) (ad : Nat × Nat → Nat) (σ : CS) (i : Nat) (v : Int32) : cE cy ad (cI σ 106 i v) 1 i = some (.inr (5, (cF1 ad σ i).set 6 (.int v))) := by simp [cE, cF1, ci_I, cs_I, cr_I]
theorem cout_106 (cy : Nat → ClassId) (ad : Nat × Nat → Nat) (σ : CS) (i : Nat) (v : Int32) : ∀ k' i', ¬ (k' = 1 ∧ i' = i) → cE cy ad (cI σ 106 i v) k' i' = cE cy ad σ k' i' := by
  intro k' i' h
  unfold cE
  split <;> first | rfl | (simp [cF0, cF1, cF4, cF6, cF7, ci_I, cs_I, cr_I]; done) | (have hi : ¬ i' = i := fun q => h ⟨rfl, q⟩; simp [cF0, cF1, cF4, cF6, cF7, ci_I, cs_I, cr_I, hi])
theorem cput_107 (cy : Nat → ClassId) (ad : Nat × Nat → Nat) (σ : CS) (i : Nat) (v : Int32) : cE cy ad (cI σ 107 i v) 1 i = some (.inr (5, (cF1 ad σ i).set 7 (.int v))) := by simp [cE, cF1, ci_I, cs_I, cr_I]
theorem cout_107 (cy : Nat → ClassId) (ad : Nat × Nat → Nat) (σ : CS) (i : Nat) (v : Int32) : ∀ k' i', ¬ (k' = 1 ∧ i' = i) → cE cy ad (cI σ 107 i v) k' i' = cE cy ad σ k' i' := by
  intro k' i' h
  unfold cE
  split <;> first | rfl | (simp [cF0, cF1, cF4, cF6, cF7, ci_I, cs_I, cr_I]; done) | (have hi : ¬ i' = i := fun q => h ⟨rfl, q⟩; simp [cF0, cF1, cF4, cF6, cF7, ci_I, cs_I, cr_I, hi])
theorem cput_108 (cy : Nat → ClassId) (ad : Nat × Nat → Nat) (σ : CS) (i : Nat) (v : Int32) : cE cy ad (cI σ 108 i v) 1 i = some (.inr (5, (cF1 ad σ i).set 8 (.int v))) := by simp [cE, cF1, ci_I, cs_I, cr_I]
theorem cout_108 (cy : Nat → ClassId) (ad : Nat × Nat → Nat) (σ : CS) (i : Nat) (v : Int32) : ∀ k' i', ¬ (k' = 1 ∧ i' = i) → cE cy ad (cI σ 108 i v) k' i' = cE cy ad σ k' i' := by
  intro k' i' h
  unfold cE
  split <;> first | rfl | (simp [cF0, cF1, cF4, cF6, cF7, ci_I, cs_I, cr_I]; done) | (have hi : ¬ i' = i := fun q => h ⟨rfl, q⟩; simp [cF0, cF1, cF4, cF6, cF7, ci_I, cs_I, cr_I, hi])
theorem cput_109 (cy : Nat → ClassId) (ad : Nat × Nat → Nat) (σ : CS) (i : Nat) (v : Int32) : cE cy ad (cI σ 109 i v) 1 i = some (.inr (5, (cF1 ad σ i).set 9 (.int v))) := by simp [cE, cF1, ci_I, cs_I, cr_I]
theorem cout_109 (cy : Nat → ClassId) (ad : Nat × Nat → Nat) (σ : CS) (i : Nat) (v : Int32) : ∀ k' i', ¬ (k' = 1 ∧ i' = i) → cE cy ad (cI σ 109 i v) k' i' = cE cy ad σ k' i' := by
  intro k' i' h
  unfold cE
  split <;> first | rfl | (simp [cF0, cF1, cF4, cF6, cF7, ci_I, cs_I, cr_I]; done) | (have hi : ¬ i' = i := fun q => h ⟨rfl, q⟩; simp [cF0, cF1, cF4, cF6, cF7, ci_I, cs_I, cr_I, hi])
theorem cput_110 (cy : Nat → ClassId) (ad : Nat × Nat → Nat) (σ : CS) (i : Nat) (v : Int32) : cE cy ad (cI σ 110 i v) 1 i = some (.inr (5, (cF1 ad σ i).set 10 (.int v))) := by simp [cE, cF1, ci_I, cs_I, cr_I]
theorem cout_110 (cy : Nat → ClassId) (ad : Nat × Nat → Nat) (σ : CS) (i : Nat) (v : Int32) : ∀ k' i', ¬ (k' = 1 ∧ i' = i) → cE cy ad (cI σ 110 i v) k' i' = cE cy ad σ k' i' := by
  intro k' i' h
  unfold cE
  split <;> first | rfl | (simp [cF0, cF1, cF4, cF6, cF7, ci_I, cs_I, cr_I]; done) | (have hi : ¬ i' = i := fun q => h ⟨rfl, q⟩; simp [cF0, cF1, cF4, cF6, cF7, ci_I, cs_I, cr_I, hi])
theorem cput_402 (cy : Nat → ClassId) (ad : Nat × Nat → Nat) (σ : CS) (i : Nat) (v : Int32) : cE cy ad (cI σ 402 i v) 4 i = some (.inr (2, (cF4 ad σ i).set 2 (.int v))) := by simp [cE, cF4, ci_I, cs_I, cr_I]
theorem cout_402 (cy : Nat → ClassId) (ad : Nat × Nat → Nat) (σ : CS) (i : Nat) (v : Int32) : ∀ k' i', ¬ (k' = 4 ∧ i' = i) → cE cy ad (cI σ 402 i v) k' i' = cE cy ad σ k' i' := by
  intro k' i' h
  unfold cE
  split <;> first | rfl | (simp [cF0, cF1, cF4, cF6, cF7, ci_I, cs_I, cr_I]; done) | (have hi : ¬ i' = i := fun q => h ⟨rfl, q⟩; simp [cF0, cF1, cF4, cF6, cF7, ci_I, cs_I, cr_I, hi])
theorem cput_403 (cy : Nat → ClassId) (ad : Nat × Nat → Nat) (σ : CS) (i : Nat) (v : Int32) : cE cy ad (cI σ 403 i v) 4 i = some (.inr (2, (cF4 ad σ i).set 3 (.int v))) := by simp [cE, cF4, ci_I, cs_I, cr_I]
theorem cout_403 (cy : Nat → ClassId) (ad : Nat × Nat → Nat) (σ : CS) (i : Nat) (v : Int32) : ∀ k' i', ¬ (k' = 4 ∧ i' = i) → cE cy ad (cI σ 403 i v) k' i' = cE cy ad σ k' i' := by
  intro k' i' h
  unfold cE
  split <;> first | rfl | (simp [cF0, cF1, cF4, cF6, cF7, ci_I, cs_I, cr_I]; done) | (have hi : ¬ i' = i := fun q => h ⟨rfl, q⟩; simp [cF0, cF1, cF4, cF6, cF7, ci_I, cs_I, cr_I, hi])
theorem cput_404 (cy : Nat → ClassId) (ad : Nat × Nat → Nat) (σ : CS) (i : Nat) (v : Int32) : cE cy ad (cI σ 404 i v) 4 i = some (.inr (2, (cF4 ad σ i).set 4 (.int v))) := by simp [cE, cF4, ci_I, cs_I, cr_I]
theorem cout_404 (cy : Nat → ClassId) (ad : Nat × Nat → Nat) (σ : CS) (i : Nat) (v : Int32) : ∀ k' i', ¬ (k' = 4 ∧ i' = i) → cE cy ad (cI σ 404 i v) k' i' = cE cy ad σ k' i' := by
  intro k' i' h
  unfold cE
  split <;> first | rfl | (simp [cF0, cF1, cF4, cF6, cF7, ci_I, cs_I, cr_I]; done) | (have hi : ¬ i' = i := fun q => h ⟨rfl, q⟩; simp [cF0, cF1, cF4, cF6, cF7, ci_I, cs_I, cr_I, hi])
theorem cput_405 (cy : Nat → ClassId) (ad : Nat × Nat → Nat) (σ : CS) (i : Nat) (v : Int32) : cE cy ad (cI σ 405 i v) 4 i = some (.inr (2, (cF4 ad σ i).set 5 (.int v))) := by simp [cE, cF4, ci_I, cs_I, cr_I]
theorem cout_405 (cy : Nat → ClassId) (ad : Nat × Nat → Nat) (σ : CS) (i : Nat) (v : Int32) : ∀ k' i', ¬ (k' = 4 ∧ i' = i) → cE cy ad (cI σ 405 i v) k' i' = cE cy ad σ k' i' := by
  intro k' i' h
  unfold cE
  split <;> first | rfl | (simp [cF0, cF1, cF4, cF6, cF7, ci_I, cs_I, cr_I]; done) | (have hi : ¬ i' = i := fun q => h ⟨rfl, q⟩; simp [cF0, cF1, cF4, cF6, cF7, ci_I, cs_I, cr_I, hi])
theorem cput_406 (cy : Nat → ClassId) (ad : Nat × Nat → Nat) (σ : CS) (i : Nat) (v : Int32) : cE cy ad (cI σ 406 i v) 4 i = some (.inr (2, (cF4 ad σ i).set 6 (.int v))) := by simp [cE, cF4, ci_I, cs_I, cr_I]
theorem cout_406 (cy : Nat → ClassId) (ad : Nat × Nat → Nat) (σ : CS) (i : Nat) (v : Int32) : ∀ k' i', ¬ (k' = 4 ∧ i' = i) → cE cy ad (cI σ 406 i v) k' i' = cE cy ad σ k' i' := by
  intro k' i' h
  unfold cE
  split <;> first | rfl | (simp [cF0, cF1, cF4, cF6, cF7, ci_I, cs_I, cr_I]; done) | (have hi : ¬ i' = i := fun q => h ⟨rfl, q⟩; simp [cF0, cF1, cF4, cF6, cF7, ci_I, cs_I, cr_I, hi])
theorem cput_407 (cy : Nat → ClassId) (ad : Nat × Nat → Nat) (σ : CS) (i : Nat) (v : Int32) : cE cy ad (cI σ 407 i v) 4 i = some (.inr (2, (cF4 ad σ i).set 7 (.int v))) := by simp [cE, cF4, ci_I, cs_I, cr_I]
theorem cout_407 (cy : Nat → ClassId) (ad : Nat × Nat → Nat) (σ : CS) (i : Nat) (v : Int32) : ∀ k' i', ¬ (k' = 4 ∧ i' = i) → cE cy ad (cI σ 407 i v) k' i' = cE cy ad σ k' i' := by
  intro k' i' h
  unfold cE
  split <;> first | rfl | (simp [cF0, cF1, cF4, cF6, cF7, ci_I, cs_I, cr_I]; done) | (have hi : ¬ i' = i := fun q => h ⟨rfl, q⟩; simp [cF0, cF1, cF4, cF6, cF7, ci_I, cs_I, cr_I, hi])
theorem cput_408 (cy : Nat → ClassId) (ad : Nat × Nat → Nat) (σ : CS) (i : Nat) (v : Int32) : cE cy ad (cI σ 408 i v) 4 i = some (.inr (2, (cF4 ad σ i).set 8 (.int v))) := by simp [cE, cF4, ci_I, cs_I, cr_I]
theorem cout_408 (cy : Nat → ClassId) (ad : Nat × Nat → Nat) (σ : CS) (i : Nat) (v : Int32) : ∀ k' i', ¬ (k' = 4 ∧ i' = i) → cE cy ad (cI σ 408 i v) k' i' = cE cy ad σ k' i' := by
  intro k' i' h
  unfold cE
  split <;> first | rfl | (simp [cF0, cF1, cF4, cF6, cF7, ci_I, cs_I, cr_I]; done) | (have hi : ¬ i' = i := fun q => h ⟨rfl, q⟩; simp [cF0, cF1, cF4, cF6, cF7, ci_I, cs_I, cr_I, hi])
theorem cput_601 (cy : Nat → ClassId) (ad : Nat × Nat → Nat) (σ : CS) (i : Nat) (v : Int32) : cE cy ad (cI σ 601 i v) 6 i = some (.inr (4, (cF6 ad σ i).set 1 (.int v))) := by simp [cE, cF6, ci_I, cs_I, cr_I]
theorem cout_601 (cy : Nat → ClassId) (ad : Nat × Nat → Nat) (σ : CS) (i : Nat) (v : Int32) : ∀ k' i', ¬ (k' = 6 ∧ i' = i) → cE cy ad (cI σ 601 i v) k' i' = cE cy ad σ k' i' := by
  intro k' i' h
  unfold cE
  split <;> first | rfl | (simp [cF0, cF1, cF4, cF6, cF7, ci_I, cs_I, cr_I]; done) | (have hi : ¬ i' = i := fun q => h ⟨rfl, q⟩; simp [cF0, cF1, cF4, cF6, cF7, ci_I, cs_I, cr_I, hi])
theorem cput_602 (cy : Nat → ClassId) (ad : Nat × Nat → Nat) (σ : CS) (i : Nat) (v : Int32) : cE cy ad (cI σ 602 i v) 6 i = some (.inr (4, (cF6 ad σ i).set 2 (.int v))) := by simp [cE, cF6, ci_I, cs_I, cr_I]
theorem cout_602 (cy : Nat → ClassId) (ad : Nat × Nat → Nat) (σ : CS) (i : Nat) (v : Int32) : ∀ k' i', ¬ (k' = 6 ∧ i' = i) → cE cy ad (cI σ 602 i v) k' i' = cE cy ad σ k' i' := by
  intro k' i' h
  unfold cE
  split <;> first | rfl | (simp [cF0, cF1, cF4, cF6, cF7, ci_I, cs_I, cr_I]; done) | (have hi : ¬ i' = i := fun q => h ⟨rfl, q⟩; simp [cF0, cF1, cF4, cF6, cF7, ci_I, cs_I, cr_I, hi])
theorem cput_603 (cy : Nat → ClassId) (ad : Nat × Nat → Nat) (σ : CS) (i : Nat) (v : Int32) : cE cy ad (cI σ 603 i v) 6 i = some (.inr (4, (cF6 ad σ i).set 3 (.int v))) := by simp [cE, cF6, ci_I, cs_I, cr_I]
theorem cout_603 (cy : Nat → ClassId) (ad : Nat × Nat → Nat) (σ : CS) (i : Nat) (v : Int32) : ∀ k' i', ¬ (k' = 6 ∧ i' = i) → cE cy ad (cI σ 603 i v) k' i' = cE cy ad σ k' i' := by
  intro k' i' h
  unfold cE
  split <;> first | rfl | (simp [cF0, cF1, cF4, cF6, cF7, ci_I, cs_I, cr_I]; done) | (have hi : ¬ i' = i := fun q => h ⟨rfl, q⟩; simp [cF0, cF1, cF4, cF6, cF7, ci_I, cs_I, cr_I, hi])
theorem cputR_3 (cy : Nat → ClassId) (ad : Nat × Nat → Nat) (σ : CS) (a : Nat) : cE cy ad (cR σ 3 a) 1 0 = some (.inr (5, (cF1 ad σ 0).set 3 (.ref (ad (9, a))))) := by simp [cE, cF1, ci_R, cr_R]
theorem cputR_4 (cy : Nat → ClassId) (ad : Nat × Nat → Nat) (σ : CS) (a : Nat) : cE cy ad (cR σ 4 a) 1 0 = some (.inr (5, (cF1 ad σ 0).set 4 (.ref (ad (8, a))))) := by simp [cE, cF1, ci_R, cr_R]
theorem cputR_5 (cy : Nat → ClassId) (ad : Nat × Nat → Nat) (σ : CS) (a : Nat) : cE cy ad (cR σ 5 a) 1 0 = some (.inr (5, (cF1 ad σ 0).set 5 (.ref (ad (8, a))))) := by simp [cE, cF1, ci_R, cr_R]
theorem coutR_3 (cy : Nat → ClassId) (ad : Nat × Nat → Nat) (σ : CS) (a : Nat) : ∀ k' i', ¬ (k' = 1 ∧ i' = 0) → cE cy ad (cR σ 3 a) k' i' = cE cy ad σ k' i' := by
  intro k' i' h
  unfold cE
  split <;> first | rfl | (have hi : ¬ i' = 0 := fun q => h ⟨rfl, q⟩; have h3 : ¬ 3 + 100 * i' = 3 := (by omega); have h4 : ¬ 4 + 100 * i' = 3 := (by omega); have h5 : ¬ 5 + 100 * i' = 3 := (by omega); have h6 : ¬ 100 * i' = 0 := (by omega); simp [cF1, ci_R, cr_R, h3, h4, h5, h6]; done)
theorem coutR_4 (cy : Nat → ClassId) (ad : Nat × Nat → Nat) (σ : CS) (a : Nat) : ∀ k' i', ¬ (k' = 1 ∧ i' = 0) → cE cy ad (cR σ 4 a) k' i' = cE cy ad σ k' i' := by
  intro k' i' h
  unfold cE
  split <;> first | rfl | (have hi : ¬ i' = 0 := fun q => h ⟨rfl, q⟩; have h3 : ¬ 3 + 100 * i' = 4 := (by omega); have h4 : ¬ 4 + 100 * i' = 4 := (by omega); have h5 : ¬ 5 + 100 * i' = 4 := (by omega); have h6 : ¬ 100 * i' = 0 := (by omega); simp [cF1, ci_R, cr_R, h3, h4, h5, h6]; done)
theorem coutR_5 (cy : Nat → ClassId) (ad : Nat × Nat → Nat) (σ : CS) (a : Nat) : ∀ k' i', ¬ (k' = 1 ∧ i' = 0) → cE cy ad (cR σ 5 a) k' i' = cE cy ad σ k' i' := by
  intro k' i' h
  unfold cE
  split <;> first | rfl | (have hi : ¬ i' = 0 := fun q => h ⟨rfl, q⟩; have h3 : ¬ 3 + 100 * i' = 5 := (by omega); have h4 : ¬ 4 + 100 * i' = 5 := (by omega); have h5 : ¬ 5 + 100 * i' = 5 := (by omega); have h6 : ¬ 100 * i' = 0 := (by omega); simp [cF1, ci_R, cr_R, h3, h4, h5, h6]; done)
theorem coutB (cy : Nat → ClassId) (ad : Nat × Nat → Nat) (σ : CS) (a j : Nat) (v : Int32) : ∀ k' i', ¬ (k' = 9 ∧ i' = a) → cE cy ad (cB σ a j v) k' i' = cE cy ad σ k' i' := by
  intro k' i' h
  unfold cE
  split <;> first | rfl | (have hi : ¬ i' = a := fun q => h ⟨rfl, q⟩; simp [cb_B, cbl_B, hi])
theorem coutJ (cy : Nat → ClassId) (ad : Nat × Nat → Nat) (σ : CS) (a j : Nat) (v : Int64) : ∀ k' i', ¬ (k' = 8 ∧ i' = a) → cE cy ad (cJ σ a j v) k' i' = cE cy ad σ k' i' := by
  intro k' i' h
  unfold cE
  split <;> first | rfl | (have hi : ¬ i' = a := fun q => h ⟨rfl, q⟩; simp [cj_J, cbl_B, hi])
