section
-- ===== PART A: goes FIRST, ahead of the names: the tables' words, and 'selects' of the private methods out of them =====
/-- a private method of a class that the tables say can be made, by its rows of tables_1 -/
def lw_okq (q : MethodName × Nat) : Prop := (q.1.cls ≠ "java/lang/invoke/MethodHandle" ∧ q.1.cls ≠ "java/lang/invoke/VarHandle") ∧ Cond.instantiable q.1.cls q.2 ∈ tables_1 ∧ Cond.privateMethod q.1 ∈ tables_1 ∧ Cond.instanceMethod q.1 ∈ tables_1
theorem lw_p0 : lw_okq (⟨"RunClasses", "refuse", "(I)I"⟩, 8) := ⟨⟨by decide +kernel, by decide +kernel⟩, List.mem_of_getElem? (i := 22) (by decide +kernel), List.mem_of_getElem? (i := 151) (by decide +kernel), List.mem_of_getElem? (i := 152) (by decide +kernel)⟩
theorem lw_p1 : lw_okq (⟨"RunClasses", "putOctet", "(B)V"⟩, 8) := ⟨⟨by decide +kernel, by decide +kernel⟩, List.mem_of_getElem? (i := 22) (by decide +kernel), List.mem_of_getElem? (i := 155) (by decide +kernel), List.mem_of_getElem? (i := 156) (by decide +kernel)⟩
theorem lw_p2 : lw_okq (⟨"RunClasses", "newestOf", "(I)LRunClasses$Edition;"⟩, 8) := ⟨⟨by decide +kernel, by decide +kernel⟩, List.mem_of_getElem? (i := 22) (by decide +kernel), List.mem_of_getElem? (i := 163) (by decide +kernel), List.mem_of_getElem? (i := 164) (by decide +kernel)⟩
theorem lw_p3 : lw_okq (⟨"RunClasses", "addRunnable", "()I"⟩, 8) := ⟨⟨by decide +kernel, by decide +kernel⟩, List.mem_of_getElem? (i := 22) (by decide +kernel), List.mem_of_getElem? (i := 173) (by decide +kernel), List.mem_of_getElem? (i := 174) (by decide +kernel)⟩
theorem lw_p4 : lw_okq (⟨"RunClasses", "keepEdition", "(II)V"⟩, 8) := ⟨⟨by decide +kernel, by decide +kernel⟩, List.mem_of_getElem? (i := 22) (by decide +kernel), List.mem_of_getElem? (i := 177) (by decide +kernel), List.mem_of_getElem? (i := 178) (by decide +kernel)⟩
theorem lw_p5 : lw_okq (⟨"RunClasses", "addEdition", "(II)I"⟩, 8) := ⟨⟨by decide +kernel, by decide +kernel⟩, List.mem_of_getElem? (i := 22) (by decide +kernel), List.mem_of_getElem? (i := 229) (by decide +kernel), List.mem_of_getElem? (i := 230) (by decide +kernel)⟩
theorem lw_p6 : lw_okq (⟨"RunClasses", "controllerAt", "(I)LRunClasses$Controller;"⟩, 8) := ⟨⟨by decide +kernel, by decide +kernel⟩, List.mem_of_getElem? (i := 22) (by decide +kernel), List.mem_of_getElem? (i := 237) (by decide +kernel), List.mem_of_getElem? (i := 238) (by decide +kernel)⟩
theorem lw_p7 : lw_okq (⟨"RunClasses$Controller", "classOf", "(I)LRunClasses$Loaded;"⟩, 9) := ⟨⟨by decide +kernel, by decide +kernel⟩, List.mem_of_getElem? (i := 38) (by decide +kernel), List.mem_of_getElem? (i := 241) (by decide +kernel), List.mem_of_getElem? (i := 242) (by decide +kernel)⟩
theorem lw_p8 : lw_okq (⟨"RunClasses$Controller", "load", "(ILRunClasses$Loaded;)V"⟩, 9) := ⟨⟨by decide +kernel, by decide +kernel⟩, List.mem_of_getElem? (i := 38) (by decide +kernel), List.mem_of_getElem? (i := 268) (by decide +kernel), List.mem_of_getElem? (i := 269) (by decide +kernel)⟩
theorem lw_p9 : lw_okq (⟨"RunClasses", "callStart", "(LRunClasses$Controller;I)I"⟩, 8) := ⟨⟨by decide +kernel, by decide +kernel⟩, List.mem_of_getElem? (i := 22) (by decide +kernel), List.mem_of_getElem? (i := 276) (by decide +kernel), List.mem_of_getElem? (i := 277) (by decide +kernel)⟩
theorem lw_p10 : lw_okq (⟨"RunClasses", "call", "(LRunClasses$Controller;LRunClasses$Loaded;I[B)I"⟩, 8) := ⟨⟨by decide +kernel, by decide +kernel⟩, List.mem_of_getElem? (i := 22) (by decide +kernel), List.mem_of_getElem? (i := 280) (by decide +kernel), List.mem_of_getElem? (i := 281) (by decide +kernel)⟩
theorem lw_p11 : lw_okq (⟨"RunClasses$Way", "go", "([B[J[JI)I"⟩, 11) := ⟨⟨by decide +kernel, by decide +kernel⟩, List.mem_of_getElem? (i := 78) (by decide +kernel), List.mem_of_getElem? (i := 284) (by decide +kernel), List.mem_of_getElem? (i := 285) (by decide +kernel)⟩
theorem lw_p12 : lw_okq (⟨"RunClasses$Way", "step", "()I"⟩, 11) := ⟨⟨by decide +kernel, by decide +kernel⟩, List.mem_of_getElem? (i := 78) (by decide +kernel), List.mem_of_getElem? (i := 288) (by decide +kernel), List.mem_of_getElem? (i := 289) (by decide +kernel)⟩
theorem lw_p13 : lw_okq (⟨"RunClasses$Way", "doIt", "(LRunClasses$Instruction;I)I"⟩, 11) := ⟨⟨by decide +kernel, by decide +kernel⟩, List.mem_of_getElem? (i := 78) (by decide +kernel), List.mem_of_getElem? (i := 295) (by decide +kernel), List.mem_of_getElem? (i := 296) (by decide +kernel)⟩
theorem lw_p14 : lw_okq (⟨"RunClasses$Way", "lay", "(J)I"⟩, 11) := ⟨⟨by decide +kernel, by decide +kernel⟩, List.mem_of_getElem? (i := 78) (by decide +kernel), List.mem_of_getElem? (i := 307) (by decide +kernel), List.mem_of_getElem? (i := 308) (by decide +kernel)⟩
theorem lw_p15 : lw_okq (⟨"RunClasses$Way", "take", "()J"⟩, 11) := ⟨⟨by decide +kernel, by decide +kernel⟩, List.mem_of_getElem? (i := 78) (by decide +kernel), List.mem_of_getElem? (i := 314) (by decide +kernel), List.mem_of_getElem? (i := 315) (by decide +kernel)⟩
def lw_privs_1 : List (MethodName × Nat) := [(⟨"RunClasses", "refuse", "(I)I"⟩, 8), (⟨"RunClasses", "putOctet", "(B)V"⟩, 8), (⟨"RunClasses", "newestOf", "(I)LRunClasses$Edition;"⟩, 8), (⟨"RunClasses", "addRunnable", "()I"⟩, 8), (⟨"RunClasses", "keepEdition", "(II)V"⟩, 8), (⟨"RunClasses", "addEdition", "(II)I"⟩, 8), (⟨"RunClasses", "controllerAt", "(I)LRunClasses$Controller;"⟩, 8), (⟨"RunClasses$Controller", "classOf", "(I)LRunClasses$Loaded;"⟩, 9), (⟨"RunClasses$Controller", "load", "(ILRunClasses$Loaded;)V"⟩, 9), (⟨"RunClasses", "callStart", "(LRunClasses$Controller;I)I"⟩, 8), (⟨"RunClasses", "call", "(LRunClasses$Controller;LRunClasses$Loaded;I[B)I"⟩, 8), (⟨"RunClasses$Way", "go", "([B[J[JI)I"⟩, 11), (⟨"RunClasses$Way", "step", "()I"⟩, 11), (⟨"RunClasses$Way", "doIt", "(LRunClasses$Instruction;I)I"⟩, 11), (⟨"RunClasses$Way", "lay", "(J)I"⟩, 11), (⟨"RunClasses$Way", "take", "()J"⟩, 11)]
theorem lw_r1 : ∀ q ∈ lw_privs_1, lw_okq q := List.forall_mem_cons.mpr ⟨lw_p0, List.forall_mem_cons.mpr ⟨lw_p1, List.forall_mem_cons.mpr ⟨lw_p2, List.forall_mem_cons.mpr ⟨lw_p3, List.forall_mem_cons.mpr ⟨lw_p4, List.forall_mem_cons.mpr ⟨lw_p5, List.forall_mem_cons.mpr ⟨lw_p6, List.forall_mem_cons.mpr ⟨lw_p7, List.forall_mem_cons.mpr ⟨lw_p8, List.forall_mem_cons.mpr ⟨lw_p9, List.forall_mem_cons.mpr ⟨lw_p10, List.forall_mem_cons.mpr ⟨lw_p11, List.forall_mem_cons.mpr ⟨lw_p12, List.forall_mem_cons.mpr ⟨lw_p13, List.forall_mem_cons.mpr ⟨lw_p14, List.forall_mem_cons.mpr ⟨lw_p15, fun _ h => absurd h List.not_mem_nil⟩⟩⟩⟩⟩⟩⟩⟩⟩⟩⟩⟩⟩⟩⟩⟩
theorem lw_p16 : lw_okq (⟨"RunClasses$Way", "goOnAt", "(I)I"⟩, 11) := ⟨⟨by decide +kernel, by decide +kernel⟩, List.mem_of_getElem? (i := 78) (by decide +kernel), List.mem_of_getElem? (i := 321) (by decide +kernel), List.mem_of_getElem? (i := 322) (by decide +kernel)⟩
theorem lw_p17 : lw_okq (⟨"RunClasses", "callRun", "(IIZ)I"⟩, 8) := ⟨⟨by decide +kernel, by decide +kernel⟩, List.mem_of_getElem? (i := 22) (by decide +kernel), List.mem_of_getElem? (i := 340) (by decide +kernel), List.mem_of_getElem? (i := 341) (by decide +kernel)⟩
theorem lw_p18 : lw_okq (⟨"RunClasses$Way", "goOnCopies", "([B[J[JI)I"⟩, 11) := ⟨⟨by decide +kernel, by decide +kernel⟩, List.mem_of_getElem? (i := 78) (by decide +kernel), List.mem_of_getElem? (i := 344) (by decide +kernel), List.mem_of_getElem? (i := 345) (by decide +kernel)⟩
theorem lw_p19 : lw_okq (⟨"RunClasses", "classAt", "(II)LRunClasses$Loaded;"⟩, 8) := ⟨⟨by decide +kernel, by decide +kernel⟩, List.mem_of_getElem? (i := 22) (by decide +kernel), List.mem_of_getElem? (i := 373) (by decide +kernel), List.mem_of_getElem? (i := 374) (by decide +kernel)⟩
theorem lw_p20 : lw_okq (⟨"RunClasses$Loaded", "becomeAnew", "(II)V"⟩, 4) := ⟨⟨by decide +kernel, by decide +kernel⟩, List.mem_of_getElem? (i := 245) (by decide +kernel), List.mem_of_getElem? (i := 385) (by decide +kernel), List.mem_of_getElem? (i := 386) (by decide +kernel)⟩
theorem lw_p21 : lw_okq (⟨"java/lang/Throwable", "fillInStackTrace", "(I)Ljava/lang/Throwable;"⟩, 6) := ⟨⟨by decide +kernel, by decide +kernel⟩, List.mem_of_getElem? (i := 457) (by decide +kernel), List.mem_of_getElem? (i := 455) (by decide +kernel), List.mem_of_getElem? (i := 456) (by decide +kernel)⟩
theorem lw_p22 : lw_okq (⟨"RunClassesModel", "refuse", "(I)I"⟩, 33) := ⟨⟨by decide +kernel, by decide +kernel⟩, List.mem_of_getElem? (i := 544) (by decide +kernel), List.mem_of_getElem? (i := 664) (by decide +kernel), List.mem_of_getElem? (i := 665) (by decide +kernel)⟩
theorem lw_p23 : lw_okq (⟨"RunClassesModel", "isRight", "()Z"⟩, 33) := ⟨⟨by decide +kernel, by decide +kernel⟩, List.mem_of_getElem? (i := 544) (by decide +kernel), List.mem_of_getElem? (i := 672) (by decide +kernel), List.mem_of_getElem? (i := 673) (by decide +kernel)⟩
theorem lw_p24 : lw_okq (⟨"RunClassesModel", "empties", "()I"⟩, 33) := ⟨⟨by decide +kernel, by decide +kernel⟩, List.mem_of_getElem? (i := 544) (by decide +kernel), List.mem_of_getElem? (i := 676) (by decide +kernel), List.mem_of_getElem? (i := 677) (by decide +kernel)⟩
theorem lw_p25 : lw_okq (⟨"RunClassesModel", "cutUp", "(I)Z"⟩, 33) := ⟨⟨by decide +kernel, by decide +kernel⟩, List.mem_of_getElem? (i := 544) (by decide +kernel), List.mem_of_getElem? (i := 683) (by decide +kernel), List.mem_of_getElem? (i := 684) (by decide +kernel)⟩
theorem lw_p26 : lw_okq (⟨"RunClassesModel", "isController", "(I)Z"⟩, 33) := ⟨⟨by decide +kernel, by decide +kernel⟩, List.mem_of_getElem? (i := 544) (by decide +kernel), List.mem_of_getElem? (i := 691) (by decide +kernel), List.mem_of_getElem? (i := 692) (by decide +kernel)⟩
theorem lw_p27 : lw_okq (⟨"RunClassesModel", "isRunnable", "(I)Z"⟩, 33) := ⟨⟨by decide +kernel, by decide +kernel⟩, List.mem_of_getElem? (i := 544) (by decide +kernel), List.mem_of_getElem? (i := 695) (by decide +kernel), List.mem_of_getElem? (i := 696) (by decide +kernel)⟩
theorem lw_p28 : lw_okq (⟨"RunClassesModel", "renew", "(III)V"⟩, 33) := ⟨⟨by decide +kernel, by decide +kernel⟩, List.mem_of_getElem? (i := 544) (by decide +kernel), List.mem_of_getElem? (i := 702) (by decide +kernel), List.mem_of_getElem? (i := 703) (by decide +kernel)⟩
theorem lw_p29 : lw_okq (⟨"RunClassesModel", "call", "(IIII)I"⟩, 33) := ⟨⟨by decide +kernel, by decide +kernel⟩, List.mem_of_getElem? (i := 544) (by decide +kernel), List.mem_of_getElem? (i := 710) (by decide +kernel), List.mem_of_getElem? (i := 711) (by decide +kernel)⟩
theorem lw_p30 : lw_okq (⟨"RunClassesModel", "take", "()J"⟩, 33) := ⟨⟨by decide +kernel, by decide +kernel⟩, List.mem_of_getElem? (i := 544) (by decide +kernel), List.mem_of_getElem? (i := 714) (by decide +kernel), List.mem_of_getElem? (i := 715) (by decide +kernel)⟩
theorem lw_p31 : lw_okq (⟨"RunClassesModel", "move", "(IIII)V"⟩, 33) := ⟨⟨by decide +kernel, by decide +kernel⟩, List.mem_of_getElem? (i := 544) (by decide +kernel), List.mem_of_getElem? (i := 718) (by decide +kernel), List.mem_of_getElem? (i := 719) (by decide +kernel)⟩
def lw_privs_2 : List (MethodName × Nat) := [(⟨"RunClasses$Way", "goOnAt", "(I)I"⟩, 11), (⟨"RunClasses", "callRun", "(IIZ)I"⟩, 8), (⟨"RunClasses$Way", "goOnCopies", "([B[J[JI)I"⟩, 11), (⟨"RunClasses", "classAt", "(II)LRunClasses$Loaded;"⟩, 8), (⟨"RunClasses$Loaded", "becomeAnew", "(II)V"⟩, 4), (⟨"java/lang/Throwable", "fillInStackTrace", "(I)Ljava/lang/Throwable;"⟩, 6), (⟨"RunClassesModel", "refuse", "(I)I"⟩, 33), (⟨"RunClassesModel", "isRight", "()Z"⟩, 33), (⟨"RunClassesModel", "empties", "()I"⟩, 33), (⟨"RunClassesModel", "cutUp", "(I)Z"⟩, 33), (⟨"RunClassesModel", "isController", "(I)Z"⟩, 33), (⟨"RunClassesModel", "isRunnable", "(I)Z"⟩, 33), (⟨"RunClassesModel", "renew", "(III)V"⟩, 33), (⟨"RunClassesModel", "call", "(IIII)I"⟩, 33), (⟨"RunClassesModel", "take", "()J"⟩, 33), (⟨"RunClassesModel", "move", "(IIII)V"⟩, 33)]
theorem lw_r2 : ∀ q ∈ lw_privs_2, lw_okq q := List.forall_mem_cons.mpr ⟨lw_p16, List.forall_mem_cons.mpr ⟨lw_p17, List.forall_mem_cons.mpr ⟨lw_p18, List.forall_mem_cons.mpr ⟨lw_p19, List.forall_mem_cons.mpr ⟨lw_p20, List.forall_mem_cons.mpr ⟨lw_p21, List.forall_mem_cons.mpr ⟨lw_p22, List.forall_mem_cons.mpr ⟨lw_p23, List.forall_mem_cons.mpr ⟨lw_p24, List.forall_mem_cons.mpr ⟨lw_p25, List.forall_mem_cons.mpr ⟨lw_p26, List.forall_mem_cons.mpr ⟨lw_p27, List.forall_mem_cons.mpr ⟨lw_p28, List.forall_mem_cons.mpr ⟨lw_p29, List.forall_mem_cons.mpr ⟨lw_p30, List.forall_mem_cons.mpr ⟨lw_p31, fun _ h => absurd h List.not_mem_nil⟩⟩⟩⟩⟩⟩⟩⟩⟩⟩⟩⟩⟩⟩⟩⟩
theorem lw_p32 : lw_okq (⟨"RunClassesModel", "lay", "(J)V"⟩, 33) := ⟨⟨by decide +kernel, by decide +kernel⟩, List.mem_of_getElem? (i := 544) (by decide +kernel), List.mem_of_getElem? (i := 722) (by decide +kernel), List.mem_of_getElem? (i := 723) (by decide +kernel)⟩
theorem lw_p33 : lw_okq (⟨"RunClassesModel", "reckon", "(I)I"⟩, 33) := ⟨⟨by decide +kernel, by decide +kernel⟩, List.mem_of_getElem? (i := 544) (by decide +kernel), List.mem_of_getElem? (i := 726) (by decide +kernel), List.mem_of_getElem? (i := 727) (by decide +kernel)⟩
theorem lw_p34 : lw_okq (⟨"RunClassesModel", "other", "(IIII)I"⟩, 33) := ⟨⟨by decide +kernel, by decide +kernel⟩, List.mem_of_getElem? (i := 544) (by decide +kernel), List.mem_of_getElem? (i := 730) (by decide +kernel), List.mem_of_getElem? (i := 731) (by decide +kernel)⟩
theorem lw_p35 : lw_okq (⟨"RunClassesModel", "tell", "(III)V"⟩, 33) := ⟨⟨by decide +kernel, by decide +kernel⟩, List.mem_of_getElem? (i := 544) (by decide +kernel), List.mem_of_getElem? (i := 735) (by decide +kernel), List.mem_of_getElem? (i := 736) (by decide +kernel)⟩
theorem lw_p36 : lw_okq (⟨"RunClassesModel", "barred", "(II)I"⟩, 33) := ⟨⟨by decide +kernel, by decide +kernel⟩, List.mem_of_getElem? (i := 544) (by decide +kernel), List.mem_of_getElem? (i := 743) (by decide +kernel), List.mem_of_getElem? (i := 744) (by decide +kernel)⟩
theorem lw_p37 : lw_okq (⟨"RunClassesModel", "runMember", "(II)I"⟩, 33) := ⟨⟨by decide +kernel, by decide +kernel⟩, List.mem_of_getElem? (i := 544) (by decide +kernel), List.mem_of_getElem? (i := 747) (by decide +kernel), List.mem_of_getElem? (i := 748) (by decide +kernel)⟩
theorem lw_p38 : lw_okq (⟨"RunClassesModel", "hasClass", "(II)Z"⟩, 33) := ⟨⟨by decide +kernel, by decide +kernel⟩, List.mem_of_getElem? (i := 544) (by decide +kernel), List.mem_of_getElem? (i := 767) (by decide +kernel), List.mem_of_getElem? (i := 768) (by decide +kernel)⟩
def lw_privs_3 : List (MethodName × Nat) := [(⟨"RunClassesModel", "lay", "(J)V"⟩, 33), (⟨"RunClassesModel", "reckon", "(I)I"⟩, 33), (⟨"RunClassesModel", "other", "(IIII)I"⟩, 33), (⟨"RunClassesModel", "tell", "(III)V"⟩, 33), (⟨"RunClassesModel", "barred", "(II)I"⟩, 33), (⟨"RunClassesModel", "runMember", "(II)I"⟩, 33), (⟨"RunClassesModel", "hasClass", "(II)Z"⟩, 33)]
theorem lw_r3 : ∀ q ∈ lw_privs_3, lw_okq q := List.forall_mem_cons.mpr ⟨lw_p32, List.forall_mem_cons.mpr ⟨lw_p33, List.forall_mem_cons.mpr ⟨lw_p34, List.forall_mem_cons.mpr ⟨lw_p35, List.forall_mem_cons.mpr ⟨lw_p36, List.forall_mem_cons.mpr ⟨lw_p37, List.forall_mem_cons.mpr ⟨lw_p38, fun _ h => absurd h List.not_mem_nil⟩⟩⟩⟩⟩⟩⟩
def lw_privs : List (MethodName × Nat) := lw_privs_1 ++ (lw_privs_2 ++ (lw_privs_3))
def lw_tbl : List Cond := k2_sels lw_privs ++ tables_1
theorem lw_privs_ok : ∀ q ∈ lw_privs, lw_okq q := by
  show ∀ q ∈ lw_privs_1 ++ (lw_privs_2 ++ (lw_privs_3)), lw_okq q
  exact List.forall_mem_append.mpr ⟨lw_r1, List.forall_mem_append.mpr ⟨lw_r2, lw_r3⟩⟩
end
section
/-! ===== BEGIN words of one list among another's, by their places ===== -/
theorem goodIn_r {big : List Cond} (ws : List Cond) (ps : List Nat) (hp : ws = ps.filterMap (fun i => big[i]?)) (h : ws.all goodWord = true) : GoodIn big ws := by
  intro w hw
  have h1 := List.all_eq_true.mp h w hw
  rw [hp] at hw
  obtain ⟨i, -, hi⟩ := List.mem_filterMap.mp hw
  have hm : w ∈ big := by first | exact List.mem_of_getElem? hi | exact List.getElem?_mem hi
  exact ⟨hm, good_of_word h1⟩
theorem goodIn_app {big a b : List Cond} (ha : GoodIn big a) (hb : GoodIn big b) : GoodIn big (a ++ b) := fun w h => (List.mem_append.mp h).elim (ha w) (hb w)
theorem goodIn_ca {big a b : List Cond} {c : Cond} (ha : GoodIn big (c :: a)) (hb : GoodIn big b) : GoodIn big (c :: (a ++ b)) := fun w h => (List.mem_cons.mp h).elim (fun e => ha w (List.mem_cons.mpr (Or.inl e))) (fun h => (List.mem_append.mp h).elim (fun h => ha w (List.mem_cons.mpr (Or.inr h))) (hb w))
theorem goodIn_sub {big ws : List Cond} (hm : ∀ w ∈ ws, w ∈ big) (h : ws.all goodWord = true) : GoodIn big ws := fun w hw => ⟨hm w hw, good_of_word (List.all_eq_true.mp h w hw)⟩
/-! ===== END ===== -/

/-! ===== BEGIN exceptions that leave a method, and their catching by the caller (launches without stack traces) ===== -/
section VXA
/-! The laws vx_back, vx_callV, vx_callS, vx_callSW, vx_throw0, vx_throwS follow proofs of the library, with one case more: JvmDerived/Free/Laws.lean (Back.of_free), Shelf42/LK1.lean (callV, callS), Shelf/KitTraced.lean (throwNew0V, throwNewS). -/
/-- where a method has thrown q: the class by its name, the cell, what was written, the world -/
def vx_T (XC : String → State → State → Prop) (st : State) (q : Addr) (t : State) (mc ms : Nat) (free : Addr → Prop) : Prop :=
  ∃ (E : String) (ce : Cell) (L : List Loc), XC E st t ∧ t.heap[q]? = some ce ∧ ce.vm = .none ∧ st.vm.findClass E = some ce.cls ∧ st.WarmedH t.vm ∧ st.sameButNew ({ t with vm := st.vm } : State) L mc ms ∧ ∀ z ∈ L, free z.base
def vx_Q (Qc : Array Value → State → Outcome → State → Prop) (XC : String → State → State → Prop) (mc ms : Nat) (free : Addr → Prop) : Array Value → State → Outcome → State → Prop := fun a st o t =>
  (Qc a st o t ∧ ∃ L, FrameEnd st o t L mc ms ∧ ∀ q ∈ L, free q.base) ∨ ∃ q, o = .threw q ∧ vx_T XC st q t mc ms free
/-- a callee that returns or throws -/
def vx_Met (l : Launch) (y : MethodName) (ws : List Cond) (rm : Room) (Pc : Array Value → State → Prop) (Qc : Array Value → State → Outcome → State → Prop) (XC : String → State → State → Prop) (mc ms : Nat) (free : Addr → Prop) : Prop :=
  MetFree l y (headSpec ws rm) Pc (fun _ _ _ _ _ => True) (vx_Q Qc XC mc ms free)
def vx_Post (XC : String → State → State → Prop) (mc ms : Nat) (free : Addr → Prop) : Pt → Array Value → Addr → Pt → Prop := fun A a q B =>
  ∃ (g : JFrame) (mk : MethodId) (t : State) (L : List Loc) (E : String) (ce : Cell), B.U.heap = t.heap ∧ B.U.vm = t.vm ∧ XC E (A.U.calling g mk a) t ∧ t.heap[q]? = some ce ∧ ce.vm = .none ∧ A.U.vm.findClass E = some ce.cls ∧ B.locs = A.locs ++ L ∧ (∀ z ∈ L, free z.base) ∧ B.cells = A.cells + mc ∧ B.slots = A.slots + ms
def vx_Back (l : Launch) (R : Room) (p : Program) (e : Env) (below : List Frame) (s : State) (sargs : Array Value) (y : MethodName) (len W9 : Nat)
    (Pre : Pt → Array Value → Prop) (Post : Pt → Array Value → Option Value → Pt → Prop) (PostX : Pt → Array Value → Addr → Pt → Prop) : Prop :=
  ∀ (m : MethodId) (meth : Method) (c : Code) (A : Pt) (g : JFrame) (ig : Instr) (mk : MethodId) (a : Array Value),
    Stand p l e R s m sargs below meth c A.U A.locs A.cells A.slots → g.method = m → g.locals.size = c.maxLocals → decode c.code g.pc = .ok (ig, len) →
    2 * g.monitorRoom + (g.stack.map fun v => v.category).sum ≤ W9 → A.U.methodNamed? y = some mk → Pre A a →
    (∃ (v : Option Value) (B : Pt), Stand p l e R s m sargs below meth c B.U B.locs B.cells B.slots ∧ Post A a v B ∧
      Steps p.tables e below (doInvoke e (A.U.setTop g) [] mk a).1 (B.U.setTop { g with pc := g.pc + len, stack := v.toList ++ g.stack })) ∨
    (∃ (q : Addr) (B : Pt), Stand p l e R s m sargs below meth c B.U B.locs B.cells B.slots ∧ PostX A a q B ∧
      Steps p.tables e below (doInvoke e (A.U.setTop g) [] mk a).1 ((B.U.setTop g).pushFrame (.throwing q)))
section Payer
variable {l : Launch} {R : Room} {p : Program} {e : Env} {below : List Frame} {s : State} {sargs : Array Value} {y : MethodName} {len W9 : Nat}
theorem vx_back {ws : List Cond} {rm : Room} {Pc : Array Value → State → Prop} {Qc : Array Value → State → Outcome → State → Prop} {XC : String → State → State → Prop} {mc ms : Nat} {free : Addr → Prop} {bytes : ByteArray} {maxL : Nat} {ret : Option FieldType}
    (hM : vx_Met l y ws rm Pc Qc XC mc ms free) (hblind : FrameBlind Pc) (hrc : rm.cells = mc) (hrs : rm.slots = ms)
    (hframes : rm.frames + 1 ≤ R.frames) (hlocals : W9 + (maxL + 11) + rm.locals ≤ R.locals)
    (hws : ∀ w ∈ ws, ∀ a' U, s.WarmedH U.vm → w.before a' U = true) (hcode : Cond.code y bytes maxL ret ∈ ws) (hinit : ∀ a' U, s.WarmedH U.vm → (Cond.initialized y.cls).before a' U = true) :
    vx_Back l R p e below s sargs y len W9 (PreOf R mc ms Pc) (PostOf Qc mc ms free) (vx_Post XC mc ms free) := by
  intro m meth c A g ig mk a X hg hsize hdg hW hn hp
  have h1 : (headSpec ws rm).pre.before a A.U = true := atoms_intro fun w hw => hws w hw _ _ X.warmed
  have h2 : (Cond.code y bytes maxL ret).before a A.U = true := hws _ hcode _ _ X.warmed
  have h3 : (Cond.initialized y.cls).before a A.U = true := hinit _ _ X.warmed
  have h4 : A.cells + (headSpec ws rm).room.cells ≤ R.cells := by rw [show (headSpec ws rm).room.cells = mc from hrc]; exact hp.1
  have h5 : A.slots + (headSpec ws rm).room.slots ≤ R.slots := by rw [show (headSpec ws rm).room.slots = ms from hrs]; exact hp.2.1
  have hPc : Pc a (A.U.calling g mk a) := hblind _ _ _ _ hp.2.2
  obtain ⟨U, Ls, c0, s0⟩ := A
  dsimp only [Pt.U, Pt.locs, Pt.cells, Pt.slots] at h1 h2 h3 h4 h5 X hn hPc ⊢
  obtain ⟨methY, cY, hmY, hcY, -, hlY, -, -, -, -⟩ := Cond.code_spec hn h2
  obtain ⟨kY, hkY, -⟩ := className_of_methodNamed hn
  have hinitY : kY.init = .initialized := Cond.initialized_spec (findClass_of_methodNamed hn) hkY h3
  have h : At U g.method c below := by rw [hg]; exact X.here
  have hlocals9 : W9 + (maxL + 11) + (headSpec ws rm).room.locals ≤ R.locals := hlocals
  have happ : (headSpec ws rm).appliesLoose y e.platform (U.calling g mk a) = true :=
    Spec.appliesLoose_calling (g := g) h hdg hn hkY hinitY
      (X.room_calling (g := g) (R' := (headSpec ws rm).room) hsize hmY hcY hframes (by rw [hlY]; omega) h4 h5) h1
  obtain ⟨mid, hmid⟩ := h.above
  have hfr : (U.setTop g).frames = (.java g :: mid) ++ below := by rw [State.frames_setTop' g h.top, hmid]; rfl
  obtain ⟨o, s₂, hsteps, -, hend, hq⟩ := Steps.callFree hM p X.admits X.cas X.clock (acts := []) hfr happ hPc trivial
  have hq' : vx_Q Qc XC mc ms free a (U.calling g mk a) o s₂ := hq
  rw [State.frames_setTop' g h.top] at hend
  obtain ⟨g₀, hg0⟩ := Option.isSome_iff_exists.mp h.top
  obtain ⟨r, hr⟩ := State.topJava?_eq_some.mp hg0
  have hr' : (({ U with heap := s₂.heap, slotsUsed := s₂.slotsUsed } : State).setVm s₂.vm).frames = .java g₀ :: r := hr
  rcases hq' with ⟨hqc, L, hfe, hL⟩ | ⟨q, rfl, E, ce, L, hx, hce, hcv, hcl, hW₂, hsm, hL⟩
  · obtain ⟨⟨v, rfl⟩, hW₂, e2, q2, q3, q4, q5, q6⟩ := id hfe
    have e3 : s₂ = ({ (U.calling g mk a).setFrames s₂.frames with heap := s₂.heap, slotsUsed := s₂.slotsUsed } : State).setVm s₂.vm := by
      have : s₂ = ({ s₂ with vm := (U.calling g mk a).vm } : State).setVm s₂.vm := rfl
      rw [e2] at this
      exact this
    obtain ⟨c₂, i₂, len₂, hc₂, hd₂, hf₂⟩ := hend
    have hW' : U.WarmedH s₂.vm := hW₂
    have hcc : c₂ = c := by
      have h1 : s₂.code? g.method = U.code? g.method := by
        rw [State.code?_eq, State.code?_eq, hW'.alike.method?]
      exact Option.some.inj (hc₂.symm.trans (h1.trans h.code))
    subst hcc
    have hlen : len₂ = len := by rw [hdg] at hd₂; cases hd₂; rfl
    subst hlen
    have hs₂ : s₂ = (({ U with heap := s₂.heap, slotsUsed := s₂.slotsUsed } : State).setVm s₂.vm).setTop { g with pc := g.pc + len₂, stack := v.toList ++ g.stack } := by
      refine e3.trans ?_
      rw [hf₂, State.calling_eq h.top, State.setFrames_setFrames, State.setTop_of_frames _ hr', hr]
      rfl
    have hsame : U.sameButNew ({ U with heap := s₂.heap, slotsUsed := s₂.slotsUsed } : State) L mc ms := by
      refine ⟨?_, q2, q3, q4, q5, q6⟩
      obtain ⟨t, ht, -⟩ := State.frames_cons hr
      show ({ U with heap := s₂.heap, slotsUsed := s₂.slotsUsed } : State) = { U.setFrames U.frames with heap := s₂.heap, slotsUsed := s₂.slotsUsed }
      rw [State.setFrames_self ht]
    subst hg
    refine Or.inl ⟨v, ⟨(({ U with heap := s₂.heap, slotsUsed := s₂.slotsUsed } : State).setVm s₂.vm), Ls ++ L, c0 + mc, s0 + ms⟩,
      ⟨X.admits, X.cas, X.clock, X.frames, X.room, X.hears, X.method, X.code, (X.here.setHeapUsed s₂.heap s₂.slotsUsed).setVm hW'.alike, X.tail, State.WarmedH.trans X.warmed hW', X.limits, X.bytes, X.same.trans (hsame.setVm s.vm)⟩,
      ⟨g, mk, s₂, L, rfl, rfl, hqc, rfl, hL, rfl, rfl⟩, ?_⟩
    show Steps p.tables e below _ ((({ U with heap := s₂.heap, slotsUsed := s₂.slotsUsed } : State).setVm s₂.vm).setTop { g with pc := g.pc + len₂, stack := v.toList ++ g.stack })
    rw [← hs₂]
    exact hsteps
  · obtain ⟨e2, q2, q3, q4, q5, q6⟩ := id hsm
    have e3 : s₂ = ({ (U.calling g mk a).setFrames s₂.frames with heap := s₂.heap, slotsUsed := s₂.slotsUsed } : State).setVm s₂.vm := by
      have : s₂ = ({ s₂ with vm := (U.calling g mk a).vm } : State).setVm s₂.vm := rfl
      rw [e2] at this
      exact this
    have hf₂ : s₂.frames = .throwing q :: .java g :: U.frames.tail := hend
    have hW' : U.WarmedH s₂.vm := hW₂
    have hs₂ : s₂ = ((({ U with heap := s₂.heap, slotsUsed := s₂.slotsUsed } : State).setVm s₂.vm).setTop g).pushFrame (.throwing q) := by
      refine e3.trans ?_
      rw [hf₂, State.calling_eq h.top, State.setFrames_setFrames, State.pushFrame, State.frames_setTop _ hr', State.setTop_of_frames _ hr', State.setFrames_setFrames, hr]
      rfl
    have hsame : U.sameButNew ({ U with heap := s₂.heap, slotsUsed := s₂.slotsUsed } : State) L mc ms := by
      refine ⟨?_, q2, q3, q4, q5, q6⟩
      obtain ⟨t, ht, -⟩ := State.frames_cons hr
      show ({ U with heap := s₂.heap, slotsUsed := s₂.slotsUsed } : State) = { U.setFrames U.frames with heap := s₂.heap, slotsUsed := s₂.slotsUsed }
      rw [State.setFrames_self ht]
    subst hg
    refine Or.inr ⟨q, ⟨(({ U with heap := s₂.heap, slotsUsed := s₂.slotsUsed } : State).setVm s₂.vm), Ls ++ L, c0 + mc, s0 + ms⟩,
      ⟨X.admits, X.cas, X.clock, X.frames, X.room, X.hears, X.method, X.code, (X.here.setHeapUsed s₂.heap s₂.slotsUsed).setVm hW'.alike, X.tail, State.WarmedH.trans X.warmed hW', X.limits, X.bytes, X.same.trans (hsame.setVm s.vm)⟩,
      ⟨g, mk, s₂, L, E, ce, rfl, rfl, hx, hce, hcv, hcl, rfl, hL, rfl, rfl⟩, ?_⟩
    show Steps p.tables e below _ (((({ U with heap := s₂.heap, slotsUsed := s₂.slotsUsed } : State).setVm s₂.vm).setTop g).pushFrame (.throwing q))
    rw [← hs₂]
    exact hsteps
end Payer
section Calls
variable {p : Program} {l : Launch} {e : Env} {R : Room} {s : State} {m : MethodId} {args : Array Value} {below : List Frame} {meth : Method} {c : Code} {T : State} {locs : List Loc} {cells slots : Nat}
theorem vx_callV (X : Stand p l e R s m args below meth c T locs cells slots) (hexec : p.tables.exec = Jvm.exec) {own C : String} {index : Nat} {y : MethodName} {bytes : ByteArray} {maxL : Nat} {ret : Option FieldType}
    (hown : s.vm.findClass own = some m.cls) (hlink : (Cond.methodLink own index y).before args s = true) (hinst : (Cond.instanceMethod y).before args s = true) (hsel : (Cond.selects C y y).before args s = true)
    (hcode : (Cond.code y bytes maxL ret).before args s = true) (hy : y.cls ≠ "java/lang/invoke/MethodHandle" ∧ y.cls ≠ "java/lang/invoke/VarHandle")
    {W9 : Nat} {Pre : Pt → Array Value → Prop} {Post : Pt → Array Value → Option Value → Pt → Prop} {PostX : Pt → Array Value → Addr → Pt → Prop} (hK : vx_Back l R p e below s args y 3 W9 Pre Post PostX)
    {b : Addr} {cellB : Cell} (hcell : T.heap[b]? = some cellB) (hobj : cellB.vm.isStatics = false) (hcls : s.vm.findClass C = some cellB.cls)
    {g : JFrame} (hg : g.method = m) (hsize : g.locals.size = c.maxLocals) {argsL rest : List Value} (hlen : ∀ sig, parseMethodDescriptor y.desc = some sig → argsL.length = sig.parameters.length)
    (hstack : g.stack = argsL.reverse ++ .ref b :: rest) (hW : 2 * g.monitorRoom + (rest.map fun v => v.category).sum ≤ W9) (hdg : decode c.code g.pc = .ok (.invokevirtual index, 3))
    (hpre : ∀ vm₁, s.WarmedH vm₁ → Pre ⟨T.setVm vm₁, locs, cells, slots⟩ (Value.ref b :: argsL).toArray) :
    (∃ (v : Option Value) (vm₁ : Vm) (B : Pt), s.WarmedH vm₁ ∧ Stand p l e R s m args below meth c B.U B.locs B.cells B.slots ∧ Post ⟨T.setVm vm₁, locs, cells, slots⟩ (Value.ref b :: argsL).toArray v B ∧
      ∀ target, Steps p.tables e below (B.U.setTop { g with pc := g.pc + 3, stack := v.toList ++ rest }) target → Steps p.tables e below (T.setTop g) target) ∨
    (∃ (q : Addr) (vm₁ : Vm) (B : Pt), s.WarmedH vm₁ ∧ Stand p l e R s m args below meth c B.U B.locs B.cells B.slots ∧ PostX ⟨T.setVm vm₁, locs, cells, slots⟩ (Value.ref b :: argsL).toArray q B ∧
      Steps p.tables e below (T.setTop g) ((B.U.setTop { g with stack := rest }).pushFrame (.throwing q))) := by
  obtain ⟨mk, methM, hnamed, hmethM, hstM, habM⟩ := Cond.instanceMethod_spec hinst
  obtain ⟨methM', cM, hmethM', -, -, -, -, -, -, hsigM⟩ := Cond.code_spec hnamed hcode
  cases hmethM.symm.trans hmethM'
  obtain ⟨c2, r2, m2, q1, q2, q3, q4, kP, hkP, hkPi⟩ := Cond.selects_spec hsel
  cases hcls.symm.trans q1
  cases (State.methodFound?_of_named hnamed hy).symm.trans q2
  cases hnamed.symm.trans q3
  have hselP : selectMethod e.platform s.vm cellB.cls mk = .method mk := by rw [Launch.admits_selectMethod X.admits]; exact q4
  obtain ⟨vm₁, X₁, hstep₁⟩ := X.invokevirtual hexec hown hlink hnamed hmethM hstM hkP hkPi hy (a := b) (cell := cellB) hcell
    (fun z h => by rw [h] at hobj; cases hobj) hselP hmethM habM hkP hkPi (g := g) hg (argsL := argsL) (rest := rest) (hlen _ hsigM) hstack hdg
  rcases hK m meth c ⟨T.setVm vm₁, locs, cells, slots⟩ { g with stack := rest } (.invokevirtual index) mk (Value.ref b :: argsL).toArray X₁ hg hsize hdg hW (X₁.named hnamed) (hpre vm₁ X₁.warmed) with ⟨v, B, X', hpost, hsteps⟩ | ⟨q, B, X', hpost, hsteps⟩
  · exact Or.inl ⟨v, vm₁, B, X₁.warmed, X', hpost, fun target h => hstep₁ _ fun acts => by rw [doInvoke_state]; exact hsteps.trans h⟩
  · exact Or.inr ⟨q, vm₁, B, X₁.warmed, X', hpost, hstep₁ _ fun acts => by rw [doInvoke_state]; exact hsteps⟩
theorem vx_callS (X : Stand p l e R s m args below meth c T locs cells slots) (hexec : p.tables.exec = Jvm.exec) {own : String} {index : Nat} {y : MethodName} {bytes : ByteArray} {maxL : Nat} {ret : Option FieldType}
    (hown : s.vm.findClass own = some m.cls) (hlink : (Cond.methodLink own index y).before args s = true) (hstat : (Cond.static y).before args s = true) (hinit : (Cond.initialized y.cls).before args s = true)
    (hcode : (Cond.code y bytes maxL ret).before args s = true) (hy : y.cls ≠ "java/lang/invoke/MethodHandle" ∧ y.cls ≠ "java/lang/invoke/VarHandle")
    {W9 : Nat} {Pre : Pt → Array Value → Prop} {Post : Pt → Array Value → Option Value → Pt → Prop} {PostX : Pt → Array Value → Addr → Pt → Prop} (hK : vx_Back l R p e below s args y 3 W9 Pre Post PostX)
    {g : JFrame} (hg : g.method = m) (hsize : g.locals.size = c.maxLocals) {argsL rest : List Value} (hlen : ∀ sig, parseMethodDescriptor y.desc = some sig → argsL.length = sig.parameters.length)
    (hstack : g.stack = argsL.reverse ++ rest) (hW : 2 * g.monitorRoom + (rest.map fun v => v.category).sum ≤ W9) (hdg : decode c.code g.pc = .ok (.invokestatic index, 3))
    (hpre : ∀ vm₁, s.WarmedH vm₁ → Pre ⟨T.setVm vm₁, locs, cells, slots⟩ argsL.toArray) :
    (∃ (v : Option Value) (vm₁ : Vm) (B : Pt), s.WarmedH vm₁ ∧ Stand p l e R s m args below meth c B.U B.locs B.cells B.slots ∧ Post ⟨T.setVm vm₁, locs, cells, slots⟩ argsL.toArray v B ∧
      ∀ target, Steps p.tables e below (B.U.setTop { g with pc := g.pc + 3, stack := v.toList ++ rest }) target → Steps p.tables e below (T.setTop g) target) ∨
    (∃ (q : Addr) (vm₁ : Vm) (B : Pt), s.WarmedH vm₁ ∧ Stand p l e R s m args below meth c B.U B.locs B.cells B.slots ∧ PostX ⟨T.setVm vm₁, locs, cells, slots⟩ argsL.toArray q B ∧
      Steps p.tables e below (T.setTop g) ((B.U.setTop { g with stack := rest }).pushFrame (.throwing q))) := by
  obtain ⟨mk, hnamed⟩ := Cond.code_named hcode
  obtain ⟨methM, cM, hmethM, -, -, -, -, -, -, hsigM⟩ := Cond.code_spec hnamed hcode
  have hstatic : methM.isStatic = true := Cond.static_spec hnamed hmethM hstat
  obtain ⟨kP, hkP, -⟩ := className_of_methodNamed hnamed
  have hinitP : kP.init = .initialized := Cond.initialized_spec (findClass_of_methodNamed hnamed) hkP hinit
  obtain ⟨vm₁, X₁, hstep₁⟩ := X.invokestatic hexec hown hlink hnamed hmethM hstatic hkP hinitP hy (g := g) hg (argsL := argsL) (rest := rest) (hlen _ hsigM) hstack hdg
  rcases hK m meth c ⟨T.setVm vm₁, locs, cells, slots⟩ { g with stack := rest } (.invokestatic index) mk argsL.toArray X₁ hg hsize hdg hW (X₁.named hnamed) (hpre vm₁ X₁.warmed) with ⟨v, B, X', hpost, hsteps⟩ | ⟨q, B, X', hpost, hsteps⟩
  · exact Or.inl ⟨v, vm₁, B, X₁.warmed, X', hpost, fun target h => hstep₁ _ fun acts => by rw [doInvoke_state]; exact hsteps.trans h⟩
  · exact Or.inr ⟨q, vm₁, B, X₁.warmed, X', hpost, hstep₁ _ fun acts => by rw [doInvoke_state]; exact hsteps⟩
end Calls
theorem vx_cls {s : State} {T : State} {vm₁ : Vm} {E : String} {k : ClassId} (hW : s.WarmedH vm₁) (h : (T.setVm vm₁).vm.findClass E = some k) : s.vm.findClass E = some k := by
  have h1 : vm₁.findClass E = some k := h
  rw [hW.alike.findClass] at h1
  exact h1
/-- the method's frame g, with q thrown over it -/
def vx_W (p : Program) (l : Launch) (e : Env) (R : Room) (s : State) (m : MethodId) (args : Array Value) (below : List Frame) (meth : Method) (c : Code) (H : Heap) (locs : List Loc) (cells slots : Nat) (Q : State → Prop) (g : JFrame) (q : Addr) : Prop :=
  ∀ T : State, T.heap = H → Stand p l e R s m args below meth c T locs cells slots → ∃ t, Steps p.tables e below ((T.setTop g).pushFrame (.throwing q)) t ∧ Q t
def vx_Run (p : Program) (l : Launch) (e : Env) (R : Room) (s : State) (m : MethodId) (args : Array Value) (below : List Frame) (meth : Method) (c : Code) (H : Heap) (locs : List Loc) (cells slots mc ms : Nat) (g : JFrame) (rest : List Value) (Qa : State → Outcome → State → Prop) (XC : String → State → State → Prop) (free : Addr → Prop) : Prop :=
  ∀ T : State, T.heap = H → Stand p l e R s m args below meth c T locs cells slots →
    (∃ (v : Option Value) (st₀ t T' : State) (L : List Loc), st₀.heap = H ∧ Stand p l e R s m args below meth c T' (locs ++ L) (cells + mc) (slots + ms) ∧ (∀ q ∈ L, free q.base) ∧ T'.heap = t.heap ∧ T'.vm = t.vm ∧ Qa st₀ (.returned v) t ∧
      Goes p e below T g T' { g with pc := g.pc + 3, stack := v.toList ++ rest }) ∨
    (∃ (q : Addr) (st₀ t T' : State) (L : List Loc) (E : String) (ce : Cell), st₀.heap = H ∧ Stand p l e R s m args below meth c T' (locs ++ L) (cells + mc) (slots + ms) ∧ (∀ z ∈ L, free z.base) ∧ T'.heap = t.heap ∧ T'.vm = t.vm ∧ XC E st₀ t ∧ t.heap[q]? = some ce ∧ ce.vm = .none ∧ s.vm.findClass E = some ce.cls ∧
      Steps p.tables e below (T.setTop g) ((T'.setTop { g with stack := rest }).pushFrame (.throwing q)))
def vx_X {S : Type} (px : S → Prop) (B : String → S → State → Prop) (A : Nat → Prop) : String → State → State → Prop := fun E st t => ∃ u : S, px u ∧ B E u t ∧ va_F A st t
section Runs
variable {p : Program} {l : Launch} {e : Env} {R : Room} {s : State} {m : MethodId} {args : Array Value} {below : List Frame} {meth : Method} {c : Code} {H : Heap} {locs : List Loc} {cells slots : Nat}
variable {y : MethodName} {bytes cc : ByteArray} {maxL nL mc ms n index : Nat} {ret : Option FieldType} {ws : List Cond} {rm : Room} {Pc : Array Value → State → Prop} {Qc : Array Value → State → Outcome → State → Prop} {XC : String → State → State → Prop} {free : Addr → Prop} {Ts : List Cond} {own C : String} {b : Addr} {As rest : List Value} {g : JFrame}
theorem vx_callBack (cb : CallB R s args own index y bytes maxL ret ws rm mc ms n) (hM : vx_Met l y ws rm Pc Qc XC mc ms free) (hbl : FrameBlind Pc) : vx_Back l R p e below s args y 3 8 (PreOf R mc ms Pc) (PostOf Qc mc ms free) (vx_Post XC mc ms free) := by
  obtain ⟨hrc, hrs, hfr, hlo, hws, hcw, -, hini, -⟩ := cb
  exact vx_back (bytes := bytes) (maxL := maxL) (ret := ret) hM hbl hrc hrs hfr hlo hws hcw (fun a' U hW => word_at hW (Or.inl (by first | rfl | simp [Cond.onTables, Cond.keeps, Cond.steady])) hini)
theorem vx_runV (S : CallFix p m c cc nL s args Ts own) (hM : vx_Met l y ws rm Pc Qc XC mc ms free) (cw : CallW R s args own C index y bytes maxL ret ws rm mc ms n) (hp : PreV s H C b Pc As)
    (hg : g.method = m) (hn : As.length = n) (hsize : g.locals.size = nL) (hstack : g.stack = As.reverse ++ .ref b :: rest) (hW : 2 * g.monitorRoom + (rest.map fun v => v.category).sum ≤ 8) (hdg : decode cc g.pc = .ok (.invokevirtual index, 3)) (hf : cells + mc ≤ R.cells ∧ slots + ms ≤ R.slots) :
    vx_Run p l e R s m args below meth c H locs cells slots mc ms g rest (Qc (Value.ref b :: As).toArray) XC free := by
  have hK : vx_Back l R p e below s args y 3 8 (PreOf R mc ms Pc) (PostOf Qc mc ms free) (vx_Post XC mc ms free) := vx_callBack cw.1 hM hp.1
  obtain ⟨⟨-, -, -, -, -, -, hcode, -, hy, hlen, hl⟩, hin, hse⟩ := cw
  obtain ⟨hx, hb, hml, ho, -⟩ := S
  obtain ⟨-, ⟨cellB, hcB, hoB, hclB⟩, hPc⟩ := hp
  intro T hT X
  rcases vx_callV X hx (C := C) (bytes := bytes) (maxL := maxL) (ret := ret) ho hl hin hse hcode hy hK (by rw [hT]; exact hcB) hoB hclB hg (hsize.trans hml.symm) (argsL := As) (rest := rest) (fun sig h => hn.trans (hlen sig h)) hstack hW (by rw [hb]; exact hdg)
    (fun vm₁ hW₁ => ⟨hf.1, hf.2, hPc (T.setVm vm₁) hT hW₁⟩) with ⟨v, vm₁, ⟨U', l2, c2, s2⟩, hW₁, X', ⟨g', mk, t, L, e1, e2, hq, h1, hL, h2, h3⟩, st⟩ | ⟨q, vm₁, ⟨U', l2, c2, s2⟩, hW₁, X', ⟨g', mk, t, L, E, ce, e1, e2, hq, hce, hcv, hcl, h1, hL, h2, h3⟩, st⟩
  · dsimp only [Pt.U, Pt.locs, Pt.cells, Pt.slots] at X' e1 e2 h1 h2 h3 st
    subst h1; subst h2; subst h3
    exact Or.inl ⟨v, (T.setVm vm₁).calling g' mk (Value.ref b :: As).toArray, t, U', L, hT, X', hL, e1, e2, hq, st⟩
  · dsimp only [Pt.U, Pt.locs, Pt.cells, Pt.slots] at X' e1 e2 h1 h2 h3 st hcl
    subst h1; subst h2; subst h3
    exact Or.inr ⟨q, (T.setVm vm₁).calling g' mk (Value.ref b :: As).toArray, t, U', L, E, ce, hT, X', hL, e1, e2, hq, hce, hcv, vx_cls hW₁ hcl, st⟩
theorem vx_runS (S : CallFix p m c cc nL s args Ts own) (hM : vx_Met l y ws rm Pc Qc XC mc ms free) (cw : CallB R s args own index y bytes maxL ret ws rm mc ms n ∧ (Cond.static y).before args s = true) (hp : PreS s H Pc As)
    (hg : g.method = m) (hn : As.length = n) (hsize : g.locals.size = nL) (hstack : g.stack = As.reverse ++ rest) (hW : 2 * g.monitorRoom + (rest.map fun v => v.category).sum ≤ 8) (hdg : decode cc g.pc = .ok (.invokestatic index, 3)) (hf : cells + mc ≤ R.cells ∧ slots + ms ≤ R.slots) :
    vx_Run p l e R s m args below meth c H locs cells slots mc ms g rest (Qc As.toArray) XC free := by
  have hK : vx_Back l R p e below s args y 3 8 (PreOf R mc ms Pc) (PostOf Qc mc ms free) (vx_Post XC mc ms free) := vx_callBack cw.1 hM hp.1
  obtain ⟨⟨-, -, -, -, -, -, hcode, hini, hy, hlen, hl⟩, hstt⟩ := cw
  obtain ⟨hx, hb, hml, ho, -⟩ := S
  intro T hT X
  rcases vx_callS X hx (bytes := bytes) (maxL := maxL) (ret := ret) ho hl hstt hini hcode hy hK hg (hsize.trans hml.symm) (argsL := As) (rest := rest) (fun sig h => hn.trans (hlen sig h)) hstack hW (by rw [hb]; exact hdg)
    (fun vm₁ hW₁ => ⟨hf.1, hf.2, hp.2 (T.setVm vm₁) hT hW₁⟩) with ⟨v, vm₁, ⟨U', l2, c2, s2⟩, hW₁, X', ⟨g', mk, t, L, e1, e2, hq, h1, hL, h2, h3⟩, st⟩ | ⟨q, vm₁, ⟨U', l2, c2, s2⟩, hW₁, X', ⟨g', mk, t, L, E, ce, e1, e2, hq, hce, hcv, hcl, h1, hL, h2, h3⟩, st⟩
  · dsimp only [Pt.U, Pt.locs, Pt.cells, Pt.slots] at X' e1 e2 h1 h2 h3 st
    subst h1; subst h2; subst h3
    exact Or.inl ⟨v, (T.setVm vm₁).calling g' mk As.toArray, t, U', L, hT, X', hL, e1, e2, hq, st⟩
  · dsimp only [Pt.U, Pt.locs, Pt.cells, Pt.slots] at X' e1 e2 h1 h2 h3 st hcl
    subst h1; subst h2; subst h3
    exact Or.inr ⟨q, (T.setVm vm₁).calling g' mk As.toArray, t, U', L, E, ce, hT, X', hL, e1, e2, hq, hce, hcv, vx_cls hW₁ hcl, st⟩
end Runs
section Rows
variable {p : Program} {l : Launch} {e : Env} {R : Room} {s : State} {m : MethodId} {args : Array Value} {below : List Frame} {meth : Method} {c : Code} {H : Heap} {locs : List Loc} {cells slots : Nat} {Q : State → Prop}
variable {mc ms : Nat} {free : Addr → Prop} {A0 A1 : Nat → Prop} {H0 : Heap} {a : Array Value} {pc : Nat} {ls : Array Slot} {st0 rest : List Value}
theorem vx_keep {st₀ t T' : State} {L : List Loc} (h0 : st₀.heap = H) (e1 : T'.heap = t.heap) (hS : va_S A0 H0 H locs) (hA : ∀ q, q < H.size → A1 q → A0 q) (hf : ∀ q, free q → A0 q) (hL : ∀ q ∈ L, free q.base) (hF : va_F A1 st₀ t) :
    H.size ≤ T'.heap.size ∧ (∀ q : Nat, q < H.size → ¬ A1 q → T'.heap[q]? = H[q]?) ∧ va_S A0 H0 T'.heap (locs ++ L) := by
  obtain ⟨hz, hk⟩ := hF
  rw [h0] at hz hk
  exact ⟨by rw [e1]; exact hz, fun q h1 h2 => by rw [e1]; exact hk q h1 h2,
    ⟨Nat.le_trans hS.1 (by rw [e1]; exact hz), fun q h1 h2 => by rw [e1, hk q (Nat.lt_of_lt_of_le h1 hS.1) (fun z => h2 (hA q (Nat.lt_of_lt_of_le h1 hS.1) z))]; exact hS.2.1 q h1 h2, fun q hq => by
      rcases List.mem_append.mp hq with h | h
      · exact hS.2.2 q h
      · exact hf _ (hL q h)⟩⟩
theorem vx_calli {S SX : Type} {post : Int32 → S → Prop} {px : SX → Prop} {B : S → State → Prop} {BX : String → SX → State → Prop} {AX : Nat → Prop} (hr : vx_Run p l e R s m args below meth c H locs cells slots mc ms (F0 m pc ls st0) rest (va_Qi post B A1 a) (vx_X px BX AX) free) (hS : va_S A0 H0 H locs) (hA : ∀ q, q < H.size → A1 q → A0 q) (hf : ∀ q, free q → A0 q) (hAX : ∀ q, q < H.size → AX q → A0 q)
    (kx : ∀ (E : String) (ce : Cell) (q9 : Addr) (u : SX) (t : State) (H1 : Heap) (locs1 : List Loc), t.heap = H1 → s.vm.Alike t.vm → px u → BX E u t → H.size ≤ H1.size → (∀ q : Nat, q < H.size → ¬ AX q → H1[q]? = H[q]?) → va_S A0 H0 H1 locs1 → H1[q9]? = some ce → ce.vm = .none → s.vm.findClass E = some ce.cls → vx_W p l e R s m args below meth c H1 locs1 (cells + mc) (slots + ms) Q (F0 m pc ls rest) q9)
    (kk : ∀ (r : Int32) (u : S) (t : State) (H1 : Heap) (locs1 : List Loc), t.heap = H1 → s.vm.Alike t.vm → post r u → B u t → H.size ≤ H1.size → (∀ q : Nat, q < H.size → ¬ A1 q → H1[q]? = H[q]?) → va_S A0 H0 H1 locs1 → W p l e R s m args below meth c H1 locs1 (cells + mc) (slots + ms) Q (F0 m (pc + 3) ls (.int r :: rest))) : W p l e R s m args below meth c H locs cells slots Q (F0 m pc ls st0) := by
  intro T hT X
  rcases hr T hT X with ⟨v, st₀, t, T', L, h0, X', hL, e1, e2, ⟨⟨r, u, hv, hp, hb⟩, hF⟩, st⟩ | ⟨q, st₀, t, T', L, E, ce, h0, X', hL, e1, e2, ⟨u, hp, hb, hF⟩, hce, hcv, hcl, st⟩
  · cases hv
    obtain ⟨k1, k2, k3⟩ := vx_keep h0 e1 hS hA hf hL hF
    obtain ⟨t2, a1, b1⟩ := kk r u t T'.heap (locs ++ L) e1.symm (by rw [← e2]; exact X'.warmed.alike) hp hb k1 k2 k3 T' rfl X'
    exact ⟨t2, st t2 a1, b1⟩
  · obtain ⟨k1, k2, k3⟩ := vx_keep h0 e1 hS hAX hf hL hF
    obtain ⟨t2, a1, b1⟩ := kx E ce q u t T'.heap (locs ++ L) e1.symm (by rw [← e2]; exact X'.warmed.alike) hp hb k1 k2 k3 (by rw [e1]; exact hce) hcv hcl T' rfl X'
    exact ⟨t2, st.trans a1, b1⟩
theorem vx_calll {S SX : Type} {post : Int64 → S → Prop} {px : SX → Prop} {B : S → State → Prop} {BX : String → SX → State → Prop} {AX : Nat → Prop} (hr : vx_Run p l e R s m args below meth c H locs cells slots mc ms (F0 m pc ls st0) rest (va_Ql post B A1 a) (vx_X px BX AX) free) (hS : va_S A0 H0 H locs) (hA : ∀ q, q < H.size → A1 q → A0 q) (hf : ∀ q, free q → A0 q) (hAX : ∀ q, q < H.size → AX q → A0 q)
    (kx : ∀ (E : String) (ce : Cell) (q9 : Addr) (u : SX) (t : State) (H1 : Heap) (locs1 : List Loc), t.heap = H1 → s.vm.Alike t.vm → px u → BX E u t → H.size ≤ H1.size → (∀ q : Nat, q < H.size → ¬ AX q → H1[q]? = H[q]?) → va_S A0 H0 H1 locs1 → H1[q9]? = some ce → ce.vm = .none → s.vm.findClass E = some ce.cls → vx_W p l e R s m args below meth c H1 locs1 (cells + mc) (slots + ms) Q (F0 m pc ls rest) q9)
    (kk : ∀ (r : Int64) (u : S) (t : State) (H1 : Heap) (locs1 : List Loc), t.heap = H1 → s.vm.Alike t.vm → post r u → B u t → H.size ≤ H1.size → (∀ q : Nat, q < H.size → ¬ A1 q → H1[q]? = H[q]?) → va_S A0 H0 H1 locs1 → W p l e R s m args below meth c H1 locs1 (cells + mc) (slots + ms) Q (F0 m (pc + 3) ls (.long r :: rest))) : W p l e R s m args below meth c H locs cells slots Q (F0 m pc ls st0) := by
  intro T hT X
  rcases hr T hT X with ⟨v, st₀, t, T', L, h0, X', hL, e1, e2, ⟨⟨r, u, hv, hp, hb⟩, hF⟩, st⟩ | ⟨q, st₀, t, T', L, E, ce, h0, X', hL, e1, e2, ⟨u, hp, hb, hF⟩, hce, hcv, hcl, st⟩
  · cases hv
    obtain ⟨k1, k2, k3⟩ := vx_keep h0 e1 hS hA hf hL hF
    obtain ⟨t2, a1, b1⟩ := kk r u t T'.heap (locs ++ L) e1.symm (by rw [← e2]; exact X'.warmed.alike) hp hb k1 k2 k3 T' rfl X'
    exact ⟨t2, st t2 a1, b1⟩
  · obtain ⟨k1, k2, k3⟩ := vx_keep h0 e1 hS hAX hf hL hF
    obtain ⟨t2, a1, b1⟩ := kx E ce q u t T'.heap (locs ++ L) e1.symm (by rw [← e2]; exact X'.warmed.alike) hp hb k1 k2 k3 (by rw [e1]; exact hce) hcv hcl T' rfl X'
    exact ⟨t2, st.trans a1, b1⟩
theorem vx_callf {S SX : Type} {post : UInt32 → S → Prop} {px : SX → Prop} {B : S → State → Prop} {BX : String → SX → State → Prop} {AX : Nat → Prop} (hr : vx_Run p l e R s m args below meth c H locs cells slots mc ms (F0 m pc ls st0) rest (va_Qf post B A1 a) (vx_X px BX AX) free) (hS : va_S A0 H0 H locs) (hA : ∀ q, q < H.size → A1 q → A0 q) (hf : ∀ q, free q → A0 q) (hAX : ∀ q, q < H.size → AX q → A0 q)
    (kx : ∀ (E : String) (ce : Cell) (q9 : Addr) (u : SX) (t : State) (H1 : Heap) (locs1 : List Loc), t.heap = H1 → s.vm.Alike t.vm → px u → BX E u t → H.size ≤ H1.size → (∀ q : Nat, q < H.size → ¬ AX q → H1[q]? = H[q]?) → va_S A0 H0 H1 locs1 → H1[q9]? = some ce → ce.vm = .none → s.vm.findClass E = some ce.cls → vx_W p l e R s m args below meth c H1 locs1 (cells + mc) (slots + ms) Q (F0 m pc ls rest) q9)
    (kk : ∀ (r : UInt32) (u : S) (t : State) (H1 : Heap) (locs1 : List Loc), t.heap = H1 → s.vm.Alike t.vm → post r u → B u t → H.size ≤ H1.size → (∀ q : Nat, q < H.size → ¬ A1 q → H1[q]? = H[q]?) → va_S A0 H0 H1 locs1 → W p l e R s m args below meth c H1 locs1 (cells + mc) (slots + ms) Q (F0 m (pc + 3) ls (.float r :: rest))) : W p l e R s m args below meth c H locs cells slots Q (F0 m pc ls st0) := by
  intro T hT X
  rcases hr T hT X with ⟨v, st₀, t, T', L, h0, X', hL, e1, e2, ⟨⟨r, u, hv, hp, hb⟩, hF⟩, st⟩ | ⟨q, st₀, t, T', L, E, ce, h0, X', hL, e1, e2, ⟨u, hp, hb, hF⟩, hce, hcv, hcl, st⟩
  · cases hv
    obtain ⟨k1, k2, k3⟩ := vx_keep h0 e1 hS hA hf hL hF
    obtain ⟨t2, a1, b1⟩ := kk r u t T'.heap (locs ++ L) e1.symm (by rw [← e2]; exact X'.warmed.alike) hp hb k1 k2 k3 T' rfl X'
    exact ⟨t2, st t2 a1, b1⟩
  · obtain ⟨k1, k2, k3⟩ := vx_keep h0 e1 hS hAX hf hL hF
    obtain ⟨t2, a1, b1⟩ := kx E ce q u t T'.heap (locs ++ L) e1.symm (by rw [← e2]; exact X'.warmed.alike) hp hb k1 k2 k3 (by rw [e1]; exact hce) hcv hcl T' rfl X'
    exact ⟨t2, st.trans a1, b1⟩
theorem vx_calld {S SX : Type} {post : UInt64 → S → Prop} {px : SX → Prop} {B : S → State → Prop} {BX : String → SX → State → Prop} {AX : Nat → Prop} (hr : vx_Run p l e R s m args below meth c H locs cells slots mc ms (F0 m pc ls st0) rest (va_Qd post B A1 a) (vx_X px BX AX) free) (hS : va_S A0 H0 H locs) (hA : ∀ q, q < H.size → A1 q → A0 q) (hf : ∀ q, free q → A0 q) (hAX : ∀ q, q < H.size → AX q → A0 q)
    (kx : ∀ (E : String) (ce : Cell) (q9 : Addr) (u : SX) (t : State) (H1 : Heap) (locs1 : List Loc), t.heap = H1 → s.vm.Alike t.vm → px u → BX E u t → H.size ≤ H1.size → (∀ q : Nat, q < H.size → ¬ AX q → H1[q]? = H[q]?) → va_S A0 H0 H1 locs1 → H1[q9]? = some ce → ce.vm = .none → s.vm.findClass E = some ce.cls → vx_W p l e R s m args below meth c H1 locs1 (cells + mc) (slots + ms) Q (F0 m pc ls rest) q9)
    (kk : ∀ (r : UInt64) (u : S) (t : State) (H1 : Heap) (locs1 : List Loc), t.heap = H1 → s.vm.Alike t.vm → post r u → B u t → H.size ≤ H1.size → (∀ q : Nat, q < H.size → ¬ A1 q → H1[q]? = H[q]?) → va_S A0 H0 H1 locs1 → W p l e R s m args below meth c H1 locs1 (cells + mc) (slots + ms) Q (F0 m (pc + 3) ls (.double r :: rest))) : W p l e R s m args below meth c H locs cells slots Q (F0 m pc ls st0) := by
  intro T hT X
  rcases hr T hT X with ⟨v, st₀, t, T', L, h0, X', hL, e1, e2, ⟨⟨r, u, hv, hp, hb⟩, hF⟩, st⟩ | ⟨q, st₀, t, T', L, E, ce, h0, X', hL, e1, e2, ⟨u, hp, hb, hF⟩, hce, hcv, hcl, st⟩
  · cases hv
    obtain ⟨k1, k2, k3⟩ := vx_keep h0 e1 hS hA hf hL hF
    obtain ⟨t2, a1, b1⟩ := kk r u t T'.heap (locs ++ L) e1.symm (by rw [← e2]; exact X'.warmed.alike) hp hb k1 k2 k3 T' rfl X'
    exact ⟨t2, st t2 a1, b1⟩
  · obtain ⟨k1, k2, k3⟩ := vx_keep h0 e1 hS hAX hf hL hF
    obtain ⟨t2, a1, b1⟩ := kx E ce q u t T'.heap (locs ++ L) e1.symm (by rw [← e2]; exact X'.warmed.alike) hp hb k1 k2 k3 (by rw [e1]; exact hce) hcv hcl T' rfl X'
    exact ⟨t2, st.trans a1, b1⟩
theorem vx_callv {S SX : Type} {post : S → Prop} {px : SX → Prop} {B : S → State → Prop} {BX : String → SX → State → Prop} {AX : Nat → Prop} (hr : vx_Run p l e R s m args below meth c H locs cells slots mc ms (F0 m pc ls st0) rest (va_Qv post B A1 a) (vx_X px BX AX) free) (hS : va_S A0 H0 H locs) (hA : ∀ q, q < H.size → A1 q → A0 q) (hf : ∀ q, free q → A0 q) (hAX : ∀ q, q < H.size → AX q → A0 q)
    (kx : ∀ (E : String) (ce : Cell) (q9 : Addr) (u : SX) (t : State) (H1 : Heap) (locs1 : List Loc), t.heap = H1 → s.vm.Alike t.vm → px u → BX E u t → H.size ≤ H1.size → (∀ q : Nat, q < H.size → ¬ AX q → H1[q]? = H[q]?) → va_S A0 H0 H1 locs1 → H1[q9]? = some ce → ce.vm = .none → s.vm.findClass E = some ce.cls → vx_W p l e R s m args below meth c H1 locs1 (cells + mc) (slots + ms) Q (F0 m pc ls rest) q9)
    (kk : ∀ (u : S) (t : State) (H1 : Heap) (locs1 : List Loc), t.heap = H1 → s.vm.Alike t.vm → post u → B u t → H.size ≤ H1.size → (∀ q : Nat, q < H.size → ¬ A1 q → H1[q]? = H[q]?) → va_S A0 H0 H1 locs1 → W p l e R s m args below meth c H1 locs1 (cells + mc) (slots + ms) Q (F0 m (pc + 3) ls (rest))) : W p l e R s m args below meth c H locs cells slots Q (F0 m pc ls st0) := by
  intro T hT X
  rcases hr T hT X with ⟨v, st₀, t, T', L, h0, X', hL, e1, e2, ⟨⟨u, hv, hp, hb⟩, hF⟩, st⟩ | ⟨q, st₀, t, T', L, E, ce, h0, X', hL, e1, e2, ⟨u, hp, hb, hF⟩, hce, hcv, hcl, st⟩
  · cases hv
    obtain ⟨k1, k2, k3⟩ := vx_keep h0 e1 hS hA hf hL hF
    obtain ⟨t2, a1, b1⟩ := kk u t T'.heap (locs ++ L) e1.symm (by rw [← e2]; exact X'.warmed.alike) hp hb k1 k2 k3 T' rfl X'
    exact ⟨t2, st t2 a1, b1⟩
  · obtain ⟨k1, k2, k3⟩ := vx_keep h0 e1 hS hAX hf hL hF
    obtain ⟨t2, a1, b1⟩ := kx E ce q u t T'.heap (locs ++ L) e1.symm (by rw [← e2]; exact X'.warmed.alike) hp hb k1 k2 k3 (by rw [e1]; exact hce) hcv hcl T' rfl X'
    exact ⟨t2, st.trans a1, b1⟩
/-- caught by the row x of this method's table; the rows ahead don't take it -/
theorem vx_catch {own name : String} {E : String} {ce : Cell} {q : Addr} (hown : s.vm.findClass own = some m.cls) (pre : List ExceptionTableEntry) (x : ExceptionTableEntry) (suf : List ExceptionTableEntry) (hsplit : c.exceptionTable.toList = pre ++ x :: suf)
    (hpass : ∀ z ∈ pre, covers z pc = false ∨ (z.catchType ≠ 0 ∧ ∃ nm : String, (Cond.classLink own z.catchType nm).before args s = true ∧ va_Nc E nm s)) (hx : covers x pc = true) (h0 : x.catchType ≠ 0)
    (hlink : (Cond.classLink own x.catchType name).before args s = true) (hcast : (Cond.castable E name).before args s = true) (hcell : H[q]? = some ce) (hv : ce.vm = .none) (hcl : s.vm.findClass E = some ce.cls)
    (kk : W p l e R s m args below meth c H locs cells slots Q (F0 m x.handlerPc ls [.ref q])) : vx_W p l e R s m args below meth c H locs cells slots Q (F0 m pc ls rest) q := by
  intro T hT X
  have hpl : e.platform.magicAccessors = ({} : Platform).magicAccessors := by rw [X.admits.platform]
  obtain ⟨c3, c4, hc3, hc4, hasg⟩ := Cond.castable_spec hcast
  cases Option.some.inj (hc3.symm.trans hcl)
  obtain ⟨c5, hc5, hcl5⟩ := Cond.classLink_spec hown hlink e.platform hpl
  cases Option.some.inj (hc4.symm.trans hc5)
  obtain ⟨vm', X', st⟩ := X.thenCaughtThrough q (g := F0 m pc ls rest) rfl (Steps.refl _) (by rw [hT]; exact hcell) (by rw [hv]; rfl) (by obtain ⟨k9, h9, -⟩ := Vm.findClass_spec hcl; exact ⟨k9, h9⟩) pre x suf hsplit
    (fun z hz => by
      rcases hpass z hz with h | ⟨hz0, nm, hl1, hn1⟩
      · exact Or.inl h
      · obtain ⟨c6, hc6, hcl6⟩ := Cond.classLink_spec hown hl1 e.platform hpl
        obtain ⟨a8, b8, h1, h2, h3⟩ := hn1
        cases Option.some.inj (h1.symm.trans hcl)
        cases Option.some.inj (h2.symm.trans hc6)
        exact Or.inr ⟨hz0, _, hcl6, h3⟩) hx (Or.inr ⟨h0, c4, hcl5, hasg⟩)
  obtain ⟨t, a1, b1⟩ := kk (T.setVm vm') hT X'
  exact ⟨t, st.trans a1, b1⟩
end Rows
section Ends
variable {p : Program} {l : Launch} {e : Env} {R : Room} {s : State} {m : MethodId} {args : Array Value} {below : List Frame} {meth : Method} {c : Code} {H : Heap} {locs : List Loc} {cells slots : Nat} {Q : State → Prop}
variable {mc ms : Nat} {free : Addr → Prop} {A0 A1 : Nat → Prop} {H0 : Heap} {a : Array Value} {ls : Array Slot} {st0 rest : List Value}
variable {Qc : Array Value → State → Outcome → State → Prop} {XC : String → State → State → Prop}
/-- what a body that may throw owes at its end -/
def vx_MQ (below : List Frame) (Qc : Array Value → State → Outcome → State → Prop) (XC : String → State → State → Prop) (a : Array Value) (s : State) (mc ms : Nat) (free : Addr → Prop) : State → Prop := fun t =>
  ∃ o, t.status = .running ∧ Ended t below o ∧ vx_Q Qc XC mc ms free a s o t
theorem vx_ret {g : JFrame} {mc ms : Nat} (k : W p l e R s m args below meth c H locs cells slots (MQ below Qc args s mc ms free) g) : W p l e R s m args below meth c H locs cells slots (vx_MQ below Qc XC args s mc ms free) g := by
  intro T hT X
  obtain ⟨t, a1, o, b1, b2, b3, b4⟩ := k T hT X
  exact ⟨t, a1, o, b1, b2, Or.inl ⟨b3, b4⟩⟩
/-- not caught here: it goes on to the caller -/
theorem vx_widen {g : JFrame} {q : Addr} {k n : Nat} (h1 : cells ≤ k) (h2 : slots ≤ n) (kk : vx_W p l e R s m args below meth c H locs k n Q g q) : vx_W p l e R s m args below meth c H locs cells slots Q g q := fun T hT X => kk T hT (stand_widen X h1 h2)
theorem vx_out {pc : Nat} {E : String} {ce : Cell} {q : Addr} {mc ms : Nat} (hout : ∀ x ∈ c.exceptionTable.toList, covers x pc = false) (hlocks : meth.locks = false) (hcell : H[q]? = some ce) (hv : ce.vm = .none) (hcl : s.vm.findClass E = some ce.cls)
    (hx : ∀ t : State, t.heap = H → s.vm.Alike t.vm → XC E s t) (hf : ∀ z ∈ locs, free z.base) (hc : cells ≤ mc) (hs : slots ≤ ms) :
    vx_W p l e R s m args below meth c H locs cells slots (vx_MQ below Qc XC args s mc ms free) (F0 m pc ls rest) q := by
  intro T hT X
  obtain ⟨st1, hrun, hend, hW, hsm⟩ := X.leaveThrown q (g := F0 m pc ls rest) rfl rfl rfl hout hlocks
  have hcell9 : (T.setFrames (.throwing q :: below)).heap[q]? = some ce := by
    show T.heap[q]? = some ce
    rw [hT]; exact hcell
  exact ⟨_, st1, .threw q, hrun, hend, Or.inr ⟨q, rfl, E, ce, locs, hx _ hT hW.alike, hcell9, hv, hcl, hW, hsm.mono hc hs, hf⟩⟩
theorem vx_frame {U : State} {k n : Nat} (h : s.sameButNew ({ U with vm := s.vm } : State) locs k n) : s.heap.size ≤ U.heap.size ∧ ∀ q : Nat, q < s.heap.size → (∀ z ∈ locs, z.base ≠ q) → U.heap[q]? = s.heap[q]? := by
  obtain ⟨-, h2, -, -, -, h6⟩ := h
  refine ⟨h2, fun q hq hz => ?_⟩
  obtain ⟨c9, e1, e2, e3, e4⟩ := h6 q _ (Array.getElem?_eq_getElem hq)
  have hs : c9.slots = (s.heap[q]).slots := Array.ext_getElem? fun i => e4 i fun hm => hz _ hm rfl
  have h9 : c9 = s.heap[q] := by
    rw [hs] at e2
    exact e2
  have e5 : U.heap[q]? = some c9 := e1
  rw [e5, h9, Array.getElem?_eq_getElem hq]
/-- the words of a throw but the four that speak of the heap -/
def vx_no (w : Cond) : Bool := decide (w ≠ .isRef (.static Bundle.tN "UNASSIGNED_STACK" Bundle.steD)) && decide (w ≠ .isRef (.static Bundle.tN "SUPPRESSED_SENTINEL" Bundle.listD)) && decide (w ≠ .laysStatic Bundle.tN "UNASSIGNED_STACK" Bundle.steD) && decide (w ≠ .laysStatic Bundle.tN "SUPPRESSED_SENTINEL" Bundle.listD)
def vx_at0 (own : String) (ic : Nat) (X : String) (names : List String) : List Cond := (Bundle.ownAtoms0 own ic X names).filter vx_no
def vx_atS (own : String) (ic : Nat) (X : String) (names : List String) : List Cond := (Bundle.ownAtoms own ic X names).filter vx_no
/-- a word that the tables alone decide, or a good one -/
def vx_ot (w : Cond) : Bool := w.onTables || goodWord w
theorem vx_ot_at {args a' : Array Value} {s U : State} {w : Cond} (hW : s.WarmedH U.vm) (hvm : s.vm = U.vm) (hg : vx_ot w = true) (h : w.before args s = true) : w.before a' U = true := by
  simp only [vx_ot, Bool.or_eq_true] at hg
  rcases hg with hg | hg
  · exact va_tabs hg hvm h
  · exact word_at hW (good_of_word hg) h
/-- a list's words: the good ones out of the method's own list, the others by premises of their own -/
theorem vx_hat {args : Array Value} {s : State} {L B : List Cond} (h1 : ∀ w ∈ L.filter goodWord, w.before args s = true) (h2 : ∀ w ∈ L.filter (fun w => !goodWord w), w ∈ B) (h3 : ∀ w ∈ B, w.before args s = true) : ∀ w ∈ L, w.before args s = true := by
  intro w hw
  by_cases g : goodWord w = true
  · exact h1 w (List.mem_filter.mpr ⟨hw, g⟩)
  · refine h3 w (h2 w (List.mem_filter.mpr ⟨hw, ?_⟩))
    show (!goodWord w) = true
    cases hgw : goodWord w
    · rfl
    · exact absurd hgw g
theorem vx_c {args : Array Value} {s : State} {w : Cond} {B : List Cond} (h : w.before args s = true) (t : ∀ w ∈ B, w.before args s = true) : ∀ w' ∈ w :: B, w'.before args s = true := fun w' h' => (List.mem_cons.mp h').elim (fun e => by rw [e]; exact h) (t w')
theorem vx_n {args : Array Value} {s : State} : ∀ w ∈ ([] : List Cond), w.before args s = true := fun _ h => nomatch h
theorem vx_own {args : Array Value} {s : State} {L : List Cond} (h1 : ∀ w ∈ L.filter vx_no, w.before args s = true)
    (hU : (Cond.isRef (.static Bundle.tN "UNASSIGNED_STACK" Bundle.steD)).before args s = true) (hN : (Cond.isRef (.static Bundle.tN "SUPPRESSED_SENTINEL" Bundle.listD)).before args s = true)
    (lU : (Cond.laysStatic Bundle.tN "UNASSIGNED_STACK" Bundle.steD).before args s = true) (lN : (Cond.laysStatic Bundle.tN "SUPPRESSED_SENTINEL" Bundle.listD).before args s = true) : ∀ w ∈ L, w.before args s = true := by
  intro w hw
  by_cases e1 : w = .isRef (.static Bundle.tN "UNASSIGNED_STACK" Bundle.steD)
  · rw [e1]; exact hU
  · by_cases e2 : w = .isRef (.static Bundle.tN "SUPPRESSED_SENTINEL" Bundle.listD)
    · rw [e2]; exact hN
    · by_cases e3 : w = .laysStatic Bundle.tN "UNASSIGNED_STACK" Bundle.steD
      · rw [e3]; exact lU
      · by_cases e4 : w = .laysStatic Bundle.tN "SUPPRESSED_SENTINEL" Bundle.listD
        · rw [e4]; exact lN
        · exact h1 w (List.mem_filter.mpr ⟨hw, by unfold vx_no; rw [decide_eq_true e1, decide_eq_true e2, decide_eq_true e3, decide_eq_true e4]; rfl⟩)
/-- where a static field lies, its class's statics cell in H -/
def vx_L (C n d : String) (A : Nat → Prop) (U : State) (H : Heap) : Prop := ∃ (c : ClassId) (k : Class) (i : Nat) (f : Field) (a : Nat) (cell : Cell), U.vm.findClass C = some c ∧ U.fieldFound? C n d = some (c, k, i, f) ∧ f.isStatic = true ∧ k.statics = some a ∧ H[a]? = some cell ∧ cell.vm.isStatics = true ∧ cell.cls = c ∧ f.slot < cell.slots.size ∧ k.staticTypes[f.slot]? = some f.type ∧ ¬ A a
theorem vx_L.moved {C n d : String} {A : Nat → Prop} {u U : State} {H : Heap} (hvm : u.vm.Alike U.vm) (h : vx_L C n d A u H) : vx_L C n d A U H := by
  obtain ⟨c, k, i, f, a, cell, h1, h2, h3, h4, h5, h6, h7, h8, h9, h10⟩ := h
  obtain ⟨k', hi', he⟩ := State.fieldFound?_setVm hvm h2
  exact ⟨c, k', i, f, a, cell, by rw [hvm.findClass]; exact h1, hi', h3, by rw [he]; exact h4, h5, h6, h7, h8, by rw [he]; exact h9, h10⟩
theorem vx_L.kept {C n d : String} {A : Nat → Prop} {U : State} {H H1 : Heap} (h : vx_L C n d A U H) (hq : ∀ a : Nat, a < H.size → ¬ A a → H1[a]? = H[a]?) : vx_L C n d A U H1 := by
  obtain ⟨c, k, i, f, a, cell, h1, h2, h3, h4, h5, h6, h7, h8, h9, h10⟩ := h
  exact ⟨c, k, i, f, a, cell, h1, h2, h3, h4, by rw [hq a (Array.getElem?_eq_some_iff.mp h5).1 h10]; exact h5, h6, h7, h8, h9, h10⟩
theorem vx_L.narrow {C n d : String} {A B : Nat → Prop} {U : State} {H : Heap} (h : vx_L C n d A U H) (hAB : ∀ q, B q → A q) : vx_L C n d B U H := by
  obtain ⟨c, k, i, f, a, cell, h1, h2, h3, h4, h5, h6, h7, h8, h9, h10⟩ := h
  exact ⟨c, k, i, f, a, cell, h1, h2, h3, h4, h5, h6, h7, h8, h9, fun z => h10 (hAB _ z)⟩
theorem vx_L.word {C n d : String} {A : Nat → Prop} {s : State} {args : Array Value} (h : vx_L C n d A s s.heap) : (Cond.laysStatic C n d).before args s = true := by
  obtain ⟨c, k, i, f, a, cell, h1, h2, h3, h4, h5, h6, h7, h8, h9, -⟩ := h
  show (Cond.laysStatic C n d).holds args s none s [] = true
  exact Cond.laysStatic_of h1 h2 h3 h4 h5 h6 h7 h8 h9
/-- .. and what it holds: null or some reference -/
def vx_Zq (C n d : String) (A : Nat → Prop) (U : State) (H : Heap) : Prop := va_Zq C n d A U H ∧ vx_L C n d A U H
theorem vx_Zq.moved {C n d : String} {A : Nat → Prop} {u U : State} {H : Heap} (hvm : u.vm.Alike U.vm) (h : vx_Zq C n d A u H) : vx_Zq C n d A U H := ⟨va_Zq.moved hvm h.1, vx_L.moved hvm h.2⟩
theorem vx_Zq.kept {C n d : String} {A : Nat → Prop} {U : State} {H H1 : Heap} (h : vx_Zq C n d A U H) (hq : ∀ a : Nat, a < H.size → ¬ A a → H1[a]? = H[a]?) : vx_Zq C n d A U H1 := ⟨va_Zq.kept h.1 hq, vx_L.kept h.2 hq⟩
theorem vx_Zq.narrow {C n d : String} {A B : Nat → Prop} {U : State} {H : Heap} (h : vx_Zq C n d A U H) (hAB : ∀ q, B q → A q) : vx_Zq C n d B U H := ⟨va_Zq.narrow h.1 hAB, vx_L.narrow h.2 hAB⟩
theorem vx_Zqof {args : Array Value} {s : State} {C n d : String} {A : Nat → Prop} (hl : (Cond.laysStatic C n d).before args s = true) (hini : (Cond.initialized C).before args s = true) (h : (Cond.isRef (.static C n d)).before args s = true) (hA : ∀ a : Nat, a < s.heap.size → ¬ A a) : vx_Zq C n d A s s.heap := by
  refine ⟨va_Zqof hl hini h hA, ?_⟩
  obtain ⟨c, k, i, f, a, cell, h1, h2, h3, h4, h5, h6, h7, h8, h9⟩ := Cond.laysStatic_spec hl
  exact ⟨c, k, i, f, a, cell, h1, h2, h3, h4, h5, h6, h7, h8, h9, hA a (Array.getElem?_eq_some_iff.mp h5).1⟩
theorem vx_isRef {C n d : String} {v : Value} {A : Nat → Prop} {s : State} {args : Array Value} (h : va_Z C n d v A s s.heap) (hv : v.isRef = true) : (Cond.isRef (.static C n d)).before args s = true := by
  obtain ⟨cf, kf, fi, f, a, cell, h1, h2, h3, h4, h5, h6, h7, -⟩ := h
  have he : (Term.static C n d).eval args s none [] s = some v := by
    simp [Term.eval, State.fieldNamed?, h1, h2, h4, h5, h6, h7]
  simp only [Cond.before, Cond.holds, Cond.value, he]
  cases v <;> simp_all [Value.isRef]
theorem vx_isRefq {C n d : String} {A : Nat → Prop} {s : State} {args : Array Value} (h : va_Zq C n d A s s.heap) : (Cond.isRef (.static C n d)).before args s = true := by
  rcases h with h | ⟨t, h⟩
  · exact vx_isRef h rfl
  · exact vx_isRef h rfl
/-- the same frame, seen from here: as if the method were called anew in this heap -/
theorem vx_rebase {T : State} (X : Stand p l e R s m args below meth c T locs cells slots) {R' : Room} (hf : R'.frames ≤ R.frames) (hl : R'.locals ≤ R.locals) (hc : cells + R'.cells ≤ R.cells) (hs : slots + R'.slots ≤ R.slots) :
    Stand p l e R' ((T.setVm s.vm).setFrames (.invoking m args :: below)) m args below meth c T [] 0 0 := by
  have htop : (T.setVm s.vm).topJava?.isSome := X.here.top
  have hF : ((T.setVm s.vm).setFrames (.invoking m args :: below)).frames = .invoking m args :: below := State.frames_setFrames _ (State.cur_lt_of_top htop)
  obtain ⟨g₀, hg0⟩ := Option.isSome_iff_exists.mp htop
  obtain ⟨r, hr⟩ := State.topJava?_eq_some.mp hg0
  have hl9 : e.platform.stackLimits (T.setVm s.vm).me = e.platform.stackLimits s.me := X.limits
  have hb9 : (T.setVm s.vm).me.stackBytes = s.me.stackBytes := X.bytes
  refine ⟨X.admits, X.cas, X.clock, hF, ?_, X.hears, X.method, X.code, X.here, X.tail, X.warmed, ?_, ?_, ?_⟩
  · have h := X.room
    have hU : ((T.setVm s.vm).setFrames (.invoking m args :: below)).localsInUse = s.localsInUse := by
      rw [State.localsInUse_invoking hF (meth := meth) (c := c) X.method X.code, State.localsInUse_invoking X.frames X.method X.code]
    simp only [State.hasRoom, Bool.and_eq_true, decide_eq_true_eq] at h ⊢
    obtain ⟨⟨⟨⟨h1, h2, h3, h4, h5, h6⟩, h7⟩, h8⟩, h9⟩ := h
    rw [X.frames, List.length_cons] at h2 h3
    have q1 := X.heapSize
    have q2 := X.used
    simp only [hF, hU, List.length_cons, State.stackLimits_setFrames, State.stackBytes_setFrames, hl9, hb9]
    refine ⟨⟨⟨⟨by omega, by omega, by omega, by omega, by omega, h6⟩, ?_⟩, ?_⟩, X.book⟩
    · show T.heap.size + R'.cells ≤ e.platform.maxCells
      omega
    · show T.slotsUsed + R'.slots ≤ e.platform.maxSlots
      omega
  · rw [State.stackLimits_setFrames]; rfl
  · rw [State.stackBytes_setFrames]; rfl
  · refine ⟨?_, Nat.le_refl _, Nat.le_refl _, ?_, ?_, fun a c9 h9 => ⟨c9, h9, rfl, rfl, fun _ _ => rfl⟩⟩
    · obtain ⟨t, ht, -⟩ := State.frames_cons hr
      show T.setVm s.vm = { ((T.setVm s.vm).setFrames (.invoking m args :: below)).setFrames (T.setVm s.vm).frames with heap := T.heap, slotsUsed := T.slotsUsed }
      rw [State.setFrames_setFrames, State.setFrames_self ht]
      rfl
    · show T.slotsUsed = T.slotsUsed + ((T.heap.toList.drop T.heap.size).map (·.slots.size)).sum
      rw [List.drop_eq_nil_of_le (Nat.le_of_eq Array.length_toList)]
      rfl
    · show ((T.heap.toList.drop T.heap.size).map (·.slots.size)).sum ≤ 0
      rw [List.drop_eq_nil_of_le (Nat.le_of_eq Array.length_toList)]
      exact Nat.le_refl _
/-- 'throw new E()': new; dup; invokespecial; athrow -/
theorem vx_throw0 {cc : ByteArray} {pc : Nat} (hexec : p.tables.exec = Jvm.exec) (hb : c.code = cc) (hl : l.stackTraces = false) {own cls : String} {names : List String} {ik ic mc ms : Nat} {A : Nat → Prop}
    (hown : s.vm.findClass own = some m.cls) (hcls : Bundle.fit cls = true) (hnames : ∀ n ∈ names, Bundle.fit n = true)
    (hk : (Cond.classLink own ik cls).before args s = true) (hini : (Cond.initialized cls).before args s = true) (hat : ∀ w ∈ vx_at0 own ic cls names, w.before args s = true)
    (hgood : ∀ w ∈ Cond.classLink own ik cls :: Cond.initialized cls :: vx_at0 own ic cls names, vx_ot w = true)
    (hU : vx_Zq Bundle.tN "UNASSIGNED_STACK" Bundle.steD A s s.heap) (hN : vx_Zq Bundle.tN "SUPPRESSED_SENTINEL" Bundle.listD A s s.heap) (hS : va_S A s.heap H locs) (hsize : ls.size = c.maxLocals)
    (d0 : decode cc pc = .ok (.new ik, 3)) (d3 : decode cc (pc + 3) = .ok (.dup, 1)) (d4 : decode cc (pc + 4) = .ok (.invokespecial ic, 3)) (d7 : decode cc (pc + 7) = .ok (.athrow, 1))
    (hout : ∀ x ∈ c.exceptionTable.toList, covers x (pc + 7) = false)
    (hRframes : names.length + 3 < R.frames) (hRlocals : (rest.map fun v => v.category).sum + (13 * (names.length + 1) + 42) ≤ R.locals) (hRcells : cells + 1 ≤ R.cells) (hRslots : slots + 6 ≤ R.slots) (hlocks : meth.locks = false)
    (hx : ∀ t : State, s.vm.Alike t.vm → H.size ≤ t.heap.size → (∀ q : Nat, q < H.size → t.heap[q]? = H[q]?) → XC cls s t)
    (hf : ∀ z ∈ locs, free z.base) (hc : cells + 1 ≤ mc) (hs : slots + 6 ≤ ms) :
    W p l e R s m args below meth c H locs cells slots (vx_MQ below Qc XC args s mc ms free) (F0 m pc ls rest) := by
  intro T hT X
  have htr : e.platform.stackTraces = false := (show e.platform.stackTraces = l.stackTraces by rw [X.admits.platform]).trans hl
  have Y := vx_rebase X (R' := { frames := R.frames, locals := R.locals, cells := 1, slots := 6 }) (Nat.le_refl _) (Nat.le_refl _) hRcells hRslots
  obtain ⟨s', hA⟩ : ∃ z, z = (T.setVm s.vm).setFrames (.invoking m args :: below) := ⟨_, rfl⟩
  rw [← hA] at Y
  have hvm : s'.vm = s.vm := by rw [hA]; rfl
  have hhp : s'.heap = H := by rw [hA]; exact hT
  have hW0 : s.WarmedH s'.vm := by rw [hvm]; exact State.WarmedH.refl s
  have hat' : ∀ w ∈ vx_at0 own ic cls names, w.before args s' = true := fun w hw => vx_ot_at hW0 hvm.symm (hgood w (List.mem_cons_of_mem _ (List.mem_cons_of_mem _ hw))) (hat w hw)
  have hk' : (Cond.classLink own ik cls).before args s' = true := vx_ot_at hW0 hvm.symm (hgood _ List.mem_cons_self) hk
  have hini' : (Cond.initialized cls).before args s' = true := vx_ot_at hW0 hvm.symm (hgood _ (List.mem_cons_of_mem _ List.mem_cons_self)) hini
  have hU' : vx_Zq Bundle.tN "UNASSIGNED_STACK" Bundle.steD A s' s'.heap := by rw [hhp]; exact vx_Zq.moved hW0.alike (hU.kept hS.2.1)
  have hN' : vx_Zq Bundle.tN "SUPPRESSED_SENTINEL" Bundle.listD A s' s'.heap := by rw [hhp]; exact vx_Zq.moved hW0.alike (hN.kept hS.2.1)
  have h : ∀ w ∈ Bundle.ownAtoms0 own ic cls names, w.before args s' = true := vx_own hat' (vx_isRefq hU'.1) (vx_isRefq hN'.1) hU'.2.word hN'.2.word
  have hown' : s'.vm.findClass own = some m.cls := by rw [hvm]; exact hown
  have hins : (Cond.instantiable cls 6).before args s' = true := h _ (by simp [Bundle.ownAtoms0])
  obtain ⟨vm₁, cX, kX, hfX, hkX, -, -, X₁, st1⟩ := Y.newCold hexec (own := own) (C := cls) (index := ik) (n := 6) hown' hk' hins hini'
    (g := F0 m pc ls rest) rfl (by rw [hb]; exact d0) (Nat.le_refl _) (Nat.le_refl _)
  generalize hT1 : (T.setVm vm₁).pushCell { cls := cX, slots := kX.instanceTypes.map defaultValue, vm := .none } = T1 at X₁ st1
  have hcat : (Value.ref T.heap.size).category = 1 := rfl
  have hcellA : T1.heap[T.heap.size]? = some (freshCell cX kX) := by rw [← hT1]; exact State.heap_pushCell_size _ _
  have d3' : decode c.code (pc + 3) = .ok (.dup, 1) := by rw [hb]; exact d3
  obtain ⟨U, hsteps, hrun, hend, hW, hsame, ce, hce, hO⟩ := X₁.ctorThrow0 hexec htr (own := own) (cls := cls) (names := names) (ic := ic) hown' hcls hnames h (fun x hx => nomatch hx) hfX hkX hcellA (by rw [hhp, hT]; exact Nat.le_refl _)
    (g := { method := m, pc := pc + 4, locals := ls, stack := .ref T.heap.size :: .ref T.heap.size :: rest, locked := none }) rfl hsize rfl rfl (rest := rest) rfl
    (by rw [hb]; exact d4) (by rw [hb]; exact d7) hout hRframes (by simp only [List.map_cons, List.sum_cons, hcat]; omega) hlocks
  obtain ⟨f1, f2⟩ := vx_frame hsame
  rw [hhp] at f1 f2
  have hWs : s.WarmedH U.vm := State.WarmedH.trans hW0 hW
  have hcl : s.vm.findClass cls = some ce.cls := by
    have h9 := hO.cls
    rw [hvm] at h9
    exact h9
  have hall : s.sameButNew ({ U with vm := s.vm } : State) locs mc ms := by
    subst hA
    obtain ⟨e1, e2⟩ := hsame
    rw [State.setFrames_setFrames] at e1
    have h2 : (T.setVm s.vm).sameButNew ({ U with vm := s.vm } : State) [] (0 + 1) (0 + 6) := ⟨e1, e2⟩
    have h3 := X.same.trans h2
    rw [List.append_nil] at h3
    exact h3.mono hc hs
  refine ⟨U, ?_, .threw T.heap.size, hrun, hend, Or.inr ⟨T.heap.size, rfl, cls, ce, locs, hx U hWs.alike f1 (fun q hq => f2 q hq (fun z hz => nomatch hz)), hce, hO.vm, hcl, hWs, hall, hf⟩⟩
  refine st1 _ ?_
  show Steps p.tables e below (T1.setTop { method := m, pc := pc + 3, locals := ls, stack := .ref T.heap.size :: rest, locked := none }) _
  jvm_step X₁.here [X₁.here.top, hexec, d3', Value.category]
  exact hsteps
/-- 'throw new E("text")': new; dup; ldc; invokespecial; athrow -/
theorem vx_throwS {cc : ByteArray} {pc : Nat} (hexec : p.tables.exec = Jvm.exec) (hb : c.code = cc) (hl : l.stackTraces = false) {own cls text : String} {names : List String} {ik is ic mc ms sa : Nat} {A : Nat → Prop}
    (hown : s.vm.findClass own = some m.cls) (hcls : Bundle.fit cls = true) (hnames : ∀ n ∈ names, Bundle.fit n = true)
    (hk : (Cond.classLink own ik cls).before args s = true) (hini : (Cond.initialized cls).before args s = true) (hstr : vk_R own is text sa s) (hat : ∀ w ∈ vx_atS own ic cls names, w.before args s = true)
    (hgood : ∀ w ∈ Cond.classLink own ik cls :: Cond.initialized cls :: vx_atS own ic cls names, vx_ot w = true)
    (hU : vx_Zq Bundle.tN "UNASSIGNED_STACK" Bundle.steD A s s.heap) (hN : vx_Zq Bundle.tN "SUPPRESSED_SENTINEL" Bundle.listD A s s.heap) (hS : va_S A s.heap H locs) (hsize : ls.size = c.maxLocals)
    (d0 : decode cc pc = .ok (.new ik, 3)) (d3 : decode cc (pc + 3) = .ok (.dup, 1)) (d4 : decode cc (pc + 4) = .ok (.ldc is, 2)) (d6 : decode cc (pc + 6) = .ok (.invokespecial ic, 3)) (d9 : decode cc (pc + 9) = .ok (.athrow, 1))
    (hout : ∀ x ∈ c.exceptionTable.toList, covers x (pc + 9) = false)
    (hRframes : names.length + 3 < R.frames) (hRlocals : (rest.map fun v => v.category).sum + (13 * (names.length + 1) + 43) ≤ R.locals) (hRcells : cells + 1 ≤ R.cells) (hRslots : slots + 6 ≤ R.slots) (hlocks : meth.locks = false)
    (hx : ∀ t : State, s.vm.Alike t.vm → H.size ≤ t.heap.size → (∀ q : Nat, q < H.size → t.heap[q]? = H[q]?) → XC cls s t)
    (hf : ∀ z ∈ locs, free z.base) (hc : cells + 1 ≤ mc) (hs : slots + 6 ≤ ms) :
    W p l e R s m args below meth c H locs cells slots (vx_MQ below Qc XC args s mc ms free) (F0 m pc ls rest) := by
  intro T hT X
  have htr : e.platform.stackTraces = false := (show e.platform.stackTraces = l.stackTraces by rw [X.admits.platform]).trans hl
  have Y := vx_rebase X (R' := { frames := R.frames, locals := R.locals, cells := 1, slots := 6 }) (Nat.le_refl _) (Nat.le_refl _) hRcells hRslots
  obtain ⟨s', hA⟩ : ∃ z, z = (T.setVm s.vm).setFrames (.invoking m args :: below) := ⟨_, rfl⟩
  rw [← hA] at Y
  have hvm : s'.vm = s.vm := by rw [hA]; rfl
  have hhp : s'.heap = H := by rw [hA]; exact hT
  have hW0 : s.WarmedH s'.vm := by rw [hvm]; exact State.WarmedH.refl s
  have hat' : ∀ w ∈ vx_atS own ic cls names, w.before args s' = true := fun w hw => vx_ot_at hW0 hvm.symm (hgood w (List.mem_cons_of_mem _ (List.mem_cons_of_mem _ hw))) (hat w hw)
  have hk' : (Cond.classLink own ik cls).before args s' = true := vx_ot_at hW0 hvm.symm (hgood _ List.mem_cons_self) hk
  have hini' : (Cond.initialized cls).before args s' = true := vx_ot_at hW0 hvm.symm (hgood _ (List.mem_cons_of_mem _ List.mem_cons_self)) hini
  have hU' : vx_Zq Bundle.tN "UNASSIGNED_STACK" Bundle.steD A s' s'.heap := by rw [hhp]; exact vx_Zq.moved hW0.alike (hU.kept hS.2.1)
  have hN' : vx_Zq Bundle.tN "SUPPRESSED_SENTINEL" Bundle.listD A s' s'.heap := by rw [hhp]; exact vx_Zq.moved hW0.alike (hN.kept hS.2.1)
  have h : ∀ w ∈ Bundle.ownAtoms own ic cls names, w.before args s' = true := vx_own hat' (vx_isRefq hU'.1) (vx_isRefq hN'.1) hU'.2.word hN'.2.word
  have hown' : s'.vm.findClass own = some m.cls := by rw [hvm]; exact hown
  have hins : (Cond.instantiable cls 6).before args s' = true := h _ (by simp [Bundle.ownAtoms])
  obtain ⟨vm₁, cX, kX, hfX, hkX, -, -, X₁, st1⟩ := Y.newCold hexec (own := own) (C := cls) (index := ik) (n := 6) hown' hk' hins hini'
    (g := F0 m pc ls rest) rfl (by rw [hb]; exact d0) (Nat.le_refl _) (Nat.le_refl _)
  generalize hT1 : (T.setVm vm₁).pushCell { cls := cX, slots := kX.instanceTypes.map defaultValue, vm := .none } = T1 at X₁ st1
  have hcat : (Value.ref T.heap.size).category = 1 := rfl
  have hcellA : T1.heap[T.heap.size]? = some (freshCell cX kX) := by rw [← hT1]; exact State.heap_pushCell_size _ _
  have d3' : decode c.code (pc + 3) = .ok (.dup, 1) := by rw [hb]; exact d3
  have d4' : decode c.code (pc + 4) = .ok (.ldc is, 2) := by rw [hb]; exact d4
  have hstr' : vk_R own is text sa s' := vk_R.warm hW0 hstr
  obtain ⟨U, hsteps, hrun, hend, hW, hsame, ce, hce, hO⟩ := X₁.ctorThrowS hexec htr (own := own) (cls := cls) (names := names) (ic := ic) hown' hcls hnames h (fun x hx => nomatch hx) hfX hkX hcellA (by rw [hhp, hT]; exact Nat.le_refl _) (msg := .ref sa) rfl
    (g := { method := m, pc := pc + 6, locals := ls, stack := .ref sa :: .ref T.heap.size :: .ref T.heap.size :: rest, locked := none }) rfl hsize rfl rfl (rest := rest) rfl
    (by rw [hb]; exact d6) (by rw [hb]; exact d9) hout hRframes (by simp only [List.map_cons, List.sum_cons, hcat]; omega) hlocks
  obtain ⟨f1, f2⟩ := vx_frame hsame
  rw [hhp] at f1 f2
  have hWs : s.WarmedH U.vm := State.WarmedH.trans hW0 hW
  have hcl : s.vm.findClass cls = some ce.cls := by
    have h9 := hO.cls
    rw [hvm] at h9
    exact h9
  have hall : s.sameButNew ({ U with vm := s.vm } : State) locs mc ms := by
    subst hA
    obtain ⟨e1, e2⟩ := hsame
    rw [State.setFrames_setFrames] at e1
    have h2 : (T.setVm s.vm).sameButNew ({ U with vm := s.vm } : State) [] (0 + 1) (0 + 6) := ⟨e1, e2⟩
    have h3 := X.same.trans h2
    rw [List.append_nil] at h3
    exact h3.mono hc hs
  refine ⟨U, ?_, .threw T.heap.size, hrun, hend, Or.inr ⟨T.heap.size, rfl, cls, ce, locs, hx U hWs.alike f1 (fun q hq => f2 q hq (fun z hz => nomatch hz)), hce, hO.vm, hcl, hWs, hall, hf⟩⟩
  refine st1 _ ?_
  show Steps p.tables e below (T1.setTop { method := m, pc := pc + 3, locals := ls, stack := .ref T.heap.size :: rest, locked := none }) _
  jvm_step X₁.here [X₁.here.top, hexec, d3', Value.category]
  exact X₁.ldcString hexec (own := own) (text := text) (index := is) (a := sa) hown' hstr'.1 hstr'.2
    (g := { method := m, pc := pc + 4, locals := ls, stack := .ref T.heap.size :: .ref T.heap.size :: rest, locked := none }) rfl d4' _ hsteps
/-- 'throw new E("text")', the text by a wide index -/
theorem vx_throwSW {cc : ByteArray} {pc : Nat} (hexec : p.tables.exec = Jvm.exec) (hb : c.code = cc) (hl : l.stackTraces = false) {own cls text : String} {names : List String} {ik is ic mc ms sa : Nat} {A : Nat → Prop}
    (hown : s.vm.findClass own = some m.cls) (hcls : Bundle.fit cls = true) (hnames : ∀ n ∈ names, Bundle.fit n = true)
    (hk : (Cond.classLink own ik cls).before args s = true) (hini : (Cond.initialized cls).before args s = true) (hstr : vk_R own is text sa s) (hat : ∀ w ∈ vx_atS own ic cls names, w.before args s = true)
    (hgood : ∀ w ∈ Cond.classLink own ik cls :: Cond.initialized cls :: vx_atS own ic cls names, vx_ot w = true)
    (hU : vx_Zq Bundle.tN "UNASSIGNED_STACK" Bundle.steD A s s.heap) (hN : vx_Zq Bundle.tN "SUPPRESSED_SENTINEL" Bundle.listD A s s.heap) (hS : va_S A s.heap H locs) (hsize : ls.size = c.maxLocals)
    (d0 : decode cc pc = .ok (.new ik, 3)) (d3 : decode cc (pc + 3) = .ok (.dup, 1)) (d4 : decode cc (pc + 4) = .ok (.ldc_w is, 3)) (d7 : decode cc (pc + 7) = .ok (.invokespecial ic, 3)) (d10 : decode cc (pc + 10) = .ok (.athrow, 1))
    (hout : ∀ x ∈ c.exceptionTable.toList, covers x (pc + 10) = false)
    (hRframes : names.length + 3 < R.frames) (hRlocals : (rest.map fun v => v.category).sum + (13 * (names.length + 1) + 43) ≤ R.locals) (hRcells : cells + 1 ≤ R.cells) (hRslots : slots + 6 ≤ R.slots) (hlocks : meth.locks = false)
    (hx : ∀ t : State, s.vm.Alike t.vm → H.size ≤ t.heap.size → (∀ q : Nat, q < H.size → t.heap[q]? = H[q]?) → XC cls s t)
    (hf : ∀ z ∈ locs, free z.base) (hc : cells + 1 ≤ mc) (hs : slots + 6 ≤ ms) :
    W p l e R s m args below meth c H locs cells slots (vx_MQ below Qc XC args s mc ms free) (F0 m pc ls rest) := by
  intro T hT X
  have htr : e.platform.stackTraces = false := (show e.platform.stackTraces = l.stackTraces by rw [X.admits.platform]).trans hl
  have Y := vx_rebase X (R' := { frames := R.frames, locals := R.locals, cells := 1, slots := 6 }) (Nat.le_refl _) (Nat.le_refl _) hRcells hRslots
  obtain ⟨s', hA⟩ : ∃ z, z = (T.setVm s.vm).setFrames (.invoking m args :: below) := ⟨_, rfl⟩
  rw [← hA] at Y
  have hvm : s'.vm = s.vm := by rw [hA]; rfl
  have hhp : s'.heap = H := by rw [hA]; exact hT
  have hW0 : s.WarmedH s'.vm := by rw [hvm]; exact State.WarmedH.refl s
  have hat' : ∀ w ∈ vx_atS own ic cls names, w.before args s' = true := fun w hw => vx_ot_at hW0 hvm.symm (hgood w (List.mem_cons_of_mem _ (List.mem_cons_of_mem _ hw))) (hat w hw)
  have hk' : (Cond.classLink own ik cls).before args s' = true := vx_ot_at hW0 hvm.symm (hgood _ List.mem_cons_self) hk
  have hini' : (Cond.initialized cls).before args s' = true := vx_ot_at hW0 hvm.symm (hgood _ (List.mem_cons_of_mem _ List.mem_cons_self)) hini
  have hU' : vx_Zq Bundle.tN "UNASSIGNED_STACK" Bundle.steD A s' s'.heap := by rw [hhp]; exact vx_Zq.moved hW0.alike (hU.kept hS.2.1)
  have hN' : vx_Zq Bundle.tN "SUPPRESSED_SENTINEL" Bundle.listD A s' s'.heap := by rw [hhp]; exact vx_Zq.moved hW0.alike (hN.kept hS.2.1)
  have h : ∀ w ∈ Bundle.ownAtoms own ic cls names, w.before args s' = true := vx_own hat' (vx_isRefq hU'.1) (vx_isRefq hN'.1) hU'.2.word hN'.2.word
  have hown' : s'.vm.findClass own = some m.cls := by rw [hvm]; exact hown
  have hins : (Cond.instantiable cls 6).before args s' = true := h _ (by simp [Bundle.ownAtoms])
  obtain ⟨vm₁, cX, kX, hfX, hkX, -, -, X₁, st1⟩ := Y.newCold hexec (own := own) (C := cls) (index := ik) (n := 6) hown' hk' hins hini'
    (g := F0 m pc ls rest) rfl (by rw [hb]; exact d0) (Nat.le_refl _) (Nat.le_refl _)
  generalize hT1 : (T.setVm vm₁).pushCell { cls := cX, slots := kX.instanceTypes.map defaultValue, vm := .none } = T1 at X₁ st1
  have hcat : (Value.ref T.heap.size).category = 1 := rfl
  have hcellA : T1.heap[T.heap.size]? = some (freshCell cX kX) := by rw [← hT1]; exact State.heap_pushCell_size _ _
  have d3' : decode c.code (pc + 3) = .ok (.dup, 1) := by rw [hb]; exact d3
  have d4' : decode c.code (pc + 4) = .ok (.ldc_w is, 3) := by rw [hb]; exact d4
  have hstr' : vk_R own is text sa s' := vk_R.warm hW0 hstr
  obtain ⟨U, hsteps, hrun, hend, hW, hsame, ce, hce, hO⟩ := X₁.ctorThrowS hexec htr (own := own) (cls := cls) (names := names) (ic := ic) hown' hcls hnames h (fun x hx => nomatch hx) hfX hkX hcellA (by rw [hhp, hT]; exact Nat.le_refl _) (msg := .ref sa) rfl
    (g := { method := m, pc := pc + 7, locals := ls, stack := .ref sa :: .ref T.heap.size :: .ref T.heap.size :: rest, locked := none }) rfl hsize rfl rfl (rest := rest) rfl
    (by rw [hb]; exact d7) (by rw [hb]; exact d10) hout hRframes (by simp only [List.map_cons, List.sum_cons, hcat]; omega) hlocks
  obtain ⟨f1, f2⟩ := vx_frame hsame
  rw [hhp] at f1 f2
  have hWs : s.WarmedH U.vm := State.WarmedH.trans hW0 hW
  have hcl : s.vm.findClass cls = some ce.cls := by
    have h9 := hO.cls
    rw [hvm] at h9
    exact h9
  have hall : s.sameButNew ({ U with vm := s.vm } : State) locs mc ms := by
    subst hA
    obtain ⟨e1, e2⟩ := hsame
    rw [State.setFrames_setFrames] at e1
    have h2 : (T.setVm s.vm).sameButNew ({ U with vm := s.vm } : State) [] (0 + 1) (0 + 6) := ⟨e1, e2⟩
    have h3 := X.same.trans h2
    rw [List.append_nil] at h3
    exact h3.mono hc hs
  refine ⟨U, ?_, .threw T.heap.size, hrun, hend, Or.inr ⟨T.heap.size, rfl, cls, ce, locs, hx U hWs.alike f1 (fun q hq => f2 q hq (fun z hz => nomatch hz)), hce, hO.vm, hcl, hWs, hall, hf⟩⟩
  refine st1 _ ?_
  show Steps p.tables e below (T1.setTop { method := m, pc := pc + 3, locals := ls, stack := .ref T.heap.size :: rest, locked := none }) _
  jvm_step X₁.here [X₁.here.top, hexec, d3', Value.category]
  exact X₁.ldcStringW hexec (own := own) (text := text) (index := is) (a := sa) hown' hstr'.1 hstr'.2
    (g := { method := m, pc := pc + 4, locals := ls, stack := .ref T.heap.size :: .ref T.heap.size :: rest, locked := none }) rfl d4' _ hsteps
end Ends
section Bodies
variable {l : Launch}
theorem vx_ofW {y : MethodName} {ws ws' : List Cond} {rm : Room} {Pc : Array Value → State → Prop} {Qc : Array Value → State → Outcome → State → Prop} {XC : String → State → State → Prop} {mc ms : Nat} {free : Addr → Prop} {cc : ByteArray} {maxL : Nat} {ret : Option FieldType}
    (hy : plainName y.cls = true) (hw : ws = Cond.code y cc maxL ret :: ws')
    (body : ∀ p e s m args below meth c s₁, BodyLoose p l y (headSpec ws rm) cc maxL ret e s m args below meth c s₁ → c.maxLocals = maxL → (∀ x ∈ c.exceptionTable.toList, False) → Pc args s →
      W p l e (headSpec ws rm).room s m args below meth c s.heap [] 0 0 (vx_MQ below Qc XC args s mc ms free) (entryFrame m args maxL)) : vx_Met l y ws rm Pc Qc XC mc ms free := by
  refine MetFree.of_bodyS (code := cc) (maxLocals := maxL) (ret := ret) hy ?_ ?_
  · intro args s m h hn
    obtain ⟨meth, c, h1, h2, h3, h4, h5, h6, -, -⟩ := Cond.code_spec hn (atoms_spec (ws := ws) h _ (by rw [hw]; exact List.mem_cons_self))
    exact ⟨meth, c, h1, h2, h3, h4, h5, h6⟩
  · intro p e s m args below meth c s₁ B hml hP _
    have hh0 : s₁.heap = s.heap := by rw [B.state]; rfl
    have ht : ∀ x ∈ c.exceptionTable.toList, False := by
      obtain ⟨meth9, c9, h1, h2, -, -, -, -, h7, -⟩ := Cond.code_spec B.named (atoms_spec (ws := ws) B.pre _ (by rw [hw]; exact List.mem_cons_self))
      cases Option.some.inj (h1.symm.trans B.method)
      cases Option.some.inj (h2.symm.trans (Stand.of_body B).code)
      intro x hx
      rw [Array.isEmpty_iff.mp h7] at hx
      cases hx
    obtain ⟨t, a1, o, b1, b2, b3⟩ := body p e s m args below meth c s₁ B hml ht hP s₁ hh0 (Stand.of_body B)
    exact ⟨t, o, a1, b1, b2, b3⟩
/-- the table of a body with handlers -/
theorem vx_table {p : Program} {x y : MethodName} {S : Spec} {cc bytes : ByteArray} {maxL maxL' : Nat} {ret ret' : Option FieldType} {e : Env} {s s₁ : State} {m : MethodId} {args : Array Value} {below : List Frame} {meth : Method} {c : Code} {hh : List (Nat × Nat × Nat × Nat)}
    (B : BodyLoose p l y S cc maxL ret e s m args below meth c s₁) (h : (Cond.codeWith y bytes maxL' ret' hh).before args s = true) : c.exceptionTable.toList = tableOf hh := by
  obtain ⟨m9, meth9, c9, hn9, h1, h2, -, -, h6, -⟩ := Cond.codeWith_spec h
  cases Option.some.inj (hn9.symm.trans B.named)
  cases Option.some.inj (h1.symm.trans B.method)
  cases Option.some.inj (h2.symm.trans (Stand.of_body B).code)
  rw [← h6, table_eq]
end Bodies
end VXA
/-! ===== END ===== -/
/-! ===== BEGIN a static call of a method with an exception table ===== -/
section VXS
variable {p : Program} {l : Launch} {e : Env} {R : Room} {s : State} {m : MethodId} {args : Array Value} {below : List Frame} {meth : Method} {c : Code} {T : State} {H : Heap} {locs : List Loc} {cells slots : Nat}
abbrev vx_CSW (R : Room) (s : State) (args : Array Value) (own : String) (index : Nat) (y : MethodName) (bytes : ByteArray) (maxL : Nat) (ret : Option FieldType) (hh : List (Nat × Nat × Nat × Nat)) (ws : List Cond) (rm : Room) (mc ms n : Nat) : Prop :=
  (rm.cells = mc ∧ rm.slots = ms ∧ rm.frames + 1 ≤ R.frames ∧ 8 + (maxL + 11) + rm.locals ≤ R.locals ∧ (∀ w ∈ ws, ∀ (a' : Array Value) (U : State), s.WarmedH U.vm → w.before a' U = true) ∧ Cond.codeWith y bytes maxL ret hh ∈ ws) ∧
  (Cond.codeWith y bytes maxL ret hh).before args s = true ∧ (Cond.initialized y.cls).before args s = true ∧ (y.cls ≠ "java/lang/invoke/MethodHandle" ∧ y.cls ≠ "java/lang/invoke/VarHandle") ∧
  (∀ sig, parseMethodDescriptor y.desc = some sig → n = sig.parameters.length) ∧ (Cond.methodLink own index y).before args s = true ∧ (Cond.static y).before args s = true
theorem vx_cwSW {own : String} {index maxL mc ms : Nat} {y : MethodName} {bytes : ByteArray} {ret : Option FieldType} {hh : List (Nat × Nat × Nat × Nat)} {Ts ws ws' : List Cond} {rm : Room} (n : Nat) (ht : ∀ w ∈ Ts, w.before args s = true) (hT : GoodIn Ts (va_wsS own index y ws)) (hw : ws = Cond.codeWith y bytes maxL ret hh :: ws') (hrc : rm.cells = mc) (hrs : rm.slots = ms)
    (hd : y.cls ≠ "java/lang/invoke/MethodHandle" ∧ y.cls ≠ "java/lang/invoke/VarHandle" ∧ (parseMethodDescriptor y.desc).map (fun d => d.parameters.length) = some n) (hR : rm.frames + 1 ≤ R.frames ∧ 8 + (maxL + 11) + rm.locals ≤ R.locals) :
    vx_CSW R s args own index y bytes maxL ret hh ws rm mc ms n := by
  have ok : ∀ w ∈ va_wsS own index y ws, w.before args s = true := fun w h => ht w (hT w h).1
  have hG : GoodIn Ts ws := fun w h => hT w (by unfold va_wsS; exact List.mem_append_right _ h)
  have hc : Cond.codeWith y bytes maxL ret hh ∈ ws := by rw [hw]; exact List.mem_cons_self
  refine ⟨⟨hrc, hrs, hR.1, hR.2, pay_in ht hG, hc⟩, ht _ (hG _ hc).1, ok _ (by simp [va_wsS]), ⟨hd.1, hd.2.1⟩, fun sig h => ?_, ok _ (by simp [va_wsS]), ok _ (by simp [va_wsS])⟩
  have h2 := hd.2.2
  rw [h] at h2
  exact (Option.some.inj h2).symm
theorem vx_callSW (X : Stand p l e R s m args below meth c T locs cells slots) (hexec : p.tables.exec = Jvm.exec) {own : String} {index : Nat} {y : MethodName} {bytes : ByteArray} {maxL : Nat} {ret : Option FieldType} {hh : List (Nat × Nat × Nat × Nat)}
    (hown : s.vm.findClass own = some m.cls) (hlink : (Cond.methodLink own index y).before args s = true) (hstat : (Cond.static y).before args s = true) (hinit : (Cond.initialized y.cls).before args s = true)
    (hcode : (Cond.codeWith y bytes maxL ret hh).before args s = true) (hy : y.cls ≠ "java/lang/invoke/MethodHandle" ∧ y.cls ≠ "java/lang/invoke/VarHandle")
    {W9 : Nat} {Pre : Pt → Array Value → Prop} {Post : Pt → Array Value → Option Value → Pt → Prop} (hK : Back l R p e below s args y 3 W9 Pre Post)
    {g : JFrame} (hg : g.method = m) (hsize : g.locals.size = c.maxLocals) {argsL rest : List Value} (hlen : ∀ sig, parseMethodDescriptor y.desc = some sig → argsL.length = sig.parameters.length)
    (hstack : g.stack = argsL.reverse ++ rest) (hW : 2 * g.monitorRoom + (rest.map fun v => v.category).sum ≤ W9) (hdg : decode c.code g.pc = .ok (.invokestatic index, 3))
    (hpre : ∀ vm₁, s.WarmedH vm₁ → Pre ⟨T.setVm vm₁, locs, cells, slots⟩ argsL.toArray) :
    ∃ (v : Option Value) (vm₁ : Vm) (B : Pt), s.WarmedH vm₁ ∧ Stand p l e R s m args below meth c B.U B.locs B.cells B.slots ∧ Post ⟨T.setVm vm₁, locs, cells, slots⟩ argsL.toArray v B ∧
      ∀ target, Steps p.tables e below (B.U.setTop { g with pc := g.pc + 3, stack := v.toList ++ rest }) target → Steps p.tables e below (T.setTop g) target := by
  obtain ⟨mk, methM, cM, hnamed, hmethM, -, -, -, -, -, -, hsigM⟩ := Cond.codeWith_spec hcode
  have hstatic : methM.isStatic = true := Cond.static_spec hnamed hmethM hstat
  obtain ⟨kP, hkP, -⟩ := className_of_methodNamed hnamed
  have hinitP : kP.init = .initialized := Cond.initialized_spec (findClass_of_methodNamed hnamed) hkP hinit
  obtain ⟨vm₁, X₁, hstep₁⟩ := X.invokestatic hexec hown hlink hnamed hmethM hstatic hkP hinitP hy (g := g) hg (argsL := argsL) (rest := rest) (hlen _ hsigM) hstack hdg
  obtain ⟨v, B, X', hpost, hsteps⟩ := hK m meth c ⟨T.setVm vm₁, locs, cells, slots⟩ { g with stack := rest } (.invokestatic index) mk argsL.toArray X₁ hg hsize hdg hW (X₁.named hnamed) (hpre vm₁ X₁.warmed)
  exact ⟨v, vm₁, B, X₁.warmed, X', hpost, fun target h => hstep₁ _ fun acts => by rw [doInvoke_state]; exact hsteps.trans h⟩
theorem vx_runSW {y : MethodName} {bytes cc : ByteArray} {maxL nL mc ms n index : Nat} {ret : Option FieldType} {hh : List (Nat × Nat × Nat × Nat)} {ws : List Cond} {rm : Room} {Pc : Array Value → State → Prop} {Qc : Array Value → State → Outcome → State → Prop} {free : Addr → Prop} {Ts : List Cond} {own : String} {As rest : List Value} {g : JFrame}
    (S : CallFix p m c cc nL s args Ts own) (hM : Met l y ws rm Pc Qc mc ms free) (cw : vx_CSW R s args own index y bytes maxL ret hh ws rm mc ms n) (hp : PreS s H Pc As)
    (hg : g.method = m) (hn : As.length = n) (hsize : g.locals.size = nL) (hstack : g.stack = As.reverse ++ rest) (hW : 2 * g.monitorRoom + (rest.map fun v => v.category).sum ≤ 8) (hdg : decode cc g.pc = .ok (.invokestatic index, 3)) (hf : cells + mc ≤ R.cells ∧ slots + ms ≤ R.slots) :
    va_Run p l e R s m args below meth c H locs cells slots mc ms g rest (Qc As.toArray) (free) := by
  obtain ⟨⟨hrc, hrs, hfr, hlo, hws, hcw⟩, hcode, hini, hy, hlen, hl, hstt⟩ := cw
  have hK : Back l R p e below s args y 3 8 (PreOf R mc ms Pc) (PostOf Qc mc ms free) := va_backW (hh := hh) (bytes := bytes) (maxL := maxL) (ret := ret) hM hp.1 hrc hrs hfr hlo hws hcw (fun a' U hW => word_at hW (Or.inl (by first | rfl | simp [Cond.onTables, Cond.keeps, Cond.steady])) hini)
  obtain ⟨hx, hb, hml, ho, -⟩ := S
  intro T hT X
  obtain ⟨v, vm₁, ⟨U', l2, c2, s2⟩, hW₁, X', ⟨g', mk, t, L, e1, e2, hq, h1, hL, h2, h3⟩, st⟩ := vx_callSW X hx (hh := hh) (bytes := bytes) (maxL := maxL) (ret := ret) ho hl hstt hini hcode hy hK hg (hsize.trans hml.symm) (argsL := As) (rest := rest) (fun sig h => hn.trans (hlen sig h)) hstack hW (by rw [hb]; exact hdg)
    (fun vm₁ hW₁ => ⟨hf.1, hf.2, hp.2 (T.setVm vm₁) hT hW₁⟩)
  dsimp only [Pt.U, Pt.locs, Pt.cells, Pt.slots] at X' e1 e2 h1 h2 h3 st
  subst h1; subst h2; subst h3
  exact ⟨v, (T.setVm vm₁).calling g' mk As.toArray, t, U', L, hT, X', hL, e1, e2, hq, st⟩
/-- not caught here, past rows that name other classes: it goes on to the caller -/
theorem vx_outP {p : Program} {l : Launch} {e : Env} {R : Room} {s : State} {m : MethodId} {args : Array Value} {below : List Frame} {meth : Method} {c : Code} {H : Heap} {locs : List Loc} {cells slots : Nat} {free : Addr → Prop} {ls : Array Slot} {rest : List Value} {Qc : Array Value → State → Outcome → State → Prop} {XC : String → State → State → Prop}
    {pc : Nat} {own E : String} {ce : Cell} {q : Addr} {mc ms : Nat} (hown : s.vm.findClass own = some m.cls) (hlocks : meth.locks = false)
    (hpass : ∀ z ∈ c.exceptionTable.toList, covers z pc = false ∨ (z.catchType ≠ 0 ∧ ∃ nm : String, (Cond.classLink own z.catchType nm).before args s = true ∧ va_Nc E nm s)) (hcell : H[q]? = some ce) (hv : ce.vm = .none) (hcl : s.vm.findClass E = some ce.cls)
    (hx : ∀ t : State, t.heap = H → s.vm.Alike t.vm → XC E s t) (hf : ∀ z ∈ locs, free z.base) (hc : cells ≤ mc) (hs : slots ≤ ms) :
    vx_W p l e R s m args below meth c H locs cells slots (vx_MQ below Qc XC args s mc ms free) (F0 m pc ls rest) q := by
  intro T hT X
  have hpl : e.platform.magicAccessors = ({} : Platform).magicAccessors := by rw [X.admits.platform]
  obtain ⟨vm', hW', X', st⟩ := X.outThrough hlocks q (g := F0 m pc ls rest) rfl rfl rfl (cell := ce) (by rw [hT]; exact hcell) (by rw [hv]; rfl)
    (by obtain ⟨k9, h9, -⟩ := Vm.findClass_spec hcl; exact ⟨k9, h9⟩) (fun z hz => by
      rcases hpass z hz with h | ⟨hz0, nm, hl1, hn1⟩
      · exact Or.inl h
      · obtain ⟨c6, hc6, hcl6⟩ := Cond.classLink_spec hown hl1 e.platform hpl
        obtain ⟨a8, b8, h1, h2, h3⟩ := hn1
        cases Option.some.inj (h1.symm.trans hcl)
        cases Option.some.inj (h2.symm.trans hc6)
        exact Or.inr ⟨hz0, _, hcl6, h3⟩)
  obtain ⟨g₀, hfr⟩ := X'.frames_eq
  have hcell9 : ((T.setVm vm').setFrames (.throwing q :: below)).heap[q]? = some ce := by
    show T.heap[q]? = some ce
    rw [hT]; exact hcell
  have hend : Ended ((T.setVm vm').setFrames (.throwing q :: below)) below (.threw q) := State.frames_setFrames _ (State.cur_lt_of_frames hfr)
  refine ⟨(T.setVm vm').setFrames (.throwing q :: below), ?_, .threw q, X'.here.running, hend, Or.inr ⟨q, rfl, E, ce, locs, hx _ hT (X'.ends _).1.alike, hcell9, hv, hcl, (X'.ends _).1, (X'.ends _).2.mono hc hs, hf⟩⟩
  rw [X.pushThrowing_eq]
  exact st
/-- a thing of a world lies in the heap -/
theorem vx_lt {D : va_G} {cl : List vw_C} {ws : va_W} {H1 : Heap} (h : va_P D cl ws H1) {k : Nat} {q : Nat × va_E} (hk : ws[k]? = some q) : q.1 < H1.size := (h k q hk).lt
end VXS
/-! ===== END ===== -/
/-! ===== BEGIN methods with a table of their own: called by a name, returning or throwing ===== -/
section VXH
/-! vx_backW, vx_callVX, vx_callSX, vx_callVW, vx_runVW, vx_runVX, vx_runSX, vx_ofWH follow the same proofs as their sisters above (Free/Laws.lean, Shelf42/LK1.lean); vx_outP calls Shelf42/NT130.lean (outThrough). -/
section
variable {l : Launch} {R : Room} {p : Program} {e : Env} {below : List Frame} {s : State} {sargs : Array Value} {y : MethodName} {len W9 : Nat}
theorem vx_backW {ws : List Cond} {rm : Room} {Pc : Array Value → State → Prop} {Qc : Array Value → State → Outcome → State → Prop} {XC : String → State → State → Prop} {mc ms : Nat} {free : Addr → Prop} {bytes : ByteArray} {maxL : Nat} {ret : Option FieldType} {hh : List (Nat × Nat × Nat × Nat)}
    (hM : vx_Met l y ws rm Pc Qc XC mc ms free) (hblind : FrameBlind Pc) (hrc : rm.cells = mc) (hrs : rm.slots = ms)
    (hframes : rm.frames + 1 ≤ R.frames) (hlocals : W9 + (maxL + 11) + rm.locals ≤ R.locals)
    (hws : ∀ w ∈ ws, ∀ a' U, s.WarmedH U.vm → w.before a' U = true) (hcode : Cond.codeWith y bytes maxL ret hh ∈ ws) (hinit : ∀ a' U, s.WarmedH U.vm → (Cond.initialized y.cls).before a' U = true) :
    vx_Back l R p e below s sargs y len W9 (PreOf R mc ms Pc) (PostOf Qc mc ms free) (vx_Post XC mc ms free) := by
  intro m meth c A g ig mk a X hg hsize hdg hW hn hp
  have h1 : (headSpec ws rm).pre.before a A.U = true := atoms_intro fun w hw => hws w hw _ _ X.warmed
  have h2 : (Cond.codeWith y bytes maxL ret hh).before a A.U = true := hws _ hcode _ _ X.warmed
  have h3 : (Cond.initialized y.cls).before a A.U = true := hinit _ _ X.warmed
  have h4 : A.cells + (headSpec ws rm).room.cells ≤ R.cells := by rw [show (headSpec ws rm).room.cells = mc from hrc]; exact hp.1
  have h5 : A.slots + (headSpec ws rm).room.slots ≤ R.slots := by rw [show (headSpec ws rm).room.slots = ms from hrs]; exact hp.2.1
  have hPc : Pc a (A.U.calling g mk a) := hblind _ _ _ _ hp.2.2
  obtain ⟨U, Ls, c0, s0⟩ := A
  dsimp only [Pt.U, Pt.locs, Pt.cells, Pt.slots] at h1 h2 h3 h4 h5 X hn hPc ⊢
  obtain ⟨m9, methY, cY, hn9, hmY, hcY, -, hlY, -⟩ := Cond.codeWith_spec h2
  cases Option.some.inj (hn9.symm.trans hn)
  obtain ⟨kY, hkY, -⟩ := className_of_methodNamed hn
  have hinitY : kY.init = .initialized := Cond.initialized_spec (findClass_of_methodNamed hn) hkY h3
  have h : At U g.method c below := by rw [hg]; exact X.here
  have hlocals9 : W9 + (maxL + 11) + (headSpec ws rm).room.locals ≤ R.locals := hlocals
  have happ : (headSpec ws rm).appliesLoose y e.platform (U.calling g mk a) = true :=
    Spec.appliesLoose_calling (g := g) h hdg hn hkY hinitY
      (X.room_calling (g := g) (R' := (headSpec ws rm).room) hsize hmY hcY hframes (by rw [hlY]; omega) h4 h5) h1
  obtain ⟨mid, hmid⟩ := h.above
  have hfr : (U.setTop g).frames = (.java g :: mid) ++ below := by rw [State.frames_setTop' g h.top, hmid]; rfl
  obtain ⟨o, s₂, hsteps, -, hend, hq⟩ := Steps.callFree hM p X.admits X.cas X.clock (acts := []) hfr happ hPc trivial
  have hq' : vx_Q Qc XC mc ms free a (U.calling g mk a) o s₂ := hq
  rw [State.frames_setTop' g h.top] at hend
  obtain ⟨g₀, hg0⟩ := Option.isSome_iff_exists.mp h.top
  obtain ⟨r, hr⟩ := State.topJava?_eq_some.mp hg0
  have hr' : (({ U with heap := s₂.heap, slotsUsed := s₂.slotsUsed } : State).setVm s₂.vm).frames = .java g₀ :: r := hr
  rcases hq' with ⟨hqc, L, hfe, hL⟩ | ⟨q, rfl, E, ce, L, hx, hce, hcv, hcl, hW₂, hsm, hL⟩
  · obtain ⟨⟨v, rfl⟩, hW₂, e2, q2, q3, q4, q5, q6⟩ := id hfe
    have e3 : s₂ = ({ (U.calling g mk a).setFrames s₂.frames with heap := s₂.heap, slotsUsed := s₂.slotsUsed } : State).setVm s₂.vm := by
      have : s₂ = ({ s₂ with vm := (U.calling g mk a).vm } : State).setVm s₂.vm := rfl
      rw [e2] at this
      exact this
    obtain ⟨c₂, i₂, len₂, hc₂, hd₂, hf₂⟩ := hend
    have hW' : U.WarmedH s₂.vm := hW₂
    have hcc : c₂ = c := by
      have h1 : s₂.code? g.method = U.code? g.method := by
        rw [State.code?_eq, State.code?_eq, hW'.alike.method?]
      exact Option.some.inj (hc₂.symm.trans (h1.trans h.code))
    subst hcc
    have hlen : len₂ = len := by rw [hdg] at hd₂; cases hd₂; rfl
    subst hlen
    have hs₂ : s₂ = (({ U with heap := s₂.heap, slotsUsed := s₂.slotsUsed } : State).setVm s₂.vm).setTop { g with pc := g.pc + len₂, stack := v.toList ++ g.stack } := by
      refine e3.trans ?_
      rw [hf₂, State.calling_eq h.top, State.setFrames_setFrames, State.setTop_of_frames _ hr', hr]
      rfl
    have hsame : U.sameButNew ({ U with heap := s₂.heap, slotsUsed := s₂.slotsUsed } : State) L mc ms := by
      refine ⟨?_, q2, q3, q4, q5, q6⟩
      obtain ⟨t, ht, -⟩ := State.frames_cons hr
      show ({ U with heap := s₂.heap, slotsUsed := s₂.slotsUsed } : State) = { U.setFrames U.frames with heap := s₂.heap, slotsUsed := s₂.slotsUsed }
      rw [State.setFrames_self ht]
    subst hg
    refine Or.inl ⟨v, ⟨(({ U with heap := s₂.heap, slotsUsed := s₂.slotsUsed } : State).setVm s₂.vm), Ls ++ L, c0 + mc, s0 + ms⟩,
      ⟨X.admits, X.cas, X.clock, X.frames, X.room, X.hears, X.method, X.code, (X.here.setHeapUsed s₂.heap s₂.slotsUsed).setVm hW'.alike, X.tail, State.WarmedH.trans X.warmed hW', X.limits, X.bytes, X.same.trans (hsame.setVm s.vm)⟩,
      ⟨g, mk, s₂, L, rfl, rfl, hqc, rfl, hL, rfl, rfl⟩, ?_⟩
    show Steps p.tables e below _ ((({ U with heap := s₂.heap, slotsUsed := s₂.slotsUsed } : State).setVm s₂.vm).setTop { g with pc := g.pc + len₂, stack := v.toList ++ g.stack })
    rw [← hs₂]
    exact hsteps
  · obtain ⟨e2, q2, q3, q4, q5, q6⟩ := id hsm
    have e3 : s₂ = ({ (U.calling g mk a).setFrames s₂.frames with heap := s₂.heap, slotsUsed := s₂.slotsUsed } : State).setVm s₂.vm := by
      have : s₂ = ({ s₂ with vm := (U.calling g mk a).vm } : State).setVm s₂.vm := rfl
      rw [e2] at this
      exact this
    have hf₂ : s₂.frames = .throwing q :: .java g :: U.frames.tail := hend
    have hW' : U.WarmedH s₂.vm := hW₂
    have hs₂ : s₂ = ((({ U with heap := s₂.heap, slotsUsed := s₂.slotsUsed } : State).setVm s₂.vm).setTop g).pushFrame (.throwing q) := by
      refine e3.trans ?_
      rw [hf₂, State.calling_eq h.top, State.setFrames_setFrames, State.pushFrame, State.frames_setTop _ hr', State.setTop_of_frames _ hr', State.setFrames_setFrames, hr]
      rfl
    have hsame : U.sameButNew ({ U with heap := s₂.heap, slotsUsed := s₂.slotsUsed } : State) L mc ms := by
      refine ⟨?_, q2, q3, q4, q5, q6⟩
      obtain ⟨t, ht, -⟩ := State.frames_cons hr
      show ({ U with heap := s₂.heap, slotsUsed := s₂.slotsUsed } : State) = { U.setFrames U.frames with heap := s₂.heap, slotsUsed := s₂.slotsUsed }
      rw [State.setFrames_self ht]
    subst hg
    refine Or.inr ⟨q, ⟨(({ U with heap := s₂.heap, slotsUsed := s₂.slotsUsed } : State).setVm s₂.vm), Ls ++ L, c0 + mc, s0 + ms⟩,
      ⟨X.admits, X.cas, X.clock, X.frames, X.room, X.hears, X.method, X.code, (X.here.setHeapUsed s₂.heap s₂.slotsUsed).setVm hW'.alike, X.tail, State.WarmedH.trans X.warmed hW', X.limits, X.bytes, X.same.trans (hsame.setVm s.vm)⟩,
      ⟨g, mk, s₂, L, E, ce, rfl, rfl, hx, hce, hcv, hcl, rfl, hL, rfl, rfl⟩, ?_⟩
    show Steps p.tables e below _ (((({ U with heap := s₂.heap, slotsUsed := s₂.slotsUsed } : State).setVm s₂.vm).setTop g).pushFrame (.throwing q))
    rw [← hs₂]
    exact hsteps
end
variable {p : Program} {l : Launch} {e : Env} {R : Room} {s : State} {m : MethodId} {args : Array Value} {below : List Frame} {meth : Method} {c : Code} {T : State} {H : Heap} {locs : List Loc} {cells slots : Nat}
theorem vx_callVX (X : Stand p l e R s m args below meth c T locs cells slots) (hexec : p.tables.exec = Jvm.exec) {own C : String} {index : Nat} {y : MethodName} {bytes : ByteArray} {maxL : Nat} {ret : Option FieldType} {hh : List (Nat × Nat × Nat × Nat)}
    (hown : s.vm.findClass own = some m.cls) (hlink : (Cond.methodLink own index y).before args s = true) (hinst : (Cond.instanceMethod y).before args s = true) (hsel : (Cond.selects C y y).before args s = true)
    (hcode : (Cond.codeWith y bytes maxL ret hh).before args s = true) (hy : y.cls ≠ "java/lang/invoke/MethodHandle" ∧ y.cls ≠ "java/lang/invoke/VarHandle")
    {W9 : Nat} {Pre : Pt → Array Value → Prop} {Post : Pt → Array Value → Option Value → Pt → Prop} {PostX : Pt → Array Value → Addr → Pt → Prop} (hK : vx_Back l R p e below s args y 3 W9 Pre Post PostX)
    {b : Addr} {cellB : Cell} (hcell : T.heap[b]? = some cellB) (hobj : cellB.vm.isStatics = false) (hcls : s.vm.findClass C = some cellB.cls)
    {g : JFrame} (hg : g.method = m) (hsize : g.locals.size = c.maxLocals) {argsL rest : List Value} (hlen : ∀ sig, parseMethodDescriptor y.desc = some sig → argsL.length = sig.parameters.length)
    (hstack : g.stack = argsL.reverse ++ .ref b :: rest) (hW : 2 * g.monitorRoom + (rest.map fun v => v.category).sum ≤ W9) (hdg : decode c.code g.pc = .ok (.invokevirtual index, 3))
    (hpre : ∀ vm₁, s.WarmedH vm₁ → Pre ⟨T.setVm vm₁, locs, cells, slots⟩ (Value.ref b :: argsL).toArray) :
    (∃ (v : Option Value) (vm₁ : Vm) (B : Pt), s.WarmedH vm₁ ∧ Stand p l e R s m args below meth c B.U B.locs B.cells B.slots ∧ Post ⟨T.setVm vm₁, locs, cells, slots⟩ (Value.ref b :: argsL).toArray v B ∧
      ∀ target, Steps p.tables e below (B.U.setTop { g with pc := g.pc + 3, stack := v.toList ++ rest }) target → Steps p.tables e below (T.setTop g) target) ∨
    (∃ (q : Addr) (vm₁ : Vm) (B : Pt), s.WarmedH vm₁ ∧ Stand p l e R s m args below meth c B.U B.locs B.cells B.slots ∧ PostX ⟨T.setVm vm₁, locs, cells, slots⟩ (Value.ref b :: argsL).toArray q B ∧
      Steps p.tables e below (T.setTop g) ((B.U.setTop { g with stack := rest }).pushFrame (.throwing q))) := by
  obtain ⟨mk, methM, hnamed, hmethM, hstM, habM⟩ := Cond.instanceMethod_spec hinst
  obtain ⟨m8, methM', cM, hn8, hmethM', -, -, -, -, -, -, hsigM⟩ := Cond.codeWith_spec hcode
  cases Option.some.inj (hn8.symm.trans hnamed)
  cases hmethM.symm.trans hmethM'
  obtain ⟨c2, r2, m2, q1, q2, q3, q4, kP, hkP, hkPi⟩ := Cond.selects_spec hsel
  cases hcls.symm.trans q1
  cases (State.methodFound?_of_named hnamed hy).symm.trans q2
  cases hnamed.symm.trans q3
  have hselP : selectMethod e.platform s.vm cellB.cls mk = .method mk := by rw [Launch.admits_selectMethod X.admits]; exact q4
  obtain ⟨vm₁, X₁, hstep₁⟩ := X.invokevirtual hexec hown hlink hnamed hmethM hstM hkP hkPi hy (a := b) (cell := cellB) hcell
    (fun z h => by rw [h] at hobj; cases hobj) hselP hmethM habM hkP hkPi (g := g) hg (argsL := argsL) (rest := rest) (hlen _ hsigM) hstack hdg
  rcases hK m meth c ⟨T.setVm vm₁, locs, cells, slots⟩ { g with stack := rest } (.invokevirtual index) mk (Value.ref b :: argsL).toArray X₁ hg hsize hdg hW (X₁.named hnamed) (hpre vm₁ X₁.warmed) with ⟨v, B, X', hpost, hsteps⟩ | ⟨q, B, X', hpost, hsteps⟩
  · exact Or.inl ⟨v, vm₁, B, X₁.warmed, X', hpost, fun target h => hstep₁ _ fun acts => by rw [doInvoke_state]; exact hsteps.trans h⟩
  · exact Or.inr ⟨q, vm₁, B, X₁.warmed, X', hpost, hstep₁ _ fun acts => by rw [doInvoke_state]; exact hsteps⟩
theorem vx_callSX (X : Stand p l e R s m args below meth c T locs cells slots) (hexec : p.tables.exec = Jvm.exec) {own : String} {index : Nat} {y : MethodName} {bytes : ByteArray} {maxL : Nat} {ret : Option FieldType} {hh : List (Nat × Nat × Nat × Nat)}
    (hown : s.vm.findClass own = some m.cls) (hlink : (Cond.methodLink own index y).before args s = true) (hstat : (Cond.static y).before args s = true) (hinit : (Cond.initialized y.cls).before args s = true)
    (hcode : (Cond.codeWith y bytes maxL ret hh).before args s = true) (hy : y.cls ≠ "java/lang/invoke/MethodHandle" ∧ y.cls ≠ "java/lang/invoke/VarHandle")
    {W9 : Nat} {Pre : Pt → Array Value → Prop} {Post : Pt → Array Value → Option Value → Pt → Prop} {PostX : Pt → Array Value → Addr → Pt → Prop} (hK : vx_Back l R p e below s args y 3 W9 Pre Post PostX)
    {g : JFrame} (hg : g.method = m) (hsize : g.locals.size = c.maxLocals) {argsL rest : List Value} (hlen : ∀ sig, parseMethodDescriptor y.desc = some sig → argsL.length = sig.parameters.length)
    (hstack : g.stack = argsL.reverse ++ rest) (hW : 2 * g.monitorRoom + (rest.map fun v => v.category).sum ≤ W9) (hdg : decode c.code g.pc = .ok (.invokestatic index, 3))
    (hpre : ∀ vm₁, s.WarmedH vm₁ → Pre ⟨T.setVm vm₁, locs, cells, slots⟩ argsL.toArray) :
    (∃ (v : Option Value) (vm₁ : Vm) (B : Pt), s.WarmedH vm₁ ∧ Stand p l e R s m args below meth c B.U B.locs B.cells B.slots ∧ Post ⟨T.setVm vm₁, locs, cells, slots⟩ argsL.toArray v B ∧
      ∀ target, Steps p.tables e below (B.U.setTop { g with pc := g.pc + 3, stack := v.toList ++ rest }) target → Steps p.tables e below (T.setTop g) target) ∨
    (∃ (q : Addr) (vm₁ : Vm) (B : Pt), s.WarmedH vm₁ ∧ Stand p l e R s m args below meth c B.U B.locs B.cells B.slots ∧ PostX ⟨T.setVm vm₁, locs, cells, slots⟩ argsL.toArray q B ∧
      Steps p.tables e below (T.setTop g) ((B.U.setTop { g with stack := rest }).pushFrame (.throwing q))) := by
  obtain ⟨mk, methM, cM, hnamed, hmethM, -, -, -, -, -, -, hsigM⟩ := Cond.codeWith_spec hcode
  have hstatic : methM.isStatic = true := Cond.static_spec hnamed hmethM hstat
  obtain ⟨kP, hkP, -⟩ := className_of_methodNamed hnamed
  have hinitP : kP.init = .initialized := Cond.initialized_spec (findClass_of_methodNamed hnamed) hkP hinit
  obtain ⟨vm₁, X₁, hstep₁⟩ := X.invokestatic hexec hown hlink hnamed hmethM hstatic hkP hinitP hy (g := g) hg (argsL := argsL) (rest := rest) (hlen _ hsigM) hstack hdg
  rcases hK m meth c ⟨T.setVm vm₁, locs, cells, slots⟩ { g with stack := rest } (.invokestatic index) mk argsL.toArray X₁ hg hsize hdg hW (X₁.named hnamed) (hpre vm₁ X₁.warmed) with ⟨v, B, X', hpost, hsteps⟩ | ⟨q, B, X', hpost, hsteps⟩
  · exact Or.inl ⟨v, vm₁, B, X₁.warmed, X', hpost, fun target h => hstep₁ _ fun acts => by rw [doInvoke_state]; exact hsteps.trans h⟩
  · exact Or.inr ⟨q, vm₁, B, X₁.warmed, X', hpost, hstep₁ _ fun acts => by rw [doInvoke_state]; exact hsteps⟩
theorem vx_callVW (X : Stand p l e R s m args below meth c T locs cells slots) (hexec : p.tables.exec = Jvm.exec) {own C : String} {index : Nat} {y : MethodName} {bytes : ByteArray} {maxL : Nat} {ret : Option FieldType} {hh : List (Nat × Nat × Nat × Nat)}
    (hown : s.vm.findClass own = some m.cls) (hlink : (Cond.methodLink own index y).before args s = true) (hinst : (Cond.instanceMethod y).before args s = true) (hsel : (Cond.selects C y y).before args s = true)
    (hcode : (Cond.codeWith y bytes maxL ret hh).before args s = true) (hy : y.cls ≠ "java/lang/invoke/MethodHandle" ∧ y.cls ≠ "java/lang/invoke/VarHandle")
    {W9 : Nat} {Pre : Pt → Array Value → Prop} {Post : Pt → Array Value → Option Value → Pt → Prop} (hK : Back l R p e below s args y 3 W9 Pre Post)
    {b : Addr} {cellB : Cell} (hcell : T.heap[b]? = some cellB) (hobj : cellB.vm.isStatics = false) (hcls : s.vm.findClass C = some cellB.cls)
    {g : JFrame} (hg : g.method = m) (hsize : g.locals.size = c.maxLocals) {argsL rest : List Value} (hlen : ∀ sig, parseMethodDescriptor y.desc = some sig → argsL.length = sig.parameters.length)
    (hstack : g.stack = argsL.reverse ++ .ref b :: rest) (hW : 2 * g.monitorRoom + (rest.map fun v => v.category).sum ≤ W9) (hdg : decode c.code g.pc = .ok (.invokevirtual index, 3))
    (hpre : ∀ vm₁, s.WarmedH vm₁ → Pre ⟨T.setVm vm₁, locs, cells, slots⟩ (Value.ref b :: argsL).toArray) :
    ∃ (v : Option Value) (vm₁ : Vm) (B : Pt), s.WarmedH vm₁ ∧ Stand p l e R s m args below meth c B.U B.locs B.cells B.slots ∧ Post ⟨T.setVm vm₁, locs, cells, slots⟩ (Value.ref b :: argsL).toArray v B ∧
      ∀ target, Steps p.tables e below (B.U.setTop { g with pc := g.pc + 3, stack := v.toList ++ rest }) target → Steps p.tables e below (T.setTop g) target := by
  obtain ⟨mk, methM, hnamed, hmethM, hstM, habM⟩ := Cond.instanceMethod_spec hinst
  obtain ⟨m8, methM', cM, hn8, hmethM', -, -, -, -, -, -, hsigM⟩ := Cond.codeWith_spec hcode
  cases Option.some.inj (hn8.symm.trans hnamed)
  cases hmethM.symm.trans hmethM'
  obtain ⟨c2, r2, m2, q1, q2, q3, q4, kP, hkP, hkPi⟩ := Cond.selects_spec hsel
  cases hcls.symm.trans q1
  cases (State.methodFound?_of_named hnamed hy).symm.trans q2
  cases hnamed.symm.trans q3
  have hselP : selectMethod e.platform s.vm cellB.cls mk = .method mk := by rw [Launch.admits_selectMethod X.admits]; exact q4
  obtain ⟨vm₁, X₁, hstep₁⟩ := X.invokevirtual hexec hown hlink hnamed hmethM hstM hkP hkPi hy (a := b) (cell := cellB) hcell
    (fun z h => by rw [h] at hobj; cases hobj) hselP hmethM habM hkP hkPi (g := g) hg (argsL := argsL) (rest := rest) (hlen _ hsigM) hstack hdg
  obtain ⟨v, B, X', hpost, hsteps⟩ := hK m meth c ⟨T.setVm vm₁, locs, cells, slots⟩ { g with stack := rest } (.invokevirtual index) mk (Value.ref b :: argsL).toArray X₁ hg hsize hdg hW (X₁.named hnamed) (hpre vm₁ X₁.warmed)
  exact ⟨v, vm₁, B, X₁.warmed, X', hpost, fun target h => hstep₁ _ fun acts => by rw [doInvoke_state]; exact hsteps.trans h⟩
abbrev vx_CVW (R : Room) (s : State) (args : Array Value) (own C : String) (index : Nat) (y : MethodName) (bytes : ByteArray) (maxL : Nat) (ret : Option FieldType) (hh : List (Nat × Nat × Nat × Nat)) (ws : List Cond) (rm : Room) (mc ms n : Nat) : Prop :=
  (rm.cells = mc ∧ rm.slots = ms ∧ rm.frames + 1 ≤ R.frames ∧ 8 + (maxL + 11) + rm.locals ≤ R.locals ∧ (∀ w ∈ ws, ∀ (a' : Array Value) (U : State), s.WarmedH U.vm → w.before a' U = true) ∧ Cond.codeWith y bytes maxL ret hh ∈ ws) ∧
  (Cond.codeWith y bytes maxL ret hh).before args s = true ∧ (Cond.initialized y.cls).before args s = true ∧ (y.cls ≠ "java/lang/invoke/MethodHandle" ∧ y.cls ≠ "java/lang/invoke/VarHandle") ∧
  (∀ sig, parseMethodDescriptor y.desc = some sig → n = sig.parameters.length) ∧ (Cond.methodLink own index y).before args s = true ∧ (Cond.instanceMethod y).before args s = true ∧ (Cond.selects C y y).before args s = true
theorem vx_cwVW {own C : String} {index maxL mc ms : Nat} {y : MethodName} {bytes : ByteArray} {ret : Option FieldType} {hh : List (Nat × Nat × Nat × Nat)} {Ts ws ws' : List Cond} {rm : Room} (n : Nat) (ht : ∀ w ∈ Ts, w.before args s = true) (hT : GoodIn Ts (wsV own index C y ws)) (hw : ws = Cond.codeWith y bytes maxL ret hh :: ws') (hrc : rm.cells = mc) (hrs : rm.slots = ms)
    (hd : y.cls = C ∧ y.cls ≠ "java/lang/invoke/MethodHandle" ∧ y.cls ≠ "java/lang/invoke/VarHandle" ∧ (parseMethodDescriptor y.desc).map (fun d => d.parameters.length) = some n) (hR : rm.frames + 1 ≤ R.frames ∧ 8 + (maxL + 11) + rm.locals ≤ R.locals) :
    vx_CVW R s args own C index y bytes maxL ret hh ws rm mc ms n := by
  obtain ⟨hC, hd⟩ := hd
  subst hC
  have ok : ∀ w ∈ wsV own index y.cls y ws, w.before args s = true := fun w h => ht w (hT w h).1
  have hG : GoodIn Ts ws := fun w h => hT w (by unfold wsV; exact List.mem_append_right _ h)
  have hc : Cond.codeWith y bytes maxL ret hh ∈ ws := by rw [hw]; exact List.mem_cons_self
  refine ⟨⟨hrc, hrs, hR.1, hR.2, pay_in ht hG, hc⟩, ht _ (hG _ hc).1, ok _ (by simp [wsV]), ⟨hd.1, hd.2.1⟩, fun sig h => ?_, ok _ (by simp [wsV]), ok _ (by simp [wsV]), ok _ (by simp [wsV])⟩
  have h2 := hd.2.2
  rw [h] at h2
  exact (Option.some.inj h2).symm
theorem vx_runVW {y : MethodName} {bytes cc : ByteArray} {maxL nL mc ms n index : Nat} {ret : Option FieldType} {hh : List (Nat × Nat × Nat × Nat)} {ws : List Cond} {rm : Room} {Pc : Array Value → State → Prop} {Qc : Array Value → State → Outcome → State → Prop} {free : Addr → Prop} {Ts : List Cond} {own C : String} {b : Addr} {As rest : List Value} {g : JFrame}
    (S : CallFix p m c cc nL s args Ts own) (hM : Met l y ws rm Pc Qc mc ms free) (cw : vx_CVW R s args own C index y bytes maxL ret hh ws rm mc ms n) (hp : PreV s H C b Pc As)
    (hg : g.method = m) (hn : As.length = n) (hsize : g.locals.size = nL) (hstack : g.stack = As.reverse ++ .ref b :: rest) (hW : 2 * g.monitorRoom + (rest.map fun v => v.category).sum ≤ 8) (hdg : decode cc g.pc = .ok (.invokevirtual index, 3)) (hf : cells + mc ≤ R.cells ∧ slots + ms ≤ R.slots) :
    va_Run p l e R s m args below meth c H locs cells slots mc ms g rest (Qc (Value.ref b :: As).toArray) free := by
  obtain ⟨⟨hrc, hrs, hfr, hlo, hws, hcw⟩, hcode, hini, hy, hlen, hl, hin, hse⟩ := cw
  have hK : Back l R p e below s args y 3 8 (PreOf R mc ms Pc) (PostOf Qc mc ms free) := va_backW (hh := hh) (bytes := bytes) (maxL := maxL) (ret := ret) hM hp.1 hrc hrs hfr hlo hws hcw (fun a' U hW => word_at hW (Or.inl (by first | rfl | simp [Cond.onTables, Cond.keeps, Cond.steady])) hini)
  obtain ⟨hx, hb, hml, ho, -⟩ := S
  obtain ⟨-, ⟨cellB, hcB, hoB, hclB⟩, hPc⟩ := hp
  intro T hT X
  obtain ⟨v, vm₁, ⟨U', l2, c2, s2⟩, hW₁, X', ⟨g', mk, t, L, e1, e2, hq, h1, hL, h2, h3⟩, st⟩ := vx_callVW X hx (C := C) (hh := hh) (bytes := bytes) (maxL := maxL) (ret := ret) ho hl hin hse hcode hy hK (by rw [hT]; exact hcB) hoB hclB hg (hsize.trans hml.symm) (argsL := As) (rest := rest) (fun sig h => hn.trans (hlen sig h)) hstack hW (by rw [hb]; exact hdg)
    (fun vm₁ hW₁ => ⟨hf.1, hf.2, hPc (T.setVm vm₁) hT hW₁⟩)
  dsimp only [Pt.U, Pt.locs, Pt.cells, Pt.slots] at X' e1 e2 h1 h2 h3 st
  subst h1; subst h2; subst h3
  exact ⟨v, (T.setVm vm₁).calling g' mk (Value.ref b :: As).toArray, t, U', L, hT, X', hL, e1, e2, hq, st⟩
section
variable {y : MethodName} {bytes cc : ByteArray} {maxL nL mc ms n index : Nat} {ret : Option FieldType} {ws : List Cond} {rm : Room} {Pc : Array Value → State → Prop} {Qc : Array Value → State → Outcome → State → Prop} {XC : String → State → State → Prop} {free : Addr → Prop} {Ts : List Cond} {own C : String} {b : Addr} {As rest : List Value} {g : JFrame}
theorem vx_runVX {hh : List (Nat × Nat × Nat × Nat)} (S : CallFix p m c cc nL s args Ts own) (hM : vx_Met l y ws rm Pc Qc XC mc ms free) (cw : vx_CVW R s args own C index y bytes maxL ret hh ws rm mc ms n) (hp : PreV s H C b Pc As)
    (hg : g.method = m) (hn : As.length = n) (hsize : g.locals.size = nL) (hstack : g.stack = As.reverse ++ .ref b :: rest) (hW : 2 * g.monitorRoom + (rest.map fun v => v.category).sum ≤ 8) (hdg : decode cc g.pc = .ok (.invokevirtual index, 3)) (hf : cells + mc ≤ R.cells ∧ slots + ms ≤ R.slots) :
    vx_Run p l e R s m args below meth c H locs cells slots mc ms g rest (Qc (Value.ref b :: As).toArray) XC free := by
  obtain ⟨⟨hrc, hrs, hfr, hlo, hws, hcw⟩, hcode, hini, hy, hlen, hl, hin, hse⟩ := cw
  have hK : vx_Back l R p e below s args y 3 8 (PreOf R mc ms Pc) (PostOf Qc mc ms free) (vx_Post XC mc ms free) := vx_backW (hh := hh) (bytes := bytes) (maxL := maxL) (ret := ret) hM hp.1 hrc hrs hfr hlo hws hcw (fun a' U hW => word_at hW (Or.inl (by first | rfl | simp [Cond.onTables, Cond.keeps, Cond.steady])) hini)
  obtain ⟨hx, hb, hml, ho, -⟩ := S
  obtain ⟨-, ⟨cellB, hcB, hoB, hclB⟩, hPc⟩ := hp
  intro T hT X
  rcases vx_callVX X hx (C := C) (hh := hh) (bytes := bytes) (maxL := maxL) (ret := ret) ho hl hin hse hcode hy hK (by rw [hT]; exact hcB) hoB hclB hg (hsize.trans hml.symm) (argsL := As) (rest := rest) (fun sig h => hn.trans (hlen sig h)) hstack hW (by rw [hb]; exact hdg)
    (fun vm₁ hW₁ => ⟨hf.1, hf.2, hPc (T.setVm vm₁) hT hW₁⟩) with ⟨v, vm₁, ⟨U', l2, c2, s2⟩, hW₁, X', ⟨g', mk, t, L, e1, e2, hq, h1, hL, h2, h3⟩, st⟩ | ⟨q, vm₁, ⟨U', l2, c2, s2⟩, hW₁, X', ⟨g', mk, t, L, E, ce, e1, e2, hq, hce, hcv, hcl, h1, hL, h2, h3⟩, st⟩
  · dsimp only [Pt.U, Pt.locs, Pt.cells, Pt.slots] at X' e1 e2 h1 h2 h3 st
    subst h1; subst h2; subst h3
    exact Or.inl ⟨v, (T.setVm vm₁).calling g' mk (Value.ref b :: As).toArray, t, U', L, hT, X', hL, e1, e2, hq, st⟩
  · dsimp only [Pt.U, Pt.locs, Pt.cells, Pt.slots] at X' e1 e2 h1 h2 h3 st hcl
    subst h1; subst h2; subst h3
    exact Or.inr ⟨q, (T.setVm vm₁).calling g' mk (Value.ref b :: As).toArray, t, U', L, E, ce, hT, X', hL, e1, e2, hq, hce, hcv, vx_cls hW₁ hcl, st⟩
theorem vx_runSX {hh : List (Nat × Nat × Nat × Nat)} (S : CallFix p m c cc nL s args Ts own) (hM : vx_Met l y ws rm Pc Qc XC mc ms free) (cw : vx_CSW R s args own index y bytes maxL ret hh ws rm mc ms n) (hp : PreS s H Pc As)
    (hg : g.method = m) (hn : As.length = n) (hsize : g.locals.size = nL) (hstack : g.stack = As.reverse ++ rest) (hW : 2 * g.monitorRoom + (rest.map fun v => v.category).sum ≤ 8) (hdg : decode cc g.pc = .ok (.invokestatic index, 3)) (hf : cells + mc ≤ R.cells ∧ slots + ms ≤ R.slots) :
    vx_Run p l e R s m args below meth c H locs cells slots mc ms g rest (Qc As.toArray) XC free := by
  obtain ⟨⟨hrc, hrs, hfr, hlo, hws, hcw⟩, hcode, hini, hy, hlen, hl, hstt⟩ := cw
  have hK : vx_Back l R p e below s args y 3 8 (PreOf R mc ms Pc) (PostOf Qc mc ms free) (vx_Post XC mc ms free) := vx_backW (hh := hh) (bytes := bytes) (maxL := maxL) (ret := ret) hM hp.1 hrc hrs hfr hlo hws hcw (fun a' U hW => word_at hW (Or.inl (by first | rfl | simp [Cond.onTables, Cond.keeps, Cond.steady])) hini)
  obtain ⟨hx, hb, hml, ho, -⟩ := S
  intro T hT X
  rcases vx_callSX X hx (hh := hh) (bytes := bytes) (maxL := maxL) (ret := ret) ho hl hstt hini hcode hy hK hg (hsize.trans hml.symm) (argsL := As) (rest := rest) (fun sig h => hn.trans (hlen sig h)) hstack hW (by rw [hb]; exact hdg)
    (fun vm₁ hW₁ => ⟨hf.1, hf.2, hp.2 (T.setVm vm₁) hT hW₁⟩) with ⟨v, vm₁, ⟨U', l2, c2, s2⟩, hW₁, X', ⟨g', mk, t, L, e1, e2, hq, h1, hL, h2, h3⟩, st⟩ | ⟨q, vm₁, ⟨U', l2, c2, s2⟩, hW₁, X', ⟨g', mk, t, L, E, ce, e1, e2, hq, hce, hcv, hcl, h1, hL, h2, h3⟩, st⟩
  · dsimp only [Pt.U, Pt.locs, Pt.cells, Pt.slots] at X' e1 e2 h1 h2 h3 st
    subst h1; subst h2; subst h3
    exact Or.inl ⟨v, (T.setVm vm₁).calling g' mk As.toArray, t, U', L, hT, X', hL, e1, e2, hq, st⟩
  · dsimp only [Pt.U, Pt.locs, Pt.cells, Pt.slots] at X' e1 e2 h1 h2 h3 st hcl
    subst h1; subst h2; subst h3
    exact Or.inr ⟨q, (T.setVm vm₁).calling g' mk As.toArray, t, U', L, E, ce, hT, X', hL, e1, e2, hq, hce, hcv, vx_cls hW₁ hcl, st⟩
end
end VXH
theorem vx_ofWH {l : Launch} {y : MethodName} {ws ws' : List Cond} {rm : Room} {Pc : Array Value → State → Prop} {Qc : Array Value → State → Outcome → State → Prop} {XC : String → State → State → Prop} {mc ms : Nat} {free : Addr → Prop} {cc : ByteArray} {maxL : Nat} {ret : Option FieldType} {hh : List (Nat × Nat × Nat × Nat)}
    (hy : plainName y.cls = true) (hw : ws = Cond.codeWith y cc maxL ret hh :: ws')
    (body : ∀ p e s m args below meth c s₁, BodyLoose p l y (headSpec ws rm) cc maxL ret e s m args below meth c s₁ → c.maxLocals = maxL → Pc args s →
      W p l e (headSpec ws rm).room s m args below meth c s.heap [] 0 0 (vx_MQ below Qc XC args s mc ms free) (entryFrame m args maxL)) : vx_Met l y ws rm Pc Qc XC mc ms free := by
  refine MetFree.of_bodyS (code := cc) (maxLocals := maxL) (ret := ret) hy ?_ ?_
  · intro args s m h hn
    obtain ⟨m9, meth, c, hn9, h1, h2, h3, h4, -, h5, h6, -⟩ := Cond.codeWith_spec (atoms_spec (ws := ws) h _ (by rw [hw]; exact List.mem_cons_self))
    cases hn.symm.trans hn9
    exact ⟨meth, c, h1, h2, h3, h4, h5, h6⟩
  · intro p e s m args below meth c s₁ B hml hP _
    have hh0 : s₁.heap = s.heap := by rw [B.state]; rfl
    obtain ⟨t, a1, o, b1, b2, b3⟩ := body p e s m args below meth c s₁ B hml hP s₁ hh0 (Stand.of_body B)
    exact ⟨t, o, a1, b1, b2, b3⟩
/-! ===== END ===== -/

/-! ===== BEGIN what the machine throws by itself, no traces kept ===== -/
section VXM
set_option maxHeartbeats 1000000 in
/-- the machine throws cls with the message text, no traces kept: from its note over the frame g to 'throwing' over the same frame (follows the proofs of Stand.vmThrowsMessage, Shelf/KitTracedVmS.lean, and Stand.throwsMessageColdBareV, StandMessageColdV.lean, without the step out of the frame) -/
theorem vx_vmAt {p : Program} {l : Launch} {e : Env} {R : Room} {s : State} {m₀ : MethodId} {args : Array Value} {below : List Frame} {meth : Method} {c : Code} {W : State} {locs : List Loc} {cells slots : Nat}
    (X : Stand p l e R s m₀ args below meth c W locs cells slots) (hexec : p.tables.exec = Jvm.exec) (htr : e.platform.stackTraces = false) {cls : String} {names : List String} {text : String}
    (hcls : Bundle.fit cls = true) (hnames : ∀ n ∈ names, Bundle.fit n = true) (hsoe : (cls == "java/lang/StackOverflowError") = false) (hoom : (cls == "java/lang/OutOfMemoryError") = false)
    (h : ∀ a ∈ Bundle.messageArmAtoms cls names, a.before args s = true)
    (hlocs : ∀ x ∈ locs, ∀ cell, s.heap[x.base]? = some cell → cell.vm.isStatics = false)
    (htext : (text == notModelled) = false) (hlimit : ¬ (stringBytes (stringToUtf16 text)).size > e.platform.arrayLengthLimit) (hheap : ¬ (stringBytes (stringToUtf16 text)).size * componentBytes .byte > e.platform.maxHeapBytes)
    {g : JFrame} (hg : g.method = m₀) (hsize : g.locals.size = c.maxLocals)
    (hRframes : names.length + 4 < R.frames) (hRlocals : 2 * g.monitorRoom + (g.stack.map fun v => v.category).sum + 10240 ≤ R.locals) (hshort : 13 * names.length + 55 ≤ 10240)
    (hRcells : cells + 3 ≤ R.cells) (hRslots : slots + ((stringBytes (stringToUtf16 text)).size + 4 + 6) ≤ R.slots) (hlocks : meth.locks = false) :
    ∃ (S : State) (q : Addr) (ce : Cell), (∀ target, Steps p.tables e below ((S.setTop g).pushFrame (.throwing q)) target → Steps p.tables e below ((W.setTop g).pushFrame (.throwNew cls (some text) none)) target) ∧
      Stand p l e R s m₀ args below meth c S locs (cells + 3) (slots + ((stringBytes (stringToUtf16 text)).size + 4 + 6)) ∧ S.heap[q]? = some ce ∧ s.vm.findClass cls = some ce.cls ∧ ce.vm = .none := by
  have howns : e.platform.frameOwnsMonitors = true := by rw [X.admits.platform]
  have hfin : e.platform.finalization = false := by rw [X.admits.platform]
  have hpl : e.platform.magicAccessors = ({} : Platform).magicAccessors := by rw [X.admits.platform]
  have a : ∀ x, x ∈ Bundle.messageArmAtoms cls names → x.holds args s none s [] = true := fun x hx => h x hx
  obtain ⟨T, Z0, L, -, Y⟩ := ThrowableC.of_atoms (args := args) howns hfin hpl (fun x hx => h x (by simp [Bundle.messageArmAtoms, hx]))
  obtain ⟨Z, M, LZ, LM, hnZ⟩ := Init0T.ofS_atoms (args := args) hpl L Y (fun x hx => h x (by simp [Bundle.messageArmAtoms, hx]))
  obtain ⟨P1, Ps, hlen, L1, hL, hP1m, hlink1, hlink⟩ := Bundle.chainS (args := args) hpl hnZ names cls hcls hnames (fun x hx => h x (by simp [Bundle.messageArmAtoms, hx]))
  obtain ⟨Zs, LZs, hn4, hfitv, hfitc⟩ := StringT.of_atoms (args := args) (fun x hx => h x (by simp [Bundle.messageArmAtoms, hx]))
  have hfound : s.vm.findClass cls = some P1.m.cls := findClass_of_methodNamed hP1m
  obtain ⟨c1, kX, hc1, hk, hord, -, -, hn6⟩ := Cond.instantiable_spec (a (.instantiable cls 6) (by simp [Bundle.messageArmAtoms]))
  cases Option.some.inj (hc1.symm.trans hfound)
  have hinit := Cond.initialized_spec hfound hk (a (.initialized cls) (by simp [Bundle.messageArmAtoms]))
  have hctor : kX.findMethod "<init>" "(Ljava/lang/String;)V" = some P1.m.idx := findMethod_of_methodNamed hP1m hk
  have hsel0 : selectMethod e.platform s.vm P1.m.cls T.fill0 = .method T.fill0 := by
    obtain ⟨c2, r2, m2, q1, q2, q3, q4, -⟩ := Cond.selects_spec (a (.selects cls Bundle.tFill0 Bundle.tFill0) (by simp [Bundle.messageArmAtoms]))
    cases Option.some.inj (q1.symm.trans hfound)
    cases Option.some.inj (q2.symm.trans (State.methodFound?_of_named Y.fill0 (by decide)))
    cases Option.some.inj (q3.symm.trans Y.fill0)
    rw [Launch.admits_selectMethod X.admits]; exact q4
  have hselF : selectMethod e.platform s.vm P1.m.cls T.fill = .method T.fill := by
    obtain ⟨c2, r2, m2, q1, q2, q3, q4, -⟩ := Cond.selects_spec (a (.selects cls Bundle.tFill Bundle.tFill) (by simp [Bundle.messageArmAtoms]))
    cases Option.some.inj (q1.symm.trans hfound)
    cases Option.some.inj (q2.symm.trans (State.methodFound?_of_named Y.fill (by decide)))
    cases Option.some.inj (q3.symm.trans Y.fill)
    rw [Launch.admits_selectMethod X.admits]; exact q4
  obtain ⟨cellS0, hcS0, hiss⟩ := Y.statics
  obtain ⟨u0, hu0⟩ := Cond.staticRefV Y.unassigned L.unassignedStatic L.statics hcS0 hiss (a (.isRef (.static Bundle.tN "UNASSIGNED_STACK" Bundle.steD)) (by simp [Bundle.messageArmAtoms]))
  obtain ⟨sen, hsen⟩ := Cond.staticRefV Y.sentinel L.sentinelStatic L.statics hcS0 hiss (a (.isRef (.static Bundle.tN "SUPPRESSED_SENTINEL" Bundle.listD)) (by simp [Bundle.messageArmAtoms]))
  obtain ⟨ci198, i198, fB, hk198, hg198, ha198, hsB, -, hnB, htB, hffB⟩ := Cond.ownField (t := .object "java/lang/Object") Y.found L.cls (by decide +kernel) (a (.fieldLink Bundle.tN 198 Bundle.tN "backtrace" "Ljava/lang/Object;") (by simp [Bundle.messageArmAtoms])) (a (.lays Bundle.tN Bundle.tN "backtrace" "Ljava/lang/Object;") (by simp [Bundle.messageArmAtoms])) e.platform hpl
  obtain ⟨cellS, hcS', heS, -, hkeep⟩ := X.same.2.2.2.2.2 T.aS cellS0 hcS0
  have hcellS : W.heap[T.aS]? = some cellS := hcS'
  have hout' : ∀ i, (⟨T.aS, i⟩ : Loc) ∉ locs := fun i hmem => by
    have := hlocs _ hmem cellS0 hcS0
    rw [hiss] at this; cases this
  have hknownS : cellS.vm ≠ .unknown := by
    rw [heS]; intro hu
    rw [show cellS0.vm = .unknown from hu] at hiss
    cases hiss
  have hvU : cellS.slots[T.fUnassigned.slot]? = some u0.v := by rw [hkeep _ (hout' _)]; exact hu0
  have hvSen : cellS.slots[T.fSentinel.slot]? = some sen.v := by rw [hkeep _ (hout' _)]; exact hsen
  obtain ⟨iM, hffM⟩ := Y.msg
  obtain ⟨tyC, dC, hdC, hdnC⟩ := Cond.laysAt hfound hk Y.cause (a (.lays cls Bundle.tN "cause" "Ljava/lang/Throwable;") (by simp [Bundle.messageArmAtoms]))
  obtain ⟨tyS, dS, hdS, hdnS⟩ := Cond.laysAt hfound hk Y.stack (a (.lays cls Bundle.tN "stackTrace" Bundle.steD) (by simp [Bundle.messageArmAtoms]))
  obtain ⟨tyP, dP, hdP, hdnP⟩ := Cond.laysAt hfound hk Y.supp (a (.lays cls Bundle.tN "suppressedExceptions" Bundle.listD) (by simp [Bundle.messageArmAtoms]))
  obtain ⟨tyM, dM, hdM, hdnM⟩ := Cond.laysAt hfound hk hffM (a (.lays cls Bundle.tN "detailMessage" "Ljava/lang/String;") (by simp [Bundle.messageArmAtoms]))
  obtain ⟨tyB, dB, hdB, hdnB⟩ := Cond.laysAt hfound hk hffB (a (.lays cls Bundle.tN "backtrace" "Ljava/lang/Object;") (by simp [Bundle.messageArmAtoms]))
  have bC := Cond.laysApart hdB hdC hdnB hdnC (by rw [hnB, Y.causeName]; decide)
  have bS := Cond.laysApart hdB hdS hdnB hdnS (by rw [hnB, Y.stackName]; decide)
  have bP := Cond.laysApart hdB hdP hdnB hdnP (by rw [hnB, Y.suppName]; decide)
  have hbk : ((preparedCellV T.toThrowableT (freshCell P1.m.cls kX) (W.heap.size + 2) u0 sen).withEntry W.cur).slots[fB.slot]? = some .null := by
    have := fresh_default (c := P1.m.cls) tyB
    rw [htB] at this
    simpa [preparedCellV, Cell.setSlot, Cell.withEntry, Array.getElem?_setIfInBounds, bC, bS, bP, bC.symm, bS.symm, bP.symm, defaultValue] using this
  have tkC := Takes.of_laid (v := .ref (W.heap.size + 2)) hk hord tyC (by rw [Y.causeType]; rfl)
  have tkS := Takes.of_laid (v := u0.v) hk hord tyS (by rw [Y.stackType]; exact fits_refV_array _ u0)
  have tkP := Takes.of_laid (v := sen.v) hk hord tyP (by rw [Y.suppType]; exact fits_refV_object _ sen)
  have tkM := Takes.of_laid (v := .ref (W.heap.size + 1)) hk hord tyM (by rw [Y.msgType]; rfl)
  have hskip : SkipFacts T e.platform s (fun u => u) u0 ((preparedCellV T.toThrowableT (freshCell P1.m.cls kX) (W.heap.size + 2) u0 sen).withEntry W.cur) := ⟨{ ci198 := ci198, i198 := i198, fBack := fB }, ⟨hk198, hg198, ha198, hsB⟩, hbk, fun _ _ => rfl⟩
  have h0 : At W g.method c below := by rw [hg]; exact X.here
  obtain ⟨hbeyond, hfreeW⟩ := X.vmMayThrow hsize (.throwNew cls (some text) none) (fun f hf => by cases hf) rfl hRlocals
  have hfr' : W.frames.length + Ps.length + 4 < (e.platform.stackLimits W.me).1 := by have := X.framesAbove hRframes; omega
  have hwd' : (stackUse (.java g :: W.frames.tail)).2 + 13 * Ps.length + 55 ≤ (e.platform.stackLimits W.me).2 := by have := X.stackAbove hsize (K := 13 * Ps.length + 55) (by omega); omega
  have hslots : W.slotsUsed + (stringBytes (stringToUtf16 text)).size + Zs.kS.instanceTypes.size + kX.instanceTypes.size ≤ e.platform.maxSlots := by
    have := X.slotsAbove hRslots
    rw [hn4, hn6]
    omega
  obtain ⟨vm', hW', st⟩ := Steps.vmThrowsMessageColdByV p (s₀ := s) (S := W) (g := g) h0 hexec T L Z LZ M LM X.warmed (t := W.cur) rfl Zs LZs P1 L1 Ps hL hlink1 hlink hsoe hoom hfound hk hinit hord hctor
    (Launch.admits_hotImplicitExceptions X.admits) hbeyond hfreeW htext hlimit hheap (X.cellsAbove hRcells) hslots (hfitv _) (hfitc _)
    (Nn := fun u => u) heapOnly_id (fun _ _ => rfl) (fun _ => rfl) (fun u x y => setCell_twice _ _ _ _) (fun _ => Nat.le_refl _) (cN := ((preparedCellV T.toThrowableT (freshCell P1.m.cls kX) (W.heap.size + 2) u0 sen).withEntry W.cur))
    hsel0 hcellS hknownS hvU tkS (fun _ hu => hu) (fun _ hu => hu) rfl rfl rfl (by simp [preparedCellV, Cell.setSlot, Cell.withEntry]) hskip (fun _ _ hA hW _ hroom _ hrest => L.nativeOff p htr hA hW hroom hrest) hselF hvSen tkC tkP tkM Y.objLocals rfl hfr' hwd'
  rw [plainBareV_eq T.toThrowableT (W.heap.size + 2) u0 sen (.ref (W.heap.size + 1)) W.cur rfl rfl] at st
  obtain ⟨-, -, w3, w4, -, -, -⟩ := withThrown_facts e.platform W Zs text P1.m.cls kX
  have X3 := ((X.pushed (bytesOf Zs.cB (stringToUtf16 text))).pushed (stringAt Zs.cS Zs.kS Zs.fv Zs.fc (stringToUtf16 text) W.heap.size)).pushed (freshCell P1.m.cls kX)
  rw [← withString_eq] at X3
  have X4 := X3.noted hW'
  have ha : (W.heap.size + 2) < ((withThrown W Zs text P1.m.cls kX).setVm vm').heap.size := by show _ < (withThrown W Zs text P1.m.cls kX).heap.size; rw [w3]; omega
  have hcell : ((withThrown W Zs text P1.m.cls kX).setVm vm').heap[(W.heap.size + 2)]? = some (freshCell P1.m.cls kX) := w4
  have X5 := ((((X4.stored hcell T.fCause.slot (.ref (W.heap.size + 2))).storedAgain ha T.fStack.slot u0.v).storedAgain ha T.fSupp.slot sen.v).storedAgain ha T.fStack.slot u0.v).storedAgain ha T.fMsg.slot (.ref (W.heap.size + 1))
  obtain ⟨g₁, hfrM⟩ := X5.frames_eq
  have hU : ((((withThrown W Zs text P1.m.cls kX).setVm vm').setCell (W.heap.size + 2) (plainBareV T.toThrowableT (freshCell P1.m.cls kX) (W.heap.size + 2) u0 sen (.ref (W.heap.size + 1)))).setTop g).pushFrame (.throwing (W.heap.size + 2)) = (((withThrown W Zs text P1.m.cls kX).setVm vm').setCell (W.heap.size + 2) (plainBareV T.toThrowableT (freshCell P1.m.cls kX) (W.heap.size + 2) u0 sen (.ref (W.heap.size + 1)))).setFrames (.throwing (W.heap.size + 2) :: .java g :: below) := by
    rw [State.pushFrame, State.frames_setTop _ hfrM, State.setTop_of_frames _ hfrM, State.setFrames_setFrames]
  have b1 : (bytesOf Zs.cB (stringToUtf16 text)).slots.size = (stringBytes (stringToUtf16 text)).size := by
    rw [(Cell.writeAll_facts _ _).2.2]; simp [bytes0]
  have b2 : (stringAt Zs.cS Zs.kS Zs.fv Zs.fc (stringToUtf16 text) W.heap.size).slots.size = 4 := by simp [string0, Cell.setSlot, hn4]
  have b3 : (freshCell P1.m.cls kX).slots.size = 6 := by simp [hn6]
  rw [b1, b2, b3] at X5
  have e9 : slots + (stringBytes (stringToUtf16 text)).size + 4 + 6 = slots + ((stringBytes (stringToUtf16 text)).size + 4 + 6) := by omega
  rw [e9] at X5
  simp only [List.append_assoc, List.cons_append, List.nil_append] at X5
  refine ⟨((withThrown W Zs text P1.m.cls kX).setVm vm').setCell (W.heap.size + 2) (plainBareV T.toThrowableT (freshCell P1.m.cls kX) (W.heap.size + 2) u0 sen (.ref (W.heap.size + 1))), W.heap.size + 2, _, fun target ht => st _ (by rw [X.tail, ← hU]; exact ht),
    X5.forget (fun y hy => ?_), heapAt_setCell_self _ ha, hfound, rfl⟩
  simp only [List.mem_cons, List.not_mem_nil, or_false] at hy
  have hge : s.heap.size ≤ W.heap.size := X.same.2.1
  rcases hy with rfl | rfl | rfl | rfl | rfl <;> exact Nat.le_trans hge (Nat.le_add_right _ 2)
set_option maxHeartbeats 1000000 in
/-- the machine throws NullPointerException, no traces kept: from its note over the frame g to 'throwing' over the same frame (follows the proof of Stand.vmThrowsNpe, Shelf42/KT2.lean; throwsNpeColdBareVAt, Shelf42/NT91.lean, called) -/
theorem vx_npeAt {p : Program} {l : Launch} {e : Env} {R : Room} {s : State} {m₀ : MethodId} {args : Array Value} {below : List Frame} {meth : Method} {c : Code} {W : State} {locs : List Loc} {cells slots : Nat}
    (X : Stand p l e R s m₀ args below meth c W locs cells slots) (hexec : p.tables.exec = Jvm.exec) (htr : e.platform.stackTraces = false) {n : Nat}
    (h : ∀ a ∈ Bundle.npeArmAtoms n, a.before args s = true)
    (hlocs : ∀ x ∈ locs, ∀ cell, s.heap[x.base]? = some cell → cell.vm.isStatics = false)
    {g : JFrame} (hg : g.method = m₀) (hsize : g.locals.size = c.maxLocals)
    (hRframes : 7 < R.frames) (hRlocals : 2 * g.monitorRoom + (g.stack.map fun v => v.category).sum + 10240 ≤ R.locals)
    (hRcells : cells + 1 ≤ R.cells) (hRslots : slots + n ≤ R.slots) (hlocks : meth.locks = false) :
    ∃ (S : State) (q : Addr) (ce : Cell), (∀ target, Steps p.tables e below ((S.setTop g).pushFrame (.throwing q)) target → Steps p.tables e below ((W.setTop g).pushFrame (.throwNew "java/lang/NullPointerException" none none)) target) ∧
      Stand p l e R s m₀ args below meth c S locs (cells + 1) (slots + n) ∧ S.heap[q]? = some ce ∧ s.vm.findClass "java/lang/NullPointerException" = some ce.cls ∧ ce.vm = .none := by
  have howns : e.platform.frameOwnsMonitors = true := by rw [X.admits.platform]
  have hfin : e.platform.finalization = false := by rw [X.admits.platform]
  have hpl : e.platform.magicAccessors = ({} : Platform).magicAccessors := by rw [X.admits.platform]
  have hpl2 : e.platform.arrayCloneIsPublic = true := by rw [X.admits.platform]
  have a' : ∀ x, x ∈ Bundle.npeArmAtoms n → x.holds args s none s [] = true := fun x hx => h x hx
  obtain ⟨T, Z, L, LZ, Y⟩ := ThrowableC.of_atoms (args := args) howns hfin hpl (fun x hx => h x (by simp [Bundle.npeArmAtoms, hx]))
  obtain ⟨N, LN, hcN, hnNF, hordN, hffS⟩ := NpeC.of_atoms (args := args) hpl hpl2 L Y (fun x hx => h x (by simp [Bundle.npeArmAtoms, hx]))
  obtain ⟨P1, L1, hP1m, hP1s⟩ := PassC.of_atoms (args := args) (s := s) hpl (X := Bundle.nN) (Y := Bundle.rN) (by decide) (by decide) LibCode.NullPointerException.Init0.at_0 LibCode.NullPointerException.Init0.at_1 LibCode.NullPointerException.Init0.at_4 (fun x hx => h x (by simp [Bundle.npeArmAtoms, hx]))
  obtain ⟨PR, LR, hPRm, hPRs⟩ := PassC.of_atoms (args := args) (s := s) hpl (X := Bundle.rN) (Y := Bundle.eN) (by decide) (by decide) LibCode.RuntimeException.Init0.at_0 LibCode.RuntimeException.Init0.at_1 LibCode.RuntimeException.Init0.at_4 (fun x hx => h x (by simp [Bundle.npeArmAtoms, hx]))
  obtain ⟨PE, LEx, hPEm, hPEs⟩ := PassC.of_atoms (args := args) (s := s) hpl (X := Bundle.eN) (Y := Bundle.tN) (by decide) (by decide) LibCode.Exception.Init0.at_0 LibCode.Exception.Init0.at_1 LibCode.Exception.Init0.at_4 (fun x hx => h x (by simp [Bundle.npeArmAtoms, hx]))
  have hfound : s.vm.findClass Bundle.nN = some P1.m.cls := findClass_of_methodNamed hP1m
  have ecls : N.cN = P1.m.cls := Option.some.inj (hcN.symm.trans hfound)
  have hk : s.vm.classes[P1.m.cls]? = some N.kN := by rw [← ecls]; exact LN.cls
  have hinit := Cond.initialized_spec hfound hk (a' (.initialized Bundle.nN) (by simp [Bundle.npeArmAtoms]))
  have hctor : N.kN.findMethod "<init>" "()V" = some P1.m.idx := findMethod_of_methodNamed hP1m hk
  obtain ⟨c1, k1, hc1, hk1, -, -, -, hn⟩ := Cond.instantiable_spec (a' (.instantiable Bundle.nN n) (by simp [Bundle.npeArmAtoms]))
  cases Option.some.inj (hc1.symm.trans hfound)
  cases Option.some.inj (hk1.symm.trans hk)
  have hfsz : (freshCell P1.m.cls N.kN).slots.size = n := by simp [hn]
  have hlink1 : P1.sup = PR.m := Option.some.inj (hP1s.symm.trans hPRm)
  have hlinkR : PR.sup = PE.m := Option.some.inj (hPRs.symm.trans hPEm)
  have hlinkE : PE.sup = Z.m T.toThrowableT := Option.some.inj (hPEs.symm.trans Y.init0)
  have hLs : ∀ P, P ∈ [PR, PE] → P.Links0 e.platform s := fun P hP => by
    simp only [List.mem_cons, List.not_mem_nil, or_false] at hP
    rcases hP with rfl | rfl
    · exact LR
    · exact LEx
  have hsel0 : selectMethod e.platform s.vm P1.m.cls T.fill0 = .method T.fill0 := by
    obtain ⟨c2, r2, m2, q1, q2, q3, q4, -⟩ := Cond.selects_spec (a' (.selects Bundle.nN Bundle.tFill0 Bundle.tFill0) (by simp [Bundle.npeArmAtoms]))
    cases Option.some.inj (q1.symm.trans hfound)
    cases Option.some.inj (q2.symm.trans (State.methodFound?_of_named Y.fill0 (by decide)))
    cases Option.some.inj (q3.symm.trans Y.fill0)
    rw [Launch.admits_selectMethod X.admits]; exact q4
  have hselF : selectMethod e.platform s.vm P1.m.cls T.fill = .method N.fill := by
    obtain ⟨c2, r2, m2, q1, q2, q3, q4, -⟩ := Cond.selects_spec (a' (.selects Bundle.nN Bundle.tFill Bundle.nFill) (by simp [Bundle.npeArmAtoms]))
    cases Option.some.inj (q1.symm.trans hfound)
    cases Option.some.inj (q2.symm.trans (State.methodFound?_of_named Y.fill (by decide)))
    cases Option.some.inj (q3.symm.trans hnNF)
    rw [Launch.admits_selectMethod X.admits]; exact q4
  obtain ⟨cellS0, hcS0, hiss⟩ := Y.statics
  obtain ⟨u0, hu0⟩ := Cond.staticRefV Y.unassigned L.unassignedStatic L.statics hcS0 hiss (a' (.isRef (.static Bundle.tN "UNASSIGNED_STACK" Bundle.steD)) (by simp [Bundle.npeArmAtoms]))
  obtain ⟨sen, hsen⟩ := Cond.staticRefV Y.sentinel L.sentinelStatic L.statics hcS0 hiss (a' (.isRef (.static Bundle.tN "SUPPRESSED_SENTINEL" Bundle.listD)) (by simp [Bundle.npeArmAtoms]))
  obtain ⟨ci198, i198, fB, hk198, hg198, ha198, hsB, -, hnB, htB, hffB⟩ := Cond.ownField (t := .object "java/lang/Object") Y.found L.cls (by decide +kernel) (a' (.fieldLink Bundle.tN 198 Bundle.tN "backtrace" Bundle.objD) (by simp [Bundle.npeArmAtoms])) (a' (.lays Bundle.tN Bundle.tN "backtrace" Bundle.objD) (by simp [Bundle.npeArmAtoms])) e.platform hpl
  obtain ⟨cellS, hcS', heS, -, hkeep⟩ := X.same.2.2.2.2.2 T.aS cellS0 hcS0
  have hcellS : W.heap[T.aS]? = some cellS := hcS'
  have hout' : ∀ i, (⟨T.aS, i⟩ : Loc) ∉ locs := fun i hmem => by
    have := hlocs _ hmem cellS0 hcS0
    rw [hiss] at this; cases this
  have hknownS : cellS.vm ≠ .unknown := by
    rw [heS]; intro hu
    rw [show cellS0.vm = .unknown from hu] at hiss
    cases hiss
  have hvU : cellS.slots[T.fUnassigned.slot]? = some u0.v := by rw [hkeep _ (hout' _)]; exact hu0
  have hvSen : cellS.slots[T.fSentinel.slot]? = some sen.v := by rw [hkeep _ (hout' _)]; exact hsen
  obtain ⟨tyC, dC, hdC, hdnC⟩ := Cond.laysAt hfound hk Y.cause (a' (.lays Bundle.nN Bundle.tN "cause" "Ljava/lang/Throwable;") (by simp [Bundle.npeArmAtoms]))
  obtain ⟨tyS, dS, hdS, hdnS⟩ := Cond.laysAt hfound hk Y.stack (a' (.lays Bundle.nN Bundle.tN "stackTrace" Bundle.steD) (by simp [Bundle.npeArmAtoms]))
  obtain ⟨tyP, dP, hdP, hdnP⟩ := Cond.laysAt hfound hk Y.supp (a' (.lays Bundle.nN Bundle.tN "suppressedExceptions" Bundle.listD) (by simp [Bundle.npeArmAtoms]))
  obtain ⟨tyX, dX, hdX, hdnX⟩ := Cond.laysAt hfound hk hffS (a' (.lays Bundle.nN Bundle.nN "extendedMessageState" "I") (by simp [Bundle.npeArmAtoms, Bundle.npeAtoms]))
  obtain ⟨hnX, htX⟩ := State.fieldFound?_type hffS (t := .int) (by decide +kernel)
  have xC := Cond.laysApart hdC hdX hdnC hdnX (by rw [hnX, Y.causeName]; decide)
  have xS := Cond.laysApart hdS hdX hdnS hdnX (by rw [hnX, Y.stackName]; decide)
  have xP := Cond.laysApart hdP hdX hdnP hdnX (by rw [hnX, Y.suppName]; decide)
  have hv0 : (freshCell P1.m.cls N.kN).slots[N.fState.slot]? = some (.int 0) := by
    have := fresh_default (c := P1.m.cls) tyX
    rw [htX] at this; exact this
  obtain ⟨tyB, dB, hdB, hdnB⟩ := Cond.laysAt hfound hk hffB (a' (.lays Bundle.nN Bundle.tN "backtrace" Bundle.objD) (by simp [Bundle.npeArmAtoms]))
  have bC := Cond.laysApart hdB hdC hdnB hdnC (by rw [hnB, Y.causeName]; decide)
  have bS := Cond.laysApart hdB hdS hdnB hdnS (by rw [hnB, Y.stackName]; decide)
  have bP := Cond.laysApart hdB hdP hdnB hdnP (by rw [hnB, Y.suppName]; decide)
  have bX := Cond.laysApart hdB hdX hdnB hdnX (by rw [hnB, hnX]; decide)
  have hbk : ((npeCell N.toNpeT (preparedCellV T.toThrowableT (freshCell P1.m.cls N.kN) W.heap.size u0 sen) W.cur).withEntry W.cur).slots[fB.slot]? = some .null := by
    have := fresh_default (c := P1.m.cls) tyB
    rw [htB] at this
    simpa [npeCell, preparedCellV, Cell.setSlot, Cell.withEntry, Array.getElem?_setIfInBounds, bC, bS, bP, bX, bC.symm, bS.symm, bP.symm, bX.symm, defaultValue] using this
  have tkC := Takes.of_laid (v := .ref W.heap.size) hk hordN tyC (by rw [Y.causeType]; rfl)
  have tkS := Takes.of_laid (v := u0.v) hk hordN tyS (by rw [Y.stackType]; exact fits_refV_array _ u0)
  have tkP := Takes.of_laid (v := sen.v) hk hordN tyP (by rw [Y.suppType]; exact fits_refV_object _ sen)
  have tkX := Takes.of_laid (v := .int 1) hk hordN tyX (by rw [htX]; rfl)
  have hskip : SkipFacts T e.platform s (fun u => u) u0 ((npeCell N.toNpeT (preparedCellV T.toThrowableT (freshCell P1.m.cls N.kN) W.heap.size u0 sen) W.cur).withEntry W.cur) := ⟨{ ci198 := ci198, i198 := i198, fBack := fB }, ⟨hk198, hg198, ha198, hsB⟩, hbk, fun _ _ => rfl⟩
  obtain ⟨vm', X3, st, -⟩ := X.throwsNpeColdBareVAt hexec hg hsize T L Z LZ N LN P1 L1 [PR, PE] hLs hlink1 ⟨hlinkR, hlinkE, trivial⟩ hfound hk hinit hordN hctor hsel0 hselF hcellS hknownS hvU hvSen
    hv0 xC xS xP tkC tkS tkP tkX Y.objLocals hskip (fun _ _ hA hW _ hroom _ hrest => L.nativeOff p htr hA hW hroom hrest) (by simpa using hRframes) hRlocals (by simp) hRcells (by rw [hn]; exact hRslots)
  have hlt : W.heap.size < ((W.pushCell (freshCell P1.m.cls N.kN)).setVm vm').heap.size := by
    show W.heap.size < (W.pushCell (freshCell P1.m.cls N.kN)).heap.size
    rw [State.heap_size_pushCell]; omega
  rw [hfsz] at X3
  obtain ⟨g₁, hfrM⟩ := X3.frames_eq
  have hU : ((((W.pushCell (freshCell P1.m.cls N.kN)).setVm vm').setCell W.heap.size (npeBareV T.toThrowableT N.toNpeT (freshCell P1.m.cls N.kN) W.heap.size u0 sen)).setTop g).pushFrame (.throwing W.heap.size) = (((W.pushCell (freshCell P1.m.cls N.kN)).setVm vm').setCell W.heap.size (npeBareV T.toThrowableT N.toNpeT (freshCell P1.m.cls N.kN) W.heap.size u0 sen)).setFrames (.throwing W.heap.size :: .java g :: below) := by
    rw [State.pushFrame, State.frames_setTop _ hfrM, State.setTop_of_frames _ hfrM, State.setFrames_setFrames]
  refine ⟨_, W.heap.size, _, fun target ht => st.trans (by rw [← hU]; exact ht), X3.forget (fun y hy => ?_), heapAt_setCell_self _ hlt, hfound, rfl⟩
  simp only [List.mem_cons, List.not_mem_nil, or_false] at hy
  have hge : s.heap.size ≤ W.heap.size := X.same.2.1
  rcases hy with rfl | rfl | rfl | rfl | rfl <;> exact hge
/-- the words of a machine's NullPointerException, but the four that speak of the heap -/
def vx_atN (n : Nat) : List Cond := (Bundle.npeArmAtoms n).filter vx_no
/-- the words of a machine's throw with a message, but the four that speak of the heap -/
def vx_atM (X : String) (names : List String) : List Cond := (Bundle.messageArmAtoms X names).filter vx_no
section
variable {p : Program} {l : Launch} {e : Env} {R : Room} {s : State} {m : MethodId} {args : Array Value} {below : List Frame} {meth : Method} {c : Code} {H : Heap} {locs : List Loc} {cells slots : Nat}
/-- a frame seen from a rebased start, seen from the first start again -/
theorem vx_back9 {T S : State} {R' : Room} {k n : Nat} (X : Stand p l e R s m args below meth c T locs cells slots) (Y : Stand p l e R' ((T.setVm s.vm).setFrames (.invoking m args :: below)) m args below meth c T [] 0 0) (Z : Stand p l e R' ((T.setVm s.vm).setFrames (.invoking m args :: below)) m args below meth c S [] k n) :
    Stand p l e R s m args below meth c S locs (cells + k) (slots + n) := by
  have hW0 : s.WarmedH ((T.setVm s.vm).setFrames (.invoking m args :: below)).vm := State.WarmedH.refl s
  refine { admits := X.admits, cas := X.cas, clock := X.clock, frames := X.frames, room := X.room, hears := X.hears, method := X.method, code := X.code, here := Z.here, tail := Z.tail, warmed := State.WarmedH.trans hW0 Z.warmed, limits := Z.limits.trans (Y.limits.symm.trans X.limits), bytes := Z.bytes.trans (Y.bytes.symm.trans X.bytes), same := ?_ }
  obtain ⟨e1, e2⟩ := Z.same
  rw [State.setFrames_setFrames] at e1
  have h2 : (T.setVm s.vm).sameButNew (S.setVm s.vm) [] k n := ⟨e1, e2⟩
  have h3 := X.same.trans h2
  rw [List.append_nil] at h3
  exact h3
/-- from the machine's note that E is thrown here with this text -/
def vx_Note (p : Program) (l : Launch) (e : Env) (R : Room) (s : State) (m : MethodId) (args : Array Value) (below : List Frame) (meth : Method) (c : Code) (H : Heap) (locs : List Loc) (cells slots : Nat) (Q : State → Prop) (g : JFrame) (E text : String) : Prop :=
  ∀ T : State, T.heap = H → Stand p l e R s m args below meth c T locs cells slots → ∃ t, Steps p.tables e below ((T.setTop g).pushFrame (.throwNew E (some text) none)) t ∧ Q t
theorem vx_vm {pc : Nat} {ls : Array Slot} {rest : List Value} {Q : State → Prop} (hexec : p.tables.exec = Jvm.exec) (hl : l.stackTraces = false) {cls text : String} {names : List String} {nb : Nat} {A : Nat → Prop}
    (hcls : Bundle.fit cls = true) (hnames : ∀ n ∈ names, Bundle.fit n = true) (hsoe : (cls == "java/lang/StackOverflowError") = false) (hoom : (cls == "java/lang/OutOfMemoryError") = false)
    (hat : ∀ w ∈ vx_atM cls names, w.before args s = true) (hgood : ∀ w ∈ vx_atM cls names, vx_ot w = true)
    (hU : vx_Zq Bundle.tN "UNASSIGNED_STACK" Bundle.steD A s s.heap) (hN : vx_Zq Bundle.tN "SUPPRESSED_SENTINEL" Bundle.listD A s s.heap) (hS : va_S A s.heap H locs) (hsize : ls.size = c.maxLocals)
    (htext : (text == notModelled) = false) (hnb : (stringBytes (stringToUtf16 text)).size ≤ nb) (hnb1 : nb ≤ 1000)
    (hRframes : names.length + 4 < R.frames) (hRlocals : (rest.map fun v => v.category).sum + 10240 ≤ R.locals) (hshort : 13 * names.length + 55 ≤ 10240) (hRcells : cells + 3 ≤ R.cells) (hRslots : slots + (nb + 10) ≤ R.slots) (hlocks : meth.locks = false)
    (k : ∀ (H1 : Heap) (q9 : Addr) (ce : Cell), H.size ≤ H1.size → (∀ q : Nat, q < H.size → H1[q]? = H[q]?) → va_S A s.heap H1 locs → H1[q9]? = some ce → ce.vm = .none → s.vm.findClass cls = some ce.cls → vx_W p l e R s m args below meth c H1 locs (cells + 3) (slots + (nb + 10)) Q (F0 m pc ls rest) q9) :
    vx_Note p l e R s m args below meth c H locs cells slots Q (F0 m pc ls rest) cls text := by
  intro T hT X
  have htr : e.platform.stackTraces = false := (show e.platform.stackTraces = l.stackTraces by rw [X.admits.platform]).trans hl
  have Y := vx_rebase X (R' := { frames := R.frames, locals := R.locals, cells := 3, slots := nb + 10 }) (Nat.le_refl _) (Nat.le_refl _) hRcells hRslots
  have hhp : ((T.setVm s.vm).setFrames (.invoking m args :: below)).heap = H := hT
  have hW0 : s.WarmedH ((T.setVm s.vm).setFrames (.invoking m args :: below)).vm := State.WarmedH.refl s
  have hat' : ∀ w ∈ vx_atM cls names, w.before args ((T.setVm s.vm).setFrames (.invoking m args :: below)) = true := fun w hw => vx_ot_at hW0 rfl (hgood w hw) (hat w hw)
  have hU' : vx_Zq Bundle.tN "UNASSIGNED_STACK" Bundle.steD A ((T.setVm s.vm).setFrames (.invoking m args :: below)) ((T.setVm s.vm).setFrames (.invoking m args :: below)).heap := by rw [hhp]; exact vx_Zq.moved hW0.alike (hU.kept hS.2.1)
  have hN' : vx_Zq Bundle.tN "SUPPRESSED_SENTINEL" Bundle.listD A ((T.setVm s.vm).setFrames (.invoking m args :: below)) ((T.setVm s.vm).setFrames (.invoking m args :: below)).heap := by rw [hhp]; exact vx_Zq.moved hW0.alike (hN.kept hS.2.1)
  obtain ⟨S, q, ce, st, Z, hce, hcl', hv⟩ := vx_vmAt Y hexec htr (cls := cls) (names := names) (text := text) hcls hnames hsoe hoom (vx_own hat' (vx_isRefq hU'.1) (vx_isRefq hN'.1) hU'.2.word hN'.2.word) (fun x hx => nomatch hx) htext
    (by rw [Launch.admits_arrayLengthLimit X.admits]; omega) (by rw [Launch.admits_maxHeapBytes X.admits]; simp only [componentBytes]; omega)
    (g := F0 m pc ls rest) rfl hsize hRframes (by show 2 * 0 + (rest.map fun v => v.category).sum + 10240 ≤ R.locals; omega) hshort (by show 0 + 3 ≤ 3; omega) (by show 0 + (_ + 4 + 6) ≤ nb + 10; omega) hlocks
  obtain ⟨f1, f2⟩ := vx_frame Z.same
  have f1' : H.size ≤ S.heap.size := by rw [← hT]; exact f1
  have f2' : ∀ q : Nat, q < H.size → S.heap[q]? = H[q]? := fun q hq => by
    rw [← hT]
    exact f2 q (by rw [← hT] at hq; exact hq) (fun z hz => nomatch hz)
  have X5 := vx_back9 X Y Z
  have X6 : Stand p l e R s m args below meth c S locs (cells + 3) (slots + (nb + 10)) := { X5 with same := X5.same.mono (by omega) (by omega) }
  obtain ⟨t, a1, b1⟩ := k S.heap q ce f1' f2' ⟨Nat.le_trans hS.1 f1', fun q h1 h2 => (f2' q (Nat.lt_of_lt_of_le h1 hS.1)).trans (hS.2.1 q h1 h2), hS.2.2⟩ hce hv hcl' S rfl X6
  exact ⟨t, st t a1, b1⟩
/-- from the machine's note that NullPointerException is thrown here -/
def vx_NoteN (p : Program) (l : Launch) (e : Env) (R : Room) (s : State) (m : MethodId) (args : Array Value) (below : List Frame) (meth : Method) (c : Code) (H : Heap) (locs : List Loc) (cells slots : Nat) (Q : State → Prop) (g : JFrame) : Prop :=
  ∀ T : State, T.heap = H → Stand p l e R s m args below meth c T locs cells slots → ∃ t, Steps p.tables e below ((T.setTop g).pushFrame (.throwNew "java/lang/NullPointerException" none none)) t ∧ Q t
theorem vx_npe {pc : Nat} {ls : Array Slot} {rest : List Value} {Q : State → Prop} (hexec : p.tables.exec = Jvm.exec) (hl : l.stackTraces = false) {nb : Nat} {A : Nat → Prop}
    (hat : ∀ w ∈ vx_atN nb, w.before args s = true) (hgood : ∀ w ∈ vx_atN nb, vx_ot w = true)
    (hU : vx_Zq Bundle.tN "UNASSIGNED_STACK" Bundle.steD A s s.heap) (hN : vx_Zq Bundle.tN "SUPPRESSED_SENTINEL" Bundle.listD A s s.heap) (hS : va_S A s.heap H locs) (hsize : ls.size = c.maxLocals)
    (hRframes : 7 < R.frames) (hRlocals : (rest.map fun v => v.category).sum + 10240 ≤ R.locals) (hRcells : cells + 1 ≤ R.cells) (hRslots : slots + nb ≤ R.slots) (hlocks : meth.locks = false)
    (k : ∀ (H1 : Heap) (q9 : Addr) (ce : Cell), H.size ≤ H1.size → (∀ q : Nat, q < H.size → H1[q]? = H[q]?) → va_S A s.heap H1 locs → H1[q9]? = some ce → ce.vm = .none → s.vm.findClass "java/lang/NullPointerException" = some ce.cls → vx_W p l e R s m args below meth c H1 locs (cells + 1) (slots + nb) Q (F0 m pc ls rest) q9) :
    vx_NoteN p l e R s m args below meth c H locs cells slots Q (F0 m pc ls rest) := by
  intro T hT X
  have htr : e.platform.stackTraces = false := (show e.platform.stackTraces = l.stackTraces by rw [X.admits.platform]).trans hl
  have Y := vx_rebase X (R' := { frames := R.frames, locals := R.locals, cells := 1, slots := nb }) (Nat.le_refl _) (Nat.le_refl _) hRcells hRslots
  have hhp : ((T.setVm s.vm).setFrames (.invoking m args :: below)).heap = H := hT
  have hW0 : s.WarmedH ((T.setVm s.vm).setFrames (.invoking m args :: below)).vm := State.WarmedH.refl s
  have hat' : ∀ w ∈ vx_atN nb, w.before args ((T.setVm s.vm).setFrames (.invoking m args :: below)) = true := fun w hw => vx_ot_at hW0 rfl (hgood w hw) (hat w hw)
  have hU' : vx_Zq Bundle.tN "UNASSIGNED_STACK" Bundle.steD A ((T.setVm s.vm).setFrames (.invoking m args :: below)) ((T.setVm s.vm).setFrames (.invoking m args :: below)).heap := by rw [hhp]; exact vx_Zq.moved hW0.alike (hU.kept hS.2.1)
  have hN' : vx_Zq Bundle.tN "SUPPRESSED_SENTINEL" Bundle.listD A ((T.setVm s.vm).setFrames (.invoking m args :: below)) ((T.setVm s.vm).setFrames (.invoking m args :: below)).heap := by rw [hhp]; exact vx_Zq.moved hW0.alike (hN.kept hS.2.1)
  obtain ⟨S, q, ce, st, Z, hce, hcl', hv⟩ := vx_npeAt Y hexec htr (n := nb) (vx_own hat' (vx_isRefq hU'.1) (vx_isRefq hN'.1) hU'.2.word hN'.2.word) (fun x hx => nomatch hx)
    (g := F0 m pc ls rest) rfl hsize hRframes (by show 2 * 0 + (rest.map fun v => v.category).sum + 10240 ≤ R.locals; omega) (by show 0 + 1 ≤ 1; omega) (by show 0 + nb ≤ nb; omega) hlocks
  obtain ⟨f1, f2⟩ := vx_frame Z.same
  have f1' : H.size ≤ S.heap.size := by rw [← hT]; exact f1
  have f2' : ∀ q : Nat, q < H.size → S.heap[q]? = H[q]? := fun q hq => by
    rw [← hT]
    exact f2 q (by rw [← hT] at hq; exact hq) (fun z hz => nomatch hz)
  have X5 := vx_back9 X Y Z
  have X6 : Stand p l e R s m args below meth c S locs (cells + 1) (slots + nb) := { X5 with same := X5.same.mono (by omega) (by omega) }
  obtain ⟨t, a1, b1⟩ := k S.heap q ce f1' f2' ⟨Nat.le_trans hS.1 f1', fun q h1 h2 => (f2' q (Nat.lt_of_lt_of_le h1 hS.1)).trans (hS.2.1 q h1 h2), hS.2.2⟩ hce hv hcl' S rfl X6
  exact ⟨t, st t a1, b1⟩
variable {Q : State → Prop} {cc : ByteArray} {pc : Nat} {ls : Array Slot} {rest : List Value}
theorem vx_idivZ (hexec : p.tables.exec = Jvm.exec) (hb : c.code = cc) {a b : Int32} (h0 : b = 0) (d : decode cc pc = .ok (.idiv, 1)) (k : vx_Note p l e R s m args below meth c H locs cells slots Q (F0 m pc ls rest) "java/lang/ArithmeticException" "/ by zero") :
    W p l e R s m args below meth c H locs cells slots Q (F0 m pc ls (.int b :: .int a :: rest)) := by
  intro T hT X
  obtain ⟨t, st, q⟩ := k T hT X
  exact ⟨t, X.idivZero hexec (g := F0 m pc ls (.int b :: .int a :: rest)) rfl (a := a) (rest := rest) (by rw [h0]) (by rw [hb]; exact d) t st, q⟩
theorem vx_iremZ (hexec : p.tables.exec = Jvm.exec) (hb : c.code = cc) {a b : Int32} (h0 : b = 0) (d : decode cc pc = .ok (.irem, 1)) (k : vx_Note p l e R s m args below meth c H locs cells slots Q (F0 m pc ls rest) "java/lang/ArithmeticException" "/ by zero") :
    W p l e R s m args below meth c H locs cells slots Q (F0 m pc ls (.int b :: .int a :: rest)) := by
  intro T hT X
  obtain ⟨t, st, q⟩ := k T hT X
  exact ⟨t, X.iremZero hexec (g := F0 m pc ls (.int b :: .int a :: rest)) rfl (a := a) (rest := rest) (by rw [h0]) (by rw [hb]; exact d) t st, q⟩
theorem vx_ldivZ (hexec : p.tables.exec = Jvm.exec) (hb : c.code = cc) {a b : Int64} (h0 : b = 0) (d : decode cc pc = .ok (.ldiv, 1)) (k : vx_Note p l e R s m args below meth c H locs cells slots Q (F0 m pc ls rest) "java/lang/ArithmeticException" "/ by zero") :
    W p l e R s m args below meth c H locs cells slots Q (F0 m pc ls (.long b :: .long a :: rest)) := by
  intro T hT X
  obtain ⟨t, st, q⟩ := k T hT X
  exact ⟨t, X.ldivZero hexec (g := F0 m pc ls (.long b :: .long a :: rest)) rfl (a := a) (rest := rest) (by rw [h0]) (by rw [hb]; exact d) t st, q⟩
theorem vx_lremZ (hexec : p.tables.exec = Jvm.exec) (hb : c.code = cc) {a b : Int64} (h0 : b = 0) (d : decode cc pc = .ok (.lrem, 1)) (k : vx_Note p l e R s m args below meth c H locs cells slots Q (F0 m pc ls rest) "java/lang/ArithmeticException" "/ by zero") :
    W p l e R s m args below meth c H locs cells slots Q (F0 m pc ls (.long b :: .long a :: rest)) := by
  intro T hT X
  obtain ⟨t, st, q⟩ := k T hT X
  exact ⟨t, X.lremZero hexec (g := F0 m pc ls (.long b :: .long a :: rest)) rfl (a := a) (rest := rest) (by rw [h0]) (by rw [hb]; exact d) t st, q⟩
theorem vx_ialdZ {D : va_G} {cl : List vw_C} {ws : va_W} {tys : List (ClassId × FieldType)} {a : Nat} (hexec : p.tables.exec = Jvm.exec) (hb : c.code = cc) (hK : va_K D cl tys s) (hP : va_P D cl ws H) (q0 t0 : Nat) {cA : ClassId} {n : Nat} {f : Nat → Int32} (ha : ws[q0]? = some (a, .inl (cA, n, .inl f))) (ht : tys[t0]? = some (cA, .int)) {i : Int32} (hout : ¬ vp_in i n) (hdg : decode cc pc = .ok (.iaload, 1))
    (k : ∀ tx : String, tx = (toString "Index " ++ toString i ++ toString " out of bounds for length " ++ toString n : String) → vx_Note p l e R s m args below meth c H locs cells slots Q (F0 m pc ls rest) "java/lang/ArrayIndexOutOfBoundsException" tx) : W p l e R s m args below meth c H locs cells slots Q (F0 m pc ls (.int i :: .ref a :: rest)) := by
  intro T hT X
  obtain ⟨t, st, q⟩ := k _ rfl T hT X
  refine ⟨t, ?_, q⟩
  have h1 := X.ialoadOut hexec (by rw [hT]; exact hP q0 _ ha) ((hK.2 t0 _ ht).1 n (fun j => .int (f j))) (j := i) (by show (i < 0 ∨ (arrV _ _ _).slots.size ≤ _); rw [arrV_size]; exact Classical.byContradiction hout) (g := F0 m pc ls (.int i :: .ref a :: rest)) rfl (rest := rest) rfl (by rw [hb]; exact hdg) t
  simp only [arrV_size] at h1
  exact h1 st
theorem vx_iastZ {D : va_G} {cl : List vw_C} {ws : va_W} {tys : List (ClassId × FieldType)} {a : Nat} (hexec : p.tables.exec = Jvm.exec) (hb : c.code = cc) (hK : va_K D cl tys s) (hP : va_P D cl ws H) (q0 t0 : Nat) {cA : ClassId} {n : Nat} {f : Nat → Int32} (ha : ws[q0]? = some (a, .inl (cA, n, .inl f))) (ht : tys[t0]? = some (cA, .int)) {i : Int32} {x : Int32} (hout : ¬ vp_in i n) (hdg : decode cc pc = .ok (.iastore, 1))
    (k : ∀ tx : String, tx = (toString "Index " ++ toString i ++ toString " out of bounds for length " ++ toString n : String) → vx_Note p l e R s m args below meth c H locs cells slots Q (F0 m pc ls rest) "java/lang/ArrayIndexOutOfBoundsException" tx) : W p l e R s m args below meth c H locs cells slots Q (F0 m pc ls (.int x :: .int i :: .ref a :: rest)) := by
  intro T hT X
  obtain ⟨t, st, q⟩ := k _ rfl T hT X
  refine ⟨t, ?_, q⟩
  have h1 := X.iastoreOut hexec (by rw [hT]; exact hP q0 _ ha) ((hK.2 t0 _ ht).1 n (fun j => .int (f j))) (j := i) (by show (i < 0 ∨ (arrV _ _ _).slots.size ≤ _); rw [arrV_size]; exact Classical.byContradiction hout) (g := F0 m pc ls (.int x :: .int i :: .ref a :: rest)) rfl (rest := rest) rfl (by rw [hb]; exact hdg) t
  simp only [arrV_size] at h1
  exact h1 st
theorem vx_baldZ {D : va_G} {cl : List vw_C} {ws : va_W} {tys : List (ClassId × FieldType)} {a : Nat} (hexec : p.tables.exec = Jvm.exec) (hb : c.code = cc) (hK : va_K D cl tys s) (hP : va_P D cl ws H) (q0 t0 : Nat) {cA : ClassId} {n : Nat} {f : Nat → Int32} (ha : ws[q0]? = some (a, .inl (cA, n, .inl f))) (ht : tys[t0]? = some (cA, .byte)) {i : Int32} (hout : ¬ vp_in i n) (hdg : decode cc pc = .ok (.baload, 1))
    (k : ∀ tx : String, tx = (toString "Index " ++ toString i ++ toString " out of bounds for length " ++ toString n : String) → vx_Note p l e R s m args below meth c H locs cells slots Q (F0 m pc ls rest) "java/lang/ArrayIndexOutOfBoundsException" tx) : W p l e R s m args below meth c H locs cells slots Q (F0 m pc ls (.int i :: .ref a :: rest)) := by
  intro T hT X
  obtain ⟨t, st, q⟩ := k _ rfl T hT X
  refine ⟨t, ?_, q⟩
  have h1 := X.baloadOut hexec (by rw [hT]; exact hP q0 _ ha) ((hK.2 t0 _ ht).1 n (fun j => .int (f j))) (j := i) (by show (i < 0 ∨ (arrV _ _ _).slots.size ≤ _); rw [arrV_size]; exact Classical.byContradiction hout) (g := F0 m pc ls (.int i :: .ref a :: rest)) rfl (rest := rest) rfl (by rw [hb]; exact hdg) t
  simp only [arrV_size] at h1
  exact h1 st
theorem vx_bastZ {D : va_G} {cl : List vw_C} {ws : va_W} {tys : List (ClassId × FieldType)} {a : Nat} (hexec : p.tables.exec = Jvm.exec) (hb : c.code = cc) (hK : va_K D cl tys s) (hP : va_P D cl ws H) (q0 t0 : Nat) {cA : ClassId} {n : Nat} {f : Nat → Int32} (ha : ws[q0]? = some (a, .inl (cA, n, .inl f))) (ht : tys[t0]? = some (cA, .byte)) {i : Int32} {x : Int32} (hout : ¬ vp_in i n) (hdg : decode cc pc = .ok (.bastore, 1))
    (k : ∀ tx : String, tx = (toString "Index " ++ toString i ++ toString " out of bounds for length " ++ toString n : String) → vx_Note p l e R s m args below meth c H locs cells slots Q (F0 m pc ls rest) "java/lang/ArrayIndexOutOfBoundsException" tx) : W p l e R s m args below meth c H locs cells slots Q (F0 m pc ls (.int x :: .int i :: .ref a :: rest)) := by
  intro T hT X
  obtain ⟨t, st, q⟩ := k _ rfl T hT X
  refine ⟨t, ?_, q⟩
  have h1 := X.bastoreOut hexec (by rw [hT]; exact hP q0 _ ha) ((hK.2 t0 _ ht).1 n (fun j => .int (f j))) (j := i) (by show (i < 0 ∨ (arrV _ _ _).slots.size ≤ _); rw [arrV_size]; exact Classical.byContradiction hout) (g := F0 m pc ls (.int x :: .int i :: .ref a :: rest)) rfl (rest := rest) rfl (by rw [hb]; exact hdg) t
  simp only [arrV_size] at h1
  exact h1 st
theorem vx_zaldZ {D : va_G} {cl : List vw_C} {ws : va_W} {tys : List (ClassId × FieldType)} {a : Nat} (hexec : p.tables.exec = Jvm.exec) (hb : c.code = cc) (hK : va_K D cl tys s) (hP : va_P D cl ws H) (q0 t0 : Nat) {cA : ClassId} {n : Nat} {f : Nat → Int32} (ha : ws[q0]? = some (a, .inl (cA, n, .inl f))) (ht : tys[t0]? = some (cA, .boolean)) {i : Int32} (hout : ¬ vp_in i n) (hdg : decode cc pc = .ok (.baload, 1))
    (k : ∀ tx : String, tx = (toString "Index " ++ toString i ++ toString " out of bounds for length " ++ toString n : String) → vx_Note p l e R s m args below meth c H locs cells slots Q (F0 m pc ls rest) "java/lang/ArrayIndexOutOfBoundsException" tx) : W p l e R s m args below meth c H locs cells slots Q (F0 m pc ls (.int i :: .ref a :: rest)) := by
  intro T hT X
  obtain ⟨t, st, q⟩ := k _ rfl T hT X
  refine ⟨t, ?_, q⟩
  have h1 := X.baloadOut hexec (by rw [hT]; exact hP q0 _ ha) ((hK.2 t0 _ ht).1 n (fun j => .int (f j))) (j := i) (by show (i < 0 ∨ (arrV _ _ _).slots.size ≤ _); rw [arrV_size]; exact Classical.byContradiction hout) (g := F0 m pc ls (.int i :: .ref a :: rest)) rfl (rest := rest) rfl (by rw [hb]; exact hdg) t
  simp only [arrV_size] at h1
  exact h1 st
theorem vx_zastZ {D : va_G} {cl : List vw_C} {ws : va_W} {tys : List (ClassId × FieldType)} {a : Nat} (hexec : p.tables.exec = Jvm.exec) (hb : c.code = cc) (hK : va_K D cl tys s) (hP : va_P D cl ws H) (q0 t0 : Nat) {cA : ClassId} {n : Nat} {f : Nat → Int32} (ha : ws[q0]? = some (a, .inl (cA, n, .inl f))) (ht : tys[t0]? = some (cA, .boolean)) {i : Int32} {x : Int32} (hout : ¬ vp_in i n) (hdg : decode cc pc = .ok (.bastore, 1))
    (k : ∀ tx : String, tx = (toString "Index " ++ toString i ++ toString " out of bounds for length " ++ toString n : String) → vx_Note p l e R s m args below meth c H locs cells slots Q (F0 m pc ls rest) "java/lang/ArrayIndexOutOfBoundsException" tx) : W p l e R s m args below meth c H locs cells slots Q (F0 m pc ls (.int x :: .int i :: .ref a :: rest)) := by
  intro T hT X
  obtain ⟨t, st, q⟩ := k _ rfl T hT X
  refine ⟨t, ?_, q⟩
  have h1 := X.bastoreOut hexec (by rw [hT]; exact hP q0 _ ha) ((hK.2 t0 _ ht).1 n (fun j => .int (f j))) (j := i) (by show (i < 0 ∨ (arrV _ _ _).slots.size ≤ _); rw [arrV_size]; exact Classical.byContradiction hout) (g := F0 m pc ls (.int x :: .int i :: .ref a :: rest)) rfl (rest := rest) rfl (by rw [hb]; exact hdg) t
  simp only [arrV_size] at h1
  exact h1 st
theorem vx_caldZ {D : va_G} {cl : List vw_C} {ws : va_W} {tys : List (ClassId × FieldType)} {a : Nat} (hexec : p.tables.exec = Jvm.exec) (hb : c.code = cc) (hK : va_K D cl tys s) (hP : va_P D cl ws H) (q0 t0 : Nat) {cA : ClassId} {n : Nat} {f : Nat → Int32} (ha : ws[q0]? = some (a, .inl (cA, n, .inl f))) (ht : tys[t0]? = some (cA, .char)) {i : Int32} (hout : ¬ vp_in i n) (hdg : decode cc pc = .ok (.caload, 1))
    (k : ∀ tx : String, tx = (toString "Index " ++ toString i ++ toString " out of bounds for length " ++ toString n : String) → vx_Note p l e R s m args below meth c H locs cells slots Q (F0 m pc ls rest) "java/lang/ArrayIndexOutOfBoundsException" tx) : W p l e R s m args below meth c H locs cells slots Q (F0 m pc ls (.int i :: .ref a :: rest)) := by
  intro T hT X
  obtain ⟨t, st, q⟩ := k _ rfl T hT X
  refine ⟨t, ?_, q⟩
  have h1 := X.caloadOut hexec (by rw [hT]; exact hP q0 _ ha) ((hK.2 t0 _ ht).1 n (fun j => .int (f j))) (j := i) (by show (i < 0 ∨ (arrV _ _ _).slots.size ≤ _); rw [arrV_size]; exact Classical.byContradiction hout) (g := F0 m pc ls (.int i :: .ref a :: rest)) rfl (rest := rest) rfl (by rw [hb]; exact hdg) t
  simp only [arrV_size] at h1
  exact h1 st
theorem vx_castZ {D : va_G} {cl : List vw_C} {ws : va_W} {tys : List (ClassId × FieldType)} {a : Nat} (hexec : p.tables.exec = Jvm.exec) (hb : c.code = cc) (hK : va_K D cl tys s) (hP : va_P D cl ws H) (q0 t0 : Nat) {cA : ClassId} {n : Nat} {f : Nat → Int32} (ha : ws[q0]? = some (a, .inl (cA, n, .inl f))) (ht : tys[t0]? = some (cA, .char)) {i : Int32} {x : Int32} (hout : ¬ vp_in i n) (hdg : decode cc pc = .ok (.castore, 1))
    (k : ∀ tx : String, tx = (toString "Index " ++ toString i ++ toString " out of bounds for length " ++ toString n : String) → vx_Note p l e R s m args below meth c H locs cells slots Q (F0 m pc ls rest) "java/lang/ArrayIndexOutOfBoundsException" tx) : W p l e R s m args below meth c H locs cells slots Q (F0 m pc ls (.int x :: .int i :: .ref a :: rest)) := by
  intro T hT X
  obtain ⟨t, st, q⟩ := k _ rfl T hT X
  refine ⟨t, ?_, q⟩
  have h1 := X.castoreOut hexec (by rw [hT]; exact hP q0 _ ha) ((hK.2 t0 _ ht).1 n (fun j => .int (f j))) (j := i) (by show (i < 0 ∨ (arrV _ _ _).slots.size ≤ _); rw [arrV_size]; exact Classical.byContradiction hout) (g := F0 m pc ls (.int x :: .int i :: .ref a :: rest)) rfl (rest := rest) rfl (by rw [hb]; exact hdg) t
  simp only [arrV_size] at h1
  exact h1 st
theorem vx_saldZ {D : va_G} {cl : List vw_C} {ws : va_W} {tys : List (ClassId × FieldType)} {a : Nat} (hexec : p.tables.exec = Jvm.exec) (hb : c.code = cc) (hK : va_K D cl tys s) (hP : va_P D cl ws H) (q0 t0 : Nat) {cA : ClassId} {n : Nat} {f : Nat → Int32} (ha : ws[q0]? = some (a, .inl (cA, n, .inl f))) (ht : tys[t0]? = some (cA, .short)) {i : Int32} (hout : ¬ vp_in i n) (hdg : decode cc pc = .ok (.saload, 1))
    (k : ∀ tx : String, tx = (toString "Index " ++ toString i ++ toString " out of bounds for length " ++ toString n : String) → vx_Note p l e R s m args below meth c H locs cells slots Q (F0 m pc ls rest) "java/lang/ArrayIndexOutOfBoundsException" tx) : W p l e R s m args below meth c H locs cells slots Q (F0 m pc ls (.int i :: .ref a :: rest)) := by
  intro T hT X
  obtain ⟨t, st, q⟩ := k _ rfl T hT X
  refine ⟨t, ?_, q⟩
  have h1 := X.saloadOut hexec (by rw [hT]; exact hP q0 _ ha) ((hK.2 t0 _ ht).1 n (fun j => .int (f j))) (j := i) (by show (i < 0 ∨ (arrV _ _ _).slots.size ≤ _); rw [arrV_size]; exact Classical.byContradiction hout) (g := F0 m pc ls (.int i :: .ref a :: rest)) rfl (rest := rest) rfl (by rw [hb]; exact hdg) t
  simp only [arrV_size] at h1
  exact h1 st
theorem vx_sastZ {D : va_G} {cl : List vw_C} {ws : va_W} {tys : List (ClassId × FieldType)} {a : Nat} (hexec : p.tables.exec = Jvm.exec) (hb : c.code = cc) (hK : va_K D cl tys s) (hP : va_P D cl ws H) (q0 t0 : Nat) {cA : ClassId} {n : Nat} {f : Nat → Int32} (ha : ws[q0]? = some (a, .inl (cA, n, .inl f))) (ht : tys[t0]? = some (cA, .short)) {i : Int32} {x : Int32} (hout : ¬ vp_in i n) (hdg : decode cc pc = .ok (.sastore, 1))
    (k : ∀ tx : String, tx = (toString "Index " ++ toString i ++ toString " out of bounds for length " ++ toString n : String) → vx_Note p l e R s m args below meth c H locs cells slots Q (F0 m pc ls rest) "java/lang/ArrayIndexOutOfBoundsException" tx) : W p l e R s m args below meth c H locs cells slots Q (F0 m pc ls (.int x :: .int i :: .ref a :: rest)) := by
  intro T hT X
  obtain ⟨t, st, q⟩ := k _ rfl T hT X
  refine ⟨t, ?_, q⟩
  have h1 := X.sastoreOut hexec (by rw [hT]; exact hP q0 _ ha) ((hK.2 t0 _ ht).1 n (fun j => .int (f j))) (j := i) (by show (i < 0 ∨ (arrV _ _ _).slots.size ≤ _); rw [arrV_size]; exact Classical.byContradiction hout) (g := F0 m pc ls (.int x :: .int i :: .ref a :: rest)) rfl (rest := rest) rfl (by rw [hb]; exact hdg) t
  simp only [arrV_size] at h1
  exact h1 st
theorem vx_laldZ {D : va_G} {cl : List vw_C} {ws : va_W} {tys : List (ClassId × FieldType)} {a : Nat} (hexec : p.tables.exec = Jvm.exec) (hb : c.code = cc) (hK : va_K D cl tys s) (hP : va_P D cl ws H) (q0 t0 : Nat) {cA : ClassId} {n : Nat} {f : Nat → Int64} (ha : ws[q0]? = some (a, .inl (cA, n, .inr (.inl f)))) (ht : tys[t0]? = some (cA, .long)) {i : Int32} (hout : ¬ vp_in i n) (hdg : decode cc pc = .ok (.laload, 1))
    (k : ∀ tx : String, tx = (toString "Index " ++ toString i ++ toString " out of bounds for length " ++ toString n : String) → vx_Note p l e R s m args below meth c H locs cells slots Q (F0 m pc ls rest) "java/lang/ArrayIndexOutOfBoundsException" tx) : W p l e R s m args below meth c H locs cells slots Q (F0 m pc ls (.int i :: .ref a :: rest)) := by
  intro T hT X
  obtain ⟨t, st, q⟩ := k _ rfl T hT X
  refine ⟨t, ?_, q⟩
  have h1 := X.laloadOut hexec (by rw [hT]; exact hP q0 _ ha) ((hK.2 t0 _ ht).1 n (fun j => .long (f j))) (j := i) (by show (i < 0 ∨ (arrV _ _ _).slots.size ≤ _); rw [arrV_size]; exact Classical.byContradiction hout) (g := F0 m pc ls (.int i :: .ref a :: rest)) rfl (rest := rest) rfl (by rw [hb]; exact hdg) t
  simp only [arrV_size] at h1
  exact h1 st
theorem vx_lastZ {D : va_G} {cl : List vw_C} {ws : va_W} {tys : List (ClassId × FieldType)} {a : Nat} (hexec : p.tables.exec = Jvm.exec) (hb : c.code = cc) (hK : va_K D cl tys s) (hP : va_P D cl ws H) (q0 t0 : Nat) {cA : ClassId} {n : Nat} {f : Nat → Int64} (ha : ws[q0]? = some (a, .inl (cA, n, .inr (.inl f)))) (ht : tys[t0]? = some (cA, .long)) {i : Int32} {x : Int64} (hout : ¬ vp_in i n) (hdg : decode cc pc = .ok (.lastore, 1))
    (k : ∀ tx : String, tx = (toString "Index " ++ toString i ++ toString " out of bounds for length " ++ toString n : String) → vx_Note p l e R s m args below meth c H locs cells slots Q (F0 m pc ls rest) "java/lang/ArrayIndexOutOfBoundsException" tx) : W p l e R s m args below meth c H locs cells slots Q (F0 m pc ls (.long x :: .int i :: .ref a :: rest)) := by
  intro T hT X
  obtain ⟨t, st, q⟩ := k _ rfl T hT X
  refine ⟨t, ?_, q⟩
  have h1 := X.lastoreOut hexec (by rw [hT]; exact hP q0 _ ha) ((hK.2 t0 _ ht).1 n (fun j => .long (f j))) (j := i) (by show (i < 0 ∨ (arrV _ _ _).slots.size ≤ _); rw [arrV_size]; exact Classical.byContradiction hout) (g := F0 m pc ls (.long x :: .int i :: .ref a :: rest)) rfl (rest := rest) rfl (by rw [hb]; exact hdg) t
  simp only [arrV_size] at h1
  exact h1 st
theorem vx_faldZ {D : va_G} {cl : List vw_C} {ws : va_W} {tys : List (ClassId × FieldType)} {a : Nat} (hexec : p.tables.exec = Jvm.exec) (hb : c.code = cc) (hK : va_K D cl tys s) (hP : va_P D cl ws H) (q0 t0 : Nat) {cA : ClassId} {n : Nat} {f : Nat → UInt32} (ha : ws[q0]? = some (a, .inl (cA, n, .inr (.inr (.inl f))))) (ht : tys[t0]? = some (cA, .float)) {i : Int32} (hout : ¬ vp_in i n) (hdg : decode cc pc = .ok (.faload, 1))
    (k : ∀ tx : String, tx = (toString "Index " ++ toString i ++ toString " out of bounds for length " ++ toString n : String) → vx_Note p l e R s m args below meth c H locs cells slots Q (F0 m pc ls rest) "java/lang/ArrayIndexOutOfBoundsException" tx) : W p l e R s m args below meth c H locs cells slots Q (F0 m pc ls (.int i :: .ref a :: rest)) := by
  intro T hT X
  obtain ⟨t, st, q⟩ := k _ rfl T hT X
  refine ⟨t, ?_, q⟩
  have h1 := X.faloadOut hexec (by rw [hT]; exact hP q0 _ ha) ((hK.2 t0 _ ht).1 n (fun j => .float (f j))) (j := i) (by show (i < 0 ∨ (arrV _ _ _).slots.size ≤ _); rw [arrV_size]; exact Classical.byContradiction hout) (g := F0 m pc ls (.int i :: .ref a :: rest)) rfl (rest := rest) rfl (by rw [hb]; exact hdg) t
  simp only [arrV_size] at h1
  exact h1 st
theorem vx_fastZ {D : va_G} {cl : List vw_C} {ws : va_W} {tys : List (ClassId × FieldType)} {a : Nat} (hexec : p.tables.exec = Jvm.exec) (hb : c.code = cc) (hK : va_K D cl tys s) (hP : va_P D cl ws H) (q0 t0 : Nat) {cA : ClassId} {n : Nat} {f : Nat → UInt32} (ha : ws[q0]? = some (a, .inl (cA, n, .inr (.inr (.inl f))))) (ht : tys[t0]? = some (cA, .float)) {i : Int32} {x : UInt32} (hout : ¬ vp_in i n) (hdg : decode cc pc = .ok (.fastore, 1))
    (k : ∀ tx : String, tx = (toString "Index " ++ toString i ++ toString " out of bounds for length " ++ toString n : String) → vx_Note p l e R s m args below meth c H locs cells slots Q (F0 m pc ls rest) "java/lang/ArrayIndexOutOfBoundsException" tx) : W p l e R s m args below meth c H locs cells slots Q (F0 m pc ls (.float x :: .int i :: .ref a :: rest)) := by
  intro T hT X
  obtain ⟨t, st, q⟩ := k _ rfl T hT X
  refine ⟨t, ?_, q⟩
  have h1 := X.fastoreOut hexec (by rw [hT]; exact hP q0 _ ha) ((hK.2 t0 _ ht).1 n (fun j => .float (f j))) (j := i) (by show (i < 0 ∨ (arrV _ _ _).slots.size ≤ _); rw [arrV_size]; exact Classical.byContradiction hout) (g := F0 m pc ls (.float x :: .int i :: .ref a :: rest)) rfl (rest := rest) rfl (by rw [hb]; exact hdg) t
  simp only [arrV_size] at h1
  exact h1 st
theorem vx_daldZ {D : va_G} {cl : List vw_C} {ws : va_W} {tys : List (ClassId × FieldType)} {a : Nat} (hexec : p.tables.exec = Jvm.exec) (hb : c.code = cc) (hK : va_K D cl tys s) (hP : va_P D cl ws H) (q0 t0 : Nat) {cA : ClassId} {n : Nat} {f : Nat → UInt64} (ha : ws[q0]? = some (a, .inl (cA, n, .inr (.inr (.inr (.inl f)))))) (ht : tys[t0]? = some (cA, .double)) {i : Int32} (hout : ¬ vp_in i n) (hdg : decode cc pc = .ok (.daload, 1))
    (k : ∀ tx : String, tx = (toString "Index " ++ toString i ++ toString " out of bounds for length " ++ toString n : String) → vx_Note p l e R s m args below meth c H locs cells slots Q (F0 m pc ls rest) "java/lang/ArrayIndexOutOfBoundsException" tx) : W p l e R s m args below meth c H locs cells slots Q (F0 m pc ls (.int i :: .ref a :: rest)) := by
  intro T hT X
  obtain ⟨t, st, q⟩ := k _ rfl T hT X
  refine ⟨t, ?_, q⟩
  have h1 := X.daloadOut hexec (by rw [hT]; exact hP q0 _ ha) ((hK.2 t0 _ ht).1 n (fun j => .double (f j))) (j := i) (by show (i < 0 ∨ (arrV _ _ _).slots.size ≤ _); rw [arrV_size]; exact Classical.byContradiction hout) (g := F0 m pc ls (.int i :: .ref a :: rest)) rfl (rest := rest) rfl (by rw [hb]; exact hdg) t
  simp only [arrV_size] at h1
  exact h1 st
theorem vx_dastZ {D : va_G} {cl : List vw_C} {ws : va_W} {tys : List (ClassId × FieldType)} {a : Nat} (hexec : p.tables.exec = Jvm.exec) (hb : c.code = cc) (hK : va_K D cl tys s) (hP : va_P D cl ws H) (q0 t0 : Nat) {cA : ClassId} {n : Nat} {f : Nat → UInt64} (ha : ws[q0]? = some (a, .inl (cA, n, .inr (.inr (.inr (.inl f)))))) (ht : tys[t0]? = some (cA, .double)) {i : Int32} {x : UInt64} (hout : ¬ vp_in i n) (hdg : decode cc pc = .ok (.dastore, 1))
    (k : ∀ tx : String, tx = (toString "Index " ++ toString i ++ toString " out of bounds for length " ++ toString n : String) → vx_Note p l e R s m args below meth c H locs cells slots Q (F0 m pc ls rest) "java/lang/ArrayIndexOutOfBoundsException" tx) : W p l e R s m args below meth c H locs cells slots Q (F0 m pc ls (.double x :: .int i :: .ref a :: rest)) := by
  intro T hT X
  obtain ⟨t, st, q⟩ := k _ rfl T hT X
  refine ⟨t, ?_, q⟩
  have h1 := X.dastoreOut hexec (by rw [hT]; exact hP q0 _ ha) ((hK.2 t0 _ ht).1 n (fun j => .double (f j))) (j := i) (by show (i < 0 ∨ (arrV _ _ _).slots.size ≤ _); rw [arrV_size]; exact Classical.byContradiction hout) (g := F0 m pc ls (.double x :: .int i :: .ref a :: rest)) rfl (rest := rest) rfl (by rw [hb]; exact hdg) t
  simp only [arrV_size] at h1
  exact h1 st
theorem vx_arraylengthN (hexec : p.tables.exec = Jvm.exec) (hb : c.code = cc) (hdg : decode cc pc = .ok (.arraylength, 1)) (k : vx_NoteN p l e R s m args below meth c H locs cells slots Q (F0 m pc ls rest)) : W p l e R s m args below meth c H locs cells slots Q (F0 m pc ls (.null :: rest)) := by
  intro T hT X
  obtain ⟨t, st, q⟩ := k T hT X
  exact ⟨t, X.arraylengthNull hexec (g := F0 m pc ls (.null :: rest)) rfl (rest := rest) rfl (by rw [hb]; exact hdg) t st, q⟩
theorem vx_ialoadN (hexec : p.tables.exec = Jvm.exec) (hb : c.code = cc) {i : Int32} (hdg : decode cc pc = .ok (.iaload, 1)) (k : vx_NoteN p l e R s m args below meth c H locs cells slots Q (F0 m pc ls rest)) : W p l e R s m args below meth c H locs cells slots Q (F0 m pc ls (.int i :: .null :: rest)) := by
  intro T hT X
  obtain ⟨t, st, q⟩ := k T hT X
  exact ⟨t, X.ialoadNull hexec (g := F0 m pc ls (.int i :: .null :: rest)) rfl (rest := rest) rfl (by rw [hb]; exact hdg) t st, q⟩
theorem vx_laloadN (hexec : p.tables.exec = Jvm.exec) (hb : c.code = cc) {i : Int32} (hdg : decode cc pc = .ok (.laload, 1)) (k : vx_NoteN p l e R s m args below meth c H locs cells slots Q (F0 m pc ls rest)) : W p l e R s m args below meth c H locs cells slots Q (F0 m pc ls (.int i :: .null :: rest)) := by
  intro T hT X
  obtain ⟨t, st, q⟩ := k T hT X
  exact ⟨t, X.laloadNull hexec (g := F0 m pc ls (.int i :: .null :: rest)) rfl (rest := rest) rfl (by rw [hb]; exact hdg) t st, q⟩
theorem vx_faloadN (hexec : p.tables.exec = Jvm.exec) (hb : c.code = cc) {i : Int32} (hdg : decode cc pc = .ok (.faload, 1)) (k : vx_NoteN p l e R s m args below meth c H locs cells slots Q (F0 m pc ls rest)) : W p l e R s m args below meth c H locs cells slots Q (F0 m pc ls (.int i :: .null :: rest)) := by
  intro T hT X
  obtain ⟨t, st, q⟩ := k T hT X
  exact ⟨t, X.faloadNull hexec (g := F0 m pc ls (.int i :: .null :: rest)) rfl (rest := rest) rfl (by rw [hb]; exact hdg) t st, q⟩
theorem vx_daloadN (hexec : p.tables.exec = Jvm.exec) (hb : c.code = cc) {i : Int32} (hdg : decode cc pc = .ok (.daload, 1)) (k : vx_NoteN p l e R s m args below meth c H locs cells slots Q (F0 m pc ls rest)) : W p l e R s m args below meth c H locs cells slots Q (F0 m pc ls (.int i :: .null :: rest)) := by
  intro T hT X
  obtain ⟨t, st, q⟩ := k T hT X
  exact ⟨t, X.daloadNull hexec (g := F0 m pc ls (.int i :: .null :: rest)) rfl (rest := rest) rfl (by rw [hb]; exact hdg) t st, q⟩
theorem vx_aaloadN (hexec : p.tables.exec = Jvm.exec) (hb : c.code = cc) {i : Int32} (hdg : decode cc pc = .ok (.aaload, 1)) (k : vx_NoteN p l e R s m args below meth c H locs cells slots Q (F0 m pc ls rest)) : W p l e R s m args below meth c H locs cells slots Q (F0 m pc ls (.int i :: .null :: rest)) := by
  intro T hT X
  obtain ⟨t, st, q⟩ := k T hT X
  exact ⟨t, X.aaloadNull hexec (g := F0 m pc ls (.int i :: .null :: rest)) rfl (rest := rest) rfl (by rw [hb]; exact hdg) t st, q⟩
theorem vx_baloadN (hexec : p.tables.exec = Jvm.exec) (hb : c.code = cc) {i : Int32} (hdg : decode cc pc = .ok (.baload, 1)) (k : vx_NoteN p l e R s m args below meth c H locs cells slots Q (F0 m pc ls rest)) : W p l e R s m args below meth c H locs cells slots Q (F0 m pc ls (.int i :: .null :: rest)) := by
  intro T hT X
  obtain ⟨t, st, q⟩ := k T hT X
  exact ⟨t, X.baloadNull hexec (g := F0 m pc ls (.int i :: .null :: rest)) rfl (rest := rest) rfl (by rw [hb]; exact hdg) t st, q⟩
theorem vx_caloadN (hexec : p.tables.exec = Jvm.exec) (hb : c.code = cc) {i : Int32} (hdg : decode cc pc = .ok (.caload, 1)) (k : vx_NoteN p l e R s m args below meth c H locs cells slots Q (F0 m pc ls rest)) : W p l e R s m args below meth c H locs cells slots Q (F0 m pc ls (.int i :: .null :: rest)) := by
  intro T hT X
  obtain ⟨t, st, q⟩ := k T hT X
  exact ⟨t, X.caloadNull hexec (g := F0 m pc ls (.int i :: .null :: rest)) rfl (rest := rest) rfl (by rw [hb]; exact hdg) t st, q⟩
theorem vx_saloadN (hexec : p.tables.exec = Jvm.exec) (hb : c.code = cc) {i : Int32} (hdg : decode cc pc = .ok (.saload, 1)) (k : vx_NoteN p l e R s m args below meth c H locs cells slots Q (F0 m pc ls rest)) : W p l e R s m args below meth c H locs cells slots Q (F0 m pc ls (.int i :: .null :: rest)) := by
  intro T hT X
  obtain ⟨t, st, q⟩ := k T hT X
  exact ⟨t, X.saloadNull hexec (g := F0 m pc ls (.int i :: .null :: rest)) rfl (rest := rest) rfl (by rw [hb]; exact hdg) t st, q⟩
theorem vx_iastoreN (hexec : p.tables.exec = Jvm.exec) (hb : c.code = cc) {x : Int32} {i : Int32} (hdg : decode cc pc = .ok (.iastore, 1)) (k : vx_NoteN p l e R s m args below meth c H locs cells slots Q (F0 m pc ls rest)) : W p l e R s m args below meth c H locs cells slots Q (F0 m pc ls (.int x :: .int i :: .null :: rest)) := by
  intro T hT X
  obtain ⟨t, st, q⟩ := k T hT X
  exact ⟨t, X.iastoreNull hexec (g := F0 m pc ls (.int x :: .int i :: .null :: rest)) rfl (rest := rest) rfl (by rw [hb]; exact hdg) t st, q⟩
theorem vx_lastoreN (hexec : p.tables.exec = Jvm.exec) (hb : c.code = cc) {x : Int64} {i : Int32} (hdg : decode cc pc = .ok (.lastore, 1)) (k : vx_NoteN p l e R s m args below meth c H locs cells slots Q (F0 m pc ls rest)) : W p l e R s m args below meth c H locs cells slots Q (F0 m pc ls (.long x :: .int i :: .null :: rest)) := by
  intro T hT X
  obtain ⟨t, st, q⟩ := k T hT X
  exact ⟨t, X.lastoreNull hexec (g := F0 m pc ls (.long x :: .int i :: .null :: rest)) rfl (rest := rest) rfl (by rw [hb]; exact hdg) t st, q⟩
theorem vx_fastoreN (hexec : p.tables.exec = Jvm.exec) (hb : c.code = cc) {x : UInt32} {i : Int32} (hdg : decode cc pc = .ok (.fastore, 1)) (k : vx_NoteN p l e R s m args below meth c H locs cells slots Q (F0 m pc ls rest)) : W p l e R s m args below meth c H locs cells slots Q (F0 m pc ls (.float x :: .int i :: .null :: rest)) := by
  intro T hT X
  obtain ⟨t, st, q⟩ := k T hT X
  exact ⟨t, X.fastoreNull hexec (g := F0 m pc ls (.float x :: .int i :: .null :: rest)) rfl (rest := rest) rfl (by rw [hb]; exact hdg) t st, q⟩
theorem vx_dastoreN (hexec : p.tables.exec = Jvm.exec) (hb : c.code = cc) {x : UInt64} {i : Int32} (hdg : decode cc pc = .ok (.dastore, 1)) (k : vx_NoteN p l e R s m args below meth c H locs cells slots Q (F0 m pc ls rest)) : W p l e R s m args below meth c H locs cells slots Q (F0 m pc ls (.double x :: .int i :: .null :: rest)) := by
  intro T hT X
  obtain ⟨t, st, q⟩ := k T hT X
  exact ⟨t, X.dastoreNull hexec (g := F0 m pc ls (.double x :: .int i :: .null :: rest)) rfl (rest := rest) rfl (by rw [hb]; exact hdg) t st, q⟩
theorem vx_bastoreN (hexec : p.tables.exec = Jvm.exec) (hb : c.code = cc) {x : Int32} {i : Int32} (hdg : decode cc pc = .ok (.bastore, 1)) (k : vx_NoteN p l e R s m args below meth c H locs cells slots Q (F0 m pc ls rest)) : W p l e R s m args below meth c H locs cells slots Q (F0 m pc ls (.int x :: .int i :: .null :: rest)) := by
  intro T hT X
  obtain ⟨t, st, q⟩ := k T hT X
  exact ⟨t, X.bastoreNull hexec (g := F0 m pc ls (.int x :: .int i :: .null :: rest)) rfl (rest := rest) rfl (by rw [hb]; exact hdg) t st, q⟩
theorem vx_castoreN (hexec : p.tables.exec = Jvm.exec) (hb : c.code = cc) {x : Int32} {i : Int32} (hdg : decode cc pc = .ok (.castore, 1)) (k : vx_NoteN p l e R s m args below meth c H locs cells slots Q (F0 m pc ls rest)) : W p l e R s m args below meth c H locs cells slots Q (F0 m pc ls (.int x :: .int i :: .null :: rest)) := by
  intro T hT X
  obtain ⟨t, st, q⟩ := k T hT X
  exact ⟨t, X.castoreNull hexec (g := F0 m pc ls (.int x :: .int i :: .null :: rest)) rfl (rest := rest) rfl (by rw [hb]; exact hdg) t st, q⟩
theorem vx_sastoreN (hexec : p.tables.exec = Jvm.exec) (hb : c.code = cc) {x : Int32} {i : Int32} (hdg : decode cc pc = .ok (.sastore, 1)) (k : vx_NoteN p l e R s m args below meth c H locs cells slots Q (F0 m pc ls rest)) : W p l e R s m args below meth c H locs cells slots Q (F0 m pc ls (.int x :: .int i :: .null :: rest)) := by
  intro T hT X
  obtain ⟨t, st, q⟩ := k T hT X
  exact ⟨t, X.sastoreNull hexec (g := F0 m pc ls (.int x :: .int i :: .null :: rest)) rfl (rest := rest) rfl (by rw [hb]; exact hdg) t st, q⟩
theorem vx_invokeN {own C : String} {index maxL : Nat} {y : MethodName} {bytes : ByteArray} {ret : Option FieldType} (hexec : p.tables.exec = Jvm.exec) (hb : c.code = cc) (hown : s.vm.findClass own = some m.cls) (hlink : (Cond.methodLink own index y).before args s = true) (hinst : (Cond.instanceMethod y).before args s = true) (hcode : (Cond.code y bytes maxL ret).before args s = true) (hsel : (Cond.selects C y y).before args s = true)
    (hx : y.cls ≠ "java/lang/invoke/MethodHandle" ∧ y.cls ≠ "java/lang/invoke/VarHandle") {As : List Value} (hlen : (parseMethodDescriptor y.desc).map (fun d => d.parameters.length) = some As.length) (hdg : decode cc pc = .ok (.invokevirtual index, 3))
    (k : vx_NoteN p l e R s m args below meth c H locs cells slots Q (F0 m pc ls rest)) {st0 : List Value} (hst : st0 = As.reverse ++ .null :: rest) : W p l e R s m args below meth c H locs cells slots Q (F0 m pc ls st0) := by
  intro T hT X
  obtain ⟨r0, r, hn, hrm, hstR, hsigR⟩ := va_Decl.of hinst hcode
  obtain ⟨c2, r2, m2, q1, q2, q3, q4, kP, hkP, hkPi⟩ := Cond.selects_spec hsel
  cases hn.symm.trans q3
  have hl9 : As.length = r.sig.parameters.length := by
    rw [hsigR] at hlen
    exact (Option.some.inj hlen).symm
  obtain ⟨vm', X1, st1⟩ := X.invokevirtualNull hexec hown hlink hn hrm hstR hkP hkPi hx (g := F0 m pc ls st0) rfl (argsL := As) (rest := rest) hl9 hst (by rw [hb]; exact hdg)
  obtain ⟨t, st, q⟩ := k (T.setVm vm') hT X1
  exact ⟨t, st1 t st, q⟩
theorem vx_newarrayZ {atype : ArrayType} (hexec : p.tables.exec = Jvm.exec) (hb : c.code = cc) {n : Int32} (h0 : n < 0) (hdg : decode cc pc = .ok (.newarray atype, 2)) (k : ∀ tx : String, tx = toString n → vx_Note p l e R s m args below meth c H locs cells slots Q (F0 m pc ls rest) "java/lang/NegativeArraySizeException" tx) : W p l e R s m args below meth c H locs cells slots Q (F0 m pc ls (.int n :: rest)) := by
  intro T hT X
  obtain ⟨t, st, q⟩ := k _ rfl T hT X
  exact ⟨t, X.newarrayNegative hexec (g := F0 m pc ls (.int n :: rest)) rfl h0 (rest := rest) rfl (by rw [hb]; exact hdg) t st, q⟩
end
end VXM
/-! ===== END ===== -/
end
section
/-! ===== BEGIN printed: names, fields, word lists, decode rows ===== -/
def RX0 : String := "RunClasses$1"
def TX0 : u_T := fun k => match k with
  | _ => ("", "", "", false)
def tyX0 : Nat → FieldType := fun k => match k with
  | _ => .int
abbrev wsX00 : List Cond := u_ws RX0 TX0 0
theorem nmX0 : ∀ a, a < 0 → ∀ b, b < 0 → a ≠ b → (TX0 a).2.1 ≠ (TX0 b).2.1 := by decide +kernel
theorem tyX0_ok : ∀ k, k < 0 → parseFieldDescriptor (TX0 k).2.2.1 = some (tyX0 k) := by decide +kernel
def RX1 : String := "RunClasses$Controller"
def TX1 : u_T := fun k => match k with
  | 0 => ("RunClasses$Controller", "ports", "[J", true)
  | 1 => ("RunClasses$Controller", "classes", "[LRunClasses$Loaded;", true)
  | 2 => ("RunClasses$Controller", "up", "Z", false)
  | 3 => ("RunClasses$Controller", "reaction", "I", false)
  | 4 => ("RunClasses$Controller", "faultKind", "I", false)
  | 5 => ("RunClasses$Controller", "faultRunnable", "I", false)
  | 6 => ("RunClasses$Controller", "faultSteps", "I", false)
  | 7 => ("RunClasses$Controller", "faultGiven", "I", false)
  | _ => ("RunClasses$Controller", "faults", "I", false)
def tyX1 : Nat → FieldType := fun k => match k with
  | 0 => .array .long
  | 1 => .array (.object "RunClasses$Loaded")
  | 2 => .boolean
  | 3 => .int
  | 4 => .int
  | 5 => .int
  | 6 => .int
  | 7 => .int
  | _ => .int
abbrev wsX10 : List Cond := u_ws RX1 TX1 9
theorem nmX1 : ∀ a, a < 9 → ∀ b, b < 9 → a ≠ b → (TX1 a).2.1 ≠ (TX1 b).2.1 := by decide +kernel
theorem tyX1_ok : ∀ k, k < 9 → parseFieldDescriptor (TX1 k).2.2.1 = some (tyX1 k) := by decide +kernel
abbrev cX1_init : ByteArray := prog_3_method_1_code
def yX1_init : MethodName := ⟨RX1, "<init>", "()V"⟩
abbrev cX1_classOf : ByteArray := prog_3_method_2_code
def yX1_classOf : MethodName := ⟨RX1, "classOf", "(I)LRunClasses$Loaded;"⟩
abbrev cX1_load : ByteArray := prog_3_method_3_code
def yX1_load : MethodName := ⟨RX1, "load", "(ILRunClasses$Loaded;)V"⟩
def RX2 : String := "RunClasses$Edition"
def TX2 : u_T := fun k => match k with
  | 0 => ("RunClasses$Edition", "number", "I", true)
  | 1 => ("RunClasses$Edition", "octets", "[B", true)
  | 2 => ("RunClasses$Edition", "startCode", "[B", true)
  | _ => ("RunClasses$Edition", "runCode", "[B", true)
def tyX2 : Nat → FieldType := fun k => match k with
  | 0 => .int
  | 1 => .array .byte
  | 2 => .array .byte
  | _ => .array .byte
abbrev wsX20 : List Cond := u_ws RX2 TX2 4
theorem nmX2 : ∀ a, a < 4 → ∀ b, b < 4 → a ≠ b → (TX2 a).2.1 ≠ (TX2 b).2.1 := by decide +kernel
theorem tyX2_ok : ∀ k, k < 4 → parseFieldDescriptor (TX2 k).2.2.1 = some (tyX2 k) := by decide +kernel
abbrev cX2_init : ByteArray := prog_4_method_1_code
def yX2_init : MethodName := ⟨RX2, "<init>", "(I[B[B[B)V"⟩
def RX3 : String := "RunClasses$Instruction"
def TX3 : u_T := fun k => match k with
  | _ => ("", "", "", false)
def tyX3 : Nat → FieldType := fun k => match k with
  | _ => .int
abbrev wsX30 : List Cond := u_ws RX3 TX3 0
theorem nmX3 : ∀ a, a < 0 → ∀ b, b < 0 → a ≠ b → (TX3 a).2.1 ≠ (TX3 b).2.1 := by decide +kernel
theorem tyX3_ok : ∀ k, k < 0 → parseFieldDescriptor (TX3 k).2.2.1 = some (tyX3 k) := by decide +kernel
def RX4 : String := "RunClasses$Loaded"
def TX4 : u_T := fun k => match k with
  | 0 => ("RunClasses$Loaded", "cells", "[J", true)
  | 1 => ("RunClasses$Loaded", "edition", "I", false)
  | 2 => ("RunClasses$Loaded", "handle", "I", false)
  | _ => ("RunClasses$Loaded", "stopped", "Z", false)
def tyX4 : Nat → FieldType := fun k => match k with
  | 0 => .array .long
  | 1 => .int
  | 2 => .int
  | _ => .boolean
abbrev wsX40 : List Cond := u_ws RX4 TX4 4
theorem nmX4 : ∀ a, a < 4 → ∀ b, b < 4 → a ≠ b → (TX4 a).2.1 ≠ (TX4 b).2.1 := by decide +kernel
theorem tyX4_ok : ∀ k, k < 4 → parseFieldDescriptor (TX4 k).2.2.1 = some (tyX4 k) := by decide +kernel
abbrev cX4_init : ByteArray := prog_6_method_1_code
def yX4_init : MethodName := ⟨RX4, "<init>", "(I)V"⟩
abbrev cX4_becomeAnew : ByteArray := prog_6_method_2_code
def yX4_becomeAnew : MethodName := ⟨RX4, "becomeAnew", "(II)V"⟩
def RX5 : String := "RunClasses$Way"
def TX5 : u_T := fun k => match k with
  | 0 => ("RunClasses$Way", "pile", "[J", true)
  | 1 => ("RunClasses$Way", "copiedPorts", "[J", true)
  | 2 => ("RunClasses$Way", "copiedCells", "[J", true)
  | 3 => ("RunClasses$Way", "code", "[B", false)
  | 4 => ("RunClasses$Way", "ports", "[J", false)
  | 5 => ("RunClasses$Way", "cells", "[J", false)
  | 6 => ("RunClasses$Way", "height", "I", false)
  | 7 => ("RunClasses$Way", "at", "I", false)
  | 8 => ("RunClasses$Way", "steps", "I", false)
  | 9 => ("RunClasses$Way", "given", "I", false)
  | _ => ("RunClasses$Way", "handle", "I", false)
def tyX5 : Nat → FieldType := fun k => match k with
  | 0 => .array .long
  | 1 => .array .long
  | 2 => .array .long
  | 3 => .array .byte
  | 4 => .array .long
  | 5 => .array .long
  | 6 => .int
  | 7 => .int
  | 8 => .int
  | 9 => .int
  | _ => .int
abbrev wsX50 : List Cond := u_ws RX5 TX5 11
theorem nmX5 : ∀ a, a < 11 → ∀ b, b < 11 → a ≠ b → (TX5 a).2.1 ≠ (TX5 b).2.1 := by decide +kernel
theorem tyX5_ok : ∀ k, k < 11 → parseFieldDescriptor (TX5 k).2.2.1 = some (tyX5 k) := by decide +kernel
abbrev cX5_init : ByteArray := prog_7_method_1_code
def yX5_init : MethodName := ⟨RX5, "<init>", "()V"⟩
abbrev cX5_goOnCopies : ByteArray := prog_7_method_2_code
def yX5_goOnCopies : MethodName := ⟨RX5, "goOnCopies", "([B[J[JI)I"⟩
abbrev cX5_go : ByteArray := prog_7_method_3_code
def yX5_go : MethodName := ⟨RX5, "go", "([B[J[JI)I"⟩
abbrev cX5_step : ByteArray := prog_7_method_4_code
def yX5_step : MethodName := ⟨RX5, "step", "()I"⟩
abbrev cX5_doIt : ByteArray := prog_7_method_5_code
def yX5_doIt : MethodName := ⟨RX5, "doIt", "(LRunClasses$Instruction;I)I"⟩
abbrev cX5_divides : ByteArray := prog_7_method_6_code
def yX5_divides : MethodName := ⟨RX5, "divides", "(LRunClasses$Instruction;)Z"⟩
abbrev cX5_reckoned : ByteArray := prog_7_method_7_code
def yX5_reckoned : MethodName := ⟨RX5, "reckoned", "(LRunClasses$Instruction;JJ)J"⟩
abbrev cX5_goOnAt : ByteArray := prog_7_method_8_code
def yX5_goOnAt : MethodName := ⟨RX5, "goOnAt", "(I)I"⟩
abbrev cX5_lay : ByteArray := prog_7_method_9_code
def yX5_lay : MethodName := ⟨RX5, "lay", "(J)I"⟩
abbrev cX5_take : ByteArray := prog_7_method_10_code
def yX5_take : MethodName := ⟨RX5, "take", "()J"⟩
def RX6 : String := "RunClasses"
def TX6 : u_T := fun k => match k with
  | 0 => ("RunClasses", "budget", "I", true)
  | 1 => ("RunClasses", "controllers", "[LRunClasses$Controller;", true)
  | 2 => ("RunClasses", "newestEditions", "[LRunClasses$Edition;", true)
  | 3 => ("RunClasses", "way", "LRunClasses$Way;", true)
  | 4 => ("RunClasses", "underWay", "[B", true)
  | 5 => ("RunClasses", "underWayLength", "I", false)
  | 6 => ("RunClasses", "runnables", "I", false)
  | _ => ("RunClasses", "refusals", "I", false)
def tyX6 : Nat → FieldType := fun k => match k with
  | 0 => .int
  | 1 => .array (.object "RunClasses$Controller")
  | 2 => .array (.object "RunClasses$Edition")
  | 3 => .object "RunClasses$Way"
  | 4 => .array .byte
  | 5 => .int
  | 6 => .int
  | _ => .int
abbrev wsX60 : List Cond := u_ws RX6 TX6 8
theorem nmX6 : ∀ a, a < 8 → ∀ b, b < 8 → a ≠ b → (TX6 a).2.1 ≠ (TX6 b).2.1 := by decide +kernel
theorem tyX6_ok : ∀ k, k < 8 → parseFieldDescriptor (TX6 k).2.2.1 = some (tyX6 k) := by decide +kernel
abbrev cX6_init : ByteArray := prog_1_method_1_code
def yX6_init : MethodName := ⟨RX6, "<init>", "(I)V"⟩
abbrev cX6_file : ByteArray := prog_1_method_2_code
def yX6_file : MethodName := ⟨RX6, "file", "(JI)I"⟩
abbrev cX6_runnable : ByteArray := prog_1_method_3_code
def yX6_runnable : MethodName := ⟨RX6, "runnable", "(I)I"⟩
abbrev cX6_make : ByteArray := prog_1_method_4_code
def yX6_make : MethodName := ⟨RX6, "make", "(II)I"⟩
abbrev cX6_power : ByteArray := prog_1_method_5_code
def yX6_power : MethodName := ⟨RX6, "power", "(I)I"⟩
abbrev cX6_run : ByteArray := prog_1_method_6_code
def yX6_run : MethodName := ⟨RX6, "run", "(II)I"⟩
abbrev cX6_beside : ByteArray := prog_1_method_7_code
def yX6_beside : MethodName := ⟨RX6, "beside", "(II)I"⟩
abbrev cX6_port : ByteArray := prog_1_method_8_code
def yX6_port : MethodName := ⟨RX6, "port", "(II)J"⟩
abbrev cX6_set : ByteArray := prog_1_method_9_code
def yX6_set : MethodName := ⟨RX6, "set", "(IIJ)I"⟩
abbrev cX6_cell : ByteArray := prog_1_method_10_code
def yX6_cell : MethodName := ⟨RX6, "cell", "(III)J"⟩
abbrev cX6_reaction : ByteArray := prog_1_method_11_code
def yX6_reaction : MethodName := ⟨RX6, "reaction", "(II)I"⟩
abbrev cX6_update : ByteArray := prog_1_method_12_code
def yX6_update : MethodName := ⟨RX6, "update", "(II)I"⟩
abbrev cX6_reset : ByteArray := prog_1_method_13_code
def yX6_reset : MethodName := ⟨RX6, "reset", "(I)I"⟩
abbrev cX6_fault : ByteArray := prog_1_method_14_code
def yX6_fault : MethodName := ⟨RX6, "fault", "(II)I"⟩
abbrev cX6_same : ByteArray := prog_1_method_15_code
def yX6_same : MethodName := ⟨RX6, "same", "(III)Z"⟩
abbrev cX6_handle : ByteArray := prog_1_method_16_code
def yX6_handle : MethodName := ⟨RX6, "handle", "(II)I"⟩
abbrev cX6_octet : ByteArray := prog_1_method_17_code
def yX6_octet : MethodName := ⟨RX6, "octet", "(II)B"⟩
abbrev cX6_divide : ByteArray := prog_1_method_18_code
def yX6_divide : MethodName := ⟨RX6, "divide", "(JJ)J"⟩
abbrev cX6_refused : ByteArray := prog_1_method_19_code
def yX6_refused : MethodName := ⟨RX6, "refused", "()I"⟩
abbrev cX6_refuse : ByteArray := prog_1_method_20_code
def yX6_refuse : MethodName := ⟨RX6, "refuse", "(I)I"⟩
abbrev cX6_controllerAt : ByteArray := prog_1_method_21_code
def yX6_controllerAt : MethodName := ⟨RX6, "controllerAt", "(I)LRunClasses$Controller;"⟩
abbrev cX6_newestOf : ByteArray := prog_1_method_22_code
def yX6_newestOf : MethodName := ⟨RX6, "newestOf", "(I)LRunClasses$Edition;"⟩
abbrev cX6_classAt : ByteArray := prog_1_method_23_code
def yX6_classAt : MethodName := ⟨RX6, "classAt", "(II)LRunClasses$Loaded;"⟩
abbrev cX6_putOctet : ByteArray := prog_1_method_24_code
def yX6_putOctet : MethodName := ⟨RX6, "putOctet", "(B)V"⟩
abbrev cX6_addRunnable : ByteArray := prog_1_method_25_code
def yX6_addRunnable : MethodName := ⟨RX6, "addRunnable", "()I"⟩
abbrev cX6_addEdition : ByteArray := prog_1_method_26_code
def yX6_addEdition : MethodName := ⟨RX6, "addEdition", "(II)I"⟩
abbrev cX6_keepEdition : ByteArray := prog_1_method_27_code
def yX6_keepEdition : MethodName := ⟨RX6, "keepEdition", "(II)V"⟩
abbrev cX6_callStart : ByteArray := prog_1_method_28_code
def yX6_callStart : MethodName := ⟨RX6, "callStart", "(LRunClasses$Controller;I)I"⟩
abbrev cX6_callRun : ByteArray := prog_1_method_29_code
def yX6_callRun : MethodName := ⟨RX6, "callRun", "(IIZ)I"⟩
abbrev cX6_call : ByteArray := prog_1_method_30_code
def yX6_call : MethodName := ⟨RX6, "call", "(LRunClasses$Controller;LRunClasses$Loaded;I[B)I"⟩
abbrev cX6_react : ByteArray := prog_1_method_31_code
def yX6_react : MethodName := ⟨RX6, "react", "(LRunClasses$Controller;LRunClasses$Loaded;)V"⟩
abbrev cX6_isRight : ByteArray := prog_1_method_32_code
def yX6_isRight : MethodName := ⟨RX6, "isRight", "([BI)Z"⟩
abbrev cX6_codeOf : ByteArray := prog_1_method_33_code
def yX6_codeOf : MethodName := ⟨RX6, "codeOf", "([BI)[B"⟩
abbrev cX6_copyOf : ByteArray := prog_1_method_34_code
def yX6_copyOf : MethodName := ⟨RX6, "copyOf", "([BII)[B"⟩
abbrev cX6_octetAt : ByteArray := prog_1_method_35_code
def yX6_octetAt : MethodName := ⟨RX6, "octetAt", "([BI)I"⟩
abbrev cX6_numberAt : ByteArray := prog_1_method_36_code
def yX6_numberAt : MethodName := ⟨RX6, "numberAt", "([JI)J"⟩
abbrev cX6_putNumber : ByteArray := prog_1_method_37_code
def yX6_putNumber : MethodName := ⟨RX6, "putNumber", "([JIJ)V"⟩
abbrev cX6_copyNumbers : ByteArray := prog_1_method_38_code
def yX6_copyNumbers : MethodName := ⟨RX6, "copyNumbers", "([J[J)V"⟩
def RX7 : String := "RunClassesModel"
def TX7 : u_T := fun k => match k with
  | 0 => ("RunClassesModel", "thrown", "I", false)
  | 1 => ("RunClassesModel", "budget", "I", true)
  | 2 => ("RunClassesModel", "refusals", "I", false)
  | 3 => ("RunClassesModel", "size", "I", false)
  | 4 => ("RunClassesModel", "draft", "[B", true)
  | 5 => ("RunClassesModel", "runnables", "I", false)
  | 6 => ("RunClassesModel", "editions", "[I", true)
  | 7 => ("RunClassesModel", "files", "[B", true)
  | 8 => ("RunClassesModel", "fileSize", "[I", true)
  | 9 => ("RunClassesModel", "startAt", "[I", true)
  | 10 => ("RunClassesModel", "startSize", "[I", true)
  | 11 => ("RunClassesModel", "runAt", "[I", true)
  | 12 => ("RunClassesModel", "runSize", "[I", true)
  | 13 => ("RunClassesModel", "ports", "[J", true)
  | 14 => ("RunClassesModel", "up", "[Z", true)
  | 15 => ("RunClassesModel", "reactions", "[I", true)
  | 16 => ("RunClassesModel", "faultKind", "[I", true)
  | 17 => ("RunClassesModel", "faultOf", "[I", true)
  | 18 => ("RunClassesModel", "faultSteps", "[I", true)
  | 19 => ("RunClassesModel", "faultK", "[I", true)
  | 20 => ("RunClassesModel", "faults", "[I", true)
  | 21 => ("RunClassesModel", "edition", "[I", true)
  | 22 => ("RunClassesModel", "cells", "[J", true)
  | 23 => ("RunClassesModel", "stopped", "[Z", true)
  | 24 => ("RunClassesModel", "handlePort", "[I", true)
  | 25 => ("RunClassesModel", "handleCall", "[I", true)
  | 26 => ("RunClassesModel", "calls", "I", false)
  | 27 => ("RunClassesModel", "pile", "[J", true)
  | 28 => ("RunClassesModel", "many", "I", false)
  | 29 => ("RunClassesModel", "steps", "I", false)
  | 30 => ("RunClassesModel", "gaveUp", "I", false)
  | 31 => ("RunClassesModel", "portsWere", "[J", true)
  | _ => ("RunClassesModel", "cellsWere", "[J", true)
def tyX7 : Nat → FieldType := fun k => match k with
  | 0 => .int
  | 1 => .int
  | 2 => .int
  | 3 => .int
  | 4 => .array .byte
  | 5 => .int
  | 6 => .array .int
  | 7 => .array .byte
  | 8 => .array .int
  | 9 => .array .int
  | 10 => .array .int
  | 11 => .array .int
  | 12 => .array .int
  | 13 => .array .long
  | 14 => .array .boolean
  | 15 => .array .int
  | 16 => .array .int
  | 17 => .array .int
  | 18 => .array .int
  | 19 => .array .int
  | 20 => .array .int
  | 21 => .array .int
  | 22 => .array .long
  | 23 => .array .boolean
  | 24 => .array .int
  | 25 => .array .int
  | 26 => .int
  | 27 => .array .long
  | 28 => .int
  | 29 => .int
  | 30 => .int
  | 31 => .array .long
  | _ => .array .long
abbrev wsX70 : List Cond := u_ws RX7 TX7 33
theorem nmX7 : ∀ a, a < 33 → ∀ b, b < 33 → a ≠ b → (TX7 a).2.1 ≠ (TX7 b).2.1 := by decide +kernel
theorem tyX7_ok : ∀ k, k < 33 → parseFieldDescriptor (TX7 k).2.2.1 = some (tyX7 k) := by decide +kernel
abbrev cX7_init : ByteArray := prog_9_method_1_code
def yX7_init : MethodName := ⟨RX7, "<init>", "(I)V"⟩
abbrev cX7_thrown : ByteArray := prog_9_method_2_code
def yX7_thrown : MethodName := ⟨RX7, "thrown", "()I"⟩
abbrev cX7_refuse : ByteArray := prog_9_method_3_code
def yX7_refuse : MethodName := ⟨RX7, "refuse", "(I)I"⟩
abbrev cX7_in : ByteArray := prog_9_method_4_code
def yX7_in : MethodName := ⟨RX7, "in", "(III)Z"⟩
abbrev cX7_file : ByteArray := prog_9_method_5_code
def yX7_file : MethodName := ⟨RX7, "file", "(JI)I"⟩
abbrev cX7_cutUp : ByteArray := prog_9_method_6_code
def yX7_cutUp : MethodName := ⟨RX7, "cutUp", "(I)Z"⟩
abbrev cX7_place : ByteArray := prog_9_method_7_code
def yX7_place : MethodName := ⟨RX7, "place", "(II)I"⟩
abbrev cX7_runnable : ByteArray := prog_9_method_8_code
def yX7_runnable : MethodName := ⟨RX7, "runnable", "(I)I"⟩
abbrev cX7_empties : ByteArray := prog_9_method_9_code
def yX7_empties : MethodName := ⟨RX7, "empties", "()I"⟩
abbrev cX7_isRight : ByteArray := prog_9_method_10_code
def yX7_isRight : MethodName := ⟨RX7, "isRight", "()Z"⟩
abbrev cX7_isController : ByteArray := prog_9_method_11_code
def yX7_isController : MethodName := ⟨RX7, "isController", "(I)Z"⟩
abbrev cX7_isRunnable : ByteArray := prog_9_method_12_code
def yX7_isRunnable : MethodName := ⟨RX7, "isRunnable", "(I)Z"⟩
abbrev cX7_at : ByteArray := prog_9_method_13_code
def yX7_at : MethodName := ⟨RX7, "at", "(II)I"⟩
abbrev cX7_hasClass : ByteArray := prog_9_method_14_code
def yX7_hasClass : MethodName := ⟨RX7, "hasClass", "(II)Z"⟩
abbrev cX7_renew : ByteArray := prog_9_method_15_code
def yX7_renew : MethodName := ⟨RX7, "renew", "(III)V"⟩
abbrev cX7_make : ByteArray := prog_9_method_16_code
def yX7_make : MethodName := ⟨RX7, "make", "(II)I"⟩
abbrev cX7_lay : ByteArray := prog_9_method_17_code
def yX7_lay : MethodName := ⟨RX7, "lay", "(J)V"⟩
abbrev cX7_take : ByteArray := prog_9_method_18_code
def yX7_take : MethodName := ⟨RX7, "take", "()J"⟩
abbrev cX7_call : ByteArray := prog_9_method_19_code
def yX7_call : MethodName := ⟨RX7, "call", "(IIII)I"⟩
abbrev cX7_move : ByteArray := prog_9_method_20_code
def yX7_move : MethodName := ⟨RX7, "move", "(IIII)V"⟩
abbrev cX7_reckon : ByteArray := prog_9_method_21_code
def yX7_reckon : MethodName := ⟨RX7, "reckon", "(I)I"⟩
abbrev cX7_other : ByteArray := prog_9_method_22_code
def yX7_other : MethodName := ⟨RX7, "other", "(IIII)I"⟩
abbrev cX7_tell : ByteArray := prog_9_method_23_code
def yX7_tell : MethodName := ⟨RX7, "tell", "(III)V"⟩
abbrev cX7_power : ByteArray := prog_9_method_24_code
def yX7_power : MethodName := ⟨RX7, "power", "(I)I"⟩
abbrev cX7_barred : ByteArray := prog_9_method_25_code
def yX7_barred : MethodName := ⟨RX7, "barred", "(II)I"⟩
abbrev cX7_runMember : ByteArray := prog_9_method_26_code
def yX7_runMember : MethodName := ⟨RX7, "runMember", "(II)I"⟩
abbrev cX7_run : ByteArray := prog_9_method_27_code
def yX7_run : MethodName := ⟨RX7, "run", "(II)I"⟩
abbrev cX7_beside : ByteArray := prog_9_method_28_code
def yX7_beside : MethodName := ⟨RX7, "beside", "(II)I"⟩
abbrev cX7_port : ByteArray := prog_9_method_29_code
def yX7_port : MethodName := ⟨RX7, "port", "(II)J"⟩
abbrev cX7_set : ByteArray := prog_9_method_30_code
def yX7_set : MethodName := ⟨RX7, "set", "(IIJ)I"⟩
abbrev cX7_cell : ByteArray := prog_9_method_31_code
def yX7_cell : MethodName := ⟨RX7, "cell", "(III)J"⟩
abbrev cX7_reaction : ByteArray := prog_9_method_32_code
def yX7_reaction : MethodName := ⟨RX7, "reaction", "(II)I"⟩
abbrev cX7_update : ByteArray := prog_9_method_33_code
def yX7_update : MethodName := ⟨RX7, "update", "(II)I"⟩
abbrev cX7_reset : ByteArray := prog_9_method_34_code
def yX7_reset : MethodName := ⟨RX7, "reset", "(I)I"⟩
abbrev cX7_fault : ByteArray := prog_9_method_35_code
def yX7_fault : MethodName := ⟨RX7, "fault", "(II)I"⟩
abbrev cX7_same : ByteArray := prog_9_method_36_code
def yX7_same : MethodName := ⟨RX7, "same", "(III)Z"⟩
abbrev cX7_handle : ByteArray := prog_9_method_37_code
def yX7_handle : MethodName := ⟨RX7, "handle", "(II)I"⟩
abbrev cX7_octet : ByteArray := prog_9_method_38_code
def yX7_octet : MethodName := ⟨RX7, "octet", "(II)B"⟩
abbrev cX7_divide : ByteArray := prog_9_method_39_code
def yX7_divide : MethodName := ⟨RX7, "divide", "(JJ)J"⟩
abbrev cX7_refused : ByteArray := prog_9_method_40_code
def yX7_refused : MethodName := ⟨RX7, "refused", "()I"⟩
def RJx145de : String := "java/io/Serializable"
def TJx145de : u_T := fun k => match k with
  | _ => ("", "", "", false)
def tyJx145de : Nat → FieldType := fun k => match k with
  | _ => .int
abbrev wsJx145de0 : List Cond := u_ws RJx145de TJx145de 0
theorem nmJx145de : ∀ a, a < 0 → ∀ b, b < 0 → a ≠ b → (TJx145de a).2.1 ≠ (TJx145de b).2.1 := by decide +kernel
theorem tyJx145de_ok : ∀ k, k < 0 → parseFieldDescriptor (TJx145de k).2.2.1 = some (tyJx145de k) := by decide +kernel
def RJx00060 : String := "java/lang/ArrayIndexOutOfBoundsException"
def TJx00060 : u_T := fun k => match k with
  | 0 => ("java/lang/Throwable", "backtrace", "Ljava/lang/Object;", false)
  | 1 => ("java/lang/Throwable", "detailMessage", "Ljava/lang/String;", false)
  | 2 => ("java/lang/Throwable", "cause", "Ljava/lang/Throwable;", false)
  | 3 => ("java/lang/Throwable", "stackTrace", "[Ljava/lang/StackTraceElement;", false)
  | 4 => ("java/lang/Throwable", "depth", "I", false)
  | _ => ("java/lang/Throwable", "suppressedExceptions", "Ljava/util/List;", false)
def tyJx00060 : Nat → FieldType := fun k => match k with
  | 0 => .object "java/lang/Object"
  | 1 => .object "java/lang/String"
  | 2 => .object "java/lang/Throwable"
  | 3 => .array (.object "java/lang/StackTraceElement")
  | 4 => .int
  | _ => .object "java/util/List"
abbrev wsJx000600 : List Cond := u_ws RJx00060 TJx00060 6
theorem nmJx00060 : ∀ a, a < 6 → ∀ b, b < 6 → a ≠ b → (TJx00060 a).2.1 ≠ (TJx00060 b).2.1 := by decide +kernel
theorem tyJx00060_ok : ∀ k, k < 6 → parseFieldDescriptor (TJx00060 k).2.2.1 = some (tyJx00060 k) := by decide +kernel
abbrev cJx00060_init_a7421 : ByteArray := prog_11_method_2_code
def yJx00060_init_a7421 : MethodName := ⟨RJx00060, "<init>", "(Ljava/lang/String;)V"⟩
def RJx8e188 : String := "java/lang/Cloneable"
def TJx8e188 : u_T := fun k => match k with
  | _ => ("", "", "", false)
def tyJx8e188 : Nat → FieldType := fun k => match k with
  | _ => .int
abbrev wsJx8e1880 : List Cond := u_ws RJx8e188 TJx8e188 0
theorem nmJx8e188 : ∀ a, a < 0 → ∀ b, b < 0 → a ≠ b → (TJx8e188 a).2.1 ≠ (TJx8e188 b).2.1 := by decide +kernel
theorem tyJx8e188_ok : ∀ k, k < 0 → parseFieldDescriptor (TJx8e188 k).2.2.1 = some (tyJx8e188 k) := by decide +kernel
def RJxb160c : String := "java/lang/Comparable"
def TJxb160c : u_T := fun k => match k with
  | _ => ("", "", "", false)
def tyJxb160c : Nat → FieldType := fun k => match k with
  | _ => .int
abbrev wsJxb160c0 : List Cond := u_ws RJxb160c TJxb160c 0
theorem nmJxb160c : ∀ a, a < 0 → ∀ b, b < 0 → a ≠ b → (TJxb160c a).2.1 ≠ (TJxb160c b).2.1 := by decide +kernel
theorem tyJxb160c_ok : ∀ k, k < 0 → parseFieldDescriptor (TJxb160c k).2.2.1 = some (tyJxb160c k) := by decide +kernel
def RJx29ce0 : String := "java/lang/Enum"
def TJx29ce0 : u_T := fun k => match k with
  | _ => ("", "", "", false)
def tyJx29ce0 : Nat → FieldType := fun k => match k with
  | _ => .int
abbrev wsJx29ce00 : List Cond := u_ws RJx29ce0 TJx29ce0 0
theorem nmJx29ce0 : ∀ a, a < 0 → ∀ b, b < 0 → a ≠ b → (TJx29ce0 a).2.1 ≠ (TJx29ce0 b).2.1 := by decide +kernel
theorem tyJx29ce0_ok : ∀ k, k < 0 → parseFieldDescriptor (TJx29ce0 k).2.2.1 = some (tyJx29ce0 k) := by decide +kernel
abbrev cJx29ce0_ordinal_8abf5 : ByteArray := prog_13_method_2_code
def yJx29ce0_ordinal_8abf5 : MethodName := ⟨RJx29ce0, "ordinal", "()I"⟩
def RJ9 : String := "java/lang/Math"
def TJ9 : u_T := fun k => match k with
  | _ => ("", "", "", false)
def tyJ9 : Nat → FieldType := fun k => match k with
  | _ => .int
abbrev wsJ90 : List Cond := u_ws RJ9 TJ9 0
theorem nmJ9 : ∀ a, a < 0 → ∀ b, b < 0 → a ≠ b → (TJ9 a).2.1 ≠ (TJ9 b).2.1 := by decide +kernel
theorem tyJ9_ok : ∀ k, k < 0 → parseFieldDescriptor (TJ9 k).2.2.1 = some (tyJ9 k) := by decide +kernel
abbrev cJ9_max_7cf53 : ByteArray := prog_17_method_65_code
def yJ9_max_7cf53 : MethodName := ⟨RJ9, "max", "(II)I"⟩
abbrev cJ9_min_7cf53 : ByteArray := prog_17_method_69_code
def yJ9_min_7cf53 : MethodName := ⟨RJ9, "min", "(II)I"⟩
def RJ0 : String := "java/lang/String"
def TJ0 : u_T := fun k => match k with
  | 0 => ("java/lang/String", "value", "[B", true)
  | _ => ("java/lang/String", "coder", "B", true)
def tyJ0 : Nat → FieldType := fun k => match k with
  | 0 => .array .byte
  | _ => .byte
abbrev wsJ00 : List Cond := u_ws RJ0 TJ0 2
theorem nmJ0 : ∀ a, a < 2 → ∀ b, b < 2 → a ≠ b → (TJ0 a).2.1 ≠ (TJ0 b).2.1 := by decide +kernel
theorem tyJ0_ok : ∀ k, k < 2 → parseFieldDescriptor (TJ0 k).2.2.1 = some (tyJ0 k) := by decide +kernel
def RJ10 : String := "java/lang/System"
def TJ10 : u_T := fun k => match k with
  | _ => ("", "", "", false)
def tyJ10 : Nat → FieldType := fun k => match k with
  | _ => .int
abbrev wsJ100 : List Cond := u_ws RJ10 TJ10 0
theorem nmJ10 : ∀ a, a < 0 → ∀ b, b < 0 → a ≠ b → (TJ10 a).2.1 ≠ (TJ10 b).2.1 := by decide +kernel
theorem tyJ10_ok : ∀ k, k < 0 → parseFieldDescriptor (TJ10 k).2.2.1 = some (tyJ10 k) := by decide +kernel
def RJxfd54e : String := "java/lang/constant/Constable"
def TJxfd54e : u_T := fun k => match k with
  | _ => ("", "", "", false)
def tyJxfd54e : Nat → FieldType := fun k => match k with
  | _ => .int
abbrev wsJxfd54e0 : List Cond := u_ws RJxfd54e TJxfd54e 0
theorem nmJxfd54e : ∀ a, a < 0 → ∀ b, b < 0 → a ≠ b → (TJxfd54e a).2.1 ≠ (TJxfd54e b).2.1 := by decide +kernel
theorem tyJxfd54e_ok : ∀ k, k < 0 → parseFieldDescriptor (TJxfd54e k).2.2.1 = some (tyJxfd54e k) := by decide +kernel
def RJ7 : String := "java/util/Arrays"
def TJ7 : u_T := fun k => match k with
  | _ => ("", "", "", false)
def tyJ7 : Nat → FieldType := fun k => match k with
  | _ => .int
abbrev wsJ70 : List Cond := u_ws RJ7 TJ7 0
theorem nmJ7 : ∀ a, a < 0 → ∀ b, b < 0 → a ≠ b → (TJ7 a).2.1 ≠ (TJ7 b).2.1 := by decide +kernel
theorem tyJ7_ok : ∀ k, k < 0 → parseFieldDescriptor (TJ7 k).2.2.1 = some (tyJ7 k) := by decide +kernel
abbrev cJ7_fill_d0a16 : ByteArray := prog_22_method_101_code
def yJ7_fill_d0a16 : MethodName := ⟨RJ7, "fill", "([JJ)V"⟩
abbrev cJ7_checkLength_df160 : ByteArray := prog_22_method_131_code
def yJ7_checkLength_df160 : MethodName := ⟨RJ7, "checkLength", "(II)V"⟩
abbrev cJ7_copyOfRange_39247 : ByteArray := prog_22_method_132_code
def yJ7_copyOfRange_39247 : MethodName := ⟨RJ7, "copyOfRange", "([BII)[B"⟩
abbrev cJ7_copyOfRangeByte_39247 : ByteArray := prog_22_method_133_code
def yJ7_copyOfRangeByte_39247 : MethodName := ⟨RJ7, "copyOfRangeByte", "([BII)[B"⟩
def RL : String := "RunClassesLaw"
abbrev cL_cell : ByteArray := method_2_code
def yL_cell : MethodName := ⟨RL, "cell", "([II)I"⟩
abbrev cL_handle : ByteArray := method_3_code
def yL_handle : MethodName := ⟨RL, "handle", "(LRunClasses;II[J)I"⟩
abbrev cL_octet : ByteArray := method_4_code
def yL_octet : MethodName := ⟨RL, "octet", "(LRunClasses;II[J)I"⟩
abbrev cL_divide : ByteArray := method_5_code
def yL_divide : MethodName := ⟨RL, "divide", "(LRunClasses;JJ[J)I"⟩
abbrev cL_law : ByteArray := code
def yL_law : MethodName := ⟨RL, "law", "([I)Z"⟩
def wsX1_init : List Cond := .code yX1_init cX1_init 1 none :: ([.methodLink RX1 3 objectInit, .instanceMethod objectInit, .code objectInit ⟨#[0xb1]⟩ 1 none, .arrayClass .long, .fieldLink RX1 9 "RunClasses$Controller" "ports" "[J", .classLink RX1 15 RX4, .fieldLink RX1 17 "RunClasses$Controller" "classes" "[LRunClasses$Loaded;"] ++ wsX10)
def wsX1_classOf : List Cond := .code yX1_classOf cX1_classOf 2 (some (.object "RunClasses$Loaded")) :: ([.fieldLink RX1 17 "RunClasses$Controller" "classes" "[LRunClasses$Loaded;"] ++ wsX10)
def wsX1_load : List Cond := .code yX1_load cX1_load 3 none :: ([.fieldLink RX1 17 "RunClasses$Controller" "classes" "[LRunClasses$Loaded;"] ++ wsX10)
def wsX2_init : List Cond := .code yX2_init cX2_init 5 none :: ([.methodLink RX2 1 objectInit, .instanceMethod objectInit, .code objectInit ⟨#[0xb1]⟩ 1 none, .fieldLink RX2 7 "RunClasses$Edition" "number" "I", .fieldLink RX2 13 "RunClasses$Edition" "octets" "[B", .fieldLink RX2 17 "RunClasses$Edition" "startCode" "[B", .fieldLink RX2 20 "RunClasses$Edition" "runCode" "[B"] ++ wsX20)
def wsX4_init : List Cond := .code yX4_init cX4_init 2 none :: ([.methodLink RX4 3 objectInit, .instanceMethod objectInit, .code objectInit ⟨#[0xb1]⟩ 1 none, .arrayClass .long, .fieldLink RX4 9 "RunClasses$Loaded" "cells" "[J", .fieldLink RX4 15 "RunClasses$Loaded" "handle" "I", .fieldLink RX4 19 "RunClasses$Loaded" "edition" "I"] ++ wsX40)
def wsX4_becomeAnew : List Cond := .code yX4_becomeAnew cX4_becomeAnew 4 none :: ([.fieldLink RX4 9 "RunClasses$Loaded" "cells" "[J", .fieldLink RX4 19 "RunClasses$Loaded" "edition" "I", .fieldLink RX4 15 "RunClasses$Loaded" "handle" "I", .fieldLink RX4 22 "RunClasses$Loaded" "stopped" "Z"] ++ wsX40 ++ (vx_atM "java/lang/ArrayIndexOutOfBoundsException" ["java/lang/IndexOutOfBoundsException", "java/lang/RuntimeException", "java/lang/Exception"]).filter goodWord)
def wsX5_init : List Cond := .code yX5_init cX5_init 1 none :: ([.methodLink RX5 3 objectInit, .instanceMethod objectInit, .code objectInit ⟨#[0xb1]⟩ 1 none, .arrayClass .long, .fieldLink RX5 9 "RunClasses$Way" "pile" "[J", .fieldLink RX5 15 "RunClasses$Way" "copiedPorts" "[J", .fieldLink RX5 18 "RunClasses$Way" "copiedCells" "[J", .arrayClass .byte, .fieldLink RX5 21 "RunClasses$Way" "code" "[B", .fieldLink RX5 25 "RunClasses$Way" "ports" "[J", .fieldLink RX5 28 "RunClasses$Way" "cells" "[J"] ++ wsX50)
def wsX6_copyNumbers : List Cond := .code yX6_copyNumbers cX6_copyNumbers 3 none :: ([] ++ (vx_atM "java/lang/ArrayIndexOutOfBoundsException" ["java/lang/IndexOutOfBoundsException", "java/lang/RuntimeException", "java/lang/Exception"]).filter goodWord)
def wsX6_octetAt : List Cond := .code yX6_octetAt cX6_octetAt 2 (some .int) :: ([] ++ (vx_atM "java/lang/ArrayIndexOutOfBoundsException" ["java/lang/IndexOutOfBoundsException", "java/lang/RuntimeException", "java/lang/Exception"]).filter goodWord)
def wsJx29ce0_ordinal_8abf5 : List Cond := .code yJx29ce0_ordinal_8abf5 cJx29ce0_ordinal_8abf5 1 (some .int) :: ([.fieldLink RJx29ce0 7 "java/lang/Enum" "ordinal" "I"])
def wsX5_lay : List Cond := .code yX5_lay cX5_lay 3 (some .int) :: ([.fieldLink RX5 39 "RunClasses$Way" "height" "I", .fieldLink RX5 9 "RunClasses$Way" "pile" "[J"] ++ wsX50 ++ (vx_atM "java/lang/ArrayIndexOutOfBoundsException" ["java/lang/IndexOutOfBoundsException", "java/lang/RuntimeException", "java/lang/Exception"]).filter goodWord)
def wsX6_numberAt : List Cond := .code yX6_numberAt cX6_numberAt 2 (some .long) :: ([] ++ (vx_atM "java/lang/ArrayIndexOutOfBoundsException" ["java/lang/IndexOutOfBoundsException", "java/lang/RuntimeException", "java/lang/Exception"]).filter goodWord)
def wsX5_take : List Cond := .code yX5_take cX5_take 1 (some .long) :: ([.fieldLink RX5 39 "RunClasses$Way" "height" "I", .fieldLink RX5 9 "RunClasses$Way" "pile" "[J"] ++ wsX50 ++ (vx_atM "java/lang/ArrayIndexOutOfBoundsException" ["java/lang/IndexOutOfBoundsException", "java/lang/RuntimeException", "java/lang/Exception"]).filter goodWord)
def wsX6_putNumber : List Cond := .code yX6_putNumber cX6_putNumber 4 none :: ([] ++ (vx_atM "java/lang/ArrayIndexOutOfBoundsException" ["java/lang/IndexOutOfBoundsException", "java/lang/RuntimeException", "java/lang/Exception"]).filter goodWord)
def wsX5_goOnAt : List Cond := .code yX5_goOnAt cX5_goOnAt 2 (some .int) :: ([.fieldLink RX5 21 "RunClasses$Way" "code" "[B", .fieldLink RX5 43 "RunClasses$Way" "at" "I"] ++ wsX50)
def wsX5_divides : List Cond := .code yX5_divides cX5_divides 1 (some .boolean) :: ([.fieldLink RX5 125 "RunClasses$Instruction" "DIVIDE" "LRunClasses$Instruction;", .fieldLink RX5 129 "RunClasses$Instruction" "REMAINDER" "LRunClasses$Instruction;"])
def wsX5_reckoned : List Cond := .code yX5_reckoned cX5_reckoned 5 (some .long) :: ([.fieldLink RX5 86 "RunClasses$1" "$SwitchMap$RunClasses$Instruction" "[I", .methodLink RX5 92 ⟨"RunClasses$Instruction", "ordinal", "()I"⟩, .sameMethod "RunClasses$Instruction" "java/lang/Enum" "ordinal" "()I", .selects RX3 ⟨"RunClasses$Instruction", "ordinal", "()I"⟩ yJx29ce0_ordinal_8abf5, .instanceMethod yJx29ce0_ordinal_8abf5, .initialized RJx29ce0, .code yJx29ce0_ordinal_8abf5 cJx29ce0_ordinal_8abf5 1 (some .int), .fieldLink RJx29ce0 7 "java/lang/Enum" "ordinal" "I"] ++ (vx_atM "java/lang/ArrayIndexOutOfBoundsException" ["java/lang/IndexOutOfBoundsException", "java/lang/RuntimeException", "java/lang/Exception"]).filter goodWord ++ (vx_atM "java/lang/ArithmeticException" ["java/lang/RuntimeException", "java/lang/Exception"]).filter goodWord)
def wsX5_doIt_r1 : List Cond := [Cond.fieldLink RX5 86 "RunClasses$1" "$SwitchMap$RunClasses$Instruction" "[I", Cond.fieldLink RX5 28 "RunClasses$Way" "cells" "[J", Cond.fieldLink RX5 25 "RunClasses$Way" "ports" "[J", Cond.fieldLink RX5 9 "RunClasses$Way" "pile" "[J", Cond.fieldLink RX5 39 "RunClasses$Way" "height" "I", Cond.fieldLink RX5 43 "RunClasses$Way" "at" "I", Cond.constantLong RX5 115 (8), Cond.fieldLink RX5 49 "RunClasses$Way" "handle" "I", Cond.fieldLink RX5 46 "RunClasses$Way" "given" "I", Cond.methodLink RX5 92 ⟨"RunClasses$Instruction", "ordinal", "()I"⟩, Cond.sameMethod "RunClasses$Instruction" "java/lang/Enum" "ordinal" "()I", Cond.selects RX3 ⟨"RunClasses$Instruction", "ordinal", "()I"⟩ yJx29ce0_ordinal_8abf5, Cond.instanceMethod yJx29ce0_ordinal_8abf5, Cond.initialized RJx29ce0, Cond.code yJx29ce0_ordinal_8abf5 cJx29ce0_ordinal_8abf5 1 (some .int), Cond.fieldLink RJx29ce0 7 "java/lang/Enum" "ordinal" "I", Cond.methodLink RX5 95 yX5_lay, Cond.instanceMethod yX5_lay, Cond.selects RX5 yX5_lay yX5_lay, Cond.initialized RX5, Cond.code yX5_lay cX5_lay 3 (some .int), Cond.static yX6_numberAt, Cond.initialized RX6, Cond.code yX6_numberAt cX6_numberAt 2 (some .long)]
def wsX5_doIt_r2 : List Cond := [Cond.methodLink RX5 103 yX5_take, Cond.instanceMethod yX5_take, Cond.selects RX5 yX5_take yX5_take, Cond.code yX5_take cX5_take 1 (some .long), Cond.static yX6_putNumber, Cond.code yX6_putNumber cX6_putNumber 4 none, Cond.methodLink RX5 111 yX5_goOnAt, Cond.instanceMethod yX5_goOnAt, Cond.selects RX5 yX5_goOnAt yX5_goOnAt, Cond.code yX5_goOnAt cX5_goOnAt 2 (some .int), Cond.fieldLink RX5 21 "RunClasses$Way" "code" "[B", Cond.methodLink RX5 117 yX5_divides, Cond.static yX5_divides, Cond.code yX5_divides cX5_divides 1 (some .boolean), Cond.fieldLink RX5 125 "RunClasses$Instruction" "DIVIDE" "LRunClasses$Instruction;", Cond.fieldLink RX5 129 "RunClasses$Instruction" "REMAINDER" "LRunClasses$Instruction;", Cond.methodLink RX5 121 yX5_reckoned, Cond.static yX5_reckoned, Cond.code yX5_reckoned cX5_reckoned 5 (some .long)]
def wsX5_doIt : List Cond := .code yX5_doIt cX5_doIt 9 (some .int) :: ((wsX5_doIt_r1 ++ wsX5_doIt_r2) ++ wsX50 ++ (vx_atM "java/lang/ArrayIndexOutOfBoundsException" ["java/lang/IndexOutOfBoundsException", "java/lang/RuntimeException", "java/lang/Exception"]).filter goodWord ++ (vx_atM "java/lang/ArithmeticException" ["java/lang/RuntimeException", "java/lang/Exception"]).filter goodWord)
def wsX5_step_r1 : List Cond := [Cond.fieldLink RX5 21 "RunClasses$Way" "code" "[B", Cond.fieldLink RX5 43 "RunClasses$Way" "at" "I", Cond.fieldLink RX5 39 "RunClasses$Way" "height" "I", Cond.static yX6_octetAt, Cond.initialized RX6, Cond.code yX6_octetAt cX6_octetAt 2 (some .int), Cond.methodLink RX5 82 yX5_doIt, Cond.instanceMethod yX5_doIt, Cond.selects RX5 yX5_doIt yX5_doIt, Cond.initialized RX5, Cond.code yX5_doIt cX5_doIt 9 (some .int), Cond.fieldLink RX5 86 "RunClasses$1" "$SwitchMap$RunClasses$Instruction" "[I", Cond.fieldLink RX5 28 "RunClasses$Way" "cells" "[J", Cond.fieldLink RX5 25 "RunClasses$Way" "ports" "[J", Cond.fieldLink RX5 9 "RunClasses$Way" "pile" "[J", Cond.constantLong RX5 115 (8), Cond.fieldLink RX5 49 "RunClasses$Way" "handle" "I", Cond.fieldLink RX5 46 "RunClasses$Way" "given" "I", Cond.methodLink RX5 92 ⟨"RunClasses$Instruction", "ordinal", "()I"⟩, Cond.sameMethod "RunClasses$Instruction" "java/lang/Enum" "ordinal" "()I", Cond.selects RX3 ⟨"RunClasses$Instruction", "ordinal", "()I"⟩ yJx29ce0_ordinal_8abf5, Cond.instanceMethod yJx29ce0_ordinal_8abf5, Cond.initialized RJx29ce0, Cond.code yJx29ce0_ordinal_8abf5 cJx29ce0_ordinal_8abf5 1 (some .int)]
def wsX5_step_r2 : List Cond := [Cond.fieldLink RJx29ce0 7 "java/lang/Enum" "ordinal" "I", Cond.methodLink RX5 95 yX5_lay, Cond.instanceMethod yX5_lay, Cond.selects RX5 yX5_lay yX5_lay, Cond.code yX5_lay cX5_lay 3 (some .int), Cond.static yX6_numberAt, Cond.code yX6_numberAt cX6_numberAt 2 (some .long), Cond.methodLink RX5 103 yX5_take, Cond.instanceMethod yX5_take, Cond.selects RX5 yX5_take yX5_take, Cond.code yX5_take cX5_take 1 (some .long), Cond.static yX6_putNumber, Cond.code yX6_putNumber cX6_putNumber 4 none, Cond.methodLink RX5 111 yX5_goOnAt, Cond.instanceMethod yX5_goOnAt, Cond.selects RX5 yX5_goOnAt yX5_goOnAt, Cond.code yX5_goOnAt cX5_goOnAt 2 (some .int), Cond.methodLink RX5 117 yX5_divides, Cond.static yX5_divides, Cond.code yX5_divides cX5_divides 1 (some .boolean), Cond.fieldLink RX5 125 "RunClasses$Instruction" "DIVIDE" "LRunClasses$Instruction;", Cond.fieldLink RX5 129 "RunClasses$Instruction" "REMAINDER" "LRunClasses$Instruction;", Cond.methodLink RX5 121 yX5_reckoned, Cond.static yX5_reckoned]
def wsX5_step_r3 : List Cond := [Cond.code yX5_reckoned cX5_reckoned 5 (some .long)]
def wsX5_step : List Cond := .code yX5_step cX5_step 5 (some .int) :: ((wsX5_step_r1 ++ (wsX5_step_r2 ++ wsX5_step_r3)) ++ wsX50 ++ (vx_atM "java/lang/ArrayIndexOutOfBoundsException" ["java/lang/IndexOutOfBoundsException", "java/lang/RuntimeException", "java/lang/Exception"]).filter goodWord ++ (vx_atM "java/lang/ArithmeticException" ["java/lang/RuntimeException", "java/lang/Exception"]).filter goodWord)
def wsX5_go_r1 : List Cond := [Cond.fieldLink RX5 21 "RunClasses$Way" "code" "[B", Cond.fieldLink RX5 25 "RunClasses$Way" "ports" "[J", Cond.fieldLink RX5 28 "RunClasses$Way" "cells" "[J", Cond.fieldLink RX5 39 "RunClasses$Way" "height" "I", Cond.fieldLink RX5 43 "RunClasses$Way" "at" "I", Cond.fieldLink RX5 46 "RunClasses$Way" "given" "I", Cond.fieldLink RX5 49 "RunClasses$Way" "handle" "I", Cond.fieldLink RX5 56 "RunClasses$Way" "steps" "I", Cond.methodLink RX5 52 yX5_step, Cond.instanceMethod yX5_step, Cond.selects RX5 yX5_step yX5_step, Cond.initialized RX5, Cond.code yX5_step cX5_step 5 (some .int), Cond.static yX6_octetAt, Cond.initialized RX6, Cond.code yX6_octetAt cX6_octetAt 2 (some .int), Cond.methodLink RX5 82 yX5_doIt, Cond.instanceMethod yX5_doIt, Cond.selects RX5 yX5_doIt yX5_doIt, Cond.code yX5_doIt cX5_doIt 9 (some .int), Cond.fieldLink RX5 86 "RunClasses$1" "$SwitchMap$RunClasses$Instruction" "[I", Cond.fieldLink RX5 9 "RunClasses$Way" "pile" "[J", Cond.constantLong RX5 115 (8), Cond.methodLink RX5 92 ⟨"RunClasses$Instruction", "ordinal", "()I"⟩]
def wsX5_go_r2 : List Cond := [Cond.sameMethod "RunClasses$Instruction" "java/lang/Enum" "ordinal" "()I", Cond.selects RX3 ⟨"RunClasses$Instruction", "ordinal", "()I"⟩ yJx29ce0_ordinal_8abf5, Cond.instanceMethod yJx29ce0_ordinal_8abf5, Cond.initialized RJx29ce0, Cond.code yJx29ce0_ordinal_8abf5 cJx29ce0_ordinal_8abf5 1 (some .int), Cond.fieldLink RJx29ce0 7 "java/lang/Enum" "ordinal" "I", Cond.methodLink RX5 95 yX5_lay, Cond.instanceMethod yX5_lay, Cond.selects RX5 yX5_lay yX5_lay, Cond.code yX5_lay cX5_lay 3 (some .int), Cond.static yX6_numberAt, Cond.code yX6_numberAt cX6_numberAt 2 (some .long), Cond.methodLink RX5 103 yX5_take, Cond.instanceMethod yX5_take, Cond.selects RX5 yX5_take yX5_take, Cond.code yX5_take cX5_take 1 (some .long), Cond.static yX6_putNumber, Cond.code yX6_putNumber cX6_putNumber 4 none, Cond.methodLink RX5 111 yX5_goOnAt, Cond.instanceMethod yX5_goOnAt, Cond.selects RX5 yX5_goOnAt yX5_goOnAt, Cond.code yX5_goOnAt cX5_goOnAt 2 (some .int), Cond.methodLink RX5 117 yX5_divides, Cond.static yX5_divides]
def wsX5_go_r3 : List Cond := [Cond.code yX5_divides cX5_divides 1 (some .boolean), Cond.fieldLink RX5 125 "RunClasses$Instruction" "DIVIDE" "LRunClasses$Instruction;", Cond.fieldLink RX5 129 "RunClasses$Instruction" "REMAINDER" "LRunClasses$Instruction;", Cond.methodLink RX5 121 yX5_reckoned, Cond.static yX5_reckoned, Cond.code yX5_reckoned cX5_reckoned 5 (some .long)]
def wsX5_go : List Cond := .code yX5_go cX5_go 7 (some .int) :: ((wsX5_go_r1 ++ (wsX5_go_r2 ++ wsX5_go_r3)) ++ wsX50 ++ (vx_atM "java/lang/ArrayIndexOutOfBoundsException" ["java/lang/IndexOutOfBoundsException", "java/lang/RuntimeException", "java/lang/Exception"]).filter goodWord ++ (vx_atM "java/lang/ArithmeticException" ["java/lang/RuntimeException", "java/lang/Exception"]).filter goodWord)
def wsX5_goOnCopies_r1 : List Cond := [Cond.fieldLink RX5 15 "RunClasses$Way" "copiedPorts" "[J", Cond.fieldLink RX5 18 "RunClasses$Way" "copiedCells" "[J", Cond.static yX6_copyNumbers, Cond.initialized RX6, Cond.code yX6_copyNumbers cX6_copyNumbers 3 none, Cond.methodLink RX5 35 yX5_go, Cond.instanceMethod yX5_go, Cond.selects RX5 yX5_go yX5_go, Cond.initialized RX5, Cond.code yX5_go cX5_go 7 (some .int), Cond.fieldLink RX5 21 "RunClasses$Way" "code" "[B", Cond.fieldLink RX5 25 "RunClasses$Way" "ports" "[J", Cond.fieldLink RX5 28 "RunClasses$Way" "cells" "[J", Cond.fieldLink RX5 39 "RunClasses$Way" "height" "I", Cond.fieldLink RX5 43 "RunClasses$Way" "at" "I", Cond.fieldLink RX5 46 "RunClasses$Way" "given" "I", Cond.fieldLink RX5 49 "RunClasses$Way" "handle" "I", Cond.fieldLink RX5 56 "RunClasses$Way" "steps" "I", Cond.methodLink RX5 52 yX5_step, Cond.instanceMethod yX5_step, Cond.selects RX5 yX5_step yX5_step, Cond.code yX5_step cX5_step 5 (some .int), Cond.static yX6_octetAt, Cond.code yX6_octetAt cX6_octetAt 2 (some .int)]
def wsX5_goOnCopies_r2 : List Cond := [Cond.methodLink RX5 82 yX5_doIt, Cond.instanceMethod yX5_doIt, Cond.selects RX5 yX5_doIt yX5_doIt, Cond.code yX5_doIt cX5_doIt 9 (some .int), Cond.fieldLink RX5 86 "RunClasses$1" "$SwitchMap$RunClasses$Instruction" "[I", Cond.fieldLink RX5 9 "RunClasses$Way" "pile" "[J", Cond.constantLong RX5 115 (8), Cond.methodLink RX5 92 ⟨"RunClasses$Instruction", "ordinal", "()I"⟩, Cond.sameMethod "RunClasses$Instruction" "java/lang/Enum" "ordinal" "()I", Cond.selects RX3 ⟨"RunClasses$Instruction", "ordinal", "()I"⟩ yJx29ce0_ordinal_8abf5, Cond.instanceMethod yJx29ce0_ordinal_8abf5, Cond.initialized RJx29ce0, Cond.code yJx29ce0_ordinal_8abf5 cJx29ce0_ordinal_8abf5 1 (some .int), Cond.fieldLink RJx29ce0 7 "java/lang/Enum" "ordinal" "I", Cond.methodLink RX5 95 yX5_lay, Cond.instanceMethod yX5_lay, Cond.selects RX5 yX5_lay yX5_lay, Cond.code yX5_lay cX5_lay 3 (some .int), Cond.static yX6_numberAt, Cond.code yX6_numberAt cX6_numberAt 2 (some .long), Cond.methodLink RX5 103 yX5_take, Cond.instanceMethod yX5_take, Cond.selects RX5 yX5_take yX5_take, Cond.code yX5_take cX5_take 1 (some .long)]
def wsX5_goOnCopies_r3 : List Cond := [Cond.static yX6_putNumber, Cond.code yX6_putNumber cX6_putNumber 4 none, Cond.methodLink RX5 111 yX5_goOnAt, Cond.instanceMethod yX5_goOnAt, Cond.selects RX5 yX5_goOnAt yX5_goOnAt, Cond.code yX5_goOnAt cX5_goOnAt 2 (some .int), Cond.methodLink RX5 117 yX5_divides, Cond.static yX5_divides, Cond.code yX5_divides cX5_divides 1 (some .boolean), Cond.fieldLink RX5 125 "RunClasses$Instruction" "DIVIDE" "LRunClasses$Instruction;", Cond.fieldLink RX5 129 "RunClasses$Instruction" "REMAINDER" "LRunClasses$Instruction;", Cond.methodLink RX5 121 yX5_reckoned, Cond.static yX5_reckoned, Cond.code yX5_reckoned cX5_reckoned 5 (some .long)]
def wsX5_goOnCopies : List Cond := .code yX5_goOnCopies cX5_goOnCopies 5 (some .int) :: ((wsX5_goOnCopies_r1 ++ (wsX5_goOnCopies_r2 ++ wsX5_goOnCopies_r3)) ++ wsX50 ++ (vx_atM "java/lang/ArrayIndexOutOfBoundsException" ["java/lang/IndexOutOfBoundsException", "java/lang/RuntimeException", "java/lang/Exception"]).filter goodWord ++ (vx_atM "java/lang/ArithmeticException" ["java/lang/RuntimeException", "java/lang/Exception"]).filter goodWord)
def wsX6_init_r1 : List Cond := [Cond.methodLink RX6 1 objectInit, Cond.instanceMethod objectInit, Cond.code objectInit ⟨#[0xb1]⟩ 1 none, Cond.constant RX6 9 (65536), Cond.methodLink RX6 10 Lib.Math.min.name, Cond.static Lib.Math.min.name, Cond.initialized "java/lang/Math", Cond.code Lib.Math.min.name Lib.Math.min.code 2 (some .int), Cond.methodLink RX6 16 Lib.Math.max.name, Cond.static Lib.Math.max.name, Cond.code Lib.Math.max.name Lib.Math.max.code 2 (some .int), Cond.fieldLink RX6 19 "RunClasses" "budget" "I", Cond.classLink RX6 23 RX1, Cond.fieldLink RX6 25 "RunClasses" "controllers" "[LRunClasses$Controller;", Cond.instantiable RX1 9, Cond.initialized RX1, Cond.classLink RX6 30 RX2, Cond.fieldLink RX6 32 "RunClasses" "newestEditions" "[LRunClasses$Edition;", Cond.classLink RX6 36 RX5, Cond.instantiable RX5 11, Cond.initialized RX5, Cond.fieldLink RX6 39 "RunClasses" "way" "LRunClasses$Way;", Cond.arrayClass .byte, Cond.fieldLink RX6 43 "RunClasses" "underWay" "[B"]
def wsX6_init_r2 : List Cond := [Cond.instanceMethod yX1_init, Cond.code yX1_init cX1_init 1 none, Cond.methodLink RX1 3 objectInit, Cond.arrayClass .long, Cond.fieldLink RX1 9 "RunClasses$Controller" "ports" "[J", Cond.classLink RX1 15 RX4, Cond.fieldLink RX1 17 "RunClasses$Controller" "classes" "[LRunClasses$Loaded;", Cond.instanceMethod yX5_init, Cond.code yX5_init cX5_init 1 none, Cond.methodLink RX5 3 objectInit, Cond.fieldLink RX5 9 "RunClasses$Way" "pile" "[J", Cond.fieldLink RX5 15 "RunClasses$Way" "copiedPorts" "[J", Cond.fieldLink RX5 18 "RunClasses$Way" "copiedCells" "[J", Cond.fieldLink RX5 21 "RunClasses$Way" "code" "[B", Cond.fieldLink RX5 25 "RunClasses$Way" "ports" "[J", Cond.fieldLink RX5 28 "RunClasses$Way" "cells" "[J"]
def wsX6_init : List Cond := .code yX6_init cX6_init 3 none :: ((wsX6_init_r1 ++ wsX6_init_r2) ++ wsX60 ++ wsX10 ++ wsX50)
def wsX6_refuse : List Cond := .code yX6_refuse cX6_refuse 2 (some .int) :: ([.fieldLink RX6 181 "RunClasses" "refusals" "I"] ++ wsX60)
def wsX6_putOctet : List Cond := .code yX6_putOctet cX6_putOctet 2 none :: ([.fieldLink RX6 51 "RunClasses" "underWayLength" "I", .fieldLink RX6 43 "RunClasses" "underWay" "[B"] ++ wsX60 ++ (vx_atM "java/lang/ArrayIndexOutOfBoundsException" ["java/lang/IndexOutOfBoundsException", "java/lang/RuntimeException", "java/lang/Exception"]).filter goodWord)
def wsX6_file : List Cond := .code yX6_file cX6_file 5 (some .int) :: ([.fieldLink RX6 51 "RunClasses" "underWayLength" "I", .fieldLink RX6 43 "RunClasses" "underWay" "[B", .methodLink RX6 47 yX6_refuse, .instanceMethod yX6_refuse, .selects RX6 yX6_refuse yX6_refuse, .initialized RX6, .code yX6_refuse cX6_refuse 2 (some .int), .fieldLink RX6 181 "RunClasses" "refusals" "I", .methodLink RX6 54 yX6_putOctet, .instanceMethod yX6_putOctet, .selects RX6 yX6_putOctet yX6_putOctet, .code yX6_putOctet cX6_putOctet 2 none] ++ wsX60 ++ (vx_atM "java/lang/ArrayIndexOutOfBoundsException" ["java/lang/IndexOutOfBoundsException", "java/lang/RuntimeException", "java/lang/Exception"]).filter goodWord)
def wsX6_newestOf : List Cond := .code yX6_newestOf cX6_newestOf 2 (some (.object "RunClasses$Edition")) :: ([.fieldLink RX6 32 "RunClasses" "newestEditions" "[LRunClasses$Edition;"] ++ wsX60)
def wsX6_isRight : List Cond := .code yX6_isRight cX6_isRight 6 (some .boolean) :: ([.methodLink RX6 229 yX6_octetAt, .static yX6_octetAt, .initialized RX6, .code yX6_octetAt cX6_octetAt 2 (some .int)] ++ (vx_atM "java/lang/ArrayIndexOutOfBoundsException" ["java/lang/IndexOutOfBoundsException", "java/lang/RuntimeException", "java/lang/Exception"]).filter goodWord)
def wsJ7_checkLength_df160 : List Cond := .code yJ7_checkLength_df160 cJ7_checkLength_df160 2 none :: ([])
def wsJ7_copyOfRangeByte_39247 : List Cond := .code yJ7_copyOfRangeByte_39247 cJ7_copyOfRangeByte_39247 5 (some (.array .byte)) :: ([.arrayClass .byte, .methodLink RJ7 304 Lib.Math.min.name, .static Lib.Math.min.name, .initialized "java/lang/Math", .code Lib.Math.min.name Lib.Math.min.code 2 (some .int), .methodLink RJ7 150 arraycopyName, .native arraycopyName, .static arraycopyName, .initialized "java/lang/System", .methodLink RJ7 343 yJ7_checkLength_df160, .static yJ7_checkLength_df160, .initialized RJ7, .code yJ7_checkLength_df160 cJ7_checkLength_df160 2 none])
def wsJ7_copyOfRange_39247 : List Cond := .code yJ7_copyOfRange_39247 cJ7_copyOfRange_39247 3 (some (.array .byte)) :: ([.methodLink RJ7 310 ⟨"[B", "clone", "()Ljava/lang/Object;"⟩, .sameMethod "[B" "java/lang/Object" "clone" "()Ljava/lang/Object;", .native ⟨"java/lang/Object", "clone", "()Ljava/lang/Object;"⟩, .instanceMethod ⟨"java/lang/Object", "clone", "()Ljava/lang/Object;"⟩, .selects "[B" ⟨"[B", "clone", "()Ljava/lang/Object;"⟩ ⟨"java/lang/Object", "clone", "()Ljava/lang/Object;"⟩, .classLink RJ7 311 "[B", .methodLink RJ7 339 yJ7_copyOfRangeByte_39247, .static yJ7_copyOfRangeByte_39247, .initialized RJ7, .code yJ7_copyOfRangeByte_39247 cJ7_copyOfRangeByte_39247 5 (some (.array .byte)), .arrayClass .byte, .methodLink RJ7 304 Lib.Math.min.name, .static Lib.Math.min.name, .initialized "java/lang/Math", .code Lib.Math.min.name Lib.Math.min.code 2 (some .int), .methodLink RJ7 150 arraycopyName, .native arraycopyName, .static arraycopyName, .initialized "java/lang/System", .methodLink RJ7 343 yJ7_checkLength_df160, .static yJ7_checkLength_df160, .code yJ7_checkLength_df160 cJ7_checkLength_df160 2 none])
def wsX6_copyOf_r1 : List Cond := [Cond.arrayClass .byte, Cond.methodLink RX6 233 yJ7_copyOfRange_39247, Cond.static yJ7_copyOfRange_39247, Cond.initialized RJ7, Cond.code yJ7_copyOfRange_39247 cJ7_copyOfRange_39247 3 (some (.array .byte)), Cond.methodLink RJ7 310 ⟨"[B", "clone", "()Ljava/lang/Object;"⟩, Cond.sameMethod "[B" "java/lang/Object" "clone" "()Ljava/lang/Object;", Cond.native ⟨"java/lang/Object", "clone", "()Ljava/lang/Object;"⟩, Cond.instanceMethod ⟨"java/lang/Object", "clone", "()Ljava/lang/Object;"⟩, Cond.selects "[B" ⟨"[B", "clone", "()Ljava/lang/Object;"⟩ ⟨"java/lang/Object", "clone", "()Ljava/lang/Object;"⟩, Cond.classLink RJ7 311 "[B", Cond.methodLink RJ7 339 yJ7_copyOfRangeByte_39247, Cond.static yJ7_copyOfRangeByte_39247, Cond.code yJ7_copyOfRangeByte_39247 cJ7_copyOfRangeByte_39247 5 (some (.array .byte)), Cond.methodLink RJ7 304 Lib.Math.min.name, Cond.static Lib.Math.min.name, Cond.initialized "java/lang/Math", Cond.code Lib.Math.min.name Lib.Math.min.code 2 (some .int), Cond.methodLink RJ7 150 arraycopyName, Cond.native arraycopyName, Cond.static arraycopyName, Cond.initialized "java/lang/System", Cond.methodLink RJ7 343 yJ7_checkLength_df160, Cond.static yJ7_checkLength_df160]
def wsX6_copyOf_r2 : List Cond := [Cond.code yJ7_checkLength_df160 cJ7_checkLength_df160 2 none]
def wsX6_copyOf : List Cond := .code yX6_copyOf cX6_copyOf 3 (some (.array .byte)) :: ((wsX6_copyOf_r1 ++ wsX6_copyOf_r2))
def wsX6_codeOf_r1 : List Cond := [Cond.methodLink RX6 229 yX6_octetAt, Cond.static yX6_octetAt, Cond.initialized RX6, Cond.code yX6_octetAt cX6_octetAt 2 (some .int), Cond.methodLink RX6 187 yX6_copyOf, Cond.static yX6_copyOf, Cond.code yX6_copyOf cX6_copyOf 3 (some (.array .byte)), Cond.arrayClass .byte, Cond.methodLink RX6 233 yJ7_copyOfRange_39247, Cond.static yJ7_copyOfRange_39247, Cond.initialized RJ7, Cond.code yJ7_copyOfRange_39247 cJ7_copyOfRange_39247 3 (some (.array .byte)), Cond.methodLink RJ7 310 ⟨"[B", "clone", "()Ljava/lang/Object;"⟩, Cond.sameMethod "[B" "java/lang/Object" "clone" "()Ljava/lang/Object;", Cond.native ⟨"java/lang/Object", "clone", "()Ljava/lang/Object;"⟩, Cond.instanceMethod ⟨"java/lang/Object", "clone", "()Ljava/lang/Object;"⟩, Cond.selects "[B" ⟨"[B", "clone", "()Ljava/lang/Object;"⟩ ⟨"java/lang/Object", "clone", "()Ljava/lang/Object;"⟩, Cond.classLink RJ7 311 "[B", Cond.methodLink RJ7 339 yJ7_copyOfRangeByte_39247, Cond.static yJ7_copyOfRangeByte_39247, Cond.code yJ7_copyOfRangeByte_39247 cJ7_copyOfRangeByte_39247 5 (some (.array .byte)), Cond.methodLink RJ7 304 Lib.Math.min.name, Cond.static Lib.Math.min.name, Cond.initialized "java/lang/Math"]
def wsX6_codeOf_r2 : List Cond := [Cond.code Lib.Math.min.name Lib.Math.min.code 2 (some .int), Cond.methodLink RJ7 150 arraycopyName, Cond.native arraycopyName, Cond.static arraycopyName, Cond.initialized "java/lang/System", Cond.methodLink RJ7 343 yJ7_checkLength_df160, Cond.static yJ7_checkLength_df160, Cond.code yJ7_checkLength_df160 cJ7_checkLength_df160 2 none]
def wsX6_codeOf : List Cond := .code yX6_codeOf cX6_codeOf 4 (some (.array .byte)) :: ((wsX6_codeOf_r1 ++ wsX6_codeOf_r2) ++ (vx_atM "java/lang/ArrayIndexOutOfBoundsException" ["java/lang/IndexOutOfBoundsException", "java/lang/RuntimeException", "java/lang/Exception"]).filter goodWord)
def wsX6_keepEdition_r1 : List Cond := [Cond.fieldLink RX6 43 "RunClasses" "underWay" "[B", Cond.fieldLink RX6 51 "RunClasses" "underWayLength" "I", Cond.fieldLink RX6 32 "RunClasses" "newestEditions" "[LRunClasses$Edition;", Cond.classLink RX6 30 RX2, Cond.instantiable RX2 4, Cond.initialized RX2, Cond.methodLink RX6 187 yX6_copyOf, Cond.static yX6_copyOf, Cond.initialized RX6, Cond.code yX6_copyOf cX6_copyOf 3 (some (.array .byte)), Cond.arrayClass .byte, Cond.methodLink RX6 233 yJ7_copyOfRange_39247, Cond.static yJ7_copyOfRange_39247, Cond.initialized RJ7, Cond.code yJ7_copyOfRange_39247 cJ7_copyOfRange_39247 3 (some (.array .byte)), Cond.methodLink RJ7 310 ⟨"[B", "clone", "()Ljava/lang/Object;"⟩, Cond.sameMethod "[B" "java/lang/Object" "clone" "()Ljava/lang/Object;", Cond.native ⟨"java/lang/Object", "clone", "()Ljava/lang/Object;"⟩, Cond.instanceMethod ⟨"java/lang/Object", "clone", "()Ljava/lang/Object;"⟩, Cond.selects "[B" ⟨"[B", "clone", "()Ljava/lang/Object;"⟩ ⟨"java/lang/Object", "clone", "()Ljava/lang/Object;"⟩, Cond.classLink RJ7 311 "[B", Cond.methodLink RJ7 339 yJ7_copyOfRangeByte_39247, Cond.static yJ7_copyOfRangeByte_39247, Cond.code yJ7_copyOfRangeByte_39247 cJ7_copyOfRangeByte_39247 5 (some (.array .byte))]
def wsX6_keepEdition_r2 : List Cond := [Cond.methodLink RJ7 304 Lib.Math.min.name, Cond.static Lib.Math.min.name, Cond.initialized "java/lang/Math", Cond.code Lib.Math.min.name Lib.Math.min.code 2 (some .int), Cond.methodLink RJ7 150 arraycopyName, Cond.native arraycopyName, Cond.static arraycopyName, Cond.initialized "java/lang/System", Cond.methodLink RJ7 343 yJ7_checkLength_df160, Cond.static yJ7_checkLength_df160, Cond.code yJ7_checkLength_df160 cJ7_checkLength_df160 2 none, Cond.methodLink RX6 191 yX6_codeOf, Cond.static yX6_codeOf, Cond.code yX6_codeOf cX6_codeOf 4 (some (.array .byte)), Cond.methodLink RX6 229 yX6_octetAt, Cond.static yX6_octetAt, Cond.code yX6_octetAt cX6_octetAt 2 (some .int), Cond.instanceMethod yX2_init, Cond.code yX2_init cX2_init 5 none, Cond.methodLink RX2 1 objectInit, Cond.instanceMethod objectInit, Cond.code objectInit ⟨#[0xb1]⟩ 1 none, Cond.fieldLink RX2 7 "RunClasses$Edition" "number" "I", Cond.fieldLink RX2 13 "RunClasses$Edition" "octets" "[B"]
def wsX6_keepEdition_r3 : List Cond := [Cond.fieldLink RX2 17 "RunClasses$Edition" "startCode" "[B", Cond.fieldLink RX2 20 "RunClasses$Edition" "runCode" "[B"]
def wsX6_keepEdition : List Cond := .code yX6_keepEdition cX6_keepEdition 6 none :: ((wsX6_keepEdition_r1 ++ (wsX6_keepEdition_r2 ++ wsX6_keepEdition_r3)) ++ wsX60 ++ wsX20 ++ (vx_atM "java/lang/ArrayIndexOutOfBoundsException" ["java/lang/IndexOutOfBoundsException", "java/lang/RuntimeException", "java/lang/Exception"]).filter goodWord)
def wsX6_addRunnable_r1 : List Cond := [Cond.fieldLink RX6 97 "RunClasses" "runnables" "I", Cond.methodLink RX6 47 yX6_refuse, Cond.instanceMethod yX6_refuse, Cond.selects RX6 yX6_refuse yX6_refuse, Cond.initialized RX6, Cond.code yX6_refuse cX6_refuse 2 (some .int), Cond.fieldLink RX6 181 "RunClasses" "refusals" "I", Cond.methodLink RX6 184 yX6_keepEdition, Cond.instanceMethod yX6_keepEdition, Cond.selects RX6 yX6_keepEdition yX6_keepEdition, Cond.code yX6_keepEdition cX6_keepEdition 6 none, Cond.fieldLink RX6 43 "RunClasses" "underWay" "[B", Cond.fieldLink RX6 51 "RunClasses" "underWayLength" "I", Cond.fieldLink RX6 32 "RunClasses" "newestEditions" "[LRunClasses$Edition;", Cond.classLink RX6 30 RX2, Cond.instantiable RX2 4, Cond.initialized RX2, Cond.methodLink RX6 187 yX6_copyOf, Cond.static yX6_copyOf, Cond.code yX6_copyOf cX6_copyOf 3 (some (.array .byte)), Cond.arrayClass .byte, Cond.methodLink RX6 233 yJ7_copyOfRange_39247, Cond.static yJ7_copyOfRange_39247, Cond.initialized RJ7]
def wsX6_addRunnable_r2 : List Cond := [Cond.code yJ7_copyOfRange_39247 cJ7_copyOfRange_39247 3 (some (.array .byte)), Cond.methodLink RJ7 310 ⟨"[B", "clone", "()Ljava/lang/Object;"⟩, Cond.sameMethod "[B" "java/lang/Object" "clone" "()Ljava/lang/Object;", Cond.native ⟨"java/lang/Object", "clone", "()Ljava/lang/Object;"⟩, Cond.instanceMethod ⟨"java/lang/Object", "clone", "()Ljava/lang/Object;"⟩, Cond.selects "[B" ⟨"[B", "clone", "()Ljava/lang/Object;"⟩ ⟨"java/lang/Object", "clone", "()Ljava/lang/Object;"⟩, Cond.classLink RJ7 311 "[B", Cond.methodLink RJ7 339 yJ7_copyOfRangeByte_39247, Cond.static yJ7_copyOfRangeByte_39247, Cond.code yJ7_copyOfRangeByte_39247 cJ7_copyOfRangeByte_39247 5 (some (.array .byte)), Cond.methodLink RJ7 304 Lib.Math.min.name, Cond.static Lib.Math.min.name, Cond.initialized "java/lang/Math", Cond.code Lib.Math.min.name Lib.Math.min.code 2 (some .int), Cond.methodLink RJ7 150 arraycopyName, Cond.native arraycopyName, Cond.static arraycopyName, Cond.initialized "java/lang/System", Cond.methodLink RJ7 343 yJ7_checkLength_df160, Cond.static yJ7_checkLength_df160, Cond.code yJ7_checkLength_df160 cJ7_checkLength_df160 2 none, Cond.methodLink RX6 191 yX6_codeOf, Cond.static yX6_codeOf, Cond.code yX6_codeOf cX6_codeOf 4 (some (.array .byte))]
def wsX6_addRunnable_r3 : List Cond := [Cond.methodLink RX6 229 yX6_octetAt, Cond.static yX6_octetAt, Cond.code yX6_octetAt cX6_octetAt 2 (some .int), Cond.instanceMethod yX2_init, Cond.code yX2_init cX2_init 5 none, Cond.methodLink RX2 1 objectInit, Cond.instanceMethod objectInit, Cond.code objectInit ⟨#[0xb1]⟩ 1 none, Cond.fieldLink RX2 7 "RunClasses$Edition" "number" "I", Cond.fieldLink RX2 13 "RunClasses$Edition" "octets" "[B", Cond.fieldLink RX2 17 "RunClasses$Edition" "startCode" "[B", Cond.fieldLink RX2 20 "RunClasses$Edition" "runCode" "[B"]
def wsX6_addRunnable : List Cond := .code yX6_addRunnable cX6_addRunnable 1 (some .int) :: ((wsX6_addRunnable_r1 ++ (wsX6_addRunnable_r2 ++ wsX6_addRunnable_r3)) ++ wsX60 ++ wsX20 ++ (vx_atM "java/lang/ArrayIndexOutOfBoundsException" ["java/lang/IndexOutOfBoundsException", "java/lang/RuntimeException", "java/lang/Exception"]).filter goodWord)
def wsX6_addEdition_r1 : List Cond := [Cond.methodLink RX6 47 yX6_refuse, Cond.instanceMethod yX6_refuse, Cond.selects RX6 yX6_refuse yX6_refuse, Cond.initialized RX6, Cond.code yX6_refuse cX6_refuse 2 (some .int), Cond.fieldLink RX6 181 "RunClasses" "refusals" "I", Cond.methodLink RX6 184 yX6_keepEdition, Cond.instanceMethod yX6_keepEdition, Cond.selects RX6 yX6_keepEdition yX6_keepEdition, Cond.code yX6_keepEdition cX6_keepEdition 6 none, Cond.fieldLink RX6 43 "RunClasses" "underWay" "[B", Cond.fieldLink RX6 51 "RunClasses" "underWayLength" "I", Cond.fieldLink RX6 32 "RunClasses" "newestEditions" "[LRunClasses$Edition;", Cond.classLink RX6 30 RX2, Cond.instantiable RX2 4, Cond.initialized RX2, Cond.methodLink RX6 187 yX6_copyOf, Cond.static yX6_copyOf, Cond.code yX6_copyOf cX6_copyOf 3 (some (.array .byte)), Cond.arrayClass .byte, Cond.methodLink RX6 233 yJ7_copyOfRange_39247, Cond.static yJ7_copyOfRange_39247, Cond.initialized RJ7, Cond.code yJ7_copyOfRange_39247 cJ7_copyOfRange_39247 3 (some (.array .byte))]
def wsX6_addEdition_r2 : List Cond := [Cond.methodLink RJ7 310 ⟨"[B", "clone", "()Ljava/lang/Object;"⟩, Cond.sameMethod "[B" "java/lang/Object" "clone" "()Ljava/lang/Object;", Cond.native ⟨"java/lang/Object", "clone", "()Ljava/lang/Object;"⟩, Cond.instanceMethod ⟨"java/lang/Object", "clone", "()Ljava/lang/Object;"⟩, Cond.selects "[B" ⟨"[B", "clone", "()Ljava/lang/Object;"⟩ ⟨"java/lang/Object", "clone", "()Ljava/lang/Object;"⟩, Cond.classLink RJ7 311 "[B", Cond.methodLink RJ7 339 yJ7_copyOfRangeByte_39247, Cond.static yJ7_copyOfRangeByte_39247, Cond.code yJ7_copyOfRangeByte_39247 cJ7_copyOfRangeByte_39247 5 (some (.array .byte)), Cond.methodLink RJ7 304 Lib.Math.min.name, Cond.static Lib.Math.min.name, Cond.initialized "java/lang/Math", Cond.code Lib.Math.min.name Lib.Math.min.code 2 (some .int), Cond.methodLink RJ7 150 arraycopyName, Cond.native arraycopyName, Cond.static arraycopyName, Cond.initialized "java/lang/System", Cond.methodLink RJ7 343 yJ7_checkLength_df160, Cond.static yJ7_checkLength_df160, Cond.code yJ7_checkLength_df160 cJ7_checkLength_df160 2 none, Cond.methodLink RX6 191 yX6_codeOf, Cond.static yX6_codeOf, Cond.code yX6_codeOf cX6_codeOf 4 (some (.array .byte)), Cond.methodLink RX6 229 yX6_octetAt]
def wsX6_addEdition_r3 : List Cond := [Cond.static yX6_octetAt, Cond.code yX6_octetAt cX6_octetAt 2 (some .int), Cond.instanceMethod yX2_init, Cond.code yX2_init cX2_init 5 none, Cond.methodLink RX2 1 objectInit, Cond.instanceMethod objectInit, Cond.code objectInit ⟨#[0xb1]⟩ 1 none, Cond.fieldLink RX2 7 "RunClasses$Edition" "number" "I", Cond.fieldLink RX2 13 "RunClasses$Edition" "octets" "[B", Cond.fieldLink RX2 17 "RunClasses$Edition" "startCode" "[B", Cond.fieldLink RX2 20 "RunClasses$Edition" "runCode" "[B"]
def wsX6_addEdition : List Cond := .code yX6_addEdition cX6_addEdition 3 (some .int) :: ((wsX6_addEdition_r1 ++ (wsX6_addEdition_r2 ++ wsX6_addEdition_r3)) ++ wsX60 ++ wsX20 ++ (vx_atM "java/lang/ArrayIndexOutOfBoundsException" ["java/lang/IndexOutOfBoundsException", "java/lang/RuntimeException", "java/lang/Exception"]).filter goodWord)
def wsX6_runnable_r1 : List Cond := [Cond.fieldLink RX6 43 "RunClasses" "underWay" "[B", Cond.fieldLink RX6 51 "RunClasses" "underWayLength" "I", Cond.methodLink RX6 58 yX6_newestOf, Cond.instanceMethod yX6_newestOf, Cond.selects RX6 yX6_newestOf yX6_newestOf, Cond.initialized RX6, Cond.code yX6_newestOf cX6_newestOf 2 (some (.object "RunClasses$Edition")), Cond.fieldLink RX6 32 "RunClasses" "newestEditions" "[LRunClasses$Edition;", Cond.methodLink RX6 47 yX6_refuse, Cond.instanceMethod yX6_refuse, Cond.selects RX6 yX6_refuse yX6_refuse, Cond.code yX6_refuse cX6_refuse 2 (some .int), Cond.fieldLink RX6 181 "RunClasses" "refusals" "I", Cond.methodLink RX6 62 yX6_isRight, Cond.static yX6_isRight, Cond.code yX6_isRight cX6_isRight 6 (some .boolean), Cond.methodLink RX6 229 yX6_octetAt, Cond.static yX6_octetAt, Cond.code yX6_octetAt cX6_octetAt 2 (some .int), Cond.methodLink RX6 66 yX6_addRunnable, Cond.instanceMethod yX6_addRunnable, Cond.selects RX6 yX6_addRunnable yX6_addRunnable, Cond.code yX6_addRunnable cX6_addRunnable 1 (some .int), Cond.fieldLink RX6 97 "RunClasses" "runnables" "I"]
def wsX6_runnable_r2 : List Cond := [Cond.methodLink RX6 184 yX6_keepEdition, Cond.instanceMethod yX6_keepEdition, Cond.selects RX6 yX6_keepEdition yX6_keepEdition, Cond.code yX6_keepEdition cX6_keepEdition 6 none, Cond.classLink RX6 30 RX2, Cond.instantiable RX2 4, Cond.initialized RX2, Cond.methodLink RX6 187 yX6_copyOf, Cond.static yX6_copyOf, Cond.code yX6_copyOf cX6_copyOf 3 (some (.array .byte)), Cond.arrayClass .byte, Cond.methodLink RX6 233 yJ7_copyOfRange_39247, Cond.static yJ7_copyOfRange_39247, Cond.initialized RJ7, Cond.code yJ7_copyOfRange_39247 cJ7_copyOfRange_39247 3 (some (.array .byte)), Cond.methodLink RJ7 310 ⟨"[B", "clone", "()Ljava/lang/Object;"⟩, Cond.sameMethod "[B" "java/lang/Object" "clone" "()Ljava/lang/Object;", Cond.native ⟨"java/lang/Object", "clone", "()Ljava/lang/Object;"⟩, Cond.instanceMethod ⟨"java/lang/Object", "clone", "()Ljava/lang/Object;"⟩, Cond.selects "[B" ⟨"[B", "clone", "()Ljava/lang/Object;"⟩ ⟨"java/lang/Object", "clone", "()Ljava/lang/Object;"⟩, Cond.classLink RJ7 311 "[B", Cond.methodLink RJ7 339 yJ7_copyOfRangeByte_39247, Cond.static yJ7_copyOfRangeByte_39247, Cond.code yJ7_copyOfRangeByte_39247 cJ7_copyOfRangeByte_39247 5 (some (.array .byte))]
def wsX6_runnable_r3 : List Cond := [Cond.methodLink RJ7 304 Lib.Math.min.name, Cond.static Lib.Math.min.name, Cond.initialized "java/lang/Math", Cond.code Lib.Math.min.name Lib.Math.min.code 2 (some .int), Cond.methodLink RJ7 150 arraycopyName, Cond.native arraycopyName, Cond.static arraycopyName, Cond.initialized "java/lang/System", Cond.methodLink RJ7 343 yJ7_checkLength_df160, Cond.static yJ7_checkLength_df160, Cond.code yJ7_checkLength_df160 cJ7_checkLength_df160 2 none, Cond.methodLink RX6 191 yX6_codeOf, Cond.static yX6_codeOf, Cond.code yX6_codeOf cX6_codeOf 4 (some (.array .byte)), Cond.instanceMethod yX2_init, Cond.code yX2_init cX2_init 5 none, Cond.methodLink RX2 1 objectInit, Cond.instanceMethod objectInit, Cond.code objectInit ⟨#[0xb1]⟩ 1 none, Cond.fieldLink RX2 7 "RunClasses$Edition" "number" "I", Cond.fieldLink RX2 13 "RunClasses$Edition" "octets" "[B", Cond.fieldLink RX2 17 "RunClasses$Edition" "startCode" "[B", Cond.fieldLink RX2 20 "RunClasses$Edition" "runCode" "[B", Cond.methodLink RX6 73 yX6_addEdition]
def wsX6_runnable_r4 : List Cond := [Cond.instanceMethod yX6_addEdition, Cond.selects RX6 yX6_addEdition yX6_addEdition, Cond.code yX6_addEdition cX6_addEdition 3 (some .int)]
def wsX6_runnable : List Cond := .code yX6_runnable cX6_runnable 3 (some .int) :: ((wsX6_runnable_r1 ++ (wsX6_runnable_r2 ++ (wsX6_runnable_r3 ++ wsX6_runnable_r4))) ++ wsX60 ++ wsX20 ++ (vx_atM "java/lang/ArrayIndexOutOfBoundsException" ["java/lang/IndexOutOfBoundsException", "java/lang/RuntimeException", "java/lang/Exception"]).filter goodWord)
def wsX6_controllerAt : List Cond := .code yX6_controllerAt cX6_controllerAt 2 (some (.object "RunClasses$Controller")) :: ([.fieldLink RX6 25 "RunClasses" "controllers" "[LRunClasses$Controller;"] ++ wsX60)
def wsX6_make_r1 : List Cond := [Cond.classLink RX6 88 RX4, Cond.instantiable RX4 4, Cond.initialized RX4, Cond.methodLink RX6 76 yX6_controllerAt, Cond.instanceMethod yX6_controllerAt, Cond.selects RX6 yX6_controllerAt yX6_controllerAt, Cond.initialized RX6, Cond.code yX6_controllerAt cX6_controllerAt 2 (some (.object "RunClasses$Controller")), Cond.fieldLink RX6 25 "RunClasses" "controllers" "[LRunClasses$Controller;", Cond.methodLink RX6 58 yX6_newestOf, Cond.instanceMethod yX6_newestOf, Cond.selects RX6 yX6_newestOf yX6_newestOf, Cond.code yX6_newestOf cX6_newestOf 2 (some (.object "RunClasses$Edition")), Cond.fieldLink RX6 32 "RunClasses" "newestEditions" "[LRunClasses$Edition;", Cond.methodLink RX6 47 yX6_refuse, Cond.instanceMethod yX6_refuse, Cond.selects RX6 yX6_refuse yX6_refuse, Cond.code yX6_refuse cX6_refuse 2 (some .int), Cond.fieldLink RX6 181 "RunClasses" "refusals" "I", Cond.instanceMethod yX1_classOf, Cond.initialized RX1, Cond.selects RX1 yX1_classOf yX1_classOf, Cond.code yX1_classOf cX1_classOf 2 (some (.object "RunClasses$Loaded")), Cond.fieldLink RX1 17 "RunClasses$Controller" "classes" "[LRunClasses$Loaded;"]
def wsX6_make_r2 : List Cond := [Cond.instanceMethod yX4_init, Cond.code yX4_init cX4_init 2 none, Cond.methodLink RX4 3 objectInit, Cond.instanceMethod objectInit, Cond.code objectInit ⟨#[0xb1]⟩ 1 none, Cond.arrayClass .long, Cond.fieldLink RX4 9 "RunClasses$Loaded" "cells" "[J", Cond.fieldLink RX4 15 "RunClasses$Loaded" "handle" "I", Cond.fieldLink RX4 19 "RunClasses$Loaded" "edition" "I", Cond.instanceMethod yX1_load, Cond.selects RX1 yX1_load yX1_load, Cond.code yX1_load cX1_load 3 none]
def wsX6_make : List Cond := .code yX6_make cX6_make 5 (some .int) :: ((wsX6_make_r1 ++ wsX6_make_r2) ++ wsX10 ++ wsX40 ++ wsX20 ++ wsX60)
def wsX6_call_r1 : List Cond := [Cond.fieldLink RX6 39 "RunClasses" "way" "LRunClasses$Way;", Cond.fieldLink RX6 19 "RunClasses" "budget" "I", Cond.instanceMethod yX5_go, Cond.initialized RX5, Cond.selects RX5 yX5_go yX5_go, Cond.code yX5_go cX5_go 7 (some .int), Cond.fieldLink RX5 21 "RunClasses$Way" "code" "[B", Cond.fieldLink RX5 25 "RunClasses$Way" "ports" "[J", Cond.fieldLink RX5 28 "RunClasses$Way" "cells" "[J", Cond.fieldLink RX5 39 "RunClasses$Way" "height" "I", Cond.fieldLink RX5 43 "RunClasses$Way" "at" "I", Cond.fieldLink RX5 46 "RunClasses$Way" "given" "I", Cond.fieldLink RX5 49 "RunClasses$Way" "handle" "I", Cond.fieldLink RX5 56 "RunClasses$Way" "steps" "I", Cond.methodLink RX5 52 yX5_step, Cond.instanceMethod yX5_step, Cond.selects RX5 yX5_step yX5_step, Cond.code yX5_step cX5_step 5 (some .int), Cond.static yX6_octetAt, Cond.initialized RX6, Cond.code yX6_octetAt cX6_octetAt 2 (some .int), Cond.methodLink RX5 82 yX5_doIt, Cond.instanceMethod yX5_doIt, Cond.selects RX5 yX5_doIt yX5_doIt]
def wsX6_call_r2 : List Cond := [Cond.code yX5_doIt cX5_doIt 9 (some .int), Cond.fieldLink RX5 86 "RunClasses$1" "$SwitchMap$RunClasses$Instruction" "[I", Cond.fieldLink RX5 9 "RunClasses$Way" "pile" "[J", Cond.constantLong RX5 115 (8), Cond.methodLink RX5 92 ⟨"RunClasses$Instruction", "ordinal", "()I"⟩, Cond.sameMethod "RunClasses$Instruction" "java/lang/Enum" "ordinal" "()I", Cond.selects RX3 ⟨"RunClasses$Instruction", "ordinal", "()I"⟩ yJx29ce0_ordinal_8abf5, Cond.instanceMethod yJx29ce0_ordinal_8abf5, Cond.initialized RJx29ce0, Cond.code yJx29ce0_ordinal_8abf5 cJx29ce0_ordinal_8abf5 1 (some .int), Cond.fieldLink RJx29ce0 7 "java/lang/Enum" "ordinal" "I", Cond.methodLink RX5 95 yX5_lay, Cond.instanceMethod yX5_lay, Cond.selects RX5 yX5_lay yX5_lay, Cond.code yX5_lay cX5_lay 3 (some .int), Cond.static yX6_numberAt, Cond.code yX6_numberAt cX6_numberAt 2 (some .long), Cond.methodLink RX5 103 yX5_take, Cond.instanceMethod yX5_take, Cond.selects RX5 yX5_take yX5_take, Cond.code yX5_take cX5_take 1 (some .long), Cond.static yX6_putNumber, Cond.code yX6_putNumber cX6_putNumber 4 none, Cond.methodLink RX5 111 yX5_goOnAt]
def wsX6_call_r3 : List Cond := [Cond.instanceMethod yX5_goOnAt, Cond.selects RX5 yX5_goOnAt yX5_goOnAt, Cond.code yX5_goOnAt cX5_goOnAt 2 (some .int), Cond.methodLink RX5 117 yX5_divides, Cond.static yX5_divides, Cond.code yX5_divides cX5_divides 1 (some .boolean), Cond.fieldLink RX5 125 "RunClasses$Instruction" "DIVIDE" "LRunClasses$Instruction;", Cond.fieldLink RX5 129 "RunClasses$Instruction" "REMAINDER" "LRunClasses$Instruction;", Cond.methodLink RX5 121 yX5_reckoned, Cond.static yX5_reckoned, Cond.code yX5_reckoned cX5_reckoned 5 (some .long)]
def wsX6_call : List Cond := .code yX6_call cX6_call 6 (some .int) :: ((wsX6_call_r1 ++ (wsX6_call_r2 ++ wsX6_call_r3)) ++ wsX60 ++ wsX10 ++ wsX40 ++ wsX50 ++ (vx_atM "java/lang/ArrayIndexOutOfBoundsException" ["java/lang/IndexOutOfBoundsException", "java/lang/RuntimeException", "java/lang/Exception"]).filter goodWord ++ (vx_atM "java/lang/ArithmeticException" ["java/lang/RuntimeException", "java/lang/Exception"]).filter goodWord)
def wsX6_callStart_r1 : List Cond := [Cond.instanceMethod yX1_classOf, Cond.initialized RX1, Cond.selects RX1 yX1_classOf yX1_classOf, Cond.code yX1_classOf cX1_classOf 2 (some (.object "RunClasses$Loaded")), Cond.fieldLink RX1 17 "RunClasses$Controller" "classes" "[LRunClasses$Loaded;", Cond.methodLink RX6 58 yX6_newestOf, Cond.instanceMethod yX6_newestOf, Cond.selects RX6 yX6_newestOf yX6_newestOf, Cond.initialized RX6, Cond.code yX6_newestOf cX6_newestOf 2 (some (.object "RunClasses$Edition")), Cond.fieldLink RX6 32 "RunClasses" "newestEditions" "[LRunClasses$Edition;", Cond.methodLink RX6 201 yX6_call, Cond.instanceMethod yX6_call, Cond.selects RX6 yX6_call yX6_call, Cond.code yX6_call cX6_call 6 (some .int), Cond.fieldLink RX6 39 "RunClasses" "way" "LRunClasses$Way;", Cond.fieldLink RX6 19 "RunClasses" "budget" "I", Cond.instanceMethod yX5_go, Cond.initialized RX5, Cond.selects RX5 yX5_go yX5_go, Cond.code yX5_go cX5_go 7 (some .int), Cond.fieldLink RX5 21 "RunClasses$Way" "code" "[B", Cond.fieldLink RX5 25 "RunClasses$Way" "ports" "[J", Cond.fieldLink RX5 28 "RunClasses$Way" "cells" "[J"]
def wsX6_callStart_r2 : List Cond := [Cond.fieldLink RX5 39 "RunClasses$Way" "height" "I", Cond.fieldLink RX5 43 "RunClasses$Way" "at" "I", Cond.fieldLink RX5 46 "RunClasses$Way" "given" "I", Cond.fieldLink RX5 49 "RunClasses$Way" "handle" "I", Cond.fieldLink RX5 56 "RunClasses$Way" "steps" "I", Cond.methodLink RX5 52 yX5_step, Cond.instanceMethod yX5_step, Cond.selects RX5 yX5_step yX5_step, Cond.code yX5_step cX5_step 5 (some .int), Cond.static yX6_octetAt, Cond.code yX6_octetAt cX6_octetAt 2 (some .int), Cond.methodLink RX5 82 yX5_doIt, Cond.instanceMethod yX5_doIt, Cond.selects RX5 yX5_doIt yX5_doIt, Cond.code yX5_doIt cX5_doIt 9 (some .int), Cond.fieldLink RX5 86 "RunClasses$1" "$SwitchMap$RunClasses$Instruction" "[I", Cond.fieldLink RX5 9 "RunClasses$Way" "pile" "[J", Cond.constantLong RX5 115 (8), Cond.methodLink RX5 92 ⟨"RunClasses$Instruction", "ordinal", "()I"⟩, Cond.sameMethod "RunClasses$Instruction" "java/lang/Enum" "ordinal" "()I", Cond.selects RX3 ⟨"RunClasses$Instruction", "ordinal", "()I"⟩ yJx29ce0_ordinal_8abf5, Cond.instanceMethod yJx29ce0_ordinal_8abf5, Cond.initialized RJx29ce0, Cond.code yJx29ce0_ordinal_8abf5 cJx29ce0_ordinal_8abf5 1 (some .int)]
def wsX6_callStart_r3 : List Cond := [Cond.fieldLink RJx29ce0 7 "java/lang/Enum" "ordinal" "I", Cond.methodLink RX5 95 yX5_lay, Cond.instanceMethod yX5_lay, Cond.selects RX5 yX5_lay yX5_lay, Cond.code yX5_lay cX5_lay 3 (some .int), Cond.static yX6_numberAt, Cond.code yX6_numberAt cX6_numberAt 2 (some .long), Cond.methodLink RX5 103 yX5_take, Cond.instanceMethod yX5_take, Cond.selects RX5 yX5_take yX5_take, Cond.code yX5_take cX5_take 1 (some .long), Cond.static yX6_putNumber, Cond.code yX6_putNumber cX6_putNumber 4 none, Cond.methodLink RX5 111 yX5_goOnAt, Cond.instanceMethod yX5_goOnAt, Cond.selects RX5 yX5_goOnAt yX5_goOnAt, Cond.code yX5_goOnAt cX5_goOnAt 2 (some .int), Cond.methodLink RX5 117 yX5_divides, Cond.static yX5_divides, Cond.code yX5_divides cX5_divides 1 (some .boolean), Cond.fieldLink RX5 125 "RunClasses$Instruction" "DIVIDE" "LRunClasses$Instruction;", Cond.fieldLink RX5 129 "RunClasses$Instruction" "REMAINDER" "LRunClasses$Instruction;", Cond.methodLink RX5 121 yX5_reckoned, Cond.static yX5_reckoned]
def wsX6_callStart_r4 : List Cond := [Cond.code yX5_reckoned cX5_reckoned 5 (some .long)]
def wsX6_callStart : List Cond := .code yX6_callStart cX6_callStart 5 (some .int) :: ((wsX6_callStart_r1 ++ (wsX6_callStart_r2 ++ (wsX6_callStart_r3 ++ wsX6_callStart_r4))) ++ wsX40 ++ wsX20 ++ wsX10 ++ wsX60 ++ wsX50 ++ (vx_atM "java/lang/ArrayIndexOutOfBoundsException" ["java/lang/IndexOutOfBoundsException", "java/lang/RuntimeException", "java/lang/Exception"]).filter goodWord ++ (vx_atM "java/lang/ArithmeticException" ["java/lang/RuntimeException", "java/lang/Exception"]).filter goodWord)
def wsX6_power_r1 : List Cond := [Cond.fieldLink RX6 97 "RunClasses" "runnables" "I", Cond.methodLink RX6 76 yX6_controllerAt, Cond.instanceMethod yX6_controllerAt, Cond.selects RX6 yX6_controllerAt yX6_controllerAt, Cond.initialized RX6, Cond.code yX6_controllerAt cX6_controllerAt 2 (some (.object "RunClasses$Controller")), Cond.fieldLink RX6 25 "RunClasses" "controllers" "[LRunClasses$Controller;", Cond.methodLink RX6 47 yX6_refuse, Cond.instanceMethod yX6_refuse, Cond.selects RX6 yX6_refuse yX6_refuse, Cond.code yX6_refuse cX6_refuse 2 (some .int), Cond.fieldLink RX6 181 "RunClasses" "refusals" "I", Cond.methodLink RX6 100 yX6_callStart, Cond.instanceMethod yX6_callStart, Cond.selects RX6 yX6_callStart yX6_callStart, Cond.code yX6_callStart cX6_callStart 5 (some .int), Cond.instanceMethod yX1_classOf, Cond.initialized RX1, Cond.selects RX1 yX1_classOf yX1_classOf, Cond.code yX1_classOf cX1_classOf 2 (some (.object "RunClasses$Loaded")), Cond.fieldLink RX1 17 "RunClasses$Controller" "classes" "[LRunClasses$Loaded;", Cond.methodLink RX6 58 yX6_newestOf, Cond.instanceMethod yX6_newestOf, Cond.selects RX6 yX6_newestOf yX6_newestOf]
def wsX6_power_r2 : List Cond := [Cond.code yX6_newestOf cX6_newestOf 2 (some (.object "RunClasses$Edition")), Cond.fieldLink RX6 32 "RunClasses" "newestEditions" "[LRunClasses$Edition;", Cond.methodLink RX6 201 yX6_call, Cond.instanceMethod yX6_call, Cond.selects RX6 yX6_call yX6_call, Cond.code yX6_call cX6_call 6 (some .int), Cond.fieldLink RX6 39 "RunClasses" "way" "LRunClasses$Way;", Cond.fieldLink RX6 19 "RunClasses" "budget" "I", Cond.instanceMethod yX5_go, Cond.initialized RX5, Cond.selects RX5 yX5_go yX5_go, Cond.code yX5_go cX5_go 7 (some .int), Cond.fieldLink RX5 21 "RunClasses$Way" "code" "[B", Cond.fieldLink RX5 25 "RunClasses$Way" "ports" "[J", Cond.fieldLink RX5 28 "RunClasses$Way" "cells" "[J", Cond.fieldLink RX5 39 "RunClasses$Way" "height" "I", Cond.fieldLink RX5 43 "RunClasses$Way" "at" "I", Cond.fieldLink RX5 46 "RunClasses$Way" "given" "I", Cond.fieldLink RX5 49 "RunClasses$Way" "handle" "I", Cond.fieldLink RX5 56 "RunClasses$Way" "steps" "I", Cond.methodLink RX5 52 yX5_step, Cond.instanceMethod yX5_step, Cond.selects RX5 yX5_step yX5_step, Cond.code yX5_step cX5_step 5 (some .int)]
def wsX6_power_r3 : List Cond := [Cond.static yX6_octetAt, Cond.code yX6_octetAt cX6_octetAt 2 (some .int), Cond.methodLink RX5 82 yX5_doIt, Cond.instanceMethod yX5_doIt, Cond.selects RX5 yX5_doIt yX5_doIt, Cond.code yX5_doIt cX5_doIt 9 (some .int), Cond.fieldLink RX5 86 "RunClasses$1" "$SwitchMap$RunClasses$Instruction" "[I", Cond.fieldLink RX5 9 "RunClasses$Way" "pile" "[J", Cond.constantLong RX5 115 (8), Cond.methodLink RX5 92 ⟨"RunClasses$Instruction", "ordinal", "()I"⟩, Cond.sameMethod "RunClasses$Instruction" "java/lang/Enum" "ordinal" "()I", Cond.selects RX3 ⟨"RunClasses$Instruction", "ordinal", "()I"⟩ yJx29ce0_ordinal_8abf5, Cond.instanceMethod yJx29ce0_ordinal_8abf5, Cond.initialized RJx29ce0, Cond.code yJx29ce0_ordinal_8abf5 cJx29ce0_ordinal_8abf5 1 (some .int), Cond.fieldLink RJx29ce0 7 "java/lang/Enum" "ordinal" "I", Cond.methodLink RX5 95 yX5_lay, Cond.instanceMethod yX5_lay, Cond.selects RX5 yX5_lay yX5_lay, Cond.code yX5_lay cX5_lay 3 (some .int), Cond.static yX6_numberAt, Cond.code yX6_numberAt cX6_numberAt 2 (some .long), Cond.methodLink RX5 103 yX5_take, Cond.instanceMethod yX5_take]
def wsX6_power_r4 : List Cond := [Cond.selects RX5 yX5_take yX5_take, Cond.code yX5_take cX5_take 1 (some .long), Cond.static yX6_putNumber, Cond.code yX6_putNumber cX6_putNumber 4 none, Cond.methodLink RX5 111 yX5_goOnAt, Cond.instanceMethod yX5_goOnAt, Cond.selects RX5 yX5_goOnAt yX5_goOnAt, Cond.code yX5_goOnAt cX5_goOnAt 2 (some .int), Cond.methodLink RX5 117 yX5_divides, Cond.static yX5_divides, Cond.code yX5_divides cX5_divides 1 (some .boolean), Cond.fieldLink RX5 125 "RunClasses$Instruction" "DIVIDE" "LRunClasses$Instruction;", Cond.fieldLink RX5 129 "RunClasses$Instruction" "REMAINDER" "LRunClasses$Instruction;", Cond.methodLink RX5 121 yX5_reckoned, Cond.static yX5_reckoned, Cond.code yX5_reckoned cX5_reckoned 5 (some .long)]
def wsX6_power : List Cond := .code yX6_power cX6_power 5 (some .int) :: ((wsX6_power_r1 ++ (wsX6_power_r2 ++ (wsX6_power_r3 ++ wsX6_power_r4))) ++ wsX10 ++ wsX60 ++ wsX40 ++ wsX20 ++ wsX50 ++ (vx_atM "java/lang/ArrayIndexOutOfBoundsException" ["java/lang/IndexOutOfBoundsException", "java/lang/RuntimeException", "java/lang/Exception"]).filter goodWord ++ (vx_atM "java/lang/ArithmeticException" ["java/lang/RuntimeException", "java/lang/Exception"]).filter goodWord)
def wsX6_react : List Cond := .code yX6_react cX6_react 2 none :: ([] ++ wsX10 ++ wsX40)
def wsX6_callRun_r1 : List Cond := [Cond.fieldLink RX6 39 "RunClasses" "way" "LRunClasses$Way;", Cond.fieldLink RX6 19 "RunClasses" "budget" "I", Cond.methodLink RX6 76 yX6_controllerAt, Cond.instanceMethod yX6_controllerAt, Cond.selects RX6 yX6_controllerAt yX6_controllerAt, Cond.initialized RX6, Cond.code yX6_controllerAt cX6_controllerAt 2 (some (.object "RunClasses$Controller")), Cond.fieldLink RX6 25 "RunClasses" "controllers" "[LRunClasses$Controller;", Cond.methodLink RX6 58 yX6_newestOf, Cond.instanceMethod yX6_newestOf, Cond.selects RX6 yX6_newestOf yX6_newestOf, Cond.code yX6_newestOf cX6_newestOf 2 (some (.object "RunClasses$Edition")), Cond.fieldLink RX6 32 "RunClasses" "newestEditions" "[LRunClasses$Edition;", Cond.methodLink RX6 47 yX6_refuse, Cond.instanceMethod yX6_refuse, Cond.selects RX6 yX6_refuse yX6_refuse, Cond.code yX6_refuse cX6_refuse 2 (some .int), Cond.fieldLink RX6 181 "RunClasses" "refusals" "I", Cond.instanceMethod yX1_classOf, Cond.initialized RX1, Cond.selects RX1 yX1_classOf yX1_classOf, Cond.code yX1_classOf cX1_classOf 2 (some (.object "RunClasses$Loaded")), Cond.fieldLink RX1 17 "RunClasses$Controller" "classes" "[LRunClasses$Loaded;", Cond.instanceMethod yX5_goOnCopies]
def wsX6_callRun_r2 : List Cond := [Cond.initialized RX5, Cond.selects RX5 yX5_goOnCopies yX5_goOnCopies, Cond.code yX5_goOnCopies cX5_goOnCopies 5 (some .int), Cond.fieldLink RX5 15 "RunClasses$Way" "copiedPorts" "[J", Cond.fieldLink RX5 18 "RunClasses$Way" "copiedCells" "[J", Cond.static yX6_copyNumbers, Cond.code yX6_copyNumbers cX6_copyNumbers 3 none, Cond.methodLink RX5 35 yX5_go, Cond.instanceMethod yX5_go, Cond.selects RX5 yX5_go yX5_go, Cond.code yX5_go cX5_go 7 (some .int), Cond.fieldLink RX5 21 "RunClasses$Way" "code" "[B", Cond.fieldLink RX5 25 "RunClasses$Way" "ports" "[J", Cond.fieldLink RX5 28 "RunClasses$Way" "cells" "[J", Cond.fieldLink RX5 39 "RunClasses$Way" "height" "I", Cond.fieldLink RX5 43 "RunClasses$Way" "at" "I", Cond.fieldLink RX5 46 "RunClasses$Way" "given" "I", Cond.fieldLink RX5 49 "RunClasses$Way" "handle" "I", Cond.fieldLink RX5 56 "RunClasses$Way" "steps" "I", Cond.methodLink RX5 52 yX5_step, Cond.instanceMethod yX5_step, Cond.selects RX5 yX5_step yX5_step, Cond.code yX5_step cX5_step 5 (some .int), Cond.static yX6_octetAt]
def wsX6_callRun_r3 : List Cond := [Cond.code yX6_octetAt cX6_octetAt 2 (some .int), Cond.methodLink RX5 82 yX5_doIt, Cond.instanceMethod yX5_doIt, Cond.selects RX5 yX5_doIt yX5_doIt, Cond.code yX5_doIt cX5_doIt 9 (some .int), Cond.fieldLink RX5 86 "RunClasses$1" "$SwitchMap$RunClasses$Instruction" "[I", Cond.fieldLink RX5 9 "RunClasses$Way" "pile" "[J", Cond.constantLong RX5 115 (8), Cond.methodLink RX5 92 ⟨"RunClasses$Instruction", "ordinal", "()I"⟩, Cond.sameMethod "RunClasses$Instruction" "java/lang/Enum" "ordinal" "()I", Cond.selects RX3 ⟨"RunClasses$Instruction", "ordinal", "()I"⟩ yJx29ce0_ordinal_8abf5, Cond.instanceMethod yJx29ce0_ordinal_8abf5, Cond.initialized RJx29ce0, Cond.code yJx29ce0_ordinal_8abf5 cJx29ce0_ordinal_8abf5 1 (some .int), Cond.fieldLink RJx29ce0 7 "java/lang/Enum" "ordinal" "I", Cond.methodLink RX5 95 yX5_lay, Cond.instanceMethod yX5_lay, Cond.selects RX5 yX5_lay yX5_lay, Cond.code yX5_lay cX5_lay 3 (some .int), Cond.static yX6_numberAt, Cond.code yX6_numberAt cX6_numberAt 2 (some .long), Cond.methodLink RX5 103 yX5_take, Cond.instanceMethod yX5_take, Cond.selects RX5 yX5_take yX5_take]
def wsX6_callRun_r4 : List Cond := [Cond.code yX5_take cX5_take 1 (some .long), Cond.static yX6_putNumber, Cond.code yX6_putNumber cX6_putNumber 4 none, Cond.methodLink RX5 111 yX5_goOnAt, Cond.instanceMethod yX5_goOnAt, Cond.selects RX5 yX5_goOnAt yX5_goOnAt, Cond.code yX5_goOnAt cX5_goOnAt 2 (some .int), Cond.methodLink RX5 117 yX5_divides, Cond.static yX5_divides, Cond.code yX5_divides cX5_divides 1 (some .boolean), Cond.fieldLink RX5 125 "RunClasses$Instruction" "DIVIDE" "LRunClasses$Instruction;", Cond.fieldLink RX5 129 "RunClasses$Instruction" "REMAINDER" "LRunClasses$Instruction;", Cond.methodLink RX5 121 yX5_reckoned, Cond.static yX5_reckoned, Cond.code yX5_reckoned cX5_reckoned 5 (some .long), Cond.methodLink RX6 201 yX6_call, Cond.instanceMethod yX6_call, Cond.selects RX6 yX6_call yX6_call, Cond.code yX6_call cX6_call 6 (some .int), Cond.methodLink RX6 215 yX6_react, Cond.static yX6_react, Cond.code yX6_react cX6_react 2 none]
def wsX6_callRun : List Cond := .code yX6_callRun cX6_callRun 8 (some .int) :: ((wsX6_callRun_r1 ++ (wsX6_callRun_r2 ++ (wsX6_callRun_r3 ++ wsX6_callRun_r4))) ++ wsX10 ++ wsX40 ++ wsX20 ++ wsX60 ++ wsX50 ++ (vx_atM "java/lang/ArrayIndexOutOfBoundsException" ["java/lang/IndexOutOfBoundsException", "java/lang/RuntimeException", "java/lang/Exception"]).filter goodWord ++ (vx_atM "java/lang/ArithmeticException" ["java/lang/RuntimeException", "java/lang/Exception"]).filter goodWord)
def wsX6_run_r1 : List Cond := [Cond.methodLink RX6 104 yX6_callRun, Cond.instanceMethod yX6_callRun, Cond.selects RX6 yX6_callRun yX6_callRun, Cond.initialized RX6, Cond.code yX6_callRun cX6_callRun 8 (some .int), Cond.fieldLink RX6 39 "RunClasses" "way" "LRunClasses$Way;", Cond.fieldLink RX6 19 "RunClasses" "budget" "I", Cond.methodLink RX6 76 yX6_controllerAt, Cond.instanceMethod yX6_controllerAt, Cond.selects RX6 yX6_controllerAt yX6_controllerAt, Cond.code yX6_controllerAt cX6_controllerAt 2 (some (.object "RunClasses$Controller")), Cond.fieldLink RX6 25 "RunClasses" "controllers" "[LRunClasses$Controller;", Cond.methodLink RX6 58 yX6_newestOf, Cond.instanceMethod yX6_newestOf, Cond.selects RX6 yX6_newestOf yX6_newestOf, Cond.code yX6_newestOf cX6_newestOf 2 (some (.object "RunClasses$Edition")), Cond.fieldLink RX6 32 "RunClasses" "newestEditions" "[LRunClasses$Edition;", Cond.methodLink RX6 47 yX6_refuse, Cond.instanceMethod yX6_refuse, Cond.selects RX6 yX6_refuse yX6_refuse, Cond.code yX6_refuse cX6_refuse 2 (some .int), Cond.fieldLink RX6 181 "RunClasses" "refusals" "I", Cond.instanceMethod yX1_classOf, Cond.initialized RX1]
def wsX6_run_r2 : List Cond := [Cond.selects RX1 yX1_classOf yX1_classOf, Cond.code yX1_classOf cX1_classOf 2 (some (.object "RunClasses$Loaded")), Cond.fieldLink RX1 17 "RunClasses$Controller" "classes" "[LRunClasses$Loaded;", Cond.instanceMethod yX5_goOnCopies, Cond.initialized RX5, Cond.selects RX5 yX5_goOnCopies yX5_goOnCopies, Cond.code yX5_goOnCopies cX5_goOnCopies 5 (some .int), Cond.fieldLink RX5 15 "RunClasses$Way" "copiedPorts" "[J", Cond.fieldLink RX5 18 "RunClasses$Way" "copiedCells" "[J", Cond.static yX6_copyNumbers, Cond.code yX6_copyNumbers cX6_copyNumbers 3 none, Cond.methodLink RX5 35 yX5_go, Cond.instanceMethod yX5_go, Cond.selects RX5 yX5_go yX5_go, Cond.code yX5_go cX5_go 7 (some .int), Cond.fieldLink RX5 21 "RunClasses$Way" "code" "[B", Cond.fieldLink RX5 25 "RunClasses$Way" "ports" "[J", Cond.fieldLink RX5 28 "RunClasses$Way" "cells" "[J", Cond.fieldLink RX5 39 "RunClasses$Way" "height" "I", Cond.fieldLink RX5 43 "RunClasses$Way" "at" "I", Cond.fieldLink RX5 46 "RunClasses$Way" "given" "I", Cond.fieldLink RX5 49 "RunClasses$Way" "handle" "I", Cond.fieldLink RX5 56 "RunClasses$Way" "steps" "I", Cond.methodLink RX5 52 yX5_step]
def wsX6_run_r3 : List Cond := [Cond.instanceMethod yX5_step, Cond.selects RX5 yX5_step yX5_step, Cond.code yX5_step cX5_step 5 (some .int), Cond.static yX6_octetAt, Cond.code yX6_octetAt cX6_octetAt 2 (some .int), Cond.methodLink RX5 82 yX5_doIt, Cond.instanceMethod yX5_doIt, Cond.selects RX5 yX5_doIt yX5_doIt, Cond.code yX5_doIt cX5_doIt 9 (some .int), Cond.fieldLink RX5 86 "RunClasses$1" "$SwitchMap$RunClasses$Instruction" "[I", Cond.fieldLink RX5 9 "RunClasses$Way" "pile" "[J", Cond.constantLong RX5 115 (8), Cond.methodLink RX5 92 ⟨"RunClasses$Instruction", "ordinal", "()I"⟩, Cond.sameMethod "RunClasses$Instruction" "java/lang/Enum" "ordinal" "()I", Cond.selects RX3 ⟨"RunClasses$Instruction", "ordinal", "()I"⟩ yJx29ce0_ordinal_8abf5, Cond.instanceMethod yJx29ce0_ordinal_8abf5, Cond.initialized RJx29ce0, Cond.code yJx29ce0_ordinal_8abf5 cJx29ce0_ordinal_8abf5 1 (some .int), Cond.fieldLink RJx29ce0 7 "java/lang/Enum" "ordinal" "I", Cond.methodLink RX5 95 yX5_lay, Cond.instanceMethod yX5_lay, Cond.selects RX5 yX5_lay yX5_lay, Cond.code yX5_lay cX5_lay 3 (some .int), Cond.static yX6_numberAt]
def wsX6_run_r4 : List Cond := [Cond.code yX6_numberAt cX6_numberAt 2 (some .long), Cond.methodLink RX5 103 yX5_take, Cond.instanceMethod yX5_take, Cond.selects RX5 yX5_take yX5_take, Cond.code yX5_take cX5_take 1 (some .long), Cond.static yX6_putNumber, Cond.code yX6_putNumber cX6_putNumber 4 none, Cond.methodLink RX5 111 yX5_goOnAt, Cond.instanceMethod yX5_goOnAt, Cond.selects RX5 yX5_goOnAt yX5_goOnAt, Cond.code yX5_goOnAt cX5_goOnAt 2 (some .int), Cond.methodLink RX5 117 yX5_divides, Cond.static yX5_divides, Cond.code yX5_divides cX5_divides 1 (some .boolean), Cond.fieldLink RX5 125 "RunClasses$Instruction" "DIVIDE" "LRunClasses$Instruction;", Cond.fieldLink RX5 129 "RunClasses$Instruction" "REMAINDER" "LRunClasses$Instruction;", Cond.methodLink RX5 121 yX5_reckoned, Cond.static yX5_reckoned, Cond.code yX5_reckoned cX5_reckoned 5 (some .long), Cond.methodLink RX6 201 yX6_call, Cond.instanceMethod yX6_call, Cond.selects RX6 yX6_call yX6_call, Cond.code yX6_call cX6_call 6 (some .int), Cond.methodLink RX6 215 yX6_react]
def wsX6_run_r5 : List Cond := [Cond.static yX6_react, Cond.code yX6_react cX6_react 2 none]
def wsX6_run : List Cond := .code yX6_run cX6_run 3 (some .int) :: ((wsX6_run_r1 ++ (wsX6_run_r2 ++ (wsX6_run_r3 ++ (wsX6_run_r4 ++ wsX6_run_r5)))) ++ wsX10 ++ wsX40 ++ wsX20 ++ wsX60 ++ wsX50 ++ (vx_atM "java/lang/ArrayIndexOutOfBoundsException" ["java/lang/IndexOutOfBoundsException", "java/lang/RuntimeException", "java/lang/Exception"]).filter goodWord ++ (vx_atM "java/lang/ArithmeticException" ["java/lang/RuntimeException", "java/lang/Exception"]).filter goodWord)
def wsX6_beside_r1 : List Cond := [Cond.methodLink RX6 104 yX6_callRun, Cond.instanceMethod yX6_callRun, Cond.selects RX6 yX6_callRun yX6_callRun, Cond.initialized RX6, Cond.code yX6_callRun cX6_callRun 8 (some .int), Cond.fieldLink RX6 39 "RunClasses" "way" "LRunClasses$Way;", Cond.fieldLink RX6 19 "RunClasses" "budget" "I", Cond.methodLink RX6 76 yX6_controllerAt, Cond.instanceMethod yX6_controllerAt, Cond.selects RX6 yX6_controllerAt yX6_controllerAt, Cond.code yX6_controllerAt cX6_controllerAt 2 (some (.object "RunClasses$Controller")), Cond.fieldLink RX6 25 "RunClasses" "controllers" "[LRunClasses$Controller;", Cond.methodLink RX6 58 yX6_newestOf, Cond.instanceMethod yX6_newestOf, Cond.selects RX6 yX6_newestOf yX6_newestOf, Cond.code yX6_newestOf cX6_newestOf 2 (some (.object "RunClasses$Edition")), Cond.fieldLink RX6 32 "RunClasses" "newestEditions" "[LRunClasses$Edition;", Cond.methodLink RX6 47 yX6_refuse, Cond.instanceMethod yX6_refuse, Cond.selects RX6 yX6_refuse yX6_refuse, Cond.code yX6_refuse cX6_refuse 2 (some .int), Cond.fieldLink RX6 181 "RunClasses" "refusals" "I", Cond.instanceMethod yX1_classOf, Cond.initialized RX1]
def wsX6_beside_r2 : List Cond := [Cond.selects RX1 yX1_classOf yX1_classOf, Cond.code yX1_classOf cX1_classOf 2 (some (.object "RunClasses$Loaded")), Cond.fieldLink RX1 17 "RunClasses$Controller" "classes" "[LRunClasses$Loaded;", Cond.instanceMethod yX5_goOnCopies, Cond.initialized RX5, Cond.selects RX5 yX5_goOnCopies yX5_goOnCopies, Cond.code yX5_goOnCopies cX5_goOnCopies 5 (some .int), Cond.fieldLink RX5 15 "RunClasses$Way" "copiedPorts" "[J", Cond.fieldLink RX5 18 "RunClasses$Way" "copiedCells" "[J", Cond.static yX6_copyNumbers, Cond.code yX6_copyNumbers cX6_copyNumbers 3 none, Cond.methodLink RX5 35 yX5_go, Cond.instanceMethod yX5_go, Cond.selects RX5 yX5_go yX5_go, Cond.code yX5_go cX5_go 7 (some .int), Cond.fieldLink RX5 21 "RunClasses$Way" "code" "[B", Cond.fieldLink RX5 25 "RunClasses$Way" "ports" "[J", Cond.fieldLink RX5 28 "RunClasses$Way" "cells" "[J", Cond.fieldLink RX5 39 "RunClasses$Way" "height" "I", Cond.fieldLink RX5 43 "RunClasses$Way" "at" "I", Cond.fieldLink RX5 46 "RunClasses$Way" "given" "I", Cond.fieldLink RX5 49 "RunClasses$Way" "handle" "I", Cond.fieldLink RX5 56 "RunClasses$Way" "steps" "I", Cond.methodLink RX5 52 yX5_step]
def wsX6_beside_r3 : List Cond := [Cond.instanceMethod yX5_step, Cond.selects RX5 yX5_step yX5_step, Cond.code yX5_step cX5_step 5 (some .int), Cond.static yX6_octetAt, Cond.code yX6_octetAt cX6_octetAt 2 (some .int), Cond.methodLink RX5 82 yX5_doIt, Cond.instanceMethod yX5_doIt, Cond.selects RX5 yX5_doIt yX5_doIt, Cond.code yX5_doIt cX5_doIt 9 (some .int), Cond.fieldLink RX5 86 "RunClasses$1" "$SwitchMap$RunClasses$Instruction" "[I", Cond.fieldLink RX5 9 "RunClasses$Way" "pile" "[J", Cond.constantLong RX5 115 (8), Cond.methodLink RX5 92 ⟨"RunClasses$Instruction", "ordinal", "()I"⟩, Cond.sameMethod "RunClasses$Instruction" "java/lang/Enum" "ordinal" "()I", Cond.selects RX3 ⟨"RunClasses$Instruction", "ordinal", "()I"⟩ yJx29ce0_ordinal_8abf5, Cond.instanceMethod yJx29ce0_ordinal_8abf5, Cond.initialized RJx29ce0, Cond.code yJx29ce0_ordinal_8abf5 cJx29ce0_ordinal_8abf5 1 (some .int), Cond.fieldLink RJx29ce0 7 "java/lang/Enum" "ordinal" "I", Cond.methodLink RX5 95 yX5_lay, Cond.instanceMethod yX5_lay, Cond.selects RX5 yX5_lay yX5_lay, Cond.code yX5_lay cX5_lay 3 (some .int), Cond.static yX6_numberAt]
def wsX6_beside_r4 : List Cond := [Cond.code yX6_numberAt cX6_numberAt 2 (some .long), Cond.methodLink RX5 103 yX5_take, Cond.instanceMethod yX5_take, Cond.selects RX5 yX5_take yX5_take, Cond.code yX5_take cX5_take 1 (some .long), Cond.static yX6_putNumber, Cond.code yX6_putNumber cX6_putNumber 4 none, Cond.methodLink RX5 111 yX5_goOnAt, Cond.instanceMethod yX5_goOnAt, Cond.selects RX5 yX5_goOnAt yX5_goOnAt, Cond.code yX5_goOnAt cX5_goOnAt 2 (some .int), Cond.methodLink RX5 117 yX5_divides, Cond.static yX5_divides, Cond.code yX5_divides cX5_divides 1 (some .boolean), Cond.fieldLink RX5 125 "RunClasses$Instruction" "DIVIDE" "LRunClasses$Instruction;", Cond.fieldLink RX5 129 "RunClasses$Instruction" "REMAINDER" "LRunClasses$Instruction;", Cond.methodLink RX5 121 yX5_reckoned, Cond.static yX5_reckoned, Cond.code yX5_reckoned cX5_reckoned 5 (some .long), Cond.methodLink RX6 201 yX6_call, Cond.instanceMethod yX6_call, Cond.selects RX6 yX6_call yX6_call, Cond.code yX6_call cX6_call 6 (some .int), Cond.methodLink RX6 215 yX6_react]
def wsX6_beside_r5 : List Cond := [Cond.static yX6_react, Cond.code yX6_react cX6_react 2 none]
def wsX6_beside : List Cond := .code yX6_beside cX6_beside 3 (some .int) :: ((wsX6_beside_r1 ++ (wsX6_beside_r2 ++ (wsX6_beside_r3 ++ (wsX6_beside_r4 ++ wsX6_beside_r5)))) ++ wsX10 ++ wsX40 ++ wsX20 ++ wsX60 ++ wsX50 ++ (vx_atM "java/lang/ArrayIndexOutOfBoundsException" ["java/lang/IndexOutOfBoundsException", "java/lang/RuntimeException", "java/lang/Exception"]).filter goodWord ++ (vx_atM "java/lang/ArithmeticException" ["java/lang/RuntimeException", "java/lang/Exception"]).filter goodWord)
def wsX6_port : List Cond := .code yX6_port cX6_port 4 (some .long) :: ([.methodLink RX6 76 yX6_controllerAt, .instanceMethod yX6_controllerAt, .selects RX6 yX6_controllerAt yX6_controllerAt, .initialized RX6, .code yX6_controllerAt cX6_controllerAt 2 (some (.object "RunClasses$Controller")), .fieldLink RX6 25 "RunClasses" "controllers" "[LRunClasses$Controller;", .methodLink RX6 112 yX6_numberAt, .static yX6_numberAt, .code yX6_numberAt cX6_numberAt 2 (some .long)] ++ wsX10 ++ wsX60 ++ (vx_atM "java/lang/ArrayIndexOutOfBoundsException" ["java/lang/IndexOutOfBoundsException", "java/lang/RuntimeException", "java/lang/Exception"]).filter goodWord)
def wsX6_set : List Cond := .code yX6_set cX6_set 6 (some .int) :: ([.methodLink RX6 76 yX6_controllerAt, .instanceMethod yX6_controllerAt, .selects RX6 yX6_controllerAt yX6_controllerAt, .initialized RX6, .code yX6_controllerAt cX6_controllerAt 2 (some (.object "RunClasses$Controller")), .fieldLink RX6 25 "RunClasses" "controllers" "[LRunClasses$Controller;", .methodLink RX6 47 yX6_refuse, .instanceMethod yX6_refuse, .selects RX6 yX6_refuse yX6_refuse, .code yX6_refuse cX6_refuse 2 (some .int), .fieldLink RX6 181 "RunClasses" "refusals" "I", .methodLink RX6 116 yX6_putNumber, .static yX6_putNumber, .code yX6_putNumber cX6_putNumber 4 none] ++ wsX10 ++ wsX60 ++ (vx_atM "java/lang/ArrayIndexOutOfBoundsException" ["java/lang/IndexOutOfBoundsException", "java/lang/RuntimeException", "java/lang/Exception"]).filter goodWord)
def wsX6_classAt : List Cond := .code yX6_classAt cX6_classAt 4 (some (.object "RunClasses$Loaded")) :: ([.methodLink RX6 76 yX6_controllerAt, .instanceMethod yX6_controllerAt, .selects RX6 yX6_controllerAt yX6_controllerAt, .initialized RX6, .code yX6_controllerAt cX6_controllerAt 2 (some (.object "RunClasses$Controller")), .fieldLink RX6 25 "RunClasses" "controllers" "[LRunClasses$Controller;", .instanceMethod yX1_classOf, .initialized RX1, .selects RX1 yX1_classOf yX1_classOf, .code yX1_classOf cX1_classOf 2 (some (.object "RunClasses$Loaded")), .fieldLink RX1 17 "RunClasses$Controller" "classes" "[LRunClasses$Loaded;"] ++ wsX60 ++ wsX10)
def wsX6_cell : List Cond := .code yX6_cell cX6_cell 5 (some .long) :: ([.methodLink RX6 120 yX6_classAt, .instanceMethod yX6_classAt, .selects RX6 yX6_classAt yX6_classAt, .initialized RX6, .code yX6_classAt cX6_classAt 4 (some (.object "RunClasses$Loaded")), .methodLink RX6 76 yX6_controllerAt, .instanceMethod yX6_controllerAt, .selects RX6 yX6_controllerAt yX6_controllerAt, .code yX6_controllerAt cX6_controllerAt 2 (some (.object "RunClasses$Controller")), .fieldLink RX6 25 "RunClasses" "controllers" "[LRunClasses$Controller;", .instanceMethod yX1_classOf, .initialized RX1, .selects RX1 yX1_classOf yX1_classOf, .code yX1_classOf cX1_classOf 2 (some (.object "RunClasses$Loaded")), .fieldLink RX1 17 "RunClasses$Controller" "classes" "[LRunClasses$Loaded;", .methodLink RX6 112 yX6_numberAt, .static yX6_numberAt, .code yX6_numberAt cX6_numberAt 2 (some .long)] ++ wsX40 ++ wsX60 ++ wsX10 ++ (vx_atM "java/lang/ArrayIndexOutOfBoundsException" ["java/lang/IndexOutOfBoundsException", "java/lang/RuntimeException", "java/lang/Exception"]).filter goodWord)
def wsX6_reaction : List Cond := .code yX6_reaction cX6_reaction 5 (some .int) :: ([.methodLink RX6 76 yX6_controllerAt, .instanceMethod yX6_controllerAt, .selects RX6 yX6_controllerAt yX6_controllerAt, .initialized RX6, .code yX6_controllerAt cX6_controllerAt 2 (some (.object "RunClasses$Controller")), .fieldLink RX6 25 "RunClasses" "controllers" "[LRunClasses$Controller;", .methodLink RX6 47 yX6_refuse, .instanceMethod yX6_refuse, .selects RX6 yX6_refuse yX6_refuse, .code yX6_refuse cX6_refuse 2 (some .int), .fieldLink RX6 181 "RunClasses" "refusals" "I"] ++ wsX10 ++ wsX60)
def wsX6_update_r1 : List Cond := [Cond.methodLink RX6 76 yX6_controllerAt, Cond.instanceMethod yX6_controllerAt, Cond.selects RX6 yX6_controllerAt yX6_controllerAt, Cond.initialized RX6, Cond.code yX6_controllerAt cX6_controllerAt 2 (some (.object "RunClasses$Controller")), Cond.fieldLink RX6 25 "RunClasses" "controllers" "[LRunClasses$Controller;", Cond.methodLink RX6 58 yX6_newestOf, Cond.instanceMethod yX6_newestOf, Cond.selects RX6 yX6_newestOf yX6_newestOf, Cond.code yX6_newestOf cX6_newestOf 2 (some (.object "RunClasses$Edition")), Cond.fieldLink RX6 32 "RunClasses" "newestEditions" "[LRunClasses$Edition;", Cond.methodLink RX6 47 yX6_refuse, Cond.instanceMethod yX6_refuse, Cond.selects RX6 yX6_refuse yX6_refuse, Cond.code yX6_refuse cX6_refuse 2 (some .int), Cond.fieldLink RX6 181 "RunClasses" "refusals" "I", Cond.instanceMethod yX1_classOf, Cond.initialized RX1, Cond.selects RX1 yX1_classOf yX1_classOf, Cond.code yX1_classOf cX1_classOf 2 (some (.object "RunClasses$Loaded")), Cond.fieldLink RX1 17 "RunClasses$Controller" "classes" "[LRunClasses$Loaded;", Cond.instanceMethod yX4_becomeAnew, Cond.initialized RX4, Cond.selects RX4 yX4_becomeAnew yX4_becomeAnew]
def wsX6_update_r2 : List Cond := [Cond.code yX4_becomeAnew cX4_becomeAnew 4 none, Cond.fieldLink RX4 9 "RunClasses$Loaded" "cells" "[J", Cond.fieldLink RX4 19 "RunClasses$Loaded" "edition" "I", Cond.fieldLink RX4 15 "RunClasses$Loaded" "handle" "I", Cond.fieldLink RX4 22 "RunClasses$Loaded" "stopped" "Z"]
def wsX6_update : List Cond := .code yX6_update cX6_update 6 (some .int) :: ((wsX6_update_r1 ++ wsX6_update_r2) ++ wsX40 ++ wsX20 ++ wsX60 ++ wsX10 ++ (vx_atM "java/lang/ArrayIndexOutOfBoundsException" ["java/lang/IndexOutOfBoundsException", "java/lang/RuntimeException", "java/lang/Exception"]).filter goodWord)
def wsJ7_fill_d0a16 : List Cond := .code yJ7_fill_d0a16 cJ7_fill_d0a16 5 none :: ([])
def wsX6_reset_r1 : List Cond := [Cond.fieldLink RX6 97 "RunClasses" "runnables" "I", Cond.methodLink RX6 76 yX6_controllerAt, Cond.instanceMethod yX6_controllerAt, Cond.selects RX6 yX6_controllerAt yX6_controllerAt, Cond.initialized RX6, Cond.code yX6_controllerAt cX6_controllerAt 2 (some (.object "RunClasses$Controller")), Cond.fieldLink RX6 25 "RunClasses" "controllers" "[LRunClasses$Controller;", Cond.methodLink RX6 47 yX6_refuse, Cond.instanceMethod yX6_refuse, Cond.selects RX6 yX6_refuse yX6_refuse, Cond.code yX6_refuse cX6_refuse 2 (some .int), Cond.fieldLink RX6 181 "RunClasses" "refusals" "I", Cond.methodLink RX6 137 yJ7_fill_d0a16, Cond.static yJ7_fill_d0a16, Cond.initialized RJ7, Cond.code yJ7_fill_d0a16 cJ7_fill_d0a16 5 none, Cond.instanceMethod yX1_classOf, Cond.initialized RX1, Cond.selects RX1 yX1_classOf yX1_classOf, Cond.code yX1_classOf cX1_classOf 2 (some (.object "RunClasses$Loaded")), Cond.fieldLink RX1 17 "RunClasses$Controller" "classes" "[LRunClasses$Loaded;", Cond.methodLink RX6 58 yX6_newestOf, Cond.instanceMethod yX6_newestOf, Cond.selects RX6 yX6_newestOf yX6_newestOf]
def wsX6_reset_r2 : List Cond := [Cond.code yX6_newestOf cX6_newestOf 2 (some (.object "RunClasses$Edition")), Cond.fieldLink RX6 32 "RunClasses" "newestEditions" "[LRunClasses$Edition;", Cond.instanceMethod yX4_becomeAnew, Cond.initialized RX4, Cond.selects RX4 yX4_becomeAnew yX4_becomeAnew, Cond.code yX4_becomeAnew cX4_becomeAnew 4 none, Cond.fieldLink RX4 9 "RunClasses$Loaded" "cells" "[J", Cond.fieldLink RX4 19 "RunClasses$Loaded" "edition" "I", Cond.fieldLink RX4 15 "RunClasses$Loaded" "handle" "I", Cond.fieldLink RX4 22 "RunClasses$Loaded" "stopped" "Z"]
def wsX6_reset : List Cond := .code yX6_reset cX6_reset 7 (some .int) :: ((wsX6_reset_r1 ++ wsX6_reset_r2) ++ wsX10 ++ wsX60 ++ wsX20 ++ wsX40 ++ (vx_atM "java/lang/ArrayIndexOutOfBoundsException" ["java/lang/IndexOutOfBoundsException", "java/lang/RuntimeException", "java/lang/Exception"]).filter goodWord)
def wsX6_fault : List Cond := .code yX6_fault cX6_fault 4 (some .int) :: ([.methodLink RX6 76 yX6_controllerAt, .instanceMethod yX6_controllerAt, .selects RX6 yX6_controllerAt yX6_controllerAt, .initialized RX6, .code yX6_controllerAt cX6_controllerAt 2 (some (.object "RunClasses$Controller")), .fieldLink RX6 25 "RunClasses" "controllers" "[LRunClasses$Controller;", .methodLink RX6 47 yX6_refuse, .instanceMethod yX6_refuse, .selects RX6 yX6_refuse yX6_refuse, .code yX6_refuse cX6_refuse 2 (some .int), .fieldLink RX6 181 "RunClasses" "refusals" "I"] ++ wsX10 ++ wsX60)
def wsX6_same : List Cond := .code yX6_same cX6_same 7 (some .boolean) :: ([.methodLink RX6 120 yX6_classAt, .instanceMethod yX6_classAt, .selects RX6 yX6_classAt yX6_classAt, .initialized RX6, .code yX6_classAt cX6_classAt 4 (some (.object "RunClasses$Loaded")), .methodLink RX6 76 yX6_controllerAt, .instanceMethod yX6_controllerAt, .selects RX6 yX6_controllerAt yX6_controllerAt, .code yX6_controllerAt cX6_controllerAt 2 (some (.object "RunClasses$Controller")), .fieldLink RX6 25 "RunClasses" "controllers" "[LRunClasses$Controller;", .instanceMethod yX1_classOf, .initialized RX1, .selects RX1 yX1_classOf yX1_classOf, .code yX1_classOf cX1_classOf 2 (some (.object "RunClasses$Loaded")), .fieldLink RX1 17 "RunClasses$Controller" "classes" "[LRunClasses$Loaded;", .methodLink RX6 112 yX6_numberAt, .static yX6_numberAt, .code yX6_numberAt cX6_numberAt 2 (some .long)] ++ wsX40 ++ wsX60 ++ wsX10 ++ (vx_atM "java/lang/ArrayIndexOutOfBoundsException" ["java/lang/IndexOutOfBoundsException", "java/lang/RuntimeException", "java/lang/Exception"]).filter goodWord)
def wsX6_handle_r1 : List Cond := [Cond.classLink RX6 161 "java/lang/IllegalStateException", Cond.initialized "java/lang/IllegalStateException", Cond.methodLink RX6 120 yX6_classAt, Cond.instanceMethod yX6_classAt, Cond.selects RX6 yX6_classAt yX6_classAt, Cond.initialized RX6, Cond.code yX6_classAt cX6_classAt 4 (some (.object "RunClasses$Loaded")), Cond.methodLink RX6 76 yX6_controllerAt, Cond.instanceMethod yX6_controllerAt, Cond.selects RX6 yX6_controllerAt yX6_controllerAt, Cond.code yX6_controllerAt cX6_controllerAt 2 (some (.object "RunClasses$Controller")), Cond.fieldLink RX6 25 "RunClasses" "controllers" "[LRunClasses$Controller;", Cond.instanceMethod yX1_classOf, Cond.initialized RX1, Cond.selects RX1 yX1_classOf yX1_classOf, Cond.code yX1_classOf cX1_classOf 2 (some (.object "RunClasses$Loaded")), Cond.fieldLink RX1 17 "RunClasses$Controller" "classes" "[LRunClasses$Loaded;", Cond.methodLink RX6 58 yX6_newestOf, Cond.instanceMethod yX6_newestOf, Cond.selects RX6 yX6_newestOf yX6_newestOf, Cond.code yX6_newestOf cX6_newestOf 2 (some (.object "RunClasses$Edition")), Cond.fieldLink RX6 32 "RunClasses" "newestEditions" "[LRunClasses$Edition;", Cond.methodLink RX6 47 yX6_refuse, Cond.instanceMethod yX6_refuse]
def wsX6_handle_r2 : List Cond := [Cond.selects RX6 yX6_refuse yX6_refuse, Cond.code yX6_refuse cX6_refuse 2 (some .int), Cond.fieldLink RX6 181 "RunClasses" "refusals" "I"]
def wsX6_handle : List Cond := .code yX6_handle cX6_handle 4 (some .int) :: ((wsX6_handle_r1 ++ wsX6_handle_r2) ++ wsX40 ++ wsX60 ++ wsX10 ++ (vx_atS RX6 165 "java/lang/IllegalStateException" ["java/lang/RuntimeException", "java/lang/Exception"]).filter goodWord)
def wsX6_octet : List Cond := .code yX6_octet cX6_octet 4 (some .byte) :: ([.classLink RX6 171 RJx00060, .instantiable RJx00060 6, .initialized RJx00060, .methodLink RX6 58 yX6_newestOf, .instanceMethod yX6_newestOf, .selects RX6 yX6_newestOf yX6_newestOf, .initialized RX6, .code yX6_newestOf cX6_newestOf 2 (some (.object "RunClasses$Edition")), .fieldLink RX6 32 "RunClasses" "newestEditions" "[LRunClasses$Edition;"] ++ wsX20 ++ wsJx000600 ++ wsX60 ++ (vx_atM "java/lang/ArrayIndexOutOfBoundsException" ["java/lang/IndexOutOfBoundsException", "java/lang/RuntimeException", "java/lang/Exception"]).filter goodWord)
def wsX6_divide : List Cond := .code yX6_divide cX6_divide 5 (some .long) :: ([.classLink RX6 176 "java/lang/ArithmeticException", .initialized "java/lang/ArithmeticException"] ++ (vx_atS RX6 180 "java/lang/ArithmeticException" ["java/lang/RuntimeException", "java/lang/Exception"]).filter goodWord ++ (vx_atM "java/lang/ArithmeticException" ["java/lang/RuntimeException", "java/lang/Exception"]).filter goodWord)
def wsX6_refused : List Cond := .code yX6_refused cX6_refused 1 (some .int) :: ([.fieldLink RX6 181 "RunClasses" "refusals" "I"] ++ wsX60)
def wsX7_init_r1 : List Cond := [Cond.methodLink RX7 1 objectInit, Cond.instanceMethod objectInit, Cond.code objectInit ⟨#[0xb1]⟩ 1 none, Cond.arrayClass .byte, Cond.fieldLink RX7 7 "RunClassesModel" "draft" "[B", Cond.arrayClass .int, Cond.fieldLink RX7 13 "RunClassesModel" "editions" "[I", Cond.fieldLink RX7 17 "RunClassesModel" "files" "[B", Cond.fieldLink RX7 20 "RunClassesModel" "fileSize" "[I", Cond.fieldLink RX7 23 "RunClassesModel" "startAt" "[I", Cond.fieldLink RX7 26 "RunClassesModel" "startSize" "[I", Cond.fieldLink RX7 29 "RunClassesModel" "runAt" "[I", Cond.fieldLink RX7 32 "RunClassesModel" "runSize" "[I", Cond.arrayClass .long, Cond.fieldLink RX7 35 "RunClassesModel" "ports" "[J", Cond.arrayClass .boolean, Cond.fieldLink RX7 39 "RunClassesModel" "up" "[Z", Cond.fieldLink RX7 43 "RunClassesModel" "reactions" "[I", Cond.fieldLink RX7 46 "RunClassesModel" "faultKind" "[I", Cond.fieldLink RX7 49 "RunClassesModel" "faultOf" "[I", Cond.fieldLink RX7 52 "RunClassesModel" "faultSteps" "[I", Cond.fieldLink RX7 55 "RunClassesModel" "faultK" "[I", Cond.fieldLink RX7 58 "RunClassesModel" "faults" "[I", Cond.fieldLink RX7 61 "RunClassesModel" "edition" "[I"]
def wsX7_init_r2 : List Cond := [Cond.fieldLink RX7 64 "RunClassesModel" "cells" "[J", Cond.fieldLink RX7 67 "RunClassesModel" "stopped" "[Z", Cond.fieldLink RX7 70 "RunClassesModel" "handlePort" "[I", Cond.fieldLink RX7 73 "RunClassesModel" "handleCall" "[I", Cond.fieldLink RX7 76 "RunClassesModel" "pile" "[J", Cond.fieldLink RX7 79 "RunClassesModel" "portsWere" "[J", Cond.fieldLink RX7 82 "RunClassesModel" "cellsWere" "[J", Cond.constant RX7 85 (65536), Cond.fieldLink RX7 86 "RunClassesModel" "budget" "I"]
def wsX7_init : List Cond := .code yX7_init cX7_init 3 none :: ((wsX7_init_r1 ++ wsX7_init_r2) ++ wsX70 ++ (vx_atM "java/lang/ArrayIndexOutOfBoundsException" ["java/lang/IndexOutOfBoundsException", "java/lang/RuntimeException", "java/lang/Exception"]).filter goodWord)
def wsX7_thrown : List Cond := .code yX7_thrown cX7_thrown 1 (some .int) :: ([.fieldLink RX7 90 "RunClassesModel" "thrown" "I"] ++ wsX70)
def wsX7_refuse : List Cond := .code yX7_refuse cX7_refuse 2 (some .int) :: ([.fieldLink RX7 93 "RunClassesModel" "refusals" "I"] ++ wsX70)
def wsX7_in : List Cond := .code yX7_in cX7_in 3 (some .boolean) :: ([])
def wsX7_file : List Cond := .code yX7_file cX7_file 5 (some .int) :: ([.fieldLink RX7 90 "RunClassesModel" "thrown" "I", .fieldLink RX7 104 "RunClassesModel" "size" "I", .fieldLink RX7 7 "RunClassesModel" "draft" "[B", .methodLink RX7 96 yX7_in, .static yX7_in, .initialized RX7, .code yX7_in cX7_in 3 (some .boolean), .methodLink RX7 100 yX7_refuse, .instanceMethod yX7_refuse, .selects RX7 yX7_refuse yX7_refuse, .code yX7_refuse cX7_refuse 2 (some .int), .fieldLink RX7 93 "RunClassesModel" "refusals" "I"] ++ wsX70 ++ (vx_atM "java/lang/ArrayIndexOutOfBoundsException" ["java/lang/IndexOutOfBoundsException", "java/lang/RuntimeException", "java/lang/Exception"]).filter goodWord)
def wsX7_cutUp : List Cond := .code yX7_cutUp cX7_cutUp 7 (some .boolean) :: ([.fieldLink RX7 104 "RunClassesModel" "size" "I", .fieldLink RX7 7 "RunClassesModel" "draft" "[B", .fieldLink RX7 23 "RunClassesModel" "startAt" "[I", .fieldLink RX7 26 "RunClassesModel" "startSize" "[I", .fieldLink RX7 29 "RunClassesModel" "runAt" "[I", .fieldLink RX7 32 "RunClassesModel" "runSize" "[I", .methodLink RX7 96 yX7_in, .static yX7_in, .initialized RX7, .code yX7_in cX7_in 3 (some .boolean)] ++ wsX70 ++ (vx_atM "java/lang/ArrayIndexOutOfBoundsException" ["java/lang/IndexOutOfBoundsException", "java/lang/RuntimeException", "java/lang/Exception"]).filter goodWord)
def wsX7_place : List Cond := .code yX7_place cX7_place 2 (some .int) :: ([])
def wsX7_isRight : List Cond := .code yX7_isRight cX7_isRight 5 (some .boolean) :: ([.fieldLink RX7 104 "RunClassesModel" "size" "I", .fieldLink RX7 7 "RunClassesModel" "draft" "[B", .methodLink RX7 96 yX7_in, .static yX7_in, .initialized RX7, .code yX7_in cX7_in 3 (some .boolean)] ++ wsX70 ++ (vx_atM "java/lang/ArrayIndexOutOfBoundsException" ["java/lang/IndexOutOfBoundsException", "java/lang/RuntimeException", "java/lang/Exception"]).filter goodWord)
def wsX7_empties : List Cond := .code yX7_empties cX7_empties 1 (some .int) :: ([.fieldLink RX7 104 "RunClassesModel" "size" "I", .methodLink RX7 100 yX7_refuse, .instanceMethod yX7_refuse, .selects RX7 yX7_refuse yX7_refuse, .initialized RX7, .code yX7_refuse cX7_refuse 2 (some .int), .fieldLink RX7 93 "RunClassesModel" "refusals" "I"] ++ wsX70)
def wsX7_runnable_r1 : List Cond := [Cond.fieldLink RX7 90 "RunClassesModel" "thrown" "I", Cond.fieldLink RX7 107 "RunClassesModel" "runnables" "I", Cond.fieldLink RX7 13 "RunClassesModel" "editions" "[I", Cond.fieldLink RX7 104 "RunClassesModel" "size" "I", Cond.fieldLink RX7 17 "RunClassesModel" "files" "[B", Cond.fieldLink RX7 7 "RunClassesModel" "draft" "[B", Cond.fieldLink RX7 20 "RunClassesModel" "fileSize" "[I", Cond.methodLink RX7 96 yX7_in, Cond.static yX7_in, Cond.initialized RX7, Cond.code yX7_in cX7_in 3 (some .boolean), Cond.methodLink RX7 100 yX7_refuse, Cond.instanceMethod yX7_refuse, Cond.selects RX7 yX7_refuse yX7_refuse, Cond.code yX7_refuse cX7_refuse 2 (some .int), Cond.fieldLink RX7 93 "RunClassesModel" "refusals" "I", Cond.methodLink RX7 110 yX7_isRight, Cond.instanceMethod yX7_isRight, Cond.selects RX7 yX7_isRight yX7_isRight, Cond.code yX7_isRight cX7_isRight 5 (some .boolean), Cond.methodLink RX7 114 yX7_empties, Cond.instanceMethod yX7_empties, Cond.selects RX7 yX7_empties yX7_empties, Cond.code yX7_empties cX7_empties 1 (some .int)]
def wsX7_runnable_r2 : List Cond := [Cond.methodLink RX7 118 yX7_place, Cond.static yX7_place, Cond.code yX7_place cX7_place 2 (some .int), Cond.methodLink RX7 122 yX7_cutUp, Cond.instanceMethod yX7_cutUp, Cond.selects RX7 yX7_cutUp yX7_cutUp, Cond.code yX7_cutUp cX7_cutUp 7 (some .boolean), Cond.fieldLink RX7 23 "RunClassesModel" "startAt" "[I", Cond.fieldLink RX7 26 "RunClassesModel" "startSize" "[I", Cond.fieldLink RX7 29 "RunClassesModel" "runAt" "[I", Cond.fieldLink RX7 32 "RunClassesModel" "runSize" "[I"]
def wsX7_runnable : List Cond := .code yX7_runnable cX7_runnable 7 (some .int) :: ((wsX7_runnable_r1 ++ wsX7_runnable_r2) ++ wsX70 ++ (vx_atM "java/lang/ArrayIndexOutOfBoundsException" ["java/lang/IndexOutOfBoundsException", "java/lang/RuntimeException", "java/lang/Exception"]).filter goodWord)
def wsX7_isController : List Cond := .code yX7_isController cX7_isController 2 (some .boolean) :: ([.methodLink RX7 96 yX7_in, .static yX7_in, .initialized RX7, .code yX7_in cX7_in 3 (some .boolean)])
def wsX7_isRunnable : List Cond := .code yX7_isRunnable cX7_isRunnable 2 (some .boolean) :: ([.fieldLink RX7 107 "RunClassesModel" "runnables" "I", .methodLink RX7 96 yX7_in, .static yX7_in, .initialized RX7, .code yX7_in cX7_in 3 (some .boolean)] ++ wsX70)
def wsX7_at : List Cond := .code yX7_at cX7_at 2 (some .int) :: ([])
def wsX7_hasClass : List Cond := .code yX7_hasClass cX7_hasClass 3 (some .boolean) :: ([.fieldLink RX7 61 "RunClassesModel" "edition" "[I", .methodLink RX7 126 yX7_isController, .instanceMethod yX7_isController, .selects RX7 yX7_isController yX7_isController, .initialized RX7, .code yX7_isController cX7_isController 2 (some .boolean), .methodLink RX7 96 yX7_in, .static yX7_in, .code yX7_in cX7_in 3 (some .boolean), .methodLink RX7 129 yX7_isRunnable, .instanceMethod yX7_isRunnable, .selects RX7 yX7_isRunnable yX7_isRunnable, .code yX7_isRunnable cX7_isRunnable 2 (some .boolean), .fieldLink RX7 107 "RunClassesModel" "runnables" "I", .methodLink RX7 132 yX7_at, .static yX7_at, .code yX7_at cX7_at 2 (some .int)] ++ wsX70 ++ (vx_atM "java/lang/ArrayIndexOutOfBoundsException" ["java/lang/IndexOutOfBoundsException", "java/lang/RuntimeException", "java/lang/Exception"]).filter goodWord)
def wsX7_renew : List Cond := .code yX7_renew cX7_renew 5 none :: ([.fieldLink RX7 61 "RunClassesModel" "edition" "[I", .fieldLink RX7 13 "RunClassesModel" "editions" "[I", .fieldLink RX7 64 "RunClassesModel" "cells" "[J", .fieldLink RX7 67 "RunClassesModel" "stopped" "[Z", .fieldLink RX7 70 "RunClassesModel" "handlePort" "[I"] ++ wsX70 ++ (vx_atM "java/lang/ArrayIndexOutOfBoundsException" ["java/lang/IndexOutOfBoundsException", "java/lang/RuntimeException", "java/lang/Exception"]).filter goodWord)
def wsX7_make_r1 : List Cond := [Cond.fieldLink RX7 90 "RunClassesModel" "thrown" "I", Cond.fieldLink RX7 39 "RunClassesModel" "up" "[Z", Cond.fieldLink RX7 61 "RunClassesModel" "edition" "[I", Cond.methodLink RX7 126 yX7_isController, Cond.instanceMethod yX7_isController, Cond.selects RX7 yX7_isController yX7_isController, Cond.initialized RX7, Cond.code yX7_isController cX7_isController 2 (some .boolean), Cond.methodLink RX7 96 yX7_in, Cond.static yX7_in, Cond.code yX7_in cX7_in 3 (some .boolean), Cond.methodLink RX7 129 yX7_isRunnable, Cond.instanceMethod yX7_isRunnable, Cond.selects RX7 yX7_isRunnable yX7_isRunnable, Cond.code yX7_isRunnable cX7_isRunnable 2 (some .boolean), Cond.fieldLink RX7 107 "RunClassesModel" "runnables" "I", Cond.methodLink RX7 100 yX7_refuse, Cond.instanceMethod yX7_refuse, Cond.selects RX7 yX7_refuse yX7_refuse, Cond.code yX7_refuse cX7_refuse 2 (some .int), Cond.fieldLink RX7 93 "RunClassesModel" "refusals" "I", Cond.methodLink RX7 132 yX7_at, Cond.static yX7_at, Cond.code yX7_at cX7_at 2 (some .int)]
def wsX7_make_r2 : List Cond := [Cond.methodLink RX7 135 yX7_renew, Cond.instanceMethod yX7_renew, Cond.selects RX7 yX7_renew yX7_renew, Cond.code yX7_renew cX7_renew 5 none, Cond.fieldLink RX7 13 "RunClassesModel" "editions" "[I", Cond.fieldLink RX7 64 "RunClassesModel" "cells" "[J", Cond.fieldLink RX7 67 "RunClassesModel" "stopped" "[Z", Cond.fieldLink RX7 70 "RunClassesModel" "handlePort" "[I"]
def wsX7_make : List Cond := .code yX7_make cX7_make 4 (some .int) :: ((wsX7_make_r1 ++ wsX7_make_r2) ++ wsX70 ++ (vx_atM "java/lang/ArrayIndexOutOfBoundsException" ["java/lang/IndexOutOfBoundsException", "java/lang/RuntimeException", "java/lang/Exception"]).filter goodWord)
def wsX7_lay : List Cond := .code yX7_lay cX7_lay 3 none :: ([.fieldLink RX7 76 "RunClassesModel" "pile" "[J", .fieldLink RX7 139 "RunClassesModel" "many" "I"] ++ wsX70 ++ (vx_atM "java/lang/ArrayIndexOutOfBoundsException" ["java/lang/IndexOutOfBoundsException", "java/lang/RuntimeException", "java/lang/Exception"]).filter goodWord)
def wsX7_take : List Cond := .code yX7_take cX7_take 1 (some .long) :: ([.fieldLink RX7 139 "RunClassesModel" "many" "I", .fieldLink RX7 76 "RunClassesModel" "pile" "[J"] ++ wsX70 ++ (vx_atM "java/lang/ArrayIndexOutOfBoundsException" ["java/lang/IndexOutOfBoundsException", "java/lang/RuntimeException", "java/lang/Exception"]).filter goodWord)
def wsX7_move : List Cond := .code yX7_move cX7_move 5 none :: ([.fieldLink RX7 64 "RunClassesModel" "cells" "[J", .fieldLink RX7 35 "RunClassesModel" "ports" "[J", .methodLink RX7 166 yX7_lay, .instanceMethod yX7_lay, .selects RX7 yX7_lay yX7_lay, .initialized RX7, .code yX7_lay cX7_lay 3 none, .fieldLink RX7 76 "RunClassesModel" "pile" "[J", .fieldLink RX7 139 "RunClassesModel" "many" "I", .methodLink RX7 151 yX7_take, .instanceMethod yX7_take, .selects RX7 yX7_take yX7_take, .code yX7_take cX7_take 1 (some .long)] ++ wsX70 ++ (vx_atM "java/lang/ArrayIndexOutOfBoundsException" ["java/lang/IndexOutOfBoundsException", "java/lang/RuntimeException", "java/lang/Exception"]).filter goodWord)
def wsX7_reckon : List Cond := .code yX7_reckon cX7_reckon 6 (some .int) :: ([.methodLink RX7 151 yX7_take, .instanceMethod yX7_take, .selects RX7 yX7_take yX7_take, .initialized RX7, .code yX7_take cX7_take 1 (some .long), .fieldLink RX7 139 "RunClassesModel" "many" "I", .fieldLink RX7 76 "RunClassesModel" "pile" "[J", .methodLink RX7 166 yX7_lay, .instanceMethod yX7_lay, .selects RX7 yX7_lay yX7_lay, .code yX7_lay cX7_lay 3 none] ++ wsX70 ++ (vx_atM "java/lang/ArithmeticException" ["java/lang/RuntimeException", "java/lang/Exception"]).filter goodWord ++ (vx_atM "java/lang/ArrayIndexOutOfBoundsException" ["java/lang/IndexOutOfBoundsException", "java/lang/RuntimeException", "java/lang/Exception"]).filter goodWord)
def wsX7_other : List Cond := .code yX7_other cX7_other 7 (some .int) :: ([.fieldLink RX7 76 "RunClassesModel" "pile" "[J", .fieldLink RX7 139 "RunClassesModel" "many" "I", .constantLong RX7 170 (7), .fieldLink RX7 64 "RunClassesModel" "cells" "[J", .fieldLink RX7 70 "RunClassesModel" "handlePort" "[I", .fieldLink RX7 73 "RunClassesModel" "handleCall" "[I", .fieldLink RX7 142 "RunClassesModel" "calls" "I", .fieldLink RX7 35 "RunClassesModel" "ports" "[J", .fieldLink RX7 148 "RunClassesModel" "gaveUp" "I", .methodLink RX7 166 yX7_lay, .instanceMethod yX7_lay, .selects RX7 yX7_lay yX7_lay, .initialized RX7, .code yX7_lay cX7_lay 3 none, .methodLink RX7 151 yX7_take, .instanceMethod yX7_take, .selects RX7 yX7_take yX7_take, .code yX7_take cX7_take 1 (some .long)] ++ wsX70 ++ (vx_atM "java/lang/ArrayIndexOutOfBoundsException" ["java/lang/IndexOutOfBoundsException", "java/lang/RuntimeException", "java/lang/Exception"]).filter goodWord)
def wsX7_call_r1 : List Cond := [Cond.fieldLink RX7 142 "RunClassesModel" "calls" "I", Cond.fieldLink RX7 139 "RunClassesModel" "many" "I", Cond.fieldLink RX7 145 "RunClassesModel" "steps" "I", Cond.fieldLink RX7 148 "RunClassesModel" "gaveUp" "I", Cond.fieldLink RX7 61 "RunClassesModel" "edition" "[I", Cond.fieldLink RX7 86 "RunClassesModel" "budget" "I", Cond.fieldLink RX7 17 "RunClassesModel" "files" "[B", Cond.methodLink RX7 132 yX7_at, Cond.static yX7_at, Cond.initialized RX7, Cond.code yX7_at cX7_at 2 (some .int), Cond.methodLink RX7 118 yX7_place, Cond.static yX7_place, Cond.code yX7_place cX7_place 2 (some .int), Cond.methodLink RX7 96 yX7_in, Cond.static yX7_in, Cond.code yX7_in cX7_in 3 (some .boolean), Cond.methodLink RX7 151 yX7_take, Cond.instanceMethod yX7_take, Cond.selects RX7 yX7_take yX7_take, Cond.code yX7_take cX7_take 1 (some .long), Cond.fieldLink RX7 76 "RunClassesModel" "pile" "[J", Cond.methodLink RX7 155 yX7_move, Cond.instanceMethod yX7_move]
def wsX7_call_r2 : List Cond := [Cond.selects RX7 yX7_move yX7_move, Cond.code yX7_move cX7_move 5 none, Cond.fieldLink RX7 64 "RunClassesModel" "cells" "[J", Cond.fieldLink RX7 35 "RunClassesModel" "ports" "[J", Cond.methodLink RX7 166 yX7_lay, Cond.instanceMethod yX7_lay, Cond.selects RX7 yX7_lay yX7_lay, Cond.code yX7_lay cX7_lay 3 none, Cond.methodLink RX7 159 yX7_reckon, Cond.instanceMethod yX7_reckon, Cond.selects RX7 yX7_reckon yX7_reckon, Cond.code yX7_reckon cX7_reckon 6 (some .int), Cond.methodLink RX7 162 yX7_other, Cond.instanceMethod yX7_other, Cond.selects RX7 yX7_other yX7_other, Cond.code yX7_other cX7_other 7 (some .int), Cond.constantLong RX7 170 (7), Cond.fieldLink RX7 70 "RunClassesModel" "handlePort" "[I", Cond.fieldLink RX7 73 "RunClassesModel" "handleCall" "[I"]
def wsX7_call : List Cond := .code yX7_call cX7_call 16 (some .int) :: ((wsX7_call_r1 ++ wsX7_call_r2) ++ wsX70 ++ (vx_atM "java/lang/ArrayIndexOutOfBoundsException" ["java/lang/IndexOutOfBoundsException", "java/lang/RuntimeException", "java/lang/Exception"]).filter goodWord ++ (vx_atM "java/lang/ArithmeticException" ["java/lang/RuntimeException", "java/lang/Exception"]).filter goodWord)
def wsX7_tell : List Cond := .code yX7_tell cX7_tell 4 none :: ([.fieldLink RX7 46 "RunClassesModel" "faultKind" "[I", .fieldLink RX7 49 "RunClassesModel" "faultOf" "[I", .fieldLink RX7 52 "RunClassesModel" "faultSteps" "[I", .fieldLink RX7 145 "RunClassesModel" "steps" "I", .fieldLink RX7 55 "RunClassesModel" "faultK" "[I", .fieldLink RX7 148 "RunClassesModel" "gaveUp" "I", .fieldLink RX7 58 "RunClassesModel" "faults" "[I"] ++ wsX70 ++ (vx_atM "java/lang/ArrayIndexOutOfBoundsException" ["java/lang/IndexOutOfBoundsException", "java/lang/RuntimeException", "java/lang/Exception"]).filter goodWord)
def wsX7_power_r1 : List Cond := [Cond.fieldLink RX7 90 "RunClassesModel" "thrown" "I", Cond.fieldLink RX7 39 "RunClassesModel" "up" "[Z", Cond.fieldLink RX7 107 "RunClassesModel" "runnables" "I", Cond.fieldLink RX7 61 "RunClassesModel" "edition" "[I", Cond.fieldLink RX7 13 "RunClassesModel" "editions" "[I", Cond.fieldLink RX7 23 "RunClassesModel" "startAt" "[I", Cond.fieldLink RX7 26 "RunClassesModel" "startSize" "[I", Cond.methodLink RX7 126 yX7_isController, Cond.instanceMethod yX7_isController, Cond.selects RX7 yX7_isController yX7_isController, Cond.initialized RX7, Cond.code yX7_isController cX7_isController 2 (some .boolean), Cond.methodLink RX7 96 yX7_in, Cond.static yX7_in, Cond.code yX7_in cX7_in 3 (some .boolean), Cond.methodLink RX7 100 yX7_refuse, Cond.instanceMethod yX7_refuse, Cond.selects RX7 yX7_refuse yX7_refuse, Cond.code yX7_refuse cX7_refuse 2 (some .int), Cond.fieldLink RX7 93 "RunClassesModel" "refusals" "I", Cond.methodLink RX7 132 yX7_at, Cond.static yX7_at, Cond.code yX7_at cX7_at 2 (some .int), Cond.methodLink RX7 118 yX7_place]
def wsX7_power_r2 : List Cond := [Cond.static yX7_place, Cond.code yX7_place cX7_place 2 (some .int), Cond.methodLink RX7 172 yX7_call, Cond.instanceMethod yX7_call, Cond.selects RX7 yX7_call yX7_call, Cond.code yX7_call cX7_call 16 (some .int), Cond.fieldLink RX7 142 "RunClassesModel" "calls" "I", Cond.fieldLink RX7 139 "RunClassesModel" "many" "I", Cond.fieldLink RX7 145 "RunClassesModel" "steps" "I", Cond.fieldLink RX7 148 "RunClassesModel" "gaveUp" "I", Cond.fieldLink RX7 86 "RunClassesModel" "budget" "I", Cond.fieldLink RX7 17 "RunClassesModel" "files" "[B", Cond.methodLink RX7 151 yX7_take, Cond.instanceMethod yX7_take, Cond.selects RX7 yX7_take yX7_take, Cond.code yX7_take cX7_take 1 (some .long), Cond.fieldLink RX7 76 "RunClassesModel" "pile" "[J", Cond.methodLink RX7 155 yX7_move, Cond.instanceMethod yX7_move, Cond.selects RX7 yX7_move yX7_move, Cond.code yX7_move cX7_move 5 none, Cond.fieldLink RX7 64 "RunClassesModel" "cells" "[J", Cond.fieldLink RX7 35 "RunClassesModel" "ports" "[J", Cond.methodLink RX7 166 yX7_lay]
def wsX7_power_r3 : List Cond := [Cond.instanceMethod yX7_lay, Cond.selects RX7 yX7_lay yX7_lay, Cond.code yX7_lay cX7_lay 3 none, Cond.methodLink RX7 159 yX7_reckon, Cond.instanceMethod yX7_reckon, Cond.selects RX7 yX7_reckon yX7_reckon, Cond.code yX7_reckon cX7_reckon 6 (some .int), Cond.methodLink RX7 162 yX7_other, Cond.instanceMethod yX7_other, Cond.selects RX7 yX7_other yX7_other, Cond.code yX7_other cX7_other 7 (some .int), Cond.constantLong RX7 170 (7), Cond.fieldLink RX7 70 "RunClassesModel" "handlePort" "[I", Cond.fieldLink RX7 73 "RunClassesModel" "handleCall" "[I", Cond.methodLink RX7 175 yX7_tell, Cond.instanceMethod yX7_tell, Cond.selects RX7 yX7_tell yX7_tell, Cond.code yX7_tell cX7_tell 4 none, Cond.fieldLink RX7 46 "RunClassesModel" "faultKind" "[I", Cond.fieldLink RX7 49 "RunClassesModel" "faultOf" "[I", Cond.fieldLink RX7 52 "RunClassesModel" "faultSteps" "[I", Cond.fieldLink RX7 55 "RunClassesModel" "faultK" "[I", Cond.fieldLink RX7 58 "RunClassesModel" "faults" "[I"]
def wsX7_power : List Cond := .code yX7_power cX7_power 5 (some .int) :: ((wsX7_power_r1 ++ (wsX7_power_r2 ++ wsX7_power_r3)) ++ wsX70 ++ (vx_atM "java/lang/ArrayIndexOutOfBoundsException" ["java/lang/IndexOutOfBoundsException", "java/lang/RuntimeException", "java/lang/Exception"]).filter goodWord ++ (vx_atM "java/lang/ArithmeticException" ["java/lang/RuntimeException", "java/lang/Exception"]).filter goodWord)
def wsX7_barred : List Cond := .code yX7_barred cX7_barred 4 (some .int) :: ([.fieldLink RX7 39 "RunClassesModel" "up" "[Z", .fieldLink RX7 61 "RunClassesModel" "edition" "[I", .fieldLink RX7 67 "RunClassesModel" "stopped" "[Z", .fieldLink RX7 13 "RunClassesModel" "editions" "[I", .methodLink RX7 126 yX7_isController, .instanceMethod yX7_isController, .selects RX7 yX7_isController yX7_isController, .initialized RX7, .code yX7_isController cX7_isController 2 (some .boolean), .methodLink RX7 96 yX7_in, .static yX7_in, .code yX7_in cX7_in 3 (some .boolean), .methodLink RX7 129 yX7_isRunnable, .instanceMethod yX7_isRunnable, .selects RX7 yX7_isRunnable yX7_isRunnable, .code yX7_isRunnable cX7_isRunnable 2 (some .boolean), .fieldLink RX7 107 "RunClassesModel" "runnables" "I", .methodLink RX7 132 yX7_at, .static yX7_at, .code yX7_at cX7_at 2 (some .int)] ++ wsX70 ++ (vx_atM "java/lang/ArrayIndexOutOfBoundsException" ["java/lang/IndexOutOfBoundsException", "java/lang/RuntimeException", "java/lang/Exception"]).filter goodWord)
def wsX7_runMember_r1 : List Cond := [Cond.fieldLink RX7 61 "RunClassesModel" "edition" "[I", Cond.fieldLink RX7 29 "RunClassesModel" "runAt" "[I", Cond.fieldLink RX7 32 "RunClassesModel" "runSize" "[I", Cond.methodLink RX7 132 yX7_at, Cond.static yX7_at, Cond.initialized RX7, Cond.code yX7_at cX7_at 2 (some .int), Cond.methodLink RX7 118 yX7_place, Cond.static yX7_place, Cond.code yX7_place cX7_place 2 (some .int), Cond.methodLink RX7 172 yX7_call, Cond.instanceMethod yX7_call, Cond.selects RX7 yX7_call yX7_call, Cond.code yX7_call cX7_call 16 (some .int), Cond.fieldLink RX7 142 "RunClassesModel" "calls" "I", Cond.fieldLink RX7 139 "RunClassesModel" "many" "I", Cond.fieldLink RX7 145 "RunClassesModel" "steps" "I", Cond.fieldLink RX7 148 "RunClassesModel" "gaveUp" "I", Cond.fieldLink RX7 86 "RunClassesModel" "budget" "I", Cond.fieldLink RX7 17 "RunClassesModel" "files" "[B", Cond.methodLink RX7 96 yX7_in, Cond.static yX7_in, Cond.code yX7_in cX7_in 3 (some .boolean), Cond.methodLink RX7 151 yX7_take]
def wsX7_runMember_r2 : List Cond := [Cond.instanceMethod yX7_take, Cond.selects RX7 yX7_take yX7_take, Cond.code yX7_take cX7_take 1 (some .long), Cond.fieldLink RX7 76 "RunClassesModel" "pile" "[J", Cond.methodLink RX7 155 yX7_move, Cond.instanceMethod yX7_move, Cond.selects RX7 yX7_move yX7_move, Cond.code yX7_move cX7_move 5 none, Cond.fieldLink RX7 64 "RunClassesModel" "cells" "[J", Cond.fieldLink RX7 35 "RunClassesModel" "ports" "[J", Cond.methodLink RX7 166 yX7_lay, Cond.instanceMethod yX7_lay, Cond.selects RX7 yX7_lay yX7_lay, Cond.code yX7_lay cX7_lay 3 none, Cond.methodLink RX7 159 yX7_reckon, Cond.instanceMethod yX7_reckon, Cond.selects RX7 yX7_reckon yX7_reckon, Cond.code yX7_reckon cX7_reckon 6 (some .int), Cond.methodLink RX7 162 yX7_other, Cond.instanceMethod yX7_other, Cond.selects RX7 yX7_other yX7_other, Cond.code yX7_other cX7_other 7 (some .int), Cond.constantLong RX7 170 (7), Cond.fieldLink RX7 70 "RunClassesModel" "handlePort" "[I"]
def wsX7_runMember_r3 : List Cond := [Cond.fieldLink RX7 73 "RunClassesModel" "handleCall" "[I"]
def wsX7_runMember : List Cond := .code yX7_runMember cX7_runMember 4 (some .int) :: ((wsX7_runMember_r1 ++ (wsX7_runMember_r2 ++ wsX7_runMember_r3)) ++ wsX70 ++ (vx_atM "java/lang/ArrayIndexOutOfBoundsException" ["java/lang/IndexOutOfBoundsException", "java/lang/RuntimeException", "java/lang/Exception"]).filter goodWord ++ (vx_atM "java/lang/ArithmeticException" ["java/lang/RuntimeException", "java/lang/Exception"]).filter goodWord)
def wsX7_run_r1 : List Cond := [Cond.fieldLink RX7 90 "RunClassesModel" "thrown" "I", Cond.fieldLink RX7 43 "RunClassesModel" "reactions" "[I", Cond.fieldLink RX7 67 "RunClassesModel" "stopped" "[Z", Cond.fieldLink RX7 39 "RunClassesModel" "up" "[Z", Cond.methodLink RX7 178 yX7_barred, Cond.instanceMethod yX7_barred, Cond.selects RX7 yX7_barred yX7_barred, Cond.initialized RX7, Cond.code yX7_barred cX7_barred 4 (some .int), Cond.fieldLink RX7 61 "RunClassesModel" "edition" "[I", Cond.fieldLink RX7 13 "RunClassesModel" "editions" "[I", Cond.methodLink RX7 126 yX7_isController, Cond.instanceMethod yX7_isController, Cond.selects RX7 yX7_isController yX7_isController, Cond.code yX7_isController cX7_isController 2 (some .boolean), Cond.methodLink RX7 96 yX7_in, Cond.static yX7_in, Cond.code yX7_in cX7_in 3 (some .boolean), Cond.methodLink RX7 129 yX7_isRunnable, Cond.instanceMethod yX7_isRunnable, Cond.selects RX7 yX7_isRunnable yX7_isRunnable, Cond.code yX7_isRunnable cX7_isRunnable 2 (some .boolean), Cond.fieldLink RX7 107 "RunClassesModel" "runnables" "I", Cond.methodLink RX7 132 yX7_at]
def wsX7_run_r2 : List Cond := [Cond.static yX7_at, Cond.code yX7_at cX7_at 2 (some .int), Cond.methodLink RX7 100 yX7_refuse, Cond.instanceMethod yX7_refuse, Cond.selects RX7 yX7_refuse yX7_refuse, Cond.code yX7_refuse cX7_refuse 2 (some .int), Cond.fieldLink RX7 93 "RunClassesModel" "refusals" "I", Cond.methodLink RX7 181 yX7_runMember, Cond.instanceMethod yX7_runMember, Cond.selects RX7 yX7_runMember yX7_runMember, Cond.code yX7_runMember cX7_runMember 4 (some .int), Cond.fieldLink RX7 29 "RunClassesModel" "runAt" "[I", Cond.fieldLink RX7 32 "RunClassesModel" "runSize" "[I", Cond.methodLink RX7 118 yX7_place, Cond.static yX7_place, Cond.code yX7_place cX7_place 2 (some .int), Cond.methodLink RX7 172 yX7_call, Cond.instanceMethod yX7_call, Cond.selects RX7 yX7_call yX7_call, Cond.code yX7_call cX7_call 16 (some .int), Cond.fieldLink RX7 142 "RunClassesModel" "calls" "I", Cond.fieldLink RX7 139 "RunClassesModel" "many" "I", Cond.fieldLink RX7 145 "RunClassesModel" "steps" "I", Cond.fieldLink RX7 148 "RunClassesModel" "gaveUp" "I"]
def wsX7_run_r3 : List Cond := [Cond.fieldLink RX7 86 "RunClassesModel" "budget" "I", Cond.fieldLink RX7 17 "RunClassesModel" "files" "[B", Cond.methodLink RX7 151 yX7_take, Cond.instanceMethod yX7_take, Cond.selects RX7 yX7_take yX7_take, Cond.code yX7_take cX7_take 1 (some .long), Cond.fieldLink RX7 76 "RunClassesModel" "pile" "[J", Cond.methodLink RX7 155 yX7_move, Cond.instanceMethod yX7_move, Cond.selects RX7 yX7_move yX7_move, Cond.code yX7_move cX7_move 5 none, Cond.fieldLink RX7 64 "RunClassesModel" "cells" "[J", Cond.fieldLink RX7 35 "RunClassesModel" "ports" "[J", Cond.methodLink RX7 166 yX7_lay, Cond.instanceMethod yX7_lay, Cond.selects RX7 yX7_lay yX7_lay, Cond.code yX7_lay cX7_lay 3 none, Cond.methodLink RX7 159 yX7_reckon, Cond.instanceMethod yX7_reckon, Cond.selects RX7 yX7_reckon yX7_reckon, Cond.code yX7_reckon cX7_reckon 6 (some .int), Cond.methodLink RX7 162 yX7_other, Cond.instanceMethod yX7_other, Cond.selects RX7 yX7_other yX7_other]
def wsX7_run_r4 : List Cond := [Cond.code yX7_other cX7_other 7 (some .int), Cond.constantLong RX7 170 (7), Cond.fieldLink RX7 70 "RunClassesModel" "handlePort" "[I", Cond.fieldLink RX7 73 "RunClassesModel" "handleCall" "[I", Cond.methodLink RX7 175 yX7_tell, Cond.instanceMethod yX7_tell, Cond.selects RX7 yX7_tell yX7_tell, Cond.code yX7_tell cX7_tell 4 none, Cond.fieldLink RX7 46 "RunClassesModel" "faultKind" "[I", Cond.fieldLink RX7 49 "RunClassesModel" "faultOf" "[I", Cond.fieldLink RX7 52 "RunClassesModel" "faultSteps" "[I", Cond.fieldLink RX7 55 "RunClassesModel" "faultK" "[I", Cond.fieldLink RX7 58 "RunClassesModel" "faults" "[I"]
def wsX7_run : List Cond := .code yX7_run cX7_run 5 (some .int) :: ((wsX7_run_r1 ++ (wsX7_run_r2 ++ (wsX7_run_r3 ++ wsX7_run_r4))) ++ wsX70 ++ (vx_atM "java/lang/ArrayIndexOutOfBoundsException" ["java/lang/IndexOutOfBoundsException", "java/lang/RuntimeException", "java/lang/Exception"]).filter goodWord ++ (vx_atM "java/lang/ArithmeticException" ["java/lang/RuntimeException", "java/lang/Exception"]).filter goodWord)
def wsX7_beside_r1 : List Cond := [Cond.fieldLink RX7 90 "RunClassesModel" "thrown" "I", Cond.fieldLink RX7 79 "RunClassesModel" "portsWere" "[J", Cond.fieldLink RX7 35 "RunClassesModel" "ports" "[J", Cond.fieldLink RX7 82 "RunClassesModel" "cellsWere" "[J", Cond.fieldLink RX7 64 "RunClassesModel" "cells" "[J", Cond.fieldLink RX7 70 "RunClassesModel" "handlePort" "[I", Cond.fieldLink RX7 73 "RunClassesModel" "handleCall" "[I", Cond.methodLink RX7 178 yX7_barred, Cond.instanceMethod yX7_barred, Cond.selects RX7 yX7_barred yX7_barred, Cond.initialized RX7, Cond.code yX7_barred cX7_barred 4 (some .int), Cond.fieldLink RX7 39 "RunClassesModel" "up" "[Z", Cond.fieldLink RX7 61 "RunClassesModel" "edition" "[I", Cond.fieldLink RX7 67 "RunClassesModel" "stopped" "[Z", Cond.fieldLink RX7 13 "RunClassesModel" "editions" "[I", Cond.methodLink RX7 126 yX7_isController, Cond.instanceMethod yX7_isController, Cond.selects RX7 yX7_isController yX7_isController, Cond.code yX7_isController cX7_isController 2 (some .boolean), Cond.methodLink RX7 96 yX7_in, Cond.static yX7_in, Cond.code yX7_in cX7_in 3 (some .boolean), Cond.methodLink RX7 129 yX7_isRunnable]
def wsX7_beside_r2 : List Cond := [Cond.instanceMethod yX7_isRunnable, Cond.selects RX7 yX7_isRunnable yX7_isRunnable, Cond.code yX7_isRunnable cX7_isRunnable 2 (some .boolean), Cond.fieldLink RX7 107 "RunClassesModel" "runnables" "I", Cond.methodLink RX7 132 yX7_at, Cond.static yX7_at, Cond.code yX7_at cX7_at 2 (some .int), Cond.methodLink RX7 100 yX7_refuse, Cond.instanceMethod yX7_refuse, Cond.selects RX7 yX7_refuse yX7_refuse, Cond.code yX7_refuse cX7_refuse 2 (some .int), Cond.fieldLink RX7 93 "RunClassesModel" "refusals" "I", Cond.methodLink RX7 181 yX7_runMember, Cond.instanceMethod yX7_runMember, Cond.selects RX7 yX7_runMember yX7_runMember, Cond.code yX7_runMember cX7_runMember 4 (some .int), Cond.fieldLink RX7 29 "RunClassesModel" "runAt" "[I", Cond.fieldLink RX7 32 "RunClassesModel" "runSize" "[I", Cond.methodLink RX7 118 yX7_place, Cond.static yX7_place, Cond.code yX7_place cX7_place 2 (some .int), Cond.methodLink RX7 172 yX7_call, Cond.instanceMethod yX7_call, Cond.selects RX7 yX7_call yX7_call]
def wsX7_beside_r3 : List Cond := [Cond.code yX7_call cX7_call 16 (some .int), Cond.fieldLink RX7 142 "RunClassesModel" "calls" "I", Cond.fieldLink RX7 139 "RunClassesModel" "many" "I", Cond.fieldLink RX7 145 "RunClassesModel" "steps" "I", Cond.fieldLink RX7 148 "RunClassesModel" "gaveUp" "I", Cond.fieldLink RX7 86 "RunClassesModel" "budget" "I", Cond.fieldLink RX7 17 "RunClassesModel" "files" "[B", Cond.methodLink RX7 151 yX7_take, Cond.instanceMethod yX7_take, Cond.selects RX7 yX7_take yX7_take, Cond.code yX7_take cX7_take 1 (some .long), Cond.fieldLink RX7 76 "RunClassesModel" "pile" "[J", Cond.methodLink RX7 155 yX7_move, Cond.instanceMethod yX7_move, Cond.selects RX7 yX7_move yX7_move, Cond.code yX7_move cX7_move 5 none, Cond.methodLink RX7 166 yX7_lay, Cond.instanceMethod yX7_lay, Cond.selects RX7 yX7_lay yX7_lay, Cond.code yX7_lay cX7_lay 3 none, Cond.methodLink RX7 159 yX7_reckon, Cond.instanceMethod yX7_reckon, Cond.selects RX7 yX7_reckon yX7_reckon, Cond.code yX7_reckon cX7_reckon 6 (some .int)]
def wsX7_beside_r4 : List Cond := [Cond.methodLink RX7 162 yX7_other, Cond.instanceMethod yX7_other, Cond.selects RX7 yX7_other yX7_other, Cond.code yX7_other cX7_other 7 (some .int), Cond.constantLong RX7 170 (7)]
def wsX7_beside : List Cond := .code yX7_beside cX7_beside 9 (some .int) :: ((wsX7_beside_r1 ++ (wsX7_beside_r2 ++ (wsX7_beside_r3 ++ wsX7_beside_r4))) ++ wsX70 ++ (vx_atM "java/lang/ArrayIndexOutOfBoundsException" ["java/lang/IndexOutOfBoundsException", "java/lang/RuntimeException", "java/lang/Exception"]).filter goodWord ++ (vx_atM "java/lang/ArithmeticException" ["java/lang/RuntimeException", "java/lang/Exception"]).filter goodWord)
def wsX7_port : List Cond := .code yX7_port cX7_port 3 (some .long) :: ([.fieldLink RX7 90 "RunClassesModel" "thrown" "I", .fieldLink RX7 35 "RunClassesModel" "ports" "[J", .methodLink RX7 126 yX7_isController, .instanceMethod yX7_isController, .selects RX7 yX7_isController yX7_isController, .initialized RX7, .code yX7_isController cX7_isController 2 (some .boolean), .methodLink RX7 96 yX7_in, .static yX7_in, .code yX7_in cX7_in 3 (some .boolean)] ++ wsX70 ++ (vx_atM "java/lang/ArrayIndexOutOfBoundsException" ["java/lang/IndexOutOfBoundsException", "java/lang/RuntimeException", "java/lang/Exception"]).filter goodWord)
def wsX7_set : List Cond := .code yX7_set cX7_set 5 (some .int) :: ([.fieldLink RX7 90 "RunClassesModel" "thrown" "I", .fieldLink RX7 35 "RunClassesModel" "ports" "[J", .methodLink RX7 126 yX7_isController, .instanceMethod yX7_isController, .selects RX7 yX7_isController yX7_isController, .initialized RX7, .code yX7_isController cX7_isController 2 (some .boolean), .methodLink RX7 96 yX7_in, .static yX7_in, .code yX7_in cX7_in 3 (some .boolean), .methodLink RX7 100 yX7_refuse, .instanceMethod yX7_refuse, .selects RX7 yX7_refuse yX7_refuse, .code yX7_refuse cX7_refuse 2 (some .int), .fieldLink RX7 93 "RunClassesModel" "refusals" "I"] ++ wsX70 ++ (vx_atM "java/lang/ArrayIndexOutOfBoundsException" ["java/lang/IndexOutOfBoundsException", "java/lang/RuntimeException", "java/lang/Exception"]).filter goodWord)
def wsX7_cell : List Cond := .code yX7_cell cX7_cell 4 (some .long) :: ([.fieldLink RX7 90 "RunClassesModel" "thrown" "I", .fieldLink RX7 64 "RunClassesModel" "cells" "[J", .methodLink RX7 184 yX7_hasClass, .instanceMethod yX7_hasClass, .selects RX7 yX7_hasClass yX7_hasClass, .initialized RX7, .code yX7_hasClass cX7_hasClass 3 (some .boolean), .fieldLink RX7 61 "RunClassesModel" "edition" "[I", .methodLink RX7 126 yX7_isController, .instanceMethod yX7_isController, .selects RX7 yX7_isController yX7_isController, .code yX7_isController cX7_isController 2 (some .boolean), .methodLink RX7 96 yX7_in, .static yX7_in, .code yX7_in cX7_in 3 (some .boolean), .methodLink RX7 129 yX7_isRunnable, .instanceMethod yX7_isRunnable, .selects RX7 yX7_isRunnable yX7_isRunnable, .code yX7_isRunnable cX7_isRunnable 2 (some .boolean), .fieldLink RX7 107 "RunClassesModel" "runnables" "I", .methodLink RX7 132 yX7_at, .static yX7_at, .code yX7_at cX7_at 2 (some .int)] ++ wsX70 ++ (vx_atM "java/lang/ArrayIndexOutOfBoundsException" ["java/lang/IndexOutOfBoundsException", "java/lang/RuntimeException", "java/lang/Exception"]).filter goodWord)
def wsX7_reaction : List Cond := .code yX7_reaction cX7_reaction 4 (some .int) :: ([.fieldLink RX7 90 "RunClassesModel" "thrown" "I", .fieldLink RX7 43 "RunClassesModel" "reactions" "[I", .methodLink RX7 126 yX7_isController, .instanceMethod yX7_isController, .selects RX7 yX7_isController yX7_isController, .initialized RX7, .code yX7_isController cX7_isController 2 (some .boolean), .methodLink RX7 96 yX7_in, .static yX7_in, .code yX7_in cX7_in 3 (some .boolean), .methodLink RX7 100 yX7_refuse, .instanceMethod yX7_refuse, .selects RX7 yX7_refuse yX7_refuse, .code yX7_refuse cX7_refuse 2 (some .int), .fieldLink RX7 93 "RunClassesModel" "refusals" "I"] ++ wsX70 ++ (vx_atM "java/lang/ArrayIndexOutOfBoundsException" ["java/lang/IndexOutOfBoundsException", "java/lang/RuntimeException", "java/lang/Exception"]).filter goodWord)
def wsX7_update_r1 : List Cond := [Cond.fieldLink RX7 90 "RunClassesModel" "thrown" "I", Cond.fieldLink RX7 61 "RunClassesModel" "edition" "[I", Cond.fieldLink RX7 13 "RunClassesModel" "editions" "[I", Cond.methodLink RX7 126 yX7_isController, Cond.instanceMethod yX7_isController, Cond.selects RX7 yX7_isController yX7_isController, Cond.initialized RX7, Cond.code yX7_isController cX7_isController 2 (some .boolean), Cond.methodLink RX7 96 yX7_in, Cond.static yX7_in, Cond.code yX7_in cX7_in 3 (some .boolean), Cond.methodLink RX7 129 yX7_isRunnable, Cond.instanceMethod yX7_isRunnable, Cond.selects RX7 yX7_isRunnable yX7_isRunnable, Cond.code yX7_isRunnable cX7_isRunnable 2 (some .boolean), Cond.fieldLink RX7 107 "RunClassesModel" "runnables" "I", Cond.methodLink RX7 100 yX7_refuse, Cond.instanceMethod yX7_refuse, Cond.selects RX7 yX7_refuse yX7_refuse, Cond.code yX7_refuse cX7_refuse 2 (some .int), Cond.fieldLink RX7 93 "RunClassesModel" "refusals" "I", Cond.methodLink RX7 132 yX7_at, Cond.static yX7_at, Cond.code yX7_at cX7_at 2 (some .int)]
def wsX7_update_r2 : List Cond := [Cond.methodLink RX7 135 yX7_renew, Cond.instanceMethod yX7_renew, Cond.selects RX7 yX7_renew yX7_renew, Cond.code yX7_renew cX7_renew 5 none, Cond.fieldLink RX7 64 "RunClassesModel" "cells" "[J", Cond.fieldLink RX7 67 "RunClassesModel" "stopped" "[Z", Cond.fieldLink RX7 70 "RunClassesModel" "handlePort" "[I"]
def wsX7_update : List Cond := .code yX7_update cX7_update 4 (some .int) :: ((wsX7_update_r1 ++ wsX7_update_r2) ++ wsX70 ++ (vx_atM "java/lang/ArrayIndexOutOfBoundsException" ["java/lang/IndexOutOfBoundsException", "java/lang/RuntimeException", "java/lang/Exception"]).filter goodWord)
def wsX7_reset_r1 : List Cond := [Cond.fieldLink RX7 90 "RunClassesModel" "thrown" "I", Cond.fieldLink RX7 39 "RunClassesModel" "up" "[Z", Cond.fieldLink RX7 35 "RunClassesModel" "ports" "[J", Cond.fieldLink RX7 107 "RunClassesModel" "runnables" "I", Cond.fieldLink RX7 61 "RunClassesModel" "edition" "[I", Cond.methodLink RX7 126 yX7_isController, Cond.instanceMethod yX7_isController, Cond.selects RX7 yX7_isController yX7_isController, Cond.initialized RX7, Cond.code yX7_isController cX7_isController 2 (some .boolean), Cond.methodLink RX7 96 yX7_in, Cond.static yX7_in, Cond.code yX7_in cX7_in 3 (some .boolean), Cond.methodLink RX7 100 yX7_refuse, Cond.instanceMethod yX7_refuse, Cond.selects RX7 yX7_refuse yX7_refuse, Cond.code yX7_refuse cX7_refuse 2 (some .int), Cond.fieldLink RX7 93 "RunClassesModel" "refusals" "I", Cond.methodLink RX7 132 yX7_at, Cond.static yX7_at, Cond.code yX7_at cX7_at 2 (some .int), Cond.methodLink RX7 135 yX7_renew, Cond.instanceMethod yX7_renew, Cond.selects RX7 yX7_renew yX7_renew]
def wsX7_reset_r2 : List Cond := [Cond.code yX7_renew cX7_renew 5 none, Cond.fieldLink RX7 13 "RunClassesModel" "editions" "[I", Cond.fieldLink RX7 64 "RunClassesModel" "cells" "[J", Cond.fieldLink RX7 67 "RunClassesModel" "stopped" "[Z", Cond.fieldLink RX7 70 "RunClassesModel" "handlePort" "[I"]
def wsX7_reset : List Cond := .code yX7_reset cX7_reset 4 (some .int) :: ((wsX7_reset_r1 ++ wsX7_reset_r2) ++ wsX70 ++ (vx_atM "java/lang/ArrayIndexOutOfBoundsException" ["java/lang/IndexOutOfBoundsException", "java/lang/RuntimeException", "java/lang/Exception"]).filter goodWord)
def wsX7_fault : List Cond := .code yX7_fault cX7_fault 3 (some .int) :: ([.fieldLink RX7 90 "RunClassesModel" "thrown" "I", .fieldLink RX7 46 "RunClassesModel" "faultKind" "[I", .fieldLink RX7 49 "RunClassesModel" "faultOf" "[I", .fieldLink RX7 52 "RunClassesModel" "faultSteps" "[I", .fieldLink RX7 55 "RunClassesModel" "faultK" "[I", .fieldLink RX7 58 "RunClassesModel" "faults" "[I", .fieldLink RX7 39 "RunClassesModel" "up" "[Z", .methodLink RX7 126 yX7_isController, .instanceMethod yX7_isController, .selects RX7 yX7_isController yX7_isController, .initialized RX7, .code yX7_isController cX7_isController 2 (some .boolean), .methodLink RX7 96 yX7_in, .static yX7_in, .code yX7_in cX7_in 3 (some .boolean), .methodLink RX7 100 yX7_refuse, .instanceMethod yX7_refuse, .selects RX7 yX7_refuse yX7_refuse, .code yX7_refuse cX7_refuse 2 (some .int), .fieldLink RX7 93 "RunClassesModel" "refusals" "I"] ++ wsX70 ++ (vx_atM "java/lang/ArrayIndexOutOfBoundsException" ["java/lang/IndexOutOfBoundsException", "java/lang/RuntimeException", "java/lang/Exception"]).filter goodWord)
def wsX7_same : List Cond := .code yX7_same cX7_same 8 (some .boolean) :: ([.fieldLink RX7 90 "RunClassesModel" "thrown" "I", .fieldLink RX7 61 "RunClassesModel" "edition" "[I", .fieldLink RX7 64 "RunClassesModel" "cells" "[J", .methodLink RX7 184 yX7_hasClass, .instanceMethod yX7_hasClass, .selects RX7 yX7_hasClass yX7_hasClass, .initialized RX7, .code yX7_hasClass cX7_hasClass 3 (some .boolean), .methodLink RX7 126 yX7_isController, .instanceMethod yX7_isController, .selects RX7 yX7_isController yX7_isController, .code yX7_isController cX7_isController 2 (some .boolean), .methodLink RX7 96 yX7_in, .static yX7_in, .code yX7_in cX7_in 3 (some .boolean), .methodLink RX7 129 yX7_isRunnable, .instanceMethod yX7_isRunnable, .selects RX7 yX7_isRunnable yX7_isRunnable, .code yX7_isRunnable cX7_isRunnable 2 (some .boolean), .fieldLink RX7 107 "RunClassesModel" "runnables" "I", .methodLink RX7 132 yX7_at, .static yX7_at, .code yX7_at cX7_at 2 (some .int)] ++ wsX70 ++ (vx_atM "java/lang/ArrayIndexOutOfBoundsException" ["java/lang/IndexOutOfBoundsException", "java/lang/RuntimeException", "java/lang/Exception"]).filter goodWord)
def wsX7_handle_r1 : List Cond := [Cond.fieldLink RX7 70 "RunClassesModel" "handlePort" "[I", Cond.fieldLink RX7 90 "RunClassesModel" "thrown" "I", Cond.methodLink RX7 184 yX7_hasClass, Cond.instanceMethod yX7_hasClass, Cond.selects RX7 yX7_hasClass yX7_hasClass, Cond.initialized RX7, Cond.code yX7_hasClass cX7_hasClass 3 (some .boolean), Cond.fieldLink RX7 61 "RunClassesModel" "edition" "[I", Cond.methodLink RX7 126 yX7_isController, Cond.instanceMethod yX7_isController, Cond.selects RX7 yX7_isController yX7_isController, Cond.code yX7_isController cX7_isController 2 (some .boolean), Cond.methodLink RX7 96 yX7_in, Cond.static yX7_in, Cond.code yX7_in cX7_in 3 (some .boolean), Cond.methodLink RX7 129 yX7_isRunnable, Cond.instanceMethod yX7_isRunnable, Cond.selects RX7 yX7_isRunnable yX7_isRunnable, Cond.code yX7_isRunnable cX7_isRunnable 2 (some .boolean), Cond.fieldLink RX7 107 "RunClassesModel" "runnables" "I", Cond.methodLink RX7 132 yX7_at, Cond.static yX7_at, Cond.code yX7_at cX7_at 2 (some .int), Cond.methodLink RX7 100 yX7_refuse]
def wsX7_handle_r2 : List Cond := [Cond.instanceMethod yX7_refuse, Cond.selects RX7 yX7_refuse yX7_refuse, Cond.code yX7_refuse cX7_refuse 2 (some .int), Cond.fieldLink RX7 93 "RunClassesModel" "refusals" "I"]
def wsX7_handle : List Cond := .code yX7_handle cX7_handle 4 (some .int) :: ((wsX7_handle_r1 ++ wsX7_handle_r2) ++ wsX70 ++ (vx_atM "java/lang/ArrayIndexOutOfBoundsException" ["java/lang/IndexOutOfBoundsException", "java/lang/RuntimeException", "java/lang/Exception"]).filter goodWord)
def wsX7_octet : List Cond := .code yX7_octet cX7_octet 3 (some .byte) :: ([.fieldLink RX7 20 "RunClassesModel" "fileSize" "[I", .fieldLink RX7 13 "RunClassesModel" "editions" "[I", .fieldLink RX7 90 "RunClassesModel" "thrown" "I", .fieldLink RX7 17 "RunClassesModel" "files" "[B", .methodLink RX7 129 yX7_isRunnable, .instanceMethod yX7_isRunnable, .selects RX7 yX7_isRunnable yX7_isRunnable, .initialized RX7, .code yX7_isRunnable cX7_isRunnable 2 (some .boolean), .fieldLink RX7 107 "RunClassesModel" "runnables" "I", .methodLink RX7 96 yX7_in, .static yX7_in, .code yX7_in cX7_in 3 (some .boolean), .methodLink RX7 118 yX7_place, .static yX7_place, .code yX7_place cX7_place 2 (some .int)] ++ wsX70 ++ (vx_atM "java/lang/ArrayIndexOutOfBoundsException" ["java/lang/IndexOutOfBoundsException", "java/lang/RuntimeException", "java/lang/Exception"]).filter goodWord)
def wsX7_divide : List Cond := .code yX7_divide cX7_divide 5 (some .long) :: ([.fieldLink RX7 90 "RunClassesModel" "thrown" "I"] ++ wsX70 ++ (vx_atM "java/lang/ArithmeticException" ["java/lang/RuntimeException", "java/lang/Exception"]).filter goodWord)
def wsX7_refused : List Cond := .code yX7_refused cX7_refused 1 (some .int) :: ([.fieldLink RX7 90 "RunClassesModel" "thrown" "I", .fieldLink RX7 93 "RunClassesModel" "refusals" "I"] ++ wsX70)
def wsJx00060_init_a7421 : List Cond := .code yJx00060_init_a7421 cJx00060_init_a7421 2 none :: ([])
def wsJ9_max_7cf53 : List Cond := .code yJ9_max_7cf53 cJ9_max_7cf53 2 (some .int) :: ([])
def wsJ9_min_7cf53 : List Cond := .code yJ9_min_7cf53 cJ9_min_7cf53 2 (some .int) :: ([])
def wsL_cell : List Cond := .code yL_cell cL_cell 2 (some .int) :: ([] ++ (vx_atM "java/lang/ArrayIndexOutOfBoundsException" ["java/lang/IndexOutOfBoundsException", "java/lang/RuntimeException", "java/lang/Exception"]).filter goodWord)
def wsL_handle_r1 : List Cond := [Cond.classLink RL 13 "java/lang/IllegalStateException", Cond.methodLink RL 7 yX6_handle, Cond.instanceMethod yX6_handle, Cond.selects RX6 yX6_handle yX6_handle, Cond.initialized RX6, Cond.code yX6_handle cX6_handle 4 (some .int), Cond.classLink RX6 161 "java/lang/IllegalStateException", Cond.initialized "java/lang/IllegalStateException", Cond.methodLink RX6 120 yX6_classAt, Cond.instanceMethod yX6_classAt, Cond.selects RX6 yX6_classAt yX6_classAt, Cond.code yX6_classAt cX6_classAt 4 (some (.object "RunClasses$Loaded")), Cond.methodLink RX6 76 yX6_controllerAt, Cond.instanceMethod yX6_controllerAt, Cond.selects RX6 yX6_controllerAt yX6_controllerAt, Cond.code yX6_controllerAt cX6_controllerAt 2 (some (.object "RunClasses$Controller")), Cond.fieldLink RX6 25 "RunClasses" "controllers" "[LRunClasses$Controller;", Cond.instanceMethod yX1_classOf, Cond.initialized RX1, Cond.selects RX1 yX1_classOf yX1_classOf, Cond.code yX1_classOf cX1_classOf 2 (some (.object "RunClasses$Loaded")), Cond.fieldLink RX1 17 "RunClasses$Controller" "classes" "[LRunClasses$Loaded;", Cond.methodLink RX6 58 yX6_newestOf, Cond.instanceMethod yX6_newestOf]
def wsL_handle_r2 : List Cond := [Cond.selects RX6 yX6_newestOf yX6_newestOf, Cond.code yX6_newestOf cX6_newestOf 2 (some (.object "RunClasses$Edition")), Cond.fieldLink RX6 32 "RunClasses" "newestEditions" "[LRunClasses$Edition;", Cond.methodLink RX6 47 yX6_refuse, Cond.instanceMethod yX6_refuse, Cond.selects RX6 yX6_refuse yX6_refuse, Cond.code yX6_refuse cX6_refuse 2 (some .int), Cond.fieldLink RX6 181 "RunClasses" "refusals" "I"]
def wsL_handle : List Cond := .codeWith yL_handle cL_handle 5 (some .int) [(0, 10, 13, 13)] :: ((wsL_handle_r1 ++ wsL_handle_r2) ++ wsX40 ++ wsX60 ++ wsX10 ++ (vx_atM "java/lang/ArrayIndexOutOfBoundsException" ["java/lang/IndexOutOfBoundsException", "java/lang/RuntimeException", "java/lang/Exception"]).filter goodWord ++ (vx_atS RX6 165 "java/lang/IllegalStateException" ["java/lang/RuntimeException", "java/lang/Exception"]).filter goodWord)
def wsL_octet : List Cond := .codeWith yL_octet cL_octet 5 (some .int) [(0, 10, 13, 19)] :: ([.classLink RL 19 "java/lang/ArrayIndexOutOfBoundsException", .methodLink RL 15 yX6_octet, .instanceMethod yX6_octet, .selects RX6 yX6_octet yX6_octet, .initialized RX6, .code yX6_octet cX6_octet 4 (some .byte), .classLink RX6 171 RJx00060, .instantiable RJx00060 6, .initialized RJx00060, .methodLink RX6 58 yX6_newestOf, .instanceMethod yX6_newestOf, .selects RX6 yX6_newestOf yX6_newestOf, .code yX6_newestOf cX6_newestOf 2 (some (.object "RunClasses$Edition")), .fieldLink RX6 32 "RunClasses" "newestEditions" "[LRunClasses$Edition;"] ++ wsX20 ++ wsJx000600 ++ wsX60 ++ (vx_atM "java/lang/ArrayIndexOutOfBoundsException" ["java/lang/IndexOutOfBoundsException", "java/lang/RuntimeException", "java/lang/Exception"]).filter goodWord)
def wsL_divide : List Cond := .codeWith yL_divide cL_divide 7 (some .int) [(0, 10, 13, 25)] :: ([.classLink RL 25 "java/lang/ArithmeticException", .methodLink RL 21 yX6_divide, .instanceMethod yX6_divide, .selects RX6 yX6_divide yX6_divide, .initialized RX6, .code yX6_divide cX6_divide 5 (some .long), .classLink RX6 176 "java/lang/ArithmeticException", .initialized "java/lang/ArithmeticException"] ++ (vx_atM "java/lang/ArrayIndexOutOfBoundsException" ["java/lang/IndexOutOfBoundsException", "java/lang/RuntimeException", "java/lang/Exception"]).filter goodWord ++ (vx_atS RX6 180 "java/lang/ArithmeticException" ["java/lang/RuntimeException", "java/lang/Exception"]).filter goodWord ++ (vx_atM "java/lang/ArithmeticException" ["java/lang/RuntimeException", "java/lang/Exception"]).filter goodWord)
def wsL_law0_r1 : List Cond := [Cond.classLink RL 8 RX6, Cond.instantiable RX6 8, Cond.initialized RX6, Cond.classLink RL 36 RX7, Cond.instantiable RX7 33, Cond.initialized RX7, Cond.arrayClass .long, Cond.constantLong RL 39 (4294967295), Cond.methodLink RL 27 yL_cell, Cond.static yL_cell, Cond.initialized RL, Cond.code yL_cell cL_cell 2 (some .int), Cond.methodLink RL 33 yX6_init, Cond.instanceMethod yX6_init, Cond.code yX6_init cX6_init 3 none, Cond.methodLink RX6 1 objectInit, Cond.instanceMethod objectInit, Cond.code objectInit ⟨#[0xb1]⟩ 1 none, Cond.constant RX6 9 (65536), Cond.methodLink RX6 10 Lib.Math.min.name, Cond.static Lib.Math.min.name, Cond.initialized "java/lang/Math", Cond.code Lib.Math.min.name Lib.Math.min.code 2 (some .int), Cond.methodLink RX6 16 Lib.Math.max.name]
def wsL_law0_r2 : List Cond := [Cond.static Lib.Math.max.name, Cond.code Lib.Math.max.name Lib.Math.max.code 2 (some .int), Cond.fieldLink RX6 19 "RunClasses" "budget" "I", Cond.classLink RX6 23 RX1, Cond.fieldLink RX6 25 "RunClasses" "controllers" "[LRunClasses$Controller;", Cond.instantiable RX1 9, Cond.initialized RX1, Cond.classLink RX6 30 RX2, Cond.fieldLink RX6 32 "RunClasses" "newestEditions" "[LRunClasses$Edition;", Cond.classLink RX6 36 RX5, Cond.instantiable RX5 11, Cond.initialized RX5, Cond.fieldLink RX6 39 "RunClasses" "way" "LRunClasses$Way;", Cond.arrayClass .byte, Cond.fieldLink RX6 43 "RunClasses" "underWay" "[B", Cond.instanceMethod yX1_init, Cond.code yX1_init cX1_init 1 none, Cond.methodLink RX1 3 objectInit, Cond.fieldLink RX1 9 "RunClasses$Controller" "ports" "[J", Cond.classLink RX1 15 RX4, Cond.fieldLink RX1 17 "RunClasses$Controller" "classes" "[LRunClasses$Loaded;", Cond.instanceMethod yX5_init, Cond.code yX5_init cX5_init 1 none, Cond.methodLink RX5 3 objectInit]
def wsL_law0_r3 : List Cond := [Cond.fieldLink RX5 9 "RunClasses$Way" "pile" "[J", Cond.fieldLink RX5 15 "RunClasses$Way" "copiedPorts" "[J", Cond.fieldLink RX5 18 "RunClasses$Way" "copiedCells" "[J", Cond.fieldLink RX5 21 "RunClasses$Way" "code" "[B", Cond.fieldLink RX5 25 "RunClasses$Way" "ports" "[J", Cond.fieldLink RX5 28 "RunClasses$Way" "cells" "[J", Cond.methodLink RL 38 yX7_init, Cond.instanceMethod yX7_init, Cond.code yX7_init cX7_init 3 none, Cond.methodLink RX7 1 objectInit, Cond.fieldLink RX7 7 "RunClassesModel" "draft" "[B", Cond.arrayClass .int, Cond.fieldLink RX7 13 "RunClassesModel" "editions" "[I", Cond.fieldLink RX7 17 "RunClassesModel" "files" "[B", Cond.fieldLink RX7 20 "RunClassesModel" "fileSize" "[I", Cond.fieldLink RX7 23 "RunClassesModel" "startAt" "[I", Cond.fieldLink RX7 26 "RunClassesModel" "startSize" "[I", Cond.fieldLink RX7 29 "RunClassesModel" "runAt" "[I", Cond.fieldLink RX7 32 "RunClassesModel" "runSize" "[I", Cond.fieldLink RX7 35 "RunClassesModel" "ports" "[J", Cond.arrayClass .boolean, Cond.fieldLink RX7 39 "RunClassesModel" "up" "[Z", Cond.fieldLink RX7 43 "RunClassesModel" "reactions" "[I", Cond.fieldLink RX7 46 "RunClassesModel" "faultKind" "[I"]
def wsL_law0_r4 : List Cond := [Cond.fieldLink RX7 49 "RunClassesModel" "faultOf" "[I", Cond.fieldLink RX7 52 "RunClassesModel" "faultSteps" "[I", Cond.fieldLink RX7 55 "RunClassesModel" "faultK" "[I", Cond.fieldLink RX7 58 "RunClassesModel" "faults" "[I", Cond.fieldLink RX7 61 "RunClassesModel" "edition" "[I", Cond.fieldLink RX7 64 "RunClassesModel" "cells" "[J", Cond.fieldLink RX7 67 "RunClassesModel" "stopped" "[Z", Cond.fieldLink RX7 70 "RunClassesModel" "handlePort" "[I", Cond.fieldLink RX7 73 "RunClassesModel" "handleCall" "[I", Cond.fieldLink RX7 76 "RunClassesModel" "pile" "[J", Cond.fieldLink RX7 79 "RunClassesModel" "portsWere" "[J", Cond.fieldLink RX7 82 "RunClassesModel" "cellsWere" "[J", Cond.constant RX7 85 (65536), Cond.fieldLink RX7 86 "RunClassesModel" "budget" "I", Cond.methodLink RL 41 yX6_file, Cond.instanceMethod yX6_file, Cond.selects RX6 yX6_file yX6_file, Cond.code yX6_file cX6_file 5 (some .int), Cond.fieldLink RX6 51 "RunClasses" "underWayLength" "I", Cond.methodLink RX6 47 yX6_refuse, Cond.instanceMethod yX6_refuse, Cond.selects RX6 yX6_refuse yX6_refuse, Cond.code yX6_refuse cX6_refuse 2 (some .int), Cond.fieldLink RX6 181 "RunClasses" "refusals" "I"]
def wsL_law0_r5 : List Cond := [Cond.methodLink RX6 54 yX6_putOctet, Cond.instanceMethod yX6_putOctet, Cond.selects RX6 yX6_putOctet yX6_putOctet, Cond.code yX6_putOctet cX6_putOctet 2 none, Cond.methodLink RL 45 yX7_file, Cond.instanceMethod yX7_file, Cond.selects RX7 yX7_file yX7_file, Cond.code yX7_file cX7_file 5 (some .int), Cond.fieldLink RX7 90 "RunClassesModel" "thrown" "I", Cond.fieldLink RX7 104 "RunClassesModel" "size" "I", Cond.methodLink RX7 96 yX7_in, Cond.static yX7_in, Cond.code yX7_in cX7_in 3 (some .boolean), Cond.methodLink RX7 100 yX7_refuse, Cond.instanceMethod yX7_refuse, Cond.selects RX7 yX7_refuse yX7_refuse, Cond.code yX7_refuse cX7_refuse 2 (some .int), Cond.fieldLink RX7 93 "RunClassesModel" "refusals" "I", Cond.methodLink RL 46 yX6_runnable, Cond.instanceMethod yX6_runnable, Cond.selects RX6 yX6_runnable yX6_runnable, Cond.code yX6_runnable cX6_runnable 3 (some .int), Cond.methodLink RX6 58 yX6_newestOf, Cond.instanceMethod yX6_newestOf]
def wsL_law0_r6 : List Cond := [Cond.selects RX6 yX6_newestOf yX6_newestOf, Cond.code yX6_newestOf cX6_newestOf 2 (some (.object "RunClasses$Edition")), Cond.methodLink RX6 62 yX6_isRight, Cond.static yX6_isRight, Cond.code yX6_isRight cX6_isRight 6 (some .boolean), Cond.methodLink RX6 229 yX6_octetAt, Cond.static yX6_octetAt, Cond.code yX6_octetAt cX6_octetAt 2 (some .int), Cond.methodLink RX6 66 yX6_addRunnable, Cond.instanceMethod yX6_addRunnable, Cond.selects RX6 yX6_addRunnable yX6_addRunnable, Cond.code yX6_addRunnable cX6_addRunnable 1 (some .int), Cond.fieldLink RX6 97 "RunClasses" "runnables" "I", Cond.methodLink RX6 184 yX6_keepEdition, Cond.instanceMethod yX6_keepEdition, Cond.selects RX6 yX6_keepEdition yX6_keepEdition, Cond.code yX6_keepEdition cX6_keepEdition 6 none, Cond.instantiable RX2 4, Cond.initialized RX2, Cond.methodLink RX6 187 yX6_copyOf, Cond.static yX6_copyOf, Cond.code yX6_copyOf cX6_copyOf 3 (some (.array .byte)), Cond.methodLink RX6 233 yJ7_copyOfRange_39247, Cond.static yJ7_copyOfRange_39247]
def wsL_law0_r7 : List Cond := [Cond.initialized RJ7, Cond.code yJ7_copyOfRange_39247 cJ7_copyOfRange_39247 3 (some (.array .byte)), Cond.methodLink RJ7 310 ⟨"[B", "clone", "()Ljava/lang/Object;"⟩, Cond.sameMethod "[B" "java/lang/Object" "clone" "()Ljava/lang/Object;", Cond.native ⟨"java/lang/Object", "clone", "()Ljava/lang/Object;"⟩, Cond.instanceMethod ⟨"java/lang/Object", "clone", "()Ljava/lang/Object;"⟩, Cond.selects "[B" ⟨"[B", "clone", "()Ljava/lang/Object;"⟩ ⟨"java/lang/Object", "clone", "()Ljava/lang/Object;"⟩, Cond.classLink RJ7 311 "[B", Cond.methodLink RJ7 339 yJ7_copyOfRangeByte_39247, Cond.static yJ7_copyOfRangeByte_39247, Cond.code yJ7_copyOfRangeByte_39247 cJ7_copyOfRangeByte_39247 5 (some (.array .byte)), Cond.methodLink RJ7 304 Lib.Math.min.name, Cond.methodLink RJ7 150 arraycopyName, Cond.native arraycopyName, Cond.static arraycopyName, Cond.initialized "java/lang/System", Cond.methodLink RJ7 343 yJ7_checkLength_df160, Cond.static yJ7_checkLength_df160, Cond.code yJ7_checkLength_df160 cJ7_checkLength_df160 2 none, Cond.methodLink RX6 191 yX6_codeOf, Cond.static yX6_codeOf, Cond.code yX6_codeOf cX6_codeOf 4 (some (.array .byte)), Cond.instanceMethod yX2_init, Cond.code yX2_init cX2_init 5 none]
def wsL_law0_r8 : List Cond := [Cond.methodLink RX2 1 objectInit, Cond.fieldLink RX2 7 "RunClasses$Edition" "number" "I", Cond.fieldLink RX2 13 "RunClasses$Edition" "octets" "[B", Cond.fieldLink RX2 17 "RunClasses$Edition" "startCode" "[B", Cond.fieldLink RX2 20 "RunClasses$Edition" "runCode" "[B", Cond.methodLink RX6 73 yX6_addEdition, Cond.instanceMethod yX6_addEdition, Cond.selects RX6 yX6_addEdition yX6_addEdition, Cond.code yX6_addEdition cX6_addEdition 3 (some .int), Cond.methodLink RL 50 yX7_runnable, Cond.instanceMethod yX7_runnable, Cond.selects RX7 yX7_runnable yX7_runnable, Cond.code yX7_runnable cX7_runnable 7 (some .int), Cond.fieldLink RX7 107 "RunClassesModel" "runnables" "I", Cond.methodLink RX7 110 yX7_isRight, Cond.instanceMethod yX7_isRight, Cond.selects RX7 yX7_isRight yX7_isRight, Cond.code yX7_isRight cX7_isRight 5 (some .boolean), Cond.methodLink RX7 114 yX7_empties, Cond.instanceMethod yX7_empties, Cond.selects RX7 yX7_empties yX7_empties, Cond.code yX7_empties cX7_empties 1 (some .int), Cond.methodLink RX7 118 yX7_place, Cond.static yX7_place]
def wsL_law0_r9 : List Cond := [Cond.code yX7_place cX7_place 2 (some .int), Cond.methodLink RX7 122 yX7_cutUp, Cond.instanceMethod yX7_cutUp, Cond.selects RX7 yX7_cutUp yX7_cutUp, Cond.code yX7_cutUp cX7_cutUp 7 (some .boolean), Cond.methodLink RL 51 yX6_make, Cond.instanceMethod yX6_make, Cond.selects RX6 yX6_make yX6_make, Cond.code yX6_make cX6_make 5 (some .int), Cond.classLink RX6 88 RX4, Cond.instantiable RX4 4, Cond.initialized RX4, Cond.methodLink RX6 76 yX6_controllerAt, Cond.instanceMethod yX6_controllerAt, Cond.selects RX6 yX6_controllerAt yX6_controllerAt, Cond.code yX6_controllerAt cX6_controllerAt 2 (some (.object "RunClasses$Controller")), Cond.instanceMethod yX1_classOf, Cond.selects RX1 yX1_classOf yX1_classOf, Cond.code yX1_classOf cX1_classOf 2 (some (.object "RunClasses$Loaded")), Cond.instanceMethod yX4_init, Cond.code yX4_init cX4_init 2 none, Cond.methodLink RX4 3 objectInit, Cond.fieldLink RX4 9 "RunClasses$Loaded" "cells" "[J", Cond.fieldLink RX4 15 "RunClasses$Loaded" "handle" "I"]
def wsL_law0_r10 : List Cond := [Cond.fieldLink RX4 19 "RunClasses$Loaded" "edition" "I", Cond.instanceMethod yX1_load, Cond.selects RX1 yX1_load yX1_load, Cond.code yX1_load cX1_load 3 none, Cond.methodLink RL 54 yX7_make, Cond.instanceMethod yX7_make, Cond.selects RX7 yX7_make yX7_make, Cond.code yX7_make cX7_make 4 (some .int), Cond.methodLink RX7 126 yX7_isController, Cond.instanceMethod yX7_isController, Cond.selects RX7 yX7_isController yX7_isController, Cond.code yX7_isController cX7_isController 2 (some .boolean), Cond.methodLink RX7 129 yX7_isRunnable, Cond.instanceMethod yX7_isRunnable, Cond.selects RX7 yX7_isRunnable yX7_isRunnable, Cond.code yX7_isRunnable cX7_isRunnable 2 (some .boolean), Cond.methodLink RX7 132 yX7_at, Cond.static yX7_at, Cond.code yX7_at cX7_at 2 (some .int), Cond.methodLink RX7 135 yX7_renew, Cond.instanceMethod yX7_renew, Cond.selects RX7 yX7_renew yX7_renew, Cond.code yX7_renew cX7_renew 5 none, Cond.methodLink RL 55 yX6_power]
def wsL_law0_r11 : List Cond := [Cond.instanceMethod yX6_power, Cond.selects RX6 yX6_power yX6_power, Cond.code yX6_power cX6_power 5 (some .int), Cond.methodLink RX6 100 yX6_callStart, Cond.instanceMethod yX6_callStart, Cond.selects RX6 yX6_callStart yX6_callStart, Cond.code yX6_callStart cX6_callStart 5 (some .int), Cond.methodLink RX6 201 yX6_call, Cond.instanceMethod yX6_call, Cond.selects RX6 yX6_call yX6_call, Cond.code yX6_call cX6_call 6 (some .int), Cond.instanceMethod yX5_go, Cond.selects RX5 yX5_go yX5_go, Cond.code yX5_go cX5_go 7 (some .int), Cond.fieldLink RX5 39 "RunClasses$Way" "height" "I", Cond.fieldLink RX5 43 "RunClasses$Way" "at" "I", Cond.fieldLink RX5 46 "RunClasses$Way" "given" "I", Cond.fieldLink RX5 49 "RunClasses$Way" "handle" "I", Cond.fieldLink RX5 56 "RunClasses$Way" "steps" "I", Cond.methodLink RX5 52 yX5_step, Cond.instanceMethod yX5_step, Cond.selects RX5 yX5_step yX5_step, Cond.code yX5_step cX5_step 5 (some .int), Cond.methodLink RX5 82 yX5_doIt]
def wsL_law0_r12 : List Cond := [Cond.instanceMethod yX5_doIt, Cond.selects RX5 yX5_doIt yX5_doIt, Cond.code yX5_doIt cX5_doIt 9 (some .int), Cond.fieldLink RX5 86 "RunClasses$1" "$SwitchMap$RunClasses$Instruction" "[I", Cond.constantLong RX5 115 (8), Cond.methodLink RX5 92 ⟨"RunClasses$Instruction", "ordinal", "()I"⟩, Cond.sameMethod "RunClasses$Instruction" "java/lang/Enum" "ordinal" "()I", Cond.selects RX3 ⟨"RunClasses$Instruction", "ordinal", "()I"⟩ yJx29ce0_ordinal_8abf5, Cond.instanceMethod yJx29ce0_ordinal_8abf5, Cond.initialized RJx29ce0, Cond.code yJx29ce0_ordinal_8abf5 cJx29ce0_ordinal_8abf5 1 (some .int), Cond.fieldLink RJx29ce0 7 "java/lang/Enum" "ordinal" "I", Cond.methodLink RX5 95 yX5_lay, Cond.instanceMethod yX5_lay, Cond.selects RX5 yX5_lay yX5_lay, Cond.code yX5_lay cX5_lay 3 (some .int), Cond.static yX6_numberAt, Cond.code yX6_numberAt cX6_numberAt 2 (some .long), Cond.methodLink RX5 103 yX5_take, Cond.instanceMethod yX5_take, Cond.selects RX5 yX5_take yX5_take, Cond.code yX5_take cX5_take 1 (some .long), Cond.static yX6_putNumber, Cond.code yX6_putNumber cX6_putNumber 4 none]
def wsL_law0_r13 : List Cond := [Cond.methodLink RX5 111 yX5_goOnAt, Cond.instanceMethod yX5_goOnAt, Cond.selects RX5 yX5_goOnAt yX5_goOnAt, Cond.code yX5_goOnAt cX5_goOnAt 2 (some .int), Cond.methodLink RX5 117 yX5_divides, Cond.static yX5_divides, Cond.code yX5_divides cX5_divides 1 (some .boolean), Cond.fieldLink RX5 125 "RunClasses$Instruction" "DIVIDE" "LRunClasses$Instruction;", Cond.fieldLink RX5 129 "RunClasses$Instruction" "REMAINDER" "LRunClasses$Instruction;", Cond.methodLink RX5 121 yX5_reckoned, Cond.static yX5_reckoned, Cond.code yX5_reckoned cX5_reckoned 5 (some .long), Cond.methodLink RL 58 yX7_power, Cond.instanceMethod yX7_power, Cond.selects RX7 yX7_power yX7_power, Cond.code yX7_power cX7_power 5 (some .int), Cond.methodLink RX7 172 yX7_call, Cond.instanceMethod yX7_call, Cond.selects RX7 yX7_call yX7_call, Cond.code yX7_call cX7_call 16 (some .int), Cond.fieldLink RX7 142 "RunClassesModel" "calls" "I", Cond.fieldLink RX7 139 "RunClassesModel" "many" "I", Cond.fieldLink RX7 145 "RunClassesModel" "steps" "I", Cond.fieldLink RX7 148 "RunClassesModel" "gaveUp" "I"]
def wsL_law0_r14 : List Cond := [Cond.methodLink RX7 151 yX7_take, Cond.instanceMethod yX7_take, Cond.selects RX7 yX7_take yX7_take, Cond.code yX7_take cX7_take 1 (some .long), Cond.methodLink RX7 155 yX7_move, Cond.instanceMethod yX7_move, Cond.selects RX7 yX7_move yX7_move, Cond.code yX7_move cX7_move 5 none, Cond.methodLink RX7 166 yX7_lay, Cond.instanceMethod yX7_lay, Cond.selects RX7 yX7_lay yX7_lay, Cond.code yX7_lay cX7_lay 3 none, Cond.methodLink RX7 159 yX7_reckon, Cond.instanceMethod yX7_reckon, Cond.selects RX7 yX7_reckon yX7_reckon, Cond.code yX7_reckon cX7_reckon 6 (some .int), Cond.methodLink RX7 162 yX7_other, Cond.instanceMethod yX7_other, Cond.selects RX7 yX7_other yX7_other, Cond.code yX7_other cX7_other 7 (some .int), Cond.constantLong RX7 170 (7), Cond.methodLink RX7 175 yX7_tell, Cond.instanceMethod yX7_tell, Cond.selects RX7 yX7_tell yX7_tell]
def wsL_law0_r15 : List Cond := [Cond.code yX7_tell cX7_tell 4 none, Cond.methodLink RL 59 yX6_run, Cond.instanceMethod yX6_run, Cond.selects RX6 yX6_run yX6_run, Cond.code yX6_run cX6_run 3 (some .int), Cond.methodLink RX6 104 yX6_callRun, Cond.instanceMethod yX6_callRun, Cond.selects RX6 yX6_callRun yX6_callRun, Cond.code yX6_callRun cX6_callRun 8 (some .int), Cond.instanceMethod yX5_goOnCopies, Cond.selects RX5 yX5_goOnCopies yX5_goOnCopies, Cond.code yX5_goOnCopies cX5_goOnCopies 5 (some .int), Cond.static yX6_copyNumbers, Cond.code yX6_copyNumbers cX6_copyNumbers 3 none, Cond.methodLink RX5 35 yX5_go, Cond.methodLink RX6 215 yX6_react, Cond.static yX6_react, Cond.code yX6_react cX6_react 2 none, Cond.methodLink RL 62 yX7_run, Cond.instanceMethod yX7_run, Cond.selects RX7 yX7_run yX7_run, Cond.code yX7_run cX7_run 5 (some .int), Cond.methodLink RX7 178 yX7_barred, Cond.instanceMethod yX7_barred]
def wsL_law0_r16 : List Cond := [Cond.selects RX7 yX7_barred yX7_barred, Cond.code yX7_barred cX7_barred 4 (some .int), Cond.methodLink RX7 181 yX7_runMember, Cond.instanceMethod yX7_runMember, Cond.selects RX7 yX7_runMember yX7_runMember, Cond.code yX7_runMember cX7_runMember 4 (some .int), Cond.methodLink RL 63 yX6_beside, Cond.instanceMethod yX6_beside, Cond.selects RX6 yX6_beside yX6_beside, Cond.code yX6_beside cX6_beside 3 (some .int), Cond.methodLink RL 66 yX7_beside, Cond.instanceMethod yX7_beside, Cond.selects RX7 yX7_beside yX7_beside, Cond.code yX7_beside cX7_beside 9 (some .int), Cond.methodLink RL 67 yX6_port, Cond.instanceMethod yX6_port, Cond.selects RX6 yX6_port yX6_port, Cond.code yX6_port cX6_port 4 (some .long), Cond.methodLink RX6 112 yX6_numberAt, Cond.methodLink RL 71 yX7_port, Cond.instanceMethod yX7_port, Cond.selects RX7 yX7_port yX7_port, Cond.code yX7_port cX7_port 3 (some .long), Cond.methodLink RL 72 yX6_set]
def wsL_law0_r17 : List Cond := [Cond.instanceMethod yX6_set, Cond.selects RX6 yX6_set yX6_set, Cond.code yX6_set cX6_set 6 (some .int), Cond.methodLink RX6 116 yX6_putNumber, Cond.methodLink RL 76 yX7_set, Cond.instanceMethod yX7_set, Cond.selects RX7 yX7_set yX7_set, Cond.code yX7_set cX7_set 5 (some .int), Cond.methodLink RL 77 yX6_cell, Cond.instanceMethod yX6_cell, Cond.selects RX6 yX6_cell yX6_cell, Cond.code yX6_cell cX6_cell 5 (some .long), Cond.methodLink RX6 120 yX6_classAt, Cond.instanceMethod yX6_classAt, Cond.selects RX6 yX6_classAt yX6_classAt, Cond.code yX6_classAt cX6_classAt 4 (some (.object "RunClasses$Loaded")), Cond.methodLink RL 80 yX7_cell, Cond.instanceMethod yX7_cell, Cond.selects RX7 yX7_cell yX7_cell, Cond.code yX7_cell cX7_cell 4 (some .long), Cond.methodLink RX7 184 yX7_hasClass, Cond.instanceMethod yX7_hasClass, Cond.selects RX7 yX7_hasClass yX7_hasClass, Cond.code yX7_hasClass cX7_hasClass 3 (some .boolean)]
def wsL_law0_r18 : List Cond := [Cond.methodLink RL 81 yX6_reaction, Cond.instanceMethod yX6_reaction, Cond.selects RX6 yX6_reaction yX6_reaction, Cond.code yX6_reaction cX6_reaction 5 (some .int), Cond.methodLink RL 84 yX7_reaction, Cond.instanceMethod yX7_reaction, Cond.selects RX7 yX7_reaction yX7_reaction, Cond.code yX7_reaction cX7_reaction 4 (some .int), Cond.methodLink RL 85 yX6_update, Cond.instanceMethod yX6_update, Cond.selects RX6 yX6_update yX6_update, Cond.code yX6_update cX6_update 6 (some .int), Cond.instanceMethod yX4_becomeAnew, Cond.selects RX4 yX4_becomeAnew yX4_becomeAnew, Cond.code yX4_becomeAnew cX4_becomeAnew 4 none, Cond.fieldLink RX4 22 "RunClasses$Loaded" "stopped" "Z", Cond.methodLink RL 88 yX7_update, Cond.instanceMethod yX7_update, Cond.selects RX7 yX7_update yX7_update, Cond.code yX7_update cX7_update 4 (some .int), Cond.methodLink RL 89 yX6_reset, Cond.instanceMethod yX6_reset, Cond.selects RX6 yX6_reset yX6_reset, Cond.code yX6_reset cX6_reset 7 (some .int)]
def wsL_law0_r19 : List Cond := [Cond.methodLink RX6 137 yJ7_fill_d0a16, Cond.static yJ7_fill_d0a16, Cond.code yJ7_fill_d0a16 cJ7_fill_d0a16 5 none, Cond.methodLink RL 92 yX7_reset, Cond.instanceMethod yX7_reset, Cond.selects RX7 yX7_reset yX7_reset, Cond.code yX7_reset cX7_reset 4 (some .int), Cond.methodLink RL 93 yX6_fault, Cond.instanceMethod yX6_fault, Cond.selects RX6 yX6_fault yX6_fault, Cond.code yX6_fault cX6_fault 4 (some .int), Cond.methodLink RL 96 yX7_fault, Cond.instanceMethod yX7_fault, Cond.selects RX7 yX7_fault yX7_fault, Cond.code yX7_fault cX7_fault 3 (some .int), Cond.methodLink RL 97 yX6_same, Cond.instanceMethod yX6_same, Cond.selects RX6 yX6_same yX6_same, Cond.code yX6_same cX6_same 7 (some .boolean), Cond.methodLink RL 101 yX7_same, Cond.instanceMethod yX7_same, Cond.selects RX7 yX7_same yX7_same, Cond.code yX7_same cX7_same 8 (some .boolean), Cond.methodLink RL 102 yL_handle]
def wsL_law0_r20 : List Cond := [Cond.static yL_handle, Cond.codeWith yL_handle cL_handle 5 (some .int) [(0, 10, 13, 13)], Cond.classLink RL 13 "java/lang/IllegalStateException", Cond.methodLink RL 7 yX6_handle, Cond.instanceMethod yX6_handle, Cond.selects RX6 yX6_handle yX6_handle, Cond.code yX6_handle cX6_handle 4 (some .int), Cond.classLink RX6 161 "java/lang/IllegalStateException", Cond.initialized "java/lang/IllegalStateException", Cond.methodLink RL 105 yX7_handle, Cond.instanceMethod yX7_handle, Cond.selects RX7 yX7_handle yX7_handle, Cond.code yX7_handle cX7_handle 4 (some .int), Cond.methodLink RL 106 yX7_thrown, Cond.instanceMethod yX7_thrown, Cond.selects RX7 yX7_thrown yX7_thrown, Cond.code yX7_thrown cX7_thrown 1 (some .int), Cond.methodLink RL 110 yL_octet, Cond.static yL_octet, Cond.codeWith yL_octet cL_octet 5 (some .int) [(0, 10, 13, 19)], Cond.classLink RL 19 "java/lang/ArrayIndexOutOfBoundsException", Cond.methodLink RL 15 yX6_octet, Cond.instanceMethod yX6_octet, Cond.selects RX6 yX6_octet yX6_octet]
def wsL_law0_r21 : List Cond := [Cond.code yX6_octet cX6_octet 4 (some .byte), Cond.classLink RX6 171 RJx00060, Cond.instantiable RJx00060 6, Cond.initialized RJx00060, Cond.methodLink RL 112 yX7_octet, Cond.instanceMethod yX7_octet, Cond.selects RX7 yX7_octet yX7_octet, Cond.code yX7_octet cX7_octet 3 (some .byte), Cond.methodLink RL 113 yL_divide, Cond.static yL_divide, Cond.codeWith yL_divide cL_divide 7 (some .int) [(0, 10, 13, 25)], Cond.classLink RL 25 "java/lang/ArithmeticException", Cond.methodLink RL 21 yX6_divide, Cond.instanceMethod yX6_divide, Cond.selects RX6 yX6_divide yX6_divide, Cond.code yX6_divide cX6_divide 5 (some .long), Cond.classLink RX6 176 "java/lang/ArithmeticException", Cond.initialized "java/lang/ArithmeticException", Cond.methodLink RL 116 yX7_divide, Cond.instanceMethod yX7_divide, Cond.selects RX7 yX7_divide yX7_divide, Cond.code yX7_divide cX7_divide 5 (some .long), Cond.methodLink RL 117 yX6_refused, Cond.instanceMethod yX6_refused]
def wsL_law0_r22 : List Cond := [Cond.selects RX6 yX6_refused yX6_refused, Cond.code yX6_refused cX6_refused 1 (some .int), Cond.methodLink RL 120 yX7_refused, Cond.instanceMethod yX7_refused, Cond.selects RX7 yX7_refused yX7_refused, Cond.code yX7_refused cX7_refused 1 (some .int)]
def wsL_law0 : List Cond := (wsL_law0_r1 ++ (wsL_law0_r2 ++ (wsL_law0_r3 ++ (wsL_law0_r4 ++ (wsL_law0_r5 ++ (wsL_law0_r6 ++ (wsL_law0_r7 ++ (wsL_law0_r8 ++ (wsL_law0_r9 ++ (wsL_law0_r10 ++ (wsL_law0_r11 ++ (wsL_law0_r12 ++ (wsL_law0_r13 ++ (wsL_law0_r14 ++ (wsL_law0_r15 ++ (wsL_law0_r16 ++ (wsL_law0_r17 ++ (wsL_law0_r18 ++ (wsL_law0_r19 ++ (wsL_law0_r20 ++ (wsL_law0_r21 ++ wsL_law0_r22))))))))))))))))))))) ++ wsX60 ++ wsX70 ++ wsX10 ++ wsX50 ++ wsX20 ++ wsX40 ++ wsJx000600 ++ ([] : List Cond)
def wsL_law : List Cond := wsL_law0 ++ (vx_atM "java/lang/ArrayIndexOutOfBoundsException" ["java/lang/IndexOutOfBoundsException", "java/lang/RuntimeException", "java/lang/Exception"]).filter goodWord ++ (vx_atM "java/lang/ArithmeticException" ["java/lang/RuntimeException", "java/lang/Exception"]).filter goodWord ++ (vx_atS RX6 165 "java/lang/IllegalStateException" ["java/lang/RuntimeException", "java/lang/Exception"]).filter goodWord ++ (vx_atS RX6 180 "java/lang/ArithmeticException" ["java/lang/RuntimeException", "java/lang/Exception"]).filter goodWord
end
section
set_option maxRecDepth 20000 in
theorem wsL_in_r1 : ∀ w ∈ wsL_law0_r1, w ∈ lw_tbl := fun w h => (goodIn_p wsL_law0_r1 [448, 64, 67, 71] (by decide +kernel) (by decide +kernel) w h).1
set_option maxRecDepth 20000 in
theorem wsL_in_r2 : ∀ w ∈ wsL_law0_r2, w ∈ lw_tbl := fun w h => (goodIn_p wsL_law0_r2 [74, 80, 120] (by decide +kernel) (by decide +kernel) w h).1
set_option maxRecDepth 20000 in
theorem wsL_in_r3 : ∀ w ∈ wsL_law0_r3, w ∈ lw_tbl := fun w h => (goodIn_p wsL_law0_r3 [586] (by decide +kernel) (by decide +kernel) w h).1
set_option maxRecDepth 20000 in
theorem wsL_in_r4 : ∀ w ∈ wsL_law0_r4, w ∈ lw_tbl := fun w h => (goodIn_p wsL_law0_r4 [188, 192] (by decide +kernel) (by decide +kernel) w h).1
set_option maxRecDepth 20000 in
theorem wsL_in_r5 : ∀ w ∈ wsL_law0_r5, w ∈ lw_tbl := fun w h => (goodIn_p wsL_law0_r5 [196, 698, 701, 705, 200] (by decide +kernel) (by decide +kernel) w h).1
set_option maxRecDepth 20000 in
theorem wsL_in_r6 : ∀ w ∈ wsL_law0_r6, w ∈ lw_tbl := fun w h => (goodIn_p wsL_law0_r6 [204, 207, 210, 214, 218, 221] (by decide +kernel) (by decide +kernel) w h).1
set_option maxRecDepth 20000 in
theorem wsL_in_r7 : ∀ w ∈ wsL_law0_r7, w ∈ lw_tbl := fun w h => (goodIn_p wsL_law0_r7 [224, 227, 230, 244, 248] (by decide +kernel) (by decide +kernel) w h).1
set_option maxRecDepth 20000 in
theorem wsL_in_r8 : ∀ w ∈ wsL_law0_r8, w ∈ lw_tbl := fun w h => (goodIn_p wsL_law0_r8 [270, 709, 713, 717] (by decide +kernel) (by decide +kernel) w h).1
set_option maxRecDepth 20000 in
theorem wsL_in_r9 : ∀ w ∈ wsL_law0_r9, w ∈ lw_tbl := fun w h => (goodIn_p wsL_law0_r9 [720, 724, 274, 278, 282, 287] (by decide +kernel) (by decide +kernel) w h).1
set_option maxRecDepth 20000 in
theorem wsL_in_r10 : ∀ w ∈ wsL_law0_r10, w ∈ lw_tbl := fun w h => (goodIn_p wsL_law0_r10 [309, 728, 732, 736, 739, 743] (by decide +kernel) (by decide +kernel) w h).1
set_option maxRecDepth 20000 in
theorem wsL_in_r11 : ∀ w ∈ wsL_law0_r11, w ∈ lw_tbl := fun w h => (goodIn_p wsL_law0_r11 [313, 317, 321, 325, 329] (by decide +kernel) (by decide +kernel) w h).1
set_option maxRecDepth 20000 in
theorem wsL_in_r12 : ∀ w ∈ wsL_law0_r12, w ∈ lw_tbl := fun w h => (goodIn_p wsL_law0_r12 [336, 344, 348, 351, 355, 358] (by decide +kernel) (by decide +kernel) w h).1
set_option maxRecDepth 20000 in
theorem wsL_in_r13 : ∀ w ∈ wsL_law0_r13, w ∈ lw_tbl := fun w h => (goodIn_p wsL_law0_r13 [362, 366, 373, 747, 751] (by decide +kernel) (by decide +kernel) w h).1
set_option maxRecDepth 20000 in
theorem wsL_in_r14 : ∀ w ∈ wsL_law0_r14, w ∈ lw_tbl := fun w h => (goodIn_p wsL_law0_r14 [755, 759, 763, 767, 771] (by decide +kernel) (by decide +kernel) w h).1
set_option maxRecDepth 20000 in
theorem wsL_in_r15 : ∀ w ∈ wsL_law0_r15, w ∈ lw_tbl := fun w h => (goodIn_p wsL_law0_r15 [776, 377, 381, 385, 388, 392, 780] (by decide +kernel) (by decide +kernel) w h).1
set_option maxRecDepth 20000 in
theorem wsL_in_r16 : ∀ w ∈ wsL_law0_r16, w ∈ lw_tbl := fun w h => (goodIn_p wsL_law0_r16 [784, 788, 396, 792, 400, 796] (by decide +kernel) (by decide +kernel) w h).1
set_option maxRecDepth 20000 in
theorem wsL_in_r17 : ∀ w ∈ wsL_law0_r17, w ∈ lw_tbl := fun w h => (goodIn_p wsL_law0_r17 [405, 800, 410, 414, 804, 808] (by decide +kernel) (by decide +kernel) w h).1
set_option maxRecDepth 20000 in
theorem wsL_in_r18 : ∀ w ∈ wsL_law0_r18, w ∈ lw_tbl := fun w h => (goodIn_p wsL_law0_r18 [418, 812, 422, 426, 816, 430] (by decide +kernel) (by decide +kernel) w h).1
set_option maxRecDepth 20000 in
theorem wsL_in_r19 : ∀ w ∈ wsL_law0_r19, w ∈ lw_tbl := fun w h => (goodIn_p wsL_law0_r19 [433, 820, 437, 824, 441, 828] (by decide +kernel) (by decide +kernel) w h).1
set_option maxRecDepth 20000 in
theorem wsL_in_r20 : ∀ w ∈ wsL_law0_r20, w ∈ lw_tbl := fun w h => (goodIn_p wsL_law0_r20 [456, 832, 694] (by decide +kernel) (by decide +kernel) w h).1
set_option maxRecDepth 20000 in
theorem wsL_in_r21 : ∀ w ∈ wsL_law0_r21, w ∈ lw_tbl := fun w h => (goodIn_p wsL_law0_r21 [554, 836, 578, 840] (by decide +kernel) (by decide +kernel) w h).1
set_option maxRecDepth 20000 in
theorem wsL_in_r22 : ∀ w ∈ wsL_law0_r22, w ∈ lw_tbl := fun w h => (goodIn_p wsL_law0_r22 [445, 844] (by decide +kernel) (by decide +kernel) w h).1
set_option maxRecDepth 20000 in
theorem wsD_wsX60 : ∀ w ∈ wsX60, w ∈ lw_tbl := by decide +kernel
set_option maxRecDepth 20000 in
theorem wsD_wsX70 : ∀ w ∈ wsX70, w ∈ lw_tbl := by decide +kernel
set_option maxRecDepth 20000 in
theorem wsD_wsX10 : ∀ w ∈ wsX10, w ∈ lw_tbl := by decide +kernel
set_option maxRecDepth 20000 in
theorem wsD_wsX50 : ∀ w ∈ wsX50, w ∈ lw_tbl := by decide +kernel
set_option maxRecDepth 20000 in
theorem wsD_wsX20 : ∀ w ∈ wsX20, w ∈ lw_tbl := by decide +kernel
set_option maxRecDepth 20000 in
theorem wsD_wsX40 : ∀ w ∈ wsX40, w ∈ lw_tbl := by decide +kernel
set_option maxRecDepth 20000 in
theorem wsD_wsJx000600 : ∀ w ∈ wsJx000600, w ∈ lw_tbl := by decide +kernel
theorem wsL_law_in0 : ∀ w ∈ wsL_law0, w ∈ lw_tbl := fun w h => (List.mem_append.mp h).elim (fun h => (List.mem_append.mp h).elim (fun h => (List.mem_append.mp h).elim (fun h => (List.mem_append.mp h).elim (fun h => (List.mem_append.mp h).elim (fun h => (List.mem_append.mp h).elim (fun h => (List.mem_append.mp h).elim (fun h => (List.mem_append.mp h).elim (fun h => (List.mem_append.mp h).elim (fun h => wsL_in_r1 w h) (fun h => (List.mem_append.mp h).elim (fun h => wsL_in_r2 w h) (fun h => (List.mem_append.mp h).elim (fun h => wsL_in_r3 w h) (fun h => (List.mem_append.mp h).elim (fun h => wsL_in_r4 w h) (fun h => (List.mem_append.mp h).elim (fun h => wsL_in_r5 w h) (fun h => (List.mem_append.mp h).elim (fun h => wsL_in_r6 w h) (fun h => (List.mem_append.mp h).elim (fun h => wsL_in_r7 w h) (fun h => (List.mem_append.mp h).elim (fun h => wsL_in_r8 w h) (fun h => (List.mem_append.mp h).elim (fun h => wsL_in_r9 w h) (fun h => (List.mem_append.mp h).elim (fun h => wsL_in_r10 w h) (fun h => (List.mem_append.mp h).elim (fun h => wsL_in_r11 w h) (fun h => (List.mem_append.mp h).elim (fun h => wsL_in_r12 w h) (fun h => (List.mem_append.mp h).elim (fun h => wsL_in_r13 w h) (fun h => (List.mem_append.mp h).elim (fun h => wsL_in_r14 w h) (fun h => (List.mem_append.mp h).elim (fun h => wsL_in_r15 w h) (fun h => (List.mem_append.mp h).elim (fun h => wsL_in_r16 w h) (fun h => (List.mem_append.mp h).elim (fun h => wsL_in_r17 w h) (fun h => (List.mem_append.mp h).elim (fun h => wsL_in_r18 w h) (fun h => (List.mem_append.mp h).elim (fun h => wsL_in_r19 w h) (fun h => (List.mem_append.mp h).elim (fun h => wsL_in_r20 w h) (fun h => (List.mem_append.mp h).elim (fun h => wsL_in_r21 w h) (fun h => wsL_in_r22 w h)))))))))))))))))))))) (fun h => wsD_wsX60 w h)) (fun h => wsD_wsX70 w h)) (fun h => wsD_wsX10 w h)) (fun h => wsD_wsX50 w h)) (fun h => wsD_wsX20 w h)) (fun h => wsD_wsX40 w h)) (fun h => wsD_wsJx000600 w h)) (fun h => absurd h List.not_mem_nil)
theorem wsL_law_x0 : ∀ w ∈ (vx_atM "java/lang/ArrayIndexOutOfBoundsException" ["java/lang/IndexOutOfBoundsException", "java/lang/RuntimeException", "java/lang/Exception"]).filter goodWord, w ∈ lw_tbl := by decide +kernel
theorem wsL_law_x1 : ∀ w ∈ (vx_atM "java/lang/ArithmeticException" ["java/lang/RuntimeException", "java/lang/Exception"]).filter goodWord, w ∈ lw_tbl := by decide +kernel
theorem wsL_law_x2 : ∀ w ∈ (vx_atS RX6 165 "java/lang/IllegalStateException" ["java/lang/RuntimeException", "java/lang/Exception"]).filter goodWord, w ∈ lw_tbl := by decide +kernel
theorem wsL_law_x3 : ∀ w ∈ (vx_atS RX6 180 "java/lang/ArithmeticException" ["java/lang/RuntimeException", "java/lang/Exception"]).filter goodWord, w ∈ lw_tbl := by decide +kernel
theorem wsL_law_in : ∀ w ∈ wsL_law, w ∈ lw_tbl := fun w h => (List.mem_append.mp h).elim (fun h => (List.mem_append.mp h).elim (fun h => (List.mem_append.mp h).elim (fun h => (List.mem_append.mp h).elim (fun h => wsL_law_in0 w h) (fun h => wsL_law_x0 w h)) (fun h => wsL_law_x1 w h)) (fun h => wsL_law_x2 w h)) (fun h => wsL_law_x3 w h)
theorem inX0 : ∀ w ∈ wsX00, w ∈ lw_tbl := by decide +kernel
theorem inlX1 : ∀ w ∈ wsX10, w ∈ wsL_law := fun _ h => List.mem_append_left _ (List.mem_append_left _ (List.mem_append_left _ (List.mem_append_left _ (List.mem_append_left _ (List.mem_append_left _ (List.mem_append_left _ (List.mem_append_left _ (List.mem_append_left _ (List.mem_append_right _ h)))))))))
theorem inX1 : ∀ w ∈ wsX10, w ∈ lw_tbl := fun w h => wsL_law_in w (inlX1 w h)
theorem inlX2 : ∀ w ∈ wsX20, w ∈ wsL_law := fun _ h => List.mem_append_left _ (List.mem_append_left _ (List.mem_append_left _ (List.mem_append_left _ (List.mem_append_left _ (List.mem_append_left _ (List.mem_append_left _ (List.mem_append_right _ h)))))))
theorem inX2 : ∀ w ∈ wsX20, w ∈ lw_tbl := fun w h => wsL_law_in w (inlX2 w h)
theorem inX3 : ∀ w ∈ wsX30, w ∈ lw_tbl := by decide +kernel
theorem inlX4 : ∀ w ∈ wsX40, w ∈ wsL_law := fun _ h => List.mem_append_left _ (List.mem_append_left _ (List.mem_append_left _ (List.mem_append_left _ (List.mem_append_left _ (List.mem_append_left _ (List.mem_append_right _ h))))))
theorem inX4 : ∀ w ∈ wsX40, w ∈ lw_tbl := fun w h => wsL_law_in w (inlX4 w h)
theorem inlX5 : ∀ w ∈ wsX50, w ∈ wsL_law := fun _ h => List.mem_append_left _ (List.mem_append_left _ (List.mem_append_left _ (List.mem_append_left _ (List.mem_append_left _ (List.mem_append_left _ (List.mem_append_left _ (List.mem_append_left _ (List.mem_append_right _ h))))))))
theorem inX5 : ∀ w ∈ wsX50, w ∈ lw_tbl := fun w h => wsL_law_in w (inlX5 w h)
theorem inlX6 : ∀ w ∈ wsX60, w ∈ wsL_law := fun _ h => List.mem_append_left _ (List.mem_append_left _ (List.mem_append_left _ (List.mem_append_left _ (List.mem_append_left _ (List.mem_append_left _ (List.mem_append_left _ (List.mem_append_left _ (List.mem_append_left _ (List.mem_append_left _ (List.mem_append_left _ (List.mem_append_right _ h)))))))))))
theorem inX6 : ∀ w ∈ wsX60, w ∈ lw_tbl := fun w h => wsL_law_in w (inlX6 w h)
theorem inlX7 : ∀ w ∈ wsX70, w ∈ wsL_law := fun _ h => List.mem_append_left _ (List.mem_append_left _ (List.mem_append_left _ (List.mem_append_left _ (List.mem_append_left _ (List.mem_append_left _ (List.mem_append_left _ (List.mem_append_left _ (List.mem_append_left _ (List.mem_append_left _ (List.mem_append_right _ h))))))))))
theorem inX7 : ∀ w ∈ wsX70, w ∈ lw_tbl := fun w h => wsL_law_in w (inlX7 w h)
theorem inJx145de : ∀ w ∈ wsJx145de0, w ∈ lw_tbl := by decide +kernel
theorem inlJx00060 : ∀ w ∈ wsJx000600, w ∈ wsL_law := fun _ h => List.mem_append_left _ (List.mem_append_left _ (List.mem_append_left _ (List.mem_append_left _ (List.mem_append_left _ (List.mem_append_right _ h)))))
theorem inJx00060 : ∀ w ∈ wsJx000600, w ∈ lw_tbl := fun w h => wsL_law_in w (inlJx00060 w h)
theorem inJx8e188 : ∀ w ∈ wsJx8e1880, w ∈ lw_tbl := by decide +kernel
theorem inJxb160c : ∀ w ∈ wsJxb160c0, w ∈ lw_tbl := by decide +kernel
theorem inJx29ce0 : ∀ w ∈ wsJx29ce00, w ∈ lw_tbl := by decide +kernel
theorem inJ9 : ∀ w ∈ wsJ90, w ∈ lw_tbl := by decide +kernel
theorem inJ0 : ∀ w ∈ wsJ00, w ∈ lw_tbl := by decide +kernel
theorem inJ10 : ∀ w ∈ wsJ100, w ∈ lw_tbl := by decide +kernel
theorem inJxfd54e : ∀ w ∈ wsJxfd54e0, w ∈ lw_tbl := by decide +kernel
theorem inJ7 : ∀ w ∈ wsJ70, w ∈ lw_tbl := by decide +kernel
end
section
/-! ===== one list of words for every method: its own code ahead of the law's words ===== -/
set_option maxRecDepth 20000 in
theorem zgood_all : wsL_law.all goodWord = true := by decide +kernel
abbrev wz (y : MethodName) (b : ByteArray) (n : Nat) (r : Option FieldType) : List Cond := Cond.code y b n r :: wsL_law
theorem wz_gd {c0 : Cond} {y : MethodName} {b : ByteArray} {n : Nat} {r : Option FieldType} (h : Cond.code y b n r ∈ wsL_law) : GoodIn (c0 :: wsL_law) (wz y b n r) := fun w hw => by
  rcases List.mem_cons.mp hw with rfl | hw
  · exact ⟨List.mem_cons_of_mem _ h, good_of_word (List.all_eq_true.mp zgood_all _ h)⟩
  · exact ⟨List.mem_cons_of_mem _ hw, good_of_word (List.all_eq_true.mp zgood_all _ hw)⟩
theorem wz_in {c0 : Cond} {w : Cond} (h : w ∈ wsL_law) : w ∈ c0 :: wsL_law := List.mem_cons_of_mem _ h
theorem wz_V {c0 : Cond} {own C : String} {index : Nat} {y : MethodName} {b : ByteArray} {n : Nat} {r : Option FieldType} (h : Cond.code y b n r ∈ wsL_law) (h1 : Cond.methodLink own index y ∈ wsL_law) (h2 : Cond.instanceMethod y ∈ wsL_law) (h3 : Cond.selects C y y ∈ wsL_law) (h4 : Cond.initialized C ∈ wsL_law) : GoodIn (c0 :: wsL_law) (wsV own index C y (wz y b n r)) := fun w hw => by
  rcases List.mem_append.mp hw with hw | hw
  · have : w ∈ wsL_law := by
      rcases List.mem_cons.mp hw with rfl | hw
      · exact h1
      rcases List.mem_cons.mp hw with rfl | hw
      · exact h2
      rcases List.mem_cons.mp hw with rfl | hw
      · exact h3
      rcases List.mem_cons.mp hw with rfl | hw
      · exact h4
      · exact absurd hw List.not_mem_nil
    exact ⟨List.mem_cons_of_mem _ this, good_of_word (List.all_eq_true.mp zgood_all _ this)⟩
  · exact wz_gd h w hw
theorem wz_S {c0 : Cond} {own : String} {index : Nat} {y : MethodName} {b : ByteArray} {n : Nat} {r : Option FieldType} (h : Cond.code y b n r ∈ wsL_law) (h1 : Cond.methodLink own index y ∈ wsL_law) (h2 : Cond.static y ∈ wsL_law) (h3 : Cond.initialized y.cls ∈ wsL_law) : GoodIn (c0 :: wsL_law) (va_wsS own index y (wz y b n r)) := fun w hw => by
  rcases List.mem_append.mp hw with hw | hw
  · have : w ∈ wsL_law := by
      rcases List.mem_cons.mp hw with rfl | hw
      · exact h1
      rcases List.mem_cons.mp hw with rfl | hw
      · exact h2
      rcases List.mem_cons.mp hw with rfl | hw
      · exact h3
      · exact absurd hw List.not_mem_nil
    exact ⟨List.mem_cons_of_mem _ this, good_of_word (List.all_eq_true.mp zgood_all _ this)⟩
  · exact wz_gd h w hw
theorem zin1 : ∀ w ∈ wsL_law0_r1, w ∈ wsL_law := fun w h => (List.mem_append_left _ (List.mem_append_left _ (List.mem_append_left _ (List.mem_append_left _ (List.mem_append_left _ (List.mem_append_left _ (List.mem_append_left _ (List.mem_append_left _ (List.mem_append_left _ (List.mem_append_left _ (List.mem_append_left _ (List.mem_append_left _ (List.mem_append_left _ h)))))))))))))
theorem zin2 : ∀ w ∈ wsL_law0_r2, w ∈ wsL_law := fun w h => (List.mem_append_left _ (List.mem_append_left _ (List.mem_append_left _ (List.mem_append_left _ (List.mem_append_left _ (List.mem_append_left _ (List.mem_append_left _ (List.mem_append_left _ (List.mem_append_left _ (List.mem_append_left _ (List.mem_append_left _ (List.mem_append_left _ (List.mem_append_right _ (List.mem_append_left _ h))))))))))))))
theorem zin3 : ∀ w ∈ wsL_law0_r3, w ∈ wsL_law := fun w h => (List.mem_append_left _ (List.mem_append_left _ (List.mem_append_left _ (List.mem_append_left _ (List.mem_append_left _ (List.mem_append_left _ (List.mem_append_left _ (List.mem_append_left _ (List.mem_append_left _ (List.mem_append_left _ (List.mem_append_left _ (List.mem_append_left _ (List.mem_append_right _ (List.mem_append_right _ (List.mem_append_left _ h)))))))))))))))
theorem zin4 : ∀ w ∈ wsL_law0_r4, w ∈ wsL_law := fun w h => (List.mem_append_left _ (List.mem_append_left _ (List.mem_append_left _ (List.mem_append_left _ (List.mem_append_left _ (List.mem_append_left _ (List.mem_append_left _ (List.mem_append_left _ (List.mem_append_left _ (List.mem_append_left _ (List.mem_append_left _ (List.mem_append_left _ (List.mem_append_right _ (List.mem_append_right _ (List.mem_append_right _ (List.mem_append_left _ h))))))))))))))))
theorem zin5 : ∀ w ∈ wsL_law0_r5, w ∈ wsL_law := fun w h => (List.mem_append_left _ (List.mem_append_left _ (List.mem_append_left _ (List.mem_append_left _ (List.mem_append_left _ (List.mem_append_left _ (List.mem_append_left _ (List.mem_append_left _ (List.mem_append_left _ (List.mem_append_left _ (List.mem_append_left _ (List.mem_append_left _ (List.mem_append_right _ (List.mem_append_right _ (List.mem_append_right _ (List.mem_append_right _ (List.mem_append_left _ h)))))))))))))))))
theorem zin6 : ∀ w ∈ wsL_law0_r6, w ∈ wsL_law := fun w h => (List.mem_append_left _ (List.mem_append_left _ (List.mem_append_left _ (List.mem_append_left _ (List.mem_append_left _ (List.mem_append_left _ (List.mem_append_left _ (List.mem_append_left _ (List.mem_append_left _ (List.mem_append_left _ (List.mem_append_left _ (List.mem_append_left _ (List.mem_append_right _ (List.mem_append_right _ (List.mem_append_right _ (List.mem_append_right _ (List.mem_append_right _ (List.mem_append_left _ h))))))))))))))))))
theorem zin7 : ∀ w ∈ wsL_law0_r7, w ∈ wsL_law := fun w h => (List.mem_append_left _ (List.mem_append_left _ (List.mem_append_left _ (List.mem_append_left _ (List.mem_append_left _ (List.mem_append_left _ (List.mem_append_left _ (List.mem_append_left _ (List.mem_append_left _ (List.mem_append_left _ (List.mem_append_left _ (List.mem_append_left _ (List.mem_append_right _ (List.mem_append_right _ (List.mem_append_right _ (List.mem_append_right _ (List.mem_append_right _ (List.mem_append_right _ (List.mem_append_left _ h)))))))))))))))))))
theorem zin8 : ∀ w ∈ wsL_law0_r8, w ∈ wsL_law := fun w h => (List.mem_append_left _ (List.mem_append_left _ (List.mem_append_left _ (List.mem_append_left _ (List.mem_append_left _ (List.mem_append_left _ (List.mem_append_left _ (List.mem_append_left _ (List.mem_append_left _ (List.mem_append_left _ (List.mem_append_left _ (List.mem_append_left _ (List.mem_append_right _ (List.mem_append_right _ (List.mem_append_right _ (List.mem_append_right _ (List.mem_append_right _ (List.mem_append_right _ (List.mem_append_right _ (List.mem_append_left _ h))))))))))))))))))))
theorem zin9 : ∀ w ∈ wsL_law0_r9, w ∈ wsL_law := fun w h => (List.mem_append_left _ (List.mem_append_left _ (List.mem_append_left _ (List.mem_append_left _ (List.mem_append_left _ (List.mem_append_left _ (List.mem_append_left _ (List.mem_append_left _ (List.mem_append_left _ (List.mem_append_left _ (List.mem_append_left _ (List.mem_append_left _ (List.mem_append_right _ (List.mem_append_right _ (List.mem_append_right _ (List.mem_append_right _ (List.mem_append_right _ (List.mem_append_right _ (List.mem_append_right _ (List.mem_append_right _ (List.mem_append_left _ h)))))))))))))))))))))
theorem zin10 : ∀ w ∈ wsL_law0_r10, w ∈ wsL_law := fun w h => (List.mem_append_left _ (List.mem_append_left _ (List.mem_append_left _ (List.mem_append_left _ (List.mem_append_left _ (List.mem_append_left _ (List.mem_append_left _ (List.mem_append_left _ (List.mem_append_left _ (List.mem_append_left _ (List.mem_append_left _ (List.mem_append_left _ (List.mem_append_right _ (List.mem_append_right _ (List.mem_append_right _ (List.mem_append_right _ (List.mem_append_right _ (List.mem_append_right _ (List.mem_append_right _ (List.mem_append_right _ (List.mem_append_right _ (List.mem_append_left _ h))))))))))))))))))))))
theorem zin11 : ∀ w ∈ wsL_law0_r11, w ∈ wsL_law := fun w h => (List.mem_append_left _ (List.mem_append_left _ (List.mem_append_left _ (List.mem_append_left _ (List.mem_append_left _ (List.mem_append_left _ (List.mem_append_left _ (List.mem_append_left _ (List.mem_append_left _ (List.mem_append_left _ (List.mem_append_left _ (List.mem_append_left _ (List.mem_append_right _ (List.mem_append_right _ (List.mem_append_right _ (List.mem_append_right _ (List.mem_append_right _ (List.mem_append_right _ (List.mem_append_right _ (List.mem_append_right _ (List.mem_append_right _ (List.mem_append_right _ (List.mem_append_left _ h)))))))))))))))))))))))
theorem zin12 : ∀ w ∈ wsL_law0_r12, w ∈ wsL_law := fun w h => (List.mem_append_left _ (List.mem_append_left _ (List.mem_append_left _ (List.mem_append_left _ (List.mem_append_left _ (List.mem_append_left _ (List.mem_append_left _ (List.mem_append_left _ (List.mem_append_left _ (List.mem_append_left _ (List.mem_append_left _ (List.mem_append_left _ (List.mem_append_right _ (List.mem_append_right _ (List.mem_append_right _ (List.mem_append_right _ (List.mem_append_right _ (List.mem_append_right _ (List.mem_append_right _ (List.mem_append_right _ (List.mem_append_right _ (List.mem_append_right _ (List.mem_append_right _ (List.mem_append_left _ h))))))))))))))))))))))))
theorem zin13 : ∀ w ∈ wsL_law0_r13, w ∈ wsL_law := fun w h => (List.mem_append_left _ (List.mem_append_left _ (List.mem_append_left _ (List.mem_append_left _ (List.mem_append_left _ (List.mem_append_left _ (List.mem_append_left _ (List.mem_append_left _ (List.mem_append_left _ (List.mem_append_left _ (List.mem_append_left _ (List.mem_append_left _ (List.mem_append_right _ (List.mem_append_right _ (List.mem_append_right _ (List.mem_append_right _ (List.mem_append_right _ (List.mem_append_right _ (List.mem_append_right _ (List.mem_append_right _ (List.mem_append_right _ (List.mem_append_right _ (List.mem_append_right _ (List.mem_append_right _ (List.mem_append_left _ h)))))))))))))))))))))))))
theorem zin14 : ∀ w ∈ wsL_law0_r14, w ∈ wsL_law := fun w h => (List.mem_append_left _ (List.mem_append_left _ (List.mem_append_left _ (List.mem_append_left _ (List.mem_append_left _ (List.mem_append_left _ (List.mem_append_left _ (List.mem_append_left _ (List.mem_append_left _ (List.mem_append_left _ (List.mem_append_left _ (List.mem_append_left _ (List.mem_append_right _ (List.mem_append_right _ (List.mem_append_right _ (List.mem_append_right _ (List.mem_append_right _ (List.mem_append_right _ (List.mem_append_right _ (List.mem_append_right _ (List.mem_append_right _ (List.mem_append_right _ (List.mem_append_right _ (List.mem_append_right _ (List.mem_append_right _ (List.mem_append_left _ h))))))))))))))))))))))))))
theorem zin15 : ∀ w ∈ wsL_law0_r15, w ∈ wsL_law := fun w h => (List.mem_append_left _ (List.mem_append_left _ (List.mem_append_left _ (List.mem_append_left _ (List.mem_append_left _ (List.mem_append_left _ (List.mem_append_left _ (List.mem_append_left _ (List.mem_append_left _ (List.mem_append_left _ (List.mem_append_left _ (List.mem_append_left _ (List.mem_append_right _ (List.mem_append_right _ (List.mem_append_right _ (List.mem_append_right _ (List.mem_append_right _ (List.mem_append_right _ (List.mem_append_right _ (List.mem_append_right _ (List.mem_append_right _ (List.mem_append_right _ (List.mem_append_right _ (List.mem_append_right _ (List.mem_append_right _ (List.mem_append_right _ (List.mem_append_left _ h)))))))))))))))))))))))))))
theorem zin16 : ∀ w ∈ wsL_law0_r16, w ∈ wsL_law := fun w h => (List.mem_append_left _ (List.mem_append_left _ (List.mem_append_left _ (List.mem_append_left _ (List.mem_append_left _ (List.mem_append_left _ (List.mem_append_left _ (List.mem_append_left _ (List.mem_append_left _ (List.mem_append_left _ (List.mem_append_left _ (List.mem_append_left _ (List.mem_append_right _ (List.mem_append_right _ (List.mem_append_right _ (List.mem_append_right _ (List.mem_append_right _ (List.mem_append_right _ (List.mem_append_right _ (List.mem_append_right _ (List.mem_append_right _ (List.mem_append_right _ (List.mem_append_right _ (List.mem_append_right _ (List.mem_append_right _ (List.mem_append_right _ (List.mem_append_right _ (List.mem_append_left _ h))))))))))))))))))))))))))))
theorem zin17 : ∀ w ∈ wsL_law0_r17, w ∈ wsL_law := fun w h => (List.mem_append_left _ (List.mem_append_left _ (List.mem_append_left _ (List.mem_append_left _ (List.mem_append_left _ (List.mem_append_left _ (List.mem_append_left _ (List.mem_append_left _ (List.mem_append_left _ (List.mem_append_left _ (List.mem_append_left _ (List.mem_append_left _ (List.mem_append_right _ (List.mem_append_right _ (List.mem_append_right _ (List.mem_append_right _ (List.mem_append_right _ (List.mem_append_right _ (List.mem_append_right _ (List.mem_append_right _ (List.mem_append_right _ (List.mem_append_right _ (List.mem_append_right _ (List.mem_append_right _ (List.mem_append_right _ (List.mem_append_right _ (List.mem_append_right _ (List.mem_append_right _ (List.mem_append_left _ h)))))))))))))))))))))))))))))
theorem zin18 : ∀ w ∈ wsL_law0_r18, w ∈ wsL_law := fun w h => (List.mem_append_left _ (List.mem_append_left _ (List.mem_append_left _ (List.mem_append_left _ (List.mem_append_left _ (List.mem_append_left _ (List.mem_append_left _ (List.mem_append_left _ (List.mem_append_left _ (List.mem_append_left _ (List.mem_append_left _ (List.mem_append_left _ (List.mem_append_right _ (List.mem_append_right _ (List.mem_append_right _ (List.mem_append_right _ (List.mem_append_right _ (List.mem_append_right _ (List.mem_append_right _ (List.mem_append_right _ (List.mem_append_right _ (List.mem_append_right _ (List.mem_append_right _ (List.mem_append_right _ (List.mem_append_right _ (List.mem_append_right _ (List.mem_append_right _ (List.mem_append_right _ (List.mem_append_right _ (List.mem_append_left _ h))))))))))))))))))))))))))))))
theorem zin19 : ∀ w ∈ wsL_law0_r19, w ∈ wsL_law := fun w h => (List.mem_append_left _ (List.mem_append_left _ (List.mem_append_left _ (List.mem_append_left _ (List.mem_append_left _ (List.mem_append_left _ (List.mem_append_left _ (List.mem_append_left _ (List.mem_append_left _ (List.mem_append_left _ (List.mem_append_left _ (List.mem_append_left _ (List.mem_append_right _ (List.mem_append_right _ (List.mem_append_right _ (List.mem_append_right _ (List.mem_append_right _ (List.mem_append_right _ (List.mem_append_right _ (List.mem_append_right _ (List.mem_append_right _ (List.mem_append_right _ (List.mem_append_right _ (List.mem_append_right _ (List.mem_append_right _ (List.mem_append_right _ (List.mem_append_right _ (List.mem_append_right _ (List.mem_append_right _ (List.mem_append_right _ (List.mem_append_left _ h)))))))))))))))))))))))))))))))
theorem zin20 : ∀ w ∈ wsL_law0_r20, w ∈ wsL_law := fun w h => (List.mem_append_left _ (List.mem_append_left _ (List.mem_append_left _ (List.mem_append_left _ (List.mem_append_left _ (List.mem_append_left _ (List.mem_append_left _ (List.mem_append_left _ (List.mem_append_left _ (List.mem_append_left _ (List.mem_append_left _ (List.mem_append_left _ (List.mem_append_right _ (List.mem_append_right _ (List.mem_append_right _ (List.mem_append_right _ (List.mem_append_right _ (List.mem_append_right _ (List.mem_append_right _ (List.mem_append_right _ (List.mem_append_right _ (List.mem_append_right _ (List.mem_append_right _ (List.mem_append_right _ (List.mem_append_right _ (List.mem_append_right _ (List.mem_append_right _ (List.mem_append_right _ (List.mem_append_right _ (List.mem_append_right _ (List.mem_append_right _ (List.mem_append_left _ h))))))))))))))))))))))))))))))))
theorem zin21 : ∀ w ∈ wsL_law0_r21, w ∈ wsL_law := fun w h => (List.mem_append_left _ (List.mem_append_left _ (List.mem_append_left _ (List.mem_append_left _ (List.mem_append_left _ (List.mem_append_left _ (List.mem_append_left _ (List.mem_append_left _ (List.mem_append_left _ (List.mem_append_left _ (List.mem_append_left _ (List.mem_append_left _ (List.mem_append_right _ (List.mem_append_right _ (List.mem_append_right _ (List.mem_append_right _ (List.mem_append_right _ (List.mem_append_right _ (List.mem_append_right _ (List.mem_append_right _ (List.mem_append_right _ (List.mem_append_right _ (List.mem_append_right _ (List.mem_append_right _ (List.mem_append_right _ (List.mem_append_right _ (List.mem_append_right _ (List.mem_append_right _ (List.mem_append_right _ (List.mem_append_right _ (List.mem_append_right _ (List.mem_append_right _ (List.mem_append_left _ h)))))))))))))))))))))))))))))))))
theorem zin22 : ∀ w ∈ wsL_law0_r22, w ∈ wsL_law := fun w h => (List.mem_append_left _ (List.mem_append_left _ (List.mem_append_left _ (List.mem_append_left _ (List.mem_append_left _ (List.mem_append_left _ (List.mem_append_left _ (List.mem_append_left _ (List.mem_append_left _ (List.mem_append_left _ (List.mem_append_left _ (List.mem_append_left _ (List.mem_append_right _ (List.mem_append_right _ (List.mem_append_right _ (List.mem_append_right _ (List.mem_append_right _ (List.mem_append_right _ (List.mem_append_right _ (List.mem_append_right _ (List.mem_append_right _ (List.mem_append_right _ (List.mem_append_right _ (List.mem_append_right _ (List.mem_append_right _ (List.mem_append_right _ (List.mem_append_right _ (List.mem_append_right _ (List.mem_append_right _ (List.mem_append_right _ (List.mem_append_right _ (List.mem_append_right _ (List.mem_append_right _ h)))))))))))))))))))))))))))))))))
end
section
theorem dX1_init_0 : decode cX1_init 0 = .ok (.aload_n 0, 1) := by decide +kernel
theorem dX1_init_1 : decode cX1_init 1 = .ok (.invokespecial 3, 3) := by decide +kernel
theorem dX1_init_4 : decode cX1_init 4 = .ok (.aload_n 0, 1) := by decide +kernel
theorem dX1_init_5 : decode cX1_init 5 = .ok (.bipush 8, 2) := by decide +kernel
theorem dX1_init_7 : decode cX1_init 7 = .ok (.newarray .long, 2) := by decide +kernel
theorem dX1_init_9 : decode cX1_init 9 = .ok (.putfield 9, 3) := by decide +kernel
theorem dX1_init_12 : decode cX1_init 12 = .ok (.aload_n 0, 1) := by decide +kernel
theorem dX1_init_13 : decode cX1_init 13 = .ok (.bipush 20, 2) := by decide +kernel
theorem dX1_init_15 : decode cX1_init 15 = .ok (.anewarray 15, 3) := by decide +kernel
theorem dX1_init_18 : decode cX1_init 18 = .ok (.putfield 17, 3) := by decide +kernel
theorem dX1_init_21 : decode cX1_init 21 = .ok (.return_, 1) := by decide +kernel
theorem dX1_classOf_0 : decode cX1_classOf 0 = .ok (.iload_n 1, 1) := by decide +kernel
theorem dX1_classOf_1 : decode cX1_classOf 1 = .ok (.iconst 1, 1) := by decide +kernel
theorem dX1_classOf_2 : decode cX1_classOf 2 = .ok (.if_icmp .lt 23, 3) := by decide +kernel
theorem dX1_classOf_5 : decode cX1_classOf 5 = .ok (.iload_n 1, 1) := by decide +kernel
theorem dX1_classOf_6 : decode cX1_classOf 6 = .ok (.aload_n 0, 1) := by decide +kernel
theorem dX1_classOf_7 : decode cX1_classOf 7 = .ok (.getfield 17, 3) := by decide +kernel
theorem dX1_classOf_10 : decode cX1_classOf 10 = .ok (.arraylength, 1) := by decide +kernel
theorem dX1_classOf_11 : decode cX1_classOf 11 = .ok (.if_icmp .gt 14, 3) := by decide +kernel
theorem dX1_classOf_14 : decode cX1_classOf 14 = .ok (.aload_n 0, 1) := by decide +kernel
theorem dX1_classOf_15 : decode cX1_classOf 15 = .ok (.getfield 17, 3) := by decide +kernel
theorem dX1_classOf_18 : decode cX1_classOf 18 = .ok (.iload_n 1, 1) := by decide +kernel
theorem dX1_classOf_19 : decode cX1_classOf 19 = .ok (.iconst 1, 1) := by decide +kernel
theorem dX1_classOf_20 : decode cX1_classOf 20 = .ok (.isub, 1) := by decide +kernel
theorem dX1_classOf_21 : decode cX1_classOf 21 = .ok (.aaload, 1) := by decide +kernel
theorem dX1_classOf_22 : decode cX1_classOf 22 = .ok (.goto 4, 3) := by decide +kernel
theorem dX1_classOf_25 : decode cX1_classOf 25 = .ok (.aconst_null, 1) := by decide +kernel
theorem dX1_classOf_26 : decode cX1_classOf 26 = .ok (.areturn, 1) := by decide +kernel
theorem dX1_load_0 : decode cX1_load 0 = .ok (.iload_n 1, 1) := by decide +kernel
theorem dX1_load_1 : decode cX1_load 1 = .ok (.iconst 1, 1) := by decide +kernel
theorem dX1_load_2 : decode cX1_load 2 = .ok (.if_icmp .lt 21, 3) := by decide +kernel
theorem dX1_load_5 : decode cX1_load 5 = .ok (.iload_n 1, 1) := by decide +kernel
theorem dX1_load_6 : decode cX1_load 6 = .ok (.aload_n 0, 1) := by decide +kernel
theorem dX1_load_7 : decode cX1_load 7 = .ok (.getfield 17, 3) := by decide +kernel
theorem dX1_load_10 : decode cX1_load 10 = .ok (.arraylength, 1) := by decide +kernel
theorem dX1_load_11 : decode cX1_load 11 = .ok (.if_icmp .gt 12, 3) := by decide +kernel
theorem dX1_load_14 : decode cX1_load 14 = .ok (.aload_n 0, 1) := by decide +kernel
theorem dX1_load_15 : decode cX1_load 15 = .ok (.getfield 17, 3) := by decide +kernel
theorem dX1_load_18 : decode cX1_load 18 = .ok (.iload_n 1, 1) := by decide +kernel
theorem dX1_load_19 : decode cX1_load 19 = .ok (.iconst 1, 1) := by decide +kernel
theorem dX1_load_20 : decode cX1_load 20 = .ok (.isub, 1) := by decide +kernel
theorem dX1_load_21 : decode cX1_load 21 = .ok (.aload_n 2, 1) := by decide +kernel
theorem dX1_load_22 : decode cX1_load 22 = .ok (.aastore, 1) := by decide +kernel
theorem dX1_load_23 : decode cX1_load 23 = .ok (.return_, 1) := by decide +kernel
theorem dX2_init_0 : decode cX2_init 0 = .ok (.aload_n 0, 1) := by decide +kernel
theorem dX2_init_1 : decode cX2_init 1 = .ok (.invokespecial 1, 3) := by decide +kernel
theorem dX2_init_4 : decode cX2_init 4 = .ok (.aload_n 0, 1) := by decide +kernel
theorem dX2_init_5 : decode cX2_init 5 = .ok (.iload_n 1, 1) := by decide +kernel
theorem dX2_init_6 : decode cX2_init 6 = .ok (.putfield 7, 3) := by decide +kernel
theorem dX2_init_9 : decode cX2_init 9 = .ok (.aload_n 0, 1) := by decide +kernel
theorem dX2_init_10 : decode cX2_init 10 = .ok (.aload_n 2, 1) := by decide +kernel
theorem dX2_init_11 : decode cX2_init 11 = .ok (.putfield 13, 3) := by decide +kernel
theorem dX2_init_14 : decode cX2_init 14 = .ok (.aload_n 0, 1) := by decide +kernel
theorem dX2_init_15 : decode cX2_init 15 = .ok (.aload_n 3, 1) := by decide +kernel
theorem dX2_init_16 : decode cX2_init 16 = .ok (.putfield 17, 3) := by decide +kernel
theorem dX2_init_19 : decode cX2_init 19 = .ok (.aload_n 0, 1) := by decide +kernel
theorem dX2_init_20 : decode cX2_init 20 = .ok (.aload 4, 2) := by decide +kernel
theorem dX2_init_22 : decode cX2_init 22 = .ok (.putfield 20, 3) := by decide +kernel
theorem dX2_init_25 : decode cX2_init 25 = .ok (.return_, 1) := by decide +kernel
theorem dX4_init_0 : decode cX4_init 0 = .ok (.aload_n 0, 1) := by decide +kernel
theorem dX4_init_1 : decode cX4_init 1 = .ok (.invokespecial 3, 3) := by decide +kernel
theorem dX4_init_4 : decode cX4_init 4 = .ok (.aload_n 0, 1) := by decide +kernel
theorem dX4_init_5 : decode cX4_init 5 = .ok (.bipush 8, 2) := by decide +kernel
theorem dX4_init_7 : decode cX4_init 7 = .ok (.newarray .long, 2) := by decide +kernel
theorem dX4_init_9 : decode cX4_init 9 = .ok (.putfield 9, 3) := by decide +kernel
theorem dX4_init_12 : decode cX4_init 12 = .ok (.aload_n 0, 1) := by decide +kernel
theorem dX4_init_13 : decode cX4_init 13 = .ok (.iconst (-1), 1) := by decide +kernel
theorem dX4_init_14 : decode cX4_init 14 = .ok (.putfield 15, 3) := by decide +kernel
theorem dX4_init_17 : decode cX4_init 17 = .ok (.aload_n 0, 1) := by decide +kernel
theorem dX4_init_18 : decode cX4_init 18 = .ok (.iload_n 1, 1) := by decide +kernel
theorem dX4_init_19 : decode cX4_init 19 = .ok (.putfield 19, 3) := by decide +kernel
theorem dX4_init_22 : decode cX4_init 22 = .ok (.return_, 1) := by decide +kernel
theorem dX4_becomeAnew_0 : decode cX4_becomeAnew 0 = .ok (.iconst 0, 1) := by decide +kernel
theorem dX4_becomeAnew_1 : decode cX4_becomeAnew 1 = .ok (.istore_n 3, 1) := by decide +kernel
theorem dX4_becomeAnew_2 : decode cX4_becomeAnew 2 = .ok (.iload_n 3, 1) := by decide +kernel
theorem dX4_becomeAnew_3 : decode cX4_becomeAnew 3 = .ok (.aload_n 0, 1) := by decide +kernel
theorem dX4_becomeAnew_4 : decode cX4_becomeAnew 4 = .ok (.getfield 9, 3) := by decide +kernel
theorem dX4_becomeAnew_7 : decode cX4_becomeAnew 7 = .ok (.arraylength, 1) := by decide +kernel
theorem dX4_becomeAnew_8 : decode cX4_becomeAnew 8 = .ok (.if_icmp .ge 30, 3) := by decide +kernel
theorem dX4_becomeAnew_11 : decode cX4_becomeAnew 11 = .ok (.aload_n 0, 1) := by decide +kernel
theorem dX4_becomeAnew_12 : decode cX4_becomeAnew 12 = .ok (.getfield 9, 3) := by decide +kernel
theorem dX4_becomeAnew_15 : decode cX4_becomeAnew 15 = .ok (.iload_n 3, 1) := by decide +kernel
theorem dX4_becomeAnew_16 : decode cX4_becomeAnew 16 = .ok (.iload_n 3, 1) := by decide +kernel
theorem dX4_becomeAnew_17 : decode cX4_becomeAnew 17 = .ok (.iload_n 2, 1) := by decide +kernel
theorem dX4_becomeAnew_18 : decode cX4_becomeAnew 18 = .ok (.if_icmp .ge 12, 3) := by decide +kernel
theorem dX4_becomeAnew_21 : decode cX4_becomeAnew 21 = .ok (.aload_n 0, 1) := by decide +kernel
theorem dX4_becomeAnew_22 : decode cX4_becomeAnew 22 = .ok (.getfield 9, 3) := by decide +kernel
theorem dX4_becomeAnew_25 : decode cX4_becomeAnew 25 = .ok (.iload_n 3, 1) := by decide +kernel
theorem dX4_becomeAnew_26 : decode cX4_becomeAnew 26 = .ok (.laload, 1) := by decide +kernel
theorem dX4_becomeAnew_27 : decode cX4_becomeAnew 27 = .ok (.goto 4, 3) := by decide +kernel
theorem dX4_becomeAnew_30 : decode cX4_becomeAnew 30 = .ok (.lconst 0, 1) := by decide +kernel
theorem dX4_becomeAnew_31 : decode cX4_becomeAnew 31 = .ok (.lastore, 1) := by decide +kernel
theorem dX4_becomeAnew_32 : decode cX4_becomeAnew 32 = .ok (.iinc 3 1, 3) := by decide +kernel
theorem dX4_becomeAnew_35 : decode cX4_becomeAnew 35 = .ok (.goto (-33), 3) := by decide +kernel
theorem dX4_becomeAnew_38 : decode cX4_becomeAnew 38 = .ok (.aload_n 0, 1) := by decide +kernel
theorem dX4_becomeAnew_39 : decode cX4_becomeAnew 39 = .ok (.iload_n 1, 1) := by decide +kernel
theorem dX4_becomeAnew_40 : decode cX4_becomeAnew 40 = .ok (.putfield 19, 3) := by decide +kernel
theorem dX4_becomeAnew_43 : decode cX4_becomeAnew 43 = .ok (.aload_n 0, 1) := by decide +kernel
theorem dX4_becomeAnew_44 : decode cX4_becomeAnew 44 = .ok (.iconst (-1), 1) := by decide +kernel
theorem dX4_becomeAnew_45 : decode cX4_becomeAnew 45 = .ok (.putfield 15, 3) := by decide +kernel
theorem dX4_becomeAnew_48 : decode cX4_becomeAnew 48 = .ok (.aload_n 0, 1) := by decide +kernel
theorem dX4_becomeAnew_49 : decode cX4_becomeAnew 49 = .ok (.iconst 0, 1) := by decide +kernel
theorem dX4_becomeAnew_50 : decode cX4_becomeAnew 50 = .ok (.putfield 22, 3) := by decide +kernel
theorem dX4_becomeAnew_53 : decode cX4_becomeAnew 53 = .ok (.return_, 1) := by decide +kernel
theorem dX5_init_0 : decode cX5_init 0 = .ok (.aload_n 0, 1) := by decide +kernel
theorem dX5_init_1 : decode cX5_init 1 = .ok (.invokespecial 3, 3) := by decide +kernel
theorem dX5_init_4 : decode cX5_init 4 = .ok (.aload_n 0, 1) := by decide +kernel
theorem dX5_init_5 : decode cX5_init 5 = .ok (.bipush 16, 2) := by decide +kernel
theorem dX5_init_7 : decode cX5_init 7 = .ok (.newarray .long, 2) := by decide +kernel
theorem dX5_init_9 : decode cX5_init 9 = .ok (.putfield 9, 3) := by decide +kernel
theorem dX5_init_12 : decode cX5_init 12 = .ok (.aload_n 0, 1) := by decide +kernel
theorem dX5_init_13 : decode cX5_init 13 = .ok (.bipush 8, 2) := by decide +kernel
theorem dX5_init_15 : decode cX5_init 15 = .ok (.newarray .long, 2) := by decide +kernel
theorem dX5_init_17 : decode cX5_init 17 = .ok (.putfield 15, 3) := by decide +kernel
theorem dX5_init_20 : decode cX5_init 20 = .ok (.aload_n 0, 1) := by decide +kernel
theorem dX5_init_21 : decode cX5_init 21 = .ok (.bipush 8, 2) := by decide +kernel
theorem dX5_init_23 : decode cX5_init 23 = .ok (.newarray .long, 2) := by decide +kernel
theorem dX5_init_25 : decode cX5_init 25 = .ok (.putfield 18, 3) := by decide +kernel
theorem dX5_init_28 : decode cX5_init 28 = .ok (.aload_n 0, 1) := by decide +kernel
theorem dX5_init_29 : decode cX5_init 29 = .ok (.iconst 0, 1) := by decide +kernel
theorem dX5_init_30 : decode cX5_init 30 = .ok (.newarray .byte, 2) := by decide +kernel
theorem dX5_init_32 : decode cX5_init 32 = .ok (.putfield 21, 3) := by decide +kernel
theorem dX5_init_35 : decode cX5_init 35 = .ok (.aload_n 0, 1) := by decide +kernel
theorem dX5_init_36 : decode cX5_init 36 = .ok (.aload_n 0, 1) := by decide +kernel
theorem dX5_init_37 : decode cX5_init 37 = .ok (.getfield 15, 3) := by decide +kernel
theorem dX5_init_40 : decode cX5_init 40 = .ok (.putfield 25, 3) := by decide +kernel
theorem dX5_init_43 : decode cX5_init 43 = .ok (.aload_n 0, 1) := by decide +kernel
theorem dX5_init_44 : decode cX5_init 44 = .ok (.aload_n 0, 1) := by decide +kernel
theorem dX5_init_45 : decode cX5_init 45 = .ok (.getfield 18, 3) := by decide +kernel
theorem dX5_init_48 : decode cX5_init 48 = .ok (.putfield 28, 3) := by decide +kernel
theorem dX5_init_51 : decode cX5_init 51 = .ok (.return_, 1) := by decide +kernel
theorem dX5_goOnCopies_0 : decode cX5_goOnCopies 0 = .ok (.aload_n 2, 1) := by decide +kernel
theorem dX5_goOnCopies_1 : decode cX5_goOnCopies 1 = .ok (.aload_n 0, 1) := by decide +kernel
theorem dX5_goOnCopies_2 : decode cX5_goOnCopies 2 = .ok (.getfield 15, 3) := by decide +kernel
theorem dX5_goOnCopies_5 : decode cX5_goOnCopies 5 = .ok (.invokestatic 31, 3) := by decide +kernel
theorem dX5_goOnCopies_8 : decode cX5_goOnCopies 8 = .ok (.aload_n 3, 1) := by decide +kernel
theorem dX5_goOnCopies_9 : decode cX5_goOnCopies 9 = .ok (.aload_n 0, 1) := by decide +kernel
theorem dX5_goOnCopies_10 : decode cX5_goOnCopies 10 = .ok (.getfield 18, 3) := by decide +kernel
theorem dX5_goOnCopies_13 : decode cX5_goOnCopies 13 = .ok (.invokestatic 31, 3) := by decide +kernel
theorem dX5_goOnCopies_16 : decode cX5_goOnCopies 16 = .ok (.aload_n 0, 1) := by decide +kernel
theorem dX5_goOnCopies_17 : decode cX5_goOnCopies 17 = .ok (.aload_n 1, 1) := by decide +kernel
theorem dX5_goOnCopies_18 : decode cX5_goOnCopies 18 = .ok (.aload_n 0, 1) := by decide +kernel
theorem dX5_goOnCopies_19 : decode cX5_goOnCopies 19 = .ok (.getfield 15, 3) := by decide +kernel
theorem dX5_goOnCopies_22 : decode cX5_goOnCopies 22 = .ok (.aload_n 0, 1) := by decide +kernel
theorem dX5_goOnCopies_23 : decode cX5_goOnCopies 23 = .ok (.getfield 18, 3) := by decide +kernel
theorem dX5_goOnCopies_26 : decode cX5_goOnCopies 26 = .ok (.iload 4, 2) := by decide +kernel
theorem dX5_goOnCopies_28 : decode cX5_goOnCopies 28 = .ok (.invokevirtual 35, 3) := by decide +kernel
theorem dX5_goOnCopies_31 : decode cX5_goOnCopies 31 = .ok (.ireturn, 1) := by decide +kernel
theorem dX5_go_0 : decode cX5_go 0 = .ok (.aload_n 0, 1) := by decide +kernel
theorem dX5_go_1 : decode cX5_go 1 = .ok (.aload_n 1, 1) := by decide +kernel
theorem dX5_go_2 : decode cX5_go 2 = .ok (.putfield 21, 3) := by decide +kernel
theorem dX5_go_5 : decode cX5_go 5 = .ok (.aload_n 0, 1) := by decide +kernel
theorem dX5_go_6 : decode cX5_go 6 = .ok (.aload_n 2, 1) := by decide +kernel
theorem dX5_go_7 : decode cX5_go 7 = .ok (.putfield 25, 3) := by decide +kernel
theorem dX5_go_10 : decode cX5_go 10 = .ok (.aload_n 0, 1) := by decide +kernel
theorem dX5_go_11 : decode cX5_go 11 = .ok (.aload_n 3, 1) := by decide +kernel
theorem dX5_go_12 : decode cX5_go 12 = .ok (.putfield 28, 3) := by decide +kernel
theorem dX5_go_15 : decode cX5_go 15 = .ok (.aload_n 0, 1) := by decide +kernel
theorem dX5_go_16 : decode cX5_go 16 = .ok (.iconst 0, 1) := by decide +kernel
theorem dX5_go_17 : decode cX5_go 17 = .ok (.putfield 39, 3) := by decide +kernel
theorem dX5_go_20 : decode cX5_go 20 = .ok (.aload_n 0, 1) := by decide +kernel
theorem dX5_go_21 : decode cX5_go 21 = .ok (.iconst 0, 1) := by decide +kernel
theorem dX5_go_22 : decode cX5_go 22 = .ok (.putfield 43, 3) := by decide +kernel
theorem dX5_go_25 : decode cX5_go 25 = .ok (.aload_n 0, 1) := by decide +kernel
theorem dX5_go_26 : decode cX5_go 26 = .ok (.iconst 0, 1) := by decide +kernel
theorem dX5_go_27 : decode cX5_go 27 = .ok (.putfield 46, 3) := by decide +kernel
theorem dX5_go_30 : decode cX5_go 30 = .ok (.aload_n 0, 1) := by decide +kernel
theorem dX5_go_31 : decode cX5_go 31 = .ok (.iconst (-1), 1) := by decide +kernel
theorem dX5_go_32 : decode cX5_go 32 = .ok (.putfield 49, 3) := by decide +kernel
theorem dX5_go_35 : decode cX5_go 35 = .ok (.iconst 0, 1) := by decide +kernel
theorem dX5_go_36 : decode cX5_go 36 = .ok (.istore 5, 2) := by decide +kernel
theorem dX5_go_38 : decode cX5_go 38 = .ok (.iconst 0, 1) := by decide +kernel
theorem dX5_go_39 : decode cX5_go 39 = .ok (.istore 6, 2) := by decide +kernel
theorem dX5_go_41 : decode cX5_go 41 = .ok (.iload 5, 2) := by decide +kernel
theorem dX5_go_43 : decode cX5_go 43 = .ok (.ifCond .ne 34, 3) := by decide +kernel
theorem dX5_go_46 : decode cX5_go 46 = .ok (.aload_n 0, 1) := by decide +kernel
theorem dX5_go_47 : decode cX5_go 47 = .ok (.getfield 43, 3) := by decide +kernel
theorem dX5_go_50 : decode cX5_go 50 = .ok (.aload_n 0, 1) := by decide +kernel
theorem dX5_go_51 : decode cX5_go 51 = .ok (.getfield 21, 3) := by decide +kernel
theorem dX5_go_54 : decode cX5_go 54 = .ok (.arraylength, 1) := by decide +kernel
theorem dX5_go_55 : decode cX5_go 55 = .ok (.if_icmp .ge 22, 3) := by decide +kernel
theorem dX5_go_58 : decode cX5_go 58 = .ok (.iload 6, 2) := by decide +kernel
theorem dX5_go_60 : decode cX5_go 60 = .ok (.iload 4, 2) := by decide +kernel
theorem dX5_go_62 : decode cX5_go 62 = .ok (.if_icmp .ge 15, 3) := by decide +kernel
theorem dX5_go_65 : decode cX5_go 65 = .ok (.iinc 6 1, 3) := by decide +kernel
theorem dX5_go_68 : decode cX5_go 68 = .ok (.aload_n 0, 1) := by decide +kernel
theorem dX5_go_69 : decode cX5_go 69 = .ok (.invokevirtual 52, 3) := by decide +kernel
theorem dX5_go_72 : decode cX5_go 72 = .ok (.istore 5, 2) := by decide +kernel
theorem dX5_go_74 : decode cX5_go 74 = .ok (.goto (-33), 3) := by decide +kernel
theorem dX5_go_77 : decode cX5_go 77 = .ok (.aload_n 0, 1) := by decide +kernel
theorem dX5_go_78 : decode cX5_go 78 = .ok (.iload 6, 2) := by decide +kernel
theorem dX5_go_80 : decode cX5_go 80 = .ok (.putfield 56, 3) := by decide +kernel
theorem dX5_go_83 : decode cX5_go 83 = .ok (.iload 5, 2) := by decide +kernel
theorem dX5_go_85 : decode cX5_go 85 = .ok (.ifCond .ne 20, 3) := by decide +kernel
theorem dX5_go_88 : decode cX5_go 88 = .ok (.aload_n 0, 1) := by decide +kernel
theorem dX5_go_89 : decode cX5_go 89 = .ok (.getfield 43, 3) := by decide +kernel
theorem dX5_go_92 : decode cX5_go 92 = .ok (.aload_n 0, 1) := by decide +kernel
theorem dX5_go_93 : decode cX5_go 93 = .ok (.getfield 21, 3) := by decide +kernel
theorem dX5_go_96 : decode cX5_go 96 = .ok (.arraylength, 1) := by decide +kernel
theorem dX5_go_97 : decode cX5_go 97 = .ok (.if_icmp .ge 8, 3) := by decide +kernel
theorem dX5_go_100 : decode cX5_go 100 = .ok (.bipush 7, 2) := by decide +kernel
theorem dX5_go_102 : decode cX5_go 102 = .ok (.goto 5, 3) := by decide +kernel
theorem dX5_go_105 : decode cX5_go 105 = .ok (.iload 5, 2) := by decide +kernel
theorem dX5_go_107 : decode cX5_go 107 = .ok (.ireturn, 1) := by decide +kernel
theorem dX5_step_0 : decode cX5_step 0 = .ok (.aload_n 0, 1) := by decide +kernel
theorem dX5_step_1 : decode cX5_step 1 = .ok (.getfield 21, 3) := by decide +kernel
theorem dX5_step_4 : decode cX5_step 4 = .ok (.aload_n 0, 1) := by decide +kernel
theorem dX5_step_5 : decode cX5_step 5 = .ok (.getfield 43, 3) := by decide +kernel
theorem dX5_step_8 : decode cX5_step 8 = .ok (.invokestatic 59, 3) := by decide +kernel
theorem dX5_step_11 : decode cX5_step 11 = .ok (.istore_n 1, 1) := by decide +kernel
theorem dX5_step_12 : decode cX5_step 12 = .ok (.iload_n 1, 1) := by decide +kernel
theorem dX5_step_13 : decode cX5_step 13 = .ok (.ifCond .lt 11, 3) := by decide +kernel
theorem dX5_step_16 : decode cX5_step 16 = .ok (.iload_n 1, 1) := by decide +kernel
theorem dX5_step_17 : decode cX5_step 17 = .ok (.getstatic 63, 3) := by decide +kernel
theorem dX5_step_20 : decode cX5_step 20 = .ok (.arraylength, 1) := by decide +kernel
theorem dX5_step_21 : decode cX5_step 21 = .ok (.if_icmp .lt 5, 3) := by decide +kernel
theorem dX5_step_24 : decode cX5_step 24 = .ok (.iconst 1, 1) := by decide +kernel
theorem dX5_step_25 : decode cX5_step 25 = .ok (.ireturn, 1) := by decide +kernel
theorem dX5_step_26 : decode cX5_step 26 = .ok (.getstatic 63, 3) := by decide +kernel
theorem dX5_step_29 : decode cX5_step 29 = .ok (.iload_n 1, 1) := by decide +kernel
theorem dX5_step_30 : decode cX5_step 30 = .ok (.aaload, 1) := by decide +kernel
theorem dX5_step_31 : decode cX5_step 31 = .ok (.astore_n 2, 1) := by decide +kernel
theorem dX5_step_32 : decode cX5_step 32 = .ok (.aload_n 0, 1) := by decide +kernel
theorem dX5_step_33 : decode cX5_step 33 = .ok (.getfield 43, 3) := by decide +kernel
theorem dX5_step_36 : decode cX5_step 36 = .ok (.aload_n 2, 1) := by decide +kernel
theorem dX5_step_37 : decode cX5_step 37 = .ok (.getfield 67, 3) := by decide +kernel
theorem dX5_step_40 : decode cX5_step 40 = .ok (.ifCond .eq 7, 3) := by decide +kernel
theorem dX5_step_43 : decode cX5_step 43 = .ok (.iconst 2, 1) := by decide +kernel
theorem dX5_step_44 : decode cX5_step 44 = .ok (.goto 4, 3) := by decide +kernel
theorem dX5_step_47 : decode cX5_step 47 = .ok (.iconst 1, 1) := by decide +kernel
theorem dX5_step_48 : decode cX5_step 48 = .ok (.iadd, 1) := by decide +kernel
theorem dX5_step_49 : decode cX5_step 49 = .ok (.istore_n 3, 1) := by decide +kernel
theorem dX5_step_50 : decode cX5_step 50 = .ok (.iload_n 3, 1) := by decide +kernel
theorem dX5_step_51 : decode cX5_step 51 = .ok (.aload_n 0, 1) := by decide +kernel
theorem dX5_step_52 : decode cX5_step 52 = .ok (.getfield 21, 3) := by decide +kernel
theorem dX5_step_55 : decode cX5_step 55 = .ok (.arraylength, 1) := by decide +kernel
theorem dX5_step_56 : decode cX5_step 56 = .ok (.if_icmp .le 5, 3) := by decide +kernel
theorem dX5_step_59 : decode cX5_step 59 = .ok (.iconst 1, 1) := by decide +kernel
theorem dX5_step_60 : decode cX5_step 60 = .ok (.ireturn, 1) := by decide +kernel
theorem dX5_step_61 : decode cX5_step 61 = .ok (.aload_n 0, 1) := by decide +kernel
theorem dX5_step_62 : decode cX5_step 62 = .ok (.getfield 21, 3) := by decide +kernel
theorem dX5_step_65 : decode cX5_step 65 = .ok (.aload_n 0, 1) := by decide +kernel
theorem dX5_step_66 : decode cX5_step 66 = .ok (.getfield 43, 3) := by decide +kernel
theorem dX5_step_69 : decode cX5_step 69 = .ok (.iconst 1, 1) := by decide +kernel
theorem dX5_step_70 : decode cX5_step 70 = .ok (.iadd, 1) := by decide +kernel
theorem dX5_step_71 : decode cX5_step 71 = .ok (.invokestatic 59, 3) := by decide +kernel
theorem dX5_step_74 : decode cX5_step 74 = .ok (.istore 4, 2) := by decide +kernel
theorem dX5_step_76 : decode cX5_step 76 = .ok (.aload_n 2, 1) := by decide +kernel
theorem dX5_step_77 : decode cX5_step 77 = .ok (.getfield 73, 3) := by decide +kernel
theorem dX5_step_80 : decode cX5_step 80 = .ok (.ifCond .eq 12, 3) := by decide +kernel
theorem dX5_step_83 : decode cX5_step 83 = .ok (.iload 4, 2) := by decide +kernel
theorem dX5_step_85 : decode cX5_step 85 = .ok (.bipush 8, 2) := by decide +kernel
theorem dX5_step_87 : decode cX5_step 87 = .ok (.if_icmp .lt 5, 3) := by decide +kernel
theorem dX5_step_90 : decode cX5_step 90 = .ok (.iconst 2, 1) := by decide +kernel
theorem dX5_step_91 : decode cX5_step 91 = .ok (.ireturn, 1) := by decide +kernel
theorem dX5_step_92 : decode cX5_step 92 = .ok (.aload_n 0, 1) := by decide +kernel
theorem dX5_step_93 : decode cX5_step 93 = .ok (.getfield 39, 3) := by decide +kernel
theorem dX5_step_96 : decode cX5_step 96 = .ok (.aload_n 2, 1) := by decide +kernel
theorem dX5_step_97 : decode cX5_step 97 = .ok (.getfield 76, 3) := by decide +kernel
theorem dX5_step_100 : decode cX5_step 100 = .ok (.if_icmp .lt 22, 3) := by decide +kernel
theorem dX5_step_103 : decode cX5_step 103 = .ok (.aload_n 0, 1) := by decide +kernel
theorem dX5_step_104 : decode cX5_step 104 = .ok (.getfield 39, 3) := by decide +kernel
theorem dX5_step_107 : decode cX5_step 107 = .ok (.aload_n 2, 1) := by decide +kernel
theorem dX5_step_108 : decode cX5_step 108 = .ok (.getfield 76, 3) := by decide +kernel
theorem dX5_step_111 : decode cX5_step 111 = .ok (.isub, 1) := by decide +kernel
theorem dX5_step_112 : decode cX5_step 112 = .ok (.aload_n 2, 1) := by decide +kernel
theorem dX5_step_113 : decode cX5_step 113 = .ok (.getfield 79, 3) := by decide +kernel
theorem dX5_step_116 : decode cX5_step 116 = .ok (.iadd, 1) := by decide +kernel
theorem dX5_step_117 : decode cX5_step 117 = .ok (.bipush 16, 2) := by decide +kernel
theorem dX5_step_119 : decode cX5_step 119 = .ok (.if_icmp .le 5, 3) := by decide +kernel
theorem dX5_step_122 : decode cX5_step 122 = .ok (.iconst 3, 1) := by decide +kernel
theorem dX5_step_123 : decode cX5_step 123 = .ok (.ireturn, 1) := by decide +kernel
theorem dX5_step_124 : decode cX5_step 124 = .ok (.aload_n 0, 1) := by decide +kernel
theorem dX5_step_125 : decode cX5_step 125 = .ok (.iload_n 3, 1) := by decide +kernel
theorem dX5_step_126 : decode cX5_step 126 = .ok (.putfield 43, 3) := by decide +kernel
theorem dX5_step_129 : decode cX5_step 129 = .ok (.aload_n 0, 1) := by decide +kernel
theorem dX5_step_130 : decode cX5_step 130 = .ok (.aload_n 2, 1) := by decide +kernel
theorem dX5_step_131 : decode cX5_step 131 = .ok (.iload 4, 2) := by decide +kernel
theorem dX5_step_133 : decode cX5_step 133 = .ok (.invokevirtual 82, 3) := by decide +kernel
theorem dX5_step_136 : decode cX5_step 136 = .ok (.ireturn, 1) := by decide +kernel
theorem dX5_doIt_0 : decode cX5_doIt 0 = .ok (.getstatic 86, 3) := by decide +kernel
theorem dX5_doIt_3 : decode cX5_doIt 3 = .ok (.aload_n 1, 1) := by decide +kernel
theorem dX5_doIt_4 : decode cX5_doIt 4 = .ok (.invokevirtual 92, 3) := by decide +kernel
theorem dX5_doIt_7 : decode cX5_doIt 7 = .ok (.iaload, 1) := by decide +kernel
theorem dX5_doIt_8 : decode cX5_doIt 8 = .ok (.tableswitch 261 1 12 #[64, 72, 85, 99, 112, 126, 144, 156, 181, 218, 225, 253], 64) := by decide +kernel
theorem dX5_doIt_72 : decode cX5_doIt 72 = .ok (.aload_n 0, 1) := by decide +kernel
theorem dX5_doIt_73 : decode cX5_doIt 73 = .ok (.iload_n 2, 1) := by decide +kernel
theorem dX5_doIt_74 : decode cX5_doIt 74 = .ok (.i2b, 1) := by decide +kernel
theorem dX5_doIt_75 : decode cX5_doIt 75 = .ok (.i2l, 1) := by decide +kernel
theorem dX5_doIt_76 : decode cX5_doIt 76 = .ok (.invokevirtual 95, 3) := by decide +kernel
theorem dX5_doIt_79 : decode cX5_doIt 79 = .ok (.ireturn, 1) := by decide +kernel
theorem dX5_doIt_80 : decode cX5_doIt 80 = .ok (.aload_n 0, 1) := by decide +kernel
theorem dX5_doIt_81 : decode cX5_doIt 81 = .ok (.aload_n 0, 1) := by decide +kernel
theorem dX5_doIt_82 : decode cX5_doIt 82 = .ok (.getfield 28, 3) := by decide +kernel
theorem dX5_doIt_85 : decode cX5_doIt 85 = .ok (.iload_n 2, 1) := by decide +kernel
theorem dX5_doIt_86 : decode cX5_doIt 86 = .ok (.invokestatic 99, 3) := by decide +kernel
theorem dX5_doIt_89 : decode cX5_doIt 89 = .ok (.invokevirtual 95, 3) := by decide +kernel
theorem dX5_doIt_92 : decode cX5_doIt 92 = .ok (.ireturn, 1) := by decide +kernel
theorem dX5_doIt_93 : decode cX5_doIt 93 = .ok (.aload_n 0, 1) := by decide +kernel
theorem dX5_doIt_94 : decode cX5_doIt 94 = .ok (.getfield 28, 3) := by decide +kernel
theorem dX5_doIt_97 : decode cX5_doIt 97 = .ok (.iload_n 2, 1) := by decide +kernel
theorem dX5_doIt_98 : decode cX5_doIt 98 = .ok (.aload_n 0, 1) := by decide +kernel
theorem dX5_doIt_99 : decode cX5_doIt 99 = .ok (.invokevirtual 103, 3) := by decide +kernel
theorem dX5_doIt_102 : decode cX5_doIt 102 = .ok (.invokestatic 107, 3) := by decide +kernel
theorem dX5_doIt_105 : decode cX5_doIt 105 = .ok (.iconst 0, 1) := by decide +kernel
theorem dX5_doIt_106 : decode cX5_doIt 106 = .ok (.ireturn, 1) := by decide +kernel
theorem dX5_doIt_107 : decode cX5_doIt 107 = .ok (.aload_n 0, 1) := by decide +kernel
theorem dX5_doIt_108 : decode cX5_doIt 108 = .ok (.aload_n 0, 1) := by decide +kernel
theorem dX5_doIt_109 : decode cX5_doIt 109 = .ok (.getfield 25, 3) := by decide +kernel
theorem dX5_doIt_112 : decode cX5_doIt 112 = .ok (.iload_n 2, 1) := by decide +kernel
theorem dX5_doIt_113 : decode cX5_doIt 113 = .ok (.invokestatic 99, 3) := by decide +kernel
theorem dX5_doIt_116 : decode cX5_doIt 116 = .ok (.invokevirtual 95, 3) := by decide +kernel
theorem dX5_doIt_119 : decode cX5_doIt 119 = .ok (.ireturn, 1) := by decide +kernel
theorem dX5_doIt_120 : decode cX5_doIt 120 = .ok (.aload_n 0, 1) := by decide +kernel
theorem dX5_doIt_121 : decode cX5_doIt 121 = .ok (.getfield 25, 3) := by decide +kernel
theorem dX5_doIt_124 : decode cX5_doIt 124 = .ok (.iload_n 2, 1) := by decide +kernel
theorem dX5_doIt_125 : decode cX5_doIt 125 = .ok (.aload_n 0, 1) := by decide +kernel
theorem dX5_doIt_126 : decode cX5_doIt 126 = .ok (.invokevirtual 103, 3) := by decide +kernel
theorem dX5_doIt_129 : decode cX5_doIt 129 = .ok (.invokestatic 107, 3) := by decide +kernel
theorem dX5_doIt_132 : decode cX5_doIt 132 = .ok (.iconst 0, 1) := by decide +kernel
theorem dX5_doIt_133 : decode cX5_doIt 133 = .ok (.ireturn, 1) := by decide +kernel
theorem dX5_doIt_134 : decode cX5_doIt 134 = .ok (.aload_n 0, 1) := by decide +kernel
theorem dX5_doIt_135 : decode cX5_doIt 135 = .ok (.aload_n 0, 1) := by decide +kernel
theorem dX5_doIt_136 : decode cX5_doIt 136 = .ok (.getfield 9, 3) := by decide +kernel
theorem dX5_doIt_139 : decode cX5_doIt 139 = .ok (.aload_n 0, 1) := by decide +kernel
theorem dX5_doIt_140 : decode cX5_doIt 140 = .ok (.getfield 39, 3) := by decide +kernel
theorem dX5_doIt_143 : decode cX5_doIt 143 = .ok (.iconst 1, 1) := by decide +kernel
theorem dX5_doIt_144 : decode cX5_doIt 144 = .ok (.isub, 1) := by decide +kernel
theorem dX5_doIt_145 : decode cX5_doIt 145 = .ok (.invokestatic 99, 3) := by decide +kernel
theorem dX5_doIt_148 : decode cX5_doIt 148 = .ok (.invokevirtual 95, 3) := by decide +kernel
theorem dX5_doIt_151 : decode cX5_doIt 151 = .ok (.ireturn, 1) := by decide +kernel
theorem dX5_doIt_152 : decode cX5_doIt 152 = .ok (.aload_n 0, 1) := by decide +kernel
theorem dX5_doIt_153 : decode cX5_doIt 153 = .ok (.aload_n 0, 1) := by decide +kernel
theorem dX5_doIt_154 : decode cX5_doIt 154 = .ok (.getfield 43, 3) := by decide +kernel
theorem dX5_doIt_157 : decode cX5_doIt 157 = .ok (.iload_n 2, 1) := by decide +kernel
theorem dX5_doIt_158 : decode cX5_doIt 158 = .ok (.i2b, 1) := by decide +kernel
theorem dX5_doIt_159 : decode cX5_doIt 159 = .ok (.iadd, 1) := by decide +kernel
theorem dX5_doIt_160 : decode cX5_doIt 160 = .ok (.invokevirtual 111, 3) := by decide +kernel
theorem dX5_doIt_163 : decode cX5_doIt 163 = .ok (.ireturn, 1) := by decide +kernel
theorem dX5_doIt_164 : decode cX5_doIt 164 = .ok (.aload_n 0, 1) := by decide +kernel
theorem dX5_doIt_165 : decode cX5_doIt 165 = .ok (.invokevirtual 103, 3) := by decide +kernel
theorem dX5_doIt_168 : decode cX5_doIt 168 = .ok (.lconst 0, 1) := by decide +kernel
theorem dX5_doIt_169 : decode cX5_doIt 169 = .ok (.lcmp, 1) := by decide +kernel
theorem dX5_doIt_170 : decode cX5_doIt 170 = .ok (.ifCond .ne 17, 3) := by decide +kernel
theorem dX5_doIt_173 : decode cX5_doIt 173 = .ok (.aload_n 0, 1) := by decide +kernel
theorem dX5_doIt_174 : decode cX5_doIt 174 = .ok (.aload_n 0, 1) := by decide +kernel
theorem dX5_doIt_175 : decode cX5_doIt 175 = .ok (.getfield 43, 3) := by decide +kernel
theorem dX5_doIt_178 : decode cX5_doIt 178 = .ok (.iload_n 2, 1) := by decide +kernel
theorem dX5_doIt_179 : decode cX5_doIt 179 = .ok (.i2b, 1) := by decide +kernel
theorem dX5_doIt_180 : decode cX5_doIt 180 = .ok (.iadd, 1) := by decide +kernel
theorem dX5_doIt_181 : decode cX5_doIt 181 = .ok (.invokevirtual 111, 3) := by decide +kernel
theorem dX5_doIt_184 : decode cX5_doIt 184 = .ok (.goto 4, 3) := by decide +kernel
theorem dX5_doIt_187 : decode cX5_doIt 187 = .ok (.iconst 0, 1) := by decide +kernel
theorem dX5_doIt_188 : decode cX5_doIt 188 = .ok (.ireturn, 1) := by decide +kernel
theorem dX5_doIt_189 : decode cX5_doIt 189 = .ok (.aload_n 0, 1) := by decide +kernel
theorem dX5_doIt_190 : decode cX5_doIt 190 = .ok (.invokevirtual 103, 3) := by decide +kernel
theorem dX5_doIt_193 : decode cX5_doIt 193 = .ok (.lstore_n 3, 1) := by decide +kernel
theorem dX5_doIt_194 : decode cX5_doIt 194 = .ok (.lload_n 3, 1) := by decide +kernel
theorem dX5_doIt_195 : decode cX5_doIt 195 = .ok (.lconst 0, 1) := by decide +kernel
theorem dX5_doIt_196 : decode cX5_doIt 196 = .ok (.lcmp, 1) := by decide +kernel
theorem dX5_doIt_197 : decode cX5_doIt 197 = .ok (.ifCond .lt 27, 3) := by decide +kernel
theorem dX5_doIt_200 : decode cX5_doIt 200 = .ok (.lload_n 3, 1) := by decide +kernel
theorem dX5_doIt_201 : decode cX5_doIt 201 = .ok (.ldc2_w 115, 3) := by decide +kernel
theorem dX5_doIt_204 : decode cX5_doIt 204 = .ok (.lcmp, 1) := by decide +kernel
theorem dX5_doIt_205 : decode cX5_doIt 205 = .ok (.ifCond .ge 19, 3) := by decide +kernel
theorem dX5_doIt_208 : decode cX5_doIt 208 = .ok (.aload_n 0, 1) := by decide +kernel
theorem dX5_doIt_209 : decode cX5_doIt 209 = .ok (.aload_n 0, 1) := by decide +kernel
theorem dX5_doIt_210 : decode cX5_doIt 210 = .ok (.getfield 28, 3) := by decide +kernel
theorem dX5_doIt_213 : decode cX5_doIt 213 = .ok (.lload_n 3, 1) := by decide +kernel
theorem dX5_doIt_214 : decode cX5_doIt 214 = .ok (.l2i, 1) := by decide +kernel
theorem dX5_doIt_215 : decode cX5_doIt 215 = .ok (.invokestatic 99, 3) := by decide +kernel
theorem dX5_doIt_218 : decode cX5_doIt 218 = .ok (.invokevirtual 95, 3) := by decide +kernel
theorem dX5_doIt_221 : decode cX5_doIt 221 = .ok (.goto 4, 3) := by decide +kernel
theorem dX5_doIt_224 : decode cX5_doIt 224 = .ok (.iconst 2, 1) := by decide +kernel
theorem dX5_doIt_225 : decode cX5_doIt 225 = .ok (.ireturn, 1) := by decide +kernel
theorem dX5_doIt_226 : decode cX5_doIt 226 = .ok (.aload_n 0, 1) := by decide +kernel
theorem dX5_doIt_227 : decode cX5_doIt 227 = .ok (.iload_n 2, 1) := by decide +kernel
theorem dX5_doIt_228 : decode cX5_doIt 228 = .ok (.putfield 49, 3) := by decide +kernel
theorem dX5_doIt_231 : decode cX5_doIt 231 = .ok (.iconst 0, 1) := by decide +kernel
theorem dX5_doIt_232 : decode cX5_doIt 232 = .ok (.ireturn, 1) := by decide +kernel
theorem dX5_doIt_233 : decode cX5_doIt 233 = .ok (.aload_n 0, 1) := by decide +kernel
theorem dX5_doIt_234 : decode cX5_doIt 234 = .ok (.getfield 49, 3) := by decide +kernel
theorem dX5_doIt_237 : decode cX5_doIt 237 = .ok (.iconst (-1), 1) := by decide +kernel
theorem dX5_doIt_238 : decode cX5_doIt 238 = .ok (.if_icmp .ne 7, 3) := by decide +kernel
theorem dX5_doIt_241 : decode cX5_doIt 241 = .ok (.iconst 5, 1) := by decide +kernel
theorem dX5_doIt_242 : decode cX5_doIt 242 = .ok (.goto 18, 3) := by decide +kernel
theorem dX5_doIt_245 : decode cX5_doIt 245 = .ok (.aload_n 0, 1) := by decide +kernel
theorem dX5_doIt_246 : decode cX5_doIt 246 = .ok (.aload_n 0, 1) := by decide +kernel
theorem dX5_doIt_247 : decode cX5_doIt 247 = .ok (.getfield 25, 3) := by decide +kernel
theorem dX5_doIt_250 : decode cX5_doIt 250 = .ok (.aload_n 0, 1) := by decide +kernel
theorem dX5_doIt_251 : decode cX5_doIt 251 = .ok (.getfield 49, 3) := by decide +kernel
theorem dX5_doIt_254 : decode cX5_doIt 254 = .ok (.invokestatic 99, 3) := by decide +kernel
theorem dX5_doIt_257 : decode cX5_doIt 257 = .ok (.invokevirtual 95, 3) := by decide +kernel
theorem dX5_doIt_260 : decode cX5_doIt 260 = .ok (.ireturn, 1) := by decide +kernel
theorem dX5_doIt_261 : decode cX5_doIt 261 = .ok (.aload_n 0, 1) := by decide +kernel
theorem dX5_doIt_262 : decode cX5_doIt 262 = .ok (.iload_n 2, 1) := by decide +kernel
theorem dX5_doIt_263 : decode cX5_doIt 263 = .ok (.putfield 46, 3) := by decide +kernel
theorem dX5_doIt_266 : decode cX5_doIt 266 = .ok (.bipush 6, 2) := by decide +kernel
theorem dX5_doIt_268 : decode cX5_doIt 268 = .ok (.ireturn, 1) := by decide +kernel
theorem dX5_doIt_269 : decode cX5_doIt 269 = .ok (.aload_n 0, 1) := by decide +kernel
theorem dX5_doIt_270 : decode cX5_doIt 270 = .ok (.invokevirtual 103, 3) := by decide +kernel
theorem dX5_doIt_273 : decode cX5_doIt 273 = .ok (.lstore 5, 2) := by decide +kernel
theorem dX5_doIt_275 : decode cX5_doIt 275 = .ok (.aload_n 0, 1) := by decide +kernel
theorem dX5_doIt_276 : decode cX5_doIt 276 = .ok (.invokevirtual 103, 3) := by decide +kernel
theorem dX5_doIt_279 : decode cX5_doIt 279 = .ok (.lstore 7, 2) := by decide +kernel
theorem dX5_doIt_281 : decode cX5_doIt 281 = .ok (.lload 5, 2) := by decide +kernel
theorem dX5_doIt_283 : decode cX5_doIt 283 = .ok (.lconst 0, 1) := by decide +kernel
theorem dX5_doIt_284 : decode cX5_doIt 284 = .ok (.lcmp, 1) := by decide +kernel
theorem dX5_doIt_285 : decode cX5_doIt 285 = .ok (.ifCond .ne 14, 3) := by decide +kernel
theorem dX5_doIt_288 : decode cX5_doIt 288 = .ok (.aload_n 1, 1) := by decide +kernel
theorem dX5_doIt_289 : decode cX5_doIt 289 = .ok (.invokestatic 117, 3) := by decide +kernel
theorem dX5_doIt_292 : decode cX5_doIt 292 = .ok (.ifCond .eq 7, 3) := by decide +kernel
theorem dX5_doIt_295 : decode cX5_doIt 295 = .ok (.iconst 4, 1) := by decide +kernel
theorem dX5_doIt_296 : decode cX5_doIt 296 = .ok (.goto 15, 3) := by decide +kernel
theorem dX5_doIt_299 : decode cX5_doIt 299 = .ok (.aload_n 0, 1) := by decide +kernel
theorem dX5_doIt_300 : decode cX5_doIt 300 = .ok (.aload_n 1, 1) := by decide +kernel
theorem dX5_doIt_301 : decode cX5_doIt 301 = .ok (.lload 7, 2) := by decide +kernel
theorem dX5_doIt_303 : decode cX5_doIt 303 = .ok (.lload 5, 2) := by decide +kernel
theorem dX5_doIt_305 : decode cX5_doIt 305 = .ok (.invokestatic 121, 3) := by decide +kernel
theorem dX5_doIt_308 : decode cX5_doIt 308 = .ok (.invokevirtual 95, 3) := by decide +kernel
theorem dX5_doIt_311 : decode cX5_doIt 311 = .ok (.ireturn, 1) := by decide +kernel
theorem dX5_divides_0 : decode cX5_divides 0 = .ok (.aload_n 0, 1) := by decide +kernel
theorem dX5_divides_1 : decode cX5_divides 1 = .ok (.getstatic 125, 3) := by decide +kernel
theorem dX5_divides_4 : decode cX5_divides 4 = .ok (.if_acmp .eq 10, 3) := by decide +kernel
theorem dX5_divides_7 : decode cX5_divides 7 = .ok (.aload_n 0, 1) := by decide +kernel
theorem dX5_divides_8 : decode cX5_divides 8 = .ok (.getstatic 129, 3) := by decide +kernel
theorem dX5_divides_11 : decode cX5_divides 11 = .ok (.if_acmp .ne 7, 3) := by decide +kernel
theorem dX5_divides_14 : decode cX5_divides 14 = .ok (.iconst 1, 1) := by decide +kernel
theorem dX5_divides_15 : decode cX5_divides 15 = .ok (.goto 4, 3) := by decide +kernel
theorem dX5_divides_18 : decode cX5_divides 18 = .ok (.iconst 0, 1) := by decide +kernel
theorem dX5_divides_19 : decode cX5_divides 19 = .ok (.ireturn, 1) := by decide +kernel
theorem dX5_reckoned_0 : decode cX5_reckoned 0 = .ok (.getstatic 86, 3) := by decide +kernel
theorem dX5_reckoned_3 : decode cX5_reckoned 3 = .ok (.aload_n 0, 1) := by decide +kernel
theorem dX5_reckoned_4 : decode cX5_reckoned 4 = .ok (.invokevirtual 92, 3) := by decide +kernel
theorem dX5_reckoned_7 : decode cX5_reckoned 7 = .ok (.iaload, 1) := by decide +kernel
theorem dX5_reckoned_8 : decode cX5_reckoned 8 = .ok (.tableswitch 92 13 18 #[40, 44, 48, 52, 66, 80], 40) := by decide +kernel
theorem dX5_reckoned_48 : decode cX5_reckoned 48 = .ok (.lload_n 1, 1) := by decide +kernel
theorem dX5_reckoned_49 : decode cX5_reckoned 49 = .ok (.lload_n 3, 1) := by decide +kernel
theorem dX5_reckoned_50 : decode cX5_reckoned 50 = .ok (.ladd, 1) := by decide +kernel
theorem dX5_reckoned_51 : decode cX5_reckoned 51 = .ok (.lreturn, 1) := by decide +kernel
theorem dX5_reckoned_52 : decode cX5_reckoned 52 = .ok (.lload_n 1, 1) := by decide +kernel
theorem dX5_reckoned_53 : decode cX5_reckoned 53 = .ok (.lload_n 3, 1) := by decide +kernel
theorem dX5_reckoned_54 : decode cX5_reckoned 54 = .ok (.lsub, 1) := by decide +kernel
theorem dX5_reckoned_55 : decode cX5_reckoned 55 = .ok (.lreturn, 1) := by decide +kernel
theorem dX5_reckoned_56 : decode cX5_reckoned 56 = .ok (.lload_n 1, 1) := by decide +kernel
theorem dX5_reckoned_57 : decode cX5_reckoned 57 = .ok (.lload_n 3, 1) := by decide +kernel
theorem dX5_reckoned_58 : decode cX5_reckoned 58 = .ok (.lmul, 1) := by decide +kernel
theorem dX5_reckoned_59 : decode cX5_reckoned 59 = .ok (.lreturn, 1) := by decide +kernel
theorem dX5_reckoned_60 : decode cX5_reckoned 60 = .ok (.lload_n 3, 1) := by decide +kernel
theorem dX5_reckoned_61 : decode cX5_reckoned 61 = .ok (.lconst 0, 1) := by decide +kernel
theorem dX5_reckoned_62 : decode cX5_reckoned 62 = .ok (.lcmp, 1) := by decide +kernel
theorem dX5_reckoned_63 : decode cX5_reckoned 63 = .ok (.ifCond .ne 7, 3) := by decide +kernel
theorem dX5_reckoned_66 : decode cX5_reckoned 66 = .ok (.lconst 0, 1) := by decide +kernel
theorem dX5_reckoned_67 : decode cX5_reckoned 67 = .ok (.goto 6, 3) := by decide +kernel
theorem dX5_reckoned_70 : decode cX5_reckoned 70 = .ok (.lload_n 1, 1) := by decide +kernel
theorem dX5_reckoned_71 : decode cX5_reckoned 71 = .ok (.lload_n 3, 1) := by decide +kernel
theorem dX5_reckoned_72 : decode cX5_reckoned 72 = .ok (.ldiv, 1) := by decide +kernel
theorem dX5_reckoned_73 : decode cX5_reckoned 73 = .ok (.lreturn, 1) := by decide +kernel
theorem dX5_reckoned_74 : decode cX5_reckoned 74 = .ok (.lload_n 3, 1) := by decide +kernel
theorem dX5_reckoned_75 : decode cX5_reckoned 75 = .ok (.lconst 0, 1) := by decide +kernel
theorem dX5_reckoned_76 : decode cX5_reckoned 76 = .ok (.lcmp, 1) := by decide +kernel
theorem dX5_reckoned_77 : decode cX5_reckoned 77 = .ok (.ifCond .ne 7, 3) := by decide +kernel
theorem dX5_reckoned_80 : decode cX5_reckoned 80 = .ok (.lconst 0, 1) := by decide +kernel
theorem dX5_reckoned_81 : decode cX5_reckoned 81 = .ok (.goto 6, 3) := by decide +kernel
theorem dX5_reckoned_84 : decode cX5_reckoned 84 = .ok (.lload_n 1, 1) := by decide +kernel
theorem dX5_reckoned_85 : decode cX5_reckoned 85 = .ok (.lload_n 3, 1) := by decide +kernel
theorem dX5_reckoned_86 : decode cX5_reckoned 86 = .ok (.lrem, 1) := by decide +kernel
theorem dX5_reckoned_87 : decode cX5_reckoned 87 = .ok (.lreturn, 1) := by decide +kernel
theorem dX5_reckoned_88 : decode cX5_reckoned 88 = .ok (.lload_n 1, 1) := by decide +kernel
theorem dX5_reckoned_89 : decode cX5_reckoned 89 = .ok (.lload_n 3, 1) := by decide +kernel
theorem dX5_reckoned_90 : decode cX5_reckoned 90 = .ok (.lcmp, 1) := by decide +kernel
theorem dX5_reckoned_91 : decode cX5_reckoned 91 = .ok (.ifCond .ge 7, 3) := by decide +kernel
theorem dX5_reckoned_94 : decode cX5_reckoned 94 = .ok (.lconst 1, 1) := by decide +kernel
theorem dX5_reckoned_95 : decode cX5_reckoned 95 = .ok (.goto 4, 3) := by decide +kernel
theorem dX5_reckoned_98 : decode cX5_reckoned 98 = .ok (.lconst 0, 1) := by decide +kernel
theorem dX5_reckoned_99 : decode cX5_reckoned 99 = .ok (.lreturn, 1) := by decide +kernel
theorem dX5_reckoned_100 : decode cX5_reckoned 100 = .ok (.lload_n 1, 1) := by decide +kernel
theorem dX5_reckoned_101 : decode cX5_reckoned 101 = .ok (.lload_n 3, 1) := by decide +kernel
theorem dX5_reckoned_102 : decode cX5_reckoned 102 = .ok (.lcmp, 1) := by decide +kernel
theorem dX5_reckoned_103 : decode cX5_reckoned 103 = .ok (.ifCond .ne 7, 3) := by decide +kernel
theorem dX5_reckoned_106 : decode cX5_reckoned 106 = .ok (.lconst 1, 1) := by decide +kernel
theorem dX5_reckoned_107 : decode cX5_reckoned 107 = .ok (.goto 4, 3) := by decide +kernel
theorem dX5_reckoned_110 : decode cX5_reckoned 110 = .ok (.lconst 0, 1) := by decide +kernel
theorem dX5_reckoned_111 : decode cX5_reckoned 111 = .ok (.lreturn, 1) := by decide +kernel
theorem dX5_goOnAt_0 : decode cX5_goOnAt 0 = .ok (.iload_n 1, 1) := by decide +kernel
theorem dX5_goOnAt_1 : decode cX5_goOnAt 1 = .ok (.ifCond .lt 12, 3) := by decide +kernel
theorem dX5_goOnAt_4 : decode cX5_goOnAt 4 = .ok (.iload_n 1, 1) := by decide +kernel
theorem dX5_goOnAt_5 : decode cX5_goOnAt 5 = .ok (.aload_n 0, 1) := by decide +kernel
theorem dX5_goOnAt_6 : decode cX5_goOnAt 6 = .ok (.getfield 21, 3) := by decide +kernel
theorem dX5_goOnAt_9 : decode cX5_goOnAt 9 = .ok (.arraylength, 1) := by decide +kernel
theorem dX5_goOnAt_10 : decode cX5_goOnAt 10 = .ok (.if_icmp .le 5, 3) := by decide +kernel
theorem dX5_goOnAt_13 : decode cX5_goOnAt 13 = .ok (.iconst 1, 1) := by decide +kernel
theorem dX5_goOnAt_14 : decode cX5_goOnAt 14 = .ok (.ireturn, 1) := by decide +kernel
theorem dX5_goOnAt_15 : decode cX5_goOnAt 15 = .ok (.aload_n 0, 1) := by decide +kernel
theorem dX5_goOnAt_16 : decode cX5_goOnAt 16 = .ok (.iload_n 1, 1) := by decide +kernel
theorem dX5_goOnAt_17 : decode cX5_goOnAt 17 = .ok (.putfield 43, 3) := by decide +kernel
theorem dX5_goOnAt_20 : decode cX5_goOnAt 20 = .ok (.iconst 0, 1) := by decide +kernel
theorem dX5_goOnAt_21 : decode cX5_goOnAt 21 = .ok (.ireturn, 1) := by decide +kernel
theorem dX5_lay_0 : decode cX5_lay 0 = .ok (.aload_n 0, 1) := by decide +kernel
theorem dX5_lay_1 : decode cX5_lay 1 = .ok (.getfield 39, 3) := by decide +kernel
theorem dX5_lay_4 : decode cX5_lay 4 = .ok (.ifCond .lt 35, 3) := by decide +kernel
theorem dX5_lay_7 : decode cX5_lay 7 = .ok (.aload_n 0, 1) := by decide +kernel
theorem dX5_lay_8 : decode cX5_lay 8 = .ok (.getfield 39, 3) := by decide +kernel
theorem dX5_lay_11 : decode cX5_lay 11 = .ok (.aload_n 0, 1) := by decide +kernel
theorem dX5_lay_12 : decode cX5_lay 12 = .ok (.getfield 9, 3) := by decide +kernel
theorem dX5_lay_15 : decode cX5_lay 15 = .ok (.arraylength, 1) := by decide +kernel
theorem dX5_lay_16 : decode cX5_lay 16 = .ok (.if_icmp .ge 23, 3) := by decide +kernel
theorem dX5_lay_19 : decode cX5_lay 19 = .ok (.aload_n 0, 1) := by decide +kernel
theorem dX5_lay_20 : decode cX5_lay 20 = .ok (.getfield 9, 3) := by decide +kernel
theorem dX5_lay_23 : decode cX5_lay 23 = .ok (.aload_n 0, 1) := by decide +kernel
theorem dX5_lay_24 : decode cX5_lay 24 = .ok (.getfield 39, 3) := by decide +kernel
theorem dX5_lay_27 : decode cX5_lay 27 = .ok (.lload_n 1, 1) := by decide +kernel
theorem dX5_lay_28 : decode cX5_lay 28 = .ok (.lastore, 1) := by decide +kernel
theorem dX5_lay_29 : decode cX5_lay 29 = .ok (.aload_n 0, 1) := by decide +kernel
theorem dX5_lay_30 : decode cX5_lay 30 = .ok (.dup, 1) := by decide +kernel
theorem dX5_lay_31 : decode cX5_lay 31 = .ok (.getfield 39, 3) := by decide +kernel
theorem dX5_lay_34 : decode cX5_lay 34 = .ok (.iconst 1, 1) := by decide +kernel
theorem dX5_lay_35 : decode cX5_lay 35 = .ok (.iadd, 1) := by decide +kernel
theorem dX5_lay_36 : decode cX5_lay 36 = .ok (.putfield 39, 3) := by decide +kernel
theorem dX5_lay_39 : decode cX5_lay 39 = .ok (.iconst 0, 1) := by decide +kernel
theorem dX5_lay_40 : decode cX5_lay 40 = .ok (.ireturn, 1) := by decide +kernel
theorem dX5_take_0 : decode cX5_take 0 = .ok (.aload_n 0, 1) := by decide +kernel
theorem dX5_take_1 : decode cX5_take 1 = .ok (.getfield 39, 3) := by decide +kernel
theorem dX5_take_4 : decode cX5_take 4 = .ok (.ifCond .le 15, 3) := by decide +kernel
theorem dX5_take_7 : decode cX5_take 7 = .ok (.aload_n 0, 1) := by decide +kernel
theorem dX5_take_8 : decode cX5_take 8 = .ok (.getfield 39, 3) := by decide +kernel
theorem dX5_take_11 : decode cX5_take 11 = .ok (.aload_n 0, 1) := by decide +kernel
theorem dX5_take_12 : decode cX5_take 12 = .ok (.getfield 9, 3) := by decide +kernel
theorem dX5_take_15 : decode cX5_take 15 = .ok (.arraylength, 1) := by decide +kernel
theorem dX5_take_16 : decode cX5_take 16 = .ok (.if_icmp .le 5, 3) := by decide +kernel
theorem dX5_take_19 : decode cX5_take 19 = .ok (.lconst 0, 1) := by decide +kernel
theorem dX5_take_20 : decode cX5_take 20 = .ok (.lreturn, 1) := by decide +kernel
theorem dX5_take_21 : decode cX5_take 21 = .ok (.aload_n 0, 1) := by decide +kernel
theorem dX5_take_22 : decode cX5_take 22 = .ok (.dup, 1) := by decide +kernel
theorem dX5_take_23 : decode cX5_take 23 = .ok (.getfield 39, 3) := by decide +kernel
theorem dX5_take_26 : decode cX5_take 26 = .ok (.iconst 1, 1) := by decide +kernel
theorem dX5_take_27 : decode cX5_take 27 = .ok (.isub, 1) := by decide +kernel
theorem dX5_take_28 : decode cX5_take 28 = .ok (.putfield 39, 3) := by decide +kernel
theorem dX5_take_31 : decode cX5_take 31 = .ok (.aload_n 0, 1) := by decide +kernel
theorem dX5_take_32 : decode cX5_take 32 = .ok (.getfield 9, 3) := by decide +kernel
theorem dX5_take_35 : decode cX5_take 35 = .ok (.aload_n 0, 1) := by decide +kernel
theorem dX5_take_36 : decode cX5_take 36 = .ok (.getfield 39, 3) := by decide +kernel
theorem dX5_take_39 : decode cX5_take 39 = .ok (.laload, 1) := by decide +kernel
theorem dX5_take_40 : decode cX5_take 40 = .ok (.lreturn, 1) := by decide +kernel
theorem dX6_init_0 : decode cX6_init 0 = .ok (.aload_n 0, 1) := by decide +kernel
theorem dX6_init_1 : decode cX6_init 1 = .ok (.invokespecial 1, 3) := by decide +kernel
theorem dX6_init_4 : decode cX6_init 4 = .ok (.aload_n 0, 1) := by decide +kernel
theorem dX6_init_5 : decode cX6_init 5 = .ok (.iconst 0, 1) := by decide +kernel
theorem dX6_init_6 : decode cX6_init 6 = .ok (.iload_n 1, 1) := by decide +kernel
theorem dX6_init_7 : decode cX6_init 7 = .ok (.ldc 9, 2) := by decide +kernel
theorem dX6_init_9 : decode cX6_init 9 = .ok (.invokestatic 10, 3) := by decide +kernel
theorem dX6_init_12 : decode cX6_init 12 = .ok (.invokestatic 16, 3) := by decide +kernel
theorem dX6_init_15 : decode cX6_init 15 = .ok (.putfield 19, 3) := by decide +kernel
theorem dX6_init_18 : decode cX6_init 18 = .ok (.aload_n 0, 1) := by decide +kernel
theorem dX6_init_19 : decode cX6_init 19 = .ok (.bipush 8, 2) := by decide +kernel
theorem dX6_init_21 : decode cX6_init 21 = .ok (.anewarray 23, 3) := by decide +kernel
theorem dX6_init_24 : decode cX6_init 24 = .ok (.putfield 25, 3) := by decide +kernel
theorem dX6_init_27 : decode cX6_init 27 = .ok (.iconst 0, 1) := by decide +kernel
theorem dX6_init_28 : decode cX6_init 28 = .ok (.istore_n 2, 1) := by decide +kernel
theorem dX6_init_29 : decode cX6_init 29 = .ok (.iload_n 2, 1) := by decide +kernel
theorem dX6_init_30 : decode cX6_init 30 = .ok (.aload_n 0, 1) := by decide +kernel
theorem dX6_init_31 : decode cX6_init 31 = .ok (.getfield 25, 3) := by decide +kernel
theorem dX6_init_34 : decode cX6_init 34 = .ok (.arraylength, 1) := by decide +kernel
theorem dX6_init_35 : decode cX6_init 35 = .ok (.if_icmp .ge 22, 3) := by decide +kernel
theorem dX6_init_38 : decode cX6_init 38 = .ok (.aload_n 0, 1) := by decide +kernel
theorem dX6_init_39 : decode cX6_init 39 = .ok (.getfield 25, 3) := by decide +kernel
theorem dX6_init_42 : decode cX6_init 42 = .ok (.iload_n 2, 1) := by decide +kernel
theorem dX6_init_43 : decode cX6_init 43 = .ok (.new 23, 3) := by decide +kernel
theorem dX6_init_46 : decode cX6_init 46 = .ok (.dup, 1) := by decide +kernel
theorem dX6_init_47 : decode cX6_init 47 = .ok (.invokespecial 29, 3) := by decide +kernel
theorem dX6_init_50 : decode cX6_init 50 = .ok (.aastore, 1) := by decide +kernel
theorem dX6_init_51 : decode cX6_init 51 = .ok (.iinc 2 1, 3) := by decide +kernel
theorem dX6_init_54 : decode cX6_init 54 = .ok (.goto (-25), 3) := by decide +kernel
theorem dX6_init_57 : decode cX6_init 57 = .ok (.aload_n 0, 1) := by decide +kernel
theorem dX6_init_58 : decode cX6_init 58 = .ok (.bipush 20, 2) := by decide +kernel
theorem dX6_init_60 : decode cX6_init 60 = .ok (.anewarray 30, 3) := by decide +kernel
theorem dX6_init_63 : decode cX6_init 63 = .ok (.putfield 32, 3) := by decide +kernel
theorem dX6_init_66 : decode cX6_init 66 = .ok (.aload_n 0, 1) := by decide +kernel
theorem dX6_init_67 : decode cX6_init 67 = .ok (.new 36, 3) := by decide +kernel
theorem dX6_init_70 : decode cX6_init 70 = .ok (.dup, 1) := by decide +kernel
theorem dX6_init_71 : decode cX6_init 71 = .ok (.invokespecial 38, 3) := by decide +kernel
theorem dX6_init_74 : decode cX6_init 74 = .ok (.putfield 39, 3) := by decide +kernel
theorem dX6_init_77 : decode cX6_init 77 = .ok (.aload_n 0, 1) := by decide +kernel
theorem dX6_init_78 : decode cX6_init 78 = .ok (.bipush 120, 2) := by decide +kernel
theorem dX6_init_80 : decode cX6_init 80 = .ok (.newarray .byte, 2) := by decide +kernel
theorem dX6_init_82 : decode cX6_init 82 = .ok (.putfield 43, 3) := by decide +kernel
theorem dX6_init_85 : decode cX6_init 85 = .ok (.return_, 1) := by decide +kernel
theorem dX6_file_0 : decode cX6_file 0 = .ok (.iload_n 3, 1) := by decide +kernel
theorem dX6_file_1 : decode cX6_file 1 = .ok (.iconst 1, 1) := by decide +kernel
theorem dX6_file_2 : decode cX6_file 2 = .ok (.if_icmp .lt 9, 3) := by decide +kernel
theorem dX6_file_5 : decode cX6_file 5 = .ok (.iload_n 3, 1) := by decide +kernel
theorem dX6_file_6 : decode cX6_file 6 = .ok (.bipush 8, 2) := by decide +kernel
theorem dX6_file_8 : decode cX6_file 8 = .ok (.if_icmp .le 10, 3) := by decide +kernel
theorem dX6_file_11 : decode cX6_file 11 = .ok (.aload_n 0, 1) := by decide +kernel
theorem dX6_file_12 : decode cX6_file 12 = .ok (.bipush (-2), 2) := by decide +kernel
theorem dX6_file_14 : decode cX6_file 14 = .ok (.invokevirtual 47, 3) := by decide +kernel
theorem dX6_file_17 : decode cX6_file 17 = .ok (.ireturn, 1) := by decide +kernel
theorem dX6_file_18 : decode cX6_file 18 = .ok (.aload_n 0, 1) := by decide +kernel
theorem dX6_file_19 : decode cX6_file 19 = .ok (.getfield 51, 3) := by decide +kernel
theorem dX6_file_22 : decode cX6_file 22 = .ok (.iload_n 3, 1) := by decide +kernel
theorem dX6_file_23 : decode cX6_file 23 = .ok (.iadd, 1) := by decide +kernel
theorem dX6_file_24 : decode cX6_file 24 = .ok (.aload_n 0, 1) := by decide +kernel
theorem dX6_file_25 : decode cX6_file 25 = .ok (.getfield 43, 3) := by decide +kernel
theorem dX6_file_28 : decode cX6_file 28 = .ok (.arraylength, 1) := by decide +kernel
theorem dX6_file_29 : decode cX6_file 29 = .ok (.if_icmp .le 10, 3) := by decide +kernel
theorem dX6_file_32 : decode cX6_file 32 = .ok (.aload_n 0, 1) := by decide +kernel
theorem dX6_file_33 : decode cX6_file 33 = .ok (.bipush (-4), 2) := by decide +kernel
theorem dX6_file_35 : decode cX6_file 35 = .ok (.invokevirtual 47, 3) := by decide +kernel
theorem dX6_file_38 : decode cX6_file 38 = .ok (.ireturn, 1) := by decide +kernel
theorem dX6_file_39 : decode cX6_file 39 = .ok (.iload_n 3, 1) := by decide +kernel
theorem dX6_file_40 : decode cX6_file 40 = .ok (.iconst 1, 1) := by decide +kernel
theorem dX6_file_41 : decode cX6_file 41 = .ok (.isub, 1) := by decide +kernel
theorem dX6_file_42 : decode cX6_file 42 = .ok (.istore 4, 2) := by decide +kernel
theorem dX6_file_44 : decode cX6_file 44 = .ok (.iload 4, 2) := by decide +kernel
theorem dX6_file_46 : decode cX6_file 46 = .ok (.ifCond .lt 22, 3) := by decide +kernel
theorem dX6_file_49 : decode cX6_file 49 = .ok (.aload_n 0, 1) := by decide +kernel
theorem dX6_file_50 : decode cX6_file 50 = .ok (.lload_n 1, 1) := by decide +kernel
theorem dX6_file_51 : decode cX6_file 51 = .ok (.bipush 8, 2) := by decide +kernel
theorem dX6_file_53 : decode cX6_file 53 = .ok (.iload 4, 2) := by decide +kernel
theorem dX6_file_55 : decode cX6_file 55 = .ok (.imul, 1) := by decide +kernel
theorem dX6_file_56 : decode cX6_file 56 = .ok (.lshr, 1) := by decide +kernel
theorem dX6_file_57 : decode cX6_file 57 = .ok (.l2i, 1) := by decide +kernel
theorem dX6_file_58 : decode cX6_file 58 = .ok (.i2b, 1) := by decide +kernel
theorem dX6_file_59 : decode cX6_file 59 = .ok (.invokevirtual 54, 3) := by decide +kernel
theorem dX6_file_62 : decode cX6_file 62 = .ok (.iinc 4 (-1), 3) := by decide +kernel
theorem dX6_file_65 : decode cX6_file 65 = .ok (.goto (-21), 3) := by decide +kernel
theorem dX6_file_68 : decode cX6_file 68 = .ok (.aload_n 0, 1) := by decide +kernel
theorem dX6_file_69 : decode cX6_file 69 = .ok (.getfield 51, 3) := by decide +kernel
theorem dX6_file_72 : decode cX6_file 72 = .ok (.ireturn, 1) := by decide +kernel
theorem dX6_runnable_0 : decode cX6_runnable 0 = .ok (.aload_n 0, 1) := by decide +kernel
theorem dX6_runnable_1 : decode cX6_runnable 1 = .ok (.iload_n 1, 1) := by decide +kernel
theorem dX6_runnable_2 : decode cX6_runnable 2 = .ok (.invokevirtual 58, 3) := by decide +kernel
theorem dX6_runnable_5 : decode cX6_runnable 5 = .ok (.astore_n 2, 1) := by decide +kernel
theorem dX6_runnable_6 : decode cX6_runnable 6 = .ok (.iload_n 1, 1) := by decide +kernel
theorem dX6_runnable_7 : decode cX6_runnable 7 = .ok (.ifCond .eq 13, 3) := by decide +kernel
theorem dX6_runnable_10 : decode cX6_runnable 10 = .ok (.aload_n 2, 1) := by decide +kernel
theorem dX6_runnable_11 : decode cX6_runnable 11 = .ok (.ifnonnull 9, 3) := by decide +kernel
theorem dX6_runnable_14 : decode cX6_runnable 14 = .ok (.aload_n 0, 1) := by decide +kernel
theorem dX6_runnable_15 : decode cX6_runnable 15 = .ok (.iconst (-1), 1) := by decide +kernel
theorem dX6_runnable_16 : decode cX6_runnable 16 = .ok (.invokevirtual 47, 3) := by decide +kernel
theorem dX6_runnable_19 : decode cX6_runnable 19 = .ok (.ireturn, 1) := by decide +kernel
theorem dX6_runnable_20 : decode cX6_runnable 20 = .ok (.aload_n 0, 1) := by decide +kernel
theorem dX6_runnable_21 : decode cX6_runnable 21 = .ok (.getfield 43, 3) := by decide +kernel
theorem dX6_runnable_24 : decode cX6_runnable 24 = .ok (.aload_n 0, 1) := by decide +kernel
theorem dX6_runnable_25 : decode cX6_runnable 25 = .ok (.getfield 51, 3) := by decide +kernel
theorem dX6_runnable_28 : decode cX6_runnable 28 = .ok (.invokestatic 62, 3) := by decide +kernel
theorem dX6_runnable_31 : decode cX6_runnable 31 = .ok (.ifCond .ne 15, 3) := by decide +kernel
theorem dX6_runnable_34 : decode cX6_runnable 34 = .ok (.aload_n 0, 1) := by decide +kernel
theorem dX6_runnable_35 : decode cX6_runnable 35 = .ok (.iconst 0, 1) := by decide +kernel
theorem dX6_runnable_36 : decode cX6_runnable 36 = .ok (.putfield 51, 3) := by decide +kernel
theorem dX6_runnable_39 : decode cX6_runnable 39 = .ok (.aload_n 0, 1) := by decide +kernel
theorem dX6_runnable_40 : decode cX6_runnable 40 = .ok (.bipush (-2), 2) := by decide +kernel
theorem dX6_runnable_42 : decode cX6_runnable 42 = .ok (.invokevirtual 47, 3) := by decide +kernel
theorem dX6_runnable_45 : decode cX6_runnable 45 = .ok (.ireturn, 1) := by decide +kernel
theorem dX6_runnable_46 : decode cX6_runnable 46 = .ok (.aload_n 2, 1) := by decide +kernel
theorem dX6_runnable_47 : decode cX6_runnable 47 = .ok (.ifnonnull 8, 3) := by decide +kernel
theorem dX6_runnable_50 : decode cX6_runnable 50 = .ok (.aload_n 0, 1) := by decide +kernel
theorem dX6_runnable_51 : decode cX6_runnable 51 = .ok (.invokevirtual 66, 3) := by decide +kernel
theorem dX6_runnable_54 : decode cX6_runnable 54 = .ok (.ireturn, 1) := by decide +kernel
theorem dX6_runnable_55 : decode cX6_runnable 55 = .ok (.aload_n 0, 1) := by decide +kernel
theorem dX6_runnable_56 : decode cX6_runnable 56 = .ok (.iload_n 1, 1) := by decide +kernel
theorem dX6_runnable_57 : decode cX6_runnable 57 = .ok (.aload_n 2, 1) := by decide +kernel
theorem dX6_runnable_58 : decode cX6_runnable 58 = .ok (.getfield 70, 3) := by decide +kernel
theorem dX6_runnable_61 : decode cX6_runnable 61 = .ok (.invokevirtual 73, 3) := by decide +kernel
theorem dX6_runnable_64 : decode cX6_runnable 64 = .ok (.ireturn, 1) := by decide +kernel
theorem dX6_make_0 : decode cX6_make 0 = .ok (.aload_n 0, 1) := by decide +kernel
theorem dX6_make_1 : decode cX6_make 1 = .ok (.iload_n 1, 1) := by decide +kernel
theorem dX6_make_2 : decode cX6_make 2 = .ok (.invokevirtual 76, 3) := by decide +kernel
theorem dX6_make_5 : decode cX6_make 5 = .ok (.astore_n 3, 1) := by decide +kernel
theorem dX6_make_6 : decode cX6_make 6 = .ok (.aload_n 0, 1) := by decide +kernel
theorem dX6_make_7 : decode cX6_make 7 = .ok (.iload_n 2, 1) := by decide +kernel
theorem dX6_make_8 : decode cX6_make 8 = .ok (.invokevirtual 58, 3) := by decide +kernel
theorem dX6_make_11 : decode cX6_make 11 = .ok (.astore 4, 2) := by decide +kernel
theorem dX6_make_13 : decode cX6_make 13 = .ok (.aload_n 3, 1) := by decide +kernel
theorem dX6_make_14 : decode cX6_make 14 = .ok (.ifnull 8, 3) := by decide +kernel
theorem dX6_make_17 : decode cX6_make 17 = .ok (.aload 4, 2) := by decide +kernel
theorem dX6_make_19 : decode cX6_make 19 = .ok (.ifnonnull 9, 3) := by decide +kernel
theorem dX6_make_22 : decode cX6_make 22 = .ok (.aload_n 0, 1) := by decide +kernel
theorem dX6_make_23 : decode cX6_make 23 = .ok (.iconst (-1), 1) := by decide +kernel
theorem dX6_make_24 : decode cX6_make 24 = .ok (.invokevirtual 47, 3) := by decide +kernel
theorem dX6_make_27 : decode cX6_make 27 = .ok (.ireturn, 1) := by decide +kernel
theorem dX6_make_28 : decode cX6_make 28 = .ok (.aload_n 3, 1) := by decide +kernel
theorem dX6_make_29 : decode cX6_make 29 = .ok (.getfield 80, 3) := by decide +kernel
theorem dX6_make_32 : decode cX6_make 32 = .ok (.ifCond .ne 11, 3) := by decide +kernel
theorem dX6_make_35 : decode cX6_make 35 = .ok (.aload_n 3, 1) := by decide +kernel
theorem dX6_make_36 : decode cX6_make 36 = .ok (.iload_n 2, 1) := by decide +kernel
theorem dX6_make_37 : decode cX6_make 37 = .ok (.invokevirtual 84, 3) := by decide +kernel
theorem dX6_make_40 : decode cX6_make 40 = .ok (.ifnull 10, 3) := by decide +kernel
theorem dX6_make_43 : decode cX6_make 43 = .ok (.aload_n 0, 1) := by decide +kernel
theorem dX6_make_44 : decode cX6_make 44 = .ok (.bipush (-3), 2) := by decide +kernel
theorem dX6_make_46 : decode cX6_make 46 = .ok (.invokevirtual 47, 3) := by decide +kernel
theorem dX6_make_49 : decode cX6_make 49 = .ok (.ireturn, 1) := by decide +kernel
theorem dX6_make_50 : decode cX6_make 50 = .ok (.aload_n 3, 1) := by decide +kernel
theorem dX6_make_51 : decode cX6_make 51 = .ok (.iload_n 2, 1) := by decide +kernel
theorem dX6_make_52 : decode cX6_make 52 = .ok (.new 88, 3) := by decide +kernel
theorem dX6_make_55 : decode cX6_make 55 = .ok (.dup, 1) := by decide +kernel
theorem dX6_make_56 : decode cX6_make 56 = .ok (.aload 4, 2) := by decide +kernel
theorem dX6_make_58 : decode cX6_make 58 = .ok (.getfield 70, 3) := by decide +kernel
theorem dX6_make_61 : decode cX6_make 61 = .ok (.invokespecial 90, 3) := by decide +kernel
theorem dX6_make_64 : decode cX6_make 64 = .ok (.invokevirtual 93, 3) := by decide +kernel
theorem dX6_make_67 : decode cX6_make 67 = .ok (.iconst 1, 1) := by decide +kernel
theorem dX6_make_68 : decode cX6_make 68 = .ok (.ireturn, 1) := by decide +kernel
theorem dX6_power_0 : decode cX6_power 0 = .ok (.aload_n 0, 1) := by decide +kernel
theorem dX6_power_1 : decode cX6_power 1 = .ok (.iload_n 1, 1) := by decide +kernel
theorem dX6_power_2 : decode cX6_power 2 = .ok (.invokevirtual 76, 3) := by decide +kernel
theorem dX6_power_5 : decode cX6_power 5 = .ok (.astore_n 2, 1) := by decide +kernel
theorem dX6_power_6 : decode cX6_power 6 = .ok (.aload_n 2, 1) := by decide +kernel
theorem dX6_power_7 : decode cX6_power 7 = .ok (.ifnonnull 9, 3) := by decide +kernel
theorem dX6_power_10 : decode cX6_power 10 = .ok (.aload_n 0, 1) := by decide +kernel
theorem dX6_power_11 : decode cX6_power 11 = .ok (.iconst (-1), 1) := by decide +kernel
theorem dX6_power_12 : decode cX6_power 12 = .ok (.invokevirtual 47, 3) := by decide +kernel
theorem dX6_power_15 : decode cX6_power 15 = .ok (.ireturn, 1) := by decide +kernel
theorem dX6_power_16 : decode cX6_power 16 = .ok (.aload_n 2, 1) := by decide +kernel
theorem dX6_power_17 : decode cX6_power 17 = .ok (.getfield 80, 3) := by decide +kernel
theorem dX6_power_20 : decode cX6_power 20 = .ok (.ifCond .eq 10, 3) := by decide +kernel
theorem dX6_power_23 : decode cX6_power 23 = .ok (.aload_n 0, 1) := by decide +kernel
theorem dX6_power_24 : decode cX6_power 24 = .ok (.bipush (-3), 2) := by decide +kernel
theorem dX6_power_26 : decode cX6_power 26 = .ok (.invokevirtual 47, 3) := by decide +kernel
theorem dX6_power_29 : decode cX6_power 29 = .ok (.ireturn, 1) := by decide +kernel
theorem dX6_power_30 : decode cX6_power 30 = .ok (.iconst 1, 1) := by decide +kernel
theorem dX6_power_31 : decode cX6_power 31 = .ok (.istore_n 3, 1) := by decide +kernel
theorem dX6_power_32 : decode cX6_power 32 = .ok (.iload_n 3, 1) := by decide +kernel
theorem dX6_power_33 : decode cX6_power 33 = .ok (.aload_n 0, 1) := by decide +kernel
theorem dX6_power_34 : decode cX6_power 34 = .ok (.getfield 97, 3) := by decide +kernel
theorem dX6_power_37 : decode cX6_power 37 = .ok (.if_icmp .gt 28, 3) := by decide +kernel
theorem dX6_power_40 : decode cX6_power 40 = .ok (.aload_n 0, 1) := by decide +kernel
theorem dX6_power_41 : decode cX6_power 41 = .ok (.aload_n 2, 1) := by decide +kernel
theorem dX6_power_42 : decode cX6_power 42 = .ok (.iload_n 3, 1) := by decide +kernel
theorem dX6_power_43 : decode cX6_power 43 = .ok (.invokevirtual 100, 3) := by decide +kernel
theorem dX6_power_46 : decode cX6_power 46 = .ok (.istore 4, 2) := by decide +kernel
theorem dX6_power_48 : decode cX6_power 48 = .ok (.iload 4, 2) := by decide +kernel
theorem dX6_power_50 : decode cX6_power 50 = .ok (.ifCond .eq 9, 3) := by decide +kernel
theorem dX6_power_53 : decode cX6_power 53 = .ok (.bipush 10, 2) := by decide +kernel
theorem dX6_power_55 : decode cX6_power 55 = .ok (.iload 4, 2) := by decide +kernel
theorem dX6_power_57 : decode cX6_power 57 = .ok (.iadd, 1) := by decide +kernel
theorem dX6_power_58 : decode cX6_power 58 = .ok (.ireturn, 1) := by decide +kernel
theorem dX6_power_59 : decode cX6_power 59 = .ok (.iinc 3 1, 3) := by decide +kernel
theorem dX6_power_62 : decode cX6_power 62 = .ok (.goto (-30), 3) := by decide +kernel
theorem dX6_power_65 : decode cX6_power 65 = .ok (.aload_n 2, 1) := by decide +kernel
theorem dX6_power_66 : decode cX6_power 66 = .ok (.iconst 1, 1) := by decide +kernel
theorem dX6_power_67 : decode cX6_power 67 = .ok (.putfield 80, 3) := by decide +kernel
theorem dX6_power_70 : decode cX6_power 70 = .ok (.iconst 1, 1) := by decide +kernel
theorem dX6_power_71 : decode cX6_power 71 = .ok (.ireturn, 1) := by decide +kernel
theorem dX6_run_0 : decode cX6_run 0 = .ok (.aload_n 0, 1) := by decide +kernel
theorem dX6_run_1 : decode cX6_run 1 = .ok (.iload_n 1, 1) := by decide +kernel
theorem dX6_run_2 : decode cX6_run 2 = .ok (.iload_n 2, 1) := by decide +kernel
theorem dX6_run_3 : decode cX6_run 3 = .ok (.iconst 0, 1) := by decide +kernel
theorem dX6_run_4 : decode cX6_run 4 = .ok (.invokevirtual 104, 3) := by decide +kernel
theorem dX6_run_7 : decode cX6_run 7 = .ok (.ireturn, 1) := by decide +kernel
theorem dX6_beside_0 : decode cX6_beside 0 = .ok (.aload_n 0, 1) := by decide +kernel
theorem dX6_beside_1 : decode cX6_beside 1 = .ok (.iload_n 1, 1) := by decide +kernel
theorem dX6_beside_2 : decode cX6_beside 2 = .ok (.iload_n 2, 1) := by decide +kernel
theorem dX6_beside_3 : decode cX6_beside 3 = .ok (.iconst 1, 1) := by decide +kernel
theorem dX6_beside_4 : decode cX6_beside 4 = .ok (.invokevirtual 104, 3) := by decide +kernel
theorem dX6_beside_7 : decode cX6_beside 7 = .ok (.ireturn, 1) := by decide +kernel
theorem dX6_port_0 : decode cX6_port 0 = .ok (.aload_n 0, 1) := by decide +kernel
theorem dX6_port_1 : decode cX6_port 1 = .ok (.iload_n 1, 1) := by decide +kernel
theorem dX6_port_2 : decode cX6_port 2 = .ok (.invokevirtual 76, 3) := by decide +kernel
theorem dX6_port_5 : decode cX6_port 5 = .ok (.astore_n 3, 1) := by decide +kernel
theorem dX6_port_6 : decode cX6_port 6 = .ok (.aload_n 3, 1) := by decide +kernel
theorem dX6_port_7 : decode cX6_port 7 = .ok (.ifnonnull 7, 3) := by decide +kernel
theorem dX6_port_10 : decode cX6_port 10 = .ok (.lconst 0, 1) := by decide +kernel
theorem dX6_port_11 : decode cX6_port 11 = .ok (.goto 11, 3) := by decide +kernel
theorem dX6_port_14 : decode cX6_port 14 = .ok (.aload_n 3, 1) := by decide +kernel
theorem dX6_port_15 : decode cX6_port 15 = .ok (.getfield 108, 3) := by decide +kernel
theorem dX6_port_18 : decode cX6_port 18 = .ok (.iload_n 2, 1) := by decide +kernel
theorem dX6_port_19 : decode cX6_port 19 = .ok (.invokestatic 112, 3) := by decide +kernel
theorem dX6_port_22 : decode cX6_port 22 = .ok (.lreturn, 1) := by decide +kernel
theorem dX6_set_0 : decode cX6_set 0 = .ok (.aload_n 0, 1) := by decide +kernel
theorem dX6_set_1 : decode cX6_set 1 = .ok (.iload_n 1, 1) := by decide +kernel
theorem dX6_set_2 : decode cX6_set 2 = .ok (.invokevirtual 76, 3) := by decide +kernel
theorem dX6_set_5 : decode cX6_set 5 = .ok (.astore 5, 2) := by decide +kernel
theorem dX6_set_7 : decode cX6_set 7 = .ok (.aload 5, 2) := by decide +kernel
theorem dX6_set_9 : decode cX6_set 9 = .ok (.ifnull 17, 3) := by decide +kernel
theorem dX6_set_12 : decode cX6_set 12 = .ok (.iload_n 2, 1) := by decide +kernel
theorem dX6_set_13 : decode cX6_set 13 = .ok (.ifCond .lt 13, 3) := by decide +kernel
theorem dX6_set_16 : decode cX6_set 16 = .ok (.iload_n 2, 1) := by decide +kernel
theorem dX6_set_17 : decode cX6_set 17 = .ok (.aload 5, 2) := by decide +kernel
theorem dX6_set_19 : decode cX6_set 19 = .ok (.getfield 108, 3) := by decide +kernel
theorem dX6_set_22 : decode cX6_set 22 = .ok (.arraylength, 1) := by decide +kernel
theorem dX6_set_23 : decode cX6_set 23 = .ok (.if_icmp .lt 9, 3) := by decide +kernel
theorem dX6_set_26 : decode cX6_set 26 = .ok (.aload_n 0, 1) := by decide +kernel
theorem dX6_set_27 : decode cX6_set 27 = .ok (.iconst (-1), 1) := by decide +kernel
theorem dX6_set_28 : decode cX6_set 28 = .ok (.invokevirtual 47, 3) := by decide +kernel
theorem dX6_set_31 : decode cX6_set 31 = .ok (.ireturn, 1) := by decide +kernel
theorem dX6_set_32 : decode cX6_set 32 = .ok (.aload 5, 2) := by decide +kernel
theorem dX6_set_34 : decode cX6_set 34 = .ok (.getfield 108, 3) := by decide +kernel
theorem dX6_set_37 : decode cX6_set 37 = .ok (.iload_n 2, 1) := by decide +kernel
theorem dX6_set_38 : decode cX6_set 38 = .ok (.lload_n 3, 1) := by decide +kernel
theorem dX6_set_39 : decode cX6_set 39 = .ok (.invokestatic 116, 3) := by decide +kernel
theorem dX6_set_42 : decode cX6_set 42 = .ok (.iconst 1, 1) := by decide +kernel
theorem dX6_set_43 : decode cX6_set 43 = .ok (.ireturn, 1) := by decide +kernel
theorem dX6_cell_0 : decode cX6_cell 0 = .ok (.aload_n 0, 1) := by decide +kernel
theorem dX6_cell_1 : decode cX6_cell 1 = .ok (.iload_n 1, 1) := by decide +kernel
theorem dX6_cell_2 : decode cX6_cell 2 = .ok (.iload_n 2, 1) := by decide +kernel
theorem dX6_cell_3 : decode cX6_cell 3 = .ok (.invokevirtual 120, 3) := by decide +kernel
theorem dX6_cell_6 : decode cX6_cell 6 = .ok (.astore 4, 2) := by decide +kernel
theorem dX6_cell_8 : decode cX6_cell 8 = .ok (.aload 4, 2) := by decide +kernel
theorem dX6_cell_10 : decode cX6_cell 10 = .ok (.ifnonnull 7, 3) := by decide +kernel
theorem dX6_cell_13 : decode cX6_cell 13 = .ok (.lconst 0, 1) := by decide +kernel
theorem dX6_cell_14 : decode cX6_cell 14 = .ok (.goto 12, 3) := by decide +kernel
theorem dX6_cell_17 : decode cX6_cell 17 = .ok (.aload 4, 2) := by decide +kernel
theorem dX6_cell_19 : decode cX6_cell 19 = .ok (.getfield 124, 3) := by decide +kernel
theorem dX6_cell_22 : decode cX6_cell 22 = .ok (.iload_n 3, 1) := by decide +kernel
theorem dX6_cell_23 : decode cX6_cell 23 = .ok (.invokestatic 112, 3) := by decide +kernel
theorem dX6_cell_26 : decode cX6_cell 26 = .ok (.lreturn, 1) := by decide +kernel
theorem dX6_reaction_0 : decode cX6_reaction 0 = .ok (.aload_n 0, 1) := by decide +kernel
theorem dX6_reaction_1 : decode cX6_reaction 1 = .ok (.iload_n 1, 1) := by decide +kernel
theorem dX6_reaction_2 : decode cX6_reaction 2 = .ok (.invokevirtual 76, 3) := by decide +kernel
theorem dX6_reaction_5 : decode cX6_reaction 5 = .ok (.astore_n 3, 1) := by decide +kernel
theorem dX6_reaction_6 : decode cX6_reaction 6 = .ok (.aload_n 3, 1) := by decide +kernel
theorem dX6_reaction_7 : decode cX6_reaction 7 = .ok (.ifnonnull 9, 3) := by decide +kernel
theorem dX6_reaction_10 : decode cX6_reaction 10 = .ok (.aload_n 0, 1) := by decide +kernel
theorem dX6_reaction_11 : decode cX6_reaction 11 = .ok (.iconst (-1), 1) := by decide +kernel
theorem dX6_reaction_12 : decode cX6_reaction 12 = .ok (.invokevirtual 47, 3) := by decide +kernel
theorem dX6_reaction_15 : decode cX6_reaction 15 = .ok (.ireturn, 1) := by decide +kernel
theorem dX6_reaction_16 : decode cX6_reaction 16 = .ok (.iload_n 2, 1) := by decide +kernel
theorem dX6_reaction_17 : decode cX6_reaction 17 = .ok (.ifCond .lt 8, 3) := by decide +kernel
theorem dX6_reaction_20 : decode cX6_reaction 20 = .ok (.iload_n 2, 1) := by decide +kernel
theorem dX6_reaction_21 : decode cX6_reaction 21 = .ok (.iconst 2, 1) := by decide +kernel
theorem dX6_reaction_22 : decode cX6_reaction 22 = .ok (.if_icmp .le 10, 3) := by decide +kernel
theorem dX6_reaction_25 : decode cX6_reaction 25 = .ok (.aload_n 0, 1) := by decide +kernel
theorem dX6_reaction_26 : decode cX6_reaction 26 = .ok (.bipush (-2), 2) := by decide +kernel
theorem dX6_reaction_28 : decode cX6_reaction 28 = .ok (.invokevirtual 47, 3) := by decide +kernel
theorem dX6_reaction_31 : decode cX6_reaction 31 = .ok (.ireturn, 1) := by decide +kernel
theorem dX6_reaction_32 : decode cX6_reaction 32 = .ok (.aload_n 3, 1) := by decide +kernel
theorem dX6_reaction_33 : decode cX6_reaction 33 = .ok (.getfield 127, 3) := by decide +kernel
theorem dX6_reaction_36 : decode cX6_reaction 36 = .ok (.istore 4, 2) := by decide +kernel
theorem dX6_reaction_38 : decode cX6_reaction 38 = .ok (.aload_n 3, 1) := by decide +kernel
theorem dX6_reaction_39 : decode cX6_reaction 39 = .ok (.iload_n 2, 1) := by decide +kernel
theorem dX6_reaction_40 : decode cX6_reaction 40 = .ok (.putfield 127, 3) := by decide +kernel
theorem dX6_reaction_43 : decode cX6_reaction 43 = .ok (.iload 4, 2) := by decide +kernel
theorem dX6_reaction_45 : decode cX6_reaction 45 = .ok (.ireturn, 1) := by decide +kernel
theorem dX6_update_0 : decode cX6_update 0 = .ok (.aload_n 0, 1) := by decide +kernel
theorem dX6_update_1 : decode cX6_update 1 = .ok (.iload_n 1, 1) := by decide +kernel
theorem dX6_update_2 : decode cX6_update 2 = .ok (.invokevirtual 76, 3) := by decide +kernel
theorem dX6_update_5 : decode cX6_update 5 = .ok (.astore_n 3, 1) := by decide +kernel
theorem dX6_update_6 : decode cX6_update 6 = .ok (.aload_n 0, 1) := by decide +kernel
theorem dX6_update_7 : decode cX6_update 7 = .ok (.iload_n 2, 1) := by decide +kernel
theorem dX6_update_8 : decode cX6_update 8 = .ok (.invokevirtual 58, 3) := by decide +kernel
theorem dX6_update_11 : decode cX6_update 11 = .ok (.astore 4, 2) := by decide +kernel
theorem dX6_update_13 : decode cX6_update 13 = .ok (.aload_n 3, 1) := by decide +kernel
theorem dX6_update_14 : decode cX6_update 14 = .ok (.ifnull 8, 3) := by decide +kernel
theorem dX6_update_17 : decode cX6_update 17 = .ok (.aload 4, 2) := by decide +kernel
theorem dX6_update_19 : decode cX6_update 19 = .ok (.ifnonnull 9, 3) := by decide +kernel
theorem dX6_update_22 : decode cX6_update 22 = .ok (.aload_n 0, 1) := by decide +kernel
theorem dX6_update_23 : decode cX6_update 23 = .ok (.iconst (-1), 1) := by decide +kernel
theorem dX6_update_24 : decode cX6_update 24 = .ok (.invokevirtual 47, 3) := by decide +kernel
theorem dX6_update_27 : decode cX6_update 27 = .ok (.ireturn, 1) := by decide +kernel
theorem dX6_update_28 : decode cX6_update 28 = .ok (.aload_n 3, 1) := by decide +kernel
theorem dX6_update_29 : decode cX6_update 29 = .ok (.iload_n 2, 1) := by decide +kernel
theorem dX6_update_30 : decode cX6_update 30 = .ok (.invokevirtual 84, 3) := by decide +kernel
theorem dX6_update_33 : decode cX6_update 33 = .ok (.astore 5, 2) := by decide +kernel
theorem dX6_update_35 : decode cX6_update 35 = .ok (.aload 5, 2) := by decide +kernel
theorem dX6_update_37 : decode cX6_update 37 = .ok (.ifnull 16, 3) := by decide +kernel
theorem dX6_update_40 : decode cX6_update 40 = .ok (.aload 5, 2) := by decide +kernel
theorem dX6_update_42 : decode cX6_update 42 = .ok (.getfield 130, 3) := by decide +kernel
theorem dX6_update_45 : decode cX6_update 45 = .ok (.aload 4, 2) := by decide +kernel
theorem dX6_update_47 : decode cX6_update 47 = .ok (.getfield 70, 3) := by decide +kernel
theorem dX6_update_50 : decode cX6_update 50 = .ok (.if_icmp .ne 10, 3) := by decide +kernel
theorem dX6_update_53 : decode cX6_update 53 = .ok (.aload_n 0, 1) := by decide +kernel
theorem dX6_update_54 : decode cX6_update 54 = .ok (.bipush (-3), 2) := by decide +kernel
theorem dX6_update_56 : decode cX6_update 56 = .ok (.invokevirtual 47, 3) := by decide +kernel
theorem dX6_update_59 : decode cX6_update 59 = .ok (.ireturn, 1) := by decide +kernel
theorem dX6_update_60 : decode cX6_update 60 = .ok (.aload 5, 2) := by decide +kernel
theorem dX6_update_62 : decode cX6_update 62 = .ok (.aload 4, 2) := by decide +kernel
theorem dX6_update_64 : decode cX6_update 64 = .ok (.getfield 70, 3) := by decide +kernel
theorem dX6_update_67 : decode cX6_update 67 = .ok (.iconst 4, 1) := by decide +kernel
theorem dX6_update_68 : decode cX6_update 68 = .ok (.invokevirtual 133, 3) := by decide +kernel
theorem dX6_update_71 : decode cX6_update 71 = .ok (.iconst 1, 1) := by decide +kernel
theorem dX6_update_72 : decode cX6_update 72 = .ok (.ireturn, 1) := by decide +kernel
theorem dX6_reset_0 : decode cX6_reset 0 = .ok (.aload_n 0, 1) := by decide +kernel
theorem dX6_reset_1 : decode cX6_reset 1 = .ok (.iload_n 1, 1) := by decide +kernel
theorem dX6_reset_2 : decode cX6_reset 2 = .ok (.invokevirtual 76, 3) := by decide +kernel
theorem dX6_reset_5 : decode cX6_reset 5 = .ok (.astore_n 2, 1) := by decide +kernel
theorem dX6_reset_6 : decode cX6_reset 6 = .ok (.aload_n 2, 1) := by decide +kernel
theorem dX6_reset_7 : decode cX6_reset 7 = .ok (.ifnonnull 9, 3) := by decide +kernel
theorem dX6_reset_10 : decode cX6_reset 10 = .ok (.aload_n 0, 1) := by decide +kernel
theorem dX6_reset_11 : decode cX6_reset 11 = .ok (.iconst (-1), 1) := by decide +kernel
theorem dX6_reset_12 : decode cX6_reset 12 = .ok (.invokevirtual 47, 3) := by decide +kernel
theorem dX6_reset_15 : decode cX6_reset 15 = .ok (.ireturn, 1) := by decide +kernel
theorem dX6_reset_16 : decode cX6_reset 16 = .ok (.aload_n 2, 1) := by decide +kernel
theorem dX6_reset_17 : decode cX6_reset 17 = .ok (.iconst 0, 1) := by decide +kernel
theorem dX6_reset_18 : decode cX6_reset 18 = .ok (.putfield 80, 3) := by decide +kernel
theorem dX6_reset_21 : decode cX6_reset 21 = .ok (.aload_n 2, 1) := by decide +kernel
theorem dX6_reset_22 : decode cX6_reset 22 = .ok (.getfield 108, 3) := by decide +kernel
theorem dX6_reset_25 : decode cX6_reset 25 = .ok (.lconst 0, 1) := by decide +kernel
theorem dX6_reset_26 : decode cX6_reset 26 = .ok (.invokestatic 137, 3) := by decide +kernel
theorem dX6_reset_29 : decode cX6_reset 29 = .ok (.iconst 0, 1) := by decide +kernel
theorem dX6_reset_30 : decode cX6_reset 30 = .ok (.istore_n 3, 1) := by decide +kernel
theorem dX6_reset_31 : decode cX6_reset 31 = .ok (.iconst 1, 1) := by decide +kernel
theorem dX6_reset_32 : decode cX6_reset 32 = .ok (.istore 4, 2) := by decide +kernel
theorem dX6_reset_34 : decode cX6_reset 34 = .ok (.iload 4, 2) := by decide +kernel
theorem dX6_reset_36 : decode cX6_reset 36 = .ok (.aload_n 0, 1) := by decide +kernel
theorem dX6_reset_37 : decode cX6_reset 37 = .ok (.getfield 97, 3) := by decide +kernel
theorem dX6_reset_40 : decode cX6_reset 40 = .ok (.if_icmp .gt 49, 3) := by decide +kernel
theorem dX6_reset_43 : decode cX6_reset 43 = .ok (.aload_n 2, 1) := by decide +kernel
theorem dX6_reset_44 : decode cX6_reset 44 = .ok (.iload 4, 2) := by decide +kernel
theorem dX6_reset_46 : decode cX6_reset 46 = .ok (.invokevirtual 84, 3) := by decide +kernel
theorem dX6_reset_49 : decode cX6_reset 49 = .ok (.astore 5, 2) := by decide +kernel
theorem dX6_reset_51 : decode cX6_reset 51 = .ok (.aload_n 0, 1) := by decide +kernel
theorem dX6_reset_52 : decode cX6_reset 52 = .ok (.iload 4, 2) := by decide +kernel
theorem dX6_reset_54 : decode cX6_reset 54 = .ok (.invokevirtual 58, 3) := by decide +kernel
theorem dX6_reset_57 : decode cX6_reset 57 = .ok (.astore 6, 2) := by decide +kernel
theorem dX6_reset_59 : decode cX6_reset 59 = .ok (.aload 5, 2) := by decide +kernel
theorem dX6_reset_61 : decode cX6_reset 61 = .ok (.ifnull 22, 3) := by decide +kernel
theorem dX6_reset_64 : decode cX6_reset 64 = .ok (.aload 6, 2) := by decide +kernel
theorem dX6_reset_66 : decode cX6_reset 66 = .ok (.ifnull 17, 3) := by decide +kernel
theorem dX6_reset_69 : decode cX6_reset 69 = .ok (.aload 5, 2) := by decide +kernel
theorem dX6_reset_71 : decode cX6_reset 71 = .ok (.aload 6, 2) := by decide +kernel
theorem dX6_reset_73 : decode cX6_reset 73 = .ok (.getfield 70, 3) := by decide +kernel
theorem dX6_reset_76 : decode cX6_reset 76 = .ok (.iconst 0, 1) := by decide +kernel
theorem dX6_reset_77 : decode cX6_reset 77 = .ok (.invokevirtual 133, 3) := by decide +kernel
theorem dX6_reset_80 : decode cX6_reset 80 = .ok (.iinc 3 1, 3) := by decide +kernel
theorem dX6_reset_83 : decode cX6_reset 83 = .ok (.iinc 4 1, 3) := by decide +kernel
theorem dX6_reset_86 : decode cX6_reset 86 = .ok (.goto (-52), 3) := by decide +kernel
theorem dX6_reset_89 : decode cX6_reset 89 = .ok (.iload_n 3, 1) := by decide +kernel
theorem dX6_reset_90 : decode cX6_reset 90 = .ok (.ireturn, 1) := by decide +kernel
theorem dX6_fault_0 : decode cX6_fault 0 = .ok (.aload_n 0, 1) := by decide +kernel
theorem dX6_fault_1 : decode cX6_fault 1 = .ok (.iload_n 1, 1) := by decide +kernel
theorem dX6_fault_2 : decode cX6_fault 2 = .ok (.invokevirtual 76, 3) := by decide +kernel
theorem dX6_fault_5 : decode cX6_fault 5 = .ok (.astore_n 3, 1) := by decide +kernel
theorem dX6_fault_6 : decode cX6_fault 6 = .ok (.aload_n 3, 1) := by decide +kernel
theorem dX6_fault_7 : decode cX6_fault 7 = .ok (.ifnonnull 9, 3) := by decide +kernel
theorem dX6_fault_10 : decode cX6_fault 10 = .ok (.aload_n 0, 1) := by decide +kernel
theorem dX6_fault_11 : decode cX6_fault 11 = .ok (.iconst (-1), 1) := by decide +kernel
theorem dX6_fault_12 : decode cX6_fault 12 = .ok (.invokevirtual 47, 3) := by decide +kernel
theorem dX6_fault_15 : decode cX6_fault 15 = .ok (.ireturn, 1) := by decide +kernel
theorem dX6_fault_16 : decode cX6_fault 16 = .ok (.iload_n 2, 1) := by decide +kernel
theorem dX6_fault_17 : decode cX6_fault 17 = .ok (.tableswitch 77 0 5 #[39, 44, 49, 54, 59, 64], 39) := by decide +kernel
theorem dX6_fault_56 : decode cX6_fault 56 = .ok (.aload_n 3, 1) := by decide +kernel
theorem dX6_fault_57 : decode cX6_fault 57 = .ok (.getfield 143, 3) := by decide +kernel
theorem dX6_fault_60 : decode cX6_fault 60 = .ok (.ireturn, 1) := by decide +kernel
theorem dX6_fault_61 : decode cX6_fault 61 = .ok (.aload_n 3, 1) := by decide +kernel
theorem dX6_fault_62 : decode cX6_fault 62 = .ok (.getfield 146, 3) := by decide +kernel
theorem dX6_fault_65 : decode cX6_fault 65 = .ok (.ireturn, 1) := by decide +kernel
theorem dX6_fault_66 : decode cX6_fault 66 = .ok (.aload_n 3, 1) := by decide +kernel
theorem dX6_fault_67 : decode cX6_fault 67 = .ok (.getfield 149, 3) := by decide +kernel
theorem dX6_fault_70 : decode cX6_fault 70 = .ok (.ireturn, 1) := by decide +kernel
theorem dX6_fault_71 : decode cX6_fault 71 = .ok (.aload_n 3, 1) := by decide +kernel
theorem dX6_fault_72 : decode cX6_fault 72 = .ok (.getfield 152, 3) := by decide +kernel
theorem dX6_fault_75 : decode cX6_fault 75 = .ok (.ireturn, 1) := by decide +kernel
theorem dX6_fault_76 : decode cX6_fault 76 = .ok (.aload_n 3, 1) := by decide +kernel
theorem dX6_fault_77 : decode cX6_fault 77 = .ok (.getfield 155, 3) := by decide +kernel
theorem dX6_fault_80 : decode cX6_fault 80 = .ok (.ireturn, 1) := by decide +kernel
theorem dX6_fault_81 : decode cX6_fault 81 = .ok (.aload_n 3, 1) := by decide +kernel
theorem dX6_fault_82 : decode cX6_fault 82 = .ok (.getfield 80, 3) := by decide +kernel
theorem dX6_fault_85 : decode cX6_fault 85 = .ok (.ifCond .eq 7, 3) := by decide +kernel
theorem dX6_fault_88 : decode cX6_fault 88 = .ok (.iconst 1, 1) := by decide +kernel
theorem dX6_fault_89 : decode cX6_fault 89 = .ok (.goto 4, 3) := by decide +kernel
theorem dX6_fault_92 : decode cX6_fault 92 = .ok (.iconst 0, 1) := by decide +kernel
theorem dX6_fault_93 : decode cX6_fault 93 = .ok (.ireturn, 1) := by decide +kernel
theorem dX6_fault_94 : decode cX6_fault 94 = .ok (.aload_n 0, 1) := by decide +kernel
theorem dX6_fault_95 : decode cX6_fault 95 = .ok (.bipush (-2), 2) := by decide +kernel
theorem dX6_fault_97 : decode cX6_fault 97 = .ok (.invokevirtual 47, 3) := by decide +kernel
theorem dX6_fault_100 : decode cX6_fault 100 = .ok (.ireturn, 1) := by decide +kernel
theorem dX6_same_0 : decode cX6_same 0 = .ok (.aload_n 0, 1) := by decide +kernel
theorem dX6_same_1 : decode cX6_same 1 = .ok (.iload_n 1, 1) := by decide +kernel
theorem dX6_same_2 : decode cX6_same 2 = .ok (.iload_n 3, 1) := by decide +kernel
theorem dX6_same_3 : decode cX6_same 3 = .ok (.invokevirtual 120, 3) := by decide +kernel
theorem dX6_same_6 : decode cX6_same 6 = .ok (.astore 4, 2) := by decide +kernel
theorem dX6_same_8 : decode cX6_same 8 = .ok (.aload_n 0, 1) := by decide +kernel
theorem dX6_same_9 : decode cX6_same 9 = .ok (.iload_n 2, 1) := by decide +kernel
theorem dX6_same_10 : decode cX6_same 10 = .ok (.iload_n 3, 1) := by decide +kernel
theorem dX6_same_11 : decode cX6_same 11 = .ok (.invokevirtual 120, 3) := by decide +kernel
theorem dX6_same_14 : decode cX6_same 14 = .ok (.astore 5, 2) := by decide +kernel
theorem dX6_same_16 : decode cX6_same 16 = .ok (.aload 4, 2) := by decide +kernel
theorem dX6_same_18 : decode cX6_same 18 = .ok (.ifnull 21, 3) := by decide +kernel
theorem dX6_same_21 : decode cX6_same 21 = .ok (.aload 5, 2) := by decide +kernel
theorem dX6_same_23 : decode cX6_same 23 = .ok (.ifnull 16, 3) := by decide +kernel
theorem dX6_same_26 : decode cX6_same 26 = .ok (.aload 4, 2) := by decide +kernel
theorem dX6_same_28 : decode cX6_same 28 = .ok (.getfield 130, 3) := by decide +kernel
theorem dX6_same_31 : decode cX6_same 31 = .ok (.aload 5, 2) := by decide +kernel
theorem dX6_same_33 : decode cX6_same 33 = .ok (.getfield 130, 3) := by decide +kernel
theorem dX6_same_36 : decode cX6_same 36 = .ok (.if_icmp .eq 5, 3) := by decide +kernel
theorem dX6_same_39 : decode cX6_same 39 = .ok (.iconst 0, 1) := by decide +kernel
theorem dX6_same_40 : decode cX6_same 40 = .ok (.ireturn, 1) := by decide +kernel
theorem dX6_same_41 : decode cX6_same 41 = .ok (.iconst 0, 1) := by decide +kernel
theorem dX6_same_42 : decode cX6_same 42 = .ok (.istore 6, 2) := by decide +kernel
theorem dX6_same_44 : decode cX6_same 44 = .ok (.iload 6, 2) := by decide +kernel
theorem dX6_same_46 : decode cX6_same 46 = .ok (.bipush 8, 2) := by decide +kernel
theorem dX6_same_48 : decode cX6_same 48 = .ok (.if_icmp .ge 35, 3) := by decide +kernel
theorem dX6_same_51 : decode cX6_same 51 = .ok (.aload 4, 2) := by decide +kernel
theorem dX6_same_53 : decode cX6_same 53 = .ok (.getfield 124, 3) := by decide +kernel
theorem dX6_same_56 : decode cX6_same 56 = .ok (.iload 6, 2) := by decide +kernel
theorem dX6_same_58 : decode cX6_same 58 = .ok (.invokestatic 112, 3) := by decide +kernel
theorem dX6_same_61 : decode cX6_same 61 = .ok (.aload 5, 2) := by decide +kernel
theorem dX6_same_63 : decode cX6_same 63 = .ok (.getfield 124, 3) := by decide +kernel
theorem dX6_same_66 : decode cX6_same 66 = .ok (.iload 6, 2) := by decide +kernel
theorem dX6_same_68 : decode cX6_same 68 = .ok (.invokestatic 112, 3) := by decide +kernel
theorem dX6_same_71 : decode cX6_same 71 = .ok (.lcmp, 1) := by decide +kernel
theorem dX6_same_72 : decode cX6_same 72 = .ok (.ifCond .eq 5, 3) := by decide +kernel
theorem dX6_same_75 : decode cX6_same 75 = .ok (.iconst 0, 1) := by decide +kernel
theorem dX6_same_76 : decode cX6_same 76 = .ok (.ireturn, 1) := by decide +kernel
theorem dX6_same_77 : decode cX6_same 77 = .ok (.iinc 6 1, 3) := by decide +kernel
theorem dX6_same_80 : decode cX6_same 80 = .ok (.goto (-36), 3) := by decide +kernel
theorem dX6_same_83 : decode cX6_same 83 = .ok (.iconst 1, 1) := by decide +kernel
theorem dX6_same_84 : decode cX6_same 84 = .ok (.ireturn, 1) := by decide +kernel
theorem dX6_handle_0 : decode cX6_handle 0 = .ok (.aload_n 0, 1) := by decide +kernel
theorem dX6_handle_1 : decode cX6_handle 1 = .ok (.iload_n 1, 1) := by decide +kernel
theorem dX6_handle_2 : decode cX6_handle 2 = .ok (.iload_n 2, 1) := by decide +kernel
theorem dX6_handle_3 : decode cX6_handle 3 = .ok (.invokevirtual 120, 3) := by decide +kernel
theorem dX6_handle_6 : decode cX6_handle 6 = .ok (.astore_n 3, 1) := by decide +kernel
theorem dX6_handle_7 : decode cX6_handle 7 = .ok (.aload_n 3, 1) := by decide +kernel
theorem dX6_handle_8 : decode cX6_handle 8 = .ok (.ifnull 21, 3) := by decide +kernel
theorem dX6_handle_11 : decode cX6_handle 11 = .ok (.aload_n 3, 1) := by decide +kernel
theorem dX6_handle_12 : decode cX6_handle 12 = .ok (.getfield 158, 3) := by decide +kernel
theorem dX6_handle_15 : decode cX6_handle 15 = .ok (.iconst (-1), 1) := by decide +kernel
theorem dX6_handle_16 : decode cX6_handle 16 = .ok (.if_icmp .eq 13, 3) := by decide +kernel
theorem dX6_handle_19 : decode cX6_handle 19 = .ok (.new 161, 3) := by decide +kernel
theorem dX6_handle_22 : decode cX6_handle 22 = .ok (.dup, 1) := by decide +kernel
theorem dX6_handle_23 : decode cX6_handle 23 = .ok (.ldc 163, 2) := by decide +kernel
theorem dX6_handle_25 : decode cX6_handle 25 = .ok (.invokespecial 165, 3) := by decide +kernel
theorem dX6_handle_28 : decode cX6_handle 28 = .ok (.athrow, 1) := by decide +kernel
theorem dX6_handle_29 : decode cX6_handle 29 = .ok (.aload_n 0, 1) := by decide +kernel
theorem dX6_handle_30 : decode cX6_handle 30 = .ok (.iload_n 1, 1) := by decide +kernel
theorem dX6_handle_31 : decode cX6_handle 31 = .ok (.invokevirtual 76, 3) := by decide +kernel
theorem dX6_handle_34 : decode cX6_handle 34 = .ok (.ifnull 11, 3) := by decide +kernel
theorem dX6_handle_37 : decode cX6_handle 37 = .ok (.aload_n 0, 1) := by decide +kernel
theorem dX6_handle_38 : decode cX6_handle 38 = .ok (.iload_n 2, 1) := by decide +kernel
theorem dX6_handle_39 : decode cX6_handle 39 = .ok (.invokevirtual 58, 3) := by decide +kernel
theorem dX6_handle_42 : decode cX6_handle 42 = .ok (.ifnonnull 9, 3) := by decide +kernel
theorem dX6_handle_45 : decode cX6_handle 45 = .ok (.aload_n 0, 1) := by decide +kernel
theorem dX6_handle_46 : decode cX6_handle 46 = .ok (.iconst (-1), 1) := by decide +kernel
theorem dX6_handle_47 : decode cX6_handle 47 = .ok (.invokevirtual 47, 3) := by decide +kernel
theorem dX6_handle_50 : decode cX6_handle 50 = .ok (.ireturn, 1) := by decide +kernel
theorem dX6_handle_51 : decode cX6_handle 51 = .ok (.aload_n 0, 1) := by decide +kernel
theorem dX6_handle_52 : decode cX6_handle 52 = .ok (.bipush (-3), 2) := by decide +kernel
theorem dX6_handle_54 : decode cX6_handle 54 = .ok (.invokevirtual 47, 3) := by decide +kernel
theorem dX6_handle_57 : decode cX6_handle 57 = .ok (.ireturn, 1) := by decide +kernel
theorem dX6_octet_0 : decode cX6_octet 0 = .ok (.aload_n 0, 1) := by decide +kernel
theorem dX6_octet_1 : decode cX6_octet 1 = .ok (.iload_n 1, 1) := by decide +kernel
theorem dX6_octet_2 : decode cX6_octet 2 = .ok (.invokevirtual 58, 3) := by decide +kernel
theorem dX6_octet_5 : decode cX6_octet 5 = .ok (.astore_n 3, 1) := by decide +kernel
theorem dX6_octet_6 : decode cX6_octet 6 = .ok (.aload_n 3, 1) := by decide +kernel
theorem dX6_octet_7 : decode cX6_octet 7 = .ok (.ifnull 16, 3) := by decide +kernel
theorem dX6_octet_10 : decode cX6_octet 10 = .ok (.iload_n 2, 1) := by decide +kernel
theorem dX6_octet_11 : decode cX6_octet 11 = .ok (.ifCond .lt 12, 3) := by decide +kernel
theorem dX6_octet_14 : decode cX6_octet 14 = .ok (.iload_n 2, 1) := by decide +kernel
theorem dX6_octet_15 : decode cX6_octet 15 = .ok (.aload_n 3, 1) := by decide +kernel
theorem dX6_octet_16 : decode cX6_octet 16 = .ok (.getfield 168, 3) := by decide +kernel
theorem dX6_octet_19 : decode cX6_octet 19 = .ok (.arraylength, 1) := by decide +kernel
theorem dX6_octet_20 : decode cX6_octet 20 = .ok (.if_icmp .lt 13, 3) := by decide +kernel
theorem dX6_octet_23 : decode cX6_octet 23 = .ok (.new 171, 3) := by decide +kernel
theorem dX6_octet_26 : decode cX6_octet 26 = .ok (.dup, 1) := by decide +kernel
theorem dX6_octet_27 : decode cX6_octet 27 = .ok (.ldc 173, 2) := by decide +kernel
theorem dX6_octet_29 : decode cX6_octet 29 = .ok (.invokespecial 175, 3) := by decide +kernel
theorem dX6_octet_32 : decode cX6_octet 32 = .ok (.athrow, 1) := by decide +kernel
theorem dX6_octet_33 : decode cX6_octet 33 = .ok (.aload_n 3, 1) := by decide +kernel
theorem dX6_octet_34 : decode cX6_octet 34 = .ok (.getfield 168, 3) := by decide +kernel
theorem dX6_octet_37 : decode cX6_octet 37 = .ok (.iload_n 2, 1) := by decide +kernel
theorem dX6_octet_38 : decode cX6_octet 38 = .ok (.baload, 1) := by decide +kernel
theorem dX6_octet_39 : decode cX6_octet 39 = .ok (.ireturn, 1) := by decide +kernel
theorem dX6_divide_0 : decode cX6_divide 0 = .ok (.lload_n 3, 1) := by decide +kernel
theorem dX6_divide_1 : decode cX6_divide 1 = .ok (.lconst 0, 1) := by decide +kernel
theorem dX6_divide_2 : decode cX6_divide 2 = .ok (.lcmp, 1) := by decide +kernel
theorem dX6_divide_3 : decode cX6_divide 3 = .ok (.ifCond .ne 13, 3) := by decide +kernel
theorem dX6_divide_6 : decode cX6_divide 6 = .ok (.new 176, 3) := by decide +kernel
theorem dX6_divide_9 : decode cX6_divide 9 = .ok (.dup, 1) := by decide +kernel
theorem dX6_divide_10 : decode cX6_divide 10 = .ok (.ldc 178, 2) := by decide +kernel
theorem dX6_divide_12 : decode cX6_divide 12 = .ok (.invokespecial 180, 3) := by decide +kernel
theorem dX6_divide_15 : decode cX6_divide 15 = .ok (.athrow, 1) := by decide +kernel
theorem dX6_divide_16 : decode cX6_divide 16 = .ok (.lload_n 1, 1) := by decide +kernel
theorem dX6_divide_17 : decode cX6_divide 17 = .ok (.lload_n 3, 1) := by decide +kernel
theorem dX6_divide_18 : decode cX6_divide 18 = .ok (.ldiv, 1) := by decide +kernel
theorem dX6_divide_19 : decode cX6_divide 19 = .ok (.lreturn, 1) := by decide +kernel
theorem dX6_refused_0 : decode cX6_refused 0 = .ok (.aload_n 0, 1) := by decide +kernel
theorem dX6_refused_1 : decode cX6_refused 1 = .ok (.getfield 181, 3) := by decide +kernel
theorem dX6_refused_4 : decode cX6_refused 4 = .ok (.ireturn, 1) := by decide +kernel
theorem dX6_refuse_0 : decode cX6_refuse 0 = .ok (.aload_n 0, 1) := by decide +kernel
theorem dX6_refuse_1 : decode cX6_refuse 1 = .ok (.dup, 1) := by decide +kernel
theorem dX6_refuse_2 : decode cX6_refuse 2 = .ok (.getfield 181, 3) := by decide +kernel
theorem dX6_refuse_5 : decode cX6_refuse 5 = .ok (.iconst 1, 1) := by decide +kernel
theorem dX6_refuse_6 : decode cX6_refuse 6 = .ok (.iadd, 1) := by decide +kernel
theorem dX6_refuse_7 : decode cX6_refuse 7 = .ok (.putfield 181, 3) := by decide +kernel
theorem dX6_refuse_10 : decode cX6_refuse 10 = .ok (.iload_n 1, 1) := by decide +kernel
theorem dX6_refuse_11 : decode cX6_refuse 11 = .ok (.ireturn, 1) := by decide +kernel
theorem dX6_controllerAt_0 : decode cX6_controllerAt 0 = .ok (.iload_n 1, 1) := by decide +kernel
theorem dX6_controllerAt_1 : decode cX6_controllerAt 1 = .ok (.ifCond .lt 12, 3) := by decide +kernel
theorem dX6_controllerAt_4 : decode cX6_controllerAt 4 = .ok (.iload_n 1, 1) := by decide +kernel
theorem dX6_controllerAt_5 : decode cX6_controllerAt 5 = .ok (.aload_n 0, 1) := by decide +kernel
theorem dX6_controllerAt_6 : decode cX6_controllerAt 6 = .ok (.getfield 25, 3) := by decide +kernel
theorem dX6_controllerAt_9 : decode cX6_controllerAt 9 = .ok (.arraylength, 1) := by decide +kernel
theorem dX6_controllerAt_10 : decode cX6_controllerAt 10 = .ok (.if_icmp .lt 5, 3) := by decide +kernel
theorem dX6_controllerAt_13 : decode cX6_controllerAt 13 = .ok (.aconst_null, 1) := by decide +kernel
theorem dX6_controllerAt_14 : decode cX6_controllerAt 14 = .ok (.areturn, 1) := by decide +kernel
theorem dX6_controllerAt_15 : decode cX6_controllerAt 15 = .ok (.aload_n 0, 1) := by decide +kernel
theorem dX6_controllerAt_16 : decode cX6_controllerAt 16 = .ok (.getfield 25, 3) := by decide +kernel
theorem dX6_controllerAt_19 : decode cX6_controllerAt 19 = .ok (.iload_n 1, 1) := by decide +kernel
theorem dX6_controllerAt_20 : decode cX6_controllerAt 20 = .ok (.aaload, 1) := by decide +kernel
theorem dX6_controllerAt_21 : decode cX6_controllerAt 21 = .ok (.areturn, 1) := by decide +kernel
theorem dX6_newestOf_0 : decode cX6_newestOf 0 = .ok (.iload_n 1, 1) := by decide +kernel
theorem dX6_newestOf_1 : decode cX6_newestOf 1 = .ok (.iconst 1, 1) := by decide +kernel
theorem dX6_newestOf_2 : decode cX6_newestOf 2 = .ok (.if_icmp .lt 12, 3) := by decide +kernel
theorem dX6_newestOf_5 : decode cX6_newestOf 5 = .ok (.iload_n 1, 1) := by decide +kernel
theorem dX6_newestOf_6 : decode cX6_newestOf 6 = .ok (.aload_n 0, 1) := by decide +kernel
theorem dX6_newestOf_7 : decode cX6_newestOf 7 = .ok (.getfield 32, 3) := by decide +kernel
theorem dX6_newestOf_10 : decode cX6_newestOf 10 = .ok (.arraylength, 1) := by decide +kernel
theorem dX6_newestOf_11 : decode cX6_newestOf 11 = .ok (.if_icmp .le 5, 3) := by decide +kernel
theorem dX6_newestOf_14 : decode cX6_newestOf 14 = .ok (.aconst_null, 1) := by decide +kernel
theorem dX6_newestOf_15 : decode cX6_newestOf 15 = .ok (.areturn, 1) := by decide +kernel
theorem dX6_newestOf_16 : decode cX6_newestOf 16 = .ok (.aload_n 0, 1) := by decide +kernel
theorem dX6_newestOf_17 : decode cX6_newestOf 17 = .ok (.getfield 32, 3) := by decide +kernel
theorem dX6_newestOf_20 : decode cX6_newestOf 20 = .ok (.iload_n 1, 1) := by decide +kernel
theorem dX6_newestOf_21 : decode cX6_newestOf 21 = .ok (.iconst 1, 1) := by decide +kernel
theorem dX6_newestOf_22 : decode cX6_newestOf 22 = .ok (.isub, 1) := by decide +kernel
theorem dX6_newestOf_23 : decode cX6_newestOf 23 = .ok (.aaload, 1) := by decide +kernel
theorem dX6_newestOf_24 : decode cX6_newestOf 24 = .ok (.areturn, 1) := by decide +kernel
theorem dX6_classAt_0 : decode cX6_classAt 0 = .ok (.aload_n 0, 1) := by decide +kernel
theorem dX6_classAt_1 : decode cX6_classAt 1 = .ok (.iload_n 1, 1) := by decide +kernel
theorem dX6_classAt_2 : decode cX6_classAt 2 = .ok (.invokevirtual 76, 3) := by decide +kernel
theorem dX6_classAt_5 : decode cX6_classAt 5 = .ok (.astore_n 3, 1) := by decide +kernel
theorem dX6_classAt_6 : decode cX6_classAt 6 = .ok (.aload_n 3, 1) := by decide +kernel
theorem dX6_classAt_7 : decode cX6_classAt 7 = .ok (.ifnonnull 7, 3) := by decide +kernel
theorem dX6_classAt_10 : decode cX6_classAt 10 = .ok (.aconst_null, 1) := by decide +kernel
theorem dX6_classAt_11 : decode cX6_classAt 11 = .ok (.goto 8, 3) := by decide +kernel
theorem dX6_classAt_14 : decode cX6_classAt 14 = .ok (.aload_n 3, 1) := by decide +kernel
theorem dX6_classAt_15 : decode cX6_classAt 15 = .ok (.iload_n 2, 1) := by decide +kernel
theorem dX6_classAt_16 : decode cX6_classAt 16 = .ok (.invokevirtual 84, 3) := by decide +kernel
theorem dX6_classAt_19 : decode cX6_classAt 19 = .ok (.areturn, 1) := by decide +kernel
theorem dX6_putOctet_0 : decode cX6_putOctet 0 = .ok (.aload_n 0, 1) := by decide +kernel
theorem dX6_putOctet_1 : decode cX6_putOctet 1 = .ok (.getfield 51, 3) := by decide +kernel
theorem dX6_putOctet_4 : decode cX6_putOctet 4 = .ok (.ifCond .lt 35, 3) := by decide +kernel
theorem dX6_putOctet_7 : decode cX6_putOctet 7 = .ok (.aload_n 0, 1) := by decide +kernel
theorem dX6_putOctet_8 : decode cX6_putOctet 8 = .ok (.getfield 51, 3) := by decide +kernel
theorem dX6_putOctet_11 : decode cX6_putOctet 11 = .ok (.aload_n 0, 1) := by decide +kernel
theorem dX6_putOctet_12 : decode cX6_putOctet 12 = .ok (.getfield 43, 3) := by decide +kernel
theorem dX6_putOctet_15 : decode cX6_putOctet 15 = .ok (.arraylength, 1) := by decide +kernel
theorem dX6_putOctet_16 : decode cX6_putOctet 16 = .ok (.if_icmp .ge 23, 3) := by decide +kernel
theorem dX6_putOctet_19 : decode cX6_putOctet 19 = .ok (.aload_n 0, 1) := by decide +kernel
theorem dX6_putOctet_20 : decode cX6_putOctet 20 = .ok (.getfield 43, 3) := by decide +kernel
theorem dX6_putOctet_23 : decode cX6_putOctet 23 = .ok (.aload_n 0, 1) := by decide +kernel
theorem dX6_putOctet_24 : decode cX6_putOctet 24 = .ok (.getfield 51, 3) := by decide +kernel
theorem dX6_putOctet_27 : decode cX6_putOctet 27 = .ok (.iload_n 1, 1) := by decide +kernel
theorem dX6_putOctet_28 : decode cX6_putOctet 28 = .ok (.bastore, 1) := by decide +kernel
theorem dX6_putOctet_29 : decode cX6_putOctet 29 = .ok (.aload_n 0, 1) := by decide +kernel
theorem dX6_putOctet_30 : decode cX6_putOctet 30 = .ok (.dup, 1) := by decide +kernel
theorem dX6_putOctet_31 : decode cX6_putOctet 31 = .ok (.getfield 51, 3) := by decide +kernel
theorem dX6_putOctet_34 : decode cX6_putOctet 34 = .ok (.iconst 1, 1) := by decide +kernel
theorem dX6_putOctet_35 : decode cX6_putOctet 35 = .ok (.iadd, 1) := by decide +kernel
theorem dX6_putOctet_36 : decode cX6_putOctet 36 = .ok (.putfield 51, 3) := by decide +kernel
theorem dX6_putOctet_39 : decode cX6_putOctet 39 = .ok (.return_, 1) := by decide +kernel
theorem dX6_addRunnable_0 : decode cX6_addRunnable 0 = .ok (.aload_n 0, 1) := by decide +kernel
theorem dX6_addRunnable_1 : decode cX6_addRunnable 1 = .ok (.getfield 97, 3) := by decide +kernel
theorem dX6_addRunnable_4 : decode cX6_addRunnable 4 = .ok (.bipush 20, 2) := by decide +kernel
theorem dX6_addRunnable_6 : decode cX6_addRunnable 6 = .ok (.if_icmp .lt 10, 3) := by decide +kernel
theorem dX6_addRunnable_9 : decode cX6_addRunnable 9 = .ok (.aload_n 0, 1) := by decide +kernel
theorem dX6_addRunnable_10 : decode cX6_addRunnable 10 = .ok (.bipush (-4), 2) := by decide +kernel
theorem dX6_addRunnable_12 : decode cX6_addRunnable 12 = .ok (.invokevirtual 47, 3) := by decide +kernel
theorem dX6_addRunnable_15 : decode cX6_addRunnable 15 = .ok (.ireturn, 1) := by decide +kernel
theorem dX6_addRunnable_16 : decode cX6_addRunnable 16 = .ok (.aload_n 0, 1) := by decide +kernel
theorem dX6_addRunnable_17 : decode cX6_addRunnable 17 = .ok (.dup, 1) := by decide +kernel
theorem dX6_addRunnable_18 : decode cX6_addRunnable 18 = .ok (.getfield 97, 3) := by decide +kernel
theorem dX6_addRunnable_21 : decode cX6_addRunnable 21 = .ok (.iconst 1, 1) := by decide +kernel
theorem dX6_addRunnable_22 : decode cX6_addRunnable 22 = .ok (.iadd, 1) := by decide +kernel
theorem dX6_addRunnable_23 : decode cX6_addRunnable 23 = .ok (.putfield 97, 3) := by decide +kernel
theorem dX6_addRunnable_26 : decode cX6_addRunnable 26 = .ok (.aload_n 0, 1) := by decide +kernel
theorem dX6_addRunnable_27 : decode cX6_addRunnable 27 = .ok (.aload_n 0, 1) := by decide +kernel
theorem dX6_addRunnable_28 : decode cX6_addRunnable 28 = .ok (.getfield 97, 3) := by decide +kernel
theorem dX6_addRunnable_31 : decode cX6_addRunnable 31 = .ok (.iconst 1, 1) := by decide +kernel
theorem dX6_addRunnable_32 : decode cX6_addRunnable 32 = .ok (.invokevirtual 184, 3) := by decide +kernel
theorem dX6_addRunnable_35 : decode cX6_addRunnable 35 = .ok (.aload_n 0, 1) := by decide +kernel
theorem dX6_addRunnable_36 : decode cX6_addRunnable 36 = .ok (.getfield 97, 3) := by decide +kernel
theorem dX6_addRunnable_39 : decode cX6_addRunnable 39 = .ok (.ireturn, 1) := by decide +kernel
theorem dX6_addEdition_0 : decode cX6_addEdition 0 = .ok (.iload_n 2, 1) := by decide +kernel
theorem dX6_addEdition_1 : decode cX6_addEdition 1 = .ok (.bipush 9, 2) := by decide +kernel
theorem dX6_addEdition_3 : decode cX6_addEdition 3 = .ok (.if_icmp .lt 10, 3) := by decide +kernel
theorem dX6_addEdition_6 : decode cX6_addEdition 6 = .ok (.aload_n 0, 1) := by decide +kernel
theorem dX6_addEdition_7 : decode cX6_addEdition 7 = .ok (.bipush (-4), 2) := by decide +kernel
theorem dX6_addEdition_9 : decode cX6_addEdition 9 = .ok (.invokevirtual 47, 3) := by decide +kernel
theorem dX6_addEdition_12 : decode cX6_addEdition 12 = .ok (.ireturn, 1) := by decide +kernel
theorem dX6_addEdition_13 : decode cX6_addEdition 13 = .ok (.aload_n 0, 1) := by decide +kernel
theorem dX6_addEdition_14 : decode cX6_addEdition 14 = .ok (.iload_n 1, 1) := by decide +kernel
theorem dX6_addEdition_15 : decode cX6_addEdition 15 = .ok (.iload_n 2, 1) := by decide +kernel
theorem dX6_addEdition_16 : decode cX6_addEdition 16 = .ok (.iconst 1, 1) := by decide +kernel
theorem dX6_addEdition_17 : decode cX6_addEdition 17 = .ok (.iadd, 1) := by decide +kernel
theorem dX6_addEdition_18 : decode cX6_addEdition 18 = .ok (.invokevirtual 184, 3) := by decide +kernel
theorem dX6_addEdition_21 : decode cX6_addEdition 21 = .ok (.iload_n 2, 1) := by decide +kernel
theorem dX6_addEdition_22 : decode cX6_addEdition 22 = .ok (.iconst 1, 1) := by decide +kernel
theorem dX6_addEdition_23 : decode cX6_addEdition 23 = .ok (.iadd, 1) := by decide +kernel
theorem dX6_addEdition_24 : decode cX6_addEdition 24 = .ok (.ireturn, 1) := by decide +kernel
theorem dX6_keepEdition_0 : decode cX6_keepEdition 0 = .ok (.aload_n 0, 1) := by decide +kernel
theorem dX6_keepEdition_1 : decode cX6_keepEdition 1 = .ok (.getfield 43, 3) := by decide +kernel
theorem dX6_keepEdition_4 : decode cX6_keepEdition 4 = .ok (.iconst 0, 1) := by decide +kernel
theorem dX6_keepEdition_5 : decode cX6_keepEdition 5 = .ok (.aload_n 0, 1) := by decide +kernel
theorem dX6_keepEdition_6 : decode cX6_keepEdition 6 = .ok (.getfield 51, 3) := by decide +kernel
theorem dX6_keepEdition_9 : decode cX6_keepEdition 9 = .ok (.invokestatic 187, 3) := by decide +kernel
theorem dX6_keepEdition_12 : decode cX6_keepEdition 12 = .ok (.astore_n 3, 1) := by decide +kernel
theorem dX6_keepEdition_13 : decode cX6_keepEdition 13 = .ok (.aload_n 3, 1) := by decide +kernel
theorem dX6_keepEdition_14 : decode cX6_keepEdition 14 = .ok (.iconst 1, 1) := by decide +kernel
theorem dX6_keepEdition_15 : decode cX6_keepEdition 15 = .ok (.invokestatic 191, 3) := by decide +kernel
theorem dX6_keepEdition_18 : decode cX6_keepEdition 18 = .ok (.astore 4, 2) := by decide +kernel
theorem dX6_keepEdition_20 : decode cX6_keepEdition 20 = .ok (.aload_n 3, 1) := by decide +kernel
theorem dX6_keepEdition_21 : decode cX6_keepEdition 21 = .ok (.iconst 2, 1) := by decide +kernel
theorem dX6_keepEdition_22 : decode cX6_keepEdition 22 = .ok (.invokestatic 191, 3) := by decide +kernel
theorem dX6_keepEdition_25 : decode cX6_keepEdition 25 = .ok (.astore 5, 2) := by decide +kernel
theorem dX6_keepEdition_27 : decode cX6_keepEdition 27 = .ok (.aload 5, 2) := by decide +kernel
theorem dX6_keepEdition_29 : decode cX6_keepEdition 29 = .ok (.ifnull 38, 3) := by decide +kernel
theorem dX6_keepEdition_32 : decode cX6_keepEdition 32 = .ok (.iload_n 1, 1) := by decide +kernel
theorem dX6_keepEdition_33 : decode cX6_keepEdition 33 = .ok (.iconst 1, 1) := by decide +kernel
theorem dX6_keepEdition_34 : decode cX6_keepEdition 34 = .ok (.if_icmp .lt 33, 3) := by decide +kernel
theorem dX6_keepEdition_37 : decode cX6_keepEdition 37 = .ok (.iload_n 1, 1) := by decide +kernel
theorem dX6_keepEdition_38 : decode cX6_keepEdition 38 = .ok (.aload_n 0, 1) := by decide +kernel
theorem dX6_keepEdition_39 : decode cX6_keepEdition 39 = .ok (.getfield 32, 3) := by decide +kernel
theorem dX6_keepEdition_42 : decode cX6_keepEdition 42 = .ok (.arraylength, 1) := by decide +kernel
theorem dX6_keepEdition_43 : decode cX6_keepEdition 43 = .ok (.if_icmp .gt 24, 3) := by decide +kernel
theorem dX6_keepEdition_46 : decode cX6_keepEdition 46 = .ok (.aload_n 0, 1) := by decide +kernel
end
section
theorem dX6_keepEdition_47 : decode cX6_keepEdition 47 = .ok (.getfield 32, 3) := by decide +kernel
theorem dX6_keepEdition_50 : decode cX6_keepEdition 50 = .ok (.iload_n 1, 1) := by decide +kernel
theorem dX6_keepEdition_51 : decode cX6_keepEdition 51 = .ok (.iconst 1, 1) := by decide +kernel
theorem dX6_keepEdition_52 : decode cX6_keepEdition 52 = .ok (.isub, 1) := by decide +kernel
theorem dX6_keepEdition_53 : decode cX6_keepEdition 53 = .ok (.new 30, 3) := by decide +kernel
theorem dX6_keepEdition_56 : decode cX6_keepEdition 56 = .ok (.dup, 1) := by decide +kernel
theorem dX6_keepEdition_57 : decode cX6_keepEdition 57 = .ok (.iload_n 2, 1) := by decide +kernel
theorem dX6_keepEdition_58 : decode cX6_keepEdition 58 = .ok (.aload_n 3, 1) := by decide +kernel
theorem dX6_keepEdition_59 : decode cX6_keepEdition 59 = .ok (.aload 4, 2) := by decide +kernel
theorem dX6_keepEdition_61 : decode cX6_keepEdition 61 = .ok (.aload 5, 2) := by decide +kernel
theorem dX6_keepEdition_63 : decode cX6_keepEdition 63 = .ok (.invokespecial 195, 3) := by decide +kernel
theorem dX6_keepEdition_66 : decode cX6_keepEdition 66 = .ok (.aastore, 1) := by decide +kernel
theorem dX6_keepEdition_67 : decode cX6_keepEdition 67 = .ok (.aload_n 0, 1) := by decide +kernel
theorem dX6_keepEdition_68 : decode cX6_keepEdition 68 = .ok (.iconst 0, 1) := by decide +kernel
theorem dX6_keepEdition_69 : decode cX6_keepEdition 69 = .ok (.putfield 51, 3) := by decide +kernel
theorem dX6_keepEdition_72 : decode cX6_keepEdition 72 = .ok (.return_, 1) := by decide +kernel
theorem dX6_callStart_0 : decode cX6_callStart 0 = .ok (.aload_n 1, 1) := by decide +kernel
theorem dX6_callStart_1 : decode cX6_callStart 1 = .ok (.iload_n 2, 1) := by decide +kernel
theorem dX6_callStart_2 : decode cX6_callStart 2 = .ok (.invokevirtual 84, 3) := by decide +kernel
theorem dX6_callStart_5 : decode cX6_callStart 5 = .ok (.astore_n 3, 1) := by decide +kernel
theorem dX6_callStart_6 : decode cX6_callStart 6 = .ok (.aload_n 0, 1) := by decide +kernel
theorem dX6_callStart_7 : decode cX6_callStart 7 = .ok (.iload_n 2, 1) := by decide +kernel
theorem dX6_callStart_8 : decode cX6_callStart 8 = .ok (.invokevirtual 58, 3) := by decide +kernel
theorem dX6_callStart_11 : decode cX6_callStart 11 = .ok (.astore 4, 2) := by decide +kernel
theorem dX6_callStart_13 : decode cX6_callStart 13 = .ok (.aload_n 3, 1) := by decide +kernel
theorem dX6_callStart_14 : decode cX6_callStart 14 = .ok (.ifnull 28, 3) := by decide +kernel
theorem dX6_callStart_17 : decode cX6_callStart 17 = .ok (.aload 4, 2) := by decide +kernel
theorem dX6_callStart_19 : decode cX6_callStart 19 = .ok (.ifnull 23, 3) := by decide +kernel
theorem dX6_callStart_22 : decode cX6_callStart 22 = .ok (.aload_n 3, 1) := by decide +kernel
theorem dX6_callStart_23 : decode cX6_callStart 23 = .ok (.getfield 130, 3) := by decide +kernel
theorem dX6_callStart_26 : decode cX6_callStart 26 = .ok (.aload 4, 2) := by decide +kernel
theorem dX6_callStart_28 : decode cX6_callStart 28 = .ok (.getfield 70, 3) := by decide +kernel
theorem dX6_callStart_31 : decode cX6_callStart 31 = .ok (.if_icmp .ne 11, 3) := by decide +kernel
theorem dX6_callStart_34 : decode cX6_callStart 34 = .ok (.aload 4, 2) := by decide +kernel
theorem dX6_callStart_36 : decode cX6_callStart 36 = .ok (.getfield 198, 3) := by decide +kernel
theorem dX6_callStart_39 : decode cX6_callStart 39 = .ok (.ifnonnull 5, 3) := by decide +kernel
theorem dX6_callStart_42 : decode cX6_callStart 42 = .ok (.iconst 0, 1) := by decide +kernel
theorem dX6_callStart_43 : decode cX6_callStart 43 = .ok (.ireturn, 1) := by decide +kernel
theorem dX6_callStart_44 : decode cX6_callStart 44 = .ok (.aload_n 0, 1) := by decide +kernel
theorem dX6_callStart_45 : decode cX6_callStart 45 = .ok (.aload_n 1, 1) := by decide +kernel
theorem dX6_callStart_46 : decode cX6_callStart 46 = .ok (.aload_n 3, 1) := by decide +kernel
theorem dX6_callStart_47 : decode cX6_callStart 47 = .ok (.iload_n 2, 1) := by decide +kernel
theorem dX6_callStart_48 : decode cX6_callStart 48 = .ok (.aload 4, 2) := by decide +kernel
theorem dX6_callStart_50 : decode cX6_callStart 50 = .ok (.getfield 198, 3) := by decide +kernel
theorem dX6_callStart_53 : decode cX6_callStart 53 = .ok (.invokevirtual 201, 3) := by decide +kernel
theorem dX6_callStart_56 : decode cX6_callStart 56 = .ok (.ireturn, 1) := by decide +kernel
theorem dX6_callRun_0 : decode cX6_callRun 0 = .ok (.aload_n 0, 1) := by decide +kernel
theorem dX6_callRun_1 : decode cX6_callRun 1 = .ok (.iload_n 1, 1) := by decide +kernel
theorem dX6_callRun_2 : decode cX6_callRun 2 = .ok (.invokevirtual 76, 3) := by decide +kernel
theorem dX6_callRun_5 : decode cX6_callRun 5 = .ok (.astore 4, 2) := by decide +kernel
theorem dX6_callRun_7 : decode cX6_callRun 7 = .ok (.aload_n 0, 1) := by decide +kernel
theorem dX6_callRun_8 : decode cX6_callRun 8 = .ok (.iload_n 2, 1) := by decide +kernel
theorem dX6_callRun_9 : decode cX6_callRun 9 = .ok (.invokevirtual 58, 3) := by decide +kernel
theorem dX6_callRun_12 : decode cX6_callRun 12 = .ok (.astore 5, 2) := by decide +kernel
theorem dX6_callRun_14 : decode cX6_callRun 14 = .ok (.aload 4, 2) := by decide +kernel
theorem dX6_callRun_16 : decode cX6_callRun 16 = .ok (.ifnull 8, 3) := by decide +kernel
theorem dX6_callRun_19 : decode cX6_callRun 19 = .ok (.aload 5, 2) := by decide +kernel
theorem dX6_callRun_21 : decode cX6_callRun 21 = .ok (.ifnonnull 9, 3) := by decide +kernel
theorem dX6_callRun_24 : decode cX6_callRun 24 = .ok (.aload_n 0, 1) := by decide +kernel
theorem dX6_callRun_25 : decode cX6_callRun 25 = .ok (.iconst (-1), 1) := by decide +kernel
theorem dX6_callRun_26 : decode cX6_callRun 26 = .ok (.invokevirtual 47, 3) := by decide +kernel
theorem dX6_callRun_29 : decode cX6_callRun 29 = .ok (.ireturn, 1) := by decide +kernel
theorem dX6_callRun_30 : decode cX6_callRun 30 = .ok (.aload 4, 2) := by decide +kernel
theorem dX6_callRun_32 : decode cX6_callRun 32 = .ok (.iload_n 2, 1) := by decide +kernel
theorem dX6_callRun_33 : decode cX6_callRun 33 = .ok (.invokevirtual 84, 3) := by decide +kernel
theorem dX6_callRun_36 : decode cX6_callRun 36 = .ok (.astore 6, 2) := by decide +kernel
theorem dX6_callRun_38 : decode cX6_callRun 38 = .ok (.aload 6, 2) := by decide +kernel
theorem dX6_callRun_40 : decode cX6_callRun 40 = .ok (.ifnull 32, 3) := by decide +kernel
theorem dX6_callRun_43 : decode cX6_callRun 43 = .ok (.aload 4, 2) := by decide +kernel
theorem dX6_callRun_45 : decode cX6_callRun 45 = .ok (.getfield 80, 3) := by decide +kernel
theorem dX6_callRun_48 : decode cX6_callRun 48 = .ok (.ifCond .eq 24, 3) := by decide +kernel
theorem dX6_callRun_51 : decode cX6_callRun 51 = .ok (.aload 6, 2) := by decide +kernel
theorem dX6_callRun_53 : decode cX6_callRun 53 = .ok (.getfield 205, 3) := by decide +kernel
theorem dX6_callRun_56 : decode cX6_callRun 56 = .ok (.ifCond .ne 16, 3) := by decide +kernel
theorem dX6_callRun_59 : decode cX6_callRun 59 = .ok (.aload 6, 2) := by decide +kernel
theorem dX6_callRun_61 : decode cX6_callRun 61 = .ok (.getfield 130, 3) := by decide +kernel
theorem dX6_callRun_64 : decode cX6_callRun 64 = .ok (.aload 5, 2) := by decide +kernel
theorem dX6_callRun_66 : decode cX6_callRun 66 = .ok (.getfield 70, 3) := by decide +kernel
theorem dX6_callRun_69 : decode cX6_callRun 69 = .ok (.if_icmp .eq 10, 3) := by decide +kernel
theorem dX6_callRun_72 : decode cX6_callRun 72 = .ok (.aload_n 0, 1) := by decide +kernel
theorem dX6_callRun_73 : decode cX6_callRun 73 = .ok (.bipush (-3), 2) := by decide +kernel
theorem dX6_callRun_75 : decode cX6_callRun 75 = .ok (.invokevirtual 47, 3) := by decide +kernel
theorem dX6_callRun_78 : decode cX6_callRun 78 = .ok (.ireturn, 1) := by decide +kernel
theorem dX6_callRun_79 : decode cX6_callRun 79 = .ok (.iload_n 3, 1) := by decide +kernel
theorem dX6_callRun_80 : decode cX6_callRun 80 = .ok (.ifCond .eq 34, 3) := by decide +kernel
theorem dX6_callRun_83 : decode cX6_callRun 83 = .ok (.aload_n 0, 1) := by decide +kernel
theorem dX6_callRun_84 : decode cX6_callRun 84 = .ok (.getfield 39, 3) := by decide +kernel
theorem dX6_callRun_87 : decode cX6_callRun 87 = .ok (.aload 5, 2) := by decide +kernel
theorem dX6_callRun_89 : decode cX6_callRun 89 = .ok (.getfield 208, 3) := by decide +kernel
theorem dX6_callRun_92 : decode cX6_callRun 92 = .ok (.aload 4, 2) := by decide +kernel
theorem dX6_callRun_94 : decode cX6_callRun 94 = .ok (.getfield 108, 3) := by decide +kernel
theorem dX6_callRun_97 : decode cX6_callRun 97 = .ok (.aload 6, 2) := by decide +kernel
theorem dX6_callRun_99 : decode cX6_callRun 99 = .ok (.getfield 124, 3) := by decide +kernel
theorem dX6_callRun_102 : decode cX6_callRun 102 = .ok (.aload_n 0, 1) := by decide +kernel
theorem dX6_callRun_103 : decode cX6_callRun 103 = .ok (.getfield 19, 3) := by decide +kernel
theorem dX6_callRun_106 : decode cX6_callRun 106 = .ok (.invokevirtual 211, 3) := by decide +kernel
theorem dX6_callRun_109 : decode cX6_callRun 109 = .ok (.istore 7, 2) := by decide +kernel
theorem dX6_callRun_111 : decode cX6_callRun 111 = .ok (.goto 31, 3) := by decide +kernel
theorem dX6_callRun_114 : decode cX6_callRun 114 = .ok (.aload_n 0, 1) := by decide +kernel
theorem dX6_callRun_115 : decode cX6_callRun 115 = .ok (.aload 4, 2) := by decide +kernel
theorem dX6_callRun_117 : decode cX6_callRun 117 = .ok (.aload 6, 2) := by decide +kernel
theorem dX6_callRun_119 : decode cX6_callRun 119 = .ok (.iload_n 2, 1) := by decide +kernel
theorem dX6_callRun_120 : decode cX6_callRun 120 = .ok (.aload 5, 2) := by decide +kernel
theorem dX6_callRun_122 : decode cX6_callRun 122 = .ok (.getfield 208, 3) := by decide +kernel
theorem dX6_callRun_125 : decode cX6_callRun 125 = .ok (.invokevirtual 201, 3) := by decide +kernel
theorem dX6_callRun_128 : decode cX6_callRun 128 = .ok (.istore 7, 2) := by decide +kernel
theorem dX6_callRun_130 : decode cX6_callRun 130 = .ok (.iload 7, 2) := by decide +kernel
theorem dX6_callRun_132 : decode cX6_callRun 132 = .ok (.ifCond .eq 10, 3) := by decide +kernel
theorem dX6_callRun_135 : decode cX6_callRun 135 = .ok (.aload 4, 2) := by decide +kernel
theorem dX6_callRun_137 : decode cX6_callRun 137 = .ok (.aload 6, 2) := by decide +kernel
theorem dX6_callRun_139 : decode cX6_callRun 139 = .ok (.invokestatic 215, 3) := by decide +kernel
theorem dX6_callRun_142 : decode cX6_callRun 142 = .ok (.iload 7, 2) := by decide +kernel
theorem dX6_callRun_144 : decode cX6_callRun 144 = .ok (.ifCond .ne 7, 3) := by decide +kernel
theorem dX6_callRun_147 : decode cX6_callRun 147 = .ok (.iconst 1, 1) := by decide +kernel
theorem dX6_callRun_148 : decode cX6_callRun 148 = .ok (.goto 8, 3) := by decide +kernel
theorem dX6_callRun_151 : decode cX6_callRun 151 = .ok (.bipush 10, 2) := by decide +kernel
theorem dX6_callRun_153 : decode cX6_callRun 153 = .ok (.iload 7, 2) := by decide +kernel
theorem dX6_callRun_155 : decode cX6_callRun 155 = .ok (.iadd, 1) := by decide +kernel
theorem dX6_callRun_156 : decode cX6_callRun 156 = .ok (.ireturn, 1) := by decide +kernel
theorem dX6_call_0 : decode cX6_call 0 = .ok (.aload_n 0, 1) := by decide +kernel
theorem dX6_call_1 : decode cX6_call 1 = .ok (.getfield 39, 3) := by decide +kernel
theorem dX6_call_4 : decode cX6_call 4 = .ok (.aload 4, 2) := by decide +kernel
theorem dX6_call_6 : decode cX6_call 6 = .ok (.aload_n 1, 1) := by decide +kernel
theorem dX6_call_7 : decode cX6_call 7 = .ok (.getfield 108, 3) := by decide +kernel
theorem dX6_call_10 : decode cX6_call 10 = .ok (.aload_n 2, 1) := by decide +kernel
theorem dX6_call_11 : decode cX6_call 11 = .ok (.getfield 124, 3) := by decide +kernel
theorem dX6_call_14 : decode cX6_call 14 = .ok (.aload_n 0, 1) := by decide +kernel
theorem dX6_call_15 : decode cX6_call 15 = .ok (.getfield 19, 3) := by decide +kernel
theorem dX6_call_18 : decode cX6_call 18 = .ok (.invokevirtual 219, 3) := by decide +kernel
theorem dX6_call_21 : decode cX6_call 21 = .ok (.istore 5, 2) := by decide +kernel
theorem dX6_call_23 : decode cX6_call 23 = .ok (.aload_n 0, 1) := by decide +kernel
theorem dX6_call_24 : decode cX6_call 24 = .ok (.getfield 39, 3) := by decide +kernel
theorem dX6_call_27 : decode cX6_call 27 = .ok (.getfield 222, 3) := by decide +kernel
theorem dX6_call_30 : decode cX6_call 30 = .ok (.iconst (-1), 1) := by decide +kernel
theorem dX6_call_31 : decode cX6_call 31 = .ok (.if_icmp .eq 14, 3) := by decide +kernel
theorem dX6_call_34 : decode cX6_call 34 = .ok (.aload_n 2, 1) := by decide +kernel
theorem dX6_call_35 : decode cX6_call 35 = .ok (.aload_n 0, 1) := by decide +kernel
theorem dX6_call_36 : decode cX6_call 36 = .ok (.getfield 39, 3) := by decide +kernel
theorem dX6_call_39 : decode cX6_call 39 = .ok (.getfield 222, 3) := by decide +kernel
theorem dX6_call_42 : decode cX6_call 42 = .ok (.putfield 158, 3) := by decide +kernel
theorem dX6_call_45 : decode cX6_call 45 = .ok (.iload 5, 2) := by decide +kernel
theorem dX6_call_47 : decode cX6_call 47 = .ok (.ifCond .eq 46, 3) := by decide +kernel
theorem dX6_call_50 : decode cX6_call 50 = .ok (.aload_n 1, 1) := by decide +kernel
theorem dX6_call_51 : decode cX6_call 51 = .ok (.iload 5, 2) := by decide +kernel
theorem dX6_call_53 : decode cX6_call 53 = .ok (.putfield 143, 3) := by decide +kernel
theorem dX6_call_56 : decode cX6_call 56 = .ok (.aload_n 1, 1) := by decide +kernel
theorem dX6_call_57 : decode cX6_call 57 = .ok (.iload_n 3, 1) := by decide +kernel
theorem dX6_call_58 : decode cX6_call 58 = .ok (.putfield 146, 3) := by decide +kernel
theorem dX6_call_61 : decode cX6_call 61 = .ok (.aload_n 1, 1) := by decide +kernel
theorem dX6_call_62 : decode cX6_call 62 = .ok (.aload_n 0, 1) := by decide +kernel
theorem dX6_call_63 : decode cX6_call 63 = .ok (.getfield 39, 3) := by decide +kernel
theorem dX6_call_66 : decode cX6_call 66 = .ok (.getfield 223, 3) := by decide +kernel
theorem dX6_call_69 : decode cX6_call 69 = .ok (.putfield 149, 3) := by decide +kernel
theorem dX6_call_72 : decode cX6_call 72 = .ok (.aload_n 1, 1) := by decide +kernel
theorem dX6_call_73 : decode cX6_call 73 = .ok (.aload_n 0, 1) := by decide +kernel
theorem dX6_call_74 : decode cX6_call 74 = .ok (.getfield 39, 3) := by decide +kernel
theorem dX6_call_77 : decode cX6_call 77 = .ok (.getfield 226, 3) := by decide +kernel
theorem dX6_call_80 : decode cX6_call 80 = .ok (.putfield 152, 3) := by decide +kernel
theorem dX6_call_83 : decode cX6_call 83 = .ok (.aload_n 1, 1) := by decide +kernel
theorem dX6_call_84 : decode cX6_call 84 = .ok (.dup, 1) := by decide +kernel
theorem dX6_call_85 : decode cX6_call 85 = .ok (.getfield 155, 3) := by decide +kernel
theorem dX6_call_88 : decode cX6_call 88 = .ok (.iconst 1, 1) := by decide +kernel
theorem dX6_call_89 : decode cX6_call 89 = .ok (.iadd, 1) := by decide +kernel
theorem dX6_call_90 : decode cX6_call 90 = .ok (.putfield 155, 3) := by decide +kernel
theorem dX6_call_93 : decode cX6_call 93 = .ok (.iload 5, 2) := by decide +kernel
theorem dX6_call_95 : decode cX6_call 95 = .ok (.ireturn, 1) := by decide +kernel
theorem dX6_react_0 : decode cX6_react 0 = .ok (.aload_n 0, 1) := by decide +kernel
theorem dX6_react_1 : decode cX6_react 1 = .ok (.getfield 127, 3) := by decide +kernel
theorem dX6_react_4 : decode cX6_react 4 = .ok (.iconst 1, 1) := by decide +kernel
theorem dX6_react_5 : decode cX6_react 5 = .ok (.if_icmp .ne 8, 3) := by decide +kernel
theorem dX6_react_8 : decode cX6_react 8 = .ok (.aload_n 1, 1) := by decide +kernel
theorem dX6_react_9 : decode cX6_react 9 = .ok (.iconst 1, 1) := by decide +kernel
theorem dX6_react_10 : decode cX6_react 10 = .ok (.putfield 205, 3) := by decide +kernel
theorem dX6_react_13 : decode cX6_react 13 = .ok (.aload_n 0, 1) := by decide +kernel
theorem dX6_react_14 : decode cX6_react 14 = .ok (.getfield 127, 3) := by decide +kernel
theorem dX6_react_17 : decode cX6_react 17 = .ok (.iconst 2, 1) := by decide +kernel
theorem dX6_react_18 : decode cX6_react 18 = .ok (.if_icmp .ne 8, 3) := by decide +kernel
theorem dX6_react_21 : decode cX6_react 21 = .ok (.aload_n 0, 1) := by decide +kernel
theorem dX6_react_22 : decode cX6_react 22 = .ok (.iconst 0, 1) := by decide +kernel
theorem dX6_react_23 : decode cX6_react 23 = .ok (.putfield 80, 3) := by decide +kernel
theorem dX6_react_26 : decode cX6_react 26 = .ok (.return_, 1) := by decide +kernel
theorem dX6_isRight_0 : decode cX6_isRight 0 = .ok (.iconst 0, 1) := by decide +kernel
theorem dX6_isRight_1 : decode cX6_isRight 1 = .ok (.istore_n 2, 1) := by decide +kernel
theorem dX6_isRight_2 : decode cX6_isRight 2 = .ok (.iconst 0, 1) := by decide +kernel
theorem dX6_isRight_3 : decode cX6_isRight 3 = .ok (.istore_n 3, 1) := by decide +kernel
theorem dX6_isRight_4 : decode cX6_isRight 4 = .ok (.iconst 0, 1) := by decide +kernel
theorem dX6_isRight_5 : decode cX6_isRight 5 = .ok (.istore 4, 2) := by decide +kernel
theorem dX6_isRight_7 : decode cX6_isRight 7 = .ok (.iload 4, 2) := by decide +kernel
theorem dX6_isRight_9 : decode cX6_isRight 9 = .ok (.iload_n 1, 1) := by decide +kernel
theorem dX6_isRight_10 : decode cX6_isRight 10 = .ok (.if_icmp .ge 73, 3) := by decide +kernel
theorem dX6_isRight_13 : decode cX6_isRight 13 = .ok (.aload_n 0, 1) := by decide +kernel
theorem dX6_isRight_14 : decode cX6_isRight 14 = .ok (.iload 4, 2) := by decide +kernel
theorem dX6_isRight_16 : decode cX6_isRight 16 = .ok (.invokestatic 229, 3) := by decide +kernel
theorem dX6_isRight_19 : decode cX6_isRight 19 = .ok (.istore 5, 2) := by decide +kernel
theorem dX6_isRight_21 : decode cX6_isRight 21 = .ok (.iload 4, 2) := by decide +kernel
theorem dX6_isRight_23 : decode cX6_isRight 23 = .ok (.iconst 2, 1) := by decide +kernel
theorem dX6_isRight_24 : decode cX6_isRight 24 = .ok (.iadd, 1) := by decide +kernel
theorem dX6_isRight_25 : decode cX6_isRight 25 = .ok (.iload_n 1, 1) := by decide +kernel
theorem dX6_isRight_26 : decode cX6_isRight 26 = .ok (.if_icmp .gt 9, 3) := by decide +kernel
theorem dX6_isRight_29 : decode cX6_isRight 29 = .ok (.iload 5, 2) := by decide +kernel
theorem dX6_isRight_31 : decode cX6_isRight 31 = .ok (.iconst 2, 1) := by decide +kernel
theorem dX6_isRight_32 : decode cX6_isRight 32 = .ok (.if_icmp .le 5, 3) := by decide +kernel
theorem dX6_isRight_35 : decode cX6_isRight 35 = .ok (.iconst 0, 1) := by decide +kernel
theorem dX6_isRight_36 : decode cX6_isRight 36 = .ok (.ireturn, 1) := by decide +kernel
theorem dX6_isRight_37 : decode cX6_isRight 37 = .ok (.iload_n 2, 1) := by decide +kernel
theorem dX6_isRight_38 : decode cX6_isRight 38 = .ok (.iload 5, 2) := by decide +kernel
theorem dX6_isRight_40 : decode cX6_isRight 40 = .ok (.iconst 1, 1) := by decide +kernel
theorem dX6_isRight_41 : decode cX6_isRight 41 = .ok (.if_icmp .ne 7, 3) := by decide +kernel
theorem dX6_isRight_44 : decode cX6_isRight 44 = .ok (.iconst 1, 1) := by decide +kernel
theorem dX6_isRight_45 : decode cX6_isRight 45 = .ok (.goto 4, 3) := by decide +kernel
theorem dX6_isRight_48 : decode cX6_isRight 48 = .ok (.iconst 0, 1) := by decide +kernel
theorem dX6_isRight_49 : decode cX6_isRight 49 = .ok (.iadd, 1) := by decide +kernel
theorem dX6_isRight_50 : decode cX6_isRight 50 = .ok (.istore_n 2, 1) := by decide +kernel
theorem dX6_isRight_51 : decode cX6_isRight 51 = .ok (.iload_n 3, 1) := by decide +kernel
theorem dX6_isRight_52 : decode cX6_isRight 52 = .ok (.iload 5, 2) := by decide +kernel
theorem dX6_isRight_54 : decode cX6_isRight 54 = .ok (.iconst 2, 1) := by decide +kernel
theorem dX6_isRight_55 : decode cX6_isRight 55 = .ok (.if_icmp .ne 7, 3) := by decide +kernel
theorem dX6_isRight_58 : decode cX6_isRight 58 = .ok (.iconst 1, 1) := by decide +kernel
theorem dX6_isRight_59 : decode cX6_isRight 59 = .ok (.goto 4, 3) := by decide +kernel
theorem dX6_isRight_62 : decode cX6_isRight 62 = .ok (.iconst 0, 1) := by decide +kernel
theorem dX6_isRight_63 : decode cX6_isRight 63 = .ok (.iadd, 1) := by decide +kernel
theorem dX6_isRight_64 : decode cX6_isRight 64 = .ok (.istore_n 3, 1) := by decide +kernel
theorem dX6_isRight_65 : decode cX6_isRight 65 = .ok (.iload 4, 2) := by decide +kernel
theorem dX6_isRight_67 : decode cX6_isRight 67 = .ok (.iconst 2, 1) := by decide +kernel
theorem dX6_isRight_68 : decode cX6_isRight 68 = .ok (.aload_n 0, 1) := by decide +kernel
theorem dX6_isRight_69 : decode cX6_isRight 69 = .ok (.iload 4, 2) := by decide +kernel
theorem dX6_isRight_71 : decode cX6_isRight 71 = .ok (.iconst 1, 1) := by decide +kernel
theorem dX6_isRight_72 : decode cX6_isRight 72 = .ok (.iadd, 1) := by decide +kernel
theorem dX6_isRight_73 : decode cX6_isRight 73 = .ok (.invokestatic 229, 3) := by decide +kernel
theorem dX6_isRight_76 : decode cX6_isRight 76 = .ok (.iadd, 1) := by decide +kernel
theorem dX6_isRight_77 : decode cX6_isRight 77 = .ok (.iadd, 1) := by decide +kernel
theorem dX6_isRight_78 : decode cX6_isRight 78 = .ok (.istore 4, 2) := by decide +kernel
theorem dX6_isRight_80 : decode cX6_isRight 80 = .ok (.goto (-73), 3) := by decide +kernel
theorem dX6_isRight_83 : decode cX6_isRight 83 = .ok (.iload 4, 2) := by decide +kernel
theorem dX6_isRight_85 : decode cX6_isRight 85 = .ok (.iload_n 1, 1) := by decide +kernel
theorem dX6_isRight_86 : decode cX6_isRight 86 = .ok (.if_icmp .ne 17, 3) := by decide +kernel
theorem dX6_isRight_89 : decode cX6_isRight 89 = .ok (.iload_n 3, 1) := by decide +kernel
theorem dX6_isRight_90 : decode cX6_isRight 90 = .ok (.iconst 1, 1) := by decide +kernel
theorem dX6_isRight_91 : decode cX6_isRight 91 = .ok (.if_icmp .ne 12, 3) := by decide +kernel
theorem dX6_isRight_94 : decode cX6_isRight 94 = .ok (.iload_n 2, 1) := by decide +kernel
theorem dX6_isRight_95 : decode cX6_isRight 95 = .ok (.iconst 1, 1) := by decide +kernel
theorem dX6_isRight_96 : decode cX6_isRight 96 = .ok (.if_icmp .gt 7, 3) := by decide +kernel
theorem dX6_isRight_99 : decode cX6_isRight 99 = .ok (.iconst 1, 1) := by decide +kernel
theorem dX6_isRight_100 : decode cX6_isRight 100 = .ok (.goto 4, 3) := by decide +kernel
theorem dX6_isRight_103 : decode cX6_isRight 103 = .ok (.iconst 0, 1) := by decide +kernel
theorem dX6_isRight_104 : decode cX6_isRight 104 = .ok (.ireturn, 1) := by decide +kernel
theorem dX6_codeOf_0 : decode cX6_codeOf 0 = .ok (.iconst 0, 1) := by decide +kernel
theorem dX6_codeOf_1 : decode cX6_codeOf 1 = .ok (.istore_n 2, 1) := by decide +kernel
theorem dX6_codeOf_2 : decode cX6_codeOf 2 = .ok (.iload_n 2, 1) := by decide +kernel
theorem dX6_codeOf_3 : decode cX6_codeOf 3 = .ok (.aload_n 0, 1) := by decide +kernel
theorem dX6_codeOf_4 : decode cX6_codeOf 4 = .ok (.arraylength, 1) := by decide +kernel
theorem dX6_codeOf_5 : decode cX6_codeOf 5 = .ok (.if_icmp .ge 38, 3) := by decide +kernel
theorem dX6_codeOf_8 : decode cX6_codeOf 8 = .ok (.aload_n 0, 1) := by decide +kernel
theorem dX6_codeOf_9 : decode cX6_codeOf 9 = .ok (.iload_n 2, 1) := by decide +kernel
theorem dX6_codeOf_10 : decode cX6_codeOf 10 = .ok (.iconst 1, 1) := by decide +kernel
theorem dX6_codeOf_11 : decode cX6_codeOf 11 = .ok (.iadd, 1) := by decide +kernel
theorem dX6_codeOf_12 : decode cX6_codeOf 12 = .ok (.invokestatic 229, 3) := by decide +kernel
theorem dX6_codeOf_15 : decode cX6_codeOf 15 = .ok (.istore_n 3, 1) := by decide +kernel
theorem dX6_codeOf_16 : decode cX6_codeOf 16 = .ok (.aload_n 0, 1) := by decide +kernel
theorem dX6_codeOf_17 : decode cX6_codeOf 17 = .ok (.iload_n 2, 1) := by decide +kernel
theorem dX6_codeOf_18 : decode cX6_codeOf 18 = .ok (.invokestatic 229, 3) := by decide +kernel
theorem dX6_codeOf_21 : decode cX6_codeOf 21 = .ok (.iload_n 1, 1) := by decide +kernel
theorem dX6_codeOf_22 : decode cX6_codeOf 22 = .ok (.if_icmp .ne 12, 3) := by decide +kernel
theorem dX6_codeOf_25 : decode cX6_codeOf 25 = .ok (.aload_n 0, 1) := by decide +kernel
theorem dX6_codeOf_26 : decode cX6_codeOf 26 = .ok (.iload_n 2, 1) := by decide +kernel
theorem dX6_codeOf_27 : decode cX6_codeOf 27 = .ok (.iconst 2, 1) := by decide +kernel
theorem dX6_codeOf_28 : decode cX6_codeOf 28 = .ok (.iadd, 1) := by decide +kernel
theorem dX6_codeOf_29 : decode cX6_codeOf 29 = .ok (.iload_n 3, 1) := by decide +kernel
theorem dX6_codeOf_30 : decode cX6_codeOf 30 = .ok (.invokestatic 187, 3) := by decide +kernel
theorem dX6_codeOf_33 : decode cX6_codeOf 33 = .ok (.areturn, 1) := by decide +kernel
theorem dX6_codeOf_34 : decode cX6_codeOf 34 = .ok (.iload_n 2, 1) := by decide +kernel
theorem dX6_codeOf_35 : decode cX6_codeOf 35 = .ok (.iconst 2, 1) := by decide +kernel
theorem dX6_codeOf_36 : decode cX6_codeOf 36 = .ok (.iload_n 3, 1) := by decide +kernel
theorem dX6_codeOf_37 : decode cX6_codeOf 37 = .ok (.iadd, 1) := by decide +kernel
theorem dX6_codeOf_38 : decode cX6_codeOf 38 = .ok (.iadd, 1) := by decide +kernel
theorem dX6_codeOf_39 : decode cX6_codeOf 39 = .ok (.istore_n 2, 1) := by decide +kernel
theorem dX6_codeOf_40 : decode cX6_codeOf 40 = .ok (.goto (-38), 3) := by decide +kernel
theorem dX6_codeOf_43 : decode cX6_codeOf 43 = .ok (.aconst_null, 1) := by decide +kernel
theorem dX6_codeOf_44 : decode cX6_codeOf 44 = .ok (.areturn, 1) := by decide +kernel
theorem dX6_copyOf_0 : decode cX6_copyOf 0 = .ok (.iload_n 1, 1) := by decide +kernel
theorem dX6_copyOf_1 : decode cX6_copyOf 1 = .ok (.ifCond .lt 21, 3) := by decide +kernel
theorem dX6_copyOf_4 : decode cX6_copyOf 4 = .ok (.iload_n 2, 1) := by decide +kernel
theorem dX6_copyOf_5 : decode cX6_copyOf 5 = .ok (.ifCond .lt 17, 3) := by decide +kernel
theorem dX6_copyOf_8 : decode cX6_copyOf 8 = .ok (.iload_n 1, 1) := by decide +kernel
theorem dX6_copyOf_9 : decode cX6_copyOf 9 = .ok (.aload_n 0, 1) := by decide +kernel
theorem dX6_copyOf_10 : decode cX6_copyOf 10 = .ok (.arraylength, 1) := by decide +kernel
theorem dX6_copyOf_11 : decode cX6_copyOf 11 = .ok (.if_icmp .gt 11, 3) := by decide +kernel
theorem dX6_copyOf_14 : decode cX6_copyOf 14 = .ok (.iload_n 2, 1) := by decide +kernel
theorem dX6_copyOf_15 : decode cX6_copyOf 15 = .ok (.aload_n 0, 1) := by decide +kernel
theorem dX6_copyOf_16 : decode cX6_copyOf 16 = .ok (.arraylength, 1) := by decide +kernel
theorem dX6_copyOf_17 : decode cX6_copyOf 17 = .ok (.iload_n 1, 1) := by decide +kernel
theorem dX6_copyOf_18 : decode cX6_copyOf 18 = .ok (.isub, 1) := by decide +kernel
theorem dX6_copyOf_19 : decode cX6_copyOf 19 = .ok (.if_icmp .le 7, 3) := by decide +kernel
theorem dX6_copyOf_22 : decode cX6_copyOf 22 = .ok (.iconst 0, 1) := by decide +kernel
theorem dX6_copyOf_23 : decode cX6_copyOf 23 = .ok (.newarray .byte, 2) := by decide +kernel
theorem dX6_copyOf_25 : decode cX6_copyOf 25 = .ok (.areturn, 1) := by decide +kernel
theorem dX6_copyOf_26 : decode cX6_copyOf 26 = .ok (.aload_n 0, 1) := by decide +kernel
theorem dX6_copyOf_27 : decode cX6_copyOf 27 = .ok (.iload_n 1, 1) := by decide +kernel
theorem dX6_copyOf_28 : decode cX6_copyOf 28 = .ok (.iload_n 1, 1) := by decide +kernel
theorem dX6_copyOf_29 : decode cX6_copyOf 29 = .ok (.iload_n 2, 1) := by decide +kernel
theorem dX6_copyOf_30 : decode cX6_copyOf 30 = .ok (.iadd, 1) := by decide +kernel
theorem dX6_copyOf_31 : decode cX6_copyOf 31 = .ok (.invokestatic 233, 3) := by decide +kernel
theorem dX6_copyOf_34 : decode cX6_copyOf 34 = .ok (.areturn, 1) := by decide +kernel
theorem dX6_octetAt_0 : decode cX6_octetAt 0 = .ok (.iload_n 1, 1) := by decide +kernel
theorem dX6_octetAt_1 : decode cX6_octetAt 1 = .ok (.ifCond .lt 19, 3) := by decide +kernel
theorem dX6_octetAt_4 : decode cX6_octetAt 4 = .ok (.iload_n 1, 1) := by decide +kernel
theorem dX6_octetAt_5 : decode cX6_octetAt 5 = .ok (.aload_n 0, 1) := by decide +kernel
theorem dX6_octetAt_6 : decode cX6_octetAt 6 = .ok (.arraylength, 1) := by decide +kernel
theorem dX6_octetAt_7 : decode cX6_octetAt 7 = .ok (.if_icmp .ge 13, 3) := by decide +kernel
theorem dX6_octetAt_10 : decode cX6_octetAt 10 = .ok (.aload_n 0, 1) := by decide +kernel
theorem dX6_octetAt_11 : decode cX6_octetAt 11 = .ok (.iload_n 1, 1) := by decide +kernel
theorem dX6_octetAt_12 : decode cX6_octetAt 12 = .ok (.baload, 1) := by decide +kernel
theorem dX6_octetAt_13 : decode cX6_octetAt 13 = .ok (.sipush 255, 3) := by decide +kernel
theorem dX6_octetAt_16 : decode cX6_octetAt 16 = .ok (.iand, 1) := by decide +kernel
theorem dX6_octetAt_17 : decode cX6_octetAt 17 = .ok (.goto 4, 3) := by decide +kernel
theorem dX6_octetAt_20 : decode cX6_octetAt 20 = .ok (.iconst 0, 1) := by decide +kernel
theorem dX6_octetAt_21 : decode cX6_octetAt 21 = .ok (.ireturn, 1) := by decide +kernel
theorem dX6_numberAt_0 : decode cX6_numberAt 0 = .ok (.iload_n 1, 1) := by decide +kernel
theorem dX6_numberAt_1 : decode cX6_numberAt 1 = .ok (.ifCond .lt 15, 3) := by decide +kernel
theorem dX6_numberAt_4 : decode cX6_numberAt 4 = .ok (.iload_n 1, 1) := by decide +kernel
theorem dX6_numberAt_5 : decode cX6_numberAt 5 = .ok (.aload_n 0, 1) := by decide +kernel
theorem dX6_numberAt_6 : decode cX6_numberAt 6 = .ok (.arraylength, 1) := by decide +kernel
theorem dX6_numberAt_7 : decode cX6_numberAt 7 = .ok (.if_icmp .ge 9, 3) := by decide +kernel
theorem dX6_numberAt_10 : decode cX6_numberAt 10 = .ok (.aload_n 0, 1) := by decide +kernel
theorem dX6_numberAt_11 : decode cX6_numberAt 11 = .ok (.iload_n 1, 1) := by decide +kernel
theorem dX6_numberAt_12 : decode cX6_numberAt 12 = .ok (.laload, 1) := by decide +kernel
theorem dX6_numberAt_13 : decode cX6_numberAt 13 = .ok (.goto 4, 3) := by decide +kernel
theorem dX6_numberAt_16 : decode cX6_numberAt 16 = .ok (.lconst 0, 1) := by decide +kernel
theorem dX6_numberAt_17 : decode cX6_numberAt 17 = .ok (.lreturn, 1) := by decide +kernel
theorem dX6_putNumber_0 : decode cX6_putNumber 0 = .ok (.iload_n 1, 1) := by decide +kernel
theorem dX6_putNumber_1 : decode cX6_putNumber 1 = .ok (.ifCond .lt 13, 3) := by decide +kernel
theorem dX6_putNumber_4 : decode cX6_putNumber 4 = .ok (.iload_n 1, 1) := by decide +kernel
theorem dX6_putNumber_5 : decode cX6_putNumber 5 = .ok (.aload_n 0, 1) := by decide +kernel
theorem dX6_putNumber_6 : decode cX6_putNumber 6 = .ok (.arraylength, 1) := by decide +kernel
theorem dX6_putNumber_7 : decode cX6_putNumber 7 = .ok (.if_icmp .ge 7, 3) := by decide +kernel
theorem dX6_putNumber_10 : decode cX6_putNumber 10 = .ok (.aload_n 0, 1) := by decide +kernel
theorem dX6_putNumber_11 : decode cX6_putNumber 11 = .ok (.iload_n 1, 1) := by decide +kernel
theorem dX6_putNumber_12 : decode cX6_putNumber 12 = .ok (.lload_n 2, 1) := by decide +kernel
theorem dX6_putNumber_13 : decode cX6_putNumber 13 = .ok (.lastore, 1) := by decide +kernel
theorem dX6_putNumber_14 : decode cX6_putNumber 14 = .ok (.return_, 1) := by decide +kernel
theorem dX6_copyNumbers_0 : decode cX6_copyNumbers 0 = .ok (.iconst 0, 1) := by decide +kernel
theorem dX6_copyNumbers_1 : decode cX6_copyNumbers 1 = .ok (.istore_n 2, 1) := by decide +kernel
theorem dX6_copyNumbers_2 : decode cX6_copyNumbers 2 = .ok (.iload_n 2, 1) := by decide +kernel
theorem dX6_copyNumbers_3 : decode cX6_copyNumbers 3 = .ok (.aload_n 0, 1) := by decide +kernel
theorem dX6_copyNumbers_4 : decode cX6_copyNumbers 4 = .ok (.arraylength, 1) := by decide +kernel
theorem dX6_copyNumbers_5 : decode cX6_copyNumbers 5 = .ok (.if_icmp .ge 21, 3) := by decide +kernel
theorem dX6_copyNumbers_8 : decode cX6_copyNumbers 8 = .ok (.iload_n 2, 1) := by decide +kernel
theorem dX6_copyNumbers_9 : decode cX6_copyNumbers 9 = .ok (.aload_n 1, 1) := by decide +kernel
theorem dX6_copyNumbers_10 : decode cX6_copyNumbers 10 = .ok (.arraylength, 1) := by decide +kernel
theorem dX6_copyNumbers_11 : decode cX6_copyNumbers 11 = .ok (.if_icmp .ge 15, 3) := by decide +kernel
theorem dX6_copyNumbers_14 : decode cX6_copyNumbers 14 = .ok (.aload_n 1, 1) := by decide +kernel
theorem dX6_copyNumbers_15 : decode cX6_copyNumbers 15 = .ok (.iload_n 2, 1) := by decide +kernel
theorem dX6_copyNumbers_16 : decode cX6_copyNumbers 16 = .ok (.aload_n 0, 1) := by decide +kernel
theorem dX6_copyNumbers_17 : decode cX6_copyNumbers 17 = .ok (.iload_n 2, 1) := by decide +kernel
theorem dX6_copyNumbers_18 : decode cX6_copyNumbers 18 = .ok (.laload, 1) := by decide +kernel
theorem dX6_copyNumbers_19 : decode cX6_copyNumbers 19 = .ok (.lastore, 1) := by decide +kernel
theorem dX6_copyNumbers_20 : decode cX6_copyNumbers 20 = .ok (.iinc 2 1, 3) := by decide +kernel
theorem dX6_copyNumbers_23 : decode cX6_copyNumbers 23 = .ok (.goto (-21), 3) := by decide +kernel
theorem dX6_copyNumbers_26 : decode cX6_copyNumbers 26 = .ok (.return_, 1) := by decide +kernel
theorem dX7_init_0 : decode cX7_init 0 = .ok (.aload_n 0, 1) := by decide +kernel
theorem dX7_init_1 : decode cX7_init 1 = .ok (.invokespecial 1, 3) := by decide +kernel
theorem dX7_init_4 : decode cX7_init 4 = .ok (.aload_n 0, 1) := by decide +kernel
theorem dX7_init_5 : decode cX7_init 5 = .ok (.bipush 120, 2) := by decide +kernel
theorem dX7_init_7 : decode cX7_init 7 = .ok (.newarray .byte, 2) := by decide +kernel
theorem dX7_init_9 : decode cX7_init 9 = .ok (.putfield 7, 3) := by decide +kernel
theorem dX7_init_12 : decode cX7_init 12 = .ok (.aload_n 0, 1) := by decide +kernel
theorem dX7_init_13 : decode cX7_init 13 = .ok (.bipush 21, 2) := by decide +kernel
theorem dX7_init_15 : decode cX7_init 15 = .ok (.newarray .int, 2) := by decide +kernel
theorem dX7_init_17 : decode cX7_init 17 = .ok (.putfield 13, 3) := by decide +kernel
theorem dX7_init_20 : decode cX7_init 20 = .ok (.aload_n 0, 1) := by decide +kernel
theorem dX7_init_21 : decode cX7_init 21 = .ok (.sipush 21600, 3) := by decide +kernel
theorem dX7_init_24 : decode cX7_init 24 = .ok (.newarray .byte, 2) := by decide +kernel
theorem dX7_init_26 : decode cX7_init 26 = .ok (.putfield 17, 3) := by decide +kernel
theorem dX7_init_29 : decode cX7_init 29 = .ok (.aload_n 0, 1) := by decide +kernel
theorem dX7_init_30 : decode cX7_init 30 = .ok (.sipush 180, 3) := by decide +kernel
theorem dX7_init_33 : decode cX7_init 33 = .ok (.newarray .int, 2) := by decide +kernel
theorem dX7_init_35 : decode cX7_init 35 = .ok (.putfield 20, 3) := by decide +kernel
theorem dX7_init_38 : decode cX7_init 38 = .ok (.aload_n 0, 1) := by decide +kernel
theorem dX7_init_39 : decode cX7_init 39 = .ok (.sipush 180, 3) := by decide +kernel
theorem dX7_init_42 : decode cX7_init 42 = .ok (.newarray .int, 2) := by decide +kernel
theorem dX7_init_44 : decode cX7_init 44 = .ok (.putfield 23, 3) := by decide +kernel
theorem dX7_init_47 : decode cX7_init 47 = .ok (.aload_n 0, 1) := by decide +kernel
theorem dX7_init_48 : decode cX7_init 48 = .ok (.sipush 180, 3) := by decide +kernel
theorem dX7_init_51 : decode cX7_init 51 = .ok (.newarray .int, 2) := by decide +kernel
theorem dX7_init_53 : decode cX7_init 53 = .ok (.putfield 26, 3) := by decide +kernel
theorem dX7_init_56 : decode cX7_init 56 = .ok (.aload_n 0, 1) := by decide +kernel
theorem dX7_init_57 : decode cX7_init 57 = .ok (.sipush 180, 3) := by decide +kernel
theorem dX7_init_60 : decode cX7_init 60 = .ok (.newarray .int, 2) := by decide +kernel
theorem dX7_init_62 : decode cX7_init 62 = .ok (.putfield 29, 3) := by decide +kernel
theorem dX7_init_65 : decode cX7_init 65 = .ok (.aload_n 0, 1) := by decide +kernel
theorem dX7_init_66 : decode cX7_init 66 = .ok (.sipush 180, 3) := by decide +kernel
theorem dX7_init_69 : decode cX7_init 69 = .ok (.newarray .int, 2) := by decide +kernel
theorem dX7_init_71 : decode cX7_init 71 = .ok (.putfield 32, 3) := by decide +kernel
theorem dX7_init_74 : decode cX7_init 74 = .ok (.aload_n 0, 1) := by decide +kernel
theorem dX7_init_75 : decode cX7_init 75 = .ok (.bipush 64, 2) := by decide +kernel
theorem dX7_init_77 : decode cX7_init 77 = .ok (.newarray .long, 2) := by decide +kernel
theorem dX7_init_79 : decode cX7_init 79 = .ok (.putfield 35, 3) := by decide +kernel
theorem dX7_init_82 : decode cX7_init 82 = .ok (.aload_n 0, 1) := by decide +kernel
theorem dX7_init_83 : decode cX7_init 83 = .ok (.bipush 8, 2) := by decide +kernel
theorem dX7_init_85 : decode cX7_init 85 = .ok (.newarray .boolean, 2) := by decide +kernel
theorem dX7_init_87 : decode cX7_init 87 = .ok (.putfield 39, 3) := by decide +kernel
theorem dX7_init_90 : decode cX7_init 90 = .ok (.aload_n 0, 1) := by decide +kernel
theorem dX7_init_91 : decode cX7_init 91 = .ok (.bipush 8, 2) := by decide +kernel
theorem dX7_init_93 : decode cX7_init 93 = .ok (.newarray .int, 2) := by decide +kernel
theorem dX7_init_95 : decode cX7_init 95 = .ok (.putfield 43, 3) := by decide +kernel
theorem dX7_init_98 : decode cX7_init 98 = .ok (.aload_n 0, 1) := by decide +kernel
theorem dX7_init_99 : decode cX7_init 99 = .ok (.bipush 8, 2) := by decide +kernel
theorem dX7_init_101 : decode cX7_init 101 = .ok (.newarray .int, 2) := by decide +kernel
theorem dX7_init_103 : decode cX7_init 103 = .ok (.putfield 46, 3) := by decide +kernel
theorem dX7_init_106 : decode cX7_init 106 = .ok (.aload_n 0, 1) := by decide +kernel
theorem dX7_init_107 : decode cX7_init 107 = .ok (.bipush 8, 2) := by decide +kernel
theorem dX7_init_109 : decode cX7_init 109 = .ok (.newarray .int, 2) := by decide +kernel
theorem dX7_init_111 : decode cX7_init 111 = .ok (.putfield 49, 3) := by decide +kernel
theorem dX7_init_114 : decode cX7_init 114 = .ok (.aload_n 0, 1) := by decide +kernel
theorem dX7_init_115 : decode cX7_init 115 = .ok (.bipush 8, 2) := by decide +kernel
theorem dX7_init_117 : decode cX7_init 117 = .ok (.newarray .int, 2) := by decide +kernel
theorem dX7_init_119 : decode cX7_init 119 = .ok (.putfield 52, 3) := by decide +kernel
theorem dX7_init_122 : decode cX7_init 122 = .ok (.aload_n 0, 1) := by decide +kernel
theorem dX7_init_123 : decode cX7_init 123 = .ok (.bipush 8, 2) := by decide +kernel
theorem dX7_init_125 : decode cX7_init 125 = .ok (.newarray .int, 2) := by decide +kernel
theorem dX7_init_127 : decode cX7_init 127 = .ok (.putfield 55, 3) := by decide +kernel
theorem dX7_init_130 : decode cX7_init 130 = .ok (.aload_n 0, 1) := by decide +kernel
theorem dX7_init_131 : decode cX7_init 131 = .ok (.bipush 8, 2) := by decide +kernel
theorem dX7_init_133 : decode cX7_init 133 = .ok (.newarray .int, 2) := by decide +kernel
theorem dX7_init_135 : decode cX7_init 135 = .ok (.putfield 58, 3) := by decide +kernel
theorem dX7_init_138 : decode cX7_init 138 = .ok (.aload_n 0, 1) := by decide +kernel
theorem dX7_init_139 : decode cX7_init 139 = .ok (.sipush 160, 3) := by decide +kernel
theorem dX7_init_142 : decode cX7_init 142 = .ok (.newarray .int, 2) := by decide +kernel
theorem dX7_init_144 : decode cX7_init 144 = .ok (.putfield 61, 3) := by decide +kernel
theorem dX7_init_147 : decode cX7_init 147 = .ok (.aload_n 0, 1) := by decide +kernel
theorem dX7_init_148 : decode cX7_init 148 = .ok (.sipush 1280, 3) := by decide +kernel
theorem dX7_init_151 : decode cX7_init 151 = .ok (.newarray .long, 2) := by decide +kernel
theorem dX7_init_153 : decode cX7_init 153 = .ok (.putfield 64, 3) := by decide +kernel
theorem dX7_init_156 : decode cX7_init 156 = .ok (.aload_n 0, 1) := by decide +kernel
theorem dX7_init_157 : decode cX7_init 157 = .ok (.sipush 160, 3) := by decide +kernel
theorem dX7_init_160 : decode cX7_init 160 = .ok (.newarray .boolean, 2) := by decide +kernel
theorem dX7_init_162 : decode cX7_init 162 = .ok (.putfield 67, 3) := by decide +kernel
theorem dX7_init_165 : decode cX7_init 165 = .ok (.aload_n 0, 1) := by decide +kernel
theorem dX7_init_166 : decode cX7_init 166 = .ok (.sipush 160, 3) := by decide +kernel
theorem dX7_init_169 : decode cX7_init 169 = .ok (.newarray .int, 2) := by decide +kernel
theorem dX7_init_171 : decode cX7_init 171 = .ok (.putfield 70, 3) := by decide +kernel
theorem dX7_init_174 : decode cX7_init 174 = .ok (.aload_n 0, 1) := by decide +kernel
theorem dX7_init_175 : decode cX7_init 175 = .ok (.sipush 160, 3) := by decide +kernel
theorem dX7_init_178 : decode cX7_init 178 = .ok (.newarray .int, 2) := by decide +kernel
theorem dX7_init_180 : decode cX7_init 180 = .ok (.putfield 73, 3) := by decide +kernel
theorem dX7_init_183 : decode cX7_init 183 = .ok (.aload_n 0, 1) := by decide +kernel
theorem dX7_init_184 : decode cX7_init 184 = .ok (.bipush 16, 2) := by decide +kernel
theorem dX7_init_186 : decode cX7_init 186 = .ok (.newarray .long, 2) := by decide +kernel
theorem dX7_init_188 : decode cX7_init 188 = .ok (.putfield 76, 3) := by decide +kernel
theorem dX7_init_191 : decode cX7_init 191 = .ok (.aload_n 0, 1) := by decide +kernel
theorem dX7_init_192 : decode cX7_init 192 = .ok (.bipush 8, 2) := by decide +kernel
theorem dX7_init_194 : decode cX7_init 194 = .ok (.newarray .long, 2) := by decide +kernel
theorem dX7_init_196 : decode cX7_init 196 = .ok (.putfield 79, 3) := by decide +kernel
theorem dX7_init_199 : decode cX7_init 199 = .ok (.aload_n 0, 1) := by decide +kernel
theorem dX7_init_200 : decode cX7_init 200 = .ok (.bipush 8, 2) := by decide +kernel
theorem dX7_init_202 : decode cX7_init 202 = .ok (.newarray .long, 2) := by decide +kernel
theorem dX7_init_204 : decode cX7_init 204 = .ok (.putfield 82, 3) := by decide +kernel
theorem dX7_init_207 : decode cX7_init 207 = .ok (.aload_n 0, 1) := by decide +kernel
theorem dX7_init_208 : decode cX7_init 208 = .ok (.iload_n 1, 1) := by decide +kernel
theorem dX7_init_209 : decode cX7_init 209 = .ok (.ifCond .ge 7, 3) := by decide +kernel
theorem dX7_init_212 : decode cX7_init 212 = .ok (.iconst 0, 1) := by decide +kernel
theorem dX7_init_213 : decode cX7_init 213 = .ok (.goto 15, 3) := by decide +kernel
theorem dX7_init_216 : decode cX7_init 216 = .ok (.iload_n 1, 1) := by decide +kernel
theorem dX7_init_217 : decode cX7_init 217 = .ok (.ldc 85, 2) := by decide +kernel
theorem dX7_init_219 : decode cX7_init 219 = .ok (.if_icmp .le 8, 3) := by decide +kernel
theorem dX7_init_222 : decode cX7_init 222 = .ok (.ldc 85, 2) := by decide +kernel
theorem dX7_init_224 : decode cX7_init 224 = .ok (.goto 4, 3) := by decide +kernel
theorem dX7_init_227 : decode cX7_init 227 = .ok (.iload_n 1, 1) := by decide +kernel
theorem dX7_init_228 : decode cX7_init 228 = .ok (.putfield 86, 3) := by decide +kernel
theorem dX7_init_231 : decode cX7_init 231 = .ok (.iconst 0, 1) := by decide +kernel
theorem dX7_init_232 : decode cX7_init 232 = .ok (.istore_n 2, 1) := by decide +kernel
theorem dX7_init_233 : decode cX7_init 233 = .ok (.iload_n 2, 1) := by decide +kernel
theorem dX7_init_234 : decode cX7_init 234 = .ok (.sipush 160, 3) := by decide +kernel
theorem dX7_init_237 : decode cX7_init 237 = .ok (.if_icmp .ge 16, 3) := by decide +kernel
theorem dX7_init_240 : decode cX7_init 240 = .ok (.aload_n 0, 1) := by decide +kernel
theorem dX7_init_241 : decode cX7_init 241 = .ok (.getfield 70, 3) := by decide +kernel
theorem dX7_init_244 : decode cX7_init 244 = .ok (.iload_n 2, 1) := by decide +kernel
theorem dX7_init_245 : decode cX7_init 245 = .ok (.iconst (-1), 1) := by decide +kernel
theorem dX7_init_246 : decode cX7_init 246 = .ok (.iastore, 1) := by decide +kernel
theorem dX7_init_247 : decode cX7_init 247 = .ok (.iinc 2 1, 3) := by decide +kernel
theorem dX7_init_250 : decode cX7_init 250 = .ok (.goto (-17), 3) := by decide +kernel
theorem dX7_init_253 : decode cX7_init 253 = .ok (.return_, 1) := by decide +kernel
theorem dX7_thrown_0 : decode cX7_thrown 0 = .ok (.aload_n 0, 1) := by decide +kernel
theorem dX7_thrown_1 : decode cX7_thrown 1 = .ok (.getfield 90, 3) := by decide +kernel
theorem dX7_thrown_4 : decode cX7_thrown 4 = .ok (.ireturn, 1) := by decide +kernel
theorem dX7_refuse_0 : decode cX7_refuse 0 = .ok (.aload_n 0, 1) := by decide +kernel
theorem dX7_refuse_1 : decode cX7_refuse 1 = .ok (.dup, 1) := by decide +kernel
theorem dX7_refuse_2 : decode cX7_refuse 2 = .ok (.getfield 93, 3) := by decide +kernel
theorem dX7_refuse_5 : decode cX7_refuse 5 = .ok (.iconst 1, 1) := by decide +kernel
theorem dX7_refuse_6 : decode cX7_refuse 6 = .ok (.iadd, 1) := by decide +kernel
theorem dX7_refuse_7 : decode cX7_refuse 7 = .ok (.putfield 93, 3) := by decide +kernel
theorem dX7_refuse_10 : decode cX7_refuse 10 = .ok (.iload_n 1, 1) := by decide +kernel
theorem dX7_refuse_11 : decode cX7_refuse 11 = .ok (.ireturn, 1) := by decide +kernel
theorem dX7_in_0 : decode cX7_in 0 = .ok (.iload_n 0, 1) := by decide +kernel
theorem dX7_in_1 : decode cX7_in 1 = .ok (.iload_n 1, 1) := by decide +kernel
theorem dX7_in_2 : decode cX7_in 2 = .ok (.if_icmp .lt 12, 3) := by decide +kernel
theorem dX7_in_5 : decode cX7_in 5 = .ok (.iload_n 0, 1) := by decide +kernel
theorem dX7_in_6 : decode cX7_in 6 = .ok (.iload_n 2, 1) := by decide +kernel
theorem dX7_in_7 : decode cX7_in 7 = .ok (.if_icmp .gt 7, 3) := by decide +kernel
theorem dX7_in_10 : decode cX7_in 10 = .ok (.iconst 1, 1) := by decide +kernel
theorem dX7_in_11 : decode cX7_in 11 = .ok (.goto 4, 3) := by decide +kernel
theorem dX7_in_14 : decode cX7_in 14 = .ok (.iconst 0, 1) := by decide +kernel
theorem dX7_in_15 : decode cX7_in 15 = .ok (.ireturn, 1) := by decide +kernel
theorem dX7_file_0 : decode cX7_file 0 = .ok (.aload_n 0, 1) := by decide +kernel
theorem dX7_file_1 : decode cX7_file 1 = .ok (.iconst 0, 1) := by decide +kernel
theorem dX7_file_2 : decode cX7_file 2 = .ok (.putfield 90, 3) := by decide +kernel
theorem dX7_file_5 : decode cX7_file 5 = .ok (.iload_n 3, 1) := by decide +kernel
theorem dX7_file_6 : decode cX7_file 6 = .ok (.iconst 1, 1) := by decide +kernel
theorem dX7_file_7 : decode cX7_file 7 = .ok (.bipush 8, 2) := by decide +kernel
theorem dX7_file_9 : decode cX7_file 9 = .ok (.invokestatic 96, 3) := by decide +kernel
theorem dX7_file_12 : decode cX7_file 12 = .ok (.ifCond .ne 10, 3) := by decide +kernel
theorem dX7_file_15 : decode cX7_file 15 = .ok (.aload_n 0, 1) := by decide +kernel
theorem dX7_file_16 : decode cX7_file 16 = .ok (.bipush (-2), 2) := by decide +kernel
theorem dX7_file_18 : decode cX7_file 18 = .ok (.invokevirtual 100, 3) := by decide +kernel
theorem dX7_file_21 : decode cX7_file 21 = .ok (.ireturn, 1) := by decide +kernel
theorem dX7_file_22 : decode cX7_file 22 = .ok (.aload_n 0, 1) := by decide +kernel
theorem dX7_file_23 : decode cX7_file 23 = .ok (.getfield 104, 3) := by decide +kernel
theorem dX7_file_26 : decode cX7_file 26 = .ok (.iload_n 3, 1) := by decide +kernel
theorem dX7_file_27 : decode cX7_file 27 = .ok (.iadd, 1) := by decide +kernel
theorem dX7_file_28 : decode cX7_file 28 = .ok (.bipush 120, 2) := by decide +kernel
theorem dX7_file_30 : decode cX7_file 30 = .ok (.if_icmp .le 10, 3) := by decide +kernel
theorem dX7_file_33 : decode cX7_file 33 = .ok (.aload_n 0, 1) := by decide +kernel
theorem dX7_file_34 : decode cX7_file 34 = .ok (.bipush (-4), 2) := by decide +kernel
theorem dX7_file_36 : decode cX7_file 36 = .ok (.invokevirtual 100, 3) := by decide +kernel
theorem dX7_file_39 : decode cX7_file 39 = .ok (.ireturn, 1) := by decide +kernel
theorem dX7_file_40 : decode cX7_file 40 = .ok (.iload_n 3, 1) := by decide +kernel
theorem dX7_file_41 : decode cX7_file 41 = .ok (.iconst 1, 1) := by decide +kernel
theorem dX7_file_42 : decode cX7_file 42 = .ok (.isub, 1) := by decide +kernel
theorem dX7_file_43 : decode cX7_file 43 = .ok (.istore 4, 2) := by decide +kernel
theorem dX7_file_45 : decode cX7_file 45 = .ok (.iload 4, 2) := by decide +kernel
theorem dX7_file_47 : decode cX7_file 47 = .ok (.ifCond .lt 37, 3) := by decide +kernel
theorem dX7_file_50 : decode cX7_file 50 = .ok (.aload_n 0, 1) := by decide +kernel
theorem dX7_file_51 : decode cX7_file 51 = .ok (.getfield 7, 3) := by decide +kernel
theorem dX7_file_54 : decode cX7_file 54 = .ok (.aload_n 0, 1) := by decide +kernel
theorem dX7_file_55 : decode cX7_file 55 = .ok (.getfield 104, 3) := by decide +kernel
theorem dX7_file_58 : decode cX7_file 58 = .ok (.lload_n 1, 1) := by decide +kernel
theorem dX7_file_59 : decode cX7_file 59 = .ok (.bipush 8, 2) := by decide +kernel
theorem dX7_file_61 : decode cX7_file 61 = .ok (.iload 4, 2) := by decide +kernel
theorem dX7_file_63 : decode cX7_file 63 = .ok (.imul, 1) := by decide +kernel
theorem dX7_file_64 : decode cX7_file 64 = .ok (.lshr, 1) := by decide +kernel
theorem dX7_file_65 : decode cX7_file 65 = .ok (.l2i, 1) := by decide +kernel
theorem dX7_file_66 : decode cX7_file 66 = .ok (.i2b, 1) := by decide +kernel
theorem dX7_file_67 : decode cX7_file 67 = .ok (.bastore, 1) := by decide +kernel
theorem dX7_file_68 : decode cX7_file 68 = .ok (.aload_n 0, 1) := by decide +kernel
theorem dX7_file_69 : decode cX7_file 69 = .ok (.dup, 1) := by decide +kernel
theorem dX7_file_70 : decode cX7_file 70 = .ok (.getfield 104, 3) := by decide +kernel
theorem dX7_file_73 : decode cX7_file 73 = .ok (.iconst 1, 1) := by decide +kernel
theorem dX7_file_74 : decode cX7_file 74 = .ok (.iadd, 1) := by decide +kernel
theorem dX7_file_75 : decode cX7_file 75 = .ok (.putfield 104, 3) := by decide +kernel
theorem dX7_file_78 : decode cX7_file 78 = .ok (.iinc 4 (-1), 3) := by decide +kernel
theorem dX7_file_81 : decode cX7_file 81 = .ok (.goto (-36), 3) := by decide +kernel
theorem dX7_file_84 : decode cX7_file 84 = .ok (.aload_n 0, 1) := by decide +kernel
theorem dX7_file_85 : decode cX7_file 85 = .ok (.getfield 104, 3) := by decide +kernel
theorem dX7_file_88 : decode cX7_file 88 = .ok (.ireturn, 1) := by decide +kernel
theorem dX7_cutUp_0 : decode cX7_cutUp 0 = .ok (.iconst 0, 1) := by decide +kernel
theorem dX7_cutUp_1 : decode cX7_cutUp 1 = .ok (.istore_n 2, 1) := by decide +kernel
theorem dX7_cutUp_2 : decode cX7_cutUp 2 = .ok (.iconst 0, 1) := by decide +kernel
theorem dX7_cutUp_3 : decode cX7_cutUp 3 = .ok (.istore_n 3, 1) := by decide +kernel
theorem dX7_cutUp_4 : decode cX7_cutUp 4 = .ok (.iconst 0, 1) := by decide +kernel
theorem dX7_cutUp_5 : decode cX7_cutUp 5 = .ok (.istore 4, 2) := by decide +kernel
theorem dX7_cutUp_7 : decode cX7_cutUp 7 = .ok (.iload_n 2, 1) := by decide +kernel
theorem dX7_cutUp_8 : decode cX7_cutUp 8 = .ok (.aload_n 0, 1) := by decide +kernel
theorem dX7_cutUp_9 : decode cX7_cutUp 9 = .ok (.getfield 104, 3) := by decide +kernel
theorem dX7_cutUp_12 : decode cX7_cutUp 12 = .ok (.if_icmp .ge 127, 3) := by decide +kernel
theorem dX7_cutUp_15 : decode cX7_cutUp 15 = .ok (.iload_n 2, 1) := by decide +kernel
theorem dX7_cutUp_16 : decode cX7_cutUp 16 = .ok (.iconst 1, 1) := by decide +kernel
theorem dX7_cutUp_17 : decode cX7_cutUp 17 = .ok (.iadd, 1) := by decide +kernel
theorem dX7_cutUp_18 : decode cX7_cutUp 18 = .ok (.aload_n 0, 1) := by decide +kernel
theorem dX7_cutUp_19 : decode cX7_cutUp 19 = .ok (.getfield 104, 3) := by decide +kernel
theorem dX7_cutUp_22 : decode cX7_cutUp 22 = .ok (.if_icmp .lt 5, 3) := by decide +kernel
theorem dX7_cutUp_25 : decode cX7_cutUp 25 = .ok (.iconst 0, 1) := by decide +kernel
theorem dX7_cutUp_26 : decode cX7_cutUp 26 = .ok (.ireturn, 1) := by decide +kernel
theorem dX7_cutUp_27 : decode cX7_cutUp 27 = .ok (.aload_n 0, 1) := by decide +kernel
theorem dX7_cutUp_28 : decode cX7_cutUp 28 = .ok (.getfield 7, 3) := by decide +kernel
theorem dX7_cutUp_31 : decode cX7_cutUp 31 = .ok (.iload_n 2, 1) := by decide +kernel
theorem dX7_cutUp_32 : decode cX7_cutUp 32 = .ok (.baload, 1) := by decide +kernel
theorem dX7_cutUp_33 : decode cX7_cutUp 33 = .ok (.istore 5, 2) := by decide +kernel
theorem dX7_cutUp_35 : decode cX7_cutUp 35 = .ok (.aload_n 0, 1) := by decide +kernel
theorem dX7_cutUp_36 : decode cX7_cutUp 36 = .ok (.getfield 7, 3) := by decide +kernel
theorem dX7_cutUp_39 : decode cX7_cutUp 39 = .ok (.iload_n 2, 1) := by decide +kernel
theorem dX7_cutUp_40 : decode cX7_cutUp 40 = .ok (.iconst 1, 1) := by decide +kernel
theorem dX7_cutUp_41 : decode cX7_cutUp 41 = .ok (.iadd, 1) := by decide +kernel
theorem dX7_cutUp_42 : decode cX7_cutUp 42 = .ok (.baload, 1) := by decide +kernel
theorem dX7_cutUp_43 : decode cX7_cutUp 43 = .ok (.sipush 255, 3) := by decide +kernel
theorem dX7_cutUp_46 : decode cX7_cutUp 46 = .ok (.iand, 1) := by decide +kernel
theorem dX7_cutUp_47 : decode cX7_cutUp 47 = .ok (.istore 6, 2) := by decide +kernel
theorem dX7_cutUp_49 : decode cX7_cutUp 49 = .ok (.iload 5, 2) := by decide +kernel
theorem dX7_cutUp_51 : decode cX7_cutUp 51 = .ok (.iconst 0, 1) := by decide +kernel
theorem dX7_cutUp_52 : decode cX7_cutUp 52 = .ok (.iconst 2, 1) := by decide +kernel
theorem dX7_cutUp_53 : decode cX7_cutUp 53 = .ok (.invokestatic 96, 3) := by decide +kernel
theorem dX7_cutUp_56 : decode cX7_cutUp 56 = .ok (.ifCond .eq 16, 3) := by decide +kernel
theorem dX7_cutUp_59 : decode cX7_cutUp 59 = .ok (.iload_n 2, 1) := by decide +kernel
theorem dX7_cutUp_60 : decode cX7_cutUp 60 = .ok (.iconst 2, 1) := by decide +kernel
theorem dX7_cutUp_61 : decode cX7_cutUp 61 = .ok (.iadd, 1) := by decide +kernel
theorem dX7_cutUp_62 : decode cX7_cutUp 62 = .ok (.iload 6, 2) := by decide +kernel
theorem dX7_cutUp_64 : decode cX7_cutUp 64 = .ok (.iadd, 1) := by decide +kernel
theorem dX7_cutUp_65 : decode cX7_cutUp 65 = .ok (.aload_n 0, 1) := by decide +kernel
theorem dX7_cutUp_66 : decode cX7_cutUp 66 = .ok (.getfield 104, 3) := by decide +kernel
theorem dX7_cutUp_69 : decode cX7_cutUp 69 = .ok (.if_icmp .le 5, 3) := by decide +kernel
theorem dX7_cutUp_72 : decode cX7_cutUp 72 = .ok (.iconst 0, 1) := by decide +kernel
theorem dX7_cutUp_73 : decode cX7_cutUp 73 = .ok (.ireturn, 1) := by decide +kernel
theorem dX7_cutUp_74 : decode cX7_cutUp 74 = .ok (.iload 5, 2) := by decide +kernel
theorem dX7_cutUp_76 : decode cX7_cutUp 76 = .ok (.iconst 1, 1) := by decide +kernel
theorem dX7_cutUp_77 : decode cX7_cutUp 77 = .ok (.if_icmp .ne 26, 3) := by decide +kernel
theorem dX7_cutUp_80 : decode cX7_cutUp 80 = .ok (.iinc 3 1, 3) := by decide +kernel
theorem dX7_cutUp_83 : decode cX7_cutUp 83 = .ok (.aload_n 0, 1) := by decide +kernel
theorem dX7_cutUp_84 : decode cX7_cutUp 84 = .ok (.getfield 23, 3) := by decide +kernel
theorem dX7_cutUp_87 : decode cX7_cutUp 87 = .ok (.iload_n 1, 1) := by decide +kernel
theorem dX7_cutUp_88 : decode cX7_cutUp 88 = .ok (.iload_n 2, 1) := by decide +kernel
theorem dX7_cutUp_89 : decode cX7_cutUp 89 = .ok (.iconst 2, 1) := by decide +kernel
theorem dX7_cutUp_90 : decode cX7_cutUp 90 = .ok (.iadd, 1) := by decide +kernel
theorem dX7_cutUp_91 : decode cX7_cutUp 91 = .ok (.iastore, 1) := by decide +kernel
theorem dX7_cutUp_92 : decode cX7_cutUp 92 = .ok (.aload_n 0, 1) := by decide +kernel
theorem dX7_cutUp_93 : decode cX7_cutUp 93 = .ok (.getfield 26, 3) := by decide +kernel
theorem dX7_cutUp_96 : decode cX7_cutUp 96 = .ok (.iload_n 1, 1) := by decide +kernel
theorem dX7_cutUp_97 : decode cX7_cutUp 97 = .ok (.iload 6, 2) := by decide +kernel
theorem dX7_cutUp_99 : decode cX7_cutUp 99 = .ok (.iastore, 1) := by decide +kernel
theorem dX7_cutUp_100 : decode cX7_cutUp 100 = .ok (.goto 29, 3) := by decide +kernel
theorem dX7_cutUp_103 : decode cX7_cutUp 103 = .ok (.iload 5, 2) := by decide +kernel
theorem dX7_cutUp_105 : decode cX7_cutUp 105 = .ok (.iconst 2, 1) := by decide +kernel
theorem dX7_cutUp_106 : decode cX7_cutUp 106 = .ok (.if_icmp .ne 23, 3) := by decide +kernel
theorem dX7_cutUp_109 : decode cX7_cutUp 109 = .ok (.iinc 4 1, 3) := by decide +kernel
theorem dX7_cutUp_112 : decode cX7_cutUp 112 = .ok (.aload_n 0, 1) := by decide +kernel
theorem dX7_cutUp_113 : decode cX7_cutUp 113 = .ok (.getfield 29, 3) := by decide +kernel
theorem dX7_cutUp_116 : decode cX7_cutUp 116 = .ok (.iload_n 1, 1) := by decide +kernel
theorem dX7_cutUp_117 : decode cX7_cutUp 117 = .ok (.iload_n 2, 1) := by decide +kernel
theorem dX7_cutUp_118 : decode cX7_cutUp 118 = .ok (.iconst 2, 1) := by decide +kernel
theorem dX7_cutUp_119 : decode cX7_cutUp 119 = .ok (.iadd, 1) := by decide +kernel
theorem dX7_cutUp_120 : decode cX7_cutUp 120 = .ok (.iastore, 1) := by decide +kernel
theorem dX7_cutUp_121 : decode cX7_cutUp 121 = .ok (.aload_n 0, 1) := by decide +kernel
theorem dX7_cutUp_122 : decode cX7_cutUp 122 = .ok (.getfield 32, 3) := by decide +kernel
theorem dX7_cutUp_125 : decode cX7_cutUp 125 = .ok (.iload_n 1, 1) := by decide +kernel
theorem dX7_cutUp_126 : decode cX7_cutUp 126 = .ok (.iload 6, 2) := by decide +kernel
theorem dX7_cutUp_128 : decode cX7_cutUp 128 = .ok (.iastore, 1) := by decide +kernel
theorem dX7_cutUp_129 : decode cX7_cutUp 129 = .ok (.iload_n 2, 1) := by decide +kernel
theorem dX7_cutUp_130 : decode cX7_cutUp 130 = .ok (.iconst 2, 1) := by decide +kernel
theorem dX7_cutUp_131 : decode cX7_cutUp 131 = .ok (.iload 6, 2) := by decide +kernel
theorem dX7_cutUp_133 : decode cX7_cutUp 133 = .ok (.iadd, 1) := by decide +kernel
theorem dX7_cutUp_134 : decode cX7_cutUp 134 = .ok (.iadd, 1) := by decide +kernel
theorem dX7_cutUp_135 : decode cX7_cutUp 135 = .ok (.istore_n 2, 1) := by decide +kernel
theorem dX7_cutUp_136 : decode cX7_cutUp 136 = .ok (.goto (-129), 3) := by decide +kernel
theorem dX7_cutUp_139 : decode cX7_cutUp 139 = .ok (.iload_n 3, 1) := by decide +kernel
theorem dX7_cutUp_140 : decode cX7_cutUp 140 = .ok (.ifCond .ne 10, 3) := by decide +kernel
theorem dX7_cutUp_143 : decode cX7_cutUp 143 = .ok (.aload_n 0, 1) := by decide +kernel
theorem dX7_cutUp_144 : decode cX7_cutUp 144 = .ok (.getfield 23, 3) := by decide +kernel
theorem dX7_cutUp_147 : decode cX7_cutUp 147 = .ok (.iload_n 1, 1) := by decide +kernel
theorem dX7_cutUp_148 : decode cX7_cutUp 148 = .ok (.iconst (-1), 1) := by decide +kernel
theorem dX7_cutUp_149 : decode cX7_cutUp 149 = .ok (.iastore, 1) := by decide +kernel
theorem dX7_cutUp_150 : decode cX7_cutUp 150 = .ok (.iload 4, 2) := by decide +kernel
theorem dX7_cutUp_152 : decode cX7_cutUp 152 = .ok (.iconst 1, 1) := by decide +kernel
theorem dX7_cutUp_153 : decode cX7_cutUp 153 = .ok (.if_icmp .ne 12, 3) := by decide +kernel
theorem dX7_cutUp_156 : decode cX7_cutUp 156 = .ok (.iload_n 3, 1) := by decide +kernel
theorem dX7_cutUp_157 : decode cX7_cutUp 157 = .ok (.iconst 2, 1) := by decide +kernel
theorem dX7_cutUp_158 : decode cX7_cutUp 158 = .ok (.if_icmp .ge 7, 3) := by decide +kernel
theorem dX7_cutUp_161 : decode cX7_cutUp 161 = .ok (.iconst 1, 1) := by decide +kernel
theorem dX7_cutUp_162 : decode cX7_cutUp 162 = .ok (.goto 4, 3) := by decide +kernel
theorem dX7_cutUp_165 : decode cX7_cutUp 165 = .ok (.iconst 0, 1) := by decide +kernel
theorem dX7_cutUp_166 : decode cX7_cutUp 166 = .ok (.ireturn, 1) := by decide +kernel
theorem dX7_place_0 : decode cX7_place 0 = .ok (.bipush 9, 2) := by decide +kernel
theorem dX7_place_2 : decode cX7_place 2 = .ok (.iload_n 0, 1) := by decide +kernel
theorem dX7_place_3 : decode cX7_place 3 = .ok (.iconst 1, 1) := by decide +kernel
theorem dX7_place_4 : decode cX7_place 4 = .ok (.isub, 1) := by decide +kernel
theorem dX7_place_5 : decode cX7_place 5 = .ok (.imul, 1) := by decide +kernel
theorem dX7_place_6 : decode cX7_place 6 = .ok (.iload_n 1, 1) := by decide +kernel
theorem dX7_place_7 : decode cX7_place 7 = .ok (.iadd, 1) := by decide +kernel
theorem dX7_place_8 : decode cX7_place 8 = .ok (.iconst 1, 1) := by decide +kernel
theorem dX7_place_9 : decode cX7_place 9 = .ok (.isub, 1) := by decide +kernel
theorem dX7_place_10 : decode cX7_place 10 = .ok (.ireturn, 1) := by decide +kernel
theorem dX7_runnable_0 : decode cX7_runnable 0 = .ok (.aload_n 0, 1) := by decide +kernel
theorem dX7_runnable_1 : decode cX7_runnable 1 = .ok (.iconst 0, 1) := by decide +kernel
theorem dX7_runnable_2 : decode cX7_runnable 2 = .ok (.putfield 90, 3) := by decide +kernel
theorem dX7_runnable_5 : decode cX7_runnable 5 = .ok (.iload_n 1, 1) := by decide +kernel
theorem dX7_runnable_6 : decode cX7_runnable 6 = .ok (.iconst 0, 1) := by decide +kernel
theorem dX7_runnable_7 : decode cX7_runnable 7 = .ok (.aload_n 0, 1) := by decide +kernel
theorem dX7_runnable_8 : decode cX7_runnable 8 = .ok (.getfield 107, 3) := by decide +kernel
theorem dX7_runnable_11 : decode cX7_runnable 11 = .ok (.invokestatic 96, 3) := by decide +kernel
theorem dX7_runnable_14 : decode cX7_runnable 14 = .ok (.ifCond .ne 9, 3) := by decide +kernel
theorem dX7_runnable_17 : decode cX7_runnable 17 = .ok (.aload_n 0, 1) := by decide +kernel
theorem dX7_runnable_18 : decode cX7_runnable 18 = .ok (.iconst (-1), 1) := by decide +kernel
theorem dX7_runnable_19 : decode cX7_runnable 19 = .ok (.invokevirtual 100, 3) := by decide +kernel
theorem dX7_runnable_22 : decode cX7_runnable 22 = .ok (.ireturn, 1) := by decide +kernel
theorem dX7_runnable_23 : decode cX7_runnable 23 = .ok (.iload_n 1, 1) := by decide +kernel
theorem dX7_runnable_24 : decode cX7_runnable 24 = .ok (.ifCond .ne 20, 3) := by decide +kernel
theorem dX7_runnable_27 : decode cX7_runnable 27 = .ok (.aload_n 0, 1) := by decide +kernel
theorem dX7_runnable_28 : decode cX7_runnable 28 = .ok (.getfield 107, 3) := by decide +kernel
theorem dX7_runnable_31 : decode cX7_runnable 31 = .ok (.bipush 20, 2) := by decide +kernel
theorem dX7_runnable_33 : decode cX7_runnable 33 = .ok (.if_icmp .ne 7, 3) := by decide +kernel
theorem dX7_runnable_36 : decode cX7_runnable 36 = .ok (.iconst 1, 1) := by decide +kernel
theorem dX7_runnable_37 : decode cX7_runnable 37 = .ok (.goto 23, 3) := by decide +kernel
theorem dX7_runnable_40 : decode cX7_runnable 40 = .ok (.iconst 0, 1) := by decide +kernel
theorem dX7_runnable_41 : decode cX7_runnable 41 = .ok (.goto 19, 3) := by decide +kernel
theorem dX7_runnable_44 : decode cX7_runnable 44 = .ok (.aload_n 0, 1) := by decide +kernel
theorem dX7_runnable_45 : decode cX7_runnable 45 = .ok (.getfield 13, 3) := by decide +kernel
theorem dX7_runnable_48 : decode cX7_runnable 48 = .ok (.iload_n 1, 1) := by decide +kernel
theorem dX7_runnable_49 : decode cX7_runnable 49 = .ok (.iaload, 1) := by decide +kernel
theorem dX7_runnable_50 : decode cX7_runnable 50 = .ok (.bipush 9, 2) := by decide +kernel
theorem dX7_runnable_52 : decode cX7_runnable 52 = .ok (.if_icmp .ne 7, 3) := by decide +kernel
theorem dX7_runnable_55 : decode cX7_runnable 55 = .ok (.iconst 1, 1) := by decide +kernel
theorem dX7_runnable_56 : decode cX7_runnable 56 = .ok (.goto 4, 3) := by decide +kernel
theorem dX7_runnable_59 : decode cX7_runnable 59 = .ok (.iconst 0, 1) := by decide +kernel
theorem dX7_runnable_60 : decode cX7_runnable 60 = .ok (.istore_n 2, 1) := by decide +kernel
theorem dX7_runnable_61 : decode cX7_runnable 61 = .ok (.iload_n 1, 1) := by decide +kernel
theorem dX7_runnable_62 : decode cX7_runnable 62 = .ok (.ifCond .ne 12, 3) := by decide +kernel
theorem dX7_runnable_65 : decode cX7_runnable 65 = .ok (.aload_n 0, 1) := by decide +kernel
theorem dX7_runnable_66 : decode cX7_runnable 66 = .ok (.getfield 107, 3) := by decide +kernel
theorem dX7_runnable_69 : decode cX7_runnable 69 = .ok (.iconst 1, 1) := by decide +kernel
theorem dX7_runnable_70 : decode cX7_runnable 70 = .ok (.iadd, 1) := by decide +kernel
theorem dX7_runnable_71 : decode cX7_runnable 71 = .ok (.goto 4, 3) := by decide +kernel
theorem dX7_runnable_74 : decode cX7_runnable 74 = .ok (.iload_n 1, 1) := by decide +kernel
theorem dX7_runnable_75 : decode cX7_runnable 75 = .ok (.istore_n 3, 1) := by decide +kernel
theorem dX7_runnable_76 : decode cX7_runnable 76 = .ok (.iload_n 1, 1) := by decide +kernel
theorem dX7_runnable_77 : decode cX7_runnable 77 = .ok (.ifCond .ne 7, 3) := by decide +kernel
theorem dX7_runnable_80 : decode cX7_runnable 80 = .ok (.iconst 1, 1) := by decide +kernel
theorem dX7_runnable_81 : decode cX7_runnable 81 = .ok (.goto 11, 3) := by decide +kernel
theorem dX7_runnable_84 : decode cX7_runnable 84 = .ok (.aload_n 0, 1) := by decide +kernel
theorem dX7_runnable_85 : decode cX7_runnable 85 = .ok (.getfield 13, 3) := by decide +kernel
theorem dX7_runnable_88 : decode cX7_runnable 88 = .ok (.iload_n 1, 1) := by decide +kernel
theorem dX7_runnable_89 : decode cX7_runnable 89 = .ok (.iaload, 1) := by decide +kernel
theorem dX7_runnable_90 : decode cX7_runnable 90 = .ok (.iconst 1, 1) := by decide +kernel
theorem dX7_runnable_91 : decode cX7_runnable 91 = .ok (.iadd, 1) := by decide +kernel
theorem dX7_runnable_92 : decode cX7_runnable 92 = .ok (.istore 4, 2) := by decide +kernel
theorem dX7_runnable_94 : decode cX7_runnable 94 = .ok (.iload_n 2, 1) := by decide +kernel
theorem dX7_runnable_95 : decode cX7_runnable 95 = .ok (.ifCond .eq 24, 3) := by decide +kernel
theorem dX7_runnable_98 : decode cX7_runnable 98 = .ok (.aload_n 0, 1) := by decide +kernel
theorem dX7_runnable_99 : decode cX7_runnable 99 = .ok (.invokevirtual 110, 3) := by decide +kernel
theorem dX7_runnable_102 : decode cX7_runnable 102 = .ok (.ifCond .eq 12, 3) := by decide +kernel
theorem dX7_runnable_105 : decode cX7_runnable 105 = .ok (.aload_n 0, 1) := by decide +kernel
theorem dX7_runnable_106 : decode cX7_runnable 106 = .ok (.bipush (-4), 2) := by decide +kernel
theorem dX7_runnable_108 : decode cX7_runnable 108 = .ok (.invokevirtual 100, 3) := by decide +kernel
theorem dX7_runnable_111 : decode cX7_runnable 111 = .ok (.goto 7, 3) := by decide +kernel
theorem dX7_runnable_114 : decode cX7_runnable 114 = .ok (.aload_n 0, 1) := by decide +kernel
theorem dX7_runnable_115 : decode cX7_runnable 115 = .ok (.invokevirtual 114, 3) := by decide +kernel
theorem dX7_runnable_118 : decode cX7_runnable 118 = .ok (.ireturn, 1) := by decide +kernel
theorem dX7_runnable_119 : decode cX7_runnable 119 = .ok (.iload_n 3, 1) := by decide +kernel
theorem dX7_runnable_120 : decode cX7_runnable 120 = .ok (.iload 4, 2) := by decide +kernel
theorem dX7_runnable_122 : decode cX7_runnable 122 = .ok (.invokestatic 118, 3) := by decide +kernel
theorem dX7_runnable_125 : decode cX7_runnable 125 = .ok (.istore 5, 2) := by decide +kernel
theorem dX7_runnable_127 : decode cX7_runnable 127 = .ok (.aload_n 0, 1) := by decide +kernel
theorem dX7_runnable_128 : decode cX7_runnable 128 = .ok (.iload 5, 2) := by decide +kernel
theorem dX7_runnable_130 : decode cX7_runnable 130 = .ok (.invokevirtual 122, 3) := by decide +kernel
theorem dX7_runnable_133 : decode cX7_runnable 133 = .ok (.ifCond .ne 8, 3) := by decide +kernel
theorem dX7_runnable_136 : decode cX7_runnable 136 = .ok (.aload_n 0, 1) := by decide +kernel
theorem dX7_runnable_137 : decode cX7_runnable 137 = .ok (.invokevirtual 114, 3) := by decide +kernel
theorem dX7_runnable_140 : decode cX7_runnable 140 = .ok (.ireturn, 1) := by decide +kernel
theorem dX7_runnable_141 : decode cX7_runnable 141 = .ok (.iconst 0, 1) := by decide +kernel
theorem dX7_runnable_142 : decode cX7_runnable 142 = .ok (.istore 6, 2) := by decide +kernel
theorem dX7_runnable_144 : decode cX7_runnable 144 = .ok (.iload 6, 2) := by decide +kernel
theorem dX7_runnable_146 : decode cX7_runnable 146 = .ok (.aload_n 0, 1) := by decide +kernel
theorem dX7_runnable_147 : decode cX7_runnable 147 = .ok (.getfield 104, 3) := by decide +kernel
theorem dX7_runnable_150 : decode cX7_runnable 150 = .ok (.if_icmp .ge 29, 3) := by decide +kernel
theorem dX7_runnable_153 : decode cX7_runnable 153 = .ok (.aload_n 0, 1) := by decide +kernel
theorem dX7_runnable_154 : decode cX7_runnable 154 = .ok (.getfield 17, 3) := by decide +kernel
theorem dX7_runnable_157 : decode cX7_runnable 157 = .ok (.bipush 120, 2) := by decide +kernel
theorem dX7_runnable_159 : decode cX7_runnable 159 = .ok (.iload 5, 2) := by decide +kernel
theorem dX7_runnable_161 : decode cX7_runnable 161 = .ok (.imul, 1) := by decide +kernel
theorem dX7_runnable_162 : decode cX7_runnable 162 = .ok (.iload 6, 2) := by decide +kernel
theorem dX7_runnable_164 : decode cX7_runnable 164 = .ok (.iadd, 1) := by decide +kernel
theorem dX7_runnable_165 : decode cX7_runnable 165 = .ok (.aload_n 0, 1) := by decide +kernel
theorem dX7_runnable_166 : decode cX7_runnable 166 = .ok (.getfield 7, 3) := by decide +kernel
theorem dX7_runnable_169 : decode cX7_runnable 169 = .ok (.iload 6, 2) := by decide +kernel
theorem dX7_runnable_171 : decode cX7_runnable 171 = .ok (.baload, 1) := by decide +kernel
theorem dX7_runnable_172 : decode cX7_runnable 172 = .ok (.bastore, 1) := by decide +kernel
theorem dX7_runnable_173 : decode cX7_runnable 173 = .ok (.iinc 6 1, 3) := by decide +kernel
theorem dX7_runnable_176 : decode cX7_runnable 176 = .ok (.goto (-32), 3) := by decide +kernel
theorem dX7_runnable_179 : decode cX7_runnable 179 = .ok (.aload_n 0, 1) := by decide +kernel
theorem dX7_runnable_180 : decode cX7_runnable 180 = .ok (.getfield 20, 3) := by decide +kernel
theorem dX7_runnable_183 : decode cX7_runnable 183 = .ok (.iload 5, 2) := by decide +kernel
theorem dX7_runnable_185 : decode cX7_runnable 185 = .ok (.aload_n 0, 1) := by decide +kernel
theorem dX7_runnable_186 : decode cX7_runnable 186 = .ok (.getfield 104, 3) := by decide +kernel
theorem dX7_runnable_189 : decode cX7_runnable 189 = .ok (.iastore, 1) := by decide +kernel
theorem dX7_runnable_190 : decode cX7_runnable 190 = .ok (.aload_n 0, 1) := by decide +kernel
theorem dX7_runnable_191 : decode cX7_runnable 191 = .ok (.iconst 0, 1) := by decide +kernel
theorem dX7_runnable_192 : decode cX7_runnable 192 = .ok (.putfield 104, 3) := by decide +kernel
theorem dX7_runnable_195 : decode cX7_runnable 195 = .ok (.aload_n 0, 1) := by decide +kernel
theorem dX7_runnable_196 : decode cX7_runnable 196 = .ok (.getfield 13, 3) := by decide +kernel
theorem dX7_runnable_199 : decode cX7_runnable 199 = .ok (.iload_n 3, 1) := by decide +kernel
theorem dX7_runnable_200 : decode cX7_runnable 200 = .ok (.iload 4, 2) := by decide +kernel
theorem dX7_runnable_202 : decode cX7_runnable 202 = .ok (.iastore, 1) := by decide +kernel
theorem dX7_runnable_203 : decode cX7_runnable 203 = .ok (.aload_n 0, 1) := by decide +kernel
theorem dX7_runnable_204 : decode cX7_runnable 204 = .ok (.iload_n 3, 1) := by decide +kernel
theorem dX7_runnable_205 : decode cX7_runnable 205 = .ok (.aload_n 0, 1) := by decide +kernel
theorem dX7_runnable_206 : decode cX7_runnable 206 = .ok (.getfield 107, 3) := by decide +kernel
theorem dX7_runnable_209 : decode cX7_runnable 209 = .ok (.if_icmp .le 7, 3) := by decide +kernel
theorem dX7_runnable_212 : decode cX7_runnable 212 = .ok (.iload_n 3, 1) := by decide +kernel
theorem dX7_runnable_213 : decode cX7_runnable 213 = .ok (.goto 7, 3) := by decide +kernel
theorem dX7_runnable_216 : decode cX7_runnable 216 = .ok (.aload_n 0, 1) := by decide +kernel
theorem dX7_runnable_217 : decode cX7_runnable 217 = .ok (.getfield 107, 3) := by decide +kernel
theorem dX7_runnable_220 : decode cX7_runnable 220 = .ok (.putfield 107, 3) := by decide +kernel
theorem dX7_runnable_223 : decode cX7_runnable 223 = .ok (.iload_n 1, 1) := by decide +kernel
theorem dX7_runnable_224 : decode cX7_runnable 224 = .ok (.ifCond .ne 7, 3) := by decide +kernel
theorem dX7_runnable_227 : decode cX7_runnable 227 = .ok (.iload_n 3, 1) := by decide +kernel
theorem dX7_runnable_228 : decode cX7_runnable 228 = .ok (.goto 5, 3) := by decide +kernel
theorem dX7_runnable_231 : decode cX7_runnable 231 = .ok (.iload 4, 2) := by decide +kernel
theorem dX7_runnable_233 : decode cX7_runnable 233 = .ok (.ireturn, 1) := by decide +kernel
theorem dX7_empties_0 : decode cX7_empties 0 = .ok (.aload_n 0, 1) := by decide +kernel
theorem dX7_empties_1 : decode cX7_empties 1 = .ok (.iconst 0, 1) := by decide +kernel
theorem dX7_empties_2 : decode cX7_empties 2 = .ok (.putfield 104, 3) := by decide +kernel
theorem dX7_empties_5 : decode cX7_empties 5 = .ok (.aload_n 0, 1) := by decide +kernel
theorem dX7_empties_6 : decode cX7_empties 6 = .ok (.bipush (-2), 2) := by decide +kernel
theorem dX7_empties_8 : decode cX7_empties 8 = .ok (.invokevirtual 100, 3) := by decide +kernel
theorem dX7_empties_11 : decode cX7_empties 11 = .ok (.ireturn, 1) := by decide +kernel
theorem dX7_isRight_0 : decode cX7_isRight 0 = .ok (.iconst 0, 1) := by decide +kernel
theorem dX7_isRight_1 : decode cX7_isRight 1 = .ok (.istore_n 1, 1) := by decide +kernel
theorem dX7_isRight_2 : decode cX7_isRight 2 = .ok (.iconst 0, 1) := by decide +kernel
theorem dX7_isRight_3 : decode cX7_isRight 3 = .ok (.istore_n 2, 1) := by decide +kernel
theorem dX7_isRight_4 : decode cX7_isRight 4 = .ok (.iconst 0, 1) := by decide +kernel
theorem dX7_isRight_5 : decode cX7_isRight 5 = .ok (.istore_n 3, 1) := by decide +kernel
theorem dX7_isRight_6 : decode cX7_isRight 6 = .ok (.iconst 1, 1) := by decide +kernel
theorem dX7_isRight_7 : decode cX7_isRight 7 = .ok (.istore 4, 2) := by decide +kernel
theorem dX7_isRight_9 : decode cX7_isRight 9 = .ok (.iload 4, 2) := by decide +kernel
theorem dX7_isRight_11 : decode cX7_isRight 11 = .ok (.ifCond .eq 129, 3) := by decide +kernel
theorem dX7_isRight_14 : decode cX7_isRight 14 = .ok (.iload_n 1, 1) := by decide +kernel
theorem dX7_isRight_15 : decode cX7_isRight 15 = .ok (.aload_n 0, 1) := by decide +kernel
theorem dX7_isRight_16 : decode cX7_isRight 16 = .ok (.getfield 104, 3) := by decide +kernel
theorem dX7_isRight_19 : decode cX7_isRight 19 = .ok (.if_icmp .ge 121, 3) := by decide +kernel
theorem dX7_isRight_22 : decode cX7_isRight 22 = .ok (.iload_n 1, 1) := by decide +kernel
theorem dX7_isRight_23 : decode cX7_isRight 23 = .ok (.iconst 1, 1) := by decide +kernel
theorem dX7_isRight_24 : decode cX7_isRight 24 = .ok (.iadd, 1) := by decide +kernel
theorem dX7_isRight_25 : decode cX7_isRight 25 = .ok (.aload_n 0, 1) := by decide +kernel
theorem dX7_isRight_26 : decode cX7_isRight 26 = .ok (.getfield 104, 3) := by decide +kernel
theorem dX7_isRight_29 : decode cX7_isRight 29 = .ok (.if_icmp .ge 44, 3) := by decide +kernel
theorem dX7_isRight_32 : decode cX7_isRight 32 = .ok (.aload_n 0, 1) := by decide +kernel
theorem dX7_isRight_33 : decode cX7_isRight 33 = .ok (.getfield 7, 3) := by decide +kernel
theorem dX7_isRight_36 : decode cX7_isRight 36 = .ok (.iload_n 1, 1) := by decide +kernel
theorem dX7_isRight_37 : decode cX7_isRight 37 = .ok (.baload, 1) := by decide +kernel
theorem dX7_isRight_38 : decode cX7_isRight 38 = .ok (.iconst 0, 1) := by decide +kernel
theorem dX7_isRight_39 : decode cX7_isRight 39 = .ok (.iconst 2, 1) := by decide +kernel
theorem dX7_isRight_40 : decode cX7_isRight 40 = .ok (.invokestatic 96, 3) := by decide +kernel
theorem dX7_isRight_43 : decode cX7_isRight 43 = .ok (.ifCond .eq 30, 3) := by decide +kernel
theorem dX7_isRight_46 : decode cX7_isRight 46 = .ok (.iload_n 1, 1) := by decide +kernel
theorem dX7_isRight_47 : decode cX7_isRight 47 = .ok (.iconst 2, 1) := by decide +kernel
theorem dX7_isRight_48 : decode cX7_isRight 48 = .ok (.iadd, 1) := by decide +kernel
theorem dX7_isRight_49 : decode cX7_isRight 49 = .ok (.aload_n 0, 1) := by decide +kernel
theorem dX7_isRight_50 : decode cX7_isRight 50 = .ok (.getfield 7, 3) := by decide +kernel
theorem dX7_isRight_53 : decode cX7_isRight 53 = .ok (.iload_n 1, 1) := by decide +kernel
theorem dX7_isRight_54 : decode cX7_isRight 54 = .ok (.iconst 1, 1) := by decide +kernel
theorem dX7_isRight_55 : decode cX7_isRight 55 = .ok (.iadd, 1) := by decide +kernel
theorem dX7_isRight_56 : decode cX7_isRight 56 = .ok (.baload, 1) := by decide +kernel
theorem dX7_isRight_57 : decode cX7_isRight 57 = .ok (.sipush 255, 3) := by decide +kernel
theorem dX7_isRight_60 : decode cX7_isRight 60 = .ok (.iand, 1) := by decide +kernel
theorem dX7_isRight_61 : decode cX7_isRight 61 = .ok (.iadd, 1) := by decide +kernel
theorem dX7_isRight_62 : decode cX7_isRight 62 = .ok (.aload_n 0, 1) := by decide +kernel
theorem dX7_isRight_63 : decode cX7_isRight 63 = .ok (.getfield 104, 3) := by decide +kernel
theorem dX7_isRight_66 : decode cX7_isRight 66 = .ok (.if_icmp .gt 7, 3) := by decide +kernel
theorem dX7_isRight_69 : decode cX7_isRight 69 = .ok (.iconst 1, 1) := by decide +kernel
theorem dX7_isRight_70 : decode cX7_isRight 70 = .ok (.goto 4, 3) := by decide +kernel
theorem dX7_isRight_73 : decode cX7_isRight 73 = .ok (.iconst 0, 1) := by decide +kernel
theorem dX7_isRight_74 : decode cX7_isRight 74 = .ok (.istore 4, 2) := by decide +kernel
theorem dX7_isRight_76 : decode cX7_isRight 76 = .ok (.iload 4, 2) := by decide +kernel
theorem dX7_isRight_78 : decode cX7_isRight 78 = .ok (.ifCond .ne 6, 3) := by decide +kernel
theorem dX7_isRight_81 : decode cX7_isRight 81 = .ok (.goto (-72), 3) := by decide +kernel
theorem dX7_isRight_84 : decode cX7_isRight 84 = .ok (.iload_n 2, 1) := by decide +kernel
theorem dX7_isRight_85 : decode cX7_isRight 85 = .ok (.aload_n 0, 1) := by decide +kernel
theorem dX7_isRight_86 : decode cX7_isRight 86 = .ok (.getfield 7, 3) := by decide +kernel
theorem dX7_isRight_89 : decode cX7_isRight 89 = .ok (.iload_n 1, 1) := by decide +kernel
theorem dX7_isRight_90 : decode cX7_isRight 90 = .ok (.baload, 1) := by decide +kernel
theorem dX7_isRight_91 : decode cX7_isRight 91 = .ok (.iconst 1, 1) := by decide +kernel
theorem dX7_isRight_92 : decode cX7_isRight 92 = .ok (.if_icmp .ne 7, 3) := by decide +kernel
theorem dX7_isRight_95 : decode cX7_isRight 95 = .ok (.iconst 1, 1) := by decide +kernel
theorem dX7_isRight_96 : decode cX7_isRight 96 = .ok (.goto 4, 3) := by decide +kernel
theorem dX7_isRight_99 : decode cX7_isRight 99 = .ok (.iconst 0, 1) := by decide +kernel
theorem dX7_isRight_100 : decode cX7_isRight 100 = .ok (.iadd, 1) := by decide +kernel
theorem dX7_isRight_101 : decode cX7_isRight 101 = .ok (.istore_n 2, 1) := by decide +kernel
theorem dX7_isRight_102 : decode cX7_isRight 102 = .ok (.iload_n 3, 1) := by decide +kernel
theorem dX7_isRight_103 : decode cX7_isRight 103 = .ok (.aload_n 0, 1) := by decide +kernel
theorem dX7_isRight_104 : decode cX7_isRight 104 = .ok (.getfield 7, 3) := by decide +kernel
theorem dX7_isRight_107 : decode cX7_isRight 107 = .ok (.iload_n 1, 1) := by decide +kernel
theorem dX7_isRight_108 : decode cX7_isRight 108 = .ok (.baload, 1) := by decide +kernel
theorem dX7_isRight_109 : decode cX7_isRight 109 = .ok (.iconst 2, 1) := by decide +kernel
theorem dX7_isRight_110 : decode cX7_isRight 110 = .ok (.if_icmp .ne 7, 3) := by decide +kernel
theorem dX7_isRight_113 : decode cX7_isRight 113 = .ok (.iconst 1, 1) := by decide +kernel
theorem dX7_isRight_114 : decode cX7_isRight 114 = .ok (.goto 4, 3) := by decide +kernel
theorem dX7_isRight_117 : decode cX7_isRight 117 = .ok (.iconst 0, 1) := by decide +kernel
theorem dX7_isRight_118 : decode cX7_isRight 118 = .ok (.iadd, 1) := by decide +kernel
theorem dX7_isRight_119 : decode cX7_isRight 119 = .ok (.istore_n 3, 1) := by decide +kernel
theorem dX7_isRight_120 : decode cX7_isRight 120 = .ok (.iload_n 1, 1) := by decide +kernel
theorem dX7_isRight_121 : decode cX7_isRight 121 = .ok (.iconst 2, 1) := by decide +kernel
theorem dX7_isRight_122 : decode cX7_isRight 122 = .ok (.aload_n 0, 1) := by decide +kernel
theorem dX7_isRight_123 : decode cX7_isRight 123 = .ok (.getfield 7, 3) := by decide +kernel
theorem dX7_isRight_126 : decode cX7_isRight 126 = .ok (.iload_n 1, 1) := by decide +kernel
theorem dX7_isRight_127 : decode cX7_isRight 127 = .ok (.iconst 1, 1) := by decide +kernel
theorem dX7_isRight_128 : decode cX7_isRight 128 = .ok (.iadd, 1) := by decide +kernel
theorem dX7_isRight_129 : decode cX7_isRight 129 = .ok (.baload, 1) := by decide +kernel
theorem dX7_isRight_130 : decode cX7_isRight 130 = .ok (.sipush 255, 3) := by decide +kernel
theorem dX7_isRight_133 : decode cX7_isRight 133 = .ok (.iand, 1) := by decide +kernel
theorem dX7_isRight_134 : decode cX7_isRight 134 = .ok (.iadd, 1) := by decide +kernel
theorem dX7_isRight_135 : decode cX7_isRight 135 = .ok (.iadd, 1) := by decide +kernel
theorem dX7_isRight_136 : decode cX7_isRight 136 = .ok (.istore_n 1, 1) := by decide +kernel
theorem dX7_isRight_137 : decode cX7_isRight 137 = .ok (.goto (-128), 3) := by decide +kernel
theorem dX7_isRight_140 : decode cX7_isRight 140 = .ok (.iload 4, 2) := by decide +kernel
theorem dX7_isRight_142 : decode cX7_isRight 142 = .ok (.ifCond .eq 17, 3) := by decide +kernel
theorem dX7_isRight_145 : decode cX7_isRight 145 = .ok (.iload_n 3, 1) := by decide +kernel
theorem dX7_isRight_146 : decode cX7_isRight 146 = .ok (.iconst 1, 1) := by decide +kernel
theorem dX7_isRight_147 : decode cX7_isRight 147 = .ok (.if_icmp .ne 12, 3) := by decide +kernel
theorem dX7_isRight_150 : decode cX7_isRight 150 = .ok (.iload_n 2, 1) := by decide +kernel
theorem dX7_isRight_151 : decode cX7_isRight 151 = .ok (.iconst 2, 1) := by decide +kernel
theorem dX7_isRight_152 : decode cX7_isRight 152 = .ok (.if_icmp .ge 7, 3) := by decide +kernel
theorem dX7_isRight_155 : decode cX7_isRight 155 = .ok (.iconst 1, 1) := by decide +kernel
theorem dX7_isRight_156 : decode cX7_isRight 156 = .ok (.goto 4, 3) := by decide +kernel
theorem dX7_isRight_159 : decode cX7_isRight 159 = .ok (.iconst 0, 1) := by decide +kernel
theorem dX7_isRight_160 : decode cX7_isRight 160 = .ok (.ireturn, 1) := by decide +kernel
theorem dX7_isController_0 : decode cX7_isController 0 = .ok (.iload_n 1, 1) := by decide +kernel
theorem dX7_isController_1 : decode cX7_isController 1 = .ok (.iconst 0, 1) := by decide +kernel
theorem dX7_isController_2 : decode cX7_isController 2 = .ok (.bipush 7, 2) := by decide +kernel
theorem dX7_isController_4 : decode cX7_isController 4 = .ok (.invokestatic 96, 3) := by decide +kernel
theorem dX7_isController_7 : decode cX7_isController 7 = .ok (.ireturn, 1) := by decide +kernel
theorem dX7_isRunnable_0 : decode cX7_isRunnable 0 = .ok (.iload_n 1, 1) := by decide +kernel
theorem dX7_isRunnable_1 : decode cX7_isRunnable 1 = .ok (.iconst 1, 1) := by decide +kernel
theorem dX7_isRunnable_2 : decode cX7_isRunnable 2 = .ok (.aload_n 0, 1) := by decide +kernel
theorem dX7_isRunnable_3 : decode cX7_isRunnable 3 = .ok (.getfield 107, 3) := by decide +kernel
theorem dX7_isRunnable_6 : decode cX7_isRunnable 6 = .ok (.invokestatic 96, 3) := by decide +kernel
theorem dX7_isRunnable_9 : decode cX7_isRunnable 9 = .ok (.ireturn, 1) := by decide +kernel
theorem dX7_at_0 : decode cX7_at 0 = .ok (.bipush 20, 2) := by decide +kernel
theorem dX7_at_2 : decode cX7_at 2 = .ok (.iload_n 0, 1) := by decide +kernel
theorem dX7_at_3 : decode cX7_at 3 = .ok (.imul, 1) := by decide +kernel
theorem dX7_at_4 : decode cX7_at 4 = .ok (.iload_n 1, 1) := by decide +kernel
theorem dX7_at_5 : decode cX7_at 5 = .ok (.iadd, 1) := by decide +kernel
theorem dX7_at_6 : decode cX7_at 6 = .ok (.iconst 1, 1) := by decide +kernel
theorem dX7_at_7 : decode cX7_at 7 = .ok (.isub, 1) := by decide +kernel
theorem dX7_at_8 : decode cX7_at 8 = .ok (.ireturn, 1) := by decide +kernel
theorem dX7_hasClass_0 : decode cX7_hasClass 0 = .ok (.aload_n 0, 1) := by decide +kernel
theorem dX7_hasClass_1 : decode cX7_hasClass 1 = .ok (.iload_n 1, 1) := by decide +kernel
theorem dX7_hasClass_2 : decode cX7_hasClass 2 = .ok (.invokevirtual 126, 3) := by decide +kernel
theorem dX7_hasClass_5 : decode cX7_hasClass 5 = .ok (.ifCond .eq 28, 3) := by decide +kernel
theorem dX7_hasClass_8 : decode cX7_hasClass 8 = .ok (.aload_n 0, 1) := by decide +kernel
theorem dX7_hasClass_9 : decode cX7_hasClass 9 = .ok (.iload_n 2, 1) := by decide +kernel
theorem dX7_hasClass_10 : decode cX7_hasClass 10 = .ok (.invokevirtual 129, 3) := by decide +kernel
theorem dX7_hasClass_13 : decode cX7_hasClass 13 = .ok (.ifCond .eq 20, 3) := by decide +kernel
theorem dX7_hasClass_16 : decode cX7_hasClass 16 = .ok (.aload_n 0, 1) := by decide +kernel
theorem dX7_hasClass_17 : decode cX7_hasClass 17 = .ok (.getfield 61, 3) := by decide +kernel
theorem dX7_hasClass_20 : decode cX7_hasClass 20 = .ok (.iload_n 1, 1) := by decide +kernel
theorem dX7_hasClass_21 : decode cX7_hasClass 21 = .ok (.iload_n 2, 1) := by decide +kernel
theorem dX7_hasClass_22 : decode cX7_hasClass 22 = .ok (.invokestatic 132, 3) := by decide +kernel
theorem dX7_hasClass_25 : decode cX7_hasClass 25 = .ok (.iaload, 1) := by decide +kernel
theorem dX7_hasClass_26 : decode cX7_hasClass 26 = .ok (.ifCond .le 7, 3) := by decide +kernel
theorem dX7_hasClass_29 : decode cX7_hasClass 29 = .ok (.iconst 1, 1) := by decide +kernel
theorem dX7_hasClass_30 : decode cX7_hasClass 30 = .ok (.goto 4, 3) := by decide +kernel
theorem dX7_hasClass_33 : decode cX7_hasClass 33 = .ok (.iconst 0, 1) := by decide +kernel
theorem dX7_hasClass_34 : decode cX7_hasClass 34 = .ok (.ireturn, 1) := by decide +kernel
theorem dX7_renew_0 : decode cX7_renew 0 = .ok (.aload_n 0, 1) := by decide +kernel
theorem dX7_renew_1 : decode cX7_renew 1 = .ok (.getfield 61, 3) := by decide +kernel
theorem dX7_renew_4 : decode cX7_renew 4 = .ok (.iload_n 1, 1) := by decide +kernel
theorem dX7_renew_5 : decode cX7_renew 5 = .ok (.aload_n 0, 1) := by decide +kernel
theorem dX7_renew_6 : decode cX7_renew 6 = .ok (.getfield 13, 3) := by decide +kernel
theorem dX7_renew_9 : decode cX7_renew 9 = .ok (.iload_n 2, 1) := by decide +kernel
theorem dX7_renew_10 : decode cX7_renew 10 = .ok (.iaload, 1) := by decide +kernel
theorem dX7_renew_11 : decode cX7_renew 11 = .ok (.iastore, 1) := by decide +kernel
theorem dX7_renew_12 : decode cX7_renew 12 = .ok (.iload_n 3, 1) := by decide +kernel
theorem dX7_renew_13 : decode cX7_renew 13 = .ok (.istore 4, 2) := by decide +kernel
theorem dX7_renew_15 : decode cX7_renew 15 = .ok (.iload 4, 2) := by decide +kernel
theorem dX7_renew_17 : decode cX7_renew 17 = .ok (.bipush 8, 2) := by decide +kernel
theorem dX7_renew_19 : decode cX7_renew 19 = .ok (.if_icmp .ge 22, 3) := by decide +kernel
theorem dX7_renew_22 : decode cX7_renew 22 = .ok (.aload_n 0, 1) := by decide +kernel
theorem dX7_renew_23 : decode cX7_renew 23 = .ok (.getfield 64, 3) := by decide +kernel
theorem dX7_renew_26 : decode cX7_renew 26 = .ok (.bipush 8, 2) := by decide +kernel
theorem dX7_renew_28 : decode cX7_renew 28 = .ok (.iload_n 1, 1) := by decide +kernel
theorem dX7_renew_29 : decode cX7_renew 29 = .ok (.imul, 1) := by decide +kernel
theorem dX7_renew_30 : decode cX7_renew 30 = .ok (.iload 4, 2) := by decide +kernel
theorem dX7_renew_32 : decode cX7_renew 32 = .ok (.iadd, 1) := by decide +kernel
theorem dX7_renew_33 : decode cX7_renew 33 = .ok (.lconst 0, 1) := by decide +kernel
theorem dX7_renew_34 : decode cX7_renew 34 = .ok (.lastore, 1) := by decide +kernel
theorem dX7_renew_35 : decode cX7_renew 35 = .ok (.iinc 4 1, 3) := by decide +kernel
theorem dX7_renew_38 : decode cX7_renew 38 = .ok (.goto (-23), 3) := by decide +kernel
theorem dX7_renew_41 : decode cX7_renew 41 = .ok (.aload_n 0, 1) := by decide +kernel
theorem dX7_renew_42 : decode cX7_renew 42 = .ok (.getfield 67, 3) := by decide +kernel
theorem dX7_renew_45 : decode cX7_renew 45 = .ok (.iload_n 1, 1) := by decide +kernel
theorem dX7_renew_46 : decode cX7_renew 46 = .ok (.iconst 0, 1) := by decide +kernel
theorem dX7_renew_47 : decode cX7_renew 47 = .ok (.bastore, 1) := by decide +kernel
theorem dX7_renew_48 : decode cX7_renew 48 = .ok (.aload_n 0, 1) := by decide +kernel
theorem dX7_renew_49 : decode cX7_renew 49 = .ok (.getfield 70, 3) := by decide +kernel
theorem dX7_renew_52 : decode cX7_renew 52 = .ok (.iload_n 1, 1) := by decide +kernel
theorem dX7_renew_53 : decode cX7_renew 53 = .ok (.iconst (-1), 1) := by decide +kernel
theorem dX7_renew_54 : decode cX7_renew 54 = .ok (.iastore, 1) := by decide +kernel
theorem dX7_renew_55 : decode cX7_renew 55 = .ok (.return_, 1) := by decide +kernel
theorem dX7_make_0 : decode cX7_make 0 = .ok (.aload_n 0, 1) := by decide +kernel
theorem dX7_make_1 : decode cX7_make 1 = .ok (.iconst 0, 1) := by decide +kernel
theorem dX7_make_2 : decode cX7_make 2 = .ok (.putfield 90, 3) := by decide +kernel
theorem dX7_make_5 : decode cX7_make 5 = .ok (.aload_n 0, 1) := by decide +kernel
theorem dX7_make_6 : decode cX7_make 6 = .ok (.iload_n 1, 1) := by decide +kernel
theorem dX7_make_7 : decode cX7_make 7 = .ok (.invokevirtual 126, 3) := by decide +kernel
theorem dX7_make_10 : decode cX7_make 10 = .ok (.ifCond .eq 11, 3) := by decide +kernel
theorem dX7_make_13 : decode cX7_make 13 = .ok (.aload_n 0, 1) := by decide +kernel
theorem dX7_make_14 : decode cX7_make 14 = .ok (.iload_n 2, 1) := by decide +kernel
theorem dX7_make_15 : decode cX7_make 15 = .ok (.invokevirtual 129, 3) := by decide +kernel
theorem dX7_make_18 : decode cX7_make 18 = .ok (.ifCond .ne 9, 3) := by decide +kernel
theorem dX7_make_21 : decode cX7_make 21 = .ok (.aload_n 0, 1) := by decide +kernel
theorem dX7_make_22 : decode cX7_make 22 = .ok (.iconst (-1), 1) := by decide +kernel
theorem dX7_make_23 : decode cX7_make 23 = .ok (.invokevirtual 100, 3) := by decide +kernel
theorem dX7_make_26 : decode cX7_make 26 = .ok (.ireturn, 1) := by decide +kernel
theorem dX7_make_27 : decode cX7_make 27 = .ok (.iload_n 1, 1) := by decide +kernel
theorem dX7_make_28 : decode cX7_make 28 = .ok (.iload_n 2, 1) := by decide +kernel
theorem dX7_make_29 : decode cX7_make 29 = .ok (.invokestatic 132, 3) := by decide +kernel
theorem dX7_make_32 : decode cX7_make 32 = .ok (.istore_n 3, 1) := by decide +kernel
theorem dX7_make_33 : decode cX7_make 33 = .ok (.aload_n 0, 1) := by decide +kernel
theorem dX7_make_34 : decode cX7_make 34 = .ok (.getfield 39, 3) := by decide +kernel
theorem dX7_make_37 : decode cX7_make 37 = .ok (.iload_n 1, 1) := by decide +kernel
theorem dX7_make_38 : decode cX7_make 38 = .ok (.baload, 1) := by decide +kernel
theorem dX7_make_39 : decode cX7_make 39 = .ok (.ifCond .ne 12, 3) := by decide +kernel
theorem dX7_make_42 : decode cX7_make 42 = .ok (.aload_n 0, 1) := by decide +kernel
theorem dX7_make_43 : decode cX7_make 43 = .ok (.getfield 61, 3) := by decide +kernel
theorem dX7_make_46 : decode cX7_make 46 = .ok (.iload_n 3, 1) := by decide +kernel
theorem dX7_make_47 : decode cX7_make 47 = .ok (.iaload, 1) := by decide +kernel
theorem dX7_make_48 : decode cX7_make 48 = .ok (.ifCond .le 10, 3) := by decide +kernel
theorem dX7_make_51 : decode cX7_make 51 = .ok (.aload_n 0, 1) := by decide +kernel
theorem dX7_make_52 : decode cX7_make 52 = .ok (.bipush (-3), 2) := by decide +kernel
theorem dX7_make_54 : decode cX7_make 54 = .ok (.invokevirtual 100, 3) := by decide +kernel
theorem dX7_make_57 : decode cX7_make 57 = .ok (.ireturn, 1) := by decide +kernel
theorem dX7_make_58 : decode cX7_make 58 = .ok (.aload_n 0, 1) := by decide +kernel
theorem dX7_make_59 : decode cX7_make 59 = .ok (.iload_n 3, 1) := by decide +kernel
theorem dX7_make_60 : decode cX7_make 60 = .ok (.iload_n 2, 1) := by decide +kernel
theorem dX7_make_61 : decode cX7_make 61 = .ok (.iconst 0, 1) := by decide +kernel
theorem dX7_make_62 : decode cX7_make 62 = .ok (.invokevirtual 135, 3) := by decide +kernel
theorem dX7_make_65 : decode cX7_make 65 = .ok (.iconst 1, 1) := by decide +kernel
theorem dX7_make_66 : decode cX7_make 66 = .ok (.ireturn, 1) := by decide +kernel
theorem dX7_lay_0 : decode cX7_lay 0 = .ok (.aload_n 0, 1) := by decide +kernel
theorem dX7_lay_1 : decode cX7_lay 1 = .ok (.getfield 76, 3) := by decide +kernel
theorem dX7_lay_4 : decode cX7_lay 4 = .ok (.aload_n 0, 1) := by decide +kernel
theorem dX7_lay_5 : decode cX7_lay 5 = .ok (.getfield 139, 3) := by decide +kernel
theorem dX7_lay_8 : decode cX7_lay 8 = .ok (.lload_n 1, 1) := by decide +kernel
theorem dX7_lay_9 : decode cX7_lay 9 = .ok (.lastore, 1) := by decide +kernel
theorem dX7_lay_10 : decode cX7_lay 10 = .ok (.aload_n 0, 1) := by decide +kernel
theorem dX7_lay_11 : decode cX7_lay 11 = .ok (.dup, 1) := by decide +kernel
theorem dX7_lay_12 : decode cX7_lay 12 = .ok (.getfield 139, 3) := by decide +kernel
theorem dX7_lay_15 : decode cX7_lay 15 = .ok (.iconst 1, 1) := by decide +kernel
theorem dX7_lay_16 : decode cX7_lay 16 = .ok (.iadd, 1) := by decide +kernel
theorem dX7_lay_17 : decode cX7_lay 17 = .ok (.putfield 139, 3) := by decide +kernel
theorem dX7_lay_20 : decode cX7_lay 20 = .ok (.return_, 1) := by decide +kernel
theorem dX7_take_0 : decode cX7_take 0 = .ok (.aload_n 0, 1) := by decide +kernel
theorem dX7_take_1 : decode cX7_take 1 = .ok (.dup, 1) := by decide +kernel
theorem dX7_take_2 : decode cX7_take 2 = .ok (.getfield 139, 3) := by decide +kernel
theorem dX7_take_5 : decode cX7_take 5 = .ok (.iconst 1, 1) := by decide +kernel
theorem dX7_take_6 : decode cX7_take 6 = .ok (.isub, 1) := by decide +kernel
theorem dX7_take_7 : decode cX7_take 7 = .ok (.putfield 139, 3) := by decide +kernel
theorem dX7_take_10 : decode cX7_take 10 = .ok (.aload_n 0, 1) := by decide +kernel
theorem dX7_take_11 : decode cX7_take 11 = .ok (.getfield 76, 3) := by decide +kernel
theorem dX7_take_14 : decode cX7_take 14 = .ok (.aload_n 0, 1) := by decide +kernel
theorem dX7_take_15 : decode cX7_take 15 = .ok (.getfield 139, 3) := by decide +kernel
theorem dX7_take_18 : decode cX7_take 18 = .ok (.laload, 1) := by decide +kernel
theorem dX7_take_19 : decode cX7_take 19 = .ok (.lreturn, 1) := by decide +kernel
theorem dX7_call_0 : decode cX7_call 0 = .ok (.aload_n 0, 1) := by decide +kernel
theorem dX7_call_1 : decode cX7_call 1 = .ok (.dup, 1) := by decide +kernel
theorem dX7_call_2 : decode cX7_call 2 = .ok (.getfield 142, 3) := by decide +kernel
theorem dX7_call_5 : decode cX7_call 5 = .ok (.iconst 1, 1) := by decide +kernel
theorem dX7_call_6 : decode cX7_call 6 = .ok (.iadd, 1) := by decide +kernel
theorem dX7_call_7 : decode cX7_call 7 = .ok (.putfield 142, 3) := by decide +kernel
theorem dX7_call_10 : decode cX7_call 10 = .ok (.aload_n 0, 1) := by decide +kernel
theorem dX7_call_11 : decode cX7_call 11 = .ok (.iconst 0, 1) := by decide +kernel
theorem dX7_call_12 : decode cX7_call 12 = .ok (.putfield 139, 3) := by decide +kernel
theorem dX7_call_15 : decode cX7_call 15 = .ok (.aload_n 0, 1) := by decide +kernel
theorem dX7_call_16 : decode cX7_call 16 = .ok (.iconst 0, 1) := by decide +kernel
theorem dX7_call_17 : decode cX7_call 17 = .ok (.putfield 145, 3) := by decide +kernel
theorem dX7_call_20 : decode cX7_call 20 = .ok (.aload_n 0, 1) := by decide +kernel
theorem dX7_call_21 : decode cX7_call 21 = .ok (.iconst 0, 1) := by decide +kernel
theorem dX7_call_22 : decode cX7_call 22 = .ok (.putfield 148, 3) := by decide +kernel
theorem dX7_call_25 : decode cX7_call 25 = .ok (.iload_n 1, 1) := by decide +kernel
theorem dX7_call_26 : decode cX7_call 26 = .ok (.iload_n 2, 1) := by decide +kernel
theorem dX7_call_27 : decode cX7_call 27 = .ok (.invokestatic 132, 3) := by decide +kernel
theorem dX7_call_30 : decode cX7_call 30 = .ok (.istore 5, 2) := by decide +kernel
theorem dX7_call_32 : decode cX7_call 32 = .ok (.bipush 120, 2) := by decide +kernel
theorem dX7_call_34 : decode cX7_call 34 = .ok (.iload_n 2, 1) := by decide +kernel
theorem dX7_call_35 : decode cX7_call 35 = .ok (.aload_n 0, 1) := by decide +kernel
theorem dX7_call_36 : decode cX7_call 36 = .ok (.getfield 61, 3) := by decide +kernel
theorem dX7_call_39 : decode cX7_call 39 = .ok (.iload 5, 2) := by decide +kernel
theorem dX7_call_41 : decode cX7_call 41 = .ok (.iaload, 1) := by decide +kernel
theorem dX7_call_42 : decode cX7_call 42 = .ok (.invokestatic 118, 3) := by decide +kernel
theorem dX7_call_45 : decode cX7_call 45 = .ok (.imul, 1) := by decide +kernel
theorem dX7_call_46 : decode cX7_call 46 = .ok (.iload_n 3, 1) := by decide +kernel
theorem dX7_call_47 : decode cX7_call 47 = .ok (.iadd, 1) := by decide +kernel
theorem dX7_call_48 : decode cX7_call 48 = .ok (.istore 6, 2) := by decide +kernel
theorem dX7_call_50 : decode cX7_call 50 = .ok (.iconst 0, 1) := by decide +kernel
theorem dX7_call_51 : decode cX7_call 51 = .ok (.istore 7, 2) := by decide +kernel
theorem dX7_call_53 : decode cX7_call 53 = .ok (.iload 7, 2) := by decide +kernel
theorem dX7_call_55 : decode cX7_call 55 = .ok (.iload 4, 2) := by decide +kernel
theorem dX7_call_57 : decode cX7_call 57 = .ok (.if_icmp .eq 445, 3) := by decide +kernel
theorem dX7_call_60 : decode cX7_call 60 = .ok (.aload_n 0, 1) := by decide +kernel
theorem dX7_call_61 : decode cX7_call 61 = .ok (.getfield 145, 3) := by decide +kernel
theorem dX7_call_64 : decode cX7_call 64 = .ok (.aload_n 0, 1) := by decide +kernel
theorem dX7_call_65 : decode cX7_call 65 = .ok (.getfield 86, 3) := by decide +kernel
theorem dX7_call_68 : decode cX7_call 68 = .ok (.if_icmp .ne 6, 3) := by decide +kernel
theorem dX7_call_71 : decode cX7_call 71 = .ok (.bipush 7, 2) := by decide +kernel
theorem dX7_call_73 : decode cX7_call 73 = .ok (.ireturn, 1) := by decide +kernel
theorem dX7_call_74 : decode cX7_call 74 = .ok (.aload_n 0, 1) := by decide +kernel
theorem dX7_call_75 : decode cX7_call 75 = .ok (.dup, 1) := by decide +kernel
theorem dX7_call_76 : decode cX7_call 76 = .ok (.getfield 145, 3) := by decide +kernel
theorem dX7_call_79 : decode cX7_call 79 = .ok (.iconst 1, 1) := by decide +kernel
theorem dX7_call_80 : decode cX7_call 80 = .ok (.iadd, 1) := by decide +kernel
theorem dX7_call_81 : decode cX7_call 81 = .ok (.putfield 145, 3) := by decide +kernel
theorem dX7_call_84 : decode cX7_call 84 = .ok (.aload_n 0, 1) := by decide +kernel
theorem dX7_call_85 : decode cX7_call 85 = .ok (.getfield 17, 3) := by decide +kernel
theorem dX7_call_88 : decode cX7_call 88 = .ok (.iload 6, 2) := by decide +kernel
theorem dX7_call_90 : decode cX7_call 90 = .ok (.iload 7, 2) := by decide +kernel
theorem dX7_call_92 : decode cX7_call 92 = .ok (.iadd, 1) := by decide +kernel
theorem dX7_call_93 : decode cX7_call 93 = .ok (.baload, 1) := by decide +kernel
theorem dX7_call_94 : decode cX7_call 94 = .ok (.istore 8, 2) := by decide +kernel
theorem dX7_call_96 : decode cX7_call 96 = .ok (.iload 8, 2) := by decide +kernel
theorem dX7_call_98 : decode cX7_call 98 = .ok (.iconst 0, 1) := by decide +kernel
theorem dX7_call_99 : decode cX7_call 99 = .ok (.iconst 4, 1) := by decide +kernel
theorem dX7_call_100 : decode cX7_call 100 = .ok (.invokestatic 96, 3) := by decide +kernel
theorem dX7_call_103 : decode cX7_call 103 = .ok (.ifCond .ne 31, 3) := by decide +kernel
theorem dX7_call_106 : decode cX7_call 106 = .ok (.iload 8, 2) := by decide +kernel
theorem dX7_call_108 : decode cX7_call 108 = .ok (.bipush 13, 2) := by decide +kernel
theorem dX7_call_110 : decode cX7_call 110 = .ok (.if_icmp .eq 24, 3) := by decide +kernel
theorem dX7_call_113 : decode cX7_call 113 = .ok (.iload 8, 2) := by decide +kernel
theorem dX7_call_115 : decode cX7_call 115 = .ok (.bipush 14, 2) := by decide +kernel
theorem dX7_call_117 : decode cX7_call 117 = .ok (.if_icmp .eq 17, 3) := by decide +kernel
theorem dX7_call_120 : decode cX7_call 120 = .ok (.iload 8, 2) := by decide +kernel
theorem dX7_call_122 : decode cX7_call 122 = .ok (.bipush 16, 2) := by decide +kernel
theorem dX7_call_124 : decode cX7_call 124 = .ok (.if_icmp .eq 10, 3) := by decide +kernel
theorem dX7_call_127 : decode cX7_call 127 = .ok (.iload 8, 2) := by decide +kernel
theorem dX7_call_129 : decode cX7_call 129 = .ok (.bipush 18, 2) := by decide +kernel
theorem dX7_call_131 : decode cX7_call 131 = .ok (.if_icmp .ne 7, 3) := by decide +kernel
theorem dX7_call_134 : decode cX7_call 134 = .ok (.iconst 1, 1) := by decide +kernel
theorem dX7_call_135 : decode cX7_call 135 = .ok (.goto 4, 3) := by decide +kernel
theorem dX7_call_138 : decode cX7_call 138 = .ok (.iconst 0, 1) := by decide +kernel
theorem dX7_call_139 : decode cX7_call 139 = .ok (.istore 9, 2) := by decide +kernel
theorem dX7_call_141 : decode cX7_call 141 = .ok (.iload 8, 2) := by decide +kernel
theorem dX7_call_143 : decode cX7_call 143 = .ok (.iconst 0, 1) := by decide +kernel
theorem dX7_call_144 : decode cX7_call 144 = .ok (.bipush 18, 2) := by decide +kernel
theorem dX7_call_146 : decode cX7_call 146 = .ok (.invokestatic 96, 3) := by decide +kernel
theorem dX7_call_149 : decode cX7_call 149 = .ok (.ifCond .eq 17, 3) := by decide +kernel
theorem dX7_call_152 : decode cX7_call 152 = .ok (.iload 9, 2) := by decide +kernel
theorem dX7_call_154 : decode cX7_call 154 = .ok (.ifCond .eq 14, 3) := by decide +kernel
theorem dX7_call_157 : decode cX7_call 157 = .ok (.iload 7, 2) := by decide +kernel
theorem dX7_call_159 : decode cX7_call 159 = .ok (.iconst 1, 1) := by decide +kernel
theorem dX7_call_160 : decode cX7_call 160 = .ok (.iadd, 1) := by decide +kernel
theorem dX7_call_161 : decode cX7_call 161 = .ok (.iload 4, 2) := by decide +kernel
theorem dX7_call_163 : decode cX7_call 163 = .ok (.if_icmp .lt 5, 3) := by decide +kernel
theorem dX7_call_166 : decode cX7_call 166 = .ok (.iconst 1, 1) := by decide +kernel
theorem dX7_call_167 : decode cX7_call 167 = .ok (.ireturn, 1) := by decide +kernel
theorem dX7_call_168 : decode cX7_call 168 = .ok (.iload 9, 2) := by decide +kernel
theorem dX7_call_170 : decode cX7_call 170 = .ok (.ifCond .eq 18, 3) := by decide +kernel
theorem dX7_call_173 : decode cX7_call 173 = .ok (.aload_n 0, 1) := by decide +kernel
theorem dX7_call_174 : decode cX7_call 174 = .ok (.getfield 17, 3) := by decide +kernel
theorem dX7_call_177 : decode cX7_call 177 = .ok (.iload 6, 2) := by decide +kernel
theorem dX7_call_179 : decode cX7_call 179 = .ok (.iload 7, 2) := by decide +kernel
theorem dX7_call_181 : decode cX7_call 181 = .ok (.iadd, 1) := by decide +kernel
theorem dX7_call_182 : decode cX7_call 182 = .ok (.iconst 1, 1) := by decide +kernel
theorem dX7_call_183 : decode cX7_call 183 = .ok (.iadd, 1) := by decide +kernel
theorem dX7_call_184 : decode cX7_call 184 = .ok (.baload, 1) := by decide +kernel
theorem dX7_call_185 : decode cX7_call 185 = .ok (.goto 4, 3) := by decide +kernel
theorem dX7_call_188 : decode cX7_call 188 = .ok (.iconst 0, 1) := by decide +kernel
theorem dX7_call_189 : decode cX7_call 189 = .ok (.istore 10, 2) := by decide +kernel
theorem dX7_call_191 : decode cX7_call 191 = .ok (.iload 7, 2) := by decide +kernel
theorem dX7_call_193 : decode cX7_call 193 = .ok (.iload 9, 2) := by decide +kernel
theorem dX7_call_195 : decode cX7_call 195 = .ok (.ifCond .eq 7, 3) := by decide +kernel
theorem dX7_call_198 : decode cX7_call 198 = .ok (.iconst 2, 1) := by decide +kernel
theorem dX7_call_199 : decode cX7_call 199 = .ok (.goto 4, 3) := by decide +kernel
theorem dX7_call_202 : decode cX7_call 202 = .ok (.iconst 1, 1) := by decide +kernel
theorem dX7_call_203 : decode cX7_call 203 = .ok (.iadd, 1) := by decide +kernel
theorem dX7_call_204 : decode cX7_call 204 = .ok (.istore 11, 2) := by decide +kernel
theorem dX7_call_206 : decode cX7_call 206 = .ok (.iload 8, 2) := by decide +kernel
theorem dX7_call_208 : decode cX7_call 208 = .ok (.iconst 1, 1) := by decide +kernel
theorem dX7_call_209 : decode cX7_call 209 = .ok (.iconst 4, 1) := by decide +kernel
theorem dX7_call_210 : decode cX7_call 210 = .ok (.invokestatic 96, 3) := by decide +kernel
theorem dX7_call_213 : decode cX7_call 213 = .ok (.ifCond .ne 10, 3) := by decide +kernel
theorem dX7_call_216 : decode cX7_call 216 = .ok (.iload 8, 2) := by decide +kernel
theorem dX7_call_218 : decode cX7_call 218 = .ok (.bipush 16, 2) := by decide +kernel
theorem dX7_call_220 : decode cX7_call 220 = .ok (.if_icmp .ne 7, 3) := by decide +kernel
theorem dX7_call_223 : decode cX7_call 223 = .ok (.iconst 1, 1) := by decide +kernel
theorem dX7_call_224 : decode cX7_call 224 = .ok (.goto 4, 3) := by decide +kernel
theorem dX7_call_227 : decode cX7_call 227 = .ok (.iconst 0, 1) := by decide +kernel
theorem dX7_call_228 : decode cX7_call 228 = .ok (.istore 12, 2) := by decide +kernel
theorem dX7_call_230 : decode cX7_call 230 = .ok (.iload 12, 2) := by decide +kernel
theorem dX7_call_232 : decode cX7_call 232 = .ok (.ifCond .eq 16, 3) := by decide +kernel
theorem dX7_call_235 : decode cX7_call 235 = .ok (.iload 10, 2) := by decide +kernel
theorem dX7_call_237 : decode cX7_call 237 = .ok (.iconst 0, 1) := by decide +kernel
theorem dX7_call_238 : decode cX7_call 238 = .ok (.bipush 7, 2) := by decide +kernel
theorem dX7_call_240 : decode cX7_call 240 = .ok (.invokestatic 96, 3) := by decide +kernel
theorem dX7_call_243 : decode cX7_call 243 = .ok (.ifCond .ne 5, 3) := by decide +kernel
theorem dX7_call_246 : decode cX7_call 246 = .ok (.iconst 2, 1) := by decide +kernel
theorem dX7_call_247 : decode cX7_call 247 = .ok (.ireturn, 1) := by decide +kernel
theorem dX7_call_248 : decode cX7_call 248 = .ok (.iload 8, 2) := by decide +kernel
theorem dX7_call_250 : decode cX7_call 250 = .ok (.iconst 2, 1) := by decide +kernel
theorem dX7_call_251 : decode cX7_call 251 = .ok (.if_icmp .eq 30, 3) := by decide +kernel
theorem dX7_call_254 : decode cX7_call 254 = .ok (.iload 8, 2) := by decide +kernel
theorem dX7_call_256 : decode cX7_call 256 = .ok (.iconst 4, 1) := by decide +kernel
theorem dX7_call_257 : decode cX7_call 257 = .ok (.if_icmp .eq 24, 3) := by decide +kernel
theorem dX7_call_260 : decode cX7_call 260 = .ok (.iload 8, 2) := by decide +kernel
theorem dX7_call_262 : decode cX7_call 262 = .ok (.bipush 12, 2) := by decide +kernel
theorem dX7_call_264 : decode cX7_call 264 = .ok (.if_icmp .eq 17, 3) := by decide +kernel
theorem dX7_call_267 : decode cX7_call 267 = .ok (.iload 8, 2) := by decide +kernel
theorem dX7_call_269 : decode cX7_call 269 = .ok (.bipush 14, 2) := by decide +kernel
theorem dX7_call_271 : decode cX7_call 271 = .ok (.if_icmp .eq 10, 3) := by decide +kernel
theorem dX7_call_274 : decode cX7_call 274 = .ok (.iload 8, 2) := by decide +kernel
theorem dX7_call_276 : decode cX7_call 276 = .ok (.bipush 15, 2) := by decide +kernel
theorem dX7_call_278 : decode cX7_call 278 = .ok (.if_icmp .ne 7, 3) := by decide +kernel
theorem dX7_call_281 : decode cX7_call 281 = .ok (.iconst 1, 1) := by decide +kernel
theorem dX7_call_282 : decode cX7_call 282 = .ok (.goto 19, 3) := by decide +kernel
theorem dX7_call_285 : decode cX7_call 285 = .ok (.iload 8, 2) := by decide +kernel
theorem dX7_call_287 : decode cX7_call 287 = .ok (.iconst 5, 1) := by decide +kernel
theorem dX7_call_288 : decode cX7_call 288 = .ok (.bipush 11, 2) := by decide +kernel
theorem dX7_call_290 : decode cX7_call 290 = .ok (.invokestatic 96, 3) := by decide +kernel
theorem dX7_call_293 : decode cX7_call 293 = .ok (.ifCond .eq 7, 3) := by decide +kernel
theorem dX7_call_296 : decode cX7_call 296 = .ok (.iconst 2, 1) := by decide +kernel
theorem dX7_call_297 : decode cX7_call 297 = .ok (.goto 4, 3) := by decide +kernel
theorem dX7_call_300 : decode cX7_call 300 = .ok (.iconst 0, 1) := by decide +kernel
theorem dX7_call_301 : decode cX7_call 301 = .ok (.istore 13, 2) := by decide +kernel
theorem dX7_call_303 : decode cX7_call 303 = .ok (.iload 8, 2) := by decide +kernel
theorem dX7_call_305 : decode cX7_call 305 = .ok (.ifCond .eq 29, 3) := by decide +kernel
theorem dX7_call_308 : decode cX7_call 308 = .ok (.iload 8, 2) := by decide +kernel
theorem dX7_call_310 : decode cX7_call 310 = .ok (.iconst 1, 1) := by decide +kernel
theorem dX7_call_311 : decode cX7_call 311 = .ok (.if_icmp .eq 23, 3) := by decide +kernel
theorem dX7_call_314 : decode cX7_call 314 = .ok (.iload 8, 2) := by decide +kernel
theorem dX7_call_316 : decode cX7_call 316 = .ok (.iconst 3, 1) := by decide +kernel
theorem dX7_call_317 : decode cX7_call 317 = .ok (.if_icmp .eq 17, 3) := by decide +kernel
theorem dX7_call_320 : decode cX7_call 320 = .ok (.iload 8, 2) := by decide +kernel
theorem dX7_call_322 : decode cX7_call 322 = .ok (.bipush 12, 2) := by decide +kernel
end
section
theorem dX7_call_324 : decode cX7_call 324 = .ok (.if_icmp .eq 10, 3) := by decide +kernel
theorem dX7_call_327 : decode cX7_call 327 = .ok (.iload 8, 2) := by decide +kernel
theorem dX7_call_329 : decode cX7_call 329 = .ok (.bipush 17, 2) := by decide +kernel
theorem dX7_call_331 : decode cX7_call 331 = .ok (.if_icmp .ne 7, 3) := by decide +kernel
theorem dX7_call_334 : decode cX7_call 334 = .ok (.iconst 1, 1) := by decide +kernel
theorem dX7_call_335 : decode cX7_call 335 = .ok (.goto 4, 3) := by decide +kernel
theorem dX7_call_338 : decode cX7_call 338 = .ok (.iconst 0, 1) := by decide +kernel
theorem dX7_call_339 : decode cX7_call 339 = .ok (.istore 14, 2) := by decide +kernel
theorem dX7_call_341 : decode cX7_call 341 = .ok (.iload 8, 2) := by decide +kernel
theorem dX7_call_343 : decode cX7_call 343 = .ok (.bipush 13, 2) := by decide +kernel
theorem dX7_call_345 : decode cX7_call 345 = .ok (.if_icmp .eq 28, 3) := by decide +kernel
theorem dX7_call_348 : decode cX7_call 348 = .ok (.aload_n 0, 1) := by decide +kernel
theorem dX7_call_349 : decode cX7_call 349 = .ok (.getfield 139, 3) := by decide +kernel
theorem dX7_call_352 : decode cX7_call 352 = .ok (.iload 13, 2) := by decide +kernel
theorem dX7_call_354 : decode cX7_call 354 = .ok (.if_icmp .lt 17, 3) := by decide +kernel
theorem dX7_call_357 : decode cX7_call 357 = .ok (.iload 14, 2) := by decide +kernel
theorem dX7_call_359 : decode cX7_call 359 = .ok (.ifCond .eq 14, 3) := by decide +kernel
theorem dX7_call_362 : decode cX7_call 362 = .ok (.aload_n 0, 1) := by decide +kernel
theorem dX7_call_363 : decode cX7_call 363 = .ok (.getfield 139, 3) := by decide +kernel
theorem dX7_call_366 : decode cX7_call 366 = .ok (.bipush 16, 2) := by decide +kernel
theorem dX7_call_368 : decode cX7_call 368 = .ok (.if_icmp .ne 5, 3) := by decide +kernel
theorem dX7_call_371 : decode cX7_call 371 = .ok (.iconst 3, 1) := by decide +kernel
theorem dX7_call_372 : decode cX7_call 372 = .ok (.ireturn, 1) := by decide +kernel
theorem dX7_call_373 : decode cX7_call 373 = .ok (.iconst 0, 1) := by decide +kernel
theorem dX7_call_374 : decode cX7_call 374 = .ok (.istore 15, 2) := by decide +kernel
theorem dX7_call_376 : decode cX7_call 376 = .ok (.iload 8, 2) := by decide +kernel
theorem dX7_call_378 : decode cX7_call 378 = .ok (.bipush 13, 2) := by decide +kernel
theorem dX7_call_380 : decode cX7_call 380 = .ok (.if_icmp .eq 19, 3) := by decide +kernel
theorem dX7_call_383 : decode cX7_call 383 = .ok (.iload 8, 2) := by decide +kernel
theorem dX7_call_385 : decode cX7_call 385 = .ok (.bipush 14, 2) := by decide +kernel
theorem dX7_call_387 : decode cX7_call 387 = .ok (.if_icmp .ne 42, 3) := by decide +kernel
theorem dX7_call_390 : decode cX7_call 390 = .ok (.aload_n 0, 1) := by decide +kernel
theorem dX7_call_391 : decode cX7_call 391 = .ok (.invokevirtual 151, 3) := by decide +kernel
theorem dX7_call_394 : decode cX7_call 394 = .ok (.lconst 0, 1) := by decide +kernel
theorem dX7_call_395 : decode cX7_call 395 = .ok (.lcmp, 1) := by decide +kernel
theorem dX7_call_396 : decode cX7_call 396 = .ok (.ifCond .ne 33, 3) := by decide +kernel
theorem dX7_call_399 : decode cX7_call 399 = .ok (.iload 11, 2) := by decide +kernel
theorem dX7_call_401 : decode cX7_call 401 = .ok (.iload 10, 2) := by decide +kernel
theorem dX7_call_403 : decode cX7_call 403 = .ok (.iadd, 1) := by decide +kernel
theorem dX7_call_404 : decode cX7_call 404 = .ok (.ifCond .lt 13, 3) := by decide +kernel
theorem dX7_call_407 : decode cX7_call 407 = .ok (.iload 11, 2) := by decide +kernel
theorem dX7_call_409 : decode cX7_call 409 = .ok (.iload 10, 2) := by decide +kernel
theorem dX7_call_411 : decode cX7_call 411 = .ok (.iadd, 1) := by decide +kernel
theorem dX7_call_412 : decode cX7_call 412 = .ok (.iload 4, 2) := by decide +kernel
theorem dX7_call_414 : decode cX7_call 414 = .ok (.if_icmp .le 5, 3) := by decide +kernel
theorem dX7_call_417 : decode cX7_call 417 = .ok (.iconst 1, 1) := by decide +kernel
theorem dX7_call_418 : decode cX7_call 418 = .ok (.ireturn, 1) := by decide +kernel
theorem dX7_call_419 : decode cX7_call 419 = .ok (.iload 11, 2) := by decide +kernel
theorem dX7_call_421 : decode cX7_call 421 = .ok (.iload 10, 2) := by decide +kernel
theorem dX7_call_423 : decode cX7_call 423 = .ok (.iadd, 1) := by decide +kernel
theorem dX7_call_424 : decode cX7_call 424 = .ok (.istore 11, 2) := by decide +kernel
theorem dX7_call_426 : decode cX7_call 426 = .ok (.goto 61, 3) := by decide +kernel
theorem dX7_call_429 : decode cX7_call 429 = .ok (.iload 8, 2) := by decide +kernel
theorem dX7_call_431 : decode cX7_call 431 = .ok (.iconst 5, 1) := by decide +kernel
theorem dX7_call_432 : decode cX7_call 432 = .ok (.if_icmp .ge 17, 3) := by decide +kernel
theorem dX7_call_435 : decode cX7_call 435 = .ok (.aload_n 0, 1) := by decide +kernel
theorem dX7_call_436 : decode cX7_call 436 = .ok (.iload 8, 2) := by decide +kernel
theorem dX7_call_438 : decode cX7_call 438 = .ok (.iload 10, 2) := by decide +kernel
theorem dX7_call_440 : decode cX7_call 440 = .ok (.iload_n 1, 1) := by decide +kernel
theorem dX7_call_441 : decode cX7_call 441 = .ok (.iload 5, 2) := by decide +kernel
theorem dX7_call_443 : decode cX7_call 443 = .ok (.invokevirtual 155, 3) := by decide +kernel
theorem dX7_call_446 : decode cX7_call 446 = .ok (.goto 41, 3) := by decide +kernel
theorem dX7_call_449 : decode cX7_call 449 = .ok (.iload 8, 2) := by decide +kernel
theorem dX7_call_451 : decode cX7_call 451 = .ok (.bipush 12, 2) := by decide +kernel
theorem dX7_call_453 : decode cX7_call 453 = .ok (.if_icmp .ge 14, 3) := by decide +kernel
theorem dX7_call_456 : decode cX7_call 456 = .ok (.aload_n 0, 1) := by decide +kernel
theorem dX7_call_457 : decode cX7_call 457 = .ok (.iload 8, 2) := by decide +kernel
theorem dX7_call_459 : decode cX7_call 459 = .ok (.invokevirtual 159, 3) := by decide +kernel
theorem dX7_call_462 : decode cX7_call 462 = .ok (.istore 15, 2) := by decide +kernel
theorem dX7_call_464 : decode cX7_call 464 = .ok (.goto 23, 3) := by decide +kernel
theorem dX7_call_467 : decode cX7_call 467 = .ok (.iload 8, 2) := by decide +kernel
theorem dX7_call_469 : decode cX7_call 469 = .ok (.bipush 14, 2) := by decide +kernel
theorem dX7_call_471 : decode cX7_call 471 = .ok (.if_icmp .eq 16, 3) := by decide +kernel
theorem dX7_call_474 : decode cX7_call 474 = .ok (.aload_n 0, 1) := by decide +kernel
theorem dX7_call_475 : decode cX7_call 475 = .ok (.iload 8, 2) := by decide +kernel
theorem dX7_call_477 : decode cX7_call 477 = .ok (.iload 10, 2) := by decide +kernel
theorem dX7_call_479 : decode cX7_call 479 = .ok (.iload_n 1, 1) := by decide +kernel
theorem dX7_call_480 : decode cX7_call 480 = .ok (.iload 5, 2) := by decide +kernel
theorem dX7_call_482 : decode cX7_call 482 = .ok (.invokevirtual 162, 3) := by decide +kernel
theorem dX7_call_485 : decode cX7_call 485 = .ok (.istore 15, 2) := by decide +kernel
theorem dX7_call_487 : decode cX7_call 487 = .ok (.iload 15, 2) := by decide +kernel
theorem dX7_call_489 : decode cX7_call 489 = .ok (.ifCond .le 6, 3) := by decide +kernel
theorem dX7_call_492 : decode cX7_call 492 = .ok (.iload 15, 2) := by decide +kernel
theorem dX7_call_494 : decode cX7_call 494 = .ok (.ireturn, 1) := by decide +kernel
theorem dX7_call_495 : decode cX7_call 495 = .ok (.iload 11, 2) := by decide +kernel
theorem dX7_call_497 : decode cX7_call 497 = .ok (.istore 7, 2) := by decide +kernel
theorem dX7_call_499 : decode cX7_call 499 = .ok (.goto (-446), 3) := by decide +kernel
theorem dX7_call_502 : decode cX7_call 502 = .ok (.iconst 0, 1) := by decide +kernel
theorem dX7_call_503 : decode cX7_call 503 = .ok (.ireturn, 1) := by decide +kernel
theorem dX7_move_0 : decode cX7_move 0 = .ok (.iload_n 1, 1) := by decide +kernel
theorem dX7_move_1 : decode cX7_move 1 = .ok (.ifCond .ne 12, 3) := by decide +kernel
theorem dX7_move_4 : decode cX7_move 4 = .ok (.aload_n 0, 1) := by decide +kernel
theorem dX7_move_5 : decode cX7_move 5 = .ok (.iload_n 2, 1) := by decide +kernel
theorem dX7_move_6 : decode cX7_move 6 = .ok (.i2l, 1) := by decide +kernel
theorem dX7_move_7 : decode cX7_move 7 = .ok (.invokevirtual 166, 3) := by decide +kernel
theorem dX7_move_10 : decode cX7_move 10 = .ok (.goto 89, 3) := by decide +kernel
theorem dX7_move_13 : decode cX7_move 13 = .ok (.iload_n 1, 1) := by decide +kernel
theorem dX7_move_14 : decode cX7_move 14 = .ok (.iconst 1, 1) := by decide +kernel
theorem dX7_move_15 : decode cX7_move 15 = .ok (.if_icmp .ne 22, 3) := by decide +kernel
theorem dX7_move_18 : decode cX7_move 18 = .ok (.aload_n 0, 1) := by decide +kernel
theorem dX7_move_19 : decode cX7_move 19 = .ok (.aload_n 0, 1) := by decide +kernel
theorem dX7_move_20 : decode cX7_move 20 = .ok (.getfield 64, 3) := by decide +kernel
theorem dX7_move_23 : decode cX7_move 23 = .ok (.bipush 8, 2) := by decide +kernel
theorem dX7_move_25 : decode cX7_move 25 = .ok (.iload 4, 2) := by decide +kernel
theorem dX7_move_27 : decode cX7_move 27 = .ok (.imul, 1) := by decide +kernel
theorem dX7_move_28 : decode cX7_move 28 = .ok (.iload_n 2, 1) := by decide +kernel
theorem dX7_move_29 : decode cX7_move 29 = .ok (.iadd, 1) := by decide +kernel
theorem dX7_move_30 : decode cX7_move 30 = .ok (.laload, 1) := by decide +kernel
theorem dX7_move_31 : decode cX7_move 31 = .ok (.invokevirtual 166, 3) := by decide +kernel
theorem dX7_move_34 : decode cX7_move 34 = .ok (.goto 65, 3) := by decide +kernel
theorem dX7_move_37 : decode cX7_move 37 = .ok (.iload_n 1, 1) := by decide +kernel
theorem dX7_move_38 : decode cX7_move 38 = .ok (.iconst 2, 1) := by decide +kernel
theorem dX7_move_39 : decode cX7_move 39 = .ok (.if_icmp .ne 22, 3) := by decide +kernel
theorem dX7_move_42 : decode cX7_move 42 = .ok (.aload_n 0, 1) := by decide +kernel
theorem dX7_move_43 : decode cX7_move 43 = .ok (.getfield 64, 3) := by decide +kernel
theorem dX7_move_46 : decode cX7_move 46 = .ok (.bipush 8, 2) := by decide +kernel
theorem dX7_move_48 : decode cX7_move 48 = .ok (.iload 4, 2) := by decide +kernel
theorem dX7_move_50 : decode cX7_move 50 = .ok (.imul, 1) := by decide +kernel
theorem dX7_move_51 : decode cX7_move 51 = .ok (.iload_n 2, 1) := by decide +kernel
theorem dX7_move_52 : decode cX7_move 52 = .ok (.iadd, 1) := by decide +kernel
theorem dX7_move_53 : decode cX7_move 53 = .ok (.aload_n 0, 1) := by decide +kernel
theorem dX7_move_54 : decode cX7_move 54 = .ok (.invokevirtual 151, 3) := by decide +kernel
theorem dX7_move_57 : decode cX7_move 57 = .ok (.lastore, 1) := by decide +kernel
theorem dX7_move_58 : decode cX7_move 58 = .ok (.goto 41, 3) := by decide +kernel
theorem dX7_move_61 : decode cX7_move 61 = .ok (.iload_n 1, 1) := by decide +kernel
theorem dX7_move_62 : decode cX7_move 62 = .ok (.iconst 3, 1) := by decide +kernel
theorem dX7_move_63 : decode cX7_move 63 = .ok (.if_icmp .ne 21, 3) := by decide +kernel
theorem dX7_move_66 : decode cX7_move 66 = .ok (.aload_n 0, 1) := by decide +kernel
theorem dX7_move_67 : decode cX7_move 67 = .ok (.aload_n 0, 1) := by decide +kernel
theorem dX7_move_68 : decode cX7_move 68 = .ok (.getfield 35, 3) := by decide +kernel
theorem dX7_move_71 : decode cX7_move 71 = .ok (.bipush 8, 2) := by decide +kernel
theorem dX7_move_73 : decode cX7_move 73 = .ok (.iload_n 3, 1) := by decide +kernel
theorem dX7_move_74 : decode cX7_move 74 = .ok (.imul, 1) := by decide +kernel
theorem dX7_move_75 : decode cX7_move 75 = .ok (.iload_n 2, 1) := by decide +kernel
theorem dX7_move_76 : decode cX7_move 76 = .ok (.iadd, 1) := by decide +kernel
theorem dX7_move_77 : decode cX7_move 77 = .ok (.laload, 1) := by decide +kernel
theorem dX7_move_78 : decode cX7_move 78 = .ok (.invokevirtual 166, 3) := by decide +kernel
theorem dX7_move_81 : decode cX7_move 81 = .ok (.goto 18, 3) := by decide +kernel
theorem dX7_move_84 : decode cX7_move 84 = .ok (.aload_n 0, 1) := by decide +kernel
theorem dX7_move_85 : decode cX7_move 85 = .ok (.getfield 35, 3) := by decide +kernel
theorem dX7_move_88 : decode cX7_move 88 = .ok (.bipush 8, 2) := by decide +kernel
theorem dX7_move_90 : decode cX7_move 90 = .ok (.iload_n 3, 1) := by decide +kernel
theorem dX7_move_91 : decode cX7_move 91 = .ok (.imul, 1) := by decide +kernel
theorem dX7_move_92 : decode cX7_move 92 = .ok (.iload_n 2, 1) := by decide +kernel
theorem dX7_move_93 : decode cX7_move 93 = .ok (.iadd, 1) := by decide +kernel
theorem dX7_move_94 : decode cX7_move 94 = .ok (.aload_n 0, 1) := by decide +kernel
theorem dX7_move_95 : decode cX7_move 95 = .ok (.invokevirtual 151, 3) := by decide +kernel
theorem dX7_move_98 : decode cX7_move 98 = .ok (.lastore, 1) := by decide +kernel
theorem dX7_move_99 : decode cX7_move 99 = .ok (.return_, 1) := by decide +kernel
theorem dX7_reckon_0 : decode cX7_reckon 0 = .ok (.aload_n 0, 1) := by decide +kernel
theorem dX7_reckon_1 : decode cX7_reckon 1 = .ok (.invokevirtual 151, 3) := by decide +kernel
theorem dX7_reckon_4 : decode cX7_reckon 4 = .ok (.lstore_n 2, 1) := by decide +kernel
theorem dX7_reckon_5 : decode cX7_reckon 5 = .ok (.aload_n 0, 1) := by decide +kernel
theorem dX7_reckon_6 : decode cX7_reckon 6 = .ok (.invokevirtual 151, 3) := by decide +kernel
theorem dX7_reckon_9 : decode cX7_reckon 9 = .ok (.lstore 4, 2) := by decide +kernel
theorem dX7_reckon_11 : decode cX7_reckon 11 = .ok (.iload_n 1, 1) := by decide +kernel
theorem dX7_reckon_12 : decode cX7_reckon 12 = .ok (.bipush 8, 2) := by decide +kernel
theorem dX7_reckon_14 : decode cX7_reckon 14 = .ok (.if_icmp .eq 9, 3) := by decide +kernel
theorem dX7_reckon_17 : decode cX7_reckon 17 = .ok (.iload_n 1, 1) := by decide +kernel
theorem dX7_reckon_18 : decode cX7_reckon 18 = .ok (.bipush 9, 2) := by decide +kernel
theorem dX7_reckon_20 : decode cX7_reckon 20 = .ok (.if_icmp .ne 11, 3) := by decide +kernel
theorem dX7_reckon_23 : decode cX7_reckon 23 = .ok (.lload_n 2, 1) := by decide +kernel
theorem dX7_reckon_24 : decode cX7_reckon 24 = .ok (.lconst 0, 1) := by decide +kernel
theorem dX7_reckon_25 : decode cX7_reckon 25 = .ok (.lcmp, 1) := by decide +kernel
theorem dX7_reckon_26 : decode cX7_reckon 26 = .ok (.ifCond .ne 5, 3) := by decide +kernel
theorem dX7_reckon_29 : decode cX7_reckon 29 = .ok (.iconst 4, 1) := by decide +kernel
theorem dX7_reckon_30 : decode cX7_reckon 30 = .ok (.ireturn, 1) := by decide +kernel
theorem dX7_reckon_31 : decode cX7_reckon 31 = .ok (.iload_n 1, 1) := by decide +kernel
theorem dX7_reckon_32 : decode cX7_reckon 32 = .ok (.tableswitch 114 5 10 #[40, 51, 62, 73, 84, 95], 40) := by decide +kernel
theorem dX7_reckon_72 : decode cX7_reckon 72 = .ok (.aload_n 0, 1) := by decide +kernel
theorem dX7_reckon_73 : decode cX7_reckon 73 = .ok (.lload 4, 2) := by decide +kernel
theorem dX7_reckon_75 : decode cX7_reckon 75 = .ok (.lload_n 2, 1) := by decide +kernel
theorem dX7_reckon_76 : decode cX7_reckon 76 = .ok (.ladd, 1) := by decide +kernel
theorem dX7_reckon_77 : decode cX7_reckon 77 = .ok (.invokevirtual 166, 3) := by decide +kernel
theorem dX7_reckon_80 : decode cX7_reckon 80 = .ok (.goto 82, 3) := by decide +kernel
theorem dX7_reckon_83 : decode cX7_reckon 83 = .ok (.aload_n 0, 1) := by decide +kernel
theorem dX7_reckon_84 : decode cX7_reckon 84 = .ok (.lload 4, 2) := by decide +kernel
theorem dX7_reckon_86 : decode cX7_reckon 86 = .ok (.lload_n 2, 1) := by decide +kernel
theorem dX7_reckon_87 : decode cX7_reckon 87 = .ok (.lsub, 1) := by decide +kernel
theorem dX7_reckon_88 : decode cX7_reckon 88 = .ok (.invokevirtual 166, 3) := by decide +kernel
theorem dX7_reckon_91 : decode cX7_reckon 91 = .ok (.goto 71, 3) := by decide +kernel
theorem dX7_reckon_94 : decode cX7_reckon 94 = .ok (.aload_n 0, 1) := by decide +kernel
theorem dX7_reckon_95 : decode cX7_reckon 95 = .ok (.lload 4, 2) := by decide +kernel
theorem dX7_reckon_97 : decode cX7_reckon 97 = .ok (.lload_n 2, 1) := by decide +kernel
theorem dX7_reckon_98 : decode cX7_reckon 98 = .ok (.lmul, 1) := by decide +kernel
theorem dX7_reckon_99 : decode cX7_reckon 99 = .ok (.invokevirtual 166, 3) := by decide +kernel
theorem dX7_reckon_102 : decode cX7_reckon 102 = .ok (.goto 60, 3) := by decide +kernel
theorem dX7_reckon_105 : decode cX7_reckon 105 = .ok (.aload_n 0, 1) := by decide +kernel
theorem dX7_reckon_106 : decode cX7_reckon 106 = .ok (.lload 4, 2) := by decide +kernel
theorem dX7_reckon_108 : decode cX7_reckon 108 = .ok (.lload_n 2, 1) := by decide +kernel
theorem dX7_reckon_109 : decode cX7_reckon 109 = .ok (.ldiv, 1) := by decide +kernel
theorem dX7_reckon_110 : decode cX7_reckon 110 = .ok (.invokevirtual 166, 3) := by decide +kernel
theorem dX7_reckon_113 : decode cX7_reckon 113 = .ok (.goto 49, 3) := by decide +kernel
theorem dX7_reckon_116 : decode cX7_reckon 116 = .ok (.aload_n 0, 1) := by decide +kernel
theorem dX7_reckon_117 : decode cX7_reckon 117 = .ok (.lload 4, 2) := by decide +kernel
theorem dX7_reckon_119 : decode cX7_reckon 119 = .ok (.lload_n 2, 1) := by decide +kernel
theorem dX7_reckon_120 : decode cX7_reckon 120 = .ok (.lrem, 1) := by decide +kernel
theorem dX7_reckon_121 : decode cX7_reckon 121 = .ok (.invokevirtual 166, 3) := by decide +kernel
theorem dX7_reckon_124 : decode cX7_reckon 124 = .ok (.goto 38, 3) := by decide +kernel
theorem dX7_reckon_127 : decode cX7_reckon 127 = .ok (.aload_n 0, 1) := by decide +kernel
theorem dX7_reckon_128 : decode cX7_reckon 128 = .ok (.lload 4, 2) := by decide +kernel
theorem dX7_reckon_130 : decode cX7_reckon 130 = .ok (.lload_n 2, 1) := by decide +kernel
theorem dX7_reckon_131 : decode cX7_reckon 131 = .ok (.lcmp, 1) := by decide +kernel
theorem dX7_reckon_132 : decode cX7_reckon 132 = .ok (.ifCond .ge 7, 3) := by decide +kernel
theorem dX7_reckon_135 : decode cX7_reckon 135 = .ok (.lconst 1, 1) := by decide +kernel
theorem dX7_reckon_136 : decode cX7_reckon 136 = .ok (.goto 4, 3) := by decide +kernel
theorem dX7_reckon_139 : decode cX7_reckon 139 = .ok (.lconst 0, 1) := by decide +kernel
theorem dX7_reckon_140 : decode cX7_reckon 140 = .ok (.invokevirtual 166, 3) := by decide +kernel
theorem dX7_reckon_143 : decode cX7_reckon 143 = .ok (.goto 19, 3) := by decide +kernel
theorem dX7_reckon_146 : decode cX7_reckon 146 = .ok (.aload_n 0, 1) := by decide +kernel
theorem dX7_reckon_147 : decode cX7_reckon 147 = .ok (.lload 4, 2) := by decide +kernel
theorem dX7_reckon_149 : decode cX7_reckon 149 = .ok (.lload_n 2, 1) := by decide +kernel
theorem dX7_reckon_150 : decode cX7_reckon 150 = .ok (.lcmp, 1) := by decide +kernel
theorem dX7_reckon_151 : decode cX7_reckon 151 = .ok (.ifCond .ne 7, 3) := by decide +kernel
theorem dX7_reckon_154 : decode cX7_reckon 154 = .ok (.lconst 1, 1) := by decide +kernel
theorem dX7_reckon_155 : decode cX7_reckon 155 = .ok (.goto 4, 3) := by decide +kernel
theorem dX7_reckon_158 : decode cX7_reckon 158 = .ok (.lconst 0, 1) := by decide +kernel
theorem dX7_reckon_159 : decode cX7_reckon 159 = .ok (.invokevirtual 166, 3) := by decide +kernel
theorem dX7_reckon_162 : decode cX7_reckon 162 = .ok (.iconst 0, 1) := by decide +kernel
theorem dX7_reckon_163 : decode cX7_reckon 163 = .ok (.ireturn, 1) := by decide +kernel
theorem dX7_other_0 : decode cX7_other 0 = .ok (.iload_n 1, 1) := by decide +kernel
theorem dX7_other_1 : decode cX7_other 1 = .ok (.tableswitch 170 12 17 #[39, 170, 170, 56, 100, 121], 39) := by decide +kernel
theorem dX7_other_40 : decode cX7_other 40 = .ok (.aload_n 0, 1) := by decide +kernel
theorem dX7_other_41 : decode cX7_other 41 = .ok (.aload_n 0, 1) := by decide +kernel
theorem dX7_other_42 : decode cX7_other 42 = .ok (.getfield 76, 3) := by decide +kernel
theorem dX7_other_45 : decode cX7_other 45 = .ok (.aload_n 0, 1) := by decide +kernel
theorem dX7_other_46 : decode cX7_other 46 = .ok (.getfield 139, 3) := by decide +kernel
theorem dX7_other_49 : decode cX7_other 49 = .ok (.iconst 1, 1) := by decide +kernel
theorem dX7_other_50 : decode cX7_other 50 = .ok (.isub, 1) := by decide +kernel
theorem dX7_other_51 : decode cX7_other 51 = .ok (.laload, 1) := by decide +kernel
theorem dX7_other_52 : decode cX7_other 52 = .ok (.invokevirtual 166, 3) := by decide +kernel
theorem dX7_other_55 : decode cX7_other 55 = .ok (.iconst 0, 1) := by decide +kernel
theorem dX7_other_56 : decode cX7_other 56 = .ok (.ireturn, 1) := by decide +kernel
theorem dX7_other_57 : decode cX7_other 57 = .ok (.aload_n 0, 1) := by decide +kernel
theorem dX7_other_58 : decode cX7_other 58 = .ok (.invokevirtual 151, 3) := by decide +kernel
theorem dX7_other_61 : decode cX7_other 61 = .ok (.lstore 5, 2) := by decide +kernel
theorem dX7_other_63 : decode cX7_other 63 = .ok (.lload 5, 2) := by decide +kernel
theorem dX7_other_65 : decode cX7_other 65 = .ok (.lconst 0, 1) := by decide +kernel
theorem dX7_other_66 : decode cX7_other 66 = .ok (.lcmp, 1) := by decide +kernel
theorem dX7_other_67 : decode cX7_other 67 = .ok (.ifCond .lt 12, 3) := by decide +kernel
theorem dX7_other_70 : decode cX7_other 70 = .ok (.lload 5, 2) := by decide +kernel
theorem dX7_other_72 : decode cX7_other 72 = .ok (.ldc2_w 170, 3) := by decide +kernel
theorem dX7_other_75 : decode cX7_other 75 = .ok (.lcmp, 1) := by decide +kernel
theorem dX7_other_76 : decode cX7_other 76 = .ok (.ifCond .le 5, 3) := by decide +kernel
theorem dX7_other_79 : decode cX7_other 79 = .ok (.iconst 2, 1) := by decide +kernel
theorem dX7_other_80 : decode cX7_other 80 = .ok (.ireturn, 1) := by decide +kernel
theorem dX7_other_81 : decode cX7_other 81 = .ok (.aload_n 0, 1) := by decide +kernel
theorem dX7_other_82 : decode cX7_other 82 = .ok (.aload_n 0, 1) := by decide +kernel
theorem dX7_other_83 : decode cX7_other 83 = .ok (.getfield 64, 3) := by decide +kernel
theorem dX7_other_86 : decode cX7_other 86 = .ok (.bipush 8, 2) := by decide +kernel
theorem dX7_other_88 : decode cX7_other 88 = .ok (.iload 4, 2) := by decide +kernel
theorem dX7_other_90 : decode cX7_other 90 = .ok (.imul, 1) := by decide +kernel
theorem dX7_other_91 : decode cX7_other 91 = .ok (.lload 5, 2) := by decide +kernel
theorem dX7_other_93 : decode cX7_other 93 = .ok (.l2i, 1) := by decide +kernel
theorem dX7_other_94 : decode cX7_other 94 = .ok (.iadd, 1) := by decide +kernel
theorem dX7_other_95 : decode cX7_other 95 = .ok (.laload, 1) := by decide +kernel
theorem dX7_other_96 : decode cX7_other 96 = .ok (.invokevirtual 166, 3) := by decide +kernel
theorem dX7_other_99 : decode cX7_other 99 = .ok (.iconst 0, 1) := by decide +kernel
theorem dX7_other_100 : decode cX7_other 100 = .ok (.ireturn, 1) := by decide +kernel
theorem dX7_other_101 : decode cX7_other 101 = .ok (.aload_n 0, 1) := by decide +kernel
theorem dX7_other_102 : decode cX7_other 102 = .ok (.getfield 70, 3) := by decide +kernel
theorem dX7_other_105 : decode cX7_other 105 = .ok (.iload 4, 2) := by decide +kernel
theorem dX7_other_107 : decode cX7_other 107 = .ok (.iload_n 2, 1) := by decide +kernel
theorem dX7_other_108 : decode cX7_other 108 = .ok (.iastore, 1) := by decide +kernel
theorem dX7_other_109 : decode cX7_other 109 = .ok (.aload_n 0, 1) := by decide +kernel
theorem dX7_other_110 : decode cX7_other 110 = .ok (.getfield 73, 3) := by decide +kernel
theorem dX7_other_113 : decode cX7_other 113 = .ok (.iload 4, 2) := by decide +kernel
theorem dX7_other_115 : decode cX7_other 115 = .ok (.aload_n 0, 1) := by decide +kernel
theorem dX7_other_116 : decode cX7_other 116 = .ok (.getfield 142, 3) := by decide +kernel
theorem dX7_other_119 : decode cX7_other 119 = .ok (.iastore, 1) := by decide +kernel
theorem dX7_other_120 : decode cX7_other 120 = .ok (.iconst 0, 1) := by decide +kernel
theorem dX7_other_121 : decode cX7_other 121 = .ok (.ireturn, 1) := by decide +kernel
theorem dX7_other_122 : decode cX7_other 122 = .ok (.aload_n 0, 1) := by decide +kernel
theorem dX7_other_123 : decode cX7_other 123 = .ok (.getfield 70, 3) := by decide +kernel
theorem dX7_other_126 : decode cX7_other 126 = .ok (.iload 4, 2) := by decide +kernel
theorem dX7_other_128 : decode cX7_other 128 = .ok (.iaload, 1) := by decide +kernel
theorem dX7_other_129 : decode cX7_other 129 = .ok (.ifCond .lt 17, 3) := by decide +kernel
theorem dX7_other_132 : decode cX7_other 132 = .ok (.aload_n 0, 1) := by decide +kernel
theorem dX7_other_133 : decode cX7_other 133 = .ok (.getfield 73, 3) := by decide +kernel
theorem dX7_other_136 : decode cX7_other 136 = .ok (.iload 4, 2) := by decide +kernel
theorem dX7_other_138 : decode cX7_other 138 = .ok (.iaload, 1) := by decide +kernel
theorem dX7_other_139 : decode cX7_other 139 = .ok (.aload_n 0, 1) := by decide +kernel
theorem dX7_other_140 : decode cX7_other 140 = .ok (.getfield 142, 3) := by decide +kernel
theorem dX7_other_143 : decode cX7_other 143 = .ok (.if_icmp .eq 5, 3) := by decide +kernel
theorem dX7_other_146 : decode cX7_other 146 = .ok (.iconst 5, 1) := by decide +kernel
theorem dX7_other_147 : decode cX7_other 147 = .ok (.ireturn, 1) := by decide +kernel
theorem dX7_other_148 : decode cX7_other 148 = .ok (.aload_n 0, 1) := by decide +kernel
theorem dX7_other_149 : decode cX7_other 149 = .ok (.aload_n 0, 1) := by decide +kernel
theorem dX7_other_150 : decode cX7_other 150 = .ok (.getfield 35, 3) := by decide +kernel
theorem dX7_other_153 : decode cX7_other 153 = .ok (.bipush 8, 2) := by decide +kernel
theorem dX7_other_155 : decode cX7_other 155 = .ok (.iload_n 3, 1) := by decide +kernel
theorem dX7_other_156 : decode cX7_other 156 = .ok (.imul, 1) := by decide +kernel
theorem dX7_other_157 : decode cX7_other 157 = .ok (.aload_n 0, 1) := by decide +kernel
theorem dX7_other_158 : decode cX7_other 158 = .ok (.getfield 70, 3) := by decide +kernel
theorem dX7_other_161 : decode cX7_other 161 = .ok (.iload 4, 2) := by decide +kernel
theorem dX7_other_163 : decode cX7_other 163 = .ok (.iaload, 1) := by decide +kernel
theorem dX7_other_164 : decode cX7_other 164 = .ok (.iadd, 1) := by decide +kernel
theorem dX7_other_165 : decode cX7_other 165 = .ok (.laload, 1) := by decide +kernel
theorem dX7_other_166 : decode cX7_other 166 = .ok (.invokevirtual 166, 3) := by decide +kernel
theorem dX7_other_169 : decode cX7_other 169 = .ok (.iconst 0, 1) := by decide +kernel
theorem dX7_other_170 : decode cX7_other 170 = .ok (.ireturn, 1) := by decide +kernel
theorem dX7_other_171 : decode cX7_other 171 = .ok (.aload_n 0, 1) := by decide +kernel
theorem dX7_other_172 : decode cX7_other 172 = .ok (.iload_n 2, 1) := by decide +kernel
theorem dX7_other_173 : decode cX7_other 173 = .ok (.sipush 255, 3) := by decide +kernel
theorem dX7_other_176 : decode cX7_other 176 = .ok (.iand, 1) := by decide +kernel
theorem dX7_other_177 : decode cX7_other 177 = .ok (.putfield 148, 3) := by decide +kernel
theorem dX7_other_180 : decode cX7_other 180 = .ok (.bipush 6, 2) := by decide +kernel
theorem dX7_other_182 : decode cX7_other 182 = .ok (.ireturn, 1) := by decide +kernel
theorem dX7_tell_0 : decode cX7_tell 0 = .ok (.aload_n 0, 1) := by decide +kernel
theorem dX7_tell_1 : decode cX7_tell 1 = .ok (.getfield 46, 3) := by decide +kernel
theorem dX7_tell_4 : decode cX7_tell 4 = .ok (.iload_n 1, 1) := by decide +kernel
theorem dX7_tell_5 : decode cX7_tell 5 = .ok (.iload_n 3, 1) := by decide +kernel
theorem dX7_tell_6 : decode cX7_tell 6 = .ok (.iastore, 1) := by decide +kernel
theorem dX7_tell_7 : decode cX7_tell 7 = .ok (.aload_n 0, 1) := by decide +kernel
theorem dX7_tell_8 : decode cX7_tell 8 = .ok (.getfield 49, 3) := by decide +kernel
theorem dX7_tell_11 : decode cX7_tell 11 = .ok (.iload_n 1, 1) := by decide +kernel
theorem dX7_tell_12 : decode cX7_tell 12 = .ok (.iload_n 2, 1) := by decide +kernel
theorem dX7_tell_13 : decode cX7_tell 13 = .ok (.iastore, 1) := by decide +kernel
theorem dX7_tell_14 : decode cX7_tell 14 = .ok (.aload_n 0, 1) := by decide +kernel
theorem dX7_tell_15 : decode cX7_tell 15 = .ok (.getfield 52, 3) := by decide +kernel
theorem dX7_tell_18 : decode cX7_tell 18 = .ok (.iload_n 1, 1) := by decide +kernel
theorem dX7_tell_19 : decode cX7_tell 19 = .ok (.aload_n 0, 1) := by decide +kernel
theorem dX7_tell_20 : decode cX7_tell 20 = .ok (.getfield 145, 3) := by decide +kernel
theorem dX7_tell_23 : decode cX7_tell 23 = .ok (.iastore, 1) := by decide +kernel
theorem dX7_tell_24 : decode cX7_tell 24 = .ok (.aload_n 0, 1) := by decide +kernel
theorem dX7_tell_25 : decode cX7_tell 25 = .ok (.getfield 55, 3) := by decide +kernel
theorem dX7_tell_28 : decode cX7_tell 28 = .ok (.iload_n 1, 1) := by decide +kernel
theorem dX7_tell_29 : decode cX7_tell 29 = .ok (.iload_n 3, 1) := by decide +kernel
theorem dX7_tell_30 : decode cX7_tell 30 = .ok (.bipush 6, 2) := by decide +kernel
theorem dX7_tell_32 : decode cX7_tell 32 = .ok (.if_icmp .ne 10, 3) := by decide +kernel
theorem dX7_tell_35 : decode cX7_tell 35 = .ok (.aload_n 0, 1) := by decide +kernel
theorem dX7_tell_36 : decode cX7_tell 36 = .ok (.getfield 148, 3) := by decide +kernel
theorem dX7_tell_39 : decode cX7_tell 39 = .ok (.goto 4, 3) := by decide +kernel
theorem dX7_tell_42 : decode cX7_tell 42 = .ok (.iconst 0, 1) := by decide +kernel
theorem dX7_tell_43 : decode cX7_tell 43 = .ok (.iastore, 1) := by decide +kernel
theorem dX7_tell_44 : decode cX7_tell 44 = .ok (.aload_n 0, 1) := by decide +kernel
theorem dX7_tell_45 : decode cX7_tell 45 = .ok (.getfield 58, 3) := by decide +kernel
theorem dX7_tell_48 : decode cX7_tell 48 = .ok (.iload_n 1, 1) := by decide +kernel
theorem dX7_tell_49 : decode cX7_tell 49 = .ok (.dup2, 1) := by decide +kernel
theorem dX7_tell_50 : decode cX7_tell 50 = .ok (.iaload, 1) := by decide +kernel
theorem dX7_tell_51 : decode cX7_tell 51 = .ok (.iconst 1, 1) := by decide +kernel
theorem dX7_tell_52 : decode cX7_tell 52 = .ok (.iadd, 1) := by decide +kernel
theorem dX7_tell_53 : decode cX7_tell 53 = .ok (.iastore, 1) := by decide +kernel
theorem dX7_tell_54 : decode cX7_tell 54 = .ok (.return_, 1) := by decide +kernel
theorem dX7_power_0 : decode cX7_power 0 = .ok (.aload_n 0, 1) := by decide +kernel
theorem dX7_power_1 : decode cX7_power 1 = .ok (.iconst 0, 1) := by decide +kernel
theorem dX7_power_2 : decode cX7_power 2 = .ok (.putfield 90, 3) := by decide +kernel
theorem dX7_power_5 : decode cX7_power 5 = .ok (.aload_n 0, 1) := by decide +kernel
theorem dX7_power_6 : decode cX7_power 6 = .ok (.iload_n 1, 1) := by decide +kernel
theorem dX7_power_7 : decode cX7_power 7 = .ok (.invokevirtual 126, 3) := by decide +kernel
theorem dX7_power_10 : decode cX7_power 10 = .ok (.ifCond .ne 9, 3) := by decide +kernel
theorem dX7_power_13 : decode cX7_power 13 = .ok (.aload_n 0, 1) := by decide +kernel
theorem dX7_power_14 : decode cX7_power 14 = .ok (.iconst (-1), 1) := by decide +kernel
theorem dX7_power_15 : decode cX7_power 15 = .ok (.invokevirtual 100, 3) := by decide +kernel
theorem dX7_power_18 : decode cX7_power 18 = .ok (.ireturn, 1) := by decide +kernel
theorem dX7_power_19 : decode cX7_power 19 = .ok (.aload_n 0, 1) := by decide +kernel
theorem dX7_power_20 : decode cX7_power 20 = .ok (.getfield 39, 3) := by decide +kernel
theorem dX7_power_23 : decode cX7_power 23 = .ok (.iload_n 1, 1) := by decide +kernel
theorem dX7_power_24 : decode cX7_power 24 = .ok (.baload, 1) := by decide +kernel
theorem dX7_power_25 : decode cX7_power 25 = .ok (.ifCond .eq 10, 3) := by decide +kernel
theorem dX7_power_28 : decode cX7_power 28 = .ok (.aload_n 0, 1) := by decide +kernel
theorem dX7_power_29 : decode cX7_power 29 = .ok (.bipush (-3), 2) := by decide +kernel
theorem dX7_power_31 : decode cX7_power 31 = .ok (.invokevirtual 100, 3) := by decide +kernel
theorem dX7_power_34 : decode cX7_power 34 = .ok (.ireturn, 1) := by decide +kernel
theorem dX7_power_35 : decode cX7_power 35 = .ok (.iconst 1, 1) := by decide +kernel
theorem dX7_power_36 : decode cX7_power 36 = .ok (.istore_n 2, 1) := by decide +kernel
theorem dX7_power_37 : decode cX7_power 37 = .ok (.iload_n 2, 1) := by decide +kernel
theorem dX7_power_38 : decode cX7_power 38 = .ok (.aload_n 0, 1) := by decide +kernel
theorem dX7_power_39 : decode cX7_power 39 = .ok (.getfield 107, 3) := by decide +kernel
theorem dX7_power_42 : decode cX7_power 42 = .ok (.if_icmp .gt 120, 3) := by decide +kernel
theorem dX7_power_45 : decode cX7_power 45 = .ok (.iload_n 1, 1) := by decide +kernel
theorem dX7_power_46 : decode cX7_power 46 = .ok (.iload_n 2, 1) := by decide +kernel
theorem dX7_power_47 : decode cX7_power 47 = .ok (.invokestatic 132, 3) := by decide +kernel
theorem dX7_power_50 : decode cX7_power 50 = .ok (.istore_n 3, 1) := by decide +kernel
theorem dX7_power_51 : decode cX7_power 51 = .ok (.aload_n 0, 1) := by decide +kernel
theorem dX7_power_52 : decode cX7_power 52 = .ok (.getfield 61, 3) := by decide +kernel
theorem dX7_power_55 : decode cX7_power 55 = .ok (.iload_n 3, 1) := by decide +kernel
theorem dX7_power_56 : decode cX7_power 56 = .ok (.iaload, 1) := by decide +kernel
theorem dX7_power_57 : decode cX7_power 57 = .ok (.ifCond .eq 99, 3) := by decide +kernel
theorem dX7_power_60 : decode cX7_power 60 = .ok (.aload_n 0, 1) := by decide +kernel
theorem dX7_power_61 : decode cX7_power 61 = .ok (.getfield 61, 3) := by decide +kernel
theorem dX7_power_64 : decode cX7_power 64 = .ok (.iload_n 3, 1) := by decide +kernel
theorem dX7_power_65 : decode cX7_power 65 = .ok (.iaload, 1) := by decide +kernel
theorem dX7_power_66 : decode cX7_power 66 = .ok (.aload_n 0, 1) := by decide +kernel
theorem dX7_power_67 : decode cX7_power 67 = .ok (.getfield 13, 3) := by decide +kernel
theorem dX7_power_70 : decode cX7_power 70 = .ok (.iload_n 2, 1) := by decide +kernel
theorem dX7_power_71 : decode cX7_power 71 = .ok (.iaload, 1) := by decide +kernel
theorem dX7_power_72 : decode cX7_power 72 = .ok (.if_icmp .ne 84, 3) := by decide +kernel
theorem dX7_power_75 : decode cX7_power 75 = .ok (.aload_n 0, 1) := by decide +kernel
theorem dX7_power_76 : decode cX7_power 76 = .ok (.getfield 23, 3) := by decide +kernel
theorem dX7_power_79 : decode cX7_power 79 = .ok (.iload_n 2, 1) := by decide +kernel
theorem dX7_power_80 : decode cX7_power 80 = .ok (.aload_n 0, 1) := by decide +kernel
theorem dX7_power_81 : decode cX7_power 81 = .ok (.getfield 61, 3) := by decide +kernel
theorem dX7_power_84 : decode cX7_power 84 = .ok (.iload_n 3, 1) := by decide +kernel
theorem dX7_power_85 : decode cX7_power 85 = .ok (.iaload, 1) := by decide +kernel
theorem dX7_power_86 : decode cX7_power 86 = .ok (.invokestatic 118, 3) := by decide +kernel
theorem dX7_power_89 : decode cX7_power 89 = .ok (.iaload, 1) := by decide +kernel
theorem dX7_power_90 : decode cX7_power 90 = .ok (.ifCond .ge 6, 3) := by decide +kernel
theorem dX7_power_93 : decode cX7_power 93 = .ok (.goto 63, 3) := by decide +kernel
theorem dX7_power_96 : decode cX7_power 96 = .ok (.aload_n 0, 1) := by decide +kernel
theorem dX7_power_97 : decode cX7_power 97 = .ok (.iload_n 1, 1) := by decide +kernel
theorem dX7_power_98 : decode cX7_power 98 = .ok (.iload_n 2, 1) := by decide +kernel
theorem dX7_power_99 : decode cX7_power 99 = .ok (.aload_n 0, 1) := by decide +kernel
theorem dX7_power_100 : decode cX7_power 100 = .ok (.getfield 23, 3) := by decide +kernel
theorem dX7_power_103 : decode cX7_power 103 = .ok (.iload_n 2, 1) := by decide +kernel
theorem dX7_power_104 : decode cX7_power 104 = .ok (.aload_n 0, 1) := by decide +kernel
theorem dX7_power_105 : decode cX7_power 105 = .ok (.getfield 61, 3) := by decide +kernel
theorem dX7_power_108 : decode cX7_power 108 = .ok (.iload_n 3, 1) := by decide +kernel
theorem dX7_power_109 : decode cX7_power 109 = .ok (.iaload, 1) := by decide +kernel
theorem dX7_power_110 : decode cX7_power 110 = .ok (.invokestatic 118, 3) := by decide +kernel
theorem dX7_power_113 : decode cX7_power 113 = .ok (.iaload, 1) := by decide +kernel
theorem dX7_power_114 : decode cX7_power 114 = .ok (.aload_n 0, 1) := by decide +kernel
theorem dX7_power_115 : decode cX7_power 115 = .ok (.getfield 26, 3) := by decide +kernel
theorem dX7_power_118 : decode cX7_power 118 = .ok (.iload_n 2, 1) := by decide +kernel
theorem dX7_power_119 : decode cX7_power 119 = .ok (.aload_n 0, 1) := by decide +kernel
theorem dX7_power_120 : decode cX7_power 120 = .ok (.getfield 61, 3) := by decide +kernel
theorem dX7_power_123 : decode cX7_power 123 = .ok (.iload_n 3, 1) := by decide +kernel
theorem dX7_power_124 : decode cX7_power 124 = .ok (.iaload, 1) := by decide +kernel
theorem dX7_power_125 : decode cX7_power 125 = .ok (.invokestatic 118, 3) := by decide +kernel
theorem dX7_power_128 : decode cX7_power 128 = .ok (.iaload, 1) := by decide +kernel
theorem dX7_power_129 : decode cX7_power 129 = .ok (.invokevirtual 172, 3) := by decide +kernel
theorem dX7_power_132 : decode cX7_power 132 = .ok (.istore 4, 2) := by decide +kernel
theorem dX7_power_134 : decode cX7_power 134 = .ok (.iload 4, 2) := by decide +kernel
theorem dX7_power_136 : decode cX7_power 136 = .ok (.ifCond .ne 6, 3) := by decide +kernel
theorem dX7_power_139 : decode cX7_power 139 = .ok (.goto 17, 3) := by decide +kernel
theorem dX7_power_142 : decode cX7_power 142 = .ok (.aload_n 0, 1) := by decide +kernel
theorem dX7_power_143 : decode cX7_power 143 = .ok (.iload_n 1, 1) := by decide +kernel
theorem dX7_power_144 : decode cX7_power 144 = .ok (.iload_n 2, 1) := by decide +kernel
theorem dX7_power_145 : decode cX7_power 145 = .ok (.iload 4, 2) := by decide +kernel
theorem dX7_power_147 : decode cX7_power 147 = .ok (.invokevirtual 175, 3) := by decide +kernel
theorem dX7_power_150 : decode cX7_power 150 = .ok (.bipush 10, 2) := by decide +kernel
theorem dX7_power_152 : decode cX7_power 152 = .ok (.iload 4, 2) := by decide +kernel
theorem dX7_power_154 : decode cX7_power 154 = .ok (.iadd, 1) := by decide +kernel
theorem dX7_power_155 : decode cX7_power 155 = .ok (.ireturn, 1) := by decide +kernel
theorem dX7_power_156 : decode cX7_power 156 = .ok (.iinc 2 1, 3) := by decide +kernel
theorem dX7_power_159 : decode cX7_power 159 = .ok (.goto (-122), 3) := by decide +kernel
theorem dX7_power_162 : decode cX7_power 162 = .ok (.aload_n 0, 1) := by decide +kernel
theorem dX7_power_163 : decode cX7_power 163 = .ok (.getfield 39, 3) := by decide +kernel
theorem dX7_power_166 : decode cX7_power 166 = .ok (.iload_n 1, 1) := by decide +kernel
theorem dX7_power_167 : decode cX7_power 167 = .ok (.iconst 1, 1) := by decide +kernel
theorem dX7_power_168 : decode cX7_power 168 = .ok (.bastore, 1) := by decide +kernel
theorem dX7_power_169 : decode cX7_power 169 = .ok (.iconst 1, 1) := by decide +kernel
theorem dX7_power_170 : decode cX7_power 170 = .ok (.ireturn, 1) := by decide +kernel
theorem dX7_barred_0 : decode cX7_barred 0 = .ok (.aload_n 0, 1) := by decide +kernel
theorem dX7_barred_1 : decode cX7_barred 1 = .ok (.iload_n 1, 1) := by decide +kernel
theorem dX7_barred_2 : decode cX7_barred 2 = .ok (.invokevirtual 126, 3) := by decide +kernel
theorem dX7_barred_5 : decode cX7_barred 5 = .ok (.ifCond .eq 11, 3) := by decide +kernel
theorem dX7_barred_8 : decode cX7_barred 8 = .ok (.aload_n 0, 1) := by decide +kernel
theorem dX7_barred_9 : decode cX7_barred 9 = .ok (.iload_n 2, 1) := by decide +kernel
theorem dX7_barred_10 : decode cX7_barred 10 = .ok (.invokevirtual 129, 3) := by decide +kernel
theorem dX7_barred_13 : decode cX7_barred 13 = .ok (.ifCond .ne 5, 3) := by decide +kernel
theorem dX7_barred_16 : decode cX7_barred 16 = .ok (.iconst (-1), 1) := by decide +kernel
theorem dX7_barred_17 : decode cX7_barred 17 = .ok (.ireturn, 1) := by decide +kernel
theorem dX7_barred_18 : decode cX7_barred 18 = .ok (.iload_n 1, 1) := by decide +kernel
theorem dX7_barred_19 : decode cX7_barred 19 = .ok (.iload_n 2, 1) := by decide +kernel
theorem dX7_barred_20 : decode cX7_barred 20 = .ok (.invokestatic 132, 3) := by decide +kernel
theorem dX7_barred_23 : decode cX7_barred 23 = .ok (.istore_n 3, 1) := by decide +kernel
theorem dX7_barred_24 : decode cX7_barred 24 = .ok (.aload_n 0, 1) := by decide +kernel
theorem dX7_barred_25 : decode cX7_barred 25 = .ok (.getfield 39, 3) := by decide +kernel
theorem dX7_barred_28 : decode cX7_barred 28 = .ok (.iload_n 1, 1) := by decide +kernel
theorem dX7_barred_29 : decode cX7_barred 29 = .ok (.baload, 1) := by decide +kernel
theorem dX7_barred_30 : decode cX7_barred 30 = .ok (.ifCond .eq 36, 3) := by decide +kernel
theorem dX7_barred_33 : decode cX7_barred 33 = .ok (.aload_n 0, 1) := by decide +kernel
theorem dX7_barred_34 : decode cX7_barred 34 = .ok (.getfield 61, 3) := by decide +kernel
theorem dX7_barred_37 : decode cX7_barred 37 = .ok (.iload_n 3, 1) := by decide +kernel
theorem dX7_barred_38 : decode cX7_barred 38 = .ok (.iaload, 1) := by decide +kernel
theorem dX7_barred_39 : decode cX7_barred 39 = .ok (.ifCond .eq 27, 3) := by decide +kernel
theorem dX7_barred_42 : decode cX7_barred 42 = .ok (.aload_n 0, 1) := by decide +kernel
theorem dX7_barred_43 : decode cX7_barred 43 = .ok (.getfield 67, 3) := by decide +kernel
theorem dX7_barred_46 : decode cX7_barred 46 = .ok (.iload_n 3, 1) := by decide +kernel
theorem dX7_barred_47 : decode cX7_barred 47 = .ok (.baload, 1) := by decide +kernel
theorem dX7_barred_48 : decode cX7_barred 48 = .ok (.ifCond .ne 18, 3) := by decide +kernel
theorem dX7_barred_51 : decode cX7_barred 51 = .ok (.aload_n 0, 1) := by decide +kernel
theorem dX7_barred_52 : decode cX7_barred 52 = .ok (.getfield 61, 3) := by decide +kernel
theorem dX7_barred_55 : decode cX7_barred 55 = .ok (.iload_n 3, 1) := by decide +kernel
theorem dX7_barred_56 : decode cX7_barred 56 = .ok (.iaload, 1) := by decide +kernel
theorem dX7_barred_57 : decode cX7_barred 57 = .ok (.aload_n 0, 1) := by decide +kernel
theorem dX7_barred_58 : decode cX7_barred 58 = .ok (.getfield 13, 3) := by decide +kernel
theorem dX7_barred_61 : decode cX7_barred 61 = .ok (.iload_n 2, 1) := by decide +kernel
theorem dX7_barred_62 : decode cX7_barred 62 = .ok (.iaload, 1) := by decide +kernel
theorem dX7_barred_63 : decode cX7_barred 63 = .ok (.if_icmp .eq 8, 3) := by decide +kernel
theorem dX7_barred_66 : decode cX7_barred 66 = .ok (.bipush (-3), 2) := by decide +kernel
theorem dX7_barred_68 : decode cX7_barred 68 = .ok (.goto 4, 3) := by decide +kernel
theorem dX7_barred_71 : decode cX7_barred 71 = .ok (.iconst 0, 1) := by decide +kernel
theorem dX7_barred_72 : decode cX7_barred 72 = .ok (.ireturn, 1) := by decide +kernel
theorem dX7_runMember_0 : decode cX7_runMember 0 = .ok (.iload_n 2, 1) := by decide +kernel
theorem dX7_runMember_1 : decode cX7_runMember 1 = .ok (.aload_n 0, 1) := by decide +kernel
theorem dX7_runMember_2 : decode cX7_runMember 2 = .ok (.getfield 61, 3) := by decide +kernel
theorem dX7_runMember_5 : decode cX7_runMember 5 = .ok (.iload_n 1, 1) := by decide +kernel
theorem dX7_runMember_6 : decode cX7_runMember 6 = .ok (.iload_n 2, 1) := by decide +kernel
theorem dX7_runMember_7 : decode cX7_runMember 7 = .ok (.invokestatic 132, 3) := by decide +kernel
theorem dX7_runMember_10 : decode cX7_runMember 10 = .ok (.iaload, 1) := by decide +kernel
theorem dX7_runMember_11 : decode cX7_runMember 11 = .ok (.invokestatic 118, 3) := by decide +kernel
theorem dX7_runMember_14 : decode cX7_runMember 14 = .ok (.istore_n 3, 1) := by decide +kernel
theorem dX7_runMember_15 : decode cX7_runMember 15 = .ok (.aload_n 0, 1) := by decide +kernel
theorem dX7_runMember_16 : decode cX7_runMember 16 = .ok (.iload_n 1, 1) := by decide +kernel
theorem dX7_runMember_17 : decode cX7_runMember 17 = .ok (.iload_n 2, 1) := by decide +kernel
theorem dX7_runMember_18 : decode cX7_runMember 18 = .ok (.aload_n 0, 1) := by decide +kernel
theorem dX7_runMember_19 : decode cX7_runMember 19 = .ok (.getfield 29, 3) := by decide +kernel
theorem dX7_runMember_22 : decode cX7_runMember 22 = .ok (.iload_n 3, 1) := by decide +kernel
theorem dX7_runMember_23 : decode cX7_runMember 23 = .ok (.iaload, 1) := by decide +kernel
theorem dX7_runMember_24 : decode cX7_runMember 24 = .ok (.aload_n 0, 1) := by decide +kernel
theorem dX7_runMember_25 : decode cX7_runMember 25 = .ok (.getfield 32, 3) := by decide +kernel
theorem dX7_runMember_28 : decode cX7_runMember 28 = .ok (.iload_n 3, 1) := by decide +kernel
theorem dX7_runMember_29 : decode cX7_runMember 29 = .ok (.iaload, 1) := by decide +kernel
theorem dX7_runMember_30 : decode cX7_runMember 30 = .ok (.invokevirtual 172, 3) := by decide +kernel
theorem dX7_runMember_33 : decode cX7_runMember 33 = .ok (.ireturn, 1) := by decide +kernel
theorem dX7_run_0 : decode cX7_run 0 = .ok (.aload_n 0, 1) := by decide +kernel
theorem dX7_run_1 : decode cX7_run 1 = .ok (.iconst 0, 1) := by decide +kernel
theorem dX7_run_2 : decode cX7_run 2 = .ok (.putfield 90, 3) := by decide +kernel
theorem dX7_run_5 : decode cX7_run 5 = .ok (.aload_n 0, 1) := by decide +kernel
theorem dX7_run_6 : decode cX7_run 6 = .ok (.iload_n 1, 1) := by decide +kernel
theorem dX7_run_7 : decode cX7_run 7 = .ok (.iload_n 2, 1) := by decide +kernel
theorem dX7_run_8 : decode cX7_run 8 = .ok (.invokevirtual 178, 3) := by decide +kernel
theorem dX7_run_11 : decode cX7_run 11 = .ok (.istore_n 3, 1) := by decide +kernel
theorem dX7_run_12 : decode cX7_run 12 = .ok (.iload_n 3, 1) := by decide +kernel
theorem dX7_run_13 : decode cX7_run 13 = .ok (.ifCond .ge 9, 3) := by decide +kernel
theorem dX7_run_16 : decode cX7_run 16 = .ok (.aload_n 0, 1) := by decide +kernel
theorem dX7_run_17 : decode cX7_run 17 = .ok (.iload_n 3, 1) := by decide +kernel
theorem dX7_run_18 : decode cX7_run 18 = .ok (.invokevirtual 100, 3) := by decide +kernel
theorem dX7_run_21 : decode cX7_run 21 = .ok (.ireturn, 1) := by decide +kernel
theorem dX7_run_22 : decode cX7_run 22 = .ok (.aload_n 0, 1) := by decide +kernel
theorem dX7_run_23 : decode cX7_run 23 = .ok (.iload_n 1, 1) := by decide +kernel
theorem dX7_run_24 : decode cX7_run 24 = .ok (.iload_n 2, 1) := by decide +kernel
theorem dX7_run_25 : decode cX7_run 25 = .ok (.invokevirtual 181, 3) := by decide +kernel
theorem dX7_run_28 : decode cX7_run 28 = .ok (.istore 4, 2) := by decide +kernel
theorem dX7_run_30 : decode cX7_run 30 = .ok (.iload 4, 2) := by decide +kernel
theorem dX7_run_32 : decode cX7_run 32 = .ok (.ifCond .ne 5, 3) := by decide +kernel
theorem dX7_run_35 : decode cX7_run 35 = .ok (.iconst 1, 1) := by decide +kernel
theorem dX7_run_36 : decode cX7_run 36 = .ok (.ireturn, 1) := by decide +kernel
theorem dX7_run_37 : decode cX7_run 37 = .ok (.aload_n 0, 1) := by decide +kernel
theorem dX7_run_38 : decode cX7_run 38 = .ok (.iload_n 1, 1) := by decide +kernel
theorem dX7_run_39 : decode cX7_run 39 = .ok (.iload_n 2, 1) := by decide +kernel
theorem dX7_run_40 : decode cX7_run 40 = .ok (.iload 4, 2) := by decide +kernel
theorem dX7_run_42 : decode cX7_run 42 = .ok (.invokevirtual 175, 3) := by decide +kernel
theorem dX7_run_45 : decode cX7_run 45 = .ok (.aload_n 0, 1) := by decide +kernel
theorem dX7_run_46 : decode cX7_run 46 = .ok (.getfield 43, 3) := by decide +kernel
theorem dX7_run_49 : decode cX7_run 49 = .ok (.iload_n 1, 1) := by decide +kernel
theorem dX7_run_50 : decode cX7_run 50 = .ok (.iaload, 1) := by decide +kernel
theorem dX7_run_51 : decode cX7_run 51 = .ok (.iconst 1, 1) := by decide +kernel
theorem dX7_run_52 : decode cX7_run 52 = .ok (.if_icmp .ne 14, 3) := by decide +kernel
theorem dX7_run_55 : decode cX7_run 55 = .ok (.aload_n 0, 1) := by decide +kernel
theorem dX7_run_56 : decode cX7_run 56 = .ok (.getfield 67, 3) := by decide +kernel
theorem dX7_run_59 : decode cX7_run 59 = .ok (.iload_n 1, 1) := by decide +kernel
theorem dX7_run_60 : decode cX7_run 60 = .ok (.iload_n 2, 1) := by decide +kernel
theorem dX7_run_61 : decode cX7_run 61 = .ok (.invokestatic 132, 3) := by decide +kernel
theorem dX7_run_64 : decode cX7_run 64 = .ok (.iconst 1, 1) := by decide +kernel
theorem dX7_run_65 : decode cX7_run 65 = .ok (.bastore, 1) := by decide +kernel
theorem dX7_run_66 : decode cX7_run 66 = .ok (.aload_n 0, 1) := by decide +kernel
theorem dX7_run_67 : decode cX7_run 67 = .ok (.getfield 43, 3) := by decide +kernel
theorem dX7_run_70 : decode cX7_run 70 = .ok (.iload_n 1, 1) := by decide +kernel
theorem dX7_run_71 : decode cX7_run 71 = .ok (.iaload, 1) := by decide +kernel
theorem dX7_run_72 : decode cX7_run 72 = .ok (.iconst 2, 1) := by decide +kernel
theorem dX7_run_73 : decode cX7_run 73 = .ok (.if_icmp .ne 10, 3) := by decide +kernel
theorem dX7_run_76 : decode cX7_run 76 = .ok (.aload_n 0, 1) := by decide +kernel
theorem dX7_run_77 : decode cX7_run 77 = .ok (.getfield 39, 3) := by decide +kernel
theorem dX7_run_80 : decode cX7_run 80 = .ok (.iload_n 1, 1) := by decide +kernel
theorem dX7_run_81 : decode cX7_run 81 = .ok (.iconst 0, 1) := by decide +kernel
theorem dX7_run_82 : decode cX7_run 82 = .ok (.bastore, 1) := by decide +kernel
theorem dX7_run_83 : decode cX7_run 83 = .ok (.bipush 10, 2) := by decide +kernel
theorem dX7_run_85 : decode cX7_run 85 = .ok (.iload 4, 2) := by decide +kernel
theorem dX7_run_87 : decode cX7_run 87 = .ok (.iadd, 1) := by decide +kernel
theorem dX7_run_88 : decode cX7_run 88 = .ok (.ireturn, 1) := by decide +kernel
theorem dX7_beside_0 : decode cX7_beside 0 = .ok (.aload_n 0, 1) := by decide +kernel
theorem dX7_beside_1 : decode cX7_beside 1 = .ok (.iconst 0, 1) := by decide +kernel
theorem dX7_beside_2 : decode cX7_beside 2 = .ok (.putfield 90, 3) := by decide +kernel
theorem dX7_beside_5 : decode cX7_beside 5 = .ok (.aload_n 0, 1) := by decide +kernel
theorem dX7_beside_6 : decode cX7_beside 6 = .ok (.iload_n 1, 1) := by decide +kernel
theorem dX7_beside_7 : decode cX7_beside 7 = .ok (.iload_n 2, 1) := by decide +kernel
theorem dX7_beside_8 : decode cX7_beside 8 = .ok (.invokevirtual 178, 3) := by decide +kernel
theorem dX7_beside_11 : decode cX7_beside 11 = .ok (.istore_n 3, 1) := by decide +kernel
theorem dX7_beside_12 : decode cX7_beside 12 = .ok (.iload_n 3, 1) := by decide +kernel
theorem dX7_beside_13 : decode cX7_beside 13 = .ok (.ifCond .ge 9, 3) := by decide +kernel
theorem dX7_beside_16 : decode cX7_beside 16 = .ok (.aload_n 0, 1) := by decide +kernel
theorem dX7_beside_17 : decode cX7_beside 17 = .ok (.iload_n 3, 1) := by decide +kernel
theorem dX7_beside_18 : decode cX7_beside 18 = .ok (.invokevirtual 100, 3) := by decide +kernel
theorem dX7_beside_21 : decode cX7_beside 21 = .ok (.ireturn, 1) := by decide +kernel
theorem dX7_beside_22 : decode cX7_beside 22 = .ok (.iload_n 1, 1) := by decide +kernel
theorem dX7_beside_23 : decode cX7_beside 23 = .ok (.iload_n 2, 1) := by decide +kernel
theorem dX7_beside_24 : decode cX7_beside 24 = .ok (.invokestatic 132, 3) := by decide +kernel
theorem dX7_beside_27 : decode cX7_beside 27 = .ok (.istore 4, 2) := by decide +kernel
theorem dX7_beside_29 : decode cX7_beside 29 = .ok (.iconst 0, 1) := by decide +kernel
theorem dX7_beside_30 : decode cX7_beside 30 = .ok (.istore 5, 2) := by decide +kernel
theorem dX7_beside_32 : decode cX7_beside 32 = .ok (.iload 5, 2) := by decide +kernel
theorem dX7_beside_34 : decode cX7_beside 34 = .ok (.bipush 8, 2) := by decide +kernel
theorem dX7_beside_36 : decode cX7_beside 36 = .ok (.if_icmp .ge 48, 3) := by decide +kernel
theorem dX7_beside_39 : decode cX7_beside 39 = .ok (.aload_n 0, 1) := by decide +kernel
theorem dX7_beside_40 : decode cX7_beside 40 = .ok (.getfield 79, 3) := by decide +kernel
theorem dX7_beside_43 : decode cX7_beside 43 = .ok (.iload 5, 2) := by decide +kernel
theorem dX7_beside_45 : decode cX7_beside 45 = .ok (.aload_n 0, 1) := by decide +kernel
theorem dX7_beside_46 : decode cX7_beside 46 = .ok (.getfield 35, 3) := by decide +kernel
theorem dX7_beside_49 : decode cX7_beside 49 = .ok (.bipush 8, 2) := by decide +kernel
theorem dX7_beside_51 : decode cX7_beside 51 = .ok (.iload_n 1, 1) := by decide +kernel
theorem dX7_beside_52 : decode cX7_beside 52 = .ok (.imul, 1) := by decide +kernel
theorem dX7_beside_53 : decode cX7_beside 53 = .ok (.iload 5, 2) := by decide +kernel
theorem dX7_beside_55 : decode cX7_beside 55 = .ok (.iadd, 1) := by decide +kernel
theorem dX7_beside_56 : decode cX7_beside 56 = .ok (.laload, 1) := by decide +kernel
theorem dX7_beside_57 : decode cX7_beside 57 = .ok (.lastore, 1) := by decide +kernel
theorem dX7_beside_58 : decode cX7_beside 58 = .ok (.aload_n 0, 1) := by decide +kernel
theorem dX7_beside_59 : decode cX7_beside 59 = .ok (.getfield 82, 3) := by decide +kernel
theorem dX7_beside_62 : decode cX7_beside 62 = .ok (.iload 5, 2) := by decide +kernel
theorem dX7_beside_64 : decode cX7_beside 64 = .ok (.aload_n 0, 1) := by decide +kernel
theorem dX7_beside_65 : decode cX7_beside 65 = .ok (.getfield 64, 3) := by decide +kernel
theorem dX7_beside_68 : decode cX7_beside 68 = .ok (.bipush 8, 2) := by decide +kernel
theorem dX7_beside_70 : decode cX7_beside 70 = .ok (.iload 4, 2) := by decide +kernel
theorem dX7_beside_72 : decode cX7_beside 72 = .ok (.imul, 1) := by decide +kernel
theorem dX7_beside_73 : decode cX7_beside 73 = .ok (.iload 5, 2) := by decide +kernel
theorem dX7_beside_75 : decode cX7_beside 75 = .ok (.iadd, 1) := by decide +kernel
theorem dX7_beside_76 : decode cX7_beside 76 = .ok (.laload, 1) := by decide +kernel
theorem dX7_beside_77 : decode cX7_beside 77 = .ok (.lastore, 1) := by decide +kernel
theorem dX7_beside_78 : decode cX7_beside 78 = .ok (.iinc 5 1, 3) := by decide +kernel
theorem dX7_beside_81 : decode cX7_beside 81 = .ok (.goto (-49), 3) := by decide +kernel
theorem dX7_beside_84 : decode cX7_beside 84 = .ok (.aload_n 0, 1) := by decide +kernel
theorem dX7_beside_85 : decode cX7_beside 85 = .ok (.getfield 70, 3) := by decide +kernel
theorem dX7_beside_88 : decode cX7_beside 88 = .ok (.iload 4, 2) := by decide +kernel
theorem dX7_beside_90 : decode cX7_beside 90 = .ok (.iaload, 1) := by decide +kernel
theorem dX7_beside_91 : decode cX7_beside 91 = .ok (.istore 5, 2) := by decide +kernel
theorem dX7_beside_93 : decode cX7_beside 93 = .ok (.aload_n 0, 1) := by decide +kernel
theorem dX7_beside_94 : decode cX7_beside 94 = .ok (.getfield 73, 3) := by decide +kernel
theorem dX7_beside_97 : decode cX7_beside 97 = .ok (.iload 4, 2) := by decide +kernel
theorem dX7_beside_99 : decode cX7_beside 99 = .ok (.iaload, 1) := by decide +kernel
theorem dX7_beside_100 : decode cX7_beside 100 = .ok (.istore 6, 2) := by decide +kernel
theorem dX7_beside_102 : decode cX7_beside 102 = .ok (.aload_n 0, 1) := by decide +kernel
theorem dX7_beside_103 : decode cX7_beside 103 = .ok (.iload_n 1, 1) := by decide +kernel
theorem dX7_beside_104 : decode cX7_beside 104 = .ok (.iload_n 2, 1) := by decide +kernel
theorem dX7_beside_105 : decode cX7_beside 105 = .ok (.invokevirtual 181, 3) := by decide +kernel
theorem dX7_beside_108 : decode cX7_beside 108 = .ok (.istore 7, 2) := by decide +kernel
theorem dX7_beside_110 : decode cX7_beside 110 = .ok (.iconst 0, 1) := by decide +kernel
theorem dX7_beside_111 : decode cX7_beside 111 = .ok (.istore 8, 2) := by decide +kernel
theorem dX7_beside_113 : decode cX7_beside 113 = .ok (.iload 8, 2) := by decide +kernel
theorem dX7_beside_115 : decode cX7_beside 115 = .ok (.bipush 8, 2) := by decide +kernel
theorem dX7_beside_117 : decode cX7_beside 117 = .ok (.if_icmp .ge 48, 3) := by decide +kernel
theorem dX7_beside_120 : decode cX7_beside 120 = .ok (.aload_n 0, 1) := by decide +kernel
theorem dX7_beside_121 : decode cX7_beside 121 = .ok (.getfield 35, 3) := by decide +kernel
theorem dX7_beside_124 : decode cX7_beside 124 = .ok (.bipush 8, 2) := by decide +kernel
theorem dX7_beside_126 : decode cX7_beside 126 = .ok (.iload_n 1, 1) := by decide +kernel
theorem dX7_beside_127 : decode cX7_beside 127 = .ok (.imul, 1) := by decide +kernel
theorem dX7_beside_128 : decode cX7_beside 128 = .ok (.iload 8, 2) := by decide +kernel
theorem dX7_beside_130 : decode cX7_beside 130 = .ok (.iadd, 1) := by decide +kernel
theorem dX7_beside_131 : decode cX7_beside 131 = .ok (.aload_n 0, 1) := by decide +kernel
theorem dX7_beside_132 : decode cX7_beside 132 = .ok (.getfield 79, 3) := by decide +kernel
theorem dX7_beside_135 : decode cX7_beside 135 = .ok (.iload 8, 2) := by decide +kernel
theorem dX7_beside_137 : decode cX7_beside 137 = .ok (.laload, 1) := by decide +kernel
theorem dX7_beside_138 : decode cX7_beside 138 = .ok (.lastore, 1) := by decide +kernel
theorem dX7_beside_139 : decode cX7_beside 139 = .ok (.aload_n 0, 1) := by decide +kernel
theorem dX7_beside_140 : decode cX7_beside 140 = .ok (.getfield 64, 3) := by decide +kernel
theorem dX7_beside_143 : decode cX7_beside 143 = .ok (.bipush 8, 2) := by decide +kernel
theorem dX7_beside_145 : decode cX7_beside 145 = .ok (.iload 4, 2) := by decide +kernel
theorem dX7_beside_147 : decode cX7_beside 147 = .ok (.imul, 1) := by decide +kernel
theorem dX7_beside_148 : decode cX7_beside 148 = .ok (.iload 8, 2) := by decide +kernel
theorem dX7_beside_150 : decode cX7_beside 150 = .ok (.iadd, 1) := by decide +kernel
theorem dX7_beside_151 : decode cX7_beside 151 = .ok (.aload_n 0, 1) := by decide +kernel
theorem dX7_beside_152 : decode cX7_beside 152 = .ok (.getfield 82, 3) := by decide +kernel
theorem dX7_beside_155 : decode cX7_beside 155 = .ok (.iload 8, 2) := by decide +kernel
theorem dX7_beside_157 : decode cX7_beside 157 = .ok (.laload, 1) := by decide +kernel
theorem dX7_beside_158 : decode cX7_beside 158 = .ok (.lastore, 1) := by decide +kernel
theorem dX7_beside_159 : decode cX7_beside 159 = .ok (.iinc 8 1, 3) := by decide +kernel
theorem dX7_beside_162 : decode cX7_beside 162 = .ok (.goto (-49), 3) := by decide +kernel
theorem dX7_beside_165 : decode cX7_beside 165 = .ok (.aload_n 0, 1) := by decide +kernel
theorem dX7_beside_166 : decode cX7_beside 166 = .ok (.getfield 70, 3) := by decide +kernel
theorem dX7_beside_169 : decode cX7_beside 169 = .ok (.iload 4, 2) := by decide +kernel
theorem dX7_beside_171 : decode cX7_beside 171 = .ok (.iload 5, 2) := by decide +kernel
theorem dX7_beside_173 : decode cX7_beside 173 = .ok (.iastore, 1) := by decide +kernel
theorem dX7_beside_174 : decode cX7_beside 174 = .ok (.aload_n 0, 1) := by decide +kernel
theorem dX7_beside_175 : decode cX7_beside 175 = .ok (.getfield 73, 3) := by decide +kernel
theorem dX7_beside_178 : decode cX7_beside 178 = .ok (.iload 4, 2) := by decide +kernel
theorem dX7_beside_180 : decode cX7_beside 180 = .ok (.iload 6, 2) := by decide +kernel
theorem dX7_beside_182 : decode cX7_beside 182 = .ok (.iastore, 1) := by decide +kernel
theorem dX7_beside_183 : decode cX7_beside 183 = .ok (.iload 7, 2) := by decide +kernel
theorem dX7_beside_185 : decode cX7_beside 185 = .ok (.ifCond .ne 7, 3) := by decide +kernel
theorem dX7_beside_188 : decode cX7_beside 188 = .ok (.iconst 1, 1) := by decide +kernel
theorem dX7_beside_189 : decode cX7_beside 189 = .ok (.goto 8, 3) := by decide +kernel
theorem dX7_beside_192 : decode cX7_beside 192 = .ok (.bipush 10, 2) := by decide +kernel
theorem dX7_beside_194 : decode cX7_beside 194 = .ok (.iload 7, 2) := by decide +kernel
theorem dX7_beside_196 : decode cX7_beside 196 = .ok (.iadd, 1) := by decide +kernel
theorem dX7_beside_197 : decode cX7_beside 197 = .ok (.ireturn, 1) := by decide +kernel
theorem dX7_port_0 : decode cX7_port 0 = .ok (.aload_n 0, 1) := by decide +kernel
theorem dX7_port_1 : decode cX7_port 1 = .ok (.iconst 0, 1) := by decide +kernel
theorem dX7_port_2 : decode cX7_port 2 = .ok (.putfield 90, 3) := by decide +kernel
theorem dX7_port_5 : decode cX7_port 5 = .ok (.aload_n 0, 1) := by decide +kernel
theorem dX7_port_6 : decode cX7_port 6 = .ok (.iload_n 1, 1) := by decide +kernel
theorem dX7_port_7 : decode cX7_port 7 = .ok (.invokevirtual 126, 3) := by decide +kernel
theorem dX7_port_10 : decode cX7_port 10 = .ok (.ifCond .eq 27, 3) := by decide +kernel
theorem dX7_port_13 : decode cX7_port 13 = .ok (.iload_n 2, 1) := by decide +kernel
theorem dX7_port_14 : decode cX7_port 14 = .ok (.iconst 0, 1) := by decide +kernel
theorem dX7_port_15 : decode cX7_port 15 = .ok (.bipush 7, 2) := by decide +kernel
theorem dX7_port_17 : decode cX7_port 17 = .ok (.invokestatic 96, 3) := by decide +kernel
theorem dX7_port_20 : decode cX7_port 20 = .ok (.ifCond .eq 17, 3) := by decide +kernel
theorem dX7_port_23 : decode cX7_port 23 = .ok (.aload_n 0, 1) := by decide +kernel
theorem dX7_port_24 : decode cX7_port 24 = .ok (.getfield 35, 3) := by decide +kernel
theorem dX7_port_27 : decode cX7_port 27 = .ok (.bipush 8, 2) := by decide +kernel
theorem dX7_port_29 : decode cX7_port 29 = .ok (.iload_n 1, 1) := by decide +kernel
theorem dX7_port_30 : decode cX7_port 30 = .ok (.imul, 1) := by decide +kernel
theorem dX7_port_31 : decode cX7_port 31 = .ok (.iload_n 2, 1) := by decide +kernel
theorem dX7_port_32 : decode cX7_port 32 = .ok (.iadd, 1) := by decide +kernel
theorem dX7_port_33 : decode cX7_port 33 = .ok (.laload, 1) := by decide +kernel
theorem dX7_port_34 : decode cX7_port 34 = .ok (.goto 4, 3) := by decide +kernel
theorem dX7_port_37 : decode cX7_port 37 = .ok (.lconst 0, 1) := by decide +kernel
theorem dX7_port_38 : decode cX7_port 38 = .ok (.lreturn, 1) := by decide +kernel
theorem dX7_set_0 : decode cX7_set 0 = .ok (.aload_n 0, 1) := by decide +kernel
theorem dX7_set_1 : decode cX7_set 1 = .ok (.iconst 0, 1) := by decide +kernel
theorem dX7_set_2 : decode cX7_set 2 = .ok (.putfield 90, 3) := by decide +kernel
theorem dX7_set_5 : decode cX7_set 5 = .ok (.aload_n 0, 1) := by decide +kernel
theorem dX7_set_6 : decode cX7_set 6 = .ok (.iload_n 1, 1) := by decide +kernel
theorem dX7_set_7 : decode cX7_set 7 = .ok (.invokevirtual 126, 3) := by decide +kernel
theorem dX7_set_10 : decode cX7_set 10 = .ok (.ifCond .eq 13, 3) := by decide +kernel
theorem dX7_set_13 : decode cX7_set 13 = .ok (.iload_n 2, 1) := by decide +kernel
theorem dX7_set_14 : decode cX7_set 14 = .ok (.iconst 0, 1) := by decide +kernel
theorem dX7_set_15 : decode cX7_set 15 = .ok (.bipush 7, 2) := by decide +kernel
theorem dX7_set_17 : decode cX7_set 17 = .ok (.invokestatic 96, 3) := by decide +kernel
theorem dX7_set_20 : decode cX7_set 20 = .ok (.ifCond .ne 9, 3) := by decide +kernel
theorem dX7_set_23 : decode cX7_set 23 = .ok (.aload_n 0, 1) := by decide +kernel
theorem dX7_set_24 : decode cX7_set 24 = .ok (.iconst (-1), 1) := by decide +kernel
theorem dX7_set_25 : decode cX7_set 25 = .ok (.invokevirtual 100, 3) := by decide +kernel
theorem dX7_set_28 : decode cX7_set 28 = .ok (.ireturn, 1) := by decide +kernel
theorem dX7_set_29 : decode cX7_set 29 = .ok (.aload_n 0, 1) := by decide +kernel
theorem dX7_set_30 : decode cX7_set 30 = .ok (.getfield 35, 3) := by decide +kernel
theorem dX7_set_33 : decode cX7_set 33 = .ok (.bipush 8, 2) := by decide +kernel
theorem dX7_set_35 : decode cX7_set 35 = .ok (.iload_n 1, 1) := by decide +kernel
theorem dX7_set_36 : decode cX7_set 36 = .ok (.imul, 1) := by decide +kernel
theorem dX7_set_37 : decode cX7_set 37 = .ok (.iload_n 2, 1) := by decide +kernel
theorem dX7_set_38 : decode cX7_set 38 = .ok (.iadd, 1) := by decide +kernel
theorem dX7_set_39 : decode cX7_set 39 = .ok (.lload_n 3, 1) := by decide +kernel
theorem dX7_set_40 : decode cX7_set 40 = .ok (.lastore, 1) := by decide +kernel
theorem dX7_set_41 : decode cX7_set 41 = .ok (.iconst 1, 1) := by decide +kernel
theorem dX7_set_42 : decode cX7_set 42 = .ok (.ireturn, 1) := by decide +kernel
theorem dX7_cell_0 : decode cX7_cell 0 = .ok (.aload_n 0, 1) := by decide +kernel
theorem dX7_cell_1 : decode cX7_cell 1 = .ok (.iconst 0, 1) := by decide +kernel
theorem dX7_cell_2 : decode cX7_cell 2 = .ok (.putfield 90, 3) := by decide +kernel
theorem dX7_cell_5 : decode cX7_cell 5 = .ok (.aload_n 0, 1) := by decide +kernel
theorem dX7_cell_6 : decode cX7_cell 6 = .ok (.iload_n 1, 1) := by decide +kernel
theorem dX7_cell_7 : decode cX7_cell 7 = .ok (.iload_n 2, 1) := by decide +kernel
theorem dX7_cell_8 : decode cX7_cell 8 = .ok (.invokevirtual 184, 3) := by decide +kernel
theorem dX7_cell_11 : decode cX7_cell 11 = .ok (.ifCond .eq 31, 3) := by decide +kernel
theorem dX7_cell_14 : decode cX7_cell 14 = .ok (.iload_n 3, 1) := by decide +kernel
theorem dX7_cell_15 : decode cX7_cell 15 = .ok (.iconst 0, 1) := by decide +kernel
theorem dX7_cell_16 : decode cX7_cell 16 = .ok (.bipush 7, 2) := by decide +kernel
theorem dX7_cell_18 : decode cX7_cell 18 = .ok (.invokestatic 96, 3) := by decide +kernel
theorem dX7_cell_21 : decode cX7_cell 21 = .ok (.ifCond .eq 21, 3) := by decide +kernel
theorem dX7_cell_24 : decode cX7_cell 24 = .ok (.aload_n 0, 1) := by decide +kernel
theorem dX7_cell_25 : decode cX7_cell 25 = .ok (.getfield 64, 3) := by decide +kernel
theorem dX7_cell_28 : decode cX7_cell 28 = .ok (.bipush 8, 2) := by decide +kernel
theorem dX7_cell_30 : decode cX7_cell 30 = .ok (.iload_n 1, 1) := by decide +kernel
theorem dX7_cell_31 : decode cX7_cell 31 = .ok (.iload_n 2, 1) := by decide +kernel
theorem dX7_cell_32 : decode cX7_cell 32 = .ok (.invokestatic 132, 3) := by decide +kernel
theorem dX7_cell_35 : decode cX7_cell 35 = .ok (.imul, 1) := by decide +kernel
theorem dX7_cell_36 : decode cX7_cell 36 = .ok (.iload_n 3, 1) := by decide +kernel
theorem dX7_cell_37 : decode cX7_cell 37 = .ok (.iadd, 1) := by decide +kernel
theorem dX7_cell_38 : decode cX7_cell 38 = .ok (.laload, 1) := by decide +kernel
theorem dX7_cell_39 : decode cX7_cell 39 = .ok (.goto 4, 3) := by decide +kernel
theorem dX7_cell_42 : decode cX7_cell 42 = .ok (.lconst 0, 1) := by decide +kernel
theorem dX7_cell_43 : decode cX7_cell 43 = .ok (.lreturn, 1) := by decide +kernel
theorem dX7_reaction_0 : decode cX7_reaction 0 = .ok (.aload_n 0, 1) := by decide +kernel
theorem dX7_reaction_1 : decode cX7_reaction 1 = .ok (.iconst 0, 1) := by decide +kernel
theorem dX7_reaction_2 : decode cX7_reaction 2 = .ok (.putfield 90, 3) := by decide +kernel
theorem dX7_reaction_5 : decode cX7_reaction 5 = .ok (.aload_n 0, 1) := by decide +kernel
theorem dX7_reaction_6 : decode cX7_reaction 6 = .ok (.iload_n 1, 1) := by decide +kernel
theorem dX7_reaction_7 : decode cX7_reaction 7 = .ok (.invokevirtual 126, 3) := by decide +kernel
theorem dX7_reaction_10 : decode cX7_reaction 10 = .ok (.ifCond .ne 9, 3) := by decide +kernel
theorem dX7_reaction_13 : decode cX7_reaction 13 = .ok (.aload_n 0, 1) := by decide +kernel
theorem dX7_reaction_14 : decode cX7_reaction 14 = .ok (.iconst (-1), 1) := by decide +kernel
theorem dX7_reaction_15 : decode cX7_reaction 15 = .ok (.invokevirtual 100, 3) := by decide +kernel
theorem dX7_reaction_18 : decode cX7_reaction 18 = .ok (.ireturn, 1) := by decide +kernel
theorem dX7_reaction_19 : decode cX7_reaction 19 = .ok (.iload_n 2, 1) := by decide +kernel
theorem dX7_reaction_20 : decode cX7_reaction 20 = .ok (.iconst 0, 1) := by decide +kernel
theorem dX7_reaction_21 : decode cX7_reaction 21 = .ok (.iconst 2, 1) := by decide +kernel
theorem dX7_reaction_22 : decode cX7_reaction 22 = .ok (.invokestatic 96, 3) := by decide +kernel
theorem dX7_reaction_25 : decode cX7_reaction 25 = .ok (.ifCond .ne 10, 3) := by decide +kernel
theorem dX7_reaction_28 : decode cX7_reaction 28 = .ok (.aload_n 0, 1) := by decide +kernel
theorem dX7_reaction_29 : decode cX7_reaction 29 = .ok (.bipush (-2), 2) := by decide +kernel
theorem dX7_reaction_31 : decode cX7_reaction 31 = .ok (.invokevirtual 100, 3) := by decide +kernel
theorem dX7_reaction_34 : decode cX7_reaction 34 = .ok (.ireturn, 1) := by decide +kernel
theorem dX7_reaction_35 : decode cX7_reaction 35 = .ok (.aload_n 0, 1) := by decide +kernel
theorem dX7_reaction_36 : decode cX7_reaction 36 = .ok (.getfield 43, 3) := by decide +kernel
theorem dX7_reaction_39 : decode cX7_reaction 39 = .ok (.iload_n 1, 1) := by decide +kernel
theorem dX7_reaction_40 : decode cX7_reaction 40 = .ok (.iaload, 1) := by decide +kernel
theorem dX7_reaction_41 : decode cX7_reaction 41 = .ok (.istore_n 3, 1) := by decide +kernel
theorem dX7_reaction_42 : decode cX7_reaction 42 = .ok (.aload_n 0, 1) := by decide +kernel
theorem dX7_reaction_43 : decode cX7_reaction 43 = .ok (.getfield 43, 3) := by decide +kernel
theorem dX7_reaction_46 : decode cX7_reaction 46 = .ok (.iload_n 1, 1) := by decide +kernel
theorem dX7_reaction_47 : decode cX7_reaction 47 = .ok (.iload_n 2, 1) := by decide +kernel
theorem dX7_reaction_48 : decode cX7_reaction 48 = .ok (.iastore, 1) := by decide +kernel
theorem dX7_reaction_49 : decode cX7_reaction 49 = .ok (.iload_n 3, 1) := by decide +kernel
theorem dX7_reaction_50 : decode cX7_reaction 50 = .ok (.ireturn, 1) := by decide +kernel
theorem dX7_update_0 : decode cX7_update 0 = .ok (.aload_n 0, 1) := by decide +kernel
theorem dX7_update_1 : decode cX7_update 1 = .ok (.iconst 0, 1) := by decide +kernel
theorem dX7_update_2 : decode cX7_update 2 = .ok (.putfield 90, 3) := by decide +kernel
theorem dX7_update_5 : decode cX7_update 5 = .ok (.aload_n 0, 1) := by decide +kernel
theorem dX7_update_6 : decode cX7_update 6 = .ok (.iload_n 1, 1) := by decide +kernel
theorem dX7_update_7 : decode cX7_update 7 = .ok (.invokevirtual 126, 3) := by decide +kernel
theorem dX7_update_10 : decode cX7_update 10 = .ok (.ifCond .eq 11, 3) := by decide +kernel
theorem dX7_update_13 : decode cX7_update 13 = .ok (.aload_n 0, 1) := by decide +kernel
theorem dX7_update_14 : decode cX7_update 14 = .ok (.iload_n 2, 1) := by decide +kernel
theorem dX7_update_15 : decode cX7_update 15 = .ok (.invokevirtual 129, 3) := by decide +kernel
theorem dX7_update_18 : decode cX7_update 18 = .ok (.ifCond .ne 9, 3) := by decide +kernel
theorem dX7_update_21 : decode cX7_update 21 = .ok (.aload_n 0, 1) := by decide +kernel
theorem dX7_update_22 : decode cX7_update 22 = .ok (.iconst (-1), 1) := by decide +kernel
theorem dX7_update_23 : decode cX7_update 23 = .ok (.invokevirtual 100, 3) := by decide +kernel
theorem dX7_update_26 : decode cX7_update 26 = .ok (.ireturn, 1) := by decide +kernel
theorem dX7_update_27 : decode cX7_update 27 = .ok (.iload_n 1, 1) := by decide +kernel
theorem dX7_update_28 : decode cX7_update 28 = .ok (.iload_n 2, 1) := by decide +kernel
theorem dX7_update_29 : decode cX7_update 29 = .ok (.invokestatic 132, 3) := by decide +kernel
theorem dX7_update_32 : decode cX7_update 32 = .ok (.istore_n 3, 1) := by decide +kernel
theorem dX7_update_33 : decode cX7_update 33 = .ok (.aload_n 0, 1) := by decide +kernel
theorem dX7_update_34 : decode cX7_update 34 = .ok (.getfield 61, 3) := by decide +kernel
theorem dX7_update_37 : decode cX7_update 37 = .ok (.iload_n 3, 1) := by decide +kernel
theorem dX7_update_38 : decode cX7_update 38 = .ok (.iaload, 1) := by decide +kernel
theorem dX7_update_39 : decode cX7_update 39 = .ok (.ifCond .eq 18, 3) := by decide +kernel
theorem dX7_update_42 : decode cX7_update 42 = .ok (.aload_n 0, 1) := by decide +kernel
theorem dX7_update_43 : decode cX7_update 43 = .ok (.getfield 61, 3) := by decide +kernel
theorem dX7_update_46 : decode cX7_update 46 = .ok (.iload_n 3, 1) := by decide +kernel
theorem dX7_update_47 : decode cX7_update 47 = .ok (.iaload, 1) := by decide +kernel
theorem dX7_update_48 : decode cX7_update 48 = .ok (.aload_n 0, 1) := by decide +kernel
theorem dX7_update_49 : decode cX7_update 49 = .ok (.getfield 13, 3) := by decide +kernel
theorem dX7_update_52 : decode cX7_update 52 = .ok (.iload_n 2, 1) := by decide +kernel
theorem dX7_update_53 : decode cX7_update 53 = .ok (.iaload, 1) := by decide +kernel
theorem dX7_update_54 : decode cX7_update 54 = .ok (.if_icmp .ne 10, 3) := by decide +kernel
theorem dX7_update_57 : decode cX7_update 57 = .ok (.aload_n 0, 1) := by decide +kernel
theorem dX7_update_58 : decode cX7_update 58 = .ok (.bipush (-3), 2) := by decide +kernel
theorem dX7_update_60 : decode cX7_update 60 = .ok (.invokevirtual 100, 3) := by decide +kernel
theorem dX7_update_63 : decode cX7_update 63 = .ok (.ireturn, 1) := by decide +kernel
theorem dX7_update_64 : decode cX7_update 64 = .ok (.aload_n 0, 1) := by decide +kernel
theorem dX7_update_65 : decode cX7_update 65 = .ok (.iload_n 3, 1) := by decide +kernel
theorem dX7_update_66 : decode cX7_update 66 = .ok (.iload_n 2, 1) := by decide +kernel
theorem dX7_update_67 : decode cX7_update 67 = .ok (.iconst 4, 1) := by decide +kernel
theorem dX7_update_68 : decode cX7_update 68 = .ok (.invokevirtual 135, 3) := by decide +kernel
theorem dX7_update_71 : decode cX7_update 71 = .ok (.iconst 1, 1) := by decide +kernel
theorem dX7_update_72 : decode cX7_update 72 = .ok (.ireturn, 1) := by decide +kernel
theorem dX7_reset_0 : decode cX7_reset 0 = .ok (.aload_n 0, 1) := by decide +kernel
theorem dX7_reset_1 : decode cX7_reset 1 = .ok (.iconst 0, 1) := by decide +kernel
theorem dX7_reset_2 : decode cX7_reset 2 = .ok (.putfield 90, 3) := by decide +kernel
theorem dX7_reset_5 : decode cX7_reset 5 = .ok (.aload_n 0, 1) := by decide +kernel
theorem dX7_reset_6 : decode cX7_reset 6 = .ok (.iload_n 1, 1) := by decide +kernel
theorem dX7_reset_7 : decode cX7_reset 7 = .ok (.invokevirtual 126, 3) := by decide +kernel
theorem dX7_reset_10 : decode cX7_reset 10 = .ok (.ifCond .ne 9, 3) := by decide +kernel
theorem dX7_reset_13 : decode cX7_reset 13 = .ok (.aload_n 0, 1) := by decide +kernel
theorem dX7_reset_14 : decode cX7_reset 14 = .ok (.iconst (-1), 1) := by decide +kernel
theorem dX7_reset_15 : decode cX7_reset 15 = .ok (.invokevirtual 100, 3) := by decide +kernel
theorem dX7_reset_18 : decode cX7_reset 18 = .ok (.ireturn, 1) := by decide +kernel
theorem dX7_reset_19 : decode cX7_reset 19 = .ok (.aload_n 0, 1) := by decide +kernel
theorem dX7_reset_20 : decode cX7_reset 20 = .ok (.getfield 39, 3) := by decide +kernel
theorem dX7_reset_23 : decode cX7_reset 23 = .ok (.iload_n 1, 1) := by decide +kernel
theorem dX7_reset_24 : decode cX7_reset 24 = .ok (.iconst 0, 1) := by decide +kernel
theorem dX7_reset_25 : decode cX7_reset 25 = .ok (.bastore, 1) := by decide +kernel
theorem dX7_reset_26 : decode cX7_reset 26 = .ok (.iconst 0, 1) := by decide +kernel
theorem dX7_reset_27 : decode cX7_reset 27 = .ok (.istore_n 2, 1) := by decide +kernel
theorem dX7_reset_28 : decode cX7_reset 28 = .ok (.iload_n 2, 1) := by decide +kernel
theorem dX7_reset_29 : decode cX7_reset 29 = .ok (.bipush 8, 2) := by decide +kernel
theorem dX7_reset_31 : decode cX7_reset 31 = .ok (.if_icmp .ge 21, 3) := by decide +kernel
theorem dX7_reset_34 : decode cX7_reset 34 = .ok (.aload_n 0, 1) := by decide +kernel
theorem dX7_reset_35 : decode cX7_reset 35 = .ok (.getfield 35, 3) := by decide +kernel
theorem dX7_reset_38 : decode cX7_reset 38 = .ok (.bipush 8, 2) := by decide +kernel
theorem dX7_reset_40 : decode cX7_reset 40 = .ok (.iload_n 1, 1) := by decide +kernel
theorem dX7_reset_41 : decode cX7_reset 41 = .ok (.imul, 1) := by decide +kernel
theorem dX7_reset_42 : decode cX7_reset 42 = .ok (.iload_n 2, 1) := by decide +kernel
theorem dX7_reset_43 : decode cX7_reset 43 = .ok (.iadd, 1) := by decide +kernel
theorem dX7_reset_44 : decode cX7_reset 44 = .ok (.lconst 0, 1) := by decide +kernel
theorem dX7_reset_45 : decode cX7_reset 45 = .ok (.lastore, 1) := by decide +kernel
theorem dX7_reset_46 : decode cX7_reset 46 = .ok (.iinc 2 1, 3) := by decide +kernel
theorem dX7_reset_49 : decode cX7_reset 49 = .ok (.goto (-21), 3) := by decide +kernel
theorem dX7_reset_52 : decode cX7_reset 52 = .ok (.iconst 0, 1) := by decide +kernel
theorem dX7_reset_53 : decode cX7_reset 53 = .ok (.istore_n 2, 1) := by decide +kernel
theorem dX7_reset_54 : decode cX7_reset 54 = .ok (.iconst 1, 1) := by decide +kernel
theorem dX7_reset_55 : decode cX7_reset 55 = .ok (.istore_n 3, 1) := by decide +kernel
theorem dX7_reset_56 : decode cX7_reset 56 = .ok (.iload_n 3, 1) := by decide +kernel
theorem dX7_reset_57 : decode cX7_reset 57 = .ok (.aload_n 0, 1) := by decide +kernel
theorem dX7_reset_58 : decode cX7_reset 58 = .ok (.getfield 107, 3) := by decide +kernel
theorem dX7_reset_61 : decode cX7_reset 61 = .ok (.if_icmp .gt 39, 3) := by decide +kernel
theorem dX7_reset_64 : decode cX7_reset 64 = .ok (.aload_n 0, 1) := by decide +kernel
theorem dX7_reset_65 : decode cX7_reset 65 = .ok (.getfield 61, 3) := by decide +kernel
theorem dX7_reset_68 : decode cX7_reset 68 = .ok (.iload_n 1, 1) := by decide +kernel
theorem dX7_reset_69 : decode cX7_reset 69 = .ok (.iload_n 3, 1) := by decide +kernel
theorem dX7_reset_70 : decode cX7_reset 70 = .ok (.invokestatic 132, 3) := by decide +kernel
theorem dX7_reset_73 : decode cX7_reset 73 = .ok (.iaload, 1) := by decide +kernel
theorem dX7_reset_74 : decode cX7_reset 74 = .ok (.ifCond .ne 6, 3) := by decide +kernel
theorem dX7_reset_77 : decode cX7_reset 77 = .ok (.goto 17, 3) := by decide +kernel
theorem dX7_reset_80 : decode cX7_reset 80 = .ok (.aload_n 0, 1) := by decide +kernel
theorem dX7_reset_81 : decode cX7_reset 81 = .ok (.iload_n 1, 1) := by decide +kernel
theorem dX7_reset_82 : decode cX7_reset 82 = .ok (.iload_n 3, 1) := by decide +kernel
theorem dX7_reset_83 : decode cX7_reset 83 = .ok (.invokestatic 132, 3) := by decide +kernel
theorem dX7_reset_86 : decode cX7_reset 86 = .ok (.iload_n 3, 1) := by decide +kernel
theorem dX7_reset_87 : decode cX7_reset 87 = .ok (.iconst 0, 1) := by decide +kernel
theorem dX7_reset_88 : decode cX7_reset 88 = .ok (.invokevirtual 135, 3) := by decide +kernel
theorem dX7_reset_91 : decode cX7_reset 91 = .ok (.iinc 2 1, 3) := by decide +kernel
theorem dX7_reset_94 : decode cX7_reset 94 = .ok (.iinc 3 1, 3) := by decide +kernel
theorem dX7_reset_97 : decode cX7_reset 97 = .ok (.goto (-41), 3) := by decide +kernel
theorem dX7_reset_100 : decode cX7_reset 100 = .ok (.iload_n 2, 1) := by decide +kernel
theorem dX7_reset_101 : decode cX7_reset 101 = .ok (.ireturn, 1) := by decide +kernel
theorem dX7_fault_0 : decode cX7_fault 0 = .ok (.aload_n 0, 1) := by decide +kernel
theorem dX7_fault_1 : decode cX7_fault 1 = .ok (.iconst 0, 1) := by decide +kernel
theorem dX7_fault_2 : decode cX7_fault 2 = .ok (.putfield 90, 3) := by decide +kernel
theorem dX7_fault_5 : decode cX7_fault 5 = .ok (.aload_n 0, 1) := by decide +kernel
theorem dX7_fault_6 : decode cX7_fault 6 = .ok (.iload_n 1, 1) := by decide +kernel
theorem dX7_fault_7 : decode cX7_fault 7 = .ok (.invokevirtual 126, 3) := by decide +kernel
theorem dX7_fault_10 : decode cX7_fault 10 = .ok (.ifCond .ne 9, 3) := by decide +kernel
theorem dX7_fault_13 : decode cX7_fault 13 = .ok (.aload_n 0, 1) := by decide +kernel
theorem dX7_fault_14 : decode cX7_fault 14 = .ok (.iconst (-1), 1) := by decide +kernel
theorem dX7_fault_15 : decode cX7_fault 15 = .ok (.invokevirtual 100, 3) := by decide +kernel
theorem dX7_fault_18 : decode cX7_fault 18 = .ok (.ireturn, 1) := by decide +kernel
theorem dX7_fault_19 : decode cX7_fault 19 = .ok (.iload_n 2, 1) := by decide +kernel
theorem dX7_fault_20 : decode cX7_fault 20 = .ok (.tableswitch 90 0 5 #[40, 47, 54, 61, 68, 75], 40) := by decide +kernel
theorem dX7_fault_60 : decode cX7_fault 60 = .ok (.aload_n 0, 1) := by decide +kernel
theorem dX7_fault_61 : decode cX7_fault 61 = .ok (.getfield 46, 3) := by decide +kernel
theorem dX7_fault_64 : decode cX7_fault 64 = .ok (.iload_n 1, 1) := by decide +kernel
theorem dX7_fault_65 : decode cX7_fault 65 = .ok (.iaload, 1) := by decide +kernel
theorem dX7_fault_66 : decode cX7_fault 66 = .ok (.ireturn, 1) := by decide +kernel
theorem dX7_fault_67 : decode cX7_fault 67 = .ok (.aload_n 0, 1) := by decide +kernel
theorem dX7_fault_68 : decode cX7_fault 68 = .ok (.getfield 49, 3) := by decide +kernel
theorem dX7_fault_71 : decode cX7_fault 71 = .ok (.iload_n 1, 1) := by decide +kernel
theorem dX7_fault_72 : decode cX7_fault 72 = .ok (.iaload, 1) := by decide +kernel
theorem dX7_fault_73 : decode cX7_fault 73 = .ok (.ireturn, 1) := by decide +kernel
theorem dX7_fault_74 : decode cX7_fault 74 = .ok (.aload_n 0, 1) := by decide +kernel
theorem dX7_fault_75 : decode cX7_fault 75 = .ok (.getfield 52, 3) := by decide +kernel
theorem dX7_fault_78 : decode cX7_fault 78 = .ok (.iload_n 1, 1) := by decide +kernel
theorem dX7_fault_79 : decode cX7_fault 79 = .ok (.iaload, 1) := by decide +kernel
theorem dX7_fault_80 : decode cX7_fault 80 = .ok (.ireturn, 1) := by decide +kernel
theorem dX7_fault_81 : decode cX7_fault 81 = .ok (.aload_n 0, 1) := by decide +kernel
theorem dX7_fault_82 : decode cX7_fault 82 = .ok (.getfield 55, 3) := by decide +kernel
theorem dX7_fault_85 : decode cX7_fault 85 = .ok (.iload_n 1, 1) := by decide +kernel
theorem dX7_fault_86 : decode cX7_fault 86 = .ok (.iaload, 1) := by decide +kernel
theorem dX7_fault_87 : decode cX7_fault 87 = .ok (.ireturn, 1) := by decide +kernel
theorem dX7_fault_88 : decode cX7_fault 88 = .ok (.aload_n 0, 1) := by decide +kernel
theorem dX7_fault_89 : decode cX7_fault 89 = .ok (.getfield 58, 3) := by decide +kernel
theorem dX7_fault_92 : decode cX7_fault 92 = .ok (.iload_n 1, 1) := by decide +kernel
theorem dX7_fault_93 : decode cX7_fault 93 = .ok (.iaload, 1) := by decide +kernel
theorem dX7_fault_94 : decode cX7_fault 94 = .ok (.ireturn, 1) := by decide +kernel
theorem dX7_fault_95 : decode cX7_fault 95 = .ok (.aload_n 0, 1) := by decide +kernel
theorem dX7_fault_96 : decode cX7_fault 96 = .ok (.getfield 39, 3) := by decide +kernel
theorem dX7_fault_99 : decode cX7_fault 99 = .ok (.iload_n 1, 1) := by decide +kernel
theorem dX7_fault_100 : decode cX7_fault 100 = .ok (.baload, 1) := by decide +kernel
theorem dX7_fault_101 : decode cX7_fault 101 = .ok (.ifCond .eq 7, 3) := by decide +kernel
theorem dX7_fault_104 : decode cX7_fault 104 = .ok (.iconst 1, 1) := by decide +kernel
theorem dX7_fault_105 : decode cX7_fault 105 = .ok (.goto 4, 3) := by decide +kernel
theorem dX7_fault_108 : decode cX7_fault 108 = .ok (.iconst 0, 1) := by decide +kernel
theorem dX7_fault_109 : decode cX7_fault 109 = .ok (.ireturn, 1) := by decide +kernel
theorem dX7_fault_110 : decode cX7_fault 110 = .ok (.aload_n 0, 1) := by decide +kernel
theorem dX7_fault_111 : decode cX7_fault 111 = .ok (.bipush (-2), 2) := by decide +kernel
theorem dX7_fault_113 : decode cX7_fault 113 = .ok (.invokevirtual 100, 3) := by decide +kernel
theorem dX7_fault_116 : decode cX7_fault 116 = .ok (.ireturn, 1) := by decide +kernel
theorem dX7_same_0 : decode cX7_same 0 = .ok (.aload_n 0, 1) := by decide +kernel
theorem dX7_same_1 : decode cX7_same 1 = .ok (.iconst 0, 1) := by decide +kernel
theorem dX7_same_2 : decode cX7_same 2 = .ok (.putfield 90, 3) := by decide +kernel
theorem dX7_same_5 : decode cX7_same 5 = .ok (.aload_n 0, 1) := by decide +kernel
theorem dX7_same_6 : decode cX7_same 6 = .ok (.iload_n 1, 1) := by decide +kernel
theorem dX7_same_7 : decode cX7_same 7 = .ok (.iload_n 3, 1) := by decide +kernel
theorem dX7_same_8 : decode cX7_same 8 = .ok (.invokevirtual 184, 3) := by decide +kernel
theorem dX7_same_11 : decode cX7_same 11 = .ok (.ifCond .eq 12, 3) := by decide +kernel
theorem dX7_same_14 : decode cX7_same 14 = .ok (.aload_n 0, 1) := by decide +kernel
theorem dX7_same_15 : decode cX7_same 15 = .ok (.iload_n 2, 1) := by decide +kernel
theorem dX7_same_16 : decode cX7_same 16 = .ok (.iload_n 3, 1) := by decide +kernel
theorem dX7_same_17 : decode cX7_same 17 = .ok (.invokevirtual 184, 3) := by decide +kernel
theorem dX7_same_20 : decode cX7_same 20 = .ok (.ifCond .ne 5, 3) := by decide +kernel
theorem dX7_same_23 : decode cX7_same 23 = .ok (.iconst 0, 1) := by decide +kernel
theorem dX7_same_24 : decode cX7_same 24 = .ok (.ireturn, 1) := by decide +kernel
theorem dX7_same_25 : decode cX7_same 25 = .ok (.iload_n 1, 1) := by decide +kernel
theorem dX7_same_26 : decode cX7_same 26 = .ok (.iload_n 3, 1) := by decide +kernel
theorem dX7_same_27 : decode cX7_same 27 = .ok (.invokestatic 132, 3) := by decide +kernel
theorem dX7_same_30 : decode cX7_same 30 = .ok (.istore 4, 2) := by decide +kernel
theorem dX7_same_32 : decode cX7_same 32 = .ok (.iload_n 2, 1) := by decide +kernel
theorem dX7_same_33 : decode cX7_same 33 = .ok (.iload_n 3, 1) := by decide +kernel
theorem dX7_same_34 : decode cX7_same 34 = .ok (.invokestatic 132, 3) := by decide +kernel
theorem dX7_same_37 : decode cX7_same 37 = .ok (.istore 5, 2) := by decide +kernel
theorem dX7_same_39 : decode cX7_same 39 = .ok (.aload_n 0, 1) := by decide +kernel
theorem dX7_same_40 : decode cX7_same 40 = .ok (.getfield 61, 3) := by decide +kernel
theorem dX7_same_43 : decode cX7_same 43 = .ok (.iload 4, 2) := by decide +kernel
theorem dX7_same_45 : decode cX7_same 45 = .ok (.iaload, 1) := by decide +kernel
theorem dX7_same_46 : decode cX7_same 46 = .ok (.aload_n 0, 1) := by decide +kernel
theorem dX7_same_47 : decode cX7_same 47 = .ok (.getfield 61, 3) := by decide +kernel
theorem dX7_same_50 : decode cX7_same 50 = .ok (.iload 5, 2) := by decide +kernel
theorem dX7_same_52 : decode cX7_same 52 = .ok (.iaload, 1) := by decide +kernel
theorem dX7_same_53 : decode cX7_same 53 = .ok (.if_icmp .ne 7, 3) := by decide +kernel
theorem dX7_same_56 : decode cX7_same 56 = .ok (.iconst 1, 1) := by decide +kernel
theorem dX7_same_57 : decode cX7_same 57 = .ok (.goto 4, 3) := by decide +kernel
theorem dX7_same_60 : decode cX7_same 60 = .ok (.iconst 0, 1) := by decide +kernel
theorem dX7_same_61 : decode cX7_same 61 = .ok (.istore 6, 2) := by decide +kernel
theorem dX7_same_63 : decode cX7_same 63 = .ok (.iconst 0, 1) := by decide +kernel
theorem dX7_same_64 : decode cX7_same 64 = .ok (.istore 7, 2) := by decide +kernel
theorem dX7_same_66 : decode cX7_same 66 = .ok (.iload 7, 2) := by decide +kernel
theorem dX7_same_68 : decode cX7_same 68 = .ok (.bipush 8, 2) := by decide +kernel
theorem dX7_same_70 : decode cX7_same 70 = .ok (.if_icmp .ge 51, 3) := by decide +kernel
theorem dX7_same_73 : decode cX7_same 73 = .ok (.iload 6, 2) := by decide +kernel
theorem dX7_same_75 : decode cX7_same 75 = .ok (.ifCond .eq 37, 3) := by decide +kernel
theorem dX7_same_78 : decode cX7_same 78 = .ok (.aload_n 0, 1) := by decide +kernel
theorem dX7_same_79 : decode cX7_same 79 = .ok (.getfield 64, 3) := by decide +kernel
theorem dX7_same_82 : decode cX7_same 82 = .ok (.bipush 8, 2) := by decide +kernel
theorem dX7_same_84 : decode cX7_same 84 = .ok (.iload 4, 2) := by decide +kernel
theorem dX7_same_86 : decode cX7_same 86 = .ok (.imul, 1) := by decide +kernel
theorem dX7_same_87 : decode cX7_same 87 = .ok (.iload 7, 2) := by decide +kernel
theorem dX7_same_89 : decode cX7_same 89 = .ok (.iadd, 1) := by decide +kernel
theorem dX7_same_90 : decode cX7_same 90 = .ok (.laload, 1) := by decide +kernel
theorem dX7_same_91 : decode cX7_same 91 = .ok (.aload_n 0, 1) := by decide +kernel
theorem dX7_same_92 : decode cX7_same 92 = .ok (.getfield 64, 3) := by decide +kernel
theorem dX7_same_95 : decode cX7_same 95 = .ok (.bipush 8, 2) := by decide +kernel
theorem dX7_same_97 : decode cX7_same 97 = .ok (.iload 5, 2) := by decide +kernel
theorem dX7_same_99 : decode cX7_same 99 = .ok (.imul, 1) := by decide +kernel
theorem dX7_same_100 : decode cX7_same 100 = .ok (.iload 7, 2) := by decide +kernel
theorem dX7_same_102 : decode cX7_same 102 = .ok (.iadd, 1) := by decide +kernel
theorem dX7_same_103 : decode cX7_same 103 = .ok (.laload, 1) := by decide +kernel
theorem dX7_same_104 : decode cX7_same 104 = .ok (.lcmp, 1) := by decide +kernel
theorem dX7_same_105 : decode cX7_same 105 = .ok (.ifCond .ne 7, 3) := by decide +kernel
theorem dX7_same_108 : decode cX7_same 108 = .ok (.iconst 1, 1) := by decide +kernel
theorem dX7_same_109 : decode cX7_same 109 = .ok (.goto 4, 3) := by decide +kernel
theorem dX7_same_112 : decode cX7_same 112 = .ok (.iconst 0, 1) := by decide +kernel
theorem dX7_same_113 : decode cX7_same 113 = .ok (.istore 6, 2) := by decide +kernel
theorem dX7_same_115 : decode cX7_same 115 = .ok (.iinc 7 1, 3) := by decide +kernel
theorem dX7_same_118 : decode cX7_same 118 = .ok (.goto (-52), 3) := by decide +kernel
theorem dX7_same_121 : decode cX7_same 121 = .ok (.iload 6, 2) := by decide +kernel
theorem dX7_same_123 : decode cX7_same 123 = .ok (.ireturn, 1) := by decide +kernel
theorem dX7_handle_0 : decode cX7_handle 0 = .ok (.aload_n 0, 1) := by decide +kernel
theorem dX7_handle_1 : decode cX7_handle 1 = .ok (.iload_n 1, 1) := by decide +kernel
theorem dX7_handle_2 : decode cX7_handle 2 = .ok (.iload_n 2, 1) := by decide +kernel
theorem dX7_handle_3 : decode cX7_handle 3 = .ok (.invokevirtual 184, 3) := by decide +kernel
theorem dX7_handle_6 : decode cX7_handle 6 = .ok (.ifCond .eq 20, 3) := by decide +kernel
theorem dX7_handle_9 : decode cX7_handle 9 = .ok (.aload_n 0, 1) := by decide +kernel
theorem dX7_handle_10 : decode cX7_handle 10 = .ok (.getfield 70, 3) := by decide +kernel
theorem dX7_handle_13 : decode cX7_handle 13 = .ok (.iload_n 1, 1) := by decide +kernel
theorem dX7_handle_14 : decode cX7_handle 14 = .ok (.iload_n 2, 1) := by decide +kernel
theorem dX7_handle_15 : decode cX7_handle 15 = .ok (.invokestatic 132, 3) := by decide +kernel
theorem dX7_handle_18 : decode cX7_handle 18 = .ok (.iaload, 1) := by decide +kernel
theorem dX7_handle_19 : decode cX7_handle 19 = .ok (.ifCond .lt 7, 3) := by decide +kernel
theorem dX7_handle_22 : decode cX7_handle 22 = .ok (.iconst 1, 1) := by decide +kernel
theorem dX7_handle_23 : decode cX7_handle 23 = .ok (.goto 4, 3) := by decide +kernel
theorem dX7_handle_26 : decode cX7_handle 26 = .ok (.iconst 0, 1) := by decide +kernel
theorem dX7_handle_27 : decode cX7_handle 27 = .ok (.istore_n 3, 1) := by decide +kernel
theorem dX7_handle_28 : decode cX7_handle 28 = .ok (.aload_n 0, 1) := by decide +kernel
theorem dX7_handle_29 : decode cX7_handle 29 = .ok (.iload_n 3, 1) := by decide +kernel
theorem dX7_handle_30 : decode cX7_handle 30 = .ok (.ifCond .eq 7, 3) := by decide +kernel
theorem dX7_handle_33 : decode cX7_handle 33 = .ok (.iconst 1, 1) := by decide +kernel
theorem dX7_handle_34 : decode cX7_handle 34 = .ok (.goto 4, 3) := by decide +kernel
theorem dX7_handle_37 : decode cX7_handle 37 = .ok (.iconst 0, 1) := by decide +kernel
theorem dX7_handle_38 : decode cX7_handle 38 = .ok (.putfield 90, 3) := by decide +kernel
theorem dX7_handle_41 : decode cX7_handle 41 = .ok (.iload_n 3, 1) := by decide +kernel
theorem dX7_handle_42 : decode cX7_handle 42 = .ok (.ifCond .eq 5, 3) := by decide +kernel
theorem dX7_handle_45 : decode cX7_handle 45 = .ok (.iconst 0, 1) := by decide +kernel
theorem dX7_handle_46 : decode cX7_handle 46 = .ok (.ireturn, 1) := by decide +kernel
theorem dX7_handle_47 : decode cX7_handle 47 = .ok (.aload_n 0, 1) := by decide +kernel
theorem dX7_handle_48 : decode cX7_handle 48 = .ok (.aload_n 0, 1) := by decide +kernel
theorem dX7_handle_49 : decode cX7_handle 49 = .ok (.iload_n 1, 1) := by decide +kernel
theorem dX7_handle_50 : decode cX7_handle 50 = .ok (.invokevirtual 126, 3) := by decide +kernel
theorem dX7_handle_53 : decode cX7_handle 53 = .ok (.ifCond .eq 16, 3) := by decide +kernel
theorem dX7_handle_56 : decode cX7_handle 56 = .ok (.aload_n 0, 1) := by decide +kernel
theorem dX7_handle_57 : decode cX7_handle 57 = .ok (.iload_n 2, 1) := by decide +kernel
theorem dX7_handle_58 : decode cX7_handle 58 = .ok (.invokevirtual 129, 3) := by decide +kernel
theorem dX7_handle_61 : decode cX7_handle 61 = .ok (.ifCond .eq 8, 3) := by decide +kernel
theorem dX7_handle_64 : decode cX7_handle 64 = .ok (.bipush (-3), 2) := by decide +kernel
theorem dX7_handle_66 : decode cX7_handle 66 = .ok (.goto 4, 3) := by decide +kernel
theorem dX7_handle_69 : decode cX7_handle 69 = .ok (.iconst (-1), 1) := by decide +kernel
theorem dX7_handle_70 : decode cX7_handle 70 = .ok (.invokevirtual 100, 3) := by decide +kernel
theorem dX7_handle_73 : decode cX7_handle 73 = .ok (.ireturn, 1) := by decide +kernel
theorem dX7_octet_0 : decode cX7_octet 0 = .ok (.aload_n 0, 1) := by decide +kernel
theorem dX7_octet_1 : decode cX7_octet 1 = .ok (.aload_n 0, 1) := by decide +kernel
theorem dX7_octet_2 : decode cX7_octet 2 = .ok (.iload_n 1, 1) := by decide +kernel
theorem dX7_octet_3 : decode cX7_octet 3 = .ok (.invokevirtual 129, 3) := by decide +kernel
theorem dX7_octet_6 : decode cX7_octet 6 = .ok (.ifCond .eq 30, 3) := by decide +kernel
theorem dX7_octet_9 : decode cX7_octet 9 = .ok (.iload_n 2, 1) := by decide +kernel
theorem dX7_octet_10 : decode cX7_octet 10 = .ok (.ifCond .lt 26, 3) := by decide +kernel
theorem dX7_octet_13 : decode cX7_octet 13 = .ok (.iload_n 2, 1) := by decide +kernel
theorem dX7_octet_14 : decode cX7_octet 14 = .ok (.aload_n 0, 1) := by decide +kernel
theorem dX7_octet_15 : decode cX7_octet 15 = .ok (.getfield 20, 3) := by decide +kernel
theorem dX7_octet_18 : decode cX7_octet 18 = .ok (.iload_n 1, 1) := by decide +kernel
theorem dX7_octet_19 : decode cX7_octet 19 = .ok (.aload_n 0, 1) := by decide +kernel
theorem dX7_octet_20 : decode cX7_octet 20 = .ok (.getfield 13, 3) := by decide +kernel
theorem dX7_octet_23 : decode cX7_octet 23 = .ok (.iload_n 1, 1) := by decide +kernel
theorem dX7_octet_24 : decode cX7_octet 24 = .ok (.iaload, 1) := by decide +kernel
theorem dX7_octet_25 : decode cX7_octet 25 = .ok (.invokestatic 118, 3) := by decide +kernel
theorem dX7_octet_28 : decode cX7_octet 28 = .ok (.iaload, 1) := by decide +kernel
theorem dX7_octet_29 : decode cX7_octet 29 = .ok (.if_icmp .ge 7, 3) := by decide +kernel
theorem dX7_octet_32 : decode cX7_octet 32 = .ok (.iconst 0, 1) := by decide +kernel
theorem dX7_octet_33 : decode cX7_octet 33 = .ok (.goto 4, 3) := by decide +kernel
theorem dX7_octet_36 : decode cX7_octet 36 = .ok (.iconst 1, 1) := by decide +kernel
theorem dX7_octet_37 : decode cX7_octet 37 = .ok (.putfield 90, 3) := by decide +kernel
theorem dX7_octet_40 : decode cX7_octet 40 = .ok (.aload_n 0, 1) := by decide +kernel
theorem dX7_octet_41 : decode cX7_octet 41 = .ok (.getfield 90, 3) := by decide +kernel
theorem dX7_octet_44 : decode cX7_octet 44 = .ok (.ifCond .le 7, 3) := by decide +kernel
theorem dX7_octet_47 : decode cX7_octet 47 = .ok (.iconst 0, 1) := by decide +kernel
theorem dX7_octet_48 : decode cX7_octet 48 = .ok (.goto 23, 3) := by decide +kernel
theorem dX7_octet_51 : decode cX7_octet 51 = .ok (.aload_n 0, 1) := by decide +kernel
theorem dX7_octet_52 : decode cX7_octet 52 = .ok (.getfield 17, 3) := by decide +kernel
theorem dX7_octet_55 : decode cX7_octet 55 = .ok (.bipush 120, 2) := by decide +kernel
theorem dX7_octet_57 : decode cX7_octet 57 = .ok (.iload_n 1, 1) := by decide +kernel
theorem dX7_octet_58 : decode cX7_octet 58 = .ok (.aload_n 0, 1) := by decide +kernel
theorem dX7_octet_59 : decode cX7_octet 59 = .ok (.getfield 13, 3) := by decide +kernel
theorem dX7_octet_62 : decode cX7_octet 62 = .ok (.iload_n 1, 1) := by decide +kernel
theorem dX7_octet_63 : decode cX7_octet 63 = .ok (.iaload, 1) := by decide +kernel
theorem dX7_octet_64 : decode cX7_octet 64 = .ok (.invokestatic 118, 3) := by decide +kernel
theorem dX7_octet_67 : decode cX7_octet 67 = .ok (.imul, 1) := by decide +kernel
theorem dX7_octet_68 : decode cX7_octet 68 = .ok (.iload_n 2, 1) := by decide +kernel
theorem dX7_octet_69 : decode cX7_octet 69 = .ok (.iadd, 1) := by decide +kernel
theorem dX7_octet_70 : decode cX7_octet 70 = .ok (.baload, 1) := by decide +kernel
theorem dX7_octet_71 : decode cX7_octet 71 = .ok (.ireturn, 1) := by decide +kernel
theorem dX7_divide_0 : decode cX7_divide 0 = .ok (.aload_n 0, 1) := by decide +kernel
theorem dX7_divide_1 : decode cX7_divide 1 = .ok (.lload_n 3, 1) := by decide +kernel
theorem dX7_divide_2 : decode cX7_divide 2 = .ok (.lconst 0, 1) := by decide +kernel
theorem dX7_divide_3 : decode cX7_divide 3 = .ok (.lcmp, 1) := by decide +kernel
theorem dX7_divide_4 : decode cX7_divide 4 = .ok (.ifCond .ne 7, 3) := by decide +kernel
theorem dX7_divide_7 : decode cX7_divide 7 = .ok (.iconst 1, 1) := by decide +kernel
theorem dX7_divide_8 : decode cX7_divide 8 = .ok (.goto 4, 3) := by decide +kernel
theorem dX7_divide_11 : decode cX7_divide 11 = .ok (.iconst 0, 1) := by decide +kernel
theorem dX7_divide_12 : decode cX7_divide 12 = .ok (.putfield 90, 3) := by decide +kernel
theorem dX7_divide_15 : decode cX7_divide 15 = .ok (.aload_n 0, 1) := by decide +kernel
theorem dX7_divide_16 : decode cX7_divide 16 = .ok (.getfield 90, 3) := by decide +kernel
theorem dX7_divide_19 : decode cX7_divide 19 = .ok (.ifCond .le 7, 3) := by decide +kernel
theorem dX7_divide_22 : decode cX7_divide 22 = .ok (.lconst 0, 1) := by decide +kernel
theorem dX7_divide_23 : decode cX7_divide 23 = .ok (.goto 6, 3) := by decide +kernel
theorem dX7_divide_26 : decode cX7_divide 26 = .ok (.lload_n 1, 1) := by decide +kernel
theorem dX7_divide_27 : decode cX7_divide 27 = .ok (.lload_n 3, 1) := by decide +kernel
theorem dX7_divide_28 : decode cX7_divide 28 = .ok (.ldiv, 1) := by decide +kernel
theorem dX7_divide_29 : decode cX7_divide 29 = .ok (.lreturn, 1) := by decide +kernel
theorem dX7_refused_0 : decode cX7_refused 0 = .ok (.aload_n 0, 1) := by decide +kernel
theorem dX7_refused_1 : decode cX7_refused 1 = .ok (.iconst 0, 1) := by decide +kernel
theorem dX7_refused_2 : decode cX7_refused 2 = .ok (.putfield 90, 3) := by decide +kernel
theorem dX7_refused_5 : decode cX7_refused 5 = .ok (.aload_n 0, 1) := by decide +kernel
theorem dX7_refused_6 : decode cX7_refused 6 = .ok (.getfield 93, 3) := by decide +kernel
theorem dX7_refused_9 : decode cX7_refused 9 = .ok (.ireturn, 1) := by decide +kernel
theorem dJx00060_init_a7421_0 : decode cJx00060_init_a7421 0 = .ok (.aload_n 0, 1) := by decide +kernel
theorem dJx00060_init_a7421_1 : decode cJx00060_init_a7421 1 = .ok (.aload_n 1, 1) := by decide +kernel
theorem dJx00060_init_a7421_2 : decode cJx00060_init_a7421 2 = .ok (.invokespecial 7, 3) := by decide +kernel
theorem dJx00060_init_a7421_5 : decode cJx00060_init_a7421 5 = .ok (.return_, 1) := by decide +kernel
theorem dJx29ce0_ordinal_8abf5_0 : decode cJx29ce0_ordinal_8abf5 0 = .ok (.aload_n 0, 1) := by decide +kernel
theorem dJx29ce0_ordinal_8abf5_1 : decode cJx29ce0_ordinal_8abf5 1 = .ok (.getfield 7, 3) := by decide +kernel
theorem dJx29ce0_ordinal_8abf5_4 : decode cJx29ce0_ordinal_8abf5 4 = .ok (.ireturn, 1) := by decide +kernel
theorem dJ9_max_7cf53_0 : decode cJ9_max_7cf53 0 = .ok (.iload_n 0, 1) := by decide +kernel
theorem dJ9_max_7cf53_1 : decode cJ9_max_7cf53 1 = .ok (.iload_n 1, 1) := by decide +kernel
theorem dJ9_max_7cf53_2 : decode cJ9_max_7cf53 2 = .ok (.if_icmp .lt 7, 3) := by decide +kernel
theorem dJ9_max_7cf53_5 : decode cJ9_max_7cf53 5 = .ok (.iload_n 0, 1) := by decide +kernel
theorem dJ9_max_7cf53_6 : decode cJ9_max_7cf53 6 = .ok (.goto 4, 3) := by decide +kernel
theorem dJ9_max_7cf53_9 : decode cJ9_max_7cf53 9 = .ok (.iload_n 1, 1) := by decide +kernel
theorem dJ9_max_7cf53_10 : decode cJ9_max_7cf53 10 = .ok (.ireturn, 1) := by decide +kernel
theorem dJ9_min_7cf53_0 : decode cJ9_min_7cf53 0 = .ok (.iload_n 0, 1) := by decide +kernel
theorem dJ9_min_7cf53_1 : decode cJ9_min_7cf53 1 = .ok (.iload_n 1, 1) := by decide +kernel
theorem dJ9_min_7cf53_2 : decode cJ9_min_7cf53 2 = .ok (.if_icmp .gt 7, 3) := by decide +kernel
theorem dJ9_min_7cf53_5 : decode cJ9_min_7cf53 5 = .ok (.iload_n 0, 1) := by decide +kernel
theorem dJ9_min_7cf53_6 : decode cJ9_min_7cf53 6 = .ok (.goto 4, 3) := by decide +kernel
theorem dJ9_min_7cf53_9 : decode cJ9_min_7cf53 9 = .ok (.iload_n 1, 1) := by decide +kernel
theorem dJ9_min_7cf53_10 : decode cJ9_min_7cf53 10 = .ok (.ireturn, 1) := by decide +kernel
theorem dJ7_fill_d0a16_0 : decode cJ7_fill_d0a16 0 = .ok (.iconst 0, 1) := by decide +kernel
theorem dJ7_fill_d0a16_1 : decode cJ7_fill_d0a16 1 = .ok (.istore_n 3, 1) := by decide +kernel
theorem dJ7_fill_d0a16_2 : decode cJ7_fill_d0a16 2 = .ok (.aload_n 0, 1) := by decide +kernel
theorem dJ7_fill_d0a16_3 : decode cJ7_fill_d0a16 3 = .ok (.arraylength, 1) := by decide +kernel
theorem dJ7_fill_d0a16_4 : decode cJ7_fill_d0a16 4 = .ok (.istore 4, 2) := by decide +kernel
theorem dJ7_fill_d0a16_6 : decode cJ7_fill_d0a16 6 = .ok (.iload_n 3, 1) := by decide +kernel
theorem dJ7_fill_d0a16_7 : decode cJ7_fill_d0a16 7 = .ok (.iload 4, 2) := by decide +kernel
theorem dJ7_fill_d0a16_9 : decode cJ7_fill_d0a16 9 = .ok (.if_icmp .ge 13, 3) := by decide +kernel
theorem dJ7_fill_d0a16_12 : decode cJ7_fill_d0a16 12 = .ok (.aload_n 0, 1) := by decide +kernel
theorem dJ7_fill_d0a16_13 : decode cJ7_fill_d0a16 13 = .ok (.iload_n 3, 1) := by decide +kernel
theorem dJ7_fill_d0a16_14 : decode cJ7_fill_d0a16 14 = .ok (.lload_n 1, 1) := by decide +kernel
theorem dJ7_fill_d0a16_15 : decode cJ7_fill_d0a16 15 = .ok (.lastore, 1) := by decide +kernel
theorem dJ7_fill_d0a16_16 : decode cJ7_fill_d0a16 16 = .ok (.iinc 3 1, 3) := by decide +kernel
theorem dJ7_fill_d0a16_19 : decode cJ7_fill_d0a16 19 = .ok (.goto (-13), 3) := by decide +kernel
theorem dJ7_fill_d0a16_22 : decode cJ7_fill_d0a16 22 = .ok (.return_, 1) := by decide +kernel
theorem dJ7_checkLength_df160_0 : decode cJ7_checkLength_df160 0 = .ok (.iload_n 1, 1) := by decide +kernel
theorem dJ7_checkLength_df160_1 : decode cJ7_checkLength_df160 1 = .ok (.iload_n 0, 1) := by decide +kernel
theorem dJ7_checkLength_df160_2 : decode cJ7_checkLength_df160 2 = .ok (.if_icmp .ge 35, 3) := by decide +kernel
theorem dJ7_checkLength_df160_5 : decode cJ7_checkLength_df160 5 = .ok (.new 43, 3) := by decide +kernel
theorem dJ7_checkLength_df160_8 : decode cJ7_checkLength_df160 8 = .ok (.dup, 1) := by decide +kernel
theorem dJ7_checkLength_df160_9 : decode cJ7_checkLength_df160 9 = .ok (.new 45, 3) := by decide +kernel
theorem dJ7_checkLength_df160_12 : decode cJ7_checkLength_df160 12 = .ok (.dup, 1) := by decide +kernel
theorem dJ7_checkLength_df160_13 : decode cJ7_checkLength_df160 13 = .ok (.invokespecial 47, 3) := by decide +kernel
theorem dJ7_checkLength_df160_16 : decode cJ7_checkLength_df160 16 = .ok (.iload_n 0, 1) := by decide +kernel
theorem dJ7_checkLength_df160_17 : decode cJ7_checkLength_df160 17 = .ok (.invokevirtual 54, 3) := by decide +kernel
theorem dJ7_checkLength_df160_20 : decode cJ7_checkLength_df160 20 = .ok (.ldc_w 337, 3) := by decide +kernel
theorem dJ7_checkLength_df160_23 : decode cJ7_checkLength_df160 23 = .ok (.invokevirtual 50, 3) := by decide +kernel
theorem dJ7_checkLength_df160_26 : decode cJ7_checkLength_df160 26 = .ok (.iload_n 1, 1) := by decide +kernel
theorem dJ7_checkLength_df160_27 : decode cJ7_checkLength_df160 27 = .ok (.invokevirtual 54, 3) := by decide +kernel
theorem dJ7_checkLength_df160_30 : decode cJ7_checkLength_df160 30 = .ok (.invokevirtual 61, 3) := by decide +kernel
theorem dJ7_checkLength_df160_33 : decode cJ7_checkLength_df160 33 = .ok (.invokespecial 65, 3) := by decide +kernel
theorem dJ7_checkLength_df160_36 : decode cJ7_checkLength_df160 36 = .ok (.athrow, 1) := by decide +kernel
theorem dJ7_checkLength_df160_37 : decode cJ7_checkLength_df160 37 = .ok (.return_, 1) := by decide +kernel
theorem dJ7_copyOfRange_39247_0 : decode cJ7_copyOfRange_39247 0 = .ok (.iload_n 1, 1) := by decide +kernel
theorem dJ7_copyOfRange_39247_1 : decode cJ7_copyOfRange_39247 1 = .ok (.ifCond .ne 9, 3) := by decide +kernel
theorem dJ7_copyOfRange_39247_4 : decode cJ7_copyOfRange_39247 4 = .ok (.iload_n 2, 1) := by decide +kernel
theorem dJ7_copyOfRange_39247_5 : decode cJ7_copyOfRange_39247 5 = .ok (.aload_n 0, 1) := by decide +kernel
theorem dJ7_copyOfRange_39247_6 : decode cJ7_copyOfRange_39247 6 = .ok (.arraylength, 1) := by decide +kernel
theorem dJ7_copyOfRange_39247_7 : decode cJ7_copyOfRange_39247 7 = .ok (.if_icmp .eq 10, 3) := by decide +kernel
theorem dJ7_copyOfRange_39247_10 : decode cJ7_copyOfRange_39247 10 = .ok (.aload_n 0, 1) := by decide +kernel
theorem dJ7_copyOfRange_39247_11 : decode cJ7_copyOfRange_39247 11 = .ok (.iload_n 1, 1) := by decide +kernel
theorem dJ7_copyOfRange_39247_12 : decode cJ7_copyOfRange_39247 12 = .ok (.iload_n 2, 1) := by decide +kernel
theorem dJ7_copyOfRange_39247_13 : decode cJ7_copyOfRange_39247 13 = .ok (.invokestatic 339, 3) := by decide +kernel
theorem dJ7_copyOfRange_39247_16 : decode cJ7_copyOfRange_39247 16 = .ok (.areturn, 1) := by decide +kernel
theorem dJ7_copyOfRange_39247_17 : decode cJ7_copyOfRange_39247 17 = .ok (.aload_n 0, 1) := by decide +kernel
theorem dJ7_copyOfRange_39247_18 : decode cJ7_copyOfRange_39247 18 = .ok (.invokevirtual 310, 3) := by decide +kernel
theorem dJ7_copyOfRange_39247_21 : decode cJ7_copyOfRange_39247 21 = .ok (.checkcast 311, 3) := by decide +kernel
theorem dJ7_copyOfRange_39247_24 : decode cJ7_copyOfRange_39247 24 = .ok (.areturn, 1) := by decide +kernel
theorem dJ7_copyOfRangeByte_39247_0 : decode cJ7_copyOfRangeByte_39247 0 = .ok (.iload_n 1, 1) := by decide +kernel
theorem dJ7_copyOfRangeByte_39247_1 : decode cJ7_copyOfRangeByte_39247 1 = .ok (.iload_n 2, 1) := by decide +kernel
theorem dJ7_copyOfRangeByte_39247_2 : decode cJ7_copyOfRangeByte_39247 2 = .ok (.invokestatic 343, 3) := by decide +kernel
theorem dJ7_copyOfRangeByte_39247_5 : decode cJ7_copyOfRangeByte_39247 5 = .ok (.iload_n 2, 1) := by decide +kernel
theorem dJ7_copyOfRangeByte_39247_6 : decode cJ7_copyOfRangeByte_39247 6 = .ok (.iload_n 1, 1) := by decide +kernel
theorem dJ7_copyOfRangeByte_39247_7 : decode cJ7_copyOfRangeByte_39247 7 = .ok (.isub, 1) := by decide +kernel
theorem dJ7_copyOfRangeByte_39247_8 : decode cJ7_copyOfRangeByte_39247 8 = .ok (.istore_n 3, 1) := by decide +kernel
theorem dJ7_copyOfRangeByte_39247_9 : decode cJ7_copyOfRangeByte_39247 9 = .ok (.iload_n 3, 1) := by decide +kernel
theorem dJ7_copyOfRangeByte_39247_10 : decode cJ7_copyOfRangeByte_39247 10 = .ok (.newarray .byte, 2) := by decide +kernel
theorem dJ7_copyOfRangeByte_39247_12 : decode cJ7_copyOfRangeByte_39247 12 = .ok (.astore 4, 2) := by decide +kernel
theorem dJ7_copyOfRangeByte_39247_14 : decode cJ7_copyOfRangeByte_39247 14 = .ok (.aload_n 0, 1) := by decide +kernel
theorem dJ7_copyOfRangeByte_39247_15 : decode cJ7_copyOfRangeByte_39247 15 = .ok (.iload_n 1, 1) := by decide +kernel
theorem dJ7_copyOfRangeByte_39247_16 : decode cJ7_copyOfRangeByte_39247 16 = .ok (.aload 4, 2) := by decide +kernel
theorem dJ7_copyOfRangeByte_39247_18 : decode cJ7_copyOfRangeByte_39247 18 = .ok (.iconst 0, 1) := by decide +kernel
theorem dJ7_copyOfRangeByte_39247_19 : decode cJ7_copyOfRangeByte_39247 19 = .ok (.aload_n 0, 1) := by decide +kernel
theorem dJ7_copyOfRangeByte_39247_20 : decode cJ7_copyOfRangeByte_39247 20 = .ok (.arraylength, 1) := by decide +kernel
theorem dJ7_copyOfRangeByte_39247_21 : decode cJ7_copyOfRangeByte_39247 21 = .ok (.iload_n 1, 1) := by decide +kernel
theorem dJ7_copyOfRangeByte_39247_22 : decode cJ7_copyOfRangeByte_39247 22 = .ok (.isub, 1) := by decide +kernel
theorem dJ7_copyOfRangeByte_39247_23 : decode cJ7_copyOfRangeByte_39247 23 = .ok (.iload_n 3, 1) := by decide +kernel
theorem dJ7_copyOfRangeByte_39247_24 : decode cJ7_copyOfRangeByte_39247 24 = .ok (.invokestatic 304, 3) := by decide +kernel
theorem dJ7_copyOfRangeByte_39247_27 : decode cJ7_copyOfRangeByte_39247 27 = .ok (.invokestatic 150, 3) := by decide +kernel
theorem dJ7_copyOfRangeByte_39247_30 : decode cJ7_copyOfRangeByte_39247 30 = .ok (.aload 4, 2) := by decide +kernel
theorem dJ7_copyOfRangeByte_39247_32 : decode cJ7_copyOfRangeByte_39247 32 = .ok (.areturn, 1) := by decide +kernel
end
section
theorem dL_cell_0 : decode cL_cell 0 = .ok (.iload_n 1, 1) := by decide +kernel
theorem dL_cell_1 : decode cL_cell 1 = .ok (.aload_n 0, 1) := by decide +kernel
theorem dL_cell_2 : decode cL_cell 2 = .ok (.arraylength, 1) := by decide +kernel
theorem dL_cell_3 : decode cL_cell 3 = .ok (.if_icmp .ge 9, 3) := by decide +kernel
theorem dL_cell_6 : decode cL_cell 6 = .ok (.aload_n 0, 1) := by decide +kernel
theorem dL_cell_7 : decode cL_cell 7 = .ok (.iload_n 1, 1) := by decide +kernel
theorem dL_cell_8 : decode cL_cell 8 = .ok (.iaload, 1) := by decide +kernel
theorem dL_cell_9 : decode cL_cell 9 = .ok (.goto 4, 3) := by decide +kernel
theorem dL_cell_12 : decode cL_cell 12 = .ok (.iconst 0, 1) := by decide +kernel
theorem dL_cell_13 : decode cL_cell 13 = .ok (.ireturn, 1) := by decide +kernel
theorem dL_handle_0 : decode cL_handle 0 = .ok (.aload_n 3, 1) := by decide +kernel
theorem dL_handle_1 : decode cL_handle 1 = .ok (.iconst 0, 1) := by decide +kernel
theorem dL_handle_2 : decode cL_handle 2 = .ok (.aload_n 0, 1) := by decide +kernel
theorem dL_handle_3 : decode cL_handle 3 = .ok (.iload_n 1, 1) := by decide +kernel
theorem dL_handle_4 : decode cL_handle 4 = .ok (.iload_n 2, 1) := by decide +kernel
theorem dL_handle_5 : decode cL_handle 5 = .ok (.invokevirtual 7, 3) := by decide +kernel
theorem dL_handle_8 : decode cL_handle 8 = .ok (.i2l, 1) := by decide +kernel
theorem dL_handle_9 : decode cL_handle 9 = .ok (.lastore, 1) := by decide +kernel
theorem dL_handle_10 : decode cL_handle 10 = .ok (.goto 7, 3) := by decide +kernel
theorem dL_handle_13 : decode cL_handle 13 = .ok (.astore 4, 2) := by decide +kernel
theorem dL_handle_15 : decode cL_handle 15 = .ok (.iconst 1, 1) := by decide +kernel
theorem dL_handle_16 : decode cL_handle 16 = .ok (.ireturn, 1) := by decide +kernel
theorem dL_handle_17 : decode cL_handle 17 = .ok (.iconst 0, 1) := by decide +kernel
theorem dL_handle_18 : decode cL_handle 18 = .ok (.ireturn, 1) := by decide +kernel
theorem dL_octet_0 : decode cL_octet 0 = .ok (.aload_n 3, 1) := by decide +kernel
theorem dL_octet_1 : decode cL_octet 1 = .ok (.iconst 0, 1) := by decide +kernel
theorem dL_octet_2 : decode cL_octet 2 = .ok (.aload_n 0, 1) := by decide +kernel
theorem dL_octet_3 : decode cL_octet 3 = .ok (.iload_n 1, 1) := by decide +kernel
theorem dL_octet_4 : decode cL_octet 4 = .ok (.iload_n 2, 1) := by decide +kernel
theorem dL_octet_5 : decode cL_octet 5 = .ok (.invokevirtual 15, 3) := by decide +kernel
theorem dL_octet_8 : decode cL_octet 8 = .ok (.i2l, 1) := by decide +kernel
theorem dL_octet_9 : decode cL_octet 9 = .ok (.lastore, 1) := by decide +kernel
theorem dL_octet_10 : decode cL_octet 10 = .ok (.goto 7, 3) := by decide +kernel
theorem dL_octet_13 : decode cL_octet 13 = .ok (.astore 4, 2) := by decide +kernel
theorem dL_octet_15 : decode cL_octet 15 = .ok (.iconst 1, 1) := by decide +kernel
theorem dL_octet_16 : decode cL_octet 16 = .ok (.ireturn, 1) := by decide +kernel
theorem dL_octet_17 : decode cL_octet 17 = .ok (.iconst 0, 1) := by decide +kernel
theorem dL_octet_18 : decode cL_octet 18 = .ok (.ireturn, 1) := by decide +kernel
theorem dL_divide_0 : decode cL_divide 0 = .ok (.aload 5, 2) := by decide +kernel
theorem dL_divide_2 : decode cL_divide 2 = .ok (.iconst 0, 1) := by decide +kernel
theorem dL_divide_3 : decode cL_divide 3 = .ok (.aload_n 0, 1) := by decide +kernel
theorem dL_divide_4 : decode cL_divide 4 = .ok (.lload_n 1, 1) := by decide +kernel
theorem dL_divide_5 : decode cL_divide 5 = .ok (.lload_n 3, 1) := by decide +kernel
theorem dL_divide_6 : decode cL_divide 6 = .ok (.invokevirtual 21, 3) := by decide +kernel
theorem dL_divide_9 : decode cL_divide 9 = .ok (.lastore, 1) := by decide +kernel
theorem dL_divide_10 : decode cL_divide 10 = .ok (.goto 7, 3) := by decide +kernel
theorem dL_divide_13 : decode cL_divide 13 = .ok (.astore 6, 2) := by decide +kernel
theorem dL_divide_15 : decode cL_divide 15 = .ok (.iconst 1, 1) := by decide +kernel
theorem dL_divide_16 : decode cL_divide 16 = .ok (.ireturn, 1) := by decide +kernel
theorem dL_divide_17 : decode cL_divide 17 = .ok (.iconst 0, 1) := by decide +kernel
theorem dL_divide_18 : decode cL_divide 18 = .ok (.ireturn, 1) := by decide +kernel
theorem dL_law_0 : decode cL_law 0 = .ok (.new 8, 3) := by decide +kernel
theorem dL_law_3 : decode cL_law 3 = .ok (.dup, 1) := by decide +kernel
theorem dL_law_4 : decode cL_law 4 = .ok (.aload_n 0, 1) := by decide +kernel
theorem dL_law_5 : decode cL_law 5 = .ok (.iconst 0, 1) := by decide +kernel
theorem dL_law_6 : decode cL_law 6 = .ok (.invokestatic 27, 3) := by decide +kernel
theorem dL_law_9 : decode cL_law 9 = .ok (.invokespecial 33, 3) := by decide +kernel
theorem dL_law_12 : decode cL_law 12 = .ok (.astore_n 1, 1) := by decide +kernel
theorem dL_law_13 : decode cL_law 13 = .ok (.new 36, 3) := by decide +kernel
theorem dL_law_16 : decode cL_law 16 = .ok (.dup, 1) := by decide +kernel
theorem dL_law_17 : decode cL_law 17 = .ok (.aload_n 0, 1) := by decide +kernel
theorem dL_law_18 : decode cL_law 18 = .ok (.iconst 0, 1) := by decide +kernel
theorem dL_law_19 : decode cL_law 19 = .ok (.invokestatic 27, 3) := by decide +kernel
theorem dL_law_22 : decode cL_law 22 = .ok (.invokespecial 38, 3) := by decide +kernel
theorem dL_law_25 : decode cL_law 25 = .ok (.astore_n 2, 1) := by decide +kernel
theorem dL_law_26 : decode cL_law 26 = .ok (.iconst 1, 1) := by decide +kernel
theorem dL_law_27 : decode cL_law 27 = .ok (.newarray .long, 2) := by decide +kernel
theorem dL_law_29 : decode cL_law 29 = .ok (.astore_n 3, 1) := by decide +kernel
theorem dL_law_30 : decode cL_law 30 = .ok (.iconst 1, 1) := by decide +kernel
theorem dL_law_31 : decode cL_law 31 = .ok (.istore 4, 2) := by decide +kernel
theorem dL_law_33 : decode cL_law 33 = .ok (.iload 4, 2) := by decide +kernel
theorem dL_law_35 : decode cL_law 35 = .ok (.aload_n 0, 1) := by decide +kernel
theorem dL_law_36 : decode cL_law 36 = .ok (.arraylength, 1) := by decide +kernel
theorem dL_law_37 : decode cL_law 37 = .ok (.iconst 5, 1) := by decide +kernel
theorem dL_law_38 : decode cL_law 38 = .ok (.isub, 1) := by decide +kernel
theorem dL_law_39 : decode cL_law 39 = .ok (.if_icmp .gt 967, 3) := by decide +kernel
theorem dL_law_42 : decode cL_law 42 = .ok (.aload_n 0, 1) := by decide +kernel
theorem dL_law_43 : decode cL_law 43 = .ok (.iload 4, 2) := by decide +kernel
theorem dL_law_45 : decode cL_law 45 = .ok (.iaload, 1) := by decide +kernel
theorem dL_law_46 : decode cL_law 46 = .ok (.bipush 31, 2) := by decide +kernel
theorem dL_law_48 : decode cL_law 48 = .ok (.iand, 1) := by decide +kernel
theorem dL_law_49 : decode cL_law 49 = .ok (.tableswitch 951 0 17 #[87, 156, 181, 218, 243, 280, 317, 355, 436, 486, 523, 560, 585, 622, 671, 739, 807, 938], 87) := by decide +kernel
theorem dL_law_136 : decode cL_law 136 = .ok (.aload_n 1, 1) := by decide +kernel
theorem dL_law_137 : decode cL_law 137 = .ok (.aload_n 0, 1) := by decide +kernel
theorem dL_law_138 : decode cL_law 138 = .ok (.iload 4, 2) := by decide +kernel
theorem dL_law_140 : decode cL_law 140 = .ok (.iconst 1, 1) := by decide +kernel
theorem dL_law_141 : decode cL_law 141 = .ok (.iadd, 1) := by decide +kernel
theorem dL_law_142 : decode cL_law 142 = .ok (.iaload, 1) := by decide +kernel
theorem dL_law_143 : decode cL_law 143 = .ok (.i2l, 1) := by decide +kernel
theorem dL_law_144 : decode cL_law 144 = .ok (.bipush 32, 2) := by decide +kernel
theorem dL_law_146 : decode cL_law 146 = .ok (.lshl, 1) := by decide +kernel
theorem dL_law_147 : decode cL_law 147 = .ok (.aload_n 0, 1) := by decide +kernel
theorem dL_law_148 : decode cL_law 148 = .ok (.iload 4, 2) := by decide +kernel
theorem dL_law_150 : decode cL_law 150 = .ok (.iconst 2, 1) := by decide +kernel
theorem dL_law_151 : decode cL_law 151 = .ok (.iadd, 1) := by decide +kernel
theorem dL_law_152 : decode cL_law 152 = .ok (.iaload, 1) := by decide +kernel
theorem dL_law_153 : decode cL_law 153 = .ok (.i2l, 1) := by decide +kernel
theorem dL_law_154 : decode cL_law 154 = .ok (.ldc2_w 39, 3) := by decide +kernel
theorem dL_law_157 : decode cL_law 157 = .ok (.land, 1) := by decide +kernel
theorem dL_law_158 : decode cL_law 158 = .ok (.lor, 1) := by decide +kernel
theorem dL_law_159 : decode cL_law 159 = .ok (.aload_n 0, 1) := by decide +kernel
theorem dL_law_160 : decode cL_law 160 = .ok (.iload 4, 2) := by decide +kernel
theorem dL_law_162 : decode cL_law 162 = .ok (.iconst 3, 1) := by decide +kernel
theorem dL_law_163 : decode cL_law 163 = .ok (.iadd, 1) := by decide +kernel
theorem dL_law_164 : decode cL_law 164 = .ok (.iaload, 1) := by decide +kernel
theorem dL_law_165 : decode cL_law 165 = .ok (.invokevirtual 41, 3) := by decide +kernel
theorem dL_law_168 : decode cL_law 168 = .ok (.aload_n 2, 1) := by decide +kernel
theorem dL_law_169 : decode cL_law 169 = .ok (.aload_n 0, 1) := by decide +kernel
theorem dL_law_170 : decode cL_law 170 = .ok (.iload 4, 2) := by decide +kernel
theorem dL_law_172 : decode cL_law 172 = .ok (.iconst 1, 1) := by decide +kernel
theorem dL_law_173 : decode cL_law 173 = .ok (.iadd, 1) := by decide +kernel
theorem dL_law_174 : decode cL_law 174 = .ok (.iaload, 1) := by decide +kernel
theorem dL_law_175 : decode cL_law 175 = .ok (.i2l, 1) := by decide +kernel
theorem dL_law_176 : decode cL_law 176 = .ok (.bipush 32, 2) := by decide +kernel
theorem dL_law_178 : decode cL_law 178 = .ok (.lshl, 1) := by decide +kernel
theorem dL_law_179 : decode cL_law 179 = .ok (.aload_n 0, 1) := by decide +kernel
theorem dL_law_180 : decode cL_law 180 = .ok (.iload 4, 2) := by decide +kernel
theorem dL_law_182 : decode cL_law 182 = .ok (.iconst 2, 1) := by decide +kernel
theorem dL_law_183 : decode cL_law 183 = .ok (.iadd, 1) := by decide +kernel
theorem dL_law_184 : decode cL_law 184 = .ok (.iaload, 1) := by decide +kernel
theorem dL_law_185 : decode cL_law 185 = .ok (.i2l, 1) := by decide +kernel
theorem dL_law_186 : decode cL_law 186 = .ok (.ldc2_w 39, 3) := by decide +kernel
theorem dL_law_189 : decode cL_law 189 = .ok (.land, 1) := by decide +kernel
theorem dL_law_190 : decode cL_law 190 = .ok (.lor, 1) := by decide +kernel
theorem dL_law_191 : decode cL_law 191 = .ok (.aload_n 0, 1) := by decide +kernel
theorem dL_law_192 : decode cL_law 192 = .ok (.iload 4, 2) := by decide +kernel
theorem dL_law_194 : decode cL_law 194 = .ok (.iconst 3, 1) := by decide +kernel
theorem dL_law_195 : decode cL_law 195 = .ok (.iadd, 1) := by decide +kernel
theorem dL_law_196 : decode cL_law 196 = .ok (.iaload, 1) := by decide +kernel
theorem dL_law_197 : decode cL_law 197 = .ok (.invokevirtual 45, 3) := by decide +kernel
theorem dL_law_200 : decode cL_law 200 = .ok (.if_icmp .eq 800, 3) := by decide +kernel
theorem dL_law_203 : decode cL_law 203 = .ok (.iconst 0, 1) := by decide +kernel
theorem dL_law_204 : decode cL_law 204 = .ok (.ireturn, 1) := by decide +kernel
theorem dL_law_205 : decode cL_law 205 = .ok (.aload_n 1, 1) := by decide +kernel
theorem dL_law_206 : decode cL_law 206 = .ok (.aload_n 0, 1) := by decide +kernel
theorem dL_law_207 : decode cL_law 207 = .ok (.iload 4, 2) := by decide +kernel
theorem dL_law_209 : decode cL_law 209 = .ok (.iconst 1, 1) := by decide +kernel
theorem dL_law_210 : decode cL_law 210 = .ok (.iadd, 1) := by decide +kernel
theorem dL_law_211 : decode cL_law 211 = .ok (.iaload, 1) := by decide +kernel
theorem dL_law_212 : decode cL_law 212 = .ok (.invokevirtual 46, 3) := by decide +kernel
theorem dL_law_215 : decode cL_law 215 = .ok (.aload_n 2, 1) := by decide +kernel
theorem dL_law_216 : decode cL_law 216 = .ok (.aload_n 0, 1) := by decide +kernel
theorem dL_law_217 : decode cL_law 217 = .ok (.iload 4, 2) := by decide +kernel
theorem dL_law_219 : decode cL_law 219 = .ok (.iconst 1, 1) := by decide +kernel
theorem dL_law_220 : decode cL_law 220 = .ok (.iadd, 1) := by decide +kernel
theorem dL_law_221 : decode cL_law 221 = .ok (.iaload, 1) := by decide +kernel
theorem dL_law_222 : decode cL_law 222 = .ok (.invokevirtual 50, 3) := by decide +kernel
theorem dL_law_225 : decode cL_law 225 = .ok (.if_icmp .eq 775, 3) := by decide +kernel
theorem dL_law_228 : decode cL_law 228 = .ok (.iconst 0, 1) := by decide +kernel
theorem dL_law_229 : decode cL_law 229 = .ok (.ireturn, 1) := by decide +kernel
theorem dL_law_230 : decode cL_law 230 = .ok (.aload_n 1, 1) := by decide +kernel
theorem dL_law_231 : decode cL_law 231 = .ok (.aload_n 0, 1) := by decide +kernel
theorem dL_law_232 : decode cL_law 232 = .ok (.iload 4, 2) := by decide +kernel
theorem dL_law_234 : decode cL_law 234 = .ok (.iconst 1, 1) := by decide +kernel
theorem dL_law_235 : decode cL_law 235 = .ok (.iadd, 1) := by decide +kernel
theorem dL_law_236 : decode cL_law 236 = .ok (.iaload, 1) := by decide +kernel
theorem dL_law_237 : decode cL_law 237 = .ok (.aload_n 0, 1) := by decide +kernel
theorem dL_law_238 : decode cL_law 238 = .ok (.iload 4, 2) := by decide +kernel
theorem dL_law_240 : decode cL_law 240 = .ok (.iconst 2, 1) := by decide +kernel
theorem dL_law_241 : decode cL_law 241 = .ok (.iadd, 1) := by decide +kernel
theorem dL_law_242 : decode cL_law 242 = .ok (.iaload, 1) := by decide +kernel
theorem dL_law_243 : decode cL_law 243 = .ok (.invokevirtual 51, 3) := by decide +kernel
theorem dL_law_246 : decode cL_law 246 = .ok (.aload_n 2, 1) := by decide +kernel
theorem dL_law_247 : decode cL_law 247 = .ok (.aload_n 0, 1) := by decide +kernel
theorem dL_law_248 : decode cL_law 248 = .ok (.iload 4, 2) := by decide +kernel
theorem dL_law_250 : decode cL_law 250 = .ok (.iconst 1, 1) := by decide +kernel
theorem dL_law_251 : decode cL_law 251 = .ok (.iadd, 1) := by decide +kernel
theorem dL_law_252 : decode cL_law 252 = .ok (.iaload, 1) := by decide +kernel
theorem dL_law_253 : decode cL_law 253 = .ok (.aload_n 0, 1) := by decide +kernel
theorem dL_law_254 : decode cL_law 254 = .ok (.iload 4, 2) := by decide +kernel
theorem dL_law_256 : decode cL_law 256 = .ok (.iconst 2, 1) := by decide +kernel
theorem dL_law_257 : decode cL_law 257 = .ok (.iadd, 1) := by decide +kernel
theorem dL_law_258 : decode cL_law 258 = .ok (.iaload, 1) := by decide +kernel
theorem dL_law_259 : decode cL_law 259 = .ok (.invokevirtual 54, 3) := by decide +kernel
theorem dL_law_262 : decode cL_law 262 = .ok (.if_icmp .eq 738, 3) := by decide +kernel
theorem dL_law_265 : decode cL_law 265 = .ok (.iconst 0, 1) := by decide +kernel
theorem dL_law_266 : decode cL_law 266 = .ok (.ireturn, 1) := by decide +kernel
theorem dL_law_267 : decode cL_law 267 = .ok (.aload_n 1, 1) := by decide +kernel
theorem dL_law_268 : decode cL_law 268 = .ok (.aload_n 0, 1) := by decide +kernel
theorem dL_law_269 : decode cL_law 269 = .ok (.iload 4, 2) := by decide +kernel
theorem dL_law_271 : decode cL_law 271 = .ok (.iconst 1, 1) := by decide +kernel
theorem dL_law_272 : decode cL_law 272 = .ok (.iadd, 1) := by decide +kernel
theorem dL_law_273 : decode cL_law 273 = .ok (.iaload, 1) := by decide +kernel
theorem dL_law_274 : decode cL_law 274 = .ok (.invokevirtual 55, 3) := by decide +kernel
theorem dL_law_277 : decode cL_law 277 = .ok (.aload_n 2, 1) := by decide +kernel
theorem dL_law_278 : decode cL_law 278 = .ok (.aload_n 0, 1) := by decide +kernel
theorem dL_law_279 : decode cL_law 279 = .ok (.iload 4, 2) := by decide +kernel
theorem dL_law_281 : decode cL_law 281 = .ok (.iconst 1, 1) := by decide +kernel
theorem dL_law_282 : decode cL_law 282 = .ok (.iadd, 1) := by decide +kernel
theorem dL_law_283 : decode cL_law 283 = .ok (.iaload, 1) := by decide +kernel
theorem dL_law_284 : decode cL_law 284 = .ok (.invokevirtual 58, 3) := by decide +kernel
theorem dL_law_287 : decode cL_law 287 = .ok (.if_icmp .eq 713, 3) := by decide +kernel
theorem dL_law_290 : decode cL_law 290 = .ok (.iconst 0, 1) := by decide +kernel
theorem dL_law_291 : decode cL_law 291 = .ok (.ireturn, 1) := by decide +kernel
theorem dL_law_292 : decode cL_law 292 = .ok (.aload_n 1, 1) := by decide +kernel
theorem dL_law_293 : decode cL_law 293 = .ok (.aload_n 0, 1) := by decide +kernel
theorem dL_law_294 : decode cL_law 294 = .ok (.iload 4, 2) := by decide +kernel
theorem dL_law_296 : decode cL_law 296 = .ok (.iconst 1, 1) := by decide +kernel
theorem dL_law_297 : decode cL_law 297 = .ok (.iadd, 1) := by decide +kernel
theorem dL_law_298 : decode cL_law 298 = .ok (.iaload, 1) := by decide +kernel
theorem dL_law_299 : decode cL_law 299 = .ok (.aload_n 0, 1) := by decide +kernel
theorem dL_law_300 : decode cL_law 300 = .ok (.iload 4, 2) := by decide +kernel
theorem dL_law_302 : decode cL_law 302 = .ok (.iconst 2, 1) := by decide +kernel
theorem dL_law_303 : decode cL_law 303 = .ok (.iadd, 1) := by decide +kernel
theorem dL_law_304 : decode cL_law 304 = .ok (.iaload, 1) := by decide +kernel
theorem dL_law_305 : decode cL_law 305 = .ok (.invokevirtual 59, 3) := by decide +kernel
theorem dL_law_308 : decode cL_law 308 = .ok (.aload_n 2, 1) := by decide +kernel
theorem dL_law_309 : decode cL_law 309 = .ok (.aload_n 0, 1) := by decide +kernel
theorem dL_law_310 : decode cL_law 310 = .ok (.iload 4, 2) := by decide +kernel
theorem dL_law_312 : decode cL_law 312 = .ok (.iconst 1, 1) := by decide +kernel
theorem dL_law_313 : decode cL_law 313 = .ok (.iadd, 1) := by decide +kernel
theorem dL_law_314 : decode cL_law 314 = .ok (.iaload, 1) := by decide +kernel
theorem dL_law_315 : decode cL_law 315 = .ok (.aload_n 0, 1) := by decide +kernel
theorem dL_law_316 : decode cL_law 316 = .ok (.iload 4, 2) := by decide +kernel
theorem dL_law_318 : decode cL_law 318 = .ok (.iconst 2, 1) := by decide +kernel
theorem dL_law_319 : decode cL_law 319 = .ok (.iadd, 1) := by decide +kernel
theorem dL_law_320 : decode cL_law 320 = .ok (.iaload, 1) := by decide +kernel
theorem dL_law_321 : decode cL_law 321 = .ok (.invokevirtual 62, 3) := by decide +kernel
theorem dL_law_324 : decode cL_law 324 = .ok (.if_icmp .eq 676, 3) := by decide +kernel
theorem dL_law_327 : decode cL_law 327 = .ok (.iconst 0, 1) := by decide +kernel
theorem dL_law_328 : decode cL_law 328 = .ok (.ireturn, 1) := by decide +kernel
theorem dL_law_329 : decode cL_law 329 = .ok (.aload_n 1, 1) := by decide +kernel
theorem dL_law_330 : decode cL_law 330 = .ok (.aload_n 0, 1) := by decide +kernel
theorem dL_law_331 : decode cL_law 331 = .ok (.iload 4, 2) := by decide +kernel
theorem dL_law_333 : decode cL_law 333 = .ok (.iconst 1, 1) := by decide +kernel
theorem dL_law_334 : decode cL_law 334 = .ok (.iadd, 1) := by decide +kernel
theorem dL_law_335 : decode cL_law 335 = .ok (.iaload, 1) := by decide +kernel
theorem dL_law_336 : decode cL_law 336 = .ok (.aload_n 0, 1) := by decide +kernel
theorem dL_law_337 : decode cL_law 337 = .ok (.iload 4, 2) := by decide +kernel
theorem dL_law_339 : decode cL_law 339 = .ok (.iconst 2, 1) := by decide +kernel
theorem dL_law_340 : decode cL_law 340 = .ok (.iadd, 1) := by decide +kernel
theorem dL_law_341 : decode cL_law 341 = .ok (.iaload, 1) := by decide +kernel
theorem dL_law_342 : decode cL_law 342 = .ok (.invokevirtual 63, 3) := by decide +kernel
theorem dL_law_345 : decode cL_law 345 = .ok (.aload_n 2, 1) := by decide +kernel
theorem dL_law_346 : decode cL_law 346 = .ok (.aload_n 0, 1) := by decide +kernel
theorem dL_law_347 : decode cL_law 347 = .ok (.iload 4, 2) := by decide +kernel
theorem dL_law_349 : decode cL_law 349 = .ok (.iconst 1, 1) := by decide +kernel
theorem dL_law_350 : decode cL_law 350 = .ok (.iadd, 1) := by decide +kernel
theorem dL_law_351 : decode cL_law 351 = .ok (.iaload, 1) := by decide +kernel
theorem dL_law_352 : decode cL_law 352 = .ok (.aload_n 0, 1) := by decide +kernel
theorem dL_law_353 : decode cL_law 353 = .ok (.iload 4, 2) := by decide +kernel
theorem dL_law_355 : decode cL_law 355 = .ok (.iconst 2, 1) := by decide +kernel
theorem dL_law_356 : decode cL_law 356 = .ok (.iadd, 1) := by decide +kernel
theorem dL_law_357 : decode cL_law 357 = .ok (.iaload, 1) := by decide +kernel
theorem dL_law_358 : decode cL_law 358 = .ok (.invokevirtual 66, 3) := by decide +kernel
theorem dL_law_361 : decode cL_law 361 = .ok (.if_icmp .eq 639, 3) := by decide +kernel
theorem dL_law_364 : decode cL_law 364 = .ok (.iconst 0, 1) := by decide +kernel
theorem dL_law_365 : decode cL_law 365 = .ok (.ireturn, 1) := by decide +kernel
theorem dL_law_366 : decode cL_law 366 = .ok (.aload_n 1, 1) := by decide +kernel
theorem dL_law_367 : decode cL_law 367 = .ok (.aload_n 0, 1) := by decide +kernel
theorem dL_law_368 : decode cL_law 368 = .ok (.iload 4, 2) := by decide +kernel
theorem dL_law_370 : decode cL_law 370 = .ok (.iconst 1, 1) := by decide +kernel
theorem dL_law_371 : decode cL_law 371 = .ok (.iadd, 1) := by decide +kernel
theorem dL_law_372 : decode cL_law 372 = .ok (.iaload, 1) := by decide +kernel
theorem dL_law_373 : decode cL_law 373 = .ok (.aload_n 0, 1) := by decide +kernel
theorem dL_law_374 : decode cL_law 374 = .ok (.iload 4, 2) := by decide +kernel
theorem dL_law_376 : decode cL_law 376 = .ok (.iconst 2, 1) := by decide +kernel
theorem dL_law_377 : decode cL_law 377 = .ok (.iadd, 1) := by decide +kernel
theorem dL_law_378 : decode cL_law 378 = .ok (.iaload, 1) := by decide +kernel
theorem dL_law_379 : decode cL_law 379 = .ok (.invokevirtual 67, 3) := by decide +kernel
theorem dL_law_382 : decode cL_law 382 = .ok (.aload_n 2, 1) := by decide +kernel
theorem dL_law_383 : decode cL_law 383 = .ok (.aload_n 0, 1) := by decide +kernel
theorem dL_law_384 : decode cL_law 384 = .ok (.iload 4, 2) := by decide +kernel
theorem dL_law_386 : decode cL_law 386 = .ok (.iconst 1, 1) := by decide +kernel
theorem dL_law_387 : decode cL_law 387 = .ok (.iadd, 1) := by decide +kernel
theorem dL_law_388 : decode cL_law 388 = .ok (.iaload, 1) := by decide +kernel
theorem dL_law_389 : decode cL_law 389 = .ok (.aload_n 0, 1) := by decide +kernel
theorem dL_law_390 : decode cL_law 390 = .ok (.iload 4, 2) := by decide +kernel
theorem dL_law_392 : decode cL_law 392 = .ok (.iconst 2, 1) := by decide +kernel
theorem dL_law_393 : decode cL_law 393 = .ok (.iadd, 1) := by decide +kernel
theorem dL_law_394 : decode cL_law 394 = .ok (.iaload, 1) := by decide +kernel
theorem dL_law_395 : decode cL_law 395 = .ok (.invokevirtual 71, 3) := by decide +kernel
theorem dL_law_398 : decode cL_law 398 = .ok (.lcmp, 1) := by decide +kernel
theorem dL_law_399 : decode cL_law 399 = .ok (.ifCond .eq 601, 3) := by decide +kernel
theorem dL_law_402 : decode cL_law 402 = .ok (.iconst 0, 1) := by decide +kernel
theorem dL_law_403 : decode cL_law 403 = .ok (.ireturn, 1) := by decide +kernel
theorem dL_law_404 : decode cL_law 404 = .ok (.aload_n 1, 1) := by decide +kernel
theorem dL_law_405 : decode cL_law 405 = .ok (.aload_n 0, 1) := by decide +kernel
theorem dL_law_406 : decode cL_law 406 = .ok (.iload 4, 2) := by decide +kernel
theorem dL_law_408 : decode cL_law 408 = .ok (.iconst 1, 1) := by decide +kernel
theorem dL_law_409 : decode cL_law 409 = .ok (.iadd, 1) := by decide +kernel
theorem dL_law_410 : decode cL_law 410 = .ok (.iaload, 1) := by decide +kernel
theorem dL_law_411 : decode cL_law 411 = .ok (.aload_n 0, 1) := by decide +kernel
theorem dL_law_412 : decode cL_law 412 = .ok (.iload 4, 2) := by decide +kernel
theorem dL_law_414 : decode cL_law 414 = .ok (.iconst 2, 1) := by decide +kernel
theorem dL_law_415 : decode cL_law 415 = .ok (.iadd, 1) := by decide +kernel
theorem dL_law_416 : decode cL_law 416 = .ok (.iaload, 1) := by decide +kernel
theorem dL_law_417 : decode cL_law 417 = .ok (.aload_n 0, 1) := by decide +kernel
theorem dL_law_418 : decode cL_law 418 = .ok (.iload 4, 2) := by decide +kernel
theorem dL_law_420 : decode cL_law 420 = .ok (.iconst 3, 1) := by decide +kernel
theorem dL_law_421 : decode cL_law 421 = .ok (.iadd, 1) := by decide +kernel
theorem dL_law_422 : decode cL_law 422 = .ok (.iaload, 1) := by decide +kernel
theorem dL_law_423 : decode cL_law 423 = .ok (.i2l, 1) := by decide +kernel
theorem dL_law_424 : decode cL_law 424 = .ok (.bipush 32, 2) := by decide +kernel
theorem dL_law_426 : decode cL_law 426 = .ok (.lshl, 1) := by decide +kernel
theorem dL_law_427 : decode cL_law 427 = .ok (.aload_n 0, 1) := by decide +kernel
theorem dL_law_428 : decode cL_law 428 = .ok (.iload 4, 2) := by decide +kernel
theorem dL_law_430 : decode cL_law 430 = .ok (.iconst 4, 1) := by decide +kernel
theorem dL_law_431 : decode cL_law 431 = .ok (.iadd, 1) := by decide +kernel
theorem dL_law_432 : decode cL_law 432 = .ok (.iaload, 1) := by decide +kernel
theorem dL_law_433 : decode cL_law 433 = .ok (.i2l, 1) := by decide +kernel
theorem dL_law_434 : decode cL_law 434 = .ok (.ldc2_w 39, 3) := by decide +kernel
theorem dL_law_437 : decode cL_law 437 = .ok (.land, 1) := by decide +kernel
theorem dL_law_438 : decode cL_law 438 = .ok (.lor, 1) := by decide +kernel
theorem dL_law_439 : decode cL_law 439 = .ok (.invokevirtual 72, 3) := by decide +kernel
theorem dL_law_442 : decode cL_law 442 = .ok (.aload_n 2, 1) := by decide +kernel
theorem dL_law_443 : decode cL_law 443 = .ok (.aload_n 0, 1) := by decide +kernel
theorem dL_law_444 : decode cL_law 444 = .ok (.iload 4, 2) := by decide +kernel
theorem dL_law_446 : decode cL_law 446 = .ok (.iconst 1, 1) := by decide +kernel
theorem dL_law_447 : decode cL_law 447 = .ok (.iadd, 1) := by decide +kernel
theorem dL_law_448 : decode cL_law 448 = .ok (.iaload, 1) := by decide +kernel
theorem dL_law_449 : decode cL_law 449 = .ok (.aload_n 0, 1) := by decide +kernel
theorem dL_law_450 : decode cL_law 450 = .ok (.iload 4, 2) := by decide +kernel
theorem dL_law_452 : decode cL_law 452 = .ok (.iconst 2, 1) := by decide +kernel
theorem dL_law_453 : decode cL_law 453 = .ok (.iadd, 1) := by decide +kernel
theorem dL_law_454 : decode cL_law 454 = .ok (.iaload, 1) := by decide +kernel
theorem dL_law_455 : decode cL_law 455 = .ok (.aload_n 0, 1) := by decide +kernel
theorem dL_law_456 : decode cL_law 456 = .ok (.iload 4, 2) := by decide +kernel
theorem dL_law_458 : decode cL_law 458 = .ok (.iconst 3, 1) := by decide +kernel
theorem dL_law_459 : decode cL_law 459 = .ok (.iadd, 1) := by decide +kernel
theorem dL_law_460 : decode cL_law 460 = .ok (.iaload, 1) := by decide +kernel
theorem dL_law_461 : decode cL_law 461 = .ok (.i2l, 1) := by decide +kernel
theorem dL_law_462 : decode cL_law 462 = .ok (.bipush 32, 2) := by decide +kernel
theorem dL_law_464 : decode cL_law 464 = .ok (.lshl, 1) := by decide +kernel
theorem dL_law_465 : decode cL_law 465 = .ok (.aload_n 0, 1) := by decide +kernel
theorem dL_law_466 : decode cL_law 466 = .ok (.iload 4, 2) := by decide +kernel
theorem dL_law_468 : decode cL_law 468 = .ok (.iconst 4, 1) := by decide +kernel
theorem dL_law_469 : decode cL_law 469 = .ok (.iadd, 1) := by decide +kernel
theorem dL_law_470 : decode cL_law 470 = .ok (.iaload, 1) := by decide +kernel
theorem dL_law_471 : decode cL_law 471 = .ok (.i2l, 1) := by decide +kernel
theorem dL_law_472 : decode cL_law 472 = .ok (.ldc2_w 39, 3) := by decide +kernel
theorem dL_law_475 : decode cL_law 475 = .ok (.land, 1) := by decide +kernel
theorem dL_law_476 : decode cL_law 476 = .ok (.lor, 1) := by decide +kernel
theorem dL_law_477 : decode cL_law 477 = .ok (.invokevirtual 76, 3) := by decide +kernel
theorem dL_law_480 : decode cL_law 480 = .ok (.if_icmp .eq 520, 3) := by decide +kernel
theorem dL_law_483 : decode cL_law 483 = .ok (.iconst 0, 1) := by decide +kernel
theorem dL_law_484 : decode cL_law 484 = .ok (.ireturn, 1) := by decide +kernel
theorem dL_law_485 : decode cL_law 485 = .ok (.aload_n 1, 1) := by decide +kernel
theorem dL_law_486 : decode cL_law 486 = .ok (.aload_n 0, 1) := by decide +kernel
theorem dL_law_487 : decode cL_law 487 = .ok (.iload 4, 2) := by decide +kernel
theorem dL_law_489 : decode cL_law 489 = .ok (.iconst 1, 1) := by decide +kernel
theorem dL_law_490 : decode cL_law 490 = .ok (.iadd, 1) := by decide +kernel
theorem dL_law_491 : decode cL_law 491 = .ok (.iaload, 1) := by decide +kernel
theorem dL_law_492 : decode cL_law 492 = .ok (.aload_n 0, 1) := by decide +kernel
theorem dL_law_493 : decode cL_law 493 = .ok (.iload 4, 2) := by decide +kernel
theorem dL_law_495 : decode cL_law 495 = .ok (.iconst 2, 1) := by decide +kernel
theorem dL_law_496 : decode cL_law 496 = .ok (.iadd, 1) := by decide +kernel
theorem dL_law_497 : decode cL_law 497 = .ok (.iaload, 1) := by decide +kernel
theorem dL_law_498 : decode cL_law 498 = .ok (.aload_n 0, 1) := by decide +kernel
theorem dL_law_499 : decode cL_law 499 = .ok (.iload 4, 2) := by decide +kernel
theorem dL_law_501 : decode cL_law 501 = .ok (.iconst 3, 1) := by decide +kernel
theorem dL_law_502 : decode cL_law 502 = .ok (.iadd, 1) := by decide +kernel
theorem dL_law_503 : decode cL_law 503 = .ok (.iaload, 1) := by decide +kernel
theorem dL_law_504 : decode cL_law 504 = .ok (.invokevirtual 77, 3) := by decide +kernel
theorem dL_law_507 : decode cL_law 507 = .ok (.aload_n 2, 1) := by decide +kernel
theorem dL_law_508 : decode cL_law 508 = .ok (.aload_n 0, 1) := by decide +kernel
theorem dL_law_509 : decode cL_law 509 = .ok (.iload 4, 2) := by decide +kernel
theorem dL_law_511 : decode cL_law 511 = .ok (.iconst 1, 1) := by decide +kernel
theorem dL_law_512 : decode cL_law 512 = .ok (.iadd, 1) := by decide +kernel
theorem dL_law_513 : decode cL_law 513 = .ok (.iaload, 1) := by decide +kernel
theorem dL_law_514 : decode cL_law 514 = .ok (.aload_n 0, 1) := by decide +kernel
theorem dL_law_515 : decode cL_law 515 = .ok (.iload 4, 2) := by decide +kernel
theorem dL_law_517 : decode cL_law 517 = .ok (.iconst 2, 1) := by decide +kernel
theorem dL_law_518 : decode cL_law 518 = .ok (.iadd, 1) := by decide +kernel
theorem dL_law_519 : decode cL_law 519 = .ok (.iaload, 1) := by decide +kernel
theorem dL_law_520 : decode cL_law 520 = .ok (.aload_n 0, 1) := by decide +kernel
theorem dL_law_521 : decode cL_law 521 = .ok (.iload 4, 2) := by decide +kernel
theorem dL_law_523 : decode cL_law 523 = .ok (.iconst 3, 1) := by decide +kernel
theorem dL_law_524 : decode cL_law 524 = .ok (.iadd, 1) := by decide +kernel
theorem dL_law_525 : decode cL_law 525 = .ok (.iaload, 1) := by decide +kernel
theorem dL_law_526 : decode cL_law 526 = .ok (.invokevirtual 80, 3) := by decide +kernel
theorem dL_law_529 : decode cL_law 529 = .ok (.lcmp, 1) := by decide +kernel
theorem dL_law_530 : decode cL_law 530 = .ok (.ifCond .eq 470, 3) := by decide +kernel
theorem dL_law_533 : decode cL_law 533 = .ok (.iconst 0, 1) := by decide +kernel
theorem dL_law_534 : decode cL_law 534 = .ok (.ireturn, 1) := by decide +kernel
theorem dL_law_535 : decode cL_law 535 = .ok (.aload_n 1, 1) := by decide +kernel
theorem dL_law_536 : decode cL_law 536 = .ok (.aload_n 0, 1) := by decide +kernel
theorem dL_law_537 : decode cL_law 537 = .ok (.iload 4, 2) := by decide +kernel
theorem dL_law_539 : decode cL_law 539 = .ok (.iconst 1, 1) := by decide +kernel
theorem dL_law_540 : decode cL_law 540 = .ok (.iadd, 1) := by decide +kernel
theorem dL_law_541 : decode cL_law 541 = .ok (.iaload, 1) := by decide +kernel
theorem dL_law_542 : decode cL_law 542 = .ok (.aload_n 0, 1) := by decide +kernel
theorem dL_law_543 : decode cL_law 543 = .ok (.iload 4, 2) := by decide +kernel
theorem dL_law_545 : decode cL_law 545 = .ok (.iconst 2, 1) := by decide +kernel
theorem dL_law_546 : decode cL_law 546 = .ok (.iadd, 1) := by decide +kernel
theorem dL_law_547 : decode cL_law 547 = .ok (.iaload, 1) := by decide +kernel
theorem dL_law_548 : decode cL_law 548 = .ok (.invokevirtual 81, 3) := by decide +kernel
theorem dL_law_551 : decode cL_law 551 = .ok (.aload_n 2, 1) := by decide +kernel
theorem dL_law_552 : decode cL_law 552 = .ok (.aload_n 0, 1) := by decide +kernel
theorem dL_law_553 : decode cL_law 553 = .ok (.iload 4, 2) := by decide +kernel
theorem dL_law_555 : decode cL_law 555 = .ok (.iconst 1, 1) := by decide +kernel
theorem dL_law_556 : decode cL_law 556 = .ok (.iadd, 1) := by decide +kernel
theorem dL_law_557 : decode cL_law 557 = .ok (.iaload, 1) := by decide +kernel
theorem dL_law_558 : decode cL_law 558 = .ok (.aload_n 0, 1) := by decide +kernel
theorem dL_law_559 : decode cL_law 559 = .ok (.iload 4, 2) := by decide +kernel
theorem dL_law_561 : decode cL_law 561 = .ok (.iconst 2, 1) := by decide +kernel
theorem dL_law_562 : decode cL_law 562 = .ok (.iadd, 1) := by decide +kernel
theorem dL_law_563 : decode cL_law 563 = .ok (.iaload, 1) := by decide +kernel
theorem dL_law_564 : decode cL_law 564 = .ok (.invokevirtual 84, 3) := by decide +kernel
theorem dL_law_567 : decode cL_law 567 = .ok (.if_icmp .eq 433, 3) := by decide +kernel
theorem dL_law_570 : decode cL_law 570 = .ok (.iconst 0, 1) := by decide +kernel
theorem dL_law_571 : decode cL_law 571 = .ok (.ireturn, 1) := by decide +kernel
theorem dL_law_572 : decode cL_law 572 = .ok (.aload_n 1, 1) := by decide +kernel
theorem dL_law_573 : decode cL_law 573 = .ok (.aload_n 0, 1) := by decide +kernel
theorem dL_law_574 : decode cL_law 574 = .ok (.iload 4, 2) := by decide +kernel
theorem dL_law_576 : decode cL_law 576 = .ok (.iconst 1, 1) := by decide +kernel
theorem dL_law_577 : decode cL_law 577 = .ok (.iadd, 1) := by decide +kernel
theorem dL_law_578 : decode cL_law 578 = .ok (.iaload, 1) := by decide +kernel
theorem dL_law_579 : decode cL_law 579 = .ok (.aload_n 0, 1) := by decide +kernel
theorem dL_law_580 : decode cL_law 580 = .ok (.iload 4, 2) := by decide +kernel
theorem dL_law_582 : decode cL_law 582 = .ok (.iconst 2, 1) := by decide +kernel
theorem dL_law_583 : decode cL_law 583 = .ok (.iadd, 1) := by decide +kernel
theorem dL_law_584 : decode cL_law 584 = .ok (.iaload, 1) := by decide +kernel
theorem dL_law_585 : decode cL_law 585 = .ok (.invokevirtual 85, 3) := by decide +kernel
theorem dL_law_588 : decode cL_law 588 = .ok (.aload_n 2, 1) := by decide +kernel
theorem dL_law_589 : decode cL_law 589 = .ok (.aload_n 0, 1) := by decide +kernel
theorem dL_law_590 : decode cL_law 590 = .ok (.iload 4, 2) := by decide +kernel
theorem dL_law_592 : decode cL_law 592 = .ok (.iconst 1, 1) := by decide +kernel
theorem dL_law_593 : decode cL_law 593 = .ok (.iadd, 1) := by decide +kernel
theorem dL_law_594 : decode cL_law 594 = .ok (.iaload, 1) := by decide +kernel
theorem dL_law_595 : decode cL_law 595 = .ok (.aload_n 0, 1) := by decide +kernel
theorem dL_law_596 : decode cL_law 596 = .ok (.iload 4, 2) := by decide +kernel
theorem dL_law_598 : decode cL_law 598 = .ok (.iconst 2, 1) := by decide +kernel
theorem dL_law_599 : decode cL_law 599 = .ok (.iadd, 1) := by decide +kernel
theorem dL_law_600 : decode cL_law 600 = .ok (.iaload, 1) := by decide +kernel
theorem dL_law_601 : decode cL_law 601 = .ok (.invokevirtual 88, 3) := by decide +kernel
theorem dL_law_604 : decode cL_law 604 = .ok (.if_icmp .eq 396, 3) := by decide +kernel
theorem dL_law_607 : decode cL_law 607 = .ok (.iconst 0, 1) := by decide +kernel
theorem dL_law_608 : decode cL_law 608 = .ok (.ireturn, 1) := by decide +kernel
theorem dL_law_609 : decode cL_law 609 = .ok (.aload_n 1, 1) := by decide +kernel
theorem dL_law_610 : decode cL_law 610 = .ok (.aload_n 0, 1) := by decide +kernel
theorem dL_law_611 : decode cL_law 611 = .ok (.iload 4, 2) := by decide +kernel
theorem dL_law_613 : decode cL_law 613 = .ok (.iconst 1, 1) := by decide +kernel
theorem dL_law_614 : decode cL_law 614 = .ok (.iadd, 1) := by decide +kernel
theorem dL_law_615 : decode cL_law 615 = .ok (.iaload, 1) := by decide +kernel
theorem dL_law_616 : decode cL_law 616 = .ok (.invokevirtual 89, 3) := by decide +kernel
theorem dL_law_619 : decode cL_law 619 = .ok (.aload_n 2, 1) := by decide +kernel
theorem dL_law_620 : decode cL_law 620 = .ok (.aload_n 0, 1) := by decide +kernel
theorem dL_law_621 : decode cL_law 621 = .ok (.iload 4, 2) := by decide +kernel
theorem dL_law_623 : decode cL_law 623 = .ok (.iconst 1, 1) := by decide +kernel
theorem dL_law_624 : decode cL_law 624 = .ok (.iadd, 1) := by decide +kernel
theorem dL_law_625 : decode cL_law 625 = .ok (.iaload, 1) := by decide +kernel
theorem dL_law_626 : decode cL_law 626 = .ok (.invokevirtual 92, 3) := by decide +kernel
theorem dL_law_629 : decode cL_law 629 = .ok (.if_icmp .eq 371, 3) := by decide +kernel
theorem dL_law_632 : decode cL_law 632 = .ok (.iconst 0, 1) := by decide +kernel
theorem dL_law_633 : decode cL_law 633 = .ok (.ireturn, 1) := by decide +kernel
theorem dL_law_634 : decode cL_law 634 = .ok (.aload_n 1, 1) := by decide +kernel
theorem dL_law_635 : decode cL_law 635 = .ok (.aload_n 0, 1) := by decide +kernel
theorem dL_law_636 : decode cL_law 636 = .ok (.iload 4, 2) := by decide +kernel
theorem dL_law_638 : decode cL_law 638 = .ok (.iconst 1, 1) := by decide +kernel
theorem dL_law_639 : decode cL_law 639 = .ok (.iadd, 1) := by decide +kernel
theorem dL_law_640 : decode cL_law 640 = .ok (.iaload, 1) := by decide +kernel
theorem dL_law_641 : decode cL_law 641 = .ok (.aload_n 0, 1) := by decide +kernel
theorem dL_law_642 : decode cL_law 642 = .ok (.iload 4, 2) := by decide +kernel
theorem dL_law_644 : decode cL_law 644 = .ok (.iconst 2, 1) := by decide +kernel
theorem dL_law_645 : decode cL_law 645 = .ok (.iadd, 1) := by decide +kernel
theorem dL_law_646 : decode cL_law 646 = .ok (.iaload, 1) := by decide +kernel
theorem dL_law_647 : decode cL_law 647 = .ok (.invokevirtual 93, 3) := by decide +kernel
theorem dL_law_650 : decode cL_law 650 = .ok (.aload_n 2, 1) := by decide +kernel
theorem dL_law_651 : decode cL_law 651 = .ok (.aload_n 0, 1) := by decide +kernel
theorem dL_law_652 : decode cL_law 652 = .ok (.iload 4, 2) := by decide +kernel
theorem dL_law_654 : decode cL_law 654 = .ok (.iconst 1, 1) := by decide +kernel
theorem dL_law_655 : decode cL_law 655 = .ok (.iadd, 1) := by decide +kernel
theorem dL_law_656 : decode cL_law 656 = .ok (.iaload, 1) := by decide +kernel
theorem dL_law_657 : decode cL_law 657 = .ok (.aload_n 0, 1) := by decide +kernel
theorem dL_law_658 : decode cL_law 658 = .ok (.iload 4, 2) := by decide +kernel
theorem dL_law_660 : decode cL_law 660 = .ok (.iconst 2, 1) := by decide +kernel
theorem dL_law_661 : decode cL_law 661 = .ok (.iadd, 1) := by decide +kernel
theorem dL_law_662 : decode cL_law 662 = .ok (.iaload, 1) := by decide +kernel
theorem dL_law_663 : decode cL_law 663 = .ok (.invokevirtual 96, 3) := by decide +kernel
theorem dL_law_666 : decode cL_law 666 = .ok (.if_icmp .eq 334, 3) := by decide +kernel
theorem dL_law_669 : decode cL_law 669 = .ok (.iconst 0, 1) := by decide +kernel
theorem dL_law_670 : decode cL_law 670 = .ok (.ireturn, 1) := by decide +kernel
theorem dL_law_671 : decode cL_law 671 = .ok (.aload_n 1, 1) := by decide +kernel
theorem dL_law_672 : decode cL_law 672 = .ok (.aload_n 0, 1) := by decide +kernel
theorem dL_law_673 : decode cL_law 673 = .ok (.iload 4, 2) := by decide +kernel
theorem dL_law_675 : decode cL_law 675 = .ok (.iconst 1, 1) := by decide +kernel
theorem dL_law_676 : decode cL_law 676 = .ok (.iadd, 1) := by decide +kernel
theorem dL_law_677 : decode cL_law 677 = .ok (.iaload, 1) := by decide +kernel
theorem dL_law_678 : decode cL_law 678 = .ok (.aload_n 0, 1) := by decide +kernel
theorem dL_law_679 : decode cL_law 679 = .ok (.iload 4, 2) := by decide +kernel
theorem dL_law_681 : decode cL_law 681 = .ok (.iconst 2, 1) := by decide +kernel
theorem dL_law_682 : decode cL_law 682 = .ok (.iadd, 1) := by decide +kernel
theorem dL_law_683 : decode cL_law 683 = .ok (.iaload, 1) := by decide +kernel
theorem dL_law_684 : decode cL_law 684 = .ok (.aload_n 0, 1) := by decide +kernel
theorem dL_law_685 : decode cL_law 685 = .ok (.iload 4, 2) := by decide +kernel
theorem dL_law_687 : decode cL_law 687 = .ok (.iconst 3, 1) := by decide +kernel
theorem dL_law_688 : decode cL_law 688 = .ok (.iadd, 1) := by decide +kernel
theorem dL_law_689 : decode cL_law 689 = .ok (.iaload, 1) := by decide +kernel
theorem dL_law_690 : decode cL_law 690 = .ok (.invokevirtual 97, 3) := by decide +kernel
theorem dL_law_693 : decode cL_law 693 = .ok (.aload_n 2, 1) := by decide +kernel
theorem dL_law_694 : decode cL_law 694 = .ok (.aload_n 0, 1) := by decide +kernel
theorem dL_law_695 : decode cL_law 695 = .ok (.iload 4, 2) := by decide +kernel
theorem dL_law_697 : decode cL_law 697 = .ok (.iconst 1, 1) := by decide +kernel
theorem dL_law_698 : decode cL_law 698 = .ok (.iadd, 1) := by decide +kernel
theorem dL_law_699 : decode cL_law 699 = .ok (.iaload, 1) := by decide +kernel
theorem dL_law_700 : decode cL_law 700 = .ok (.aload_n 0, 1) := by decide +kernel
theorem dL_law_701 : decode cL_law 701 = .ok (.iload 4, 2) := by decide +kernel
theorem dL_law_703 : decode cL_law 703 = .ok (.iconst 2, 1) := by decide +kernel
theorem dL_law_704 : decode cL_law 704 = .ok (.iadd, 1) := by decide +kernel
theorem dL_law_705 : decode cL_law 705 = .ok (.iaload, 1) := by decide +kernel
theorem dL_law_706 : decode cL_law 706 = .ok (.aload_n 0, 1) := by decide +kernel
theorem dL_law_707 : decode cL_law 707 = .ok (.iload 4, 2) := by decide +kernel
theorem dL_law_709 : decode cL_law 709 = .ok (.iconst 3, 1) := by decide +kernel
theorem dL_law_710 : decode cL_law 710 = .ok (.iadd, 1) := by decide +kernel
theorem dL_law_711 : decode cL_law 711 = .ok (.iaload, 1) := by decide +kernel
theorem dL_law_712 : decode cL_law 712 = .ok (.invokevirtual 101, 3) := by decide +kernel
theorem dL_law_715 : decode cL_law 715 = .ok (.if_icmp .eq 285, 3) := by decide +kernel
theorem dL_law_718 : decode cL_law 718 = .ok (.iconst 0, 1) := by decide +kernel
theorem dL_law_719 : decode cL_law 719 = .ok (.ireturn, 1) := by decide +kernel
theorem dL_law_720 : decode cL_law 720 = .ok (.aload_n 1, 1) := by decide +kernel
theorem dL_law_721 : decode cL_law 721 = .ok (.aload_n 0, 1) := by decide +kernel
theorem dL_law_722 : decode cL_law 722 = .ok (.iload 4, 2) := by decide +kernel
theorem dL_law_724 : decode cL_law 724 = .ok (.iconst 1, 1) := by decide +kernel
theorem dL_law_725 : decode cL_law 725 = .ok (.iadd, 1) := by decide +kernel
theorem dL_law_726 : decode cL_law 726 = .ok (.iaload, 1) := by decide +kernel
theorem dL_law_727 : decode cL_law 727 = .ok (.aload_n 0, 1) := by decide +kernel
theorem dL_law_728 : decode cL_law 728 = .ok (.iload 4, 2) := by decide +kernel
theorem dL_law_730 : decode cL_law 730 = .ok (.iconst 2, 1) := by decide +kernel
theorem dL_law_731 : decode cL_law 731 = .ok (.iadd, 1) := by decide +kernel
theorem dL_law_732 : decode cL_law 732 = .ok (.iaload, 1) := by decide +kernel
theorem dL_law_733 : decode cL_law 733 = .ok (.aload_n 3, 1) := by decide +kernel
theorem dL_law_734 : decode cL_law 734 = .ok (.invokestatic 102, 3) := by decide +kernel
theorem dL_law_737 : decode cL_law 737 = .ok (.istore 5, 2) := by decide +kernel
theorem dL_law_739 : decode cL_law 739 = .ok (.aload_n 2, 1) := by decide +kernel
theorem dL_law_740 : decode cL_law 740 = .ok (.aload_n 0, 1) := by decide +kernel
theorem dL_law_741 : decode cL_law 741 = .ok (.iload 4, 2) := by decide +kernel
theorem dL_law_743 : decode cL_law 743 = .ok (.iconst 1, 1) := by decide +kernel
theorem dL_law_744 : decode cL_law 744 = .ok (.iadd, 1) := by decide +kernel
theorem dL_law_745 : decode cL_law 745 = .ok (.iaload, 1) := by decide +kernel
theorem dL_law_746 : decode cL_law 746 = .ok (.aload_n 0, 1) := by decide +kernel
theorem dL_law_747 : decode cL_law 747 = .ok (.iload 4, 2) := by decide +kernel
theorem dL_law_749 : decode cL_law 749 = .ok (.iconst 2, 1) := by decide +kernel
theorem dL_law_750 : decode cL_law 750 = .ok (.iadd, 1) := by decide +kernel
theorem dL_law_751 : decode cL_law 751 = .ok (.iaload, 1) := by decide +kernel
theorem dL_law_752 : decode cL_law 752 = .ok (.invokevirtual 105, 3) := by decide +kernel
theorem dL_law_755 : decode cL_law 755 = .ok (.istore 6, 2) := by decide +kernel
theorem dL_law_757 : decode cL_law 757 = .ok (.aload_n 2, 1) := by decide +kernel
theorem dL_law_758 : decode cL_law 758 = .ok (.invokevirtual 106, 3) := by decide +kernel
theorem dL_law_761 : decode cL_law 761 = .ok (.iload 5, 2) := by decide +kernel
theorem dL_law_763 : decode cL_law 763 = .ok (.if_icmp .eq 5, 3) := by decide +kernel
theorem dL_law_766 : decode cL_law 766 = .ok (.iconst 0, 1) := by decide +kernel
theorem dL_law_767 : decode cL_law 767 = .ok (.ireturn, 1) := by decide +kernel
theorem dL_law_768 : decode cL_law 768 = .ok (.iload 5, 2) := by decide +kernel
theorem dL_law_770 : decode cL_law 770 = .ok (.ifCond .ne 15, 3) := by decide +kernel
theorem dL_law_773 : decode cL_law 773 = .ok (.aload_n 3, 1) := by decide +kernel
theorem dL_law_774 : decode cL_law 774 = .ok (.iconst 0, 1) := by decide +kernel
theorem dL_law_775 : decode cL_law 775 = .ok (.laload, 1) := by decide +kernel
theorem dL_law_776 : decode cL_law 776 = .ok (.iload 6, 2) := by decide +kernel
theorem dL_law_778 : decode cL_law 778 = .ok (.i2l, 1) := by decide +kernel
theorem dL_law_779 : decode cL_law 779 = .ok (.lcmp, 1) := by decide +kernel
theorem dL_law_780 : decode cL_law 780 = .ok (.ifCond .eq 5, 3) := by decide +kernel
theorem dL_law_783 : decode cL_law 783 = .ok (.iconst 0, 1) := by decide +kernel
theorem dL_law_784 : decode cL_law 784 = .ok (.ireturn, 1) := by decide +kernel
theorem dL_law_785 : decode cL_law 785 = .ok (.goto 215, 3) := by decide +kernel
theorem dL_law_788 : decode cL_law 788 = .ok (.aload_n 1, 1) := by decide +kernel
theorem dL_law_789 : decode cL_law 789 = .ok (.aload_n 0, 1) := by decide +kernel
theorem dL_law_790 : decode cL_law 790 = .ok (.iload 4, 2) := by decide +kernel
theorem dL_law_792 : decode cL_law 792 = .ok (.iconst 1, 1) := by decide +kernel
theorem dL_law_793 : decode cL_law 793 = .ok (.iadd, 1) := by decide +kernel
theorem dL_law_794 : decode cL_law 794 = .ok (.iaload, 1) := by decide +kernel
theorem dL_law_795 : decode cL_law 795 = .ok (.aload_n 0, 1) := by decide +kernel
theorem dL_law_796 : decode cL_law 796 = .ok (.iload 4, 2) := by decide +kernel
theorem dL_law_798 : decode cL_law 798 = .ok (.iconst 2, 1) := by decide +kernel
theorem dL_law_799 : decode cL_law 799 = .ok (.iadd, 1) := by decide +kernel
theorem dL_law_800 : decode cL_law 800 = .ok (.iaload, 1) := by decide +kernel
theorem dL_law_801 : decode cL_law 801 = .ok (.aload_n 3, 1) := by decide +kernel
theorem dL_law_802 : decode cL_law 802 = .ok (.invokestatic 110, 3) := by decide +kernel
theorem dL_law_805 : decode cL_law 805 = .ok (.istore 5, 2) := by decide +kernel
theorem dL_law_807 : decode cL_law 807 = .ok (.aload_n 2, 1) := by decide +kernel
theorem dL_law_808 : decode cL_law 808 = .ok (.aload_n 0, 1) := by decide +kernel
theorem dL_law_809 : decode cL_law 809 = .ok (.iload 4, 2) := by decide +kernel
theorem dL_law_811 : decode cL_law 811 = .ok (.iconst 1, 1) := by decide +kernel
theorem dL_law_812 : decode cL_law 812 = .ok (.iadd, 1) := by decide +kernel
theorem dL_law_813 : decode cL_law 813 = .ok (.iaload, 1) := by decide +kernel
theorem dL_law_814 : decode cL_law 814 = .ok (.aload_n 0, 1) := by decide +kernel
theorem dL_law_815 : decode cL_law 815 = .ok (.iload 4, 2) := by decide +kernel
theorem dL_law_817 : decode cL_law 817 = .ok (.iconst 2, 1) := by decide +kernel
theorem dL_law_818 : decode cL_law 818 = .ok (.iadd, 1) := by decide +kernel
theorem dL_law_819 : decode cL_law 819 = .ok (.iaload, 1) := by decide +kernel
theorem dL_law_820 : decode cL_law 820 = .ok (.invokevirtual 112, 3) := by decide +kernel
theorem dL_law_823 : decode cL_law 823 = .ok (.istore 6, 2) := by decide +kernel
theorem dL_law_825 : decode cL_law 825 = .ok (.aload_n 2, 1) := by decide +kernel
theorem dL_law_826 : decode cL_law 826 = .ok (.invokevirtual 106, 3) := by decide +kernel
theorem dL_law_829 : decode cL_law 829 = .ok (.iload 5, 2) := by decide +kernel
theorem dL_law_831 : decode cL_law 831 = .ok (.if_icmp .eq 5, 3) := by decide +kernel
theorem dL_law_834 : decode cL_law 834 = .ok (.iconst 0, 1) := by decide +kernel
theorem dL_law_835 : decode cL_law 835 = .ok (.ireturn, 1) := by decide +kernel
theorem dL_law_836 : decode cL_law 836 = .ok (.iload 5, 2) := by decide +kernel
theorem dL_law_838 : decode cL_law 838 = .ok (.ifCond .ne 15, 3) := by decide +kernel
theorem dL_law_841 : decode cL_law 841 = .ok (.aload_n 3, 1) := by decide +kernel
theorem dL_law_842 : decode cL_law 842 = .ok (.iconst 0, 1) := by decide +kernel
theorem dL_law_843 : decode cL_law 843 = .ok (.laload, 1) := by decide +kernel
theorem dL_law_844 : decode cL_law 844 = .ok (.iload 6, 2) := by decide +kernel
theorem dL_law_846 : decode cL_law 846 = .ok (.i2l, 1) := by decide +kernel
theorem dL_law_847 : decode cL_law 847 = .ok (.lcmp, 1) := by decide +kernel
theorem dL_law_848 : decode cL_law 848 = .ok (.ifCond .eq 5, 3) := by decide +kernel
theorem dL_law_851 : decode cL_law 851 = .ok (.iconst 0, 1) := by decide +kernel
theorem dL_law_852 : decode cL_law 852 = .ok (.ireturn, 1) := by decide +kernel
theorem dL_law_853 : decode cL_law 853 = .ok (.goto 147, 3) := by decide +kernel
theorem dL_law_856 : decode cL_law 856 = .ok (.aload_n 1, 1) := by decide +kernel
theorem dL_law_857 : decode cL_law 857 = .ok (.aload_n 0, 1) := by decide +kernel
theorem dL_law_858 : decode cL_law 858 = .ok (.iload 4, 2) := by decide +kernel
theorem dL_law_860 : decode cL_law 860 = .ok (.iconst 1, 1) := by decide +kernel
theorem dL_law_861 : decode cL_law 861 = .ok (.iadd, 1) := by decide +kernel
theorem dL_law_862 : decode cL_law 862 = .ok (.iaload, 1) := by decide +kernel
theorem dL_law_863 : decode cL_law 863 = .ok (.i2l, 1) := by decide +kernel
theorem dL_law_864 : decode cL_law 864 = .ok (.bipush 32, 2) := by decide +kernel
theorem dL_law_866 : decode cL_law 866 = .ok (.lshl, 1) := by decide +kernel
theorem dL_law_867 : decode cL_law 867 = .ok (.aload_n 0, 1) := by decide +kernel
theorem dL_law_868 : decode cL_law 868 = .ok (.iload 4, 2) := by decide +kernel
theorem dL_law_870 : decode cL_law 870 = .ok (.iconst 2, 1) := by decide +kernel
theorem dL_law_871 : decode cL_law 871 = .ok (.iadd, 1) := by decide +kernel
theorem dL_law_872 : decode cL_law 872 = .ok (.iaload, 1) := by decide +kernel
theorem dL_law_873 : decode cL_law 873 = .ok (.i2l, 1) := by decide +kernel
theorem dL_law_874 : decode cL_law 874 = .ok (.ldc2_w 39, 3) := by decide +kernel
theorem dL_law_877 : decode cL_law 877 = .ok (.land, 1) := by decide +kernel
theorem dL_law_878 : decode cL_law 878 = .ok (.lor, 1) := by decide +kernel
theorem dL_law_879 : decode cL_law 879 = .ok (.aload_n 0, 1) := by decide +kernel
theorem dL_law_880 : decode cL_law 880 = .ok (.iload 4, 2) := by decide +kernel
theorem dL_law_882 : decode cL_law 882 = .ok (.iconst 3, 1) := by decide +kernel
theorem dL_law_883 : decode cL_law 883 = .ok (.iadd, 1) := by decide +kernel
theorem dL_law_884 : decode cL_law 884 = .ok (.iaload, 1) := by decide +kernel
theorem dL_law_885 : decode cL_law 885 = .ok (.i2l, 1) := by decide +kernel
theorem dL_law_886 : decode cL_law 886 = .ok (.bipush 32, 2) := by decide +kernel
theorem dL_law_888 : decode cL_law 888 = .ok (.lshl, 1) := by decide +kernel
theorem dL_law_889 : decode cL_law 889 = .ok (.aload_n 0, 1) := by decide +kernel
theorem dL_law_890 : decode cL_law 890 = .ok (.iload 4, 2) := by decide +kernel
theorem dL_law_892 : decode cL_law 892 = .ok (.iconst 4, 1) := by decide +kernel
theorem dL_law_893 : decode cL_law 893 = .ok (.iadd, 1) := by decide +kernel
theorem dL_law_894 : decode cL_law 894 = .ok (.iaload, 1) := by decide +kernel
theorem dL_law_895 : decode cL_law 895 = .ok (.i2l, 1) := by decide +kernel
theorem dL_law_896 : decode cL_law 896 = .ok (.ldc2_w 39, 3) := by decide +kernel
theorem dL_law_899 : decode cL_law 899 = .ok (.land, 1) := by decide +kernel
theorem dL_law_900 : decode cL_law 900 = .ok (.lor, 1) := by decide +kernel
theorem dL_law_901 : decode cL_law 901 = .ok (.aload_n 3, 1) := by decide +kernel
theorem dL_law_902 : decode cL_law 902 = .ok (.invokestatic 113, 3) := by decide +kernel
theorem dL_law_905 : decode cL_law 905 = .ok (.istore 5, 2) := by decide +kernel
theorem dL_law_907 : decode cL_law 907 = .ok (.aload_n 2, 1) := by decide +kernel
theorem dL_law_908 : decode cL_law 908 = .ok (.aload_n 0, 1) := by decide +kernel
theorem dL_law_909 : decode cL_law 909 = .ok (.iload 4, 2) := by decide +kernel
theorem dL_law_911 : decode cL_law 911 = .ok (.iconst 1, 1) := by decide +kernel
theorem dL_law_912 : decode cL_law 912 = .ok (.iadd, 1) := by decide +kernel
theorem dL_law_913 : decode cL_law 913 = .ok (.iaload, 1) := by decide +kernel
theorem dL_law_914 : decode cL_law 914 = .ok (.i2l, 1) := by decide +kernel
theorem dL_law_915 : decode cL_law 915 = .ok (.bipush 32, 2) := by decide +kernel
theorem dL_law_917 : decode cL_law 917 = .ok (.lshl, 1) := by decide +kernel
theorem dL_law_918 : decode cL_law 918 = .ok (.aload_n 0, 1) := by decide +kernel
theorem dL_law_919 : decode cL_law 919 = .ok (.iload 4, 2) := by decide +kernel
theorem dL_law_921 : decode cL_law 921 = .ok (.iconst 2, 1) := by decide +kernel
theorem dL_law_922 : decode cL_law 922 = .ok (.iadd, 1) := by decide +kernel
theorem dL_law_923 : decode cL_law 923 = .ok (.iaload, 1) := by decide +kernel
theorem dL_law_924 : decode cL_law 924 = .ok (.i2l, 1) := by decide +kernel
theorem dL_law_925 : decode cL_law 925 = .ok (.ldc2_w 39, 3) := by decide +kernel
theorem dL_law_928 : decode cL_law 928 = .ok (.land, 1) := by decide +kernel
theorem dL_law_929 : decode cL_law 929 = .ok (.lor, 1) := by decide +kernel
theorem dL_law_930 : decode cL_law 930 = .ok (.aload_n 0, 1) := by decide +kernel
theorem dL_law_931 : decode cL_law 931 = .ok (.iload 4, 2) := by decide +kernel
theorem dL_law_933 : decode cL_law 933 = .ok (.iconst 3, 1) := by decide +kernel
theorem dL_law_934 : decode cL_law 934 = .ok (.iadd, 1) := by decide +kernel
theorem dL_law_935 : decode cL_law 935 = .ok (.iaload, 1) := by decide +kernel
theorem dL_law_936 : decode cL_law 936 = .ok (.i2l, 1) := by decide +kernel
theorem dL_law_937 : decode cL_law 937 = .ok (.bipush 32, 2) := by decide +kernel
theorem dL_law_939 : decode cL_law 939 = .ok (.lshl, 1) := by decide +kernel
theorem dL_law_940 : decode cL_law 940 = .ok (.aload_n 0, 1) := by decide +kernel
theorem dL_law_941 : decode cL_law 941 = .ok (.iload 4, 2) := by decide +kernel
theorem dL_law_943 : decode cL_law 943 = .ok (.iconst 4, 1) := by decide +kernel
theorem dL_law_944 : decode cL_law 944 = .ok (.iadd, 1) := by decide +kernel
theorem dL_law_945 : decode cL_law 945 = .ok (.iaload, 1) := by decide +kernel
theorem dL_law_946 : decode cL_law 946 = .ok (.i2l, 1) := by decide +kernel
theorem dL_law_947 : decode cL_law 947 = .ok (.ldc2_w 39, 3) := by decide +kernel
theorem dL_law_950 : decode cL_law 950 = .ok (.land, 1) := by decide +kernel
theorem dL_law_951 : decode cL_law 951 = .ok (.lor, 1) := by decide +kernel
theorem dL_law_952 : decode cL_law 952 = .ok (.invokevirtual 116, 3) := by decide +kernel
theorem dL_law_955 : decode cL_law 955 = .ok (.lstore 6, 2) := by decide +kernel
theorem dL_law_957 : decode cL_law 957 = .ok (.aload_n 2, 1) := by decide +kernel
theorem dL_law_958 : decode cL_law 958 = .ok (.invokevirtual 106, 3) := by decide +kernel
theorem dL_law_961 : decode cL_law 961 = .ok (.iload 5, 2) := by decide +kernel
theorem dL_law_963 : decode cL_law 963 = .ok (.if_icmp .eq 5, 3) := by decide +kernel
theorem dL_law_966 : decode cL_law 966 = .ok (.iconst 0, 1) := by decide +kernel
theorem dL_law_967 : decode cL_law 967 = .ok (.ireturn, 1) := by decide +kernel
theorem dL_law_968 : decode cL_law 968 = .ok (.iload 5, 2) := by decide +kernel
theorem dL_law_970 : decode cL_law 970 = .ok (.ifCond .ne 14, 3) := by decide +kernel
theorem dL_law_973 : decode cL_law 973 = .ok (.aload_n 3, 1) := by decide +kernel
theorem dL_law_974 : decode cL_law 974 = .ok (.iconst 0, 1) := by decide +kernel
theorem dL_law_975 : decode cL_law 975 = .ok (.laload, 1) := by decide +kernel
theorem dL_law_976 : decode cL_law 976 = .ok (.lload 6, 2) := by decide +kernel
theorem dL_law_978 : decode cL_law 978 = .ok (.lcmp, 1) := by decide +kernel
theorem dL_law_979 : decode cL_law 979 = .ok (.ifCond .eq 5, 3) := by decide +kernel
theorem dL_law_982 : decode cL_law 982 = .ok (.iconst 0, 1) := by decide +kernel
theorem dL_law_983 : decode cL_law 983 = .ok (.ireturn, 1) := by decide +kernel
theorem dL_law_984 : decode cL_law 984 = .ok (.goto 16, 3) := by decide +kernel
theorem dL_law_987 : decode cL_law 987 = .ok (.aload_n 1, 1) := by decide +kernel
theorem dL_law_988 : decode cL_law 988 = .ok (.invokevirtual 117, 3) := by decide +kernel
theorem dL_law_991 : decode cL_law 991 = .ok (.aload_n 2, 1) := by decide +kernel
theorem dL_law_992 : decode cL_law 992 = .ok (.invokevirtual 120, 3) := by decide +kernel
theorem dL_law_995 : decode cL_law 995 = .ok (.if_icmp .eq 5, 3) := by decide +kernel
theorem dL_law_998 : decode cL_law 998 = .ok (.iconst 0, 1) := by decide +kernel
theorem dL_law_999 : decode cL_law 999 = .ok (.ireturn, 1) := by decide +kernel
theorem dL_law_1000 : decode cL_law 1000 = .ok (.iinc 4 5, 3) := by decide +kernel
theorem dL_law_1003 : decode cL_law 1003 = .ok (.goto (-970), 3) := by decide +kernel
theorem dL_law_1006 : decode cL_law 1006 = .ok (.iconst 1, 1) := by decide +kernel
theorem dL_law_1007 : decode cL_law 1007 = .ok (.ireturn, 1) := by decide +kernel
abbrev vwCl : List vw_C := [(RJ0, TJ0, 2), (RJx00060, TJx00060, 6), (RX1, TX1, 9), (RX2, TX2, 4), (RX4, TX4, 4), (RX5, TX5, 11), (RX6, TX6, 8), (RX7, TX7, 33)]
end
section
/-! ===== the pure side's words: choice, guard, bind ===== -/
/-- choice by any proposition -/
noncomputable def zi {γ : Type} (c : Prop) (a b : γ) : γ := @ite γ c (Classical.propDecidable c) a b
theorem zi_t {γ : Type} {c : Prop} {a b : γ} (h : c) : zi c a b = a := by unfold zi; exact if_pos h
theorem zi_f {γ : Type} {c : Prop} {a b : γ} (h : ¬ c) : zi c a b = b := by unfold zi; exact if_neg h
/-- what the machine must find true before it goes on -/
noncomputable def zg {γ : Type} (c : Prop) (o : Option γ) : Option γ := zi c o none
theorem zg_inv {γ : Type} {c : Prop} {o : Option γ} {x : γ} (h : zg c o = some x) : c ∧ o = some x := by
  unfold zg at h
  by_cases hc : c
  · rw [zi_t hc] at h; exact ⟨hc, h⟩
  · rw [zi_f hc] at h; cases h
theorem zg_t {γ : Type} {c : Prop} {o : Option γ} (h : c) : zg c o = o := zi_t h
/-- behind a call: its answer and the state that it leaves -/
def zb {α β γ : Type} (o : Option (α × β)) (f : α → β → Option γ) : Option γ := match o with
  | none => none
  | some q => f q.1 q.2
theorem zb_inv {α β γ : Type} {o : Option (α × β)} {f : α → β → Option γ} {x : γ} (h : zb o f = some x) : ∃ a b, o = some (a, b) ∧ f a b = some x := by
  match o, h with
  | some (a, b), h => exact ⟨a, b, rfl, h⟩
theorem zb_s {α β γ : Type} {o : Option (α × β)} {f : α → β → Option γ} {a : α} {b : β} (h : o = some (a, b)) : zb o f = f a b := by subst h; rfl
/-! ===== loops run on fuel; a switched value has a name ===== -/
def FU : Nat := 70000
def zs {α β : Type} (x : α) (f : α → β) : β := f x
theorem zs_e {α β : Type} {x y : α} {f : α → β} (h : y = x) : zs x f = f y := by subst h; rfl
theorem zs_out0_5 (x : Int32) (h0 : ¬ x = 0) (h1 : ¬ x = 1) (h2 : ¬ x = 2) (h3 : ¬ x = 3) (h4 : ¬ x = 4) (h5 : ¬ x = 5) : x.toInt < 0 ∨ 5 < x.toInt := by
  have k0 : x.toInt ≠ 0 := fun q => h0 (Int32.toInt_inj.mp (q.trans (by decide)))
  have k1 : x.toInt ≠ 1 := fun q => h1 (Int32.toInt_inj.mp (q.trans (by decide)))
  have k2 : x.toInt ≠ 2 := fun q => h2 (Int32.toInt_inj.mp (q.trans (by decide)))
  have k3 : x.toInt ≠ 3 := fun q => h3 (Int32.toInt_inj.mp (q.trans (by decide)))
  have k4 : x.toInt ≠ 4 := fun q => h4 (Int32.toInt_inj.mp (q.trans (by decide)))
  have k5 : x.toInt ≠ 5 := fun q => h5 (Int32.toInt_inj.mp (q.trans (by decide)))
  omega
theorem zs_out5_10 (x : Int32) (h5 : ¬ x = 5) (h6 : ¬ x = 6) (h7 : ¬ x = 7) (h8 : ¬ x = 8) (h9 : ¬ x = 9) (h10 : ¬ x = 10) : x.toInt < 5 ∨ 10 < x.toInt := by
  have k5 : x.toInt ≠ 5 := fun q => h5 (Int32.toInt_inj.mp (q.trans (by decide)))
  have k6 : x.toInt ≠ 6 := fun q => h6 (Int32.toInt_inj.mp (q.trans (by decide)))
  have k7 : x.toInt ≠ 7 := fun q => h7 (Int32.toInt_inj.mp (q.trans (by decide)))
  have k8 : x.toInt ≠ 8 := fun q => h8 (Int32.toInt_inj.mp (q.trans (by decide)))
  have k9 : x.toInt ≠ 9 := fun q => h9 (Int32.toInt_inj.mp (q.trans (by decide)))
  have k10 : x.toInt ≠ 10 := fun q => h10 (Int32.toInt_inj.mp (q.trans (by decide)))
  omega
theorem zs_out12_17 (x : Int32) (h12 : ¬ x = 12) (h13 : ¬ x = 13) (h14 : ¬ x = 14) (h15 : ¬ x = 15) (h16 : ¬ x = 16) (h17 : ¬ x = 17) : x.toInt < 12 ∨ 17 < x.toInt := by
  have k12 : x.toInt ≠ 12 := fun q => h12 (Int32.toInt_inj.mp (q.trans (by decide)))
  have k13 : x.toInt ≠ 13 := fun q => h13 (Int32.toInt_inj.mp (q.trans (by decide)))
  have k14 : x.toInt ≠ 14 := fun q => h14 (Int32.toInt_inj.mp (q.trans (by decide)))
  have k15 : x.toInt ≠ 15 := fun q => h15 (Int32.toInt_inj.mp (q.trans (by decide)))
  have k16 : x.toInt ≠ 16 := fun q => h16 (Int32.toInt_inj.mp (q.trans (by decide)))
  have k17 : x.toInt ≠ 17 := fun q => h17 (Int32.toInt_inj.mp (q.trans (by decide)))
  omega
theorem zs_out1_12 (x : Int32) (h1 : ¬ x = 1) (h2 : ¬ x = 2) (h3 : ¬ x = 3) (h4 : ¬ x = 4) (h5 : ¬ x = 5) (h6 : ¬ x = 6) (h7 : ¬ x = 7) (h8 : ¬ x = 8) (h9 : ¬ x = 9) (h10 : ¬ x = 10) (h11 : ¬ x = 11) (h12 : ¬ x = 12) : x.toInt < 1 ∨ 12 < x.toInt := by
  have k1 : x.toInt ≠ 1 := fun q => h1 (Int32.toInt_inj.mp (q.trans (by decide)))
  have k2 : x.toInt ≠ 2 := fun q => h2 (Int32.toInt_inj.mp (q.trans (by decide)))
  have k3 : x.toInt ≠ 3 := fun q => h3 (Int32.toInt_inj.mp (q.trans (by decide)))
  have k4 : x.toInt ≠ 4 := fun q => h4 (Int32.toInt_inj.mp (q.trans (by decide)))
  have k5 : x.toInt ≠ 5 := fun q => h5 (Int32.toInt_inj.mp (q.trans (by decide)))
  have k6 : x.toInt ≠ 6 := fun q => h6 (Int32.toInt_inj.mp (q.trans (by decide)))
  have k7 : x.toInt ≠ 7 := fun q => h7 (Int32.toInt_inj.mp (q.trans (by decide)))
  have k8 : x.toInt ≠ 8 := fun q => h8 (Int32.toInt_inj.mp (q.trans (by decide)))
  have k9 : x.toInt ≠ 9 := fun q => h9 (Int32.toInt_inj.mp (q.trans (by decide)))
  have k10 : x.toInt ≠ 10 := fun q => h10 (Int32.toInt_inj.mp (q.trans (by decide)))
  have k11 : x.toInt ≠ 11 := fun q => h11 (Int32.toInt_inj.mp (q.trans (by decide)))
  have k12 : x.toInt ≠ 12 := fun q => h12 (Int32.toInt_inj.mp (q.trans (by decide)))
  omega
theorem zs_out13_18 (x : Int32) (h13 : ¬ x = 13) (h14 : ¬ x = 14) (h15 : ¬ x = 15) (h16 : ¬ x = 16) (h17 : ¬ x = 17) (h18 : ¬ x = 18) : x.toInt < 13 ∨ 18 < x.toInt := by
  have k13 : x.toInt ≠ 13 := fun q => h13 (Int32.toInt_inj.mp (q.trans (by decide)))
  have k14 : x.toInt ≠ 14 := fun q => h14 (Int32.toInt_inj.mp (q.trans (by decide)))
  have k15 : x.toInt ≠ 15 := fun q => h15 (Int32.toInt_inj.mp (q.trans (by decide)))
  have k16 : x.toInt ≠ 16 := fun q => h16 (Int32.toInt_inj.mp (q.trans (by decide)))
  have k17 : x.toInt ≠ 17 := fun q => h17 (Int32.toInt_inj.mp (q.trans (by decide)))
  have k18 : x.toInt ≠ 18 := fun q => h18 (Int32.toInt_inj.mp (q.trans (by decide)))
  omega
theorem zs_out0_17 (x : Int32) (h0 : ¬ x = 0) (h1 : ¬ x = 1) (h2 : ¬ x = 2) (h3 : ¬ x = 3) (h4 : ¬ x = 4) (h5 : ¬ x = 5) (h6 : ¬ x = 6) (h7 : ¬ x = 7) (h8 : ¬ x = 8) (h9 : ¬ x = 9) (h10 : ¬ x = 10) (h11 : ¬ x = 11) (h12 : ¬ x = 12) (h13 : ¬ x = 13) (h14 : ¬ x = 14) (h15 : ¬ x = 15) (h16 : ¬ x = 16) (h17 : ¬ x = 17) : x.toInt < 0 ∨ 17 < x.toInt := by
  have k0 : x.toInt ≠ 0 := fun q => h0 (Int32.toInt_inj.mp (q.trans (by decide)))
  have k1 : x.toInt ≠ 1 := fun q => h1 (Int32.toInt_inj.mp (q.trans (by decide)))
  have k2 : x.toInt ≠ 2 := fun q => h2 (Int32.toInt_inj.mp (q.trans (by decide)))
  have k3 : x.toInt ≠ 3 := fun q => h3 (Int32.toInt_inj.mp (q.trans (by decide)))
  have k4 : x.toInt ≠ 4 := fun q => h4 (Int32.toInt_inj.mp (q.trans (by decide)))
  have k5 : x.toInt ≠ 5 := fun q => h5 (Int32.toInt_inj.mp (q.trans (by decide)))
  have k6 : x.toInt ≠ 6 := fun q => h6 (Int32.toInt_inj.mp (q.trans (by decide)))
  have k7 : x.toInt ≠ 7 := fun q => h7 (Int32.toInt_inj.mp (q.trans (by decide)))
  have k8 : x.toInt ≠ 8 := fun q => h8 (Int32.toInt_inj.mp (q.trans (by decide)))
  have k9 : x.toInt ≠ 9 := fun q => h9 (Int32.toInt_inj.mp (q.trans (by decide)))
  have k10 : x.toInt ≠ 10 := fun q => h10 (Int32.toInt_inj.mp (q.trans (by decide)))
  have k11 : x.toInt ≠ 11 := fun q => h11 (Int32.toInt_inj.mp (q.trans (by decide)))
  have k12 : x.toInt ≠ 12 := fun q => h12 (Int32.toInt_inj.mp (q.trans (by decide)))
  have k13 : x.toInt ≠ 13 := fun q => h13 (Int32.toInt_inj.mp (q.trans (by decide)))
  have k14 : x.toInt ≠ 14 := fun q => h14 (Int32.toInt_inj.mp (q.trans (by decide)))
  have k15 : x.toInt ≠ 15 := fun q => h15 (Int32.toInt_inj.mp (q.trans (by decide)))
  have k16 : x.toInt ≠ 16 := fun q => h16 (Int32.toInt_inj.mp (q.trans (by decide)))
  have k17 : x.toInt ≠ 17 := fun q => h17 (Int32.toInt_inj.mp (q.trans (by decide)))
  omega
/-! ===== a world by names: what lies at the address of each name ===== -/
def zw {ι : Type} (D : va_G) (A : Nat → Prop) (ad : ι → Nat) (G : ι → Option va_E) (H : Heap) : Prop :=
  (∃ (L : List Nat) (F : Nat → va_E), va_P D vwCl (va_pl L F) H ∧ va_D A (va_pl L F) ∧ ∀ g e, G g = some e → ad g ∈ L ∧ F (ad g) = e) ∧ ∀ g g' e e', G g = some e → G g' = some e' → ad g = ad g' → g = g'
theorem zw_at {ι : Type} {D : va_G} {A : Nat → Prop} {ad : ι → Nat} {G : ι → Option va_E} {H : Heap} (hw : zw D A ad G H) {g : ι} {e : va_E} (h : G g = some e) : va_at D vwCl (ad g, e) H := by
  obtain ⟨⟨L, F, hP, hD, hG⟩, hi⟩ := hw
  obtain ⟨hL, hF⟩ := hG g e h
  obtain ⟨k, hk⟩ := va_pl_get (X := []) (f := F) hL
  have h2 := hP k _ hk
  rw [hF] at h2
  exact h2
theorem zw_A {ι : Type} {D : va_G} {A : Nat → Prop} {ad : ι → Nat} {G : ι → Option va_E} {H : Heap} (hw : zw D A ad G H) {g : ι} {e : va_E} (h : G g = some e) : A (ad g) := by
  obtain ⟨⟨L, F, hP, hD, hG⟩, hi⟩ := hw
  obtain ⟨hL, hF⟩ := hG g e h
  obtain ⟨k, hk⟩ := va_pl_get (X := []) (f := F) hL
  exact hD.2 k _ hk
theorem zw_lt {ι : Type} {D : va_G} {A : Nat → Prop} {ad : ι → Nat} {G : ι → Option va_E} {H : Heap} (hw : zw D A ad G H) {g : ι} {e : va_E} (h : G g = some e) : ad g < H.size := (zw_at hw h).lt
/-- the same world behind a call that wrote elsewhere -/
theorem zw_keep {ι : Type} {D : va_G} {A : Nat → Prop} {ad : ι → Nat} {G : ι → Option va_E} {H H1 : Heap} (hw : zw D A ad G H) (h : ∀ q : Nat, q < H.size → A q → H1[q]? = H[q]?) : zw D A ad G H1 := by
  obtain ⟨⟨L, F, hP, hD, hG⟩, hi⟩ := hw
  exact ⟨⟨L, F, fun k q hk => (hP k q hk).kept (h _ (hP k q hk).lt (hD.2 k q hk)), hD, hG⟩, hi⟩
/-- one name's thing is another now -/
theorem zw_set {ι : Type} {D : va_G} {A : Nat → Prop} {ad : ι → Nat} {G : ι → Option va_E} {L : List Nat} {F : Nat → va_E} {g : ι} {e e1 : va_E} {k : Nat} {H1 : Heap} (hG : ∀ g e, G g = some e → ad g ∈ L ∧ F (ad g) = e) (hi : ∀ g g' e e', G g = some e → G g' = some e' → ad g = ad g' → g = g') (hg : G g = some e) (hD0 : va_D A (va_pl L F)) (hk : (va_pl L F)[k]? = some (ad g, F (ad g)))
    (hP : va_P D vwCl ((va_pl L F).set k (ad g, e1)) H1) (hD : va_D A ((va_pl L F).set k (ad g, e1))) {G1 : ι → Option va_E} (h1 : G1 g = some e1) (h2 : ∀ g', g' ≠ g → G1 g' = G g') : zw D A ad G1 H1 := by
  have hs : (va_pl L F).set k (ad g, e1) = va_pl L (va_up F (ad g) e1) := va_pl_set (X := []) hD0 (hG g e hg).1 hk
  rw [hs] at hP hD
  refine ⟨⟨L, _, hP, hD, fun g' e' h => ?_⟩, fun g' g'' e' e'' h' h'' q => ?_⟩
  · by_cases hh : g' = g
    · subst hh
      rw [h1] at h
      cases h
      exact ⟨(hG g' e hg).1, va_up_self _ _ _⟩
    · rw [h2 g' hh] at h
      have hne : ad g' ≠ ad g := fun q => hh (hi _ _ _ _ h hg q)
      exact ⟨(hG g' e' h).1, by rw [va_up_ne _ _ hne]; exact (hG g' e' h).2⟩
  · by_cases a1 : g' = g
    · by_cases a2 : g'' = g
      · rw [a1, a2]
      · subst a1
        rw [h2 g'' a2] at h''
        exact hi _ _ _ _ hg h'' q
    · rw [h2 g' a1] at h'
      by_cases a2 : g'' = g
      · subst a2
        exact hi _ _ _ _ h' hg q
      · rw [h2 g'' a2] at h''
        exact hi _ _ _ _ h' h'' q
/-- the array classes, by their numbers -/
abbrev ztys (cy : Nat → ClassId) : List (ClassId × FieldType) := [(cy 0, .byte), (cy 1, .int), (cy 2, .long), (cy 3, .boolean), (cy 4, .object "RunClasses$Controller"), (cy 5, .object "RunClasses$Edition"), (cy 6, .object "RunClasses$Loaded")]
section ZR
variable {p : Program} {l : Launch} {e : Env} {R : Room} {s : State} {m : MethodId} {args : Array Value} {below : List Frame} {meth : Method} {c : Code} {H : Heap} {locs : List Loc} {cells slots : Nat} {Q : State → Prop}
variable {cc : ByteArray} {nL pc : Nat} {ls : Array Slot} {rest : List Value} {D : va_G} {A : Nat → Prop} {tys : List (ClassId × FieldType)} {H0 : Heap} {Ts : List Cond} {own : String} {ι : Type} {ad : ι → Nat} {G : ι → Option va_E}
theorem zr_get (S : CallFix p m c cc nL s args Ts own) {C ref : String} {T : u_T} {N ci index : Nat} (hin : ∀ w ∈ u_ws C T N, w ∈ Ts) (hK : va_K D vwCl tys s) (hw : zw D A ad G H) {g : ι} {fs : List Value} (he : G g = some (.inr (ci, fs))) (hc : vwCl[ci]? = some (C, T, N)) (k : Nat) (hk : k < N) (hlink : Cond.fieldLink own index ref (T k).2.1 (T k).2.2.1 ∈ Ts) (hsame : ∀ x, s.fieldFound? (T k).1 (T k).2.1 (T k).2.2.1 = some x → s.fieldFound? ref (T k).2.1 (T k).2.2.1 = some x) {v : Value} (hv : fs[k]? = some v) (hdg : decode cc pc = .ok (.getfield index, 3))
    (kk : W p l e R s m args below meth c H locs cells slots Q (F0 m (pc + 3) ls (v :: rest))) : W p l e R s m args below meth c H locs cells slots Q (F0 m pc ls (.ref (ad g) :: rest)) := by
  obtain ⟨hx, hb, hml, hown, hts⟩ := S
  exact va_get (D := D) (cl := vwCl) (ws := [(ad g, .inr (ci, fs))]) hx hb hts hin hown hK (fun j q hj => by
    match j, hj with
    | 0, hj => cases hj; exact zw_at hw he
    | j + 1, hj => simp at hj) 0 rfl hc k hk (hts _ hlink) hsame hv hdg kk
theorem zr_put (S : CallFix p m c cc nL s args Ts own) {C ref : String} {T : u_T} {N ci index : Nat} (hin : ∀ w ∈ u_ws C T N, w ∈ Ts) (ty0 : Nat → FieldType) (hty : ∀ k, k < N → parseFieldDescriptor (T k).2.2.1 = some (ty0 k)) (hnm : ∀ a, a < N → ∀ b, b < N → a ≠ b → (T a).2.1 ≠ (T b).2.1) (hK : va_K D vwCl tys s) (hw : zw D A ad G H) (hS0 : va_S A H0 H locs) {g : ι} {fs : List Value} (he : G g = some (.inr (ci, fs))) (hc : vwCl[ci]? = some (C, T, N)) (k : Nat) (hk : k < N) (hlink : Cond.fieldLink own index ref (T k).2.1 (T k).2.2.1 ∈ Ts) (hsame : ∀ x, s.fieldFound? (T k).1 (T k).2.1 (T k).2.2.1 = some x → s.fieldFound? ref (T k).2.1 (T k).2.2.1 = some x) (hfin : (T k).2.2.2 = false) {ty : FieldType} {v : Value} (hd : parseFieldDescriptor (T k).2.2.1 = some ty) (hn : narrow ty v = v) (hfit : fits ty v = true) (hl : k < fs.length) (hdg : decode cc pc = .ok (.putfield index, 3))
    {G1 : ι → Option va_E} (h1 : G1 g = some (.inr (ci, fs.set k v))) (h2 : ∀ g', g' ≠ g → G1 g' = G g')
    (kk : ∀ (H1 : Heap) (locs1 : List Loc), zw D A ad G1 H1 → va_S A H0 H1 locs1 → W p l e R s m args below meth c H1 locs1 cells slots Q (F0 m (pc + 3) ls rest)) : W p l e R s m args below meth c H locs cells slots Q (F0 m pc ls (v :: .ref (ad g) :: rest)) := by
  obtain ⟨hx, hb, hml, hown, hts⟩ := S
  obtain ⟨⟨L, F, hP, hD, hG⟩, hi⟩ := hw
  obtain ⟨hL, hF⟩ := hG g _ he
  obtain ⟨k0, hk0⟩ := va_pl_get (X := []) (f := F) hL
  have hk1 : (va_pl L F)[k0]? = some (ad g, .inr (ci, fs)) := by rw [← hF]; exact hk0
  exact va_put (D := D) (cl := vwCl) hx hb hts hin ty0 hty hnm hown hK hP hD hS0 k0 hk1 hc k hk (hts _ hlink) hsame hfin hd hn hfit hl hdg fun H1 locs1 hP1 hD1 hS1 => kk H1 locs1 (zw_set hG hi he hD hk0 hP1 hD1 h1 h2) hS1
theorem zr_iald (S : CallFix p m c cc nL s args Ts own) (hK : va_K D vwCl tys s) (hw : zw D A ad G H) {g : ι} (t0 : Nat) {cA : ClassId} {n : Nat} {f : Nat → Int32} (ha : G g = some (.inl (cA, n, .inl f))) (ht : tys[t0]? = some (cA, .int)) {i : Int32} (hin : vp_in i n) (hdg : decode cc pc = .ok (.iaload, 1))
    (kk : W p l e R s m args below meth c H locs cells slots Q (F0 m (pc + 1) ls (.int (f i.toNatClampNeg) :: rest))) : W p l e R s m args below meth c H locs cells slots Q (F0 m pc ls (.int i :: .ref (ad g) :: rest)) := by
  obtain ⟨hx, hb, hml, hown, hts⟩ := S
  exact va_iald (D := D) (cl := vwCl) (ws := [(ad g, .inl (cA, n, .inl f))]) hx hb hK (fun j q hj => by
    match j, hj with
    | 0, hj => cases hj; exact zw_at hw ha
    | j + 1, hj => simp at hj) 0 t0 rfl ht hin hdg kk
theorem zr_bald (S : CallFix p m c cc nL s args Ts own) (hK : va_K D vwCl tys s) (hw : zw D A ad G H) {g : ι} (t0 : Nat) {cA : ClassId} {n : Nat} {f : Nat → Int32} (ha : G g = some (.inl (cA, n, .inl f))) (ht : tys[t0]? = some (cA, .byte)) {i : Int32} (hin : vp_in i n) (hdg : decode cc pc = .ok (.baload, 1))
    (kk : W p l e R s m args below meth c H locs cells slots Q (F0 m (pc + 1) ls (.int (f i.toNatClampNeg) :: rest))) : W p l e R s m args below meth c H locs cells slots Q (F0 m pc ls (.int i :: .ref (ad g) :: rest)) := by
  obtain ⟨hx, hb, hml, hown, hts⟩ := S
  exact va_bald (D := D) (cl := vwCl) (ws := [(ad g, .inl (cA, n, .inl f))]) hx hb hK (fun j q hj => by
    match j, hj with
    | 0, hj => cases hj; exact zw_at hw ha
    | j + 1, hj => simp at hj) 0 t0 rfl ht hin hdg kk
theorem zr_zald (S : CallFix p m c cc nL s args Ts own) (hK : va_K D vwCl tys s) (hw : zw D A ad G H) {g : ι} (t0 : Nat) {cA : ClassId} {n : Nat} {f : Nat → Int32} (ha : G g = some (.inl (cA, n, .inl f))) (ht : tys[t0]? = some (cA, .boolean)) {i : Int32} (hin : vp_in i n) (hdg : decode cc pc = .ok (.baload, 1))
    (kk : W p l e R s m args below meth c H locs cells slots Q (F0 m (pc + 1) ls (.int (f i.toNatClampNeg) :: rest))) : W p l e R s m args below meth c H locs cells slots Q (F0 m pc ls (.int i :: .ref (ad g) :: rest)) := by
  obtain ⟨hx, hb, hml, hown, hts⟩ := S
  exact va_zald (D := D) (cl := vwCl) (ws := [(ad g, .inl (cA, n, .inl f))]) hx hb hK (fun j q hj => by
    match j, hj with
    | 0, hj => cases hj; exact zw_at hw ha
    | j + 1, hj => simp at hj) 0 t0 rfl ht hin hdg kk
theorem zr_lald (S : CallFix p m c cc nL s args Ts own) (hK : va_K D vwCl tys s) (hw : zw D A ad G H) {g : ι} (t0 : Nat) {cA : ClassId} {n : Nat} {f : Nat → Int64} (ha : G g = some (.inl (cA, n, .inr (.inl f)))) (ht : tys[t0]? = some (cA, .long)) {i : Int32} (hin : vp_in i n) (hdg : decode cc pc = .ok (.laload, 1))
    (kk : W p l e R s m args below meth c H locs cells slots Q (F0 m (pc + 1) ls (.long (f i.toNatClampNeg) :: rest))) : W p l e R s m args below meth c H locs cells slots Q (F0 m pc ls (.int i :: .ref (ad g) :: rest)) := by
  obtain ⟨hx, hb, hml, hown, hts⟩ := S
  exact va_lald (D := D) (cl := vwCl) (ws := [(ad g, .inl (cA, n, .inr (.inl f)))]) hx hb hK (fun j q hj => by
    match j, hj with
    | 0, hj => cases hj; exact zw_at hw ha
    | j + 1, hj => simp at hj) 0 t0 rfl ht hin hdg kk
theorem zr_aald (S : CallFix p m c cc nL s args Ts own) (hK : va_K D vwCl tys s) (hw : zw D A ad G H) {g : ι} (t0 : Nat) {cA : ClassId} {C : String} {n : Nat} {f : Nat → Option Nat} (ha : G g = some (.inl (cA, n, .inr (.inr (.inr (.inr f)))))) (ht : tys[t0]? = some (cA, .object C)) {i : Int32} (hin : vp_in i n) (hdg : decode cc pc = .ok (.aaload, 1))
    (kk : W p l e R s m args below meth c H locs cells slots Q (F0 m (pc + 1) ls (va_rf (f i.toNatClampNeg) :: rest))) : W p l e R s m args below meth c H locs cells slots Q (F0 m pc ls (.int i :: .ref (ad g) :: rest)) := by
  obtain ⟨hx, hb, hml, hown, hts⟩ := S
  exact va_aldq (D := D) (cl := vwCl) (ws := [(ad g, .inl (cA, n, .inr (.inr (.inr (.inr f)))))]) hx hb hK (fun j q hj => by
    match j, hj with
    | 0, hj => cases hj; exact zw_at hw ha
    | j + 1, hj => simp at hj) 0 t0 rfl ht hin hdg kk
theorem zr_alen (S : CallFix p m c cc nL s args Ts own) (hK : va_K D vwCl tys s) (hw : zw D A ad G H) {g : ι} (t0 : Nat) {cA : ClassId} {x : vp_A} {ty : FieldType} (ha : G g = some (.inl (cA, x))) (ht : tys[t0]? = some (cA, ty)) {v : Int32} (hv : Int32.ofNat x.1 = v) (hdg : decode cc pc = .ok (.arraylength, 1))
    (kk : W p l e R s m args below meth c H locs cells slots Q (F0 m (pc + 1) ls (.int v :: rest))) : W p l e R s m args below meth c H locs cells slots Q (F0 m pc ls (.ref (ad g) :: rest)) := by
  obtain ⟨hx, hb, hml, hown, hts⟩ := S
  exact va_alen (D := D) (cl := vwCl) (ws := [(ad g, .inl (cA, x))]) hx hb hK (fun j q hj => by
    match j, hj with
    | 0, hj => cases hj; exact zw_at hw ha
    | j + 1, hj => simp at hj) 0 t0 rfl ht hv hdg kk
theorem zr_iast (S : CallFix p m c cc nL s args Ts own) (hK : va_K D vwCl tys s) (hw : zw D A ad G H) (hS0 : va_S A H0 H locs) {g : ι} (t0 : Nat) {cA : ClassId} {n : Nat} {f : Nat → Int32} (ha : G g = some (.inl (cA, n, .inl f))) (ht : tys[t0]? = some (cA, .int)) {i x : Int32} (hin : vp_in i n) (hdg : decode cc pc = .ok (.iastore, 1))
    {G1 : ι → Option va_E} (h1 : G1 g = some (.inl (cA, n, .inl (upd f i.toNatClampNeg x)))) (h2 : ∀ g', g' ≠ g → G1 g' = G g')
    (kk : ∀ (H1 : Heap) (locs1 : List Loc), zw D A ad G1 H1 → va_S A H0 H1 locs1 → W p l e R s m args below meth c H1 locs1 cells slots Q (F0 m (pc + 1) ls rest)) : W p l e R s m args below meth c H locs cells slots Q (F0 m pc ls (.int x :: .int i :: .ref (ad g) :: rest)) := by
  obtain ⟨hx, hb, hml, hown, hts⟩ := S
  obtain ⟨⟨L, F, hP, hD, hG⟩, hi⟩ := hw
  obtain ⟨hL, hF⟩ := hG g _ ha
  obtain ⟨k0, hk0⟩ := va_pl_get (X := []) (f := F) hL
  have hk1 : (va_pl L F)[k0]? = some (ad g, .inl (cA, n, .inl f)) := by rw [← hF]; exact hk0
  exact va_iast (D := D) (cl := vwCl) hx hb hK hP hD hS0 k0 t0 hk1 ht hin hdg fun H1 locs1 hP1 hD1 hS1 => kk H1 locs1 (zw_set hG hi ha hD hk0 hP1 hD1 h1 h2) hS1
theorem zr_bast (S : CallFix p m c cc nL s args Ts own) (hK : va_K D vwCl tys s) (hw : zw D A ad G H) (hS0 : va_S A H0 H locs) {g : ι} (t0 : Nat) {cA : ClassId} {n : Nat} {f : Nat → Int32} (ha : G g = some (.inl (cA, n, .inl f))) (ht : tys[t0]? = some (cA, .byte)) {i x : Int32} (hin : vp_in i n) (hdg : decode cc pc = .ok (.bastore, 1))
    {G1 : ι → Option va_E} (h1 : G1 g = some (.inl (cA, n, .inl (upd f i.toNatClampNeg (vp_nar .byte x))))) (h2 : ∀ g', g' ≠ g → G1 g' = G g')
    (kk : ∀ (H1 : Heap) (locs1 : List Loc), zw D A ad G1 H1 → va_S A H0 H1 locs1 → W p l e R s m args below meth c H1 locs1 cells slots Q (F0 m (pc + 1) ls rest)) : W p l e R s m args below meth c H locs cells slots Q (F0 m pc ls (.int x :: .int i :: .ref (ad g) :: rest)) := by
  obtain ⟨hx, hb, hml, hown, hts⟩ := S
  obtain ⟨⟨L, F, hP, hD, hG⟩, hi⟩ := hw
  obtain ⟨hL, hF⟩ := hG g _ ha
  obtain ⟨k0, hk0⟩ := va_pl_get (X := []) (f := F) hL
  have hk1 : (va_pl L F)[k0]? = some (ad g, .inl (cA, n, .inl f)) := by rw [← hF]; exact hk0
  exact va_bast (D := D) (cl := vwCl) hx hb hK hP hD hS0 k0 t0 hk1 ht hin hdg fun H1 locs1 hP1 hD1 hS1 => kk H1 locs1 (zw_set hG hi ha hD hk0 hP1 hD1 h1 h2) hS1
theorem zr_zast (S : CallFix p m c cc nL s args Ts own) (hK : va_K D vwCl tys s) (hw : zw D A ad G H) (hS0 : va_S A H0 H locs) {g : ι} (t0 : Nat) {cA : ClassId} {n : Nat} {f : Nat → Int32} (ha : G g = some (.inl (cA, n, .inl f))) (ht : tys[t0]? = some (cA, .boolean)) {i x : Int32} (hin : vp_in i n) (hdg : decode cc pc = .ok (.bastore, 1))
    {G1 : ι → Option va_E} (h1 : G1 g = some (.inl (cA, n, .inl (upd f i.toNatClampNeg (vp_nar .boolean x))))) (h2 : ∀ g', g' ≠ g → G1 g' = G g')
    (kk : ∀ (H1 : Heap) (locs1 : List Loc), zw D A ad G1 H1 → va_S A H0 H1 locs1 → W p l e R s m args below meth c H1 locs1 cells slots Q (F0 m (pc + 1) ls rest)) : W p l e R s m args below meth c H locs cells slots Q (F0 m pc ls (.int x :: .int i :: .ref (ad g) :: rest)) := by
  obtain ⟨hx, hb, hml, hown, hts⟩ := S
  obtain ⟨⟨L, F, hP, hD, hG⟩, hi⟩ := hw
  obtain ⟨hL, hF⟩ := hG g _ ha
  obtain ⟨k0, hk0⟩ := va_pl_get (X := []) (f := F) hL
  have hk1 : (va_pl L F)[k0]? = some (ad g, .inl (cA, n, .inl f)) := by rw [← hF]; exact hk0
  exact va_zast (D := D) (cl := vwCl) hx hb hK hP hD hS0 k0 t0 hk1 ht hin hdg fun H1 locs1 hP1 hD1 hS1 => kk H1 locs1 (zw_set hG hi ha hD hk0 hP1 hD1 h1 h2) hS1
theorem zr_last (S : CallFix p m c cc nL s args Ts own) (hK : va_K D vwCl tys s) (hw : zw D A ad G H) (hS0 : va_S A H0 H locs) {g : ι} (t0 : Nat) {cA : ClassId} {n : Nat} {f : Nat → Int64} (ha : G g = some (.inl (cA, n, .inr (.inl f)))) (ht : tys[t0]? = some (cA, .long)) {i : Int32} {x : Int64} (hin : vp_in i n) (hdg : decode cc pc = .ok (.lastore, 1))
    {G1 : ι → Option va_E} (h1 : G1 g = some (.inl (cA, n, .inr (.inl (vp_updL f i.toNatClampNeg x))))) (h2 : ∀ g', g' ≠ g → G1 g' = G g')
    (kk : ∀ (H1 : Heap) (locs1 : List Loc), zw D A ad G1 H1 → va_S A H0 H1 locs1 → W p l e R s m args below meth c H1 locs1 cells slots Q (F0 m (pc + 1) ls rest)) : W p l e R s m args below meth c H locs cells slots Q (F0 m pc ls (.long x :: .int i :: .ref (ad g) :: rest)) := by
  obtain ⟨hx, hb, hml, hown, hts⟩ := S
  obtain ⟨⟨L, F, hP, hD, hG⟩, hi⟩ := hw
  obtain ⟨hL, hF⟩ := hG g _ ha
  obtain ⟨k0, hk0⟩ := va_pl_get (X := []) (f := F) hL
  have hk1 : (va_pl L F)[k0]? = some (ad g, .inl (cA, n, .inr (.inl f))) := by rw [← hF]; exact hk0
  exact va_last (D := D) (cl := vwCl) hx hb hK hP hD hS0 k0 t0 hk1 ht hin hdg fun H1 locs1 hP1 hD1 hS1 => kk H1 locs1 (zw_set hG hi ha hD hk0 hP1 hD1 h1 h2) hS1
end ZR
end
section
/-! ===== the reference: what a state of it is; its one object and its rows, by the number of the field ===== -/
abbrev MS : Type := (Nat → Int32) × (Nat → Nat → Int32) × (Nat → Nat → Int64)
def mi (τ : MS) (k : Nat) : Int32 := τ.1 k
def mr (τ : MS) (k : Nat) : Nat → Int32 := τ.2.1 k
def mj (τ : MS) (k : Nat) : Nat → Int64 := τ.2.2 k
def mI (τ : MS) (k : Nat) (v : Int32) : MS := (va_up τ.1 k v, τ.2)
def mR (τ : MS) (k i : Nat) (v : Int32) : MS := (τ.1, va_up τ.2.1 k (upd (τ.2.1 k) i v), τ.2.2)
def mJ (τ : MS) (k i : Nat) (v : Int64) : MS := (τ.1, τ.2.1, va_up τ.2.2 k (vp_updL (τ.2.2 k) i v))
theorem mi_I (τ : MS) (k j : Nat) (v : Int32) : mi (mI τ k v) j = if j = k then v else mi τ j := rfl
theorem mr_I (τ : MS) (k j : Nat) (v : Int32) : mr (mI τ k v) j = mr τ j := rfl
theorem mj_I (τ : MS) (k j : Nat) (v : Int32) : mj (mI τ k v) j = mj τ j := rfl
theorem mi_R (τ : MS) (k i j : Nat) (v : Int32) : mi (mR τ k i v) j = mi τ j := rfl
theorem mr_R (τ : MS) (k i j : Nat) (v : Int32) : mr (mR τ k i v) j = if j = k then upd (mr τ k) i v else mr τ j := rfl
theorem mj_R (τ : MS) (k i j : Nat) (v : Int32) : mj (mR τ k i v) j = mj τ j := rfl
theorem mi_J (τ : MS) (k i j : Nat) (v : Int64) : mi (mJ τ k i v) j = mi τ j := rfl
theorem mr_J (τ : MS) (k i j : Nat) (v : Int64) : mr (mJ τ k i v) j = mr τ j := rfl
theorem mj_J (τ : MS) (k i j : Nat) (v : Int64) : mj (mJ τ k i v) j = if j = k then vp_updL (mj τ k) i v else mj τ j := rfl
def mF (ad : Nat → Nat) (τ : MS) : List Value := [.int (mi τ 0), .int (mi τ 1), .int (mi τ 2), .int (mi τ 3), .ref (ad 4), .int (mi τ 5), .ref (ad 6), .ref (ad 7), .ref (ad 8), .ref (ad 9), .ref (ad 10), .ref (ad 11), .ref (ad 12), .ref (ad 13), .ref (ad 14), .ref (ad 15), .ref (ad 16), .ref (ad 17), .ref (ad 18), .ref (ad 19), .ref (ad 20), .ref (ad 21), .ref (ad 22), .ref (ad 23), .ref (ad 24), .ref (ad 25), .int (mi τ 26), .ref (ad 27), .int (mi τ 28), .int (mi τ 29), .int (mi τ 30), .ref (ad 31), .ref (ad 32)]
def mG (cy : Nat → ClassId) (ad : Nat → Nat) (τ : MS) : Nat → Option va_E := fun g => match g with
  | 0 => some (.inr (7, mF ad τ))
  | 4 => some (.inl (cy 0, 120, .inl (mr τ 4)))
  | 6 => some (.inl (cy 1, 21, .inl (mr τ 6)))
  | 7 => some (.inl (cy 0, 21600, .inl (mr τ 7)))
  | 8 => some (.inl (cy 1, 180, .inl (mr τ 8)))
  | 9 => some (.inl (cy 1, 180, .inl (mr τ 9)))
  | 10 => some (.inl (cy 1, 180, .inl (mr τ 10)))
  | 11 => some (.inl (cy 1, 180, .inl (mr τ 11)))
  | 12 => some (.inl (cy 1, 180, .inl (mr τ 12)))
  | 13 => some (.inl (cy 2, 64, .inr (.inl (mj τ 13))))
  | 14 => some (.inl (cy 3, 8, .inl (mr τ 14)))
  | 15 => some (.inl (cy 1, 8, .inl (mr τ 15)))
  | 16 => some (.inl (cy 1, 8, .inl (mr τ 16)))
  | 17 => some (.inl (cy 1, 8, .inl (mr τ 17)))
  | 18 => some (.inl (cy 1, 8, .inl (mr τ 18)))
  | 19 => some (.inl (cy 1, 8, .inl (mr τ 19)))
  | 20 => some (.inl (cy 1, 8, .inl (mr τ 20)))
  | 21 => some (.inl (cy 1, 160, .inl (mr τ 21)))
  | 22 => some (.inl (cy 2, 1280, .inr (.inl (mj τ 22))))
  | 23 => some (.inl (cy 3, 160, .inl (mr τ 23)))
  | 24 => some (.inl (cy 1, 160, .inl (mr τ 24)))
  | 25 => some (.inl (cy 1, 160, .inl (mr τ 25)))
  | 27 => some (.inl (cy 2, 16, .inr (.inl (mj τ 27))))
  | 31 => some (.inl (cy 2, 8, .inr (.inl (mj τ 31))))
  | 32 => some (.inl (cy 2, 8, .inr (.inl (mj τ 32))))
  | _ => none
theorem mput_0 (cy : Nat → ClassId) (ad : Nat → Nat) (τ : MS) (v : Int32) : mG cy ad (mI τ 0 v) 0 = some (.inr (7, (mF ad τ).set 0 (.int v))) := rfl
theorem mput_1 (cy : Nat → ClassId) (ad : Nat → Nat) (τ : MS) (v : Int32) : mG cy ad (mI τ 1 v) 0 = some (.inr (7, (mF ad τ).set 1 (.int v))) := rfl
theorem mput_2 (cy : Nat → ClassId) (ad : Nat → Nat) (τ : MS) (v : Int32) : mG cy ad (mI τ 2 v) 0 = some (.inr (7, (mF ad τ).set 2 (.int v))) := rfl
theorem mput_3 (cy : Nat → ClassId) (ad : Nat → Nat) (τ : MS) (v : Int32) : mG cy ad (mI τ 3 v) 0 = some (.inr (7, (mF ad τ).set 3 (.int v))) := rfl
theorem mput_5 (cy : Nat → ClassId) (ad : Nat → Nat) (τ : MS) (v : Int32) : mG cy ad (mI τ 5 v) 0 = some (.inr (7, (mF ad τ).set 5 (.int v))) := rfl
theorem mput_26 (cy : Nat → ClassId) (ad : Nat → Nat) (τ : MS) (v : Int32) : mG cy ad (mI τ 26 v) 0 = some (.inr (7, (mF ad τ).set 26 (.int v))) := rfl
theorem mput_28 (cy : Nat → ClassId) (ad : Nat → Nat) (τ : MS) (v : Int32) : mG cy ad (mI τ 28 v) 0 = some (.inr (7, (mF ad τ).set 28 (.int v))) := rfl
theorem mput_29 (cy : Nat → ClassId) (ad : Nat → Nat) (τ : MS) (v : Int32) : mG cy ad (mI τ 29 v) 0 = some (.inr (7, (mF ad τ).set 29 (.int v))) := rfl
theorem mput_30 (cy : Nat → ClassId) (ad : Nat → Nat) (τ : MS) (v : Int32) : mG cy ad (mI τ 30 v) 0 = some (.inr (7, (mF ad τ).set 30 (.int v))) := rfl
theorem mG_I (cy : Nat → ClassId) (ad : Nat → Nat) (τ : MS) (k : Nat) (v : Int32) : ∀ g, g ≠ 0 → mG cy ad (mI τ k v) g = mG cy ad τ g := by
  intro g hg
  unfold mG
  split <;> first | exact absurd rfl hg | rfl
theorem mG_R (cy : Nat → ClassId) (ad : Nat → Nat) (τ : MS) (k i : Nat) (v : Int32) : ∀ g, g ≠ k → mG cy ad (mR τ k i v) g = mG cy ad τ g := by
  intro g hg
  unfold mG
  split <;> first | rfl | (simp only [mr_R, if_neg hg])
theorem mG_J (cy : Nat → ClassId) (ad : Nat → Nat) (τ : MS) (k i : Nat) (v : Int64) : ∀ g, g ≠ k → mG cy ad (mJ τ k i v) g = mG cy ad τ g := by
  intro g hg
  unfold mG
  split <;> first | rfl | (simp only [mj_J, if_neg hg])
/-- the reference stands in the state U as τ says -/
def MWs (D : va_G) (cy : Nat → ClassId) (A : Nat → Prop) (ad : Nat → Nat) (τ : MS) (U : State) : Prop := zw D A ad (mG cy ad τ) U.heap ∧ va_K D vwCl (ztys cy) U
def MWp (D : va_G) (cy : Nat → ClassId) (A : Nat → Prop) (ad : Nat → Nat) (τ : MS) (t : State) : Prop := zw D A ad (mG cy ad τ) t.heap
section MRW
variable {p : Program} {l : Launch} {e : Env} {R : Room} {s : State} {m : MethodId} {args : Array Value} {below : List Frame} {meth : Method} {c : Code} {H : Heap} {locs : List Loc} {cells slots : Nat} {Q : State → Prop}
variable {cc : ByteArray} {nL pc : Nat} {ls : Array Slot} {rest : List Value} {D : va_G} {A : Nat → Prop} {cy : Nat → ClassId} {H0 : Heap} {Ts : List Cond} {ad : Nat → Nat} {τ : MS}
theorem mr_get (S : CallFix p m c cc nL s args Ts RX7) (h7 : ∀ w ∈ wsX70, w ∈ Ts) (hK : va_K D vwCl (ztys cy) s) (hw : zw D A ad (mG cy ad τ) H) (k : Nat) (hk : k < 33) {index : Nat} (hlink : Cond.fieldLink RX7 index "RunClassesModel" (TX7 k).2.1 (TX7 k).2.2.1 ∈ Ts) (hown : (TX7 k).1 = "RunClassesModel") {v : Value} (hv : (mF ad τ)[k]? = some v) (hdg : decode cc pc = .ok (.getfield index, 3))
    (kk : W p l e R s m args below meth c H locs cells slots Q (F0 m (pc + 3) ls (v :: rest))) : W p l e R s m args below meth c H locs cells slots Q (F0 m pc ls (.ref (ad 0) :: rest)) :=
  zr_get (C := RX7) (T := TX7) (N := 33) (ci := 7) (g := 0) S h7 hK hw rfl rfl k hk hlink (fun x h => by rw [hown] at h; exact h) hv hdg kk
theorem mr_put (S : CallFix p m c cc nL s args Ts RX7) (h7 : ∀ w ∈ wsX70, w ∈ Ts) (hK : va_K D vwCl (ztys cy) s) (hw : zw D A ad (mG cy ad τ) H) (hS : va_S A H0 H locs) (k : Nat) (hk : k < 33) {index : Nat} (hlink : Cond.fieldLink RX7 index "RunClassesModel" (TX7 k).2.1 (TX7 k).2.2.1 ∈ Ts) (hown : (TX7 k).1 = "RunClassesModel") (hfin : (TX7 k).2.2.2 = false) (hti : tyX7 k = .int) {v : Int32} (hp : mG cy ad (mI τ k v) 0 = some (.inr (7, (mF ad τ).set k (.int v)))) (hdg : decode cc pc = .ok (.putfield index, 3))
    (kk : ∀ (H1 : Heap) (locs1 : List Loc), zw D A ad (mG cy ad (mI τ k v)) H1 → va_S A H0 H1 locs1 → W p l e R s m args below meth c H1 locs1 cells slots Q (F0 m (pc + 3) ls rest)) : W p l e R s m args below meth c H locs cells slots Q (F0 m pc ls (.int v :: .ref (ad 0) :: rest)) :=
  zr_put (C := RX7) (T := TX7) (N := 33) (ci := 7) (g := 0) S h7 tyX7 tyX7_ok nmX7 hK hw hS rfl rfl k hk hlink (fun x h => by rw [hown] at h; exact h) hfin (by rw [tyX7_ok k hk, hti]) rfl rfl (by simpa [mF] using hk) hdg hp (mG_I cy ad τ k v) kk
theorem mr_iald (S : CallFix p m c cc nL s args Ts RX7) (hK : va_K D vwCl (ztys cy) s) (hw : zw D A ad (mG cy ad τ) H) (k : Nat) {n : Nat} (ha : mG cy ad τ k = some (.inl (cy 1, n, .inl (mr τ k)))) {i : Int32} (hin : vp_in i n) (hdg : decode cc pc = .ok (.iaload, 1))
    (kk : W p l e R s m args below meth c H locs cells slots Q (F0 m (pc + 1) ls (.int (mr τ k i.toNatClampNeg) :: rest))) : W p l e R s m args below meth c H locs cells slots Q (F0 m pc ls (.int i :: .ref (ad k) :: rest)) :=
  zr_iald S hK hw 1 ha rfl hin hdg kk
theorem mr_bald (S : CallFix p m c cc nL s args Ts RX7) (hK : va_K D vwCl (ztys cy) s) (hw : zw D A ad (mG cy ad τ) H) (k : Nat) {n : Nat} (ha : mG cy ad τ k = some (.inl (cy 0, n, .inl (mr τ k)))) {i : Int32} (hin : vp_in i n) (hdg : decode cc pc = .ok (.baload, 1))
    (kk : W p l e R s m args below meth c H locs cells slots Q (F0 m (pc + 1) ls (.int (mr τ k i.toNatClampNeg) :: rest))) : W p l e R s m args below meth c H locs cells slots Q (F0 m pc ls (.int i :: .ref (ad k) :: rest)) :=
  zr_bald S hK hw 0 ha rfl hin hdg kk
theorem mr_zald (S : CallFix p m c cc nL s args Ts RX7) (hK : va_K D vwCl (ztys cy) s) (hw : zw D A ad (mG cy ad τ) H) (k : Nat) {n : Nat} (ha : mG cy ad τ k = some (.inl (cy 3, n, .inl (mr τ k)))) {i : Int32} (hin : vp_in i n) (hdg : decode cc pc = .ok (.baload, 1))
    (kk : W p l e R s m args below meth c H locs cells slots Q (F0 m (pc + 1) ls (.int (mr τ k i.toNatClampNeg) :: rest))) : W p l e R s m args below meth c H locs cells slots Q (F0 m pc ls (.int i :: .ref (ad k) :: rest)) :=
  zr_zald S hK hw 3 ha rfl hin hdg kk
theorem mr_lald (S : CallFix p m c cc nL s args Ts RX7) (hK : va_K D vwCl (ztys cy) s) (hw : zw D A ad (mG cy ad τ) H) (k : Nat) {n : Nat} (ha : mG cy ad τ k = some (.inl (cy 2, n, .inr (.inl (mj τ k))))) {i : Int32} (hin : vp_in i n) (hdg : decode cc pc = .ok (.laload, 1))
    (kk : W p l e R s m args below meth c H locs cells slots Q (F0 m (pc + 1) ls (.long (mj τ k i.toNatClampNeg) :: rest))) : W p l e R s m args below meth c H locs cells slots Q (F0 m pc ls (.int i :: .ref (ad k) :: rest)) :=
  zr_lald S hK hw 2 ha rfl hin hdg kk
theorem mr_iast (S : CallFix p m c cc nL s args Ts RX7) (hK : va_K D vwCl (ztys cy) s) (hw : zw D A ad (mG cy ad τ) H) (hS : va_S A H0 H locs) (k : Nat) {n : Nat} (ha : mG cy ad τ k = some (.inl (cy 1, n, .inl (mr τ k)))) {i x : Int32} (hin : vp_in i n) (hp : mG cy ad (mR τ k i.toNatClampNeg x) k = some (.inl (cy 1, n, .inl (upd (mr τ k) i.toNatClampNeg x)))) (hdg : decode cc pc = .ok (.iastore, 1))
    (kk : ∀ (H1 : Heap) (locs1 : List Loc), zw D A ad (mG cy ad (mR τ k i.toNatClampNeg x)) H1 → va_S A H0 H1 locs1 → W p l e R s m args below meth c H1 locs1 cells slots Q (F0 m (pc + 1) ls rest)) : W p l e R s m args below meth c H locs cells slots Q (F0 m pc ls (.int x :: .int i :: .ref (ad k) :: rest)) :=
  zr_iast S hK hw hS 1 ha rfl hin hdg hp (mG_R cy ad τ k _ _) kk
theorem mr_bast (S : CallFix p m c cc nL s args Ts RX7) (hK : va_K D vwCl (ztys cy) s) (hw : zw D A ad (mG cy ad τ) H) (hS : va_S A H0 H locs) (k : Nat) {n : Nat} (ha : mG cy ad τ k = some (.inl (cy 0, n, .inl (mr τ k)))) {i x : Int32} (hin : vp_in i n) (hp : mG cy ad (mR τ k i.toNatClampNeg (vp_nar .byte x)) k = some (.inl (cy 0, n, .inl (upd (mr τ k) i.toNatClampNeg (vp_nar .byte x))))) (hdg : decode cc pc = .ok (.bastore, 1))
    (kk : ∀ (H1 : Heap) (locs1 : List Loc), zw D A ad (mG cy ad (mR τ k i.toNatClampNeg (vp_nar .byte x))) H1 → va_S A H0 H1 locs1 → W p l e R s m args below meth c H1 locs1 cells slots Q (F0 m (pc + 1) ls rest)) : W p l e R s m args below meth c H locs cells slots Q (F0 m pc ls (.int x :: .int i :: .ref (ad k) :: rest)) :=
  zr_bast S hK hw hS 0 ha rfl hin hdg hp (mG_R cy ad τ k _ _) kk
theorem mr_zast (S : CallFix p m c cc nL s args Ts RX7) (hK : va_K D vwCl (ztys cy) s) (hw : zw D A ad (mG cy ad τ) H) (hS : va_S A H0 H locs) (k : Nat) {n : Nat} (ha : mG cy ad τ k = some (.inl (cy 3, n, .inl (mr τ k)))) {i x : Int32} (hin : vp_in i n) (hp : mG cy ad (mR τ k i.toNatClampNeg (vp_nar .boolean x)) k = some (.inl (cy 3, n, .inl (upd (mr τ k) i.toNatClampNeg (vp_nar .boolean x))))) (hdg : decode cc pc = .ok (.bastore, 1))
    (kk : ∀ (H1 : Heap) (locs1 : List Loc), zw D A ad (mG cy ad (mR τ k i.toNatClampNeg (vp_nar .boolean x))) H1 → va_S A H0 H1 locs1 → W p l e R s m args below meth c H1 locs1 cells slots Q (F0 m (pc + 1) ls rest)) : W p l e R s m args below meth c H locs cells slots Q (F0 m pc ls (.int x :: .int i :: .ref (ad k) :: rest)) :=
  zr_zast S hK hw hS 3 ha rfl hin hdg hp (mG_R cy ad τ k _ _) kk
theorem mr_last (S : CallFix p m c cc nL s args Ts RX7) (hK : va_K D vwCl (ztys cy) s) (hw : zw D A ad (mG cy ad τ) H) (hS : va_S A H0 H locs) (k : Nat) {n : Nat} (ha : mG cy ad τ k = some (.inl (cy 2, n, .inr (.inl (mj τ k))))) {i : Int32} {x : Int64} (hin : vp_in i n) (hp : mG cy ad (mJ τ k i.toNatClampNeg x) k = some (.inl (cy 2, n, .inr (.inl (vp_updL (mj τ k) i.toNatClampNeg x))))) (hdg : decode cc pc = .ok (.lastore, 1))
    (kk : ∀ (H1 : Heap) (locs1 : List Loc), zw D A ad (mG cy ad (mJ τ k i.toNatClampNeg x)) H1 → va_S A H0 H1 locs1 → W p l e R s m args below meth c H1 locs1 cells slots Q (F0 m (pc + 1) ls rest)) : W p l e R s m args below meth c H locs cells slots Q (F0 m pc ls (.long x :: .int i :: .ref (ad k) :: rest)) :=
  zr_last S hK hw hS 2 ha rfl hin hdg hp (mG_J cy ad τ k _ _) kk
theorem mw_blind (av : List Value) : FrameBlind (va_Pc av (MWs D cy A ad τ)) := fun a U g mk q => by
  obtain ⟨q0, qP, qK⟩ := q
  exact ⟨q0, qP, va_K.moved (u := U) (U := U.calling g mk a) (Vm.Alike.refl U.vm) qK⟩
theorem mw_pre (hK : va_K D vwCl (ztys cy) s) (hw : zw D A ad (mG cy ad τ) H) (av : List Value) : ∀ U : State, U.heap = H → s.WarmedH U.vm → va_Pc av (MWs D cy A ad τ) av.toArray U := fun U hU hW => ⟨rfl, by rw [hU]; exact hw, va_K.moved hW.alike hK⟩
theorem zw_recv {ι : Type} {ad : ι → Nat} {G : ι → Option va_E} {tys : List (ClassId × FieldType)} (hK : va_K D vwCl tys s) (hw : zw D A ad G H) {g : ι} {ci : Nat} {fs : List Value} (he : G g = some (.inr (ci, fs))) {q : vw_C} (hc : vwCl[ci]? = some q) : ∃ cell : Cell, H[ad g]? = some cell ∧ cell.vm.isStatics = false ∧ s.vm.findClass q.1 = some cell.cls :=
  va_recv (D := D) (cl := vwCl) (ws := [(ad g, .inr (ci, fs))]) hK (fun j q hj => by
    match j, hj with
    | 0, hj => cases hj; exact zw_at hw he
    | j + 1, hj => simp at hj) hc (q0 := 0) rfl
variable {y : MethodName} {bytes : ByteArray} {maxL n index : Nat} {ret : Option FieldType} {ws ws' : List Cond} {rm : Room} {As st : List Value} {own : String} {τ' : MS}
theorem mw_ci {r : Int32} (S : CallFix p m c cc nL s args Ts own) (hM : Met l y ws rm (va_Pc (.ref (ad 0) :: As) (MWs D cy A ad τ)) (va_Qi (fun r' u => r' = r ∧ u = τ') (MWp D cy A ad) A) 0 0 A) (hG : GoodIn Ts (wsV own index RX7 y ws)) (hws : ws = Cond.code y bytes maxL ret :: ws') (hrm : rm.cells = 0 ∧ rm.slots = 0) (hd : y.cls = RX7 ∧ y.cls ≠ "java/lang/invoke/MethodHandle" ∧ y.cls ≠ "java/lang/invoke/VarHandle" ∧ (parseMethodDescriptor y.desc).map (fun d => d.parameters.length) = some n) (hR : rm.frames + 1 ≤ R.frames ∧ 8 + (maxL + 11) + rm.locals ≤ R.locals) (hn : As.length = n) (hl : ls.size = nL) (hst : st = As.reverse ++ .ref (ad 0) :: rest) (hro : (rest.map fun v => v.category).sum ≤ 8) (hK : va_K D vwCl (ztys cy) s) (hw : zw D A ad (mG cy ad τ) H) (hS : va_S A H0 H locs) (hdg : decode cc pc = .ok (.invokevirtual index, 3)) (hcs : cells + 0 ≤ R.cells ∧ slots + 0 ≤ R.slots)
    (kk : ∀ (H1 : Heap) (locs1 : List Loc), zw D A ad (mG cy ad τ') H1 → va_S A H0 H1 locs1 → W p l e R s m args below meth c H1 locs1 cells slots Q (F0 m (pc + 3) ls (.int r :: rest))) : W p l e R s m args below meth c H locs cells slots Q (F0 m pc ls st) := by
  refine va_calli (va_runV S hM (cwV n S.2.2.2.2 hG hws hrm.1 hrm.2 hd hR) ⟨mw_blind _, zw_recv hK hw (g := 0) (ci := 7) rfl rfl, mw_pre hK hw _⟩ rfl hn hl hst (lv_room hro) hdg hcs) hS (fun q _ h => h) (fun q h => h) (fun r1 u t H1 locs1 ht hvm hq hB hz1 hk1 hS1 => ?_)
  obtain ⟨rfl, rfl⟩ := hq
  subst ht
  exact kk _ _ hB hS1
theorem mw_cl {r : Int64} (S : CallFix p m c cc nL s args Ts own) (hM : Met l y ws rm (va_Pc (.ref (ad 0) :: As) (MWs D cy A ad τ)) (va_Ql (fun r' u => r' = r ∧ u = τ') (MWp D cy A ad) A) 0 0 A) (hG : GoodIn Ts (wsV own index RX7 y ws)) (hws : ws = Cond.code y bytes maxL ret :: ws') (hrm : rm.cells = 0 ∧ rm.slots = 0) (hd : y.cls = RX7 ∧ y.cls ≠ "java/lang/invoke/MethodHandle" ∧ y.cls ≠ "java/lang/invoke/VarHandle" ∧ (parseMethodDescriptor y.desc).map (fun d => d.parameters.length) = some n) (hR : rm.frames + 1 ≤ R.frames ∧ 8 + (maxL + 11) + rm.locals ≤ R.locals) (hn : As.length = n) (hl : ls.size = nL) (hst : st = As.reverse ++ .ref (ad 0) :: rest) (hro : (rest.map fun v => v.category).sum ≤ 8) (hK : va_K D vwCl (ztys cy) s) (hw : zw D A ad (mG cy ad τ) H) (hS : va_S A H0 H locs) (hdg : decode cc pc = .ok (.invokevirtual index, 3)) (hcs : cells + 0 ≤ R.cells ∧ slots + 0 ≤ R.slots)
    (kk : ∀ (H1 : Heap) (locs1 : List Loc), zw D A ad (mG cy ad τ') H1 → va_S A H0 H1 locs1 → W p l e R s m args below meth c H1 locs1 cells slots Q (F0 m (pc + 3) ls (.long r :: rest))) : W p l e R s m args below meth c H locs cells slots Q (F0 m pc ls st) := by
  refine va_calll (va_runV S hM (cwV n S.2.2.2.2 hG hws hrm.1 hrm.2 hd hR) ⟨mw_blind _, zw_recv hK hw (g := 0) (ci := 7) rfl rfl, mw_pre hK hw _⟩ rfl hn hl hst (lv_room hro) hdg hcs) hS (fun q _ h => h) (fun q h => h) (fun r1 u t H1 locs1 ht hvm hq hB hz1 hk1 hS1 => ?_)
  obtain ⟨rfl, rfl⟩ := hq
  subst ht
  exact kk _ _ hB hS1
theorem mw_cv (S : CallFix p m c cc nL s args Ts own) (hM : Met l y ws rm (va_Pc (.ref (ad 0) :: As) (MWs D cy A ad τ)) (va_Qv (fun u => u = τ') (MWp D cy A ad) A) 0 0 A) (hG : GoodIn Ts (wsV own index RX7 y ws)) (hws : ws = Cond.code y bytes maxL ret :: ws') (hrm : rm.cells = 0 ∧ rm.slots = 0) (hd : y.cls = RX7 ∧ y.cls ≠ "java/lang/invoke/MethodHandle" ∧ y.cls ≠ "java/lang/invoke/VarHandle" ∧ (parseMethodDescriptor y.desc).map (fun d => d.parameters.length) = some n) (hR : rm.frames + 1 ≤ R.frames ∧ 8 + (maxL + 11) + rm.locals ≤ R.locals) (hn : As.length = n) (hl : ls.size = nL) (hst : st = As.reverse ++ .ref (ad 0) :: rest) (hro : (rest.map fun v => v.category).sum ≤ 8) (hK : va_K D vwCl (ztys cy) s) (hw : zw D A ad (mG cy ad τ) H) (hS : va_S A H0 H locs) (hdg : decode cc pc = .ok (.invokevirtual index, 3)) (hcs : cells + 0 ≤ R.cells ∧ slots + 0 ≤ R.slots)
    (kk : ∀ (H1 : Heap) (locs1 : List Loc), zw D A ad (mG cy ad τ') H1 → va_S A H0 H1 locs1 → W p l e R s m args below meth c H1 locs1 cells slots Q (F0 m (pc + 3) ls (rest))) : W p l e R s m args below meth c H locs cells slots Q (F0 m pc ls st) := by
  refine va_callv (va_runV S hM (cwV n S.2.2.2.2 hG hws hrm.1 hrm.2 hd hR) ⟨mw_blind _, zw_recv hK hw (g := 0) (ci := 7) rfl rfl, mw_pre hK hw _⟩ rfl hn hl hst (lv_room hro) hdg hcs) hS (fun q _ h => h) (fun q h => h) (fun u t H1 locs1 ht hvm hq hB hz1 hk1 hS1 => ?_)
  subst hq
  subst ht
  exact kk _ _ hB hS1
theorem mw_si {r : Int32} (S : CallFix p m c cc nL s args Ts own) (hM : Met l y ws rm (va_Pc As (MWs D cy A ad τ)) (va_Qi (fun r' u => r' = r ∧ u = τ') (MWp D cy A ad) A) 0 0 A) (hG : GoodIn Ts (va_wsS own index y ws)) (hws : ws = Cond.code y bytes maxL ret :: ws') (hrm : rm.cells = 0 ∧ rm.slots = 0) (hd : y.cls ≠ "java/lang/invoke/MethodHandle" ∧ y.cls ≠ "java/lang/invoke/VarHandle" ∧ (parseMethodDescriptor y.desc).map (fun d => d.parameters.length) = some n) (hR : rm.frames + 1 ≤ R.frames ∧ 8 + (maxL + 11) + rm.locals ≤ R.locals) (hn : As.length = n) (hl : ls.size = nL) (hst : st = As.reverse ++ rest) (hro : (rest.map fun v => v.category).sum ≤ 8) (hK : va_K D vwCl (ztys cy) s) (hw : zw D A ad (mG cy ad τ) H) (hS : va_S A H0 H locs) (hdg : decode cc pc = .ok (.invokestatic index, 3)) (hcs : cells + 0 ≤ R.cells ∧ slots + 0 ≤ R.slots)
    (kk : ∀ (H1 : Heap) (locs1 : List Loc), zw D A ad (mG cy ad τ') H1 → va_S A H0 H1 locs1 → W p l e R s m args below meth c H1 locs1 cells slots Q (F0 m (pc + 3) ls (.int r :: rest))) : W p l e R s m args below meth c H locs cells slots Q (F0 m pc ls st) := by
  refine va_calli (va_runS S hM (va_cwS n S.2.2.2.2 hG hws hrm.1 hrm.2 hd hR) ⟨mw_blind _, mw_pre hK hw _⟩ rfl hn hl hst (lv_room hro) hdg hcs) hS (fun q _ h => h) (fun q h => h) (fun r1 u t H1 locs1 ht hvm hq hB hz1 hk1 hS1 => ?_)
  obtain ⟨rfl, rfl⟩ := hq
  subst ht
  exact kk _ _ hB hS1
theorem mw_sl {r : Int64} (S : CallFix p m c cc nL s args Ts own) (hM : Met l y ws rm (va_Pc As (MWs D cy A ad τ)) (va_Ql (fun r' u => r' = r ∧ u = τ') (MWp D cy A ad) A) 0 0 A) (hG : GoodIn Ts (va_wsS own index y ws)) (hws : ws = Cond.code y bytes maxL ret :: ws') (hrm : rm.cells = 0 ∧ rm.slots = 0) (hd : y.cls ≠ "java/lang/invoke/MethodHandle" ∧ y.cls ≠ "java/lang/invoke/VarHandle" ∧ (parseMethodDescriptor y.desc).map (fun d => d.parameters.length) = some n) (hR : rm.frames + 1 ≤ R.frames ∧ 8 + (maxL + 11) + rm.locals ≤ R.locals) (hn : As.length = n) (hl : ls.size = nL) (hst : st = As.reverse ++ rest) (hro : (rest.map fun v => v.category).sum ≤ 8) (hK : va_K D vwCl (ztys cy) s) (hw : zw D A ad (mG cy ad τ) H) (hS : va_S A H0 H locs) (hdg : decode cc pc = .ok (.invokestatic index, 3)) (hcs : cells + 0 ≤ R.cells ∧ slots + 0 ≤ R.slots)
    (kk : ∀ (H1 : Heap) (locs1 : List Loc), zw D A ad (mG cy ad τ') H1 → va_S A H0 H1 locs1 → W p l e R s m args below meth c H1 locs1 cells slots Q (F0 m (pc + 3) ls (.long r :: rest))) : W p l e R s m args below meth c H locs cells slots Q (F0 m pc ls st) := by
  refine va_calll (va_runS S hM (va_cwS n S.2.2.2.2 hG hws hrm.1 hrm.2 hd hR) ⟨mw_blind _, mw_pre hK hw _⟩ rfl hn hl hst (lv_room hro) hdg hcs) hS (fun q _ h => h) (fun q h => h) (fun r1 u t H1 locs1 ht hvm hq hB hz1 hk1 hS1 => ?_)
  obtain ⟨rfl, rfl⟩ := hq
  subst ht
  exact kk _ _ hB hS1
theorem mw_sv (S : CallFix p m c cc nL s args Ts own) (hM : Met l y ws rm (va_Pc As (MWs D cy A ad τ)) (va_Qv (fun u => u = τ') (MWp D cy A ad) A) 0 0 A) (hG : GoodIn Ts (va_wsS own index y ws)) (hws : ws = Cond.code y bytes maxL ret :: ws') (hrm : rm.cells = 0 ∧ rm.slots = 0) (hd : y.cls ≠ "java/lang/invoke/MethodHandle" ∧ y.cls ≠ "java/lang/invoke/VarHandle" ∧ (parseMethodDescriptor y.desc).map (fun d => d.parameters.length) = some n) (hR : rm.frames + 1 ≤ R.frames ∧ 8 + (maxL + 11) + rm.locals ≤ R.locals) (hn : As.length = n) (hl : ls.size = nL) (hst : st = As.reverse ++ rest) (hro : (rest.map fun v => v.category).sum ≤ 8) (hK : va_K D vwCl (ztys cy) s) (hw : zw D A ad (mG cy ad τ) H) (hS : va_S A H0 H locs) (hdg : decode cc pc = .ok (.invokestatic index, 3)) (hcs : cells + 0 ≤ R.cells ∧ slots + 0 ≤ R.slots)
    (kk : ∀ (H1 : Heap) (locs1 : List Loc), zw D A ad (mG cy ad τ') H1 → va_S A H0 H1 locs1 → W p l e R s m args below meth c H1 locs1 cells slots Q (F0 m (pc + 3) ls (rest))) : W p l e R s m args below meth c H locs cells slots Q (F0 m pc ls st) := by
  refine va_callv (va_runS S hM (va_cwS n S.2.2.2.2 hG hws hrm.1 hrm.2 hd hR) ⟨mw_blind _, mw_pre hK hw _⟩ rfl hn hl hst (lv_room hro) hdg hcs) hS (fun q _ h => h) (fun q h => h) (fun u t H1 locs1 ht hvm hq hB hz1 hk1 hS1 => ?_)
  subst hq
  subst ht
  exact kk _ _ hB hS1
theorem mw_reti {x r : Int32} (S : CallFix p m c cc nL s args Ts own) (hr : meth.sig.returnType = some .int) (hf : some (x, τ) = some (r, τ')) (hw : zw D A ad (mG cy ad τ) H) (hS : va_S A s.heap H locs) (hlocks : meth.locks = false) (hdg : decode cc pc = .ok (.ireturn, 1)) : W p l e R s m args below meth c H locs cells slots (MQ below (va_Qi (fun r' u => r' = r ∧ u = τ') (MWp D cy A ad) A) args s cells slots A) (F0 m pc ls [.int x]) :=
  W.iret (v := x) S.1 S.2.1 hr (fun t ht hW => ⟨⟨x, τ, rfl, ⟨congrArg Prod.fst (Option.some.inj hf), congrArg Prod.snd (Option.some.inj hf)⟩, by unfold MWp; rw [ht]; exact hw⟩, hS.F ht⟩) hS.2.2 hdg hlocks
theorem mw_retl {x r : Int64} (S : CallFix p m c cc nL s args Ts own) (hr : meth.sig.returnType = some .long) (hf : some (x, τ) = some (r, τ')) (hw : zw D A ad (mG cy ad τ) H) (hS : va_S A s.heap H locs) (hlocks : meth.locks = false) (hdg : decode cc pc = .ok (.lreturn, 1)) : W p l e R s m args below meth c H locs cells slots (MQ below (va_Ql (fun r' u => r' = r ∧ u = τ') (MWp D cy A ad) A) args s cells slots A) (F0 m pc ls [.long x]) :=
  W.lret (v := x) S.1 S.2.1 hr (fun t ht hW => ⟨⟨x, τ, rfl, ⟨congrArg Prod.fst (Option.some.inj hf), congrArg Prod.snd (Option.some.inj hf)⟩, by unfold MWp; rw [ht]; exact hw⟩, hS.F ht⟩) hS.2.2 hdg hlocks
theorem mw_retv (S : CallFix p m c cc nL s args Ts own) (hr : meth.sig.returnType = none) (hf : some ((), τ) = some ((), τ')) (hw : zw D A ad (mG cy ad τ) H) (hS : va_S A s.heap H locs) (hlocks : meth.locks = false) (hdg : decode cc pc = .ok (.return_, 1)) : W p l e R s m args below meth c H locs cells slots (MQ below (va_Qv (fun u => u = τ') (MWp D cy A ad) A) args s cells slots A) (F0 m pc ls []) :=
  W.vret S.1 S.2.1 hr (fun t ht hW => ⟨⟨τ, rfl, congrArg Prod.snd (Option.some.inj hf), by unfold MWp; rw [ht]; exact hw⟩, hS.F ht⟩) hS.2.2 hdg hlocks
theorem mw_retz {x r : Int32} {ty : FieldType} (S : CallFix p m c cc nL s args Ts own) (hr : meth.sig.returnType = some ty) (hn : narrow ty (.int x) = .int x) (hf : some (x, τ) = some (r, τ')) (hw : zw D A ad (mG cy ad τ) H) (hS : va_S A s.heap H locs) (hlocks : meth.locks = false) (hdg : decode cc pc = .ok (.ireturn, 1)) : W p l e R s m args below meth c H locs cells slots (MQ below (va_Qi (fun r' u => r' = r ∧ u = τ') (MWp D cy A ad) A) args s cells slots A) (F0 m pc ls [.int x]) :=
  W.zret (v := x) S.1 S.2.1 hr hn (fun t ht hW => ⟨⟨x, τ, rfl, ⟨congrArg Prod.fst (Option.some.inj hf), congrArg Prod.snd (Option.some.inj hf)⟩, by unfold MWp; rw [ht]; exact hw⟩, hS.F ht⟩) hS.2.2 hdg hlocks
end MRW
end
section
/-! ===== the class: what a state of it is; its objects and rows, by kind and number ===== -/
-- kinds: 0 the object, 1 its way, 2 the row of controllers, 3 the row of newest editions, 4 controllers, 5 their rows of classes, 6 classes, 7 editions, 8 rows of longs (0 pile, 1 copied ports, 2 copied cells, 3 + c ports, 11 + k cells), 9 rows of bytes (0 under way, 1 the way's first, 2 + 3 i octets, 3 + 3 i start, 4 + 3 i run)
abbrev CS : Type := (Nat → Nat → Int32) × (Nat → Nat → Int32) × (Nat → Nat) × (Nat → Nat → Int64) × (Nat → Nat → Bool) × (Nat → Bool) × (Nat → Nat)
def ci (σ : CS) (f i : Nat) : Int32 := σ.1 f i
def cb (σ : CS) (a : Nat) : Nat → Int32 := σ.2.1 a
def cbl (σ : CS) (a : Nat) : Nat := σ.2.2.1 a
def cj (σ : CS) (a : Nat) : Nat → Int64 := σ.2.2.2.1 a
def cv (σ : CS) (k i : Nat) : Bool := σ.2.2.2.2.1 k i
def cs (σ : CS) (i : Nat) : Bool := σ.2.2.2.2.2.1 i
def cr (σ : CS) (k : Nat) : Nat := σ.2.2.2.2.2.2 k
def cI (σ : CS) (f i : Nat) (v : Int32) : CS := (fun f' i' => if f' = f ∧ i' = i then v else σ.1 f' i', σ.2)
def cB (σ : CS) (a j : Nat) (v : Int32) : CS := (σ.1, va_up σ.2.1 a (upd (σ.2.1 a) j v), σ.2.2)
def cJ (σ : CS) (a j : Nat) (v : Int64) : CS := (σ.1, σ.2.1, σ.2.2.1, va_up σ.2.2.2.1 a (vp_updL (σ.2.2.2.1 a) j v), σ.2.2.2.2)
def cR (σ : CS) (k : Nat) (a : Nat) : CS := (σ.1, σ.2.1, σ.2.2.1, σ.2.2.2.1, σ.2.2.2.2.1, σ.2.2.2.2.2.1, va_up σ.2.2.2.2.2.2 k a)
theorem ci_I (σ : CS) (f i : Nat) (v : Int32) (f' i' : Nat) : ci (cI σ f i v) f' i' = if f' = f ∧ i' = i then v else ci σ f' i' := rfl
theorem cb_I (σ : CS) (f i : Nat) (v : Int32) : cb (cI σ f i v) = cb σ := rfl
theorem cbl_I (σ : CS) (f i : Nat) (v : Int32) : cbl (cI σ f i v) = cbl σ := rfl
theorem cj_I (σ : CS) (f i : Nat) (v : Int32) : cj (cI σ f i v) = cj σ := rfl
theorem cv_I (σ : CS) (f i : Nat) (v : Int32) : cv (cI σ f i v) = cv σ := rfl
theorem cs_I (σ : CS) (f i : Nat) (v : Int32) : cs (cI σ f i v) = cs σ := rfl
theorem cr_I (σ : CS) (f i : Nat) (v : Int32) : cr (cI σ f i v) = cr σ := rfl
theorem ci_B (σ : CS) (a j : Nat) (v : Int32) : ci (cB σ a j v) = ci σ := rfl
theorem cb_B (σ : CS) (a j : Nat) (v : Int32) (a' : Nat) : cb (cB σ a j v) a' = if a' = a then upd (cb σ a) j v else cb σ a' := rfl
theorem cbl_B (σ : CS) (a j : Nat) (v : Int32) : cbl (cB σ a j v) = cbl σ := rfl
theorem cj_B (σ : CS) (a j : Nat) (v : Int32) : cj (cB σ a j v) = cj σ := rfl
theorem cv_B (σ : CS) (a j : Nat) (v : Int32) : cv (cB σ a j v) = cv σ := rfl
theorem cs_B (σ : CS) (a j : Nat) (v : Int32) : cs (cB σ a j v) = cs σ := rfl
theorem cr_B (σ : CS) (a j : Nat) (v : Int32) : cr (cB σ a j v) = cr σ := rfl
theorem ci_J (σ : CS) (a j : Nat) (v : Int64) : ci (cJ σ a j v) = ci σ := rfl
theorem cb_J (σ : CS) (a j : Nat) (v : Int64) : cb (cJ σ a j v) = cb σ := rfl
theorem cbl_J (σ : CS) (a j : Nat) (v : Int64) : cbl (cJ σ a j v) = cbl σ := rfl
theorem cj_J (σ : CS) (a j : Nat) (v : Int64) (a' : Nat) : cj (cJ σ a j v) a' = if a' = a then vp_updL (cj σ a) j v else cj σ a' := rfl
theorem cv_J (σ : CS) (a j : Nat) (v : Int64) : cv (cJ σ a j v) = cv σ := rfl
theorem cs_J (σ : CS) (a j : Nat) (v : Int64) : cs (cJ σ a j v) = cs σ := rfl
theorem cr_J (σ : CS) (a j : Nat) (v : Int64) : cr (cJ σ a j v) = cr σ := rfl
theorem ci_R (σ : CS) (k a : Nat) : ci (cR σ k a) = ci σ := rfl
theorem cb_R (σ : CS) (k a : Nat) : cb (cR σ k a) = cb σ := rfl
theorem cbl_R (σ : CS) (k a : Nat) : cbl (cR σ k a) = cbl σ := rfl
theorem cj_R (σ : CS) (k a : Nat) : cj (cR σ k a) = cj σ := rfl
theorem cv_R (σ : CS) (k a : Nat) : cv (cR σ k a) = cv σ := rfl
theorem cs_R (σ : CS) (k a : Nat) : cs (cR σ k a) = cs σ := rfl
theorem cr_R (σ : CS) (k a k' : Nat) : cr (cR σ k a) k' = if k' = k then a else cr σ k' := rfl
/-- a name if its thing stands -/
def co (σ : CS) (k i : Nat) : Option Nat := if cv σ k i = true then some i else none
/-- how long a row of longs is -/
def jl (a : Nat) : Nat := if a = 0 then 16 else 8
/-- an address behind a name that may be wanting -/
abbrev rn (ad : Nat × Nat → Nat) (k : Nat) (o : Option Nat) : Value := va_rf (o.map (fun i => ad (k, i)))
def cF0 (ad : Nat × Nat → Nat) (σ : CS) (i : Nat) : List Value := [.int (ci σ 0 i), .ref (ad (2, 0)), .ref (ad (3, 0)), .ref (ad (1, 0)), .ref (ad (9, 0)), .int (ci σ 5 i), .int (ci σ 6 i), .int (ci σ 7 i)]
def cF1 (ad : Nat × Nat → Nat) (σ : CS) (i : Nat) : List Value := [.ref (ad (8, 0)), .ref (ad (8, 1)), .ref (ad (8, 2)), .ref (ad (9, cr σ (3 + 100 * i))), .ref (ad (8, cr σ (4 + 100 * i))), .ref (ad (8, cr σ (5 + 100 * i))), .int (ci σ 106 i), .int (ci σ 107 i), .int (ci σ 108 i), .int (ci σ 109 i), .int (ci σ 110 i)]
def cF4 (ad : Nat × Nat → Nat) (σ : CS) (i : Nat) : List Value := [.ref (ad (8, 3 + i)), .ref (ad (5, i)), .int (ci σ 402 i), .int (ci σ 403 i), .int (ci σ 404 i), .int (ci σ 405 i), .int (ci σ 406 i), .int (ci σ 407 i), .int (ci σ 408 i)]
def cF6 (ad : Nat × Nat → Nat) (σ : CS) (i : Nat) : List Value := [.ref (ad (8, 11 + i)), .int (ci σ 601 i), .int (ci σ 602 i), .int (ci σ 603 i)]
def cF7 (ad : Nat × Nat → Nat) (σ : CS) (i : Nat) : List Value := [.int (ci σ 700 i), .ref (ad (9, 2 + 3 * i)), rn ad 9 (if cs σ i = true then some (3 + 3 * i) else none), .ref (ad (9, 4 + 3 * i))]
def cE (cy : Nat → ClassId) (ad : Nat × Nat → Nat) (σ : CS) (k i : Nat) : Option va_E := match k with
  | 0 => some (.inr (6, cF0 ad σ i))
  | 1 => some (.inr (5, cF1 ad σ i))
  | 2 => some (.inl (cy 4, 8, .inr (.inr (.inr (.inr (fun j => (co σ 4 j).map (fun i => ad (4, i))))))))
  | 3 => some (.inl (cy 5, 20, .inr (.inr (.inr (.inr (fun j => (co σ 7 j).map (fun i => ad (7, i))))))))
  | 4 => some (.inr (2, cF4 ad σ i))
  | 5 => some (.inl (cy 6, 20, .inr (.inr (.inr (.inr (fun j => (co σ 6 (20 * i + j)).map (fun i => ad (6, i))))))))
  | 6 => some (.inr (4, cF6 ad σ i))
  | 7 => some (.inr (3, cF7 ad σ i))
  | 8 => some (.inl (cy 2, jl i, .inr (.inl (cj σ i))))
  | 9 => some (.inl (cy 0, cbl σ i, .inl (cb σ i)))
  | _ => none
def cG (cy : Nat → ClassId) (ad : Nat × Nat → Nat) (σ : CS) : Nat × Nat → Option va_E := fun g => if cv σ g.1 g.2 = true then cE cy ad σ g.1 g.2 else none
theorem cG_at {cy : Nat → ClassId} {ad : Nat × Nat → Nat} {σ : CS} {k i : Nat} (h : cv σ k i = true) : cG cy ad σ (k, i) = cE cy ad σ k i := if_pos h
theorem cG_ne {cy : Nat → ClassId} {ad : Nat × Nat → Nat} {σ σ' : CS} {k i : Nat} (hv : cv σ' = cv σ) (h : ∀ k' i', ¬ (k' = k ∧ i' = i) → cE cy ad σ' k' i' = cE cy ad σ k' i') : ∀ g, g ≠ (k, i) → cG cy ad σ' g = cG cy ad σ g := by
  intro g hg
  unfold cG
  rw [hv, h g.1 g.2 (fun q => hg (Prod.ext q.1 q.2))]
theorem cput_0 (cy : Nat → ClassId) (ad : Nat × Nat → Nat) (σ : CS) (i : Nat) (v : Int32) : cE cy ad (cI σ 0 i v) 0 i = some (.inr (6, (cF0 ad σ i).set 0 (.int v))) := by simp [cE, cF0, ci_I, cs_I, cr_I]
theorem cout_0 (cy : Nat → ClassId) (ad : Nat × Nat → Nat) (σ : CS) (i : Nat) (v : Int32) : ∀ k' i', ¬ (k' = 0 ∧ i' = i) → cE cy ad (cI σ 0 i v) k' i' = cE cy ad σ k' i' := by
  intro k' i' h
  unfold cE
  split <;> first | rfl | (simp [cF0, cF1, cF4, cF6, cF7, ci_I, cs_I, cr_I]; done) | (have hi : ¬ i' = i := fun q => h ⟨rfl, q⟩; simp [cF0, cF1, cF4, cF6, cF7, ci_I, cs_I, cr_I, hi])
theorem cput_5 (cy : Nat → ClassId) (ad : Nat × Nat → Nat) (σ : CS) (i : Nat) (v : Int32) : cE cy ad (cI σ 5 i v) 0 i = some (.inr (6, (cF0 ad σ i).set 5 (.int v))) := by simp [cE, cF0, ci_I, cs_I, cr_I]
theorem cout_5 (cy : Nat → ClassId) (ad : Nat × Nat → Nat) (σ : CS) (i : Nat) (v : Int32) : ∀ k' i', ¬ (k' = 0 ∧ i' = i) → cE cy ad (cI σ 5 i v) k' i' = cE cy ad σ k' i' := by
  intro k' i' h
  unfold cE
  split <;> first | rfl | (simp [cF0, cF1, cF4, cF6, cF7, ci_I, cs_I, cr_I]; done) | (have hi : ¬ i' = i := fun q => h ⟨rfl, q⟩; simp [cF0, cF1, cF4, cF6, cF7, ci_I, cs_I, cr_I, hi])
theorem cput_6 (cy : Nat → ClassId) (ad : Nat × Nat → Nat) (σ : CS) (i : Nat) (v : Int32) : cE cy ad (cI σ 6 i v) 0 i = some (.inr (6, (cF0 ad σ i).set 6 (.int v))) := by simp [cE, cF0, ci_I, cs_I, cr_I]
theorem cout_6 (cy : Nat → ClassId) (ad : Nat × Nat → Nat) (σ : CS) (i : Nat) (v : Int32) : ∀ k' i', ¬ (k' = 0 ∧ i' = i) → cE cy ad (cI σ 6 i v) k' i' = cE cy ad σ k' i' := by
  intro k' i' h
  unfold cE
  split <;> first | rfl | (simp [cF0, cF1, cF4, cF6, cF7, ci_I, cs_I, cr_I]; done) | (have hi : ¬ i' = i := fun q => h ⟨rfl, q⟩; simp [cF0, cF1, cF4, cF6, cF7, ci_I, cs_I, cr_I, hi])
theorem cput_7 (cy : Nat → ClassId) (ad : Nat × Nat → Nat) (σ : CS) (i : Nat) (v : Int32) : cE cy ad (cI σ 7 i v) 0 i = some (.inr (6, (cF0 ad σ i).set 7 (.int v))) := by simp [cE, cF0, ci_I, cs_I, cr_I]
theorem cout_7 (cy : Nat → ClassId) (ad : Nat × Nat → Nat) (σ : CS) (i : Nat) (v : Int32) : ∀ k' i', ¬ (k' = 0 ∧ i' = i) → cE cy ad (cI σ 7 i v) k' i' = cE cy ad σ k' i' := by
  intro k' i' h
  unfold cE
  split <;> first | rfl | (simp [cF0, cF1, cF4, cF6, cF7, ci_I, cs_I, cr_I]; done) | (have hi : ¬ i' = i := fun q => h ⟨rfl, q⟩; simp [cF0, cF1, cF4, cF6, cF7, ci_I, cs_I, cr_I, hi])
theorem cput_106 (cy : Nat → ClassId) (ad : Nat × Nat → Nat) (σ : CS) (i : Nat) (v : Int32) : cE cy ad (cI σ 106 i v) 1 i = some (.inr (5, (cF1 ad σ i).set 6 (.int v))) := by simp [cE, cF1, ci_I, cs_I, cr_I]
theorem cout_106 (cy : Nat → ClassId) (ad : Nat × Nat → Nat) (σ : CS) (i : Nat) (v : Int32) : ∀ k' i', ¬ (k' = 1 ∧ i' = i) → cE cy ad (cI σ 106 i v) k' i' = cE cy ad σ k' i' := by
  intro k' i' h
  unfold cE
  split <;> first | rfl | (simp [cF0, cF1, cF4, cF6, cF7, ci_I, cs_I, cr_I]; done) | (have hi : ¬ i' = i := fun q => h ⟨rfl, q⟩; simp [cF0, cF1, cF4, cF6, cF7, ci_I, cs_I, cr_I, hi])
theorem cput_107 (cy : Nat → ClassId) (ad : Nat × Nat → Nat) (σ : CS) (i : Nat) (v : Int32) : cE cy ad (cI σ 107 i v) 1 i = some (.inr (5, (cF1 ad σ i).set 7 (.int v))) := by simp [cE, cF1, ci_I, cs_I, cr_I]
theorem cout_107 (cy : Nat → ClassId) (ad : Nat × Nat → Nat) (σ : CS) (i : Nat) (v : Int32) : ∀ k' i', ¬ (k' = 1 ∧ i' = i) → cE cy ad (cI σ 107 i v) k' i' = cE cy ad σ k' i' := by
  intro k' i' h
  unfold cE
  split <;> first | rfl | (simp [cF0, cF1, cF4, cF6, cF7, ci_I, cs_I, cr_I]; done) | (have hi : ¬ i' = i := fun q => h ⟨rfl, q⟩; simp [cF0, cF1, cF4, cF6, cF7, ci_I, cs_I, cr_I, hi])
theorem cput_108 (cy : Nat → ClassId) (ad : Nat × Nat → Nat) (σ : CS) (i : Nat) (v : Int32) : cE cy ad (cI σ 108 i v) 1 i = some (.inr (5, (cF1 ad σ i).set 8 (.int v))) := by simp [cE, cF1, ci_I, cs_I, cr_I]
theorem cout_108 (cy : Nat → ClassId) (ad : Nat × Nat → Nat) (σ : CS) (i : Nat) (v : Int32) : ∀ k' i', ¬ (k' = 1 ∧ i' = i) → cE cy ad (cI σ 108 i v) k' i' = cE cy ad σ k' i' := by
  intro k' i' h
  unfold cE
  split <;> first | rfl | (simp [cF0, cF1, cF4, cF6, cF7, ci_I, cs_I, cr_I]; done) | (have hi : ¬ i' = i := fun q => h ⟨rfl, q⟩; simp [cF0, cF1, cF4, cF6, cF7, ci_I, cs_I, cr_I, hi])
theorem cput_109 (cy : Nat → ClassId) (ad : Nat × Nat → Nat) (σ : CS) (i : Nat) (v : Int32) : cE cy ad (cI σ 109 i v) 1 i = some (.inr (5, (cF1 ad σ i).set 9 (.int v))) := by simp [cE, cF1, ci_I, cs_I, cr_I]
theorem cout_109 (cy : Nat → ClassId) (ad : Nat × Nat → Nat) (σ : CS) (i : Nat) (v : Int32) : ∀ k' i', ¬ (k' = 1 ∧ i' = i) → cE cy ad (cI σ 109 i v) k' i' = cE cy ad σ k' i' := by
  intro k' i' h
  unfold cE
  split <;> first | rfl | (simp [cF0, cF1, cF4, cF6, cF7, ci_I, cs_I, cr_I]; done) | (have hi : ¬ i' = i := fun q => h ⟨rfl, q⟩; simp [cF0, cF1, cF4, cF6, cF7, ci_I, cs_I, cr_I, hi])
theorem cput_110 (cy : Nat → ClassId) (ad : Nat × Nat → Nat) (σ : CS) (i : Nat) (v : Int32) : cE cy ad (cI σ 110 i v) 1 i = some (.inr (5, (cF1 ad σ i).set 10 (.int v))) := by simp [cE, cF1, ci_I, cs_I, cr_I]
theorem cout_110 (cy : Nat → ClassId) (ad : Nat × Nat → Nat) (σ : CS) (i : Nat) (v : Int32) : ∀ k' i', ¬ (k' = 1 ∧ i' = i) → cE cy ad (cI σ 110 i v) k' i' = cE cy ad σ k' i' := by
  intro k' i' h
  unfold cE
  split <;> first | rfl | (simp [cF0, cF1, cF4, cF6, cF7, ci_I, cs_I, cr_I]; done) | (have hi : ¬ i' = i := fun q => h ⟨rfl, q⟩; simp [cF0, cF1, cF4, cF6, cF7, ci_I, cs_I, cr_I, hi])
theorem cput_402 (cy : Nat → ClassId) (ad : Nat × Nat → Nat) (σ : CS) (i : Nat) (v : Int32) : cE cy ad (cI σ 402 i v) 4 i = some (.inr (2, (cF4 ad σ i).set 2 (.int v))) := by simp [cE, cF4, ci_I, cs_I, cr_I]
theorem cout_402 (cy : Nat → ClassId) (ad : Nat × Nat → Nat) (σ : CS) (i : Nat) (v : Int32) : ∀ k' i', ¬ (k' = 4 ∧ i' = i) → cE cy ad (cI σ 402 i v) k' i' = cE cy ad σ k' i' := by
  intro k' i' h
  unfold cE
  split <;> first | rfl | (simp [cF0, cF1, cF4, cF6, cF7, ci_I, cs_I, cr_I]; done) | (have hi : ¬ i' = i := fun q => h ⟨rfl, q⟩; simp [cF0, cF1, cF4, cF6, cF7, ci_I, cs_I, cr_I, hi])
theorem cput_403 (cy : Nat → ClassId) (ad : Nat × Nat → Nat) (σ : CS) (i : Nat) (v : Int32) : cE cy ad (cI σ 403 i v) 4 i = some (.inr (2, (cF4 ad σ i).set 3 (.int v))) := by simp [cE, cF4, ci_I, cs_I, cr_I]
theorem cout_403 (cy : Nat → ClassId) (ad : Nat × Nat → Nat) (σ : CS) (i : Nat) (v : Int32) : ∀ k' i', ¬ (k' = 4 ∧ i' = i) → cE cy ad (cI σ 403 i v) k' i' = cE cy ad σ k' i' := by
  intro k' i' h
  unfold cE
  split <;> first | rfl | (simp [cF0, cF1, cF4, cF6, cF7, ci_I, cs_I, cr_I]; done) | (have hi : ¬ i' = i := fun q => h ⟨rfl, q⟩; simp [cF0, cF1, cF4, cF6, cF7, ci_I, cs_I, cr_I, hi])
theorem cput_404 (cy : Nat → ClassId) (ad : Nat × Nat → Nat) (σ : CS) (i : Nat) (v : Int32) : cE cy ad (cI σ 404 i v) 4 i = some (.inr (2, (cF4 ad σ i).set 4 (.int v))) := by simp [cE, cF4, ci_I, cs_I, cr_I]
theorem cout_404 (cy : Nat → ClassId) (ad : Nat × Nat → Nat) (σ : CS) (i : Nat) (v : Int32) : ∀ k' i', ¬ (k' = 4 ∧ i' = i) → cE cy ad (cI σ 404 i v) k' i' = cE cy ad σ k' i' := by
  intro k' i' h
  unfold cE
  split <;> first | rfl | (simp [cF0, cF1, cF4, cF6, cF7, ci_I, cs_I, cr_I]; done) | (have hi : ¬ i' = i := fun q => h ⟨rfl, q⟩; simp [cF0, cF1, cF4, cF6, cF7, ci_I, cs_I, cr_I, hi])
theorem cput_405 (cy : Nat → ClassId) (ad : Nat × Nat → Nat) (σ : CS) (i : Nat) (v : Int32) : cE cy ad (cI σ 405 i v) 4 i = some (.inr (2, (cF4 ad σ i).set 5 (.int v))) := by simp [cE, cF4, ci_I, cs_I, cr_I]
theorem cout_405 (cy : Nat → ClassId) (ad : Nat × Nat → Nat) (σ : CS) (i : Nat) (v : Int32) : ∀ k' i', ¬ (k' = 4 ∧ i' = i) → cE cy ad (cI σ 405 i v) k' i' = cE cy ad σ k' i' := by
  intro k' i' h
  unfold cE
  split <;> first | rfl | (simp [cF0, cF1, cF4, cF6, cF7, ci_I, cs_I, cr_I]; done) | (have hi : ¬ i' = i := fun q => h ⟨rfl, q⟩; simp [cF0, cF1, cF4, cF6, cF7, ci_I, cs_I, cr_I, hi])
theorem cput_406 (cy : Nat → ClassId) (ad : Nat × Nat → Nat) (σ : CS) (i : Nat) (v : Int32) : cE cy ad (cI σ 406 i v) 4 i = some (.inr (2, (cF4 ad σ i).set 6 (.int v))) := by simp [cE, cF4, ci_I, cs_I, cr_I]
theorem cout_406 (cy : Nat → ClassId) (ad : Nat × Nat → Nat) (σ : CS) (i : Nat) (v : Int32) : ∀ k' i', ¬ (k' = 4 ∧ i' = i) → cE cy ad (cI σ 406 i v) k' i' = cE cy ad σ k' i' := by
  intro k' i' h
  unfold cE
  split <;> first | rfl | (simp [cF0, cF1, cF4, cF6, cF7, ci_I, cs_I, cr_I]; done) | (have hi : ¬ i' = i := fun q => h ⟨rfl, q⟩; simp [cF0, cF1, cF4, cF6, cF7, ci_I, cs_I, cr_I, hi])
theorem cput_407 (cy : Nat → ClassId) (ad : Nat × Nat → Nat) (σ : CS) (i : Nat) (v : Int32) : cE cy ad (cI σ 407 i v) 4 i = some (.inr (2, (cF4 ad σ i).set 7 (.int v))) := by simp [cE, cF4, ci_I, cs_I, cr_I]
theorem cout_407 (cy : Nat → ClassId) (ad : Nat × Nat → Nat) (σ : CS) (i : Nat) (v : Int32) : ∀ k' i', ¬ (k' = 4 ∧ i' = i) → cE cy ad (cI σ 407 i v) k' i' = cE cy ad σ k' i' := by
  intro k' i' h
  unfold cE
  split <;> first | rfl | (simp [cF0, cF1, cF4, cF6, cF7, ci_I, cs_I, cr_I]; done) | (have hi : ¬ i' = i := fun q => h ⟨rfl, q⟩; simp [cF0, cF1, cF4, cF6, cF7, ci_I, cs_I, cr_I, hi])
theorem cput_408 (cy : Nat → ClassId) (ad : Nat × Nat → Nat) (σ : CS) (i : Nat) (v : Int32) : cE cy ad (cI σ 408 i v) 4 i = some (.inr (2, (cF4 ad σ i).set 8 (.int v))) := by simp [cE, cF4, ci_I, cs_I, cr_I]
theorem cout_408 (cy : Nat → ClassId) (ad : Nat × Nat → Nat) (σ : CS) (i : Nat) (v : Int32) : ∀ k' i', ¬ (k' = 4 ∧ i' = i) → cE cy ad (cI σ 408 i v) k' i' = cE cy ad σ k' i' := by
  intro k' i' h
  unfold cE
  split <;> first | rfl | (simp [cF0, cF1, cF4, cF6, cF7, ci_I, cs_I, cr_I]; done) | (have hi : ¬ i' = i := fun q => h ⟨rfl, q⟩; simp [cF0, cF1, cF4, cF6, cF7, ci_I, cs_I, cr_I, hi])
theorem cput_601 (cy : Nat → ClassId) (ad : Nat × Nat → Nat) (σ : CS) (i : Nat) (v : Int32) : cE cy ad (cI σ 601 i v) 6 i = some (.inr (4, (cF6 ad σ i).set 1 (.int v))) := by simp [cE, cF6, ci_I, cs_I, cr_I]
theorem cout_601 (cy : Nat → ClassId) (ad : Nat × Nat → Nat) (σ : CS) (i : Nat) (v : Int32) : ∀ k' i', ¬ (k' = 6 ∧ i' = i) → cE cy ad (cI σ 601 i v) k' i' = cE cy ad σ k' i' := by
  intro k' i' h
  unfold cE
  split <;> first | rfl | (simp [cF0, cF1, cF4, cF6, cF7, ci_I, cs_I, cr_I]; done) | (have hi : ¬ i' = i := fun q => h ⟨rfl, q⟩; simp [cF0, cF1, cF4, cF6, cF7, ci_I, cs_I, cr_I, hi])
theorem cput_602 (cy : Nat → ClassId) (ad : Nat × Nat → Nat) (σ : CS) (i : Nat) (v : Int32) : cE cy ad (cI σ 602 i v) 6 i = some (.inr (4, (cF6 ad σ i).set 2 (.int v))) := by simp [cE, cF6, ci_I, cs_I, cr_I]
theorem cout_602 (cy : Nat → ClassId) (ad : Nat × Nat → Nat) (σ : CS) (i : Nat) (v : Int32) : ∀ k' i', ¬ (k' = 6 ∧ i' = i) → cE cy ad (cI σ 602 i v) k' i' = cE cy ad σ k' i' := by
  intro k' i' h
  unfold cE
  split <;> first | rfl | (simp [cF0, cF1, cF4, cF6, cF7, ci_I, cs_I, cr_I]; done) | (have hi : ¬ i' = i := fun q => h ⟨rfl, q⟩; simp [cF0, cF1, cF4, cF6, cF7, ci_I, cs_I, cr_I, hi])
theorem cput_603 (cy : Nat → ClassId) (ad : Nat × Nat → Nat) (σ : CS) (i : Nat) (v : Int32) : cE cy ad (cI σ 603 i v) 6 i = some (.inr (4, (cF6 ad σ i).set 3 (.int v))) := by simp [cE, cF6, ci_I, cs_I, cr_I]
theorem cout_603 (cy : Nat → ClassId) (ad : Nat × Nat → Nat) (σ : CS) (i : Nat) (v : Int32) : ∀ k' i', ¬ (k' = 6 ∧ i' = i) → cE cy ad (cI σ 603 i v) k' i' = cE cy ad σ k' i' := by
  intro k' i' h
  unfold cE
  split <;> first | rfl | (simp [cF0, cF1, cF4, cF6, cF7, ci_I, cs_I, cr_I]; done) | (have hi : ¬ i' = i := fun q => h ⟨rfl, q⟩; simp [cF0, cF1, cF4, cF6, cF7, ci_I, cs_I, cr_I, hi])
theorem cputR_3 (cy : Nat → ClassId) (ad : Nat × Nat → Nat) (σ : CS) (a : Nat) : cE cy ad (cR σ 3 a) 1 0 = some (.inr (5, (cF1 ad σ 0).set 3 (.ref (ad (9, a))))) := by simp [cE, cF1, ci_R, cr_R]
theorem cputR_4 (cy : Nat → ClassId) (ad : Nat × Nat → Nat) (σ : CS) (a : Nat) : cE cy ad (cR σ 4 a) 1 0 = some (.inr (5, (cF1 ad σ 0).set 4 (.ref (ad (8, a))))) := by simp [cE, cF1, ci_R, cr_R]
theorem cputR_5 (cy : Nat → ClassId) (ad : Nat × Nat → Nat) (σ : CS) (a : Nat) : cE cy ad (cR σ 5 a) 1 0 = some (.inr (5, (cF1 ad σ 0).set 5 (.ref (ad (8, a))))) := by simp [cE, cF1, ci_R, cr_R]
theorem coutR_3 (cy : Nat → ClassId) (ad : Nat × Nat → Nat) (σ : CS) (a : Nat) : ∀ k' i', ¬ (k' = 1 ∧ i' = 0) → cE cy ad (cR σ 3 a) k' i' = cE cy ad σ k' i' := by
  intro k' i' h
  unfold cE
  split <;> first | rfl | (have hi : ¬ i' = 0 := fun q => h ⟨rfl, q⟩; have h3 : ¬ 3 + 100 * i' = 3 := (by omega); have h4 : ¬ 4 + 100 * i' = 3 := (by omega); have h5 : ¬ 5 + 100 * i' = 3 := (by omega); have h6 : ¬ 100 * i' = 0 := (by omega); simp [cF1, ci_R, cr_R, h3, h4, h5, h6]; done)
theorem coutR_4 (cy : Nat → ClassId) (ad : Nat × Nat → Nat) (σ : CS) (a : Nat) : ∀ k' i', ¬ (k' = 1 ∧ i' = 0) → cE cy ad (cR σ 4 a) k' i' = cE cy ad σ k' i' := by
  intro k' i' h
  unfold cE
  split <;> first | rfl | (have hi : ¬ i' = 0 := fun q => h ⟨rfl, q⟩; have h3 : ¬ 3 + 100 * i' = 4 := (by omega); have h4 : ¬ 4 + 100 * i' = 4 := (by omega); have h5 : ¬ 5 + 100 * i' = 4 := (by omega); have h6 : ¬ 100 * i' = 0 := (by omega); simp [cF1, ci_R, cr_R, h3, h4, h5, h6]; done)
theorem coutR_5 (cy : Nat → ClassId) (ad : Nat × Nat → Nat) (σ : CS) (a : Nat) : ∀ k' i', ¬ (k' = 1 ∧ i' = 0) → cE cy ad (cR σ 5 a) k' i' = cE cy ad σ k' i' := by
  intro k' i' h
  unfold cE
  split <;> first | rfl | (have hi : ¬ i' = 0 := fun q => h ⟨rfl, q⟩; have h3 : ¬ 3 + 100 * i' = 5 := (by omega); have h4 : ¬ 4 + 100 * i' = 5 := (by omega); have h5 : ¬ 5 + 100 * i' = 5 := (by omega); have h6 : ¬ 100 * i' = 0 := (by omega); simp [cF1, ci_R, cr_R, h3, h4, h5, h6]; done)
theorem coutB (cy : Nat → ClassId) (ad : Nat × Nat → Nat) (σ : CS) (a j : Nat) (v : Int32) : ∀ k' i', ¬ (k' = 9 ∧ i' = a) → cE cy ad (cB σ a j v) k' i' = cE cy ad σ k' i' := by
  intro k' i' h
  unfold cE
  split <;> first | rfl | (have hi : ¬ i' = a := fun q => h ⟨rfl, q⟩; simp [cb_B, cbl_B, hi])
theorem coutJ (cy : Nat → ClassId) (ad : Nat × Nat → Nat) (σ : CS) (a j : Nat) (v : Int64) : ∀ k' i', ¬ (k' = 8 ∧ i' = a) → cE cy ad (cJ σ a j v) k' i' = cE cy ad σ k' i' := by
  intro k' i' h
  unfold cE
  split <;> first | rfl | (have hi : ¬ i' = a := fun q => h ⟨rfl, q⟩; simp [cj_J, cbl_B, hi])
end
section
/-! ===== what the class's statics hold, and the nest's words ===== -/
abbrev zIE : String := "RunClasses$Instruction"
abbrev zID : String := "LRunClasses$Instruction;"
def zNm : List String := ["LAY", "LAY_CELL", "TAKE_TO_CELL", "LAY_PORT", "TAKE_TO_PORT", "ADD", "SUBTRACT", "MULTIPLY", "DIVIDE", "REMAINDER", "LESS", "EQUAL", "LAY_AGAIN", "GO_ON", "GO_ON_IF_ZERO", "LAY_CELL_TAKEN", "KEEP_HANDLE", "LAY_BY_HANDLE", "GIVE_UP"]
def zT0 : List Int32 := [0, 1, 2, 3, 4, 5, 6, 7, 8, 9, 10, 11, 12, 13, 14, 15, 16, 17, 18]
def zT1 : List Int32 := [1, 1, 1, 1, 1, 0, 0, 0, 0, 0, 0, 0, 0, 1, 1, 0, 1, 0, 1]
def zT2 : List Int32 := [0, 1, 1, 1, 1, 0, 0, 0, 0, 0, 0, 0, 0, 0, 0, 0, 1, 0, 0]
def zT3 : List Int32 := [0, 0, 1, 0, 1, 2, 2, 2, 2, 2, 2, 2, 1, 0, 1, 1, 0, 0, 0]
def zT4 : List Int32 := [1, 1, 0, 1, 0, 1, 1, 1, 1, 1, 1, 1, 2, 0, 0, 1, 0, 1, 0]
def zSw : List Int32 := [1, 2, 3, 4, 5, 13, 14, 15, 16, 17, 18, 0, 6, 7, 8, 9, 10, 11, 12]
def zFl : List (String × String × String × List Int32) := [("java/lang/Enum", "ordinal", "I", zT0), (zIE, "hasOctet", "Z", zT1), (zIE, "namesPlace", "Z", zT2), (zIE, "takes", "I", zT3), (zIE, "lays", "I", zT4)]
def ST (A : Nat → Prop) (en : Nat → Nat) (tI tS : Nat) (U : State) (H : Heap) : Prop :=
  va_En zIE zID zNm zFl en A U H ∧ va_Z "RunClasses" "INSTRUCTIONS" "[LRunClasses$Instruction;" (.ref tI) A U H ∧ va_T (.object zIE) tI 19 (fun i => .ref (en i)) A U H ∧ va_Z "RunClasses$1" "$SwitchMap$RunClasses$Instruction" "[I" (.ref tS) A U H ∧ va_T .int tS 19 (fun i => .int (zSw.getD i 0)) A U H
theorem ST.moved {A : Nat → Prop} {en : Nat → Nat} {tI tS : Nat} {u U : State} {H : Heap} (hvm : u.vm.Alike U.vm) (h : ST A en tI tS u H) : ST A en tI tS U H :=
  ⟨h.1.moved hvm, h.2.1.moved hvm, h.2.2.1.moved hvm, h.2.2.2.1.moved hvm, h.2.2.2.2.moved hvm⟩
theorem ST.kept {A : Nat → Prop} {en : Nat → Nat} {tI tS : Nat} {U : State} {H H1 : Heap} (h : ST A en tI tS U H) (hq : ∀ a : Nat, a < H.size → ¬ A a → H1[a]? = H[a]?) : ST A en tI tS U H1 :=
  ⟨h.1.kept hq, h.2.1.kept hq, h.2.2.1.kept hq, h.2.2.2.1.kept hq, h.2.2.2.2.kept hq⟩
def nF : List (String × Nat × String × String × String) := [("RunClasses", 108, "RunClasses$Controller", "ports", "[J"), ("RunClasses", 80, "RunClasses$Controller", "up", "Z"), ("RunClasses", 127, "RunClasses$Controller", "reaction", "I"), ("RunClasses", 143, "RunClasses$Controller", "faultKind", "I"), ("RunClasses", 146, "RunClasses$Controller", "faultRunnable", "I"), ("RunClasses", 149, "RunClasses$Controller", "faultSteps", "I"), ("RunClasses", 152, "RunClasses$Controller", "faultGiven", "I"), ("RunClasses", 155, "RunClasses$Controller", "faults", "I"), ("RunClasses", 223, "RunClasses$Way", "steps", "I"), ("RunClasses", 226, "RunClasses$Way", "given", "I"), ("RunClasses", 222, "RunClasses$Way", "handle", "I"), ("RunClasses", 70, "RunClasses$Edition", "number", "I"), ("RunClasses", 168, "RunClasses$Edition", "octets", "[B"), ("RunClasses", 198, "RunClasses$Edition", "startCode", "[B"), ("RunClasses", 208, "RunClasses$Edition", "runCode", "[B"), ("RunClasses", 124, "RunClasses$Loaded", "cells", "[J"), ("RunClasses", 130, "RunClasses$Loaded", "edition", "I"), ("RunClasses", 158, "RunClasses$Loaded", "handle", "I"), ("RunClasses", 205, "RunClasses$Loaded", "stopped", "Z"), ("RunClasses$Way", 63, "RunClasses", "INSTRUCTIONS", "[LRunClasses$Instruction;"), ("RunClasses$Way", 67, "RunClasses$Instruction", "hasOctet", "Z"), ("RunClasses$Way", 73, "RunClasses$Instruction", "namesPlace", "Z"), ("RunClasses$Way", 76, "RunClasses$Instruction", "takes", "I"), ("RunClasses$Way", 79, "RunClasses$Instruction", "lays", "I")]
def nM : List (String × Nat × MethodName) := [("RunClasses", 29, yX1_init), ("RunClasses", 38, yX5_init), ("RunClasses", 195, yX2_init), ("RunClasses", 84, yX1_classOf), ("RunClasses", 90, yX4_init), ("RunClasses", 93, yX1_load), ("RunClasses", 219, yX5_go), ("RunClasses$Way", 59, yX6_octetAt), ("RunClasses$Way", 99, yX6_numberAt), ("RunClasses$Way", 107, yX6_putNumber), ("RunClasses", 211, yX5_goOnCopies), ("RunClasses$Way", 31, yX6_copyNumbers), ("RunClasses", 133, yX4_becomeAnew)]
def NW (U : State) : Prop := (∀ q ∈ nF, va_Nw (.fieldLinkNest q.1 q.2.1 q.2.2.1 q.2.2.2.1 q.2.2.2.2 "RunClasses") U) ∧ ∀ q ∈ nM, va_Nw (.methodLinkNest q.1 q.2.1 q.2.2 "RunClasses") U
theorem NW.warm {s U : State} (hW : s.WarmedH U.vm) (h : NW s) : NW U := ⟨fun q hq => va_Nw.warmF hW (h.1 q hq), fun q hq => va_Nw.warmM hW (h.2 q hq)⟩
theorem NW.same {u U : State} (hv : u.vm = U.vm) (h : NW u) : NW U := ⟨fun q hq => va_Nw.same rfl hv (h.1 q hq), fun q hq => va_Nw.same rfl hv (h.2 q hq)⟩
abbrev zI : String := "java/lang/IllegalStateException"
abbrev zX : String := "java/lang/ArrayIndexOutOfBoundsException"
abbrev zA : String := "java/lang/ArithmeticException"
def exC : List (String × String) := [(zI, zI), (zA, zA), (zX, zX), ("[B", "java/lang/Cloneable")]
def exD : List MethodName := [⟨"java/lang/RuntimeException", "<init>", "(Ljava/lang/String;)V"⟩, ⟨"java/lang/Exception", "<init>", "(Ljava/lang/String;)V"⟩, ⟨"java/lang/Throwable", "<init>", "(Ljava/lang/String;)V"⟩, ⟨"java/lang/IndexOutOfBoundsException", "<init>", "(Ljava/lang/String;)V"⟩]
/-- what a throw and a clone need -/
def EX (A : Nat → Prop) (U : State) (H : Heap) : Prop := (∀ q ∈ exC, va_Nw (.castable q.1 q.2) U) ∧ (∀ q ∈ exD, va_Nw (.declares q) U) ∧ vx_Zq Bundle.tN "UNASSIGNED_STACK" Bundle.steD A U H ∧ vx_Zq Bundle.tN "SUPPRESSED_SENTINEL" Bundle.listD A U H ∧ (∃ sa, vk_R RX6 163 "no call is under way" sa U) ∧ (∃ sa, vk_R RX6 173 "no such octet" sa U) ∧ ∃ sa, vk_R RX6 178 "by 0" sa U
theorem EX.warm {A : Nat → Prop} {s U : State} {H H1 : Heap} (hW : s.WarmedH U.vm) (hq : ∀ a : Nat, a < H.size → ¬ A a → H1[a]? = H[a]?) (h : EX A s H) : EX A U H1 :=
  ⟨fun q hq => va_Nw.warmC hW (h.1 q hq), fun q hq => va_Nw.warmD hW (h.2.1 q hq), (h.2.2.1.kept hq).moved hW.alike, (h.2.2.2.1.kept hq).moved hW.alike, h.2.2.2.2.1.imp fun _ k => k.warm hW, h.2.2.2.2.2.1.imp fun _ k => k.warm hW, h.2.2.2.2.2.2.imp fun _ k => k.warm hW⟩
theorem EX.same {A : Nat → Prop} {u U : State} {H : Heap} (hv : u.vm = U.vm) (h : EX A u H) : EX A U H :=
  ⟨fun q hq => va_Nw.same rfl hv (h.1 q hq), fun q hq => va_Nw.same rfl hv (h.2.1 q hq), h.2.2.1.moved (hv ▸ Vm.Alike.refl u.vm), h.2.2.2.1.moved (hv ▸ Vm.Alike.refl u.vm), h.2.2.2.2.1.imp fun _ k => k.same hv.symm, h.2.2.2.2.2.1.imp fun _ k => k.same hv.symm, h.2.2.2.2.2.2.imp fun _ k => k.same hv.symm⟩
/-- what of the class never changes, at the state U: classes, links, statics, and that all new cells are its own -/
def CK (D : va_G) (cy : Nat → ClassId) (A : Nat → Prop) (en : Nat → Nat) (tI tS : Nat) (U : State) (H : Heap) : Prop := va_K D vwCl (ztys cy) U ∧ NW U ∧ ST A en tI tS U H ∧ (∀ q : Nat, H.size ≤ q → A q) ∧ EX A U H
theorem CK.on {D : va_G} {cy : Nat → ClassId} {A : Nat → Prop} {en : Nat → Nat} {tI tS : Nat} {s U : State} {H H1 : Heap} {locs : List Loc} (h : CK D cy A en tI tS s H) (hS : va_S A H H1 locs) (hW : s.WarmedH U.vm) : CK D cy A en tI tS U H1 :=
  ⟨va_K.moved hW.alike h.1, h.2.1.warm hW, (h.2.2.1.kept hS.2.1).moved hW.alike, fun q hq => h.2.2.2.1 q (Nat.le_trans hS.1 hq), h.2.2.2.2.warm hW hS.2.1⟩
/-- the class stands in the state U as σ says -/
def CWs (D : va_G) (cy : Nat → ClassId) (A : Nat → Prop) (ad : Nat × Nat → Nat) (en : Nat → Nat) (tI tS : Nat) (σ : CS) (U : State) : Prop := zw D A ad (cG cy ad σ) U.heap ∧ CK D cy A en tI tS U U.heap
def CWp (D : va_G) (cy : Nat → ClassId) (A : Nat → Prop) (ad : Nat × Nat → Nat) (σ : CS) (t : State) : Prop := zw D A ad (cG cy ad σ) t.heap
theorem zcat (o : Option Nat) : (va_rf o).category = 1 := by cases o <;> rfl
section CRW
variable {p : Program} {l : Launch} {e : Env} {R : Room} {s : State} {m : MethodId} {args : Array Value} {below : List Frame} {meth : Method} {c : Code} {H : Heap} {locs : List Loc} {cells slots : Nat} {Q : State → Prop}
variable {cc : ByteArray} {nL pc : Nat} {ls : Array Slot} {rest : List Value} {D : va_G} {A : Nat → Prop} {cy : Nat → ClassId} {H0 : Heap} {Ts : List Cond} {ad : Nat × Nat → Nat} {σ : CS} {own : String} {en : Nat → Nat} {tI tS : Nat}
/-! references that may be null -/
theorem zr_aload_n (hx : p.tables.exec = Jvm.exec) (hb : c.code = cc) {k : Fin 4} {i : Nat} {o : Option Nat} (hdg : decode cc pc = .ok (.aload_n k, 1)) (hi : (k : Nat) = i) (hl : ls[i]? = some (.val (va_rf o))) (kk : W p l e R s m args below meth c H locs cells slots Q (F0 m (pc + 1) ls (va_rf o :: rest))) : W p l e R s m args below meth c H locs cells slots Q (F0 m pc ls rest) := by
  cases o with
  | none => exact lv_aload_nN hx hb hdg hi hl kk
  | some a => exact lv_aload_n hx hb hdg hi hl kk
theorem zr_aload (hx : p.tables.exec = Jvm.exec) (hb : c.code = cc) {i : Nat} {o : Option Nat} (hdg : decode cc pc = .ok (.aload i, 2)) (hl : ls[i]? = some (.val (va_rf o))) (kk : W p l e R s m args below meth c H locs cells slots Q (F0 m (pc + 2) ls (va_rf o :: rest))) : W p l e R s m args below meth c H locs cells slots Q (F0 m pc ls rest) := by
  cases o with
  | none => exact lv_aloadN hx hb hdg hl kk
  | some a => exact lv_aload hx hb hdg hl kk
theorem zr_astore_n (hx : p.tables.exec = Jvm.exec) (hb : c.code = cc) {k : Fin 4} {i nL : Nat} {o : Option Nat} {lv lv' : List (Nat × Value)} (hdg : decode cc pc = .ok (.astore_n k, 1)) (hi : (k : Nat) = i) (h : lv_has ls nL lv) (hn : i < nL) (hl : (i, va_rf o) :: lv.filter (fun q => !(q.1 == i) && !(q.1 + 1 == i && q.2.category == 2)) = lv') (kk : ∀ ls' : Array Slot, lv_has ls' nL lv' → W p l e R s m args below meth c H locs cells slots Q (F0 m (pc + 1) ls' rest)) : W p l e R s m args below meth c H locs cells slots Q (F0 m pc ls (va_rf o :: rest)) := by
  cases o with
  | none => exact lv_astore_nN hx hb hdg hi h hn hl kk
  | some a => exact lv_astore_n hx hb hdg hi h hn hl kk
theorem zr_astore (hx : p.tables.exec = Jvm.exec) (hb : c.code = cc) {i nL : Nat} {o : Option Nat} {lv lv' : List (Nat × Value)} (hdg : decode cc pc = .ok (.astore i, 2)) (h : lv_has ls nL lv) (hn : i < nL) (hl : (i, va_rf o) :: lv.filter (fun q => !(q.1 == i) && !(q.1 + 1 == i && q.2.category == 2)) = lv') (kk : ∀ ls' : Array Slot, lv_has ls' nL lv' → W p l e R s m args below meth c H locs cells slots Q (F0 m (pc + 2) ls' rest)) : W p l e R s m args below meth c H locs cells slots Q (F0 m pc ls (va_rf o :: rest)) := by
  cases o with
  | none => exact lv_astoreN hx hb hdg h hn hl kk
  | some a => exact lv_astore hx hb hdg h hn hl kk
theorem zr_ifnull (hx : p.tables.exec = Jvm.exec) (hb : c.code = cc) {kd : Nat} {o : Option Nat} {off : Int} {tgt : Nat} (hdg : decode cc pc = .ok (.ifnull off, 3)) (ht : (pc : Int) + off = (tgt : Int)) (kn : o = none → W p l e R s m args below meth c H locs cells slots Q (F0 m tgt ls rest)) (ks : ∀ i, o = some i → W p l e R s m args below meth c H locs cells slots Q (F0 m (pc + 3) ls rest)) : W p l e R s m args below meth c H locs cells slots Q (F0 m pc ls (rn ad kd o :: rest)) := by
  cases o with
  | none => exact lv_ifnullN hx hb hdg ht (kn rfl)
  | some a => exact lv_ifnull hx hb hdg (ks a rfl)
theorem zr_ifnonnull (hx : p.tables.exec = Jvm.exec) (hb : c.code = cc) {kd : Nat} {o : Option Nat} {off : Int} {tgt : Nat} (hdg : decode cc pc = .ok (.ifnonnull off, 3)) (ht : (pc : Int) + off = (tgt : Int)) (ks : ∀ i, o = some i → W p l e R s m args below meth c H locs cells slots Q (F0 m tgt ls rest)) (kn : o = none → W p l e R s m args below meth c H locs cells slots Q (F0 m (pc + 3) ls rest)) : W p l e R s m args below meth c H locs cells slots Q (F0 m pc ls (rn ad kd o :: rest)) := by
  cases o with
  | none => exact lv_ifnonnullN hx hb hdg (kn rfl)
  | some a => exact lv_ifnonnull hx hb hdg ht (ks a rfl)
/-! fields -/
theorem zr_getN {ι : Type} {ad : ι → Nat} {G : ι → Option va_E} {tys : List (ClassId × FieldType)} (S : CallFix p m c cc nL s args Ts own) {C ref host : String} {T : u_T} {N ci index : Nat} (hin : ∀ w ∈ u_ws C T N, w ∈ Ts) (hK : va_K D vwCl tys s) (hw : zw D A ad G H) {g : ι} {fs : List Value} (he : G g = some (.inr (ci, fs))) (hc : vwCl[ci]? = some (C, T, N)) (k : Nat) (hk : k < N) (hlink : va_Nw (.fieldLinkNest own index ref (T k).2.1 (T k).2.2.1 host) s) (hsame : ∀ x, s.fieldFound? (T k).1 (T k).2.1 (T k).2.2.1 = some x → s.fieldFound? ref (T k).2.1 (T k).2.2.1 = some x) {v : Value} (hv : fs[k]? = some v) (hdg : decode cc pc = .ok (.getfield index, 3))
    (kk : W p l e R s m args below meth c H locs cells slots Q (F0 m (pc + 3) ls (v :: rest))) : W p l e R s m args below meth c H locs cells slots Q (F0 m pc ls (.ref (ad g) :: rest)) := by
  obtain ⟨hx, hb, hml, hown, hts⟩ := S
  exact va_getN (D := D) (cl := vwCl) (ws := [(ad g, .inr (ci, fs))]) hx hb hts hin hown hK (fun j q hj => by
    match j, hj with
    | 0, hj => cases hj; exact zw_at hw he
    | j + 1, hj => simp at hj) 0 rfl hc k hk (va_Nw.use rfl hlink) hsame hv hdg kk
theorem zr_putN {ι : Type} {ad : ι → Nat} {G : ι → Option va_E} {tys : List (ClassId × FieldType)} (S : CallFix p m c cc nL s args Ts own) {C ref host : String} {T : u_T} {N ci index : Nat} (hin : ∀ w ∈ u_ws C T N, w ∈ Ts) (ty0 : Nat → FieldType) (hty : ∀ k, k < N → parseFieldDescriptor (T k).2.2.1 = some (ty0 k)) (hnm : ∀ a, a < N → ∀ b, b < N → a ≠ b → (T a).2.1 ≠ (T b).2.1) (hK : va_K D vwCl tys s) (hw : zw D A ad G H) (hS0 : va_S A H0 H locs) {g : ι} {fs : List Value} (he : G g = some (.inr (ci, fs))) (hc : vwCl[ci]? = some (C, T, N)) (k : Nat) (hk : k < N) (hlink : va_Nw (.fieldLinkNest own index ref (T k).2.1 (T k).2.2.1 host) s) (hsame : ∀ x, s.fieldFound? (T k).1 (T k).2.1 (T k).2.2.1 = some x → s.fieldFound? ref (T k).2.1 (T k).2.2.1 = some x) (hfin : (T k).2.2.2 = false) {ty : FieldType} {v : Value} (hd : parseFieldDescriptor (T k).2.2.1 = some ty) (hn : narrow ty v = v) (hfit : fits ty v = true) (hl : k < fs.length) (hdg : decode cc pc = .ok (.putfield index, 3))
    {G1 : ι → Option va_E} (h1 : G1 g = some (.inr (ci, fs.set k v))) (h2 : ∀ g', g' ≠ g → G1 g' = G g')
    (kk : ∀ (H1 : Heap) (locs1 : List Loc), zw D A ad G1 H1 → va_S A H0 H1 locs1 → W p l e R s m args below meth c H1 locs1 cells slots Q (F0 m (pc + 3) ls rest)) : W p l e R s m args below meth c H locs cells slots Q (F0 m pc ls (v :: .ref (ad g) :: rest)) := by
  obtain ⟨hx, hb, hml, hown, hts⟩ := S
  obtain ⟨⟨L, F, hP, hD, hG⟩, hi⟩ := hw
  obtain ⟨hL, hF⟩ := hG g _ he
  obtain ⟨k0, hk0⟩ := va_pl_get (X := []) (f := F) hL
  have hk1 : (va_pl L F)[k0]? = some (ad g, .inr (ci, fs)) := by rw [← hF]; exact hk0
  exact va_putN (D := D) (cl := vwCl) hx hb hts hin ty0 hty hnm hown hK hP hD hS0 k0 hk1 hc k hk (va_Nw.use rfl hlink) hsame hfin hd hn hfit hl hdg fun H1 locs1 hP1 hD1 hS1 => kk H1 locs1 (zw_set hG hi he hD hk0 hP1 hD1 h1 h2) hS1
theorem cr_get (S : CallFix p m c cc nL s args Ts own) (hK : va_K D vwCl (ztys cy) s) (hw : zw D A ad (cG cy ad σ) H) (kd i : Nat) (hv : cv σ kd i = true) {C ref : String} {T : u_T} {N ci index : Nat} (hin : ∀ w ∈ u_ws C T N, w ∈ Ts) {fs : List Value} (he : cE cy ad σ kd i = some (.inr (ci, fs))) (hc : vwCl[ci]? = some (C, T, N)) (k : Nat) (hk : k < N) (hlink : Cond.fieldLink own index ref (T k).2.1 (T k).2.2.1 ∈ Ts) (hd : (T k).1 = ref) {v : Value} (hfv : fs[k]? = some v) (hdg : decode cc pc = .ok (.getfield index, 3))
    (kk : W p l e R s m args below meth c H locs cells slots Q (F0 m (pc + 3) ls (v :: rest))) : W p l e R s m args below meth c H locs cells slots Q (F0 m pc ls (.ref (ad (kd, i)) :: rest)) :=
  zr_get (g := (kd, i)) S hin hK hw ((cG_at hv).trans he) hc k hk hlink (fun x h => by rw [hd] at h; exact h) hfv hdg kk
theorem cr_getN (S : CallFix p m c cc nL s args Ts own) (hK : va_K D vwCl (ztys cy) s) (hw : zw D A ad (cG cy ad σ) H) (kd i : Nat) (hv : cv σ kd i = true) {C ref : String} {T : u_T} {N ci index : Nat} (hin : ∀ w ∈ u_ws C T N, w ∈ Ts) {fs : List Value} (he : cE cy ad σ kd i = some (.inr (ci, fs))) (hc : vwCl[ci]? = some (C, T, N)) (k : Nat) (hk : k < N) (hN : NW s) (hq : (own, index, ref, (T k).2.1, (T k).2.2.1) ∈ nF) (hd : (T k).1 = ref) {v : Value} (hfv : fs[k]? = some v) (hdg : decode cc pc = .ok (.getfield index, 3))
    (kk : W p l e R s m args below meth c H locs cells slots Q (F0 m (pc + 3) ls (v :: rest))) : W p l e R s m args below meth c H locs cells slots Q (F0 m pc ls (.ref (ad (kd, i)) :: rest)) :=
  zr_getN (g := (kd, i)) S hin hK hw ((cG_at hv).trans he) hc k hk (hN.1 _ hq) (fun x h => by rw [hd] at h; exact h) hfv hdg kk
theorem cr_put (S : CallFix p m c cc nL s args Ts own) (hK : va_K D vwCl (ztys cy) s) (hw : zw D A ad (cG cy ad σ) H) (hS : va_S A H0 H locs) (kd i : Nat) (hv : cv σ kd i = true) {C ref : String} {T : u_T} {N ci index : Nat} (hin : ∀ w ∈ u_ws C T N, w ∈ Ts) (ty0 : Nat → FieldType) (hty : ∀ k, k < N → parseFieldDescriptor (T k).2.2.1 = some (ty0 k)) (hnm : ∀ a, a < N → ∀ b, b < N → a ≠ b → (T a).2.1 ≠ (T b).2.1) {fs : List Value} (he : cE cy ad σ kd i = some (.inr (ci, fs))) (hc : vwCl[ci]? = some (C, T, N)) (k : Nat) (hk : k < N) (hlink : Cond.fieldLink own index ref (T k).2.1 (T k).2.2.1 ∈ Ts) (hd : (T k).1 = ref) (hfin : (T k).2.2.2 = false) {v : Value} (hn : narrow (ty0 k) v = v) (hfit : fits (ty0 k) v = true) (hlen : k < fs.length) (hdg : decode cc pc = .ok (.putfield index, 3))
    {σ1 : CS} (hv1 : cv σ1 = cv σ) (hp : cE cy ad σ1 kd i = some (.inr (ci, fs.set k v))) (ho : ∀ k' i', ¬ (k' = kd ∧ i' = i) → cE cy ad σ1 k' i' = cE cy ad σ k' i')
    (kk : ∀ (H1 : Heap) (locs1 : List Loc), zw D A ad (cG cy ad σ1) H1 → va_S A H0 H1 locs1 → W p l e R s m args below meth c H1 locs1 cells slots Q (F0 m (pc + 3) ls rest)) : W p l e R s m args below meth c H locs cells slots Q (F0 m pc ls (v :: .ref (ad (kd, i)) :: rest)) :=
  zr_put (g := (kd, i)) S hin ty0 hty hnm hK hw hS ((cG_at hv).trans he) hc k hk hlink (fun x h => by rw [hd] at h; exact h) hfin (hty k hk) hn hfit hlen hdg ((cG_at (by rw [hv1]; exact hv)).trans hp) (cG_ne hv1 ho) kk
theorem cr_putN (S : CallFix p m c cc nL s args Ts own) (hK : va_K D vwCl (ztys cy) s) (hw : zw D A ad (cG cy ad σ) H) (hS : va_S A H0 H locs) (kd i : Nat) (hv : cv σ kd i = true) {C ref : String} {T : u_T} {N ci index : Nat} (hin : ∀ w ∈ u_ws C T N, w ∈ Ts) (ty0 : Nat → FieldType) (hty : ∀ k, k < N → parseFieldDescriptor (T k).2.2.1 = some (ty0 k)) (hnm : ∀ a, a < N → ∀ b, b < N → a ≠ b → (T a).2.1 ≠ (T b).2.1) {fs : List Value} (he : cE cy ad σ kd i = some (.inr (ci, fs))) (hc : vwCl[ci]? = some (C, T, N)) (k : Nat) (hk : k < N) (hN : NW s) (hq : (own, index, ref, (T k).2.1, (T k).2.2.1) ∈ nF) (hd : (T k).1 = ref) (hfin : (T k).2.2.2 = false) {v : Value} (hn : narrow (ty0 k) v = v) (hfit : fits (ty0 k) v = true) (hlen : k < fs.length) (hdg : decode cc pc = .ok (.putfield index, 3))
    {σ1 : CS} (hv1 : cv σ1 = cv σ) (hp : cE cy ad σ1 kd i = some (.inr (ci, fs.set k v))) (ho : ∀ k' i', ¬ (k' = kd ∧ i' = i) → cE cy ad σ1 k' i' = cE cy ad σ k' i')
    (kk : ∀ (H1 : Heap) (locs1 : List Loc), zw D A ad (cG cy ad σ1) H1 → va_S A H0 H1 locs1 → W p l e R s m args below meth c H1 locs1 cells slots Q (F0 m (pc + 3) ls rest)) : W p l e R s m args below meth c H locs cells slots Q (F0 m pc ls (v :: .ref (ad (kd, i)) :: rest)) :=
  zr_putN (g := (kd, i)) S hin ty0 hty hnm hK hw hS ((cG_at hv).trans he) hc k hk (hN.1 _ hq) (fun x h => by rw [hd] at h; exact h) hfin (hty k hk) hn hfit hlen hdg ((cG_at (by rw [hv1]; exact hv)).trans hp) (cG_ne hv1 ho) kk
/-! arrays -/
theorem cr_lald (S : CallFix p m c cc nL s args Ts own) (hK : va_K D vwCl (ztys cy) s) (hw : zw D A ad (cG cy ad σ) H) (a : Nat) (hv : cv σ 8 a = true) {i : Int32} (hin : vp_in i (jl a)) (hdg : decode cc pc = .ok (.laload, 1)) (kk : W p l e R s m args below meth c H locs cells slots Q (F0 m (pc + 1) ls (.long (cj σ a i.toNatClampNeg) :: rest))) : W p l e R s m args below meth c H locs cells slots Q (F0 m pc ls (.int i :: .ref (ad (8, a)) :: rest)) :=
  zr_lald (g := (8, a)) S hK hw 2 (cG_at hv) rfl hin hdg kk
theorem cr_last (S : CallFix p m c cc nL s args Ts own) (hK : va_K D vwCl (ztys cy) s) (hw : zw D A ad (cG cy ad σ) H) (hS : va_S A H0 H locs) (a : Nat) (hv : cv σ 8 a = true) {i : Int32} {x : Int64} (hin : vp_in i (jl a)) (hdg : decode cc pc = .ok (.lastore, 1)) (kk : ∀ (H1 : Heap) (locs1 : List Loc), zw D A ad (cG cy ad (cJ σ a i.toNatClampNeg x)) H1 → va_S A H0 H1 locs1 → W p l e R s m args below meth c H1 locs1 cells slots Q (F0 m (pc + 1) ls rest)) : W p l e R s m args below meth c H locs cells slots Q (F0 m pc ls (.long x :: .int i :: .ref (ad (8, a)) :: rest)) :=
  zr_last (g := (8, a)) (G1 := cG cy ad (cJ σ a i.toNatClampNeg x)) S hK hw hS 2 (cG_at hv) rfl hin hdg ((cG_at (σ := cJ σ a i.toNatClampNeg x) hv).trans (by simp [cE, cj_J])) (cG_ne rfl (coutJ cy ad σ a _ _)) kk
theorem cr_bald (S : CallFix p m c cc nL s args Ts own) (hK : va_K D vwCl (ztys cy) s) (hw : zw D A ad (cG cy ad σ) H) (a : Nat) (hv : cv σ 9 a = true) {i : Int32} (hin : vp_in i (cbl σ a)) (hdg : decode cc pc = .ok (.baload, 1)) (kk : W p l e R s m args below meth c H locs cells slots Q (F0 m (pc + 1) ls (.int (cb σ a i.toNatClampNeg) :: rest))) : W p l e R s m args below meth c H locs cells slots Q (F0 m pc ls (.int i :: .ref (ad (9, a)) :: rest)) :=
  zr_bald (g := (9, a)) S hK hw 0 (cG_at hv) rfl hin hdg kk
theorem cr_bast (S : CallFix p m c cc nL s args Ts own) (hK : va_K D vwCl (ztys cy) s) (hw : zw D A ad (cG cy ad σ) H) (hS : va_S A H0 H locs) (a : Nat) (hv : cv σ 9 a = true) {i x : Int32} (hin : vp_in i (cbl σ a)) (hdg : decode cc pc = .ok (.bastore, 1)) (kk : ∀ (H1 : Heap) (locs1 : List Loc), zw D A ad (cG cy ad (cB σ a i.toNatClampNeg (vp_nar .byte x))) H1 → va_S A H0 H1 locs1 → W p l e R s m args below meth c H1 locs1 cells slots Q (F0 m (pc + 1) ls rest)) : W p l e R s m args below meth c H locs cells slots Q (F0 m pc ls (.int x :: .int i :: .ref (ad (9, a)) :: rest)) :=
  zr_bast (g := (9, a)) (G1 := cG cy ad (cB σ a i.toNatClampNeg (vp_nar .byte x))) S hK hw hS 0 (cG_at hv) rfl hin hdg ((cG_at (σ := cB σ a i.toNatClampNeg (vp_nar .byte x)) hv).trans (by simp [cE, cb_B, cbl_B])) (cG_ne rfl (coutB cy ad σ a _ _)) kk
theorem cr_alen (S : CallFix p m c cc nL s args Ts own) (hK : va_K D vwCl (ztys cy) s) (hw : zw D A ad (cG cy ad σ) H) (kd a t : Nat) (hv : cv σ kd a = true) {cA : ClassId} {x : vp_A} {ty : FieldType} (he : cE cy ad σ kd a = some (.inl (cA, x))) (ht : (ztys cy)[t]? = some (cA, ty)) {v : Int32} (hx : Int32.ofNat x.1 = v) (hdg : decode cc pc = .ok (.arraylength, 1)) (kk : W p l e R s m args below meth c H locs cells slots Q (F0 m (pc + 1) ls (.int v :: rest))) : W p l e R s m args below meth c H locs cells slots Q (F0 m pc ls (.ref (ad (kd, a)) :: rest)) :=
  zr_alen (g := (kd, a)) S hK hw t ((cG_at hv).trans he) ht hx hdg kk
theorem cr_aald (S : CallFix p m c cc nL s args Ts own) (hK : va_K D vwCl (ztys cy) s) (hw : zw D A ad (cG cy ad σ) H) (kd a t : Nat) (hv : cv σ kd a = true) {cA : ClassId} {C : String} {n : Nat} {f : Nat → Option Nat} (he : cE cy ad σ kd a = some (.inl (cA, n, .inr (.inr (.inr (.inr f)))))) (ht : (ztys cy)[t]? = some (cA, .object C)) {i : Int32} (hin : vp_in i n) {v : Value} (hfv : va_rf (f i.toNatClampNeg) = v) (hdg : decode cc pc = .ok (.aaload, 1)) (kk : W p l e R s m args below meth c H locs cells slots Q (F0 m (pc + 1) ls (v :: rest))) : W p l e R s m args below meth c H locs cells slots Q (F0 m pc ls (.int i :: .ref (ad (kd, a)) :: rest)) :=
  zr_aald (g := (kd, a)) S hK hw t ((cG_at hv).trans he) ht hin hdg (by rw [hfv]; exact kk)
/-! the constants and their tables -/
theorem cr_getE (S : CallFix p m c cc nL s args Ts own) (hC : CK D cy A en tI tS s s.heap) (hS : va_S A s.heap H locs) (i : Nat) (hi : i < 19) {q : String × String × String × List Int32} (hq : q ∈ zFl) {ref : String} {index : Nat} (hn : (own, index, ref, q.2.1, q.2.2.1) ∈ nF) (hd : q.1 = ref) (hdg : decode cc pc = .ok (.getfield index, 3)) (kk : W p l e R s m args below meth c H locs cells slots Q (F0 m (pc + 3) ls (.int (q.2.2.2.getD i 0) :: rest))) : W p l e R s m args below meth c H locs cells slots Q (F0 m pc ls (.ref (en i) :: rest)) := by
  obtain ⟨cf, k, fi, f, cell, h1, h2, h3, h4, h5, h6⟩ := ((hC.2.2.1.1.1 i hi).2.2 q hq).kept hS.2.1
  subst hd
  exact va_Wgetf S.1 S.2.1 S.2.2.2.1 (va_Nw.use rfl (hC.2.1.1 _ hn)) h1 h2 h3 h4 (v := .int (q.2.2.2.getD i 0)) h5 rfl rfl hdg kk
theorem cr_getI (S : CallFix p m c cc nL s args Ts own) (hC : CK D cy A en tI tS s s.heap) (hS : va_S A s.heap H locs) {index : Nat} (hn : (own, index, "RunClasses", "INSTRUCTIONS", "[LRunClasses$Instruction;") ∈ nF) (hdg : decode cc pc = .ok (.getstatic index, 3)) (kk : W p l e R s m args below meth c H locs cells slots Q (F0 m (pc + 3) ls (.ref tI :: rest))) : W p l e R s m args below meth c H locs cells slots Q (F0 m pc ls rest) :=
  va_getsN S.1 S.2.1 hC.2.2.1.2.1 hS S.2.2.2.1 (va_Nw.use rfl (hC.2.1.1 _ hn)) (fun _ h => h) hdg kk
theorem cr_getS (S : CallFix p m c cc nL s args Ts own) (hC : CK D cy A en tI tS s s.heap) (hS : va_S A s.heap H locs) {index : Nat} (hn : Cond.fieldLink own index "RunClasses$1" "$SwitchMap$RunClasses$Instruction" "[I" ∈ Ts) (hdg : decode cc pc = .ok (.getstatic index, 3)) (kk : W p l e R s m args below meth c H locs cells slots Q (F0 m (pc + 3) ls (.ref tS :: rest))) : W p l e R s m args below meth c H locs cells slots Q (F0 m pc ls rest) :=
  va_gets S.1 S.2.1 hC.2.2.1.2.2.2.1 hS S.2.2.2.1 (S.2.2.2.2 _ hn) (fun _ h => h) hdg kk
theorem cr_getC (S : CallFix p m c cc nL s args Ts own) (hC : CK D cy A en tI tS s s.heap) (hS : va_S A s.heap H locs) (i : Nat) (hi : i < 19) {index : Nat} {n : String} (hnm : zNm.getD i "" = n) (hn : Cond.fieldLink own index zIE n zID ∈ Ts) (hdg : decode cc pc = .ok (.getstatic index, 3)) (kk : W p l e R s m args below meth c H locs cells slots Q (F0 m (pc + 3) ls (.ref (en i) :: rest))) : W p l e R s m args below meth c H locs cells slots Q (F0 m pc ls rest) := by
  subst hnm
  exact va_gets S.1 S.2.1 (hC.2.2.1.1.1 i hi).1 hS S.2.2.2.1 (S.2.2.2.2 _ hn) (fun _ h => h) hdg kk
theorem cr_tI (S : CallFix p m c cc nL s args Ts own) (hC : CK D cy A en tI tS s s.heap) (hS : va_S A s.heap H locs) {i : Int32} (hin : vp_in i 19) (hdg : decode cc pc = .ok (.aaload, 1)) (kk : W p l e R s m args below meth c H locs cells slots Q (F0 m (pc + 1) ls (.ref (en i.toNatClampNeg) :: rest))) : W p l e R s m args below meth c H locs cells slots Q (F0 m pc ls (.int i :: .ref tI :: rest)) :=
  vb_tq S.1 S.2.1 hC.2.2.1.2.2.1 hS hin rfl hdg kk
theorem cr_tIlen (S : CallFix p m c cc nL s args Ts own) (hC : CK D cy A en tI tS s s.heap) (hS : va_S A s.heap H locs) (hdg : decode cc pc = .ok (.arraylength, 1)) (kk : W p l e R s m args below meth c H locs cells slots Q (F0 m (pc + 1) ls (.int 19 :: rest))) : W p l e R s m args below meth c H locs cells slots Q (F0 m pc ls (.ref tI :: rest)) :=
  va_tlen S.1 S.2.1 hC.2.2.1.2.2.1 hS (v := 19) (by decide) hdg kk
theorem cr_tS (S : CallFix p m c cc nL s args Ts own) (hC : CK D cy A en tI tS s s.heap) (hS : va_S A s.heap H locs) {i : Int32} (hin : vp_in i 19) (hdg : decode cc pc = .ok (.iaload, 1)) (kk : W p l e R s m args below meth c H locs cells slots Q (F0 m (pc + 1) ls (.int (zSw.getD i.toNatClampNeg 0) :: rest))) : W p l e R s m args below meth c H locs cells slots Q (F0 m pc ls (.int i :: .ref tS :: rest)) :=
  va_ti S.1 S.2.1 hC.2.2.1.2.2.2.2 hS hin rfl hdg kk
theorem cr_acmp_eq (S : CallFix p m c cc nL s args Ts own) (hC : CK D cy A en tI tS s s.heap) {i j : Nat} (hi : i < 19) (hj : j < 19) {off : Int} {tgt : Nat} (hdg : decode cc pc = .ok (.if_acmp .eq off, 3)) (ht : (pc : Int) + off = (tgt : Int)) (kt : i = j → W p l e R s m args below meth c H locs cells slots Q (F0 m tgt ls rest)) (kf : ¬ i = j → W p l e R s m args below meth c H locs cells slots Q (F0 m (pc + 3) ls rest)) : W p l e R s m args below meth c H locs cells slots Q (F0 m pc ls (.ref (en j) :: .ref (en i) :: rest)) :=
  lv_acmp_eq (rx := some (en i)) (ry := some (en j)) S.1 S.2.1 hdg ht (fun h => kt (hC.2.2.1.1.2 i j hi hj (Option.some.inj h))) (fun h => kf (fun q => h (by rw [q])))
theorem cr_acmp_ne (S : CallFix p m c cc nL s args Ts own) (hC : CK D cy A en tI tS s s.heap) {i j : Nat} (hi : i < 19) (hj : j < 19) {off : Int} {tgt : Nat} (hdg : decode cc pc = .ok (.if_acmp .ne off, 3)) (ht : (pc : Int) + off = (tgt : Int)) (kt : ¬ i = j → W p l e R s m args below meth c H locs cells slots Q (F0 m tgt ls rest)) (kf : i = j → W p l e R s m args below meth c H locs cells slots Q (F0 m (pc + 3) ls rest)) : W p l e R s m args below meth c H locs cells slots Q (F0 m pc ls (.ref (en j) :: .ref (en i) :: rest)) :=
  lv_acmp_ne (rx := some (en i)) (ry := some (en j)) S.1 S.2.1 hdg ht (fun h => kt (fun q => h (by rw [q]))) (fun h => kf (hC.2.2.1.1.2 i j hi hj (Option.some.inj h)))
/-! calls -/
theorem cw_blind (av : List Value) : FrameBlind (va_Pc av (CWs D cy A ad en tI tS σ)) := fun a U g mk q => by
  obtain ⟨q0, qP, qK, qN, qS, qA, qX⟩ := q
  exact ⟨q0, qP, va_K.moved (u := U) (U := U.calling g mk a) (Vm.Alike.refl U.vm) qK, qN.same rfl, qS.moved (Vm.Alike.refl U.vm), qA, qX.same rfl⟩
theorem cw_pre (hC : CK D cy A en tI tS s s.heap) (hw : zw D A ad (cG cy ad σ) H) (hS : va_S A s.heap H locs) (av : List Value) : ∀ U : State, U.heap = H → s.WarmedH U.vm → va_Pc av (CWs D cy A ad en tI tS σ) av.toArray U := fun U hU hW => ⟨rfl, by rw [hU]; exact hw, by rw [hU]; exact hC.on hS hW⟩
variable {st : List Value} {a : Array Value} {σ' : CS}
theorem cw_fi {r : Int32} (hr : va_Run p l e R s m args below meth c H locs cells slots 0 0 (F0 m pc ls st) rest (va_Qi (fun (r' : Int32) (u : CS) => r' = r ∧ u = σ') (CWp D cy A ad) A a) A) (hS : va_S A H0 H locs) (kk : ∀ (H1 : Heap) (locs1 : List Loc), zw D A ad (cG cy ad σ') H1 → va_S A H0 H1 locs1 → W p l e R s m args below meth c H1 locs1 cells slots Q (F0 m (pc + 3) ls (.int r :: rest))) : W p l e R s m args below meth c H locs cells slots Q (F0 m pc ls st) := by
  refine va_calli hr hS (fun q _ h => h) (fun q h => h) (fun r1 u t H1 locs1 ht hvm hq hB hz1 hk1 hS1 => ?_)
  obtain ⟨rfl, rfl⟩ := hq
  subst ht
  exact kk _ _ hB hS1
theorem cw_fl {r : Int64} (hr : va_Run p l e R s m args below meth c H locs cells slots 0 0 (F0 m pc ls st) rest (va_Ql (fun (r' : Int64) (u : CS) => r' = r ∧ u = σ') (CWp D cy A ad) A a) A) (hS : va_S A H0 H locs) (kk : ∀ (H1 : Heap) (locs1 : List Loc), zw D A ad (cG cy ad σ') H1 → va_S A H0 H1 locs1 → W p l e R s m args below meth c H1 locs1 cells slots Q (F0 m (pc + 3) ls (.long r :: rest))) : W p l e R s m args below meth c H locs cells slots Q (F0 m pc ls st) := by
  refine va_calll hr hS (fun q _ h => h) (fun q h => h) (fun r1 u t H1 locs1 ht hvm hq hB hz1 hk1 hS1 => ?_)
  obtain ⟨rfl, rfl⟩ := hq
  subst ht
  exact kk _ _ hB hS1
theorem cw_fv (hr : va_Run p l e R s m args below meth c H locs cells slots 0 0 (F0 m pc ls st) rest (va_Qv (fun (u : CS) => u = σ') (CWp D cy A ad) A a) A) (hS : va_S A H0 H locs) (kk : ∀ (H1 : Heap) (locs1 : List Loc), zw D A ad (cG cy ad σ') H1 → va_S A H0 H1 locs1 → W p l e R s m args below meth c H1 locs1 cells slots Q (F0 m (pc + 3) ls rest)) : W p l e R s m args below meth c H locs cells slots Q (F0 m pc ls st) := by
  refine va_callv hr hS (fun q _ h => h) (fun q h => h) (fun u t H1 locs1 ht hvm hq hB hz1 hk1 hS1 => ?_)
  subst hq
  subst ht
  exact kk _ _ hB hS1
theorem cw_fq {kd : Nat} {r : Option Nat} (hr : va_Run p l e R s m args below meth c H locs cells slots 0 0 (F0 m pc ls st) rest (va_Qq (fun (r' : Option Nat) (u : CS) => r' = r.map (fun i => ad (kd, i)) ∧ u = σ') (CWp D cy A ad) A a) A) (hS : va_S A H0 H locs) (kk : ∀ (H1 : Heap) (locs1 : List Loc), zw D A ad (cG cy ad σ') H1 → va_S A H0 H1 locs1 → W p l e R s m args below meth c H1 locs1 cells slots Q (F0 m (pc + 3) ls (rn ad kd r :: rest))) : W p l e R s m args below meth c H locs cells slots Q (F0 m pc ls st) := by
  refine va_callq hr hS (fun q _ h => h) (fun q h => h) (fun r1 u t H1 locs1 ht hvm hq hB hz1 hk1 hS1 => ?_)
  obtain ⟨rfl, rfl⟩ := hq
  subst ht
  exact kk _ _ hB hS1
/-! returns -/
theorem cw_reti {x r : Int32} (S : CallFix p m c cc nL s args Ts own) (hr : meth.sig.returnType = some .int) (hf : some (x, σ) = some (r, σ')) (hw : zw D A ad (cG cy ad σ) H) (hS : va_S A s.heap H locs) (hlocks : meth.locks = false) (hdg : decode cc pc = .ok (.ireturn, 1)) : W p l e R s m args below meth c H locs cells slots (MQ below (va_Qi (fun (r' : Int32) (u : CS) => r' = r ∧ u = σ') (CWp D cy A ad) A) args s cells slots A) (F0 m pc ls [.int x]) :=
  W.iret (v := x) S.1 S.2.1 hr (fun t ht hW => ⟨⟨x, σ, rfl, ⟨congrArg Prod.fst (Option.some.inj hf), congrArg Prod.snd (Option.some.inj hf)⟩, by unfold CWp; rw [ht]; exact hw⟩, hS.F ht⟩) hS.2.2 hdg hlocks
theorem cw_retz {x r : Int32} {ty : FieldType} (S : CallFix p m c cc nL s args Ts own) (hr : meth.sig.returnType = some ty) (hn : narrow ty (.int x) = .int x) (hf : some (x, σ) = some (r, σ')) (hw : zw D A ad (cG cy ad σ) H) (hS : va_S A s.heap H locs) (hlocks : meth.locks = false) (hdg : decode cc pc = .ok (.ireturn, 1)) : W p l e R s m args below meth c H locs cells slots (MQ below (va_Qi (fun (r' : Int32) (u : CS) => r' = r ∧ u = σ') (CWp D cy A ad) A) args s cells slots A) (F0 m pc ls [.int x]) :=
  W.zret (v := x) S.1 S.2.1 hr hn (fun t ht hW => ⟨⟨x, σ, rfl, ⟨congrArg Prod.fst (Option.some.inj hf), congrArg Prod.snd (Option.some.inj hf)⟩, by unfold CWp; rw [ht]; exact hw⟩, hS.F ht⟩) hS.2.2 hdg hlocks
theorem cw_retl {x r : Int64} (S : CallFix p m c cc nL s args Ts own) (hr : meth.sig.returnType = some .long) (hf : some (x, σ) = some (r, σ')) (hw : zw D A ad (cG cy ad σ) H) (hS : va_S A s.heap H locs) (hlocks : meth.locks = false) (hdg : decode cc pc = .ok (.lreturn, 1)) : W p l e R s m args below meth c H locs cells slots (MQ below (va_Ql (fun (r' : Int64) (u : CS) => r' = r ∧ u = σ') (CWp D cy A ad) A) args s cells slots A) (F0 m pc ls [.long x]) :=
  W.lret (v := x) S.1 S.2.1 hr (fun t ht hW => ⟨⟨x, σ, rfl, ⟨congrArg Prod.fst (Option.some.inj hf), congrArg Prod.snd (Option.some.inj hf)⟩, by unfold CWp; rw [ht]; exact hw⟩, hS.F ht⟩) hS.2.2 hdg hlocks
theorem cw_retv (S : CallFix p m c cc nL s args Ts own) (hr : meth.sig.returnType = none) (hf : some ((), σ) = some ((), σ')) (hw : zw D A ad (cG cy ad σ) H) (hS : va_S A s.heap H locs) (hlocks : meth.locks = false) (hdg : decode cc pc = .ok (.return_, 1)) : W p l e R s m args below meth c H locs cells slots (MQ below (va_Qv (fun (u : CS) => u = σ') (CWp D cy A ad) A) args s cells slots A) (F0 m pc ls []) :=
  W.vret S.1 S.2.1 hr (fun t ht hW => ⟨⟨σ, rfl, congrArg Prod.snd (Option.some.inj hf), by unfold CWp; rw [ht]; exact hw⟩, hS.F ht⟩) hS.2.2 hdg hlocks
theorem cw_retq {kd : Nat} {x r : Option Nat} {rt : FieldType} (S : CallFix p m c cc nL s args Ts own) (hr : meth.sig.returnType = some rt) (hrt : (∃ n, rt = .object n) ∨ ∃ t, rt = .array t) (hf : some (x, σ) = some (r, σ')) (hw : zw D A ad (cG cy ad σ) H) (hS : va_S A s.heap H locs) (hlocks : meth.locks = false) (hdg : decode cc pc = .ok (.areturn, 1)) : W p l e R s m args below meth c H locs cells slots (MQ below (va_Qq (fun (r' : Option Nat) (u : CS) => r' = r.map (fun i => ad (kd, i)) ∧ u = σ') (CWp D cy A ad) A) args s cells slots A) (F0 m pc ls [rn ad kd x]) :=
  W.aret (v := rn ad kd x) S.1 S.2.1 hr hrt (va_rf_or _) (fun t ht hW => ⟨⟨_, σ, rfl, ⟨by rw [show x = r from congrArg Prod.fst (Option.some.inj hf)], congrArg Prod.snd (Option.some.inj hf)⟩, by unfold CWp; rw [ht]; exact hw⟩, hS.F ht⟩) hS.2.2 hdg hlocks
end CRW
/-! null or not, on the pure side -/
def zo {β : Type} (o : Option Nat) (n : β) (f : Nat → β) : β := match o with
  | none => n
  | some i => f i
theorem zo_n {β : Type} {o : Option Nat} {n : β} {f : Nat → β} (h : o = none) : zo o n f = n := by subst h; rfl
theorem zo_s {β : Type} {o : Option Nat} {n : β} {f : Nat → β} {i : Nat} (h : o = some i) : zo o n f = f i := by subst h; rfl
end
