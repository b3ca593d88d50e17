-- ===== PART A: goes FIRST, ahead of the names: the tables' words, and 'selects' of the private methods out of them =====
/-- a private method of a class that the tables say can be made, by its rows of tables_1 -/
def lw_okq (q : MethodName × Nat) : Prop := (q.1.cls ≠ "java/lang/invoke/MethodHandle" ∧ q.1.cls ≠ "java/lang/invoke/VarHandle") ∧ Cond.instantiable q.1.cls q.2 ∈ tables_1 ∧ Cond.privateMethod q.1 ∈ tables_1 ∧ Cond.instanceMethod q.1 ∈ tables_1
theorem lw_p0 : lw_okq (⟨"java/lang/Throwable", "fillInStackTrace", "(I)Ljava/lang/Throwable;"⟩, 6) := ⟨⟨by decide +kernel, by decide +kernel⟩, List.mem_of_getElem? (i := 196) (by decide +kernel), List.mem_of_getElem? (i := 194) (by decide +kernel), List.mem_of_getElem? (i := 195) (by decide +kernel)⟩
theorem lw_p1 : lw_okq (⟨"DeltaViews", "renewViews", "()Z"⟩, 3) := ⟨⟨by decide +kernel, by decide +kernel⟩, List.mem_of_getElem? (i := 24) (by decide +kernel), List.mem_of_getElem? (i := 276) (by decide +kernel), List.mem_of_getElem? (i := 277) (by decide +kernel)⟩
theorem lw_p2 : lw_okq (⟨"DeltaViews$Bag", "placeOfPending", "()I"⟩, 5) := ⟨⟨by decide +kernel, by decide +kernel⟩, List.mem_of_getElem? (i := 72) (by decide +kernel), List.mem_of_getElem? (i := 314) (by decide +kernel), List.mem_of_getElem? (i := 315) (by decide +kernel)⟩
theorem lw_p3 : lw_okq (⟨"DeltaViews$Bag", "orderOfCells", "(I[II)I"⟩, 5) := ⟨⟨by decide +kernel, by decide +kernel⟩, List.mem_of_getElem? (i := 72) (by decide +kernel), List.mem_of_getElem? (i := 318) (by decide +kernel), List.mem_of_getElem? (i := 319) (by decide +kernel)⟩
theorem lw_p4 : lw_okq (⟨"DeltaViews$Bag", "isPending", "(I)Z"⟩, 5) := ⟨⟨by decide +kernel, by decide +kernel⟩, List.mem_of_getElem? (i := 72) (by decide +kernel), List.mem_of_getElem? (i := 322) (by decide +kernel), List.mem_of_getElem? (i := 323) (by decide +kernel)⟩
theorem lw_p5 : lw_okq (⟨"DeltaViews$Bag", "remove", "(I)V"⟩, 5) := ⟨⟨by decide +kernel, by decide +kernel⟩, List.mem_of_getElem? (i := 72) (by decide +kernel), List.mem_of_getElem? (i := 326) (by decide +kernel), List.mem_of_getElem? (i := 327) (by decide +kernel)⟩
theorem lw_p6 : lw_okq (⟨"DeltaViews$Bag", "insert", "(IJ)V"⟩, 5) := ⟨⟨by decide +kernel, by decide +kernel⟩, List.mem_of_getElem? (i := 72) (by decide +kernel), List.mem_of_getElem? (i := 333) (by decide +kernel), List.mem_of_getElem? (i := 334) (by decide +kernel)⟩
theorem lw_p7 : lw_okq (⟨"DeltaViews$Group", "isFirstOfGroup", "(LDeltaViews$Bag;I)Z"⟩, 4) := ⟨⟨by decide +kernel, by decide +kernel⟩, List.mem_of_getElem? (i := 343) (by decide +kernel), List.mem_of_getElem? (i := 341) (by decide +kernel), List.mem_of_getElem? (i := 342) (by decide +kernel)⟩
theorem lw_p8 : lw_okq (⟨"DeltaViews$Group", "fold", "(LDeltaViews$Bag;I)I"⟩, 4) := ⟨⟨by decide +kernel, by decide +kernel⟩, List.mem_of_getElem? (i := 343) (by decide +kernel), List.mem_of_getElem? (i := 348) (by decide +kernel), List.mem_of_getElem? (i := 349) (by decide +kernel)⟩
theorem lw_p9 : lw_okq (⟨"DeltaViews$Group", "worth", "(LDeltaViews$Bag;I)I"⟩, 4) := ⟨⟨by decide +kernel, by decide +kernel⟩, List.mem_of_getElem? (i := 343) (by decide +kernel), List.mem_of_getElem? (i := 352) (by decide +kernel), List.mem_of_getElem? (i := 353) (by decide +kernel)⟩
theorem lw_p10 : lw_okq (⟨"DeltaViews$Join", "addPartners", "(ILDeltaViews$Bag;)V"⟩, 4) := ⟨⟨by decide +kernel, by decide +kernel⟩, List.mem_of_getElem? (i := 370) (by decide +kernel), List.mem_of_getElem? (i := 368) (by decide +kernel), List.mem_of_getElem? (i := 369) (by decide +kernel)⟩
theorem lw_p11 : lw_okq (⟨"DeltaViews$Select", "passes", "(I)Z"⟩, 4) := ⟨⟨by decide +kernel, by decide +kernel⟩, List.mem_of_getElem? (i := 395) (by decide +kernel), List.mem_of_getElem? (i := 393) (by decide +kernel), List.mem_of_getElem? (i := 394) (by decide +kernel)⟩
theorem lw_p12 : lw_okq (⟨"DeltaViews", "takeBack", "(I)V"⟩, 3) := ⟨⟨by decide +kernel, by decide +kernel⟩, List.mem_of_getElem? (i := 24) (by decide +kernel), List.mem_of_getElem? (i := 446) (by decide +kernel), List.mem_of_getElem? (i := 447) (by decide +kernel)⟩
theorem lw_p13 : lw_okq (⟨"DeltaViews$Bag", "orderOfRows", "(ILDeltaViews$Bag;I)I"⟩, 5) := ⟨⟨by decide +kernel, by decide +kernel⟩, List.mem_of_getElem? (i := 72) (by decide +kernel), List.mem_of_getElem? (i := 460) (by decide +kernel), List.mem_of_getElem? (i := 461) (by decide +kernel)⟩
theorem lw_p14 : lw_okq (⟨"DeltaViews", "viewAt", "(I)LDeltaViews$View;"⟩, 3) := ⟨⟨by decide +kernel, by decide +kernel⟩, List.mem_of_getElem? (i := 24) (by decide +kernel), List.mem_of_getElem? (i := 471) (by decide +kernel), List.mem_of_getElem? (i := 472) (by decide +kernel)⟩
theorem lw_p15 : lw_okq (⟨"DeltaViews", "makeView", "(LDeltaViews$Operation;)I"⟩, 3) := ⟨⟨by decide +kernel, by decide +kernel⟩, List.mem_of_getElem? (i := 24) (by decide +kernel), List.mem_of_getElem? (i := 499) (by decide +kernel), List.mem_of_getElem? (i := 500) (by decide +kernel)⟩
def lw_privs_1 : List (MethodName × Nat) := [(⟨"java/lang/Throwable", "fillInStackTrace", "(I)Ljava/lang/Throwable;"⟩, 6), (⟨"DeltaViews", "renewViews", "()Z"⟩, 3), (⟨"DeltaViews$Bag", "placeOfPending", "()I"⟩, 5), (⟨"DeltaViews$Bag", "orderOfCells", "(I[II)I"⟩, 5), (⟨"DeltaViews$Bag", "isPending", "(I)Z"⟩, 5), (⟨"DeltaViews$Bag", "remove", "(I)V"⟩, 5), (⟨"DeltaViews$Bag", "insert", "(IJ)V"⟩, 5), (⟨"DeltaViews$Group", "isFirstOfGroup", "(LDeltaViews$Bag;I)Z"⟩, 4), (⟨"DeltaViews$Group", "fold", "(LDeltaViews$Bag;I)I"⟩, 4), (⟨"DeltaViews$Group", "worth", "(LDeltaViews$Bag;I)I"⟩, 4), (⟨"DeltaViews$Join", "addPartners", "(ILDeltaViews$Bag;)V"⟩, 4), (⟨"DeltaViews$Select", "passes", "(I)Z"⟩, 4), (⟨"DeltaViews", "takeBack", "(I)V"⟩, 3), (⟨"DeltaViews$Bag", "orderOfRows", "(ILDeltaViews$Bag;I)I"⟩, 5), (⟨"DeltaViews", "viewAt", "(I)LDeltaViews$View;"⟩, 3), (⟨"DeltaViews", "makeView", "(LDeltaViews$Operation;)I"⟩, 3)]
theorem lw_r1 : ∀ q ∈ lw_privs_1, lw_okq q := List.forall_mem_cons.mpr ⟨lw_p0, List.forall_mem_cons.mpr ⟨lw_p1, List.forall_mem_cons.mpr ⟨lw_p2, List.forall_mem_cons.mpr ⟨lw_p3, List.forall_mem_cons.mpr ⟨lw_p4, List.forall_mem_cons.mpr ⟨lw_p5, List.forall_mem_cons.mpr ⟨lw_p6, List.forall_mem_cons.mpr ⟨lw_p7, List.forall_mem_cons.mpr ⟨lw_p8, List.forall_mem_cons.mpr ⟨lw_p9, List.forall_mem_cons.mpr ⟨lw_p10, List.forall_mem_cons.mpr ⟨lw_p11, List.forall_mem_cons.mpr ⟨lw_p12, List.forall_mem_cons.mpr ⟨lw_p13, List.forall_mem_cons.mpr ⟨lw_p14, List.forall_mem_cons.mpr ⟨lw_p15, fun _ h => absurd h List.not_mem_nil⟩⟩⟩⟩⟩⟩⟩⟩⟩⟩⟩⟩⟩⟩⟩⟩
theorem lw_p16 : lw_okq (⟨"DeltaViewsModel", "tryTable", "(I)Z"⟩, 22) := ⟨⟨by decide +kernel, by decide +kernel⟩, List.mem_of_getElem? (i := 701) (by decide +kernel), List.mem_of_getElem? (i := 790) (by decide +kernel), List.mem_of_getElem? (i := 791) (by decide +kernel)⟩
theorem lw_p17 : lw_okq (⟨"DeltaViewsModel", "take", "(II)V"⟩, 22) := ⟨⟨by decide +kernel, by decide +kernel⟩, List.mem_of_getElem? (i := 701) (by decide +kernel), List.mem_of_getElem? (i := 794) (by decide +kernel), List.mem_of_getElem? (i := 795) (by decide +kernel)⟩
theorem lw_p18 : lw_okq (⟨"DeltaViewsModel", "cellOf", "(III)I"⟩, 22) := ⟨⟨by decide +kernel, by decide +kernel⟩, List.mem_of_getElem? (i := 701) (by decide +kernel), List.mem_of_getElem? (i := 798) (by decide +kernel), List.mem_of_getElem? (i := 799) (by decide +kernel)⟩
theorem lw_p19 : lw_okq (⟨"DeltaViewsModel", "gather", "(IJ)V"⟩, 22) := ⟨⟨by decide +kernel, by decide +kernel⟩, List.mem_of_getElem? (i := 701) (by decide +kernel), List.mem_of_getElem? (i := 802) (by decide +kernel), List.mem_of_getElem? (i := 803) (by decide +kernel)⟩
theorem lw_p20 : lw_okq (⟨"DeltaViewsModel", "isRow", "(II)Z"⟩, 22) := ⟨⟨by decide +kernel, by decide +kernel⟩, List.mem_of_getElem? (i := 701) (by decide +kernel), List.mem_of_getElem? (i := 806) (by decide +kernel), List.mem_of_getElem? (i := 807) (by decide +kernel)⟩
theorem lw_p21 : lw_okq (⟨"DeltaViewsModel", "settle", "(III)Z"⟩, 22) := ⟨⟨by decide +kernel, by decide +kernel⟩, List.mem_of_getElem? (i := 701) (by decide +kernel), List.mem_of_getElem? (i := 811) (by decide +kernel), List.mem_of_getElem? (i := 812) (by decide +kernel)⟩
theorem lw_p22 : lw_okq (⟨"DeltaViewsModel", "comesBefore", "(III)Z"⟩, 22) := ⟨⟨by decide +kernel, by decide +kernel⟩, List.mem_of_getElem? (i := 701) (by decide +kernel), List.mem_of_getElem? (i := 815) (by decide +kernel), List.mem_of_getElem? (i := 816) (by decide +kernel)⟩
theorem lw_p23 : lw_okq (⟨"DeltaViewsModel", "work", "(II)Z"⟩, 22) := ⟨⟨by decide +kernel, by decide +kernel⟩, List.mem_of_getElem? (i := 701) (by decide +kernel), List.mem_of_getElem? (i := 819) (by decide +kernel), List.mem_of_getElem? (i := 820) (by decide +kernel)⟩
theorem lw_p24 : lw_okq (⟨"DeltaViewsModel", "selects", "(II)V"⟩, 22) := ⟨⟨by decide +kernel, by decide +kernel⟩, List.mem_of_getElem? (i := 701) (by decide +kernel), List.mem_of_getElem? (i := 823) (by decide +kernel), List.mem_of_getElem? (i := 824) (by decide +kernel)⟩
theorem lw_p25 : lw_okq (⟨"DeltaViewsModel", "projects", "(II)V"⟩, 22) := ⟨⟨by decide +kernel, by decide +kernel⟩, List.mem_of_getElem? (i := 701) (by decide +kernel), List.mem_of_getElem? (i := 830) (by decide +kernel), List.mem_of_getElem? (i := 831) (by decide +kernel)⟩
theorem lw_p26 : lw_okq (⟨"DeltaViewsModel", "joins", "(III)V"⟩, 22) := ⟨⟨by decide +kernel, by decide +kernel⟩, List.mem_of_getElem? (i := 701) (by decide +kernel), List.mem_of_getElem? (i := 834) (by decide +kernel), List.mem_of_getElem? (i := 835) (by decide +kernel)⟩
theorem lw_p27 : lw_okq (⟨"DeltaViewsModel", "all", "(IIZ)V"⟩, 22) := ⟨⟨by decide +kernel, by decide +kernel⟩, List.mem_of_getElem? (i := 701) (by decide +kernel), List.mem_of_getElem? (i := 838) (by decide +kernel), List.mem_of_getElem? (i := 839) (by decide +kernel)⟩
theorem lw_p28 : lw_okq (⟨"DeltaViewsModel", "groups", "(II)V"⟩, 22) := ⟨⟨by decide +kernel, by decide +kernel⟩, List.mem_of_getElem? (i := 701) (by decide +kernel), List.mem_of_getElem? (i := 842) (by decide +kernel), List.mem_of_getElem? (i := 843) (by decide +kernel)⟩
theorem lw_p29 : lw_okq (⟨"DeltaViewsModel", "result", "(III)I"⟩, 22) := ⟨⟨by decide +kernel, by decide +kernel⟩, List.mem_of_getElem? (i := 701) (by decide +kernel), List.mem_of_getElem? (i := 846) (by decide +kernel), List.mem_of_getElem? (i := 847) (by decide +kernel)⟩
theorem lw_p30 : lw_okq (⟨"DeltaViewsModel", "takeOver", "(I)V"⟩, 22) := ⟨⟨by decide +kernel, by decide +kernel⟩, List.mem_of_getElem? (i := 701) (by decide +kernel), List.mem_of_getElem? (i := 850) (by decide +kernel), List.mem_of_getElem? (i := 851) (by decide +kernel)⟩
theorem lw_p31 : lw_okq (⟨"DeltaViewsModel", "differing", "(I)I"⟩, 22) := ⟨⟨by decide +kernel, by decide +kernel⟩, List.mem_of_getElem? (i := 701) (by decide +kernel), List.mem_of_getElem? (i := 854) (by decide +kernel), List.mem_of_getElem? (i := 855) (by decide +kernel)⟩
def lw_privs_2 : List (MethodName × Nat) := [(⟨"DeltaViewsModel", "tryTable", "(I)Z"⟩, 22), (⟨"DeltaViewsModel", "take", "(II)V"⟩, 22), (⟨"DeltaViewsModel", "cellOf", "(III)I"⟩, 22), (⟨"DeltaViewsModel", "gather", "(IJ)V"⟩, 22), (⟨"DeltaViewsModel", "isRow", "(II)Z"⟩, 22), (⟨"DeltaViewsModel", "settle", "(III)Z"⟩, 22), (⟨"DeltaViewsModel", "comesBefore", "(III)Z"⟩, 22), (⟨"DeltaViewsModel", "work", "(II)Z"⟩, 22), (⟨"DeltaViewsModel", "selects", "(II)V"⟩, 22), (⟨"DeltaViewsModel", "projects", "(II)V"⟩, 22), (⟨"DeltaViewsModel", "joins", "(III)V"⟩, 22), (⟨"DeltaViewsModel", "all", "(IIZ)V"⟩, 22), (⟨"DeltaViewsModel", "groups", "(II)V"⟩, 22), (⟨"DeltaViewsModel", "result", "(III)I"⟩, 22), (⟨"DeltaViewsModel", "takeOver", "(I)V"⟩, 22), (⟨"DeltaViewsModel", "differing", "(I)I"⟩, 22)]
theorem lw_r2 : ∀ q ∈ lw_privs_2, lw_okq q := List.forall_mem_cons.mpr ⟨lw_p16, List.forall_mem_cons.mpr ⟨lw_p17, List.forall_mem_cons.mpr ⟨lw_p18, List.forall_mem_cons.mpr ⟨lw_p19, List.forall_mem_cons.mpr ⟨lw_p20, List.forall_mem_cons.mpr ⟨lw_p21, List.forall_mem_cons.mpr ⟨lw_p22, List.forall_mem_cons.mpr ⟨lw_p23, List.forall_mem_cons.mpr ⟨lw_p24, List.forall_mem_cons.mpr ⟨lw_p25, List.forall_mem_cons.mpr ⟨lw_p26, List.forall_mem_cons.mpr ⟨lw_p27, List.forall_mem_cons.mpr ⟨lw_p28, List.forall_mem_cons.mpr ⟨lw_p29, List.forall_mem_cons.mpr ⟨lw_p30, List.forall_mem_cons.mpr ⟨lw_p31, fun _ h => absurd h List.not_mem_nil⟩⟩⟩⟩⟩⟩⟩⟩⟩⟩⟩⟩⟩⟩⟩⟩
theorem lw_p32 : lw_okq (⟨"DeltaViewsModel", "timesOf", "(IIII)J"⟩, 22) := ⟨⟨by decide +kernel, by decide +kernel⟩, List.mem_of_getElem? (i := 701) (by decide +kernel), List.mem_of_getElem? (i := 858) (by decide +kernel), List.mem_of_getElem? (i := 859) (by decide +kernel)⟩
theorem lw_p33 : lw_okq (⟨"DeltaViewsModel", "isColumn", "(II)Z"⟩, 22) := ⟨⟨by decide +kernel, by decide +kernel⟩, List.mem_of_getElem? (i := 701) (by decide +kernel), List.mem_of_getElem? (i := 866) (by decide +kernel), List.mem_of_getElem? (i := 867) (by decide +kernel)⟩
theorem lw_p34 : lw_okq (⟨"DeltaViewsModel", "isView", "(I)Z"⟩, 22) := ⟨⟨by decide +kernel, by decide +kernel⟩, List.mem_of_getElem? (i := 701) (by decide +kernel), List.mem_of_getElem? (i := 870) (by decide +kernel), List.mem_of_getElem? (i := 871) (by decide +kernel)⟩
theorem lw_p35 : lw_okq (⟨"DeltaViewsModel", "told", "(III)V"⟩, 22) := ⟨⟨by decide +kernel, by decide +kernel⟩, List.mem_of_getElem? (i := 701) (by decide +kernel), List.mem_of_getElem? (i := 874) (by decide +kernel), List.mem_of_getElem? (i := 875) (by decide +kernel)⟩
theorem lw_p36 : lw_okq (⟨"DeltaViewsModel", "make", "(IIIII)I"⟩, 22) := ⟨⟨by decide +kernel, by decide +kernel⟩, List.mem_of_getElem? (i := 701) (by decide +kernel), List.mem_of_getElem? (i := 878) (by decide +kernel), List.mem_of_getElem? (i := 879) (by decide +kernel)⟩
def lw_privs_3 : List (MethodName × Nat) := [(⟨"DeltaViewsModel", "timesOf", "(IIII)J"⟩, 22), (⟨"DeltaViewsModel", "isColumn", "(II)Z"⟩, 22), (⟨"DeltaViewsModel", "isView", "(I)Z"⟩, 22), (⟨"DeltaViewsModel", "told", "(III)V"⟩, 22), (⟨"DeltaViewsModel", "make", "(IIIII)I"⟩, 22)]
theorem lw_r3 : ∀ q ∈ lw_privs_3, lw_okq q := List.forall_mem_cons.mpr ⟨lw_p32, List.forall_mem_cons.mpr ⟨lw_p33, List.forall_mem_cons.mpr ⟨lw_p34, List.forall_mem_cons.mpr ⟨lw_p35, List.forall_mem_cons.mpr ⟨lw_p36, fun _ h => absurd h List.not_mem_nil⟩⟩⟩⟩⟩
def lw_privs : List (MethodName × Nat) := lw_privs_1 ++ (lw_privs_2 ++ (lw_privs_3))
def lw_tbl : List Cond := k2_sels lw_privs ++ tables_1
theorem lw_privs_ok : ∀ q ∈ lw_privs, lw_okq q := by
  show ∀ q ∈ lw_privs_1 ++ (lw_privs_2 ++ (lw_privs_3)), lw_okq q
  exact List.forall_mem_append.mpr ⟨lw_r1, List.forall_mem_append.mpr ⟨lw_r2, lw_r3⟩⟩
/-! field tables, methods -/
def T_DV : u_T := fun k => match k with
  | 0 => ("DeltaViews", "views", "[LDeltaViews$View;", true)
  | 1 => ("DeltaViews", "count", "I", false)
  | _ => ("DeltaViews", "batch", "LDeltaViews$Batch;", true)
def ty_DV : Nat → FieldType := fun k => match k with
  | 0 => .array (.object "DeltaViews$View")
  | 1 => .int
  | _ => .object "DeltaViews$Batch"
def T_View : u_T := fun k => match k with
  | 0 => ("DeltaViews$View", "operation", "LDeltaViews$Operation;", false)
  | 1 => ("DeltaViews$View", "now", "LDeltaViews$Bag;", false)
  | 2 => ("DeltaViews$View", "before", "LDeltaViews$Bag;", false)
  | _ => ("DeltaViews$View", "moved", "I", false)
def ty_View : Nat → FieldType := fun k => match k with
  | 0 => .object "DeltaViews$Operation"
  | 1 => .object "DeltaViews$Bag"
  | 2 => .object "DeltaViews$Bag"
  | _ => .int
def T_Bag : u_T := fun k => match k with
  | 0 => ("DeltaViews$Bag", "width", "I", false)
  | 1 => ("DeltaViews$Bag", "size", "I", false)
  | 2 => ("DeltaViews$Bag", "cells", "[I", true)
  | 3 => ("DeltaViews$Bag", "multiplicities", "[J", true)
  | _ => ("DeltaViews$Bag", "pending", "[I", true)
def ty_Bag : Nat → FieldType := fun k => match k with
  | 0 => .int
  | 1 => .int
  | 2 => .array .int
  | 3 => .array .long
  | _ => .array .int
def T_Batch : u_T := fun k => match k with
  | 0 => ("DeltaViews$Batch", "table", "[I", true)
  | 1 => ("DeltaViews$Batch", "a", "[I", true)
  | 2 => ("DeltaViews$Batch", "b", "[I", true)
  | 3 => ("DeltaViews$Batch", "by", "[I", true)
  | _ => ("DeltaViews$Batch", "size", "I", false)
def ty_Batch : Nat → FieldType := fun k => match k with
  | 0 => .array .int
  | 1 => .array .int
  | 2 => .array .int
  | 3 => .array .int
  | _ => .int
def T_Table : u_T := fun k => match k with
  | _ => ("", "", "", false)
def ty_Table : Nat → FieldType := fun k => match k with
  | _ => .int
def T_Select : u_T := fun k => match k with
  | 0 => ("DeltaViews$Select", "source", "LDeltaViews$View;", true)
  | 1 => ("DeltaViews$Select", "column", "I", true)
  | 2 => ("DeltaViews$Select", "test", "I", true)
  | _ => ("DeltaViews$Select", "number", "I", true)
def ty_Select : Nat → FieldType := fun k => match k with
  | 0 => .object "DeltaViews$View"
  | 1 => .int
  | 2 => .int
  | _ => .int
def T_Project : u_T := fun k => match k with
  | 0 => ("DeltaViews$Project", "source", "LDeltaViews$View;", true)
  | 1 => ("DeltaViews$Project", "newWidth", "I", true)
  | _ => ("DeltaViews$Project", "columns", "I", true)
def ty_Project : Nat → FieldType := fun k => match k with
  | 0 => .object "DeltaViews$View"
  | 1 => .int
  | _ => .int
def T_Join : u_T := fun k => match k with
  | 0 => ("DeltaViews$Join", "left", "LDeltaViews$View;", true)
  | 1 => ("DeltaViews$Join", "right", "LDeltaViews$View;", true)
  | 2 => ("DeltaViews$Join", "leftColumn", "I", true)
  | _ => ("DeltaViews$Join", "rightColumn", "I", true)
def ty_Join : Nat → FieldType := fun k => match k with
  | 0 => .object "DeltaViews$View"
  | 1 => .object "DeltaViews$View"
  | 2 => .int
  | _ => .int
def T_Union : u_T := fun k => match k with
  | 0 => ("DeltaViews$Union", "left", "LDeltaViews$View;", true)
  | _ => ("DeltaViews$Union", "right", "LDeltaViews$View;", true)
def ty_Union : Nat → FieldType := fun k => match k with
  | 0 => .object "DeltaViews$View"
  | _ => .object "DeltaViews$View"
def T_Group : u_T := fun k => match k with
  | 0 => ("DeltaViews$Group", "source", "LDeltaViews$View;", true)
  | 1 => ("DeltaViews$Group", "kind", "I", true)
  | 2 => ("DeltaViews$Group", "keyColumn", "I", true)
  | _ => ("DeltaViews$Group", "column", "I", true)
def ty_Group : Nat → FieldType := fun k => match k with
  | 0 => .object "DeltaViews$View"
  | 1 => .int
  | 2 => .int
  | _ => .int
def T_Distinct : u_T := fun k => match k with
  | _ => ("DeltaViews$Distinct", "source", "LDeltaViews$View;", true)
def ty_Distinct : Nat → FieldType := fun k => match k with
  | _ => .object "DeltaViews$View"
def T_Mo : u_T := fun k => match k with
  | 0 => ("DeltaViewsModel", "thrown", "I", false)
  | 1 => ("DeltaViewsModel", "views", "I", false)
  | 2 => ("DeltaViewsModel", "widths", "[I", true)
  | 3 => ("DeltaViewsModel", "kinds", "[I", true)
  | 4 => ("DeltaViewsModel", "es", "[I", true)
  | 5 => ("DeltaViewsModel", "fs", "[I", true)
  | 6 => ("DeltaViewsModel", "ps", "[I", true)
  | 7 => ("DeltaViewsModel", "qs", "[I", true)
  | 8 => ("DeltaViewsModel", "rs", "[I", true)
  | 9 => ("DeltaViewsModel", "moves", "[I", true)
  | 10 => ("DeltaViewsModel", "counts", "[I", true)
  | 11 => ("DeltaViewsModel", "times", "[J", true)
  | 12 => ("DeltaViewsModel", "cells", "[I", true)
  | 13 => ("DeltaViewsModel", "gathered", "I", false)
  | 14 => ("DeltaViewsModel", "mine", "[J", true)
  | 15 => ("DeltaViewsModel", "rows", "[I", true)
  | 16 => ("DeltaViewsModel", "one", "[I", true)
  | 17 => ("DeltaViewsModel", "changes", "I", false)
  | 18 => ("DeltaViewsModel", "tables", "[I", true)
  | 19 => ("DeltaViewsModel", "as", "[I", true)
  | 20 => ("DeltaViewsModel", "bs", "[I", true)
  | _ => ("DeltaViewsModel", "bys", "[I", true)
def ty_Mo : Nat → FieldType := fun k => match k with
  | 0 => .int
  | 1 => .int
  | 2 => .array .int
  | 3 => .array .int
  | 4 => .array .int
  | 5 => .array .int
  | 6 => .array .int
  | 7 => .array .int
  | 8 => .array .int
  | 9 => .array .int
  | 10 => .array .int
  | 11 => .array .long
  | 12 => .array .int
  | 13 => .int
  | 14 => .array .long
  | 15 => .array .int
  | 16 => .array .int
  | 17 => .int
  | 18 => .array .int
  | 19 => .array .int
  | 20 => .array .int
  | _ => .array .int
abbrev vwCl : List vw_C := [("DeltaViews", T_DV, 3), ("DeltaViews$View", T_View, 4), ("DeltaViews$Bag", T_Bag, 5), ("DeltaViews$Batch", T_Batch, 5), ("DeltaViews$Table", T_Table, 0), ("DeltaViews$Select", T_Select, 4), ("DeltaViews$Project", T_Project, 3), ("DeltaViews$Join", T_Join, 4), ("DeltaViews$Union", T_Union, 2), ("DeltaViews$Group", T_Group, 4), ("DeltaViews$Distinct", T_Distinct, 1), ("DeltaViewsModel", T_Mo, 22)]
abbrev mi_DV_init : MethodName × ByteArray × Nat × Option FieldType × List (Nat × Nat × Nat × Nat) := (⟨"DeltaViews", "<init>", "()V"⟩, prog_1_method_1_code, 2, none, [])
abbrev mi_Batch_init : MethodName × ByteArray × Nat × Option FieldType × List (Nat × Nat × Nat × Nat) := (⟨"DeltaViews$Batch", "<init>", "()V"⟩, prog_3_method_1_code, 1, none, [])
abbrev mi_Table_init : MethodName × ByteArray × Nat × Option FieldType × List (Nat × Nat × Nat × Nat) := (⟨"DeltaViews$Table", "<init>", "()V"⟩, prog_10_method_1_code, 1, none, [])
abbrev mi_Oper_init : MethodName × ByteArray × Nat × Option FieldType × List (Nat × Nat × Nat × Nat) := (⟨"DeltaViews$Operation", "<init>", "()V"⟩, prog_7_method_1_code, 1, none, [])
abbrev mi_View_init : MethodName × ByteArray × Nat × Option FieldType × List (Nat × Nat × Nat × Nat) := (⟨"DeltaViews$View", "<init>", "(LDeltaViews$Operation;)V"⟩, prog_12_method_1_code, 2, none, [])
abbrev mi_Bag_init : MethodName × ByteArray × Nat × Option FieldType × List (Nat × Nat × Nat × Nat) := (⟨"DeltaViews$Bag", "<init>", "()V"⟩, prog_2_method_1_code, 1, none, [])
abbrev mi_DV_cancel : MethodName × ByteArray × Nat × Option FieldType × List (Nat × Nat × Nat × Nat) := (⟨"DeltaViews", "cancel", "()I"⟩, prog_1_method_3_code, 1, some .int, [])
abbrev mi_Batch_empty : MethodName × ByteArray × Nat × Option FieldType × List (Nat × Nat × Nat × Nat) := (⟨"DeltaViews$Batch", "empty", "()I"⟩, prog_3_method_4_code, 2, some .int, [])
abbrev mi_Law_change : MethodName × ByteArray × Nat × Option FieldType × List (Nat × Nat × Nat × Nat) := (⟨"DeltaViewsLaw", "change", "(LDeltaViews;IIII[J)I"⟩, method_3_code, 7, some .int, [(0, 14, 17, 13), (0, 14, 21, 15), (0, 14, 25, 17)])
abbrev mi_DV_change : MethodName × ByteArray × Nat × Option FieldType × List (Nat × Nat × Nat × Nat) := (⟨"DeltaViews", "change", "(IIII)I"⟩, prog_1_method_2_code, 5, some .int, [])
abbrev mi_DV_isTooFar : MethodName × ByteArray × Nat × Option FieldType × List (Nat × Nat × Nat × Nat) := (⟨"DeltaViews", "isTooFar", "(II)Z"⟩, prog_1_method_18_code, 2, some .boolean, [])
abbrev mi_Batch_isFull : MethodName × ByteArray × Nat × Option FieldType × List (Nat × Nat × Nat × Nat) := (⟨"DeltaViews$Batch", "isFull", "()Z"⟩, prog_3_method_2_code, 1, some .boolean, [])
abbrev mi_Batch_append : MethodName × ByteArray × Nat × Option FieldType × List (Nat × Nat × Nat × Nat) := (⟨"DeltaViews$Batch", "append", "(IIII)I"⟩, prog_3_method_3_code, 5, some .int, [])
abbrev mi_Law_commit : MethodName × ByteArray × Nat × Option FieldType × List (Nat × Nat × Nat × Nat) := (⟨"DeltaViewsLaw", "commit", "(LDeltaViews;[J)I"⟩, method_4_code, 3, some .int, [(0, 8, 11, 17)])
abbrev mi_DV_commit : MethodName × ByteArray × Nat × Option FieldType × List (Nat × Nat × Nat × Nat) := (⟨"DeltaViews", "commit", "()I"⟩, prog_1_method_4_code, 4, some .int, [])
abbrev mi_DV_renewViews : MethodName × ByteArray × Nat × Option FieldType × List (Nat × Nat × Nat × Nat) := (⟨"DeltaViews", "renewViews", "()Z"⟩, prog_1_method_24_code, 2, some .boolean, [])
abbrev mi_View_renew : MethodName × ByteArray × Nat × Option FieldType × List (Nat × Nat × Nat × Nat) := (⟨"DeltaViews$View", "renew", "()V"⟩, prog_12_method_3_code, 1, none, [])
abbrev mi_View_exchangeBags : MethodName × ByteArray × Nat × Option FieldType × List (Nat × Nat × Nat × Nat) := (⟨"DeltaViews$View", "exchangeBags", "()V"⟩, prog_12_method_4_code, 2, none, [])
abbrev mi_Distinct_fill : MethodName × ByteArray × Nat × Option FieldType × List (Nat × Nat × Nat × Nat) := (⟨"DeltaViews$Distinct", "fill", "(LDeltaViews$Bag;LDeltaViews$Bag;)V"⟩, prog_4_method_2_code, 5, none, [])
abbrev mi_Bag_clear : MethodName × ByteArray × Nat × Option FieldType × List (Nat × Nat × Nat × Nat) := (⟨"DeltaViews$Bag", "clear", "(I)V"⟩, prog_2_method_2_code, 2, none, [])
abbrev mi_Bag_putRow : MethodName × ByteArray × Nat × Option FieldType × List (Nat × Nat × Nat × Nat) := (⟨"DeltaViews$Bag", "putRow", "(LDeltaViews$Bag;II)V"⟩, prog_2_method_7_code, 5, none, [])
abbrev mi_Bag_cellAt : MethodName × ByteArray × Nat × Option FieldType × List (Nat × Nat × Nat × Nat) := (⟨"DeltaViews$Bag", "cellAt", "(II)I"⟩, prog_2_method_4_code, 3, some .int, [])
abbrev mi_Bag_put : MethodName × ByteArray × Nat × Option FieldType × List (Nat × Nat × Nat × Nat) := (⟨"DeltaViews$Bag", "put", "(II)V"⟩, prog_2_method_6_code, 3, none, [])
abbrev mi_Bag_add : MethodName × ByteArray × Nat × Option FieldType × List (Nat × Nat × Nat × Nat) := (⟨"DeltaViews$Bag", "add", "(J)V"⟩, prog_2_method_8_code, 4, none, [])
abbrev mi_Bag_placeOfPending : MethodName × ByteArray × Nat × Option FieldType × List (Nat × Nat × Nat × Nat) := (⟨"DeltaViews$Bag", "placeOfPending", "()I"⟩, prog_2_method_15_code, 2, some .int, [])
abbrev mi_Bag_orderOfCells : MethodName × ByteArray × Nat × Option FieldType × List (Nat × Nat × Nat × Nat) := (⟨"DeltaViews$Bag", "orderOfCells", "(I[II)I"⟩, prog_2_method_14_code, 7, some .int, [])
abbrev mi_Bag_isPending : MethodName × ByteArray × Nat × Option FieldType × List (Nat × Nat × Nat × Nat) := (⟨"DeltaViews$Bag", "isPending", "(I)Z"⟩, prog_2_method_16_code, 2, some .boolean, [])
abbrev mi_Bag_remove : MethodName × ByteArray × Nat × Option FieldType × List (Nat × Nat × Nat × Nat) := (⟨"DeltaViews$Bag", "remove", "(I)V"⟩, prog_2_method_18_code, 4, none, [])
abbrev mi_Bag_insert : MethodName × ByteArray × Nat × Option FieldType × List (Nat × Nat × Nat × Nat) := (⟨"DeltaViews$Bag", "insert", "(IJ)V"⟩, prog_2_method_17_code, 6, none, [])
abbrev mi_Group_fill : MethodName × ByteArray × Nat × Option FieldType × List (Nat × Nat × Nat × Nat) := (⟨"DeltaViews$Group", "fill", "(LDeltaViews$Bag;LDeltaViews$Bag;)V"⟩, prog_5_method_2_code, 5, none, [])
abbrev mi_Group_isFirstOfGroup : MethodName × ByteArray × Nat × Option FieldType × List (Nat × Nat × Nat × Nat) := (⟨"DeltaViews$Group", "isFirstOfGroup", "(LDeltaViews$Bag;I)Z"⟩, prog_5_method_3_code, 4, some .boolean, [])
abbrev mi_Group_fold : MethodName × ByteArray × Nat × Option FieldType × List (Nat × Nat × Nat × Nat) := (⟨"DeltaViews$Group", "fold", "(LDeltaViews$Bag;I)I"⟩, prog_5_method_4_code, 6, some .int, [])
abbrev mi_Group_worth : MethodName × ByteArray × Nat × Option FieldType × List (Nat × Nat × Nat × Nat) := (⟨"DeltaViews$Group", "worth", "(LDeltaViews$Bag;I)I"⟩, prog_5_method_5_code, 3, some .int, [])
abbrev mi_Bag_timesAt : MethodName × ByteArray × Nat × Option FieldType × List (Nat × Nat × Nat × Nat) := (⟨"DeltaViews$Bag", "timesAt", "(I)J"⟩, prog_2_method_5_code, 2, some .long, [])
abbrev mi_Join_fill : MethodName × ByteArray × Nat × Option FieldType × List (Nat × Nat × Nat × Nat) := (⟨"DeltaViews$Join", "fill", "(LDeltaViews$Bag;LDeltaViews$Bag;)V"⟩, prog_6_method_2_code, 4, none, [])
abbrev mi_Join_addPartners : MethodName × ByteArray × Nat × Option FieldType × List (Nat × Nat × Nat × Nat) := (⟨"DeltaViews$Join", "addPartners", "(ILDeltaViews$Bag;)V"⟩, prog_6_method_3_code, 6, none, [])
abbrev mi_Project_fill : MethodName × ByteArray × Nat × Option FieldType × List (Nat × Nat × Nat × Nat) := (⟨"DeltaViews$Project", "fill", "(LDeltaViews$Bag;LDeltaViews$Bag;)V"⟩, prog_8_method_2_code, 6, none, [])
abbrev mi_DV_columnInBits : MethodName × ByteArray × Nat × Option FieldType × List (Nat × Nat × Nat × Nat) := (⟨"DeltaViews", "columnInBits", "(II)I"⟩, prog_1_method_19_code, 2, some .int, [])
abbrev mi_Select_fill : MethodName × ByteArray × Nat × Option FieldType × List (Nat × Nat × Nat × Nat) := (⟨"DeltaViews$Select", "fill", "(LDeltaViews$Bag;LDeltaViews$Bag;)V"⟩, prog_9_method_2_code, 5, none, [])
abbrev mi_Select_passes : MethodName × ByteArray × Nat × Option FieldType × List (Nat × Nat × Nat × Nat) := (⟨"DeltaViews$Select", "passes", "(I)Z"⟩, prog_9_method_3_code, 2, some .boolean, [])
abbrev mi_Table_fill : MethodName × ByteArray × Nat × Option FieldType × List (Nat × Nat × Nat × Nat) := (⟨"DeltaViews$Table", "fill", "(LDeltaViews$Bag;LDeltaViews$Bag;)V"⟩, prog_10_method_2_code, 3, none, [])
abbrev mi_Bag_copy : MethodName × ByteArray × Nat × Option FieldType × List (Nat × Nat × Nat × Nat) := (⟨"DeltaViews$Bag", "copy", "(LDeltaViews$Bag;)V"⟩, prog_2_method_3_code, 2, none, [])
abbrev mi_Union_fill : MethodName × ByteArray × Nat × Option FieldType × List (Nat × Nat × Nat × Nat) := (⟨"DeltaViews$Union", "fill", "(LDeltaViews$Bag;LDeltaViews$Bag;)V"⟩, prog_11_method_2_code, 3, none, [])
abbrev mi_Bag_addAll : MethodName × ByteArray × Nat × Option FieldType × List (Nat × Nat × Nat × Nat) := (⟨"DeltaViews$Bag", "addAll", "(LDeltaViews$Bag;)V"⟩, prog_2_method_9_code, 3, none, [])
abbrev mi_Batch_addTo : MethodName × ByteArray × Nat × Option FieldType × List (Nat × Nat × Nat × Nat) := (⟨"DeltaViews$Batch", "addTo", "(ILDeltaViews$Bag;)V"⟩, prog_3_method_5_code, 4, none, [])
abbrev mi_View_keepsLimits : MethodName × ByteArray × Nat × Option FieldType × List (Nat × Nat × Nat × Nat) := (⟨"DeltaViews$View", "keepsLimits", "()Z"⟩, prog_12_method_5_code, 1, some .boolean, [])
abbrev mi_Table_allows : MethodName × ByteArray × Nat × Option FieldType × List (Nat × Nat × Nat × Nat) := (⟨"DeltaViews$Table", "allows", "(LDeltaViews$Bag;)Z"⟩, prog_10_method_3_code, 2, some .boolean, [])
abbrev mi_Bag_hasTimesOutside : MethodName × ByteArray × Nat × Option FieldType × List (Nat × Nat × Nat × Nat) := (⟨"DeltaViews$Bag", "hasTimesOutside", "(II)Z"⟩, prog_2_method_11_code, 4, some .boolean, [])
abbrev mi_Oper_allows : MethodName × ByteArray × Nat × Option FieldType × List (Nat × Nat × Nat × Nat) := (⟨"DeltaViews$Operation", "allows", "(LDeltaViews$Bag;)Z"⟩, prog_7_method_3_code, 2, some .boolean, [])
abbrev mi_DV_takeBack : MethodName × ByteArray × Nat × Option FieldType × List (Nat × Nat × Nat × Nat) := (⟨"DeltaViews", "takeBack", "(I)V"⟩, prog_1_method_25_code, 3, none, [])
abbrev mi_View_countMoved : MethodName × ByteArray × Nat × Option FieldType × List (Nat × Nat × Nat × Nat) := (⟨"DeltaViews$View", "countMoved", "()V"⟩, prog_12_method_6_code, 1, none, [])
abbrev mi_Bag_differencesFrom : MethodName × ByteArray × Nat × Option FieldType × List (Nat × Nat × Nat × Nat) := (⟨"DeltaViews$Bag", "differencesFrom", "(LDeltaViews$Bag;)I"⟩, prog_2_method_12_code, 6, some .int, [])
abbrev mi_Bag_orderOfRows : MethodName × ByteArray × Nat × Option FieldType × List (Nat × Nat × Nat × Nat) := (⟨"DeltaViews$Bag", "orderOfRows", "(ILDeltaViews$Bag;I)I"⟩, prog_2_method_13_code, 4, some .int, [])
abbrev mi_Law_select : MethodName × ByteArray × Nat × Option FieldType × List (Nat × Nat × Nat × Nat) := (⟨"DeltaViewsLaw", "select", "(LDeltaViews;IIII[J)I"⟩, method_5_code, 7, some .int, [(0, 14, 17, 13), (0, 14, 21, 15), (0, 14, 25, 17)])
abbrev mi_DV_select : MethodName × ByteArray × Nat × Option FieldType × List (Nat × Nat × Nat × Nat) := (⟨"DeltaViews", "select", "(IIII)I"⟩, prog_1_method_5_code, 6, some .int, [])
abbrev mi_DV_viewAt : MethodName × ByteArray × Nat × Option FieldType × List (Nat × Nat × Nat × Nat) := (⟨"DeltaViews", "viewAt", "(I)LDeltaViews$View;"⟩, prog_1_method_20_code, 2, some (.object "DeltaViews$View"), [])
abbrev mi_DV_needColumn : MethodName × ByteArray × Nat × Option FieldType × List (Nat × Nat × Nat × Nat) := (⟨"DeltaViews", "needColumn", "(LDeltaViews$View;I)V"⟩, prog_1_method_21_code, 2, none, [])
abbrev mi_Select_init : MethodName × ByteArray × Nat × Option FieldType × List (Nat × Nat × Nat × Nat) := (⟨"DeltaViews$Select", "<init>", "(LDeltaViews$View;III)V"⟩, prog_9_method_1_code, 5, none, [])
abbrev mi_DV_makeView : MethodName × ByteArray × Nat × Option FieldType × List (Nat × Nat × Nat × Nat) := (⟨"DeltaViews", "makeView", "(LDeltaViews$Operation;)I"⟩, prog_1_method_23_code, 3, some .int, [])
abbrev mi_View_begin : MethodName × ByteArray × Nat × Option FieldType × List (Nat × Nat × Nat × Nat) := (⟨"DeltaViews$View", "begin", "(LDeltaViews$Operation;)V"⟩, prog_12_method_2_code, 2, none, [])
abbrev mi_Law_project : MethodName × ByteArray × Nat × Option FieldType × List (Nat × Nat × Nat × Nat) := (⟨"DeltaViewsLaw", "project", "(LDeltaViews;III[J)I"⟩, method_6_code, 6, some .int, [(0, 12, 15, 13), (0, 12, 19, 15), (0, 12, 23, 17)])
abbrev mi_DV_project : MethodName × ByteArray × Nat × Option FieldType × List (Nat × Nat × Nat × Nat) := (⟨"DeltaViews", "project", "(III)I"⟩, prog_1_method_6_code, 6, some .int, [])
abbrev mi_Project_init : MethodName × ByteArray × Nat × Option FieldType × List (Nat × Nat × Nat × Nat) := (⟨"DeltaViews$Project", "<init>", "(LDeltaViews$View;II)V"⟩, prog_8_method_1_code, 4, none, [])
abbrev mi_Law_join : MethodName × ByteArray × Nat × Option FieldType × List (Nat × Nat × Nat × Nat) := (⟨"DeltaViewsLaw", "join", "(LDeltaViews;IIII[J)I"⟩, method_7_code, 7, some .int, [(0, 14, 17, 13), (0, 14, 21, 15), (0, 14, 25, 17)])
abbrev mi_DV_join : MethodName × ByteArray × Nat × Option FieldType × List (Nat × Nat × Nat × Nat) := (⟨"DeltaViews", "join", "(IIII)I"⟩, prog_1_method_7_code, 7, some .int, [])
abbrev mi_Join_init : MethodName × ByteArray × Nat × Option FieldType × List (Nat × Nat × Nat × Nat) := (⟨"DeltaViews$Join", "<init>", "(LDeltaViews$View;LDeltaViews$View;II)V"⟩, prog_6_method_1_code, 5, none, [])
abbrev mi_Law_union : MethodName × ByteArray × Nat × Option FieldType × List (Nat × Nat × Nat × Nat) := (⟨"DeltaViewsLaw", "union", "(LDeltaViews;II[J)I"⟩, method_8_code, 5, some .int, [(0, 10, 13, 13), (0, 10, 17, 15), (0, 10, 21, 17)])
abbrev mi_DV_union : MethodName × ByteArray × Nat × Option FieldType × List (Nat × Nat × Nat × Nat) := (⟨"DeltaViews", "union", "(II)I"⟩, prog_1_method_8_code, 5, some .int, [])
abbrev mi_Union_init : MethodName × ByteArray × Nat × Option FieldType × List (Nat × Nat × Nat × Nat) := (⟨"DeltaViews$Union", "<init>", "(LDeltaViews$View;LDeltaViews$View;)V"⟩, prog_11_method_1_code, 3, none, [])
abbrev mi_Law_group : MethodName × ByteArray × Nat × Option FieldType × List (Nat × Nat × Nat × Nat) := (⟨"DeltaViewsLaw", "group", "(LDeltaViews;IIII[J)I"⟩, method_9_code, 7, some .int, [(0, 14, 17, 13), (0, 14, 21, 15), (0, 14, 25, 17)])
abbrev mi_DV_group : MethodName × ByteArray × Nat × Option FieldType × List (Nat × Nat × Nat × Nat) := (⟨"DeltaViews", "group", "(IIII)I"⟩, prog_1_method_9_code, 6, some .int, [])
abbrev mi_Group_init : MethodName × ByteArray × Nat × Option FieldType × List (Nat × Nat × Nat × Nat) := (⟨"DeltaViews$Group", "<init>", "(LDeltaViews$View;III)V"⟩, prog_5_method_1_code, 5, none, [])
abbrev mi_Law_distinct : MethodName × ByteArray × Nat × Option FieldType × List (Nat × Nat × Nat × Nat) := (⟨"DeltaViewsLaw", "distinct", "(LDeltaViews;I[J)I"⟩, method_10_code, 4, some .int, [(0, 9, 12, 13), (0, 9, 15, 17)])
abbrev mi_DV_distinct : MethodName × ByteArray × Nat × Option FieldType × List (Nat × Nat × Nat × Nat) := (⟨"DeltaViews", "distinct", "(I)I"⟩, prog_1_method_10_code, 2, some .int, [])
abbrev mi_Distinct_init : MethodName × ByteArray × Nat × Option FieldType × List (Nat × Nat × Nat × Nat) := (⟨"DeltaViews$Distinct", "<init>", "(LDeltaViews$View;)V"⟩, prog_4_method_1_code, 2, none, [])
abbrev mi_Law_drop : MethodName × ByteArray × Nat × Option FieldType × List (Nat × Nat × Nat × Nat) := (⟨"DeltaViewsLaw", "drop", "(LDeltaViews;[J)I"⟩, method_11_code, 3, some .int, [(0, 8, 11, 17)])
abbrev mi_DV_drop : MethodName × ByteArray × Nat × Option FieldType × List (Nat × Nat × Nat × Nat) := (⟨"DeltaViews", "drop", "()I"⟩, prog_1_method_11_code, 1, some .int, [])
abbrev mi_Law_width : MethodName × ByteArray × Nat × Option FieldType × List (Nat × Nat × Nat × Nat) := (⟨"DeltaViewsLaw", "width", "(LDeltaViews;I[J)I"⟩, method_12_code, 4, some .int, [(0, 9, 12, 13)])
abbrev mi_DV_width : MethodName × ByteArray × Nat × Option FieldType × List (Nat × Nat × Nat × Nat) := (⟨"DeltaViews", "width", "(I)I"⟩, prog_1_method_12_code, 2, some .int, [])
abbrev mi_Law_rows : MethodName × ByteArray × Nat × Option FieldType × List (Nat × Nat × Nat × Nat) := (⟨"DeltaViewsLaw", "rows", "(LDeltaViews;I[J)I"⟩, method_13_code, 4, some .int, [(0, 9, 12, 13)])
abbrev mi_DV_rows : MethodName × ByteArray × Nat × Option FieldType × List (Nat × Nat × Nat × Nat) := (⟨"DeltaViews", "rows", "(I)I"⟩, prog_1_method_13_code, 2, some .int, [])
abbrev mi_Law_cell : MethodName × ByteArray × Nat × Option FieldType × List (Nat × Nat × Nat × Nat) := (⟨"DeltaViewsLaw", "cell", "(LDeltaViews;III[J)I"⟩, method_14_code, 6, some .int, [(0, 12, 15, 13), (0, 12, 19, 56)])
abbrev mi_DV_cell : MethodName × ByteArray × Nat × Option FieldType × List (Nat × Nat × Nat × Nat) := (⟨"DeltaViews", "cell", "(III)I"⟩, prog_1_method_14_code, 5, some .int, [])
abbrev mi_DV_needRow : MethodName × ByteArray × Nat × Option FieldType × List (Nat × Nat × Nat × Nat) := (⟨"DeltaViews", "needRow", "(LDeltaViews$View;I)V"⟩, prog_1_method_22_code, 2, none, [])
abbrev mi_Law_times : MethodName × ByteArray × Nat × Option FieldType × List (Nat × Nat × Nat × Nat) := (⟨"DeltaViewsLaw", "times", "(LDeltaViews;II[J)I"⟩, method_15_code, 5, some .int, [(0, 9, 12, 13), (0, 9, 16, 56)])
abbrev mi_DV_times : MethodName × ByteArray × Nat × Option FieldType × List (Nat × Nat × Nat × Nat) := (⟨"DeltaViews", "times", "(II)J"⟩, prog_1_method_15_code, 4, some .long, [])
abbrev mi_Law_many : MethodName × ByteArray × Nat × Option FieldType × List (Nat × Nat × Nat × Nat) := (⟨"DeltaViewsLaw", "many", "(LDeltaViews;IIIII[J)I"⟩, method_16_code, 8, some .int, [(0, 15, 18, 13)])
abbrev mi_DV_many : MethodName × ByteArray × Nat × Option FieldType × List (Nat × Nat × Nat × Nat) := (⟨"DeltaViews", "many", "(IIIII)J"⟩, prog_1_method_16_code, 7, some .long, [])
abbrev mi_Bag_timesOfPending : MethodName × ByteArray × Nat × Option FieldType × List (Nat × Nat × Nat × Nat) := (⟨"DeltaViews$Bag", "timesOfPending", "()J"⟩, prog_2_method_10_code, 2, some .long, [])
abbrev mi_Law_moved : MethodName × ByteArray × Nat × Option FieldType × List (Nat × Nat × Nat × Nat) := (⟨"DeltaViewsLaw", "moved", "(LDeltaViews;I[J)I"⟩, method_17_code, 4, some .int, [(0, 9, 12, 13)])
abbrev mi_DV_moved : MethodName × ByteArray × Nat × Option FieldType × List (Nat × Nat × Nat × Nat) := (⟨"DeltaViews", "moved", "(I)I"⟩, prog_1_method_17_code, 2, some .int, [])
abbrev mi_Mo_init : MethodName × ByteArray × Nat × Option FieldType × List (Nat × Nat × Nat × Nat) := (⟨"DeltaViewsModel", "<init>", "()V"⟩, prog_14_method_1_code, 2, none, [])
abbrev mi_Mo_thrown : MethodName × ByteArray × Nat × Option FieldType × List (Nat × Nat × Nat × Nat) := (⟨"DeltaViewsModel", "thrown", "()I"⟩, prog_14_method_2_code, 1, some .int, [])
abbrev mi_Mo_change : MethodName × ByteArray × Nat × Option FieldType × List (Nat × Nat × Nat × Nat) := (⟨"DeltaViewsModel", "change", "(IIII)I"⟩, prog_14_method_17_code, 5, some .int, [])
abbrev mi_Mo_cancel : MethodName × ByteArray × Nat × Option FieldType × List (Nat × Nat × Nat × Nat) := (⟨"DeltaViewsModel", "cancel", "()I"⟩, prog_14_method_18_code, 2, some .int, [])
abbrev mi_Mo_commit : MethodName × ByteArray × Nat × Option FieldType × List (Nat × Nat × Nat × Nat) := (⟨"DeltaViewsModel", "commit", "()I"⟩, prog_14_method_23_code, 3, some .int, [])
abbrev mi_Mo_tryTable : MethodName × ByteArray × Nat × Option FieldType × List (Nat × Nat × Nat × Nat) := (⟨"DeltaViewsModel", "tryTable", "(I)Z"⟩, prog_14_method_19_code, 4, some .boolean, [])
abbrev mi_Mo_take : MethodName × ByteArray × Nat × Option FieldType × List (Nat × Nat × Nat × Nat) := (⟨"DeltaViewsModel", "take", "(II)V"⟩, prog_14_method_8_code, 4, none, [])
abbrev mi_Mo_cellOf : MethodName × ByteArray × Nat × Option FieldType × List (Nat × Nat × Nat × Nat) := (⟨"DeltaViewsModel", "cellOf", "(III)I"⟩, prog_14_method_7_code, 4, some .int, [])
abbrev mi_Mo_gather : MethodName × ByteArray × Nat × Option FieldType × List (Nat × Nat × Nat × Nat) := (⟨"DeltaViewsModel", "gather", "(IJ)V"⟩, prog_14_method_4_code, 5, none, [])
abbrev mi_Mo_isRow : MethodName × ByteArray × Nat × Option FieldType × List (Nat × Nat × Nat × Nat) := (⟨"DeltaViewsModel", "isRow", "(II)Z"⟩, prog_14_method_3_code, 5, some .boolean, [])
abbrev mi_Mo_settle : MethodName × ByteArray × Nat × Option FieldType × List (Nat × Nat × Nat × Nat) := (⟨"DeltaViewsModel", "settle", "(III)Z"⟩, prog_14_method_6_code, 8, some .boolean, [])
abbrev mi_Mo_comesBefore : MethodName × ByteArray × Nat × Option FieldType × List (Nat × Nat × Nat × Nat) := (⟨"DeltaViewsModel", "comesBefore", "(III)Z"⟩, prog_14_method_5_code, 5, some .boolean, [])
abbrev mi_Mo_work : MethodName × ByteArray × Nat × Option FieldType × List (Nat × Nat × Nat × Nat) := (⟨"DeltaViewsModel", "work", "(II)Z"⟩, prog_14_method_16_code, 5, some .boolean, [])
abbrev mi_Mo_selects : MethodName × ByteArray × Nat × Option FieldType × List (Nat × Nat × Nat × Nat) := (⟨"DeltaViewsModel", "selects", "(II)V"⟩, prog_14_method_10_code, 4, none, [])
abbrev mi_Mo_passes : MethodName × ByteArray × Nat × Option FieldType × List (Nat × Nat × Nat × Nat) := (⟨"DeltaViewsModel", "passes", "(III)Z"⟩, prog_14_method_9_code, 3, some .boolean, [])
abbrev mi_Mo_projects : MethodName × ByteArray × Nat × Option FieldType × List (Nat × Nat × Nat × Nat) := (⟨"DeltaViewsModel", "projects", "(II)V"⟩, prog_14_method_11_code, 5, none, [])
abbrev mi_Mo_joins : MethodName × ByteArray × Nat × Option FieldType × List (Nat × Nat × Nat × Nat) := (⟨"DeltaViewsModel", "joins", "(III)V"⟩, prog_14_method_12_code, 8, none, [])
abbrev mi_Mo_all : MethodName × ByteArray × Nat × Option FieldType × List (Nat × Nat × Nat × Nat) := (⟨"DeltaViewsModel", "all", "(IIZ)V"⟩, prog_14_method_13_code, 5, none, [])
abbrev mi_Mo_groups : MethodName × ByteArray × Nat × Option FieldType × List (Nat × Nat × Nat × Nat) := (⟨"DeltaViewsModel", "groups", "(II)V"⟩, prog_14_method_15_code, 7, none, [])
abbrev mi_Mo_result : MethodName × ByteArray × Nat × Option FieldType × List (Nat × Nat × Nat × Nat) := (⟨"DeltaViewsModel", "result", "(III)I"⟩, prog_14_method_14_code, 9, some .int, [])
abbrev mi_Mo_takeOver : MethodName × ByteArray × Nat × Option FieldType × List (Nat × Nat × Nat × Nat) := (⟨"DeltaViewsModel", "takeOver", "(I)V"⟩, prog_14_method_22_code, 3, none, [])
abbrev mi_Mo_differing : MethodName × ByteArray × Nat × Option FieldType × List (Nat × Nat × Nat × Nat) := (⟨"DeltaViewsModel", "differing", "(I)I"⟩, prog_14_method_21_code, 4, some .int, [])
abbrev mi_Mo_timesOf : MethodName × ByteArray × Nat × Option FieldType × List (Nat × Nat × Nat × Nat) := (⟨"DeltaViewsModel", "timesOf", "(IIII)J"⟩, prog_14_method_20_code, 8, some .long, [])
abbrev mi_Mo_select : MethodName × ByteArray × Nat × Option FieldType × List (Nat × Nat × Nat × Nat) := (⟨"DeltaViewsModel", "select", "(IIII)I"⟩, prog_14_method_28_code, 5, some .int, [])
abbrev mi_Mo_isColumn : MethodName × ByteArray × Nat × Option FieldType × List (Nat × Nat × Nat × Nat) := (⟨"DeltaViewsModel", "isColumn", "(II)Z"⟩, prog_14_method_25_code, 3, some .boolean, [])
abbrev mi_Mo_isView : MethodName × ByteArray × Nat × Option FieldType × List (Nat × Nat × Nat × Nat) := (⟨"DeltaViewsModel", "isView", "(I)Z"⟩, prog_14_method_24_code, 2, some .boolean, [])
abbrev mi_Mo_told : MethodName × ByteArray × Nat × Option FieldType × List (Nat × Nat × Nat × Nat) := (⟨"DeltaViewsModel", "told", "(III)V"⟩, prog_14_method_27_code, 4, none, [])
abbrev mi_Mo_make : MethodName × ByteArray × Nat × Option FieldType × List (Nat × Nat × Nat × Nat) := (⟨"DeltaViewsModel", "make", "(IIIII)I"⟩, prog_14_method_26_code, 6, some .int, [])
abbrev mi_Mo_project : MethodName × ByteArray × Nat × Option FieldType × List (Nat × Nat × Nat × Nat) := (⟨"DeltaViewsModel", "project", "(III)I"⟩, prog_14_method_29_code, 6, some .int, [])
abbrev mi_Mo_join : MethodName × ByteArray × Nat × Option FieldType × List (Nat × Nat × Nat × Nat) := (⟨"DeltaViewsModel", "join", "(IIII)I"⟩, prog_14_method_30_code, 5, some .int, [])
abbrev mi_Mo_union : MethodName × ByteArray × Nat × Option FieldType × List (Nat × Nat × Nat × Nat) := (⟨"DeltaViewsModel", "union", "(II)I"⟩, prog_14_method_31_code, 3, some .int, [])
abbrev mi_Mo_group : MethodName × ByteArray × Nat × Option FieldType × List (Nat × Nat × Nat × Nat) := (⟨"DeltaViewsModel", "group", "(IIII)I"⟩, prog_14_method_32_code, 5, some .int, [])
abbrev mi_Mo_distinct : MethodName × ByteArray × Nat × Option FieldType × List (Nat × Nat × Nat × Nat) := (⟨"DeltaViewsModel", "distinct", "(I)I"⟩, prog_14_method_33_code, 2, some .int, [])
abbrev mi_Mo_drop : MethodName × ByteArray × Nat × Option FieldType × List (Nat × Nat × Nat × Nat) := (⟨"DeltaViewsModel", "drop", "()I"⟩, prog_14_method_34_code, 1, some .int, [])
abbrev mi_Mo_width : MethodName × ByteArray × Nat × Option FieldType × List (Nat × Nat × Nat × Nat) := (⟨"DeltaViewsModel", "width", "(I)I"⟩, prog_14_method_35_code, 2, some .int, [])
abbrev mi_Mo_rows : MethodName × ByteArray × Nat × Option FieldType × List (Nat × Nat × Nat × Nat) := (⟨"DeltaViewsModel", "rows", "(I)I"⟩, prog_14_method_36_code, 2, some .int, [])
abbrev mi_Mo_cell : MethodName × ByteArray × Nat × Option FieldType × List (Nat × Nat × Nat × Nat) := (⟨"DeltaViewsModel", "cell", "(III)I"⟩, prog_14_method_37_code, 4, some .int, [])
abbrev mi_Mo_times : MethodName × ByteArray × Nat × Option FieldType × List (Nat × Nat × Nat × Nat) := (⟨"DeltaViewsModel", "times", "(II)J"⟩, prog_14_method_38_code, 3, some .long, [])
abbrev mi_Mo_many : MethodName × ByteArray × Nat × Option FieldType × List (Nat × Nat × Nat × Nat) := (⟨"DeltaViewsModel", "many", "(IIIII)J"⟩, prog_14_method_39_code, 9, some .long, [])
abbrev mi_Mo_moved : MethodName × ByteArray × Nat × Option FieldType × List (Nat × Nat × Nat × Nat) := (⟨"DeltaViewsModel", "moved", "(I)I"⟩, prog_14_method_40_code, 2, some .int, [])
abbrev mi_Law_law : MethodName × ByteArray × Nat × Option FieldType × List (Nat × Nat × Nat × Nat) := (⟨"DeltaViewsLaw", "law", "([I)Z"⟩, code, 8, some .boolean, [])
def fw_ex : Nat → String
  | 1 => "java/lang/IndexOutOfBoundsException"
  | 2 => "java/lang/IllegalArgumentException"
  | 3 => "java/lang/IllegalStateException"
  | _ => "java/util/NoSuchElementException"
/-- words that stay true as the tables warm -/
def fw_keep : Cond → Bool
  | .fieldLinkNest .. => true
  | .methodLinkNest .. => true
  | .declares _ => true
  | .castable .. => true
  | .arrayClass _ => true
  | .arrayOver (.object _) => true
  | w => w.onTables && w.keeps
def fw_big : List Cond := lw_tbl.filter fw_keep
theorem fw_big_ok : ∀ c ∈ fw_big, fw_keep c = true := fun _ h => (List.mem_filter.mp h).2
theorem fw_mem {c : Cond} (i : Nat) (h : lw_tbl[i]? = some c) (hk : fw_keep c = true) : c ∈ fw_big := List.mem_filter.mpr ⟨List.mem_of_getElem? h, hk⟩
