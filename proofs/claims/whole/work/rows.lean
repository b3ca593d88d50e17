section
-- ===== PART A: goes FIRST, ahead of the names: the tables' words, and 'selects' of the private methods out of them =====
/-- a private method of a class that the tables say can be made, by its rows of tables_1 -/
def lw_okq (q : MethodName × Nat) : Prop := (q.1.cls ≠ "java/lang/invoke/MethodHandle" ∧ q.1.cls ≠ "java/lang/invoke/VarHandle") ∧ Cond.instantiable q.1.cls q.2 ∈ tables_1 ∧ Cond.privateMethod q.1 ∈ tables_1 ∧ Cond.instanceMethod q.1 ∈ tables_1
theorem lw_p0 : lw_okq (⟨"java/lang/Throwable", "fillInStackTrace", "(I)Ljava/lang/Throwable;"⟩, 6) := ⟨⟨by decide +kernel, by decide +kernel⟩, List.mem_of_getElem? (i := 196) (by decide +kernel), List.mem_of_getElem? (i := 194) (by decide +kernel), List.mem_of_getElem? (i := 195) (by decide +kernel)⟩
theorem lw_p1 : lw_okq (⟨"DeltaViews", "renewViews", "()Z"⟩, 3) := ⟨⟨by decide +kernel, by decide +kernel⟩, List.mem_of_getElem? (i := 24) (by decide +kernel), List.mem_of_getElem? (i := 276) (by decide +kernel), List.mem_of_getElem? (i := 277) (by decide +kernel)⟩
theorem lw_p2 : lw_okq (⟨"DeltaViews$Bag", "placeOfPending", "()I"⟩, 5) := ⟨⟨by decide +kernel, by decide +kernel⟩, List.mem_of_getElem? (i := 72) (by decide +kernel), List.mem_of_getElem? (i := 314) (by decide +kernel), List.mem_of_getElem? (i := 315) (by decide +kernel)⟩
theorem lw_p3 : lw_okq (⟨"DeltaViews$Bag", "orderOfCells", "(I[II)I"⟩, 5) := ⟨⟨by decide +kernel, by decide +kernel⟩, List.mem_of_getElem? (i := 72) (by decide +kernel), List.mem_of_getElem? (i := 318) (by decide +kernel), List.mem_of_getElem? (i := 319) (by decide +kernel)⟩
theorem lw_p4 : lw_okq (⟨"DeltaViews$Bag", "isPending", "(I)Z"⟩, 5) := ⟨⟨by decide +kernel, by decide +kernel⟩, List.mem_of_getElem? (i := 72) (by decide +kernel), List.mem_of_getElem? (i := 322) (by decide +kernel), List.mem_of_getElem? (i := 323) (by decide +kernel)⟩
theorem lw_p5 : lw_okq (⟨"DeltaViews$Bag", "remove", "(I)V"⟩, 5) := ⟨⟨by decide +kernel, by decide +kernel⟩, List.mem_of_getElem? (i := 72) (by decide +kernel), List.mem_of_getElem? (i := 326) (by decide +kernel), List.mem_of_getElem? (i := 327) (by decide +kernel)⟩
theorem lw_p6 : lw_okq (⟨"DeltaViews$Bag", "insert", "(IJ)V"⟩, 5) := ⟨⟨by decide +kernel, by decide +kernel⟩, List.mem_of_getElem? (i := 72) (by decide +kernel), List.mem_of_getElem? (i := 333) (by decide +kernel), List.mem_of_getElem? (i := 334) (by decide +kernel)⟩
theorem lw_p7 : lw_okq (⟨"DeltaViews$Group", "isFirstOfGroup", "(LDeltaViews$Bag;I)Z"⟩, 4) := ⟨⟨by decide +kernel, by decide +kernel⟩, List.mem_of_getElem? (i := 343) (by decide +kernel), List.mem_of_getElem? (i := 341) (by decide +kernel), List.mem_of_getElem? (i := 342) (by decide +kernel)⟩
theorem lw_p8 : lw_okq (⟨"DeltaViews$Group", "fold", "(LDeltaViews$Bag;I)I"⟩, 4) := ⟨⟨by decide +kernel, by decide +kernel⟩, List.mem_of_getElem? (i := 343) (by decide +kernel), List.mem_of_getElem? (i := 348) (by decide +kernel), List.mem_of_getElem? (i := 349) (by decide +kernel)⟩
theorem lw_p9 : lw_okq (⟨"DeltaViews$Group", "worth", "(LDeltaViews$Bag;I)I"⟩, 4) := ⟨⟨by decide +kernel, by decide +kernel⟩, List.mem_of_getElem? (i := 343) (by decide +kernel), List.mem_of_getElem? (i := 352) (by decide +kernel), List.mem_of_getElem? (i := 353) (by decide +kernel)⟩
theorem lw_p10 : lw_okq (⟨"DeltaViews$Join", "addPartners", "(ILDeltaViews$Bag;)V"⟩, 4) := ⟨⟨by decide +kernel, by decide +kernel⟩, List.mem_of_getElem? (i := 370) (by decide +kernel), List.mem_of_getElem? (i := 368) (by decide +kernel), List.mem_of_getElem? (i := 369) (by decide +kernel)⟩
theorem lw_p11 : lw_okq (⟨"DeltaViews$Select", "passes", "(I)Z"⟩, 4) := ⟨⟨by decide +kernel, by decide +kernel⟩, List.mem_of_getElem? (i := 395) (by decide +kernel), List.mem_of_getElem? (i := 393) (by decide +kernel), List.mem_of_getElem? (i := 394) (by decide +kernel)⟩
theorem lw_p12 : lw_okq (⟨"DeltaViews", "takeBack", "(I)V"⟩, 3) := ⟨⟨by decide +kernel, by decide +kernel⟩, List.mem_of_getElem? (i := 24) (by decide +kernel), List.mem_of_getElem? (i := 446) (by decide +kernel), List.mem_of_getElem? (i := 447) (by decide +kernel)⟩
theorem lw_p13 : lw_okq (⟨"DeltaViews$Bag", "orderOfRows", "(ILDeltaViews$Bag;I)I"⟩, 5) := ⟨⟨by decide +kernel, by decide +kernel⟩, List.mem_of_getElem? (i := 72) (by decide +kernel), List.mem_of_getElem? (i := 460) (by decide +kernel), List.mem_of_getElem? (i := 461) (by decide +kernel)⟩
theorem lw_p14 : lw_okq (⟨"DeltaViews", "viewAt", "(I)LDeltaViews$View;"⟩, 3) := ⟨⟨by decide +kernel, by decide +kernel⟩, List.mem_of_getElem? (i := 24) (by decide +kernel), List.mem_of_getElem? (i := 471) (by decide +kernel), List.mem_of_getElem? (i := 472) (by decide +kernel)⟩
theorem lw_p15 : lw_okq (⟨"DeltaViews", "makeView", "(LDeltaViews$Operation;)I"⟩, 3) := ⟨⟨by decide +kernel, by decide +kernel⟩, List.mem_of_getElem? (i := 24) (by decide +kernel), List.mem_of_getElem? (i := 499) (by decide +kernel), List.mem_of_getElem? (i := 500) (by decide +kernel)⟩
def lw_privs_1 : List (MethodName × Nat) := [(⟨"java/lang/Throwable", "fillInStackTrace", "(I)Ljava/lang/Throwable;"⟩, 6), (⟨"DeltaViews", "renewViews", "()Z"⟩, 3), (⟨"DeltaViews$Bag", "placeOfPending", "()I"⟩, 5), (⟨"DeltaViews$Bag", "orderOfCells", "(I[II)I"⟩, 5), (⟨"DeltaViews$Bag", "isPending", "(I)Z"⟩, 5), (⟨"DeltaViews$Bag", "remove", "(I)V"⟩, 5), (⟨"DeltaViews$Bag", "insert", "(IJ)V"⟩, 5), (⟨"DeltaViews$Group", "isFirstOfGroup", "(LDeltaViews$Bag;I)Z"⟩, 4), (⟨"DeltaViews$Group", "fold", "(LDeltaViews$Bag;I)I"⟩, 4), (⟨"DeltaViews$Group", "worth", "(LDeltaViews$Bag;I)I"⟩, 4), (⟨"DeltaViews$Join", "addPartners", "(ILDeltaViews$Bag;)V"⟩, 4), (⟨"DeltaViews$Select", "passes", "(I)Z"⟩, 4), (⟨"DeltaViews", "takeBack", "(I)V"⟩, 3), (⟨"DeltaViews$Bag", "orderOfRows", "(ILDeltaViews$Bag;I)I"⟩, 5), (⟨"DeltaViews", "viewAt", "(I)LDeltaViews$View;"⟩, 3), (⟨"DeltaViews", "makeView", "(LDeltaViews$Operation;)I"⟩, 3)]
theorem lw_r1 : ∀ q ∈ lw_privs_1, lw_okq q := List.forall_mem_cons.mpr ⟨lw_p0, List.forall_mem_cons.mpr ⟨lw_p1, List.forall_mem_cons.mpr ⟨lw_p2, List.forall_mem_cons.mpr ⟨lw_p3, List.forall_mem_cons.mpr ⟨lw_p4, List.forall_mem_cons.mpr ⟨lw_p5, List.forall_mem_cons.mpr ⟨lw_p6, List.forall_mem_cons.mpr ⟨lw_p7, List.forall_mem_cons.mpr ⟨lw_p8, List.forall_mem_cons.mpr ⟨lw_p9, List.forall_mem_cons.mpr ⟨lw_p10, List.forall_mem_cons.mpr ⟨lw_p11, List.forall_mem_cons.mpr ⟨lw_p12, List.forall_mem_cons.mpr ⟨lw_p13, List.forall_mem_cons.mpr ⟨lw_p14, List.forall_mem_cons.mpr ⟨lw_p15, fun _ h => absurd h List.not_mem_nil⟩⟩⟩⟩⟩⟩⟩⟩⟩⟩⟩⟩⟩⟩⟩⟩
theorem lw_p16 : lw_okq (⟨"DeltaViewsModel", "tryTable", "(I)Z"⟩, 22) := ⟨⟨by decide +kernel, by decide +kernel⟩, List.mem_of_getElem? (i := 701) (by decide +kernel), List.mem_of_getElem? (i := 790) (by decide +kernel), List.mem_of_getElem? (i := 791) (by decide +kernel)⟩
theorem lw_p17 : lw_okq (⟨"DeltaViewsModel", "take", "(II)V"⟩, 22) := ⟨⟨by decide +kernel, by decide +kernel⟩, List.mem_of_getElem? (i := 701) (by decide +kernel), List.mem_of_getElem? (i := 794) (by decide +kernel), List.mem_of_getElem? (i := 795) (by decide +kernel)⟩
theorem lw_p18 : lw_okq (⟨"DeltaViewsModel", "cellOf", "(III)I"⟩, 22) := ⟨⟨by decide +kernel, by decide +kernel⟩, List.mem_of_getElem? (i := 701) (by decide +kernel), List.mem_of_getElem? (i := 798) (by decide +kernel), List.mem_of_getElem? (i := 799) (by decide +kernel)⟩
theorem lw_p19 : lw_okq (⟨"DeltaViewsModel", "gather", "(IJ)V"⟩, 22) := ⟨⟨by decide +kernel, by decide +kernel⟩, List.mem_of_getElem? (i := 701) (by decide +kernel), List.mem_of_getElem? (i := 802) (by decide +kernel), List.mem_of_getElem? (i := 803) (by decide +kernel)⟩
theorem lw_p20 : lw_okq (⟨"DeltaViewsModel", "isRow", "(II)Z"⟩, 22) := ⟨⟨by decide +kernel, by decide +kernel⟩, List.mem_of_getElem? (i := 701) (by decide +kernel), List.mem_of_getElem? (i := 806) (by decide +kernel), List.mem_of_getElem? (i := 807) (by decide +kernel)⟩
theorem lw_p21 : lw_okq (⟨"DeltaViewsModel", "settle", "(III)Z"⟩, 22) := ⟨⟨by decide +kernel, by decide +kernel⟩, List.mem_of_getElem? (i := 701) (by decide +kernel), List.mem_of_getElem? (i := 811) (by decide +kernel), List.mem_of_getElem? (i := 812) (by decide +kernel)⟩
theorem lw_p22 : lw_okq (⟨"DeltaViewsModel", "comesBefore", "(III)Z"⟩, 22) := ⟨⟨by decide +kernel, by decide +kernel⟩, List.mem_of_getElem? (i := 701) (by decide +kernel), List.mem_of_getElem? (i := 815) (by decide +kernel), List.mem_of_getElem? (i := 816) (by decide +kernel)⟩
theorem lw_p23 : lw_okq (⟨"DeltaViewsModel", "work", "(II)Z"⟩, 22) := ⟨⟨by decide +kernel, by decide +kernel⟩, List.mem_of_getElem? (i := 701) (by decide +kernel), List.mem_of_getElem? (i := 819) (by decide +kernel), List.mem_of_getElem? (i := 820) (by decide +kernel)⟩
theorem lw_p24 : lw_okq (⟨"DeltaViewsModel", "selects", "(II)V"⟩, 22) := ⟨⟨by decide +kernel, by decide +kernel⟩, List.mem_of_getElem? (i := 701) (by decide +kernel), List.mem_of_getElem? (i := 823) (by decide +kernel), List.mem_of_getElem? (i := 824) (by decide +kernel)⟩
theorem lw_p25 : lw_okq (⟨"DeltaViewsModel", "projects", "(II)V"⟩, 22) := ⟨⟨by decide +kernel, by decide +kernel⟩, List.mem_of_getElem? (i := 701) (by decide +kernel), List.mem_of_getElem? (i := 830) (by decide +kernel), List.mem_of_getElem? (i := 831) (by decide +kernel)⟩
theorem lw_p26 : lw_okq (⟨"DeltaViewsModel", "joins", "(III)V"⟩, 22) := ⟨⟨by decide +kernel, by decide +kernel⟩, List.mem_of_getElem? (i := 701) (by decide +kernel), List.mem_of_getElem? (i := 834) (by decide +kernel), List.mem_of_getElem? (i := 835) (by decide +kernel)⟩
theorem lw_p27 : lw_okq (⟨"DeltaViewsModel", "all", "(IIZ)V"⟩, 22) := ⟨⟨by decide +kernel, by decide +kernel⟩, List.mem_of_getElem? (i := 701) (by decide +kernel), List.mem_of_getElem? (i := 838) (by decide +kernel), List.mem_of_getElem? (i := 839) (by decide +kernel)⟩
theorem lw_p28 : lw_okq (⟨"DeltaViewsModel", "groups", "(II)V"⟩, 22) := ⟨⟨by decide +kernel, by decide +kernel⟩, List.mem_of_getElem? (i := 701) (by decide +kernel), List.mem_of_getElem? (i := 842) (by decide +kernel), List.mem_of_getElem? (i := 843) (by decide +kernel)⟩
theorem lw_p29 : lw_okq (⟨"DeltaViewsModel", "result", "(III)I"⟩, 22) := ⟨⟨by decide +kernel, by decide +kernel⟩, List.mem_of_getElem? (i := 701) (by decide +kernel), List.mem_of_getElem? (i := 846) (by decide +kernel), List.mem_of_getElem? (i := 847) (by decide +kernel)⟩
theorem lw_p30 : lw_okq (⟨"DeltaViewsModel", "takeOver", "(I)V"⟩, 22) := ⟨⟨by decide +kernel, by decide +kernel⟩, List.mem_of_getElem? (i := 701) (by decide +kernel), List.mem_of_getElem? (i := 850) (by decide +kernel), List.mem_of_getElem? (i := 851) (by decide +kernel)⟩
theorem lw_p31 : lw_okq (⟨"DeltaViewsModel", "differing", "(I)I"⟩, 22) := ⟨⟨by decide +kernel, by decide +kernel⟩, List.mem_of_getElem? (i := 701) (by decide +kernel), List.mem_of_getElem? (i := 854) (by decide +kernel), List.mem_of_getElem? (i := 855) (by decide +kernel)⟩
def lw_privs_2 : List (MethodName × Nat) := [(⟨"DeltaViewsModel", "tryTable", "(I)Z"⟩, 22), (⟨"DeltaViewsModel", "take", "(II)V"⟩, 22), (⟨"DeltaViewsModel", "cellOf", "(III)I"⟩, 22), (⟨"DeltaViewsModel", "gather", "(IJ)V"⟩, 22), (⟨"DeltaViewsModel", "isRow", "(II)Z"⟩, 22), (⟨"DeltaViewsModel", "settle", "(III)Z"⟩, 22), (⟨"DeltaViewsModel", "comesBefore", "(III)Z"⟩, 22), (⟨"DeltaViewsModel", "work", "(II)Z"⟩, 22), (⟨"DeltaViewsModel", "selects", "(II)V"⟩, 22), (⟨"DeltaViewsModel", "projects", "(II)V"⟩, 22), (⟨"DeltaViewsModel", "joins", "(III)V"⟩, 22), (⟨"DeltaViewsModel", "all", "(IIZ)V"⟩, 22), (⟨"DeltaViewsModel", "groups", "(II)V"⟩, 22), (⟨"DeltaViewsModel", "result", "(III)I"⟩, 22), (⟨"DeltaViewsModel", "takeOver", "(I)V"⟩, 22), (⟨"DeltaViewsModel", "differing", "(I)I"⟩, 22)]
theorem lw_r2 : ∀ q ∈ lw_privs_2, lw_okq q := List.forall_mem_cons.mpr ⟨lw_p16, List.forall_mem_cons.mpr ⟨lw_p17, List.forall_mem_cons.mpr ⟨lw_p18, List.forall_mem_cons.mpr ⟨lw_p19, List.forall_mem_cons.mpr ⟨lw_p20, List.forall_mem_cons.mpr ⟨lw_p21, List.forall_mem_cons.mpr ⟨lw_p22, List.forall_mem_cons.mpr ⟨lw_p23, List.forall_mem_cons.mpr ⟨lw_p24, List.forall_mem_cons.mpr ⟨lw_p25, List.forall_mem_cons.mpr ⟨lw_p26, List.forall_mem_cons.mpr ⟨lw_p27, List.forall_mem_cons.mpr ⟨lw_p28, List.forall_mem_cons.mpr ⟨lw_p29, List.forall_mem_cons.mpr ⟨lw_p30, List.forall_mem_cons.mpr ⟨lw_p31, fun _ h => absurd h List.not_mem_nil⟩⟩⟩⟩⟩⟩⟩⟩⟩⟩⟩⟩⟩⟩⟩⟩
theorem lw_p32 : lw_okq (⟨"DeltaViewsModel", "timesOf", "(IIII)J"⟩, 22) := ⟨⟨by decide +kernel, by decide +kernel⟩, List.mem_of_getElem? (i := 701) (by decide +kernel), List.mem_of_getElem? (i := 858) (by decide +kernel), List.mem_of_getElem? (i := 859) (by decide +kernel)⟩
theorem lw_p33 : lw_okq (⟨"DeltaViewsModel", "isColumn", "(II)Z"⟩, 22) := ⟨⟨by decide +kernel, by decide +kernel⟩, List.mem_of_getElem? (i := 701) (by decide +kernel), List.mem_of_getElem? (i := 866) (by decide +kernel), List.mem_of_getElem? (i := 867) (by decide +kernel)⟩
theorem lw_p34 : lw_okq (⟨"DeltaViewsModel", "isView", "(I)Z"⟩, 22) := ⟨⟨by decide +kernel, by decide +kernel⟩, List.mem_of_getElem? (i := 701) (by decide +kernel), List.mem_of_getElem? (i := 870) (by decide +kernel), List.mem_of_getElem? (i := 871) (by decide +kernel)⟩
theorem lw_p35 : lw_okq (⟨"DeltaViewsModel", "told", "(III)V"⟩, 22) := ⟨⟨by decide +kernel, by decide +kernel⟩, List.mem_of_getElem? (i := 701) (by decide +kernel), List.mem_of_getElem? (i := 874) (by decide +kernel), List.mem_of_getElem? (i := 875) (by decide +kernel)⟩
theorem lw_p36 : lw_okq (⟨"DeltaViewsModel", "make", "(IIIII)I"⟩, 22) := ⟨⟨by decide +kernel, by decide +kernel⟩, List.mem_of_getElem? (i := 701) (by decide +kernel), List.mem_of_getElem? (i := 878) (by decide +kernel), List.mem_of_getElem? (i := 879) (by decide +kernel)⟩
def lw_privs_3 : List (MethodName × Nat) := [(⟨"DeltaViewsModel", "timesOf", "(IIII)J"⟩, 22), (⟨"DeltaViewsModel", "isColumn", "(II)Z"⟩, 22), (⟨"DeltaViewsModel", "isView", "(I)Z"⟩, 22), (⟨"DeltaViewsModel", "told", "(III)V"⟩, 22), (⟨"DeltaViewsModel", "make", "(IIIII)I"⟩, 22)]
theorem lw_r3 : ∀ q ∈ lw_privs_3, lw_okq q := List.forall_mem_cons.mpr ⟨lw_p32, List.forall_mem_cons.mpr ⟨lw_p33, List.forall_mem_cons.mpr ⟨lw_p34, List.forall_mem_cons.mpr ⟨lw_p35, List.forall_mem_cons.mpr ⟨lw_p36, fun _ h => absurd h List.not_mem_nil⟩⟩⟩⟩⟩
def lw_privs : List (MethodName × Nat) := lw_privs_1 ++ (lw_privs_2 ++ (lw_privs_3))
def lw_tbl : List Cond := k2_sels lw_privs ++ tables_1
theorem lw_privs_ok : ∀ q ∈ lw_privs, lw_okq q := by
  show ∀ q ∈ lw_privs_1 ++ (lw_privs_2 ++ (lw_privs_3)), lw_okq q
  exact List.forall_mem_append.mpr ⟨lw_r1, List.forall_mem_append.mpr ⟨lw_r2, lw_r3⟩⟩
/-! field tables, methods -/
def T_DV : u_T := fun k => match k with
  | 0 => ("DeltaViews", "views", "[LDeltaViews$View;", true)
  | 1 => ("DeltaViews", "count", "I", false)
  | _ => ("DeltaViews", "batch", "LDeltaViews$Batch;", true)
def ty_DV : Nat → FieldType := fun k => match k with
  | 0 => .array (.object "DeltaViews$View")
  | 1 => .int
  | _ => .object "DeltaViews$Batch"
def T_View : u_T := fun k => match k with
  | 0 => ("DeltaViews$View", "operation", "LDeltaViews$Operation;", false)
  | 1 => ("DeltaViews$View", "now", "LDeltaViews$Bag;", false)
  | 2 => ("DeltaViews$View", "before", "LDeltaViews$Bag;", false)
  | _ => ("DeltaViews$View", "moved", "I", false)
def ty_View : Nat → FieldType := fun k => match k with
  | 0 => .object "DeltaViews$Operation"
  | 1 => .object "DeltaViews$Bag"
  | 2 => .object "DeltaViews$Bag"
  | _ => .int
def T_Bag : u_T := fun k => match k with
  | 0 => ("DeltaViews$Bag", "width", "I", false)
  | 1 => ("DeltaViews$Bag", "size", "I", false)
  | 2 => ("DeltaViews$Bag", "cells", "[I", true)
  | 3 => ("DeltaViews$Bag", "multiplicities", "[J", true)
  | _ => ("DeltaViews$Bag", "pending", "[I", true)
def ty_Bag : Nat → FieldType := fun k => match k with
  | 0 => .int
  | 1 => .int
  | 2 => .array .int
  | 3 => .array .long
  | _ => .array .int
def T_Batch : u_T := fun k => match k with
  | 0 => ("DeltaViews$Batch", "table", "[I", true)
  | 1 => ("DeltaViews$Batch", "a", "[I", true)
  | 2 => ("DeltaViews$Batch", "b", "[I", true)
  | 3 => ("DeltaViews$Batch", "by", "[I", true)
  | _ => ("DeltaViews$Batch", "size", "I", false)
def ty_Batch : Nat → FieldType := fun k => match k with
  | 0 => .array .int
  | 1 => .array .int
  | 2 => .array .int
  | 3 => .array .int
  | _ => .int
def T_Table : u_T := fun k => match k with
  | _ => ("", "", "", false)
def ty_Table : Nat → FieldType := fun k => match k with
  | _ => .int
def T_Select : u_T := fun k => match k with
  | 0 => ("DeltaViews$Select", "source", "LDeltaViews$View;", true)
  | 1 => ("DeltaViews$Select", "column", "I", true)
  | 2 => ("DeltaViews$Select", "test", "I", true)
  | _ => ("DeltaViews$Select", "number", "I", true)
def ty_Select : Nat → FieldType := fun k => match k with
  | 0 => .object "DeltaViews$View"
  | 1 => .int
  | 2 => .int
  | _ => .int
def T_Project : u_T := fun k => match k with
  | 0 => ("DeltaViews$Project", "source", "LDeltaViews$View;", true)
  | 1 => ("DeltaViews$Project", "newWidth", "I", true)
  | _ => ("DeltaViews$Project", "columns", "I", true)
def ty_Project : Nat → FieldType := fun k => match k with
  | 0 => .object "DeltaViews$View"
  | 1 => .int
  | _ => .int
def T_Join : u_T := fun k => match k with
  | 0 => ("DeltaViews$Join", "left", "LDeltaViews$View;", true)
  | 1 => ("DeltaViews$Join", "right", "LDeltaViews$View;", true)
  | 2 => ("DeltaViews$Join", "leftColumn", "I", true)
  | _ => ("DeltaViews$Join", "rightColumn", "I", true)
def ty_Join : Nat → FieldType := fun k => match k with
  | 0 => .object "DeltaViews$View"
  | 1 => .object "DeltaViews$View"
  | 2 => .int
  | _ => .int
def T_Union : u_T := fun k => match k with
  | 0 => ("DeltaViews$Union", "left", "LDeltaViews$View;", true)
  | _ => ("DeltaViews$Union", "right", "LDeltaViews$View;", true)
def ty_Union : Nat → FieldType := fun k => match k with
  | 0 => .object "DeltaViews$View"
  | _ => .object "DeltaViews$View"
def T_Group : u_T := fun k => match k with
  | 0 => ("DeltaViews$Group", "source", "LDeltaViews$View;", true)
  | 1 => ("DeltaViews$Group", "kind", "I", true)
  | 2 => ("DeltaViews$Group", "keyColumn", "I", true)
  | _ => ("DeltaViews$Group", "column", "I", true)
def ty_Group : Nat → FieldType := fun k => match k with
  | 0 => .object "DeltaViews$View"
  | 1 => .int
  | 2 => .int
  | _ => .int
def T_Distinct : u_T := fun k => match k with
  | _ => ("DeltaViews$Distinct", "source", "LDeltaViews$View;", true)
def ty_Distinct : Nat → FieldType := fun k => match k with
  | _ => .object "DeltaViews$View"
def T_Mo : u_T := fun k => match k with
  | 0 => ("DeltaViewsModel", "thrown", "I", false)
  | 1 => ("DeltaViewsModel", "views", "I", false)
  | 2 => ("DeltaViewsModel", "widths", "[I", true)
  | 3 => ("DeltaViewsModel", "kinds", "[I", true)
  | 4 => ("DeltaViewsModel", "es", "[I", true)
  | 5 => ("DeltaViewsModel", "fs", "[I", true)
  | 6 => ("DeltaViewsModel", "ps", "[I", true)
  | 7 => ("DeltaViewsModel", "qs", "[I", true)
  | 8 => ("DeltaViewsModel", "rs", "[I", true)
  | 9 => ("DeltaViewsModel", "moves", "[I", true)
  | 10 => ("DeltaViewsModel", "counts", "[I", true)
  | 11 => ("DeltaViewsModel", "times", "[J", true)
  | 12 => ("DeltaViewsModel", "cells", "[I", true)
  | 13 => ("DeltaViewsModel", "gathered", "I", false)
  | 14 => ("DeltaViewsModel", "mine", "[J", true)
  | 15 => ("DeltaViewsModel", "rows", "[I", true)
  | 16 => ("DeltaViewsModel", "one", "[I", true)
  | 17 => ("DeltaViewsModel", "changes", "I", false)
  | 18 => ("DeltaViewsModel", "tables", "[I", true)
  | 19 => ("DeltaViewsModel", "as", "[I", true)
  | 20 => ("DeltaViewsModel", "bs", "[I", true)
  | _ => ("DeltaViewsModel", "bys", "[I", true)
def ty_Mo : Nat → FieldType := fun k => match k with
  | 0 => .int
  | 1 => .int
  | 2 => .array .int
  | 3 => .array .int
  | 4 => .array .int
  | 5 => .array .int
  | 6 => .array .int
  | 7 => .array .int
  | 8 => .array .int
  | 9 => .array .int
  | 10 => .array .int
  | 11 => .array .long
  | 12 => .array .int
  | 13 => .int
  | 14 => .array .long
  | 15 => .array .int
  | 16 => .array .int
  | 17 => .int
  | 18 => .array .int
  | 19 => .array .int
  | 20 => .array .int
  | _ => .array .int
abbrev vwCl : List vw_C := [("DeltaViews", T_DV, 3), ("DeltaViews$View", T_View, 4), ("DeltaViews$Bag", T_Bag, 5), ("DeltaViews$Batch", T_Batch, 5), ("DeltaViews$Table", T_Table, 0), ("DeltaViews$Select", T_Select, 4), ("DeltaViews$Project", T_Project, 3), ("DeltaViews$Join", T_Join, 4), ("DeltaViews$Union", T_Union, 2), ("DeltaViews$Group", T_Group, 4), ("DeltaViews$Distinct", T_Distinct, 1), ("DeltaViewsModel", T_Mo, 22)]
abbrev mi_DV_init : MethodName × ByteArray × Nat × Option FieldType × List (Nat × Nat × Nat × Nat) := (⟨"DeltaViews", "<init>", "()V"⟩, prog_1_method_1_code, 2, none, [])
abbrev mi_Batch_init : MethodName × ByteArray × Nat × Option FieldType × List (Nat × Nat × Nat × Nat) := (⟨"DeltaViews$Batch", "<init>", "()V"⟩, prog_3_method_1_code, 1, none, [])
abbrev mi_Table_init : MethodName × ByteArray × Nat × Option FieldType × List (Nat × Nat × Nat × Nat) := (⟨"DeltaViews$Table", "<init>", "()V"⟩, prog_10_method_1_code, 1, none, [])
abbrev mi_Oper_init : MethodName × ByteArray × Nat × Option FieldType × List (Nat × Nat × Nat × Nat) := (⟨"DeltaViews$Operation", "<init>", "()V"⟩, prog_7_method_1_code, 1, none, [])
abbrev mi_View_init : MethodName × ByteArray × Nat × Option FieldType × List (Nat × Nat × Nat × Nat) := (⟨"DeltaViews$View", "<init>", "(LDeltaViews$Operation;)V"⟩, prog_12_method_1_code, 2, none, [])
abbrev mi_Bag_init : MethodName × ByteArray × Nat × Option FieldType × List (Nat × Nat × Nat × Nat) := (⟨"DeltaViews$Bag", "<init>", "()V"⟩, prog_2_method_1_code, 1, none, [])
abbrev mi_DV_cancel : MethodName × ByteArray × Nat × Option FieldType × List (Nat × Nat × Nat × Nat) := (⟨"DeltaViews", "cancel", "()I"⟩, prog_1_method_3_code, 1, some .int, [])
abbrev mi_Batch_empty : MethodName × ByteArray × Nat × Option FieldType × List (Nat × Nat × Nat × Nat) := (⟨"DeltaViews$Batch", "empty", "()I"⟩, prog_3_method_4_code, 2, some .int, [])
abbrev mi_Law_change : MethodName × ByteArray × Nat × Option FieldType × List (Nat × Nat × Nat × Nat) := (⟨"DeltaViewsLaw", "change", "(LDeltaViews;IIII[J)I"⟩, method_3_code, 7, some .int, [(0, 14, 17, 13), (0, 14, 21, 15), (0, 14, 25, 17)])
abbrev mi_DV_change : MethodName × ByteArray × Nat × Option FieldType × List (Nat × Nat × Nat × Nat) := (⟨"DeltaViews", "change", "(IIII)I"⟩, prog_1_method_2_code, 5, some .int, [])
abbrev mi_DV_isTooFar : MethodName × ByteArray × Nat × Option FieldType × List (Nat × Nat × Nat × Nat) := (⟨"DeltaViews", "isTooFar", "(II)Z"⟩, prog_1_method_18_code, 2, some .boolean, [])
abbrev mi_Batch_isFull : MethodName × ByteArray × Nat × Option FieldType × List (Nat × Nat × Nat × Nat) := (⟨"DeltaViews$Batch", "isFull", "()Z"⟩, prog_3_method_2_code, 1, some .boolean, [])
abbrev mi_Batch_append : MethodName × ByteArray × Nat × Option FieldType × List (Nat × Nat × Nat × Nat) := (⟨"DeltaViews$Batch", "append", "(IIII)I"⟩, prog_3_method_3_code, 5, some .int, [])
abbrev mi_Law_commit : MethodName × ByteArray × Nat × Option FieldType × List (Nat × Nat × Nat × Nat) := (⟨"DeltaViewsLaw", "commit", "(LDeltaViews;[J)I"⟩, method_4_code, 3, some .int, [(0, 8, 11, 17)])
abbrev mi_DV_commit : MethodName × ByteArray × Nat × Option FieldType × List (Nat × Nat × Nat × Nat) := (⟨"DeltaViews", "commit", "()I"⟩, prog_1_method_4_code, 4, some .int, [])
abbrev mi_DV_renewViews : MethodName × ByteArray × Nat × Option FieldType × List (Nat × Nat × Nat × Nat) := (⟨"DeltaViews", "renewViews", "()Z"⟩, prog_1_method_24_code, 2, some .boolean, [])
abbrev mi_View_renew : MethodName × ByteArray × Nat × Option FieldType × List (Nat × Nat × Nat × Nat) := (⟨"DeltaViews$View", "renew", "()V"⟩, prog_12_method_3_code, 1, none, [])
abbrev mi_View_exchangeBags : MethodName × ByteArray × Nat × Option FieldType × List (Nat × Nat × Nat × Nat) := (⟨"DeltaViews$View", "exchangeBags", "()V"⟩, prog_12_method_4_code, 2, none, [])
abbrev mi_Distinct_fill : MethodName × ByteArray × Nat × Option FieldType × List (Nat × Nat × Nat × Nat) := (⟨"DeltaViews$Distinct", "fill", "(LDeltaViews$Bag;LDeltaViews$Bag;)V"⟩, prog_4_method_2_code, 5, none, [])
abbrev mi_Bag_clear : MethodName × ByteArray × Nat × Option FieldType × List (Nat × Nat × Nat × Nat) := (⟨"DeltaViews$Bag", "clear", "(I)V"⟩, prog_2_method_2_code, 2, none, [])
abbrev mi_Bag_putRow : MethodName × ByteArray × Nat × Option FieldType × List (Nat × Nat × Nat × Nat) := (⟨"DeltaViews$Bag", "putRow", "(LDeltaViews$Bag;II)V"⟩, prog_2_method_7_code, 5, none, [])
abbrev mi_Bag_cellAt : MethodName × ByteArray × Nat × Option FieldType × List (Nat × Nat × Nat × Nat) := (⟨"DeltaViews$Bag", "cellAt", "(II)I"⟩, prog_2_method_4_code, 3, some .int, [])
abbrev mi_Bag_put : MethodName × ByteArray × Nat × Option FieldType × List (Nat × Nat × Nat × Nat) := (⟨"DeltaViews$Bag", "put", "(II)V"⟩, prog_2_method_6_code, 3, none, [])
abbrev mi_Bag_add : MethodName × ByteArray × Nat × Option FieldType × List (Nat × Nat × Nat × Nat) := (⟨"DeltaViews$Bag", "add", "(J)V"⟩, prog_2_method_8_code, 4, none, [])
abbrev mi_Bag_placeOfPending : MethodName × ByteArray × Nat × Option FieldType × List (Nat × Nat × Nat × Nat) := (⟨"DeltaViews$Bag", "placeOfPending", "()I"⟩, prog_2_method_15_code, 2, some .int, [])
abbrev mi_Bag_orderOfCells : MethodName × ByteArray × Nat × Option FieldType × List (Nat × Nat × Nat × Nat) := (⟨"DeltaViews$Bag", "orderOfCells", "(I[II)I"⟩, prog_2_method_14_code, 7, some .int, [])
abbrev mi_Bag_isPending : MethodName × ByteArray × Nat × Option FieldType × List (Nat × Nat × Nat × Nat) := (⟨"DeltaViews$Bag", "isPending", "(I)Z"⟩, prog_2_method_16_code, 2, some .boolean, [])
abbrev mi_Bag_remove : MethodName × ByteArray × Nat × Option FieldType × List (Nat × Nat × Nat × Nat) := (⟨"DeltaViews$Bag", "remove", "(I)V"⟩, prog_2_method_18_code, 4, none, [])
abbrev mi_Bag_insert : MethodName × ByteArray × Nat × Option FieldType × List (Nat × Nat × Nat × Nat) := (⟨"DeltaViews$Bag", "insert", "(IJ)V"⟩, prog_2_method_17_code, 6, none, [])
abbrev mi_Group_fill : MethodName × ByteArray × Nat × Option FieldType × List (Nat × Nat × Nat × Nat) := (⟨"DeltaViews$Group", "fill", "(LDeltaViews$Bag;LDeltaViews$Bag;)V"⟩, prog_5_method_2_code, 5, none, [])
abbrev mi_Group_isFirstOfGroup : MethodName × ByteArray × Nat × Option FieldType × List (Nat × Nat × Nat × Nat) := (⟨"DeltaViews$Group", "isFirstOfGroup", "(LDeltaViews$Bag;I)Z"⟩, prog_5_method_3_code, 4, some .boolean, [])
abbrev mi_Group_fold : MethodName × ByteArray × Nat × Option FieldType × List (Nat × Nat × Nat × Nat) := (⟨"DeltaViews$Group", "fold", "(LDeltaViews$Bag;I)I"⟩, prog_5_method_4_code, 6, some .int, [])
abbrev mi_Group_worth : MethodName × ByteArray × Nat × Option FieldType × List (Nat × Nat × Nat × Nat) := (⟨"DeltaViews$Group", "worth", "(LDeltaViews$Bag;I)I"⟩, prog_5_method_5_code, 3, some .int, [])
abbrev mi_Bag_timesAt : MethodName × ByteArray × Nat × Option FieldType × List (Nat × Nat × Nat × Nat) := (⟨"DeltaViews$Bag", "timesAt", "(I)J"⟩, prog_2_method_5_code, 2, some .long, [])
abbrev mi_Join_fill : MethodName × ByteArray × Nat × Option FieldType × List (Nat × Nat × Nat × Nat) := (⟨"DeltaViews$Join", "fill", "(LDeltaViews$Bag;LDeltaViews$Bag;)V"⟩, prog_6_method_2_code, 4, none, [])
abbrev mi_Join_addPartners : MethodName × ByteArray × Nat × Option FieldType × List (Nat × Nat × Nat × Nat) := (⟨"DeltaViews$Join", "addPartners", "(ILDeltaViews$Bag;)V"⟩, prog_6_method_3_code, 6, none, [])
abbrev mi_Project_fill : MethodName × ByteArray × Nat × Option FieldType × List (Nat × Nat × Nat × Nat) := (⟨"DeltaViews$Project", "fill", "(LDeltaViews$Bag;LDeltaViews$Bag;)V"⟩, prog_8_method_2_code, 6, none, [])
abbrev mi_DV_columnInBits : MethodName × ByteArray × Nat × Option FieldType × List (Nat × Nat × Nat × Nat) := (⟨"DeltaViews", "columnInBits", "(II)I"⟩, prog_1_method_19_code, 2, some .int, [])
abbrev mi_Select_fill : MethodName × ByteArray × Nat × Option FieldType × List (Nat × Nat × Nat × Nat) := (⟨"DeltaViews$Select", "fill", "(LDeltaViews$Bag;LDeltaViews$Bag;)V"⟩, prog_9_method_2_code, 5, none, [])
abbrev mi_Select_passes : MethodName × ByteArray × Nat × Option FieldType × List (Nat × Nat × Nat × Nat) := (⟨"DeltaViews$Select", "passes", "(I)Z"⟩, prog_9_method_3_code, 2, some .boolean, [])
abbrev mi_Table_fill : MethodName × ByteArray × Nat × Option FieldType × List (Nat × Nat × Nat × Nat) := (⟨"DeltaViews$Table", "fill", "(LDeltaViews$Bag;LDeltaViews$Bag;)V"⟩, prog_10_method_2_code, 3, none, [])
abbrev mi_Bag_copy : MethodName × ByteArray × Nat × Option FieldType × List (Nat × Nat × Nat × Nat) := (⟨"DeltaViews$Bag", "copy", "(LDeltaViews$Bag;)V"⟩, prog_2_method_3_code, 2, none, [])
abbrev mi_Union_fill : MethodName × ByteArray × Nat × Option FieldType × List (Nat × Nat × Nat × Nat) := (⟨"DeltaViews$Union", "fill", "(LDeltaViews$Bag;LDeltaViews$Bag;)V"⟩, prog_11_method_2_code, 3, none, [])
abbrev mi_Bag_addAll : MethodName × ByteArray × Nat × Option FieldType × List (Nat × Nat × Nat × Nat) := (⟨"DeltaViews$Bag", "addAll", "(LDeltaViews$Bag;)V"⟩, prog_2_method_9_code, 3, none, [])
abbrev mi_Batch_addTo : MethodName × ByteArray × Nat × Option FieldType × List (Nat × Nat × Nat × Nat) := (⟨"DeltaViews$Batch", "addTo", "(ILDeltaViews$Bag;)V"⟩, prog_3_method_5_code, 4, none, [])
abbrev mi_View_keepsLimits : MethodName × ByteArray × Nat × Option FieldType × List (Nat × Nat × Nat × Nat) := (⟨"DeltaViews$View", "keepsLimits", "()Z"⟩, prog_12_method_5_code, 1, some .boolean, [])
abbrev mi_Table_allows : MethodName × ByteArray × Nat × Option FieldType × List (Nat × Nat × Nat × Nat) := (⟨"DeltaViews$Table", "allows", "(LDeltaViews$Bag;)Z"⟩, prog_10_method_3_code, 2, some .boolean, [])
abbrev mi_Bag_hasTimesOutside : MethodName × ByteArray × Nat × Option FieldType × List (Nat × Nat × Nat × Nat) := (⟨"DeltaViews$Bag", "hasTimesOutside", "(II)Z"⟩, prog_2_method_11_code, 4, some .boolean, [])
abbrev mi_Oper_allows : MethodName × ByteArray × Nat × Option FieldType × List (Nat × Nat × Nat × Nat) := (⟨"DeltaViews$Operation", "allows", "(LDeltaViews$Bag;)Z"⟩, prog_7_method_3_code, 2, some .boolean, [])
abbrev mi_DV_takeBack : MethodName × ByteArray × Nat × Option FieldType × List (Nat × Nat × Nat × Nat) := (⟨"DeltaViews", "takeBack", "(I)V"⟩, prog_1_method_25_code, 3, none, [])
abbrev mi_View_countMoved : MethodName × ByteArray × Nat × Option FieldType × List (Nat × Nat × Nat × Nat) := (⟨"DeltaViews$View", "countMoved", "()V"⟩, prog_12_method_6_code, 1, none, [])
abbrev mi_Bag_differencesFrom : MethodName × ByteArray × Nat × Option FieldType × List (Nat × Nat × Nat × Nat) := (⟨"DeltaViews$Bag", "differencesFrom", "(LDeltaViews$Bag;)I"⟩, prog_2_method_12_code, 6, some .int, [])
abbrev mi_Bag_orderOfRows : MethodName × ByteArray × Nat × Option FieldType × List (Nat × Nat × Nat × Nat) := (⟨"DeltaViews$Bag", "orderOfRows", "(ILDeltaViews$Bag;I)I"⟩, prog_2_method_13_code, 4, some .int, [])
abbrev mi_Law_select : MethodName × ByteArray × Nat × Option FieldType × List (Nat × Nat × Nat × Nat) := (⟨"DeltaViewsLaw", "select", "(LDeltaViews;IIII[J)I"⟩, method_5_code, 7, some .int, [(0, 14, 17, 13), (0, 14, 21, 15), (0, 14, 25, 17)])
abbrev mi_DV_select : MethodName × ByteArray × Nat × Option FieldType × List (Nat × Nat × Nat × Nat) := (⟨"DeltaViews", "select", "(IIII)I"⟩, prog_1_method_5_code, 6, some .int, [])
abbrev mi_DV_viewAt : MethodName × ByteArray × Nat × Option FieldType × List (Nat × Nat × Nat × Nat) := (⟨"DeltaViews", "viewAt", "(I)LDeltaViews$View;"⟩, prog_1_method_20_code, 2, some (.object "DeltaViews$View"), [])
abbrev mi_DV_needColumn : MethodName × ByteArray × Nat × Option FieldType × List (Nat × Nat × Nat × Nat) := (⟨"DeltaViews", "needColumn", "(LDeltaViews$View;I)V"⟩, prog_1_method_21_code, 2, none, [])
abbrev mi_Select_init : MethodName × ByteArray × Nat × Option FieldType × List (Nat × Nat × Nat × Nat) := (⟨"DeltaViews$Select", "<init>", "(LDeltaViews$View;III)V"⟩, prog_9_method_1_code, 5, none, [])
abbrev mi_DV_makeView : MethodName × ByteArray × Nat × Option FieldType × List (Nat × Nat × Nat × Nat) := (⟨"DeltaViews", "makeView", "(LDeltaViews$Operation;)I"⟩, prog_1_method_23_code, 3, some .int, [])
abbrev mi_View_begin : MethodName × ByteArray × Nat × Option FieldType × List (Nat × Nat × Nat × Nat) := (⟨"DeltaViews$View", "begin", "(LDeltaViews$Operation;)V"⟩, prog_12_method_2_code, 2, none, [])
abbrev mi_Law_project : MethodName × ByteArray × Nat × Option FieldType × List (Nat × Nat × Nat × Nat) := (⟨"DeltaViewsLaw", "project", "(LDeltaViews;III[J)I"⟩, method_6_code, 6, some .int, [(0, 12, 15, 13), (0, 12, 19, 15), (0, 12, 23, 17)])
abbrev mi_DV_project : MethodName × ByteArray × Nat × Option FieldType × List (Nat × Nat × Nat × Nat) := (⟨"DeltaViews", "project", "(III)I"⟩, prog_1_method_6_code, 6, some .int, [])
abbrev mi_Project_init : MethodName × ByteArray × Nat × Option FieldType × List (Nat × Nat × Nat × Nat) := (⟨"DeltaViews$Project", "<init>", "(LDeltaViews$View;II)V"⟩, prog_8_method_1_code, 4, none, [])
abbrev mi_Law_join : MethodName × ByteArray × Nat × Option FieldType × List (Nat × Nat × Nat × Nat) := (⟨"DeltaViewsLaw", "join", "(LDeltaViews;IIII[J)I"⟩, method_7_code, 7, some .int, [(0, 14, 17, 13), (0, 14, 21, 15), (0, 14, 25, 17)])
abbrev mi_DV_join : MethodName × ByteArray × Nat × Option FieldType × List (Nat × Nat × Nat × Nat) := (⟨"DeltaViews", "join", "(IIII)I"⟩, prog_1_method_7_code, 7, some .int, [])
abbrev mi_Join_init : MethodName × ByteArray × Nat × Option FieldType × List (Nat × Nat × Nat × Nat) := (⟨"DeltaViews$Join", "<init>", "(LDeltaViews$View;LDeltaViews$View;II)V"⟩, prog_6_method_1_code, 5, none, [])
abbrev mi_Law_union : MethodName × ByteArray × Nat × Option FieldType × List (Nat × Nat × Nat × Nat) := (⟨"DeltaViewsLaw", "union", "(LDeltaViews;II[J)I"⟩, method_8_code, 5, some .int, [(0, 10, 13, 13), (0, 10, 17, 15), (0, 10, 21, 17)])
abbrev mi_DV_union : MethodName × ByteArray × Nat × Option FieldType × List (Nat × Nat × Nat × Nat) := (⟨"DeltaViews", "union", "(II)I"⟩, prog_1_method_8_code, 5, some .int, [])
abbrev mi_Union_init : MethodName × ByteArray × Nat × Option FieldType × List (Nat × Nat × Nat × Nat) := (⟨"DeltaViews$Union", "<init>", "(LDeltaViews$View;LDeltaViews$View;)V"⟩, prog_11_method_1_code, 3, none, [])
abbrev mi_Law_group : MethodName × ByteArray × Nat × Option FieldType × List (Nat × Nat × Nat × Nat) := (⟨"DeltaViewsLaw", "group", "(LDeltaViews;IIII[J)I"⟩, method_9_code, 7, some .int, [(0, 14, 17, 13), (0, 14, 21, 15), (0, 14, 25, 17)])
abbrev mi_DV_group : MethodName × ByteArray × Nat × Option FieldType × List (Nat × Nat × Nat × Nat) := (⟨"DeltaViews", "group", "(IIII)I"⟩, prog_1_method_9_code, 6, some .int, [])
abbrev mi_Group_init : MethodName × ByteArray × Nat × Option FieldType × List (Nat × Nat × Nat × Nat) := (⟨"DeltaViews$Group", "<init>", "(LDeltaViews$View;III)V"⟩, prog_5_method_1_code, 5, none, [])
abbrev mi_Law_distinct : MethodName × ByteArray × Nat × Option FieldType × List (Nat × Nat × Nat × Nat) := (⟨"DeltaViewsLaw", "distinct", "(LDeltaViews;I[J)I"⟩, method_10_code, 4, some .int, [(0, 9, 12, 13), (0, 9, 15, 17)])
abbrev mi_DV_distinct : MethodName × ByteArray × Nat × Option FieldType × List (Nat × Nat × Nat × Nat) := (⟨"DeltaViews", "distinct", "(I)I"⟩, prog_1_method_10_code, 2, some .int, [])
abbrev mi_Distinct_init : MethodName × ByteArray × Nat × Option FieldType × List (Nat × Nat × Nat × Nat) := (⟨"DeltaViews$Distinct", "<init>", "(LDeltaViews$View;)V"⟩, prog_4_method_1_code, 2, none, [])
abbrev mi_Law_drop : MethodName × ByteArray × Nat × Option FieldType × List (Nat × Nat × Nat × Nat) := (⟨"DeltaViewsLaw", "drop", "(LDeltaViews;[J)I"⟩, method_11_code, 3, some .int, [(0, 8, 11, 17)])
abbrev mi_DV_drop : MethodName × ByteArray × Nat × Option FieldType × List (Nat × Nat × Nat × Nat) := (⟨"DeltaViews", "drop", "()I"⟩, prog_1_method_11_code, 1, some .int, [])
abbrev mi_Law_width : MethodName × ByteArray × Nat × Option FieldType × List (Nat × Nat × Nat × Nat) := (⟨"DeltaViewsLaw", "width", "(LDeltaViews;I[J)I"⟩, method_12_code, 4, some .int, [(0, 9, 12, 13)])
abbrev mi_DV_width : MethodName × ByteArray × Nat × Option FieldType × List (Nat × Nat × Nat × Nat) := (⟨"DeltaViews", "width", "(I)I"⟩, prog_1_method_12_code, 2, some .int, [])
abbrev mi_Law_rows : MethodName × ByteArray × Nat × Option FieldType × List (Nat × Nat × Nat × Nat) := (⟨"DeltaViewsLaw", "rows", "(LDeltaViews;I[J)I"⟩, method_13_code, 4, some .int, [(0, 9, 12, 13)])
abbrev mi_DV_rows : MethodName × ByteArray × Nat × Option FieldType × List (Nat × Nat × Nat × Nat) := (⟨"DeltaViews", "rows", "(I)I"⟩, prog_1_method_13_code, 2, some .int, [])
abbrev mi_Law_cell : MethodName × ByteArray × Nat × Option FieldType × List (Nat × Nat × Nat × Nat) := (⟨"DeltaViewsLaw", "cell", "(LDeltaViews;III[J)I"⟩, method_14_code, 6, some .int, [(0, 12, 15, 13), (0, 12, 19, 56)])
abbrev mi_DV_cell : MethodName × ByteArray × Nat × Option FieldType × List (Nat × Nat × Nat × Nat) := (⟨"DeltaViews", "cell", "(III)I"⟩, prog_1_method_14_code, 5, some .int, [])
abbrev mi_DV_needRow : MethodName × ByteArray × Nat × Option FieldType × List (Nat × Nat × Nat × Nat) := (⟨"DeltaViews", "needRow", "(LDeltaViews$View;I)V"⟩, prog_1_method_22_code, 2, none, [])
abbrev mi_Law_times : MethodName × ByteArray × Nat × Option FieldType × List (Nat × Nat × Nat × Nat) := (⟨"DeltaViewsLaw", "times", "(LDeltaViews;II[J)I"⟩, method_15_code, 5, some .int, [(0, 9, 12, 13), (0, 9, 16, 56)])
abbrev mi_DV_times : MethodName × ByteArray × Nat × Option FieldType × List (Nat × Nat × Nat × Nat) := (⟨"DeltaViews", "times", "(II)J"⟩, prog_1_method_15_code, 4, some .long, [])
abbrev mi_Law_many : MethodName × ByteArray × Nat × Option FieldType × List (Nat × Nat × Nat × Nat) := (⟨"DeltaViewsLaw", "many", "(LDeltaViews;IIIII[J)I"⟩, method_16_code, 8, some .int, [(0, 15, 18, 13)])
abbrev mi_DV_many : MethodName × ByteArray × Nat × Option FieldType × List (Nat × Nat × Nat × Nat) := (⟨"DeltaViews", "many", "(IIIII)J"⟩, prog_1_method_16_code, 7, some .long, [])
abbrev mi_Bag_timesOfPending : MethodName × ByteArray × Nat × Option FieldType × List (Nat × Nat × Nat × Nat) := (⟨"DeltaViews$Bag", "timesOfPending", "()J"⟩, prog_2_method_10_code, 2, some .long, [])
abbrev mi_Law_moved : MethodName × ByteArray × Nat × Option FieldType × List (Nat × Nat × Nat × Nat) := (⟨"DeltaViewsLaw", "moved", "(LDeltaViews;I[J)I"⟩, method_17_code, 4, some .int, [(0, 9, 12, 13)])
abbrev mi_DV_moved : MethodName × ByteArray × Nat × Option FieldType × List (Nat × Nat × Nat × Nat) := (⟨"DeltaViews", "moved", "(I)I"⟩, prog_1_method_17_code, 2, some .int, [])
abbrev mi_Mo_init : MethodName × ByteArray × Nat × Option FieldType × List (Nat × Nat × Nat × Nat) := (⟨"DeltaViewsModel", "<init>", "()V"⟩, prog_14_method_1_code, 2, none, [])
abbrev mi_Mo_thrown : MethodName × ByteArray × Nat × Option FieldType × List (Nat × Nat × Nat × Nat) := (⟨"DeltaViewsModel", "thrown", "()I"⟩, prog_14_method_2_code, 1, some .int, [])
abbrev mi_Mo_change : MethodName × ByteArray × Nat × Option FieldType × List (Nat × Nat × Nat × Nat) := (⟨"DeltaViewsModel", "change", "(IIII)I"⟩, prog_14_method_17_code, 5, some .int, [])
abbrev mi_Mo_cancel : MethodName × ByteArray × Nat × Option FieldType × List (Nat × Nat × Nat × Nat) := (⟨"DeltaViewsModel", "cancel", "()I"⟩, prog_14_method_18_code, 2, some .int, [])
abbrev mi_Mo_commit : MethodName × ByteArray × Nat × Option FieldType × List (Nat × Nat × Nat × Nat) := (⟨"DeltaViewsModel", "commit", "()I"⟩, prog_14_method_23_code, 3, some .int, [])
abbrev mi_Mo_tryTable : MethodName × ByteArray × Nat × Option FieldType × List (Nat × Nat × Nat × Nat) := (⟨"DeltaViewsModel", "tryTable", "(I)Z"⟩, prog_14_method_19_code, 4, some .boolean, [])
abbrev mi_Mo_take : MethodName × ByteArray × Nat × Option FieldType × List (Nat × Nat × Nat × Nat) := (⟨"DeltaViewsModel", "take", "(II)V"⟩, prog_14_method_8_code, 4, none, [])
abbrev mi_Mo_cellOf : MethodName × ByteArray × Nat × Option FieldType × List (Nat × Nat × Nat × Nat) := (⟨"DeltaViewsModel", "cellOf", "(III)I"⟩, prog_14_method_7_code, 4, some .int, [])
abbrev mi_Mo_gather : MethodName × ByteArray × Nat × Option FieldType × List (Nat × Nat × Nat × Nat) := (⟨"DeltaViewsModel", "gather", "(IJ)V"⟩, prog_14_method_4_code, 5, none, [])
abbrev mi_Mo_isRow : MethodName × ByteArray × Nat × Option FieldType × List (Nat × Nat × Nat × Nat) := (⟨"DeltaViewsModel", "isRow", "(II)Z"⟩, prog_14_method_3_code, 5, some .boolean, [])
abbrev mi_Mo_settle : MethodName × ByteArray × Nat × Option FieldType × List (Nat × Nat × Nat × Nat) := (⟨"DeltaViewsModel", "settle", "(III)Z"⟩, prog_14_method_6_code, 8, some .boolean, [])
abbrev mi_Mo_comesBefore : MethodName × ByteArray × Nat × Option FieldType × List (Nat × Nat × Nat × Nat) := (⟨"DeltaViewsModel", "comesBefore", "(III)Z"⟩, prog_14_method_5_code, 5, some .boolean, [])
abbrev mi_Mo_work : MethodName × ByteArray × Nat × Option FieldType × List (Nat × Nat × Nat × Nat) := (⟨"DeltaViewsModel", "work", "(II)Z"⟩, prog_14_method_16_code, 5, some .boolean, [])
abbrev mi_Mo_selects : MethodName × ByteArray × Nat × Option FieldType × List (Nat × Nat × Nat × Nat) := (⟨"DeltaViewsModel", "selects", "(II)V"⟩, prog_14_method_10_code, 4, none, [])
abbrev mi_Mo_passes : MethodName × ByteArray × Nat × Option FieldType × List (Nat × Nat × Nat × Nat) := (⟨"DeltaViewsModel", "passes", "(III)Z"⟩, prog_14_method_9_code, 3, some .boolean, [])
abbrev mi_Mo_projects : MethodName × ByteArray × Nat × Option FieldType × List (Nat × Nat × Nat × Nat) := (⟨"DeltaViewsModel", "projects", "(II)V"⟩, prog_14_method_11_code, 5, none, [])
abbrev mi_Mo_joins : MethodName × ByteArray × Nat × Option FieldType × List (Nat × Nat × Nat × Nat) := (⟨"DeltaViewsModel", "joins", "(III)V"⟩, prog_14_method_12_code, 8, none, [])
abbrev mi_Mo_all : MethodName × ByteArray × Nat × Option FieldType × List (Nat × Nat × Nat × Nat) := (⟨"DeltaViewsModel", "all", "(IIZ)V"⟩, prog_14_method_13_code, 5, none, [])
abbrev mi_Mo_groups : MethodName × ByteArray × Nat × Option FieldType × List (Nat × Nat × Nat × Nat) := (⟨"DeltaViewsModel", "groups", "(II)V"⟩, prog_14_method_15_code, 7, none, [])
abbrev mi_Mo_result : MethodName × ByteArray × Nat × Option FieldType × List (Nat × Nat × Nat × Nat) := (⟨"DeltaViewsModel", "result", "(III)I"⟩, prog_14_method_14_code, 9, some .int, [])
abbrev mi_Mo_takeOver : MethodName × ByteArray × Nat × Option FieldType × List (Nat × Nat × Nat × Nat) := (⟨"DeltaViewsModel", "takeOver", "(I)V"⟩, prog_14_method_22_code, 3, none, [])
abbrev mi_Mo_differing : MethodName × ByteArray × Nat × Option FieldType × List (Nat × Nat × Nat × Nat) := (⟨"DeltaViewsModel", "differing", "(I)I"⟩, prog_14_method_21_code, 4, some .int, [])
abbrev mi_Mo_timesOf : MethodName × ByteArray × Nat × Option FieldType × List (Nat × Nat × Nat × Nat) := (⟨"DeltaViewsModel", "timesOf", "(IIII)J"⟩, prog_14_method_20_code, 8, some .long, [])
abbrev mi_Mo_select : MethodName × ByteArray × Nat × Option FieldType × List (Nat × Nat × Nat × Nat) := (⟨"DeltaViewsModel", "select", "(IIII)I"⟩, prog_14_method_28_code, 5, some .int, [])
abbrev mi_Mo_isColumn : MethodName × ByteArray × Nat × Option FieldType × List (Nat × Nat × Nat × Nat) := (⟨"DeltaViewsModel", "isColumn", "(II)Z"⟩, prog_14_method_25_code, 3, some .boolean, [])
abbrev mi_Mo_isView : MethodName × ByteArray × Nat × Option FieldType × List (Nat × Nat × Nat × Nat) := (⟨"DeltaViewsModel", "isView", "(I)Z"⟩, prog_14_method_24_code, 2, some .boolean, [])
abbrev mi_Mo_told : MethodName × ByteArray × Nat × Option FieldType × List (Nat × Nat × Nat × Nat) := (⟨"DeltaViewsModel", "told", "(III)V"⟩, prog_14_method_27_code, 4, none, [])
abbrev mi_Mo_make : MethodName × ByteArray × Nat × Option FieldType × List (Nat × Nat × Nat × Nat) := (⟨"DeltaViewsModel", "make", "(IIIII)I"⟩, prog_14_method_26_code, 6, some .int, [])
abbrev mi_Mo_project : MethodName × ByteArray × Nat × Option FieldType × List (Nat × Nat × Nat × Nat) := (⟨"DeltaViewsModel", "project", "(III)I"⟩, prog_14_method_29_code, 6, some .int, [])
abbrev mi_Mo_join : MethodName × ByteArray × Nat × Option FieldType × List (Nat × Nat × Nat × Nat) := (⟨"DeltaViewsModel", "join", "(IIII)I"⟩, prog_14_method_30_code, 5, some .int, [])
abbrev mi_Mo_union : MethodName × ByteArray × Nat × Option FieldType × List (Nat × Nat × Nat × Nat) := (⟨"DeltaViewsModel", "union", "(II)I"⟩, prog_14_method_31_code, 3, some .int, [])
abbrev mi_Mo_group : MethodName × ByteArray × Nat × Option FieldType × List (Nat × Nat × Nat × Nat) := (⟨"DeltaViewsModel", "group", "(IIII)I"⟩, prog_14_method_32_code, 5, some .int, [])
abbrev mi_Mo_distinct : MethodName × ByteArray × Nat × Option FieldType × List (Nat × Nat × Nat × Nat) := (⟨"DeltaViewsModel", "distinct", "(I)I"⟩, prog_14_method_33_code, 2, some .int, [])
abbrev mi_Mo_drop : MethodName × ByteArray × Nat × Option FieldType × List (Nat × Nat × Nat × Nat) := (⟨"DeltaViewsModel", "drop", "()I"⟩, prog_14_method_34_code, 1, some .int, [])
abbrev mi_Mo_width : MethodName × ByteArray × Nat × Option FieldType × List (Nat × Nat × Nat × Nat) := (⟨"DeltaViewsModel", "width", "(I)I"⟩, prog_14_method_35_code, 2, some .int, [])
abbrev mi_Mo_rows : MethodName × ByteArray × Nat × Option FieldType × List (Nat × Nat × Nat × Nat) := (⟨"DeltaViewsModel", "rows", "(I)I"⟩, prog_14_method_36_code, 2, some .int, [])
abbrev mi_Mo_cell : MethodName × ByteArray × Nat × Option FieldType × List (Nat × Nat × Nat × Nat) := (⟨"DeltaViewsModel", "cell", "(III)I"⟩, prog_14_method_37_code, 4, some .int, [])
abbrev mi_Mo_times : MethodName × ByteArray × Nat × Option FieldType × List (Nat × Nat × Nat × Nat) := (⟨"DeltaViewsModel", "times", "(II)J"⟩, prog_14_method_38_code, 3, some .long, [])
abbrev mi_Mo_many : MethodName × ByteArray × Nat × Option FieldType × List (Nat × Nat × Nat × Nat) := (⟨"DeltaViewsModel", "many", "(IIIII)J"⟩, prog_14_method_39_code, 9, some .long, [])
abbrev mi_Mo_moved : MethodName × ByteArray × Nat × Option FieldType × List (Nat × Nat × Nat × Nat) := (⟨"DeltaViewsModel", "moved", "(I)I"⟩, prog_14_method_40_code, 2, some .int, [])
abbrev mi_Law_law : MethodName × ByteArray × Nat × Option FieldType × List (Nat × Nat × Nat × Nat) := (⟨"DeltaViewsLaw", "law", "([I)Z"⟩, code, 8, some .boolean, [])
def fw_ex : Nat → String
  | 1 => "java/lang/IndexOutOfBoundsException"
  | 2 => "java/lang/IllegalArgumentException"
  | 3 => "java/lang/IllegalStateException"
  | _ => "java/util/NoSuchElementException"
/-- words that stay true as the tables warm -/
def fw_keep : Cond → Bool
  | .fieldLinkNest .. => true
  | .methodLinkNest .. => true
  | .declares _ => true
  | .castable .. => true
  | .arrayClass _ => true
  | w => w.onTables && w.keeps
def fw_big : List Cond := lw_tbl.filter fw_keep
theorem fw_big_ok : ∀ c ∈ fw_big, fw_keep c = true := fun _ h => (List.mem_filter.mp h).2
theorem fw_mem {c : Cond} (i : Nat) (h : lw_tbl[i]? = some c) (hk : fw_keep c = true) : c ∈ fw_big := List.mem_filter.mpr ⟨List.mem_of_getElem? h, hk⟩
end
section
/-! Bags of rows as sorted lists: the mathematics that both programs meet in. -/
def ma_lt : List Int32 → List Int32 → Bool
  | x :: xs, y :: ys => decide (x < y) || (decide (x = y) && ma_lt xs ys)
  | _, _ => false
abbrev MaB : Type := List (List Int32 × Int64)
theorem ma_lt_cons (x y : Int32) (xs ys : List Int32) : ma_lt (x :: xs) (y :: ys) = true ↔ x < y ∨ (x = y ∧ ma_lt xs ys = true) := by
  simp [ma_lt]
theorem ma_lt_irr (r : List Int32) : ma_lt r r = false := by
  induction r with
  | nil => rfl
  | cons x t ih => simp [ma_lt, ih]
theorem ma_lt_trans : ∀ {a b c : List Int32}, ma_lt a b = true → ma_lt b c = true → ma_lt a c = true
  | [], _, _, h, _ => by simp [ma_lt] at h
  | _ :: _, [], _, h, _ => by simp [ma_lt] at h
  | _ :: _, _ :: _, [], _, h => by simp [ma_lt] at h
  | x :: xs, y :: ys, z :: zs, h, g => by
    rw [ma_lt_cons] at h g ⊢
    rcases h with h | ⟨rfl, h⟩
    · rcases g with g | ⟨rfl, g⟩
      · exact Or.inl (Int32.lt_trans h g)
      · exact Or.inl h
    · rcases g with g | ⟨rfl, g⟩
      · exact Or.inl g
      · exact Or.inr ⟨rfl, ma_lt_trans h g⟩
theorem ma_lt_asym {a b : List Int32} (h : ma_lt a b = true) : ma_lt b a = false := by
  cases g : ma_lt b a with
  | false => rfl
  | true =>
    have := ma_lt_trans h g
    rw [ma_lt_irr] at this
    cases this
theorem ma_lt_ne {a b : List Int32} (h : ma_lt a b = true) : a ≠ b := by
  rintro rfl
  rw [ma_lt_irr] at h
  cases h
theorem ma_i32_tri (x y : Int32) : x < y ∨ x = y ∨ y < x := by
  rw [Int32.lt_iff_toInt_lt, Int32.lt_iff_toInt_lt, ← Int32.toInt_inj]
  omega
theorem ma_lt_tri : ∀ {a b : List Int32}, a.length = b.length → ma_lt a b = true ∨ a = b ∨ ma_lt b a = true
  | [], [], _ => Or.inr (Or.inl rfl)
  | [], _ :: _, h => by simp at h
  | _ :: _, [], h => by simp at h
  | x :: xs, y :: ys, h => by
    rw [ma_lt_cons, ma_lt_cons]
    have h' : xs.length = ys.length := by simpa using h
    rcases ma_i32_tri x y with g | rfl | g
    · exact Or.inl (Or.inl g)
    · rcases ma_lt_tri h' with k | rfl | k
      · exact Or.inl (Or.inr ⟨rfl, k⟩)
      · exact Or.inr (Or.inl rfl)
      · exact Or.inr (Or.inr (Or.inr ⟨rfl, k⟩))
    · exact Or.inr (Or.inr (Or.inl g))
/-- a row's multiplicity -/
def ma_look : MaB → List Int32 → Int64
  | [], _ => 0
  | (q, k) :: t, r => if q = r then k else ma_look t r
/-- sorted insertion: the way of the system -/
def ma_add : MaB → List Int32 → Int64 → MaB
  | [], r, m => if m = 0 then [] else [(r, m)]
  | (q, k) :: t, r, m => if ma_lt q r = true then (q, k) :: ma_add t r m else if q = r then (if k + m = 0 then t else (q, k + m) :: t) else if m = 0 then (q, k) :: t else (r, m) :: (q, k) :: t
def ma_srt (b : MaB) : Prop := b.Pairwise (fun x y => ma_lt x.1 y.1 = true)
def ma_ok (n : Nat) (b : MaB) : Prop := ma_srt b ∧ ∀ x ∈ b, x.1.length = n ∧ x.2 ≠ 0
theorem ma_ok_nil (n : Nat) : ma_ok n [] := ⟨List.Pairwise.nil, fun _ h => by cases h⟩
theorem ma_ok_cons {n : Nat} {x : List Int32 × Int64} {t : MaB} : ma_ok n (x :: t) ↔ (x.1.length = n ∧ x.2 ≠ 0 ∧ ∀ y ∈ t, ma_lt x.1 y.1 = true) ∧ ma_ok n t := by
  unfold ma_ok ma_srt
  rw [List.pairwise_cons]
  constructor
  · rintro ⟨⟨h1, h2⟩, h3⟩
    exact ⟨⟨(h3 x List.mem_cons_self).1, (h3 x List.mem_cons_self).2, h1⟩, h2, fun y hy => h3 y (List.mem_cons_of_mem _ hy)⟩
  · rintro ⟨⟨h1, h2, h3⟩, h4, h5⟩
    refine ⟨⟨h3, h4⟩, fun y hy => ?_⟩
    rcases List.mem_cons.mp hy with rfl | hy
    · exact ⟨h1, h2⟩
    · exact h5 y hy
theorem ma_add_mem {b : MaB} {r : List Int32} {m : Int64} {x : List Int32 × Int64} (h : x ∈ ma_add b r m) : x ∈ b ∨ x.1 = r := by
  induction b with
  | nil =>
    simp only [ma_add] at h
    split at h
    · cases h
    · exact Or.inr (by rw [List.mem_singleton.mp h])
  | cons y t ih =>
    obtain ⟨q, k⟩ := y
    simp only [ma_add] at h
    split at h
    · rcases List.mem_cons.mp h with rfl | h
      · exact Or.inl List.mem_cons_self
      · rcases ih h with g | g
        · exact Or.inl (List.mem_cons_of_mem _ g)
        · exact Or.inr g
    · split at h
      · rename_i hq
        split at h
        · exact Or.inl (List.mem_cons_of_mem _ h)
        · rcases List.mem_cons.mp h with rfl | h
          · exact Or.inr hq
          · exact Or.inl (List.mem_cons_of_mem _ h)
      · split at h
        · exact Or.inl h
        · rcases List.mem_cons.mp h with rfl | h
          · exact Or.inr rfl
          · exact Or.inl h
theorem ma_add_ok {n : Nat} {b : MaB} {r : List Int32} {m : Int64} (h : ma_ok n b) (hr : r.length = n) : ma_ok n (ma_add b r m) := by
  induction b with
  | nil =>
    simp only [ma_add]
    split
    · exact ma_ok_nil n
    · rename_i hm
      exact ma_ok_cons.mpr ⟨⟨hr, hm, fun _ h => by cases h⟩, ma_ok_nil n⟩
  | cons y t ih =>
    obtain ⟨q, k⟩ := y
    obtain ⟨⟨h1, h2, h3⟩, h4⟩ := ma_ok_cons.mp h
    simp only [ma_add]
    split
    · rename_i hq
      refine ma_ok_cons.mpr ⟨⟨h1, h2, fun x hx => ?_⟩, ih h4⟩
      rcases ma_add_mem hx with g | g
      · exact h3 x g
      · rw [g]; exact hq
    · rename_i hq
      split
      · split
        · exact h4
        · rename_i hk
          exact ma_ok_cons.mpr ⟨⟨h1, hk, h3⟩, h4⟩
      · rename_i hqr
        split
        · exact h
        · rename_i hm
          have hlt : ma_lt r q = true := by
            rcases ma_lt_tri (a := r) (b := q) (hr.trans h1.symm) with g | g | g
            · exact g
            · exact absurd g.symm hqr
            · exact absurd g hq
          refine ma_ok_cons.mpr ⟨⟨hr, hm, fun x hx => ?_⟩, h⟩
          rcases List.mem_cons.mp hx with rfl | hx
          · exact hlt
          · exact ma_lt_trans hlt (h3 x hx)
theorem ma_look_no {b : MaB} {r : List Int32} (h : ∀ x ∈ b, x.1 ≠ r) : ma_look b r = 0 := by
  induction b with
  | nil => rfl
  | cons y t ih =>
    obtain ⟨q, k⟩ := y
    simp only [ma_look]
    rw [if_neg (h (q, k) List.mem_cons_self)]
    exact ih fun x hx => h x (List.mem_cons_of_mem _ hx)
theorem ma_add_look {n : Nat} {b : MaB} {r : List Int32} {m : Int64} (h : ma_ok n b) (hr : r.length = n) (z : List Int32) : ma_look (ma_add b r m) z = ma_look b z + if r = z then m else 0 := by
  induction b with
  | nil =>
    simp only [ma_add, ma_look]
    by_cases hm : m = 0
    · subst hm
      simp [ma_look]
    · rw [if_neg hm]
      simp [ma_look]
  | cons y t ih =>
    obtain ⟨q, k⟩ := y
    obtain ⟨⟨h1, h2, h3⟩, h4⟩ := ma_ok_cons.mp h
    simp only [ma_add]
    split
    · rename_i hq
      simp only [ma_look]
      split
      · rename_i hz
        subst hz
        rw [if_neg (fun e => ma_lt_ne hq e.symm)]
        simp
      · exact ih h4
    · rename_i hq
      split
      · rename_i hqr
        subst hqr
        have h5 : ∀ x ∈ t, x.1 ≠ q := fun x hx e => ma_lt_ne (h3 x hx) e.symm
        by_cases hz : q = z
        · subst hz
          split
          · rename_i hk
            rw [ma_look_no h5]
            simp [ma_look, hk]
          · simp [ma_look]
        · split
          · simp [ma_look, hz]
          · simp [ma_look, hz]
      · rename_i hqr
        by_cases hm : m = 0
        · subst hm
          simp
        · rw [if_neg hm]
          have hlt : ma_lt r q = true := by
            rcases ma_lt_tri (a := r) (b := q) (hr.trans h1.symm) with g | g | g
            · exact g
            · exact absurd g.symm hqr
            · exact absurd g hq
          have h5 : ∀ x ∈ (q, k) :: t, x.1 ≠ r := by
            intro x hx e
            rcases List.mem_cons.mp hx with rfl | hx
            · exact hqr e
            · exact ma_lt_ne (ma_lt_trans hlt (h3 x hx)) e.symm
          by_cases hz : r = z
          · subst hz
            rw [ma_look_no h5]
            simp [ma_look]
          · simp [ma_look, hz]
/-- gathering: the way of the reference -/
def ma_g : MaB → List Int32 → Int64 → MaB
  | [], r, m => [(r, m)]
  | (q, k) :: t, r, m => if q = r then (q, k + m) :: t else (q, k) :: ma_g t r m
def ma_nd (b : MaB) : Prop := b.Pairwise (fun x y => x.1 ≠ y.1)
theorem ma_g_mem {b : MaB} {r : List Int32} {m : Int64} {x : List Int32 × Int64} (h : x ∈ ma_g b r m) : (∃ y ∈ b, y.1 = x.1) ∨ x.1 = r := by
  induction b with
  | nil => exact Or.inr (by rw [List.mem_singleton.mp h])
  | cons y t ih =>
    obtain ⟨q, k⟩ := y
    simp only [ma_g] at h
    split at h
    · rcases List.mem_cons.mp h with rfl | h
      · exact Or.inl ⟨(q, k), List.mem_cons_self, rfl⟩
      · exact Or.inl ⟨x, List.mem_cons_of_mem _ h, rfl⟩
    · rcases List.mem_cons.mp h with rfl | h
      · exact Or.inl ⟨(q, k), List.mem_cons_self, rfl⟩
      · rcases ih h with ⟨y, hy, e⟩ | e
        · exact Or.inl ⟨y, List.mem_cons_of_mem _ hy, e⟩
        · exact Or.inr e
theorem ma_g_nd {b : MaB} {r : List Int32} {m : Int64} (h : ma_nd b) : ma_nd (ma_g b r m) := by
  induction b with
  | nil => exact List.pairwise_singleton _ _
  | cons y t ih =>
    obtain ⟨q, k⟩ := y
    unfold ma_nd at h ih ⊢
    rw [List.pairwise_cons] at h
    simp only [ma_g]
    split
    · rw [List.pairwise_cons]
      exact ⟨h.1, h.2⟩
    · rename_i hq
      rw [List.pairwise_cons]
      refine ⟨fun x hx => ?_, ih h.2⟩
      rcases ma_g_mem hx with ⟨y, hy, e⟩ | e
      · rw [← e]; exact h.1 y hy
      · rw [e]; exact hq
theorem ma_g_look {b : MaB} {r : List Int32} {m : Int64} (z : List Int32) : ma_look (ma_g b r m) z = ma_look b z + if r = z then m else 0 := by
  induction b with
  | nil => simp [ma_g, ma_look]
  | cons y t ih =>
    obtain ⟨q, k⟩ := y
    simp only [ma_g]
    split
    · rename_i hq
      subst hq
      by_cases hz : q = z
      · subst hz; simp [ma_look]
      · simp [ma_look, hz]
    · rename_i hq
      simp only [ma_look]
      split
      · rename_i hz
        subst hz
        rw [if_neg (fun e => hq e.symm)]
        simp
      · exact ih
theorem ma_look_mem {b : MaB} (h : ma_nd b) {x : List Int32 × Int64} (hx : x ∈ b) : ma_look b x.1 = x.2 := by
  induction b with
  | nil => cases hx
  | cons y t ih =>
    obtain ⟨q, k⟩ := y
    unfold ma_nd at h
    rw [List.pairwise_cons] at h
    simp only [ma_look]
    rcases List.mem_cons.mp hx with rfl | hx
    · simp
    · rw [if_neg (h.1 x hx)]
      exact ih h.2 hx
theorem ma_mem_look {b : MaB} {r : List Int32} (h : ma_look b r ≠ 0) : (r, ma_look b r) ∈ b := by
  induction b with
  | nil => exact absurd rfl h
  | cons y t ih =>
    obtain ⟨q, k⟩ := y
    simp only [ma_look] at h ⊢
    split
    · rename_i hq
      subst hq
      exact List.mem_cons_self
    · rename_i hq
      rw [if_neg hq] at h
      exact List.mem_cons_of_mem _ (ih h)
theorem ma_srt_nd {b : MaB} (h : ma_srt b) : ma_nd b := List.Pairwise.imp (fun {_ _} h => ma_lt_ne h) h
def ma_fold (b A : MaB) : MaB := A.foldl (fun c x => ma_add c x.1 x.2) b
def ma_gf (b A : MaB) : MaB := A.foldl (fun c x => ma_g c x.1 x.2) b
theorem ma_fold_ok {n : Nat} {A : MaB} : ∀ {b : MaB}, ma_ok n b → (∀ x ∈ A, x.1.length = n) → ma_ok n (ma_fold b A) := by
  induction A with
  | nil => intro b h _; exact h
  | cons y t ih => intro b h hA; exact ih (ma_add_ok h (hA y List.mem_cons_self)) (fun x hx => hA x (List.mem_cons_of_mem _ hx))
theorem ma_gf_nd {A : MaB} : ∀ {b : MaB}, ma_nd b → ma_nd (ma_gf b A) := by
  induction A with
  | nil => intro b h; exact h
  | cons y t ih => intro b h; exact ih (ma_g_nd h)
theorem ma_fold_look {n : Nat} {A : MaB} : ∀ {b g : MaB}, ma_ok n b → (∀ x ∈ A, x.1.length = n) → (∀ z, ma_look b z = ma_look g z) → ∀ z, ma_look (ma_fold b A) z = ma_look (ma_gf g A) z := by
  induction A with
  | nil => intro b g _ _ h; exact h
  | cons y t ih =>
    intro b g hb hA h
    refine ih (ma_add_ok hb (hA y List.mem_cons_self)) (fun x hx => hA x (List.mem_cons_of_mem _ hx)) (fun z => ?_)
    rw [ma_add_look hb (hA y List.mem_cons_self), ma_g_look, h]
theorem ma_nd_nodup {b : MaB} (h : ma_nd b) : b.Nodup := List.Pairwise.imp (fun {_ _} h e => h (congrArg Prod.fst e)) h
/-- what is gathered and not nought is, in some order, what sorted insertion gives -/
theorem ma_perm {n : Nat} {A : MaB} (hA : ∀ x ∈ A, x.1.length = n) : ((ma_gf [] A).filter (fun x => decide (x.2 ≠ 0))).Perm (ma_fold [] A) := by
  have h1 : ma_ok n (ma_fold [] A) := ma_fold_ok (ma_ok_nil n) hA
  have h2 : ma_nd (ma_gf [] A) := ma_gf_nd List.Pairwise.nil
  have h3 := ma_fold_look (b := []) (g := []) (ma_ok_nil n) hA (fun _ => rfl)
  refine (List.perm_ext_iff_of_nodup ((ma_nd_nodup h2).sublist List.filter_sublist) (ma_nd_nodup (ma_srt_nd h1.1))).mpr fun x => ?_
  rw [List.mem_filter]
  constructor
  · rintro ⟨hx, hz⟩
    have e := ma_look_mem h2 hx
    have hz : x.2 ≠ 0 := of_decide_eq_true hz
    have e2 : ma_look (ma_fold [] A) x.1 = x.2 := (h3 x.1).trans e
    have := ma_mem_look (b := ma_fold [] A) (r := x.1) (by rw [e2]; exact hz)
    rw [e2] at this
    exact this
  · intro hx
    have e := ma_look_mem (ma_srt_nd h1.1) hx
    have hz := (h1.2 x hx).2
    have e2 : ma_look (ma_gf [] A) x.1 = x.2 := (h3 x.1).symm.trans e
    have := ma_mem_look (b := ma_gf [] A) (r := x.1) (by rw [e2]; exact hz)
    rw [e2] at this
    exact ⟨this, decide_eq_true hz⟩
/-- in a sorted bag the place of a row is the number of those before it -/
theorem ma_rank {n : Nat} {b : MaB} (h : ma_ok n b) : ∀ {i : Nat} (hi : i < b.length), b.countP (fun x => ma_lt x.1 (b[i]).1) = i := by
  induction b with
  | nil => intro i hi; simp at hi
  | cons y t ih =>
    intro i hi
    obtain ⟨⟨h1, h2, h3⟩, h4⟩ := ma_ok_cons.mp h
    cases i with
    | zero =>
      rw [List.countP_eq_zero]
      intro x hx
      rcases List.mem_cons.mp hx with rfl | hx
      · simp [ma_lt_irr]
      · simp [ma_lt_asym (h3 x hx)]
    | succ j =>
      have hj : j < t.length := by simpa using hi
      have hy := h3 (t[j]) (List.getElem_mem hj)
      rw [List.countP_cons_of_pos (by simpa using hy)]
      have := ih h4 hj
      simp only [List.getElem_cons_succ]
      omega
/-! The system's room of 32 rows. -/
def ma_addC (b : MaB) (r : List Int32) (m : Int64) : MaB := if 32 ≤ b.length ∧ b.all (fun x => decide (x.1 ≠ r)) = true then b else ma_add b r m
def ma_foldC (b A : MaB) : MaB := A.foldl (fun c x => ma_addC c x.1 x.2) b
theorem ma_add_len (b : MaB) (r : List Int32) (m : Int64) : (ma_add b r m).length ≤ b.length + 1 := by
  induction b with
  | nil =>
    simp only [ma_add]
    split <;> simp
  | cons y t ih =>
    obtain ⟨q, k⟩ := y
    simp only [ma_add]
    split
    · simp only [List.length_cons]; omega
    · split
      · split
        · simp only [List.length_cons]; omega
        · simp only [List.length_cons]; omega
      · split
        · simp only [List.length_cons]; omega
        · simp only [List.length_cons]; omega
theorem ma_foldC_small {A : MaB} : ∀ {b : MaB}, b.length + A.length ≤ 32 → ma_foldC b A = ma_fold b A := by
  induction A with
  | nil => intro b _; rfl
  | cons y t ih =>
    intro b h
    simp only [List.length_cons] at h
    have e : ma_addC b y.1 y.2 = ma_add b y.1 y.2 := by
      unfold ma_addC
      rw [if_neg]
      rintro ⟨g, -⟩
      omega
    show ma_foldC (ma_addC b y.1 y.2) t = ma_fold (ma_add b y.1 y.2) t
    rw [e]
    have := ma_add_len b y.1 y.2
    exact ih (by omega)
theorem ma_add_new {n : Nat} {b : MaB} {r : List Int32} {m : Int64} (h : ma_ok n b) (hn : ∀ x ∈ b, x.1 ≠ r) : (m = 0 → ma_add b r m = b) ∧ (m ≠ 0 → (ma_add b r m).length = b.length + 1) := by
  induction b with
  | nil => simp only [ma_add]; exact ⟨fun e => by rw [if_pos e], fun e => by rw [if_neg e]; rfl⟩
  | cons y t ih =>
    obtain ⟨q, k⟩ := y
    obtain ⟨-, h4⟩ := ma_ok_cons.mp h
    have hq : ¬ q = r := hn (q, k) List.mem_cons_self
    obtain ⟨i1, i2⟩ := ih h4 (fun x hx => hn x (List.mem_cons_of_mem _ hx))
    simp only [ma_add]
    constructor
    · intro e
      split
      · rw [i1 e]
      · rfl
    · intro e
      split
      · simp only [List.length_cons]; rw [i2 e]
      · rfl
theorem ma_fold_new {n : Nat} {A : MaB} : ∀ {b : MaB}, ma_ok n b → (∀ x ∈ A, x.1.length = n) → ma_nd A → (∀ x ∈ A, ∀ y ∈ b, y.1 ≠ x.1) → (ma_fold b A).length = b.length + A.countP (fun x => decide (x.2 ≠ 0)) := by
  induction A with
  | nil => intro b _ _ _ _; rfl
  | cons y t ih =>
    intro b hb hA hd hn
    unfold ma_nd at hd
    rw [List.pairwise_cons] at hd
    obtain ⟨i1, i2⟩ := ma_add_new (m := y.2) hb (hn y List.mem_cons_self)
    have hn2 : ∀ x ∈ t, ∀ z ∈ ma_add b y.1 y.2, z.1 ≠ x.1 := by
      intro x hx z hz
      rcases ma_add_mem hz with g | g
      · exact hn x (List.mem_cons_of_mem _ hx) z g
      · rw [g]; exact hd.1 x hx
    have := ih (ma_add_ok hb (hA y List.mem_cons_self)) (fun x hx => hA x (List.mem_cons_of_mem _ hx)) hd.2 hn2
    show (ma_fold (ma_add b y.1 y.2) t).length = _
    rw [this]
    by_cases hz : y.2 = 0
    · rw [i1 hz, List.countP_cons_of_neg (by simp [hz])]
    · rw [i2 hz, List.countP_cons_of_pos (by simp [hz])]
      omega
theorem ma_foldC_new {n : Nat} {A : MaB} : ∀ {b : MaB}, ma_ok n b → b.length ≤ 32 → (∀ x ∈ A, x.1.length = n) → ma_nd A → (∀ x ∈ A, ∀ y ∈ b, y.1 ≠ x.1) →
    (b.length + A.countP (fun x => decide (x.2 ≠ 0)) ≤ 32 → ma_foldC b A = ma_fold b A) ∧ (32 ≤ b.length + A.countP (fun x => decide (x.2 ≠ 0)) → (ma_foldC b A).length = 32) := by
  induction A with
  | nil => intro b _ h1 _ _ _; exact ⟨fun _ => rfl, fun h => by simp at h; show b.length = 32; omega⟩
  | cons y t ih =>
    intro b hb h1 hA hd hn
    unfold ma_nd at hd
    rw [List.pairwise_cons] at hd
    obtain ⟨i1, i2⟩ := ma_add_new (m := y.2) hb (hn y List.mem_cons_self)
    have hn2 : ∀ x ∈ t, ∀ z ∈ ma_add b y.1 y.2, z.1 ≠ x.1 := by
      intro x hx z hz
      rcases ma_add_mem hz with g | g
      · exact hn x (List.mem_cons_of_mem _ hx) z g
      · rw [g]; exact hd.1 x hx
    have hA2 : ∀ x ∈ t, x.1.length = n := fun x hx => hA x (List.mem_cons_of_mem _ hx)
    show (_ → ma_foldC (ma_addC b y.1 y.2) t = ma_fold (ma_add b y.1 y.2) t) ∧ (_ → (ma_foldC (ma_addC b y.1 y.2) t).length = 32)
    by_cases hz : y.2 = 0
    · have e2 : ma_add b y.1 y.2 = b := i1 hz
      have e : ma_addC b y.1 y.2 = b := by
        unfold ma_addC
        split
        · rfl
        · exact e2
      rw [e, e2, List.countP_cons_of_neg (by simp [hz])]
      exact ih hb h1 hA2 hd.2 (fun x hx => hn x (List.mem_cons_of_mem _ hx))
    · rw [List.countP_cons_of_pos (by simp [hz])]
      by_cases hl : b.length < 32
      · have e : ma_addC b y.1 y.2 = ma_add b y.1 y.2 := by
          unfold ma_addC
          rw [if_neg]
          rintro ⟨g, -⟩
          omega
        rw [e]
        have e3 := i2 hz
        obtain ⟨j1, j2⟩ := ih (ma_add_ok hb (hA y List.mem_cons_self)) (by omega) hA2 hd.2 hn2
        exact ⟨fun h => j1 (by omega), fun h => j2 (by omega)⟩
      · have e : ma_addC b y.1 y.2 = b := by
          unfold ma_addC
          rw [if_pos]
          refine ⟨by omega, List.all_eq_true.mpr fun x hx => decide_eq_true (hn y List.mem_cons_self x hx)⟩
        rw [e]
        obtain ⟨-, j2⟩ := ih hb h1 hA2 hd.2 (fun x hx => hn x (List.mem_cons_of_mem _ hx))
        exact ⟨fun h => by omega, fun _ => j2 (by omega)⟩
/-! In how many rows two bags differ: by merging, and by two counts. -/
def ma_mv : MaB → MaB → Nat
  | [], y => y.length
  | x :: xs, [] => (x :: xs).length
  | (q, k) :: xs, (r, m) :: ys => if ma_lt q r = true then 1 + ma_mv xs ((r, m) :: ys) else if q = r then (if k = m then 0 else 1) + ma_mv xs ys else 1 + ma_mv ((q, k) :: xs) ys
  termination_by x y => x.length + y.length
def ma_mv2 (x y : MaB) : Nat := y.countP (fun e => decide (ma_look x e.1 ≠ e.2)) + x.countP (fun e => decide (ma_look y e.1 = 0))
theorem ma_mv_eq {n : Nat} : ∀ (N : Nat) (x y : MaB), x.length + y.length ≤ N → ma_ok n x → ma_ok n y → ma_mv x y = ma_mv2 x y := by
  intro N
  induction N with
  | zero =>
    intro x y h _ _
    have hx : x = [] := List.length_eq_zero_iff.mp (by omega)
    have hy : y = [] := List.length_eq_zero_iff.mp (by omega)
    subst hx; subst hy
    simp [ma_mv, ma_mv2]
  | succ N ih =>
    intro x y h hx hy
    match x, y with
    | [], y =>
      rw [ma_mv]
      unfold ma_mv2
      rw [List.countP_nil, List.countP_eq_length.mpr]
      · rfl
      · intro e he
        have := (hy.2 e he).2
        simp [ma_look, Ne.symm this]
    | a :: xs, [] =>
      rw [ma_mv]
      unfold ma_mv2
      rw [List.countP_nil, List.countP_eq_length.mpr]
      · omega
      · intro e _
        simp [ma_look]
    | (q, k) :: xs, (r, m) :: ys =>
      obtain ⟨⟨a1, a2, a3⟩, a4⟩ := ma_ok_cons.mp hx
      obtain ⟨⟨b1, b2, b3⟩, b4⟩ := ma_ok_cons.mp hy
      simp only [List.length_cons] at h
      dsimp only at a1 a2 a3 b1 b2 b3
      rw [ma_mv]
      rcases ma_lt_tri (a := q) (b := r) (a1.trans b1.symm) with g | g | g
      · rw [if_pos g, ih xs ((r, m) :: ys) (by simp only [List.length_cons]; omega) a4 hy]
        have hno : ∀ e ∈ (r, m) :: ys, q ≠ e.1 := by
          intro e he
          rcases List.mem_cons.mp he with rfl | he
          · exact ma_lt_ne g
          · exact ma_lt_ne (ma_lt_trans g (b3 e he))
        unfold ma_mv2
        rw [List.countP_cons_of_pos (a := (q, k)) (l := xs) (by simp [ma_look_no (b := (r, m) :: ys) (r := q) (fun e he => (hno e he).symm)])]
        rw [List.countP_congr (l := (r, m) :: ys) (p := fun e => decide (ma_look ((q, k) :: xs) e.1 ≠ e.2)) (q := fun e => decide (ma_look xs e.1 ≠ e.2)) (fun e he => by simp [ma_look, hno e he])]
        omega
      · subst g
        rw [if_neg (by rw [ma_lt_irr]; decide), if_pos rfl, ih xs ys (by omega) a4 b4]
        have hx2 : ∀ e ∈ ys, q ≠ e.1 := fun e he => ma_lt_ne (b3 e he)
        have hy2 : ∀ e ∈ xs, q ≠ e.1 := fun e he => ma_lt_ne (a3 e he)
        unfold ma_mv2
        rw [List.countP_cons_of_neg (a := (q, k)) (l := xs) (by simp [ma_look, b2])]
        rw [List.countP_cons (a := (q, m)) (l := ys)]
        rw [List.countP_congr (l := ys) (p := fun e => decide (ma_look ((q, k) :: xs) e.1 ≠ e.2)) (q := fun e => decide (ma_look xs e.1 ≠ e.2)) (fun e he => by simp [ma_look, hx2 e he])]
        rw [List.countP_congr (l := xs) (p := fun e => decide (ma_look ((q, m) :: ys) e.1 = 0)) (q := fun e => decide (ma_look ys e.1 = 0)) (fun e he => by simp [ma_look, hy2 e he])]
        by_cases hk : k = m
        · simp [ma_look, hk]
        · simp [ma_look, hk]; omega
      · have g' : ¬ ma_lt q r = true := by rw [ma_lt_asym g]; decide
        rw [if_neg g', if_neg (fun e => ma_lt_ne g e.symm), ih ((q, k) :: xs) ys (by simp only [List.length_cons]; omega) hx b4]
        have hno : ∀ e ∈ (q, k) :: xs, r ≠ e.1 := by
          intro e he
          rcases List.mem_cons.mp he with rfl | he
          · exact ma_lt_ne g
          · exact ma_lt_ne (ma_lt_trans g (a3 e he))
        unfold ma_mv2
        rw [List.countP_cons_of_pos (a := (r, m)) (l := ys) (by simp [ma_look_no (b := (q, k) :: xs) (r := r) (fun e he => (hno e he).symm), Ne.symm b2])]
        rw [List.countP_congr (l := (q, k) :: xs) (p := fun e => decide (ma_look ((r, m) :: ys) e.1 = 0)) (q := fun e => decide (ma_look ys e.1 = 0)) (fun e he => by simp [ma_look, hno e he])]
        omega
end
section
/-! Rows and bags as they lie in arrays. -/
def ar_row (f : Nat → Int32) (n a : Nat) : List Int32 := (List.range n).map (fun c => f (a + c))
theorem ar_row_len (f : Nat → Int32) (n a : Nat) : (ar_row f n a).length = n := by simp [ar_row]
theorem ar_row_0 (f : Nat → Int32) (a : Nat) : ar_row f 0 a = [] := rfl
theorem ar_row_cons (f : Nat → Int32) (n a : Nat) : ar_row f (n + 1) a = f a :: ar_row f n (a + 1) := by
  unfold ar_row
  rw [List.range_succ_eq_map, List.map_cons, List.map_map]
  congr 1
  apply List.map_congr_left
  intro c _
  show f (a + (c + 1)) = f (a + 1 + c)
  congr 1
  omega
theorem ar_row_snoc (f : Nat → Int32) (n a : Nat) : ar_row f (n + 1) a = ar_row f n a ++ [f (a + n)] := by
  simp [ar_row, List.range_succ]
theorem ar_row_congr {f g : Nat → Int32} {n a b : Nat} (h : ∀ c, c < n → f (a + c) = g (b + c)) : ar_row f n a = ar_row g n b := by
  unfold ar_row
  apply List.map_congr_left
  intro c hc
  exact h c (List.mem_range.mp hc)
theorem ar_row_get {f : Nat → Int32} {n a c : Nat} (h : c < n) : (ar_row f n a)[c]? = some (f (a + c)) := by
  simp [ar_row, h]
theorem ar_row_inj {f g : Nat → Int32} {n a b : Nat} (h : ar_row f n a = ar_row g n b) : ∀ c, c < n → f (a + c) = g (b + c) := by
  intro c hc
  have h1 := ar_row_get (f := f) (a := a) hc
  rw [h, ar_row_get hc] at h1
  exact (Option.some.inj h1).symm
theorem ar_row_lt {f g : Nat → Int32} : ∀ {n a b c : Nat}, c < n → f (a + c) < g (b + c) → (∀ j, j < c → f (a + j) = g (b + j)) → ma_lt (ar_row f n a) (ar_row g n b) = true
  | 0, _, _, _, h, _, _ => absurd h (Nat.not_lt_zero _)
  | n + 1, a, b, 0, _, h2, _ => by
    rw [ar_row_cons, ar_row_cons, ma_lt_cons]
    exact Or.inl h2
  | n + 1, a, b, c + 1, h1, h2, h3 => by
    rw [ar_row_cons, ar_row_cons, ma_lt_cons]
    refine Or.inr ⟨h3 0 (by omega), ar_row_lt (c := c) (by omega) ?_ (fun j hj => ?_)⟩
    · have e1 : a + 1 + c = a + (c + 1) := by omega
      have e2 : b + 1 + c = b + (c + 1) := by omega
      rw [e1, e2]; exact h2
    · have e1 : a + 1 + j = a + (j + 1) := by omega
      have e2 : b + 1 + j = b + (j + 1) := by omega
      rw [e1, e2]; exact h3 (j + 1) (by omega)
/-- n rows, row r at 4 * (o + r), its number at o + r -/
def ar_bag (f : Nat → Int32) (m : Nat → Int64) (w o n : Nat) : MaB := (List.range n).map (fun r => (ar_row f w (4 * (o + r)), m (o + r)))
theorem ar_bag_len (f : Nat → Int32) (m : Nat → Int64) (w o n : Nat) : (ar_bag f m w o n).length = n := by simp [ar_bag]
theorem ar_bag_get {f : Nat → Int32} {m : Nat → Int64} {w o n r : Nat} (h : r < n) : (ar_bag f m w o n)[r]? = some (ar_row f w (4 * (o + r)), m (o + r)) := by
  simp [ar_bag, h]
theorem ar_bag_snoc (f : Nat → Int32) (m : Nat → Int64) (w o n : Nat) : ar_bag f m w o (n + 1) = ar_bag f m w o n ++ [(ar_row f w (4 * (o + n)), m (o + n))] := by
  simp [ar_bag, List.range_succ]
theorem ar_bag_congr {f g : Nat → Int32} {m k : Nat → Int64} {w o p n : Nat} (h1 : ∀ r, r < n → ∀ c, c < w → f (4 * (o + r) + c) = g (4 * (p + r) + c)) (h2 : ∀ r, r < n → m (o + r) = k (p + r)) : ar_bag f m w o n = ar_bag g k w p n := by
  unfold ar_bag
  apply List.map_congr_left
  intro r hr
  have hr := List.mem_range.mp hr
  rw [h2 r hr, ar_row_congr (h1 r hr)]
theorem ar_ext {b : MaB} {f : Nat → Int32} {m : Nat → Int64} {w o n : Nat} (hl : b.length = n) (h : ∀ r, r < n → b[r]? = some (ar_row f w (4 * (o + r)), m (o + r))) : b = ar_bag f m w o n := by
  apply List.ext_getElem?
  intro i
  by_cases hi : i < n
  · rw [h i hi, ar_bag_get hi]
  · rw [List.getElem?_eq_none (by omega), List.getElem?_eq_none (by rw [ar_bag_len]; omega)]
theorem ar_bag_mem {f : Nat → Int32} {m : Nat → Int64} {w o n : Nat} {x : List Int32 × Int64} (h : x ∈ ar_bag f m w o n) : ∃ r, r < n ∧ x = (ar_row f w (4 * (o + r)), m (o + r)) := by
  obtain ⟨r, hr, rfl⟩ := List.mem_map.mp h
  exact ⟨r, List.mem_range.mp hr, rfl⟩
/-! numbers -/
theorem ix_inc (k : Nat) : nI k + Int32.ofInt 1 = nI (k + 1) := (nI_succ k).symm
theorem ix_4a (r c : Nat) : nI r * 4 + nI c = nI (4 * r + c) := by
  show nI r * nI 4 + nI c = _
  rw [pk_mul, nI_add, Nat.mul_comm]
theorem ix_4b (r c : Nat) : 4 * nI r + nI c = nI (4 * r + c) := by
  show nI 4 * nI r + nI c = _
  rw [pk_mul, nI_add]
theorem ix_16 (b r : Nat) : 16 * nI b + nI r = nI (16 * b + r) := by
  show nI 16 * nI b + nI r = _
  rw [pk_mul, nI_add]
theorem ix_64 (b r : Nat) : 64 * nI b + nI r = nI (64 * b + r) := by
  show nI 64 * nI b + nI r = _
  rw [pk_mul, nI_add]
theorem ix_m4 (r : Nat) : nI r * 4 = nI (4 * r) := by
  show nI r * nI 4 = _
  rw [pk_mul, Nat.mul_comm]
end
section
/-! Worlds as partial maps, one judgement for a body, one form of contract. -/
abbrev Ct : Type := (Nat × (Nat → Int32)) ⊕ (Nat × (Nat → Int64)) ⊕ (Nat × (Nat → Option Nat)) ⊕ (Nat × List Value) ⊕ Cell
abbrev Wd : Type := Nat → Option Ct
abbrev cI (n : Nat) (f : Nat → Int32) : Ct := .inl (n, f)
abbrev cJ (n : Nat) (f : Nat → Int64) : Ct := .inr (.inl (n, f))
abbrev cR (n : Nat) (f : Nat → Option Nat) : Ct := .inr (.inr (.inl (n, f)))
abbrev cO (k : Nat) (fs : List Value) : Ct := .inr (.inr (.inr (.inl (k, fs))))
abbrev cX (c : Cell) : Ct := .inr (.inr (.inr (.inr c)))
/-- the launch; the numbers of the tables' classes and slots; the three kinds of arrays -/
abbrev Gl : Type := Launch × va_G × ClassId × ClassId × ClassId
def fw_tys (g : Gl) : List (ClassId × FieldType) := [(g.2.2.1, .int), (g.2.2.2.1, .long), (g.2.2.2.2, .object "DeltaViews$View")]
def fw_at (g : Gl) (a : Nat) (e : Ct) (H : Heap) : Prop := match e with
  | .inl x => H[a]? = some (vp_cell g.2.2.1 (x.1, .inl x.2))
  | .inr (.inl x) => H[a]? = some (vp_cell g.2.2.2.1 (x.1, .inr (.inl x.2)))
  | .inr (.inr (.inl x)) => H[a]? = some (vp_cell g.2.2.2.2 (x.1, .inr (.inr (.inr (.inr x.2)))))
  | .inr (.inr (.inr (.inl o))) => ∃ r : vw_C, vwCl[o.1]? = some r ∧ t_OB a (g.2.1.1 o.1) r.2.2 (g.2.1.2 o.1) H (vp_V o.2)
  | .inr (.inr (.inr (.inr c))) => H[a]? = some c
theorem fw_at.kept {g : Gl} {a : Nat} {e : Ct} {H H1 : Heap} (h : fw_at g a e H) (hq : H1[a]? = H[a]?) : fw_at g a e H1 := by
  match e, h with
  | .inl x, h => exact hq.trans h
  | .inr (.inl x), h => exact hq.trans h
  | .inr (.inr (.inl x)), h => exact hq.trans h
  | .inr (.inr (.inr (.inl o))), h =>
    obtain ⟨r, h1, h2⟩ := h
    exact ⟨r, h1, h2.kept hq⟩
  | .inr (.inr (.inr (.inr c))), h => exact hq.trans h
theorem fw_at.cell {g : Gl} {a : Nat} {e : Ct} {H : Heap} (h : fw_at g a e H) : ∃ c : Cell, H[a]? = some c := by
  match e, h with
  | .inl x, h => exact ⟨_, h⟩
  | .inr (.inl x), h => exact ⟨_, h⟩
  | .inr (.inr (.inl x)), h => exact ⟨_, h⟩
  | .inr (.inr (.inr (.inl o))), h =>
    obtain ⟨r, h1, cell, h2, -⟩ := h
    exact ⟨_, h2⟩
  | .inr (.inr (.inr (.inr c))), h => exact ⟨_, h⟩
theorem fw_at.lt {g : Gl} {a : Nat} {e : Ct} {H : Heap} (h : fw_at g a e H) : a < H.size := by
  obtain ⟨c, hc⟩ := h.cell
  exact (Array.getElem?_eq_some_iff.mp hc).1
def fw_H (g : Gl) (w : Wd) (H : Heap) : Prop := ∀ a e, w a = some e → fw_at g a e H
def fw_up (w : Wd) (a : Nat) (e : Ct) : Wd := fun q => if q = a then some e else w q
theorem fw_up_s (w : Wd) (a : Nat) (e : Ct) : fw_up w a e a = some e := by simp [fw_up]
theorem fw_up_n (w : Wd) {a q : Nat} (e : Ct) (h : q ≠ a) : fw_up w a e q = w q := by simp [fw_up, h]
theorem fw_H.set {g : Gl} {w : Wd} {H H1 : Heap} {a : Nat} {e : Ct} (h : fw_H g w H) (ha : fw_at g a e H1) (hq : ∀ q : Nat, q ≠ a → H1[q]? = H[q]?) : fw_H g (fw_up w a e) H1 := by
  intro q e' he
  by_cases hqa : q = a
  · subst hqa
    rw [fw_up_s] at he
    rw [← Option.some.inj he]
    exact ha
  · rw [fw_up_n _ _ hqa] at he
    exact (h q e' he).kept (hq q hqa)
theorem fw_H.born {g : Gl} {w : Wd} {H H1 : Heap} {e : Ct} (h : fw_H g w H) (ha : fw_at g H.size e H1) (hq : ∀ q : Nat, q < H.size → H1[q]? = H[q]?) : fw_H g (fw_up w H.size e) H1 := by
  intro q e' he
  by_cases hqa : q = H.size
  · subst hqa
    rw [fw_up_s] at he
    rw [← Option.some.inj he]
    exact ha
  · rw [fw_up_n _ _ hqa] at he
    have := h q e' he
    exact this.kept (hq q this.lt)
def fw_raw : Ct → Bool
  | .inr (.inr (.inr (.inr _))) => true
  | _ => false
/-- what a body may write: what its world holds and isn't raw, and what is made later -/
def fw_fr (w : Wd) (sz q : Nat) : Prop := (∃ e, w q = some e ∧ fw_raw e = false) ∨ sz ≤ q
def fw_ext (w : Wd) (sz : Nat) (w' : Wd) (sz' : Nat) : Prop := sz ≤ sz' ∧ ∀ q, fw_fr w' sz' q → fw_fr w sz q
theorem fw_ext.rf {w : Wd} {sz : Nat} : fw_ext w sz w sz := ⟨Nat.le_refl _, fun _ h => h⟩
theorem fw_ext.tr {w w' w2 : Wd} {sz sz' sz2 : Nat} (h : fw_ext w sz w' sz') (k : fw_ext w' sz' w2 sz2) : fw_ext w sz w2 sz2 := ⟨Nat.le_trans h.1 k.1, fun q z => h.2 q (k.2 q z)⟩
theorem fw_ext.up {w : Wd} {sz a : Nat} {e0 e : Ct} (ha : w a = some e0) (hr : fw_raw e0 = false) : fw_ext w sz (fw_up w a e) sz := by
  refine ⟨Nat.le_refl _, fun q h => ?_⟩
  rcases h with ⟨e1, h1, h2⟩ | h
  · by_cases hqa : q = a
    · subst hqa
      exact Or.inl ⟨e0, ha, hr⟩
    · rw [fw_up_n _ _ hqa] at h1
      exact Or.inl ⟨e1, h1, h2⟩
  · exact Or.inr h
theorem fw_ext.new {w : Wd} {sz : Nat} {e : Ct} : fw_ext w sz (fw_up w sz e) (sz + 1) := by
  refine ⟨Nat.le_succ _, fun q h => ?_⟩
  rcases h with ⟨e1, h1, h2⟩ | h
  · by_cases hqa : q = sz
    · subst hqa
      exact Or.inr (Nat.le_refl _)
    · rw [fw_up_n _ _ hqa] at h1
      exact Or.inl ⟨e1, h1, h2⟩
  · exact Or.inr (by omega)
/-! The tables' words, all at once; a method; a body's context. -/
/-- a method: its name, bytes, locals, answer, handlers -/
abbrev Mi : Type := MethodName × ByteArray × Nat × Option FieldType × List (Nat × Nat × Nat × Nat)
def fw_word (M : Mi) : Cond := match M.2.2.2.2 with
  | [] => .code M.1 M.2.1 M.2.2.1 M.2.2.2.1
  | h :: t => .codeWith M.1 M.2.1 M.2.2.1 M.2.2.2.1 (h :: t)
def fw_code (M : Mi) (meth : Method) (c : Code) : Prop := c.code = M.2.1 ∧ c.maxLocals = M.2.2.1 ∧ c.exceptionTable.toList.map (fun h => (h.startPc, h.endPc, h.handlerPc, h.catchType)) = M.2.2.2.2 ∧ meth.sig.returnType = M.2.2.2.1 ∧ meth.locks = false
theorem fw_word_spec {M : Mi} {s : State} {args : Array Value} {m : MethodId} (hn : s.methodNamed? M.1 = some m) (h : (fw_word M).before args s = true) :
    ∃ meth c, s.vm.method? m = some meth ∧ meth.code = some c ∧ fw_code M meth c ∧ parseMethodDescriptor M.1.desc = some meth.sig := by
  obtain ⟨y, b, n, r, hh⟩ := M
  cases hh with
  | nil =>
    obtain ⟨meth, c, h1, h2, h3, h4, h5, h6, h7, h8⟩ := Cond.code_spec hn h
    refine ⟨meth, c, h1, h2, ⟨h3, h4, ?_, h5, h6⟩, h8⟩
    have e : c.exceptionTable = #[] := by simpa using h7
    rw [e]; rfl
  | cons x t =>
    obtain ⟨m9, meth, c, hn9, h1, h2, h3, h4, h5, h6, h7, h8⟩ := Cond.codeWith_spec h
    cases hn.symm.trans hn9
    exact ⟨meth, c, h1, h2, ⟨h3, h4, h5, h6, h7⟩, h8⟩
def fw_T (U : State) : Prop := ∀ c ∈ fw_big, c.before #[] U = true
def fw_K (g : Gl) (U : State) : Prop := va_K g.2.1 vwCl (fw_tys g) U ∧ fw_T U
/-- where a static of Throwable lies, and that it holds null or some reference -/
def fw_st (n d : String) (U : State) (H : Heap) : Prop := ∃ (c : ClassId) (k : Class) (i : Nat) (f : Field) (a : Nat) (cell : Cell) (v : Value), U.vm.findClass Bundle.tN = some c ∧ U.fieldFound? Bundle.tN n d = some (c, k, i, f) ∧ f.isStatic = true ∧ k.statics = some a ∧ H[a]? = some cell ∧ cell.vm.isStatics = true ∧ cell.cls = c ∧ f.slot < cell.slots.size ∧ k.staticTypes[f.slot]? = some f.type ∧ cell.slots[f.slot]? = some v ∧ v.isRef = true
/-- what throwing asks of a state -/
def fw_X (g : Gl) (U : State) : Prop := g.1.flags = Jvm.pinnedFlags ++ [Jvm.noTraceFlag] ∧ fw_st "UNASSIGNED_STACK" Bundle.steD U U.heap ∧ fw_st "SUPPRESSED_SENTINEL" Bundle.listD U U.heap ∧ ∀ (i : Nat) (tx : String), Cond.stringRef "DeltaViews" i tx ∈ tables_1 → ∃ a, vk_R "DeltaViews" i tx a U
def fw_rm (d mc ms : Nat) : Room := { frames := d, cells := mc, slots := ms, locals := 39 * d }
/-- how a method ends: with an answer, or with an object thrown, of the kind that a number names -/
abbrev Rs : Type := Option Value ⊕ Nat
def fw_out (r : Rs) (o : Outcome) (sz : Nat) (t : State) : Prop := match r with
  | .inl v => o = .returned v
  | .inr k => ∃ (x : Addr) (cell : Cell), o = .threw x ∧ sz ≤ x ∧ t.heap[x]? = some cell ∧ cell.vm = .none ∧ t.vm.findClass (fw_ex k) = some cell.cls
def fw_Q (g : Gl) (w : Wd) (sz mc ms : Nat) (E : Rs → Wd → Nat → Prop) (st : State) (o : Outcome) (t : State) : Prop :=
  (∃ (r : Rs) (w' : Wd), fw_out r o sz t ∧ fw_H g w' t.heap ∧ fw_ext w sz w' t.heap.size ∧ E r w' t.heap.size) ∧
    ∃ L : List Loc, st.WarmedH t.vm ∧ st.sameButNew ({ t with vm := st.vm } : State) L mc ms ∧ ∀ q ∈ L, fw_fr w sz q.base
/-- the contract of a method at these arguments, from this world, at depth d, with so many cells and slots -/
def CT (g : Gl) (d mc ms : Nat) (M : Mi) (as : List Value) (w : Wd) (sz : Nat) (E : Rs → Wd → Nat → Prop) : Prop :=
  MetFree g.1 M.1 (headSpec [fw_word M] (fw_rm d mc ms)) (fun v U => v = as.toArray ∧ U.heap.size = sz ∧ fw_H g w U.heap ∧ fw_K g U ∧ fw_X g U) (fun _ _ _ _ _ => True) (fun _ st o t => fw_Q g w sz mc ms E st o t)
def fw_Cx (g : Gl) (M : Mi) (w0 : Wd) (sz0 : Nat) (p : Program) (s : State) (m : MethodId) (meth : Method) (c : Code) : Prop :=
  p.tables.exec = Jvm.exec ∧ fw_code M meth c ∧ s.methodNamed? M.1 = some m ∧ s.vm.method? m = some meth ∧ fw_K g s ∧ s.heap.size = sz0 ∧ fw_H g w0 s.heap ∧ fw_X g s
def fw_E (g : Gl) (w0 : Wd) (sz0 mc ms : Nat) (E : Rs → Wd → Nat → Prop) (below : List Frame) (s t : State) : Prop := ∃ o, t.status = .running ∧ Ended t below o ∧ fw_Q g w0 sz0 mc ms E s o t
/-- a body at pc, with these locals, this stack and this world, comes to an end of E -/
def VV (g : Gl) (d mc ms : Nat) (M : Mi) (w0 : Wd) (sz0 : Nat) (E : Rs → Wd → Nat → Prop) (pc : Nat) (L : List (Nat × Value)) (S : List Value) (w : Wd) (sz nc ns : Nat) : Prop :=
  ∀ (p : Program) (e : Env) (s : State) (m : MethodId) (args : Array Value) (below : List Frame) (meth : Method) (c : Code) (H : Heap) (locs : List Loc) (ls : Array Slot),
    fw_Cx g M w0 sz0 p s m meth c → fw_H g w H → H.size = sz → fw_ext w0 sz0 w sz → (∀ q ∈ locs, fw_fr w0 sz0 q.base) → lv_has ls M.2.2.1 L →
    W p g.1 e (fw_rm d mc ms) s m args below meth c H locs nc ns (fw_E g w0 sz0 mc ms E below s) (F0 m pc ls S)
section FW
variable {g : Gl} {d mc ms : Nat} {M : Mi} {w0 : Wd} {sz0 : Nat} {E : Rs → Wd → Nat → Prop} {pc : Nat} {L : List (Nat × Value)} {S : List Value} {w : Wd} {sz nc ns : Nat}
theorem fw_mono {p : Program} {l : Launch} {e : Env} {R : Room} {s : State} {m : MethodId} {args : Array Value} {below : List Frame} {meth : Method} {c : Code} {H : Heap} {locs : List Loc} {cells slots : Nat} {Q Q' : State → Prop} {f : JFrame} (h : ∀ t, Q t → Q' t)
    (k : W p l e R s m args below meth c H locs cells slots Q f) : W p l e R s m args below meth c H locs cells slots Q' f := by
  intro T hT X
  obtain ⟨t, a, b⟩ := k T hT X
  exact ⟨t, a, h t b⟩
/-- a step that leaves locals and world alone -/
theorem vv_s {pc' : Nat} {S' : List Value}
    (h : ∀ {p : Program} {e : Env} {s : State} {m : MethodId} {args : Array Value} {below : List Frame} {meth : Method} {c : Code} {H : Heap} {locs : List Loc} {ls : Array Slot} {Q : State → Prop}, p.tables.exec = Jvm.exec → c.code = M.2.1 →
      W p g.1 e (fw_rm d mc ms) s m args below meth c H locs nc ns Q (F0 m pc' ls S') → W p g.1 e (fw_rm d mc ms) s m args below meth c H locs nc ns Q (F0 m pc ls S))
    (k : VV g d mc ms M w0 sz0 E pc' L S' w sz nc ns) : VV g d mc ms M w0 sz0 E pc L S w sz nc ns :=
  fun p e s m args below meth c H locs ls hC hH hz hx hl hL => h hC.1 hC.2.1.1 (k p e s m args below meth c H locs ls hC hH hz hx hl hL)
/-- a step that reads locals -/
theorem vv_l {pc' : Nat} {S' : List Value}
    (h : ∀ {p : Program} {e : Env} {s : State} {m : MethodId} {args : Array Value} {below : List Frame} {meth : Method} {c : Code} {H : Heap} {locs : List Loc} {ls : Array Slot} {Q : State → Prop}, lv_has ls M.2.2.1 L → p.tables.exec = Jvm.exec → c.code = M.2.1 →
      W p g.1 e (fw_rm d mc ms) s m args below meth c H locs nc ns Q (F0 m pc' ls S') → W p g.1 e (fw_rm d mc ms) s m args below meth c H locs nc ns Q (F0 m pc ls S))
    (k : VV g d mc ms M w0 sz0 E pc' L S' w sz nc ns) : VV g d mc ms M w0 sz0 E pc L S w sz nc ns :=
  fun p e s m args below meth c H locs ls hC hH hz hx hl hL => h hL hC.1 hC.2.1.1 (k p e s m args below meth c H locs ls hC hH hz hx hl hL)
/-- a step that writes locals -/
theorem vv_t {pc' : Nat} {L' : List (Nat × Value)} {S' : List Value}
    (h : ∀ {p : Program} {e : Env} {s : State} {m : MethodId} {args : Array Value} {below : List Frame} {meth : Method} {c : Code} {H : Heap} {locs : List Loc} {ls : Array Slot} {Q : State → Prop}, lv_has ls M.2.2.1 L → p.tables.exec = Jvm.exec → c.code = M.2.1 →
      (∀ ls', lv_has ls' M.2.2.1 L' → W p g.1 e (fw_rm d mc ms) s m args below meth c H locs nc ns Q (F0 m pc' ls' S')) → W p g.1 e (fw_rm d mc ms) s m args below meth c H locs nc ns Q (F0 m pc ls S))
    (k : VV g d mc ms M w0 sz0 E pc' L' S' w sz nc ns) : VV g d mc ms M w0 sz0 E pc L S w sz nc ns :=
  fun p e s m args below meth c H locs ls hC hH hz hx hl hL => h hL hC.1 hC.2.1.1 (fun ls' hL' => k p e s m args below meth c H locs ls' hC hH hz hx hl hL')
end FW
end
section
section RU
variable {g : Gl} {d mc ms : Nat} {M : Mi} {w0 : Wd} {sz0 : Nat} {E : Rs → Wd → Nat → Prop} {pc : Nat} {L : List (Nat × Value)} {S : List Value} {w : Wd} {sz nc ns : Nat}
theorem fw_lk {L : List (Nat × Value)} {i : Nat} {v : Value} (h : L.lookup i = some v) : (i, v) ∈ L := by
  induction L with
  | nil => simp at h
  | cons q t ih =>
    obtain ⟨j, u⟩ := q
    rw [List.lookup_cons] at h
    split at h
    · rename_i hij
      have e1 : i = j := by simpa using hij
      have e2 : u = v := Option.some.inj h
      rw [e1, e2]
      exact List.mem_cons_self
    · exact List.mem_cons_of_mem _ (ih h)
theorem fw_lv {ls : Array Slot} {n : Nat} {L : List (Nat × Value)} {i : Nat} {v : Value} (hl : lv_has ls n L) (h : L.lookup i = some v) : ls[i]? = some (.val v) := hl.2.2 (i, v) (fw_lk h)
/-- two ways on -/
theorem vv_b {P P' : Prop} {pc1 pc2 : Nat} {S1 S2 : List Value}
    (h : ∀ {p : Program} {e : Env} {s : State} {m : MethodId} {args : Array Value} {below : List Frame} {meth : Method} {c : Code} {H : Heap} {locs : List Loc} {ls : Array Slot} {Q : State → Prop}, p.tables.exec = Jvm.exec → c.code = M.2.1 →
      (P → W p g.1 e (fw_rm d mc ms) s m args below meth c H locs nc ns Q (F0 m pc1 ls S1)) → (P' → W p g.1 e (fw_rm d mc ms) s m args below meth c H locs nc ns Q (F0 m pc2 ls S2)) → W p g.1 e (fw_rm d mc ms) s m args below meth c H locs nc ns Q (F0 m pc ls S))
    (k1 : P → VV g d mc ms M w0 sz0 E pc1 L S1 w sz nc ns) (k2 : P' → VV g d mc ms M w0 sz0 E pc2 L S2 w sz nc ns) : VV g d mc ms M w0 sz0 E pc L S w sz nc ns :=
  fun p e s m args below meth c H locs ls hC hH hz hx hl hL => h hC.1 hC.2.1.1 (fun q => k1 q p e s m args below meth c H locs ls hC hH hz hx hl hL) (fun q => k2 q p e s m args below meth c H locs ls hC hH hz hx hl hL)
/-- the top of the stack by a name -/
theorem v_topi {x : Int32} (k : ∀ y : Int32, y = x → VV g d mc ms M w0 sz0 E pc L (.int y :: S) w sz nc ns) : VV g d mc ms M w0 sz0 E pc L (.int x :: S) w sz nc ns := k x rfl
theorem v_topl {x : Int64} (k : ∀ y : Int64, y = x → VV g d mc ms M w0 sz0 E pc L (.long y :: S) w sz nc ns) : VV g d mc ms M w0 sz0 E pc L (.long x :: S) w sz nc ns := k x rfl
theorem v_eq {pc' : Nat} {L' : List (Nat × Value)} {S' : List Value} (h1 : pc' = pc) (h2 : L' = L) (h3 : S' = S) (k : VV g d mc ms M w0 sz0 E pc' L' S' w sz nc ns) : VV g d mc ms M w0 sz0 E pc L S w sz nc ns := by subst h1; subst h2; subst h3; exact k
/-- fewer locals -/
theorem v_sub {L' : List (Nat × Value)} (h : ∀ q ∈ L', q ∈ L) (k : VV g d mc ms M w0 sz0 E pc L' S w sz nc ns) : VV g d mc ms M w0 sz0 E pc L S w sz nc ns :=
  fun p e s m args below meth c H locs ls hC hH hz hx hl hL => k p e s m args below meth c H locs ls hC hH hz hx hl ⟨hL.1, hL.2.1, fun q hq => hL.2.2 q (h q hq)⟩
theorem v_iconst {n : Int} {v : Int32} (hd : decode M.2.1 pc = .ok (.iconst n, 1)) (hv : Int32.ofInt n = v) (k : VV g d mc ms M w0 sz0 E (pc + 1) L (.int v :: S) w sz nc ns) : VV g d mc ms M w0 sz0 E (pc) L (S) w sz nc ns := vv_s (fun hx hb k => lv_iconst hx hb hd hv k) k
theorem v_bipush {n : Int} {v : Int32} (hd : decode M.2.1 pc = .ok (.bipush n, 2)) (hv : (Int8.ofInt n).toInt32 = v) (k : VV g d mc ms M w0 sz0 E (pc + 2) L (.int v :: S) w sz nc ns) : VV g d mc ms M w0 sz0 E (pc) L (S) w sz nc ns := vv_s (fun hx hb k => lv_bipush hx hb hd hv k) k
theorem v_sipush {n : Int} {v : Int32} (hd : decode M.2.1 pc = .ok (.sipush n, 3)) (hv : (Int16.ofInt n).toInt32 = v) (k : VV g d mc ms M w0 sz0 E (pc + 3) L (.int v :: S) w sz nc ns) : VV g d mc ms M w0 sz0 E (pc) L (S) w sz nc ns := vv_s (fun hx hb k => lv_sipush hx hb hd hv k) k
theorem v_lconst {n : Fin 2} {v : Int64} (hd : decode M.2.1 pc = .ok (.lconst n, 1)) (hv : Int64.ofNat (n : Nat) = v) (k : VV g d mc ms M w0 sz0 E (pc + 1) L (.long v :: S) w sz nc ns) : VV g d mc ms M w0 sz0 E (pc) L (S) w sz nc ns := vv_s (fun hx hb k => lv_lconst hx hb hd hv k) k
theorem v_iadd {x y : Int32} (hd : decode M.2.1 pc = .ok (.iadd, 1)) (k : VV g d mc ms M w0 sz0 E (pc + 1) L (.int (x + y) :: S) w sz nc ns) : VV g d mc ms M w0 sz0 E (pc) L (.int y :: .int x :: S) w sz nc ns := vv_s (fun hx hb k => lv_iadd hx hb hd k) k
theorem v_isub {x y : Int32} (hd : decode M.2.1 pc = .ok (.isub, 1)) (k : VV g d mc ms M w0 sz0 E (pc + 1) L (.int (x - y) :: S) w sz nc ns) : VV g d mc ms M w0 sz0 E (pc) L (.int y :: .int x :: S) w sz nc ns := vv_s (fun hx hb k => lv_isub hx hb hd k) k
theorem v_imul {x y : Int32} (hd : decode M.2.1 pc = .ok (.imul, 1)) (k : VV g d mc ms M w0 sz0 E (pc + 1) L (.int (x * y) :: S) w sz nc ns) : VV g d mc ms M w0 sz0 E (pc) L (.int y :: .int x :: S) w sz nc ns := vv_s (fun hx hb k => lv_imul hx hb hd k) k
theorem v_iand {x y : Int32} (hd : decode M.2.1 pc = .ok (.iand, 1)) (k : VV g d mc ms M w0 sz0 E (pc + 1) L (.int (x &&& y) :: S) w sz nc ns) : VV g d mc ms M w0 sz0 E (pc) L (.int y :: .int x :: S) w sz nc ns := vv_s (fun hx hb k => lv_iand hx hb hd k) k
theorem v_ineg {x : Int32} (hd : decode M.2.1 pc = .ok (.ineg, 1)) (k : VV g d mc ms M w0 sz0 E (pc + 1) L (.int (-x) :: S) w sz nc ns) : VV g d mc ms M w0 sz0 E (pc) L (.int x :: S) w sz nc ns := vv_s (fun hx hb k => lv_ineg hx hb hd k) k
theorem v_ishr {x y : Int32} (hd : decode M.2.1 pc = .ok (.ishr, 1)) (k : VV g d mc ms M w0 sz0 E (pc + 1) L (.int (x >>> (y &&& 31)) :: S) w sz nc ns) : VV g d mc ms M w0 sz0 E (pc) L (.int y :: .int x :: S) w sz nc ns := vv_s (fun hx hb k => lv_ishr hx hb hd k) k
theorem v_ishl {x y : Int32} (hd : decode M.2.1 pc = .ok (.ishl, 1)) (k : VV g d mc ms M w0 sz0 E (pc + 1) L (.int (x <<< (y &&& 31)) :: S) w sz nc ns) : VV g d mc ms M w0 sz0 E (pc) L (.int y :: .int x :: S) w sz nc ns := vv_s (fun hx hb k => lv_ishl hx hb hd k) k
theorem v_ladd {x y : Int64} (hd : decode M.2.1 pc = .ok (.ladd, 1)) (k : VV g d mc ms M w0 sz0 E (pc + 1) L (.long (x + y) :: S) w sz nc ns) : VV g d mc ms M w0 sz0 E (pc) L (.long y :: .long x :: S) w sz nc ns := vv_s (fun hx hb k => lv_ladd hx hb hd k) k
theorem v_lsub {x y : Int64} (hd : decode M.2.1 pc = .ok (.lsub, 1)) (k : VV g d mc ms M w0 sz0 E (pc + 1) L (.long (x - y) :: S) w sz nc ns) : VV g d mc ms M w0 sz0 E (pc) L (.long y :: .long x :: S) w sz nc ns := vv_s (fun hx hb k => lv_lsub hx hb hd k) k
theorem v_lmul {x y : Int64} (hd : decode M.2.1 pc = .ok (.lmul, 1)) (k : VV g d mc ms M w0 sz0 E (pc + 1) L (.long (x * y) :: S) w sz nc ns) : VV g d mc ms M w0 sz0 E (pc) L (.long y :: .long x :: S) w sz nc ns := vv_s (fun hx hb k => lv_lmul hx hb hd k) k
theorem v_i2l {x : Int32} (hd : decode M.2.1 pc = .ok (.i2l, 1)) (k : VV g d mc ms M w0 sz0 E (pc + 1) L (.long x.toInt64 :: S) w sz nc ns) : VV g d mc ms M w0 sz0 E (pc) L (.int x :: S) w sz nc ns := vv_s (fun hx hb k => lv_i2l hx hb hd rfl k) k
theorem v_l2i {x : Int64} (hd : decode M.2.1 pc = .ok (.l2i, 1)) (k : VV g d mc ms M w0 sz0 E (pc + 1) L (.int x.toInt32 :: S) w sz nc ns) : VV g d mc ms M w0 sz0 E (pc) L (.long x :: S) w sz nc ns := vv_s (fun hx hb k => lv_l2i hx hb hd rfl k) k
theorem v_dup {u : Value} (hd : decode M.2.1 pc = .ok (.dup, 1)) (hu : u.category = 1) (k : VV g d mc ms M w0 sz0 E (pc + 1) L (u :: u :: S) w sz nc ns) : VV g d mc ms M w0 sz0 E (pc) L (u :: S) w sz nc ns := vv_s (fun hx hb k => lv_dup hx hb hd hu k) k
theorem v_pop {u : Value} (hd : decode M.2.1 pc = .ok (.pop, 1)) (hu : u.category = 1) (k : VV g d mc ms M w0 sz0 E (pc + 1) L (S) w sz nc ns) : VV g d mc ms M w0 sz0 E (pc) L (u :: S) w sz nc ns := vv_s (fun hx hb k => lv_pop hx hb hd hu k) k
theorem v_dup_x1 {u v : Value} (hd : decode M.2.1 pc = .ok (.dup_x1, 1)) (hu : u.category = 1) (hv : v.category = 1) (k : VV g d mc ms M w0 sz0 E (pc + 1) L (u :: v :: u :: S) w sz nc ns) : VV g d mc ms M w0 sz0 E (pc) L (u :: v :: S) w sz nc ns := vv_s (fun hx hb k => lv_dup_x1 hx hb hd hu hv k) k
theorem v_dup2 {u v : Value} (hd : decode M.2.1 pc = .ok (.dup2, 1)) (hu : u.category = 1) (hv : v.category = 1) (k : VV g d mc ms M w0 sz0 E (pc + 1) L (u :: v :: u :: v :: S) w sz nc ns) : VV g d mc ms M w0 sz0 E (pc) L (u :: v :: S) w sz nc ns := vv_s (fun hx hb k => lv_dup2_11 hx hb hd hu hv k) k
theorem v_goto {off : Int} {tgt : Nat} (hd : decode M.2.1 pc = .ok (.goto off, 3)) (ht : (pc : Int) + off = (tgt : Int)) (k : VV g d mc ms M w0 sz0 E (tgt) L (S) w sz nc ns) : VV g d mc ms M w0 sz0 E (pc) L (S) w sz nc ns := vv_s (fun hx hb k => lv_goto hx hb hd ht k) k
theorem v_iload_n {k0 : Fin 4} {i : Nat} {x : Int32} (hd : decode M.2.1 pc = .ok (.iload_n k0, 1)) (hi : (k0 : Nat) = i) (hl : L.lookup i = some (.int x)) (k : VV g d mc ms M w0 sz0 E (pc + 1) L (.int x :: S) w sz nc ns) : VV g d mc ms M w0 sz0 E (pc) L (S) w sz nc ns := vv_l (fun hL hx hb k => lv_iload_n hx hb hd hi (fw_lv hL hl) k) k
theorem v_iload {i : Nat} {x : Int32} (hd : decode M.2.1 pc = .ok (.iload i, 2)) (hl : L.lookup i = some (.int x)) (k : VV g d mc ms M w0 sz0 E (pc + 2) L (.int x :: S) w sz nc ns) : VV g d mc ms M w0 sz0 E (pc) L (S) w sz nc ns := vv_l (fun hL hx hb k => lv_iload hx hb hd (fw_lv hL hl) k) k
theorem v_lload_n {k0 : Fin 4} {i : Nat} {x : Int64} (hd : decode M.2.1 pc = .ok (.lload_n k0, 1)) (hi : (k0 : Nat) = i) (hl : L.lookup i = some (.long x)) (k : VV g d mc ms M w0 sz0 E (pc + 1) L (.long x :: S) w sz nc ns) : VV g d mc ms M w0 sz0 E (pc) L (S) w sz nc ns := vv_l (fun hL hx hb k => lv_lload_n hx hb hd hi (fw_lv hL hl) k) k
theorem v_lload {i : Nat} {x : Int64} (hd : decode M.2.1 pc = .ok (.lload i, 2)) (hl : L.lookup i = some (.long x)) (k : VV g d mc ms M w0 sz0 E (pc + 2) L (.long x :: S) w sz nc ns) : VV g d mc ms M w0 sz0 E (pc) L (S) w sz nc ns := vv_l (fun hL hx hb k => lv_lload hx hb hd (fw_lv hL hl) k) k
theorem v_aload_n {k0 : Fin 4} {i : Nat} {x : Nat} (hd : decode M.2.1 pc = .ok (.aload_n k0, 1)) (hi : (k0 : Nat) = i) (hl : L.lookup i = some (.ref x)) (k : VV g d mc ms M w0 sz0 E (pc + 1) L (.ref x :: S) w sz nc ns) : VV g d mc ms M w0 sz0 E (pc) L (S) w sz nc ns := vv_l (fun hL hx hb k => lv_aload_n hx hb hd hi (fw_lv hL hl) k) k
theorem v_aload {i : Nat} {x : Nat} (hd : decode M.2.1 pc = .ok (.aload i, 2)) (hl : L.lookup i = some (.ref x)) (k : VV g d mc ms M w0 sz0 E (pc + 2) L (.ref x :: S) w sz nc ns) : VV g d mc ms M w0 sz0 E (pc) L (S) w sz nc ns := vv_l (fun hL hx hb k => lv_aload hx hb hd (fw_lv hL hl) k) k
theorem v_istore_n {L' : List (Nat × Value)} {k0 : Fin 4} {i : Nat} {x : Int32} (hd : decode M.2.1 pc = .ok (.istore_n k0, 1)) (hi : (k0 : Nat) = i) (hn : i < M.2.2.1) (hl : (i, Value.int x) :: L.filter (fun q => !(q.1 == i) && !(q.1 + 1 == i && q.2.category == 2)) = L') (k : VV g d mc ms M w0 sz0 E (pc + 1) L' (S) w sz nc ns) : VV g d mc ms M w0 sz0 E (pc) L (.int x :: S) w sz nc ns := vv_t (fun hL hx hb k => lv_istore_n hx hb hd hi hL hn hl k) k
theorem v_istore {L' : List (Nat × Value)} {i : Nat} {x : Int32} (hd : decode M.2.1 pc = .ok (.istore i, 2)) (hn : i < M.2.2.1) (hl : (i, Value.int x) :: L.filter (fun q => !(q.1 == i) && !(q.1 + 1 == i && q.2.category == 2)) = L') (k : VV g d mc ms M w0 sz0 E (pc + 2) L' (S) w sz nc ns) : VV g d mc ms M w0 sz0 E (pc) L (.int x :: S) w sz nc ns := vv_t (fun hL hx hb k => lv_istore hx hb hd hL hn hl k) k
theorem v_lstore_n {L' : List (Nat × Value)} {k0 : Fin 4} {i : Nat} {x : Int64} (hd : decode M.2.1 pc = .ok (.lstore_n k0, 1)) (hi : (k0 : Nat) = i) (hn : i + 1 < M.2.2.1) (hl : (i, Value.long x) :: L.filter (fun q => !(q.1 == i) && (!(q.1 == i + 1) && !(q.1 + 1 == i && q.2.category == 2))) = L') (k : VV g d mc ms M w0 sz0 E (pc + 1) L' (S) w sz nc ns) : VV g d mc ms M w0 sz0 E (pc) L (.long x :: S) w sz nc ns := vv_t (fun hL hx hb k => lv_lstore_n hx hb hd hi hL hn hl k) k
theorem v_lstore {L' : List (Nat × Value)} {i : Nat} {x : Int64} (hd : decode M.2.1 pc = .ok (.lstore i, 2)) (hn : i + 1 < M.2.2.1) (hl : (i, Value.long x) :: L.filter (fun q => !(q.1 == i) && (!(q.1 == i + 1) && !(q.1 + 1 == i && q.2.category == 2))) = L') (k : VV g d mc ms M w0 sz0 E (pc + 2) L' (S) w sz nc ns) : VV g d mc ms M w0 sz0 E (pc) L (.long x :: S) w sz nc ns := vv_t (fun hL hx hb k => lv_lstore hx hb hd hL hn hl k) k
theorem v_astore_n {L' : List (Nat × Value)} {k0 : Fin 4} {i : Nat} {x : Nat} (hd : decode M.2.1 pc = .ok (.astore_n k0, 1)) (hi : (k0 : Nat) = i) (hn : i < M.2.2.1) (hl : (i, Value.ref x) :: L.filter (fun q => !(q.1 == i) && !(q.1 + 1 == i && q.2.category == 2)) = L') (k : VV g d mc ms M w0 sz0 E (pc + 1) L' (S) w sz nc ns) : VV g d mc ms M w0 sz0 E (pc) L (.ref x :: S) w sz nc ns := vv_t (fun hL hx hb k => lv_astore_n hx hb hd hi hL hn hl k) k
theorem v_astore {L' : List (Nat × Value)} {i : Nat} {x : Nat} (hd : decode M.2.1 pc = .ok (.astore i, 2)) (hn : i < M.2.2.1) (hl : (i, Value.ref x) :: L.filter (fun q => !(q.1 == i) && !(q.1 + 1 == i && q.2.category == 2)) = L') (k : VV g d mc ms M w0 sz0 E (pc + 2) L' (S) w sz nc ns) : VV g d mc ms M w0 sz0 E (pc) L (.ref x :: S) w sz nc ns := vv_t (fun hL hx hb k => lv_astore hx hb hd hL hn hl k) k
theorem v_iinc {L' : List (Nat × Value)} {i : Nat} {n : Int} {x v : Int32} (hd : decode M.2.1 pc = .ok (.iinc i n, 3)) (hk : L.lookup i = some (.int x)) (hv : x + Int32.ofInt n = v) (hn : i < M.2.2.1) (hl : (i, Value.int v) :: L.filter (fun q => !(q.1 == i) && !(q.1 + 1 == i && q.2.category == 2)) = L') (k : VV g d mc ms M w0 sz0 E (pc + 3) L' (S) w sz nc ns) : VV g d mc ms M w0 sz0 E (pc) L (S) w sz nc ns := by
  obtain ⟨j, hj⟩ := List.getElem?_of_mem (fw_lk hk)
  exact vv_t (fun hL hx hb k => lv_iinc hx hb hd hL hj hv hn hl k) k
theorem v_if_eq {x : Int32} {off : Int} {tgt : Nat} (hd : decode M.2.1 pc = .ok (.ifCond .eq off, 3)) (ht : (pc : Int) + off = (tgt : Int)) (k1 : x = 0 → VV g d mc ms M w0 sz0 E (tgt) L (S) w sz nc ns) (k2 : ¬ x = 0 → VV g d mc ms M w0 sz0 E (pc + 3) L (S) w sz nc ns) : VV g d mc ms M w0 sz0 E (pc) L (.int x :: S) w sz nc ns := vv_b (fun hx hb k1 k2 => lv_if_eq hx hb hd ht k1 k2) k1 k2
theorem v_if_ne {x : Int32} {off : Int} {tgt : Nat} (hd : decode M.2.1 pc = .ok (.ifCond .ne off, 3)) (ht : (pc : Int) + off = (tgt : Int)) (k1 : ¬ x = 0 → VV g d mc ms M w0 sz0 E (tgt) L (S) w sz nc ns) (k2 : x = 0 → VV g d mc ms M w0 sz0 E (pc + 3) L (S) w sz nc ns) : VV g d mc ms M w0 sz0 E (pc) L (.int x :: S) w sz nc ns := vv_b (fun hx hb k1 k2 => lv_if_ne hx hb hd ht k1 k2) k1 k2
theorem v_if_lt {x : Int32} {off : Int} {tgt : Nat} (hd : decode M.2.1 pc = .ok (.ifCond .lt off, 3)) (ht : (pc : Int) + off = (tgt : Int)) (k1 : x < 0 → VV g d mc ms M w0 sz0 E (tgt) L (S) w sz nc ns) (k2 : ¬ x < 0 → VV g d mc ms M w0 sz0 E (pc + 3) L (S) w sz nc ns) : VV g d mc ms M w0 sz0 E (pc) L (.int x :: S) w sz nc ns := vv_b (fun hx hb k1 k2 => lv_if_lt hx hb hd ht k1 k2) k1 k2
theorem v_if_ge {x : Int32} {off : Int} {tgt : Nat} (hd : decode M.2.1 pc = .ok (.ifCond .ge off, 3)) (ht : (pc : Int) + off = (tgt : Int)) (k1 : 0 ≤ x → VV g d mc ms M w0 sz0 E (tgt) L (S) w sz nc ns) (k2 : ¬ 0 ≤ x → VV g d mc ms M w0 sz0 E (pc + 3) L (S) w sz nc ns) : VV g d mc ms M w0 sz0 E (pc) L (.int x :: S) w sz nc ns := vv_b (fun hx hb k1 k2 => lv_if_ge hx hb hd ht k1 k2) k1 k2
theorem v_if_gt {x : Int32} {off : Int} {tgt : Nat} (hd : decode M.2.1 pc = .ok (.ifCond .gt off, 3)) (ht : (pc : Int) + off = (tgt : Int)) (k1 : 0 < x → VV g d mc ms M w0 sz0 E (tgt) L (S) w sz nc ns) (k2 : ¬ 0 < x → VV g d mc ms M w0 sz0 E (pc + 3) L (S) w sz nc ns) : VV g d mc ms M w0 sz0 E (pc) L (.int x :: S) w sz nc ns := vv_b (fun hx hb k1 k2 => lv_if_gt hx hb hd ht k1 k2) k1 k2
theorem v_if_le {x : Int32} {off : Int} {tgt : Nat} (hd : decode M.2.1 pc = .ok (.ifCond .le off, 3)) (ht : (pc : Int) + off = (tgt : Int)) (k1 : x ≤ 0 → VV g d mc ms M w0 sz0 E (tgt) L (S) w sz nc ns) (k2 : ¬ x ≤ 0 → VV g d mc ms M w0 sz0 E (pc + 3) L (S) w sz nc ns) : VV g d mc ms M w0 sz0 E (pc) L (.int x :: S) w sz nc ns := vv_b (fun hx hb k1 k2 => lv_if_le hx hb hd ht k1 k2) k1 k2
theorem v_icmp_eq {x y : Int32} {off : Int} {tgt : Nat} (hd : decode M.2.1 pc = .ok (.if_icmp .eq off, 3)) (ht : (pc : Int) + off = (tgt : Int)) (k1 : x = y → VV g d mc ms M w0 sz0 E (tgt) L (S) w sz nc ns) (k2 : ¬ x = y → VV g d mc ms M w0 sz0 E (pc + 3) L (S) w sz nc ns) : VV g d mc ms M w0 sz0 E (pc) L (.int y :: .int x :: S) w sz nc ns := vv_b (fun hx hb k1 k2 => lv_icmp_eq hx hb hd ht k1 k2) k1 k2
theorem v_icmp_ne {x y : Int32} {off : Int} {tgt : Nat} (hd : decode M.2.1 pc = .ok (.if_icmp .ne off, 3)) (ht : (pc : Int) + off = (tgt : Int)) (k1 : ¬ x = y → VV g d mc ms M w0 sz0 E (tgt) L (S) w sz nc ns) (k2 : x = y → VV g d mc ms M w0 sz0 E (pc + 3) L (S) w sz nc ns) : VV g d mc ms M w0 sz0 E (pc) L (.int y :: .int x :: S) w sz nc ns := vv_b (fun hx hb k1 k2 => lv_icmp_ne hx hb hd ht k1 k2) k1 k2
theorem v_icmp_lt {x y : Int32} {off : Int} {tgt : Nat} (hd : decode M.2.1 pc = .ok (.if_icmp .lt off, 3)) (ht : (pc : Int) + off = (tgt : Int)) (k1 : x < y → VV g d mc ms M w0 sz0 E (tgt) L (S) w sz nc ns) (k2 : ¬ x < y → VV g d mc ms M w0 sz0 E (pc + 3) L (S) w sz nc ns) : VV g d mc ms M w0 sz0 E (pc) L (.int y :: .int x :: S) w sz nc ns := vv_b (fun hx hb k1 k2 => lv_icmp_lt hx hb hd ht k1 k2) k1 k2
theorem v_icmp_ge {x y : Int32} {off : Int} {tgt : Nat} (hd : decode M.2.1 pc = .ok (.if_icmp .ge off, 3)) (ht : (pc : Int) + off = (tgt : Int)) (k1 : y ≤ x → VV g d mc ms M w0 sz0 E (tgt) L (S) w sz nc ns) (k2 : ¬ y ≤ x → VV g d mc ms M w0 sz0 E (pc + 3) L (S) w sz nc ns) : VV g d mc ms M w0 sz0 E (pc) L (.int y :: .int x :: S) w sz nc ns := vv_b (fun hx hb k1 k2 => lv_icmp_ge hx hb hd ht k1 k2) k1 k2
theorem v_icmp_gt {x y : Int32} {off : Int} {tgt : Nat} (hd : decode M.2.1 pc = .ok (.if_icmp .gt off, 3)) (ht : (pc : Int) + off = (tgt : Int)) (k1 : y < x → VV g d mc ms M w0 sz0 E (tgt) L (S) w sz nc ns) (k2 : ¬ y < x → VV g d mc ms M w0 sz0 E (pc + 3) L (S) w sz nc ns) : VV g d mc ms M w0 sz0 E (pc) L (.int y :: .int x :: S) w sz nc ns := vv_b (fun hx hb k1 k2 => lv_icmp_gt hx hb hd ht k1 k2) k1 k2
theorem v_icmp_le {x y : Int32} {off : Int} {tgt : Nat} (hd : decode M.2.1 pc = .ok (.if_icmp .le off, 3)) (ht : (pc : Int) + off = (tgt : Int)) (k1 : x ≤ y → VV g d mc ms M w0 sz0 E (tgt) L (S) w sz nc ns) (k2 : ¬ x ≤ y → VV g d mc ms M w0 sz0 E (pc + 3) L (S) w sz nc ns) : VV g d mc ms M w0 sz0 E (pc) L (.int y :: .int x :: S) w sz nc ns := vv_b (fun hx hb k1 k2 => lv_icmp_le hx hb hd ht k1 k2) k1 k2
theorem v_lcmp {x y : Int64} (hd : decode M.2.1 pc = .ok (.lcmp, 1)) (k : VV g d mc ms M w0 sz0 E (pc + 1) L (.int (lg_cmp x y) :: S) w sz nc ns) : VV g d mc ms M w0 sz0 E pc L (.long y :: .long x :: S) w sz nc ns := vv_s (fun hx hb k => W.lcmp hx hb hd k) k
end RU
end
section
/-! Rules that read and write the world. -/
section HP
variable {g : Gl} {d mc ms : Nat} {M : Mi} {w0 : Wd} {sz0 : Nat} {E : Rs → Wd → Nat → Prop} {pc : Nat} {L : List (Nat × Value)} {S : List Value} {w : Wd} {sz nc ns : Nat}
theorem fw_K.own {g : Gl} {M : Mi} {w0 : Wd} {sz0 : Nat} {p : Program} {s : State} {m : MethodId} {meth : Method} {c : Code} (h : fw_Cx g M w0 sz0 p s m meth c) : s.vm.findClass M.1.cls = some m.cls := findClass_of_methodNamed h.2.2.1
theorem fw_use {U : State} (h : fw_T U) {c : Cond} (hc : c ∈ fw_big) (ho : c.onTables = true) {A : Array Value} : c.before A U = true := va_tabs ho rfl (h c hc)
/-- a field's link in a method's own tables: the object's table number, the field's place -/
def fw_fl (own : String) (idx ci k : Nat) : Prop := ∃ (C : String) (T : u_T) (N : Nat), vwCl[ci]? = some (C, T, N) ∧ k < N ∧ (∀ x ∈ u_ws C T N, x ∈ fw_big) ∧ (Cond.fieldLink own idx (T k).1 (T k).2.1 (T k).2.2.1 ∈ fw_big ∨ ∃ host, Cond.fieldLinkNest own idx (T k).1 (T k).2.1 (T k).2.2.1 host ∈ fw_big)
theorem fw_lays_on {C : String} {T : u_T} {N : Nat} : ∀ x ∈ u_ws C T N, x.onTables = true := by
  intro x hx
  obtain ⟨k, -, rfl⟩ := List.mem_map.mp hx
  unfold u_lay
  split <;> rfl
theorem v_get {a ci k idx : Nat} {fs : List Value} {v : Value} (hd : decode M.2.1 pc = .ok (.getfield idx, 3)) (hf : fw_fl M.1.cls idx ci k) (ha : w a = some (cO ci fs)) (hv : fs[k]? = some v) (kk : VV g d mc ms M w0 sz0 E (pc + 3) L (v :: S) w sz nc ns) :
    VV g d mc ms M w0 sz0 E pc L (.ref a :: S) w sz nc ns := by
  intro p e s m args below meth c H locs ls hC hH hz hx hl hL
  have k1 := kk p e s m args below meth c H locs ls hC hH hz hx hl hL
  obtain ⟨C, T, N, hc, hk, hws, hlink⟩ := hf
  obtain ⟨r, h1, cell, q1, q2, q3, q4⟩ := hH a _ ha
  have hr : r = (C, T, N) := Option.some.inj (h1.symm.trans hc)
  subst hr
  obtain ⟨hS, hfc, kC, hkC, hkind⟩ := hC.2.2.2.2.1.1.1 ci _ hc
  obtain ⟨cf, kf, fi, f, hi, hsl⟩ := hS k hk
  have hT : ∀ x ∈ u_ws C T N, x.before args s = true := fun x hx => fw_use hC.2.2.2.2.1.2 (hws x hx) (fw_lays_on x hx)
  have hst := (u_facts hfc hkC (u_lays hT (fun _ h => h) hk) hi).1
  have hsv : cell.slots[f.slot]? = some v := by
    rw [hsl, q4 k hk]
    simp [vp_V, hv]
  have hkn : cell.vm ≠ .unknown := by rw [q3]; exact fun h => by cases h
  rcases hlink with hlink | ⟨host, hlink⟩
  · exact W.getf hC.1 hC.2.1.1 (fw_K.own hC) (fw_use hC.2.2.2.2.1.2 hlink rfl) hi hst q1 hkn hsv rfl rfl hd k1
  · exact va_Wgetf hC.1 hC.2.1.1 (fw_K.own hC) (fw_use hC.2.2.2.2.1.2 hlink rfl) hi hst q1 hkn hsv rfl rfl hd k1
/-- what a store of this value into this field asks -/
def fw_ok (ci k : Nat) (v : Value) : Prop := ∃ (C : String) (T : u_T) (N : Nat), vwCl[ci]? = some (C, T, N) ∧ (∀ a, a < N → (parseFieldDescriptor (T a).2.2.1).isSome = true) ∧ (∀ a, a < N → ∀ b, b < N → a ≠ b → (T a).2.1 ≠ (T b).2.1) ∧ ∃ ty, parseFieldDescriptor (T k).2.2.1 = some ty ∧ narrow ty v = v ∧ fits ty v = true
theorem fw_put {g : Gl} {w : Wd} {H H1 : Heap} {a ci k N : Nat} {C : String} {T : u_T} {fs : List Value} {v : Value} {cell : Cell} {slot : Nat} (hH : fw_H g w H) (hc : vwCl[ci]? = some (C, T, N)) (hap : ∀ x y, x < N → y < N → x ≠ y → g.2.1.2 ci x ≠ g.2.1.2 ci y) (hk : k < N) (q2 : cell.cls = g.2.1.1 ci) (q3 : cell.vm = .none) (q4 : ∀ j, j < N → cell.slots[g.2.1.2 ci j]? = some (vp_V fs j)) (hsl : slot = g.2.1.2 ci k) (hl : k < fs.length)
    (e1 : H1[a]? = some (cell.setSlot slot v)) (e3 : ∀ q : Nat, q ≠ a → H1[q]? = H[q]?) : fw_H g (fw_up w a (cO ci (fs.set k v))) H1 := by
  refine hH.set ?_ e3
  rw [hsl] at e1
  exact ⟨_, hc, t_OB.to (V := updV (vp_V fs) k v) ⟨_, e1, q2, q3, t_set q4 hap hk v⟩ (fun j _ => vp_updV_set hl v j)⟩
theorem v_put {a ci k idx : Nat} {fs fs' : List Value} {v : Value} (hd : decode M.2.1 pc = .ok (.putfield idx, 3)) (hf : fw_fl M.1.cls idx ci k) (hfin : ∀ C T N, vwCl[ci]? = some (C, T, N) → (T k).2.2.2 = false ∨ (M.1.name = "<init>" ∧ (T k).1 = M.1.cls ∧ Cond.fieldLink M.1.cls idx (T k).1 (T k).2.1 (T k).2.2.1 ∈ fw_big)) (hok : fw_ok ci k v) (ha : w a = some (cO ci fs)) (hl : k < fs.length) (hfs : fs.set k v = fs')
    (kk : VV g d mc ms M w0 sz0 E (pc + 3) L S (fw_up w a (cO ci fs')) sz nc ns) :
    VV g d mc ms M w0 sz0 E pc L (v :: .ref a :: S) w sz nc ns := by
  subst hfs
  intro p e s m args below meth c H locs ls hC hH hz hx hlc hL
  obtain ⟨C, T, N, hc, hk, hws, hlink⟩ := hf
  obtain ⟨C', T', N', hc', hty, hnm, ty, hd', hn, hfit⟩ := hok
  cases Option.some.inj (hc.symm.trans hc')
  obtain ⟨r, h1, cell, q1, q2, q3, q4⟩ := hH a _ ha
  have hr : r = (C, T, N) := Option.some.inj (h1.symm.trans hc)
  subst hr
  have hK := hC.2.2.2.2.1.1
  obtain ⟨hS, hfc, kC, hkC, hkind⟩ := hK.1 ci _ hc
  obtain ⟨cf, kf, fi, f, hi, hsl⟩ := hS k hk
  have hT : ∀ x ∈ u_ws C T N, x.before args s = true := fun x hx => fw_use hC.2.2.2.2.1.2 (hws x hx) (fw_lays_on x hx)
  have hst := (u_facts hfc hkC (u_lays hT (fun _ h => h) hk) hi).1
  have hap : ∀ x y, x < N → y < N → x ≠ y → g.2.1.2 ci x ≠ g.2.1.2 ci y := by
    have hty' : ∀ a, a < N → parseFieldDescriptor (T a).2.2.1 = some ((parseFieldDescriptor (T a).2.2.1).getD .int) := by
      intro a ha
      have := hty a ha
      cases h9 : parseFieldDescriptor (T a).2.2.1 with
      | none => rw [h9] at this; cases this
      | some z => rfl
    exact va_apart (own := C) hT (fun _ h => h) _ hty' hnm hK hc
  have hlt : f.slot < cell.slots.size := by rw [hsl]; exact k2_hasslot (q4 k hk)
  have go : ∀ H' : Heap, H'[a]? = some (cell.setSlot f.slot v) → H'.size = H.size → (∀ q, q ≠ a → H'[q]? = H[q]?) → W p g.1 e (fw_rm d mc ms) s m args below meth c H' (locs ++ [⟨a, f.slot⟩]) nc ns (fw_E g w0 sz0 mc ms E below s) (F0 m (pc + 3) ls S) := by
    intro H' e1 e2 e3
    refine kk p e s m args below meth c H' _ ls hC (fw_put hH hc hap hk q2 q3 q4 hsl hl e1 e3) (e2.trans hz) (hx.tr (fw_ext.up ha rfl)) ?_ hL
    intro q hq
    rcases List.mem_append.mp hq with h | h
    · exact hlc q h
    · rw [List.mem_singleton.mp h]
      exact hx.2 a (Or.inl ⟨_, ha, rfl⟩)
  have hkn : cell.vm ≠ .unknown := by rw [q3]; exact fun h => by cases h
  have hlay := hT _ (u_in_lay hk)
  rcases hfin C T N hc with hfin | ⟨hin, hdecl, hlk⟩
  · unfold u_lay at hlay
    rw [if_neg (by rw [hfin]; decide)] at hlay
    have h6 := u_store hfc hkC hkind hlay hi hd' hn hfit
    rcases hlink with hlink | ⟨host, hlink⟩
    · exact W.putK hC.1 hC.2.1.1 (f := f) ⟨fw_K.own hC, fw_use hC.2.2.2.2.1.2 hlink rfl, ⟨_, _, _, hi⟩, hst⟩ (by rw [q2]; exact h6) q1 q3 hlt rfl rfl hd go
    · exact va_WputK hC.1 hC.2.1.1 (f := f) (fw_K.own hC) (fw_use hC.2.2.2.2.1.2 hlink rfl) hi hst (by rw [q2]; exact h6) q1 q3 hlt rfl rfl hd go
  · by_cases hfin : (T k).2.2.2 = true
    · unfold u_lay at hlay
      rw [if_pos hfin] at hlay
      have hcf : m.cls = cf := by
        obtain ⟨_, _, c', _, _, _, -, -, hf', -, -, -, hown2, -⟩ := Cond.laysFinal_spec hlay
        have e1 : c' = cf := by have := hi.symm.trans hf'; simp at this; exact this.1.symm
        rw [hdecl] at hown2
        rw [← e1]; exact Option.some.inj ((fw_K.own hC).symm.trans hown2)
      have h6 := u_fits hfc hkC hkind (Or.inr hlay) hi hd' hn hfit
      have hnm2 : meth.name = "<init>" := by rw [← hin]; exact (name_of_methodNamed hC.2.2.1 hC.2.2.2.1).1
      exact W.putFinK hC.1 hC.2.1.1 (fw_K.own hC) (fw_use hC.2.2.2.2.1.2 hlk rfl) hi hst hcf hnm2 (by rw [q2]; exact h6) q1 q3 hlt rfl rfl hd go
    · have hfin : (T k).2.2.2 = false := by simpa using hfin
      unfold u_lay at hlay
      rw [if_neg (by rw [hfin]; decide)] at hlay
      have h6 := u_store hfc hkC hkind hlay hi hd' hn hfit
      exact W.putK hC.1 hC.2.1.1 (f := f) ⟨fw_K.own hC, fw_use hC.2.2.2.2.1.2 hlk rfl, ⟨_, _, _, hi⟩, hst⟩ (by rw [q2]; exact h6) q1 q3 hlt rfl rfl hd go
/-! arrays -/
theorem fw_ti {g : Gl} {s : State} (h : fw_K g s) : ArrOfT s g.2.2.1 .int ∧ va_RA s g.2.2.1 .int := h.1.2 0 _ rfl
theorem fw_tj {g : Gl} {s : State} (h : fw_K g s) : ArrOfT s g.2.2.2.1 .long ∧ va_RA s g.2.2.2.1 .long := h.1.2 1 _ rfl
theorem fw_tr {g : Gl} {s : State} (h : fw_K g s) : ArrOfT s g.2.2.2.2 (.object "DeltaViews$View") ∧ va_RA s g.2.2.2.2 (.object "DeltaViews$View") := h.1.2 2 _ rfl
theorem v_iald {a n : Nat} {f : Nat → Int32} {i : Int32} (hd : decode M.2.1 pc = .ok (.iaload, 1)) (ha : w a = some (cI n f)) (hin : vp_in i n) (kk : VV g d mc ms M w0 sz0 E (pc + 1) L (.int (f i.toNatClampNeg) :: S) w sz nc ns) : VV g d mc ms M w0 sz0 E pc L (.int i :: .ref a :: S) w sz nc ns := by
  intro p e s m args below meth c H locs ls hC hH hz hx hl hL
  have hlt : i.toNatClampNeg < n := Nat.not_le.mp fun q => hin (Or.inr q)
  exact W.iald (v := .int (f i.toNatClampNeg)) hC.1 hC.2.1.1 (hH a _ ha) ((fw_ti hC.2.2.2.2.1).1 n (fun j => .int (f j))) (fun q => by cases q) (by show ¬ (i < 0 ∨ (arrV _ _ _).slots.size ≤ _); rw [arrV_size]; exact hin) (by show (arrV _ _ _).slots[_]? = _; rw [arrV_read _ _ hlt]) rfl rfl hd (kk p e s m args below meth c H locs ls hC hH hz hx hl hL)
theorem v_lald {a n : Nat} {f : Nat → Int64} {i : Int32} (hd : decode M.2.1 pc = .ok (.laload, 1)) (ha : w a = some (cJ n f)) (hin : vp_in i n) (kk : VV g d mc ms M w0 sz0 E (pc + 1) L (.long (f i.toNatClampNeg) :: S) w sz nc ns) : VV g d mc ms M w0 sz0 E pc L (.int i :: .ref a :: S) w sz nc ns := by
  intro p e s m args below meth c H locs ls hC hH hz hx hl hL
  have hlt : i.toNatClampNeg < n := Nat.not_le.mp fun q => hin (Or.inr q)
  exact W.lald (v := .long (f i.toNatClampNeg)) hC.1 hC.2.1.1 (hH a _ ha) ((fw_tj hC.2.2.2.2.1).1 n (fun j => .long (f j))) (fun q => by cases q) (by show ¬ (i < 0 ∨ (arrV _ _ _).slots.size ≤ _); rw [arrV_size]; exact hin) (by show (arrV _ _ _).slots[_]? = _; rw [arrV_read _ _ hlt]) rfl rfl hd (kk p e s m args below meth c H locs ls hC hH hz hx hl hL)
theorem v_aald {a n q : Nat} {f : Nat → Option Nat} {i : Int32} (hd : decode M.2.1 pc = .ok (.aaload, 1)) (ha : w a = some (cR n f)) (hin : vp_in i n) (hq : f i.toNatClampNeg = some q) (kk : VV g d mc ms M w0 sz0 E (pc + 1) L (.ref q :: S) w sz nc ns) : VV g d mc ms M w0 sz0 E pc L (.int i :: .ref a :: S) w sz nc ns := by
  intro p e s m args below meth c H locs ls hC hH hz hx hl hL
  have hlt : i.toNatClampNeg < n := Nat.not_le.mp fun q => hin (Or.inr q)
  exact W.aald (v := .ref q) (ty := .object "DeltaViews$View") hC.1 hC.2.1.1 (hH a _ ha) ((fw_tr hC.2.2.2.2.1).1 n (fun j => va_rf (f j))) rfl (fun q => by cases q) (by show ¬ (i < 0 ∨ (arrV _ _ _).slots.size ≤ _); rw [arrV_size]; exact hin) (by show (arrV _ _ _).slots[_]? = _; rw [arrV_read _ _ hlt]; show some (va_rf (f i.toNatClampNeg)) = _; rw [hq]; rfl) rfl rfl hd (kk p e s m args below meth c H locs ls hC hH hz hx hl hL)
theorem fw_locs {w0 : Wd} {sz0 : Nat} {locs : List Loc} {a i : Nat} (h : ∀ q ∈ locs, fw_fr w0 sz0 q.base) (ha : fw_fr w0 sz0 a) : ∀ q ∈ locs ++ [(⟨a, i⟩ : Loc)], fw_fr w0 sz0 q.base := by
  intro q hq
  rcases List.mem_append.mp hq with h1 | h1
  · exact h q h1
  · rw [List.mem_singleton.mp h1]; exact ha
theorem v_iast {a n : Nat} {f : Nat → Int32} {i x : Int32} (hd : decode M.2.1 pc = .ok (.iastore, 1)) (ha : w a = some (cI n f)) (hin : vp_in i n) (kk : VV g d mc ms M w0 sz0 E (pc + 1) L S (fw_up w a (cI n (upd f i.toNatClampNeg x))) sz nc ns) : VV g d mc ms M w0 sz0 E pc L (.int x :: .int i :: .ref a :: S) w sz nc ns := by
  intro p e s m args below meth c H locs ls hC hH hz hx hl hL
  refine W.iast hC.1 hC.2.1.1 (hH a _ ha) ((fw_ti hC.2.2.2.2.1).1 n (fun j => .int (f j))) (fun q => by cases q) (by show ¬ (i < 0 ∨ (arrV _ _ _).slots.size ≤ _); rw [arrV_size]; exact hin) rfl rfl hd fun H1 e1 z oq => ?_
  refine kk p e s m args below meth c H1 _ ls hC (hH.set ?_ oq) (z.trans hz) (hx.tr (fw_ext.up ha rfl)) (fw_locs hl (hx.2 a (Or.inl ⟨_, ha, rfl⟩))) hL
  show H1[a]? = some (vp_cell _ _)
  rw [e1]
  show some ((vp_cell g.2.2.1 (n, .inl f)).setSlot _ _) = _
  rw [vp_cell_i, vp_cell_i, arrV_store]
  congr 2
  funext q
  by_cases hq : q = i.toNatClampNeg
  · subst hq
    simp [updV, upd]
  · simp [updV, upd, hq]
theorem v_last {a n : Nat} {f : Nat → Int64} {i : Int32} {x : Int64} (hd : decode M.2.1 pc = .ok (.lastore, 1)) (ha : w a = some (cJ n f)) (hin : vp_in i n) (kk : VV g d mc ms M w0 sz0 E (pc + 1) L S (fw_up w a (cJ n (vp_updL f i.toNatClampNeg x))) sz nc ns) : VV g d mc ms M w0 sz0 E pc L (.long x :: .int i :: .ref a :: S) w sz nc ns := by
  intro p e s m args below meth c H locs ls hC hH hz hx hl hL
  refine W.last hC.1 hC.2.1.1 (hH a _ ha) ((fw_tj hC.2.2.2.2.1).1 n (fun j => .long (f j))) (fun q => by cases q) (by show ¬ (i < 0 ∨ (arrV _ _ _).slots.size ≤ _); rw [arrV_size]; exact hin) rfl rfl hd fun H1 e1 z oq => ?_
  refine kk p e s m args below meth c H1 _ ls hC (hH.set ?_ oq) (z.trans hz) (hx.tr (fw_ext.up ha rfl)) (fw_locs hl (hx.2 a (Or.inl ⟨_, ha, rfl⟩))) hL
  show H1[a]? = some (vp_cell _ _)
  rw [e1]
  show some ((vp_cell g.2.2.2.1 (n, .inr (.inl f))).setSlot _ _) = _
  rw [vp_cell_l, vp_cell_l, arrV_store]
  congr 2
  funext q
  by_cases hq : q = i.toNatClampNeg
  · subst hq
    simp [updV, vp_updL]
  · simp [updV, vp_updL, hq]
end HP
end
section
/-! Making, ending, entering, calling. -/
section CL
variable {g : Gl} {d mc ms : Nat} {M : Mi} {w0 : Wd} {sz0 : Nat} {E : Rs → Wd → Nat → Prop} {pc : Nat} {L : List (Nat × Value)} {S : List Value} {w : Wd} {sz nc ns : Nat}
/-- what 'new' asks of the tables -/
def fw_nw (own : String) (idx ci : Nat) (fs : List Value) (N : Nat) : Prop := ∃ (C : String) (T : u_T), vwCl[ci]? = some (C, T, N) ∧ (∀ x ∈ u_ws C T N, x ∈ fw_big) ∧ Cond.classLink own idx C ∈ fw_big ∧ Cond.instantiable C N ∈ fw_big ∧ Cond.initialized C ∈ fw_big ∧ ∃ ty : Nat → FieldType, (∀ k, k < N → parseFieldDescriptor (T k).2.2.1 = some (ty k)) ∧ ∀ j, j < N → defaultValue (ty j) = vp_V fs j
theorem v_new {ci idx N : Nat} {fs : List Value} (hd : decode M.2.1 pc = .ok (.new idx, 3)) (hn : fw_nw M.1.cls idx ci fs N) (h1 : nc + 1 ≤ mc) (h2 : ns + N ≤ ms) (kk : VV g d mc ms M w0 sz0 E (pc + 3) L (.ref sz :: S) (fw_up w sz (cO ci fs)) (sz + 1) (nc + 1) (ns + N)) :
    VV g d mc ms M w0 sz0 E pc L S w sz nc ns := by
  intro p e s m args below meth c H locs ls hC hH hz hx hl hL
  obtain ⟨C, T, hc, hws, k1, k2, k3, ty, hty, hfs⟩ := hn
  have hT := hC.2.2.2.2.1.2
  have hKn := hC.2.2.2.2.1.1.1 ci _ hc
  have hts : ∀ x ∈ u_ws C T N, x.before args s = true := fun x hx => fw_use hT (hws x hx) (fw_lays_on x hx)
  refine W.newcK hC.1 hC.2.1.1 (fw_K.own hC) (fw_use hT k1 rfl) (fw_use hT k2 rfl) (fw_use hT k3 rfl) rfl hd h1 h2 hKn.2.1 rfl fun H1 kC hkC e1 z1 o1 => ?_
  subst hz
  refine kk p e s m args below meth c H1 locs ls hC (hH.born ?_ o1) z1 (hx.tr fw_ext.new) hl hL
  exact ⟨_, hc, (u_born ty hts (fun _ h => h) hKn hkC e1 hty).to hfs⟩
set_option maxHeartbeats 200000 in
theorem v_newi {n : Int32} {N : Nat} (hd : decode M.2.1 pc = .ok (.newarray .int, 2)) (hw : Cond.arrayClass .int ∈ fw_big) (hn : n = nI N) (hN : N ≤ 100000) (h1 : nc + 1 ≤ mc) (h2 : ns + N ≤ ms) (kk : VV g d mc ms M w0 sz0 E (pc + 2) L (.ref sz :: S) (fw_up w sz (cI N (fun _ => 0))) (sz + 1) (nc + 1) (ns + N)) :
    VV g d mc ms M w0 sz0 E pc L (.int n :: S) w sz nc ns := by
  intro p e s m args below meth c H locs ls hC hH hz hx hl hL
  have hwd : (Cond.arrayClass .int).before args s = true := word_at (State.WarmedH.refl s) (Or.inr ⟨_, rfl⟩) (hC.2.2.2.2.1.2 _ hw)
  subst hn
  have hb4 : N * componentBytes (newarray.typeOf .int) ≤ 536870912 := by
    have h9 : componentBytes (newarray.typeOf .int) = 4 := rfl
    rw [h9]; omega
  refine va_newaK (atype := .int) (N := N) hC.1 hC.2.1.1 hwd rfl hd rfl (nI_pos (by omega)) (nI_clamp (by omega)) hb4 h1 h2 rfl fun H1 cA e1 z1 o1 hAr hNm => ?_
  subst hz
  have h8 : newarray.typeOf .int = FieldType.int := rfl
  have h9 : s.vm.findClass ("[" ++ (FieldType.int).toString) = some g.2.2.1 := (fw_ti hC.2.2.2.2.1).2
  rw [h8] at hNm e1
  have hcA : cA = g.2.2.1 := Option.some.inj (hNm.symm.trans h9)
  subst hcA
  have e2 : fw_at g H.size (cI N (fun _ => 0)) H1 := by
    show H1[H.size]? = some (vp_cell _ _)
    rw [vp_cell_i]
    exact e1
  exact kk p e s m args below meth c H1 locs ls hC (hH.born e2 o1) z1 (hx.tr fw_ext.new) hl hL
set_option maxHeartbeats 200000 in
theorem v_newj {n : Int32} {N : Nat} (hd : decode M.2.1 pc = .ok (.newarray .long, 2)) (hw : Cond.arrayClass .long ∈ fw_big) (hn : n = nI N) (hN : N ≤ 100000) (h1 : nc + 1 ≤ mc) (h2 : ns + N ≤ ms) (kk : VV g d mc ms M w0 sz0 E (pc + 2) L (.ref sz :: S) (fw_up w sz (cJ N (fun _ => 0))) (sz + 1) (nc + 1) (ns + N)) :
    VV g d mc ms M w0 sz0 E pc L (.int n :: S) w sz nc ns := by
  intro p e s m args below meth c H locs ls hC hH hz hx hl hL
  have hwd : (Cond.arrayClass .long).before args s = true := word_at (State.WarmedH.refl s) (Or.inr ⟨_, rfl⟩) (hC.2.2.2.2.1.2 _ hw)
  subst hn
  have hb4 : N * componentBytes (newarray.typeOf .long) ≤ 536870912 := by
    have h9 : componentBytes (newarray.typeOf .long) = 8 := rfl
    rw [h9]; omega
  refine va_newaK (atype := .long) (N := N) hC.1 hC.2.1.1 hwd rfl hd rfl (nI_pos (by omega)) (nI_clamp (by omega)) hb4 h1 h2 rfl fun H1 cA e1 z1 o1 hAr hNm => ?_
  subst hz
  have h8 : newarray.typeOf .long = FieldType.long := rfl
  have h9 : s.vm.findClass ("[" ++ (FieldType.long).toString) = some g.2.2.2.1 := (fw_tj hC.2.2.2.2.1).2
  rw [h8] at hNm e1
  have hcA : cA = g.2.2.2.1 := Option.some.inj (hNm.symm.trans h9)
  subst hcA
  have e2 : fw_at g H.size (cJ N (fun _ => 0)) H1 := by
    show H1[H.size]? = some (vp_cell _ _)
    rw [vp_cell_l]
    exact e1
  exact kk p e s m args below meth c H1 locs ls hC (hH.born e2 o1) z1 (hx.tr fw_ext.new) hl hL
/-! ends -/
theorem fw_widen {nc' ns' : Nat} (h1 : nc ≤ nc') (h2 : ns ≤ ns') (k : VV g d mc ms M w0 sz0 E pc L S w sz nc' ns') : VV g d mc ms M w0 sz0 E pc L S w sz nc ns :=
  fun p e s m args below meth c H locs ls hC hH hz hx hl hL => W.widen h1 h2 (k p e s m args below meth c H locs ls hC hH hz hx hl hL)
theorem fw_end {below : List Frame} {args : Array Value} {s : State} {H : Heap} {v : Option Value} (hH : fw_H g w H) (hz : H.size = sz) (hx : fw_ext w0 sz0 w sz) (hE : E (.inl v) w sz) :
    ∀ t, MQ below (fun _ _ o t => o = .returned v ∧ t.heap = H) args s mc ms (fw_fr w0 sz0) t → fw_E g w0 sz0 mc ms E below s t := by
  rintro t ⟨o, h1, h2, ⟨h3, h4⟩, L, ⟨-, h5, h6⟩, h7⟩
  subst h4
  subst hz
  exact ⟨o, h1, h2, ⟨.inl v, w, h3, hH, hx, hE⟩, L, h5, h6, h7⟩
theorem v_iret {v : Int32} (hd : decode M.2.1 pc = .ok (.ireturn, 1)) (hr : M.2.2.2.1 = some .int) (h1 : nc ≤ mc) (h2 : ns ≤ ms) (hE : E (.inl (some (.int v))) w sz) : VV g d mc ms M w0 sz0 E pc L [.int v] w sz nc ns :=
  fw_widen h1 h2 fun p e s m args below meth c H locs ls hC hH hz hx hl hL =>
    fw_mono (fw_end hH hz hx hE) (W.iret hC.1 hC.2.1.1 (hC.2.1.2.2.2.1.trans hr) (fun t ht _ => ⟨rfl, ht⟩) hl hd hC.2.1.2.2.2.2)
theorem v_zret {v : Int32} (hd : decode M.2.1 pc = .ok (.ireturn, 1)) (hr : M.2.2.2.1 = some .boolean) (hv : v = 0 ∨ v = 1) (h1 : nc ≤ mc) (h2 : ns ≤ ms) (hE : E (.inl (some (.int v))) w sz) : VV g d mc ms M w0 sz0 E pc L [.int v] w sz nc ns :=
  fw_widen h1 h2 fun p e s m args below meth c H locs ls hC hH hz hx hl hL =>
    fw_mono (fw_end hH hz hx hE) (W.zret hC.1 hC.2.1.1 (hC.2.1.2.2.2.1.trans hr) (by rcases hv with rfl | rfl <;> rfl) (fun t ht _ => ⟨rfl, ht⟩) hl hd hC.2.1.2.2.2.2)
theorem v_lret {v : Int64} (hd : decode M.2.1 pc = .ok (.lreturn, 1)) (hr : M.2.2.2.1 = some .long) (h1 : nc ≤ mc) (h2 : ns ≤ ms) (hE : E (.inl (some (.long v))) w sz) : VV g d mc ms M w0 sz0 E pc L [.long v] w sz nc ns :=
  fw_widen h1 h2 fun p e s m args below meth c H locs ls hC hH hz hx hl hL =>
    fw_mono (fw_end hH hz hx hE) (W.lret hC.1 hC.2.1.1 (hC.2.1.2.2.2.1.trans hr) (fun t ht _ => ⟨rfl, ht⟩) hl hd hC.2.1.2.2.2.2)
theorem v_vret (hd : decode M.2.1 pc = .ok (.return_, 1)) (hr : M.2.2.2.1 = none) (h1 : nc ≤ mc) (h2 : ns ≤ ms) (hE : E (.inl none) w sz) : VV g d mc ms M w0 sz0 E pc L [] w sz nc ns :=
  fw_widen h1 h2 fun p e s m args below meth c H locs ls hC hH hz hx hl hL =>
    fw_mono (fw_end hH hz hx hE) (W.vret hC.1 hC.2.1.1 (hC.2.1.2.2.2.1.trans hr) (fun t ht _ => ⟨rfl, ht⟩) hl hd hC.2.1.2.2.2.2)
theorem v_aret {a : Nat} {n : String} (hd : decode M.2.1 pc = .ok (.areturn, 1)) (hr : M.2.2.2.1 = some (.object n)) (h1 : nc ≤ mc) (h2 : ns ≤ ms) (hE : E (.inl (some (.ref a))) w sz) : VV g d mc ms M w0 sz0 E pc L [.ref a] w sz nc ns :=
  fw_widen h1 h2 fun p e s m args below meth c H locs ls hC hH hz hx hl hL =>
    fw_mono (fw_end hH hz hx hE) (W.aret hC.1 hC.2.1.1 (hC.2.1.2.2.2.1.trans hr) (Or.inl ⟨n, rfl⟩) (Or.inr ⟨a, rfl⟩) (fun t ht _ => ⟨rfl, ht⟩) hl hd hC.2.1.2.2.2.2)
/-! a contract out of a body -/
theorem CT.of {as : List Value} {w : Wd} {sz : Nat} (hy : plainName M.1.cls = true) (hn : (lg_sl as).length ≤ M.2.2.1) (k : VV g d mc ms M w sz E 0 (lv_args 0 as) [] w sz 0 0) : CT g d mc ms M as w sz E := by
  refine MetFree.of_bodyS (code := M.2.1) (maxLocals := M.2.2.1) (ret := M.2.2.2.1) hy ?_ ?_
  · intro args s m h hn
    obtain ⟨meth, c, h1, h2, h3, -⟩ := fw_word_spec hn (atoms_spec (ws := [fw_word M]) h _ List.mem_cons_self)
    exact ⟨meth, c, h1, h2, h3.1, h3.2.1, h3.2.2.2.1, h3.2.2.2.2⟩
  · intro p e s m args below meth c s₁ B hml hP _
    obtain ⟨rfl, hz, hH, hK, hX⟩ := hP
    have hh0 : s₁.heap = s.heap := by rw [B.state]; rfl
    have X₀ := Stand.of_body B
    obtain ⟨meth', c', h1, h2, h3, -⟩ := fw_word_spec B.named (atoms_spec (ws := [fw_word M]) B.pre _ List.mem_cons_self)
    cases B.method.symm.trans h1
    cases X₀.code.symm.trans h2
    have hl := lv_entry as (n := M.2.2.1) hn
    have K := k p e s m as.toArray below meth c s.heap [] _ ⟨B.exec, h3, B.named, B.method, hK, hz, hH, hX⟩ hH hz fw_ext.rf (fun q h => by cases h) hl
    rw [← lg_entry_eq] at K
    obtain ⟨t, a1, o, b1, b2, b3⟩ := K s₁ hh0 X₀
    exact ⟨t, o, a1, b1, b2, b3⟩
theorem CT.mono {as : List Value} {E' : Rs → Wd → Nat → Prop} (h : CT g d mc ms M as w sz E) (hE : ∀ r w' sz', E r w' sz' → E' r w' sz') : CT g d mc ms M as w sz E' := by
  intro p e ha hc hk s m args below hf happ hP hK
  obtain ⟨n, o, h1, h2, h3, ⟨r, w', q1, q2, q3, q4⟩, h5⟩ := h p e ha hc hk s m args below hf happ hP hK
  exact ⟨n, o, h1, h2, h3, ⟨r, w', q1, q2, q3, hE _ _ _ q4⟩, h5⟩
/-! calls -/
theorem fw_T.warm {s U : State} (hW : s.WarmedH U.vm) (h : fw_T s) : fw_T U := by
  intro c hc
  have hk := fw_big_ok c hc
  have h1 := h c hc
  unfold fw_keep at hk
  split at hk
  · exact va_Nw.warmF hW h1
  · exact va_Nw.warmM hW h1
  · exact va_Nw.warmD hW h1
  · exact va_Nw.warmC hW h1
  · exact word_at hW (Or.inr ⟨_, rfl⟩) h1
  · exact word_at hW (Or.inl hk) h1
theorem fw_K.warm {s U : State} (hW : s.WarmedH U.vm) (h : fw_K g s) : fw_K g U := ⟨va_K.moved hW.alike h.1, h.2.warm hW⟩
theorem fw_st.kept {n d : String} {u U : State} {H H1 : Heap} (h : fw_st n d u H) (hvm : u.vm.Alike U.vm) (hq : ∀ (a : Nat) (cell : Cell), H[a]? = some cell → cell.vm.isStatics = true → H1[a]? = some cell) : fw_st n d U H1 := by
  obtain ⟨c, k, i, f, a, cell, v, h1, h2, h3, h4, h5, h6, h7, h8, h9, h10, h11⟩ := h
  obtain ⟨k', hi', he⟩ := State.fieldFound?_setVm hvm h2
  exact ⟨c, k', i, f, a, cell, v, by rw [hvm.findClass]; exact h1, hi', h3, by rw [he]; exact h4, hq a cell h5 h6, h6, h7, h8, by rw [he]; exact h9, h10, h11⟩
theorem fw_X.kept {u U : State} (h : fw_X g u) (hvm : u.vm.Alike U.vm) (hW : u.WarmedH U.vm) (hq : ∀ (a : Nat) (cell : Cell), u.heap[a]? = some cell → cell.vm.isStatics = true → U.heap[a]? = some cell) : fw_X g U :=
  ⟨h.1, h.2.1.kept hvm hq, h.2.2.1.kept hvm hq, fun i tx hi => by
    obtain ⟨a, ha⟩ := h.2.2.2 i tx hi
    exact ⟨a, ha.warm hW⟩⟩
theorem fw_at.vm {a : Nat} {e : Ct} {H : Heap} (h : fw_at g a e H) (hr : fw_raw e = false) : ∃ c : Cell, H[a]? = some c ∧ c.vm = .none := by
  match e, h, hr with
  | .inl x, h, _ => exact ⟨_, h, rfl⟩
  | .inr (.inl x), h, _ => exact ⟨_, h, rfl⟩
  | .inr (.inr (.inl x)), h, _ => exact ⟨_, h, rfl⟩
  | .inr (.inr (.inr (.inl o))), h, _ =>
    obtain ⟨r, h1, cell, h2, h3, h4, -⟩ := h
    exact ⟨_, h2, h4⟩
  | .inr (.inr (.inr (.inr c))), _, hr => cases hr
theorem fw_nost {s : State} {locs : List Loc} (hH : fw_H g w0 s.heap) (hz : s.heap.size = sz0) (hl : ∀ q ∈ locs, fw_fr w0 sz0 q.base) : ∀ x ∈ locs, ∀ cell, s.heap[x.base]? = some cell → cell.vm.isStatics = false := by
  intro x hx cell hc
  rcases hl x hx with ⟨e, he, hr⟩ | h
  · obtain ⟨c, h1, h2⟩ := (hH _ _ he).vm hr
    cases Option.some.inj (hc.symm.trans h1)
    rw [h2]; rfl
  · have := (Array.getElem?_eq_some_iff.mp hc).1
    omega
theorem fw_X.stand {p : Program} {e : Env} {R : Room} {s : State} {m : MethodId} {args : Array Value} {below : List Frame} {meth : Method} {c : Code} {T : State} {locs : List Loc} {c0 s0 : Nat} (h : fw_X g s) (hH : fw_H g w0 s.heap) (hz : s.heap.size = sz0) (hl : ∀ q ∈ locs, fw_fr w0 sz0 q.base)
    (X : Stand p g.1 e R s m args below meth c T locs c0 s0) : fw_X g T := by
  refine h.kept X.warmed.alike X.warmed (fun a cell hc hs => ?_)
  obtain ⟨-, -, -, -, -, h6⟩ := X.same
  obtain ⟨c9, e1, e2, e3, e4⟩ := h6 a cell hc
  have hsl : c9.slots = cell.slots := Array.ext_getElem? fun i => e4 i fun hm => by
    have := fw_nost hH hz hl _ hm cell hc
    rw [hs] at this
    cases this
  have h9 : c9 = cell := by
    rw [hsl] at e2
    exact e2
  rw [← h9]
  exact e1
/-- the way into a callee: what the invoking instruction does -/
def fw_en (g : Gl) (M : Mi) (w : Wd) (pc : Nat) (S rest A : List Value) (y : MethodName) : Prop :=
  ∀ (p : Program) (e : Env) (R : Room) (s : State) (m : MethodId) (args : Array Value) (below : List Frame) (meth : Method) (c : Code) (T : State) (locs : List Loc) (cells slots : Nat) (ls : Array Slot),
    p.tables.exec = Jvm.exec → c.code = M.2.1 → s.vm.findClass M.1.cls = some m.cls → fw_K g s → fw_H g w T.heap → Stand p g.1 e R s m args below meth c T locs cells slots →
    ∃ (vm' : Vm) (mk : MethodId), Stand p g.1 e R s m args below meth c (T.setVm vm') locs cells slots ∧ s.methodNamed? y = some mk ∧ (∃ ig, decode c.code pc = .ok (ig, 3)) ∧
      ∀ target, (∀ acts, Steps p.tables e below (doInvoke e ((T.setVm vm').setTop (F0 m pc ls rest)) acts mk A.toArray).1 target) → Steps p.tables e below (T.setTop (F0 m pc ls S)) target
/-- a call by its contract, whatever its end -/
theorem fw_call {p : Program} {e : Env} {R : Room} {s : State} {m : MethodId} {args : Array Value} {below : List Frame} {meth : Method} {c : Code} {U : State} {Ls : List Loc} {c0 s0 : Nat} {f : JFrame} {ig : Instr} {len : Nat} {mk : MethodId} {A : List Value} {M' : Mi} {d' mc' ms' : Nat} {E' : Rs → Wd → Nat → Prop}
    (X : Stand p g.1 e R s m args below meth c U Ls c0 s0) (hM : CT g d' mc' ms' M' A w sz E') (hf : f.method = m) (hsize : f.locals.size = c.maxLocals) (hdg : decode c.code f.pc = .ok (ig, len)) (hW : 2 * f.monitorRoom + (f.stack.map fun v => v.category).sum ≤ 8)
    (hn : U.methodNamed? M'.1 = some mk) (hwd : (fw_word M').before A.toArray U = true) (hini : (Cond.initialized M'.1.cls).before A.toArray U = true) (hz : U.heap.size = sz) (hH : fw_H g w U.heap) (hK : fw_K g U) (hX : fw_X g U)
    (r1 : d' + 1 ≤ R.frames) (r2 : 8 + (M'.2.2.1 + 11) + 39 * d' ≤ R.locals) (r3 : c0 + mc' ≤ R.cells) (r4 : s0 + ms' ≤ R.slots) :
    ∃ (r : Rs) (w' : Wd) (T' : State) (L' : List Loc), Stand p g.1 e R s m args below meth c T' (Ls ++ L') (c0 + mc') (s0 + ms') ∧ (∀ q ∈ L', fw_fr w sz q.base) ∧ fw_H g w' T'.heap ∧ fw_ext w sz w' T'.heap.size ∧ E' r w' T'.heap.size ∧
      match r with
      | .inl v => Steps p.tables e below (doInvoke e (U.setTop f) [] mk A.toArray).1 (T'.setTop { f with pc := f.pc + len, stack := v.toList ++ f.stack })
      | .inr k => ∃ (x : Addr) (cell : Cell), sz ≤ x ∧ T'.heap[x]? = some cell ∧ cell.vm = .none ∧ T'.vm.findClass (fw_ex k) = some cell.cls ∧ Steps p.tables e below (doInvoke e (U.setTop f) [] mk A.toArray).1 ((T'.setTop f).pushFrame (.throwing x)) := by
  obtain ⟨methY, cY, hmY, hcY, hcd, -⟩ := fw_word_spec hn hwd
  obtain ⟨kY, hkY, -⟩ := className_of_methodNamed hn
  have hinitY : kY.init = .initialized := Cond.initialized_spec (findClass_of_methodNamed hn) hkY hini
  have h : At U f.method c below := by rw [hf]; exact X.here
  have hpre : (headSpec [fw_word M'] (fw_rm d' mc' ms')).pre.before A.toArray U = true := atoms_intro (fun w hw => by rw [List.mem_singleton.mp hw]; exact hwd)
  have happ : (headSpec [fw_word M'] (fw_rm d' mc' ms')).appliesLoose M'.1 e.platform (U.calling f mk A.toArray) = true :=
    Spec.appliesLoose_calling (g := f) h hdg hn hkY hinitY
      (X.room_calling (g := f) (R' := fw_rm d' mc' ms') hsize hmY hcY r1 (by rw [hcd.2.1]; show _ + (39 * d') ≤ _; omega) r3 r4) hpre
  obtain ⟨mid, hmid⟩ := h.above
  have hfr : (U.setTop f).frames = (.java f :: mid) ++ below := by rw [State.frames_setTop' f h.top, hmid]; rfl
  have hKc : fw_K g (U.calling f mk A.toArray) := ⟨va_K.moved (u := U) (U := U.calling f mk A.toArray) (Vm.Alike.refl U.vm) hK.1, hK.2.warm (U := U.calling f mk A.toArray) (State.WarmedH.refl U)⟩
  have hXc : fw_X g (U.calling f mk A.toArray) := hX.kept (Vm.Alike.refl U.vm) (State.WarmedH.refl U) (fun _ _ h _ => h)
  obtain ⟨o, s₂, hsteps, -, hend, hq⟩ := Steps.callFree hM p X.admits X.cas X.clock (acts := []) hfr happ ⟨rfl, hz, hH, hKc, hXc⟩ trivial
  rw [State.frames_setTop' f h.top] at hend
  have hq' : fw_Q g w sz mc' ms' E' (U.calling f mk A.toArray) o s₂ := hq
  obtain ⟨⟨r, w', q1, q2, q3, q4⟩, L', hW₂, hsame₂, hL'⟩ := hq'
  obtain ⟨e2, z2, z3, z4, z5, z6⟩ := hsame₂
  have e3 : s₂ = ({ (U.calling f mk A.toArray).setFrames s₂.frames with heap := s₂.heap, slotsUsed := s₂.slotsUsed } : State).setVm s₂.vm := by
    have : s₂ = ({ s₂ with vm := (U.calling f mk A.toArray).vm } : State).setVm s₂.vm := rfl
    rw [e2] at this
    exact this
  have hW' : U.WarmedH s₂.vm := hW₂
  obtain ⟨g₀, hg0⟩ := Option.isSome_iff_exists.mp h.top
  obtain ⟨r0, hr⟩ := State.topJava?_eq_some.mp hg0
  have hsame : U.sameButNew ({ U with heap := s₂.heap, slotsUsed := s₂.slotsUsed } : State) L' mc' ms' := by
    refine ⟨?_, z2, z3, z4, z5, z6⟩
    obtain ⟨t, ht, -⟩ := State.frames_cons hr
    show ({ U with heap := s₂.heap, slotsUsed := s₂.slotsUsed } : State) = { U.setFrames U.frames with heap := s₂.heap, slotsUsed := s₂.slotsUsed }
    rw [State.setFrames_self ht]
  subst hf
  refine ⟨r, w', (({ U with heap := s₂.heap, slotsUsed := s₂.slotsUsed } : State).setVm s₂.vm), L',
    ⟨X.admits, X.cas, X.clock, X.frames, X.room, X.hears, X.method, X.code, (X.here.setHeapUsed s₂.heap s₂.slotsUsed).setVm hW'.alike, X.tail, State.WarmedH.trans X.warmed hW', X.limits, X.bytes, X.same.trans (hsame.setVm s.vm)⟩, hL', q2, q3, q4, ?_⟩
  match r, q1 with
  | .inl v, q1 =>
    have q1 : o = .returned v := q1
    subst q1
    obtain ⟨c₂, i₂, len₂, hc₂, hd₂, hf₂⟩ := hend
    have hcc : c₂ = c := by
      have h1 : s₂.code? f.method = U.code? f.method := by
        rw [State.code?_eq, State.code?_eq, hW'.alike.method?]
      exact Option.some.inj (hc₂.symm.trans (h1.trans h.code))
    subst hcc
    have hlen : len₂ = len := by rw [hdg] at hd₂; cases hd₂; rfl
    subst hlen
    have hs₂ : s₂ = (({ U with heap := s₂.heap, slotsUsed := s₂.slotsUsed } : State).setVm s₂.vm).setTop { f with pc := f.pc + len₂, stack := v.toList ++ f.stack } := by
      have hr' : (({ U with heap := s₂.heap, slotsUsed := s₂.slotsUsed } : State).setVm s₂.vm).frames = .java g₀ :: r0 := hr
      refine e3.trans ?_
      rw [hf₂, State.calling_eq h.top, State.setFrames_setFrames, State.setTop_of_frames _ hr', hr]
      rfl
    show Steps p.tables e below _ ((({ U with heap := s₂.heap, slotsUsed := s₂.slotsUsed } : State).setVm s₂.vm).setTop { f with pc := f.pc + len₂, stack := v.toList ++ f.stack })
    rw [← hs₂]
    exact hsteps
  | .inr k, q1 =>
    obtain ⟨x, cell, q1, y1, y2, y3, y4⟩ := q1
    subst q1
    have hf₂ : s₂.frames = .throwing x :: .java f :: U.frames.tail := hend
    have hs₂ : s₂ = ((({ U with heap := s₂.heap, slotsUsed := s₂.slotsUsed } : State).setVm s₂.vm).setTop f).pushFrame (.throwing x) := by
      have hr' : (({ U with heap := s₂.heap, slotsUsed := s₂.slotsUsed } : State).setVm s₂.vm).frames = .java g₀ :: r0 := hr
      refine e3.trans ?_
      rw [hf₂, State.calling_eq h.top, State.setFrames_setFrames, State.pushFrame, State.frames_setTop _ hr', State.setTop_of_frames _ hr', State.setFrames_setFrames, hr]
      rfl
    refine ⟨x, cell, y1, y2, y3, y4, ?_⟩
    rw [← hs₂]
    exact hsteps
end CL
end
section
/-! What is thrown, and the call as a rule. -/
section TW
variable {g : Gl} {d mc ms : Nat} {M : Mi} {w0 : Wd} {sz0 : Nat} {E : Rs → Wd → Nat → Prop} {pc : Nat} {L : List (Nat × Value)} {S : List Value} {w : Wd} {sz nc ns : Nat}
/-- a body at pc where an object of the kind k is thrown -/
def VT (g : Gl) (d mc ms : Nat) (M : Mi) (w0 : Wd) (sz0 : Nat) (E : Rs → Wd → Nat → Prop) (pc : Nat) (L : List (Nat × Value)) (S : List Value) (w : Wd) (sz nc ns k : Nat) : Prop :=
  ∀ (p : Program) (e : Env) (s : State) (m : MethodId) (args : Array Value) (below : List Frame) (meth : Method) (c : Code) (T : State) (locs : List Loc) (ls : Array Slot) (x : Addr) (cell : Cell),
    fw_Cx g M w0 sz0 p s m meth c → fw_H g w T.heap → T.heap.size = sz → fw_ext w0 sz0 w sz → (∀ q ∈ locs, fw_fr w0 sz0 q.base) → lv_has ls M.2.2.1 L →
    Stand p g.1 e (fw_rm d mc ms) s m args below meth c T locs nc ns → sz0 ≤ x → T.heap[x]? = some cell → cell.vm = .none → T.vm.findClass (fw_ex k) = some cell.cls →
    ∃ t, Steps p.tables e below ((T.setTop (F0 m pc ls S)).pushFrame (.throwing x)) t ∧ fw_E g w0 sz0 mc ms E below s t
theorem vt_out {k : Nat} (hh : M.2.2.2.2 = []) (h1 : nc ≤ mc) (h2 : ns ≤ ms) (hE : E (.inr k) w sz) : VT g d mc ms M w0 sz0 E pc L S w sz nc ns k := by
  intro p e s m args below meth c T locs ls x cell hC hH hz hx hl hL X0 hx0 hc1 hc2 hc3
  have X := stand_widen X0 h1 h2
  have hout : ∀ y ∈ c.exceptionTable.toList, covers y pc = false := by
    have h9 := hC.2.1.2.2.1
    rw [hh] at h9
    have : c.exceptionTable.toList = [] := List.map_eq_nil_iff.mp h9
    rw [this]
    intro y hy
    cases hy
  have hlk : meth.locks = false := hC.2.1.2.2.2.2
  obtain ⟨hst, hrun, hend, hW, hsame⟩ := X.leaveThrown x (g := F0 m pc ls S) rfl rfl rfl hout hlk
  refine ⟨_, hst, .threw x, hrun, hend, ⟨.inr k, w, ⟨x, cell, rfl, hx0, hc1, hc2, hc3⟩, hH, ?_, ?_⟩, locs, hW, hsame, hl⟩
  · show fw_ext w0 sz0 w T.heap.size
    rw [hz]; exact hx
  · show E (.inr k) w T.heap.size
    rw [hz]; exact hE
theorem v_call {rest A : List Value} {M' : Mi} {d' mc' ms' : Nat} {E' : Rs → Wd → Nat → Prop} (hen : fw_en g M w pc S rest A M'.1) (hc : CT g d' mc' ms' M' A w sz E') (hw : fw_word M' ∈ fw_big) (hwo : (fw_word M').onTables = true) (hi : Cond.initialized M'.1.cls ∈ fw_big)
    (r1 : d' + 1 ≤ d) (r2 : M'.2.2.1 ≤ 20) (r3 : nc + mc' ≤ mc) (r4 : ns + ms' ≤ ms) (hst : (rest.map fun v => v.category).sum ≤ 8)
    (kr : ∀ v w' sz', E' (.inl v) w' sz' → VV g d mc ms M w0 sz0 E (pc + 3) L (v.toList ++ rest) w' sz' (nc + mc') (ns + ms'))
    (kt : ∀ k w' sz', E' (.inr k) w' sz' → VT g d mc ms M w0 sz0 E pc L rest w' sz' (nc + mc') (ns + ms') k) : VV g d mc ms M w0 sz0 E pc L S w sz nc ns := by
  intro p e s m args below meth c H locs ls hC hH hz hx hl hL
  intro T hT X
  subst hT
  obtain ⟨vm', mk, X₁, hn, ⟨ig, hdg⟩, hgo⟩ := hen p e _ s m args below meth c T locs nc ns ls hC.1 hC.2.1.1 (fw_K.own hC) hC.2.2.2.2.1 hH X
  have hK₁ : fw_K g (T.setVm vm') := hC.2.2.2.2.1.warm X₁.warmed
  have hn₁ : (T.setVm vm').methodNamed? M'.1 = some mk := X₁.named hn
  obtain ⟨r, w', T', L', X', hL', hH', hx', hE', hm⟩ := fw_call (f := F0 m pc ls rest) X₁ hc rfl (hL.1.trans hC.2.1.2.1.symm) hdg (by show 2 * 0 + (rest.map fun v => v.category).sum ≤ 8; omega) hn₁ (fw_use hK₁.2 hw hwo) (fw_use hK₁.2 hi rfl) hz hH hK₁ (hC.2.2.2.2.2.2.2.stand hC.2.2.2.2.2.2.1 hC.2.2.2.2.2.1 hl X₁) (by show d' + 1 ≤ d; exact r1) (by show _ ≤ 39 * d; omega) r3 r4
  have hl' : ∀ q ∈ locs ++ L', fw_fr w0 sz0 q.base := by
    intro q hq
    rcases List.mem_append.mp hq with h | h
    · exact hl q h
    · exact hx.2 _ (hL' q h)
  match r, hm, hE' with
  | .inl v, hm, hE' =>
    obtain ⟨t, a1, b1⟩ := kr v w' _ hE' p e s m args below meth c T'.heap _ ls hC hH' rfl (hx.tr hx') hl' hL T' rfl X'
    exact ⟨t, hgo t (fun acts => by rw [doInvoke_state]; exact Steps.trans hm a1), b1⟩
  | .inr k, hm, hE' =>
    obtain ⟨x, ce, y1, y2, y3, y4, hm⟩ := hm
    obtain ⟨t, a1, b1⟩ := kt k w' _ hE' p e s m args below meth c T' _ ls x ce hC hH' rfl (hx.tr hx') hl' hL X' (Nat.le_trans hx.1 y1) y2 y3 y4
    exact ⟨t, hgo t (fun acts => by rw [doInvoke_state]; exact Steps.trans hm a1), b1⟩
/-! the ways in -/
theorem fw_named {M' : Mi} {s : State} {args : Array Value} (h : (fw_word M').before args s = true) : ∃ mk, s.methodNamed? M'.1 = some mk := by
  obtain ⟨y, b, n, r, hh⟩ := M'
  cases hh with
  | nil => exact Cond.code_named h
  | cons x t =>
    obtain ⟨m9, meth, c, hn9, -⟩ := Cond.codeWith_spec h
    exact ⟨m9, hn9⟩
theorem en_s {idx : Nat} {A rest : List Value} {M' : Mi} (hd : decode M.2.1 pc = .ok (.invokestatic idx, 3)) (hl : Cond.methodLink M.1.cls idx M'.1 ∈ fw_big ∨ ∃ host, Cond.methodLinkNest M.1.cls idx M'.1 host ∈ fw_big) (hw : fw_word M' ∈ fw_big) (hwo : (fw_word M').onTables = true) (hst : Cond.static M'.1 ∈ fw_big) (hi : Cond.initialized M'.1.cls ∈ fw_big)
    (hy : M'.1.cls ≠ "java/lang/invoke/MethodHandle" ∧ M'.1.cls ≠ "java/lang/invoke/VarHandle") (hlen : (parseMethodDescriptor M'.1.desc).map (fun d => d.parameters.length) = some A.length) (hS : S = A.reverse ++ rest) : fw_en g M w pc S rest A M'.1 := by
  intro p e R s m args below meth c T locs cells slots ls hx hb hown hK hH X
  subst hS
  obtain ⟨mk, methM, hnamed, hmethM, hcodeM, hsigM⟩ : ∃ mk methM, s.methodNamed? M'.1 = some mk ∧ s.vm.method? mk = some methM ∧ True ∧ parseMethodDescriptor M'.1.desc = some methM.sig := by
    have hwd : (fw_word M').before args s = true := fw_use hK.2 hw hwo
    obtain ⟨mk, hn⟩ := fw_named hwd
    obtain ⟨meth', c', h1, -, -, h4⟩ := fw_word_spec hn hwd
    exact ⟨mk, meth', hn, h1, trivial, h4⟩
  have hstatic : methM.isStatic = true := Cond.static_spec hnamed hmethM (fw_use (A := args) hK.2 hst rfl)
  obtain ⟨kP, hkP, -⟩ := className_of_methodNamed hnamed
  have hinitP : kP.init = .initialized := Cond.initialized_spec (findClass_of_methodNamed hnamed) hkP (fw_use (A := args) hK.2 hi rfl)
  have hl2 : A.length = methM.sig.parameters.length := by
    rw [hsigM] at hlen
    exact (Option.some.inj hlen).symm
  have hdg : decode c.code pc = .ok (.invokestatic idx, 3) := by rw [hb]; exact hd
  rcases hl with hl | ⟨host, hl⟩
  · obtain ⟨vm₁, X₁, hstep₁⟩ := X.invokestatic hx hown (fw_use hK.2 hl rfl) hnamed hmethM hstatic hkP hinitP hy (g := F0 m pc ls (A.reverse ++ rest)) rfl (argsL := A) (rest := rest) hl2 rfl hdg
    exact ⟨vm₁, mk, X₁, hnamed, ⟨_, hdg⟩, hstep₁⟩
  · obtain ⟨vm₁, X₁, hstep₁⟩ := X.invokestaticNest hx hown (fw_use hK.2 hl rfl) hnamed hmethM hstatic hkP hinitP hy (g := F0 m pc ls (A.reverse ++ rest)) rfl (argsL := A) (rest := rest) hl2 rfl hdg
    exact ⟨vm₁, mk, X₁, hnamed, ⟨_, hdg⟩, hstep₁⟩
theorem fw_recv {g : Gl} {w : Wd} {H : Heap} {s : State} {a ci : Nat} {fs : List Value} {C : String} {T : u_T} {N : Nat} (hK : fw_K g s) (hH : fw_H g w H) (ha : w a = some (cO ci fs)) (hc : vwCl[ci]? = some (C, T, N)) : ∃ cell : Cell, H[a]? = some cell ∧ cell.vm = .none ∧ s.vm.findClass C = some cell.cls := by
  obtain ⟨q', h1, cell, g1, g2, g3, -⟩ := hH a _ ha
  exact ⟨cell, g1, g3, by rw [g2]; exact (hK.1.1 ci _ hc).2.1⟩
/-- a method of the receiver's own class -/
theorem en_v {idx a ci N : Nat} {fs : List Value} {T : u_T} {A rest : List Value} {M' : Mi} (hd : decode M.2.1 pc = .ok (.invokevirtual idx, 3)) (hl : Cond.methodLink M.1.cls idx M'.1 ∈ fw_big ∨ ∃ host, Cond.methodLinkNest M.1.cls idx M'.1 host ∈ fw_big) (hw : fw_word M' ∈ fw_big) (hwo : (fw_word M').onTables = true) (him : Cond.instanceMethod M'.1 ∈ fw_big) (hse : Cond.selects M'.1.cls M'.1 M'.1 ∈ fw_big)
    (hc : vwCl[ci]? = some (M'.1.cls, T, N)) (ha : w a = some (cO ci fs)) (hy : M'.1.cls ≠ "java/lang/invoke/MethodHandle" ∧ M'.1.cls ≠ "java/lang/invoke/VarHandle") (hlen : (parseMethodDescriptor M'.1.desc).map (fun d => d.parameters.length) = some A.length) (hS : S = A.reverse ++ .ref a :: rest) : fw_en g M w pc S rest (.ref a :: A) M'.1 := by
  intro p e R s m args below meth c T locs cells slots ls hx hb hown hK hH X
  subst hS
  obtain ⟨cellB, hcell, hvm, hcls⟩ := fw_recv hK hH ha hc
  have hwd : (fw_word M').before args s = true := fw_use hK.2 hw hwo
  obtain ⟨mk, methM, hnamed, hmethM, hstM, habM⟩ := Cond.instanceMethod_spec (fw_use (A := args) hK.2 him rfl)
  obtain ⟨methM', c', hmethM', -, -, hsigM⟩ := fw_word_spec hnamed hwd
  cases hmethM.symm.trans hmethM'
  obtain ⟨c2, r2, m2, q1, q2, q3, q4, kP, hkP, hkPi⟩ := Cond.selects_spec (fw_use (A := args) hK.2 hse rfl)
  cases hcls.symm.trans q1
  cases (State.methodFound?_of_named hnamed hy).symm.trans q2
  cases hnamed.symm.trans q3
  have hselP : selectMethod e.platform s.vm cellB.cls mk = .method mk := by rw [Launch.admits_selectMethod X.admits]; exact q4
  have hl2 : A.length = methM.sig.parameters.length := by
    rw [hsigM] at hlen
    exact (Option.some.inj hlen).symm
  have hdg : decode c.code pc = .ok (.invokevirtual idx, 3) := by rw [hb]; exact hd
  rcases hl with hl | ⟨host, hl⟩
  · obtain ⟨vm₁, X₁, hstep₁⟩ := X.invokevirtual hx hown (fw_use hK.2 hl rfl) hnamed hmethM hstM hkP hkPi hy (a := a) (cell := cellB) hcell (fun z h => by rw [hvm] at h; cases h) hselP hmethM habM hkP hkPi (g := F0 m pc ls (A.reverse ++ .ref a :: rest)) rfl (argsL := A) (rest := rest) hl2 rfl hdg
    exact ⟨vm₁, mk, X₁, hnamed, ⟨_, hdg⟩, hstep₁⟩
  · obtain ⟨vm₁, X₁, hstep₁⟩ := X.invokevirtualNest hx hown (fw_use hK.2 hl rfl) hnamed hmethM hstM hkP hkPi hy (a := a) (cell := cellB) hcell (fun z h => by rw [hvm] at h; cases h) hselP hmethM habM hkP hkPi (g := F0 m pc ls (A.reverse ++ .ref a :: rest)) rfl (argsL := A) (rest := rest) hl2 rfl hdg
    exact ⟨vm₁, mk, X₁, hnamed, ⟨_, hdg⟩, hstep₁⟩
/-- a method by the receiver's kind: named x, chosen M' -/
theorem en_u {idx a ci N : Nat} {fs : List Value} {C : String} {T : u_T} {A rest : List Value} {x : MethodName} {M' : Mi} (hd : decode M.2.1 pc = .ok (.invokevirtual idx, 3)) (hl : Cond.methodLink M.1.cls idx x ∈ fw_big) (hsm : Cond.sameMethod x.cls x.cls x.name x.desc ∈ fw_big) (hde : Cond.declares x ∈ fw_big ∨ ∃ b n r, Cond.instanceMethod x ∈ fw_big ∧ Cond.code x b n r ∈ fw_big) (hw : fw_word M' ∈ fw_big) (hwo : (fw_word M').onTables = true) (him : Cond.instanceMethod M'.1 ∈ fw_big) (hse : Cond.selects C x M'.1 ∈ fw_big)
    (hc : vwCl[ci]? = some (C, T, N)) (ha : w a = some (cO ci fs)) (hy : x.cls ≠ "java/lang/invoke/MethodHandle" ∧ x.cls ≠ "java/lang/invoke/VarHandle") (hlen : (parseMethodDescriptor x.desc).map (fun d => d.parameters.length) = some A.length) (hS : S = A.reverse ++ .ref a :: rest) : fw_en g M w pc S rest (.ref a :: A) M'.1 := by
  intro p e R s m args below meth c T locs cells slots ls hx hb hown hK hH X
  subst hS
  obtain ⟨cellB, hcell, hvm, hcls⟩ := fw_recv hK hH ha hc
  have hd0 : va_Decl s x := by
    rcases hde with h | ⟨b, n, r, h, h'⟩
    · exact va_Decl.abs (hK.2 _ h)
    · exact va_Decl.of (fw_use (A := args) hK.2 h rfl) (fw_use (A := args) hK.2 h' rfl)
  obtain ⟨r0, r, hn, hrm, hstR, hsigR⟩ := hd0
  have hsame := fw_use (A := args) hK.2 hsm rfl
  obtain ⟨cn, ck, r1, hcn, hck, hni, hf, hn1⟩ := Cond.sameMethod_found hsame
  cases hn.symm.trans hn1
  obtain ⟨mk, methM, hnamed, hmethM, -, habM⟩ := Cond.instanceMethod_spec (fw_use (A := args) hK.2 him rfl)
  obtain ⟨c2, r2, m2, q1, q2, q3, q4, kP, hkP, hkPi⟩ := Cond.selects_spec (fw_use (A := args) hK.2 hse rfl)
  cases hcls.symm.trans q1
  cases hf.symm.trans q2
  cases hnamed.symm.trans q3
  have hselP : selectMethod e.platform s.vm cellB.cls r0 = .method mk := by rw [Launch.admits_selectMethod X.admits]; exact q4
  have hl2 : A.length = r.sig.parameters.length := by
    rw [hsigR] at hlen
    exact (Option.some.inj hlen).symm
  have hdg : decode c.code pc = .ok (.invokevirtual idx, 3) := by rw [hb]; exact hd
  obtain ⟨vm₁, X₁, hstep₁⟩ := X.invokevirtualUp hx hown (fw_use hK.2 hl rfl) hsame hy hn hrm hstR (a := a) (cell := cellB) hcell (fun z h => by rw [hvm] at h; cases h) hselP hmethM habM hkP hkPi (g := F0 m pc ls (A.reverse ++ .ref a :: rest)) rfl (argsL := A) (rest := rest) hl2 rfl hdg
  exact ⟨vm₁, mk, X₁, hnamed, ⟨_, hdg⟩, hstep₁⟩
/-- a constructor -/
theorem en_i {idx a : Nat} {A rest : List Value} {M' : Mi} (hd : decode M.2.1 pc = .ok (.invokespecial idx, 3)) (hl : Cond.methodLink M.1.cls idx M'.1 ∈ fw_big ∨ ∃ host, Cond.methodLinkNest M.1.cls idx M'.1 host ∈ fw_big) (hw : Cond.code M'.1 M'.2.1 M'.2.2.1 none ∈ fw_big) (him : Cond.instanceMethod M'.1 ∈ fw_big) (hnm : M'.1.name = "<init>")
    (hy : M'.1.cls ≠ "java/lang/invoke/MethodHandle" ∧ M'.1.cls ≠ "java/lang/invoke/VarHandle") (hlen : (parseMethodDescriptor M'.1.desc).map (fun d => d.parameters.length) = some A.length) (hS : S = A.reverse ++ .ref a :: rest) : fw_en g M w pc S rest (.ref a :: A) M'.1 := by
  intro p e R s m args below meth c T locs cells slots ls hx hb hown hK hH X
  subst hS
  have hpl : e.platform.magicAccessors = ({} : Platform).magicAccessors := by rw [X.admits.platform]
  have hl2 : ∀ sig, parseMethodDescriptor M'.1.desc = some sig → A.length = sig.parameters.length := by
    intro sig h
    rw [h] at hlen
    exact (Option.some.inj hlen).symm
  have hdg : decode c.code pc = .ok (.invokespecial idx, 3) := by rw [hb]; exact hd
  rcases hl with hl | ⟨host, hl⟩
  · obtain ⟨mk, methM, cM, kP, vm₁, hnamed, hmethM, hcodeM, -, hlocalsM, -, hkP, -, hW₁, hstep₁⟩ := Steps.initColdArgs (e := e) X.here hx X.warmed hpl hown hnm hy (fw_use (A := args) hK.2 hl rfl) (fw_use (A := args) hK.2 him rfl) (fw_use (A := args) hK.2 hw rfl) (f := F0 m pc ls (A.reverse ++ .ref a :: rest)) rfl hl2 rfl hdg
    exact ⟨vm₁, mk, X.noted hW₁, hnamed, ⟨_, hdg⟩, hstep₁⟩
  · obtain ⟨mk, methM, cM, kP, vm₁, hnamed, hmethM, hcodeM, -, hlocalsM, -, hkP, -, hW₁, hstep₁⟩ := Steps.initColdArgsNest (e := e) X.here hx X.warmed hpl hown hnm hy (fw_use (A := args) hK.2 hl rfl) (fw_use (A := args) hK.2 him rfl) (fw_use (A := args) hK.2 hw rfl) (f := F0 m pc ls (A.reverse ++ .ref a :: rest)) rfl hl2 rfl hdg
    exact ⟨vm₁, mk, X.noted hW₁, hnamed, ⟨_, hdg⟩, hstep₁⟩
/-! throw new X(text) -/
/-- the same frame, as if the method were called anew in this heap -/
theorem fw_rebase {p : Program} {l : Launch} {e : Env} {R : Room} {s : State} {m : MethodId} {args : Array Value} {below : List Frame} {meth : Method} {c : Code} {locs : List Loc} {cells slots : Nat} {T : State} (X : Stand p l e R s m args below meth c T locs cells slots) {R' : Room} (hf : R'.frames ≤ R.frames) (hl : R'.locals ≤ R.locals) (hc : cells + R'.cells ≤ R.cells) (hs : slots + R'.slots ≤ R.slots) :
    Stand p l e R' ((T.setVm s.vm).setFrames (.invoking m args :: below)) m args below meth c T [] 0 0 := by
  have htop : (T.setVm s.vm).topJava?.isSome := X.here.top
  have hF : ((T.setVm s.vm).setFrames (.invoking m args :: below)).frames = .invoking m args :: below := State.frames_setFrames _ (State.cur_lt_of_top htop)
  obtain ⟨g₀, hg0⟩ := Option.isSome_iff_exists.mp htop
  obtain ⟨r, hr⟩ := State.topJava?_eq_some.mp hg0
  have hl9 : e.platform.stackLimits (T.setVm s.vm).me = e.platform.stackLimits s.me := X.limits
  have hb9 : (T.setVm s.vm).me.stackBytes = s.me.stackBytes := X.bytes
  refine ⟨X.admits, X.cas, X.clock, hF, ?_, X.hears, X.method, X.code, X.here, X.tail, X.warmed, ?_, ?_, ?_⟩
  · have h := X.room
    have hU : ((T.setVm s.vm).setFrames (.invoking m args :: below)).localsInUse = s.localsInUse := by
      rw [State.localsInUse_invoking hF (meth := meth) (c := c) X.method X.code, State.localsInUse_invoking X.frames X.method X.code]
    simp only [State.hasRoom, Bool.and_eq_true, decide_eq_true_eq] at h ⊢
    obtain ⟨⟨⟨⟨h1, h2, h3, h4, h5, h6⟩, h7⟩, h8⟩, h9⟩ := h
    rw [X.frames, List.length_cons] at h2 h3
    have q1 := X.heapSize
    have q2 := X.used
    simp only [hF, hU, List.length_cons, State.stackLimits_setFrames, State.stackBytes_setFrames, hl9, hb9]
    refine ⟨⟨⟨⟨by omega, by omega, by omega, by omega, by omega, h6⟩, ?_⟩, ?_⟩, X.book⟩
    · show T.heap.size + R'.cells ≤ e.platform.maxCells
      omega
    · show T.slotsUsed + R'.slots ≤ e.platform.maxSlots
      omega
  · rw [State.stackLimits_setFrames]; rfl
  · rw [State.stackBytes_setFrames]; rfl
  · refine ⟨?_, Nat.le_refl _, Nat.le_refl _, ?_, ?_, fun a c9 h9 => ⟨c9, h9, rfl, rfl, fun _ _ => rfl⟩⟩
    · obtain ⟨t, ht, -⟩ := State.frames_cons hr
      show T.setVm s.vm = { ((T.setVm s.vm).setFrames (.invoking m args :: below)).setFrames (T.setVm s.vm).frames with heap := T.heap, slotsUsed := T.slotsUsed }
      rw [State.setFrames_setFrames, State.setFrames_self ht]
      rfl
    · show T.slotsUsed = T.slotsUsed + ((T.heap.toList.drop T.heap.size).map (·.slots.size)).sum
      rw [List.drop_eq_nil_of_le (Nat.le_of_eq Array.length_toList)]
      rfl
    · show ((T.heap.toList.drop T.heap.size).map (·.slots.size)).sum ≤ 0
      rw [List.drop_eq_nil_of_le (Nat.le_of_eq Array.length_toList)]
      exact Nat.le_refl _
/-- the words of the throw that the tables decide -/
def fw_ta (own : String) (ic k : Nat) : List Cond := (Bundle.ownAtoms own ic (fw_ex k) ["java/lang/RuntimeException", "java/lang/Exception"]).filter (fun w => decide (w ≠ .isRef (.static Bundle.tN "UNASSIGNED_STACK" Bundle.steD)) && decide (w ≠ .isRef (.static Bundle.tN "SUPPRESSED_SENTINEL" Bundle.listD)) && decide (w ≠ .laysStatic Bundle.tN "UNASSIGNED_STACK" Bundle.steD) && decide (w ≠ .laysStatic Bundle.tN "SUPPRESSED_SENTINEL" Bundle.listD))
theorem fw_st.lays {n dd : String} {s : State} {args : Array Value} (h : fw_st n dd s s.heap) : (Cond.laysStatic Bundle.tN n dd).before args s = true := by
  obtain ⟨c, k, i, f, a, cell, v, h1, h2, h3, h4, h5, h6, h7, h8, h9, -⟩ := h
  show (Cond.laysStatic Bundle.tN n dd).holds args s none s [] = true
  exact Cond.laysStatic_of h1 h2 h3 h4 h5 h6 h7 h8 h9
theorem fw_st.isref {n dd : String} {s : State} {args : Array Value} (h : fw_st n dd s s.heap) : (Cond.isRef (.static Bundle.tN n dd)).before args s = true := by
  obtain ⟨c, k, i, f, a, cell, v, h1, h2, h3, h4, h5, h6, h7, h8, h9, h10, h11⟩ := h
  have he : (Term.static Bundle.tN n dd).eval args s none [] s = some v := by
    simp [Term.eval, State.fieldNamed?, h2, h3, h4, h5, h6, h10]
  simp only [Cond.before, Cond.holds, Cond.value, he]
  cases v <;> simp_all [Value.isRef]
theorem fw_atoms {own : String} {ic k : Nat} {s : State} {args : Array Value} (hX : fw_X g s) (h : ∀ c ∈ fw_ta own ic k, c.before args s = true) : ∀ c ∈ Bundle.ownAtoms own ic (fw_ex k) ["java/lang/RuntimeException", "java/lang/Exception"], c.before args s = true := by
  intro c hc
  by_cases e1 : c = .isRef (.static Bundle.tN "UNASSIGNED_STACK" Bundle.steD)
  · rw [e1]; exact hX.2.1.isref
  · by_cases e2 : c = .isRef (.static Bundle.tN "SUPPRESSED_SENTINEL" Bundle.listD)
    · rw [e2]; exact hX.2.2.1.isref
    · by_cases e3 : c = .laysStatic Bundle.tN "UNASSIGNED_STACK" Bundle.steD
      · rw [e3]; exact hX.2.1.lays
      · by_cases e4 : c = .laysStatic Bundle.tN "SUPPRESSED_SENTINEL" Bundle.listD
        · rw [e4]; exact hX.2.2.1.lays
        · exact h c (List.mem_filter.mpr ⟨hc, by simp [e1, e2, e3, e4]⟩)
/-- what the tables must hold for this throw -/
def fw_tk (own : String) (ik is ic k : Nat) (tx : String) : Prop := (∀ c ∈ fw_ta own ic k, c ∈ fw_big ∧ c.onTables = true) ∧ Cond.classLink own ik (fw_ex k) ∈ fw_big ∧ Cond.instantiable (fw_ex k) 6 ∈ fw_big ∧ Cond.initialized (fw_ex k) ∈ fw_big ∧ Cond.stringRef own is tx ∈ tables_1 ∧ own = "DeltaViews" ∧ Bundle.fit (fw_ex k) = true
theorem v_throw {ik is ic k : Nat} {tx : String} (d0 : decode M.2.1 pc = .ok (.new ik, 3)) (d3 : decode M.2.1 (pc + 3) = .ok (.dup, 1)) (d4 : decode M.2.1 (pc + 4) = .ok (.ldc is, 2)) (d6 : decode M.2.1 (pc + 6) = .ok (.invokespecial ic, 3)) (d9 : decode M.2.1 (pc + 9) = .ok (.athrow, 1))
    (ht : fw_tk M.1.cls ik is ic k tx) (hh : M.2.2.2.2 = []) (hdd : 6 ≤ d) (h1 : nc + 1 ≤ mc) (h2 : ns + 6 ≤ ms) (hst : (S.map fun v => v.category).sum ≤ 8) (hE : E (.inr k) w (sz + 1)) : VV g d mc ms M w0 sz0 E pc L S w sz nc ns := by
  intro p e s m args below meth c H locs ls hC hH hz hx hl hL
  obtain ⟨t1, t2, t3, t4, t5, t6, t7⟩ := ht
  intro T hT X
  have hX := hC.2.2.2.2.2.2.2
  have htr : e.platform.stackTraces = false := Launch.traces_off hX.1 X.admits
  have Y := fw_rebase X (R' := { frames := d, locals := 39 * d, cells := 1, slots := 6 }) (Nat.le_refl _) (Nat.le_refl _) h1 h2
  obtain ⟨s', hA⟩ : ∃ z, z = (T.setVm s.vm).setFrames (.invoking m args :: below) := ⟨_, rfl⟩
  rw [← hA] at Y
  have hvm : s'.vm = s.vm := by rw [hA]; rfl
  have hhp : s'.heap = H := by rw [hA]; exact hT
  have hW0 : s.WarmedH s'.vm := by rw [hvm]; exact State.WarmedH.refl s
  have hT' : fw_T s' := hC.2.2.2.2.1.2.warm hW0
  have hXT : fw_X g T := hX.stand hC.2.2.2.2.2.2.1 hC.2.2.2.2.2.1 hl X
  have hX' : fw_X g s' := by
    refine ⟨hX.1, ?_, ?_, fun i tx hi => ?_⟩
    · rw [hhp, ← hT]
      exact hXT.2.1.kept (by rw [hvm]; exact X.warmed.alike.symm) (fun _ _ h _ => h)
    · rw [hhp, ← hT]
      exact hXT.2.2.1.kept (by rw [hvm]; exact X.warmed.alike.symm) (fun _ _ h _ => h)
    · obtain ⟨a, ha⟩ := hX.2.2.2 i tx hi
      exact ⟨a, ha.warm hW0⟩
  have hown' : s'.vm.findClass M.1.cls = some m.cls := by rw [hvm]; exact fw_K.own hC
  obtain ⟨cX, kX', f1, f2, f3, -⟩ := Cond.instantiable_spec (fw_use (A := args) hT' t3 rfl)
  obtain ⟨sa, hsa⟩ := hX'.2.2.2 is tx (by rw [← t6]; exact t5)
  have hout : ∀ y ∈ c.exceptionTable.toList, covers y (pc + 6 + 3) = false := by
    have h9 := hC.2.1.2.2.1
    rw [hh] at h9
    have : c.exceptionTable.toList = [] := List.map_eq_nil_iff.mp h9
    rw [this]
    intro y hy
    cases hy
  have hlk : meth.locks = false := hC.2.1.2.2.2.2
  have key : W p g.1 e { frames := d, locals := 39 * d, cells := 1, slots := 6 } s' m args below meth c H [] 0 0 (fw_E g w0 sz0 mc ms E below s) (F0 m pc ls S) := by
    refine W.newcK hC.1 hC.2.1.1 hown' (fw_use hT' t2 rfl) (fw_use hT' t3 rfl) (fw_use hT' t4 rfl) rfl d0 (Nat.le_refl _) (Nat.le_refl _) f1 rfl fun H1 kX hkX e1 z1 o1 => ?_
    refine lv_dup hC.1 hC.2.1.1 d3 rfl ?_
    refine va_ldcS hC.1 hC.2.1.1 hown' (by rw [t6]; exact hsa) d4 ?_
    intro T1 hT1 X1
    obtain ⟨U, u1, u2, u3, u4, u5, ce, u6, u7⟩ := X1.ctorThrowS hC.1 htr hown' t7 (by decide) (fw_atoms hX' (fun c hc => fw_use hT' (t1 c hc).1 (t1 c hc).2)) (fun x hx => nomatch hx) f1 hkX (a := H.size) (by rw [hT1]; exact e1) (by rw [hhp]; exact Nat.le_refl _) (msg := .ref sa) rfl
      (g := F0 m (pc + 6) ls (.ref sa :: .ref H.size :: .ref H.size :: S)) rfl (hL.1.trans hC.2.1.2.1.symm) rfl rfl (rest := S) rfl (by rw [hC.2.1.1]; exact d6) (by rw [hC.2.1.1]; exact d9) hout (by show 2 + 3 < d; omega)
      (by show 2 * 0 + (1 + (S.map fun v => v.category).sum) + (13 * (2 + 1) + 42) ≤ 39 * d; omega) hlk
    have hall : s.sameButNew ({ U with vm := s.vm } : State) locs (nc + 1) (ns + 6) := by
      subst hA
      obtain ⟨e1, e2⟩ := u5
      rw [State.setFrames_setFrames] at e1
      have h2 : (T.setVm s.vm).sameButNew ({ U with vm := s.vm } : State) [] (0 + 1) (0 + 6) := ⟨e1, e2⟩
      have h3 := X.same.trans h2
      rw [List.append_nil] at h3
      exact h3.mono (by omega) (by omega)
    obtain ⟨-, z2, z3, -, -, z6⟩ := u5
    have hkeep : ∀ q : Nat, q < H.size → U.heap[q]? = H[q]? := by
      intro q hq
      rw [← hhp] at hq ⊢
      obtain ⟨c9, e1, e2, e3, e4⟩ := z6 q _ (Array.getElem?_eq_getElem hq)
      have hs : c9.slots = (s'.heap[q]).slots := Array.ext_getElem? fun i => e4 i fun hm => nomatch hm
      have h9 : c9 = s'.heap[q] := by
        rw [hs] at e2
        exact e2
      have e5 : U.heap[q]? = some c9 := e1
      rw [e5, h9, Array.getElem?_eq_getElem hq]
    have hUz : U.heap.size = sz + 1 := by
      have y1 : U.heap.size ≤ s'.heap.size + (0 + 1) := z3
      have y2 : H.size < U.heap.size := (Array.getElem?_eq_some_iff.mp u6).1
      rw [hhp] at y1
      omega
    have hWs : s.WarmedH U.vm := State.WarmedH.trans hW0 u4
    refine ⟨U, u1, .threw H.size, u2, u3, ⟨.inr k, w, ⟨H.size, ce, rfl, by rw [hz]; exact hx.1, u6, u7.vm, ?_⟩, fun a e' he => (hH a e' he).kept (hkeep a (hH a e' he).lt), ?_, ?_⟩, locs, hWs, hall.mono h1 h2, hl⟩
    · have h9 := u7.cls
      rw [hvm] at h9
      rw [hWs.alike.findClass]
      exact h9
    · rw [hUz]
      exact ⟨by have := hx.1; omega, fun q hq => hx.2 q (by
        rcases hq with h | h
        · exact Or.inl h
        · exact Or.inr (by omega))⟩
    · rw [hUz]; exact hE
  exact key T hT Y
end TW
end
section
/-! More instructions. -/
section MO
variable {g : Gl} {d mc ms : Nat} {M : Mi} {w0 : Wd} {sz0 : Nat} {E : Rs → Wd → Nat → Prop} {pc : Nat} {L : List (Nat × Value)} {S : List Value} {w : Wd} {sz nc ns : Nat}
/-- Object's own constructor -/
theorem v_oinit {a idx : Nat} (hd : decode M.2.1 pc = .ok (.invokespecial idx, 3)) (k1 : Cond.methodLink M.1.cls idx objectInit ∈ fw_big) (k2 : Cond.instanceMethod objectInit ∈ fw_big) (k3 : Cond.code objectInit ⟨#[0xb1]⟩ 1 none ∈ fw_big) (hdd : 1 ≤ d) (hst : (S.map fun v => v.category).sum ≤ 8)
    (k : VV g d mc ms M w0 sz0 E (pc + 3) L S w sz nc ns) : VV g d mc ms M w0 sz0 E pc L (.ref a :: S) w sz nc ns := by
  intro p e s m args below meth c H locs ls hC hH hz hx hl hL
  have hT := hC.2.2.2.2.1.2
  exact W.objInit hC.1 hC.2.1.1 (fw_K.own hC) (fw_use hT k1 rfl) (fw_use hT k2 rfl) (fw_use hT k3 rfl) rfl (hL.1.trans hC.2.1.2.1.symm) rfl hd (by show 1 ≤ d; exact hdd) (by show 2 * 0 + (S.map fun v => v.category).sum + 12 ≤ 39 * d; omega) (k p e s m args below meth c H locs ls hC hH hz hx hl hL)
theorem v_ldc2 {idx : Nat} {v : Int64} (hd : decode M.2.1 pc = .ok (.ldc2_w idx, 3)) (hw : Cond.constantLong M.1.cls idx v ∈ fw_big) (k : VV g d mc ms M w0 sz0 E (pc + 3) L (.long v :: S) w sz nc ns) : VV g d mc ms M w0 sz0 E pc L S w sz nc ns := by
  intro p e s m args below meth c H locs ls hC hH hz hx hl hL
  exact lv_ldc2 hC.1 hC.2.1.1 (fw_K.own hC) (fw_use hC.2.2.2.2.1.2 hw rfl) hd (k p e s m args below meth c H locs ls hC hH hz hx hl hL)
theorem v_tin {dflt lo hi : Int} {offs : Array Int} {len : Nat} {x : Int32} {off : Int} {tgt : Nat} (hd : decode M.2.1 pc = .ok (.tableswitch dflt lo hi offs, len)) (h1 : ¬ x.toInt < lo) (h2 : ¬ hi < x.toInt) (ho : offs[(x.toInt - lo).toNat]? = some off) (ht : (pc : Int) + off = (tgt : Int)) (k : VV g d mc ms M w0 sz0 E tgt L S w sz nc ns) : VV g d mc ms M w0 sz0 E pc L (.int x :: S) w sz nc ns := vv_s (fun hx hb k => lv_tableIn hx hb hd h1 h2 ho ht k) k
theorem v_look {dflt : Int} {ps : Array (Int × Int)} {len : Nat} {x : Int32} {off : Int} {tgt : Nat} (hd : decode M.2.1 pc = .ok (.lookupswitch dflt ps, len)) (hp : (ps.toList.zip (ps.toList.drop 1)).all (fun (a, next) => a.1 < next.1) = true) (ho : Op.lookupswitch.offset ps.toList dflt x.toInt = off) (ht : (pc : Int) + off = (tgt : Int)) (k : VV g d mc ms M w0 sz0 E tgt L S w sz nc ns) : VV g d mc ms M w0 sz0 E pc L (.int x :: S) w sz nc ns := vv_s (fun hx hb k => lv_lookup hx hb hd hp ho ht k) k
theorem v_max {idx : Nat} {x y : Int32} (hd : decode M.2.1 pc = .ok (.invokestatic idx, 3)) (k1 : Cond.methodLink M.1.cls idx Lib.Math.max.name ∈ fw_big) (k2 : Cond.static Lib.Math.max.name ∈ fw_big) (k3 : Cond.initialized "java/lang/Math" ∈ fw_big) (k4 : Cond.code Lib.Math.max.name Lib.Math.max.code 2 (some .int) ∈ fw_big) (hdd : 1 ≤ d) (hst : (S.map fun v => v.category).sum ≤ 8) (h1 : nc ≤ mc) (h2 : ns ≤ ms)
    (k : VV g d mc ms M w0 sz0 E (pc + 3) L (.int (if x < y then y else x) :: S) w sz nc ns) : VV g d mc ms M w0 sz0 E pc L (.int y :: .int x :: S) w sz nc ns := by
  intro p e s m args below meth c H locs ls hC hH hz hx hl hL
  have hT := hC.2.2.2.2.1.2
  exact va_mmax hC.1 hC.2.1.1 (hC.2.1.2.1.trans hL.1.symm) (fw_K.own hC) (fw_use hT k1 rfl) (fw_use hT k2 rfl) (fw_use hT k3 rfl) (fw_use hT k4 rfl) hdd (by show (S.map fun v => v.category).sum + 13 ≤ 39 * d; omega) h1 h2 hd (k p e s m args below meth c H locs ls hC hH hz hx hl hL)
/-- lengths -/
theorem v_aleni {a n : Nat} {f : Nat → Int32} (hd : decode M.2.1 pc = .ok (.arraylength, 1)) (ha : w a = some (cI n f)) (k : VV g d mc ms M w0 sz0 E (pc + 1) L (.int (nI n) :: S) w sz nc ns) : VV g d mc ms M w0 sz0 E pc L (.ref a :: S) w sz nc ns := by
  intro p e s m args below meth c H locs ls hC hH hz hx hl hL
  exact W.alen (n := nI n) hC.1 hC.2.1.1 (hH a _ ha) ((fw_ti hC.2.2.2.2.1).1 n (fun j => .int (f j))) (by rw [vp_cell_i, arrV_size] <;> rfl) rfl rfl hd (k p e s m args below meth c H locs ls hC hH hz hx hl hL)
/-- references into an array of views -/
theorem v_aast {a n v ci : Nat} {f : Nat → Option Nat} {fs : List Value} {i : Int32} (hd : decode M.2.1 pc = .ok (.aastore, 1)) (ha : w a = some (cR n f)) (hv : w v = some (cO 1 fs)) (hin : vp_in i n) (k : VV g d mc ms M w0 sz0 E (pc + 1) L S (fw_up w a (cR n (va_up f i.toNatClampNeg (some v)))) sz nc ns) : VV g d mc ms M w0 sz0 E pc L (.ref v :: .int i :: .ref a :: S) w sz nc ns := by
  intro p e s m args below meth c H locs ls hC hH hz hx hl hL
  have hlt : i.toNatClampNeg < n := Nat.not_le.mp fun q => hin (Or.inr q)
  have h0 : ¬ i < 0 := fun q => hin (Or.inl q)
  obtain ⟨r', hr', cellV, g1, g2, g3, -⟩ := hH v _ hv
  have hcls := (hC.2.2.2.2.1.1.1 1 _ rfl).2
  obtain ⟨kA, comp, k1, k2, k3, -⟩ := (fw_tr hC.2.2.2.2.1).2
  have hcomp : comp = g.2.1.1 1 := Option.some.inj (k3.symm.trans hcls.1)
  subst hcomp
  obtain ⟨kC, hkC, -⟩ := hcls.2
  refine W.aast hC.1 hC.2.1.1 (hH a _ ha) (fun q h => by cases h) (fun h => by cases h) k1 k2 rfl hkC ⟨h0, by show _ < (arrV _ _ _).slots.size; rw [arrV_size]; exact hlt⟩ g1 (fun q h => by rw [g3] at h; cases h) (by rw [g2]; exact hkC) (by rw [g2]; exact va_assign hcls) rfl rfl hd fun H1 e1 z oq => ?_
  refine k p e s m args below meth c H1 _ ls hC (hH.set ?_ oq) (z.trans hz) (hx.tr (fw_ext.up ha rfl)) (fw_locs hl (hx.2 a (Or.inl ⟨_, ha, rfl⟩))) hL
  show H1[a]? = some (vp_cell _ _)
  rw [e1]
  show some ((vp_cell g.2.2.2.2 (n, .inr (.inr (.inr (.inr f))))).setSlot _ _) = _
  rw [vp_cell_q, vp_cell_q, arrV_store]
  congr 2
  funext q
  by_cases hq : q = i.toNatClampNeg
  · subst hq
    simp [updV, va_up, va_rf]
  · simp [updV, va_up, hq]
theorem v_newr {idx N : Nat} {n : Int32} (hd : decode M.2.1 pc = .ok (.anewarray idx, 3)) (hw : Cond.classLink M.1.cls idx "DeltaViews$View" ∈ fw_big) (hov : ∀ U : State, fw_T U → va_AO "DeltaViews$View" U) (hn : n = nI N) (hN : N ≤ 100000) (h1 : nc + 1 ≤ mc) (h2 : ns + N ≤ ms) (k : VV g d mc ms M w0 sz0 E (pc + 3) L (.ref sz :: S) (fw_up w sz (cR N (fun _ => none))) (sz + 1) (nc + 1) (ns + N)) :
    VV g d mc ms M w0 sz0 E pc L (.int n :: S) w sz nc ns := by
  intro p e s m args below meth c H locs ls hC hH hz hx hl hL
  subst hn
  have hcl : (nI N).toNatClampNeg = N := nI_clamp (by omega)
  have h2' : ns + (nI N).toNatClampNeg ≤ (fw_rm d mc ms).slots := by rw [hcl]; exact h2
  refine W.anew hC.1 hC.2.1.1 (fw_K.own hC) (fw_use hC.2.2.2.2.1.2 hw rfl) (va_AO.use (hov s hC.2.2.2.2.1.2)) rfl hd rfl (nI_pos (by omega)) (by rw [hcl]; omega) h1 h2' fun cA kA comp f1 f2 f3 f4 => ?_
  rw [hcl]
  obtain ⟨kA', comp', k1, k2, k3, k4⟩ := (fw_tr hC.2.2.2.2.1).2
  have hcA : cA = g.2.2.2.2 := Option.some.inj (f1.symm.trans k4)
  subst hcA
  subst hz
  refine k p e s m args below meth c _ locs ls hC (hH.born ?_ (fun q hq => ?_)) (by rw [Array.size_push]) (hx.tr fw_ext.new) hl hL
  · show (H.push _)[H.size]? = some (arrV g.2.2.2.2 N (fun _ => .null))
    rw [Array.getElem?_push_size, ← arrV_new]
  · rw [Array.getElem?_push, if_neg (Nat.ne_of_lt hq)]
/-- copying -/
theorem v_copyi {idx a0 a n0 n1 sp dp n : Nat} {f f1 : Nat → Int32} (hd : decode M.2.1 pc = .ok (.invokestatic idx, 3)) (k1 : Cond.methodLink M.1.cls idx arraycopyName ∈ fw_big) (k2 : Cond.native arraycopyName ∈ fw_big) (k3 : Cond.static arraycopyName ∈ fw_big) (k4 : Cond.initialized "java/lang/System" ∈ fw_big)
    (ha0 : w a0 = some (cI n0 f)) (ha : w a = some (cI n1 f1)) (h4 : sp + n ≤ n0) (h5 : dp + n ≤ n1) (hb0 : n0 < 2 ^ 31) (hb1 : n1 < 2 ^ 31) (hdd : 2 ≤ d) (hst : (S.map fun v => v.category).sum ≤ 8)
    (k : VV g d mc ms M w0 sz0 E (pc + 3) L S (fw_up w a (cI n1 (va_cpy f f1 sp dp n))) sz nc ns) : VV g d mc ms M w0 sz0 E pc L (.int (nI n) :: .int (nI dp) :: .ref a :: .int (nI sp) :: .ref a0 :: S) w sz nc ns := by
  intro p e s m args below meth c H locs ls hC hH hz hx hl hL
  have hT := hC.2.2.2.2.1.2
  intro T hT0 X
  have hc0 : H[a0]? = some (vp_cell g.2.2.1 (n0, .inl f)) := hH a0 _ ha0
  have hc1 : H[a]? = some (vp_cell g.2.2.1 (n1, .inl f1)) := hH a _ ha
  obtain ⟨-, q0, hk0, cm0, hkk0⟩ := (fw_ti hC.2.2.2.2.1).1 n0 (fun j => .int (f j))
  have h8 : nativeFrameWords "java/lang/System" "arraycopy" 5 + 11 ≤ 40 := by decide
  have e1' : (nI sp).toNatClampNeg = sp := nI_clamp (by omega)
  have e2' : (nI dp).toNatClampNeg = dp := nI_clamp (by omega)
  have e3' : (nI n).toNatClampNeg = n := nI_clamp (by omega)
  obtain ⟨vm', X', step⟩ := X.arraycopy hC.1 (fw_K.own hC) (fw_use hT k1 rfl) (fw_use hT k2 rfl) (fw_use hT k3 rfl) (fw_use hT k4 rfl) (src := a0) (dst := a) (cs := vp_cell g.2.2.1 (n0, .inl f)) (cd := vp_cell g.2.2.1 (n1, .inl f1)) (srcPos := nI sp) (destPos := nI dp) (n := nI n) (by rw [hT0]; exact hc0) (by rw [hT0]; exact hc1)
    (fun _ h => by cases h) (fun _ h => by cases h) (fun h => by cases h) (fun h => by cases h) hk0 hk0 hkk0 hkk0 (by simp [refKind]) (nI_pos (by omega)) (nI_pos (by omega)) (nI_pos (by omega))
    (by rw [nI_toInt (by omega), nI_toInt (by omega)]; show ¬ _ > ((arrV g.2.2.1 n0 (fun j => .int (f j))).slots.size : Int); rw [arrV_size]; omega)
    (by rw [nI_toInt (by omega), nI_toInt (by omega)]; show ¬ _ > ((arrV g.2.2.1 n1 (fun j => .int (f1 j))).slots.size : Int); rw [arrV_size]; omega)
    (fun vm₁ _ i hi => by
      rw [e3'] at hi
      have e : (vp_cell g.2.2.1 (n0, .inl f)).slots.getD ((nI sp).toNatClampNeg + i) .null = .int (f ((nI sp).toNatClampNeg + i)) := by
        show (arrV g.2.2.1 n0 (fun j => .int (f j))).slots.getD _ _ = _
        rw [Array.getD_eq_getD_getElem?, arrV_read _ _ (by rw [e1']; omega)]
        rfl
      refine ⟨?_, ?_⟩
      · rw [e]; rfl
      · rw [e]; exact trivial)
    (g := F0 m pc ls (.int (nI n) :: .int (nI dp) :: .ref a :: .int (nI sp) :: .ref a0 :: S)) rfl (hL.1.trans hC.2.1.2.1.symm) (rest := S) rfl (by rw [hC.2.1.1]; exact hd) (by show 1 ≤ d; omega) (by show 2 * 0 + (S.map fun v => v.category).sum + (nativeFrameWords "java/lang/System" "arraycopy" 5 + 11) ≤ 39 * d; omega)
  have e1 : copied (vp_cell g.2.2.1 (n0, .inl f)) (vp_cell g.2.2.1 (n1, .inl f1)) (nI sp) (nI dp) (nI n) = vp_cell g.2.2.1 (n1, .inl (va_cpy f f1 sp dp n)) := by
    have h9 := va_copied (fun z : Int32 => Value.int z) g.2.2.1 g.2.2.1 (n1 := n1) (dp := (nI dp).toNatClampNeg) f f1 (sp := (nI sp).toNatClampNeg) (n := (nI n).toNatClampNeg) (n0 := n0) (by rw [e1', e3']; exact h4)
    rw [e1', e2', e3'] at h9
    have h10 : copied (vp_cell g.2.2.1 (n0, .inl f)) (vp_cell g.2.2.1 (n1, .inl f1)) (nI sp) (nI dp) (nI n) = (vp_cell g.2.2.1 (n1, .inl f1)).storeRun (nI dp).toNatClampNeg ((vp_cell g.2.2.1 (n0, .inl f)).stretch (nI sp).toNatClampNeg (nI n).toNatClampNeg) := rfl
    rw [h10, e1', e2', e3']
    exact h9
  rw [e1] at X' step
  have hlt : a < H.size := (Array.getElem?_eq_some_iff.mp hc1).1
  have hheap : ((T.setVm vm').setCell a (vp_cell g.2.2.1 (n1, .inl (va_cpy f f1 sp dp n)))).heap = H.setIfInBounds a (vp_cell g.2.2.1 (n1, .inl (va_cpy f f1 sp dp n))) := by rw [← hT0]; rfl
  have oq : ∀ q : Nat, q ≠ a → (H.setIfInBounds a (vp_cell g.2.2.1 (n1, .inl (va_cpy f f1 sp dp n))))[q]? = H[q]? := fun q hq => by simp [Array.getElem?_setIfInBounds, Ne.symm hq]
  obtain ⟨t, a1, b1⟩ := k p e s m args below meth c _ _ ls hC (hH.set (show (H.setIfInBounds a _)[a]? = some _ by simp [Array.getElem?_setIfInBounds, hlt]) oq) (by rw [Array.size_setIfInBounds]; exact hz) (hx.tr (fw_ext.up ha rfl)) (fun q hq => by
      rcases List.mem_append.mp hq with h | h
      · exact hl q h
      · obtain ⟨z, -, hz⟩ := List.mem_map.mp h
        rw [← hz]
        exact hx.2 a (Or.inl ⟨_, ha, rfl⟩)) hL _ hheap X'
  exact ⟨t, step t a1, b1⟩
end MO
end
