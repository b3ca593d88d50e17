section
-- ===== PART A: goes FIRST, ahead of the names: the tables' words, and 'selects' of the private methods out of them =====
/-- a private method of a class that the tables say can be made, by its rows of tables_1 -/
def lw_okq (q : MethodName × Nat) : Prop := (q.1.cls ≠ "java/lang/invoke/MethodHandle" ∧ q.1.cls ≠ "java/lang/invoke/VarHandle") ∧ Cond.instantiable q.1.cls q.2 ∈ tables_1 ∧ Cond.privateMethod q.1 ∈ tables_1 ∧ Cond.instanceMethod q.1 ∈ tables_1
theorem lw_p0 : lw_okq (⟨"java/lang/Throwable", "fillInStackTrace", "(I)Ljava/lang/Throwable;"⟩, 6) := ⟨⟨by decide +kernel, by decide +kernel⟩, List.mem_of_getElem? (i := 196) (by decide +kernel), List.mem_of_getElem? (i := 194) (by decide +kernel), List.mem_of_getElem? (i := 195) (by decide +kernel)⟩
theorem lw_p1 : lw_okq (⟨"DeltaViews", "renewViews", "()Z"⟩, 3) := ⟨⟨by decide +kernel, by decide +kernel⟩, List.mem_of_getElem? (i := 24) (by decide +kernel), List.mem_of_getElem? (i := 276) (by decide +kernel), List.mem_of_getElem? (i := 277) (by decide +kernel)⟩
theorem lw_p2 : lw_okq (⟨"DeltaViews$Bag", "placeOfPending", "()I"⟩, 5) := ⟨⟨by decide +kernel, by decide +kernel⟩, List.mem_of_getElem? (i := 72) (by decide +kernel), List.mem_of_getElem? (i := 314) (by decide +kernel), List.mem_of_getElem? (i := 315) (by decide +kernel)⟩
theorem lw_p3 : lw_okq (⟨"DeltaViews$Bag", "orderOfCells", "(I[II)I"⟩, 5) := ⟨⟨by decide +kernel, by decide +kernel⟩, List.mem_of_getElem? (i := 72) (by decide +kernel), List.mem_of_getElem? (i := 318) (by decide +kernel), List.mem_of_getElem? (i := 319) (by decide +kernel)⟩
theorem lw_p4 : lw_okq (⟨"DeltaViews$Bag", "isPending", "(I)Z"⟩, 5) := ⟨⟨by decide +kernel, by decide +kernel⟩, List.mem_of_getElem? (i := 72) (by decide +kernel), List.mem_of_getElem? (i := 322) (by decide +kernel), List.mem_of_getElem? (i := 323) (by decide +kernel)⟩
theorem lw_p5 : lw_okq (⟨"DeltaViews$Bag", "remove", "(I)V"⟩, 5) := ⟨⟨by decide +kernel, by decide +kernel⟩, List.mem_of_getElem? (i := 72) (by decide +kernel), List.mem_of_getElem? (i := 326) (by decide +kernel), List.mem_of_getElem? (i := 327) (by decide +kernel)⟩
theorem lw_p6 : lw_okq (⟨"DeltaViews$Bag", "insert", "(IJ)V"⟩, 5) := ⟨⟨by decide +kernel, by decide +kernel⟩, List.mem_of_getElem? (i := 72) (by decide +kernel), List.mem_of_getElem? (i := 333) (by decide +kernel), List.mem_of_getElem? (i := 334) (by decide +kernel)⟩
theorem lw_p7 : lw_okq (⟨"DeltaViews$Group", "isFirstOfGroup", "(LDeltaViews$Bag;I)Z"⟩, 4) := ⟨⟨by decide +kernel, by decide +kernel⟩, List.mem_of_getElem? (i := 343) (by decide +kernel), List.mem_of_getElem? (i := 341) (by decide +kernel), List.mem_of_getElem? (i := 342) (by decide +kernel)⟩
theorem lw_p8 : lw_okq (⟨"DeltaViews$Group", "fold", "(LDeltaViews$Bag;I)I"⟩, 4) := ⟨⟨by decide +kernel, by decide +kernel⟩, List.mem_of_getElem? (i := 343) (by decide +kernel), List.mem_of_getElem? (i := 348) (by decide +kernel), List.mem_of_getElem? (i := 349) (by decide +kernel)⟩
theorem lw_p9 : lw_okq (⟨"DeltaViews$Group", "worth", "(LDeltaViews$Bag;I)I"⟩, 4) := ⟨⟨by decide +kernel, by decide +kernel⟩, List.mem_of_getElem? (i := 343) (by decide +kernel), List.mem_of_getElem? (i := 352) (by decide +kernel), List.mem_of_getElem? (i := 353) (by decide +kernel)⟩
theorem lw_p10 : lw_okq (⟨"DeltaViews$Join", "addPartners", "(ILDeltaViews$Bag;)V"⟩, 4) := ⟨⟨by decide +kernel, by decide +kernel⟩, List.mem_of_getElem? (i := 370) (by decide +kernel), List.mem_of_getElem? (i := 368) (by decide +kernel), List.mem_of_getElem? (i := 369) (by decide +kernel)⟩
theorem lw_p11 : lw_okq (⟨"DeltaViews$Select", "passes", "(I)Z"⟩, 4) := ⟨⟨by decide +kernel, by decide +kernel⟩, List.mem_of_getElem? (i := 395) (by decide +kernel), List.mem_of_getElem? (i := 393) (by decide +kernel), List.mem_of_getElem? (i := 394) (by decide +kernel)⟩
theorem lw_p12 : lw_okq (⟨"DeltaViews", "takeBack", "(I)V"⟩, 3) := ⟨⟨by decide +kernel, by decide +kernel⟩, List.mem_of_getElem? (i := 24) (by decide +kernel), List.mem_of_getElem? (i := 446) (by decide +kernel), List.mem_of_getElem? (i := 447) (by decide +kernel)⟩
theorem lw_p13 : lw_okq (⟨"DeltaViews$Bag", "orderOfRows", "(ILDeltaViews$Bag;I)I"⟩, 5) := ⟨⟨by decide +kernel, by decide +kernel⟩, List.mem_of_getElem? (i := 72) (by decide +kernel), List.mem_of_getElem? (i := 460) (by decide +kernel), List.mem_of_getElem? (i := 461) (by decide +kernel)⟩
theorem lw_p14 : lw_okq (⟨"DeltaViews", "viewAt", "(I)LDeltaViews$View;"⟩, 3) := ⟨⟨by decide +kernel, by decide +kernel⟩, List.mem_of_getElem? (i := 24) (by decide +kernel), List.mem_of_getElem? (i := 471) (by decide +kernel), List.mem_of_getElem? (i := 472) (by decide +kernel)⟩
theorem lw_p15 : lw_okq (⟨"DeltaViews", "makeView", "(LDeltaViews$Operation;)I"⟩, 3) := ⟨⟨by decide +kernel, by decide +kernel⟩, List.mem_of_getElem? (i := 24) (by decide +kernel), List.mem_of_getElem? (i := 499) (by decide +kernel), List.mem_of_getElem? (i := 500) (by decide +kernel)⟩
def lw_privs_1 : List (MethodName × Nat) := [(⟨"java/lang/Throwable", "fillInStackTrace", "(I)Ljava/lang/Throwable;"⟩, 6), (⟨"DeltaViews", "renewViews", "()Z"⟩, 3), (⟨"DeltaViews$Bag", "placeOfPending", "()I"⟩, 5), (⟨"DeltaViews$Bag", "orderOfCells", "(I[II)I"⟩, 5), (⟨"DeltaViews$Bag", "isPending", "(I)Z"⟩, 5), (⟨"DeltaViews$Bag", "remove", "(I)V"⟩, 5), (⟨"DeltaViews$Bag", "insert", "(IJ)V"⟩, 5), (⟨"DeltaViews$Group", "isFirstOfGroup", "(LDeltaViews$Bag;I)Z"⟩, 4), (⟨"DeltaViews$Group", "fold", "(LDeltaViews$Bag;I)I"⟩, 4), (⟨"DeltaViews$Group", "worth", "(LDeltaViews$Bag;I)I"⟩, 4), (⟨"DeltaViews$Join", "addPartners", "(ILDeltaViews$Bag;)V"⟩, 4), (⟨"DeltaViews$Select", "passes", "(I)Z"⟩, 4), (⟨"DeltaViews", "takeBack", "(I)V"⟩, 3), (⟨"DeltaViews$Bag", "orderOfRows", "(ILDeltaViews$Bag;I)I"⟩, 5), (⟨"DeltaViews", "viewAt", "(I)LDeltaViews$View;"⟩, 3), (⟨"DeltaViews", "makeView", "(LDeltaViews$Operation;)I"⟩, 3)]
theorem lw_r1 : ∀ q ∈ lw_privs_1, lw_okq q := List.forall_mem_cons.mpr ⟨lw_p0, List.forall_mem_cons.mpr ⟨lw_p1, List.forall_mem_cons.mpr ⟨lw_p2, List.forall_mem_cons.mpr ⟨lw_p3, List.forall_mem_cons.mpr ⟨lw_p4, List.forall_mem_cons.mpr ⟨lw_p5, List.forall_mem_cons.mpr ⟨lw_p6, List.forall_mem_cons.mpr ⟨lw_p7, List.forall_mem_cons.mpr ⟨lw_p8, List.forall_mem_cons.mpr ⟨lw_p9, List.forall_mem_cons.mpr ⟨lw_p10, List.forall_mem_cons.mpr ⟨lw_p11, List.forall_mem_cons.mpr ⟨lw_p12, List.forall_mem_cons.mpr ⟨lw_p13, List.forall_mem_cons.mpr ⟨lw_p14, List.forall_mem_cons.mpr ⟨lw_p15, fun _ h => absurd h List.not_mem_nil⟩⟩⟩⟩⟩⟩⟩⟩⟩⟩⟩⟩⟩⟩⟩⟩
theorem lw_p16 : lw_okq (⟨"DeltaViewsModel", "tryTable", "(I)Z"⟩, 22) := ⟨⟨by decide +kernel, by decide +kernel⟩, List.mem_of_getElem? (i := 701) (by decide +kernel), List.mem_of_getElem? (i := 790) (by decide +kernel), List.mem_of_getElem? (i := 791) (by decide +kernel)⟩
theorem lw_p17 : lw_okq (⟨"DeltaViewsModel", "take", "(II)V"⟩, 22) := ⟨⟨by decide +kernel, by decide +kernel⟩, List.mem_of_getElem? (i := 701) (by decide +kernel), List.mem_of_getElem? (i := 794) (by decide +kernel), List.mem_of_getElem? (i := 795) (by decide +kernel)⟩
theorem lw_p18 : lw_okq (⟨"DeltaViewsModel", "cellOf", "(III)I"⟩, 22) := ⟨⟨by decide +kernel, by decide +kernel⟩, List.mem_of_getElem? (i := 701) (by decide +kernel), List.mem_of_getElem? (i := 798) (by decide +kernel), List.mem_of_getElem? (i := 799) (by decide +kernel)⟩
theorem lw_p19 : lw_okq (⟨"DeltaViewsModel", "gather", "(IJ)V"⟩, 22) := ⟨⟨by decide +kernel, by decide +kernel⟩, List.mem_of_getElem? (i := 701) (by decide +kernel), List.mem_of_getElem? (i := 802) (by decide +kernel), List.mem_of_getElem? (i := 803) (by decide +kernel)⟩
theorem lw_p20 : lw_okq (⟨"DeltaViewsModel", "isRow", "(II)Z"⟩, 22) := ⟨⟨by decide +kernel, by decide +kernel⟩, List.mem_of_getElem? (i := 701) (by decide +kernel), List.mem_of_getElem? (i := 806) (by decide +kernel), List.mem_of_getElem? (i := 807) (by decide +kernel)⟩
theorem lw_p21 : lw_okq (⟨"DeltaViewsModel", "settle", "(III)Z"⟩, 22) := ⟨⟨by decide +kernel, by decide +kernel⟩, List.mem_of_getElem? (i := 701) (by decide +kernel), List.mem_of_getElem? (i := 811) (by decide +kernel), List.mem_of_getElem? (i := 812) (by decide +kernel)⟩
theorem lw_p22 : lw_okq (⟨"DeltaViewsModel", "comesBefore", "(III)Z"⟩, 22) := ⟨⟨by decide +kernel, by decide +kernel⟩, List.mem_of_getElem? (i := 701) (by decide +kernel), List.mem_of_getElem? (i := 815) (by decide +kernel), List.mem_of_getElem? (i := 816) (by decide +kernel)⟩
theorem lw_p23 : lw_okq (⟨"DeltaViewsModel", "work", "(II)Z"⟩, 22) := ⟨⟨by decide +kernel, by decide +kernel⟩, List.mem_of_getElem? (i := 701) (by decide +kernel), List.mem_of_getElem? (i := 819) (by decide +kernel), List.mem_of_getElem? (i := 820) (by decide +kernel)⟩
theorem lw_p24 : lw_okq (⟨"DeltaViewsModel", "selects", "(II)V"⟩, 22) := ⟨⟨by decide +kernel, by decide +kernel⟩, List.mem_of_getElem? (i := 701) (by decide +kernel), List.mem_of_getElem? (i := 823) (by decide +kernel), List.mem_of_getElem? (i := 824) (by decide +kernel)⟩
theorem lw_p25 : lw_okq (⟨"DeltaViewsModel", "projects", "(II)V"⟩, 22) := ⟨⟨by decide +kernel, by decide +kernel⟩, List.mem_of_getElem? (i := 701) (by decide +kernel), List.mem_of_getElem? (i := 830) (by decide +kernel), List.mem_of_getElem? (i := 831) (by decide +kernel)⟩
theorem lw_p26 : lw_okq (⟨"DeltaViewsModel", "joins", "(III)V"⟩, 22) := ⟨⟨by decide +kernel, by decide +kernel⟩, List.mem_of_getElem? (i := 701) (by decide +kernel), List.mem_of_getElem? (i := 834) (by decide +kernel), List.mem_of_getElem? (i := 835) (by decide +kernel)⟩
theorem lw_p27 : lw_okq (⟨"DeltaViewsModel", "all", "(IIZ)V"⟩, 22) := ⟨⟨by decide +kernel, by decide +kernel⟩, List.mem_of_getElem? (i := 701) (by decide +kernel), List.mem_of_getElem? (i := 838) (by decide +kernel), List.mem_of_getElem? (i := 839) (by decide +kernel)⟩
theorem lw_p28 : lw_okq (⟨"DeltaViewsModel", "groups", "(II)V"⟩, 22) := ⟨⟨by decide +kernel, by decide +kernel⟩, List.mem_of_getElem? (i := 701) (by decide +kernel), List.mem_of_getElem? (i := 842) (by decide +kernel), List.mem_of_getElem? (i := 843) (by decide +kernel)⟩
theorem lw_p29 : lw_okq (⟨"DeltaViewsModel", "result", "(III)I"⟩, 22) := ⟨⟨by decide +kernel, by decide +kernel⟩, List.mem_of_getElem? (i := 701) (by decide +kernel), List.mem_of_getElem? (i := 846) (by decide +kernel), List.mem_of_getElem? (i := 847) (by decide +kernel)⟩
theorem lw_p30 : lw_okq (⟨"DeltaViewsModel", "takeOver", "(I)V"⟩, 22) := ⟨⟨by decide +kernel, by decide +kernel⟩, List.mem_of_getElem? (i := 701) (by decide +kernel), List.mem_of_getElem? (i := 850) (by decide +kernel), List.mem_of_getElem? (i := 851) (by decide +kernel)⟩
theorem lw_p31 : lw_okq (⟨"DeltaViewsModel", "differing", "(I)I"⟩, 22) := ⟨⟨by decide +kernel, by decide +kernel⟩, List.mem_of_getElem? (i := 701) (by decide +kernel), List.mem_of_getElem? (i := 854) (by decide +kernel), List.mem_of_getElem? (i := 855) (by decide +kernel)⟩
def lw_privs_2 : List (MethodName × Nat) := [(⟨"DeltaViewsModel", "tryTable", "(I)Z"⟩, 22), (⟨"DeltaViewsModel", "take", "(II)V"⟩, 22), (⟨"DeltaViewsModel", "cellOf", "(III)I"⟩, 22), (⟨"DeltaViewsModel", "gather", "(IJ)V"⟩, 22), (⟨"DeltaViewsModel", "isRow", "(II)Z"⟩, 22), (⟨"DeltaViewsModel", "settle", "(III)Z"⟩, 22), (⟨"DeltaViewsModel", "comesBefore", "(III)Z"⟩, 22), (⟨"DeltaViewsModel", "work", "(II)Z"⟩, 22), (⟨"DeltaViewsModel", "selects", "(II)V"⟩, 22), (⟨"DeltaViewsModel", "projects", "(II)V"⟩, 22), (⟨"DeltaViewsModel", "joins", "(III)V"⟩, 22), (⟨"DeltaViewsModel", "all", "(IIZ)V"⟩, 22), (⟨"DeltaViewsModel", "groups", "(II)V"⟩, 22), (⟨"DeltaViewsModel", "result", "(III)I"⟩, 22), (⟨"DeltaViewsModel", "takeOver", "(I)V"⟩, 22), (⟨"DeltaViewsModel", "differing", "(I)I"⟩, 22)]
theorem lw_r2 : ∀ q ∈ lw_privs_2, lw_okq q := List.forall_mem_cons.mpr ⟨lw_p16, List.forall_mem_cons.mpr ⟨lw_p17, List.forall_mem_cons.mpr ⟨lw_p18, List.forall_mem_cons.mpr ⟨lw_p19, List.forall_mem_cons.mpr ⟨lw_p20, List.forall_mem_cons.mpr ⟨lw_p21, List.forall_mem_cons.mpr ⟨lw_p22, List.forall_mem_cons.mpr ⟨lw_p23, List.forall_mem_cons.mpr ⟨lw_p24, List.forall_mem_cons.mpr ⟨lw_p25, List.forall_mem_cons.mpr ⟨lw_p26, List.forall_mem_cons.mpr ⟨lw_p27, List.forall_mem_cons.mpr ⟨lw_p28, List.forall_mem_cons.mpr ⟨lw_p29, List.forall_mem_cons.mpr ⟨lw_p30, List.forall_mem_cons.mpr ⟨lw_p31, fun _ h => absurd h List.not_mem_nil⟩⟩⟩⟩⟩⟩⟩⟩⟩⟩⟩⟩⟩⟩⟩⟩
theorem lw_p32 : lw_okq (⟨"DeltaViewsModel", "timesOf", "(IIII)J"⟩, 22) := ⟨⟨by decide +kernel, by decide +kernel⟩, List.mem_of_getElem? (i := 701) (by decide +kernel), List.mem_of_getElem? (i := 858) (by decide +kernel), List.mem_of_getElem? (i := 859) (by decide +kernel)⟩
theorem lw_p33 : lw_okq (⟨"DeltaViewsModel", "isColumn", "(II)Z"⟩, 22) := ⟨⟨by decide +kernel, by decide +kernel⟩, List.mem_of_getElem? (i := 701) (by decide +kernel), List.mem_of_getElem? (i := 866) (by decide +kernel), List.mem_of_getElem? (i := 867) (by decide +kernel)⟩
theorem lw_p34 : lw_okq (⟨"DeltaViewsModel", "isView", "(I)Z"⟩, 22) := ⟨⟨by decide +kernel, by decide +kernel⟩, List.mem_of_getElem? (i := 701) (by decide +kernel), List.mem_of_getElem? (i := 870) (by decide +kernel), List.mem_of_getElem? (i := 871) (by decide +kernel)⟩
theorem lw_p35 : lw_okq (⟨"DeltaViewsModel", "told", "(III)V"⟩, 22) := ⟨⟨by decide +kernel, by decide +kernel⟩, List.mem_of_getElem? (i := 701) (by decide +kernel), List.mem_of_getElem? (i := 874) (by decide +kernel), List.mem_of_getElem? (i := 875) (by decide +kernel)⟩
theorem lw_p36 : lw_okq (⟨"DeltaViewsModel", "make", "(IIIII)I"⟩, 22) := ⟨⟨by decide +kernel, by decide +kernel⟩, List.mem_of_getElem? (i := 701) (by decide +kernel), List.mem_of_getElem? (i := 878) (by decide +kernel), List.mem_of_getElem? (i := 879) (by decide +kernel)⟩
def lw_privs_3 : List (MethodName × Nat) := [(⟨"DeltaViewsModel", "timesOf", "(IIII)J"⟩, 22), (⟨"DeltaViewsModel", "isColumn", "(II)Z"⟩, 22), (⟨"DeltaViewsModel", "isView", "(I)Z"⟩, 22), (⟨"DeltaViewsModel", "told", "(III)V"⟩, 22), (⟨"DeltaViewsModel", "make", "(IIIII)I"⟩, 22)]
theorem lw_r3 : ∀ q ∈ lw_privs_3, lw_okq q := List.forall_mem_cons.mpr ⟨lw_p32, List.forall_mem_cons.mpr ⟨lw_p33, List.forall_mem_cons.mpr ⟨lw_p34, List.forall_mem_cons.mpr ⟨lw_p35, List.forall_mem_cons.mpr ⟨lw_p36, fun _ h => absurd h List.not_mem_nil⟩⟩⟩⟩⟩
def lw_privs : List (MethodName × Nat) := lw_privs_1 ++ (lw_privs_2 ++ (lw_privs_3))
def lw_tbl : List Cond := k2_sels lw_privs ++ tables_1
theorem lw_privs_ok : ∀ q ∈ lw_privs, lw_okq q := by
  show ∀ q ∈ lw_privs_1 ++ (lw_privs_2 ++ (lw_privs_3)), lw_okq q
  exact List.forall_mem_append.mpr ⟨lw_r1, List.forall_mem_append.mpr ⟨lw_r2, lw_r3⟩⟩
/-! field tables, methods -/
def T_DV : u_T := fun k => match k with
  | 0 => ("DeltaViews", "views", "[LDeltaViews$View;", true)
  | 1 => ("DeltaViews", "count", "I", false)
  | _ => ("DeltaViews", "batch", "LDeltaViews$Batch;", true)
def ty_DV : Nat → FieldType := fun k => match k with
  | 0 => .array (.object "DeltaViews$View")
  | 1 => .int
  | _ => .object "DeltaViews$Batch"
def T_View : u_T := fun k => match k with
  | 0 => ("DeltaViews$View", "operation", "LDeltaViews$Operation;", false)
  | 1 => ("DeltaViews$View", "now", "LDeltaViews$Bag;", false)
  | 2 => ("DeltaViews$View", "before", "LDeltaViews$Bag;", false)
  | _ => ("DeltaViews$View", "moved", "I", false)
def ty_View : Nat → FieldType := fun k => match k with
  | 0 => .object "DeltaViews$Operation"
  | 1 => .object "DeltaViews$Bag"
  | 2 => .object "DeltaViews$Bag"
  | _ => .int
def T_Bag : u_T := fun k => match k with
  | 0 => ("DeltaViews$Bag", "width", "I", false)
  | 1 => ("DeltaViews$Bag", "size", "I", false)
  | 2 => ("DeltaViews$Bag", "cells", "[I", true)
  | 3 => ("DeltaViews$Bag", "multiplicities", "[J", true)
  | _ => ("DeltaViews$Bag", "pending", "[I", true)
def ty_Bag : Nat → FieldType := fun k => match k with
  | 0 => .int
  | 1 => .int
  | 2 => .array .int
  | 3 => .array .long
  | _ => .array .int
def T_Batch : u_T := fun k => match k with
  | 0 => ("DeltaViews$Batch", "table", "[I", true)
  | 1 => ("DeltaViews$Batch", "a", "[I", true)
  | 2 => ("DeltaViews$Batch", "b", "[I", true)
  | 3 => ("DeltaViews$Batch", "by", "[I", true)
  | _ => ("DeltaViews$Batch", "size", "I", false)
def ty_Batch : Nat → FieldType := fun k => match k with
  | 0 => .array .int
  | 1 => .array .int
  | 2 => .array .int
  | 3 => .array .int
  | _ => .int
def T_Table : u_T := fun k => match k with
  | _ => ("", "", "", false)
def ty_Table : Nat → FieldType := fun k => match k with
  | _ => .int
def T_Select : u_T := fun k => match k with
  | 0 => ("DeltaViews$Select", "source", "LDeltaViews$View;", true)
  | 1 => ("DeltaViews$Select", "column", "I", true)
  | 2 => ("DeltaViews$Select", "test", "I", true)
  | _ => ("DeltaViews$Select", "number", "I", true)
def ty_Select : Nat → FieldType := fun k => match k with
  | 0 => .object "DeltaViews$View"
  | 1 => .int
  | 2 => .int
  | _ => .int
def T_Project : u_T := fun k => match k with
  | 0 => ("DeltaViews$Project", "source", "LDeltaViews$View;", true)
  | 1 => ("DeltaViews$Project", "newWidth", "I", true)
  | _ => ("DeltaViews$Project", "columns", "I", true)
def ty_Project : Nat → FieldType := fun k => match k with
  | 0 => .object "DeltaViews$View"
  | 1 => .int
  | _ => .int
def T_Join : u_T := fun k => match k with
  | 0 => ("DeltaViews$Join", "left", "LDeltaViews$View;", true)
  | 1 => ("DeltaViews$Join", "right", "LDeltaViews$View;", true)
  | 2 => ("DeltaViews$Join", "leftColumn", "I", true)
  | _ => ("DeltaViews$Join", "rightColumn", "I", true)
def ty_Join : Nat → FieldType := fun k => match k with
  | 0 => .object "DeltaViews$View"
  | 1 => .object "DeltaViews$View"
  | 2 => .int
  | _ => .int
def T_Union : u_T := fun k => match k with
  | 0 => ("DeltaViews$Union", "left", "LDeltaViews$View;", true)
  | _ => ("DeltaViews$Union", "right", "LDeltaViews$View;", true)
def ty_Union : Nat → FieldType := fun k => match k with
  | 0 => .object "DeltaViews$View"
  | _ => .object "DeltaViews$View"
def T_Group : u_T := fun k => match k with
  | 0 => ("DeltaViews$Group", "source", "LDeltaViews$View;", true)
  | 1 => ("DeltaViews$Group", "kind", "I", true)
  | 2 => ("DeltaViews$Group", "keyColumn", "I", true)
  | _ => ("DeltaViews$Group", "column", "I", true)
def ty_Group : Nat → FieldType := fun k => match k with
  | 0 => .object "DeltaViews$View"
  | 1 => .int
  | 2 => .int
  | _ => .int
def T_Distinct : u_T := fun k => match k with
  | _ => ("DeltaViews$Distinct", "source", "LDeltaViews$View;", true)
def ty_Distinct : Nat → FieldType := fun k => match k with
  | _ => .object "DeltaViews$View"
def T_Mo : u_T := fun k => match k with
  | 0 => ("DeltaViewsModel", "thrown", "I", false)
  | 1 => ("DeltaViewsModel", "views", "I", false)
  | 2 => ("DeltaViewsModel", "widths", "[I", true)
  | 3 => ("DeltaViewsModel", "kinds", "[I", true)
  | 4 => ("DeltaViewsModel", "es", "[I", true)
  | 5 => ("DeltaViewsModel", "fs", "[I", true)
  | 6 => ("DeltaViewsModel", "ps", "[I", true)
  | 7 => ("DeltaViewsModel", "qs", "[I", true)
  | 8 => ("DeltaViewsModel", "rs", "[I", true)
  | 9 => ("DeltaViewsModel", "moves", "[I", true)
  | 10 => ("DeltaViewsModel", "counts", "[I", true)
  | 11 => ("DeltaViewsModel", "times", "[J", true)
  | 12 => ("DeltaViewsModel", "cells", "[I", true)
  | 13 => ("DeltaViewsModel", "gathered", "I", false)
  | 14 => ("DeltaViewsModel", "mine", "[J", true)
  | 15 => ("DeltaViewsModel", "rows", "[I", true)
  | 16 => ("DeltaViewsModel", "one", "[I", true)
  | 17 => ("DeltaViewsModel", "changes", "I", false)
  | 18 => ("DeltaViewsModel", "tables", "[I", true)
  | 19 => ("DeltaViewsModel", "as", "[I", true)
  | 20 => ("DeltaViewsModel", "bs", "[I", true)
  | _ => ("DeltaViewsModel", "bys", "[I", true)
def ty_Mo : Nat → FieldType := fun k => match k with
  | 0 => .int
  | 1 => .int
  | 2 => .array .int
  | 3 => .array .int
  | 4 => .array .int
  | 5 => .array .int
  | 6 => .array .int
  | 7 => .array .int
  | 8 => .array .int
  | 9 => .array .int
  | 10 => .array .int
  | 11 => .array .long
  | 12 => .array .int
  | 13 => .int
  | 14 => .array .long
  | 15 => .array .int
  | 16 => .array .int
  | 17 => .int
  | 18 => .array .int
  | 19 => .array .int
  | 20 => .array .int
  | _ => .array .int
abbrev vwCl : List vw_C := [("DeltaViews", T_DV, 3), ("DeltaViews$View", T_View, 4), ("DeltaViews$Bag", T_Bag, 5), ("DeltaViews$Batch", T_Batch, 5), ("DeltaViews$Table", T_Table, 0), ("DeltaViews$Select", T_Select, 4), ("DeltaViews$Project", T_Project, 3), ("DeltaViews$Join", T_Join, 4), ("DeltaViews$Union", T_Union, 2), ("DeltaViews$Group", T_Group, 4), ("DeltaViews$Distinct", T_Distinct, 1), ("DeltaViewsModel", T_Mo, 22)]
abbrev mi_DV_init : MethodName × ByteArray × Nat × Option FieldType × List (Nat × Nat × Nat × Nat) := (⟨"DeltaViews", "<init>", "()V"⟩, prog_1_method_1_code, 2, none, [])
abbrev mi_Batch_init : MethodName × ByteArray × Nat × Option FieldType × List (Nat × Nat × Nat × Nat) := (⟨"DeltaViews$Batch", "<init>", "()V"⟩, prog_3_method_1_code, 1, none, [])
abbrev mi_Table_init : MethodName × ByteArray × Nat × Option FieldType × List (Nat × Nat × Nat × Nat) := (⟨"DeltaViews$Table", "<init>", "()V"⟩, prog_10_method_1_code, 1, none, [])
abbrev mi_Oper_init : MethodName × ByteArray × Nat × Option FieldType × List (Nat × Nat × Nat × Nat) := (⟨"DeltaViews$Operation", "<init>", "()V"⟩, prog_7_method_1_code, 1, none, [])
abbrev mi_View_init : MethodName × ByteArray × Nat × Option FieldType × List (Nat × Nat × Nat × Nat) := (⟨"DeltaViews$View", "<init>", "(LDeltaViews$Operation;)V"⟩, prog_12_method_1_code, 2, none, [])
abbrev mi_Bag_init : MethodName × ByteArray × Nat × Option FieldType × List (Nat × Nat × Nat × Nat) := (⟨"DeltaViews$Bag", "<init>", "()V"⟩, prog_2_method_1_code, 1, none, [])
abbrev mi_DV_cancel : MethodName × ByteArray × Nat × Option FieldType × List (Nat × Nat × Nat × Nat) := (⟨"DeltaViews", "cancel", "()I"⟩, prog_1_method_3_code, 1, some .int, [])
abbrev mi_Batch_empty : MethodName × ByteArray × Nat × Option FieldType × List (Nat × Nat × Nat × Nat) := (⟨"DeltaViews$Batch", "empty", "()I"⟩, prog_3_method_4_code, 2, some .int, [])
abbrev mi_Law_change : MethodName × ByteArray × Nat × Option FieldType × List (Nat × Nat × Nat × Nat) := (⟨"DeltaViewsLaw", "change", "(LDeltaViews;IIII[J)I"⟩, method_3_code, 7, some .int, [(0, 14, 17, 13), (0, 14, 21, 15), (0, 14, 25, 17)])
abbrev mi_DV_change : MethodName × ByteArray × Nat × Option FieldType × List (Nat × Nat × Nat × Nat) := (⟨"DeltaViews", "change", "(IIII)I"⟩, prog_1_method_2_code, 5, some .int, [])
abbrev mi_DV_isTooFar : MethodName × ByteArray × Nat × Option FieldType × List (Nat × Nat × Nat × Nat) := (⟨"DeltaViews", "isTooFar", "(II)Z"⟩, prog_1_method_18_code, 2, some .boolean, [])
abbrev mi_Batch_isFull : MethodName × ByteArray × Nat × Option FieldType × List (Nat × Nat × Nat × Nat) := (⟨"DeltaViews$Batch", "isFull", "()Z"⟩, prog_3_method_2_code, 1, some .boolean, [])
abbrev mi_Batch_append : MethodName × ByteArray × Nat × Option FieldType × List (Nat × Nat × Nat × Nat) := (⟨"DeltaViews$Batch", "append", "(IIII)I"⟩, prog_3_method_3_code, 5, some .int, [])
abbrev mi_Law_commit : MethodName × ByteArray × Nat × Option FieldType × List (Nat × Nat × Nat × Nat) := (⟨"DeltaViewsLaw", "commit", "(LDeltaViews;[J)I"⟩, method_4_code, 3, some .int, [(0, 8, 11, 17)])
abbrev mi_DV_commit : MethodName × ByteArray × Nat × Option FieldType × List (Nat × Nat × Nat × Nat) := (⟨"DeltaViews", "commit", "()I"⟩, prog_1_method_4_code, 4, some .int, [])
abbrev mi_DV_renewViews : MethodName × ByteArray × Nat × Option FieldType × List (Nat × Nat × Nat × Nat) := (⟨"DeltaViews", "renewViews", "()Z"⟩, prog_1_method_24_code, 2, some .boolean, [])
abbrev mi_View_renew : MethodName × ByteArray × Nat × Option FieldType × List (Nat × Nat × Nat × Nat) := (⟨"DeltaViews$View", "renew", "()V"⟩, prog_12_method_3_code, 1, none, [])
abbrev mi_View_exchangeBags : MethodName × ByteArray × Nat × Option FieldType × List (Nat × Nat × Nat × Nat) := (⟨"DeltaViews$View", "exchangeBags", "()V"⟩, prog_12_method_4_code, 2, none, [])
abbrev mi_Distinct_fill : MethodName × ByteArray × Nat × Option FieldType × List (Nat × Nat × Nat × Nat) := (⟨"DeltaViews$Distinct", "fill", "(LDeltaViews$Bag;LDeltaViews$Bag;)V"⟩, prog_4_method_2_code, 5, none, [])
abbrev mi_Bag_clear : MethodName × ByteArray × Nat × Option FieldType × List (Nat × Nat × Nat × Nat) := (⟨"DeltaViews$Bag", "clear", "(I)V"⟩, prog_2_method_2_code, 2, none, [])
abbrev mi_Bag_putRow : MethodName × ByteArray × Nat × Option FieldType × List (Nat × Nat × Nat × Nat) := (⟨"DeltaViews$Bag", "putRow", "(LDeltaViews$Bag;II)V"⟩, prog_2_method_7_code, 5, none, [])
abbrev mi_Bag_cellAt : MethodName × ByteArray × Nat × Option FieldType × List (Nat × Nat × Nat × Nat) := (⟨"DeltaViews$Bag", "cellAt", "(II)I"⟩, prog_2_method_4_code, 3, some .int, [])
abbrev mi_Bag_put : MethodName × ByteArray × Nat × Option FieldType × List (Nat × Nat × Nat × Nat) := (⟨"DeltaViews$Bag", "put", "(II)V"⟩, prog_2_method_6_code, 3, none, [])
abbrev mi_Bag_add : MethodName × ByteArray × Nat × Option FieldType × List (Nat × Nat × Nat × Nat) := (⟨"DeltaViews$Bag", "add", "(J)V"⟩, prog_2_method_8_code, 4, none, [])
abbrev mi_Bag_placeOfPending : MethodName × ByteArray × Nat × Option FieldType × List (Nat × Nat × Nat × Nat) := (⟨"DeltaViews$Bag", "placeOfPending", "()I"⟩, prog_2_method_15_code, 2, some .int, [])
abbrev mi_Bag_orderOfCells : MethodName × ByteArray × Nat × Option FieldType × List (Nat × Nat × Nat × Nat) := (⟨"DeltaViews$Bag", "orderOfCells", "(I[II)I"⟩, prog_2_method_14_code, 7, some .int, [])
abbrev mi_Bag_isPending : MethodName × ByteArray × Nat × Option FieldType × List (Nat × Nat × Nat × Nat) := (⟨"DeltaViews$Bag", "isPending", "(I)Z"⟩, prog_2_method_16_code, 2, some .boolean, [])
abbrev mi_Bag_remove : MethodName × ByteArray × Nat × Option FieldType × List (Nat × Nat × Nat × Nat) := (⟨"DeltaViews$Bag", "remove", "(I)V"⟩, prog_2_method_18_code, 4, none, [])
abbrev mi_Bag_insert : MethodName × ByteArray × Nat × Option FieldType × List (Nat × Nat × Nat × Nat) := (⟨"DeltaViews$Bag", "insert", "(IJ)V"⟩, prog_2_method_17_code, 6, none, [])
abbrev mi_Group_fill : MethodName × ByteArray × Nat × Option FieldType × List (Nat × Nat × Nat × Nat) := (⟨"DeltaViews$Group", "fill", "(LDeltaViews$Bag;LDeltaViews$Bag;)V"⟩, prog_5_method_2_code, 5, none, [])
abbrev mi_Group_isFirstOfGroup : MethodName × ByteArray × Nat × Option FieldType × List (Nat × Nat × Nat × Nat) := (⟨"DeltaViews$Group", "isFirstOfGroup", "(LDeltaViews$Bag;I)Z"⟩, prog_5_method_3_code, 4, some .boolean, [])
abbrev mi_Group_fold : MethodName × ByteArray × Nat × Option FieldType × List (Nat × Nat × Nat × Nat) := (⟨"DeltaViews$Group", "fold", "(LDeltaViews$Bag;I)I"⟩, prog_5_method_4_code, 6, some .int, [])
abbrev mi_Group_worth : MethodName × ByteArray × Nat × Option FieldType × List (Nat × Nat × Nat × Nat) := (⟨"DeltaViews$Group", "worth", "(LDeltaViews$Bag;I)I"⟩, prog_5_method_5_code, 3, some .int, [])
abbrev mi_Bag_timesAt : MethodName × ByteArray × Nat × Option FieldType × List (Nat × Nat × Nat × Nat) := (⟨"DeltaViews$Bag", "timesAt", "(I)J"⟩, prog_2_method_5_code, 2, some .long, [])
abbrev mi_Join_fill : MethodName × ByteArray × Nat × Option FieldType × List (Nat × Nat × Nat × Nat) := (⟨"DeltaViews$Join", "fill", "(LDeltaViews$Bag;LDeltaViews$Bag;)V"⟩, prog_6_method_2_code, 4, none, [])
abbrev mi_Join_addPartners : MethodName × ByteArray × Nat × Option FieldType × List (Nat × Nat × Nat × Nat) := (⟨"DeltaViews$Join", "addPartners", "(ILDeltaViews$Bag;)V"⟩, prog_6_method_3_code, 6, none, [])
abbrev mi_Project_fill : MethodName × ByteArray × Nat × Option FieldType × List (Nat × Nat × Nat × Nat) := (⟨"DeltaViews$Project", "fill", "(LDeltaViews$Bag;LDeltaViews$Bag;)V"⟩, prog_8_method_2_code, 6, none, [])
abbrev mi_DV_columnInBits : MethodName × ByteArray × Nat × Option FieldType × List (Nat × Nat × Nat × Nat) := (⟨"DeltaViews", "columnInBits", "(II)I"⟩, prog_1_method_19_code, 2, some .int, [])
abbrev mi_Select_fill : MethodName × ByteArray × Nat × Option FieldType × List (Nat × Nat × Nat × Nat) := (⟨"DeltaViews$Select", "fill", "(LDeltaViews$Bag;LDeltaViews$Bag;)V"⟩, prog_9_method_2_code, 5, none, [])
abbrev mi_Select_passes : MethodName × ByteArray × Nat × Option FieldType × List (Nat × Nat × Nat × Nat) := (⟨"DeltaViews$Select", "passes", "(I)Z"⟩, prog_9_method_3_code, 2, some .boolean, [])
abbrev mi_Table_fill : MethodName × ByteArray × Nat × Option FieldType × List (Nat × Nat × Nat × Nat) := (⟨"DeltaViews$Table", "fill", "(LDeltaViews$Bag;LDeltaViews$Bag;)V"⟩, prog_10_method_2_code, 3, none, [])
abbrev mi_Bag_copy : MethodName × ByteArray × Nat × Option FieldType × List (Nat × Nat × Nat × Nat) := (⟨"DeltaViews$Bag", "copy", "(LDeltaViews$Bag;)V"⟩, prog_2_method_3_code, 2, none, [])
abbrev mi_Union_fill : MethodName × ByteArray × Nat × Option FieldType × List (Nat × Nat × Nat × Nat) := (⟨"DeltaViews$Union", "fill", "(LDeltaViews$Bag;LDeltaViews$Bag;)V"⟩, prog_11_method_2_code, 3, none, [])
abbrev mi_Bag_addAll : MethodName × ByteArray × Nat × Option FieldType × List (Nat × Nat × Nat × Nat) := (⟨"DeltaViews$Bag", "addAll", "(LDeltaViews$Bag;)V"⟩, prog_2_method_9_code, 3, none, [])
abbrev mi_Batch_addTo : MethodName × ByteArray × Nat × Option FieldType × List (Nat × Nat × Nat × Nat) := (⟨"DeltaViews$Batch", "addTo", "(ILDeltaViews$Bag;)V"⟩, prog_3_method_5_code, 4, none, [])
abbrev mi_View_keepsLimits : MethodName × ByteArray × Nat × Option FieldType × List (Nat × Nat × Nat × Nat) := (⟨"DeltaViews$View", "keepsLimits", "()Z"⟩, prog_12_method_5_code, 1, some .boolean, [])
abbrev mi_Table_allows : MethodName × ByteArray × Nat × Option FieldType × List (Nat × Nat × Nat × Nat) := (⟨"DeltaViews$Table", "allows", "(LDeltaViews$Bag;)Z"⟩, prog_10_method_3_code, 2, some .boolean, [])
abbrev mi_Bag_hasTimesOutside : MethodName × ByteArray × Nat × Option FieldType × List (Nat × Nat × Nat × Nat) := (⟨"DeltaViews$Bag", "hasTimesOutside", "(II)Z"⟩, prog_2_method_11_code, 4, some .boolean, [])
abbrev mi_Oper_allows : MethodName × ByteArray × Nat × Option FieldType × List (Nat × Nat × Nat × Nat) := (⟨"DeltaViews$Operation", "allows", "(LDeltaViews$Bag;)Z"⟩, prog_7_method_3_code, 2, some .boolean, [])
abbrev mi_DV_takeBack : MethodName × ByteArray × Nat × Option FieldType × List (Nat × Nat × Nat × Nat) := (⟨"DeltaViews", "takeBack", "(I)V"⟩, prog_1_method_25_code, 3, none, [])
abbrev mi_View_countMoved : MethodName × ByteArray × Nat × Option FieldType × List (Nat × Nat × Nat × Nat) := (⟨"DeltaViews$View", "countMoved", "()V"⟩, prog_12_method_6_code, 1, none, [])
abbrev mi_Bag_differencesFrom : MethodName × ByteArray × Nat × Option FieldType × List (Nat × Nat × Nat × Nat) := (⟨"DeltaViews$Bag", "differencesFrom", "(LDeltaViews$Bag;)I"⟩, prog_2_method_12_code, 6, some .int, [])
abbrev mi_Bag_orderOfRows : MethodName × ByteArray × Nat × Option FieldType × List (Nat × Nat × Nat × Nat) := (⟨"DeltaViews$Bag", "orderOfRows", "(ILDeltaViews$Bag;I)I"⟩, prog_2_method_13_code, 4, some .int, [])
abbrev mi_Law_select : MethodName × ByteArray × Nat × Option FieldType × List (Nat × Nat × Nat × Nat) := (⟨"DeltaViewsLaw", "select", "(LDeltaViews;IIII[J)I"⟩, method_5_code, 7, some .int, [(0, 14, 17, 13), (0, 14, 21, 15), (0, 14, 25, 17)])
abbrev mi_DV_select : MethodName × ByteArray × Nat × Option FieldType × List (Nat × Nat × Nat × Nat) := (⟨"DeltaViews", "select", "(IIII)I"⟩, prog_1_method_5_code, 6, some .int, [])
abbrev mi_DV_viewAt : MethodName × ByteArray × Nat × Option FieldType × List (Nat × Nat × Nat × Nat) := (⟨"DeltaViews", "viewAt", "(I)LDeltaViews$View;"⟩, prog_1_method_20_code, 2, some (.object "DeltaViews$View"), [])
abbrev mi_DV_needColumn : MethodName × ByteArray × Nat × Option FieldType × List (Nat × Nat × Nat × Nat) := (⟨"DeltaViews", "needColumn", "(LDeltaViews$View;I)V"⟩, prog_1_method_21_code, 2, none, [])
abbrev mi_Select_init : MethodName × ByteArray × Nat × Option FieldType × List (Nat × Nat × Nat × Nat) := (⟨"DeltaViews$Select", "<init>", "(LDeltaViews$View;III)V"⟩, prog_9_method_1_code, 5, none, [])
abbrev mi_DV_makeView : MethodName × ByteArray × Nat × Option FieldType × List (Nat × Nat × Nat × Nat) := (⟨"DeltaViews", "makeView", "(LDeltaViews$Operation;)I"⟩, prog_1_method_23_code, 3, some .int, [])
abbrev mi_View_begin : MethodName × ByteArray × Nat × Option FieldType × List (Nat × Nat × Nat × Nat) := (⟨"DeltaViews$View", "begin", "(LDeltaViews$Operation;)V"⟩, prog_12_method_2_code, 2, none, [])
abbrev mi_Law_project : MethodName × ByteArray × Nat × Option FieldType × List (Nat × Nat × Nat × Nat) := (⟨"DeltaViewsLaw", "project", "(LDeltaViews;III[J)I"⟩, method_6_code, 6, some .int, [(0, 12, 15, 13), (0, 12, 19, 15), (0, 12, 23, 17)])
abbrev mi_DV_project : MethodName × ByteArray × Nat × Option FieldType × List (Nat × Nat × Nat × Nat) := (⟨"DeltaViews", "project", "(III)I"⟩, prog_1_method_6_code, 6, some .int, [])
abbrev mi_Project_init : MethodName × ByteArray × Nat × Option FieldType × List (Nat × Nat × Nat × Nat) := (⟨"DeltaViews$Project", "<init>", "(LDeltaViews$View;II)V"⟩, prog_8_method_1_code, 4, none, [])
abbrev mi_Law_join : MethodName × ByteArray × Nat × Option FieldType × List (Nat × Nat × Nat × Nat) := (⟨"DeltaViewsLaw", "join", "(LDeltaViews;IIII[J)I"⟩, method_7_code, 7, some .int, [(0, 14, 17, 13), (0, 14, 21, 15), (0, 14, 25, 17)])
abbrev mi_DV_join : MethodName × ByteArray × Nat × Option FieldType × List (Nat × Nat × Nat × Nat) := (⟨"DeltaViews", "join", "(IIII)I"⟩, prog_1_method_7_code, 7, some .int, [])
abbrev mi_Join_init : MethodName × ByteArray × Nat × Option FieldType × List (Nat × Nat × Nat × Nat) := (⟨"DeltaViews$Join", "<init>", "(LDeltaViews$View;LDeltaViews$View;II)V"⟩, prog_6_method_1_code, 5, none, [])
abbrev mi_Law_union : MethodName × ByteArray × Nat × Option FieldType × List (Nat × Nat × Nat × Nat) := (⟨"DeltaViewsLaw", "union", "(LDeltaViews;II[J)I"⟩, method_8_code, 5, some .int, [(0, 10, 13, 13), (0, 10, 17, 15), (0, 10, 21, 17)])
abbrev mi_DV_union : MethodName × ByteArray × Nat × Option FieldType × List (Nat × Nat × Nat × Nat) := (⟨"DeltaViews", "union", "(II)I"⟩, prog_1_method_8_code, 5, some .int, [])
abbrev mi_Union_init : MethodName × ByteArray × Nat × Option FieldType × List (Nat × Nat × Nat × Nat) := (⟨"DeltaViews$Union", "<init>", "(LDeltaViews$View;LDeltaViews$View;)V"⟩, prog_11_method_1_code, 3, none, [])
abbrev mi_Law_group : MethodName × ByteArray × Nat × Option FieldType × List (Nat × Nat × Nat × Nat) := (⟨"DeltaViewsLaw", "group", "(LDeltaViews;IIII[J)I"⟩, method_9_code, 7, some .int, [(0, 14, 17, 13), (0, 14, 21, 15), (0, 14, 25, 17)])
abbrev mi_DV_group : MethodName × ByteArray × Nat × Option FieldType × List (Nat × Nat × Nat × Nat) := (⟨"DeltaViews", "group", "(IIII)I"⟩, prog_1_method_9_code, 6, some .int, [])
abbrev mi_Group_init : MethodName × ByteArray × Nat × Option FieldType × List (Nat × Nat × Nat × Nat) := (⟨"DeltaViews$Group", "<init>", "(LDeltaViews$View;III)V"⟩, prog_5_method_1_code, 5, none, [])
abbrev mi_Law_distinct : MethodName × ByteArray × Nat × Option FieldType × List (Nat × Nat × Nat × Nat) := (⟨"DeltaViewsLaw", "distinct", "(LDeltaViews;I[J)I"⟩, method_10_code, 4, some .int, [(0, 9, 12, 13), (0, 9, 15, 17)])
abbrev mi_DV_distinct : MethodName × ByteArray × Nat × Option FieldType × List (Nat × Nat × Nat × Nat) := (⟨"DeltaViews", "distinct", "(I)I"⟩, prog_1_method_10_code, 2, some .int, [])
abbrev mi_Distinct_init : MethodName × ByteArray × Nat × Option FieldType × List (Nat × Nat × Nat × Nat) := (⟨"DeltaViews$Distinct", "<init>", "(LDeltaViews$View;)V"⟩, prog_4_method_1_code, 2, none, [])
abbrev mi_Law_drop : MethodName × ByteArray × Nat × Option FieldType × List (Nat × Nat × Nat × Nat) := (⟨"DeltaViewsLaw", "drop", "(LDeltaViews;[J)I"⟩, method_11_code, 3, some .int, [(0, 8, 11, 17)])
abbrev mi_DV_drop : MethodName × ByteArray × Nat × Option FieldType × List (Nat × Nat × Nat × Nat) := (⟨"DeltaViews", "drop", "()I"⟩, prog_1_method_11_code, 1, some .int, [])
abbrev mi_Law_width : MethodName × ByteArray × Nat × Option FieldType × List (Nat × Nat × Nat × Nat) := (⟨"DeltaViewsLaw", "width", "(LDeltaViews;I[J)I"⟩, method_12_code, 4, some .int, [(0, 9, 12, 13)])
abbrev mi_DV_width : MethodName × ByteArray × Nat × Option FieldType × List (Nat × Nat × Nat × Nat) := (⟨"DeltaViews", "width", "(I)I"⟩, prog_1_method_12_code, 2, some .int, [])
abbrev mi_Law_rows : MethodName × ByteArray × Nat × Option FieldType × List (Nat × Nat × Nat × Nat) := (⟨"DeltaViewsLaw", "rows", "(LDeltaViews;I[J)I"⟩, method_13_code, 4, some .int, [(0, 9, 12, 13)])
abbrev mi_DV_rows : MethodName × ByteArray × Nat × Option FieldType × List (Nat × Nat × Nat × Nat) := (⟨"DeltaViews", "rows", "(I)I"⟩, prog_1_method_13_code, 2, some .int, [])
abbrev mi_Law_cell : MethodName × ByteArray × Nat × Option FieldType × List (Nat × Nat × Nat × Nat) := (⟨"DeltaViewsLaw", "cell", "(LDeltaViews;III[J)I"⟩, method_14_code, 6, some .int, [(0, 12, 15, 13), (0, 12, 19, 56)])
abbrev mi_DV_cell : MethodName × ByteArray × Nat × Option FieldType × List (Nat × Nat × Nat × Nat) := (⟨"DeltaViews", "cell", "(III)I"⟩, prog_1_method_14_code, 5, some .int, [])
abbrev mi_DV_needRow : MethodName × ByteArray × Nat × Option FieldType × List (Nat × Nat × Nat × Nat) := (⟨"DeltaViews", "needRow", "(LDeltaViews$View;I)V"⟩, prog_1_method_22_code, 2, none, [])
abbrev mi_Law_times : MethodName × ByteArray × Nat × Option FieldType × List (Nat × Nat × Nat × Nat) := (⟨"DeltaViewsLaw", "times", "(LDeltaViews;II[J)I"⟩, method_15_code, 5, some .int, [(0, 9, 12, 13), (0, 9, 16, 56)])
abbrev mi_DV_times : MethodName × ByteArray × Nat × Option FieldType × List (Nat × Nat × Nat × Nat) := (⟨"DeltaViews", "times", "(II)J"⟩, prog_1_method_15_code, 4, some .long, [])
abbrev mi_Law_many : MethodName × ByteArray × Nat × Option FieldType × List (Nat × Nat × Nat × Nat) := (⟨"DeltaViewsLaw", "many", "(LDeltaViews;IIIII[J)I"⟩, method_16_code, 8, some .int, [(0, 15, 18, 13)])
abbrev mi_DV_many : MethodName × ByteArray × Nat × Option FieldType × List (Nat × Nat × Nat × Nat) := (⟨"DeltaViews", "many", "(IIIII)J"⟩, prog_1_method_16_code, 7, some .long, [])
abbrev mi_Bag_timesOfPending : MethodName × ByteArray × Nat × Option FieldType × List (Nat × Nat × Nat × Nat) := (⟨"DeltaViews$Bag", "timesOfPending", "()J"⟩, prog_2_method_10_code, 2, some .long, [])
abbrev mi_Law_moved : MethodName × ByteArray × Nat × Option FieldType × List (Nat × Nat × Nat × Nat) := (⟨"DeltaViewsLaw", "moved", "(LDeltaViews;I[J)I"⟩, method_17_code, 4, some .int, [(0, 9, 12, 13)])
abbrev mi_DV_moved : MethodName × ByteArray × Nat × Option FieldType × List (Nat × Nat × Nat × Nat) := (⟨"DeltaViews", "moved", "(I)I"⟩, prog_1_method_17_code, 2, some .int, [])
abbrev mi_Mo_init : MethodName × ByteArray × Nat × Option FieldType × List (Nat × Nat × Nat × Nat) := (⟨"DeltaViewsModel", "<init>", "()V"⟩, prog_14_method_1_code, 2, none, [])
abbrev mi_Mo_thrown : MethodName × ByteArray × Nat × Option FieldType × List (Nat × Nat × Nat × Nat) := (⟨"DeltaViewsModel", "thrown", "()I"⟩, prog_14_method_2_code, 1, some .int, [])
abbrev mi_Mo_change : MethodName × ByteArray × Nat × Option FieldType × List (Nat × Nat × Nat × Nat) := (⟨"DeltaViewsModel", "change", "(IIII)I"⟩, prog_14_method_17_code, 5, some .int, [])
abbrev mi_Mo_cancel : MethodName × ByteArray × Nat × Option FieldType × List (Nat × Nat × Nat × Nat) := (⟨"DeltaViewsModel", "cancel", "()I"⟩, prog_14_method_18_code, 2, some .int, [])
abbrev mi_Mo_commit : MethodName × ByteArray × Nat × Option FieldType × List (Nat × Nat × Nat × Nat) := (⟨"DeltaViewsModel", "commit", "()I"⟩, prog_14_method_23_code, 3, some .int, [])
abbrev mi_Mo_tryTable : MethodName × ByteArray × Nat × Option FieldType × List (Nat × Nat × Nat × Nat) := (⟨"DeltaViewsModel", "tryTable", "(I)Z"⟩, prog_14_method_19_code, 4, some .boolean, [])
abbrev mi_Mo_take : MethodName × ByteArray × Nat × Option FieldType × List (Nat × Nat × Nat × Nat) := (⟨"DeltaViewsModel", "take", "(II)V"⟩, prog_14_method_8_code, 4, none, [])
abbrev mi_Mo_cellOf : MethodName × ByteArray × Nat × Option FieldType × List (Nat × Nat × Nat × Nat) := (⟨"DeltaViewsModel", "cellOf", "(III)I"⟩, prog_14_method_7_code, 4, some .int, [])
abbrev mi_Mo_gather : MethodName × ByteArray × Nat × Option FieldType × List (Nat × Nat × Nat × Nat) := (⟨"DeltaViewsModel", "gather", "(IJ)V"⟩, prog_14_method_4_code, 5, none, [])
abbrev mi_Mo_isRow : MethodName × ByteArray × Nat × Option FieldType × List (Nat × Nat × Nat × Nat) := (⟨"DeltaViewsModel", "isRow", "(II)Z"⟩, prog_14_method_3_code, 5, some .boolean, [])
abbrev mi_Mo_settle : MethodName × ByteArray × Nat × Option FieldType × List (Nat × Nat × Nat × Nat) := (⟨"DeltaViewsModel", "settle", "(III)Z"⟩, prog_14_method_6_code, 8, some .boolean, [])
abbrev mi_Mo_comesBefore : MethodName × ByteArray × Nat × Option FieldType × List (Nat × Nat × Nat × Nat) := (⟨"DeltaViewsModel", "comesBefore", "(III)Z"⟩, prog_14_method_5_code, 5, some .boolean, [])
abbrev mi_Mo_work : MethodName × ByteArray × Nat × Option FieldType × List (Nat × Nat × Nat × Nat) := (⟨"DeltaViewsModel", "work", "(II)Z"⟩, prog_14_method_16_code, 5, some .boolean, [])
abbrev mi_Mo_selects : MethodName × ByteArray × Nat × Option FieldType × List (Nat × Nat × Nat × Nat) := (⟨"DeltaViewsModel", "selects", "(II)V"⟩, prog_14_method_10_code, 4, none, [])
abbrev mi_Mo_passes : MethodName × ByteArray × Nat × Option FieldType × List (Nat × Nat × Nat × Nat) := (⟨"DeltaViewsModel", "passes", "(III)Z"⟩, prog_14_method_9_code, 3, some .boolean, [])
abbrev mi_Mo_projects : MethodName × ByteArray × Nat × Option FieldType × List (Nat × Nat × Nat × Nat) := (⟨"DeltaViewsModel", "projects", "(II)V"⟩, prog_14_method_11_code, 5, none, [])
abbrev mi_Mo_joins : MethodName × ByteArray × Nat × Option FieldType × List (Nat × Nat × Nat × Nat) := (⟨"DeltaViewsModel", "joins", "(III)V"⟩, prog_14_method_12_code, 8, none, [])
abbrev mi_Mo_all : MethodName × ByteArray × Nat × Option FieldType × List (Nat × Nat × Nat × Nat) := (⟨"DeltaViewsModel", "all", "(IIZ)V"⟩, prog_14_method_13_code, 5, none, [])
abbrev mi_Mo_groups : MethodName × ByteArray × Nat × Option FieldType × List (Nat × Nat × Nat × Nat) := (⟨"DeltaViewsModel", "groups", "(II)V"⟩, prog_14_method_15_code, 7, none, [])
abbrev mi_Mo_result : MethodName × ByteArray × Nat × Option FieldType × List (Nat × Nat × Nat × Nat) := (⟨"DeltaViewsModel", "result", "(III)I"⟩, prog_14_method_14_code, 9, some .int, [])
abbrev mi_Mo_takeOver : MethodName × ByteArray × Nat × Option FieldType × List (Nat × Nat × Nat × Nat) := (⟨"DeltaViewsModel", "takeOver", "(I)V"⟩, prog_14_method_22_code, 3, none, [])
abbrev mi_Mo_differing : MethodName × ByteArray × Nat × Option FieldType × List (Nat × Nat × Nat × Nat) := (⟨"DeltaViewsModel", "differing", "(I)I"⟩, prog_14_method_21_code, 4, some .int, [])
abbrev mi_Mo_timesOf : MethodName × ByteArray × Nat × Option FieldType × List (Nat × Nat × Nat × Nat) := (⟨"DeltaViewsModel", "timesOf", "(IIII)J"⟩, prog_14_method_20_code, 8, some .long, [])
abbrev mi_Mo_select : MethodName × ByteArray × Nat × Option FieldType × List (Nat × Nat × Nat × Nat) := (⟨"DeltaViewsModel", "select", "(IIII)I"⟩, prog_14_method_28_code, 5, some .int, [])
abbrev mi_Mo_isColumn : MethodName × ByteArray × Nat × Option FieldType × List (Nat × Nat × Nat × Nat) := (⟨"DeltaViewsModel", "isColumn", "(II)Z"⟩, prog_14_method_25_code, 3, some .boolean, [])
abbrev mi_Mo_isView : MethodName × ByteArray × Nat × Option FieldType × List (Nat × Nat × Nat × Nat) := (⟨"DeltaViewsModel", "isView", "(I)Z"⟩, prog_14_method_24_code, 2, some .boolean, [])
abbrev mi_Mo_told : MethodName × ByteArray × Nat × Option FieldType × List (Nat × Nat × Nat × Nat) := (⟨"DeltaViewsModel", "told", "(III)V"⟩, prog_14_method_27_code, 4, none, [])
abbrev mi_Mo_make : MethodName × ByteArray × Nat × Option FieldType × List (Nat × Nat × Nat × Nat) := (⟨"DeltaViewsModel", "make", "(IIIII)I"⟩, prog_14_method_26_code, 6, some .int, [])
abbrev mi_Mo_project : MethodName × ByteArray × Nat × Option FieldType × List (Nat × Nat × Nat × Nat) := (⟨"DeltaViewsModel", "project", "(III)I"⟩, prog_14_method_29_code, 6, some .int, [])
abbrev mi_Mo_join : MethodName × ByteArray × Nat × Option FieldType × List (Nat × Nat × Nat × Nat) := (⟨"DeltaViewsModel", "join", "(IIII)I"⟩, prog_14_method_30_code, 5, some .int, [])
abbrev mi_Mo_union : MethodName × ByteArray × Nat × Option FieldType × List (Nat × Nat × Nat × Nat) := (⟨"DeltaViewsModel", "union", "(II)I"⟩, prog_14_method_31_code, 3, some .int, [])
abbrev mi_Mo_group : MethodName × ByteArray × Nat × Option FieldType × List (Nat × Nat × Nat × Nat) := (⟨"DeltaViewsModel", "group", "(IIII)I"⟩, prog_14_method_32_code, 5, some .int, [])
abbrev mi_Mo_distinct : MethodName × ByteArray × Nat × Option FieldType × List (Nat × Nat × Nat × Nat) := (⟨"DeltaViewsModel", "distinct", "(I)I"⟩, prog_14_method_33_code, 2, some .int, [])
abbrev mi_Mo_drop : MethodName × ByteArray × Nat × Option FieldType × List (Nat × Nat × Nat × Nat) := (⟨"DeltaViewsModel", "drop", "()I"⟩, prog_14_method_34_code, 1, some .int, [])
abbrev mi_Mo_width : MethodName × ByteArray × Nat × Option FieldType × List (Nat × Nat × Nat × Nat) := (⟨"DeltaViewsModel", "width", "(I)I"⟩, prog_14_method_35_code, 2, some .int, [])
abbrev mi_Mo_rows : MethodName × ByteArray × Nat × Option FieldType × List (Nat × Nat × Nat × Nat) := (⟨"DeltaViewsModel", "rows", "(I)I"⟩, prog_14_method_36_code, 2, some .int, [])
abbrev mi_Mo_cell : MethodName × ByteArray × Nat × Option FieldType × List (Nat × Nat × Nat × Nat) := (⟨"DeltaViewsModel", "cell", "(III)I"⟩, prog_14_method_37_code, 4, some .int, [])
abbrev mi_Mo_times : MethodName × ByteArray × Nat × Option FieldType × List (Nat × Nat × Nat × Nat) := (⟨"DeltaViewsModel", "times", "(II)J"⟩, prog_14_method_38_code, 3, some .long, [])
abbrev mi_Mo_many : MethodName × ByteArray × Nat × Option FieldType × List (Nat × Nat × Nat × Nat) := (⟨"DeltaViewsModel", "many", "(IIIII)J"⟩, prog_14_method_39_code, 9, some .long, [])
abbrev mi_Mo_moved : MethodName × ByteArray × Nat × Option FieldType × List (Nat × Nat × Nat × Nat) := (⟨"DeltaViewsModel", "moved", "(I)I"⟩, prog_14_method_40_code, 2, some .int, [])
abbrev mi_Law_law : MethodName × ByteArray × Nat × Option FieldType × List (Nat × Nat × Nat × Nat) := (⟨"DeltaViewsLaw", "law", "([I)Z"⟩, code, 8, some .boolean, [])
def fw_ex : Nat → String
  | 1 => "java/lang/IndexOutOfBoundsException"
  | 2 => "java/lang/IllegalArgumentException"
  | 3 => "java/lang/IllegalStateException"
  | _ => "java/util/NoSuchElementException"
/-- words that stay true as the tables warm -/
def fw_keep : Cond → Bool
  | .fieldLinkNest .. => true
  | .methodLinkNest .. => true
  | .declares _ => true
  | .castable .. => true
  | .arrayClass _ => true
  | w => w.onTables && w.keeps
def fw_big : List Cond := lw_tbl.filter fw_keep
theorem fw_big_ok : ∀ c ∈ fw_big, fw_keep c = true := fun _ h => (List.mem_filter.mp h).2
theorem fw_mem {c : Cond} (i : Nat) (h : lw_tbl[i]? = some c) (hk : fw_keep c = true) : c ∈ fw_big := List.mem_filter.mpr ⟨List.mem_of_getElem? h, hk⟩
end
section
/-! Bags of rows as sorted lists: the mathematics that both programs meet in. -/
def ma_lt : List Int32 → List Int32 → Bool
  | x :: xs, y :: ys => decide (x < y) || (decide (x = y) && ma_lt xs ys)
  | _, _ => false
abbrev MaB : Type := List (List Int32 × Int64)
theorem ma_lt_cons (x y : Int32) (xs ys : List Int32) : ma_lt (x :: xs) (y :: ys) = true ↔ x < y ∨ (x = y ∧ ma_lt xs ys = true) := by
  simp [ma_lt]
theorem ma_lt_irr (r : List Int32) : ma_lt r r = false := by
  induction r with
  | nil => rfl
  | cons x t ih => simp [ma_lt, ih]
theorem ma_lt_trans : ∀ {a b c : List Int32}, ma_lt a b = true → ma_lt b c = true → ma_lt a c = true
  | [], _, _, h, _ => by simp [ma_lt] at h
  | _ :: _, [], _, h, _ => by simp [ma_lt] at h
  | _ :: _, _ :: _, [], _, h => by simp [ma_lt] at h
  | x :: xs, y :: ys, z :: zs, h, g => by
    rw [ma_lt_cons] at h g ⊢
    rcases h with h | ⟨rfl, h⟩
    · rcases g with g | ⟨rfl, g⟩
      · exact Or.inl (Int32.lt_trans h g)
      · exact Or.inl h
    · rcases g with g | ⟨rfl, g⟩
      · exact Or.inl g
      · exact Or.inr ⟨rfl, ma_lt_trans h g⟩
theorem ma_lt_asym {a b : List Int32} (h : ma_lt a b = true) : ma_lt b a = false := by
  cases g : ma_lt b a with
  | false => rfl
  | true =>
    have := ma_lt_trans h g
    rw [ma_lt_irr] at this
    cases this
theorem ma_lt_ne {a b : List Int32} (h : ma_lt a b = true) : a ≠ b := by
  rintro rfl
  rw [ma_lt_irr] at h
  cases h
theorem ma_i32_tri (x y : Int32) : x < y ∨ x = y ∨ y < x := by
  rw [Int32.lt_iff_toInt_lt, Int32.lt_iff_toInt_lt, ← Int32.toInt_inj]
  omega
theorem ma_lt_tri : ∀ {a b : List Int32}, a.length = b.length → ma_lt a b = true ∨ a = b ∨ ma_lt b a = true
  | [], [], _ => Or.inr (Or.inl rfl)
  | [], _ :: _, h => by simp at h
  | _ :: _, [], h => by simp at h
  | x :: xs, y :: ys, h => by
    rw [ma_lt_cons, ma_lt_cons]
    have h' : xs.length = ys.length := by simpa using h
    rcases ma_i32_tri x y with g | rfl | g
    · exact Or.inl (Or.inl g)
    · rcases ma_lt_tri h' with k | rfl | k
      · exact Or.inl (Or.inr ⟨rfl, k⟩)
      · exact Or.inr (Or.inl rfl)
      · exact Or.inr (Or.inr (Or.inr ⟨rfl, k⟩))
    · exact Or.inr (Or.inr (Or.inl g))
/-- a row's multiplicity -/
def ma_look : MaB → List Int32 → Int64
  | [], _ => 0
  | (q, k) :: t, r => if q = r then k else ma_look t r
/-- sorted insertion: the way of the system -/
def ma_add : MaB → List Int32 → Int64 → MaB
  | [], r, m => if m = 0 then [] else [(r, m)]
  | (q, k) :: t, r, m => if ma_lt q r = true then (q, k) :: ma_add t r m else if q = r then (if k + m = 0 then t else (q, k + m) :: t) else if m = 0 then (q, k) :: t else (r, m) :: (q, k) :: t
def ma_srt (b : MaB) : Prop := b.Pairwise (fun x y => ma_lt x.1 y.1 = true)
def ma_ok (n : Nat) (b : MaB) : Prop := ma_srt b ∧ ∀ x ∈ b, x.1.length = n ∧ x.2 ≠ 0
theorem ma_ok_nil (n : Nat) : ma_ok n [] := ⟨List.Pairwise.nil, fun _ h => by cases h⟩
theorem ma_ok_cons {n : Nat} {x : List Int32 × Int64} {t : MaB} : ma_ok n (x :: t) ↔ (x.1.length = n ∧ x.2 ≠ 0 ∧ ∀ y ∈ t, ma_lt x.1 y.1 = true) ∧ ma_ok n t := by
  unfold ma_ok ma_srt
  rw [List.pairwise_cons]
  constructor
  · rintro ⟨⟨h1, h2⟩, h3⟩
    exact ⟨⟨(h3 x List.mem_cons_self).1, (h3 x List.mem_cons_self).2, h1⟩, h2, fun y hy => h3 y (List.mem_cons_of_mem _ hy)⟩
  · rintro ⟨⟨h1, h2, h3⟩, h4, h5⟩
    refine ⟨⟨h3, h4⟩, fun y hy => ?_⟩
    rcases List.mem_cons.mp hy with rfl | hy
    · exact ⟨h1, h2⟩
    · exact h5 y hy
theorem ma_add_mem {b : MaB} {r : List Int32} {m : Int64} {x : List Int32 × Int64} (h : x ∈ ma_add b r m) : x ∈ b ∨ x.1 = r := by
  induction b with
  | nil =>
    simp only [ma_add] at h
    split at h
    · cases h
    · exact Or.inr (by rw [List.mem_singleton.mp h])
  | cons y t ih =>
    obtain ⟨q, k⟩ := y
    simp only [ma_add] at h
    split at h
    · rcases List.mem_cons.mp h with rfl | h
      · exact Or.inl List.mem_cons_self
      · rcases ih h with g | g
        · exact Or.inl (List.mem_cons_of_mem _ g)
        · exact Or.inr g
    · split at h
      · rename_i hq
        split at h
        · exact Or.inl (List.mem_cons_of_mem _ h)
        · rcases List.mem_cons.mp h with rfl | h
          · exact Or.inr hq
          · exact Or.inl (List.mem_cons_of_mem _ h)
      · split at h
        · exact Or.inl h
        · rcases List.mem_cons.mp h with rfl | h
          · exact Or.inr rfl
          · exact Or.inl h
theorem ma_add_ok {n : Nat} {b : MaB} {r : List Int32} {m : Int64} (h : ma_ok n b) (hr : r.length = n) : ma_ok n (ma_add b r m) := by
  induction b with
  | nil =>
    simp only [ma_add]
    split
    · exact ma_ok_nil n
    · rename_i hm
      exact ma_ok_cons.mpr ⟨⟨hr, hm, fun _ h => by cases h⟩, ma_ok_nil n⟩
  | cons y t ih =>
    obtain ⟨q, k⟩ := y
    obtain ⟨⟨h1, h2, h3⟩, h4⟩ := ma_ok_cons.mp h
    simp only [ma_add]
    split
    · rename_i hq
      refine ma_ok_cons.mpr ⟨⟨h1, h2, fun x hx => ?_⟩, ih h4⟩
      rcases ma_add_mem hx with g | g
      · exact h3 x g
      · rw [g]; exact hq
    · rename_i hq
      split
      · split
        · exact h4
        · rename_i hk
          exact ma_ok_cons.mpr ⟨⟨h1, hk, h3⟩, h4⟩
      · rename_i hqr
        split
        · exact h
        · rename_i hm
          have hlt : ma_lt r q = true := by
            rcases ma_lt_tri (a := r) (b := q) (hr.trans h1.symm) with g | g | g
            · exact g
            · exact absurd g.symm hqr
            · exact absurd g hq
          refine ma_ok_cons.mpr ⟨⟨hr, hm, fun x hx => ?_⟩, h⟩
          rcases List.mem_cons.mp hx with rfl | hx
          · exact hlt
          · exact ma_lt_trans hlt (h3 x hx)
theorem ma_look_no {b : MaB} {r : List Int32} (h : ∀ x ∈ b, x.1 ≠ r) : ma_look b r = 0 := by
  induction b with
  | nil => rfl
  | cons y t ih =>
    obtain ⟨q, k⟩ := y
    simp only [ma_look]
    rw [if_neg (h (q, k) List.mem_cons_self)]
    exact ih fun x hx => h x (List.mem_cons_of_mem _ hx)
theorem ma_add_look {n : Nat} {b : MaB} {r : List Int32} {m : Int64} (h : ma_ok n b) (hr : r.length = n) (z : List Int32) : ma_look (ma_add b r m) z = ma_look b z + if r = z then m else 0 := by
  induction b with
  | nil =>
    simp only [ma_add, ma_look]
    by_cases hm : m = 0
    · subst hm
      simp [ma_look]
    · rw [if_neg hm]
      simp [ma_look]
  | cons y t ih =>
    obtain ⟨q, k⟩ := y
    obtain ⟨⟨h1, h2, h3⟩, h4⟩ := ma_ok_cons.mp h
    simp only [ma_add]
    split
    · rename_i hq
      simp only [ma_look]
      split
      · rename_i hz
        subst hz
        rw [if_neg (fun e => ma_lt_ne hq e.symm)]
        simp
      · exact ih h4
    · rename_i hq
      split
      · rename_i hqr
        subst hqr
        have h5 : ∀ x ∈ t, x.1 ≠ q := fun x hx e => ma_lt_ne (h3 x hx) e.symm
        by_cases hz : q = z
        · subst hz
          split
          · rename_i hk
            rw [ma_look_no h5]
            simp [ma_look, hk]
          · simp [ma_look]
        · split
          · simp [ma_look, hz]
          · simp [ma_look, hz]
      · rename_i hqr
        by_cases hm : m = 0
        · subst hm
          simp
        · rw [if_neg hm]
          have hlt : ma_lt r q = true := by
            rcases ma_lt_tri (a := r) (b := q) (hr.trans h1.symm) with g | g | g
            · exact g
            · exact absurd g.symm hqr
            · exact absurd g hq
          have h5 : ∀ x ∈ (q, k) :: t, x.1 ≠ r := by
            intro x hx e
            rcases List.mem_cons.mp hx with rfl | hx
            · exact hqr e
            · exact ma_lt_ne (ma_lt_trans hlt (h3 x hx)) e.symm
          by_cases hz : r = z
          · subst hz
            rw [ma_look_no h5]
            simp [ma_look]
          · simp [ma_look, hz]
/-- gathering: the way of the reference -/
def ma_g : MaB → List Int32 → Int64 → MaB
  | [], r, m => [(r, m)]
  | (q, k) :: t, r, m => if q = r then (q, k + m) :: t else (q, k) :: ma_g t r m
def ma_nd (b : MaB) : Prop := b.Pairwise (fun x y => x.1 ≠ y.1)
theorem ma_g_mem {b : MaB} {r : List Int32} {m : Int64} {x : List Int32 × Int64} (h : x ∈ ma_g b r m) : (∃ y ∈ b, y.1 = x.1) ∨ x.1 = r := by
  induction b with
  | nil => exact Or.inr (by rw [List.mem_singleton.mp h])
  | cons y t ih =>
    obtain ⟨q, k⟩ := y
    simp only [ma_g] at h
    split at h
    · rcases List.mem_cons.mp h with rfl | h
      · exact Or.inl ⟨(q, k), List.mem_cons_self, rfl⟩
      · exact Or.inl ⟨x, List.mem_cons_of_mem _ h, rfl⟩
    · rcases List.mem_cons.mp h with rfl | h
      · exact Or.inl ⟨(q, k), List.mem_cons_self, rfl⟩
      · rcases ih h with ⟨y, hy, e⟩ | e
        · exact Or.inl ⟨y, List.mem_cons_of_mem _ hy, e⟩
        · exact Or.inr e
theorem ma_g_nd {b : MaB} {r : List Int32} {m : Int64} (h : ma_nd b) : ma_nd (ma_g b r m) := by
  induction b with
  | nil => exact List.pairwise_singleton _ _
  | cons y t ih =>
    obtain ⟨q, k⟩ := y
    unfold ma_nd at h ih ⊢
    rw [List.pairwise_cons] at h
    simp only [ma_g]
    split
    · rw [List.pairwise_cons]
      exact ⟨h.1, h.2⟩
    · rename_i hq
      rw [List.pairwise_cons]
      refine ⟨fun x hx => ?_, ih h.2⟩
      rcases ma_g_mem hx with ⟨y, hy, e⟩ | e
      · rw [← e]; exact h.1 y hy
      · rw [e]; exact hq
theorem ma_g_look {b : MaB} {r : List Int32} {m : Int64} (z : List Int32) : ma_look (ma_g b r m) z = ma_look b z + if r = z then m else 0 := by
  induction b with
  | nil => simp [ma_g, ma_look]
  | cons y t ih =>
    obtain ⟨q, k⟩ := y
    simp only [ma_g]
    split
    · rename_i hq
      subst hq
      by_cases hz : q = z
      · subst hz; simp [ma_look]
      · simp [ma_look, hz]
    · rename_i hq
      simp only [ma_look]
      split
      · rename_i hz
        subst hz
        rw [if_neg (fun e => hq e.symm)]
        simp
      · exact ih
theorem ma_look_mem {b : MaB} (h : ma_nd b) {x : List Int32 × Int64} (hx : x ∈ b) : ma_look b x.1 = x.2 := by
  induction b with
  | nil => cases hx
  | cons y t ih =>
    obtain ⟨q, k⟩ := y
    unfold ma_nd at h
    rw [List.pairwise_cons] at h
    simp only [ma_look]
    rcases List.mem_cons.mp hx with rfl | hx
    · simp
    · rw [if_neg (h.1 x hx)]
      exact ih h.2 hx
theorem ma_mem_look {b : MaB} {r : List Int32} (h : ma_look b r ≠ 0) : (r, ma_look b r) ∈ b := by
  induction b with
  | nil => exact absurd rfl h
  | cons y t ih =>
    obtain ⟨q, k⟩ := y
    simp only [ma_look] at h ⊢
    split
    · rename_i hq
      subst hq
      exact List.mem_cons_self
    · rename_i hq
      rw [if_neg hq] at h
      exact List.mem_cons_of_mem _ (ih h)
theorem ma_srt_nd {b : MaB} (h : ma_srt b) : ma_nd b := List.Pairwise.imp (fun {_ _} h => ma_lt_ne h) h
def ma_fold (b A : MaB) : MaB := A.foldl (fun c x => ma_add c x.1 x.2) b
def ma_gf (b A : MaB) : MaB := A.foldl (fun c x => ma_g c x.1 x.2) b
theorem ma_fold_ok {n : Nat} {A : MaB} : ∀ {b : MaB}, ma_ok n b → (∀ x ∈ A, x.1.length = n) → ma_ok n (ma_fold b A) := by
  induction A with
  | nil => intro b h _; exact h
  | cons y t ih => intro b h hA; exact ih (ma_add_ok h (hA y List.mem_cons_self)) (fun x hx => hA x (List.mem_cons_of_mem _ hx))
theorem ma_gf_nd {A : MaB} : ∀ {b : MaB}, ma_nd b → ma_nd (ma_gf b A) := by
  induction A with
  | nil => intro b h; exact h
  | cons y t ih => intro b h; exact ih (ma_g_nd h)
theorem ma_fold_look {n : Nat} {A : MaB} : ∀ {b g : MaB}, ma_ok n b → (∀ x ∈ A, x.1.length = n) → (∀ z, ma_look b z = ma_look g z) → ∀ z, ma_look (ma_fold b A) z = ma_look (ma_gf g A) z := by
  induction A with
  | nil => intro b g _ _ h; exact h
  | cons y t ih =>
    intro b g hb hA h
    refine ih (ma_add_ok hb (hA y List.mem_cons_self)) (fun x hx => hA x (List.mem_cons_of_mem _ hx)) (fun z => ?_)
    rw [ma_add_look hb (hA y List.mem_cons_self), ma_g_look, h]
theorem ma_nd_nodup {b : MaB} (h : ma_nd b) : b.Nodup := List.Pairwise.imp (fun {_ _} h e => h (congrArg Prod.fst e)) h
/-- what is gathered and not nought is, in some order, what sorted insertion gives -/
theorem ma_perm {n : Nat} {A : MaB} (hA : ∀ x ∈ A, x.1.length = n) : ((ma_gf [] A).filter (fun x => decide (x.2 ≠ 0))).Perm (ma_fold [] A) := by
  have h1 : ma_ok n (ma_fold [] A) := ma_fold_ok (ma_ok_nil n) hA
  have h2 : ma_nd (ma_gf [] A) := ma_gf_nd List.Pairwise.nil
  have h3 := ma_fold_look (b := []) (g := []) (ma_ok_nil n) hA (fun _ => rfl)
  refine (List.perm_ext_iff_of_nodup ((ma_nd_nodup h2).sublist List.filter_sublist) (ma_nd_nodup (ma_srt_nd h1.1))).mpr fun x => ?_
  rw [List.mem_filter]
  constructor
  · rintro ⟨hx, hz⟩
    have e := ma_look_mem h2 hx
    have hz : x.2 ≠ 0 := of_decide_eq_true hz
    have e2 : ma_look (ma_fold [] A) x.1 = x.2 := (h3 x.1).trans e
    have := ma_mem_look (b := ma_fold [] A) (r := x.1) (by rw [e2]; exact hz)
    rw [e2] at this
    exact this
  · intro hx
    have e := ma_look_mem (ma_srt_nd h1.1) hx
    have hz := (h1.2 x hx).2
    have e2 : ma_look (ma_gf [] A) x.1 = x.2 := (h3 x.1).symm.trans e
    have := ma_mem_look (b := ma_gf [] A) (r := x.1) (by rw [e2]; exact hz)
    rw [e2] at this
    exact ⟨this, decide_eq_true hz⟩
/-- in a sorted bag the place of a row is the number of those before it -/
theorem ma_rank {n : Nat} {b : MaB} (h : ma_ok n b) : ∀ {i : Nat} (hi : i < b.length), b.countP (fun x => ma_lt x.1 (b[i]).1) = i := by
  induction b with
  | nil => intro i hi; simp at hi
  | cons y t ih =>
    intro i hi
    obtain ⟨⟨h1, h2, h3⟩, h4⟩ := ma_ok_cons.mp h
    cases i with
    | zero =>
      rw [List.countP_eq_zero]
      intro x hx
      rcases List.mem_cons.mp hx with rfl | hx
      · simp [ma_lt_irr]
      · simp [ma_lt_asym (h3 x hx)]
    | succ j =>
      have hj : j < t.length := by simpa using hi
      have hy := h3 (t[j]) (List.getElem_mem hj)
      rw [List.countP_cons_of_pos (by simpa using hy)]
      have := ih h4 hj
      simp only [List.getElem_cons_succ]
      omega
/-! The system's room of 32 rows. -/
def ma_addC (b : MaB) (r : List Int32) (m : Int64) : MaB := if 32 ≤ b.length ∧ b.all (fun x => decide (x.1 ≠ r)) = true then b else ma_add b r m
def ma_foldC (b A : MaB) : MaB := A.foldl (fun c x => ma_addC c x.1 x.2) b
theorem ma_add_len (b : MaB) (r : List Int32) (m : Int64) : (ma_add b r m).length ≤ b.length + 1 := by
  induction b with
  | nil =>
    simp only [ma_add]
    split <;> simp
  | cons y t ih =>
    obtain ⟨q, k⟩ := y
    simp only [ma_add]
    split
    · simp only [List.length_cons]; omega
    · split
      · split
        · simp only [List.length_cons]; omega
        · simp only [List.length_cons]; omega
      · split
        · simp only [List.length_cons]; omega
        · simp only [List.length_cons]; omega
theorem ma_foldC_small {A : MaB} : ∀ {b : MaB}, b.length + A.length ≤ 32 → ma_foldC b A = ma_fold b A := by
  induction A with
  | nil => intro b _; rfl
  | cons y t ih =>
    intro b h
    simp only [List.length_cons] at h
    have e : ma_addC b y.1 y.2 = ma_add b y.1 y.2 := by
      unfold ma_addC
      rw [if_neg]
      rintro ⟨g, -⟩
      omega
    show ma_foldC (ma_addC b y.1 y.2) t = ma_fold (ma_add b y.1 y.2) t
    rw [e]
    have := ma_add_len b y.1 y.2
    exact ih (by omega)
theorem ma_add_new {n : Nat} {b : MaB} {r : List Int32} {m : Int64} (h : ma_ok n b) (hn : ∀ x ∈ b, x.1 ≠ r) : (m = 0 → ma_add b r m = b) ∧ (m ≠ 0 → (ma_add b r m).length = b.length + 1) := by
  induction b with
  | nil => simp only [ma_add]; exact ⟨fun e => by rw [if_pos e], fun e => by rw [if_neg e]; rfl⟩
  | cons y t ih =>
    obtain ⟨q, k⟩ := y
    obtain ⟨-, h4⟩ := ma_ok_cons.mp h
    have hq : ¬ q = r := hn (q, k) List.mem_cons_self
    obtain ⟨i1, i2⟩ := ih h4 (fun x hx => hn x (List.mem_cons_of_mem _ hx))
    simp only [ma_add]
    constructor
    · intro e
      split
      · rw [i1 e]
      · rfl
    · intro e
      split
      · simp only [List.length_cons]; rw [i2 e]
      · rfl
theorem ma_fold_new {n : Nat} {A : MaB} : ∀ {b : MaB}, ma_ok n b → (∀ x ∈ A, x.1.length = n) → ma_nd A → (∀ x ∈ A, ∀ y ∈ b, y.1 ≠ x.1) → (ma_fold b A).length = b.length + A.countP (fun x => decide (x.2 ≠ 0)) := by
  induction A with
  | nil => intro b _ _ _ _; rfl
  | cons y t ih =>
    intro b hb hA hd hn
    unfold ma_nd at hd
    rw [List.pairwise_cons] at hd
    obtain ⟨i1, i2⟩ := ma_add_new (m := y.2) hb (hn y List.mem_cons_self)
    have hn2 : ∀ x ∈ t, ∀ z ∈ ma_add b y.1 y.2, z.1 ≠ x.1 := by
      intro x hx z hz
      rcases ma_add_mem hz with g | g
      · exact hn x (List.mem_cons_of_mem _ hx) z g
      · rw [g]; exact hd.1 x hx
    have := ih (ma_add_ok hb (hA y List.mem_cons_self)) (fun x hx => hA x (List.mem_cons_of_mem _ hx)) hd.2 hn2
    show (ma_fold (ma_add b y.1 y.2) t).length = _
    rw [this]
    by_cases hz : y.2 = 0
    · rw [i1 hz, List.countP_cons_of_neg (by simp [hz])]
    · rw [i2 hz, List.countP_cons_of_pos (by simp [hz])]
      omega
theorem ma_foldC_new {n : Nat} {A : MaB} : ∀ {b : MaB}, ma_ok n b → b.length ≤ 32 → (∀ x ∈ A, x.1.length = n) → ma_nd A → (∀ x ∈ A, ∀ y ∈ b, y.1 ≠ x.1) →
    (b.length + A.countP (fun x => decide (x.2 ≠ 0)) ≤ 32 → ma_foldC b A = ma_fold b A) ∧ (32 ≤ b.length + A.countP (fun x => decide (x.2 ≠ 0)) → (ma_foldC b A).length = 32) := by
  induction A with
  | nil => intro b _ h1 _ _ _; exact ⟨fun _ => rfl, fun h => by simp at h; show b.length = 32; omega⟩
  | cons y t ih =>
    intro b hb h1 hA hd hn
    unfold ma_nd at hd
    rw [List.pairwise_cons] at hd
    obtain ⟨i1, i2⟩ := ma_add_new (m := y.2) hb (hn y List.mem_cons_self)
    have hn2 : ∀ x ∈ t, ∀ z ∈ ma_add b y.1 y.2, z.1 ≠ x.1 := by
      intro x hx z hz
      rcases ma_add_mem hz with g | g
      · exact hn x (List.mem_cons_of_mem _ hx) z g
      · rw [g]; exact hd.1 x hx
    have hA2 : ∀ x ∈ t, x.1.length = n := fun x hx => hA x (List.mem_cons_of_mem _ hx)
    show (_ → ma_foldC (ma_addC b y.1 y.2) t = ma_fold (ma_add b y.1 y.2) t) ∧ (_ → (ma_foldC (ma_addC b y.1 y.2) t).length = 32)
    by_cases hz : y.2 = 0
    · have e2 : ma_add b y.1 y.2 = b := i1 hz
      have e : ma_addC b y.1 y.2 = b := by
        unfold ma_addC
        split
        · rfl
        · exact e2
      rw [e, e2, List.countP_cons_of_neg (by simp [hz])]
      exact ih hb h1 hA2 hd.2 (fun x hx => hn x (List.mem_cons_of_mem _ hx))
    · rw [List.countP_cons_of_pos (by simp [hz])]
      by_cases hl : b.length < 32
      · have e : ma_addC b y.1 y.2 = ma_add b y.1 y.2 := by
          unfold ma_addC
          rw [if_neg]
          rintro ⟨g, -⟩
          omega
        rw [e]
        have e3 := i2 hz
        obtain ⟨j1, j2⟩ := ih (ma_add_ok hb (hA y List.mem_cons_self)) (by omega) hA2 hd.2 hn2
        exact ⟨fun h => j1 (by omega), fun h => j2 (by omega)⟩
      · have e : ma_addC b y.1 y.2 = b := by
          unfold ma_addC
          rw [if_pos]
          refine ⟨by omega, List.all_eq_true.mpr fun x hx => decide_eq_true (hn y List.mem_cons_self x hx)⟩
        rw [e]
        obtain ⟨-, j2⟩ := ih hb h1 hA2 hd.2 (fun x hx => hn x (List.mem_cons_of_mem _ hx))
        exact ⟨fun h => by omega, fun _ => j2 (by omega)⟩
/-! In how many rows two bags differ: by merging, and by two counts. -/
def ma_mv : MaB → MaB → Nat
  | [], y => y.length
  | x :: xs, [] => (x :: xs).length
  | (q, k) :: xs, (r, m) :: ys => if ma_lt q r = true then 1 + ma_mv xs ((r, m) :: ys) else if q = r then (if k = m then 0 else 1) + ma_mv xs ys else 1 + ma_mv ((q, k) :: xs) ys
  termination_by x y => x.length + y.length
def ma_mv2 (x y : MaB) : Nat := y.countP (fun e => decide (ma_look x e.1 ≠ e.2)) + x.countP (fun e => decide (ma_look y e.1 = 0))
theorem ma_mv_eq {n : Nat} : ∀ (N : Nat) (x y : MaB), x.length + y.length ≤ N → ma_ok n x → ma_ok n y → ma_mv x y = ma_mv2 x y := by
  intro N
  induction N with
  | zero =>
    intro x y h _ _
    have hx : x = [] := List.length_eq_zero_iff.mp (by omega)
    have hy : y = [] := List.length_eq_zero_iff.mp (by omega)
    subst hx; subst hy
    simp [ma_mv, ma_mv2]
  | succ N ih =>
    intro x y h hx hy
    match x, y with
    | [], y =>
      rw [ma_mv]
      unfold ma_mv2
      rw [List.countP_nil, List.countP_eq_length.mpr]
      · rfl
      · intro e he
        have := (hy.2 e he).2
        simp [ma_look, Ne.symm this]
    | a :: xs, [] =>
      rw [ma_mv]
      unfold ma_mv2
      rw [List.countP_nil, List.countP_eq_length.mpr]
      · omega
      · intro e _
        simp [ma_look]
    | (q, k) :: xs, (r, m) :: ys =>
      obtain ⟨⟨a1, a2, a3⟩, a4⟩ := ma_ok_cons.mp hx
      obtain ⟨⟨b1, b2, b3⟩, b4⟩ := ma_ok_cons.mp hy
      simp only [List.length_cons] at h
      dsimp only at a1 a2 a3 b1 b2 b3
      rw [ma_mv]
      rcases ma_lt_tri (a := q) (b := r) (a1.trans b1.symm) with g | g | g
      · rw [if_pos g, ih xs ((r, m) :: ys) (by simp only [List.length_cons]; omega) a4 hy]
        have hno : ∀ e ∈ (r, m) :: ys, q ≠ e.1 := by
          intro e he
          rcases List.mem_cons.mp he with rfl | he
          · exact ma_lt_ne g
          · exact ma_lt_ne (ma_lt_trans g (b3 e he))
        unfold ma_mv2
        rw [List.countP_cons_of_pos (a := (q, k)) (l := xs) (by simp [ma_look_no (b := (r, m) :: ys) (r := q) (fun e he => (hno e he).symm)])]
        rw [List.countP_congr (l := (r, m) :: ys) (p := fun e => decide (ma_look ((q, k) :: xs) e.1 ≠ e.2)) (q := fun e => decide (ma_look xs e.1 ≠ e.2)) (fun e he => by simp [ma_look, hno e he])]
        omega
      · subst g
        rw [if_neg (by rw [ma_lt_irr]; decide), if_pos rfl, ih xs ys (by omega) a4 b4]
        have hx2 : ∀ e ∈ ys, q ≠ e.1 := fun e he => ma_lt_ne (b3 e he)
        have hy2 : ∀ e ∈ xs, q ≠ e.1 := fun e he => ma_lt_ne (a3 e he)
        unfold ma_mv2
        rw [List.countP_cons_of_neg (a := (q, k)) (l := xs) (by simp [ma_look, b2])]
        rw [List.countP_cons (a := (q, m)) (l := ys)]
        rw [List.countP_congr (l := ys) (p := fun e => decide (ma_look ((q, k) :: xs) e.1 ≠ e.2)) (q := fun e => decide (ma_look xs e.1 ≠ e.2)) (fun e he => by simp [ma_look, hx2 e he])]
        rw [List.countP_congr (l := xs) (p := fun e => decide (ma_look ((q, m) :: ys) e.1 = 0)) (q := fun e => decide (ma_look ys e.1 = 0)) (fun e he => by simp [ma_look, hy2 e he])]
        by_cases hk : k = m
        · simp [ma_look, hk]
        · simp [ma_look, hk]; omega
      · have g' : ¬ ma_lt q r = true := by rw [ma_lt_asym g]; decide
        rw [if_neg g', if_neg (fun e => ma_lt_ne g e.symm), ih ((q, k) :: xs) ys (by simp only [List.length_cons]; omega) hx b4]
        have hno : ∀ e ∈ (q, k) :: xs, r ≠ e.1 := by
          intro e he
          rcases List.mem_cons.mp he with rfl | he
          · exact ma_lt_ne g
          · exact ma_lt_ne (ma_lt_trans g (a3 e he))
        unfold ma_mv2
        rw [List.countP_cons_of_pos (a := (r, m)) (l := ys) (by simp [ma_look_no (b := (q, k) :: xs) (r := r) (fun e he => (hno e he).symm), Ne.symm b2])]
        rw [List.countP_congr (l := (q, k) :: xs) (p := fun e => decide (ma_look ((r, m) :: ys) e.1 = 0)) (q := fun e => decide (ma_look ys e.1 = 0)) (fun e he => by simp [ma_look, hno e he])]
        omega
end
section
/-! Rows and bags as they lie in arrays. -/
def ar_row (f : Nat → Int32) (n a : Nat) : List Int32 := (List.range n).map (fun c => f (a + c))
theorem ar_row_len (f : Nat → Int32) (n a : Nat) : (ar_row f n a).length = n := by simp [ar_row]
theorem ar_row_0 (f : Nat → Int32) (a : Nat) : ar_row f 0 a = [] := rfl
theorem ar_row_cons (f : Nat → Int32) (n a : Nat) : ar_row f (n + 1) a = f a :: ar_row f n (a + 1) := by
  unfold ar_row
  rw [List.range_succ_eq_map, List.map_cons, List.map_map]
  congr 1
  apply List.map_congr_left
  intro c _
  show f (a + (c + 1)) = f (a + 1 + c)
  congr 1
  omega
theorem ar_row_snoc (f : Nat → Int32) (n a : Nat) : ar_row f (n + 1) a = ar_row f n a ++ [f (a + n)] := by
  simp [ar_row, List.range_succ]
theorem ar_row_congr {f g : Nat → Int32} {n a b : Nat} (h : ∀ c, c < n → f (a + c) = g (b + c)) : ar_row f n a = ar_row g n b := by
  unfold ar_row
  apply List.map_congr_left
  intro c hc
  exact h c (List.mem_range.mp hc)
theorem ar_row_get {f : Nat → Int32} {n a c : Nat} (h : c < n) : (ar_row f n a)[c]? = some (f (a + c)) := by
  simp [ar_row, h]
theorem ar_row_inj {f g : Nat → Int32} {n a b : Nat} (h : ar_row f n a = ar_row g n b) : ∀ c, c < n → f (a + c) = g (b + c) := by
  intro c hc
  have h1 := ar_row_get (f := f) (a := a) hc
  rw [h, ar_row_get hc] at h1
  exact (Option.some.inj h1).symm
theorem ar_row_lt {f g : Nat → Int32} : ∀ {n a b c : Nat}, c < n → f (a + c) < g (b + c) → (∀ j, j < c → f (a + j) = g (b + j)) → ma_lt (ar_row f n a) (ar_row g n b) = true
  | 0, _, _, _, h, _, _ => absurd h (Nat.not_lt_zero _)
  | n + 1, a, b, 0, _, h2, _ => by
    rw [ar_row_cons, ar_row_cons, ma_lt_cons]
    exact Or.inl h2
  | n + 1, a, b, c + 1, h1, h2, h3 => by
    rw [ar_row_cons, ar_row_cons, ma_lt_cons]
    refine Or.inr ⟨h3 0 (by omega), ar_row_lt (c := c) (by omega) ?_ (fun j hj => ?_)⟩
    · have e1 : a + 1 + c = a + (c + 1) := by omega
      have e2 : b + 1 + c = b + (c + 1) := by omega
      rw [e1, e2]; exact h2
    · have e1 : a + 1 + j = a + (j + 1) := by omega
      have e2 : b + 1 + j = b + (j + 1) := by omega
      rw [e1, e2]; exact h3 (j + 1) (by omega)
/-- n rows, row r at 4 * (o + r), its number at o + r -/
def ar_bag (f : Nat → Int32) (m : Nat → Int64) (w o n : Nat) : MaB := (List.range n).map (fun r => (ar_row f w (4 * (o + r)), m (o + r)))
theorem ar_bag_len (f : Nat → Int32) (m : Nat → Int64) (w o n : Nat) : (ar_bag f m w o n).length = n := by simp [ar_bag]
theorem ar_bag_get {f : Nat → Int32} {m : Nat → Int64} {w o n r : Nat} (h : r < n) : (ar_bag f m w o n)[r]? = some (ar_row f w (4 * (o + r)), m (o + r)) := by
  simp [ar_bag, h]
theorem ar_bag_snoc (f : Nat → Int32) (m : Nat → Int64) (w o n : Nat) : ar_bag f m w o (n + 1) = ar_bag f m w o n ++ [(ar_row f w (4 * (o + n)), m (o + n))] := by
  simp [ar_bag, List.range_succ]
theorem ar_bag_congr {f g : Nat → Int32} {m k : Nat → Int64} {w o p n : Nat} (h1 : ∀ r, r < n → ∀ c, c < w → f (4 * (o + r) + c) = g (4 * (p + r) + c)) (h2 : ∀ r, r < n → m (o + r) = k (p + r)) : ar_bag f m w o n = ar_bag g k w p n := by
  unfold ar_bag
  apply List.map_congr_left
  intro r hr
  have hr := List.mem_range.mp hr
  rw [h2 r hr, ar_row_congr (h1 r hr)]
theorem ar_ext {b : MaB} {f : Nat → Int32} {m : Nat → Int64} {w o n : Nat} (hl : b.length = n) (h : ∀ r, r < n → b[r]? = some (ar_row f w (4 * (o + r)), m (o + r))) : b = ar_bag f m w o n := by
  apply List.ext_getElem?
  intro i
  by_cases hi : i < n
  · rw [h i hi, ar_bag_get hi]
  · rw [List.getElem?_eq_none (by omega), List.getElem?_eq_none (by rw [ar_bag_len]; omega)]
theorem ar_bag_mem {f : Nat → Int32} {m : Nat → Int64} {w o n : Nat} {x : List Int32 × Int64} (h : x ∈ ar_bag f m w o n) : ∃ r, r < n ∧ x = (ar_row f w (4 * (o + r)), m (o + r)) := by
  obtain ⟨r, hr, rfl⟩ := List.mem_map.mp h
  exact ⟨r, List.mem_range.mp hr, rfl⟩
/-! numbers -/
theorem ix_inc (k : Nat) : nI k + Int32.ofInt 1 = nI (k + 1) := (nI_succ k).symm
theorem ix_4a (r c : Nat) : nI r * 4 + nI c = nI (4 * r + c) := by
  show nI r * nI 4 + nI c = _
  rw [pk_mul, nI_add, Nat.mul_comm]
theorem ix_4b (r c : Nat) : 4 * nI r + nI c = nI (4 * r + c) := by
  show nI 4 * nI r + nI c = _
  rw [pk_mul, nI_add]
theorem ix_16 (b r : Nat) : 16 * nI b + nI r = nI (16 * b + r) := by
  show nI 16 * nI b + nI r = _
  rw [pk_mul, nI_add]
theorem ix_64 (b r : Nat) : 64 * nI b + nI r = nI (64 * b + r) := by
  show nI 64 * nI b + nI r = _
  rw [pk_mul, nI_add]
theorem ix_m4 (r : Nat) : nI r * 4 = nI (4 * r) := by
  show nI r * nI 4 = _
  rw [pk_mul, Nat.mul_comm]
end
section
/-! Worlds as partial maps, one judgement for a body, one form of contract. -/
abbrev Ct : Type := (Nat × (Nat → Int32)) ⊕ (Nat × (Nat → Int64)) ⊕ (Nat × (Nat → Option Nat)) ⊕ (Nat × List Value) ⊕ Cell
abbrev Wd : Type := Nat → Option Ct
abbrev cI (n : Nat) (f : Nat → Int32) : Ct := .inl (n, f)
abbrev cJ (n : Nat) (f : Nat → Int64) : Ct := .inr (.inl (n, f))
abbrev cR (n : Nat) (f : Nat → Option Nat) : Ct := .inr (.inr (.inl (n, f)))
abbrev cO (k : Nat) (fs : List Value) : Ct := .inr (.inr (.inr (.inl (k, fs))))
abbrev cX (c : Cell) : Ct := .inr (.inr (.inr (.inr c)))
/-- the launch; the numbers of the tables' classes and slots; the three kinds of arrays -/
abbrev Gl : Type := Launch × va_G × ClassId × ClassId × ClassId
def fw_tys (g : Gl) : List (ClassId × FieldType) := [(g.2.2.1, .int), (g.2.2.2.1, .long), (g.2.2.2.2, .object "DeltaViews$View")]
def fw_at (g : Gl) (a : Nat) (e : Ct) (H : Heap) : Prop := match e with
  | .inl x => H[a]? = some (vp_cell g.2.2.1 (x.1, .inl x.2))
  | .inr (.inl x) => H[a]? = some (vp_cell g.2.2.2.1 (x.1, .inr (.inl x.2)))
  | .inr (.inr (.inl x)) => H[a]? = some (vp_cell g.2.2.2.2 (x.1, .inr (.inr (.inr (.inr x.2)))))
  | .inr (.inr (.inr (.inl o))) => ∃ r : vw_C, vwCl[o.1]? = some r ∧ t_OB a (g.2.1.1 o.1) r.2.2 (g.2.1.2 o.1) H (vp_V o.2)
  | .inr (.inr (.inr (.inr c))) => H[a]? = some c
theorem fw_at.kept {g : Gl} {a : Nat} {e : Ct} {H H1 : Heap} (h : fw_at g a e H) (hq : H1[a]? = H[a]?) : fw_at g a e H1 := by
  match e, h with
  | .inl x, h => exact hq.trans h
  | .inr (.inl x), h => exact hq.trans h
  | .inr (.inr (.inl x)), h => exact hq.trans h
  | .inr (.inr (.inr (.inl o))), h =>
    obtain ⟨r, h1, h2⟩ := h
    exact ⟨r, h1, h2.kept hq⟩
  | .inr (.inr (.inr (.inr c))), h => exact hq.trans h
theorem fw_at.cell {g : Gl} {a : Nat} {e : Ct} {H : Heap} (h : fw_at g a e H) : ∃ c : Cell, H[a]? = some c := by
  match e, h with
  | .inl x, h => exact ⟨_, h⟩
  | .inr (.inl x), h => exact ⟨_, h⟩
  | .inr (.inr (.inl x)), h => exact ⟨_, h⟩
  | .inr (.inr (.inr (.inl o))), h =>
    obtain ⟨r, h1, cell, h2, -⟩ := h
    exact ⟨_, h2⟩
  | .inr (.inr (.inr (.inr c))), h => exact ⟨_, h⟩
theorem fw_at.lt {g : Gl} {a : Nat} {e : Ct} {H : Heap} (h : fw_at g a e H) : a < H.size := by
  obtain ⟨c, hc⟩ := h.cell
  exact (Array.getElem?_eq_some_iff.mp hc).1
def fw_H (g : Gl) (w : Wd) (H : Heap) : Prop := ∀ a e, w a = some e → fw_at g a e H
def fw_up (w : Wd) (a : Nat) (e : Ct) : Wd := fun q => if q = a then some e else w q
theorem fw_up_s (w : Wd) (a : Nat) (e : Ct) : fw_up w a e a = some e := by simp [fw_up]
theorem fw_up_n (w : Wd) {a q : Nat} (e : Ct) (h : q ≠ a) : fw_up w a e q = w q := by simp [fw_up, h]
theorem fw_H.set {g : Gl} {w : Wd} {H H1 : Heap} {a : Nat} {e : Ct} (h : fw_H g w H) (ha : fw_at g a e H1) (hq : ∀ q : Nat, q ≠ a → H1[q]? = H[q]?) : fw_H g (fw_up w a e) H1 := by
  intro q e' he
  by_cases hqa : q = a
  · subst hqa
    rw [fw_up_s] at he
    rw [← Option.some.inj he]
    exact ha
  · rw [fw_up_n _ _ hqa] at he
    exact (h q e' he).kept (hq q hqa)
theorem fw_H.born {g : Gl} {w : Wd} {H H1 : Heap} {e : Ct} (h : fw_H g w H) (ha : fw_at g H.size e H1) (hq : ∀ q : Nat, q < H.size → H1[q]? = H[q]?) : fw_H g (fw_up w H.size e) H1 := by
  intro q e' he
  by_cases hqa : q = H.size
  · subst hqa
    rw [fw_up_s] at he
    rw [← Option.some.inj he]
    exact ha
  · rw [fw_up_n _ _ hqa] at he
    have := h q e' he
    exact this.kept (hq q this.lt)
def fw_raw : Ct → Bool
  | .inr (.inr (.inr (.inr _))) => true
  | _ => false
/-- what a body may write: what its world holds and isn't raw, and what is made later -/
def fw_fr (w : Wd) (sz q : Nat) : Prop := (∃ e, w q = some e ∧ fw_raw e = false) ∨ sz ≤ q
def fw_ext (w : Wd) (sz : Nat) (w' : Wd) (sz' : Nat) : Prop := sz ≤ sz' ∧ ∀ q, fw_fr w' sz' q → fw_fr w sz q
theorem fw_ext.rf {w : Wd} {sz : Nat} : fw_ext w sz w sz := ⟨Nat.le_refl _, fun _ h => h⟩
theorem fw_ext.tr {w w' w2 : Wd} {sz sz' sz2 : Nat} (h : fw_ext w sz w' sz') (k : fw_ext w' sz' w2 sz2) : fw_ext w sz w2 sz2 := ⟨Nat.le_trans h.1 k.1, fun q z => h.2 q (k.2 q z)⟩
theorem fw_ext.up {w : Wd} {sz a : Nat} {e0 e : Ct} (ha : w a = some e0) (hr : fw_raw e0 = false) : fw_ext w sz (fw_up w a e) sz := by
  refine ⟨Nat.le_refl _, fun q h => ?_⟩
  rcases h with ⟨e1, h1, h2⟩ | h
  · by_cases hqa : q = a
    · subst hqa
      exact Or.inl ⟨e0, ha, hr⟩
    · rw [fw_up_n _ _ hqa] at h1
      exact Or.inl ⟨e1, h1, h2⟩
  · exact Or.inr h
theorem fw_ext.new {w : Wd} {sz : Nat} {e : Ct} : fw_ext w sz (fw_up w sz e) (sz + 1) := by
  refine ⟨Nat.le_succ _, fun q h => ?_⟩
  rcases h with ⟨e1, h1, h2⟩ | h
  · by_cases hqa : q = sz
    · subst hqa
      exact Or.inr (Nat.le_refl _)
    · rw [fw_up_n _ _ hqa] at h1
      exact Or.inl ⟨e1, h1, h2⟩
  · exact Or.inr (by omega)
/-! The tables' words, all at once; a method; a body's context. -/
/-- a method: its name, bytes, locals, answer, handlers -/
abbrev Mi : Type := MethodName × ByteArray × Nat × Option FieldType × List (Nat × Nat × Nat × Nat)
def fw_word (M : Mi) : Cond := match M.2.2.2.2 with
  | [] => .code M.1 M.2.1 M.2.2.1 M.2.2.2.1
  | h :: t => .codeWith M.1 M.2.1 M.2.2.1 M.2.2.2.1 (h :: t)
def fw_code (M : Mi) (meth : Method) (c : Code) : Prop := c.code = M.2.1 ∧ c.maxLocals = M.2.2.1 ∧ c.exceptionTable.toList.map (fun h => (h.startPc, h.endPc, h.handlerPc, h.catchType)) = M.2.2.2.2 ∧ meth.sig.returnType = M.2.2.2.1 ∧ meth.locks = false
theorem fw_word_spec {M : Mi} {s : State} {args : Array Value} {m : MethodId} (hn : s.methodNamed? M.1 = some m) (h : (fw_word M).before args s = true) :
    ∃ meth c, s.vm.method? m = some meth ∧ meth.code = some c ∧ fw_code M meth c ∧ parseMethodDescriptor M.1.desc = some meth.sig := by
  obtain ⟨y, b, n, r, hh⟩ := M
  cases hh with
  | nil =>
    obtain ⟨meth, c, h1, h2, h3, h4, h5, h6, h7, h8⟩ := Cond.code_spec hn h
    refine ⟨meth, c, h1, h2, ⟨h3, h4, ?_, h5, h6⟩, h8⟩
    have e : c.exceptionTable = #[] := by simpa using h7
    rw [e]; rfl
  | cons x t =>
    obtain ⟨m9, meth, c, hn9, h1, h2, h3, h4, h5, h6, h7, h8⟩ := Cond.codeWith_spec h
    cases hn.symm.trans hn9
    exact ⟨meth, c, h1, h2, ⟨h3, h4, h5, h6, h7⟩, h8⟩
def fw_T (U : State) : Prop := ∀ c ∈ fw_big, c.before #[] U = true
def fw_K (g : Gl) (U : State) : Prop := va_K g.2.1 vwCl (fw_tys g) U ∧ fw_T U
/-- where a static of Throwable lies, and that it holds null or some reference -/
def fw_st (n d : String) (U : State) (H : Heap) : Prop := ∃ (c : ClassId) (k : Class) (i : Nat) (f : Field) (a : Nat) (cell : Cell) (v : Value), U.vm.findClass Bundle.tN = some c ∧ U.fieldFound? Bundle.tN n d = some (c, k, i, f) ∧ f.isStatic = true ∧ k.statics = some a ∧ H[a]? = some cell ∧ cell.vm.isStatics = true ∧ cell.cls = c ∧ f.slot < cell.slots.size ∧ k.staticTypes[f.slot]? = some f.type ∧ cell.slots[f.slot]? = some v ∧ v.isRef = true
/-- what throwing asks of a state -/
def fw_X (g : Gl) (U : State) : Prop := g.1.flags = Jvm.pinnedFlags ++ [Jvm.noTraceFlag] ∧ fw_st "UNASSIGNED_STACK" Bundle.steD U U.heap ∧ fw_st "SUPPRESSED_SENTINEL" Bundle.listD U U.heap ∧ ∀ (i : Nat) (tx : String), Cond.stringRef "DeltaViews" i tx ∈ tables_1 → ∃ a, vk_R "DeltaViews" i tx a U
def fw_rm (d mc ms : Nat) : Room := { frames := d, cells := mc, slots := ms, locals := 39 * d }
/-- how a method ends: with an answer, or with an object thrown, of the kind that a number names -/
abbrev Rs : Type := Option Value ⊕ Nat
def fw_out (r : Rs) (o : Outcome) (sz : Nat) (t : State) : Prop := match r with
  | .inl v => o = .returned v
  | .inr k => ∃ (x : Addr) (cell : Cell), o = .threw x ∧ sz ≤ x ∧ t.heap[x]? = some cell ∧ cell.vm = .none ∧ t.vm.findClass (fw_ex k) = some cell.cls
def fw_Q (g : Gl) (w : Wd) (sz mc ms : Nat) (E : Rs → Wd → Nat → Prop) (st : State) (o : Outcome) (t : State) : Prop :=
  (∃ (r : Rs) (w' : Wd), fw_out r o sz t ∧ fw_H g w' t.heap ∧ fw_ext w sz w' t.heap.size ∧ E r w' t.heap.size) ∧
    ∃ L : List Loc, st.WarmedH t.vm ∧ st.sameButNew ({ t with vm := st.vm } : State) L mc ms ∧ ∀ q ∈ L, fw_fr w sz q.base
/-- the contract of a method at these arguments, from this world, at depth d, with so many cells and slots -/
def CT (g : Gl) (d mc ms : Nat) (M : Mi) (as : List Value) (w : Wd) (sz : Nat) (E : Rs → Wd → Nat → Prop) : Prop :=
  MetFree g.1 M.1 (headSpec [fw_word M] (fw_rm d mc ms)) (fun v U => v = as.toArray ∧ U.heap.size = sz ∧ fw_H g w U.heap ∧ fw_K g U ∧ fw_X g U) (fun _ _ _ _ _ => True) (fun _ st o t => fw_Q g w sz mc ms E st o t)
def fw_Cx (g : Gl) (M : Mi) (w0 : Wd) (sz0 : Nat) (p : Program) (s : State) (m : MethodId) (meth : Method) (c : Code) : Prop :=
  p.tables.exec = Jvm.exec ∧ fw_code M meth c ∧ s.methodNamed? M.1 = some m ∧ s.vm.method? m = some meth ∧ fw_K g s ∧ s.heap.size = sz0 ∧ fw_H g w0 s.heap ∧ fw_X g s
def fw_E (g : Gl) (w0 : Wd) (sz0 mc ms : Nat) (E : Rs → Wd → Nat → Prop) (below : List Frame) (s t : State) : Prop := ∃ o, t.status = .running ∧ Ended t below o ∧ fw_Q g w0 sz0 mc ms E s o t
/-- a body at pc, with these locals, this stack and this world, comes to an end of E -/
def VV (g : Gl) (d mc ms : Nat) (M : Mi) (w0 : Wd) (sz0 : Nat) (E : Rs → Wd → Nat → Prop) (pc : Nat) (L : List (Nat × Value)) (S : List Value) (w : Wd) (sz nc ns : Nat) : Prop :=
  ∀ (p : Program) (e : Env) (s : State) (m : MethodId) (args : Array Value) (below : List Frame) (meth : Method) (c : Code) (H : Heap) (locs : List Loc) (ls : Array Slot),
    fw_Cx g M w0 sz0 p s m meth c → fw_H g w H → H.size = sz → fw_ext w0 sz0 w sz → (∀ q ∈ locs, fw_fr w0 sz0 q.base) → lv_has ls M.2.2.1 L →
    W p g.1 e (fw_rm d mc ms) s m args below meth c H locs nc ns (fw_E g w0 sz0 mc ms E below s) (F0 m pc ls S)
section FW
variable {g : Gl} {d mc ms : Nat} {M : Mi} {w0 : Wd} {sz0 : Nat} {E : Rs → Wd → Nat → Prop} {pc : Nat} {L : List (Nat × Value)} {S : List Value} {w : Wd} {sz nc ns : Nat}
theorem fw_mono {p : Program} {l : Launch} {e : Env} {R : Room} {s : State} {m : MethodId} {args : Array Value} {below : List Frame} {meth : Method} {c : Code} {H : Heap} {locs : List Loc} {cells slots : Nat} {Q Q' : State → Prop} {f : JFrame} (h : ∀ t, Q t → Q' t)
    (k : W p l e R s m args below meth c H locs cells slots Q f) : W p l e R s m args below meth c H locs cells slots Q' f := by
  intro T hT X
  obtain ⟨t, a, b⟩ := k T hT X
  exact ⟨t, a, h t b⟩
/-- a step that leaves locals and world alone -/
theorem vv_s {pc' : Nat} {S' : List Value}
    (h : ∀ {p : Program} {e : Env} {s : State} {m : MethodId} {args : Array Value} {below : List Frame} {meth : Method} {c : Code} {H : Heap} {locs : List Loc} {ls : Array Slot} {Q : State → Prop}, p.tables.exec = Jvm.exec → c.code = M.2.1 →
      W p g.1 e (fw_rm d mc ms) s m args below meth c H locs nc ns Q (F0 m pc' ls S') → W p g.1 e (fw_rm d mc ms) s m args below meth c H locs nc ns Q (F0 m pc ls S))
    (k : VV g d mc ms M w0 sz0 E pc' L S' w sz nc ns) : VV g d mc ms M w0 sz0 E pc L S w sz nc ns :=
  fun p e s m args below meth c H locs ls hC hH hz hx hl hL => h hC.1 hC.2.1.1 (k p e s m args below meth c H locs ls hC hH hz hx hl hL)
/-- a step that reads locals -/
theorem vv_l {pc' : Nat} {S' : List Value}
    (h : ∀ {p : Program} {e : Env} {s : State} {m : MethodId} {args : Array Value} {below : List Frame} {meth : Method} {c : Code} {H : Heap} {locs : List Loc} {ls : Array Slot} {Q : State → Prop}, lv_has ls M.2.2.1 L → p.tables.exec = Jvm.exec → c.code = M.2.1 →
      W p g.1 e (fw_rm d mc ms) s m args below meth c H locs nc ns Q (F0 m pc' ls S') → W p g.1 e (fw_rm d mc ms) s m args below meth c H locs nc ns Q (F0 m pc ls S))
    (k : VV g d mc ms M w0 sz0 E pc' L S' w sz nc ns) : VV g d mc ms M w0 sz0 E pc L S w sz nc ns :=
  fun p e s m args below meth c H locs ls hC hH hz hx hl hL => h hL hC.1 hC.2.1.1 (k p e s m args below meth c H locs ls hC hH hz hx hl hL)
/-- a step that writes locals -/
theorem vv_t {pc' : Nat} {L' : List (Nat × Value)} {S' : List Value}
    (h : ∀ {p : Program} {e : Env} {s : State} {m : MethodId} {args : Array Value} {below : List Frame} {meth : Method} {c : Code} {H : Heap} {locs : List Loc} {ls : Array Slot} {Q : State → Prop}, lv_has ls M.2.2.1 L → p.tables.exec = Jvm.exec → c.code = M.2.1 →
      (∀ ls', lv_has ls' M.2.2.1 L' → W p g.1 e (fw_rm d mc ms) s m args below meth c H locs nc ns Q (F0 m pc' ls' S')) → W p g.1 e (fw_rm d mc ms) s m args below meth c H locs nc ns Q (F0 m pc ls S))
    (k : VV g d mc ms M w0 sz0 E pc' L' S' w sz nc ns) : VV g d mc ms M w0 sz0 E pc L S w sz nc ns :=
  fun p e s m args below meth c H locs ls hC hH hz hx hl hL => h hL hC.1 hC.2.1.1 (fun ls' hL' => k p e s m args below meth c H locs ls' hC hH hz hx hl hL')
end FW
end
section
section RU
variable {g : Gl} {d mc ms : Nat} {M : Mi} {w0 : Wd} {sz0 : Nat} {E : Rs → Wd → Nat → Prop} {pc : Nat} {L : List (Nat × Value)} {S : List Value} {w : Wd} {sz nc ns : Nat}
theorem fw_lk {L : List (Nat × Value)} {i : Nat} {v : Value} (h : L.lookup i = some v) : (i, v) ∈ L := by
  induction L with
  | nil => simp at h
  | cons q t ih =>
    obtain ⟨j, u⟩ := q
    rw [List.lookup_cons] at h
    split at h
    · rename_i hij
      have e1 : i = j := by simpa using hij
      have e2 : u = v := Option.some.inj h
      rw [e1, e2]
      exact List.mem_cons_self
    · exact List.mem_cons_of_mem _ (ih h)
theorem fw_lv {ls : Array Slot} {n : Nat} {L : List (Nat × Value)} {i : Nat} {v : Value} (hl : lv_has ls n L) (h : L.lookup i = some v) : ls[i]? = some (.val v) := hl.2.2 (i, v) (fw_lk h)
/-- two ways on -/
theorem vv_b {P P' : Prop} {pc1 pc2 : Nat} {S1 S2 : List Value}
    (h : ∀ {p : Program} {e : Env} {s : State} {m : MethodId} {args : Array Value} {below : List Frame} {meth : Method} {c : Code} {H : Heap} {locs : List Loc} {ls : Array Slot} {Q : State → Prop}, p.tables.exec = Jvm.exec → c.code = M.2.1 →
      (P → W p g.1 e (fw_rm d mc ms) s m args below meth c H locs nc ns Q (F0 m pc1 ls S1)) → (P' → W p g.1 e (fw_rm d mc ms) s m args below meth c H locs nc ns Q (F0 m pc2 ls S2)) → W p g.1 e (fw_rm d mc ms) s m args below meth c H locs nc ns Q (F0 m pc ls S))
    (k1 : P → VV g d mc ms M w0 sz0 E pc1 L S1 w sz nc ns) (k2 : P' → VV g d mc ms M w0 sz0 E pc2 L S2 w sz nc ns) : VV g d mc ms M w0 sz0 E pc L S w sz nc ns :=
  fun p e s m args below meth c H locs ls hC hH hz hx hl hL => h hC.1 hC.2.1.1 (fun q => k1 q p e s m args below meth c H locs ls hC hH hz hx hl hL) (fun q => k2 q p e s m args below meth c H locs ls hC hH hz hx hl hL)
/-- the top of the stack by a name -/
theorem v_topi {x : Int32} (k : ∀ y : Int32, y = x → VV g d mc ms M w0 sz0 E pc L (.int y :: S) w sz nc ns) : VV g d mc ms M w0 sz0 E pc L (.int x :: S) w sz nc ns := k x rfl
theorem v_topl {x : Int64} (k : ∀ y : Int64, y = x → VV g d mc ms M w0 sz0 E pc L (.long y :: S) w sz nc ns) : VV g d mc ms M w0 sz0 E pc L (.long x :: S) w sz nc ns := k x rfl
theorem v_eq {pc' : Nat} {L' : List (Nat × Value)} {S' : List Value} (h1 : pc' = pc) (h2 : L' = L) (h3 : S' = S) (k : VV g d mc ms M w0 sz0 E pc' L' S' w sz nc ns) : VV g d mc ms M w0 sz0 E pc L S w sz nc ns := by subst h1; subst h2; subst h3; exact k
/-- fewer locals -/
theorem v_sub {L' : List (Nat × Value)} (h : ∀ q ∈ L', q ∈ L) (k : VV g d mc ms M w0 sz0 E pc L' S w sz nc ns) : VV g d mc ms M w0 sz0 E pc L S w sz nc ns :=
  fun p e s m args below meth c H locs ls hC hH hz hx hl hL => k p e s m args below meth c H locs ls hC hH hz hx hl ⟨hL.1, hL.2.1, fun q hq => hL.2.2 q (h q hq)⟩
theorem v_iconst {n : Int} {v : Int32} (hd : decode M.2.1 pc = .ok (.iconst n, 1)) (hv : Int32.ofInt n = v) (k : VV g d mc ms M w0 sz0 E (pc + 1) L (.int v :: S) w sz nc ns) : VV g d mc ms M w0 sz0 E (pc) L (S) w sz nc ns := vv_s (fun hx hb k => lv_iconst hx hb hd hv k) k
theorem v_bipush {n : Int} {v : Int32} (hd : decode M.2.1 pc = .ok (.bipush n, 2)) (hv : (Int8.ofInt n).toInt32 = v) (k : VV g d mc ms M w0 sz0 E (pc + 2) L (.int v :: S) w sz nc ns) : VV g d mc ms M w0 sz0 E (pc) L (S) w sz nc ns := vv_s (fun hx hb k => lv_bipush hx hb hd hv k) k
theorem v_sipush {n : Int} {v : Int32} (hd : decode M.2.1 pc = .ok (.sipush n, 3)) (hv : (Int16.ofInt n).toInt32 = v) (k : VV g d mc ms M w0 sz0 E (pc + 3) L (.int v :: S) w sz nc ns) : VV g d mc ms M w0 sz0 E (pc) L (S) w sz nc ns := vv_s (fun hx hb k => lv_sipush hx hb hd hv k) k
theorem v_lconst {n : Fin 2} {v : Int64} (hd : decode M.2.1 pc = .ok (.lconst n, 1)) (hv : Int64.ofNat (n : Nat) = v) (k : VV g d mc ms M w0 sz0 E (pc + 1) L (.long v :: S) w sz nc ns) : VV g d mc ms M w0 sz0 E (pc) L (S) w sz nc ns := vv_s (fun hx hb k => lv_lconst hx hb hd hv k) k
theorem v_iadd {x y : Int32} (hd : decode M.2.1 pc = .ok (.iadd, 1)) (k : VV g d mc ms M w0 sz0 E (pc + 1) L (.int (x + y) :: S) w sz nc ns) : VV g d mc ms M w0 sz0 E (pc) L (.int y :: .int x :: S) w sz nc ns := vv_s (fun hx hb k => lv_iadd hx hb hd k) k
theorem v_isub {x y : Int32} (hd : decode M.2.1 pc = .ok (.isub, 1)) (k : VV g d mc ms M w0 sz0 E (pc + 1) L (.int (x - y) :: S) w sz nc ns) : VV g d mc ms M w0 sz0 E (pc) L (.int y :: .int x :: S) w sz nc ns := vv_s (fun hx hb k => lv_isub hx hb hd k) k
theorem v_imul {x y : Int32} (hd : decode M.2.1 pc = .ok (.imul, 1)) (k : VV g d mc ms M w0 sz0 E (pc + 1) L (.int (x * y) :: S) w sz nc ns) : VV g d mc ms M w0 sz0 E (pc) L (.int y :: .int x :: S) w sz nc ns := vv_s (fun hx hb k => lv_imul hx hb hd k) k
theorem v_iand {x y : Int32} (hd : decode M.2.1 pc = .ok (.iand, 1)) (k : VV g d mc ms M w0 sz0 E (pc + 1) L (.int (x &&& y) :: S) w sz nc ns) : VV g d mc ms M w0 sz0 E (pc) L (.int y :: .int x :: S) w sz nc ns := vv_s (fun hx hb k => lv_iand hx hb hd k) k
theorem v_ineg {x : Int32} (hd : decode M.2.1 pc = .ok (.ineg, 1)) (k : VV g d mc ms M w0 sz0 E (pc + 1) L (.int (-x) :: S) w sz nc ns) : VV g d mc ms M w0 sz0 E (pc) L (.int x :: S) w sz nc ns := vv_s (fun hx hb k => lv_ineg hx hb hd k) k
theorem v_ishr {x y : Int32} (hd : decode M.2.1 pc = .ok (.ishr, 1)) (k : VV g d mc ms M w0 sz0 E (pc + 1) L (.int (x >>> (y &&& 31)) :: S) w sz nc ns) : VV g d mc ms M w0 sz0 E (pc) L (.int y :: .int x :: S) w sz nc ns := vv_s (fun hx hb k => lv_ishr hx hb hd k) k
theorem v_ishl {x y : Int32} (hd : decode M.2.1 pc = .ok (.ishl, 1)) (k : VV g d mc ms M w0 sz0 E (pc + 1) L (.int (x <<< (y &&& 31)) :: S) w sz nc ns) : VV g d mc ms M w0 sz0 E (pc) L (.int y :: .int x :: S) w sz nc ns := vv_s (fun hx hb k => lv_ishl hx hb hd k) k
theorem v_ladd {x y : Int64} (hd : decode M.2.1 pc = .ok (.ladd, 1)) (k : VV g d mc ms M w0 sz0 E (pc + 1) L (.long (x + y) :: S) w sz nc ns) : VV g d mc ms M w0 sz0 E (pc) L (.long y :: .long x :: S) w sz nc ns := vv_s (fun hx hb k => lv_ladd hx hb hd k) k
theorem v_lsub {x y : Int64} (hd : decode M.2.1 pc = .ok (.lsub, 1)) (k : VV g d mc ms M w0 sz0 E (pc + 1) L (.long (x - y) :: S) w sz nc ns) : VV g d mc ms M w0 sz0 E (pc) L (.long y :: .long x :: S) w sz nc ns := vv_s (fun hx hb k => lv_lsub hx hb hd k) k
theorem v_lmul {x y : Int64} (hd : decode M.2.1 pc = .ok (.lmul, 1)) (k : VV g d mc ms M w0 sz0 E (pc + 1) L (.long (x * y) :: S) w sz nc ns) : VV g d mc ms M w0 sz0 E (pc) L (.long y :: .long x :: S) w sz nc ns := vv_s (fun hx hb k => lv_lmul hx hb hd k) k
theorem v_i2l {x : Int32} (hd : decode M.2.1 pc = .ok (.i2l, 1)) (k : VV g d mc ms M w0 sz0 E (pc + 1) L (.long x.toInt64 :: S) w sz nc ns) : VV g d mc ms M w0 sz0 E (pc) L (.int x :: S) w sz nc ns := vv_s (fun hx hb k => lv_i2l hx hb hd rfl k) k
theorem v_l2i {x : Int64} (hd : decode M.2.1 pc = .ok (.l2i, 1)) (k : VV g d mc ms M w0 sz0 E (pc + 1) L (.int x.toInt32 :: S) w sz nc ns) : VV g d mc ms M w0 sz0 E (pc) L (.long x :: S) w sz nc ns := vv_s (fun hx hb k => lv_l2i hx hb hd rfl k) k
theorem v_dup {u : Value} (hd : decode M.2.1 pc = .ok (.dup, 1)) (hu : u.category = 1) (k : VV g d mc ms M w0 sz0 E (pc + 1) L (u :: u :: S) w sz nc ns) : VV g d mc ms M w0 sz0 E (pc) L (u :: S) w sz nc ns := vv_s (fun hx hb k => lv_dup hx hb hd hu k) k
theorem v_pop {u : Value} (hd : decode M.2.1 pc = .ok (.pop, 1)) (hu : u.category = 1) (k : VV g d mc ms M w0 sz0 E (pc + 1) L (S) w sz nc ns) : VV g d mc ms M w0 sz0 E (pc) L (u :: S) w sz nc ns := vv_s (fun hx hb k => lv_pop hx hb hd hu k) k
theorem v_dup_x1 {u v : Value} (hd : decode M.2.1 pc = .ok (.dup_x1, 1)) (hu : u.category = 1) (hv : v.category = 1) (k : VV g d mc ms M w0 sz0 E (pc + 1) L (u :: v :: u :: S) w sz nc ns) : VV g d mc ms M w0 sz0 E (pc) L (u :: v :: S) w sz nc ns := vv_s (fun hx hb k => lv_dup_x1 hx hb hd hu hv k) k
theorem v_dup2 {u v : Value} (hd : decode M.2.1 pc = .ok (.dup2, 1)) (hu : u.category = 1) (hv : v.category = 1) (k : VV g d mc ms M w0 sz0 E (pc + 1) L (u :: v :: u :: v :: S) w sz nc ns) : VV g d mc ms M w0 sz0 E (pc) L (u :: v :: S) w sz nc ns := vv_s (fun hx hb k => lv_dup2_11 hx hb hd hu hv k) k
theorem v_goto {off : Int} {tgt : Nat} (hd : decode M.2.1 pc = .ok (.goto off, 3)) (ht : (pc : Int) + off = (tgt : Int)) (k : VV g d mc ms M w0 sz0 E (tgt) L (S) w sz nc ns) : VV g d mc ms M w0 sz0 E (pc) L (S) w sz nc ns := vv_s (fun hx hb k => lv_goto hx hb hd ht k) k
theorem v_iload_n {k0 : Fin 4} {i : Nat} {x : Int32} (hd : decode M.2.1 pc = .ok (.iload_n k0, 1)) (hi : (k0 : Nat) = i) (hl : L.lookup i = some (.int x)) (k : VV g d mc ms M w0 sz0 E (pc + 1) L (.int x :: S) w sz nc ns) : VV g d mc ms M w0 sz0 E (pc) L (S) w sz nc ns := vv_l (fun hL hx hb k => lv_iload_n hx hb hd hi (fw_lv hL hl) k) k
theorem v_iload {i : Nat} {x : Int32} (hd : decode M.2.1 pc = .ok (.iload i, 2)) (hl : L.lookup i = some (.int x)) (k : VV g d mc ms M w0 sz0 E (pc + 2) L (.int x :: S) w sz nc ns) : VV g d mc ms M w0 sz0 E (pc) L (S) w sz nc ns := vv_l (fun hL hx hb k => lv_iload hx hb hd (fw_lv hL hl) k) k
theorem v_lload_n {k0 : Fin 4} {i : Nat} {x : Int64} (hd : decode M.2.1 pc = .ok (.lload_n k0, 1)) (hi : (k0 : Nat) = i) (hl : L.lookup i = some (.long x)) (k : VV g d mc ms M w0 sz0 E (pc + 1) L (.long x :: S) w sz nc ns) : VV g d mc ms M w0 sz0 E (pc) L (S) w sz nc ns := vv_l (fun hL hx hb k => lv_lload_n hx hb hd hi (fw_lv hL hl) k) k
theorem v_lload {i : Nat} {x : Int64} (hd : decode M.2.1 pc = .ok (.lload i, 2)) (hl : L.lookup i = some (.long x)) (k : VV g d mc ms M w0 sz0 E (pc + 2) L (.long x :: S) w sz nc ns) : VV g d mc ms M w0 sz0 E (pc) L (S) w sz nc ns := vv_l (fun hL hx hb k => lv_lload hx hb hd (fw_lv hL hl) k) k
theorem v_aload_n {k0 : Fin 4} {i : Nat} {x : Nat} (hd : decode M.2.1 pc = .ok (.aload_n k0, 1)) (hi : (k0 : Nat) = i) (hl : L.lookup i = some (.ref x)) (k : VV g d mc ms M w0 sz0 E (pc + 1) L (.ref x :: S) w sz nc ns) : VV g d mc ms M w0 sz0 E (pc) L (S) w sz nc ns := vv_l (fun hL hx hb k => lv_aload_n hx hb hd hi (fw_lv hL hl) k) k
theorem v_aload {i : Nat} {x : Nat} (hd : decode M.2.1 pc = .ok (.aload i, 2)) (hl : L.lookup i = some (.ref x)) (k : VV g d mc ms M w0 sz0 E (pc + 2) L (.ref x :: S) w sz nc ns) : VV g d mc ms M w0 sz0 E (pc) L (S) w sz nc ns := vv_l (fun hL hx hb k => lv_aload hx hb hd (fw_lv hL hl) k) k
theorem v_istore_n {L' : List (Nat × Value)} {k0 : Fin 4} {i : Nat} {x : Int32} (hd : decode M.2.1 pc = .ok (.istore_n k0, 1)) (hi : (k0 : Nat) = i) (hn : i < M.2.2.1) (hl : (i, Value.int x) :: L.filter (fun q => !(q.1 == i) && !(q.1 + 1 == i && q.2.category == 2)) = L') (k : VV g d mc ms M w0 sz0 E (pc + 1) L' (S) w sz nc ns) : VV g d mc ms M w0 sz0 E (pc) L (.int x :: S) w sz nc ns := vv_t (fun hL hx hb k => lv_istore_n hx hb hd hi hL hn hl k) k
theorem v_istore {L' : List (Nat × Value)} {i : Nat} {x : Int32} (hd : decode M.2.1 pc = .ok (.istore i, 2)) (hn : i < M.2.2.1) (hl : (i, Value.int x) :: L.filter (fun q => !(q.1 == i) && !(q.1 + 1 == i && q.2.category == 2)) = L') (k : VV g d mc ms M w0 sz0 E (pc + 2) L' (S) w sz nc ns) : VV g d mc ms M w0 sz0 E (pc) L (.int x :: S) w sz nc ns := vv_t (fun hL hx hb k => lv_istore hx hb hd hL hn hl k) k
theorem v_lstore_n {L' : List (Nat × Value)} {k0 : Fin 4} {i : Nat} {x : Int64} (hd : decode M.2.1 pc = .ok (.lstore_n k0, 1)) (hi : (k0 : Nat) = i) (hn : i + 1 < M.2.2.1) (hl : (i, Value.long x) :: L.filter (fun q => !(q.1 == i) && (!(q.1 == i + 1) && !(q.1 + 1 == i && q.2.category == 2))) = L') (k : VV g d mc ms M w0 sz0 E (pc + 1) L' (S) w sz nc ns) : VV g d mc ms M w0 sz0 E (pc) L (.long x :: S) w sz nc ns := vv_t (fun hL hx hb k => lv_lstore_n hx hb hd hi hL hn hl k) k
theorem v_lstore {L' : List (Nat × Value)} {i : Nat} {x : Int64} (hd : decode M.2.1 pc = .ok (.lstore i, 2)) (hn : i + 1 < M.2.2.1) (hl : (i, Value.long x) :: L.filter (fun q => !(q.1 == i) && (!(q.1 == i + 1) && !(q.1 + 1 == i && q.2.category == 2))) = L') (k : VV g d mc ms M w0 sz0 E (pc + 2) L' (S) w sz nc ns) : VV g d mc ms M w0 sz0 E (pc) L (.long x :: S) w sz nc ns := vv_t (fun hL hx hb k => lv_lstore hx hb hd hL hn hl k) k
theorem v_astore_n {L' : List (Nat × Value)} {k0 : Fin 4} {i : Nat} {x : Nat} (hd : decode M.2.1 pc = .ok (.astore_n k0, 1)) (hi : (k0 : Nat) = i) (hn : i < M.2.2.1) (hl : (i, Value.ref x) :: L.filter (fun q => !(q.1 == i) && !(q.1 + 1 == i && q.2.category == 2)) = L') (k : VV g d mc ms M w0 sz0 E (pc + 1) L' (S) w sz nc ns) : VV g d mc ms M w0 sz0 E (pc) L (.ref x :: S) w sz nc ns := vv_t (fun hL hx hb k => lv_astore_n hx hb hd hi hL hn hl k) k
theorem v_astore {L' : List (Nat × Value)} {i : Nat} {x : Nat} (hd : decode M.2.1 pc = .ok (.astore i, 2)) (hn : i < M.2.2.1) (hl : (i, Value.ref x) :: L.filter (fun q => !(q.1 == i) && !(q.1 + 1 == i && q.2.category == 2)) = L') (k : VV g d mc ms M w0 sz0 E (pc + 2) L' (S) w sz nc ns) : VV g d mc ms M w0 sz0 E (pc) L (.ref x :: S) w sz nc ns := vv_t (fun hL hx hb k => lv_astore hx hb hd hL hn hl k) k
theorem v_iinc {L' : List (Nat × Value)} {i : Nat} {n : Int} {x v : Int32} (hd : decode M.2.1 pc = .ok (.iinc i n, 3)) (hk : L.lookup i = some (.int x)) (hv : x + Int32.ofInt n = v) (hn : i < M.2.2.1) (hl : (i, Value.int v) :: L.filter (fun q => !(q.1 == i) && !(q.1 + 1 == i && q.2.category == 2)) = L') (k : VV g d mc ms M w0 sz0 E (pc + 3) L' (S) w sz nc ns) : VV g d mc ms M w0 sz0 E (pc) L (S) w sz nc ns := by
  obtain ⟨j, hj⟩ := List.getElem?_of_mem (fw_lk hk)
  exact vv_t (fun hL hx hb k => lv_iinc hx hb hd hL hj hv hn hl k) k
theorem v_if_eq {x : Int32} {off : Int} {tgt : Nat} (hd : decode M.2.1 pc = .ok (.ifCond .eq off, 3)) (ht : (pc : Int) + off = (tgt : Int)) (k1 : x = 0 → VV g d mc ms M w0 sz0 E (tgt) L (S) w sz nc ns) (k2 : ¬ x = 0 → VV g d mc ms M w0 sz0 E (pc + 3) L (S) w sz nc ns) : VV g d mc ms M w0 sz0 E (pc) L (.int x :: S) w sz nc ns := vv_b (fun hx hb k1 k2 => lv_if_eq hx hb hd ht k1 k2) k1 k2
theorem v_if_ne {x : Int32} {off : Int} {tgt : Nat} (hd : decode M.2.1 pc = .ok (.ifCond .ne off, 3)) (ht : (pc : Int) + off = (tgt : Int)) (k1 : ¬ x = 0 → VV g d mc ms M w0 sz0 E (tgt) L (S) w sz nc ns) (k2 : x = 0 → VV g d mc ms M w0 sz0 E (pc + 3) L (S) w sz nc ns) : VV g d mc ms M w0 sz0 E (pc) L (.int x :: S) w sz nc ns := vv_b (fun hx hb k1 k2 => lv_if_ne hx hb hd ht k1 k2) k1 k2
theorem v_if_lt {x : Int32} {off : Int} {tgt : Nat} (hd : decode M.2.1 pc = .ok (.ifCond .lt off, 3)) (ht : (pc : Int) + off = (tgt : Int)) (k1 : x < 0 → VV g d mc ms M w0 sz0 E (tgt) L (S) w sz nc ns) (k2 : ¬ x < 0 → VV g d mc ms M w0 sz0 E (pc + 3) L (S) w sz nc ns) : VV g d mc ms M w0 sz0 E (pc) L (.int x :: S) w sz nc ns := vv_b (fun hx hb k1 k2 => lv_if_lt hx hb hd ht k1 k2) k1 k2
theorem v_if_ge {x : Int32} {off : Int} {tgt : Nat} (hd : decode M.2.1 pc = .ok (.ifCond .ge off, 3)) (ht : (pc : Int) + off = (tgt : Int)) (k1 : 0 ≤ x → VV g d mc ms M w0 sz0 E (tgt) L (S) w sz nc ns) (k2 : ¬ 0 ≤ x → VV g d mc ms M w0 sz0 E (pc + 3) L (S) w sz nc ns) : VV g d mc ms M w0 sz0 E (pc) L (.int x :: S) w sz nc ns := vv_b (fun hx hb k1 k2 => lv_if_ge hx hb hd ht k1 k2) k1 k2
theorem v_if_gt {x : Int32} {off : Int} {tgt : Nat} (hd : decode M.2.1 pc = .ok (.ifCond .gt off, 3)) (ht : (pc : Int) + off = (tgt : Int)) (k1 : 0 < x → VV g d mc ms M w0 sz0 E (tgt) L (S) w sz nc ns) (k2 : ¬ 0 < x → VV g d mc ms M w0 sz0 E (pc + 3) L (S) w sz nc ns) : VV g d mc ms M w0 sz0 E (pc) L (.int x :: S) w sz nc ns := vv_b (fun hx hb k1 k2 => lv_if_gt hx hb hd ht k1 k2) k1 k2
theorem v_if_le {x : Int32} {off : Int} {tgt : Nat} (hd : decode M.2.1 pc = .ok (.ifCond .le off, 3)) (ht : (pc : Int) + off = (tgt : Int)) (k1 : x ≤ 0 → VV g d mc ms M w0 sz0 E (tgt) L (S) w sz nc ns) (k2 : ¬ x ≤ 0 → VV g d mc ms M w0 sz0 E (pc + 3) L (S) w sz nc ns) : VV g d mc ms M w0 sz0 E (pc) L (.int x :: S) w sz nc ns := vv_b (fun hx hb k1 k2 => lv_if_le hx hb hd ht k1 k2) k1 k2
theorem v_icmp_eq {x y : Int32} {off : Int} {tgt : Nat} (hd : decode M.2.1 pc = .ok (.if_icmp .eq off, 3)) (ht : (pc : Int) + off = (tgt : Int)) (k1 : x = y → VV g d mc ms M w0 sz0 E (tgt) L (S) w sz nc ns) (k2 : ¬ x = y → VV g d mc ms M w0 sz0 E (pc + 3) L (S) w sz nc ns) : VV g d mc ms M w0 sz0 E (pc) L (.int y :: .int x :: S) w sz nc ns := vv_b (fun hx hb k1 k2 => lv_icmp_eq hx hb hd ht k1 k2) k1 k2
theorem v_icmp_ne {x y : Int32} {off : Int} {tgt : Nat} (hd : decode M.2.1 pc = .ok (.if_icmp .ne off, 3)) (ht : (pc : Int) + off = (tgt : Int)) (k1 : ¬ x = y → VV g d mc ms M w0 sz0 E (tgt) L (S) w sz nc ns) (k2 : x = y → VV g d mc ms M w0 sz0 E (pc + 3) L (S) w sz nc ns) : VV g d mc ms M w0 sz0 E (pc) L (.int y :: .int x :: S) w sz nc ns := vv_b (fun hx hb k1 k2 => lv_icmp_ne hx hb hd ht k1 k2) k1 k2
theorem v_icmp_lt {x y : Int32} {off : Int} {tgt : Nat} (hd : decode M.2.1 pc = .ok (.if_icmp .lt off, 3)) (ht : (pc : Int) + off = (tgt : Int)) (k1 : x < y → VV g d mc ms M w0 sz0 E (tgt) L (S) w sz nc ns) (k2 : ¬ x < y → VV g d mc ms M w0 sz0 E (pc + 3) L (S) w sz nc ns) : VV g d mc ms M w0 sz0 E (pc) L (.int y :: .int x :: S) w sz nc ns := vv_b (fun hx hb k1 k2 => lv_icmp_lt hx hb hd ht k1 k2) k1 k2
theorem v_icmp_ge {x y : Int32} {off : Int} {tgt : Nat} (hd : decode M.2.1 pc = .ok (.if_icmp .ge off, 3)) (ht : (pc : Int) + off = (tgt : Int)) (k1 : y ≤ x → VV g d mc ms M w0 sz0 E (tgt) L (S) w sz nc ns) (k2 : ¬ y ≤ x → VV g d mc ms M w0 sz0 E (pc + 3) L (S) w sz nc ns) : VV g d mc ms M w0 sz0 E (pc) L (.int y :: .int x :: S) w sz nc ns := vv_b (fun hx hb k1 k2 => lv_icmp_ge hx hb hd ht k1 k2) k1 k2
theorem v_icmp_gt {x y : Int32} {off : Int} {tgt : Nat} (hd : decode M.2.1 pc = .ok (.if_icmp .gt off, 3)) (ht : (pc : Int) + off = (tgt : Int)) (k1 : y < x → VV g d mc ms M w0 sz0 E (tgt) L (S) w sz nc ns) (k2 : ¬ y < x → VV g d mc ms M w0 sz0 E (pc + 3) L (S) w sz nc ns) : VV g d mc ms M w0 sz0 E (pc) L (.int y :: .int x :: S) w sz nc ns := vv_b (fun hx hb k1 k2 => lv_icmp_gt hx hb hd ht k1 k2) k1 k2
theorem v_icmp_le {x y : Int32} {off : Int} {tgt : Nat} (hd : decode M.2.1 pc = .ok (.if_icmp .le off, 3)) (ht : (pc : Int) + off = (tgt : Int)) (k1 : x ≤ y → VV g d mc ms M w0 sz0 E (tgt) L (S) w sz nc ns) (k2 : ¬ x ≤ y → VV g d mc ms M w0 sz0 E (pc + 3) L (S) w sz nc ns) : VV g d mc ms M w0 sz0 E (pc) L (.int y :: .int x :: S) w sz nc ns := vv_b (fun hx hb k1 k2 => lv_icmp_le hx hb hd ht k1 k2) k1 k2
theorem v_lcmp {x y : Int64} (hd : decode M.2.1 pc = .ok (.lcmp, 1)) (k : VV g d mc ms M w0 sz0 E (pc + 1) L (.int (lg_cmp x y) :: S) w sz nc ns) : VV g d mc ms M w0 sz0 E pc L (.long y :: .long x :: S) w sz nc ns := vv_s (fun hx hb k => W.lcmp hx hb hd k) k
end RU
end
section
/-! Rules that read and write the world. -/
section HP
variable {g : Gl} {d mc ms : Nat} {M : Mi} {w0 : Wd} {sz0 : Nat} {E : Rs → Wd → Nat → Prop} {pc : Nat} {L : List (Nat × Value)} {S : List Value} {w : Wd} {sz nc ns : Nat}
theorem fw_K.own {g : Gl} {M : Mi} {w0 : Wd} {sz0 : Nat} {p : Program} {s : State} {m : MethodId} {meth : Method} {c : Code} (h : fw_Cx g M w0 sz0 p s m meth c) : s.vm.findClass M.1.cls = some m.cls := findClass_of_methodNamed h.2.2.1
theorem fw_use {U : State} (h : fw_T U) {c : Cond} (hc : c ∈ fw_big) (ho : c.onTables = true) {A : Array Value} : c.before A U = true := va_tabs ho rfl (h c hc)
/-- a field's link in a method's own tables: the object's table number, the field's place -/
def fw_fl (own : String) (idx ci k : Nat) : Prop := ∃ (C : String) (T : u_T) (N : Nat), vwCl[ci]? = some (C, T, N) ∧ k < N ∧ (∀ x ∈ u_ws C T N, x ∈ fw_big) ∧ (Cond.fieldLink own idx (T k).1 (T k).2.1 (T k).2.2.1 ∈ fw_big ∨ ∃ host, Cond.fieldLinkNest own idx (T k).1 (T k).2.1 (T k).2.2.1 host ∈ fw_big)
theorem fw_lays_on {C : String} {T : u_T} {N : Nat} : ∀ x ∈ u_ws C T N, x.onTables = true := by
  intro x hx
  obtain ⟨k, -, rfl⟩ := List.mem_map.mp hx
  unfold u_lay
  split <;> rfl
theorem v_get {a ci k idx : Nat} {fs : List Value} {v : Value} (hd : decode M.2.1 pc = .ok (.getfield idx, 3)) (hf : fw_fl M.1.cls idx ci k) (ha : w a = some (cO ci fs)) (hv : fs[k]? = some v) (kk : VV g d mc ms M w0 sz0 E (pc + 3) L (v :: S) w sz nc ns) :
    VV g d mc ms M w0 sz0 E pc L (.ref a :: S) w sz nc ns := by
  intro p e s m args below meth c H locs ls hC hH hz hx hl hL
  have k1 := kk p e s m args below meth c H locs ls hC hH hz hx hl hL
  obtain ⟨C, T, N, hc, hk, hws, hlink⟩ := hf
  obtain ⟨r, h1, cell, q1, q2, q3, q4⟩ := hH a _ ha
  have hr : r = (C, T, N) := Option.some.inj (h1.symm.trans hc)
  subst hr
  obtain ⟨hS, hfc, kC, hkC, hkind⟩ := hC.2.2.2.2.1.1.1 ci _ hc
  obtain ⟨cf, kf, fi, f, hi, hsl⟩ := hS k hk
  have hT : ∀ x ∈ u_ws C T N, x.before args s = true := fun x hx => fw_use hC.2.2.2.2.1.2 (hws x hx) (fw_lays_on x hx)
  have hst := (u_facts hfc hkC (u_lays hT (fun _ h => h) hk) hi).1
  have hsv : cell.slots[f.slot]? = some v := by
    rw [hsl, q4 k hk]
    simp [vp_V, hv]
  have hkn : cell.vm ≠ .unknown := by rw [q3]; exact fun h => by cases h
  rcases hlink with hlink | ⟨host, hlink⟩
  · exact W.getf hC.1 hC.2.1.1 (fw_K.own hC) (fw_use hC.2.2.2.2.1.2 hlink rfl) hi hst q1 hkn hsv rfl rfl hd k1
  · exact va_Wgetf hC.1 hC.2.1.1 (fw_K.own hC) (fw_use hC.2.2.2.2.1.2 hlink rfl) hi hst q1 hkn hsv rfl rfl hd k1
/-- what a store of this value into this field asks -/
def fw_ok (ci k : Nat) (v : Value) : Prop := ∃ (C : String) (T : u_T) (N : Nat), vwCl[ci]? = some (C, T, N) ∧ (∀ a, a < N → (parseFieldDescriptor (T a).2.2.1).isSome = true) ∧ (∀ a, a < N → ∀ b, b < N → a ≠ b → (T a).2.1 ≠ (T b).2.1) ∧ ∃ ty, parseFieldDescriptor (T k).2.2.1 = some ty ∧ narrow ty v = v ∧ fits ty v = true
theorem fw_put {g : Gl} {w : Wd} {H H1 : Heap} {a ci k N : Nat} {C : String} {T : u_T} {fs : List Value} {v : Value} {cell : Cell} {slot : Nat} (hH : fw_H g w H) (hc : vwCl[ci]? = some (C, T, N)) (hap : ∀ x y, x < N → y < N → x ≠ y → g.2.1.2 ci x ≠ g.2.1.2 ci y) (hk : k < N) (q2 : cell.cls = g.2.1.1 ci) (q3 : cell.vm = .none) (q4 : ∀ j, j < N → cell.slots[g.2.1.2 ci j]? = some (vp_V fs j)) (hsl : slot = g.2.1.2 ci k) (hl : k < fs.length)
    (e1 : H1[a]? = some (cell.setSlot slot v)) (e3 : ∀ q : Nat, q ≠ a → H1[q]? = H[q]?) : fw_H g (fw_up w a (cO ci (fs.set k v))) H1 := by
  refine hH.set ?_ e3
  rw [hsl] at e1
  exact ⟨_, hc, t_OB.to (V := updV (vp_V fs) k v) ⟨_, e1, q2, q3, t_set q4 hap hk v⟩ (fun j _ => vp_updV_set hl v j)⟩
theorem v_put {a ci k idx : Nat} {fs fs' : List Value} {v : Value} (hd : decode M.2.1 pc = .ok (.putfield idx, 3)) (hf : fw_fl M.1.cls idx ci k) (hfin : ∀ C T N, vwCl[ci]? = some (C, T, N) → (T k).2.2.2 = false ∨ (M.1.name = "<init>" ∧ (T k).1 = M.1.cls ∧ Cond.fieldLink M.1.cls idx (T k).1 (T k).2.1 (T k).2.2.1 ∈ fw_big)) (hok : fw_ok ci k v) (ha : w a = some (cO ci fs)) (hl : k < fs.length) (hfs : fs.set k v = fs')
    (kk : VV g d mc ms M w0 sz0 E (pc + 3) L S (fw_up w a (cO ci fs')) sz nc ns) :
    VV g d mc ms M w0 sz0 E pc L (v :: .ref a :: S) w sz nc ns := by
  subst hfs
  intro p e s m args below meth c H locs ls hC hH hz hx hlc hL
  obtain ⟨C, T, N, hc, hk, hws, hlink⟩ := hf
  obtain ⟨C', T', N', hc', hty, hnm, ty, hd', hn, hfit⟩ := hok
  cases Option.some.inj (hc.symm.trans hc')
  obtain ⟨r, h1, cell, q1, q2, q3, q4⟩ := hH a _ ha
  have hr : r = (C, T, N) := Option.some.inj (h1.symm.trans hc)
  subst hr
  have hK := hC.2.2.2.2.1.1
  obtain ⟨hS, hfc, kC, hkC, hkind⟩ := hK.1 ci _ hc
  obtain ⟨cf, kf, fi, f, hi, hsl⟩ := hS k hk
  have hT : ∀ x ∈ u_ws C T N, x.before args s = true := fun x hx => fw_use hC.2.2.2.2.1.2 (hws x hx) (fw_lays_on x hx)
  have hst := (u_facts hfc hkC (u_lays hT (fun _ h => h) hk) hi).1
  have hap : ∀ x y, x < N → y < N → x ≠ y → g.2.1.2 ci x ≠ g.2.1.2 ci y := by
    have hty' : ∀ a, a < N → parseFieldDescriptor (T a).2.2.1 = some ((parseFieldDescriptor (T a).2.2.1).getD .int) := by
      intro a ha
      have := hty a ha
      cases h9 : parseFieldDescriptor (T a).2.2.1 with
      | none => rw [h9] at this; cases this
      | some z => rfl
    exact va_apart (own := C) hT (fun _ h => h) _ hty' hnm hK hc
  have hlt : f.slot < cell.slots.size := by rw [hsl]; exact k2_hasslot (q4 k hk)
  have go : ∀ H' : Heap, H'[a]? = some (cell.setSlot f.slot v) → H'.size = H.size → (∀ q, q ≠ a → H'[q]? = H[q]?) → W p g.1 e (fw_rm d mc ms) s m args below meth c H' (locs ++ [⟨a, f.slot⟩]) nc ns (fw_E g w0 sz0 mc ms E below s) (F0 m (pc + 3) ls S) := by
    intro H' e1 e2 e3
    refine kk p e s m args below meth c H' _ ls hC (fw_put hH hc hap hk q2 q3 q4 hsl hl e1 e3) (e2.trans hz) (hx.tr (fw_ext.up ha rfl)) ?_ hL
    intro q hq
    rcases List.mem_append.mp hq with h | h
    · exact hlc q h
    · rw [List.mem_singleton.mp h]
      exact hx.2 a (Or.inl ⟨_, ha, rfl⟩)
  have hkn : cell.vm ≠ .unknown := by rw [q3]; exact fun h => by cases h
  have hlay := hT _ (u_in_lay hk)
  rcases hfin C T N hc with hfin | ⟨hin, hdecl, hlk⟩
  · unfold u_lay at hlay
    rw [if_neg (by rw [hfin]; decide)] at hlay
    have h6 := u_store hfc hkC hkind hlay hi hd' hn hfit
    rcases hlink with hlink | ⟨host, hlink⟩
    · exact W.putK hC.1 hC.2.1.1 (f := f) ⟨fw_K.own hC, fw_use hC.2.2.2.2.1.2 hlink rfl, ⟨_, _, _, hi⟩, hst⟩ (by rw [q2]; exact h6) q1 q3 hlt rfl rfl hd go
    · exact va_WputK hC.1 hC.2.1.1 (f := f) (fw_K.own hC) (fw_use hC.2.2.2.2.1.2 hlink rfl) hi hst (by rw [q2]; exact h6) q1 q3 hlt rfl rfl hd go
  · by_cases hfin : (T k).2.2.2 = true
    · unfold u_lay at hlay
      rw [if_pos hfin] at hlay
      have hcf : m.cls = cf := by
        obtain ⟨_, _, c', _, _, _, -, -, hf', -, -, -, hown2, -⟩ := Cond.laysFinal_spec hlay
        have e1 : c' = cf := by have := hi.symm.trans hf'; simp at this; exact this.1.symm
        rw [hdecl] at hown2
        rw [← e1]; exact Option.some.inj ((fw_K.own hC).symm.trans hown2)
      have h6 := u_fits hfc hkC hkind (Or.inr hlay) hi hd' hn hfit
      have hnm2 : meth.name = "<init>" := by rw [← hin]; exact (name_of_methodNamed hC.2.2.1 hC.2.2.2.1).1
      exact W.putFinK hC.1 hC.2.1.1 (fw_K.own hC) (fw_use hC.2.2.2.2.1.2 hlk rfl) hi hst hcf hnm2 (by rw [q2]; exact h6) q1 q3 hlt rfl rfl hd go
    · have hfin : (T k).2.2.2 = false := by simpa using hfin
      unfold u_lay at hlay
      rw [if_neg (by rw [hfin]; decide)] at hlay
      have h6 := u_store hfc hkC hkind hlay hi hd' hn hfit
      exact W.putK hC.1 hC.2.1.1 (f := f) ⟨fw_K.own hC, fw_use hC.2.2.2.2.1.2 hlk rfl, ⟨_, _, _, hi⟩, hst⟩ (by rw [q2]; exact h6) q1 q3 hlt rfl rfl hd go
/-! arrays -/
theorem fw_ti {g : Gl} {s : State} (h : fw_K g s) : ArrOfT s g.2.2.1 .int ∧ va_RA s g.2.2.1 .int := h.1.2 0 _ rfl
theorem fw_tj {g : Gl} {s : State} (h : fw_K g s) : ArrOfT s g.2.2.2.1 .long ∧ va_RA s g.2.2.2.1 .long := h.1.2 1 _ rfl
theorem fw_tr {g : Gl} {s : State} (h : fw_K g s) : ArrOfT s g.2.2.2.2 (.object "DeltaViews$View") ∧ va_RA s g.2.2.2.2 (.object "DeltaViews$View") := h.1.2 2 _ rfl
theorem v_iald {a n : Nat} {f : Nat → Int32} {i : Int32} (hd : decode M.2.1 pc = .ok (.iaload, 1)) (ha : w a = some (cI n f)) (hin : vp_in i n) (kk : VV g d mc ms M w0 sz0 E (pc + 1) L (.int (f i.toNatClampNeg) :: S) w sz nc ns) : VV g d mc ms M w0 sz0 E pc L (.int i :: .ref a :: S) w sz nc ns := by
  intro p e s m args below meth c H locs ls hC hH hz hx hl hL
  have hlt : i.toNatClampNeg < n := Nat.not_le.mp fun q => hin (Or.inr q)
  exact W.iald (v := .int (f i.toNatClampNeg)) hC.1 hC.2.1.1 (hH a _ ha) ((fw_ti hC.2.2.2.2.1).1 n (fun j => .int (f j))) (fun q => by cases q) (by show ¬ (i < 0 ∨ (arrV _ _ _).slots.size ≤ _); rw [arrV_size]; exact hin) (by show (arrV _ _ _).slots[_]? = _; rw [arrV_read _ _ hlt]) rfl rfl hd (kk p e s m args below meth c H locs ls hC hH hz hx hl hL)
theorem v_lald {a n : Nat} {f : Nat → Int64} {i : Int32} (hd : decode M.2.1 pc = .ok (.laload, 1)) (ha : w a = some (cJ n f)) (hin : vp_in i n) (kk : VV g d mc ms M w0 sz0 E (pc + 1) L (.long (f i.toNatClampNeg) :: S) w sz nc ns) : VV g d mc ms M w0 sz0 E pc L (.int i :: .ref a :: S) w sz nc ns := by
  intro p e s m args below meth c H locs ls hC hH hz hx hl hL
  have hlt : i.toNatClampNeg < n := Nat.not_le.mp fun q => hin (Or.inr q)
  exact W.lald (v := .long (f i.toNatClampNeg)) hC.1 hC.2.1.1 (hH a _ ha) ((fw_tj hC.2.2.2.2.1).1 n (fun j => .long (f j))) (fun q => by cases q) (by show ¬ (i < 0 ∨ (arrV _ _ _).slots.size ≤ _); rw [arrV_size]; exact hin) (by show (arrV _ _ _).slots[_]? = _; rw [arrV_read _ _ hlt]) rfl rfl hd (kk p e s m args below meth c H locs ls hC hH hz hx hl hL)
theorem v_aald {a n q : Nat} {f : Nat → Option Nat} {i : Int32} (hd : decode M.2.1 pc = .ok (.aaload, 1)) (ha : w a = some (cR n f)) (hin : vp_in i n) (hq : f i.toNatClampNeg = some q) (kk : VV g d mc ms M w0 sz0 E (pc + 1) L (.ref q :: S) w sz nc ns) : VV g d mc ms M w0 sz0 E pc L (.int i :: .ref a :: S) w sz nc ns := by
  intro p e s m args below meth c H locs ls hC hH hz hx hl hL
  have hlt : i.toNatClampNeg < n := Nat.not_le.mp fun q => hin (Or.inr q)
  exact W.aald (v := .ref q) (ty := .object "DeltaViews$View") hC.1 hC.2.1.1 (hH a _ ha) ((fw_tr hC.2.2.2.2.1).1 n (fun j => va_rf (f j))) rfl (fun q => by cases q) (by show ¬ (i < 0 ∨ (arrV _ _ _).slots.size ≤ _); rw [arrV_size]; exact hin) (by show (arrV _ _ _).slots[_]? = _; rw [arrV_read _ _ hlt]; show some (va_rf (f i.toNatClampNeg)) = _; rw [hq]; rfl) rfl rfl hd (kk p e s m args below meth c H locs ls hC hH hz hx hl hL)
theorem fw_locs {w0 : Wd} {sz0 : Nat} {locs : List Loc} {a i : Nat} (h : ∀ q ∈ locs, fw_fr w0 sz0 q.base) (ha : fw_fr w0 sz0 a) : ∀ q ∈ locs ++ [(⟨a, i⟩ : Loc)], fw_fr w0 sz0 q.base := by
  intro q hq
  rcases List.mem_append.mp hq with h1 | h1
  · exact h q h1
  · rw [List.mem_singleton.mp h1]; exact ha
theorem v_iast {a n : Nat} {f : Nat → Int32} {i x : Int32} (hd : decode M.2.1 pc = .ok (.iastore, 1)) (ha : w a = some (cI n f)) (hin : vp_in i n) (kk : VV g d mc ms M w0 sz0 E (pc + 1) L S (fw_up w a (cI n (upd f i.toNatClampNeg x))) sz nc ns) : VV g d mc ms M w0 sz0 E pc L (.int x :: .int i :: .ref a :: S) w sz nc ns := by
  intro p e s m args below meth c H locs ls hC hH hz hx hl hL
  refine W.iast hC.1 hC.2.1.1 (hH a _ ha) ((fw_ti hC.2.2.2.2.1).1 n (fun j => .int (f j))) (fun q => by cases q) (by show ¬ (i < 0 ∨ (arrV _ _ _).slots.size ≤ _); rw [arrV_size]; exact hin) rfl rfl hd fun H1 e1 z oq => ?_
  refine kk p e s m args below meth c H1 _ ls hC (hH.set ?_ oq) (z.trans hz) (hx.tr (fw_ext.up ha rfl)) (fw_locs hl (hx.2 a (Or.inl ⟨_, ha, rfl⟩))) hL
  show H1[a]? = some (vp_cell _ _)
  rw [e1]
  show some ((vp_cell g.2.2.1 (n, .inl f)).setSlot _ _) = _
  rw [vp_cell_i, vp_cell_i, arrV_store]
  congr 2
  funext q
  by_cases hq : q = i.toNatClampNeg
  · subst hq
    simp [updV, upd]
  · simp [updV, upd, hq]
theorem v_last {a n : Nat} {f : Nat → Int64} {i : Int32} {x : Int64} (hd : decode M.2.1 pc = .ok (.lastore, 1)) (ha : w a = some (cJ n f)) (hin : vp_in i n) (kk : VV g d mc ms M w0 sz0 E (pc + 1) L S (fw_up w a (cJ n (vp_updL f i.toNatClampNeg x))) sz nc ns) : VV g d mc ms M w0 sz0 E pc L (.long x :: .int i :: .ref a :: S) w sz nc ns := by
  intro p e s m args below meth c H locs ls hC hH hz hx hl hL
  refine W.last hC.1 hC.2.1.1 (hH a _ ha) ((fw_tj hC.2.2.2.2.1).1 n (fun j => .long (f j))) (fun q => by cases q) (by show ¬ (i < 0 ∨ (arrV _ _ _).slots.size ≤ _); rw [arrV_size]; exact hin) rfl rfl hd fun H1 e1 z oq => ?_
  refine kk p e s m args below meth c H1 _ ls hC (hH.set ?_ oq) (z.trans hz) (hx.tr (fw_ext.up ha rfl)) (fw_locs hl (hx.2 a (Or.inl ⟨_, ha, rfl⟩))) hL
  show H1[a]? = some (vp_cell _ _)
  rw [e1]
  show some ((vp_cell g.2.2.2.1 (n, .inr (.inl f))).setSlot _ _) = _
  rw [vp_cell_l, vp_cell_l, arrV_store]
  congr 2
  funext q
  by_cases hq : q = i.toNatClampNeg
  · subst hq
    simp [updV, vp_updL]
  · simp [updV, vp_updL, hq]
end HP
end
section
/-! Making, ending, entering, calling. -/
section CL
variable {g : Gl} {d mc ms : Nat} {M : Mi} {w0 : Wd} {sz0 : Nat} {E : Rs → Wd → Nat → Prop} {pc : Nat} {L : List (Nat × Value)} {S : List Value} {w : Wd} {sz nc ns : Nat}
/-- what 'new' asks of the tables -/
def fw_nw (own : String) (idx ci : Nat) (fs : List Value) (N : Nat) : Prop := ∃ (C : String) (T : u_T), vwCl[ci]? = some (C, T, N) ∧ (∀ x ∈ u_ws C T N, x ∈ fw_big) ∧ Cond.classLink own idx C ∈ fw_big ∧ Cond.instantiable C N ∈ fw_big ∧ Cond.initialized C ∈ fw_big ∧ ∃ ty : Nat → FieldType, (∀ k, k < N → parseFieldDescriptor (T k).2.2.1 = some (ty k)) ∧ ∀ j, j < N → defaultValue (ty j) = vp_V fs j
theorem v_new {ci idx N : Nat} {fs : List Value} (hd : decode M.2.1 pc = .ok (.new idx, 3)) (hn : fw_nw M.1.cls idx ci fs N) (h1 : nc + 1 ≤ mc) (h2 : ns + N ≤ ms) (kk : VV g d mc ms M w0 sz0 E (pc + 3) L (.ref sz :: S) (fw_up w sz (cO ci fs)) (sz + 1) (nc + 1) (ns + N)) :
    VV g d mc ms M w0 sz0 E pc L S w sz nc ns := by
  intro p e s m args below meth c H locs ls hC hH hz hx hl hL
  obtain ⟨C, T, hc, hws, k1, k2, k3, ty, hty, hfs⟩ := hn
  have hT := hC.2.2.2.2.1.2
  have hKn := hC.2.2.2.2.1.1.1 ci _ hc
  have hts : ∀ x ∈ u_ws C T N, x.before args s = true := fun x hx => fw_use hT (hws x hx) (fw_lays_on x hx)
  refine W.newcK hC.1 hC.2.1.1 (fw_K.own hC) (fw_use hT k1 rfl) (fw_use hT k2 rfl) (fw_use hT k3 rfl) rfl hd h1 h2 hKn.2.1 rfl fun H1 kC hkC e1 z1 o1 => ?_
  subst hz
  refine kk p e s m args below meth c H1 locs ls hC (hH.born ?_ o1) z1 (hx.tr fw_ext.new) hl hL
  exact ⟨_, hc, (u_born ty hts (fun _ h => h) hKn hkC e1 hty).to hfs⟩
set_option maxHeartbeats 200000 in
theorem v_newi {n : Int32} {N : Nat} (hd : decode M.2.1 pc = .ok (.newarray .int, 2)) (hw : Cond.arrayClass .int ∈ fw_big) (hn : n = nI N) (hN : N ≤ 100000) (h1 : nc + 1 ≤ mc) (h2 : ns + N ≤ ms) (kk : VV g d mc ms M w0 sz0 E (pc + 2) L (.ref sz :: S) (fw_up w sz (cI N (fun _ => 0))) (sz + 1) (nc + 1) (ns + N)) :
    VV g d mc ms M w0 sz0 E pc L (.int n :: S) w sz nc ns := by
  intro p e s m args below meth c H locs ls hC hH hz hx hl hL
  have hwd : (Cond.arrayClass .int).before args s = true := word_at (State.WarmedH.refl s) (Or.inr ⟨_, rfl⟩) (hC.2.2.2.2.1.2 _ hw)
  subst hn
  have hb4 : N * componentBytes (newarray.typeOf .int) ≤ 536870912 := by
    have h9 : componentBytes (newarray.typeOf .int) = 4 := rfl
    rw [h9]; omega
  refine va_newaK (atype := .int) (N := N) hC.1 hC.2.1.1 hwd rfl hd rfl (nI_pos (by omega)) (nI_clamp (by omega)) hb4 h1 h2 rfl fun H1 cA e1 z1 o1 hAr hNm => ?_
  subst hz
  have h8 : newarray.typeOf .int = FieldType.int := rfl
  have h9 : s.vm.findClass ("[" ++ (FieldType.int).toString) = some g.2.2.1 := (fw_ti hC.2.2.2.2.1).2
  rw [h8] at hNm e1
  have hcA : cA = g.2.2.1 := Option.some.inj (hNm.symm.trans h9)
  subst hcA
  have e2 : fw_at g H.size (cI N (fun _ => 0)) H1 := by
    show H1[H.size]? = some (vp_cell _ _)
    rw [vp_cell_i]
    exact e1
  exact kk p e s m args below meth c H1 locs ls hC (hH.born e2 o1) z1 (hx.tr fw_ext.new) hl hL
set_option maxHeartbeats 200000 in
theorem v_newj {n : Int32} {N : Nat} (hd : decode M.2.1 pc = .ok (.newarray .long, 2)) (hw : Cond.arrayClass .long ∈ fw_big) (hn : n = nI N) (hN : N ≤ 100000) (h1 : nc + 1 ≤ mc) (h2 : ns + N ≤ ms) (kk : VV g d mc ms M w0 sz0 E (pc + 2) L (.ref sz :: S) (fw_up w sz (cJ N (fun _ => 0))) (sz + 1) (nc + 1) (ns + N)) :
    VV g d mc ms M w0 sz0 E pc L (.int n :: S) w sz nc ns := by
  intro p e s m args below meth c H locs ls hC hH hz hx hl hL
  have hwd : (Cond.arrayClass .long).before args s = true := word_at (State.WarmedH.refl s) (Or.inr ⟨_, rfl⟩) (hC.2.2.2.2.1.2 _ hw)
  subst hn
  have hb4 : N * componentBytes (newarray.typeOf .long) ≤ 536870912 := by
    have h9 : componentBytes (newarray.typeOf .long) = 8 := rfl
    rw [h9]; omega
  refine va_newaK (atype := .long) (N := N) hC.1 hC.2.1.1 hwd rfl hd rfl (nI_pos (by omega)) (nI_clamp (by omega)) hb4 h1 h2 rfl fun H1 cA e1 z1 o1 hAr hNm => ?_
  subst hz
  have h8 : newarray.typeOf .long = FieldType.long := rfl
  have h9 : s.vm.findClass ("[" ++ (FieldType.long).toString) = some g.2.2.2.1 := (fw_tj hC.2.2.2.2.1).2
  rw [h8] at hNm e1
  have hcA : cA = g.2.2.2.1 := Option.some.inj (hNm.symm.trans h9)
  subst hcA
  have e2 : fw_at g H.size (cJ N (fun _ => 0)) H1 := by
    show H1[H.size]? = some (vp_cell _ _)
    rw [vp_cell_l]
    exact e1
  exact kk p e s m args below meth c H1 locs ls hC (hH.born e2 o1) z1 (hx.tr fw_ext.new) hl hL
/-! ends -/
theorem fw_widen {nc' ns' : Nat} (h1 : nc ≤ nc') (h2 : ns ≤ ns') (k : VV g d mc ms M w0 sz0 E pc L S w sz nc' ns') : VV g d mc ms M w0 sz0 E pc L S w sz nc ns :=
  fun p e s m args below meth c H locs ls hC hH hz hx hl hL => W.widen h1 h2 (k p e s m args below meth c H locs ls hC hH hz hx hl hL)
theorem fw_end {below : List Frame} {args : Array Value} {s : State} {H : Heap} {v : Option Value} (hH : fw_H g w H) (hz : H.size = sz) (hx : fw_ext w0 sz0 w sz) (hE : E (.inl v) w sz) :
    ∀ t, MQ below (fun _ _ o t => o = .returned v ∧ t.heap = H) args s mc ms (fw_fr w0 sz0) t → fw_E g w0 sz0 mc ms E below s t := by
  rintro t ⟨o, h1, h2, ⟨h3, h4⟩, L, ⟨-, h5, h6⟩, h7⟩
  subst h4
  subst hz
  exact ⟨o, h1, h2, ⟨.inl v, w, h3, hH, hx, hE⟩, L, h5, h6, h7⟩
theorem v_iret {v : Int32} (hd : decode M.2.1 pc = .ok (.ireturn, 1)) (hr : M.2.2.2.1 = some .int) (h1 : nc ≤ mc) (h2 : ns ≤ ms) (hE : E (.inl (some (.int v))) w sz) : VV g d mc ms M w0 sz0 E pc L [.int v] w sz nc ns :=
  fw_widen h1 h2 fun p e s m args below meth c H locs ls hC hH hz hx hl hL =>
    fw_mono (fw_end hH hz hx hE) (W.iret hC.1 hC.2.1.1 (hC.2.1.2.2.2.1.trans hr) (fun t ht _ => ⟨rfl, ht⟩) hl hd hC.2.1.2.2.2.2)
theorem v_zret {v : Int32} (hd : decode M.2.1 pc = .ok (.ireturn, 1)) (hr : M.2.2.2.1 = some .boolean) (hv : v = 0 ∨ v = 1) (h1 : nc ≤ mc) (h2 : ns ≤ ms) (hE : E (.inl (some (.int v))) w sz) : VV g d mc ms M w0 sz0 E pc L [.int v] w sz nc ns :=
  fw_widen h1 h2 fun p e s m args below meth c H locs ls hC hH hz hx hl hL =>
    fw_mono (fw_end hH hz hx hE) (W.zret hC.1 hC.2.1.1 (hC.2.1.2.2.2.1.trans hr) (by rcases hv with rfl | rfl <;> rfl) (fun t ht _ => ⟨rfl, ht⟩) hl hd hC.2.1.2.2.2.2)
theorem v_lret {v : Int64} (hd : decode M.2.1 pc = .ok (.lreturn, 1)) (hr : M.2.2.2.1 = some .long) (h1 : nc ≤ mc) (h2 : ns ≤ ms) (hE : E (.inl (some (.long v))) w sz) : VV g d mc ms M w0 sz0 E pc L [.long v] w sz nc ns :=
  fw_widen h1 h2 fun p e s m args below meth c H locs ls hC hH hz hx hl hL =>
    fw_mono (fw_end hH hz hx hE) (W.lret hC.1 hC.2.1.1 (hC.2.1.2.2.2.1.trans hr) (fun t ht _ => ⟨rfl, ht⟩) hl hd hC.2.1.2.2.2.2)
theorem v_vret (hd : decode M.2.1 pc = .ok (.return_, 1)) (hr : M.2.2.2.1 = none) (h1 : nc ≤ mc) (h2 : ns ≤ ms) (hE : E (.inl none) w sz) : VV g d mc ms M w0 sz0 E pc L [] w sz nc ns :=
  fw_widen h1 h2 fun p e s m args below meth c H locs ls hC hH hz hx hl hL =>
    fw_mono (fw_end hH hz hx hE) (W.vret hC.1 hC.2.1.1 (hC.2.1.2.2.2.1.trans hr) (fun t ht _ => ⟨rfl, ht⟩) hl hd hC.2.1.2.2.2.2)
theorem v_aret {a : Nat} {n : String} (hd : decode M.2.1 pc = .ok (.areturn, 1)) (hr : M.2.2.2.1 = some (.object n)) (h1 : nc ≤ mc) (h2 : ns ≤ ms) (hE : E (.inl (some (.ref a))) w sz) : VV g d mc ms M w0 sz0 E pc L [.ref a] w sz nc ns :=
  fw_widen h1 h2 fun p e s m args below meth c H locs ls hC hH hz hx hl hL =>
    fw_mono (fw_end hH hz hx hE) (W.aret hC.1 hC.2.1.1 (hC.2.1.2.2.2.1.trans hr) (Or.inl ⟨n, rfl⟩) (Or.inr ⟨a, rfl⟩) (fun t ht _ => ⟨rfl, ht⟩) hl hd hC.2.1.2.2.2.2)
/-! a contract out of a body -/
theorem CT.of {as : List Value} {w : Wd} {sz : Nat} (hy : plainName M.1.cls = true) (hn : (lg_sl as).length ≤ M.2.2.1) (k : VV g d mc ms M w sz E 0 (lv_args 0 as) [] w sz 0 0) : CT g d mc ms M as w sz E := by
  refine MetFree.of_bodyS (code := M.2.1) (maxLocals := M.2.2.1) (ret := M.2.2.2.1) hy ?_ ?_
  · intro args s m h hn
    obtain ⟨meth, c, h1, h2, h3, -⟩ := fw_word_spec hn (atoms_spec (ws := [fw_word M]) h _ List.mem_cons_self)
    exact ⟨meth, c, h1, h2, h3.1, h3.2.1, h3.2.2.2.1, h3.2.2.2.2⟩
  · intro p e s m args below meth c s₁ B hml hP _
    obtain ⟨rfl, hz, hH, hK, hX⟩ := hP
    have hh0 : s₁.heap = s.heap := by rw [B.state]; rfl
    have X₀ := Stand.of_body B
    obtain ⟨meth', c', h1, h2, h3, -⟩ := fw_word_spec B.named (atoms_spec (ws := [fw_word M]) B.pre _ List.mem_cons_self)
    cases B.method.symm.trans h1
    cases X₀.code.symm.trans h2
    have hl := lv_entry as (n := M.2.2.1) hn
    have K := k p e s m as.toArray below meth c s.heap [] _ ⟨B.exec, h3, B.named, B.method, hK, hz, hH, hX⟩ hH hz fw_ext.rf (fun q h => by cases h) hl
    rw [← lg_entry_eq] at K
    obtain ⟨t, a1, o, b1, b2, b3⟩ := K s₁ hh0 X₀
    exact ⟨t, o, a1, b1, b2, b3⟩
theorem CT.mono {as : List Value} {E' : Rs → Wd → Nat → Prop} (h : CT g d mc ms M as w sz E) (hE : ∀ r w' sz', E r w' sz' → E' r w' sz') : CT g d mc ms M as w sz E' := by
  intro p e ha hc hk s m args below hf happ hP hK
  obtain ⟨n, o, h1, h2, h3, ⟨r, w', q1, q2, q3, q4⟩, h5⟩ := h p e ha hc hk s m args below hf happ hP hK
  exact ⟨n, o, h1, h2, h3, ⟨r, w', q1, q2, q3, hE _ _ _ q4⟩, h5⟩
/-! calls -/
theorem fw_T.warm {s U : State} (hW : s.WarmedH U.vm) (h : fw_T s) : fw_T U := by
  intro c hc
  have hk := fw_big_ok c hc
  have h1 := h c hc
  unfold fw_keep at hk
  split at hk
  · exact va_Nw.warmF hW h1
  · exact va_Nw.warmM hW h1
  · exact va_Nw.warmD hW h1
  · exact va_Nw.warmC hW h1
  · exact word_at hW (Or.inr ⟨_, rfl⟩) h1
  · exact word_at hW (Or.inl hk) h1
theorem fw_K.warm {s U : State} (hW : s.WarmedH U.vm) (h : fw_K g s) : fw_K g U := ⟨va_K.moved hW.alike h.1, h.2.warm hW⟩
theorem fw_st.kept {n d : String} {u U : State} {H H1 : Heap} (h : fw_st n d u H) (hvm : u.vm.Alike U.vm) (hq : ∀ (a : Nat) (cell : Cell), H[a]? = some cell → cell.vm.isStatics = true → H1[a]? = some cell) : fw_st n d U H1 := by
  obtain ⟨c, k, i, f, a, cell, v, h1, h2, h3, h4, h5, h6, h7, h8, h9, h10, h11⟩ := h
  obtain ⟨k', hi', he⟩ := State.fieldFound?_setVm hvm h2
  exact ⟨c, k', i, f, a, cell, v, by rw [hvm.findClass]; exact h1, hi', h3, by rw [he]; exact h4, hq a cell h5 h6, h6, h7, h8, by rw [he]; exact h9, h10, h11⟩
theorem fw_X.kept {u U : State} (h : fw_X g u) (hvm : u.vm.Alike U.vm) (hW : u.WarmedH U.vm) (hq : ∀ (a : Nat) (cell : Cell), u.heap[a]? = some cell → cell.vm.isStatics = true → U.heap[a]? = some cell) : fw_X g U :=
  ⟨h.1, h.2.1.kept hvm hq, h.2.2.1.kept hvm hq, fun i tx hi => by
    obtain ⟨a, ha⟩ := h.2.2.2 i tx hi
    exact ⟨a, ha.warm hW⟩⟩
theorem fw_at.vm {a : Nat} {e : Ct} {H : Heap} (h : fw_at g a e H) (hr : fw_raw e = false) : ∃ c : Cell, H[a]? = some c ∧ c.vm = .none := by
  match e, h, hr with
  | .inl x, h, _ => exact ⟨_, h, rfl⟩
  | .inr (.inl x), h, _ => exact ⟨_, h, rfl⟩
  | .inr (.inr (.inl x)), h, _ => exact ⟨_, h, rfl⟩
  | .inr (.inr (.inr (.inl o))), h, _ =>
    obtain ⟨r, h1, cell, h2, h3, h4, -⟩ := h
    exact ⟨_, h2, h4⟩
  | .inr (.inr (.inr (.inr c))), _, hr => cases hr
theorem fw_nost {s : State} {locs : List Loc} (hH : fw_H g w0 s.heap) (hz : s.heap.size = sz0) (hl : ∀ q ∈ locs, fw_fr w0 sz0 q.base) : ∀ x ∈ locs, ∀ cell, s.heap[x.base]? = some cell → cell.vm.isStatics = false := by
  intro x hx cell hc
  rcases hl x hx with ⟨e, he, hr⟩ | h
  · obtain ⟨c, h1, h2⟩ := (hH _ _ he).vm hr
    cases Option.some.inj (hc.symm.trans h1)
    rw [h2]; rfl
  · have := (Array.getElem?_eq_some_iff.mp hc).1
    omega
theorem fw_X.stand {p : Program} {e : Env} {R : Room} {s : State} {m : MethodId} {args : Array Value} {below : List Frame} {meth : Method} {c : Code} {T : State} {locs : List Loc} {c0 s0 : Nat} (h : fw_X g s) (hH : fw_H g w0 s.heap) (hz : s.heap.size = sz0) (hl : ∀ q ∈ locs, fw_fr w0 sz0 q.base)
    (X : Stand p g.1 e R s m args below meth c T locs c0 s0) : fw_X g T := by
  refine h.kept X.warmed.alike X.warmed (fun a cell hc hs => ?_)
  obtain ⟨-, -, -, -, -, h6⟩ := X.same
  obtain ⟨c9, e1, e2, e3, e4⟩ := h6 a cell hc
  have hsl : c9.slots = cell.slots := Array.ext_getElem? fun i => e4 i fun hm => by
    have := fw_nost hH hz hl _ hm cell hc
    rw [hs] at this
    cases this
  have h9 : c9 = cell := by
    rw [hsl] at e2
    exact e2
  rw [← h9]
  exact e1
/-- the way into a callee: what the invoking instruction does -/
def fw_en (g : Gl) (M : Mi) (w : Wd) (pc : Nat) (S rest A : List Value) (y : MethodName) : Prop :=
  ∀ (p : Program) (e : Env) (R : Room) (s : State) (m : MethodId) (args : Array Value) (below : List Frame) (meth : Method) (c : Code) (T : State) (locs : List Loc) (cells slots : Nat) (ls : Array Slot),
    p.tables.exec = Jvm.exec → c.code = M.2.1 → s.vm.findClass M.1.cls = some m.cls → fw_K g s → fw_H g w T.heap → Stand p g.1 e R s m args below meth c T locs cells slots →
    ∃ (vm' : Vm) (mk : MethodId), Stand p g.1 e R s m args below meth c (T.setVm vm') locs cells slots ∧ s.methodNamed? y = some mk ∧ (∃ ig, decode c.code pc = .ok (ig, 3)) ∧
      ∀ target, (∀ acts, Steps p.tables e below (doInvoke e ((T.setVm vm').setTop (F0 m pc ls rest)) acts mk A.toArray).1 target) → Steps p.tables e below (T.setTop (F0 m pc ls S)) target
/-- a call by its contract, whatever its end -/
theorem fw_call {p : Program} {e : Env} {R : Room} {s : State} {m : MethodId} {args : Array Value} {below : List Frame} {meth : Method} {c : Code} {U : State} {Ls : List Loc} {c0 s0 : Nat} {f : JFrame} {ig : Instr} {len : Nat} {mk : MethodId} {A : List Value} {M' : Mi} {d' mc' ms' : Nat} {E' : Rs → Wd → Nat → Prop}
    (X : Stand p g.1 e R s m args below meth c U Ls c0 s0) (hM : CT g d' mc' ms' M' A w sz E') (hf : f.method = m) (hsize : f.locals.size = c.maxLocals) (hdg : decode c.code f.pc = .ok (ig, len)) (hW : 2 * f.monitorRoom + (f.stack.map fun v => v.category).sum ≤ 8)
    (hn : U.methodNamed? M'.1 = some mk) (hwd : (fw_word M').before A.toArray U = true) (hini : (Cond.initialized M'.1.cls).before A.toArray U = true) (hz : U.heap.size = sz) (hH : fw_H g w U.heap) (hK : fw_K g U) (hX : fw_X g U)
    (r1 : d' + 1 ≤ R.frames) (r2 : 8 + (M'.2.2.1 + 11) + 39 * d' ≤ R.locals) (r3 : c0 + mc' ≤ R.cells) (r4 : s0 + ms' ≤ R.slots) :
    ∃ (r : Rs) (w' : Wd) (T' : State) (L' : List Loc), Stand p g.1 e R s m args below meth c T' (Ls ++ L') (c0 + mc') (s0 + ms') ∧ (∀ q ∈ L', fw_fr w sz q.base) ∧ fw_H g w' T'.heap ∧ fw_ext w sz w' T'.heap.size ∧ E' r w' T'.heap.size ∧
      match r with
      | .inl v => Steps p.tables e below (doInvoke e (U.setTop f) [] mk A.toArray).1 (T'.setTop { f with pc := f.pc + len, stack := v.toList ++ f.stack })
      | .inr k => ∃ (x : Addr) (cell : Cell), sz ≤ x ∧ T'.heap[x]? = some cell ∧ cell.vm = .none ∧ T'.vm.findClass (fw_ex k) = some cell.cls ∧ Steps p.tables e below (doInvoke e (U.setTop f) [] mk A.toArray).1 ((T'.setTop f).pushFrame (.throwing x)) := by
  obtain ⟨methY, cY, hmY, hcY, hcd, -⟩ := fw_word_spec hn hwd
  obtain ⟨kY, hkY, -⟩ := className_of_methodNamed hn
  have hinitY : kY.init = .initialized := Cond.initialized_spec (findClass_of_methodNamed hn) hkY hini
  have h : At U f.method c below := by rw [hf]; exact X.here
  have hpre : (headSpec [fw_word M'] (fw_rm d' mc' ms')).pre.before A.toArray U = true := atoms_intro (fun w hw => by rw [List.mem_singleton.mp hw]; exact hwd)
  have happ : (headSpec [fw_word M'] (fw_rm d' mc' ms')).appliesLoose M'.1 e.platform (U.calling f mk A.toArray) = true :=
    Spec.appliesLoose_calling (g := f) h hdg hn hkY hinitY
      (X.room_calling (g := f) (R' := fw_rm d' mc' ms') hsize hmY hcY r1 (by rw [hcd.2.1]; show _ + (39 * d') ≤ _; omega) r3 r4) hpre
  obtain ⟨mid, hmid⟩ := h.above
  have hfr : (U.setTop f).frames = (.java f :: mid) ++ below := by rw [State.frames_setTop' f h.top, hmid]; rfl
  have hKc : fw_K g (U.calling f mk A.toArray) := ⟨va_K.moved (u := U) (U := U.calling f mk A.toArray) (Vm.Alike.refl U.vm) hK.1, hK.2.warm (U := U.calling f mk A.toArray) (State.WarmedH.refl U)⟩
  have hXc : fw_X g (U.calling f mk A.toArray) := hX.kept (Vm.Alike.refl U.vm) (State.WarmedH.refl U) (fun _ _ h _ => h)
  obtain ⟨o, s₂, hsteps, -, hend, hq⟩ := Steps.callFree hM p X.admits X.cas X.clock (acts := []) hfr happ ⟨rfl, hz, hH, hKc, hXc⟩ trivial
  rw [State.frames_setTop' f h.top] at hend
  have hq' : fw_Q g w sz mc' ms' E' (U.calling f mk A.toArray) o s₂ := hq
  obtain ⟨⟨r, w', q1, q2, q3, q4⟩, L', hW₂, hsame₂, hL'⟩ := hq'
  obtain ⟨e2, z2, z3, z4, z5, z6⟩ := hsame₂
  have e3 : s₂ = ({ (U.calling f mk A.toArray).setFrames s₂.frames with heap := s₂.heap, slotsUsed := s₂.slotsUsed } : State).setVm s₂.vm := by
    have : s₂ = ({ s₂ with vm := (U.calling f mk A.toArray).vm } : State).setVm s₂.vm := rfl
    rw [e2] at this
    exact this
  have hW' : U.WarmedH s₂.vm := hW₂
  obtain ⟨g₀, hg0⟩ := Option.isSome_iff_exists.mp h.top
  obtain ⟨r0, hr⟩ := State.topJava?_eq_some.mp hg0
  have hsame : U.sameButNew ({ U with heap := s₂.heap, slotsUsed := s₂.slotsUsed } : State) L' mc' ms' := by
    refine ⟨?_, z2, z3, z4, z5, z6⟩
    obtain ⟨t, ht, -⟩ := State.frames_cons hr
    show ({ U with heap := s₂.heap, slotsUsed := s₂.slotsUsed } : State) = { U.setFrames U.frames with heap := s₂.heap, slotsUsed := s₂.slotsUsed }
    rw [State.setFrames_self ht]
  subst hf
  refine ⟨r, w', (({ U with heap := s₂.heap, slotsUsed := s₂.slotsUsed } : State).setVm s₂.vm), L',
    ⟨X.admits, X.cas, X.clock, X.frames, X.room, X.hears, X.method, X.code, (X.here.setHeapUsed s₂.heap s₂.slotsUsed).setVm hW'.alike, X.tail, State.WarmedH.trans X.warmed hW', X.limits, X.bytes, X.same.trans (hsame.setVm s.vm)⟩, hL', q2, q3, q4, ?_⟩
  match r, q1 with
  | .inl v, q1 =>
    have q1 : o = .returned v := q1
    subst q1
    obtain ⟨c₂, i₂, len₂, hc₂, hd₂, hf₂⟩ := hend
    have hcc : c₂ = c := by
      have h1 : s₂.code? f.method = U.code? f.method := by
        rw [State.code?_eq, State.code?_eq, hW'.alike.method?]
      exact Option.some.inj (hc₂.symm.trans (h1.trans h.code))
    subst hcc
    have hlen : len₂ = len := by rw [hdg] at hd₂; cases hd₂; rfl
    subst hlen
    have hs₂ : s₂ = (({ U with heap := s₂.heap, slotsUsed := s₂.slotsUsed } : State).setVm s₂.vm).setTop { f with pc := f.pc + len₂, stack := v.toList ++ f.stack } := by
      have hr' : (({ U with heap := s₂.heap, slotsUsed := s₂.slotsUsed } : State).setVm s₂.vm).frames = .java g₀ :: r0 := hr
      refine e3.trans ?_
      rw [hf₂, State.calling_eq h.top, State.setFrames_setFrames, State.setTop_of_frames _ hr', hr]
      rfl
    show Steps p.tables e below _ ((({ U with heap := s₂.heap, slotsUsed := s₂.slotsUsed } : State).setVm s₂.vm).setTop { f with pc := f.pc + len₂, stack := v.toList ++ f.stack })
    rw [← hs₂]
    exact hsteps
  | .inr k, q1 =>
    obtain ⟨x, cell, q1, y1, y2, y3, y4⟩ := q1
    subst q1
    have hf₂ : s₂.frames = .throwing x :: .java f :: U.frames.tail := hend
    have hs₂ : s₂ = ((({ U with heap := s₂.heap, slotsUsed := s₂.slotsUsed } : State).setVm s₂.vm).setTop f).pushFrame (.throwing x) := by
      have hr' : (({ U with heap := s₂.heap, slotsUsed := s₂.slotsUsed } : State).setVm s₂.vm).frames = .java g₀ :: r0 := hr
      refine e3.trans ?_
      rw [hf₂, State.calling_eq h.top, State.setFrames_setFrames, State.pushFrame, State.frames_setTop _ hr', State.setTop_of_frames _ hr', State.setFrames_setFrames, hr]
      rfl
    refine ⟨x, cell, y1, y2, y3, y4, ?_⟩
    rw [← hs₂]
    exact hsteps
end CL
end
section
/-! What is thrown, and the call as a rule. -/
section TW
variable {g : Gl} {d mc ms : Nat} {M : Mi} {w0 : Wd} {sz0 : Nat} {E : Rs → Wd → Nat → Prop} {pc : Nat} {L : List (Nat × Value)} {S : List Value} {w : Wd} {sz nc ns : Nat}
/-- a body at pc where an object of the kind k is thrown -/
def VT (g : Gl) (d mc ms : Nat) (M : Mi) (w0 : Wd) (sz0 : Nat) (E : Rs → Wd → Nat → Prop) (pc : Nat) (L : List (Nat × Value)) (S : List Value) (w : Wd) (sz nc ns k : Nat) : Prop :=
  ∀ (p : Program) (e : Env) (s : State) (m : MethodId) (args : Array Value) (below : List Frame) (meth : Method) (c : Code) (T : State) (locs : List Loc) (ls : Array Slot) (x : Addr) (cell : Cell),
    fw_Cx g M w0 sz0 p s m meth c → fw_H g w T.heap → T.heap.size = sz → fw_ext w0 sz0 w sz → (∀ q ∈ locs, fw_fr w0 sz0 q.base) → lv_has ls M.2.2.1 L →
    Stand p g.1 e (fw_rm d mc ms) s m args below meth c T locs nc ns → sz0 ≤ x → T.heap[x]? = some cell → cell.vm = .none → T.vm.findClass (fw_ex k) = some cell.cls →
    ∃ t, Steps p.tables e below ((T.setTop (F0 m pc ls S)).pushFrame (.throwing x)) t ∧ fw_E g w0 sz0 mc ms E below s t
theorem vt_out {k : Nat} (hh : M.2.2.2.2 = []) (h1 : nc ≤ mc) (h2 : ns ≤ ms) (hE : E (.inr k) w sz) : VT g d mc ms M w0 sz0 E pc L S w sz nc ns k := by
  intro p e s m args below meth c T locs ls x cell hC hH hz hx hl hL X0 hx0 hc1 hc2 hc3
  have X := stand_widen X0 h1 h2
  have hout : ∀ y ∈ c.exceptionTable.toList, covers y pc = false := by
    have h9 := hC.2.1.2.2.1
    rw [hh] at h9
    have : c.exceptionTable.toList = [] := List.map_eq_nil_iff.mp h9
    rw [this]
    intro y hy
    cases hy
  have hlk : meth.locks = false := hC.2.1.2.2.2.2
  obtain ⟨hst, hrun, hend, hW, hsame⟩ := X.leaveThrown x (g := F0 m pc ls S) rfl rfl rfl hout hlk
  refine ⟨_, hst, .threw x, hrun, hend, ⟨.inr k, w, ⟨x, cell, rfl, hx0, hc1, hc2, hc3⟩, hH, ?_, ?_⟩, locs, hW, hsame, hl⟩
  · show fw_ext w0 sz0 w T.heap.size
    rw [hz]; exact hx
  · show E (.inr k) w T.heap.size
    rw [hz]; exact hE
theorem v_call {rest A : List Value} {M' : Mi} {d' mc' ms' : Nat} {E' : Rs → Wd → Nat → Prop} (hen : fw_en g M w pc S rest A M'.1) (hc : CT g d' mc' ms' M' A w sz E') (hw : fw_word M' ∈ fw_big) (hwo : (fw_word M').onTables = true) (hi : Cond.initialized M'.1.cls ∈ fw_big)
    (r1 : d' + 1 ≤ d) (r2 : M'.2.2.1 ≤ 20) (r3 : nc + mc' ≤ mc) (r4 : ns + ms' ≤ ms) (hst : (rest.map fun v => v.category).sum ≤ 8)
    (kr : ∀ v w' sz', E' (.inl v) w' sz' → VV g d mc ms M w0 sz0 E (pc + 3) L (v.toList ++ rest) w' sz' (nc + mc') (ns + ms'))
    (kt : ∀ k w' sz', E' (.inr k) w' sz' → VT g d mc ms M w0 sz0 E pc L rest w' sz' (nc + mc') (ns + ms') k) : VV g d mc ms M w0 sz0 E pc L S w sz nc ns := by
  intro p e s m args below meth c H locs ls hC hH hz hx hl hL
  intro T hT X
  subst hT
  obtain ⟨vm', mk, X₁, hn, ⟨ig, hdg⟩, hgo⟩ := hen p e _ s m args below meth c T locs nc ns ls hC.1 hC.2.1.1 (fw_K.own hC) hC.2.2.2.2.1 hH X
  have hK₁ : fw_K g (T.setVm vm') := hC.2.2.2.2.1.warm X₁.warmed
  have hn₁ : (T.setVm vm').methodNamed? M'.1 = some mk := X₁.named hn
  obtain ⟨r, w', T', L', X', hL', hH', hx', hE', hm⟩ := fw_call (f := F0 m pc ls rest) X₁ hc rfl (hL.1.trans hC.2.1.2.1.symm) hdg (by show 2 * 0 + (rest.map fun v => v.category).sum ≤ 8; omega) hn₁ (fw_use hK₁.2 hw hwo) (fw_use hK₁.2 hi rfl) hz hH hK₁ (hC.2.2.2.2.2.2.2.stand hC.2.2.2.2.2.2.1 hC.2.2.2.2.2.1 hl X₁) (by show d' + 1 ≤ d; exact r1) (by show _ ≤ 39 * d; omega) r3 r4
  have hl' : ∀ q ∈ locs ++ L', fw_fr w0 sz0 q.base := by
    intro q hq
    rcases List.mem_append.mp hq with h | h
    · exact hl q h
    · exact hx.2 _ (hL' q h)
  match r, hm, hE' with
  | .inl v, hm, hE' =>
    obtain ⟨t, a1, b1⟩ := kr v w' _ hE' p e s m args below meth c T'.heap _ ls hC hH' rfl (hx.tr hx') hl' hL T' rfl X'
    exact ⟨t, hgo t (fun acts => by rw [doInvoke_state]; exact Steps.trans hm a1), b1⟩
  | .inr k, hm, hE' =>
    obtain ⟨x, ce, y1, y2, y3, y4, hm⟩ := hm
    obtain ⟨t, a1, b1⟩ := kt k w' _ hE' p e s m args below meth c T' _ ls x ce hC hH' rfl (hx.tr hx') hl' hL X' (Nat.le_trans hx.1 y1) y2 y3 y4
    exact ⟨t, hgo t (fun acts => by rw [doInvoke_state]; exact Steps.trans hm a1), b1⟩
/-! the ways in -/
theorem fw_named {M' : Mi} {s : State} {args : Array Value} (h : (fw_word M').before args s = true) : ∃ mk, s.methodNamed? M'.1 = some mk := by
  obtain ⟨y, b, n, r, hh⟩ := M'
  cases hh with
  | nil => exact Cond.code_named h
  | cons x t =>
    obtain ⟨m9, meth, c, hn9, -⟩ := Cond.codeWith_spec h
    exact ⟨m9, hn9⟩
theorem en_s {idx : Nat} {A rest : List Value} {M' : Mi} (hd : decode M.2.1 pc = .ok (.invokestatic idx, 3)) (hl : Cond.methodLink M.1.cls idx M'.1 ∈ fw_big ∨ ∃ host, Cond.methodLinkNest M.1.cls idx M'.1 host ∈ fw_big) (hw : fw_word M' ∈ fw_big) (hwo : (fw_word M').onTables = true) (hst : Cond.static M'.1 ∈ fw_big) (hi : Cond.initialized M'.1.cls ∈ fw_big)
    (hy : M'.1.cls ≠ "java/lang/invoke/MethodHandle" ∧ M'.1.cls ≠ "java/lang/invoke/VarHandle") (hlen : (parseMethodDescriptor M'.1.desc).map (fun d => d.parameters.length) = some A.length) (hS : S = A.reverse ++ rest) : fw_en g M w pc S rest A M'.1 := by
  intro p e R s m args below meth c T locs cells slots ls hx hb hown hK hH X
  subst hS
  obtain ⟨mk, methM, hnamed, hmethM, hcodeM, hsigM⟩ : ∃ mk methM, s.methodNamed? M'.1 = some mk ∧ s.vm.method? mk = some methM ∧ True ∧ parseMethodDescriptor M'.1.desc = some methM.sig := by
    have hwd : (fw_word M').before args s = true := fw_use hK.2 hw hwo
    obtain ⟨mk, hn⟩ := fw_named hwd
    obtain ⟨meth', c', h1, -, -, h4⟩ := fw_word_spec hn hwd
    exact ⟨mk, meth', hn, h1, trivial, h4⟩
  have hstatic : methM.isStatic = true := Cond.static_spec hnamed hmethM (fw_use (A := args) hK.2 hst rfl)
  obtain ⟨kP, hkP, -⟩ := className_of_methodNamed hnamed
  have hinitP : kP.init = .initialized := Cond.initialized_spec (findClass_of_methodNamed hnamed) hkP (fw_use (A := args) hK.2 hi rfl)
  have hl2 : A.length = methM.sig.parameters.length := by
    rw [hsigM] at hlen
    exact (Option.some.inj hlen).symm
  have hdg : decode c.code pc = .ok (.invokestatic idx, 3) := by rw [hb]; exact hd
  rcases hl with hl | ⟨host, hl⟩
  · obtain ⟨vm₁, X₁, hstep₁⟩ := X.invokestatic hx hown (fw_use hK.2 hl rfl) hnamed hmethM hstatic hkP hinitP hy (g := F0 m pc ls (A.reverse ++ rest)) rfl (argsL := A) (rest := rest) hl2 rfl hdg
    exact ⟨vm₁, mk, X₁, hnamed, ⟨_, hdg⟩, hstep₁⟩
  · obtain ⟨vm₁, X₁, hstep₁⟩ := X.invokestaticNest hx hown (fw_use hK.2 hl rfl) hnamed hmethM hstatic hkP hinitP hy (g := F0 m pc ls (A.reverse ++ rest)) rfl (argsL := A) (rest := rest) hl2 rfl hdg
    exact ⟨vm₁, mk, X₁, hnamed, ⟨_, hdg⟩, hstep₁⟩
theorem fw_recv {g : Gl} {w : Wd} {H : Heap} {s : State} {a ci : Nat} {fs : List Value} {C : String} {T : u_T} {N : Nat} (hK : fw_K g s) (hH : fw_H g w H) (ha : w a = some (cO ci fs)) (hc : vwCl[ci]? = some (C, T, N)) : ∃ cell : Cell, H[a]? = some cell ∧ cell.vm = .none ∧ s.vm.findClass C = some cell.cls := by
  obtain ⟨q', h1, cell, g1, g2, g3, -⟩ := hH a _ ha
  exact ⟨cell, g1, g3, by rw [g2]; exact (hK.1.1 ci _ hc).2.1⟩
/-- a method of the receiver's own class -/
theorem en_v {idx a ci N : Nat} {fs : List Value} {T : u_T} {A rest : List Value} {M' : Mi} (hd : decode M.2.1 pc = .ok (.invokevirtual idx, 3)) (hl : Cond.methodLink M.1.cls idx M'.1 ∈ fw_big ∨ ∃ host, Cond.methodLinkNest M.1.cls idx M'.1 host ∈ fw_big) (hw : fw_word M' ∈ fw_big) (hwo : (fw_word M').onTables = true) (him : Cond.instanceMethod M'.1 ∈ fw_big) (hse : Cond.selects M'.1.cls M'.1 M'.1 ∈ fw_big)
    (hc : vwCl[ci]? = some (M'.1.cls, T, N)) (ha : w a = some (cO ci fs)) (hy : M'.1.cls ≠ "java/lang/invoke/MethodHandle" ∧ M'.1.cls ≠ "java/lang/invoke/VarHandle") (hlen : (parseMethodDescriptor M'.1.desc).map (fun d => d.parameters.length) = some A.length) (hS : S = A.reverse ++ .ref a :: rest) : fw_en g M w pc S rest (.ref a :: A) M'.1 := by
  intro p e R s m args below meth c T locs cells slots ls hx hb hown hK hH X
  subst hS
  obtain ⟨cellB, hcell, hvm, hcls⟩ := fw_recv hK hH ha hc
  have hwd : (fw_word M').before args s = true := fw_use hK.2 hw hwo
  obtain ⟨mk, methM, hnamed, hmethM, hstM, habM⟩ := Cond.instanceMethod_spec (fw_use (A := args) hK.2 him rfl)
  obtain ⟨methM', c', hmethM', -, -, hsigM⟩ := fw_word_spec hnamed hwd
  cases hmethM.symm.trans hmethM'
  obtain ⟨c2, r2, m2, q1, q2, q3, q4, kP, hkP, hkPi⟩ := Cond.selects_spec (fw_use (A := args) hK.2 hse rfl)
  cases hcls.symm.trans q1
  cases (State.methodFound?_of_named hnamed hy).symm.trans q2
  cases hnamed.symm.trans q3
  have hselP : selectMethod e.platform s.vm cellB.cls mk = .method mk := by rw [Launch.admits_selectMethod X.admits]; exact q4
  have hl2 : A.length = methM.sig.parameters.length := by
    rw [hsigM] at hlen
    exact (Option.some.inj hlen).symm
  have hdg : decode c.code pc = .ok (.invokevirtual idx, 3) := by rw [hb]; exact hd
  rcases hl with hl | ⟨host, hl⟩
  · obtain ⟨vm₁, X₁, hstep₁⟩ := X.invokevirtual hx hown (fw_use hK.2 hl rfl) hnamed hmethM hstM hkP hkPi hy (a := a) (cell := cellB) hcell (fun z h => by rw [hvm] at h; cases h) hselP hmethM habM hkP hkPi (g := F0 m pc ls (A.reverse ++ .ref a :: rest)) rfl (argsL := A) (rest := rest) hl2 rfl hdg
    exact ⟨vm₁, mk, X₁, hnamed, ⟨_, hdg⟩, hstep₁⟩
  · obtain ⟨vm₁, X₁, hstep₁⟩ := X.invokevirtualNest hx hown (fw_use hK.2 hl rfl) hnamed hmethM hstM hkP hkPi hy (a := a) (cell := cellB) hcell (fun z h => by rw [hvm] at h; cases h) hselP hmethM habM hkP hkPi (g := F0 m pc ls (A.reverse ++ .ref a :: rest)) rfl (argsL := A) (rest := rest) hl2 rfl hdg
    exact ⟨vm₁, mk, X₁, hnamed, ⟨_, hdg⟩, hstep₁⟩
/-- a method by the receiver's kind: named x, chosen M' -/
theorem en_u {idx a ci N : Nat} {fs : List Value} {C : String} {T : u_T} {A rest : List Value} {x : MethodName} {M' : Mi} (hd : decode M.2.1 pc = .ok (.invokevirtual idx, 3)) (hl : Cond.methodLink M.1.cls idx x ∈ fw_big) (hsm : Cond.sameMethod x.cls x.cls x.name x.desc ∈ fw_big) (hde : Cond.declares x ∈ fw_big ∨ ∃ b n r, Cond.instanceMethod x ∈ fw_big ∧ Cond.code x b n r ∈ fw_big) (hw : fw_word M' ∈ fw_big) (hwo : (fw_word M').onTables = true) (him : Cond.instanceMethod M'.1 ∈ fw_big) (hse : Cond.selects C x M'.1 ∈ fw_big)
    (hc : vwCl[ci]? = some (C, T, N)) (ha : w a = some (cO ci fs)) (hy : x.cls ≠ "java/lang/invoke/MethodHandle" ∧ x.cls ≠ "java/lang/invoke/VarHandle") (hlen : (parseMethodDescriptor x.desc).map (fun d => d.parameters.length) = some A.length) (hS : S = A.reverse ++ .ref a :: rest) : fw_en g M w pc S rest (.ref a :: A) M'.1 := by
  intro p e R s m args below meth c T locs cells slots ls hx hb hown hK hH X
  subst hS
  obtain ⟨cellB, hcell, hvm, hcls⟩ := fw_recv hK hH ha hc
  have hd0 : va_Decl s x := by
    rcases hde with h | ⟨b, n, r, h, h'⟩
    · exact va_Decl.abs (hK.2 _ h)
    · exact va_Decl.of (fw_use (A := args) hK.2 h rfl) (fw_use (A := args) hK.2 h' rfl)
  obtain ⟨r0, r, hn, hrm, hstR, hsigR⟩ := hd0
  have hsame := fw_use (A := args) hK.2 hsm rfl
  obtain ⟨cn, ck, r1, hcn, hck, hni, hf, hn1⟩ := Cond.sameMethod_found hsame
  cases hn.symm.trans hn1
  obtain ⟨mk, methM, hnamed, hmethM, -, habM⟩ := Cond.instanceMethod_spec (fw_use (A := args) hK.2 him rfl)
  obtain ⟨c2, r2, m2, q1, q2, q3, q4, kP, hkP, hkPi⟩ := Cond.selects_spec (fw_use (A := args) hK.2 hse rfl)
  cases hcls.symm.trans q1
  cases hf.symm.trans q2
  cases hnamed.symm.trans q3
  have hselP : selectMethod e.platform s.vm cellB.cls r0 = .method mk := by rw [Launch.admits_selectMethod X.admits]; exact q4
  have hl2 : A.length = r.sig.parameters.length := by
    rw [hsigR] at hlen
    exact (Option.some.inj hlen).symm
  have hdg : decode c.code pc = .ok (.invokevirtual idx, 3) := by rw [hb]; exact hd
  obtain ⟨vm₁, X₁, hstep₁⟩ := X.invokevirtualUp hx hown (fw_use hK.2 hl rfl) hsame hy hn hrm hstR (a := a) (cell := cellB) hcell (fun z h => by rw [hvm] at h; cases h) hselP hmethM habM hkP hkPi (g := F0 m pc ls (A.reverse ++ .ref a :: rest)) rfl (argsL := A) (rest := rest) hl2 rfl hdg
  exact ⟨vm₁, mk, X₁, hnamed, ⟨_, hdg⟩, hstep₁⟩
/-- a constructor -/
theorem en_i {idx a : Nat} {A rest : List Value} {M' : Mi} (hd : decode M.2.1 pc = .ok (.invokespecial idx, 3)) (hl : Cond.methodLink M.1.cls idx M'.1 ∈ fw_big ∨ ∃ host, Cond.methodLinkNest M.1.cls idx M'.1 host ∈ fw_big) (hw : Cond.code M'.1 M'.2.1 M'.2.2.1 none ∈ fw_big) (him : Cond.instanceMethod M'.1 ∈ fw_big) (hnm : M'.1.name = "<init>")
    (hy : M'.1.cls ≠ "java/lang/invoke/MethodHandle" ∧ M'.1.cls ≠ "java/lang/invoke/VarHandle") (hlen : (parseMethodDescriptor M'.1.desc).map (fun d => d.parameters.length) = some A.length) (hS : S = A.reverse ++ .ref a :: rest) : fw_en g M w pc S rest (.ref a :: A) M'.1 := by
  intro p e R s m args below meth c T locs cells slots ls hx hb hown hK hH X
  subst hS
  have hpl : e.platform.magicAccessors = ({} : Platform).magicAccessors := by rw [X.admits.platform]
  have hl2 : ∀ sig, parseMethodDescriptor M'.1.desc = some sig → A.length = sig.parameters.length := by
    intro sig h
    rw [h] at hlen
    exact (Option.some.inj hlen).symm
  have hdg : decode c.code pc = .ok (.invokespecial idx, 3) := by rw [hb]; exact hd
  rcases hl with hl | ⟨host, hl⟩
  · obtain ⟨mk, methM, cM, kP, vm₁, hnamed, hmethM, hcodeM, -, hlocalsM, -, hkP, -, hW₁, hstep₁⟩ := Steps.initColdArgs (e := e) X.here hx X.warmed hpl hown hnm hy (fw_use (A := args) hK.2 hl rfl) (fw_use (A := args) hK.2 him rfl) (fw_use (A := args) hK.2 hw rfl) (f := F0 m pc ls (A.reverse ++ .ref a :: rest)) rfl hl2 rfl hdg
    exact ⟨vm₁, mk, X.noted hW₁, hnamed, ⟨_, hdg⟩, hstep₁⟩
  · obtain ⟨mk, methM, cM, kP, vm₁, hnamed, hmethM, hcodeM, -, hlocalsM, -, hkP, -, hW₁, hstep₁⟩ := Steps.initColdArgsNest (e := e) X.here hx X.warmed hpl hown hnm hy (fw_use (A := args) hK.2 hl rfl) (fw_use (A := args) hK.2 him rfl) (fw_use (A := args) hK.2 hw rfl) (f := F0 m pc ls (A.reverse ++ .ref a :: rest)) rfl hl2 rfl hdg
    exact ⟨vm₁, mk, X.noted hW₁, hnamed, ⟨_, hdg⟩, hstep₁⟩
/-! throw new X(text) -/
/-- the same frame, as if the method were called anew in this heap -/
theorem fw_rebase {p : Program} {l : Launch} {e : Env} {R : Room} {s : State} {m : MethodId} {args : Array Value} {below : List Frame} {meth : Method} {c : Code} {locs : List Loc} {cells slots : Nat} {T : State} (X : Stand p l e R s m args below meth c T locs cells slots) {R' : Room} (hf : R'.frames ≤ R.frames) (hl : R'.locals ≤ R.locals) (hc : cells + R'.cells ≤ R.cells) (hs : slots + R'.slots ≤ R.slots) :
    Stand p l e R' ((T.setVm s.vm).setFrames (.invoking m args :: below)) m args below meth c T [] 0 0 := by
  have htop : (T.setVm s.vm).topJava?.isSome := X.here.top
  have hF : ((T.setVm s.vm).setFrames (.invoking m args :: below)).frames = .invoking m args :: below := State.frames_setFrames _ (State.cur_lt_of_top htop)
  obtain ⟨g₀, hg0⟩ := Option.isSome_iff_exists.mp htop
  obtain ⟨r, hr⟩ := State.topJava?_eq_some.mp hg0
  have hl9 : e.platform.stackLimits (T.setVm s.vm).me = e.platform.stackLimits s.me := X.limits
  have hb9 : (T.setVm s.vm).me.stackBytes = s.me.stackBytes := X.bytes
  refine ⟨X.admits, X.cas, X.clock, hF, ?_, X.hears, X.method, X.code, X.here, X.tail, X.warmed, ?_, ?_, ?_⟩
  · have h := X.room
    have hU : ((T.setVm s.vm).setFrames (.invoking m args :: below)).localsInUse = s.localsInUse := by
      rw [State.localsInUse_invoking hF (meth := meth) (c := c) X.method X.code, State.localsInUse_invoking X.frames X.method X.code]
    simp only [State.hasRoom, Bool.and_eq_true, decide_eq_true_eq] at h ⊢
    obtain ⟨⟨⟨⟨h1, h2, h3, h4, h5, h6⟩, h7⟩, h8⟩, h9⟩ := h
    rw [X.frames, List.length_cons] at h2 h3
    have q1 := X.heapSize
    have q2 := X.used
    simp only [hF, hU, List.length_cons, State.stackLimits_setFrames, State.stackBytes_setFrames, hl9, hb9]
    refine ⟨⟨⟨⟨by omega, by omega, by omega, by omega, by omega, h6⟩, ?_⟩, ?_⟩, X.book⟩
    · show T.heap.size + R'.cells ≤ e.platform.maxCells
      omega
    · show T.slotsUsed + R'.slots ≤ e.platform.maxSlots
      omega
  · rw [State.stackLimits_setFrames]; rfl
  · rw [State.stackBytes_setFrames]; rfl
  · refine ⟨?_, Nat.le_refl _, Nat.le_refl _, ?_, ?_, fun a c9 h9 => ⟨c9, h9, rfl, rfl, fun _ _ => rfl⟩⟩
    · obtain ⟨t, ht, -⟩ := State.frames_cons hr
      show T.setVm s.vm = { ((T.setVm s.vm).setFrames (.invoking m args :: below)).setFrames (T.setVm s.vm).frames with heap := T.heap, slotsUsed := T.slotsUsed }
      rw [State.setFrames_setFrames, State.setFrames_self ht]
      rfl
    · show T.slotsUsed = T.slotsUsed + ((T.heap.toList.drop T.heap.size).map (·.slots.size)).sum
      rw [List.drop_eq_nil_of_le (Nat.le_of_eq Array.length_toList)]
      rfl
    · show ((T.heap.toList.drop T.heap.size).map (·.slots.size)).sum ≤ 0
      rw [List.drop_eq_nil_of_le (Nat.le_of_eq Array.length_toList)]
      exact Nat.le_refl _
/-- the words of the throw that the tables decide -/
def fw_ta (own : String) (ic k : Nat) : List Cond := (Bundle.ownAtoms own ic (fw_ex k) ["java/lang/RuntimeException", "java/lang/Exception"]).filter (fun w => decide (w ≠ .isRef (.static Bundle.tN "UNASSIGNED_STACK" Bundle.steD)) && decide (w ≠ .isRef (.static Bundle.tN "SUPPRESSED_SENTINEL" Bundle.listD)) && decide (w ≠ .laysStatic Bundle.tN "UNASSIGNED_STACK" Bundle.steD) && decide (w ≠ .laysStatic Bundle.tN "SUPPRESSED_SENTINEL" Bundle.listD))
theorem fw_st.lays {n dd : String} {s : State} {args : Array Value} (h : fw_st n dd s s.heap) : (Cond.laysStatic Bundle.tN n dd).before args s = true := by
  obtain ⟨c, k, i, f, a, cell, v, h1, h2, h3, h4, h5, h6, h7, h8, h9, -⟩ := h
  show (Cond.laysStatic Bundle.tN n dd).holds args s none s [] = true
  exact Cond.laysStatic_of h1 h2 h3 h4 h5 h6 h7 h8 h9
theorem fw_st.isref {n dd : String} {s : State} {args : Array Value} (h : fw_st n dd s s.heap) : (Cond.isRef (.static Bundle.tN n dd)).before args s = true := by
  obtain ⟨c, k, i, f, a, cell, v, h1, h2, h3, h4, h5, h6, h7, h8, h9, h10, h11⟩ := h
  have he : (Term.static Bundle.tN n dd).eval args s none [] s = some v := by
    simp [Term.eval, State.fieldNamed?, h2, h3, h4, h5, h6, h10]
  simp only [Cond.before, Cond.holds, Cond.value, he]
  cases v <;> simp_all [Value.isRef]
theorem fw_atoms {own : String} {ic k : Nat} {s : State} {args : Array Value} (hX : fw_X g s) (h : ∀ c ∈ fw_ta own ic k, c.before args s = true) : ∀ c ∈ Bundle.ownAtoms own ic (fw_ex k) ["java/lang/RuntimeException", "java/lang/Exception"], c.before args s = true := by
  intro c hc
  by_cases e1 : c = .isRef (.static Bundle.tN "UNASSIGNED_STACK" Bundle.steD)
  · rw [e1]; exact hX.2.1.isref
  · by_cases e2 : c = .isRef (.static Bundle.tN "SUPPRESSED_SENTINEL" Bundle.listD)
    · rw [e2]; exact hX.2.2.1.isref
    · by_cases e3 : c = .laysStatic Bundle.tN "UNASSIGNED_STACK" Bundle.steD
      · rw [e3]; exact hX.2.1.lays
      · by_cases e4 : c = .laysStatic Bundle.tN "SUPPRESSED_SENTINEL" Bundle.listD
        · rw [e4]; exact hX.2.2.1.lays
        · exact h c (List.mem_filter.mpr ⟨hc, by simp [e1, e2, e3, e4]⟩)
/-- what the tables must hold for this throw -/
def fw_tk (own : String) (ik is ic k : Nat) (tx : String) : Prop := (∀ c ∈ fw_ta own ic k, c ∈ fw_big ∧ c.onTables = true) ∧ Cond.classLink own ik (fw_ex k) ∈ fw_big ∧ Cond.instantiable (fw_ex k) 6 ∈ fw_big ∧ Cond.initialized (fw_ex k) ∈ fw_big ∧ Cond.stringRef own is tx ∈ tables_1 ∧ own = "DeltaViews" ∧ Bundle.fit (fw_ex k) = true
theorem v_throw {ik is ic k : Nat} {tx : String} (d0 : decode M.2.1 pc = .ok (.new ik, 3)) (d3 : decode M.2.1 (pc + 3) = .ok (.dup, 1)) (d4 : decode M.2.1 (pc + 4) = .ok (.ldc is, 2)) (d6 : decode M.2.1 (pc + 6) = .ok (.invokespecial ic, 3)) (d9 : decode M.2.1 (pc + 9) = .ok (.athrow, 1))
    (ht : fw_tk M.1.cls ik is ic k tx) (hh : M.2.2.2.2 = []) (hdd : 6 ≤ d) (h1 : nc + 1 ≤ mc) (h2 : ns + 6 ≤ ms) (hst : (S.map fun v => v.category).sum ≤ 8) (hE : E (.inr k) w (sz + 1)) : VV g d mc ms M w0 sz0 E pc L S w sz nc ns := by
  intro p e s m args below meth c H locs ls hC hH hz hx hl hL
  obtain ⟨t1, t2, t3, t4, t5, t6, t7⟩ := ht
  intro T hT X
  have hX := hC.2.2.2.2.2.2.2
  have htr : e.platform.stackTraces = false := Launch.traces_off hX.1 X.admits
  have Y := fw_rebase X (R' := { frames := d, locals := 39 * d, cells := 1, slots := 6 }) (Nat.le_refl _) (Nat.le_refl _) h1 h2
  obtain ⟨s', hA⟩ : ∃ z, z = (T.setVm s.vm).setFrames (.invoking m args :: below) := ⟨_, rfl⟩
  rw [← hA] at Y
  have hvm : s'.vm = s.vm := by rw [hA]; rfl
  have hhp : s'.heap = H := by rw [hA]; exact hT
  have hW0 : s.WarmedH s'.vm := by rw [hvm]; exact State.WarmedH.refl s
  have hT' : fw_T s' := hC.2.2.2.2.1.2.warm hW0
  have hXT : fw_X g T := hX.stand hC.2.2.2.2.2.2.1 hC.2.2.2.2.2.1 hl X
  have hX' : fw_X g s' := by
    refine ⟨hX.1, ?_, ?_, fun i tx hi => ?_⟩
    · rw [hhp, ← hT]
      exact hXT.2.1.kept (by rw [hvm]; exact X.warmed.alike.symm) (fun _ _ h _ => h)
    · rw [hhp, ← hT]
      exact hXT.2.2.1.kept (by rw [hvm]; exact X.warmed.alike.symm) (fun _ _ h _ => h)
    · obtain ⟨a, ha⟩ := hX.2.2.2 i tx hi
      exact ⟨a, ha.warm hW0⟩
  have hown' : s'.vm.findClass M.1.cls = some m.cls := by rw [hvm]; exact fw_K.own hC
  obtain ⟨cX, kX', f1, f2, f3, -⟩ := Cond.instantiable_spec (fw_use (A := args) hT' t3 rfl)
  obtain ⟨sa, hsa⟩ := hX'.2.2.2 is tx (by rw [← t6]; exact t5)
  have hout : ∀ y ∈ c.exceptionTable.toList, covers y (pc + 6 + 3) = false := by
    have h9 := hC.2.1.2.2.1
    rw [hh] at h9
    have : c.exceptionTable.toList = [] := List.map_eq_nil_iff.mp h9
    rw [this]
    intro y hy
    cases hy
  have hlk : meth.locks = false := hC.2.1.2.2.2.2
  have key : W p g.1 e { frames := d, locals := 39 * d, cells := 1, slots := 6 } s' m args below meth c H [] 0 0 (fw_E g w0 sz0 mc ms E below s) (F0 m pc ls S) := by
    refine W.newcK hC.1 hC.2.1.1 hown' (fw_use hT' t2 rfl) (fw_use hT' t3 rfl) (fw_use hT' t4 rfl) rfl d0 (Nat.le_refl _) (Nat.le_refl _) f1 rfl fun H1 kX hkX e1 z1 o1 => ?_
    refine lv_dup hC.1 hC.2.1.1 d3 rfl ?_
    refine va_ldcS hC.1 hC.2.1.1 hown' (by rw [t6]; exact hsa) d4 ?_
    intro T1 hT1 X1
    obtain ⟨U, u1, u2, u3, u4, u5, ce, u6, u7⟩ := X1.ctorThrowS hC.1 htr hown' t7 (by decide) (fw_atoms hX' (fun c hc => fw_use hT' (t1 c hc).1 (t1 c hc).2)) (fun x hx => nomatch hx) f1 hkX (a := H.size) (by rw [hT1]; exact e1) (by rw [hhp]; exact Nat.le_refl _) (msg := .ref sa) rfl
      (g := F0 m (pc + 6) ls (.ref sa :: .ref H.size :: .ref H.size :: S)) rfl (hL.1.trans hC.2.1.2.1.symm) rfl rfl (rest := S) rfl (by rw [hC.2.1.1]; exact d6) (by rw [hC.2.1.1]; exact d9) hout (by show 2 + 3 < d; omega)
      (by show 2 * 0 + (1 + (S.map fun v => v.category).sum) + (13 * (2 + 1) + 42) ≤ 39 * d; omega) hlk
    have hall : s.sameButNew ({ U with vm := s.vm } : State) locs (nc + 1) (ns + 6) := by
      subst hA
      obtain ⟨e1, e2⟩ := u5
      rw [State.setFrames_setFrames] at e1
      have h2 : (T.setVm s.vm).sameButNew ({ U with vm := s.vm } : State) [] (0 + 1) (0 + 6) := ⟨e1, e2⟩
      have h3 := X.same.trans h2
      rw [List.append_nil] at h3
      exact h3.mono (by omega) (by omega)
    obtain ⟨-, z2, z3, -, -, z6⟩ := u5
    have hkeep : ∀ q : Nat, q < H.size → U.heap[q]? = H[q]? := by
      intro q hq
      rw [← hhp] at hq ⊢
      obtain ⟨c9, e1, e2, e3, e4⟩ := z6 q _ (Array.getElem?_eq_getElem hq)
      have hs : c9.slots = (s'.heap[q]).slots := Array.ext_getElem? fun i => e4 i fun hm => nomatch hm
      have h9 : c9 = s'.heap[q] := by
        rw [hs] at e2
        exact e2
      have e5 : U.heap[q]? = some c9 := e1
      rw [e5, h9, Array.getElem?_eq_getElem hq]
    have hUz : U.heap.size = sz + 1 := by
      have y1 : U.heap.size ≤ s'.heap.size + (0 + 1) := z3
      have y2 : H.size < U.heap.size := (Array.getElem?_eq_some_iff.mp u6).1
      rw [hhp] at y1
      omega
    have hWs : s.WarmedH U.vm := State.WarmedH.trans hW0 u4
    refine ⟨U, u1, .threw H.size, u2, u3, ⟨.inr k, w, ⟨H.size, ce, rfl, by rw [hz]; exact hx.1, u6, u7.vm, ?_⟩, fun a e' he => (hH a e' he).kept (hkeep a (hH a e' he).lt), ?_, ?_⟩, locs, hWs, hall.mono h1 h2, hl⟩
    · have h9 := u7.cls
      rw [hvm] at h9
      rw [hWs.alike.findClass]
      exact h9
    · rw [hUz]
      exact ⟨by have := hx.1; omega, fun q hq => hx.2 q (by
        rcases hq with h | h
        · exact Or.inl h
        · exact Or.inr (by omega))⟩
    · rw [hUz]; exact hE
  exact key T hT Y
end TW
end
section
/-! More instructions. -/
section MO
variable {g : Gl} {d mc ms : Nat} {M : Mi} {w0 : Wd} {sz0 : Nat} {E : Rs → Wd → Nat → Prop} {pc : Nat} {L : List (Nat × Value)} {S : List Value} {w : Wd} {sz nc ns : Nat}
/-- Object's own constructor -/
theorem v_oinit {a idx : Nat} (hd : decode M.2.1 pc = .ok (.invokespecial idx, 3)) (k1 : Cond.methodLink M.1.cls idx objectInit ∈ fw_big) (k2 : Cond.instanceMethod objectInit ∈ fw_big) (k3 : Cond.code objectInit ⟨#[0xb1]⟩ 1 none ∈ fw_big) (hdd : 1 ≤ d) (hst : (S.map fun v => v.category).sum ≤ 8)
    (k : VV g d mc ms M w0 sz0 E (pc + 3) L S w sz nc ns) : VV g d mc ms M w0 sz0 E pc L (.ref a :: S) w sz nc ns := by
  intro p e s m args below meth c H locs ls hC hH hz hx hl hL
  have hT := hC.2.2.2.2.1.2
  exact W.objInit hC.1 hC.2.1.1 (fw_K.own hC) (fw_use hT k1 rfl) (fw_use hT k2 rfl) (fw_use hT k3 rfl) rfl (hL.1.trans hC.2.1.2.1.symm) rfl hd (by show 1 ≤ d; exact hdd) (by show 2 * 0 + (S.map fun v => v.category).sum + 12 ≤ 39 * d; omega) (k p e s m args below meth c H locs ls hC hH hz hx hl hL)
theorem v_ldc2 {idx : Nat} {v : Int64} (hd : decode M.2.1 pc = .ok (.ldc2_w idx, 3)) (hw : Cond.constantLong M.1.cls idx v ∈ fw_big) (k : VV g d mc ms M w0 sz0 E (pc + 3) L (.long v :: S) w sz nc ns) : VV g d mc ms M w0 sz0 E pc L S w sz nc ns := by
  intro p e s m args below meth c H locs ls hC hH hz hx hl hL
  exact lv_ldc2 hC.1 hC.2.1.1 (fw_K.own hC) (fw_use hC.2.2.2.2.1.2 hw rfl) hd (k p e s m args below meth c H locs ls hC hH hz hx hl hL)
theorem v_tin {dflt lo hi : Int} {offs : Array Int} {len : Nat} {x : Int32} {off : Int} {tgt : Nat} (hd : decode M.2.1 pc = .ok (.tableswitch dflt lo hi offs, len)) (h1 : ¬ x.toInt < lo) (h2 : ¬ hi < x.toInt) (ho : offs[(x.toInt - lo).toNat]? = some off) (ht : (pc : Int) + off = (tgt : Int)) (k : VV g d mc ms M w0 sz0 E tgt L S w sz nc ns) : VV g d mc ms M w0 sz0 E pc L (.int x :: S) w sz nc ns := vv_s (fun hx hb k => lv_tableIn hx hb hd h1 h2 ho ht k) k
theorem v_look {dflt : Int} {ps : Array (Int × Int)} {len : Nat} {x : Int32} {off : Int} {tgt : Nat} (hd : decode M.2.1 pc = .ok (.lookupswitch dflt ps, len)) (hp : (ps.toList.zip (ps.toList.drop 1)).all (fun (a, next) => a.1 < next.1) = true) (ho : Op.lookupswitch.offset ps.toList dflt x.toInt = off) (ht : (pc : Int) + off = (tgt : Int)) (k : VV g d mc ms M w0 sz0 E tgt L S w sz nc ns) : VV g d mc ms M w0 sz0 E pc L (.int x :: S) w sz nc ns := vv_s (fun hx hb k => lv_lookup hx hb hd hp ho ht k) k
theorem v_max {idx : Nat} {x y : Int32} (hd : decode M.2.1 pc = .ok (.invokestatic idx, 3)) (k1 : Cond.methodLink M.1.cls idx Lib.Math.max.name ∈ fw_big) (k2 : Cond.static Lib.Math.max.name ∈ fw_big) (k3 : Cond.initialized "java/lang/Math" ∈ fw_big) (k4 : Cond.code Lib.Math.max.name Lib.Math.max.code 2 (some .int) ∈ fw_big) (hdd : 1 ≤ d) (hst : (S.map fun v => v.category).sum ≤ 8) (h1 : nc ≤ mc) (h2 : ns ≤ ms)
    (k : VV g d mc ms M w0 sz0 E (pc + 3) L (.int (if x < y then y else x) :: S) w sz nc ns) : VV g d mc ms M w0 sz0 E pc L (.int y :: .int x :: S) w sz nc ns := by
  intro p e s m args below meth c H locs ls hC hH hz hx hl hL
  have hT := hC.2.2.2.2.1.2
  exact va_mmax hC.1 hC.2.1.1 (hC.2.1.2.1.trans hL.1.symm) (fw_K.own hC) (fw_use hT k1 rfl) (fw_use hT k2 rfl) (fw_use hT k3 rfl) (fw_use hT k4 rfl) hdd (by show (S.map fun v => v.category).sum + 13 ≤ 39 * d; omega) h1 h2 hd (k p e s m args below meth c H locs ls hC hH hz hx hl hL)
/-- lengths -/
theorem v_aleni {a n : Nat} {f : Nat → Int32} (hd : decode M.2.1 pc = .ok (.arraylength, 1)) (ha : w a = some (cI n f)) (k : VV g d mc ms M w0 sz0 E (pc + 1) L (.int (nI n) :: S) w sz nc ns) : VV g d mc ms M w0 sz0 E pc L (.ref a :: S) w sz nc ns := by
  intro p e s m args below meth c H locs ls hC hH hz hx hl hL
  exact W.alen (n := nI n) hC.1 hC.2.1.1 (hH a _ ha) ((fw_ti hC.2.2.2.2.1).1 n (fun j => .int (f j))) (by rw [vp_cell_i, arrV_size] <;> rfl) rfl rfl hd (k p e s m args below meth c H locs ls hC hH hz hx hl hL)
/-- references into an array of views -/
theorem v_aast {a n v ci : Nat} {f : Nat → Option Nat} {fs : List Value} {i : Int32} (hd : decode M.2.1 pc = .ok (.aastore, 1)) (ha : w a = some (cR n f)) (hv : w v = some (cO 1 fs)) (hin : vp_in i n) (k : VV g d mc ms M w0 sz0 E (pc + 1) L S (fw_up w a (cR n (va_up f i.toNatClampNeg (some v)))) sz nc ns) : VV g d mc ms M w0 sz0 E pc L (.ref v :: .int i :: .ref a :: S) w sz nc ns := by
  intro p e s m args below meth c H locs ls hC hH hz hx hl hL
  have hlt : i.toNatClampNeg < n := Nat.not_le.mp fun q => hin (Or.inr q)
  have h0 : ¬ i < 0 := fun q => hin (Or.inl q)
  obtain ⟨r', hr', cellV, g1, g2, g3, -⟩ := hH v _ hv
  have hcls := (hC.2.2.2.2.1.1.1 1 _ rfl).2
  obtain ⟨kA, comp, k1, k2, k3, -⟩ := (fw_tr hC.2.2.2.2.1).2
  have hcomp : comp = g.2.1.1 1 := Option.some.inj (k3.symm.trans hcls.1)
  subst hcomp
  obtain ⟨kC, hkC, -⟩ := hcls.2
  refine W.aast hC.1 hC.2.1.1 (hH a _ ha) (fun q h => by cases h) (fun h => by cases h) k1 k2 rfl hkC ⟨h0, by show _ < (arrV _ _ _).slots.size; rw [arrV_size]; exact hlt⟩ g1 (fun q h => by rw [g3] at h; cases h) (by rw [g2]; exact hkC) (by rw [g2]; exact va_assign hcls) rfl rfl hd fun H1 e1 z oq => ?_
  refine k p e s m args below meth c H1 _ ls hC (hH.set ?_ oq) (z.trans hz) (hx.tr (fw_ext.up ha rfl)) (fw_locs hl (hx.2 a (Or.inl ⟨_, ha, rfl⟩))) hL
  show H1[a]? = some (vp_cell _ _)
  rw [e1]
  show some ((vp_cell g.2.2.2.2 (n, .inr (.inr (.inr (.inr f))))).setSlot _ _) = _
  rw [vp_cell_q, vp_cell_q, arrV_store]
  congr 2
  funext q
  by_cases hq : q = i.toNatClampNeg
  · subst hq
    simp [updV, va_up, va_rf]
  · simp [updV, va_up, hq]
theorem v_newr {idx N : Nat} {n : Int32} (hd : decode M.2.1 pc = .ok (.anewarray idx, 3)) (hw : Cond.classLink M.1.cls idx "DeltaViews$View" ∈ fw_big) (hov : ∀ U : State, fw_T U → va_AO "DeltaViews$View" U) (hn : n = nI N) (hN : N ≤ 100000) (h1 : nc + 1 ≤ mc) (h2 : ns + N ≤ ms) (k : VV g d mc ms M w0 sz0 E (pc + 3) L (.ref sz :: S) (fw_up w sz (cR N (fun _ => none))) (sz + 1) (nc + 1) (ns + N)) :
    VV g d mc ms M w0 sz0 E pc L (.int n :: S) w sz nc ns := by
  intro p e s m args below meth c H locs ls hC hH hz hx hl hL
  subst hn
  have hcl : (nI N).toNatClampNeg = N := nI_clamp (by omega)
  have h2' : ns + (nI N).toNatClampNeg ≤ (fw_rm d mc ms).slots := by rw [hcl]; exact h2
  refine W.anew hC.1 hC.2.1.1 (fw_K.own hC) (fw_use hC.2.2.2.2.1.2 hw rfl) (va_AO.use (hov s hC.2.2.2.2.1.2)) rfl hd rfl (nI_pos (by omega)) (by rw [hcl]; omega) h1 h2' fun cA kA comp f1 f2 f3 f4 => ?_
  rw [hcl]
  obtain ⟨kA', comp', k1, k2, k3, k4⟩ := (fw_tr hC.2.2.2.2.1).2
  have hcA : cA = g.2.2.2.2 := Option.some.inj (f1.symm.trans k4)
  subst hcA
  subst hz
  refine k p e s m args below meth c _ locs ls hC (hH.born ?_ (fun q hq => ?_)) (by rw [Array.size_push]) (hx.tr fw_ext.new) hl hL
  · show (H.push _)[H.size]? = some (arrV g.2.2.2.2 N (fun _ => .null))
    rw [Array.getElem?_push_size, ← arrV_new]
  · rw [Array.getElem?_push, if_neg (Nat.ne_of_lt hq)]
/-- copying -/
theorem v_copyi {idx a0 a n0 n1 sp dp n : Nat} {f f1 : Nat → Int32} (hd : decode M.2.1 pc = .ok (.invokestatic idx, 3)) (k1 : Cond.methodLink M.1.cls idx arraycopyName ∈ fw_big) (k2 : Cond.native arraycopyName ∈ fw_big) (k3 : Cond.static arraycopyName ∈ fw_big) (k4 : Cond.initialized "java/lang/System" ∈ fw_big)
    (ha0 : w a0 = some (cI n0 f)) (ha : w a = some (cI n1 f1)) (h4 : sp + n ≤ n0) (h5 : dp + n ≤ n1) (hb0 : n0 < 2 ^ 31) (hb1 : n1 < 2 ^ 31) (hdd : 2 ≤ d) (hst : (S.map fun v => v.category).sum ≤ 8)
    (k : VV g d mc ms M w0 sz0 E (pc + 3) L S (fw_up w a (cI n1 (va_cpy f f1 sp dp n))) sz nc ns) : VV g d mc ms M w0 sz0 E pc L (.int (nI n) :: .int (nI dp) :: .ref a :: .int (nI sp) :: .ref a0 :: S) w sz nc ns := by
  intro p e s m args below meth c H locs ls hC hH hz hx hl hL
  have hT := hC.2.2.2.2.1.2
  intro T hT0 X
  have hc0 : H[a0]? = some (vp_cell g.2.2.1 (n0, .inl f)) := hH a0 _ ha0
  have hc1 : H[a]? = some (vp_cell g.2.2.1 (n1, .inl f1)) := hH a _ ha
  obtain ⟨-, q0, hk0, cm0, hkk0⟩ := (fw_ti hC.2.2.2.2.1).1 n0 (fun j => .int (f j))
  have h8 : nativeFrameWords "java/lang/System" "arraycopy" 5 + 11 ≤ 40 := by decide
  have e1' : (nI sp).toNatClampNeg = sp := nI_clamp (by omega)
  have e2' : (nI dp).toNatClampNeg = dp := nI_clamp (by omega)
  have e3' : (nI n).toNatClampNeg = n := nI_clamp (by omega)
  obtain ⟨vm', X', step⟩ := X.arraycopy hC.1 (fw_K.own hC) (fw_use hT k1 rfl) (fw_use hT k2 rfl) (fw_use hT k3 rfl) (fw_use hT k4 rfl) (src := a0) (dst := a) (cs := vp_cell g.2.2.1 (n0, .inl f)) (cd := vp_cell g.2.2.1 (n1, .inl f1)) (srcPos := nI sp) (destPos := nI dp) (n := nI n) (by rw [hT0]; exact hc0) (by rw [hT0]; exact hc1)
    (fun _ h => by cases h) (fun _ h => by cases h) (fun h => by cases h) (fun h => by cases h) hk0 hk0 hkk0 hkk0 (by simp [refKind]) (nI_pos (by omega)) (nI_pos (by omega)) (nI_pos (by omega))
    (by rw [nI_toInt (by omega), nI_toInt (by omega)]; show ¬ _ > ((arrV g.2.2.1 n0 (fun j => .int (f j))).slots.size : Int); rw [arrV_size]; omega)
    (by rw [nI_toInt (by omega), nI_toInt (by omega)]; show ¬ _ > ((arrV g.2.2.1 n1 (fun j => .int (f1 j))).slots.size : Int); rw [arrV_size]; omega)
    (fun vm₁ _ i hi => by
      rw [e3'] at hi
      have e : (vp_cell g.2.2.1 (n0, .inl f)).slots.getD ((nI sp).toNatClampNeg + i) .null = .int (f ((nI sp).toNatClampNeg + i)) := by
        show (arrV g.2.2.1 n0 (fun j => .int (f j))).slots.getD _ _ = _
        rw [Array.getD_eq_getD_getElem?, arrV_read _ _ (by rw [e1']; omega)]
        rfl
      refine ⟨?_, ?_⟩
      · rw [e]; rfl
      · rw [e]; exact trivial)
    (g := F0 m pc ls (.int (nI n) :: .int (nI dp) :: .ref a :: .int (nI sp) :: .ref a0 :: S)) rfl (hL.1.trans hC.2.1.2.1.symm) (rest := S) rfl (by rw [hC.2.1.1]; exact hd) (by show 1 ≤ d; omega) (by show 2 * 0 + (S.map fun v => v.category).sum + (nativeFrameWords "java/lang/System" "arraycopy" 5 + 11) ≤ 39 * d; omega)
  have e1 : copied (vp_cell g.2.2.1 (n0, .inl f)) (vp_cell g.2.2.1 (n1, .inl f1)) (nI sp) (nI dp) (nI n) = vp_cell g.2.2.1 (n1, .inl (va_cpy f f1 sp dp n)) := by
    have h9 := va_copied (fun z : Int32 => Value.int z) g.2.2.1 g.2.2.1 (n1 := n1) (dp := (nI dp).toNatClampNeg) f f1 (sp := (nI sp).toNatClampNeg) (n := (nI n).toNatClampNeg) (n0 := n0) (by rw [e1', e3']; exact h4)
    rw [e1', e2', e3'] at h9
    have h10 : copied (vp_cell g.2.2.1 (n0, .inl f)) (vp_cell g.2.2.1 (n1, .inl f1)) (nI sp) (nI dp) (nI n) = (vp_cell g.2.2.1 (n1, .inl f1)).storeRun (nI dp).toNatClampNeg ((vp_cell g.2.2.1 (n0, .inl f)).stretch (nI sp).toNatClampNeg (nI n).toNatClampNeg) := rfl
    rw [h10, e1', e2', e3']
    exact h9
  rw [e1] at X' step
  have hlt : a < H.size := (Array.getElem?_eq_some_iff.mp hc1).1
  have hheap : ((T.setVm vm').setCell a (vp_cell g.2.2.1 (n1, .inl (va_cpy f f1 sp dp n)))).heap = H.setIfInBounds a (vp_cell g.2.2.1 (n1, .inl (va_cpy f f1 sp dp n))) := by rw [← hT0]; rfl
  have oq : ∀ q : Nat, q ≠ a → (H.setIfInBounds a (vp_cell g.2.2.1 (n1, .inl (va_cpy f f1 sp dp n))))[q]? = H[q]? := fun q hq => by simp [Array.getElem?_setIfInBounds, Ne.symm hq]
  obtain ⟨t, a1, b1⟩ := k p e s m args below meth c _ _ ls hC (hH.set (show (H.setIfInBounds a _)[a]? = some _ by simp [Array.getElem?_setIfInBounds, hlt]) oq) (by rw [Array.size_setIfInBounds]; exact hz) (hx.tr (fw_ext.up ha rfl)) (fun q hq => by
      rcases List.mem_append.mp hq with h | h
      · exact hl q h
      · obtain ⟨z, -, hz⟩ := List.mem_map.mp h
        rw [← hz]
        exact hx.2 a (Or.inl ⟨_, ha, rfl⟩)) hL _ hheap X'
  exact ⟨t, step t a1, b1⟩
end MO
end
section
theorem d_DV_init_0 : decode prog_1_method_1_code 0 = .ok (.aload_n 0, 1) := by decide +kernel
theorem d_DV_init_1 : decode prog_1_method_1_code 1 = .ok (.invokespecial 1, 3) := by decide +kernel
theorem d_DV_init_4 : decode prog_1_method_1_code 4 = .ok (.aload_n 0, 1) := by decide +kernel
theorem d_DV_init_5 : decode prog_1_method_1_code 5 = .ok (.bipush 12, 2) := by decide +kernel
theorem d_DV_init_7 : decode prog_1_method_1_code 7 = .ok (.anewarray 9, 3) := by decide +kernel
theorem d_DV_init_10 : decode prog_1_method_1_code 10 = .ok (.putfield 11, 3) := by decide +kernel
theorem d_DV_init_13 : decode prog_1_method_1_code 13 = .ok (.aload_n 0, 1) := by decide +kernel
theorem d_DV_init_14 : decode prog_1_method_1_code 14 = .ok (.iconst 3, 1) := by decide +kernel
theorem d_DV_init_15 : decode prog_1_method_1_code 15 = .ok (.putfield 15, 3) := by decide +kernel
theorem d_DV_init_18 : decode prog_1_method_1_code 18 = .ok (.aload_n 0, 1) := by decide +kernel
theorem d_DV_init_19 : decode prog_1_method_1_code 19 = .ok (.new 19, 3) := by decide +kernel
theorem d_DV_init_22 : decode prog_1_method_1_code 22 = .ok (.dup, 1) := by decide +kernel
theorem d_DV_init_23 : decode prog_1_method_1_code 23 = .ok (.invokespecial 21, 3) := by decide +kernel
theorem d_DV_init_26 : decode prog_1_method_1_code 26 = .ok (.putfield 22, 3) := by decide +kernel
theorem d_DV_init_29 : decode prog_1_method_1_code 29 = .ok (.iconst 0, 1) := by decide +kernel
theorem d_DV_init_30 : decode prog_1_method_1_code 30 = .ok (.istore_n 1, 1) := by decide +kernel
theorem d_DV_init_31 : decode prog_1_method_1_code 31 = .ok (.iload_n 1, 1) := by decide +kernel
theorem d_DV_init_32 : decode prog_1_method_1_code 32 = .ok (.bipush 12, 2) := by decide +kernel
theorem d_DV_init_34 : decode prog_1_method_1_code 34 = .ok (.if_icmp .ge 29, 3) := by decide +kernel
theorem d_DV_init_37 : decode prog_1_method_1_code 37 = .ok (.aload_n 0, 1) := by decide +kernel
theorem d_DV_init_38 : decode prog_1_method_1_code 38 = .ok (.getfield 11, 3) := by decide +kernel
theorem d_DV_init_41 : decode prog_1_method_1_code 41 = .ok (.iload_n 1, 1) := by decide +kernel
theorem d_DV_init_42 : decode prog_1_method_1_code 42 = .ok (.new 9, 3) := by decide +kernel
theorem d_DV_init_45 : decode prog_1_method_1_code 45 = .ok (.dup, 1) := by decide +kernel
theorem d_DV_init_46 : decode prog_1_method_1_code 46 = .ok (.new 26, 3) := by decide +kernel
theorem d_DV_init_49 : decode prog_1_method_1_code 49 = .ok (.dup, 1) := by decide +kernel
theorem d_DV_init_50 : decode prog_1_method_1_code 50 = .ok (.invokespecial 28, 3) := by decide +kernel
theorem d_DV_init_53 : decode prog_1_method_1_code 53 = .ok (.invokespecial 29, 3) := by decide +kernel
theorem d_DV_init_56 : decode prog_1_method_1_code 56 = .ok (.aastore, 1) := by decide +kernel
theorem d_DV_init_57 : decode prog_1_method_1_code 57 = .ok (.iinc 1 1, 3) := by decide +kernel
theorem d_DV_init_60 : decode prog_1_method_1_code 60 = .ok (.goto (-29), 3) := by decide +kernel
theorem d_DV_init_63 : decode prog_1_method_1_code 63 = .ok (.return_, 1) := by decide +kernel
theorem d_Batch_init_0 : decode prog_3_method_1_code 0 = .ok (.aload_n 0, 1) := by decide +kernel
theorem d_Batch_init_1 : decode prog_3_method_1_code 1 = .ok (.invokespecial 3, 3) := by decide +kernel
theorem d_Batch_init_4 : decode prog_3_method_1_code 4 = .ok (.aload_n 0, 1) := by decide +kernel
theorem d_Batch_init_5 : decode prog_3_method_1_code 5 = .ok (.bipush 8, 2) := by decide +kernel
theorem d_Batch_init_7 : decode prog_3_method_1_code 7 = .ok (.newarray .int, 2) := by decide +kernel
theorem d_Batch_init_9 : decode prog_3_method_1_code 9 = .ok (.putfield 9, 3) := by decide +kernel
theorem d_Batch_init_12 : decode prog_3_method_1_code 12 = .ok (.aload_n 0, 1) := by decide +kernel
theorem d_Batch_init_13 : decode prog_3_method_1_code 13 = .ok (.bipush 8, 2) := by decide +kernel
theorem d_Batch_init_15 : decode prog_3_method_1_code 15 = .ok (.newarray .int, 2) := by decide +kernel
theorem d_Batch_init_17 : decode prog_3_method_1_code 17 = .ok (.putfield 15, 3) := by decide +kernel
theorem d_Batch_init_20 : decode prog_3_method_1_code 20 = .ok (.aload_n 0, 1) := by decide +kernel
theorem d_Batch_init_21 : decode prog_3_method_1_code 21 = .ok (.bipush 8, 2) := by decide +kernel
theorem d_Batch_init_23 : decode prog_3_method_1_code 23 = .ok (.newarray .int, 2) := by decide +kernel
theorem d_Batch_init_25 : decode prog_3_method_1_code 25 = .ok (.putfield 18, 3) := by decide +kernel
theorem d_Batch_init_28 : decode prog_3_method_1_code 28 = .ok (.aload_n 0, 1) := by decide +kernel
theorem d_Batch_init_29 : decode prog_3_method_1_code 29 = .ok (.bipush 8, 2) := by decide +kernel
theorem d_Batch_init_31 : decode prog_3_method_1_code 31 = .ok (.newarray .int, 2) := by decide +kernel
theorem d_Batch_init_33 : decode prog_3_method_1_code 33 = .ok (.putfield 21, 3) := by decide +kernel
theorem d_Batch_init_36 : decode prog_3_method_1_code 36 = .ok (.aload_n 0, 1) := by decide +kernel
theorem d_Batch_init_37 : decode prog_3_method_1_code 37 = .ok (.iconst 0, 1) := by decide +kernel
theorem d_Batch_init_38 : decode prog_3_method_1_code 38 = .ok (.putfield 24, 3) := by decide +kernel
theorem d_Batch_init_41 : decode prog_3_method_1_code 41 = .ok (.return_, 1) := by decide +kernel
theorem d_Table_init_0 : decode prog_10_method_1_code 0 = .ok (.aload_n 0, 1) := by decide +kernel
theorem d_Table_init_1 : decode prog_10_method_1_code 1 = .ok (.invokespecial 3, 3) := by decide +kernel
theorem d_Table_init_4 : decode prog_10_method_1_code 4 = .ok (.return_, 1) := by decide +kernel
theorem d_Oper_init_0 : decode prog_7_method_1_code 0 = .ok (.aload_n 0, 1) := by decide +kernel
theorem d_Oper_init_1 : decode prog_7_method_1_code 1 = .ok (.invokespecial 3, 3) := by decide +kernel
theorem d_Oper_init_4 : decode prog_7_method_1_code 4 = .ok (.return_, 1) := by decide +kernel
theorem d_View_init_0 : decode prog_12_method_1_code 0 = .ok (.aload_n 0, 1) := by decide +kernel
theorem d_View_init_1 : decode prog_12_method_1_code 1 = .ok (.invokespecial 1, 3) := by decide +kernel
theorem d_View_init_4 : decode prog_12_method_1_code 4 = .ok (.aload_n 0, 1) := by decide +kernel
theorem d_View_init_5 : decode prog_12_method_1_code 5 = .ok (.new 7, 3) := by decide +kernel
theorem d_View_init_8 : decode prog_12_method_1_code 8 = .ok (.dup, 1) := by decide +kernel
theorem d_View_init_9 : decode prog_12_method_1_code 9 = .ok (.invokespecial 9, 3) := by decide +kernel
theorem d_View_init_12 : decode prog_12_method_1_code 12 = .ok (.putfield 10, 3) := by decide +kernel
theorem d_View_init_15 : decode prog_12_method_1_code 15 = .ok (.aload_n 0, 1) := by decide +kernel
theorem d_View_init_16 : decode prog_12_method_1_code 16 = .ok (.new 7, 3) := by decide +kernel
theorem d_View_init_19 : decode prog_12_method_1_code 19 = .ok (.dup, 1) := by decide +kernel
theorem d_View_init_20 : decode prog_12_method_1_code 20 = .ok (.invokespecial 9, 3) := by decide +kernel
theorem d_View_init_23 : decode prog_12_method_1_code 23 = .ok (.putfield 16, 3) := by decide +kernel
theorem d_View_init_26 : decode prog_12_method_1_code 26 = .ok (.aload_n 0, 1) := by decide +kernel
theorem d_View_init_27 : decode prog_12_method_1_code 27 = .ok (.iconst 0, 1) := by decide +kernel
theorem d_View_init_28 : decode prog_12_method_1_code 28 = .ok (.putfield 19, 3) := by decide +kernel
theorem d_View_init_31 : decode prog_12_method_1_code 31 = .ok (.aload_n 0, 1) := by decide +kernel
theorem d_View_init_32 : decode prog_12_method_1_code 32 = .ok (.aload_n 1, 1) := by decide +kernel
theorem d_View_init_33 : decode prog_12_method_1_code 33 = .ok (.putfield 23, 3) := by decide +kernel
theorem d_View_init_36 : decode prog_12_method_1_code 36 = .ok (.return_, 1) := by decide +kernel
theorem d_Bag_init_0 : decode prog_2_method_1_code 0 = .ok (.aload_n 0, 1) := by decide +kernel
theorem d_Bag_init_1 : decode prog_2_method_1_code 1 = .ok (.invokespecial 3, 3) := by decide +kernel
theorem d_Bag_init_4 : decode prog_2_method_1_code 4 = .ok (.aload_n 0, 1) := by decide +kernel
theorem d_Bag_init_5 : decode prog_2_method_1_code 5 = .ok (.iconst 2, 1) := by decide +kernel
theorem d_Bag_init_6 : decode prog_2_method_1_code 6 = .ok (.putfield 9, 3) := by decide +kernel
theorem d_Bag_init_9 : decode prog_2_method_1_code 9 = .ok (.aload_n 0, 1) := by decide +kernel
theorem d_Bag_init_10 : decode prog_2_method_1_code 10 = .ok (.iconst 0, 1) := by decide +kernel
theorem d_Bag_init_11 : decode prog_2_method_1_code 11 = .ok (.putfield 15, 3) := by decide +kernel
theorem d_Bag_init_14 : decode prog_2_method_1_code 14 = .ok (.aload_n 0, 1) := by decide +kernel
theorem d_Bag_init_15 : decode prog_2_method_1_code 15 = .ok (.sipush 128, 3) := by decide +kernel
theorem d_Bag_init_18 : decode prog_2_method_1_code 18 = .ok (.newarray .int, 2) := by decide +kernel
theorem d_Bag_init_20 : decode prog_2_method_1_code 20 = .ok (.putfield 18, 3) := by decide +kernel
theorem d_Bag_init_23 : decode prog_2_method_1_code 23 = .ok (.aload_n 0, 1) := by decide +kernel
theorem d_Bag_init_24 : decode prog_2_method_1_code 24 = .ok (.bipush 32, 2) := by decide +kernel
theorem d_Bag_init_26 : decode prog_2_method_1_code 26 = .ok (.newarray .long, 2) := by decide +kernel
theorem d_Bag_init_28 : decode prog_2_method_1_code 28 = .ok (.putfield 22, 3) := by decide +kernel
theorem d_Bag_init_31 : decode prog_2_method_1_code 31 = .ok (.aload_n 0, 1) := by decide +kernel
theorem d_Bag_init_32 : decode prog_2_method_1_code 32 = .ok (.iconst 4, 1) := by decide +kernel
theorem d_Bag_init_33 : decode prog_2_method_1_code 33 = .ok (.newarray .int, 2) := by decide +kernel
theorem d_Bag_init_35 : decode prog_2_method_1_code 35 = .ok (.putfield 26, 3) := by decide +kernel
theorem d_Bag_init_38 : decode prog_2_method_1_code 38 = .ok (.return_, 1) := by decide +kernel
theorem d_DV_cancel_0 : decode prog_1_method_3_code 0 = .ok (.aload_n 0, 1) := by decide +kernel
theorem d_DV_cancel_1 : decode prog_1_method_3_code 1 = .ok (.getfield 22, 3) := by decide +kernel
theorem d_DV_cancel_4 : decode prog_1_method_3_code 4 = .ok (.invokevirtual 61, 3) := by decide +kernel
theorem d_DV_cancel_7 : decode prog_1_method_3_code 7 = .ok (.ireturn, 1) := by decide +kernel
theorem d_Batch_empty_0 : decode prog_3_method_4_code 0 = .ok (.aload_n 0, 1) := by decide +kernel
theorem d_Batch_empty_1 : decode prog_3_method_4_code 1 = .ok (.getfield 24, 3) := by decide +kernel
theorem d_Batch_empty_4 : decode prog_3_method_4_code 4 = .ok (.istore_n 1, 1) := by decide +kernel
theorem d_Batch_empty_5 : decode prog_3_method_4_code 5 = .ok (.aload_n 0, 1) := by decide +kernel
theorem d_Batch_empty_6 : decode prog_3_method_4_code 6 = .ok (.iconst 0, 1) := by decide +kernel
theorem d_Batch_empty_7 : decode prog_3_method_4_code 7 = .ok (.putfield 24, 3) := by decide +kernel
theorem d_Batch_empty_10 : decode prog_3_method_4_code 10 = .ok (.iload_n 1, 1) := by decide +kernel
theorem d_Batch_empty_11 : decode prog_3_method_4_code 11 = .ok (.ireturn, 1) := by decide +kernel
theorem d_DV_change_0 : decode prog_1_method_2_code 0 = .ok (.iload_n 1, 1) := by decide +kernel
theorem d_DV_change_1 : decode prog_1_method_2_code 1 = .ok (.ifCond .lt 8, 3) := by decide +kernel
theorem d_DV_change_4 : decode prog_1_method_2_code 4 = .ok (.iload_n 1, 1) := by decide +kernel
theorem d_DV_change_5 : decode prog_1_method_2_code 5 = .ok (.iconst 3, 1) := by decide +kernel
theorem d_DV_change_6 : decode prog_1_method_2_code 6 = .ok (.if_icmp .lt 13, 3) := by decide +kernel
theorem d_DV_change_9 : decode prog_1_method_2_code 9 = .ok (.new 32, 3) := by decide +kernel
theorem d_DV_change_12 : decode prog_1_method_2_code 12 = .ok (.dup, 1) := by decide +kernel
theorem d_DV_change_13 : decode prog_1_method_2_code 13 = .ok (.ldc 34, 2) := by decide +kernel
theorem d_DV_change_15 : decode prog_1_method_2_code 15 = .ok (.invokespecial 36, 3) := by decide +kernel
theorem d_DV_change_18 : decode prog_1_method_2_code 18 = .ok (.athrow, 1) := by decide +kernel
theorem d_DV_change_19 : decode prog_1_method_2_code 19 = .ok (.iload_n 2, 1) := by decide +kernel
theorem d_DV_change_20 : decode prog_1_method_2_code 20 = .ok (.sipush 1000, 3) := by decide +kernel
theorem d_DV_change_23 : decode prog_1_method_2_code 23 = .ok (.invokestatic 39, 3) := by decide +kernel
theorem d_DV_change_26 : decode prog_1_method_2_code 26 = .ok (.ifCond .ne 23, 3) := by decide +kernel
theorem d_DV_change_29 : decode prog_1_method_2_code 29 = .ok (.iload_n 3, 1) := by decide +kernel
theorem d_DV_change_30 : decode prog_1_method_2_code 30 = .ok (.sipush 1000, 3) := by decide +kernel
theorem d_DV_change_33 : decode prog_1_method_2_code 33 = .ok (.invokestatic 39, 3) := by decide +kernel
theorem d_DV_change_36 : decode prog_1_method_2_code 36 = .ok (.ifCond .ne 13, 3) := by decide +kernel
theorem d_DV_change_39 : decode prog_1_method_2_code 39 = .ok (.iload 4, 2) := by decide +kernel
theorem d_DV_change_41 : decode prog_1_method_2_code 41 = .ok (.bipush 99, 2) := by decide +kernel
theorem d_DV_change_43 : decode prog_1_method_2_code 43 = .ok (.invokestatic 39, 3) := by decide +kernel
theorem d_DV_change_46 : decode prog_1_method_2_code 46 = .ok (.ifCond .eq 13, 3) := by decide +kernel
theorem d_DV_change_49 : decode prog_1_method_2_code 49 = .ok (.new 43, 3) := by decide +kernel
theorem d_DV_change_52 : decode prog_1_method_2_code 52 = .ok (.dup, 1) := by decide +kernel
theorem d_DV_change_53 : decode prog_1_method_2_code 53 = .ok (.ldc 45, 2) := by decide +kernel
theorem d_DV_change_55 : decode prog_1_method_2_code 55 = .ok (.invokespecial 47, 3) := by decide +kernel
theorem d_DV_change_58 : decode prog_1_method_2_code 58 = .ok (.athrow, 1) := by decide +kernel
theorem d_DV_change_59 : decode prog_1_method_2_code 59 = .ok (.aload_n 0, 1) := by decide +kernel
theorem d_DV_change_60 : decode prog_1_method_2_code 60 = .ok (.getfield 22, 3) := by decide +kernel
theorem d_DV_change_63 : decode prog_1_method_2_code 63 = .ok (.invokevirtual 48, 3) := by decide +kernel
theorem d_DV_change_66 : decode prog_1_method_2_code 66 = .ok (.ifCond .eq 13, 3) := by decide +kernel
theorem d_DV_change_69 : decode prog_1_method_2_code 69 = .ok (.new 52, 3) := by decide +kernel
theorem d_DV_change_72 : decode prog_1_method_2_code 72 = .ok (.dup, 1) := by decide +kernel
theorem d_DV_change_73 : decode prog_1_method_2_code 73 = .ok (.ldc 54, 2) := by decide +kernel
theorem d_DV_change_75 : decode prog_1_method_2_code 75 = .ok (.invokespecial 56, 3) := by decide +kernel
theorem d_DV_change_78 : decode prog_1_method_2_code 78 = .ok (.athrow, 1) := by decide +kernel
theorem d_DV_change_79 : decode prog_1_method_2_code 79 = .ok (.aload_n 0, 1) := by decide +kernel
theorem d_DV_change_80 : decode prog_1_method_2_code 80 = .ok (.getfield 22, 3) := by decide +kernel
theorem d_DV_change_83 : decode prog_1_method_2_code 83 = .ok (.iload_n 1, 1) := by decide +kernel
theorem d_DV_change_84 : decode prog_1_method_2_code 84 = .ok (.iload_n 2, 1) := by decide +kernel
theorem d_DV_change_85 : decode prog_1_method_2_code 85 = .ok (.iload_n 3, 1) := by decide +kernel
theorem d_DV_change_86 : decode prog_1_method_2_code 86 = .ok (.iload 4, 2) := by decide +kernel
theorem d_DV_change_88 : decode prog_1_method_2_code 88 = .ok (.invokevirtual 57, 3) := by decide +kernel
theorem d_DV_change_91 : decode prog_1_method_2_code 91 = .ok (.ireturn, 1) := by decide +kernel
theorem d_DV_isTooFar_0 : decode prog_1_method_18_code 0 = .ok (.iload_n 0, 1) := by decide +kernel
theorem d_DV_isTooFar_1 : decode prog_1_method_18_code 1 = .ok (.iload_n 1, 1) := by decide +kernel
theorem d_DV_isTooFar_2 : decode prog_1_method_18_code 2 = .ok (.ineg, 1) := by decide +kernel
theorem d_DV_isTooFar_3 : decode prog_1_method_18_code 3 = .ok (.if_icmp .lt 8, 3) := by decide +kernel
theorem d_DV_isTooFar_6 : decode prog_1_method_18_code 6 = .ok (.iload_n 0, 1) := by decide +kernel
theorem d_DV_isTooFar_7 : decode prog_1_method_18_code 7 = .ok (.iload_n 1, 1) := by decide +kernel
theorem d_DV_isTooFar_8 : decode prog_1_method_18_code 8 = .ok (.if_icmp .le 7, 3) := by decide +kernel
theorem d_DV_isTooFar_11 : decode prog_1_method_18_code 11 = .ok (.iconst 1, 1) := by decide +kernel
theorem d_DV_isTooFar_12 : decode prog_1_method_18_code 12 = .ok (.goto 4, 3) := by decide +kernel
theorem d_DV_isTooFar_15 : decode prog_1_method_18_code 15 = .ok (.iconst 0, 1) := by decide +kernel
theorem d_DV_isTooFar_16 : decode prog_1_method_18_code 16 = .ok (.ireturn, 1) := by decide +kernel
theorem d_Batch_isFull_0 : decode prog_3_method_2_code 0 = .ok (.aload_n 0, 1) := by decide +kernel
theorem d_Batch_isFull_1 : decode prog_3_method_2_code 1 = .ok (.getfield 24, 3) := by decide +kernel
theorem d_Batch_isFull_4 : decode prog_3_method_2_code 4 = .ok (.bipush 8, 2) := by decide +kernel
theorem d_Batch_isFull_6 : decode prog_3_method_2_code 6 = .ok (.if_icmp .ne 7, 3) := by decide +kernel
theorem d_Batch_isFull_9 : decode prog_3_method_2_code 9 = .ok (.iconst 1, 1) := by decide +kernel
theorem d_Batch_isFull_10 : decode prog_3_method_2_code 10 = .ok (.goto 4, 3) := by decide +kernel
theorem d_Batch_isFull_13 : decode prog_3_method_2_code 13 = .ok (.iconst 0, 1) := by decide +kernel
theorem d_Batch_isFull_14 : decode prog_3_method_2_code 14 = .ok (.ireturn, 1) := by decide +kernel
theorem d_Batch_append_0 : decode prog_3_method_3_code 0 = .ok (.aload_n 0, 1) := by decide +kernel
theorem d_Batch_append_1 : decode prog_3_method_3_code 1 = .ok (.getfield 9, 3) := by decide +kernel
theorem d_Batch_append_4 : decode prog_3_method_3_code 4 = .ok (.aload_n 0, 1) := by decide +kernel
theorem d_Batch_append_5 : decode prog_3_method_3_code 5 = .ok (.getfield 24, 3) := by decide +kernel
theorem d_Batch_append_8 : decode prog_3_method_3_code 8 = .ok (.iload_n 1, 1) := by decide +kernel
theorem d_Batch_append_9 : decode prog_3_method_3_code 9 = .ok (.iastore, 1) := by decide +kernel
theorem d_Batch_append_10 : decode prog_3_method_3_code 10 = .ok (.aload_n 0, 1) := by decide +kernel
theorem d_Batch_append_11 : decode prog_3_method_3_code 11 = .ok (.getfield 15, 3) := by decide +kernel
theorem d_Batch_append_14 : decode prog_3_method_3_code 14 = .ok (.aload_n 0, 1) := by decide +kernel
theorem d_Batch_append_15 : decode prog_3_method_3_code 15 = .ok (.getfield 24, 3) := by decide +kernel
theorem d_Batch_append_18 : decode prog_3_method_3_code 18 = .ok (.iload_n 2, 1) := by decide +kernel
theorem d_Batch_append_19 : decode prog_3_method_3_code 19 = .ok (.iastore, 1) := by decide +kernel
theorem d_Batch_append_20 : decode prog_3_method_3_code 20 = .ok (.aload_n 0, 1) := by decide +kernel
theorem d_Batch_append_21 : decode prog_3_method_3_code 21 = .ok (.getfield 18, 3) := by decide +kernel
theorem d_Batch_append_24 : decode prog_3_method_3_code 24 = .ok (.aload_n 0, 1) := by decide +kernel
theorem d_Batch_append_25 : decode prog_3_method_3_code 25 = .ok (.getfield 24, 3) := by decide +kernel
theorem d_Batch_append_28 : decode prog_3_method_3_code 28 = .ok (.iload_n 3, 1) := by decide +kernel
theorem d_Batch_append_29 : decode prog_3_method_3_code 29 = .ok (.iastore, 1) := by decide +kernel
theorem d_Batch_append_30 : decode prog_3_method_3_code 30 = .ok (.aload_n 0, 1) := by decide +kernel
theorem d_Batch_append_31 : decode prog_3_method_3_code 31 = .ok (.getfield 21, 3) := by decide +kernel
theorem d_Batch_append_34 : decode prog_3_method_3_code 34 = .ok (.aload_n 0, 1) := by decide +kernel
theorem d_Batch_append_35 : decode prog_3_method_3_code 35 = .ok (.getfield 24, 3) := by decide +kernel
theorem d_Batch_append_38 : decode prog_3_method_3_code 38 = .ok (.iload 4, 2) := by decide +kernel
theorem d_Batch_append_40 : decode prog_3_method_3_code 40 = .ok (.iastore, 1) := by decide +kernel
theorem d_Batch_append_41 : decode prog_3_method_3_code 41 = .ok (.aload_n 0, 1) := by decide +kernel
theorem d_Batch_append_42 : decode prog_3_method_3_code 42 = .ok (.dup, 1) := by decide +kernel
theorem d_Batch_append_43 : decode prog_3_method_3_code 43 = .ok (.getfield 24, 3) := by decide +kernel
theorem d_Batch_append_46 : decode prog_3_method_3_code 46 = .ok (.iconst 1, 1) := by decide +kernel
theorem d_Batch_append_47 : decode prog_3_method_3_code 47 = .ok (.iadd, 1) := by decide +kernel
theorem d_Batch_append_48 : decode prog_3_method_3_code 48 = .ok (.putfield 24, 3) := by decide +kernel
theorem d_Batch_append_51 : decode prog_3_method_3_code 51 = .ok (.aload_n 0, 1) := by decide +kernel
theorem d_Batch_append_52 : decode prog_3_method_3_code 52 = .ok (.getfield 24, 3) := by decide +kernel
theorem d_Batch_append_55 : decode prog_3_method_3_code 55 = .ok (.ireturn, 1) := by decide +kernel
theorem d_DV_commit_0 : decode prog_1_method_4_code 0 = .ok (.aload_n 0, 1) := by decide +kernel
theorem d_DV_commit_1 : decode prog_1_method_4_code 1 = .ok (.invokevirtual 65, 3) := by decide +kernel
theorem d_DV_commit_4 : decode prog_1_method_4_code 4 = .ok (.istore_n 1, 1) := by decide +kernel
theorem d_DV_commit_5 : decode prog_1_method_4_code 5 = .ok (.aload_n 0, 1) := by decide +kernel
theorem d_DV_commit_6 : decode prog_1_method_4_code 6 = .ok (.getfield 22, 3) := by decide +kernel
theorem d_DV_commit_9 : decode prog_1_method_4_code 9 = .ok (.invokevirtual 61, 3) := by decide +kernel
theorem d_DV_commit_12 : decode prog_1_method_4_code 12 = .ok (.pop, 1) := by decide +kernel
theorem d_DV_commit_13 : decode prog_1_method_4_code 13 = .ok (.iload_n 1, 1) := by decide +kernel
theorem d_DV_commit_14 : decode prog_1_method_4_code 14 = .ok (.ifCond .ne 13, 3) := by decide +kernel
theorem d_DV_commit_17 : decode prog_1_method_4_code 17 = .ok (.new 52, 3) := by decide +kernel
theorem d_DV_commit_20 : decode prog_1_method_4_code 20 = .ok (.dup, 1) := by decide +kernel
theorem d_DV_commit_21 : decode prog_1_method_4_code 21 = .ok (.ldc 68, 2) := by decide +kernel
theorem d_DV_commit_23 : decode prog_1_method_4_code 23 = .ok (.invokespecial 56, 3) := by decide +kernel
theorem d_DV_commit_26 : decode prog_1_method_4_code 26 = .ok (.athrow, 1) := by decide +kernel
theorem d_DV_commit_27 : decode prog_1_method_4_code 27 = .ok (.iconst 0, 1) := by decide +kernel
theorem d_DV_commit_28 : decode prog_1_method_4_code 28 = .ok (.istore_n 2, 1) := by decide +kernel
theorem d_DV_commit_29 : decode prog_1_method_4_code 29 = .ok (.iload_n 2, 1) := by decide +kernel
theorem d_DV_commit_30 : decode prog_1_method_4_code 30 = .ok (.aload_n 0, 1) := by decide +kernel
theorem d_DV_commit_31 : decode prog_1_method_4_code 31 = .ok (.getfield 15, 3) := by decide +kernel
theorem d_DV_commit_34 : decode prog_1_method_4_code 34 = .ok (.if_icmp .ge 18, 3) := by decide +kernel
theorem d_DV_commit_37 : decode prog_1_method_4_code 37 = .ok (.aload_n 0, 1) := by decide +kernel
theorem d_DV_commit_38 : decode prog_1_method_4_code 38 = .ok (.getfield 11, 3) := by decide +kernel
theorem d_DV_commit_41 : decode prog_1_method_4_code 41 = .ok (.iload_n 2, 1) := by decide +kernel
theorem d_DV_commit_42 : decode prog_1_method_4_code 42 = .ok (.aaload, 1) := by decide +kernel
theorem d_DV_commit_43 : decode prog_1_method_4_code 43 = .ok (.invokevirtual 70, 3) := by decide +kernel
theorem d_DV_commit_46 : decode prog_1_method_4_code 46 = .ok (.iinc 2 1, 3) := by decide +kernel
theorem d_DV_commit_49 : decode prog_1_method_4_code 49 = .ok (.goto (-20), 3) := by decide +kernel
theorem d_DV_commit_52 : decode prog_1_method_4_code 52 = .ok (.iconst 0, 1) := by decide +kernel
theorem d_DV_commit_53 : decode prog_1_method_4_code 53 = .ok (.istore_n 2, 1) := by decide +kernel
theorem d_DV_commit_54 : decode prog_1_method_4_code 54 = .ok (.iconst 0, 1) := by decide +kernel
theorem d_DV_commit_55 : decode prog_1_method_4_code 55 = .ok (.istore_n 3, 1) := by decide +kernel
theorem d_DV_commit_56 : decode prog_1_method_4_code 56 = .ok (.iload_n 3, 1) := by decide +kernel
theorem d_DV_commit_57 : decode prog_1_method_4_code 57 = .ok (.iconst 3, 1) := by decide +kernel
theorem d_DV_commit_58 : decode prog_1_method_4_code 58 = .ok (.if_icmp .ge 21, 3) := by decide +kernel
theorem d_DV_commit_61 : decode prog_1_method_4_code 61 = .ok (.iload_n 2, 1) := by decide +kernel
theorem d_DV_commit_62 : decode prog_1_method_4_code 62 = .ok (.aload_n 0, 1) := by decide +kernel
theorem d_DV_commit_63 : decode prog_1_method_4_code 63 = .ok (.getfield 11, 3) := by decide +kernel
theorem d_DV_commit_66 : decode prog_1_method_4_code 66 = .ok (.iload_n 3, 1) := by decide +kernel
theorem d_DV_commit_67 : decode prog_1_method_4_code 67 = .ok (.aaload, 1) := by decide +kernel
theorem d_DV_commit_68 : decode prog_1_method_4_code 68 = .ok (.getfield 73, 3) := by decide +kernel
theorem d_DV_commit_71 : decode prog_1_method_4_code 71 = .ok (.iadd, 1) := by decide +kernel
theorem d_DV_commit_72 : decode prog_1_method_4_code 72 = .ok (.istore_n 2, 1) := by decide +kernel
theorem d_DV_commit_73 : decode prog_1_method_4_code 73 = .ok (.iinc 3 1, 3) := by decide +kernel
theorem d_DV_commit_76 : decode prog_1_method_4_code 76 = .ok (.goto (-20), 3) := by decide +kernel
theorem d_DV_commit_79 : decode prog_1_method_4_code 79 = .ok (.iload_n 2, 1) := by decide +kernel
theorem d_DV_commit_80 : decode prog_1_method_4_code 80 = .ok (.ireturn, 1) := by decide +kernel
theorem d_DV_renewViews_0 : decode prog_1_method_24_code 0 = .ok (.iconst 0, 1) := by decide +kernel
theorem d_DV_renewViews_1 : decode prog_1_method_24_code 1 = .ok (.istore_n 1, 1) := by decide +kernel
theorem d_DV_renewViews_2 : decode prog_1_method_24_code 2 = .ok (.iload_n 1, 1) := by decide +kernel
theorem d_DV_renewViews_3 : decode prog_1_method_24_code 3 = .ok (.aload_n 0, 1) := by decide +kernel
theorem d_DV_renewViews_4 : decode prog_1_method_24_code 4 = .ok (.getfield 15, 3) := by decide +kernel
theorem d_DV_renewViews_7 : decode prog_1_method_24_code 7 = .ok (.if_icmp .ge 54, 3) := by decide +kernel
theorem d_DV_renewViews_10 : decode prog_1_method_24_code 10 = .ok (.aload_n 0, 1) := by decide +kernel
theorem d_DV_renewViews_11 : decode prog_1_method_24_code 11 = .ok (.getfield 11, 3) := by decide +kernel
theorem d_DV_renewViews_14 : decode prog_1_method_24_code 14 = .ok (.iload_n 1, 1) := by decide +kernel
theorem d_DV_renewViews_15 : decode prog_1_method_24_code 15 = .ok (.aaload, 1) := by decide +kernel
theorem d_DV_renewViews_16 : decode prog_1_method_24_code 16 = .ok (.invokevirtual 181, 3) := by decide +kernel
theorem d_DV_renewViews_19 : decode prog_1_method_24_code 19 = .ok (.aload_n 0, 1) := by decide +kernel
theorem d_DV_renewViews_20 : decode prog_1_method_24_code 20 = .ok (.getfield 22, 3) := by decide +kernel
theorem d_DV_renewViews_23 : decode prog_1_method_24_code 23 = .ok (.iload_n 1, 1) := by decide +kernel
theorem d_DV_renewViews_24 : decode prog_1_method_24_code 24 = .ok (.aload_n 0, 1) := by decide +kernel
theorem d_DV_renewViews_25 : decode prog_1_method_24_code 25 = .ok (.getfield 11, 3) := by decide +kernel
theorem d_DV_renewViews_28 : decode prog_1_method_24_code 28 = .ok (.iload_n 1, 1) := by decide +kernel
theorem d_DV_renewViews_29 : decode prog_1_method_24_code 29 = .ok (.aaload, 1) := by decide +kernel
theorem d_DV_renewViews_30 : decode prog_1_method_24_code 30 = .ok (.getfield 106, 3) := by decide +kernel
theorem d_DV_renewViews_33 : decode prog_1_method_24_code 33 = .ok (.invokevirtual 184, 3) := by decide +kernel
theorem d_DV_renewViews_36 : decode prog_1_method_24_code 36 = .ok (.aload_n 0, 1) := by decide +kernel
theorem d_DV_renewViews_37 : decode prog_1_method_24_code 37 = .ok (.getfield 11, 3) := by decide +kernel
theorem d_DV_renewViews_40 : decode prog_1_method_24_code 40 = .ok (.iload_n 1, 1) := by decide +kernel
theorem d_DV_renewViews_41 : decode prog_1_method_24_code 41 = .ok (.aaload, 1) := by decide +kernel
theorem d_DV_renewViews_42 : decode prog_1_method_24_code 42 = .ok (.invokevirtual 176, 3) := by decide +kernel
theorem d_DV_renewViews_45 : decode prog_1_method_24_code 45 = .ok (.ifCond .ne 10, 3) := by decide +kernel
theorem d_DV_renewViews_48 : decode prog_1_method_24_code 48 = .ok (.aload_n 0, 1) := by decide +kernel
theorem d_DV_renewViews_49 : decode prog_1_method_24_code 49 = .ok (.iload_n 1, 1) := by decide +kernel
theorem d_DV_renewViews_50 : decode prog_1_method_24_code 50 = .ok (.invokevirtual 188, 3) := by decide +kernel
theorem d_DV_renewViews_53 : decode prog_1_method_24_code 53 = .ok (.iconst 0, 1) := by decide +kernel
theorem d_DV_renewViews_54 : decode prog_1_method_24_code 54 = .ok (.ireturn, 1) := by decide +kernel
theorem d_DV_renewViews_55 : decode prog_1_method_24_code 55 = .ok (.iinc 1 1, 3) := by decide +kernel
theorem d_DV_renewViews_58 : decode prog_1_method_24_code 58 = .ok (.goto (-56), 3) := by decide +kernel
theorem d_DV_renewViews_61 : decode prog_1_method_24_code 61 = .ok (.iconst 1, 1) := by decide +kernel
theorem d_DV_renewViews_62 : decode prog_1_method_24_code 62 = .ok (.ireturn, 1) := by decide +kernel
theorem d_View_renew_0 : decode prog_12_method_3_code 0 = .ok (.aload_n 0, 1) := by decide +kernel
theorem d_View_renew_1 : decode prog_12_method_3_code 1 = .ok (.invokevirtual 33, 3) := by decide +kernel
theorem d_View_renew_4 : decode prog_12_method_3_code 4 = .ok (.aload_n 0, 1) := by decide +kernel
theorem d_View_renew_5 : decode prog_12_method_3_code 5 = .ok (.getfield 23, 3) := by decide +kernel
theorem d_View_renew_8 : decode prog_12_method_3_code 8 = .ok (.aload_n 0, 1) := by decide +kernel
theorem d_View_renew_9 : decode prog_12_method_3_code 9 = .ok (.getfield 16, 3) := by decide +kernel
theorem d_View_renew_12 : decode prog_12_method_3_code 12 = .ok (.aload_n 0, 1) := by decide +kernel
theorem d_View_renew_13 : decode prog_12_method_3_code 13 = .ok (.getfield 10, 3) := by decide +kernel
theorem d_View_renew_16 : decode prog_12_method_3_code 16 = .ok (.invokevirtual 27, 3) := by decide +kernel
theorem d_View_renew_19 : decode prog_12_method_3_code 19 = .ok (.return_, 1) := by decide +kernel
theorem d_View_exchangeBags_0 : decode prog_12_method_4_code 0 = .ok (.aload_n 0, 1) := by decide +kernel
theorem d_View_exchangeBags_1 : decode prog_12_method_4_code 1 = .ok (.getfield 10, 3) := by decide +kernel
theorem d_View_exchangeBags_4 : decode prog_12_method_4_code 4 = .ok (.astore_n 1, 1) := by decide +kernel
theorem d_View_exchangeBags_5 : decode prog_12_method_4_code 5 = .ok (.aload_n 0, 1) := by decide +kernel
theorem d_View_exchangeBags_6 : decode prog_12_method_4_code 6 = .ok (.aload_n 0, 1) := by decide +kernel
theorem d_View_exchangeBags_7 : decode prog_12_method_4_code 7 = .ok (.getfield 16, 3) := by decide +kernel
theorem d_View_exchangeBags_10 : decode prog_12_method_4_code 10 = .ok (.putfield 10, 3) := by decide +kernel
theorem d_View_exchangeBags_13 : decode prog_12_method_4_code 13 = .ok (.aload_n 0, 1) := by decide +kernel
theorem d_View_exchangeBags_14 : decode prog_12_method_4_code 14 = .ok (.aload_n 1, 1) := by decide +kernel
theorem d_View_exchangeBags_15 : decode prog_12_method_4_code 15 = .ok (.putfield 16, 3) := by decide +kernel
theorem d_View_exchangeBags_18 : decode prog_12_method_4_code 18 = .ok (.return_, 1) := by decide +kernel
theorem d_Distinct_fill_0 : decode prog_4_method_2_code 0 = .ok (.aload_n 0, 1) := by decide +kernel
theorem d_Distinct_fill_1 : decode prog_4_method_2_code 1 = .ok (.getfield 7, 3) := by decide +kernel
theorem d_Distinct_fill_4 : decode prog_4_method_2_code 4 = .ok (.getfield 13, 3) := by decide +kernel
theorem d_Distinct_fill_7 : decode prog_4_method_2_code 7 = .ok (.astore_n 3, 1) := by decide +kernel
theorem d_Distinct_fill_8 : decode prog_4_method_2_code 8 = .ok (.aload_n 2, 1) := by decide +kernel
theorem d_Distinct_fill_9 : decode prog_4_method_2_code 9 = .ok (.aload_n 3, 1) := by decide +kernel
theorem d_Distinct_fill_10 : decode prog_4_method_2_code 10 = .ok (.getfield 19, 3) := by decide +kernel
theorem d_Distinct_fill_13 : decode prog_4_method_2_code 13 = .ok (.invokevirtual 25, 3) := by decide +kernel
theorem d_Distinct_fill_16 : decode prog_4_method_2_code 16 = .ok (.iconst 0, 1) := by decide +kernel
theorem d_Distinct_fill_17 : decode prog_4_method_2_code 17 = .ok (.istore 4, 2) := by decide +kernel
theorem d_Distinct_fill_19 : decode prog_4_method_2_code 19 = .ok (.iload 4, 2) := by decide +kernel
theorem d_Distinct_fill_21 : decode prog_4_method_2_code 21 = .ok (.aload_n 3, 1) := by decide +kernel
theorem d_Distinct_fill_22 : decode prog_4_method_2_code 22 = .ok (.getfield 29, 3) := by decide +kernel
theorem d_Distinct_fill_25 : decode prog_4_method_2_code 25 = .ok (.if_icmp .ge 22, 3) := by decide +kernel
theorem d_Distinct_fill_28 : decode prog_4_method_2_code 28 = .ok (.aload_n 2, 1) := by decide +kernel
theorem d_Distinct_fill_29 : decode prog_4_method_2_code 29 = .ok (.aload_n 3, 1) := by decide +kernel
theorem d_Distinct_fill_30 : decode prog_4_method_2_code 30 = .ok (.iload 4, 2) := by decide +kernel
theorem d_Distinct_fill_32 : decode prog_4_method_2_code 32 = .ok (.iconst 0, 1) := by decide +kernel
theorem d_Distinct_fill_33 : decode prog_4_method_2_code 33 = .ok (.invokevirtual 32, 3) := by decide +kernel
theorem d_Distinct_fill_36 : decode prog_4_method_2_code 36 = .ok (.aload_n 2, 1) := by decide +kernel
theorem d_Distinct_fill_37 : decode prog_4_method_2_code 37 = .ok (.lconst 1, 1) := by decide +kernel
theorem d_Distinct_fill_38 : decode prog_4_method_2_code 38 = .ok (.invokevirtual 36, 3) := by decide +kernel
theorem d_Distinct_fill_41 : decode prog_4_method_2_code 41 = .ok (.iinc 4 1, 3) := by decide +kernel
theorem d_Distinct_fill_44 : decode prog_4_method_2_code 44 = .ok (.goto (-25), 3) := by decide +kernel
theorem d_Distinct_fill_47 : decode prog_4_method_2_code 47 = .ok (.return_, 1) := by decide +kernel
theorem d_Bag_clear_0 : decode prog_2_method_2_code 0 = .ok (.aload_n 0, 1) := by decide +kernel
theorem d_Bag_clear_1 : decode prog_2_method_2_code 1 = .ok (.iload_n 1, 1) := by decide +kernel
theorem d_Bag_clear_2 : decode prog_2_method_2_code 2 = .ok (.putfield 9, 3) := by decide +kernel
theorem d_Bag_clear_5 : decode prog_2_method_2_code 5 = .ok (.aload_n 0, 1) := by decide +kernel
theorem d_Bag_clear_6 : decode prog_2_method_2_code 6 = .ok (.iconst 0, 1) := by decide +kernel
theorem d_Bag_clear_7 : decode prog_2_method_2_code 7 = .ok (.putfield 15, 3) := by decide +kernel
theorem d_Bag_clear_10 : decode prog_2_method_2_code 10 = .ok (.return_, 1) := by decide +kernel
theorem d_Bag_putRow_0 : decode prog_2_method_7_code 0 = .ok (.iconst 0, 1) := by decide +kernel
theorem d_Bag_putRow_1 : decode prog_2_method_7_code 1 = .ok (.istore 4, 2) := by decide +kernel
theorem d_Bag_putRow_3 : decode prog_2_method_7_code 3 = .ok (.iload 4, 2) := by decide +kernel
theorem d_Bag_putRow_5 : decode prog_2_method_7_code 5 = .ok (.aload_n 1, 1) := by decide +kernel
theorem d_Bag_putRow_6 : decode prog_2_method_7_code 6 = .ok (.getfield 9, 3) := by decide +kernel
theorem d_Bag_putRow_9 : decode prog_2_method_7_code 9 = .ok (.if_icmp .ge 24, 3) := by decide +kernel
theorem d_Bag_putRow_12 : decode prog_2_method_7_code 12 = .ok (.aload_n 0, 1) := by decide +kernel
theorem d_Bag_putRow_13 : decode prog_2_method_7_code 13 = .ok (.iload_n 3, 1) := by decide +kernel
theorem d_Bag_putRow_14 : decode prog_2_method_7_code 14 = .ok (.iload 4, 2) := by decide +kernel
theorem d_Bag_putRow_16 : decode prog_2_method_7_code 16 = .ok (.iadd, 1) := by decide +kernel
theorem d_Bag_putRow_17 : decode prog_2_method_7_code 17 = .ok (.aload_n 1, 1) := by decide +kernel
theorem d_Bag_putRow_18 : decode prog_2_method_7_code 18 = .ok (.iload_n 2, 1) := by decide +kernel
theorem d_Bag_putRow_19 : decode prog_2_method_7_code 19 = .ok (.iload 4, 2) := by decide +kernel
theorem d_Bag_putRow_21 : decode prog_2_method_7_code 21 = .ok (.invokevirtual 35, 3) := by decide +kernel
theorem d_Bag_putRow_24 : decode prog_2_method_7_code 24 = .ok (.invokevirtual 39, 3) := by decide +kernel
theorem d_Bag_putRow_27 : decode prog_2_method_7_code 27 = .ok (.iinc 4 1, 3) := by decide +kernel
theorem d_Bag_putRow_30 : decode prog_2_method_7_code 30 = .ok (.goto (-27), 3) := by decide +kernel
theorem d_Bag_putRow_33 : decode prog_2_method_7_code 33 = .ok (.return_, 1) := by decide +kernel
theorem d_Bag_cellAt_0 : decode prog_2_method_4_code 0 = .ok (.aload_n 0, 1) := by decide +kernel
theorem d_Bag_cellAt_1 : decode prog_2_method_4_code 1 = .ok (.getfield 18, 3) := by decide +kernel
theorem d_Bag_cellAt_4 : decode prog_2_method_4_code 4 = .ok (.iload_n 1, 1) := by decide +kernel
theorem d_Bag_cellAt_5 : decode prog_2_method_4_code 5 = .ok (.iconst 4, 1) := by decide +kernel
theorem d_Bag_cellAt_6 : decode prog_2_method_4_code 6 = .ok (.imul, 1) := by decide +kernel
theorem d_Bag_cellAt_7 : decode prog_2_method_4_code 7 = .ok (.iload_n 2, 1) := by decide +kernel
theorem d_Bag_cellAt_8 : decode prog_2_method_4_code 8 = .ok (.iadd, 1) := by decide +kernel
theorem d_Bag_cellAt_9 : decode prog_2_method_4_code 9 = .ok (.iaload, 1) := by decide +kernel
theorem d_Bag_cellAt_10 : decode prog_2_method_4_code 10 = .ok (.ireturn, 1) := by decide +kernel
theorem d_Bag_put_0 : decode prog_2_method_6_code 0 = .ok (.aload_n 0, 1) := by decide +kernel
theorem d_Bag_put_1 : decode prog_2_method_6_code 1 = .ok (.getfield 26, 3) := by decide +kernel
theorem d_Bag_put_4 : decode prog_2_method_6_code 4 = .ok (.iload_n 1, 1) := by decide +kernel
theorem d_Bag_put_5 : decode prog_2_method_6_code 5 = .ok (.iload_n 2, 1) := by decide +kernel
theorem d_Bag_put_6 : decode prog_2_method_6_code 6 = .ok (.iastore, 1) := by decide +kernel
theorem d_Bag_put_7 : decode prog_2_method_6_code 7 = .ok (.return_, 1) := by decide +kernel
theorem d_Bag_add_0 : decode prog_2_method_8_code 0 = .ok (.aload_n 0, 1) := by decide +kernel
theorem d_Bag_add_1 : decode prog_2_method_8_code 1 = .ok (.invokevirtual 43, 3) := by decide +kernel
theorem d_Bag_add_4 : decode prog_2_method_8_code 4 = .ok (.istore_n 3, 1) := by decide +kernel
theorem d_Bag_add_5 : decode prog_2_method_8_code 5 = .ok (.aload_n 0, 1) := by decide +kernel
theorem d_Bag_add_6 : decode prog_2_method_8_code 6 = .ok (.iload_n 3, 1) := by decide +kernel
theorem d_Bag_add_7 : decode prog_2_method_8_code 7 = .ok (.invokevirtual 47, 3) := by decide +kernel
theorem d_Bag_add_10 : decode prog_2_method_8_code 10 = .ok (.ifCond .eq 32, 3) := by decide +kernel
theorem d_Bag_add_13 : decode prog_2_method_8_code 13 = .ok (.aload_n 0, 1) := by decide +kernel
theorem d_Bag_add_14 : decode prog_2_method_8_code 14 = .ok (.getfield 22, 3) := by decide +kernel
theorem d_Bag_add_17 : decode prog_2_method_8_code 17 = .ok (.iload_n 3, 1) := by decide +kernel
theorem d_Bag_add_18 : decode prog_2_method_8_code 18 = .ok (.dup2, 1) := by decide +kernel
theorem d_Bag_add_19 : decode prog_2_method_8_code 19 = .ok (.laload, 1) := by decide +kernel
theorem d_Bag_add_20 : decode prog_2_method_8_code 20 = .ok (.lload_n 1, 1) := by decide +kernel
theorem d_Bag_add_21 : decode prog_2_method_8_code 21 = .ok (.ladd, 1) := by decide +kernel
theorem d_Bag_add_22 : decode prog_2_method_8_code 22 = .ok (.lastore, 1) := by decide +kernel
theorem d_Bag_add_23 : decode prog_2_method_8_code 23 = .ok (.aload_n 0, 1) := by decide +kernel
theorem d_Bag_add_24 : decode prog_2_method_8_code 24 = .ok (.getfield 22, 3) := by decide +kernel
theorem d_Bag_add_27 : decode prog_2_method_8_code 27 = .ok (.iload_n 3, 1) := by decide +kernel
theorem d_Bag_add_28 : decode prog_2_method_8_code 28 = .ok (.laload, 1) := by decide +kernel
theorem d_Bag_add_29 : decode prog_2_method_8_code 29 = .ok (.lconst 0, 1) := by decide +kernel
theorem d_Bag_add_30 : decode prog_2_method_8_code 30 = .ok (.lcmp, 1) := by decide +kernel
theorem d_Bag_add_31 : decode prog_2_method_8_code 31 = .ok (.ifCond .ne 32, 3) := by decide +kernel
theorem d_Bag_add_34 : decode prog_2_method_8_code 34 = .ok (.aload_n 0, 1) := by decide +kernel
theorem d_Bag_add_35 : decode prog_2_method_8_code 35 = .ok (.iload_n 3, 1) := by decide +kernel
theorem d_Bag_add_36 : decode prog_2_method_8_code 36 = .ok (.invokevirtual 51, 3) := by decide +kernel
theorem d_Bag_add_39 : decode prog_2_method_8_code 39 = .ok (.goto 24, 3) := by decide +kernel
theorem d_Bag_add_42 : decode prog_2_method_8_code 42 = .ok (.lload_n 1, 1) := by decide +kernel
theorem d_Bag_add_43 : decode prog_2_method_8_code 43 = .ok (.lconst 0, 1) := by decide +kernel
theorem d_Bag_add_44 : decode prog_2_method_8_code 44 = .ok (.lcmp, 1) := by decide +kernel
theorem d_Bag_add_45 : decode prog_2_method_8_code 45 = .ok (.ifCond .eq 18, 3) := by decide +kernel
theorem d_Bag_add_48 : decode prog_2_method_8_code 48 = .ok (.aload_n 0, 1) := by decide +kernel
theorem d_Bag_add_49 : decode prog_2_method_8_code 49 = .ok (.getfield 15, 3) := by decide +kernel
theorem d_Bag_add_52 : decode prog_2_method_8_code 52 = .ok (.bipush 32, 2) := by decide +kernel
theorem d_Bag_add_54 : decode prog_2_method_8_code 54 = .ok (.if_icmp .ge 9, 3) := by decide +kernel
theorem d_Bag_add_57 : decode prog_2_method_8_code 57 = .ok (.aload_n 0, 1) := by decide +kernel
theorem d_Bag_add_58 : decode prog_2_method_8_code 58 = .ok (.iload_n 3, 1) := by decide +kernel
theorem d_Bag_add_59 : decode prog_2_method_8_code 59 = .ok (.lload_n 1, 1) := by decide +kernel
theorem d_Bag_add_60 : decode prog_2_method_8_code 60 = .ok (.invokevirtual 55, 3) := by decide +kernel
theorem d_Bag_add_63 : decode prog_2_method_8_code 63 = .ok (.return_, 1) := by decide +kernel
theorem d_Bag_placeOfPending_0 : decode prog_2_method_15_code 0 = .ok (.aload_n 0, 1) := by decide +kernel
theorem d_Bag_placeOfPending_1 : decode prog_2_method_15_code 1 = .ok (.getfield 15, 3) := by decide +kernel
theorem d_Bag_placeOfPending_4 : decode prog_2_method_15_code 4 = .ok (.istore_n 1, 1) := by decide +kernel
theorem d_Bag_placeOfPending_5 : decode prog_2_method_15_code 5 = .ok (.iload_n 1, 1) := by decide +kernel
theorem d_Bag_placeOfPending_6 : decode prog_2_method_15_code 6 = .ok (.ifCond .le 24, 3) := by decide +kernel
theorem d_Bag_placeOfPending_9 : decode prog_2_method_15_code 9 = .ok (.aload_n 0, 1) := by decide +kernel
theorem d_Bag_placeOfPending_10 : decode prog_2_method_15_code 10 = .ok (.iload_n 1, 1) := by decide +kernel
theorem d_Bag_placeOfPending_11 : decode prog_2_method_15_code 11 = .ok (.iconst 1, 1) := by decide +kernel
theorem d_Bag_placeOfPending_12 : decode prog_2_method_15_code 12 = .ok (.isub, 1) := by decide +kernel
theorem d_Bag_placeOfPending_13 : decode prog_2_method_15_code 13 = .ok (.aload_n 0, 1) := by decide +kernel
theorem d_Bag_placeOfPending_14 : decode prog_2_method_15_code 14 = .ok (.getfield 26, 3) := by decide +kernel
theorem d_Bag_placeOfPending_17 : decode prog_2_method_15_code 17 = .ok (.iconst 0, 1) := by decide +kernel
theorem d_Bag_placeOfPending_18 : decode prog_2_method_15_code 18 = .ok (.invokevirtual 75, 3) := by decide +kernel
theorem d_Bag_placeOfPending_21 : decode prog_2_method_15_code 21 = .ok (.ifCond .lt 9, 3) := by decide +kernel
theorem d_Bag_placeOfPending_24 : decode prog_2_method_15_code 24 = .ok (.iinc 1 (-1), 3) := by decide +kernel
theorem d_Bag_placeOfPending_27 : decode prog_2_method_15_code 27 = .ok (.goto (-22), 3) := by decide +kernel
theorem d_Bag_placeOfPending_30 : decode prog_2_method_15_code 30 = .ok (.iload_n 1, 1) := by decide +kernel
theorem d_Bag_placeOfPending_31 : decode prog_2_method_15_code 31 = .ok (.ireturn, 1) := by decide +kernel
theorem d_Bag_orderOfCells_0 : decode prog_2_method_14_code 0 = .ok (.iconst 0, 1) := by decide +kernel
theorem d_Bag_orderOfCells_1 : decode prog_2_method_14_code 1 = .ok (.istore 4, 2) := by decide +kernel
theorem d_Bag_orderOfCells_3 : decode prog_2_method_14_code 3 = .ok (.iload 4, 2) := by decide +kernel
theorem d_Bag_orderOfCells_5 : decode prog_2_method_14_code 5 = .ok (.aload_n 0, 1) := by decide +kernel
theorem d_Bag_orderOfCells_6 : decode prog_2_method_14_code 6 = .ok (.getfield 9, 3) := by decide +kernel
theorem d_Bag_orderOfCells_9 : decode prog_2_method_14_code 9 = .ok (.if_icmp .ge 50, 3) := by decide +kernel
theorem d_Bag_orderOfCells_12 : decode prog_2_method_14_code 12 = .ok (.aload_n 0, 1) := by decide +kernel
theorem d_Bag_orderOfCells_13 : decode prog_2_method_14_code 13 = .ok (.getfield 18, 3) := by decide +kernel
theorem d_Bag_orderOfCells_16 : decode prog_2_method_14_code 16 = .ok (.iload_n 1, 1) := by decide +kernel
theorem d_Bag_orderOfCells_17 : decode prog_2_method_14_code 17 = .ok (.iconst 4, 1) := by decide +kernel
theorem d_Bag_orderOfCells_18 : decode prog_2_method_14_code 18 = .ok (.imul, 1) := by decide +kernel
theorem d_Bag_orderOfCells_19 : decode prog_2_method_14_code 19 = .ok (.iload 4, 2) := by decide +kernel
theorem d_Bag_orderOfCells_21 : decode prog_2_method_14_code 21 = .ok (.iadd, 1) := by decide +kernel
theorem d_Bag_orderOfCells_22 : decode prog_2_method_14_code 22 = .ok (.iaload, 1) := by decide +kernel
theorem d_Bag_orderOfCells_23 : decode prog_2_method_14_code 23 = .ok (.istore 5, 2) := by decide +kernel
theorem d_Bag_orderOfCells_25 : decode prog_2_method_14_code 25 = .ok (.aload_n 2, 1) := by decide +kernel
theorem d_Bag_orderOfCells_26 : decode prog_2_method_14_code 26 = .ok (.iload_n 3, 1) := by decide +kernel
theorem d_Bag_orderOfCells_27 : decode prog_2_method_14_code 27 = .ok (.iload 4, 2) := by decide +kernel
theorem d_Bag_orderOfCells_29 : decode prog_2_method_14_code 29 = .ok (.iadd, 1) := by decide +kernel
theorem d_Bag_orderOfCells_30 : decode prog_2_method_14_code 30 = .ok (.iaload, 1) := by decide +kernel
theorem d_Bag_orderOfCells_31 : decode prog_2_method_14_code 31 = .ok (.istore 6, 2) := by decide +kernel
theorem d_Bag_orderOfCells_33 : decode prog_2_method_14_code 33 = .ok (.iload 5, 2) := by decide +kernel
theorem d_Bag_orderOfCells_35 : decode prog_2_method_14_code 35 = .ok (.iload 6, 2) := by decide +kernel
theorem d_Bag_orderOfCells_37 : decode prog_2_method_14_code 37 = .ok (.if_icmp .eq 16, 3) := by decide +kernel
theorem d_Bag_orderOfCells_40 : decode prog_2_method_14_code 40 = .ok (.iload 5, 2) := by decide +kernel
theorem d_Bag_orderOfCells_42 : decode prog_2_method_14_code 42 = .ok (.iload 6, 2) := by decide +kernel
theorem d_Bag_orderOfCells_44 : decode prog_2_method_14_code 44 = .ok (.if_icmp .ge 7, 3) := by decide +kernel
theorem d_Bag_orderOfCells_47 : decode prog_2_method_14_code 47 = .ok (.iconst (-1), 1) := by decide +kernel
theorem d_Bag_orderOfCells_48 : decode prog_2_method_14_code 48 = .ok (.goto 4, 3) := by decide +kernel
theorem d_Bag_orderOfCells_51 : decode prog_2_method_14_code 51 = .ok (.iconst 1, 1) := by decide +kernel
theorem d_Bag_orderOfCells_52 : decode prog_2_method_14_code 52 = .ok (.ireturn, 1) := by decide +kernel
theorem d_Bag_orderOfCells_53 : decode prog_2_method_14_code 53 = .ok (.iinc 4 1, 3) := by decide +kernel
theorem d_Bag_orderOfCells_56 : decode prog_2_method_14_code 56 = .ok (.goto (-53), 3) := by decide +kernel
theorem d_Bag_orderOfCells_59 : decode prog_2_method_14_code 59 = .ok (.iconst 0, 1) := by decide +kernel
theorem d_Bag_orderOfCells_60 : decode prog_2_method_14_code 60 = .ok (.ireturn, 1) := by decide +kernel
theorem d_Bag_isPending_0 : decode prog_2_method_16_code 0 = .ok (.iload_n 1, 1) := by decide +kernel
theorem d_Bag_isPending_1 : decode prog_2_method_16_code 1 = .ok (.aload_n 0, 1) := by decide +kernel
theorem d_Bag_isPending_2 : decode prog_2_method_16_code 2 = .ok (.getfield 15, 3) := by decide +kernel
theorem d_Bag_isPending_5 : decode prog_2_method_16_code 5 = .ok (.if_icmp .ge 20, 3) := by decide +kernel
theorem d_Bag_isPending_8 : decode prog_2_method_16_code 8 = .ok (.aload_n 0, 1) := by decide +kernel
theorem d_Bag_isPending_9 : decode prog_2_method_16_code 9 = .ok (.iload_n 1, 1) := by decide +kernel
theorem d_Bag_isPending_10 : decode prog_2_method_16_code 10 = .ok (.aload_n 0, 1) := by decide +kernel
theorem d_Bag_isPending_11 : decode prog_2_method_16_code 11 = .ok (.getfield 26, 3) := by decide +kernel
theorem d_Bag_isPending_14 : decode prog_2_method_16_code 14 = .ok (.iconst 0, 1) := by decide +kernel
theorem d_Bag_isPending_15 : decode prog_2_method_16_code 15 = .ok (.invokevirtual 75, 3) := by decide +kernel
theorem d_Bag_isPending_18 : decode prog_2_method_16_code 18 = .ok (.ifCond .ne 7, 3) := by decide +kernel
theorem d_Bag_isPending_21 : decode prog_2_method_16_code 21 = .ok (.iconst 1, 1) := by decide +kernel
theorem d_Bag_isPending_22 : decode prog_2_method_16_code 22 = .ok (.goto 4, 3) := by decide +kernel
theorem d_Bag_isPending_25 : decode prog_2_method_16_code 25 = .ok (.iconst 0, 1) := by decide +kernel
theorem d_Bag_isPending_26 : decode prog_2_method_16_code 26 = .ok (.ireturn, 1) := by decide +kernel
theorem d_Bag_remove_0 : decode prog_2_method_18_code 0 = .ok (.aload_n 0, 1) := by decide +kernel
theorem d_Bag_remove_1 : decode prog_2_method_18_code 1 = .ok (.dup, 1) := by decide +kernel
theorem d_Bag_remove_2 : decode prog_2_method_18_code 2 = .ok (.getfield 15, 3) := by decide +kernel
theorem d_Bag_remove_5 : decode prog_2_method_18_code 5 = .ok (.iconst 1, 1) := by decide +kernel
theorem d_Bag_remove_6 : decode prog_2_method_18_code 6 = .ok (.isub, 1) := by decide +kernel
theorem d_Bag_remove_7 : decode prog_2_method_18_code 7 = .ok (.putfield 15, 3) := by decide +kernel
theorem d_Bag_remove_10 : decode prog_2_method_18_code 10 = .ok (.iload_n 1, 1) := by decide +kernel
theorem d_Bag_remove_11 : decode prog_2_method_18_code 11 = .ok (.iconst 4, 1) := by decide +kernel
theorem d_Bag_remove_12 : decode prog_2_method_18_code 12 = .ok (.imul, 1) := by decide +kernel
theorem d_Bag_remove_13 : decode prog_2_method_18_code 13 = .ok (.istore_n 2, 1) := by decide +kernel
theorem d_Bag_remove_14 : decode prog_2_method_18_code 14 = .ok (.aload_n 0, 1) := by decide +kernel
theorem d_Bag_remove_15 : decode prog_2_method_18_code 15 = .ok (.getfield 15, 3) := by decide +kernel
theorem d_Bag_remove_18 : decode prog_2_method_18_code 18 = .ok (.iconst 4, 1) := by decide +kernel
theorem d_Bag_remove_19 : decode prog_2_method_18_code 19 = .ok (.imul, 1) := by decide +kernel
theorem d_Bag_remove_20 : decode prog_2_method_18_code 20 = .ok (.istore_n 3, 1) := by decide +kernel
theorem d_Bag_remove_21 : decode prog_2_method_18_code 21 = .ok (.aload_n 0, 1) := by decide +kernel
theorem d_Bag_remove_22 : decode prog_2_method_18_code 22 = .ok (.getfield 18, 3) := by decide +kernel
theorem d_Bag_remove_25 : decode prog_2_method_18_code 25 = .ok (.iload_n 2, 1) := by decide +kernel
theorem d_Bag_remove_26 : decode prog_2_method_18_code 26 = .ok (.iconst 4, 1) := by decide +kernel
theorem d_Bag_remove_27 : decode prog_2_method_18_code 27 = .ok (.iadd, 1) := by decide +kernel
theorem d_Bag_remove_28 : decode prog_2_method_18_code 28 = .ok (.aload_n 0, 1) := by decide +kernel
theorem d_Bag_remove_29 : decode prog_2_method_18_code 29 = .ok (.getfield 18, 3) := by decide +kernel
theorem d_Bag_remove_32 : decode prog_2_method_18_code 32 = .ok (.iload_n 2, 1) := by decide +kernel
theorem d_Bag_remove_33 : decode prog_2_method_18_code 33 = .ok (.iload_n 3, 1) := by decide +kernel
theorem d_Bag_remove_34 : decode prog_2_method_18_code 34 = .ok (.iload_n 2, 1) := by decide +kernel
theorem d_Bag_remove_35 : decode prog_2_method_18_code 35 = .ok (.isub, 1) := by decide +kernel
theorem d_Bag_remove_36 : decode prog_2_method_18_code 36 = .ok (.invokestatic 29, 3) := by decide +kernel
theorem d_Bag_remove_39 : decode prog_2_method_18_code 39 = .ok (.aload_n 0, 1) := by decide +kernel
theorem d_Bag_remove_40 : decode prog_2_method_18_code 40 = .ok (.getfield 22, 3) := by decide +kernel
theorem d_Bag_remove_43 : decode prog_2_method_18_code 43 = .ok (.iload_n 1, 1) := by decide +kernel
theorem d_Bag_remove_44 : decode prog_2_method_18_code 44 = .ok (.iconst 1, 1) := by decide +kernel
theorem d_Bag_remove_45 : decode prog_2_method_18_code 45 = .ok (.iadd, 1) := by decide +kernel
theorem d_Bag_remove_46 : decode prog_2_method_18_code 46 = .ok (.aload_n 0, 1) := by decide +kernel
theorem d_Bag_remove_47 : decode prog_2_method_18_code 47 = .ok (.getfield 22, 3) := by decide +kernel
theorem d_Bag_remove_50 : decode prog_2_method_18_code 50 = .ok (.iload_n 1, 1) := by decide +kernel
theorem d_Bag_remove_51 : decode prog_2_method_18_code 51 = .ok (.aload_n 0, 1) := by decide +kernel
theorem d_Bag_remove_52 : decode prog_2_method_18_code 52 = .ok (.getfield 15, 3) := by decide +kernel
theorem d_Bag_remove_55 : decode prog_2_method_18_code 55 = .ok (.iload_n 1, 1) := by decide +kernel
theorem d_Bag_remove_56 : decode prog_2_method_18_code 56 = .ok (.isub, 1) := by decide +kernel
theorem d_Bag_remove_57 : decode prog_2_method_18_code 57 = .ok (.invokestatic 29, 3) := by decide +kernel
theorem d_Bag_remove_60 : decode prog_2_method_18_code 60 = .ok (.return_, 1) := by decide +kernel
theorem d_Bag_insert_0 : decode prog_2_method_17_code 0 = .ok (.iload_n 1, 1) := by decide +kernel
theorem d_Bag_insert_1 : decode prog_2_method_17_code 1 = .ok (.iconst 4, 1) := by decide +kernel
theorem d_Bag_insert_2 : decode prog_2_method_17_code 2 = .ok (.imul, 1) := by decide +kernel
theorem d_Bag_insert_3 : decode prog_2_method_17_code 3 = .ok (.istore 4, 2) := by decide +kernel
theorem d_Bag_insert_5 : decode prog_2_method_17_code 5 = .ok (.aload_n 0, 1) := by decide +kernel
theorem d_Bag_insert_6 : decode prog_2_method_17_code 6 = .ok (.getfield 15, 3) := by decide +kernel
theorem d_Bag_insert_9 : decode prog_2_method_17_code 9 = .ok (.iconst 4, 1) := by decide +kernel
theorem d_Bag_insert_10 : decode prog_2_method_17_code 10 = .ok (.imul, 1) := by decide +kernel
theorem d_Bag_insert_11 : decode prog_2_method_17_code 11 = .ok (.istore 5, 2) := by decide +kernel
theorem d_Bag_insert_13 : decode prog_2_method_17_code 13 = .ok (.aload_n 0, 1) := by decide +kernel
theorem d_Bag_insert_14 : decode prog_2_method_17_code 14 = .ok (.getfield 18, 3) := by decide +kernel
theorem d_Bag_insert_17 : decode prog_2_method_17_code 17 = .ok (.iload 4, 2) := by decide +kernel
theorem d_Bag_insert_19 : decode prog_2_method_17_code 19 = .ok (.aload_n 0, 1) := by decide +kernel
theorem d_Bag_insert_20 : decode prog_2_method_17_code 20 = .ok (.getfield 18, 3) := by decide +kernel
theorem d_Bag_insert_23 : decode prog_2_method_17_code 23 = .ok (.iload 4, 2) := by decide +kernel
theorem d_Bag_insert_25 : decode prog_2_method_17_code 25 = .ok (.iconst 4, 1) := by decide +kernel
theorem d_Bag_insert_26 : decode prog_2_method_17_code 26 = .ok (.iadd, 1) := by decide +kernel
theorem d_Bag_insert_27 : decode prog_2_method_17_code 27 = .ok (.iload 5, 2) := by decide +kernel
theorem d_Bag_insert_29 : decode prog_2_method_17_code 29 = .ok (.iload 4, 2) := by decide +kernel
theorem d_Bag_insert_31 : decode prog_2_method_17_code 31 = .ok (.isub, 1) := by decide +kernel
theorem d_Bag_insert_32 : decode prog_2_method_17_code 32 = .ok (.invokestatic 29, 3) := by decide +kernel
theorem d_Bag_insert_35 : decode prog_2_method_17_code 35 = .ok (.aload_n 0, 1) := by decide +kernel
theorem d_Bag_insert_36 : decode prog_2_method_17_code 36 = .ok (.getfield 22, 3) := by decide +kernel
theorem d_Bag_insert_39 : decode prog_2_method_17_code 39 = .ok (.iload_n 1, 1) := by decide +kernel
theorem d_Bag_insert_40 : decode prog_2_method_17_code 40 = .ok (.aload_n 0, 1) := by decide +kernel
theorem d_Bag_insert_41 : decode prog_2_method_17_code 41 = .ok (.getfield 22, 3) := by decide +kernel
theorem d_Bag_insert_44 : decode prog_2_method_17_code 44 = .ok (.iload_n 1, 1) := by decide +kernel
theorem d_Bag_insert_45 : decode prog_2_method_17_code 45 = .ok (.iconst 1, 1) := by decide +kernel
theorem d_Bag_insert_46 : decode prog_2_method_17_code 46 = .ok (.iadd, 1) := by decide +kernel
theorem d_Bag_insert_47 : decode prog_2_method_17_code 47 = .ok (.aload_n 0, 1) := by decide +kernel
theorem d_Bag_insert_48 : decode prog_2_method_17_code 48 = .ok (.getfield 15, 3) := by decide +kernel
theorem d_Bag_insert_51 : decode prog_2_method_17_code 51 = .ok (.iload_n 1, 1) := by decide +kernel
theorem d_Bag_insert_52 : decode prog_2_method_17_code 52 = .ok (.isub, 1) := by decide +kernel
theorem d_Bag_insert_53 : decode prog_2_method_17_code 53 = .ok (.invokestatic 29, 3) := by decide +kernel
theorem d_Bag_insert_56 : decode prog_2_method_17_code 56 = .ok (.aload_n 0, 1) := by decide +kernel
theorem d_Bag_insert_57 : decode prog_2_method_17_code 57 = .ok (.getfield 26, 3) := by decide +kernel
theorem d_Bag_insert_60 : decode prog_2_method_17_code 60 = .ok (.iconst 0, 1) := by decide +kernel
theorem d_Bag_insert_61 : decode prog_2_method_17_code 61 = .ok (.aload_n 0, 1) := by decide +kernel
theorem d_Bag_insert_62 : decode prog_2_method_17_code 62 = .ok (.getfield 18, 3) := by decide +kernel
theorem d_Bag_insert_65 : decode prog_2_method_17_code 65 = .ok (.iload 4, 2) := by decide +kernel
theorem d_Bag_insert_67 : decode prog_2_method_17_code 67 = .ok (.aload_n 0, 1) := by decide +kernel
theorem d_Bag_insert_68 : decode prog_2_method_17_code 68 = .ok (.getfield 9, 3) := by decide +kernel
theorem d_Bag_insert_71 : decode prog_2_method_17_code 71 = .ok (.invokestatic 29, 3) := by decide +kernel
theorem d_Bag_insert_74 : decode prog_2_method_17_code 74 = .ok (.aload_n 0, 1) := by decide +kernel
theorem d_Bag_insert_75 : decode prog_2_method_17_code 75 = .ok (.getfield 22, 3) := by decide +kernel
theorem d_Bag_insert_78 : decode prog_2_method_17_code 78 = .ok (.iload_n 1, 1) := by decide +kernel
theorem d_Bag_insert_79 : decode prog_2_method_17_code 79 = .ok (.lload_n 2, 1) := by decide +kernel
theorem d_Bag_insert_80 : decode prog_2_method_17_code 80 = .ok (.lastore, 1) := by decide +kernel
theorem d_Bag_insert_81 : decode prog_2_method_17_code 81 = .ok (.aload_n 0, 1) := by decide +kernel
theorem d_Bag_insert_82 : decode prog_2_method_17_code 82 = .ok (.dup, 1) := by decide +kernel
theorem d_Bag_insert_83 : decode prog_2_method_17_code 83 = .ok (.getfield 15, 3) := by decide +kernel
theorem d_Bag_insert_86 : decode prog_2_method_17_code 86 = .ok (.iconst 1, 1) := by decide +kernel
theorem d_Bag_insert_87 : decode prog_2_method_17_code 87 = .ok (.iadd, 1) := by decide +kernel
theorem d_Bag_insert_88 : decode prog_2_method_17_code 88 = .ok (.putfield 15, 3) := by decide +kernel
theorem d_Bag_insert_91 : decode prog_2_method_17_code 91 = .ok (.return_, 1) := by decide +kernel
theorem d_Group_fill_0 : decode prog_5_method_2_code 0 = .ok (.aload_n 0, 1) := by decide +kernel
theorem d_Group_fill_1 : decode prog_5_method_2_code 1 = .ok (.getfield 9, 3) := by decide +kernel
theorem d_Group_fill_4 : decode prog_5_method_2_code 4 = .ok (.getfield 25, 3) := by decide +kernel
theorem d_Group_fill_7 : decode prog_5_method_2_code 7 = .ok (.astore_n 3, 1) := by decide +kernel
theorem d_Group_fill_8 : decode prog_5_method_2_code 8 = .ok (.aload_n 2, 1) := by decide +kernel
theorem d_Group_fill_9 : decode prog_5_method_2_code 9 = .ok (.iconst 2, 1) := by decide +kernel
theorem d_Group_fill_10 : decode prog_5_method_2_code 10 = .ok (.invokevirtual 31, 3) := by decide +kernel
theorem d_Group_fill_13 : decode prog_5_method_2_code 13 = .ok (.iconst 0, 1) := by decide +kernel
theorem d_Group_fill_14 : decode prog_5_method_2_code 14 = .ok (.istore 4, 2) := by decide +kernel
theorem d_Group_fill_16 : decode prog_5_method_2_code 16 = .ok (.iload 4, 2) := by decide +kernel
theorem d_Group_fill_18 : decode prog_5_method_2_code 18 = .ok (.aload_n 3, 1) := by decide +kernel
theorem d_Group_fill_19 : decode prog_5_method_2_code 19 = .ok (.getfield 37, 3) := by decide +kernel
theorem d_Group_fill_22 : decode prog_5_method_2_code 22 = .ok (.if_icmp .ge 51, 3) := by decide +kernel
theorem d_Group_fill_25 : decode prog_5_method_2_code 25 = .ok (.aload_n 0, 1) := by decide +kernel
theorem d_Group_fill_26 : decode prog_5_method_2_code 26 = .ok (.aload_n 3, 1) := by decide +kernel
theorem d_Group_fill_27 : decode prog_5_method_2_code 27 = .ok (.iload 4, 2) := by decide +kernel
theorem d_Group_fill_29 : decode prog_5_method_2_code 29 = .ok (.invokevirtual 40, 3) := by decide +kernel
theorem d_Group_fill_32 : decode prog_5_method_2_code 32 = .ok (.ifCond .eq 35, 3) := by decide +kernel
theorem d_Group_fill_35 : decode prog_5_method_2_code 35 = .ok (.aload_n 2, 1) := by decide +kernel
theorem d_Group_fill_36 : decode prog_5_method_2_code 36 = .ok (.iconst 0, 1) := by decide +kernel
theorem d_Group_fill_37 : decode prog_5_method_2_code 37 = .ok (.aload_n 3, 1) := by decide +kernel
theorem d_Group_fill_38 : decode prog_5_method_2_code 38 = .ok (.iload 4, 2) := by decide +kernel
theorem d_Group_fill_40 : decode prog_5_method_2_code 40 = .ok (.aload_n 0, 1) := by decide +kernel
theorem d_Group_fill_41 : decode prog_5_method_2_code 41 = .ok (.getfield 19, 3) := by decide +kernel
theorem d_Group_fill_44 : decode prog_5_method_2_code 44 = .ok (.invokevirtual 44, 3) := by decide +kernel
theorem d_Group_fill_47 : decode prog_5_method_2_code 47 = .ok (.invokevirtual 48, 3) := by decide +kernel
theorem d_Group_fill_50 : decode prog_5_method_2_code 50 = .ok (.aload_n 2, 1) := by decide +kernel
theorem d_Group_fill_51 : decode prog_5_method_2_code 51 = .ok (.iconst 1, 1) := by decide +kernel
theorem d_Group_fill_52 : decode prog_5_method_2_code 52 = .ok (.aload_n 0, 1) := by decide +kernel
theorem d_Group_fill_53 : decode prog_5_method_2_code 53 = .ok (.aload_n 3, 1) := by decide +kernel
theorem d_Group_fill_54 : decode prog_5_method_2_code 54 = .ok (.iload 4, 2) := by decide +kernel
theorem d_Group_fill_56 : decode prog_5_method_2_code 56 = .ok (.invokevirtual 52, 3) := by decide +kernel
theorem d_Group_fill_59 : decode prog_5_method_2_code 59 = .ok (.invokevirtual 48, 3) := by decide +kernel
theorem d_Group_fill_62 : decode prog_5_method_2_code 62 = .ok (.aload_n 2, 1) := by decide +kernel
theorem d_Group_fill_63 : decode prog_5_method_2_code 63 = .ok (.lconst 1, 1) := by decide +kernel
theorem d_Group_fill_64 : decode prog_5_method_2_code 64 = .ok (.invokevirtual 56, 3) := by decide +kernel
theorem d_Group_fill_67 : decode prog_5_method_2_code 67 = .ok (.iinc 4 1, 3) := by decide +kernel
theorem d_Group_fill_70 : decode prog_5_method_2_code 70 = .ok (.goto (-54), 3) := by decide +kernel
theorem d_Group_fill_73 : decode prog_5_method_2_code 73 = .ok (.return_, 1) := by decide +kernel
theorem d_Group_isFirstOfGroup_0 : decode prog_5_method_3_code 0 = .ok (.iconst 0, 1) := by decide +kernel
theorem d_Group_isFirstOfGroup_1 : decode prog_5_method_3_code 1 = .ok (.istore_n 3, 1) := by decide +kernel
theorem d_Group_isFirstOfGroup_2 : decode prog_5_method_3_code 2 = .ok (.iload_n 3, 1) := by decide +kernel
theorem d_Group_isFirstOfGroup_3 : decode prog_5_method_3_code 3 = .ok (.iload_n 2, 1) := by decide +kernel
theorem d_Group_isFirstOfGroup_4 : decode prog_5_method_3_code 4 = .ok (.if_icmp .ge 32, 3) := by decide +kernel
theorem d_Group_isFirstOfGroup_7 : decode prog_5_method_3_code 7 = .ok (.aload_n 1, 1) := by decide +kernel
theorem d_Group_isFirstOfGroup_8 : decode prog_5_method_3_code 8 = .ok (.iload_n 3, 1) := by decide +kernel
theorem d_Group_isFirstOfGroup_9 : decode prog_5_method_3_code 9 = .ok (.aload_n 0, 1) := by decide +kernel
theorem d_Group_isFirstOfGroup_10 : decode prog_5_method_3_code 10 = .ok (.getfield 19, 3) := by decide +kernel
theorem d_Group_isFirstOfGroup_13 : decode prog_5_method_3_code 13 = .ok (.invokevirtual 44, 3) := by decide +kernel
theorem d_Group_isFirstOfGroup_16 : decode prog_5_method_3_code 16 = .ok (.aload_n 1, 1) := by decide +kernel
theorem d_Group_isFirstOfGroup_17 : decode prog_5_method_3_code 17 = .ok (.iload_n 2, 1) := by decide +kernel
theorem d_Group_isFirstOfGroup_18 : decode prog_5_method_3_code 18 = .ok (.aload_n 0, 1) := by decide +kernel
theorem d_Group_isFirstOfGroup_19 : decode prog_5_method_3_code 19 = .ok (.getfield 19, 3) := by decide +kernel
theorem d_Group_isFirstOfGroup_22 : decode prog_5_method_3_code 22 = .ok (.invokevirtual 44, 3) := by decide +kernel
theorem d_Group_isFirstOfGroup_25 : decode prog_5_method_3_code 25 = .ok (.if_icmp .ne 5, 3) := by decide +kernel
theorem d_Group_isFirstOfGroup_28 : decode prog_5_method_3_code 28 = .ok (.iconst 0, 1) := by decide +kernel
theorem d_Group_isFirstOfGroup_29 : decode prog_5_method_3_code 29 = .ok (.ireturn, 1) := by decide +kernel
theorem d_Group_isFirstOfGroup_30 : decode prog_5_method_3_code 30 = .ok (.iinc 3 1, 3) := by decide +kernel
theorem d_Group_isFirstOfGroup_33 : decode prog_5_method_3_code 33 = .ok (.goto (-31), 3) := by decide +kernel
theorem d_Group_isFirstOfGroup_36 : decode prog_5_method_3_code 36 = .ok (.iconst 1, 1) := by decide +kernel
theorem d_Group_isFirstOfGroup_37 : decode prog_5_method_3_code 37 = .ok (.ireturn, 1) := by decide +kernel
theorem d_Group_fold_0 : decode prog_5_method_4_code 0 = .ok (.aload_n 0, 1) := by decide +kernel
theorem d_Group_fold_1 : decode prog_5_method_4_code 1 = .ok (.aload_n 1, 1) := by decide +kernel
theorem d_Group_fold_2 : decode prog_5_method_4_code 2 = .ok (.iload_n 2, 1) := by decide +kernel
theorem d_Group_fold_3 : decode prog_5_method_4_code 3 = .ok (.invokevirtual 60, 3) := by decide +kernel
theorem d_Group_fold_6 : decode prog_5_method_4_code 6 = .ok (.istore_n 3, 1) := by decide +kernel
theorem d_Group_fold_7 : decode prog_5_method_4_code 7 = .ok (.iload_n 2, 1) := by decide +kernel
theorem d_Group_fold_8 : decode prog_5_method_4_code 8 = .ok (.iconst 1, 1) := by decide +kernel
theorem d_Group_fold_9 : decode prog_5_method_4_code 9 = .ok (.iadd, 1) := by decide +kernel
theorem d_Group_fold_10 : decode prog_5_method_4_code 10 = .ok (.istore 4, 2) := by decide +kernel
theorem d_Group_fold_12 : decode prog_5_method_4_code 12 = .ok (.iload 4, 2) := by decide +kernel
theorem d_Group_fold_14 : decode prog_5_method_4_code 14 = .ok (.aload_n 1, 1) := by decide +kernel
theorem d_Group_fold_15 : decode prog_5_method_4_code 15 = .ok (.getfield 37, 3) := by decide +kernel
theorem d_Group_fold_18 : decode prog_5_method_4_code 18 = .ok (.if_icmp .ge 62, 3) := by decide +kernel
theorem d_Group_fold_21 : decode prog_5_method_4_code 21 = .ok (.aload_n 1, 1) := by decide +kernel
theorem d_Group_fold_22 : decode prog_5_method_4_code 22 = .ok (.iload 4, 2) := by decide +kernel
theorem d_Group_fold_24 : decode prog_5_method_4_code 24 = .ok (.aload_n 0, 1) := by decide +kernel
theorem d_Group_fold_25 : decode prog_5_method_4_code 25 = .ok (.getfield 19, 3) := by decide +kernel
theorem d_Group_fold_28 : decode prog_5_method_4_code 28 = .ok (.invokevirtual 44, 3) := by decide +kernel
theorem d_Group_fold_31 : decode prog_5_method_4_code 31 = .ok (.aload_n 1, 1) := by decide +kernel
theorem d_Group_fold_32 : decode prog_5_method_4_code 32 = .ok (.iload_n 2, 1) := by decide +kernel
theorem d_Group_fold_33 : decode prog_5_method_4_code 33 = .ok (.aload_n 0, 1) := by decide +kernel
theorem d_Group_fold_34 : decode prog_5_method_4_code 34 = .ok (.getfield 19, 3) := by decide +kernel
theorem d_Group_fold_37 : decode prog_5_method_4_code 37 = .ok (.invokevirtual 44, 3) := by decide +kernel
theorem d_Group_fold_40 : decode prog_5_method_4_code 40 = .ok (.if_icmp .ne 34, 3) := by decide +kernel
theorem d_Group_fold_43 : decode prog_5_method_4_code 43 = .ok (.aload_n 0, 1) := by decide +kernel
theorem d_Group_fold_44 : decode prog_5_method_4_code 44 = .ok (.aload_n 1, 1) := by decide +kernel
theorem d_Group_fold_45 : decode prog_5_method_4_code 45 = .ok (.iload 4, 2) := by decide +kernel
theorem d_Group_fold_47 : decode prog_5_method_4_code 47 = .ok (.invokevirtual 60, 3) := by decide +kernel
theorem d_Group_fold_50 : decode prog_5_method_4_code 50 = .ok (.istore 5, 2) := by decide +kernel
theorem d_Group_fold_52 : decode prog_5_method_4_code 52 = .ok (.aload_n 0, 1) := by decide +kernel
theorem d_Group_fold_53 : decode prog_5_method_4_code 53 = .ok (.getfield 15, 3) := by decide +kernel
theorem d_Group_fold_56 : decode prog_5_method_4_code 56 = .ok (.iconst 2, 1) := by decide +kernel
theorem d_Group_fold_57 : decode prog_5_method_4_code 57 = .ok (.if_icmp .ne 12, 3) := by decide +kernel
theorem d_Group_fold_60 : decode prog_5_method_4_code 60 = .ok (.iload_n 3, 1) := by decide +kernel
theorem d_Group_fold_61 : decode prog_5_method_4_code 61 = .ok (.iload 5, 2) := by decide +kernel
theorem d_Group_fold_63 : decode prog_5_method_4_code 63 = .ok (.invokestatic 63, 3) := by decide +kernel
theorem d_Group_fold_66 : decode prog_5_method_4_code 66 = .ok (.goto 7, 3) := by decide +kernel
theorem d_Group_fold_69 : decode prog_5_method_4_code 69 = .ok (.iload_n 3, 1) := by decide +kernel
theorem d_Group_fold_70 : decode prog_5_method_4_code 70 = .ok (.iload 5, 2) := by decide +kernel
theorem d_Group_fold_72 : decode prog_5_method_4_code 72 = .ok (.iadd, 1) := by decide +kernel
theorem d_Group_fold_73 : decode prog_5_method_4_code 73 = .ok (.istore_n 3, 1) := by decide +kernel
theorem d_Group_fold_74 : decode prog_5_method_4_code 74 = .ok (.iinc 4 1, 3) := by decide +kernel
theorem d_Group_fold_77 : decode prog_5_method_4_code 77 = .ok (.goto (-65), 3) := by decide +kernel
theorem d_Group_fold_80 : decode prog_5_method_4_code 80 = .ok (.iload_n 3, 1) := by decide +kernel
theorem d_Group_fold_81 : decode prog_5_method_4_code 81 = .ok (.ireturn, 1) := by decide +kernel
theorem d_Group_worth_0 : decode prog_5_method_5_code 0 = .ok (.aload_n 0, 1) := by decide +kernel
theorem d_Group_worth_1 : decode prog_5_method_5_code 1 = .ok (.getfield 15, 3) := by decide +kernel
theorem d_Group_worth_4 : decode prog_5_method_5_code 4 = .ok (.lookupswitch 52 #[(0, 28), (1, 45)], 28) := by decide +kernel
theorem d_Group_worth_32 : decode prog_5_method_5_code 32 = .ok (.aload_n 1, 1) := by decide +kernel
theorem d_Group_worth_33 : decode prog_5_method_5_code 33 = .ok (.iload_n 2, 1) := by decide +kernel
theorem d_Group_worth_34 : decode prog_5_method_5_code 34 = .ok (.aload_n 0, 1) := by decide +kernel
theorem d_Group_worth_35 : decode prog_5_method_5_code 35 = .ok (.getfield 22, 3) := by decide +kernel
theorem d_Group_worth_38 : decode prog_5_method_5_code 38 = .ok (.invokevirtual 44, 3) := by decide +kernel
theorem d_Group_worth_41 : decode prog_5_method_5_code 41 = .ok (.aload_n 1, 1) := by decide +kernel
theorem d_Group_worth_42 : decode prog_5_method_5_code 42 = .ok (.iload_n 2, 1) := by decide +kernel
theorem d_Group_worth_43 : decode prog_5_method_5_code 43 = .ok (.invokevirtual 68, 3) := by decide +kernel
theorem d_Group_worth_46 : decode prog_5_method_5_code 46 = .ok (.l2i, 1) := by decide +kernel
theorem d_Group_worth_47 : decode prog_5_method_5_code 47 = .ok (.imul, 1) := by decide +kernel
theorem d_Group_worth_48 : decode prog_5_method_5_code 48 = .ok (.ireturn, 1) := by decide +kernel
theorem d_Group_worth_49 : decode prog_5_method_5_code 49 = .ok (.aload_n 1, 1) := by decide +kernel
theorem d_Group_worth_50 : decode prog_5_method_5_code 50 = .ok (.iload_n 2, 1) := by decide +kernel
theorem d_Group_worth_51 : decode prog_5_method_5_code 51 = .ok (.invokevirtual 68, 3) := by decide +kernel
theorem d_Group_worth_54 : decode prog_5_method_5_code 54 = .ok (.l2i, 1) := by decide +kernel
theorem d_Group_worth_55 : decode prog_5_method_5_code 55 = .ok (.ireturn, 1) := by decide +kernel
theorem d_Group_worth_56 : decode prog_5_method_5_code 56 = .ok (.aload_n 1, 1) := by decide +kernel
theorem d_Group_worth_57 : decode prog_5_method_5_code 57 = .ok (.iload_n 2, 1) := by decide +kernel
theorem d_Group_worth_58 : decode prog_5_method_5_code 58 = .ok (.aload_n 0, 1) := by decide +kernel
theorem d_Group_worth_59 : decode prog_5_method_5_code 59 = .ok (.getfield 22, 3) := by decide +kernel
theorem d_Group_worth_62 : decode prog_5_method_5_code 62 = .ok (.invokevirtual 44, 3) := by decide +kernel
theorem d_Group_worth_65 : decode prog_5_method_5_code 65 = .ok (.ireturn, 1) := by decide +kernel
theorem d_Bag_timesAt_0 : decode prog_2_method_5_code 0 = .ok (.aload_n 0, 1) := by decide +kernel
theorem d_Bag_timesAt_1 : decode prog_2_method_5_code 1 = .ok (.getfield 22, 3) := by decide +kernel
theorem d_Bag_timesAt_4 : decode prog_2_method_5_code 4 = .ok (.iload_n 1, 1) := by decide +kernel
theorem d_Bag_timesAt_5 : decode prog_2_method_5_code 5 = .ok (.laload, 1) := by decide +kernel
theorem d_Bag_timesAt_6 : decode prog_2_method_5_code 6 = .ok (.lreturn, 1) := by decide +kernel
theorem d_Join_fill_0 : decode prog_6_method_2_code 0 = .ok (.aload_n 2, 1) := by decide +kernel
theorem d_Join_fill_1 : decode prog_6_method_2_code 1 = .ok (.aload_n 0, 1) := by decide +kernel
theorem d_Join_fill_2 : decode prog_6_method_2_code 2 = .ok (.getfield 7, 3) := by decide +kernel
theorem d_Join_fill_5 : decode prog_6_method_2_code 5 = .ok (.getfield 23, 3) := by decide +kernel
theorem d_Join_fill_8 : decode prog_6_method_2_code 8 = .ok (.getfield 29, 3) := by decide +kernel
theorem d_Join_fill_11 : decode prog_6_method_2_code 11 = .ok (.aload_n 0, 1) := by decide +kernel
theorem d_Join_fill_12 : decode prog_6_method_2_code 12 = .ok (.getfield 13, 3) := by decide +kernel
theorem d_Join_fill_15 : decode prog_6_method_2_code 15 = .ok (.getfield 23, 3) := by decide +kernel
theorem d_Join_fill_18 : decode prog_6_method_2_code 18 = .ok (.getfield 29, 3) := by decide +kernel
theorem d_Join_fill_21 : decode prog_6_method_2_code 21 = .ok (.iadd, 1) := by decide +kernel
theorem d_Join_fill_22 : decode prog_6_method_2_code 22 = .ok (.invokevirtual 34, 3) := by decide +kernel
theorem d_Join_fill_25 : decode prog_6_method_2_code 25 = .ok (.iconst 0, 1) := by decide +kernel
theorem d_Join_fill_26 : decode prog_6_method_2_code 26 = .ok (.istore_n 3, 1) := by decide +kernel
theorem d_Join_fill_27 : decode prog_6_method_2_code 27 = .ok (.iload_n 3, 1) := by decide +kernel
theorem d_Join_fill_28 : decode prog_6_method_2_code 28 = .ok (.aload_n 0, 1) := by decide +kernel
theorem d_Join_fill_29 : decode prog_6_method_2_code 29 = .ok (.getfield 7, 3) := by decide +kernel
theorem d_Join_fill_32 : decode prog_6_method_2_code 32 = .ok (.getfield 23, 3) := by decide +kernel
theorem d_Join_fill_35 : decode prog_6_method_2_code 35 = .ok (.getfield 38, 3) := by decide +kernel
theorem d_Join_fill_38 : decode prog_6_method_2_code 38 = .ok (.if_icmp .ge 15, 3) := by decide +kernel
theorem d_Join_fill_41 : decode prog_6_method_2_code 41 = .ok (.aload_n 0, 1) := by decide +kernel
theorem d_Join_fill_42 : decode prog_6_method_2_code 42 = .ok (.iload_n 3, 1) := by decide +kernel
theorem d_Join_fill_43 : decode prog_6_method_2_code 43 = .ok (.aload_n 2, 1) := by decide +kernel
theorem d_Join_fill_44 : decode prog_6_method_2_code 44 = .ok (.invokevirtual 41, 3) := by decide +kernel
theorem d_Join_fill_47 : decode prog_6_method_2_code 47 = .ok (.iinc 3 1, 3) := by decide +kernel
theorem d_Join_fill_50 : decode prog_6_method_2_code 50 = .ok (.goto (-23), 3) := by decide +kernel
theorem d_Join_fill_53 : decode prog_6_method_2_code 53 = .ok (.return_, 1) := by decide +kernel
theorem d_Join_addPartners_0 : decode prog_6_method_3_code 0 = .ok (.aload_n 0, 1) := by decide +kernel
theorem d_Join_addPartners_1 : decode prog_6_method_3_code 1 = .ok (.getfield 7, 3) := by decide +kernel
theorem d_Join_addPartners_4 : decode prog_6_method_3_code 4 = .ok (.getfield 23, 3) := by decide +kernel
theorem d_Join_addPartners_7 : decode prog_6_method_3_code 7 = .ok (.astore_n 3, 1) := by decide +kernel
theorem d_Join_addPartners_8 : decode prog_6_method_3_code 8 = .ok (.aload_n 0, 1) := by decide +kernel
theorem d_Join_addPartners_9 : decode prog_6_method_3_code 9 = .ok (.getfield 13, 3) := by decide +kernel
theorem d_Join_addPartners_12 : decode prog_6_method_3_code 12 = .ok (.getfield 23, 3) := by decide +kernel
theorem d_Join_addPartners_15 : decode prog_6_method_3_code 15 = .ok (.astore 4, 2) := by decide +kernel
theorem d_Join_addPartners_17 : decode prog_6_method_3_code 17 = .ok (.iconst 0, 1) := by decide +kernel
theorem d_Join_addPartners_18 : decode prog_6_method_3_code 18 = .ok (.istore 5, 2) := by decide +kernel
theorem d_Join_addPartners_20 : decode prog_6_method_3_code 20 = .ok (.iload 5, 2) := by decide +kernel
theorem d_Join_addPartners_22 : decode prog_6_method_3_code 22 = .ok (.aload 4, 2) := by decide +kernel
theorem d_Join_addPartners_24 : decode prog_6_method_3_code 24 = .ok (.getfield 38, 3) := by decide +kernel
theorem d_Join_addPartners_27 : decode prog_6_method_3_code 27 = .ok (.if_icmp .ge 68, 3) := by decide +kernel
theorem d_Join_addPartners_30 : decode prog_6_method_3_code 30 = .ok (.aload_n 3, 1) := by decide +kernel
theorem d_Join_addPartners_31 : decode prog_6_method_3_code 31 = .ok (.iload_n 1, 1) := by decide +kernel
theorem d_Join_addPartners_32 : decode prog_6_method_3_code 32 = .ok (.aload_n 0, 1) := by decide +kernel
theorem d_Join_addPartners_33 : decode prog_6_method_3_code 33 = .ok (.getfield 16, 3) := by decide +kernel
theorem d_Join_addPartners_36 : decode prog_6_method_3_code 36 = .ok (.invokevirtual 45, 3) := by decide +kernel
theorem d_Join_addPartners_39 : decode prog_6_method_3_code 39 = .ok (.aload 4, 2) := by decide +kernel
theorem d_Join_addPartners_41 : decode prog_6_method_3_code 41 = .ok (.iload 5, 2) := by decide +kernel
theorem d_Join_addPartners_43 : decode prog_6_method_3_code 43 = .ok (.aload_n 0, 1) := by decide +kernel
theorem d_Join_addPartners_44 : decode prog_6_method_3_code 44 = .ok (.getfield 20, 3) := by decide +kernel
theorem d_Join_addPartners_47 : decode prog_6_method_3_code 47 = .ok (.invokevirtual 45, 3) := by decide +kernel
theorem d_Join_addPartners_50 : decode prog_6_method_3_code 50 = .ok (.if_icmp .ne 39, 3) := by decide +kernel
theorem d_Join_addPartners_53 : decode prog_6_method_3_code 53 = .ok (.aload_n 2, 1) := by decide +kernel
theorem d_Join_addPartners_54 : decode prog_6_method_3_code 54 = .ok (.aload_n 3, 1) := by decide +kernel
theorem d_Join_addPartners_55 : decode prog_6_method_3_code 55 = .ok (.iload_n 1, 1) := by decide +kernel
theorem d_Join_addPartners_56 : decode prog_6_method_3_code 56 = .ok (.iconst 0, 1) := by decide +kernel
theorem d_Join_addPartners_57 : decode prog_6_method_3_code 57 = .ok (.invokevirtual 49, 3) := by decide +kernel
theorem d_Join_addPartners_60 : decode prog_6_method_3_code 60 = .ok (.aload_n 2, 1) := by decide +kernel
theorem d_Join_addPartners_61 : decode prog_6_method_3_code 61 = .ok (.aload 4, 2) := by decide +kernel
theorem d_Join_addPartners_63 : decode prog_6_method_3_code 63 = .ok (.iload 5, 2) := by decide +kernel
theorem d_Join_addPartners_65 : decode prog_6_method_3_code 65 = .ok (.aload_n 3, 1) := by decide +kernel
theorem d_Join_addPartners_66 : decode prog_6_method_3_code 66 = .ok (.getfield 29, 3) := by decide +kernel
theorem d_Join_addPartners_69 : decode prog_6_method_3_code 69 = .ok (.invokevirtual 49, 3) := by decide +kernel
theorem d_Join_addPartners_72 : decode prog_6_method_3_code 72 = .ok (.aload_n 2, 1) := by decide +kernel
theorem d_Join_addPartners_73 : decode prog_6_method_3_code 73 = .ok (.aload_n 3, 1) := by decide +kernel
theorem d_Join_addPartners_74 : decode prog_6_method_3_code 74 = .ok (.iload_n 1, 1) := by decide +kernel
theorem d_Join_addPartners_75 : decode prog_6_method_3_code 75 = .ok (.invokevirtual 53, 3) := by decide +kernel
theorem d_Join_addPartners_78 : decode prog_6_method_3_code 78 = .ok (.aload 4, 2) := by decide +kernel
theorem d_Join_addPartners_80 : decode prog_6_method_3_code 80 = .ok (.iload 5, 2) := by decide +kernel
theorem d_Join_addPartners_82 : decode prog_6_method_3_code 82 = .ok (.invokevirtual 53, 3) := by decide +kernel
theorem d_Join_addPartners_85 : decode prog_6_method_3_code 85 = .ok (.lmul, 1) := by decide +kernel
theorem d_Join_addPartners_86 : decode prog_6_method_3_code 86 = .ok (.invokevirtual 57, 3) := by decide +kernel
theorem d_Join_addPartners_89 : decode prog_6_method_3_code 89 = .ok (.iinc 5 1, 3) := by decide +kernel
theorem d_Join_addPartners_92 : decode prog_6_method_3_code 92 = .ok (.goto (-72), 3) := by decide +kernel
theorem d_Join_addPartners_95 : decode prog_6_method_3_code 95 = .ok (.return_, 1) := by decide +kernel
theorem d_Project_fill_0 : decode prog_8_method_2_code 0 = .ok (.aload_n 0, 1) := by decide +kernel
theorem d_Project_fill_1 : decode prog_8_method_2_code 1 = .ok (.getfield 7, 3) := by decide +kernel
theorem d_Project_fill_4 : decode prog_8_method_2_code 4 = .ok (.getfield 20, 3) := by decide +kernel
theorem d_Project_fill_7 : decode prog_8_method_2_code 7 = .ok (.astore_n 3, 1) := by decide +kernel
theorem d_Project_fill_8 : decode prog_8_method_2_code 8 = .ok (.aload_n 2, 1) := by decide +kernel
theorem d_Project_fill_9 : decode prog_8_method_2_code 9 = .ok (.aload_n 0, 1) := by decide +kernel
theorem d_Project_fill_10 : decode prog_8_method_2_code 10 = .ok (.getfield 13, 3) := by decide +kernel
theorem d_Project_fill_13 : decode prog_8_method_2_code 13 = .ok (.invokevirtual 26, 3) := by decide +kernel
theorem d_Project_fill_16 : decode prog_8_method_2_code 16 = .ok (.iconst 0, 1) := by decide +kernel
theorem d_Project_fill_17 : decode prog_8_method_2_code 17 = .ok (.istore 4, 2) := by decide +kernel
theorem d_Project_fill_19 : decode prog_8_method_2_code 19 = .ok (.iload 4, 2) := by decide +kernel
theorem d_Project_fill_21 : decode prog_8_method_2_code 21 = .ok (.aload_n 3, 1) := by decide +kernel
theorem d_Project_fill_22 : decode prog_8_method_2_code 22 = .ok (.getfield 32, 3) := by decide +kernel
theorem d_Project_fill_25 : decode prog_8_method_2_code 25 = .ok (.if_icmp .ge 58, 3) := by decide +kernel
theorem d_Project_fill_28 : decode prog_8_method_2_code 28 = .ok (.iconst 0, 1) := by decide +kernel
theorem d_Project_fill_29 : decode prog_8_method_2_code 29 = .ok (.istore 5, 2) := by decide +kernel
theorem d_Project_fill_31 : decode prog_8_method_2_code 31 = .ok (.iload 5, 2) := by decide +kernel
theorem d_Project_fill_33 : decode prog_8_method_2_code 33 = .ok (.aload_n 0, 1) := by decide +kernel
theorem d_Project_fill_34 : decode prog_8_method_2_code 34 = .ok (.getfield 13, 3) := by decide +kernel
theorem d_Project_fill_37 : decode prog_8_method_2_code 37 = .ok (.if_icmp .ge 30, 3) := by decide +kernel
theorem d_Project_fill_40 : decode prog_8_method_2_code 40 = .ok (.aload_n 2, 1) := by decide +kernel
theorem d_Project_fill_41 : decode prog_8_method_2_code 41 = .ok (.iload 5, 2) := by decide +kernel
theorem d_Project_fill_43 : decode prog_8_method_2_code 43 = .ok (.aload_n 3, 1) := by decide +kernel
theorem d_Project_fill_44 : decode prog_8_method_2_code 44 = .ok (.iload 4, 2) := by decide +kernel
theorem d_Project_fill_46 : decode prog_8_method_2_code 46 = .ok (.aload_n 0, 1) := by decide +kernel
theorem d_Project_fill_47 : decode prog_8_method_2_code 47 = .ok (.getfield 17, 3) := by decide +kernel
theorem d_Project_fill_50 : decode prog_8_method_2_code 50 = .ok (.iload 5, 2) := by decide +kernel
theorem d_Project_fill_52 : decode prog_8_method_2_code 52 = .ok (.invokestatic 35, 3) := by decide +kernel
theorem d_Project_fill_55 : decode prog_8_method_2_code 55 = .ok (.invokevirtual 41, 3) := by decide +kernel
theorem d_Project_fill_58 : decode prog_8_method_2_code 58 = .ok (.invokevirtual 44, 3) := by decide +kernel
theorem d_Project_fill_61 : decode prog_8_method_2_code 61 = .ok (.iinc 5 1, 3) := by decide +kernel
theorem d_Project_fill_64 : decode prog_8_method_2_code 64 = .ok (.goto (-33), 3) := by decide +kernel
theorem d_Project_fill_67 : decode prog_8_method_2_code 67 = .ok (.aload_n 2, 1) := by decide +kernel
theorem d_Project_fill_68 : decode prog_8_method_2_code 68 = .ok (.aload_n 3, 1) := by decide +kernel
theorem d_Project_fill_69 : decode prog_8_method_2_code 69 = .ok (.iload 4, 2) := by decide +kernel
theorem d_Project_fill_71 : decode prog_8_method_2_code 71 = .ok (.invokevirtual 48, 3) := by decide +kernel
theorem d_Project_fill_74 : decode prog_8_method_2_code 74 = .ok (.invokevirtual 52, 3) := by decide +kernel
theorem d_Project_fill_77 : decode prog_8_method_2_code 77 = .ok (.iinc 4 1, 3) := by decide +kernel
theorem d_Project_fill_80 : decode prog_8_method_2_code 80 = .ok (.goto (-61), 3) := by decide +kernel
theorem d_Project_fill_83 : decode prog_8_method_2_code 83 = .ok (.return_, 1) := by decide +kernel
theorem d_DV_columnInBits_0 : decode prog_1_method_19_code 0 = .ok (.iload_n 0, 1) := by decide +kernel
theorem d_DV_columnInBits_1 : decode prog_1_method_19_code 1 = .ok (.iconst 4, 1) := by decide +kernel
theorem d_DV_columnInBits_2 : decode prog_1_method_19_code 2 = .ok (.iload_n 1, 1) := by decide +kernel
theorem d_DV_columnInBits_3 : decode prog_1_method_19_code 3 = .ok (.imul, 1) := by decide +kernel
theorem d_DV_columnInBits_4 : decode prog_1_method_19_code 4 = .ok (.ishr, 1) := by decide +kernel
theorem d_DV_columnInBits_5 : decode prog_1_method_19_code 5 = .ok (.bipush 15, 2) := by decide +kernel
theorem d_DV_columnInBits_7 : decode prog_1_method_19_code 7 = .ok (.iand, 1) := by decide +kernel
theorem d_DV_columnInBits_8 : decode prog_1_method_19_code 8 = .ok (.ireturn, 1) := by decide +kernel
theorem d_Select_fill_0 : decode prog_9_method_2_code 0 = .ok (.aload_n 0, 1) := by decide +kernel
theorem d_Select_fill_1 : decode prog_9_method_2_code 1 = .ok (.getfield 9, 3) := by decide +kernel
theorem d_Select_fill_4 : decode prog_9_method_2_code 4 = .ok (.getfield 25, 3) := by decide +kernel
theorem d_Select_fill_7 : decode prog_9_method_2_code 7 = .ok (.astore_n 3, 1) := by decide +kernel
theorem d_Select_fill_8 : decode prog_9_method_2_code 8 = .ok (.aload_n 2, 1) := by decide +kernel
theorem d_Select_fill_9 : decode prog_9_method_2_code 9 = .ok (.aload_n 3, 1) := by decide +kernel
theorem d_Select_fill_10 : decode prog_9_method_2_code 10 = .ok (.getfield 31, 3) := by decide +kernel
theorem d_Select_fill_13 : decode prog_9_method_2_code 13 = .ok (.invokevirtual 36, 3) := by decide +kernel
theorem d_Select_fill_16 : decode prog_9_method_2_code 16 = .ok (.iconst 0, 1) := by decide +kernel
theorem d_Select_fill_17 : decode prog_9_method_2_code 17 = .ok (.istore 4, 2) := by decide +kernel
theorem d_Select_fill_19 : decode prog_9_method_2_code 19 = .ok (.iload 4, 2) := by decide +kernel
theorem d_Select_fill_21 : decode prog_9_method_2_code 21 = .ok (.aload_n 3, 1) := by decide +kernel
theorem d_Select_fill_22 : decode prog_9_method_2_code 22 = .ok (.getfield 40, 3) := by decide +kernel
theorem d_Select_fill_25 : decode prog_9_method_2_code 25 = .ok (.if_icmp .ge 44, 3) := by decide +kernel
theorem d_Select_fill_28 : decode prog_9_method_2_code 28 = .ok (.aload_n 0, 1) := by decide +kernel
theorem d_Select_fill_29 : decode prog_9_method_2_code 29 = .ok (.aload_n 3, 1) := by decide +kernel
theorem d_Select_fill_30 : decode prog_9_method_2_code 30 = .ok (.iload 4, 2) := by decide +kernel
theorem d_Select_fill_32 : decode prog_9_method_2_code 32 = .ok (.aload_n 0, 1) := by decide +kernel
theorem d_Select_fill_33 : decode prog_9_method_2_code 33 = .ok (.getfield 15, 3) := by decide +kernel
theorem d_Select_fill_36 : decode prog_9_method_2_code 36 = .ok (.invokevirtual 43, 3) := by decide +kernel
theorem d_Select_fill_39 : decode prog_9_method_2_code 39 = .ok (.invokevirtual 47, 3) := by decide +kernel
theorem d_Select_fill_42 : decode prog_9_method_2_code 42 = .ok (.ifCond .eq 21, 3) := by decide +kernel
theorem d_Select_fill_45 : decode prog_9_method_2_code 45 = .ok (.aload_n 2, 1) := by decide +kernel
theorem d_Select_fill_46 : decode prog_9_method_2_code 46 = .ok (.aload_n 3, 1) := by decide +kernel
theorem d_Select_fill_47 : decode prog_9_method_2_code 47 = .ok (.iload 4, 2) := by decide +kernel
theorem d_Select_fill_49 : decode prog_9_method_2_code 49 = .ok (.iconst 0, 1) := by decide +kernel
theorem d_Select_fill_50 : decode prog_9_method_2_code 50 = .ok (.invokevirtual 51, 3) := by decide +kernel
theorem d_Select_fill_53 : decode prog_9_method_2_code 53 = .ok (.aload_n 2, 1) := by decide +kernel
theorem d_Select_fill_54 : decode prog_9_method_2_code 54 = .ok (.aload_n 3, 1) := by decide +kernel
theorem d_Select_fill_55 : decode prog_9_method_2_code 55 = .ok (.iload 4, 2) := by decide +kernel
theorem d_Select_fill_57 : decode prog_9_method_2_code 57 = .ok (.invokevirtual 55, 3) := by decide +kernel
theorem d_Select_fill_60 : decode prog_9_method_2_code 60 = .ok (.invokevirtual 59, 3) := by decide +kernel
theorem d_Select_fill_63 : decode prog_9_method_2_code 63 = .ok (.iinc 4 1, 3) := by decide +kernel
theorem d_Select_fill_66 : decode prog_9_method_2_code 66 = .ok (.goto (-47), 3) := by decide +kernel
theorem d_Select_fill_69 : decode prog_9_method_2_code 69 = .ok (.return_, 1) := by decide +kernel
theorem d_Select_passes_0 : decode prog_9_method_3_code 0 = .ok (.aload_n 0, 1) := by decide +kernel
theorem d_Select_passes_1 : decode prog_9_method_3_code 1 = .ok (.getfield 19, 3) := by decide +kernel
theorem d_Select_passes_4 : decode prog_9_method_3_code 4 = .ok (.lookupswitch 56 #[(0, 28), (1, 42)], 28) := by decide +kernel
theorem d_Select_passes_32 : decode prog_9_method_3_code 32 = .ok (.iload_n 1, 1) := by decide +kernel
theorem d_Select_passes_33 : decode prog_9_method_3_code 33 = .ok (.aload_n 0, 1) := by decide +kernel
theorem d_Select_passes_34 : decode prog_9_method_3_code 34 = .ok (.getfield 22, 3) := by decide +kernel
theorem d_Select_passes_37 : decode prog_9_method_3_code 37 = .ok (.if_icmp .ge 7, 3) := by decide +kernel
theorem d_Select_passes_40 : decode prog_9_method_3_code 40 = .ok (.iconst 1, 1) := by decide +kernel
theorem d_Select_passes_41 : decode prog_9_method_3_code 41 = .ok (.goto 4, 3) := by decide +kernel
theorem d_Select_passes_44 : decode prog_9_method_3_code 44 = .ok (.iconst 0, 1) := by decide +kernel
theorem d_Select_passes_45 : decode prog_9_method_3_code 45 = .ok (.ireturn, 1) := by decide +kernel
theorem d_Select_passes_46 : decode prog_9_method_3_code 46 = .ok (.iload_n 1, 1) := by decide +kernel
theorem d_Select_passes_47 : decode prog_9_method_3_code 47 = .ok (.aload_n 0, 1) := by decide +kernel
theorem d_Select_passes_48 : decode prog_9_method_3_code 48 = .ok (.getfield 22, 3) := by decide +kernel
theorem d_Select_passes_51 : decode prog_9_method_3_code 51 = .ok (.if_icmp .ne 7, 3) := by decide +kernel
theorem d_Select_passes_54 : decode prog_9_method_3_code 54 = .ok (.iconst 1, 1) := by decide +kernel
theorem d_Select_passes_55 : decode prog_9_method_3_code 55 = .ok (.goto 4, 3) := by decide +kernel
theorem d_Select_passes_58 : decode prog_9_method_3_code 58 = .ok (.iconst 0, 1) := by decide +kernel
theorem d_Select_passes_59 : decode prog_9_method_3_code 59 = .ok (.ireturn, 1) := by decide +kernel
theorem d_Select_passes_60 : decode prog_9_method_3_code 60 = .ok (.iload_n 1, 1) := by decide +kernel
theorem d_Select_passes_61 : decode prog_9_method_3_code 61 = .ok (.aload_n 0, 1) := by decide +kernel
theorem d_Select_passes_62 : decode prog_9_method_3_code 62 = .ok (.getfield 22, 3) := by decide +kernel
theorem d_Select_passes_65 : decode prog_9_method_3_code 65 = .ok (.if_icmp .le 7, 3) := by decide +kernel
theorem d_Select_passes_68 : decode prog_9_method_3_code 68 = .ok (.iconst 1, 1) := by decide +kernel
theorem d_Select_passes_69 : decode prog_9_method_3_code 69 = .ok (.goto 4, 3) := by decide +kernel
theorem d_Select_passes_72 : decode prog_9_method_3_code 72 = .ok (.iconst 0, 1) := by decide +kernel
theorem d_Select_passes_73 : decode prog_9_method_3_code 73 = .ok (.ireturn, 1) := by decide +kernel
theorem d_Table_fill_0 : decode prog_10_method_2_code 0 = .ok (.aload_n 2, 1) := by decide +kernel
theorem d_Table_fill_1 : decode prog_10_method_2_code 1 = .ok (.aload_n 1, 1) := by decide +kernel
theorem d_Table_fill_2 : decode prog_10_method_2_code 2 = .ok (.invokevirtual 9, 3) := by decide +kernel
theorem d_Table_fill_5 : decode prog_10_method_2_code 5 = .ok (.return_, 1) := by decide +kernel
theorem d_Bag_copy_0 : decode prog_2_method_3_code 0 = .ok (.aload_n 0, 1) := by decide +kernel
theorem d_Bag_copy_1 : decode prog_2_method_3_code 1 = .ok (.aload_n 1, 1) := by decide +kernel
theorem d_Bag_copy_2 : decode prog_2_method_3_code 2 = .ok (.getfield 9, 3) := by decide +kernel
theorem d_Bag_copy_5 : decode prog_2_method_3_code 5 = .ok (.putfield 9, 3) := by decide +kernel
theorem d_Bag_copy_8 : decode prog_2_method_3_code 8 = .ok (.aload_n 0, 1) := by decide +kernel
theorem d_Bag_copy_9 : decode prog_2_method_3_code 9 = .ok (.aload_n 1, 1) := by decide +kernel
theorem d_Bag_copy_10 : decode prog_2_method_3_code 10 = .ok (.getfield 15, 3) := by decide +kernel
theorem d_Bag_copy_13 : decode prog_2_method_3_code 13 = .ok (.putfield 15, 3) := by decide +kernel
theorem d_Bag_copy_16 : decode prog_2_method_3_code 16 = .ok (.aload_n 1, 1) := by decide +kernel
theorem d_Bag_copy_17 : decode prog_2_method_3_code 17 = .ok (.getfield 18, 3) := by decide +kernel
theorem d_Bag_copy_20 : decode prog_2_method_3_code 20 = .ok (.iconst 0, 1) := by decide +kernel
theorem d_Bag_copy_21 : decode prog_2_method_3_code 21 = .ok (.aload_n 0, 1) := by decide +kernel
theorem d_Bag_copy_22 : decode prog_2_method_3_code 22 = .ok (.getfield 18, 3) := by decide +kernel
theorem d_Bag_copy_25 : decode prog_2_method_3_code 25 = .ok (.iconst 0, 1) := by decide +kernel
theorem d_Bag_copy_26 : decode prog_2_method_3_code 26 = .ok (.aload_n 0, 1) := by decide +kernel
theorem d_Bag_copy_27 : decode prog_2_method_3_code 27 = .ok (.getfield 15, 3) := by decide +kernel
theorem d_Bag_copy_30 : decode prog_2_method_3_code 30 = .ok (.iconst 4, 1) := by decide +kernel
theorem d_Bag_copy_31 : decode prog_2_method_3_code 31 = .ok (.imul, 1) := by decide +kernel
theorem d_Bag_copy_32 : decode prog_2_method_3_code 32 = .ok (.invokestatic 29, 3) := by decide +kernel
theorem d_Bag_copy_35 : decode prog_2_method_3_code 35 = .ok (.aload_n 1, 1) := by decide +kernel
theorem d_Bag_copy_36 : decode prog_2_method_3_code 36 = .ok (.getfield 22, 3) := by decide +kernel
theorem d_Bag_copy_39 : decode prog_2_method_3_code 39 = .ok (.iconst 0, 1) := by decide +kernel
theorem d_Bag_copy_40 : decode prog_2_method_3_code 40 = .ok (.aload_n 0, 1) := by decide +kernel
theorem d_Bag_copy_41 : decode prog_2_method_3_code 41 = .ok (.getfield 22, 3) := by decide +kernel
theorem d_Bag_copy_44 : decode prog_2_method_3_code 44 = .ok (.iconst 0, 1) := by decide +kernel
theorem d_Bag_copy_45 : decode prog_2_method_3_code 45 = .ok (.aload_n 0, 1) := by decide +kernel
theorem d_Bag_copy_46 : decode prog_2_method_3_code 46 = .ok (.getfield 15, 3) := by decide +kernel
theorem d_Bag_copy_49 : decode prog_2_method_3_code 49 = .ok (.invokestatic 29, 3) := by decide +kernel
theorem d_Bag_copy_52 : decode prog_2_method_3_code 52 = .ok (.return_, 1) := by decide +kernel
theorem d_Union_fill_0 : decode prog_11_method_2_code 0 = .ok (.aload_n 2, 1) := by decide +kernel
theorem d_Union_fill_1 : decode prog_11_method_2_code 1 = .ok (.aload_n 0, 1) := by decide +kernel
theorem d_Union_fill_2 : decode prog_11_method_2_code 2 = .ok (.getfield 7, 3) := by decide +kernel
theorem d_Union_fill_5 : decode prog_11_method_2_code 5 = .ok (.getfield 16, 3) := by decide +kernel
theorem d_Union_fill_8 : decode prog_11_method_2_code 8 = .ok (.getfield 22, 3) := by decide +kernel
theorem d_Union_fill_11 : decode prog_11_method_2_code 11 = .ok (.invokevirtual 28, 3) := by decide +kernel
theorem d_Union_fill_14 : decode prog_11_method_2_code 14 = .ok (.aload_n 2, 1) := by decide +kernel
theorem d_Union_fill_15 : decode prog_11_method_2_code 15 = .ok (.aload_n 0, 1) := by decide +kernel
theorem d_Union_fill_16 : decode prog_11_method_2_code 16 = .ok (.getfield 7, 3) := by decide +kernel
theorem d_Union_fill_19 : decode prog_11_method_2_code 19 = .ok (.getfield 16, 3) := by decide +kernel
theorem d_Union_fill_22 : decode prog_11_method_2_code 22 = .ok (.invokevirtual 32, 3) := by decide +kernel
theorem d_Union_fill_25 : decode prog_11_method_2_code 25 = .ok (.aload_n 2, 1) := by decide +kernel
theorem d_Union_fill_26 : decode prog_11_method_2_code 26 = .ok (.aload_n 0, 1) := by decide +kernel
theorem d_Union_fill_27 : decode prog_11_method_2_code 27 = .ok (.getfield 13, 3) := by decide +kernel
theorem d_Union_fill_30 : decode prog_11_method_2_code 30 = .ok (.getfield 16, 3) := by decide +kernel
theorem d_Union_fill_33 : decode prog_11_method_2_code 33 = .ok (.invokevirtual 32, 3) := by decide +kernel
theorem d_Union_fill_36 : decode prog_11_method_2_code 36 = .ok (.return_, 1) := by decide +kernel
theorem d_Bag_addAll_0 : decode prog_2_method_9_code 0 = .ok (.iconst 0, 1) := by decide +kernel
theorem d_Bag_addAll_1 : decode prog_2_method_9_code 1 = .ok (.istore_n 2, 1) := by decide +kernel
theorem d_Bag_addAll_2 : decode prog_2_method_9_code 2 = .ok (.iload_n 2, 1) := by decide +kernel
theorem d_Bag_addAll_3 : decode prog_2_method_9_code 3 = .ok (.aload_n 1, 1) := by decide +kernel
theorem d_Bag_addAll_4 : decode prog_2_method_9_code 4 = .ok (.getfield 15, 3) := by decide +kernel
theorem d_Bag_addAll_7 : decode prog_2_method_9_code 7 = .ok (.if_icmp .ge 25, 3) := by decide +kernel
theorem d_Bag_addAll_10 : decode prog_2_method_9_code 10 = .ok (.aload_n 0, 1) := by decide +kernel
theorem d_Bag_addAll_11 : decode prog_2_method_9_code 11 = .ok (.aload_n 1, 1) := by decide +kernel
theorem d_Bag_addAll_12 : decode prog_2_method_9_code 12 = .ok (.iload_n 2, 1) := by decide +kernel
theorem d_Bag_addAll_13 : decode prog_2_method_9_code 13 = .ok (.iconst 0, 1) := by decide +kernel
theorem d_Bag_addAll_14 : decode prog_2_method_9_code 14 = .ok (.invokevirtual 59, 3) := by decide +kernel
theorem d_Bag_addAll_17 : decode prog_2_method_9_code 17 = .ok (.aload_n 0, 1) := by decide +kernel
theorem d_Bag_addAll_18 : decode prog_2_method_9_code 18 = .ok (.aload_n 1, 1) := by decide +kernel
theorem d_Bag_addAll_19 : decode prog_2_method_9_code 19 = .ok (.iload_n 2, 1) := by decide +kernel
theorem d_Bag_addAll_20 : decode prog_2_method_9_code 20 = .ok (.invokevirtual 63, 3) := by decide +kernel
theorem d_Bag_addAll_23 : decode prog_2_method_9_code 23 = .ok (.invokevirtual 67, 3) := by decide +kernel
theorem d_Bag_addAll_26 : decode prog_2_method_9_code 26 = .ok (.iinc 2 1, 3) := by decide +kernel
theorem d_Bag_addAll_29 : decode prog_2_method_9_code 29 = .ok (.goto (-27), 3) := by decide +kernel
theorem d_Bag_addAll_32 : decode prog_2_method_9_code 32 = .ok (.return_, 1) := by decide +kernel
theorem d_Batch_addTo_0 : decode prog_3_method_5_code 0 = .ok (.iconst 0, 1) := by decide +kernel
theorem d_Batch_addTo_1 : decode prog_3_method_5_code 1 = .ok (.istore_n 3, 1) := by decide +kernel
theorem d_Batch_addTo_2 : decode prog_3_method_5_code 2 = .ok (.iload_n 3, 1) := by decide +kernel
theorem d_Batch_addTo_3 : decode prog_3_method_5_code 3 = .ok (.aload_n 0, 1) := by decide +kernel
theorem d_Batch_addTo_4 : decode prog_3_method_5_code 4 = .ok (.getfield 24, 3) := by decide +kernel
theorem d_Batch_addTo_7 : decode prog_3_method_5_code 7 = .ok (.if_icmp .ge 52, 3) := by decide +kernel
theorem d_Batch_addTo_10 : decode prog_3_method_5_code 10 = .ok (.aload_n 0, 1) := by decide +kernel
theorem d_Batch_addTo_11 : decode prog_3_method_5_code 11 = .ok (.getfield 9, 3) := by decide +kernel
theorem d_Batch_addTo_14 : decode prog_3_method_5_code 14 = .ok (.iload_n 3, 1) := by decide +kernel
theorem d_Batch_addTo_15 : decode prog_3_method_5_code 15 = .ok (.iaload, 1) := by decide +kernel
theorem d_Batch_addTo_16 : decode prog_3_method_5_code 16 = .ok (.iload_n 1, 1) := by decide +kernel
theorem d_Batch_addTo_17 : decode prog_3_method_5_code 17 = .ok (.if_icmp .ne 36, 3) := by decide +kernel
theorem d_Batch_addTo_20 : decode prog_3_method_5_code 20 = .ok (.aload_n 2, 1) := by decide +kernel
theorem d_Batch_addTo_21 : decode prog_3_method_5_code 21 = .ok (.iconst 0, 1) := by decide +kernel
theorem d_Batch_addTo_22 : decode prog_3_method_5_code 22 = .ok (.aload_n 0, 1) := by decide +kernel
theorem d_Batch_addTo_23 : decode prog_3_method_5_code 23 = .ok (.getfield 15, 3) := by decide +kernel
theorem d_Batch_addTo_26 : decode prog_3_method_5_code 26 = .ok (.iload_n 3, 1) := by decide +kernel
theorem d_Batch_addTo_27 : decode prog_3_method_5_code 27 = .ok (.iaload, 1) := by decide +kernel
theorem d_Batch_addTo_28 : decode prog_3_method_5_code 28 = .ok (.invokevirtual 28, 3) := by decide +kernel
theorem d_Batch_addTo_31 : decode prog_3_method_5_code 31 = .ok (.aload_n 2, 1) := by decide +kernel
theorem d_Batch_addTo_32 : decode prog_3_method_5_code 32 = .ok (.iconst 1, 1) := by decide +kernel
theorem d_Batch_addTo_33 : decode prog_3_method_5_code 33 = .ok (.aload_n 0, 1) := by decide +kernel
theorem d_Batch_addTo_34 : decode prog_3_method_5_code 34 = .ok (.getfield 18, 3) := by decide +kernel
theorem d_Batch_addTo_37 : decode prog_3_method_5_code 37 = .ok (.iload_n 3, 1) := by decide +kernel
theorem d_Batch_addTo_38 : decode prog_3_method_5_code 38 = .ok (.iaload, 1) := by decide +kernel
theorem d_Batch_addTo_39 : decode prog_3_method_5_code 39 = .ok (.invokevirtual 28, 3) := by decide +kernel
theorem d_Batch_addTo_42 : decode prog_3_method_5_code 42 = .ok (.aload_n 2, 1) := by decide +kernel
theorem d_Batch_addTo_43 : decode prog_3_method_5_code 43 = .ok (.aload_n 0, 1) := by decide +kernel
theorem d_Batch_addTo_44 : decode prog_3_method_5_code 44 = .ok (.getfield 21, 3) := by decide +kernel
theorem d_Batch_addTo_47 : decode prog_3_method_5_code 47 = .ok (.iload_n 3, 1) := by decide +kernel
theorem d_Batch_addTo_48 : decode prog_3_method_5_code 48 = .ok (.iaload, 1) := by decide +kernel
theorem d_Batch_addTo_49 : decode prog_3_method_5_code 49 = .ok (.i2l, 1) := by decide +kernel
theorem d_Batch_addTo_50 : decode prog_3_method_5_code 50 = .ok (.invokevirtual 34, 3) := by decide +kernel
theorem d_Batch_addTo_53 : decode prog_3_method_5_code 53 = .ok (.iinc 3 1, 3) := by decide +kernel
theorem d_Batch_addTo_56 : decode prog_3_method_5_code 56 = .ok (.goto (-54), 3) := by decide +kernel
theorem d_Batch_addTo_59 : decode prog_3_method_5_code 59 = .ok (.return_, 1) := by decide +kernel
theorem d_View_keepsLimits_0 : decode prog_12_method_5_code 0 = .ok (.aload_n 0, 1) := by decide +kernel
theorem d_View_keepsLimits_1 : decode prog_12_method_5_code 1 = .ok (.getfield 23, 3) := by decide +kernel
theorem d_View_keepsLimits_4 : decode prog_12_method_5_code 4 = .ok (.aload_n 0, 1) := by decide +kernel
theorem d_View_keepsLimits_5 : decode prog_12_method_5_code 5 = .ok (.getfield 10, 3) := by decide +kernel
theorem d_View_keepsLimits_8 : decode prog_12_method_5_code 8 = .ok (.invokevirtual 36, 3) := by decide +kernel
theorem d_View_keepsLimits_11 : decode prog_12_method_5_code 11 = .ok (.ireturn, 1) := by decide +kernel
theorem d_Table_allows_0 : decode prog_10_method_3_code 0 = .ok (.aload_n 1, 1) := by decide +kernel
theorem d_Table_allows_1 : decode prog_10_method_3_code 1 = .ok (.getfield 15, 3) := by decide +kernel
theorem d_Table_allows_4 : decode prog_10_method_3_code 4 = .ok (.bipush 8, 2) := by decide +kernel
theorem d_Table_allows_6 : decode prog_10_method_3_code 6 = .ok (.if_icmp .gt 17, 3) := by decide +kernel
theorem d_Table_allows_9 : decode prog_10_method_3_code 9 = .ok (.aload_n 1, 1) := by decide +kernel
theorem d_Table_allows_10 : decode prog_10_method_3_code 10 = .ok (.iconst 1, 1) := by decide +kernel
theorem d_Table_allows_11 : decode prog_10_method_3_code 11 = .ok (.bipush 99, 2) := by decide +kernel
theorem d_Table_allows_13 : decode prog_10_method_3_code 13 = .ok (.invokevirtual 19, 3) := by decide +kernel
theorem d_Table_allows_16 : decode prog_10_method_3_code 16 = .ok (.ifCond .ne 7, 3) := by decide +kernel
theorem d_Table_allows_19 : decode prog_10_method_3_code 19 = .ok (.iconst 1, 1) := by decide +kernel
theorem d_Table_allows_20 : decode prog_10_method_3_code 20 = .ok (.goto 4, 3) := by decide +kernel
theorem d_Table_allows_23 : decode prog_10_method_3_code 23 = .ok (.iconst 0, 1) := by decide +kernel
theorem d_Table_allows_24 : decode prog_10_method_3_code 24 = .ok (.ireturn, 1) := by decide +kernel
theorem d_Bag_hasTimesOutside_0 : decode prog_2_method_11_code 0 = .ok (.iconst 0, 1) := by decide +kernel
theorem d_Bag_hasTimesOutside_1 : decode prog_2_method_11_code 1 = .ok (.istore_n 3, 1) := by decide +kernel
theorem d_Bag_hasTimesOutside_2 : decode prog_2_method_11_code 2 = .ok (.iload_n 3, 1) := by decide +kernel
theorem d_Bag_hasTimesOutside_3 : decode prog_2_method_11_code 3 = .ok (.aload_n 0, 1) := by decide +kernel
theorem d_Bag_hasTimesOutside_4 : decode prog_2_method_11_code 4 = .ok (.getfield 15, 3) := by decide +kernel
theorem d_Bag_hasTimesOutside_7 : decode prog_2_method_11_code 7 = .ok (.if_icmp .ge 35, 3) := by decide +kernel
theorem d_Bag_hasTimesOutside_10 : decode prog_2_method_11_code 10 = .ok (.aload_n 0, 1) := by decide +kernel
theorem d_Bag_hasTimesOutside_11 : decode prog_2_method_11_code 11 = .ok (.getfield 22, 3) := by decide +kernel
theorem d_Bag_hasTimesOutside_14 : decode prog_2_method_11_code 14 = .ok (.iload_n 3, 1) := by decide +kernel
theorem d_Bag_hasTimesOutside_15 : decode prog_2_method_11_code 15 = .ok (.laload, 1) := by decide +kernel
theorem d_Bag_hasTimesOutside_16 : decode prog_2_method_11_code 16 = .ok (.iload_n 1, 1) := by decide +kernel
theorem d_Bag_hasTimesOutside_17 : decode prog_2_method_11_code 17 = .ok (.i2l, 1) := by decide +kernel
theorem d_Bag_hasTimesOutside_18 : decode prog_2_method_11_code 18 = .ok (.lcmp, 1) := by decide +kernel
theorem d_Bag_hasTimesOutside_19 : decode prog_2_method_11_code 19 = .ok (.ifCond .lt 15, 3) := by decide +kernel
theorem d_Bag_hasTimesOutside_22 : decode prog_2_method_11_code 22 = .ok (.aload_n 0, 1) := by decide +kernel
theorem d_Bag_hasTimesOutside_23 : decode prog_2_method_11_code 23 = .ok (.getfield 22, 3) := by decide +kernel
theorem d_Bag_hasTimesOutside_26 : decode prog_2_method_11_code 26 = .ok (.iload_n 3, 1) := by decide +kernel
theorem d_Bag_hasTimesOutside_27 : decode prog_2_method_11_code 27 = .ok (.laload, 1) := by decide +kernel
theorem d_Bag_hasTimesOutside_28 : decode prog_2_method_11_code 28 = .ok (.iload_n 2, 1) := by decide +kernel
theorem d_Bag_hasTimesOutside_29 : decode prog_2_method_11_code 29 = .ok (.i2l, 1) := by decide +kernel
theorem d_Bag_hasTimesOutside_30 : decode prog_2_method_11_code 30 = .ok (.lcmp, 1) := by decide +kernel
theorem d_Bag_hasTimesOutside_31 : decode prog_2_method_11_code 31 = .ok (.ifCond .le 5, 3) := by decide +kernel
theorem d_Bag_hasTimesOutside_34 : decode prog_2_method_11_code 34 = .ok (.iconst 1, 1) := by decide +kernel
theorem d_Bag_hasTimesOutside_35 : decode prog_2_method_11_code 35 = .ok (.ireturn, 1) := by decide +kernel
theorem d_Bag_hasTimesOutside_36 : decode prog_2_method_11_code 36 = .ok (.iinc 3 1, 3) := by decide +kernel
theorem d_Bag_hasTimesOutside_39 : decode prog_2_method_11_code 39 = .ok (.goto (-37), 3) := by decide +kernel
theorem d_Bag_hasTimesOutside_42 : decode prog_2_method_11_code 42 = .ok (.iconst 0, 1) := by decide +kernel
theorem d_Bag_hasTimesOutside_43 : decode prog_2_method_11_code 43 = .ok (.ireturn, 1) := by decide +kernel
theorem d_Oper_allows_0 : decode prog_7_method_3_code 0 = .ok (.aload_n 1, 1) := by decide +kernel
theorem d_Oper_allows_1 : decode prog_7_method_3_code 1 = .ok (.getfield 9, 3) := by decide +kernel
theorem d_Oper_allows_4 : decode prog_7_method_3_code 4 = .ok (.bipush 16, 2) := by decide +kernel
theorem d_Oper_allows_6 : decode prog_7_method_3_code 6 = .ok (.if_icmp .gt 7, 3) := by decide +kernel
theorem d_Oper_allows_9 : decode prog_7_method_3_code 9 = .ok (.iconst 1, 1) := by decide +kernel
theorem d_Oper_allows_10 : decode prog_7_method_3_code 10 = .ok (.goto 4, 3) := by decide +kernel
theorem d_Oper_allows_13 : decode prog_7_method_3_code 13 = .ok (.iconst 0, 1) := by decide +kernel
theorem d_Oper_allows_14 : decode prog_7_method_3_code 14 = .ok (.ireturn, 1) := by decide +kernel
theorem d_DV_takeBack_0 : decode prog_1_method_25_code 0 = .ok (.iconst 0, 1) := by decide +kernel
theorem d_DV_takeBack_1 : decode prog_1_method_25_code 1 = .ok (.istore_n 2, 1) := by decide +kernel
theorem d_DV_takeBack_2 : decode prog_1_method_25_code 2 = .ok (.iload_n 2, 1) := by decide +kernel
theorem d_DV_takeBack_3 : decode prog_1_method_25_code 3 = .ok (.iload_n 1, 1) := by decide +kernel
theorem d_DV_takeBack_4 : decode prog_1_method_25_code 4 = .ok (.if_icmp .gt 18, 3) := by decide +kernel
theorem d_DV_takeBack_7 : decode prog_1_method_25_code 7 = .ok (.aload_n 0, 1) := by decide +kernel
theorem d_DV_takeBack_8 : decode prog_1_method_25_code 8 = .ok (.getfield 11, 3) := by decide +kernel
theorem d_DV_takeBack_11 : decode prog_1_method_25_code 11 = .ok (.iload_n 2, 1) := by decide +kernel
theorem d_DV_takeBack_12 : decode prog_1_method_25_code 12 = .ok (.aaload, 1) := by decide +kernel
theorem d_DV_takeBack_13 : decode prog_1_method_25_code 13 = .ok (.invokevirtual 192, 3) := by decide +kernel
theorem d_DV_takeBack_16 : decode prog_1_method_25_code 16 = .ok (.iinc 2 1, 3) := by decide +kernel
theorem d_DV_takeBack_19 : decode prog_1_method_25_code 19 = .ok (.goto (-17), 3) := by decide +kernel
theorem d_DV_takeBack_22 : decode prog_1_method_25_code 22 = .ok (.return_, 1) := by decide +kernel
theorem d_View_countMoved_0 : decode prog_12_method_6_code 0 = .ok (.aload_n 0, 1) := by decide +kernel
theorem d_View_countMoved_1 : decode prog_12_method_6_code 1 = .ok (.aload_n 0, 1) := by decide +kernel
theorem d_View_countMoved_2 : decode prog_12_method_6_code 2 = .ok (.getfield 10, 3) := by decide +kernel
theorem d_View_countMoved_5 : decode prog_12_method_6_code 5 = .ok (.aload_n 0, 1) := by decide +kernel
theorem d_View_countMoved_6 : decode prog_12_method_6_code 6 = .ok (.getfield 16, 3) := by decide +kernel
theorem d_View_countMoved_9 : decode prog_12_method_6_code 9 = .ok (.invokevirtual 40, 3) := by decide +kernel
theorem d_View_countMoved_12 : decode prog_12_method_6_code 12 = .ok (.putfield 19, 3) := by decide +kernel
theorem d_View_countMoved_15 : decode prog_12_method_6_code 15 = .ok (.return_, 1) := by decide +kernel
theorem d_Bag_differencesFrom_0 : decode prog_2_method_12_code 0 = .ok (.iconst 0, 1) := by decide +kernel
theorem d_Bag_differencesFrom_1 : decode prog_2_method_12_code 1 = .ok (.istore_n 2, 1) := by decide +kernel
theorem d_Bag_differencesFrom_2 : decode prog_2_method_12_code 2 = .ok (.iconst 0, 1) := by decide +kernel
theorem d_Bag_differencesFrom_3 : decode prog_2_method_12_code 3 = .ok (.istore_n 3, 1) := by decide +kernel
theorem d_Bag_differencesFrom_4 : decode prog_2_method_12_code 4 = .ok (.iconst 0, 1) := by decide +kernel
theorem d_Bag_differencesFrom_5 : decode prog_2_method_12_code 5 = .ok (.istore 4, 2) := by decide +kernel
theorem d_Bag_differencesFrom_7 : decode prog_2_method_12_code 7 = .ok (.iload_n 3, 1) := by decide +kernel
theorem d_Bag_differencesFrom_8 : decode prog_2_method_12_code 8 = .ok (.aload_n 0, 1) := by decide +kernel
theorem d_Bag_differencesFrom_9 : decode prog_2_method_12_code 9 = .ok (.getfield 15, 3) := by decide +kernel
theorem d_Bag_differencesFrom_12 : decode prog_2_method_12_code 12 = .ok (.if_icmp .lt 12, 3) := by decide +kernel
theorem d_Bag_differencesFrom_15 : decode prog_2_method_12_code 15 = .ok (.iload 4, 2) := by decide +kernel
theorem d_Bag_differencesFrom_17 : decode prog_2_method_12_code 17 = .ok (.aload_n 1, 1) := by decide +kernel
theorem d_Bag_differencesFrom_18 : decode prog_2_method_12_code 18 = .ok (.getfield 15, 3) := by decide +kernel
theorem d_Bag_differencesFrom_21 : decode prog_2_method_12_code 21 = .ok (.if_icmp .ge 57, 3) := by decide +kernel
theorem d_Bag_differencesFrom_24 : decode prog_2_method_12_code 24 = .ok (.aload_n 0, 1) := by decide +kernel
theorem d_Bag_differencesFrom_25 : decode prog_2_method_12_code 25 = .ok (.iload_n 3, 1) := by decide +kernel
theorem d_Bag_differencesFrom_26 : decode prog_2_method_12_code 26 = .ok (.aload_n 1, 1) := by decide +kernel
theorem d_Bag_differencesFrom_27 : decode prog_2_method_12_code 27 = .ok (.iload 4, 2) := by decide +kernel
theorem d_Bag_differencesFrom_29 : decode prog_2_method_12_code 29 = .ok (.invokevirtual 71, 3) := by decide +kernel
theorem d_Bag_differencesFrom_32 : decode prog_2_method_12_code 32 = .ok (.istore 5, 2) := by decide +kernel
theorem d_Bag_differencesFrom_34 : decode prog_2_method_12_code 34 = .ok (.iload 5, 2) := by decide +kernel
theorem d_Bag_differencesFrom_36 : decode prog_2_method_12_code 36 = .ok (.ifCond .ne 20, 3) := by decide +kernel
theorem d_Bag_differencesFrom_39 : decode prog_2_method_12_code 39 = .ok (.aload_n 0, 1) := by decide +kernel
theorem d_Bag_differencesFrom_40 : decode prog_2_method_12_code 40 = .ok (.getfield 22, 3) := by decide +kernel
theorem d_Bag_differencesFrom_43 : decode prog_2_method_12_code 43 = .ok (.iload_n 3, 1) := by decide +kernel
theorem d_Bag_differencesFrom_44 : decode prog_2_method_12_code 44 = .ok (.laload, 1) := by decide +kernel
theorem d_Bag_differencesFrom_45 : decode prog_2_method_12_code 45 = .ok (.aload_n 1, 1) := by decide +kernel
theorem d_Bag_differencesFrom_46 : decode prog_2_method_12_code 46 = .ok (.getfield 22, 3) := by decide +kernel
theorem d_Bag_differencesFrom_49 : decode prog_2_method_12_code 49 = .ok (.iload 4, 2) := by decide +kernel
theorem d_Bag_differencesFrom_51 : decode prog_2_method_12_code 51 = .ok (.laload, 1) := by decide +kernel
theorem d_Bag_differencesFrom_52 : decode prog_2_method_12_code 52 = .ok (.lcmp, 1) := by decide +kernel
theorem d_Bag_differencesFrom_53 : decode prog_2_method_12_code 53 = .ok (.ifCond .eq 6, 3) := by decide +kernel
theorem d_Bag_differencesFrom_56 : decode prog_2_method_12_code 56 = .ok (.iinc 2 1, 3) := by decide +kernel
theorem d_Bag_differencesFrom_59 : decode prog_2_method_12_code 59 = .ok (.iload 5, 2) := by decide +kernel
theorem d_Bag_differencesFrom_61 : decode prog_2_method_12_code 61 = .ok (.ifCond .gt 6, 3) := by decide +kernel
theorem d_Bag_differencesFrom_64 : decode prog_2_method_12_code 64 = .ok (.iinc 3 1, 3) := by decide +kernel
theorem d_Bag_differencesFrom_67 : decode prog_2_method_12_code 67 = .ok (.iload 5, 2) := by decide +kernel
theorem d_Bag_differencesFrom_69 : decode prog_2_method_12_code 69 = .ok (.ifCond .lt 6, 3) := by decide +kernel
theorem d_Bag_differencesFrom_72 : decode prog_2_method_12_code 72 = .ok (.iinc 4 1, 3) := by decide +kernel
theorem d_Bag_differencesFrom_75 : decode prog_2_method_12_code 75 = .ok (.goto (-68), 3) := by decide +kernel
theorem d_Bag_differencesFrom_78 : decode prog_2_method_12_code 78 = .ok (.iload_n 2, 1) := by decide +kernel
theorem d_Bag_differencesFrom_79 : decode prog_2_method_12_code 79 = .ok (.ireturn, 1) := by decide +kernel
theorem d_Bag_orderOfRows_0 : decode prog_2_method_13_code 0 = .ok (.iload_n 1, 1) := by decide +kernel
theorem d_Bag_orderOfRows_1 : decode prog_2_method_13_code 1 = .ok (.aload_n 0, 1) := by decide +kernel
theorem d_Bag_orderOfRows_2 : decode prog_2_method_13_code 2 = .ok (.getfield 15, 3) := by decide +kernel
theorem d_Bag_orderOfRows_5 : decode prog_2_method_13_code 5 = .ok (.if_icmp .ge 11, 3) := by decide +kernel
theorem d_Bag_orderOfRows_8 : decode prog_2_method_13_code 8 = .ok (.iload_n 3, 1) := by decide +kernel
theorem d_Bag_orderOfRows_9 : decode prog_2_method_13_code 9 = .ok (.aload_n 2, 1) := by decide +kernel
theorem d_Bag_orderOfRows_10 : decode prog_2_method_13_code 10 = .ok (.getfield 15, 3) := by decide +kernel
theorem d_Bag_orderOfRows_13 : decode prog_2_method_13_code 13 = .ok (.if_icmp .lt 17, 3) := by decide +kernel
theorem d_Bag_orderOfRows_16 : decode prog_2_method_13_code 16 = .ok (.iload_n 1, 1) := by decide +kernel
theorem d_Bag_orderOfRows_17 : decode prog_2_method_13_code 17 = .ok (.aload_n 0, 1) := by decide +kernel
theorem d_Bag_orderOfRows_18 : decode prog_2_method_13_code 18 = .ok (.getfield 15, 3) := by decide +kernel
theorem d_Bag_orderOfRows_21 : decode prog_2_method_13_code 21 = .ok (.if_icmp .ge 7, 3) := by decide +kernel
theorem d_Bag_orderOfRows_24 : decode prog_2_method_13_code 24 = .ok (.iconst (-1), 1) := by decide +kernel
theorem d_Bag_orderOfRows_25 : decode prog_2_method_13_code 25 = .ok (.goto 4, 3) := by decide +kernel
theorem d_Bag_orderOfRows_28 : decode prog_2_method_13_code 28 = .ok (.iconst 1, 1) := by decide +kernel
theorem d_Bag_orderOfRows_29 : decode prog_2_method_13_code 29 = .ok (.ireturn, 1) := by decide +kernel
theorem d_Bag_orderOfRows_30 : decode prog_2_method_13_code 30 = .ok (.aload_n 0, 1) := by decide +kernel
theorem d_Bag_orderOfRows_31 : decode prog_2_method_13_code 31 = .ok (.iload_n 1, 1) := by decide +kernel
theorem d_Bag_orderOfRows_32 : decode prog_2_method_13_code 32 = .ok (.aload_n 2, 1) := by decide +kernel
theorem d_Bag_orderOfRows_33 : decode prog_2_method_13_code 33 = .ok (.getfield 18, 3) := by decide +kernel
theorem d_Bag_orderOfRows_36 : decode prog_2_method_13_code 36 = .ok (.iload_n 3, 1) := by decide +kernel
theorem d_Bag_orderOfRows_37 : decode prog_2_method_13_code 37 = .ok (.iconst 4, 1) := by decide +kernel
theorem d_Bag_orderOfRows_38 : decode prog_2_method_13_code 38 = .ok (.imul, 1) := by decide +kernel
theorem d_Bag_orderOfRows_39 : decode prog_2_method_13_code 39 = .ok (.invokevirtual 75, 3) := by decide +kernel
theorem d_Bag_orderOfRows_42 : decode prog_2_method_13_code 42 = .ok (.ireturn, 1) := by decide +kernel
theorem d_DV_select_0 : decode prog_1_method_5_code 0 = .ok (.aload_n 0, 1) := by decide +kernel
theorem d_DV_select_1 : decode prog_1_method_5_code 1 = .ok (.iload_n 1, 1) := by decide +kernel
theorem d_DV_select_2 : decode prog_1_method_5_code 2 = .ok (.invokevirtual 76, 3) := by decide +kernel
theorem d_DV_select_5 : decode prog_1_method_5_code 5 = .ok (.astore 5, 2) := by decide +kernel
theorem d_DV_select_7 : decode prog_1_method_5_code 7 = .ok (.aload 5, 2) := by decide +kernel
theorem d_DV_select_9 : decode prog_1_method_5_code 9 = .ok (.iload_n 2, 1) := by decide +kernel
theorem d_DV_select_10 : decode prog_1_method_5_code 10 = .ok (.invokestatic 80, 3) := by decide +kernel
theorem d_DV_select_13 : decode prog_1_method_5_code 13 = .ok (.iload_n 3, 1) := by decide +kernel
theorem d_DV_select_14 : decode prog_1_method_5_code 14 = .ok (.ifCond .lt 8, 3) := by decide +kernel
theorem d_DV_select_17 : decode prog_1_method_5_code 17 = .ok (.iload_n 3, 1) := by decide +kernel
theorem d_DV_select_18 : decode prog_1_method_5_code 18 = .ok (.iconst 2, 1) := by decide +kernel
theorem d_DV_select_19 : decode prog_1_method_5_code 19 = .ok (.if_icmp .le 13, 3) := by decide +kernel
theorem d_DV_select_22 : decode prog_1_method_5_code 22 = .ok (.new 43, 3) := by decide +kernel
theorem d_DV_select_25 : decode prog_1_method_5_code 25 = .ok (.dup, 1) := by decide +kernel
theorem d_DV_select_26 : decode prog_1_method_5_code 26 = .ok (.ldc 84, 2) := by decide +kernel
theorem d_DV_select_28 : decode prog_1_method_5_code 28 = .ok (.invokespecial 47, 3) := by decide +kernel
theorem d_DV_select_31 : decode prog_1_method_5_code 31 = .ok (.athrow, 1) := by decide +kernel
theorem d_DV_select_32 : decode prog_1_method_5_code 32 = .ok (.aload_n 0, 1) := by decide +kernel
theorem d_DV_select_33 : decode prog_1_method_5_code 33 = .ok (.new 86, 3) := by decide +kernel
theorem d_DV_select_36 : decode prog_1_method_5_code 36 = .ok (.dup, 1) := by decide +kernel
theorem d_DV_select_37 : decode prog_1_method_5_code 37 = .ok (.aload 5, 2) := by decide +kernel
theorem d_DV_select_39 : decode prog_1_method_5_code 39 = .ok (.iload_n 2, 1) := by decide +kernel
theorem d_DV_select_40 : decode prog_1_method_5_code 40 = .ok (.iload_n 3, 1) := by decide +kernel
theorem d_DV_select_41 : decode prog_1_method_5_code 41 = .ok (.iload 4, 2) := by decide +kernel
theorem d_DV_select_43 : decode prog_1_method_5_code 43 = .ok (.invokespecial 88, 3) := by decide +kernel
theorem d_DV_select_46 : decode prog_1_method_5_code 46 = .ok (.invokevirtual 91, 3) := by decide +kernel
theorem d_DV_select_49 : decode prog_1_method_5_code 49 = .ok (.ireturn, 1) := by decide +kernel
theorem d_DV_viewAt_0 : decode prog_1_method_20_code 0 = .ok (.iload_n 1, 1) := by decide +kernel
theorem d_DV_viewAt_1 : decode prog_1_method_20_code 1 = .ok (.ifCond .lt 11, 3) := by decide +kernel
theorem d_DV_viewAt_4 : decode prog_1_method_20_code 4 = .ok (.iload_n 1, 1) := by decide +kernel
theorem d_DV_viewAt_5 : decode prog_1_method_20_code 5 = .ok (.aload_n 0, 1) := by decide +kernel
theorem d_DV_viewAt_6 : decode prog_1_method_20_code 6 = .ok (.getfield 15, 3) := by decide +kernel
theorem d_DV_viewAt_9 : decode prog_1_method_20_code 9 = .ok (.if_icmp .lt 13, 3) := by decide +kernel
theorem d_DV_viewAt_12 : decode prog_1_method_20_code 12 = .ok (.new 32, 3) := by decide +kernel
theorem d_DV_viewAt_15 : decode prog_1_method_20_code 15 = .ok (.dup, 1) := by decide +kernel
theorem d_DV_viewAt_16 : decode prog_1_method_20_code 16 = .ok (.ldc 162, 2) := by decide +kernel
theorem d_DV_viewAt_18 : decode prog_1_method_20_code 18 = .ok (.invokespecial 36, 3) := by decide +kernel
theorem d_DV_viewAt_21 : decode prog_1_method_20_code 21 = .ok (.athrow, 1) := by decide +kernel
theorem d_DV_viewAt_22 : decode prog_1_method_20_code 22 = .ok (.aload_n 0, 1) := by decide +kernel
theorem d_DV_viewAt_23 : decode prog_1_method_20_code 23 = .ok (.getfield 11, 3) := by decide +kernel
theorem d_DV_viewAt_26 : decode prog_1_method_20_code 26 = .ok (.iload_n 1, 1) := by decide +kernel
theorem d_DV_viewAt_27 : decode prog_1_method_20_code 27 = .ok (.aaload, 1) := by decide +kernel
theorem d_DV_viewAt_28 : decode prog_1_method_20_code 28 = .ok (.areturn, 1) := by decide +kernel
theorem d_DV_needColumn_0 : decode prog_1_method_21_code 0 = .ok (.iload_n 1, 1) := by decide +kernel
theorem d_DV_needColumn_1 : decode prog_1_method_21_code 1 = .ok (.ifCond .lt 14, 3) := by decide +kernel
theorem d_DV_needColumn_4 : decode prog_1_method_21_code 4 = .ok (.iload_n 1, 1) := by decide +kernel
theorem d_DV_needColumn_5 : decode prog_1_method_21_code 5 = .ok (.aload_n 0, 1) := by decide +kernel
theorem d_DV_needColumn_6 : decode prog_1_method_21_code 6 = .ok (.getfield 106, 3) := by decide +kernel
theorem d_DV_needColumn_9 : decode prog_1_method_21_code 9 = .ok (.getfield 110, 3) := by decide +kernel
theorem d_DV_needColumn_12 : decode prog_1_method_21_code 12 = .ok (.if_icmp .lt 13, 3) := by decide +kernel
theorem d_DV_needColumn_15 : decode prog_1_method_21_code 15 = .ok (.new 32, 3) := by decide +kernel
theorem d_DV_needColumn_18 : decode prog_1_method_21_code 18 = .ok (.dup, 1) := by decide +kernel
theorem d_DV_needColumn_19 : decode prog_1_method_21_code 19 = .ok (.ldc 164, 2) := by decide +kernel
theorem d_DV_needColumn_21 : decode prog_1_method_21_code 21 = .ok (.invokespecial 36, 3) := by decide +kernel
theorem d_DV_needColumn_24 : decode prog_1_method_21_code 24 = .ok (.athrow, 1) := by decide +kernel
theorem d_DV_needColumn_25 : decode prog_1_method_21_code 25 = .ok (.return_, 1) := by decide +kernel
theorem d_Select_init_0 : decode prog_9_method_1_code 0 = .ok (.aload_n 0, 1) := by decide +kernel
theorem d_Select_init_1 : decode prog_9_method_1_code 1 = .ok (.invokespecial 3, 3) := by decide +kernel
theorem d_Select_init_4 : decode prog_9_method_1_code 4 = .ok (.aload_n 0, 1) := by decide +kernel
theorem d_Select_init_5 : decode prog_9_method_1_code 5 = .ok (.aload_n 1, 1) := by decide +kernel
theorem d_Select_init_6 : decode prog_9_method_1_code 6 = .ok (.putfield 9, 3) := by decide +kernel
theorem d_Select_init_9 : decode prog_9_method_1_code 9 = .ok (.aload_n 0, 1) := by decide +kernel
theorem d_Select_init_10 : decode prog_9_method_1_code 10 = .ok (.iload_n 2, 1) := by decide +kernel
theorem d_Select_init_11 : decode prog_9_method_1_code 11 = .ok (.putfield 15, 3) := by decide +kernel
theorem d_Select_init_14 : decode prog_9_method_1_code 14 = .ok (.aload_n 0, 1) := by decide +kernel
theorem d_Select_init_15 : decode prog_9_method_1_code 15 = .ok (.iload_n 3, 1) := by decide +kernel
theorem d_Select_init_16 : decode prog_9_method_1_code 16 = .ok (.putfield 19, 3) := by decide +kernel
theorem d_Select_init_19 : decode prog_9_method_1_code 19 = .ok (.aload_n 0, 1) := by decide +kernel
theorem d_Select_init_20 : decode prog_9_method_1_code 20 = .ok (.iload 4, 2) := by decide +kernel
theorem d_Select_init_22 : decode prog_9_method_1_code 22 = .ok (.putfield 22, 3) := by decide +kernel
theorem d_Select_init_25 : decode prog_9_method_1_code 25 = .ok (.return_, 1) := by decide +kernel
theorem d_DV_makeView_0 : decode prog_1_method_23_code 0 = .ok (.aload_n 0, 1) := by decide +kernel
theorem d_DV_makeView_1 : decode prog_1_method_23_code 1 = .ok (.getfield 15, 3) := by decide +kernel
theorem d_DV_makeView_4 : decode prog_1_method_23_code 4 = .ok (.bipush 12, 2) := by decide +kernel
theorem d_DV_makeView_6 : decode prog_1_method_23_code 6 = .ok (.if_icmp .ne 13, 3) := by decide +kernel
theorem d_DV_makeView_9 : decode prog_1_method_23_code 9 = .ok (.new 52, 3) := by decide +kernel
theorem d_DV_makeView_12 : decode prog_1_method_23_code 12 = .ok (.dup, 1) := by decide +kernel
theorem d_DV_makeView_13 : decode prog_1_method_23_code 13 = .ok (.ldc 171, 2) := by decide +kernel
theorem d_DV_makeView_15 : decode prog_1_method_23_code 15 = .ok (.invokespecial 56, 3) := by decide +kernel
theorem d_DV_makeView_18 : decode prog_1_method_23_code 18 = .ok (.athrow, 1) := by decide +kernel
theorem d_DV_makeView_19 : decode prog_1_method_23_code 19 = .ok (.aload_n 0, 1) := by decide +kernel
theorem d_DV_makeView_20 : decode prog_1_method_23_code 20 = .ok (.getfield 11, 3) := by decide +kernel
theorem d_DV_makeView_23 : decode prog_1_method_23_code 23 = .ok (.aload_n 0, 1) := by decide +kernel
theorem d_DV_makeView_24 : decode prog_1_method_23_code 24 = .ok (.getfield 15, 3) := by decide +kernel
theorem d_DV_makeView_27 : decode prog_1_method_23_code 27 = .ok (.aaload, 1) := by decide +kernel
theorem d_DV_makeView_28 : decode prog_1_method_23_code 28 = .ok (.astore_n 2, 1) := by decide +kernel
theorem d_DV_makeView_29 : decode prog_1_method_23_code 29 = .ok (.aload_n 2, 1) := by decide +kernel
theorem d_DV_makeView_30 : decode prog_1_method_23_code 30 = .ok (.aload_n 1, 1) := by decide +kernel
theorem d_DV_makeView_31 : decode prog_1_method_23_code 31 = .ok (.invokevirtual 173, 3) := by decide +kernel
theorem d_DV_makeView_34 : decode prog_1_method_23_code 34 = .ok (.aload_n 2, 1) := by decide +kernel
theorem d_DV_makeView_35 : decode prog_1_method_23_code 35 = .ok (.invokevirtual 176, 3) := by decide +kernel
theorem d_DV_makeView_38 : decode prog_1_method_23_code 38 = .ok (.ifCond .ne 13, 3) := by decide +kernel
theorem d_DV_makeView_41 : decode prog_1_method_23_code 41 = .ok (.new 52, 3) := by decide +kernel
theorem d_DV_makeView_44 : decode prog_1_method_23_code 44 = .ok (.dup, 1) := by decide +kernel
theorem d_DV_makeView_45 : decode prog_1_method_23_code 45 = .ok (.ldc 179, 2) := by decide +kernel
theorem d_DV_makeView_47 : decode prog_1_method_23_code 47 = .ok (.invokespecial 56, 3) := by decide +kernel
theorem d_DV_makeView_50 : decode prog_1_method_23_code 50 = .ok (.athrow, 1) := by decide +kernel
theorem d_DV_makeView_51 : decode prog_1_method_23_code 51 = .ok (.aload_n 0, 1) := by decide +kernel
theorem d_DV_makeView_52 : decode prog_1_method_23_code 52 = .ok (.dup, 1) := by decide +kernel
theorem d_DV_makeView_53 : decode prog_1_method_23_code 53 = .ok (.getfield 15, 3) := by decide +kernel
theorem d_DV_makeView_56 : decode prog_1_method_23_code 56 = .ok (.iconst 1, 1) := by decide +kernel
theorem d_DV_makeView_57 : decode prog_1_method_23_code 57 = .ok (.iadd, 1) := by decide +kernel
theorem d_DV_makeView_58 : decode prog_1_method_23_code 58 = .ok (.putfield 15, 3) := by decide +kernel
theorem d_DV_makeView_61 : decode prog_1_method_23_code 61 = .ok (.aload_n 0, 1) := by decide +kernel
theorem d_DV_makeView_62 : decode prog_1_method_23_code 62 = .ok (.getfield 15, 3) := by decide +kernel
theorem d_DV_makeView_65 : decode prog_1_method_23_code 65 = .ok (.iconst 1, 1) := by decide +kernel
theorem d_DV_makeView_66 : decode prog_1_method_23_code 66 = .ok (.isub, 1) := by decide +kernel
theorem d_DV_makeView_67 : decode prog_1_method_23_code 67 = .ok (.ireturn, 1) := by decide +kernel
theorem d_View_begin_0 : decode prog_12_method_2_code 0 = .ok (.aload_n 0, 1) := by decide +kernel
theorem d_View_begin_1 : decode prog_12_method_2_code 1 = .ok (.aload_n 1, 1) := by decide +kernel
theorem d_View_begin_2 : decode prog_12_method_2_code 2 = .ok (.putfield 23, 3) := by decide +kernel
theorem d_View_begin_5 : decode prog_12_method_2_code 5 = .ok (.aload_n 0, 1) := by decide +kernel
theorem d_View_begin_6 : decode prog_12_method_2_code 6 = .ok (.iconst 0, 1) := by decide +kernel
theorem d_View_begin_7 : decode prog_12_method_2_code 7 = .ok (.putfield 19, 3) := by decide +kernel
theorem d_View_begin_10 : decode prog_12_method_2_code 10 = .ok (.aload_n 0, 1) := by decide +kernel
theorem d_View_begin_11 : decode prog_12_method_2_code 11 = .ok (.getfield 23, 3) := by decide +kernel
theorem d_View_begin_14 : decode prog_12_method_2_code 14 = .ok (.aload_n 0, 1) := by decide +kernel
theorem d_View_begin_15 : decode prog_12_method_2_code 15 = .ok (.getfield 16, 3) := by decide +kernel
theorem d_View_begin_18 : decode prog_12_method_2_code 18 = .ok (.aload_n 0, 1) := by decide +kernel
theorem d_View_begin_19 : decode prog_12_method_2_code 19 = .ok (.getfield 10, 3) := by decide +kernel
theorem d_View_begin_22 : decode prog_12_method_2_code 22 = .ok (.invokevirtual 27, 3) := by decide +kernel
theorem d_View_begin_25 : decode prog_12_method_2_code 25 = .ok (.return_, 1) := by decide +kernel
theorem d_DV_project_0 : decode prog_1_method_6_code 0 = .ok (.aload_n 0, 1) := by decide +kernel
theorem d_DV_project_1 : decode prog_1_method_6_code 1 = .ok (.iload_n 1, 1) := by decide +kernel
theorem d_DV_project_2 : decode prog_1_method_6_code 2 = .ok (.invokevirtual 76, 3) := by decide +kernel
theorem d_DV_project_5 : decode prog_1_method_6_code 5 = .ok (.astore 4, 2) := by decide +kernel
theorem d_DV_project_7 : decode prog_1_method_6_code 7 = .ok (.iload_n 2, 1) := by decide +kernel
theorem d_DV_project_8 : decode prog_1_method_6_code 8 = .ok (.iconst 1, 1) := by decide +kernel
theorem d_DV_project_9 : decode prog_1_method_6_code 9 = .ok (.if_icmp .lt 8, 3) := by decide +kernel
theorem d_DV_project_12 : decode prog_1_method_6_code 12 = .ok (.iload_n 2, 1) := by decide +kernel
theorem d_DV_project_13 : decode prog_1_method_6_code 13 = .ok (.iconst 4, 1) := by decide +kernel
theorem d_DV_project_14 : decode prog_1_method_6_code 14 = .ok (.if_icmp .le 13, 3) := by decide +kernel
theorem d_DV_project_17 : decode prog_1_method_6_code 17 = .ok (.new 43, 3) := by decide +kernel
theorem d_DV_project_20 : decode prog_1_method_6_code 20 = .ok (.dup, 1) := by decide +kernel
theorem d_DV_project_21 : decode prog_1_method_6_code 21 = .ok (.ldc 95, 2) := by decide +kernel
theorem d_DV_project_23 : decode prog_1_method_6_code 23 = .ok (.invokespecial 47, 3) := by decide +kernel
theorem d_DV_project_26 : decode prog_1_method_6_code 26 = .ok (.athrow, 1) := by decide +kernel
theorem d_DV_project_27 : decode prog_1_method_6_code 27 = .ok (.iconst 0, 1) := by decide +kernel
theorem d_DV_project_28 : decode prog_1_method_6_code 28 = .ok (.istore 5, 2) := by decide +kernel
theorem d_DV_project_30 : decode prog_1_method_6_code 30 = .ok (.iload 5, 2) := by decide +kernel
theorem d_DV_project_32 : decode prog_1_method_6_code 32 = .ok (.iload_n 2, 1) := by decide +kernel
theorem d_DV_project_33 : decode prog_1_method_6_code 33 = .ok (.if_icmp .ge 20, 3) := by decide +kernel
theorem d_DV_project_36 : decode prog_1_method_6_code 36 = .ok (.aload 4, 2) := by decide +kernel
theorem d_DV_project_38 : decode prog_1_method_6_code 38 = .ok (.iload_n 3, 1) := by decide +kernel
theorem d_DV_project_39 : decode prog_1_method_6_code 39 = .ok (.iload 5, 2) := by decide +kernel
theorem d_DV_project_41 : decode prog_1_method_6_code 41 = .ok (.invokestatic 97, 3) := by decide +kernel
theorem d_DV_project_44 : decode prog_1_method_6_code 44 = .ok (.invokestatic 80, 3) := by decide +kernel
theorem d_DV_project_47 : decode prog_1_method_6_code 47 = .ok (.iinc 5 1, 3) := by decide +kernel
theorem d_DV_project_50 : decode prog_1_method_6_code 50 = .ok (.goto (-20), 3) := by decide +kernel
theorem d_DV_project_53 : decode prog_1_method_6_code 53 = .ok (.aload_n 0, 1) := by decide +kernel
theorem d_DV_project_54 : decode prog_1_method_6_code 54 = .ok (.new 101, 3) := by decide +kernel
theorem d_DV_project_57 : decode prog_1_method_6_code 57 = .ok (.dup, 1) := by decide +kernel
theorem d_DV_project_58 : decode prog_1_method_6_code 58 = .ok (.aload 4, 2) := by decide +kernel
theorem d_DV_project_60 : decode prog_1_method_6_code 60 = .ok (.iload_n 2, 1) := by decide +kernel
theorem d_DV_project_61 : decode prog_1_method_6_code 61 = .ok (.iload_n 3, 1) := by decide +kernel
theorem d_DV_project_62 : decode prog_1_method_6_code 62 = .ok (.invokespecial 103, 3) := by decide +kernel
theorem d_DV_project_65 : decode prog_1_method_6_code 65 = .ok (.invokevirtual 91, 3) := by decide +kernel
theorem d_DV_project_68 : decode prog_1_method_6_code 68 = .ok (.ireturn, 1) := by decide +kernel
theorem d_Project_init_0 : decode prog_8_method_1_code 0 = .ok (.aload_n 0, 1) := by decide +kernel
theorem d_Project_init_1 : decode prog_8_method_1_code 1 = .ok (.invokespecial 1, 3) := by decide +kernel
theorem d_Project_init_4 : decode prog_8_method_1_code 4 = .ok (.aload_n 0, 1) := by decide +kernel
theorem d_Project_init_5 : decode prog_8_method_1_code 5 = .ok (.aload_n 1, 1) := by decide +kernel
theorem d_Project_init_6 : decode prog_8_method_1_code 6 = .ok (.putfield 7, 3) := by decide +kernel
theorem d_Project_init_9 : decode prog_8_method_1_code 9 = .ok (.aload_n 0, 1) := by decide +kernel
theorem d_Project_init_10 : decode prog_8_method_1_code 10 = .ok (.iload_n 2, 1) := by decide +kernel
theorem d_Project_init_11 : decode prog_8_method_1_code 11 = .ok (.putfield 13, 3) := by decide +kernel
theorem d_Project_init_14 : decode prog_8_method_1_code 14 = .ok (.aload_n 0, 1) := by decide +kernel
theorem d_Project_init_15 : decode prog_8_method_1_code 15 = .ok (.iload_n 3, 1) := by decide +kernel
theorem d_Project_init_16 : decode prog_8_method_1_code 16 = .ok (.putfield 17, 3) := by decide +kernel
theorem d_Project_init_19 : decode prog_8_method_1_code 19 = .ok (.return_, 1) := by decide +kernel
theorem d_DV_join_0 : decode prog_1_method_7_code 0 = .ok (.aload_n 0, 1) := by decide +kernel
theorem d_DV_join_1 : decode prog_1_method_7_code 1 = .ok (.iload_n 1, 1) := by decide +kernel
theorem d_DV_join_2 : decode prog_1_method_7_code 2 = .ok (.invokevirtual 76, 3) := by decide +kernel
theorem d_DV_join_5 : decode prog_1_method_7_code 5 = .ok (.astore 5, 2) := by decide +kernel
theorem d_DV_join_7 : decode prog_1_method_7_code 7 = .ok (.aload_n 0, 1) := by decide +kernel
theorem d_DV_join_8 : decode prog_1_method_7_code 8 = .ok (.iload_n 2, 1) := by decide +kernel
theorem d_DV_join_9 : decode prog_1_method_7_code 9 = .ok (.invokevirtual 76, 3) := by decide +kernel
theorem d_DV_join_12 : decode prog_1_method_7_code 12 = .ok (.astore 6, 2) := by decide +kernel
theorem d_DV_join_14 : decode prog_1_method_7_code 14 = .ok (.aload 5, 2) := by decide +kernel
theorem d_DV_join_16 : decode prog_1_method_7_code 16 = .ok (.iload_n 3, 1) := by decide +kernel
theorem d_DV_join_17 : decode prog_1_method_7_code 17 = .ok (.invokestatic 80, 3) := by decide +kernel
theorem d_DV_join_20 : decode prog_1_method_7_code 20 = .ok (.aload 6, 2) := by decide +kernel
theorem d_DV_join_22 : decode prog_1_method_7_code 22 = .ok (.iload 4, 2) := by decide +kernel
theorem d_DV_join_24 : decode prog_1_method_7_code 24 = .ok (.invokestatic 80, 3) := by decide +kernel
theorem d_DV_join_27 : decode prog_1_method_7_code 27 = .ok (.aload 5, 2) := by decide +kernel
theorem d_DV_join_29 : decode prog_1_method_7_code 29 = .ok (.getfield 106, 3) := by decide +kernel
theorem d_DV_join_32 : decode prog_1_method_7_code 32 = .ok (.getfield 110, 3) := by decide +kernel
theorem d_DV_join_35 : decode prog_1_method_7_code 35 = .ok (.aload 6, 2) := by decide +kernel
theorem d_DV_join_37 : decode prog_1_method_7_code 37 = .ok (.getfield 106, 3) := by decide +kernel
theorem d_DV_join_40 : decode prog_1_method_7_code 40 = .ok (.getfield 110, 3) := by decide +kernel
theorem d_DV_join_43 : decode prog_1_method_7_code 43 = .ok (.iadd, 1) := by decide +kernel
theorem d_DV_join_44 : decode prog_1_method_7_code 44 = .ok (.iconst 4, 1) := by decide +kernel
theorem d_DV_join_45 : decode prog_1_method_7_code 45 = .ok (.if_icmp .le 13, 3) := by decide +kernel
theorem d_DV_join_48 : decode prog_1_method_7_code 48 = .ok (.new 43, 3) := by decide +kernel
theorem d_DV_join_51 : decode prog_1_method_7_code 51 = .ok (.dup, 1) := by decide +kernel
theorem d_DV_join_52 : decode prog_1_method_7_code 52 = .ok (.ldc 115, 2) := by decide +kernel
theorem d_DV_join_54 : decode prog_1_method_7_code 54 = .ok (.invokespecial 47, 3) := by decide +kernel
theorem d_DV_join_57 : decode prog_1_method_7_code 57 = .ok (.athrow, 1) := by decide +kernel
theorem d_DV_join_58 : decode prog_1_method_7_code 58 = .ok (.aload_n 0, 1) := by decide +kernel
theorem d_DV_join_59 : decode prog_1_method_7_code 59 = .ok (.new 117, 3) := by decide +kernel
theorem d_DV_join_62 : decode prog_1_method_7_code 62 = .ok (.dup, 1) := by decide +kernel
theorem d_DV_join_63 : decode prog_1_method_7_code 63 = .ok (.aload 5, 2) := by decide +kernel
theorem d_DV_join_65 : decode prog_1_method_7_code 65 = .ok (.aload 6, 2) := by decide +kernel
theorem d_DV_join_67 : decode prog_1_method_7_code 67 = .ok (.iload_n 3, 1) := by decide +kernel
theorem d_DV_join_68 : decode prog_1_method_7_code 68 = .ok (.iload 4, 2) := by decide +kernel
theorem d_DV_join_70 : decode prog_1_method_7_code 70 = .ok (.invokespecial 119, 3) := by decide +kernel
theorem d_DV_join_73 : decode prog_1_method_7_code 73 = .ok (.invokevirtual 91, 3) := by decide +kernel
theorem d_DV_join_76 : decode prog_1_method_7_code 76 = .ok (.ireturn, 1) := by decide +kernel
theorem d_Join_init_0 : decode prog_6_method_1_code 0 = .ok (.aload_n 0, 1) := by decide +kernel
theorem d_Join_init_1 : decode prog_6_method_1_code 1 = .ok (.invokespecial 1, 3) := by decide +kernel
theorem d_Join_init_4 : decode prog_6_method_1_code 4 = .ok (.aload_n 0, 1) := by decide +kernel
theorem d_Join_init_5 : decode prog_6_method_1_code 5 = .ok (.aload_n 1, 1) := by decide +kernel
theorem d_Join_init_6 : decode prog_6_method_1_code 6 = .ok (.putfield 7, 3) := by decide +kernel
theorem d_Join_init_9 : decode prog_6_method_1_code 9 = .ok (.aload_n 0, 1) := by decide +kernel
theorem d_Join_init_10 : decode prog_6_method_1_code 10 = .ok (.aload_n 2, 1) := by decide +kernel
theorem d_Join_init_11 : decode prog_6_method_1_code 11 = .ok (.putfield 13, 3) := by decide +kernel
theorem d_Join_init_14 : decode prog_6_method_1_code 14 = .ok (.aload_n 0, 1) := by decide +kernel
theorem d_Join_init_15 : decode prog_6_method_1_code 15 = .ok (.iload_n 3, 1) := by decide +kernel
theorem d_Join_init_16 : decode prog_6_method_1_code 16 = .ok (.putfield 16, 3) := by decide +kernel
theorem d_Join_init_19 : decode prog_6_method_1_code 19 = .ok (.aload_n 0, 1) := by decide +kernel
theorem d_Join_init_20 : decode prog_6_method_1_code 20 = .ok (.iload 4, 2) := by decide +kernel
theorem d_Join_init_22 : decode prog_6_method_1_code 22 = .ok (.putfield 20, 3) := by decide +kernel
theorem d_Join_init_25 : decode prog_6_method_1_code 25 = .ok (.return_, 1) := by decide +kernel
theorem d_DV_union_0 : decode prog_1_method_8_code 0 = .ok (.aload_n 0, 1) := by decide +kernel
theorem d_DV_union_1 : decode prog_1_method_8_code 1 = .ok (.iload_n 1, 1) := by decide +kernel
theorem d_DV_union_2 : decode prog_1_method_8_code 2 = .ok (.invokevirtual 76, 3) := by decide +kernel
theorem d_DV_union_5 : decode prog_1_method_8_code 5 = .ok (.astore_n 3, 1) := by decide +kernel
theorem d_DV_union_6 : decode prog_1_method_8_code 6 = .ok (.aload_n 0, 1) := by decide +kernel
theorem d_DV_union_7 : decode prog_1_method_8_code 7 = .ok (.iload_n 2, 1) := by decide +kernel
theorem d_DV_union_8 : decode prog_1_method_8_code 8 = .ok (.invokevirtual 76, 3) := by decide +kernel
theorem d_DV_union_11 : decode prog_1_method_8_code 11 = .ok (.astore 4, 2) := by decide +kernel
theorem d_DV_union_13 : decode prog_1_method_8_code 13 = .ok (.aload_n 3, 1) := by decide +kernel
theorem d_DV_union_14 : decode prog_1_method_8_code 14 = .ok (.getfield 106, 3) := by decide +kernel
theorem d_DV_union_17 : decode prog_1_method_8_code 17 = .ok (.getfield 110, 3) := by decide +kernel
theorem d_DV_union_20 : decode prog_1_method_8_code 20 = .ok (.aload 4, 2) := by decide +kernel
theorem d_DV_union_22 : decode prog_1_method_8_code 22 = .ok (.getfield 106, 3) := by decide +kernel
theorem d_DV_union_25 : decode prog_1_method_8_code 25 = .ok (.getfield 110, 3) := by decide +kernel
theorem d_DV_union_28 : decode prog_1_method_8_code 28 = .ok (.if_icmp .eq 13, 3) := by decide +kernel
theorem d_DV_union_31 : decode prog_1_method_8_code 31 = .ok (.new 43, 3) := by decide +kernel
theorem d_DV_union_34 : decode prog_1_method_8_code 34 = .ok (.dup, 1) := by decide +kernel
theorem d_DV_union_35 : decode prog_1_method_8_code 35 = .ok (.ldc 122, 2) := by decide +kernel
theorem d_DV_union_37 : decode prog_1_method_8_code 37 = .ok (.invokespecial 47, 3) := by decide +kernel
theorem d_DV_union_40 : decode prog_1_method_8_code 40 = .ok (.athrow, 1) := by decide +kernel
theorem d_DV_union_41 : decode prog_1_method_8_code 41 = .ok (.aload_n 0, 1) := by decide +kernel
theorem d_DV_union_42 : decode prog_1_method_8_code 42 = .ok (.new 124, 3) := by decide +kernel
theorem d_DV_union_45 : decode prog_1_method_8_code 45 = .ok (.dup, 1) := by decide +kernel
theorem d_DV_union_46 : decode prog_1_method_8_code 46 = .ok (.aload_n 3, 1) := by decide +kernel
theorem d_DV_union_47 : decode prog_1_method_8_code 47 = .ok (.aload 4, 2) := by decide +kernel
theorem d_DV_union_49 : decode prog_1_method_8_code 49 = .ok (.invokespecial 126, 3) := by decide +kernel
theorem d_DV_union_52 : decode prog_1_method_8_code 52 = .ok (.invokevirtual 91, 3) := by decide +kernel
theorem d_DV_union_55 : decode prog_1_method_8_code 55 = .ok (.ireturn, 1) := by decide +kernel
theorem d_Union_init_0 : decode prog_11_method_1_code 0 = .ok (.aload_n 0, 1) := by decide +kernel
theorem d_Union_init_1 : decode prog_11_method_1_code 1 = .ok (.invokespecial 1, 3) := by decide +kernel
theorem d_Union_init_4 : decode prog_11_method_1_code 4 = .ok (.aload_n 0, 1) := by decide +kernel
theorem d_Union_init_5 : decode prog_11_method_1_code 5 = .ok (.aload_n 1, 1) := by decide +kernel
theorem d_Union_init_6 : decode prog_11_method_1_code 6 = .ok (.putfield 7, 3) := by decide +kernel
theorem d_Union_init_9 : decode prog_11_method_1_code 9 = .ok (.aload_n 0, 1) := by decide +kernel
theorem d_Union_init_10 : decode prog_11_method_1_code 10 = .ok (.aload_n 2, 1) := by decide +kernel
theorem d_Union_init_11 : decode prog_11_method_1_code 11 = .ok (.putfield 13, 3) := by decide +kernel
theorem d_Union_init_14 : decode prog_11_method_1_code 14 = .ok (.return_, 1) := by decide +kernel
theorem d_DV_group_0 : decode prog_1_method_9_code 0 = .ok (.aload_n 0, 1) := by decide +kernel
theorem d_DV_group_1 : decode prog_1_method_9_code 1 = .ok (.iload_n 1, 1) := by decide +kernel
theorem d_DV_group_2 : decode prog_1_method_9_code 2 = .ok (.invokevirtual 76, 3) := by decide +kernel
theorem d_DV_group_5 : decode prog_1_method_9_code 5 = .ok (.astore 5, 2) := by decide +kernel
theorem d_DV_group_7 : decode prog_1_method_9_code 7 = .ok (.aload 5, 2) := by decide +kernel
theorem d_DV_group_9 : decode prog_1_method_9_code 9 = .ok (.iload_n 3, 1) := by decide +kernel
theorem d_DV_group_10 : decode prog_1_method_9_code 10 = .ok (.invokestatic 80, 3) := by decide +kernel
theorem d_DV_group_13 : decode prog_1_method_9_code 13 = .ok (.aload 5, 2) := by decide +kernel
theorem d_DV_group_15 : decode prog_1_method_9_code 15 = .ok (.iload 4, 2) := by decide +kernel
theorem d_DV_group_17 : decode prog_1_method_9_code 17 = .ok (.invokestatic 80, 3) := by decide +kernel
theorem d_DV_group_20 : decode prog_1_method_9_code 20 = .ok (.iload_n 2, 1) := by decide +kernel
theorem d_DV_group_21 : decode prog_1_method_9_code 21 = .ok (.ifCond .lt 8, 3) := by decide +kernel
theorem d_DV_group_24 : decode prog_1_method_9_code 24 = .ok (.iload_n 2, 1) := by decide +kernel
theorem d_DV_group_25 : decode prog_1_method_9_code 25 = .ok (.iconst 2, 1) := by decide +kernel
theorem d_DV_group_26 : decode prog_1_method_9_code 26 = .ok (.if_icmp .le 13, 3) := by decide +kernel
theorem d_DV_group_29 : decode prog_1_method_9_code 29 = .ok (.new 43, 3) := by decide +kernel
theorem d_DV_group_32 : decode prog_1_method_9_code 32 = .ok (.dup, 1) := by decide +kernel
theorem d_DV_group_33 : decode prog_1_method_9_code 33 = .ok (.ldc 129, 2) := by decide +kernel
theorem d_DV_group_35 : decode prog_1_method_9_code 35 = .ok (.invokespecial 47, 3) := by decide +kernel
theorem d_DV_group_38 : decode prog_1_method_9_code 38 = .ok (.athrow, 1) := by decide +kernel
theorem d_DV_group_39 : decode prog_1_method_9_code 39 = .ok (.aload_n 0, 1) := by decide +kernel
theorem d_DV_group_40 : decode prog_1_method_9_code 40 = .ok (.new 131, 3) := by decide +kernel
theorem d_DV_group_43 : decode prog_1_method_9_code 43 = .ok (.dup, 1) := by decide +kernel
theorem d_DV_group_44 : decode prog_1_method_9_code 44 = .ok (.aload 5, 2) := by decide +kernel
theorem d_DV_group_46 : decode prog_1_method_9_code 46 = .ok (.iload_n 2, 1) := by decide +kernel
theorem d_DV_group_47 : decode prog_1_method_9_code 47 = .ok (.iload_n 3, 1) := by decide +kernel
theorem d_DV_group_48 : decode prog_1_method_9_code 48 = .ok (.iload 4, 2) := by decide +kernel
theorem d_DV_group_50 : decode prog_1_method_9_code 50 = .ok (.invokespecial 133, 3) := by decide +kernel
theorem d_DV_group_53 : decode prog_1_method_9_code 53 = .ok (.invokevirtual 91, 3) := by decide +kernel
theorem d_DV_group_56 : decode prog_1_method_9_code 56 = .ok (.ireturn, 1) := by decide +kernel
theorem d_Group_init_0 : decode prog_5_method_1_code 0 = .ok (.aload_n 0, 1) := by decide +kernel
theorem d_Group_init_1 : decode prog_5_method_1_code 1 = .ok (.invokespecial 3, 3) := by decide +kernel
theorem d_Group_init_4 : decode prog_5_method_1_code 4 = .ok (.aload_n 0, 1) := by decide +kernel
theorem d_Group_init_5 : decode prog_5_method_1_code 5 = .ok (.aload_n 1, 1) := by decide +kernel
theorem d_Group_init_6 : decode prog_5_method_1_code 6 = .ok (.putfield 9, 3) := by decide +kernel
theorem d_Group_init_9 : decode prog_5_method_1_code 9 = .ok (.aload_n 0, 1) := by decide +kernel
theorem d_Group_init_10 : decode prog_5_method_1_code 10 = .ok (.iload_n 2, 1) := by decide +kernel
theorem d_Group_init_11 : decode prog_5_method_1_code 11 = .ok (.putfield 15, 3) := by decide +kernel
theorem d_Group_init_14 : decode prog_5_method_1_code 14 = .ok (.aload_n 0, 1) := by decide +kernel
theorem d_Group_init_15 : decode prog_5_method_1_code 15 = .ok (.iload_n 3, 1) := by decide +kernel
theorem d_Group_init_16 : decode prog_5_method_1_code 16 = .ok (.putfield 19, 3) := by decide +kernel
theorem d_Group_init_19 : decode prog_5_method_1_code 19 = .ok (.aload_n 0, 1) := by decide +kernel
theorem d_Group_init_20 : decode prog_5_method_1_code 20 = .ok (.iload 4, 2) := by decide +kernel
theorem d_Group_init_22 : decode prog_5_method_1_code 22 = .ok (.putfield 22, 3) := by decide +kernel
theorem d_Group_init_25 : decode prog_5_method_1_code 25 = .ok (.return_, 1) := by decide +kernel
theorem d_DV_distinct_0 : decode prog_1_method_10_code 0 = .ok (.aload_n 0, 1) := by decide +kernel
theorem d_DV_distinct_1 : decode prog_1_method_10_code 1 = .ok (.new 134, 3) := by decide +kernel
theorem d_DV_distinct_4 : decode prog_1_method_10_code 4 = .ok (.dup, 1) := by decide +kernel
theorem d_DV_distinct_5 : decode prog_1_method_10_code 5 = .ok (.aload_n 0, 1) := by decide +kernel
theorem d_DV_distinct_6 : decode prog_1_method_10_code 6 = .ok (.iload_n 1, 1) := by decide +kernel
theorem d_DV_distinct_7 : decode prog_1_method_10_code 7 = .ok (.invokevirtual 76, 3) := by decide +kernel
theorem d_DV_distinct_10 : decode prog_1_method_10_code 10 = .ok (.invokespecial 136, 3) := by decide +kernel
theorem d_DV_distinct_13 : decode prog_1_method_10_code 13 = .ok (.invokevirtual 91, 3) := by decide +kernel
theorem d_DV_distinct_16 : decode prog_1_method_10_code 16 = .ok (.ireturn, 1) := by decide +kernel
theorem d_Distinct_init_0 : decode prog_4_method_1_code 0 = .ok (.aload_n 0, 1) := by decide +kernel
theorem d_Distinct_init_1 : decode prog_4_method_1_code 1 = .ok (.invokespecial 1, 3) := by decide +kernel
theorem d_Distinct_init_4 : decode prog_4_method_1_code 4 = .ok (.aload_n 0, 1) := by decide +kernel
theorem d_Distinct_init_5 : decode prog_4_method_1_code 5 = .ok (.aload_n 1, 1) := by decide +kernel
theorem d_Distinct_init_6 : decode prog_4_method_1_code 6 = .ok (.putfield 7, 3) := by decide +kernel
theorem d_Distinct_init_9 : decode prog_4_method_1_code 9 = .ok (.return_, 1) := by decide +kernel
theorem d_DV_drop_0 : decode prog_1_method_11_code 0 = .ok (.aload_n 0, 1) := by decide +kernel
theorem d_DV_drop_1 : decode prog_1_method_11_code 1 = .ok (.getfield 15, 3) := by decide +kernel
theorem d_DV_drop_4 : decode prog_1_method_11_code 4 = .ok (.iconst 3, 1) := by decide +kernel
theorem d_DV_drop_5 : decode prog_1_method_11_code 5 = .ok (.if_icmp .ne 13, 3) := by decide +kernel
theorem d_DV_drop_8 : decode prog_1_method_11_code 8 = .ok (.new 52, 3) := by decide +kernel
theorem d_DV_drop_11 : decode prog_1_method_11_code 11 = .ok (.dup, 1) := by decide +kernel
theorem d_DV_drop_12 : decode prog_1_method_11_code 12 = .ok (.ldc 139, 2) := by decide +kernel
theorem d_DV_drop_14 : decode prog_1_method_11_code 14 = .ok (.invokespecial 56, 3) := by decide +kernel
theorem d_DV_drop_17 : decode prog_1_method_11_code 17 = .ok (.athrow, 1) := by decide +kernel
theorem d_DV_drop_18 : decode prog_1_method_11_code 18 = .ok (.aload_n 0, 1) := by decide +kernel
theorem d_DV_drop_19 : decode prog_1_method_11_code 19 = .ok (.dup, 1) := by decide +kernel
theorem d_DV_drop_20 : decode prog_1_method_11_code 20 = .ok (.getfield 15, 3) := by decide +kernel
theorem d_DV_drop_23 : decode prog_1_method_11_code 23 = .ok (.iconst 1, 1) := by decide +kernel
theorem d_DV_drop_24 : decode prog_1_method_11_code 24 = .ok (.isub, 1) := by decide +kernel
theorem d_DV_drop_25 : decode prog_1_method_11_code 25 = .ok (.putfield 15, 3) := by decide +kernel
theorem d_DV_drop_28 : decode prog_1_method_11_code 28 = .ok (.aload_n 0, 1) := by decide +kernel
theorem d_DV_drop_29 : decode prog_1_method_11_code 29 = .ok (.getfield 15, 3) := by decide +kernel
theorem d_DV_drop_32 : decode prog_1_method_11_code 32 = .ok (.ireturn, 1) := by decide +kernel
theorem d_DV_width_0 : decode prog_1_method_12_code 0 = .ok (.aload_n 0, 1) := by decide +kernel
theorem d_DV_width_1 : decode prog_1_method_12_code 1 = .ok (.iload_n 1, 1) := by decide +kernel
theorem d_DV_width_2 : decode prog_1_method_12_code 2 = .ok (.invokevirtual 76, 3) := by decide +kernel
theorem d_DV_width_5 : decode prog_1_method_12_code 5 = .ok (.getfield 106, 3) := by decide +kernel
theorem d_DV_width_8 : decode prog_1_method_12_code 8 = .ok (.getfield 110, 3) := by decide +kernel
theorem d_DV_width_11 : decode prog_1_method_12_code 11 = .ok (.ireturn, 1) := by decide +kernel
theorem d_DV_rows_0 : decode prog_1_method_13_code 0 = .ok (.aload_n 0, 1) := by decide +kernel
theorem d_DV_rows_1 : decode prog_1_method_13_code 1 = .ok (.iload_n 1, 1) := by decide +kernel
theorem d_DV_rows_2 : decode prog_1_method_13_code 2 = .ok (.invokevirtual 76, 3) := by decide +kernel
theorem d_DV_rows_5 : decode prog_1_method_13_code 5 = .ok (.getfield 106, 3) := by decide +kernel
theorem d_DV_rows_8 : decode prog_1_method_13_code 8 = .ok (.getfield 141, 3) := by decide +kernel
theorem d_DV_rows_11 : decode prog_1_method_13_code 11 = .ok (.ireturn, 1) := by decide +kernel
theorem d_DV_cell_0 : decode prog_1_method_14_code 0 = .ok (.aload_n 0, 1) := by decide +kernel
theorem d_DV_cell_1 : decode prog_1_method_14_code 1 = .ok (.iload_n 1, 1) := by decide +kernel
theorem d_DV_cell_2 : decode prog_1_method_14_code 2 = .ok (.invokevirtual 76, 3) := by decide +kernel
theorem d_DV_cell_5 : decode prog_1_method_14_code 5 = .ok (.astore 4, 2) := by decide +kernel
theorem d_DV_cell_7 : decode prog_1_method_14_code 7 = .ok (.aload 4, 2) := by decide +kernel
theorem d_DV_cell_9 : decode prog_1_method_14_code 9 = .ok (.iload_n 3, 1) := by decide +kernel
theorem d_DV_cell_10 : decode prog_1_method_14_code 10 = .ok (.invokestatic 80, 3) := by decide +kernel
theorem d_DV_cell_13 : decode prog_1_method_14_code 13 = .ok (.aload 4, 2) := by decide +kernel
theorem d_DV_cell_15 : decode prog_1_method_14_code 15 = .ok (.iload_n 2, 1) := by decide +kernel
theorem d_DV_cell_16 : decode prog_1_method_14_code 16 = .ok (.invokestatic 144, 3) := by decide +kernel
theorem d_DV_cell_19 : decode prog_1_method_14_code 19 = .ok (.aload 4, 2) := by decide +kernel
theorem d_DV_cell_21 : decode prog_1_method_14_code 21 = .ok (.getfield 106, 3) := by decide +kernel
theorem d_DV_cell_24 : decode prog_1_method_14_code 24 = .ok (.iload_n 2, 1) := by decide +kernel
theorem d_DV_cell_25 : decode prog_1_method_14_code 25 = .ok (.iload_n 3, 1) := by decide +kernel
theorem d_DV_cell_26 : decode prog_1_method_14_code 26 = .ok (.invokevirtual 147, 3) := by decide +kernel
theorem d_DV_cell_29 : decode prog_1_method_14_code 29 = .ok (.ireturn, 1) := by decide +kernel
theorem d_DV_needRow_0 : decode prog_1_method_22_code 0 = .ok (.iload_n 1, 1) := by decide +kernel
theorem d_DV_needRow_1 : decode prog_1_method_22_code 1 = .ok (.ifCond .lt 14, 3) := by decide +kernel
theorem d_DV_needRow_4 : decode prog_1_method_22_code 4 = .ok (.iload_n 1, 1) := by decide +kernel
theorem d_DV_needRow_5 : decode prog_1_method_22_code 5 = .ok (.aload_n 0, 1) := by decide +kernel
theorem d_DV_needRow_6 : decode prog_1_method_22_code 6 = .ok (.getfield 106, 3) := by decide +kernel
theorem d_DV_needRow_9 : decode prog_1_method_22_code 9 = .ok (.getfield 141, 3) := by decide +kernel
theorem d_DV_needRow_12 : decode prog_1_method_22_code 12 = .ok (.if_icmp .lt 13, 3) := by decide +kernel
theorem d_DV_needRow_15 : decode prog_1_method_22_code 15 = .ok (.new 166, 3) := by decide +kernel
theorem d_DV_needRow_18 : decode prog_1_method_22_code 18 = .ok (.dup, 1) := by decide +kernel
theorem d_DV_needRow_19 : decode prog_1_method_22_code 19 = .ok (.ldc 168, 2) := by decide +kernel
theorem d_DV_needRow_21 : decode prog_1_method_22_code 21 = .ok (.invokespecial 170, 3) := by decide +kernel
theorem d_DV_needRow_24 : decode prog_1_method_22_code 24 = .ok (.athrow, 1) := by decide +kernel
theorem d_DV_needRow_25 : decode prog_1_method_22_code 25 = .ok (.return_, 1) := by decide +kernel
theorem d_DV_times_0 : decode prog_1_method_15_code 0 = .ok (.aload_n 0, 1) := by decide +kernel
theorem d_DV_times_1 : decode prog_1_method_15_code 1 = .ok (.iload_n 1, 1) := by decide +kernel
theorem d_DV_times_2 : decode prog_1_method_15_code 2 = .ok (.invokevirtual 76, 3) := by decide +kernel
theorem d_DV_times_5 : decode prog_1_method_15_code 5 = .ok (.astore_n 3, 1) := by decide +kernel
theorem d_DV_times_6 : decode prog_1_method_15_code 6 = .ok (.aload_n 3, 1) := by decide +kernel
theorem d_DV_times_7 : decode prog_1_method_15_code 7 = .ok (.iload_n 2, 1) := by decide +kernel
theorem d_DV_times_8 : decode prog_1_method_15_code 8 = .ok (.invokestatic 144, 3) := by decide +kernel
theorem d_DV_times_11 : decode prog_1_method_15_code 11 = .ok (.aload_n 3, 1) := by decide +kernel
theorem d_DV_times_12 : decode prog_1_method_15_code 12 = .ok (.getfield 106, 3) := by decide +kernel
theorem d_DV_times_15 : decode prog_1_method_15_code 15 = .ok (.iload_n 2, 1) := by decide +kernel
theorem d_DV_times_16 : decode prog_1_method_15_code 16 = .ok (.invokevirtual 150, 3) := by decide +kernel
theorem d_DV_times_19 : decode prog_1_method_15_code 19 = .ok (.lreturn, 1) := by decide +kernel
theorem d_DV_many_0 : decode prog_1_method_16_code 0 = .ok (.aload_n 0, 1) := by decide +kernel
theorem d_DV_many_1 : decode prog_1_method_16_code 1 = .ok (.iload_n 1, 1) := by decide +kernel
theorem d_DV_many_2 : decode prog_1_method_16_code 2 = .ok (.invokevirtual 76, 3) := by decide +kernel
theorem d_DV_many_5 : decode prog_1_method_16_code 5 = .ok (.getfield 106, 3) := by decide +kernel
theorem d_DV_many_8 : decode prog_1_method_16_code 8 = .ok (.astore 6, 2) := by decide +kernel
theorem d_DV_many_10 : decode prog_1_method_16_code 10 = .ok (.aload 6, 2) := by decide +kernel
theorem d_DV_many_12 : decode prog_1_method_16_code 12 = .ok (.iconst 0, 1) := by decide +kernel
theorem d_DV_many_13 : decode prog_1_method_16_code 13 = .ok (.iload_n 2, 1) := by decide +kernel
theorem d_DV_many_14 : decode prog_1_method_16_code 14 = .ok (.invokevirtual 154, 3) := by decide +kernel
theorem d_DV_many_17 : decode prog_1_method_16_code 17 = .ok (.aload 6, 2) := by decide +kernel
theorem d_DV_many_19 : decode prog_1_method_16_code 19 = .ok (.iconst 1, 1) := by decide +kernel
theorem d_DV_many_20 : decode prog_1_method_16_code 20 = .ok (.iload_n 3, 1) := by decide +kernel
theorem d_DV_many_21 : decode prog_1_method_16_code 21 = .ok (.invokevirtual 154, 3) := by decide +kernel
theorem d_DV_many_24 : decode prog_1_method_16_code 24 = .ok (.aload 6, 2) := by decide +kernel
theorem d_DV_many_26 : decode prog_1_method_16_code 26 = .ok (.iconst 2, 1) := by decide +kernel
theorem d_DV_many_27 : decode prog_1_method_16_code 27 = .ok (.iload 4, 2) := by decide +kernel
theorem d_DV_many_29 : decode prog_1_method_16_code 29 = .ok (.invokevirtual 154, 3) := by decide +kernel
theorem d_DV_many_32 : decode prog_1_method_16_code 32 = .ok (.aload 6, 2) := by decide +kernel
theorem d_DV_many_34 : decode prog_1_method_16_code 34 = .ok (.iconst 3, 1) := by decide +kernel
theorem d_DV_many_35 : decode prog_1_method_16_code 35 = .ok (.iload 5, 2) := by decide +kernel
theorem d_DV_many_37 : decode prog_1_method_16_code 37 = .ok (.invokevirtual 154, 3) := by decide +kernel
theorem d_DV_many_40 : decode prog_1_method_16_code 40 = .ok (.aload 6, 2) := by decide +kernel
theorem d_DV_many_42 : decode prog_1_method_16_code 42 = .ok (.invokevirtual 158, 3) := by decide +kernel
theorem d_DV_many_45 : decode prog_1_method_16_code 45 = .ok (.lreturn, 1) := by decide +kernel
theorem d_Bag_timesOfPending_0 : decode prog_2_method_10_code 0 = .ok (.aload_n 0, 1) := by decide +kernel
theorem d_Bag_timesOfPending_1 : decode prog_2_method_10_code 1 = .ok (.invokevirtual 43, 3) := by decide +kernel
theorem d_Bag_timesOfPending_4 : decode prog_2_method_10_code 4 = .ok (.istore_n 1, 1) := by decide +kernel
theorem d_Bag_timesOfPending_5 : decode prog_2_method_10_code 5 = .ok (.aload_n 0, 1) := by decide +kernel
theorem d_Bag_timesOfPending_6 : decode prog_2_method_10_code 6 = .ok (.iload_n 1, 1) := by decide +kernel
theorem d_Bag_timesOfPending_7 : decode prog_2_method_10_code 7 = .ok (.invokevirtual 47, 3) := by decide +kernel
theorem d_Bag_timesOfPending_10 : decode prog_2_method_10_code 10 = .ok (.ifCond .eq 12, 3) := by decide +kernel
theorem d_Bag_timesOfPending_13 : decode prog_2_method_10_code 13 = .ok (.aload_n 0, 1) := by decide +kernel
theorem d_Bag_timesOfPending_14 : decode prog_2_method_10_code 14 = .ok (.getfield 22, 3) := by decide +kernel
theorem d_Bag_timesOfPending_17 : decode prog_2_method_10_code 17 = .ok (.iload_n 1, 1) := by decide +kernel
theorem d_Bag_timesOfPending_18 : decode prog_2_method_10_code 18 = .ok (.laload, 1) := by decide +kernel
theorem d_Bag_timesOfPending_19 : decode prog_2_method_10_code 19 = .ok (.goto 4, 3) := by decide +kernel
theorem d_Bag_timesOfPending_22 : decode prog_2_method_10_code 22 = .ok (.lconst 0, 1) := by decide +kernel
theorem d_Bag_timesOfPending_23 : decode prog_2_method_10_code 23 = .ok (.lreturn, 1) := by decide +kernel
theorem d_DV_moved_0 : decode prog_1_method_17_code 0 = .ok (.aload_n 0, 1) := by decide +kernel
theorem d_DV_moved_1 : decode prog_1_method_17_code 1 = .ok (.iload_n 1, 1) := by decide +kernel
theorem d_DV_moved_2 : decode prog_1_method_17_code 2 = .ok (.invokevirtual 76, 3) := by decide +kernel
theorem d_DV_moved_5 : decode prog_1_method_17_code 5 = .ok (.getfield 73, 3) := by decide +kernel
theorem d_DV_moved_8 : decode prog_1_method_17_code 8 = .ok (.ireturn, 1) := by decide +kernel
end
section
theorem d_Mo_init_0 : decode prog_14_method_1_code 0 = .ok (.aload_n 0, 1) := by decide +kernel
theorem d_Mo_init_1 : decode prog_14_method_1_code 1 = .ok (.invokespecial 1, 3) := by decide +kernel
theorem d_Mo_init_4 : decode prog_14_method_1_code 4 = .ok (.aload_n 0, 1) := by decide +kernel
theorem d_Mo_init_5 : decode prog_14_method_1_code 5 = .ok (.iconst 3, 1) := by decide +kernel
theorem d_Mo_init_6 : decode prog_14_method_1_code 6 = .ok (.putfield 7, 3) := by decide +kernel
theorem d_Mo_init_9 : decode prog_14_method_1_code 9 = .ok (.aload_n 0, 1) := by decide +kernel
theorem d_Mo_init_10 : decode prog_14_method_1_code 10 = .ok (.bipush 12, 2) := by decide +kernel
theorem d_Mo_init_12 : decode prog_14_method_1_code 12 = .ok (.newarray .int, 2) := by decide +kernel
theorem d_Mo_init_14 : decode prog_14_method_1_code 14 = .ok (.putfield 13, 3) := by decide +kernel
theorem d_Mo_init_17 : decode prog_14_method_1_code 17 = .ok (.aload_n 0, 1) := by decide +kernel
theorem d_Mo_init_18 : decode prog_14_method_1_code 18 = .ok (.bipush 12, 2) := by decide +kernel
theorem d_Mo_init_20 : decode prog_14_method_1_code 20 = .ok (.newarray .int, 2) := by decide +kernel
theorem d_Mo_init_22 : decode prog_14_method_1_code 22 = .ok (.putfield 17, 3) := by decide +kernel
theorem d_Mo_init_25 : decode prog_14_method_1_code 25 = .ok (.aload_n 0, 1) := by decide +kernel
theorem d_Mo_init_26 : decode prog_14_method_1_code 26 = .ok (.bipush 12, 2) := by decide +kernel
theorem d_Mo_init_28 : decode prog_14_method_1_code 28 = .ok (.newarray .int, 2) := by decide +kernel
theorem d_Mo_init_30 : decode prog_14_method_1_code 30 = .ok (.putfield 20, 3) := by decide +kernel
theorem d_Mo_init_33 : decode prog_14_method_1_code 33 = .ok (.aload_n 0, 1) := by decide +kernel
theorem d_Mo_init_34 : decode prog_14_method_1_code 34 = .ok (.bipush 12, 2) := by decide +kernel
theorem d_Mo_init_36 : decode prog_14_method_1_code 36 = .ok (.newarray .int, 2) := by decide +kernel
theorem d_Mo_init_38 : decode prog_14_method_1_code 38 = .ok (.putfield 23, 3) := by decide +kernel
theorem d_Mo_init_41 : decode prog_14_method_1_code 41 = .ok (.aload_n 0, 1) := by decide +kernel
theorem d_Mo_init_42 : decode prog_14_method_1_code 42 = .ok (.bipush 12, 2) := by decide +kernel
theorem d_Mo_init_44 : decode prog_14_method_1_code 44 = .ok (.newarray .int, 2) := by decide +kernel
theorem d_Mo_init_46 : decode prog_14_method_1_code 46 = .ok (.putfield 26, 3) := by decide +kernel
theorem d_Mo_init_49 : decode prog_14_method_1_code 49 = .ok (.aload_n 0, 1) := by decide +kernel
theorem d_Mo_init_50 : decode prog_14_method_1_code 50 = .ok (.bipush 12, 2) := by decide +kernel
theorem d_Mo_init_52 : decode prog_14_method_1_code 52 = .ok (.newarray .int, 2) := by decide +kernel
theorem d_Mo_init_54 : decode prog_14_method_1_code 54 = .ok (.putfield 29, 3) := by decide +kernel
theorem d_Mo_init_57 : decode prog_14_method_1_code 57 = .ok (.aload_n 0, 1) := by decide +kernel
theorem d_Mo_init_58 : decode prog_14_method_1_code 58 = .ok (.bipush 12, 2) := by decide +kernel
theorem d_Mo_init_60 : decode prog_14_method_1_code 60 = .ok (.newarray .int, 2) := by decide +kernel
theorem d_Mo_init_62 : decode prog_14_method_1_code 62 = .ok (.putfield 32, 3) := by decide +kernel
theorem d_Mo_init_65 : decode prog_14_method_1_code 65 = .ok (.aload_n 0, 1) := by decide +kernel
theorem d_Mo_init_66 : decode prog_14_method_1_code 66 = .ok (.bipush 12, 2) := by decide +kernel
theorem d_Mo_init_68 : decode prog_14_method_1_code 68 = .ok (.newarray .int, 2) := by decide +kernel
theorem d_Mo_init_70 : decode prog_14_method_1_code 70 = .ok (.putfield 35, 3) := by decide +kernel
theorem d_Mo_init_73 : decode prog_14_method_1_code 73 = .ok (.aload_n 0, 1) := by decide +kernel
theorem d_Mo_init_74 : decode prog_14_method_1_code 74 = .ok (.bipush 24, 2) := by decide +kernel
theorem d_Mo_init_76 : decode prog_14_method_1_code 76 = .ok (.newarray .int, 2) := by decide +kernel
theorem d_Mo_init_78 : decode prog_14_method_1_code 78 = .ok (.putfield 38, 3) := by decide +kernel
theorem d_Mo_init_81 : decode prog_14_method_1_code 81 = .ok (.aload_n 0, 1) := by decide +kernel
theorem d_Mo_init_82 : decode prog_14_method_1_code 82 = .ok (.sipush 384, 3) := by decide +kernel
theorem d_Mo_init_85 : decode prog_14_method_1_code 85 = .ok (.newarray .long, 2) := by decide +kernel
theorem d_Mo_init_87 : decode prog_14_method_1_code 87 = .ok (.putfield 41, 3) := by decide +kernel
theorem d_Mo_init_90 : decode prog_14_method_1_code 90 = .ok (.aload_n 0, 1) := by decide +kernel
theorem d_Mo_init_91 : decode prog_14_method_1_code 91 = .ok (.sipush 1536, 3) := by decide +kernel
theorem d_Mo_init_94 : decode prog_14_method_1_code 94 = .ok (.newarray .int, 2) := by decide +kernel
theorem d_Mo_init_96 : decode prog_14_method_1_code 96 = .ok (.putfield 45, 3) := by decide +kernel
theorem d_Mo_init_99 : decode prog_14_method_1_code 99 = .ok (.aload_n 0, 1) := by decide +kernel
theorem d_Mo_init_100 : decode prog_14_method_1_code 100 = .ok (.sipush 256, 3) := by decide +kernel
theorem d_Mo_init_103 : decode prog_14_method_1_code 103 = .ok (.newarray .long, 2) := by decide +kernel
theorem d_Mo_init_105 : decode prog_14_method_1_code 105 = .ok (.putfield 48, 3) := by decide +kernel
theorem d_Mo_init_108 : decode prog_14_method_1_code 108 = .ok (.aload_n 0, 1) := by decide +kernel
theorem d_Mo_init_109 : decode prog_14_method_1_code 109 = .ok (.sipush 1024, 3) := by decide +kernel
theorem d_Mo_init_112 : decode prog_14_method_1_code 112 = .ok (.newarray .int, 2) := by decide +kernel
theorem d_Mo_init_114 : decode prog_14_method_1_code 114 = .ok (.putfield 51, 3) := by decide +kernel
theorem d_Mo_init_117 : decode prog_14_method_1_code 117 = .ok (.aload_n 0, 1) := by decide +kernel
theorem d_Mo_init_118 : decode prog_14_method_1_code 118 = .ok (.iconst 4, 1) := by decide +kernel
theorem d_Mo_init_119 : decode prog_14_method_1_code 119 = .ok (.newarray .int, 2) := by decide +kernel
theorem d_Mo_init_121 : decode prog_14_method_1_code 121 = .ok (.putfield 54, 3) := by decide +kernel
theorem d_Mo_init_124 : decode prog_14_method_1_code 124 = .ok (.aload_n 0, 1) := by decide +kernel
theorem d_Mo_init_125 : decode prog_14_method_1_code 125 = .ok (.bipush 8, 2) := by decide +kernel
theorem d_Mo_init_127 : decode prog_14_method_1_code 127 = .ok (.newarray .int, 2) := by decide +kernel
theorem d_Mo_init_129 : decode prog_14_method_1_code 129 = .ok (.putfield 57, 3) := by decide +kernel
theorem d_Mo_init_132 : decode prog_14_method_1_code 132 = .ok (.aload_n 0, 1) := by decide +kernel
theorem d_Mo_init_133 : decode prog_14_method_1_code 133 = .ok (.bipush 8, 2) := by decide +kernel
theorem d_Mo_init_135 : decode prog_14_method_1_code 135 = .ok (.newarray .int, 2) := by decide +kernel
theorem d_Mo_init_137 : decode prog_14_method_1_code 137 = .ok (.putfield 60, 3) := by decide +kernel
theorem d_Mo_init_140 : decode prog_14_method_1_code 140 = .ok (.aload_n 0, 1) := by decide +kernel
theorem d_Mo_init_141 : decode prog_14_method_1_code 141 = .ok (.bipush 8, 2) := by decide +kernel
theorem d_Mo_init_143 : decode prog_14_method_1_code 143 = .ok (.newarray .int, 2) := by decide +kernel
theorem d_Mo_init_145 : decode prog_14_method_1_code 145 = .ok (.putfield 63, 3) := by decide +kernel
theorem d_Mo_init_148 : decode prog_14_method_1_code 148 = .ok (.aload_n 0, 1) := by decide +kernel
theorem d_Mo_init_149 : decode prog_14_method_1_code 149 = .ok (.bipush 8, 2) := by decide +kernel
theorem d_Mo_init_151 : decode prog_14_method_1_code 151 = .ok (.newarray .int, 2) := by decide +kernel
theorem d_Mo_init_153 : decode prog_14_method_1_code 153 = .ok (.putfield 66, 3) := by decide +kernel
theorem d_Mo_init_156 : decode prog_14_method_1_code 156 = .ok (.iconst 0, 1) := by decide +kernel
theorem d_Mo_init_157 : decode prog_14_method_1_code 157 = .ok (.istore_n 1, 1) := by decide +kernel
theorem d_Mo_init_158 : decode prog_14_method_1_code 158 = .ok (.iload_n 1, 1) := by decide +kernel
theorem d_Mo_init_159 : decode prog_14_method_1_code 159 = .ok (.iconst 3, 1) := by decide +kernel
theorem d_Mo_init_160 : decode prog_14_method_1_code 160 = .ok (.if_icmp .ge 16, 3) := by decide +kernel
theorem d_Mo_init_163 : decode prog_14_method_1_code 163 = .ok (.aload_n 0, 1) := by decide +kernel
theorem d_Mo_init_164 : decode prog_14_method_1_code 164 = .ok (.getfield 13, 3) := by decide +kernel
theorem d_Mo_init_167 : decode prog_14_method_1_code 167 = .ok (.iload_n 1, 1) := by decide +kernel
theorem d_Mo_init_168 : decode prog_14_method_1_code 168 = .ok (.iconst 2, 1) := by decide +kernel
theorem d_Mo_init_169 : decode prog_14_method_1_code 169 = .ok (.iastore, 1) := by decide +kernel
theorem d_Mo_init_170 : decode prog_14_method_1_code 170 = .ok (.iinc 1 1, 3) := by decide +kernel
theorem d_Mo_init_173 : decode prog_14_method_1_code 173 = .ok (.goto (-15), 3) := by decide +kernel
theorem d_Mo_init_176 : decode prog_14_method_1_code 176 = .ok (.return_, 1) := by decide +kernel
theorem d_Mo_thrown_0 : decode prog_14_method_2_code 0 = .ok (.aload_n 0, 1) := by decide +kernel
theorem d_Mo_thrown_1 : decode prog_14_method_2_code 1 = .ok (.getfield 69, 3) := by decide +kernel
theorem d_Mo_thrown_4 : decode prog_14_method_2_code 4 = .ok (.ireturn, 1) := by decide +kernel
theorem d_Mo_change_0 : decode prog_14_method_17_code 0 = .ok (.aload_n 0, 1) := by decide +kernel
theorem d_Mo_change_1 : decode prog_14_method_17_code 1 = .ok (.iconst 0, 1) := by decide +kernel
theorem d_Mo_change_2 : decode prog_14_method_17_code 2 = .ok (.putfield 69, 3) := by decide +kernel
theorem d_Mo_change_5 : decode prog_14_method_17_code 5 = .ok (.iload_n 1, 1) := by decide +kernel
theorem d_Mo_change_6 : decode prog_14_method_17_code 6 = .ok (.ifCond .lt 8, 3) := by decide +kernel
theorem d_Mo_change_9 : decode prog_14_method_17_code 9 = .ok (.iload_n 1, 1) := by decide +kernel
theorem d_Mo_change_10 : decode prog_14_method_17_code 10 = .ok (.iconst 2, 1) := by decide +kernel
theorem d_Mo_change_11 : decode prog_14_method_17_code 11 = .ok (.if_icmp .le 11, 3) := by decide +kernel
theorem d_Mo_change_14 : decode prog_14_method_17_code 14 = .ok (.aload_n 0, 1) := by decide +kernel
theorem d_Mo_change_15 : decode prog_14_method_17_code 15 = .ok (.iconst 1, 1) := by decide +kernel
theorem d_Mo_change_16 : decode prog_14_method_17_code 16 = .ok (.putfield 69, 3) := by decide +kernel
theorem d_Mo_change_19 : decode prog_14_method_17_code 19 = .ok (.goto 67, 3) := by decide +kernel
theorem d_Mo_change_22 : decode prog_14_method_17_code 22 = .ok (.iload_n 2, 1) := by decide +kernel
theorem d_Mo_change_23 : decode prog_14_method_17_code 23 = .ok (.sipush (-1000), 3) := by decide +kernel
theorem d_Mo_change_26 : decode prog_14_method_17_code 26 = .ok (.if_icmp .lt 38, 3) := by decide +kernel
theorem d_Mo_change_29 : decode prog_14_method_17_code 29 = .ok (.iload_n 2, 1) := by decide +kernel
theorem d_Mo_change_30 : decode prog_14_method_17_code 30 = .ok (.sipush 1000, 3) := by decide +kernel
theorem d_Mo_change_33 : decode prog_14_method_17_code 33 = .ok (.if_icmp .gt 31, 3) := by decide +kernel
theorem d_Mo_change_36 : decode prog_14_method_17_code 36 = .ok (.iload_n 3, 1) := by decide +kernel
theorem d_Mo_change_37 : decode prog_14_method_17_code 37 = .ok (.sipush (-1000), 3) := by decide +kernel
theorem d_Mo_change_40 : decode prog_14_method_17_code 40 = .ok (.if_icmp .lt 24, 3) := by decide +kernel
theorem d_Mo_change_43 : decode prog_14_method_17_code 43 = .ok (.iload_n 3, 1) := by decide +kernel
theorem d_Mo_change_44 : decode prog_14_method_17_code 44 = .ok (.sipush 1000, 3) := by decide +kernel
theorem d_Mo_change_47 : decode prog_14_method_17_code 47 = .ok (.if_icmp .gt 17, 3) := by decide +kernel
theorem d_Mo_change_50 : decode prog_14_method_17_code 50 = .ok (.iload 4, 2) := by decide +kernel
theorem d_Mo_change_52 : decode prog_14_method_17_code 52 = .ok (.bipush (-99), 2) := by decide +kernel
theorem d_Mo_change_54 : decode prog_14_method_17_code 54 = .ok (.if_icmp .lt 10, 3) := by decide +kernel
theorem d_Mo_change_57 : decode prog_14_method_17_code 57 = .ok (.iload 4, 2) := by decide +kernel
theorem d_Mo_change_59 : decode prog_14_method_17_code 59 = .ok (.bipush 99, 2) := by decide +kernel
theorem d_Mo_change_61 : decode prog_14_method_17_code 61 = .ok (.if_icmp .le 11, 3) := by decide +kernel
theorem d_Mo_change_64 : decode prog_14_method_17_code 64 = .ok (.aload_n 0, 1) := by decide +kernel
theorem d_Mo_change_65 : decode prog_14_method_17_code 65 = .ok (.iconst 2, 1) := by decide +kernel
theorem d_Mo_change_66 : decode prog_14_method_17_code 66 = .ok (.putfield 69, 3) := by decide +kernel
theorem d_Mo_change_69 : decode prog_14_method_17_code 69 = .ok (.goto 17, 3) := by decide +kernel
theorem d_Mo_change_72 : decode prog_14_method_17_code 72 = .ok (.aload_n 0, 1) := by decide +kernel
theorem d_Mo_change_73 : decode prog_14_method_17_code 73 = .ok (.getfield 121, 3) := by decide +kernel
theorem d_Mo_change_76 : decode prog_14_method_17_code 76 = .ok (.bipush 8, 2) := by decide +kernel
theorem d_Mo_change_78 : decode prog_14_method_17_code 78 = .ok (.if_icmp .ne 8, 3) := by decide +kernel
theorem d_Mo_change_81 : decode prog_14_method_17_code 81 = .ok (.aload_n 0, 1) := by decide +kernel
theorem d_Mo_change_82 : decode prog_14_method_17_code 82 = .ok (.iconst 3, 1) := by decide +kernel
theorem d_Mo_change_83 : decode prog_14_method_17_code 83 = .ok (.putfield 69, 3) := by decide +kernel
theorem d_Mo_change_86 : decode prog_14_method_17_code 86 = .ok (.aload_n 0, 1) := by decide +kernel
theorem d_Mo_change_87 : decode prog_14_method_17_code 87 = .ok (.getfield 69, 3) := by decide +kernel
theorem d_Mo_change_90 : decode prog_14_method_17_code 90 = .ok (.ifCond .le 5, 3) := by decide +kernel
theorem d_Mo_change_93 : decode prog_14_method_17_code 93 = .ok (.iconst 0, 1) := by decide +kernel
theorem d_Mo_change_94 : decode prog_14_method_17_code 94 = .ok (.ireturn, 1) := by decide +kernel
theorem d_Mo_change_95 : decode prog_14_method_17_code 95 = .ok (.aload_n 0, 1) := by decide +kernel
theorem d_Mo_change_96 : decode prog_14_method_17_code 96 = .ok (.getfield 57, 3) := by decide +kernel
theorem d_Mo_change_99 : decode prog_14_method_17_code 99 = .ok (.aload_n 0, 1) := by decide +kernel
theorem d_Mo_change_100 : decode prog_14_method_17_code 100 = .ok (.getfield 121, 3) := by decide +kernel
theorem d_Mo_change_103 : decode prog_14_method_17_code 103 = .ok (.iload_n 1, 1) := by decide +kernel
theorem d_Mo_change_104 : decode prog_14_method_17_code 104 = .ok (.iastore, 1) := by decide +kernel
theorem d_Mo_change_105 : decode prog_14_method_17_code 105 = .ok (.aload_n 0, 1) := by decide +kernel
theorem d_Mo_change_106 : decode prog_14_method_17_code 106 = .ok (.getfield 60, 3) := by decide +kernel
theorem d_Mo_change_109 : decode prog_14_method_17_code 109 = .ok (.aload_n 0, 1) := by decide +kernel
theorem d_Mo_change_110 : decode prog_14_method_17_code 110 = .ok (.getfield 121, 3) := by decide +kernel
theorem d_Mo_change_113 : decode prog_14_method_17_code 113 = .ok (.iload_n 2, 1) := by decide +kernel
theorem d_Mo_change_114 : decode prog_14_method_17_code 114 = .ok (.iastore, 1) := by decide +kernel
theorem d_Mo_change_115 : decode prog_14_method_17_code 115 = .ok (.aload_n 0, 1) := by decide +kernel
theorem d_Mo_change_116 : decode prog_14_method_17_code 116 = .ok (.getfield 63, 3) := by decide +kernel
theorem d_Mo_change_119 : decode prog_14_method_17_code 119 = .ok (.aload_n 0, 1) := by decide +kernel
theorem d_Mo_change_120 : decode prog_14_method_17_code 120 = .ok (.getfield 121, 3) := by decide +kernel
theorem d_Mo_change_123 : decode prog_14_method_17_code 123 = .ok (.iload_n 3, 1) := by decide +kernel
theorem d_Mo_change_124 : decode prog_14_method_17_code 124 = .ok (.iastore, 1) := by decide +kernel
theorem d_Mo_change_125 : decode prog_14_method_17_code 125 = .ok (.aload_n 0, 1) := by decide +kernel
theorem d_Mo_change_126 : decode prog_14_method_17_code 126 = .ok (.getfield 66, 3) := by decide +kernel
theorem d_Mo_change_129 : decode prog_14_method_17_code 129 = .ok (.aload_n 0, 1) := by decide +kernel
theorem d_Mo_change_130 : decode prog_14_method_17_code 130 = .ok (.getfield 121, 3) := by decide +kernel
theorem d_Mo_change_133 : decode prog_14_method_17_code 133 = .ok (.iload 4, 2) := by decide +kernel
theorem d_Mo_change_135 : decode prog_14_method_17_code 135 = .ok (.iastore, 1) := by decide +kernel
theorem d_Mo_change_136 : decode prog_14_method_17_code 136 = .ok (.aload_n 0, 1) := by decide +kernel
theorem d_Mo_change_137 : decode prog_14_method_17_code 137 = .ok (.dup, 1) := by decide +kernel
theorem d_Mo_change_138 : decode prog_14_method_17_code 138 = .ok (.getfield 121, 3) := by decide +kernel
theorem d_Mo_change_141 : decode prog_14_method_17_code 141 = .ok (.iconst 1, 1) := by decide +kernel
theorem d_Mo_change_142 : decode prog_14_method_17_code 142 = .ok (.iadd, 1) := by decide +kernel
theorem d_Mo_change_143 : decode prog_14_method_17_code 143 = .ok (.putfield 121, 3) := by decide +kernel
theorem d_Mo_change_146 : decode prog_14_method_17_code 146 = .ok (.aload_n 0, 1) := by decide +kernel
theorem d_Mo_change_147 : decode prog_14_method_17_code 147 = .ok (.getfield 121, 3) := by decide +kernel
theorem d_Mo_change_150 : decode prog_14_method_17_code 150 = .ok (.ireturn, 1) := by decide +kernel
theorem d_Mo_cancel_0 : decode prog_14_method_18_code 0 = .ok (.aload_n 0, 1) := by decide +kernel
theorem d_Mo_cancel_1 : decode prog_14_method_18_code 1 = .ok (.iconst 0, 1) := by decide +kernel
theorem d_Mo_cancel_2 : decode prog_14_method_18_code 2 = .ok (.putfield 69, 3) := by decide +kernel
theorem d_Mo_cancel_5 : decode prog_14_method_18_code 5 = .ok (.aload_n 0, 1) := by decide +kernel
theorem d_Mo_cancel_6 : decode prog_14_method_18_code 6 = .ok (.getfield 121, 3) := by decide +kernel
theorem d_Mo_cancel_9 : decode prog_14_method_18_code 9 = .ok (.istore_n 1, 1) := by decide +kernel
theorem d_Mo_cancel_10 : decode prog_14_method_18_code 10 = .ok (.aload_n 0, 1) := by decide +kernel
theorem d_Mo_cancel_11 : decode prog_14_method_18_code 11 = .ok (.iconst 0, 1) := by decide +kernel
theorem d_Mo_cancel_12 : decode prog_14_method_18_code 12 = .ok (.putfield 121, 3) := by decide +kernel
theorem d_Mo_cancel_15 : decode prog_14_method_18_code 15 = .ok (.iload_n 1, 1) := by decide +kernel
theorem d_Mo_cancel_16 : decode prog_14_method_18_code 16 = .ok (.ireturn, 1) := by decide +kernel
theorem d_Mo_commit_0 : decode prog_14_method_23_code 0 = .ok (.aload_n 0, 1) := by decide +kernel
theorem d_Mo_commit_1 : decode prog_14_method_23_code 1 = .ok (.iconst 0, 1) := by decide +kernel
theorem d_Mo_commit_2 : decode prog_14_method_23_code 2 = .ok (.putfield 69, 3) := by decide +kernel
theorem d_Mo_commit_5 : decode prog_14_method_23_code 5 = .ok (.aload_n 0, 1) := by decide +kernel
theorem d_Mo_commit_6 : decode prog_14_method_23_code 6 = .ok (.iconst 0, 1) := by decide +kernel
theorem d_Mo_commit_7 : decode prog_14_method_23_code 7 = .ok (.invokevirtual 134, 3) := by decide +kernel
theorem d_Mo_commit_10 : decode prog_14_method_23_code 10 = .ok (.ifCond .eq 23, 3) := by decide +kernel
theorem d_Mo_commit_13 : decode prog_14_method_23_code 13 = .ok (.aload_n 0, 1) := by decide +kernel
theorem d_Mo_commit_14 : decode prog_14_method_23_code 14 = .ok (.iconst 1, 1) := by decide +kernel
theorem d_Mo_commit_15 : decode prog_14_method_23_code 15 = .ok (.invokevirtual 134, 3) := by decide +kernel
theorem d_Mo_commit_18 : decode prog_14_method_23_code 18 = .ok (.ifCond .eq 15, 3) := by decide +kernel
theorem d_Mo_commit_21 : decode prog_14_method_23_code 21 = .ok (.aload_n 0, 1) := by decide +kernel
theorem d_Mo_commit_22 : decode prog_14_method_23_code 22 = .ok (.iconst 2, 1) := by decide +kernel
theorem d_Mo_commit_23 : decode prog_14_method_23_code 23 = .ok (.invokevirtual 134, 3) := by decide +kernel
theorem d_Mo_commit_26 : decode prog_14_method_23_code 26 = .ok (.ifCond .eq 7, 3) := by decide +kernel
theorem d_Mo_commit_29 : decode prog_14_method_23_code 29 = .ok (.iconst 1, 1) := by decide +kernel
theorem d_Mo_commit_30 : decode prog_14_method_23_code 30 = .ok (.goto 4, 3) := by decide +kernel
theorem d_Mo_commit_33 : decode prog_14_method_23_code 33 = .ok (.iconst 0, 1) := by decide +kernel
theorem d_Mo_commit_34 : decode prog_14_method_23_code 34 = .ok (.istore_n 1, 1) := by decide +kernel
theorem d_Mo_commit_35 : decode prog_14_method_23_code 35 = .ok (.iconst 3, 1) := by decide +kernel
theorem d_Mo_commit_36 : decode prog_14_method_23_code 36 = .ok (.istore_n 2, 1) := by decide +kernel
theorem d_Mo_commit_37 : decode prog_14_method_23_code 37 = .ok (.iload_n 2, 1) := by decide +kernel
theorem d_Mo_commit_38 : decode prog_14_method_23_code 38 = .ok (.aload_n 0, 1) := by decide +kernel
theorem d_Mo_commit_39 : decode prog_14_method_23_code 39 = .ok (.getfield 7, 3) := by decide +kernel
theorem d_Mo_commit_42 : decode prog_14_method_23_code 42 = .ok (.if_icmp .ge 21, 3) := by decide +kernel
theorem d_Mo_commit_45 : decode prog_14_method_23_code 45 = .ok (.iload_n 1, 1) := by decide +kernel
theorem d_Mo_commit_46 : decode prog_14_method_23_code 46 = .ok (.ifCond .eq 17, 3) := by decide +kernel
theorem d_Mo_commit_49 : decode prog_14_method_23_code 49 = .ok (.aload_n 0, 1) := by decide +kernel
theorem d_Mo_commit_50 : decode prog_14_method_23_code 50 = .ok (.iload_n 2, 1) := by decide +kernel
theorem d_Mo_commit_51 : decode prog_14_method_23_code 51 = .ok (.bipush 12, 2) := by decide +kernel
theorem d_Mo_commit_53 : decode prog_14_method_23_code 53 = .ok (.invokevirtual 138, 3) := by decide +kernel
theorem d_Mo_commit_56 : decode prog_14_method_23_code 56 = .ok (.istore_n 1, 1) := by decide +kernel
theorem d_Mo_commit_57 : decode prog_14_method_23_code 57 = .ok (.iinc 2 1, 3) := by decide +kernel
theorem d_Mo_commit_60 : decode prog_14_method_23_code 60 = .ok (.goto (-23), 3) := by decide +kernel
theorem d_Mo_commit_63 : decode prog_14_method_23_code 63 = .ok (.aload_n 0, 1) := by decide +kernel
theorem d_Mo_commit_64 : decode prog_14_method_23_code 64 = .ok (.iconst 0, 1) := by decide +kernel
theorem d_Mo_commit_65 : decode prog_14_method_23_code 65 = .ok (.putfield 121, 3) := by decide +kernel
theorem d_Mo_commit_68 : decode prog_14_method_23_code 68 = .ok (.iload_n 1, 1) := by decide +kernel
theorem d_Mo_commit_69 : decode prog_14_method_23_code 69 = .ok (.ifCond .ne 10, 3) := by decide +kernel
theorem d_Mo_commit_72 : decode prog_14_method_23_code 72 = .ok (.aload_n 0, 1) := by decide +kernel
theorem d_Mo_commit_73 : decode prog_14_method_23_code 73 = .ok (.iconst 1, 1) := by decide +kernel
theorem d_Mo_commit_74 : decode prog_14_method_23_code 74 = .ok (.putfield 69, 3) := by decide +kernel
theorem d_Mo_commit_77 : decode prog_14_method_23_code 77 = .ok (.iconst 0, 1) := by decide +kernel
theorem d_Mo_commit_78 : decode prog_14_method_23_code 78 = .ok (.ireturn, 1) := by decide +kernel
theorem d_Mo_commit_79 : decode prog_14_method_23_code 79 = .ok (.iconst 0, 1) := by decide +kernel
theorem d_Mo_commit_80 : decode prog_14_method_23_code 80 = .ok (.istore_n 2, 1) := by decide +kernel
theorem d_Mo_commit_81 : decode prog_14_method_23_code 81 = .ok (.iload_n 2, 1) := by decide +kernel
theorem d_Mo_commit_82 : decode prog_14_method_23_code 82 = .ok (.aload_n 0, 1) := by decide +kernel
theorem d_Mo_commit_83 : decode prog_14_method_23_code 83 = .ok (.getfield 7, 3) := by decide +kernel
theorem d_Mo_commit_86 : decode prog_14_method_23_code 86 = .ok (.if_icmp .ge 14, 3) := by decide +kernel
theorem d_Mo_commit_89 : decode prog_14_method_23_code 89 = .ok (.aload_n 0, 1) := by decide +kernel
theorem d_Mo_commit_90 : decode prog_14_method_23_code 90 = .ok (.iload_n 2, 1) := by decide +kernel
theorem d_Mo_commit_91 : decode prog_14_method_23_code 91 = .ok (.invokevirtual 141, 3) := by decide +kernel
theorem d_Mo_commit_94 : decode prog_14_method_23_code 94 = .ok (.iinc 2 1, 3) := by decide +kernel
theorem d_Mo_commit_97 : decode prog_14_method_23_code 97 = .ok (.goto (-16), 3) := by decide +kernel
theorem d_Mo_commit_100 : decode prog_14_method_23_code 100 = .ok (.aload_n 0, 1) := by decide +kernel
theorem d_Mo_commit_101 : decode prog_14_method_23_code 101 = .ok (.getfield 35, 3) := by decide +kernel
theorem d_Mo_commit_104 : decode prog_14_method_23_code 104 = .ok (.iconst 0, 1) := by decide +kernel
theorem d_Mo_commit_105 : decode prog_14_method_23_code 105 = .ok (.iaload, 1) := by decide +kernel
theorem d_Mo_commit_106 : decode prog_14_method_23_code 106 = .ok (.aload_n 0, 1) := by decide +kernel
theorem d_Mo_commit_107 : decode prog_14_method_23_code 107 = .ok (.getfield 35, 3) := by decide +kernel
theorem d_Mo_commit_110 : decode prog_14_method_23_code 110 = .ok (.iconst 1, 1) := by decide +kernel
theorem d_Mo_commit_111 : decode prog_14_method_23_code 111 = .ok (.iaload, 1) := by decide +kernel
theorem d_Mo_commit_112 : decode prog_14_method_23_code 112 = .ok (.iadd, 1) := by decide +kernel
theorem d_Mo_commit_113 : decode prog_14_method_23_code 113 = .ok (.aload_n 0, 1) := by decide +kernel
theorem d_Mo_commit_114 : decode prog_14_method_23_code 114 = .ok (.getfield 35, 3) := by decide +kernel
theorem d_Mo_commit_117 : decode prog_14_method_23_code 117 = .ok (.iconst 2, 1) := by decide +kernel
theorem d_Mo_commit_118 : decode prog_14_method_23_code 118 = .ok (.iaload, 1) := by decide +kernel
theorem d_Mo_commit_119 : decode prog_14_method_23_code 119 = .ok (.iadd, 1) := by decide +kernel
theorem d_Mo_commit_120 : decode prog_14_method_23_code 120 = .ok (.ireturn, 1) := by decide +kernel
theorem d_Mo_tryTable_0 : decode prog_14_method_19_code 0 = .ok (.aload_n 0, 1) := by decide +kernel
theorem d_Mo_tryTable_1 : decode prog_14_method_19_code 1 = .ok (.iconst 0, 1) := by decide +kernel
theorem d_Mo_tryTable_2 : decode prog_14_method_19_code 2 = .ok (.putfield 72, 3) := by decide +kernel
theorem d_Mo_tryTable_5 : decode prog_14_method_19_code 5 = .ok (.iconst 0, 1) := by decide +kernel
theorem d_Mo_tryTable_6 : decode prog_14_method_19_code 6 = .ok (.istore_n 2, 1) := by decide +kernel
theorem d_Mo_tryTable_7 : decode prog_14_method_19_code 7 = .ok (.iload_n 2, 1) := by decide +kernel
theorem d_Mo_tryTable_8 : decode prog_14_method_19_code 8 = .ok (.aload_n 0, 1) := by decide +kernel
theorem d_Mo_tryTable_9 : decode prog_14_method_19_code 9 = .ok (.getfield 38, 3) := by decide +kernel
theorem d_Mo_tryTable_12 : decode prog_14_method_19_code 12 = .ok (.iload_n 1, 1) := by decide +kernel
theorem d_Mo_tryTable_13 : decode prog_14_method_19_code 13 = .ok (.iaload, 1) := by decide +kernel
theorem d_Mo_tryTable_14 : decode prog_14_method_19_code 14 = .ok (.if_icmp .ge 31, 3) := by decide +kernel
theorem d_Mo_tryTable_17 : decode prog_14_method_19_code 17 = .ok (.aload_n 0, 1) := by decide +kernel
theorem d_Mo_tryTable_18 : decode prog_14_method_19_code 18 = .ok (.iload_n 1, 1) := by decide +kernel
theorem d_Mo_tryTable_19 : decode prog_14_method_19_code 19 = .ok (.iload_n 2, 1) := by decide +kernel
theorem d_Mo_tryTable_20 : decode prog_14_method_19_code 20 = .ok (.invokevirtual 90, 3) := by decide +kernel
theorem d_Mo_tryTable_23 : decode prog_14_method_19_code 23 = .ok (.aload_n 0, 1) := by decide +kernel
theorem d_Mo_tryTable_24 : decode prog_14_method_19_code 24 = .ok (.iconst 2, 1) := by decide +kernel
theorem d_Mo_tryTable_25 : decode prog_14_method_19_code 25 = .ok (.aload_n 0, 1) := by decide +kernel
theorem d_Mo_tryTable_26 : decode prog_14_method_19_code 26 = .ok (.getfield 41, 3) := by decide +kernel
theorem d_Mo_tryTable_29 : decode prog_14_method_19_code 29 = .ok (.bipush 16, 2) := by decide +kernel
theorem d_Mo_tryTable_31 : decode prog_14_method_19_code 31 = .ok (.iload_n 1, 1) := by decide +kernel
theorem d_Mo_tryTable_32 : decode prog_14_method_19_code 32 = .ok (.imul, 1) := by decide +kernel
theorem d_Mo_tryTable_33 : decode prog_14_method_19_code 33 = .ok (.iload_n 2, 1) := by decide +kernel
theorem d_Mo_tryTable_34 : decode prog_14_method_19_code 34 = .ok (.iadd, 1) := by decide +kernel
theorem d_Mo_tryTable_35 : decode prog_14_method_19_code 35 = .ok (.laload, 1) := by decide +kernel
theorem d_Mo_tryTable_36 : decode prog_14_method_19_code 36 = .ok (.invokevirtual 94, 3) := by decide +kernel
theorem d_Mo_tryTable_39 : decode prog_14_method_19_code 39 = .ok (.iinc 2 1, 3) := by decide +kernel
theorem d_Mo_tryTable_42 : decode prog_14_method_19_code 42 = .ok (.goto (-35), 3) := by decide +kernel
theorem d_Mo_tryTable_45 : decode prog_14_method_19_code 45 = .ok (.iconst 0, 1) := by decide +kernel
theorem d_Mo_tryTable_46 : decode prog_14_method_19_code 46 = .ok (.istore_n 2, 1) := by decide +kernel
theorem d_Mo_tryTable_47 : decode prog_14_method_19_code 47 = .ok (.iload_n 2, 1) := by decide +kernel
theorem d_Mo_tryTable_48 : decode prog_14_method_19_code 48 = .ok (.aload_n 0, 1) := by decide +kernel
theorem d_Mo_tryTable_49 : decode prog_14_method_19_code 49 = .ok (.getfield 121, 3) := by decide +kernel
theorem d_Mo_tryTable_52 : decode prog_14_method_19_code 52 = .ok (.if_icmp .ge 55, 3) := by decide +kernel
theorem d_Mo_tryTable_55 : decode prog_14_method_19_code 55 = .ok (.aload_n 0, 1) := by decide +kernel
theorem d_Mo_tryTable_56 : decode prog_14_method_19_code 56 = .ok (.getfield 57, 3) := by decide +kernel
theorem d_Mo_tryTable_59 : decode prog_14_method_19_code 59 = .ok (.iload_n 2, 1) := by decide +kernel
theorem d_Mo_tryTable_60 : decode prog_14_method_19_code 60 = .ok (.iaload, 1) := by decide +kernel
theorem d_Mo_tryTable_61 : decode prog_14_method_19_code 61 = .ok (.iload_n 1, 1) := by decide +kernel
theorem d_Mo_tryTable_62 : decode prog_14_method_19_code 62 = .ok (.if_icmp .ne 39, 3) := by decide +kernel
theorem d_Mo_tryTable_65 : decode prog_14_method_19_code 65 = .ok (.aload_n 0, 1) := by decide +kernel
theorem d_Mo_tryTable_66 : decode prog_14_method_19_code 66 = .ok (.getfield 54, 3) := by decide +kernel
theorem d_Mo_tryTable_69 : decode prog_14_method_19_code 69 = .ok (.iconst 0, 1) := by decide +kernel
theorem d_Mo_tryTable_70 : decode prog_14_method_19_code 70 = .ok (.aload_n 0, 1) := by decide +kernel
theorem d_Mo_tryTable_71 : decode prog_14_method_19_code 71 = .ok (.getfield 60, 3) := by decide +kernel
theorem d_Mo_tryTable_74 : decode prog_14_method_19_code 74 = .ok (.iload_n 2, 1) := by decide +kernel
theorem d_Mo_tryTable_75 : decode prog_14_method_19_code 75 = .ok (.iaload, 1) := by decide +kernel
theorem d_Mo_tryTable_76 : decode prog_14_method_19_code 76 = .ok (.iastore, 1) := by decide +kernel
theorem d_Mo_tryTable_77 : decode prog_14_method_19_code 77 = .ok (.aload_n 0, 1) := by decide +kernel
theorem d_Mo_tryTable_78 : decode prog_14_method_19_code 78 = .ok (.getfield 54, 3) := by decide +kernel
theorem d_Mo_tryTable_81 : decode prog_14_method_19_code 81 = .ok (.iconst 1, 1) := by decide +kernel
theorem d_Mo_tryTable_82 : decode prog_14_method_19_code 82 = .ok (.aload_n 0, 1) := by decide +kernel
theorem d_Mo_tryTable_83 : decode prog_14_method_19_code 83 = .ok (.getfield 63, 3) := by decide +kernel
theorem d_Mo_tryTable_86 : decode prog_14_method_19_code 86 = .ok (.iload_n 2, 1) := by decide +kernel
theorem d_Mo_tryTable_87 : decode prog_14_method_19_code 87 = .ok (.iaload, 1) := by decide +kernel
theorem d_Mo_tryTable_88 : decode prog_14_method_19_code 88 = .ok (.iastore, 1) := by decide +kernel
theorem d_Mo_tryTable_89 : decode prog_14_method_19_code 89 = .ok (.aload_n 0, 1) := by decide +kernel
theorem d_Mo_tryTable_90 : decode prog_14_method_19_code 90 = .ok (.iconst 2, 1) := by decide +kernel
theorem d_Mo_tryTable_91 : decode prog_14_method_19_code 91 = .ok (.aload_n 0, 1) := by decide +kernel
theorem d_Mo_tryTable_92 : decode prog_14_method_19_code 92 = .ok (.getfield 66, 3) := by decide +kernel
theorem d_Mo_tryTable_95 : decode prog_14_method_19_code 95 = .ok (.iload_n 2, 1) := by decide +kernel
theorem d_Mo_tryTable_96 : decode prog_14_method_19_code 96 = .ok (.iaload, 1) := by decide +kernel
theorem d_Mo_tryTable_97 : decode prog_14_method_19_code 97 = .ok (.i2l, 1) := by decide +kernel
theorem d_Mo_tryTable_98 : decode prog_14_method_19_code 98 = .ok (.invokevirtual 94, 3) := by decide +kernel
theorem d_Mo_tryTable_101 : decode prog_14_method_19_code 101 = .ok (.iinc 2 1, 3) := by decide +kernel
theorem d_Mo_tryTable_104 : decode prog_14_method_19_code 104 = .ok (.goto (-57), 3) := by decide +kernel
theorem d_Mo_tryTable_107 : decode prog_14_method_19_code 107 = .ok (.iconst 1, 1) := by decide +kernel
theorem d_Mo_tryTable_108 : decode prog_14_method_19_code 108 = .ok (.istore_n 2, 1) := by decide +kernel
theorem d_Mo_tryTable_109 : decode prog_14_method_19_code 109 = .ok (.iconst 0, 1) := by decide +kernel
theorem d_Mo_tryTable_110 : decode prog_14_method_19_code 110 = .ok (.istore_n 3, 1) := by decide +kernel
theorem d_Mo_tryTable_111 : decode prog_14_method_19_code 111 = .ok (.iload_n 3, 1) := by decide +kernel
theorem d_Mo_tryTable_112 : decode prog_14_method_19_code 112 = .ok (.aload_n 0, 1) := by decide +kernel
theorem d_Mo_tryTable_113 : decode prog_14_method_19_code 113 = .ok (.getfield 72, 3) := by decide +kernel
theorem d_Mo_tryTable_116 : decode prog_14_method_19_code 116 = .ok (.if_icmp .ge 43, 3) := by decide +kernel
theorem d_Mo_tryTable_119 : decode prog_14_method_19_code 119 = .ok (.iload_n 2, 1) := by decide +kernel
theorem d_Mo_tryTable_120 : decode prog_14_method_19_code 120 = .ok (.ifCond .eq 31, 3) := by decide +kernel
theorem d_Mo_tryTable_123 : decode prog_14_method_19_code 123 = .ok (.aload_n 0, 1) := by decide +kernel
theorem d_Mo_tryTable_124 : decode prog_14_method_19_code 124 = .ok (.getfield 48, 3) := by decide +kernel
theorem d_Mo_tryTable_127 : decode prog_14_method_19_code 127 = .ok (.iload_n 3, 1) := by decide +kernel
theorem d_Mo_tryTable_128 : decode prog_14_method_19_code 128 = .ok (.laload, 1) := by decide +kernel
theorem d_Mo_tryTable_129 : decode prog_14_method_19_code 129 = .ok (.lconst 0, 1) := by decide +kernel
theorem d_Mo_tryTable_130 : decode prog_14_method_19_code 130 = .ok (.lcmp, 1) := by decide +kernel
theorem d_Mo_tryTable_131 : decode prog_14_method_19_code 131 = .ok (.ifCond .lt 20, 3) := by decide +kernel
theorem d_Mo_tryTable_134 : decode prog_14_method_19_code 134 = .ok (.aload_n 0, 1) := by decide +kernel
theorem d_Mo_tryTable_135 : decode prog_14_method_19_code 135 = .ok (.getfield 48, 3) := by decide +kernel
theorem d_Mo_tryTable_138 : decode prog_14_method_19_code 138 = .ok (.iload_n 3, 1) := by decide +kernel
theorem d_Mo_tryTable_139 : decode prog_14_method_19_code 139 = .ok (.laload, 1) := by decide +kernel
theorem d_Mo_tryTable_140 : decode prog_14_method_19_code 140 = .ok (.ldc2_w 124, 3) := by decide +kernel
theorem d_Mo_tryTable_143 : decode prog_14_method_19_code 143 = .ok (.lcmp, 1) := by decide +kernel
theorem d_Mo_tryTable_144 : decode prog_14_method_19_code 144 = .ok (.ifCond .gt 7, 3) := by decide +kernel
theorem d_Mo_tryTable_147 : decode prog_14_method_19_code 147 = .ok (.iconst 1, 1) := by decide +kernel
theorem d_Mo_tryTable_148 : decode prog_14_method_19_code 148 = .ok (.goto 4, 3) := by decide +kernel
theorem d_Mo_tryTable_151 : decode prog_14_method_19_code 151 = .ok (.iconst 0, 1) := by decide +kernel
theorem d_Mo_tryTable_152 : decode prog_14_method_19_code 152 = .ok (.istore_n 2, 1) := by decide +kernel
theorem d_Mo_tryTable_153 : decode prog_14_method_19_code 153 = .ok (.iinc 3 1, 3) := by decide +kernel
theorem d_Mo_tryTable_156 : decode prog_14_method_19_code 156 = .ok (.goto (-45), 3) := by decide +kernel
theorem d_Mo_tryTable_159 : decode prog_14_method_19_code 159 = .ok (.iload_n 2, 1) := by decide +kernel
theorem d_Mo_tryTable_160 : decode prog_14_method_19_code 160 = .ok (.ifCond .eq 21, 3) := by decide +kernel
theorem d_Mo_tryTable_163 : decode prog_14_method_19_code 163 = .ok (.aload_n 0, 1) := by decide +kernel
theorem d_Mo_tryTable_164 : decode prog_14_method_19_code 164 = .ok (.bipush 12, 2) := by decide +kernel
theorem d_Mo_tryTable_166 : decode prog_14_method_19_code 166 = .ok (.iload_n 1, 1) := by decide +kernel
theorem d_Mo_tryTable_167 : decode prog_14_method_19_code 167 = .ok (.iadd, 1) := by decide +kernel
theorem d_Mo_tryTable_168 : decode prog_14_method_19_code 168 = .ok (.iconst 2, 1) := by decide +kernel
theorem d_Mo_tryTable_169 : decode prog_14_method_19_code 169 = .ok (.bipush 8, 2) := by decide +kernel
theorem d_Mo_tryTable_171 : decode prog_14_method_19_code 171 = .ok (.invokevirtual 118, 3) := by decide +kernel
theorem d_Mo_tryTable_174 : decode prog_14_method_19_code 174 = .ok (.ifCond .eq 7, 3) := by decide +kernel
theorem d_Mo_tryTable_177 : decode prog_14_method_19_code 177 = .ok (.iconst 1, 1) := by decide +kernel
theorem d_Mo_tryTable_178 : decode prog_14_method_19_code 178 = .ok (.goto 4, 3) := by decide +kernel
theorem d_Mo_tryTable_181 : decode prog_14_method_19_code 181 = .ok (.iconst 0, 1) := by decide +kernel
theorem d_Mo_tryTable_182 : decode prog_14_method_19_code 182 = .ok (.ireturn, 1) := by decide +kernel
theorem d_Mo_take_0 : decode prog_14_method_8_code 0 = .ok (.iconst 0, 1) := by decide +kernel
theorem d_Mo_take_1 : decode prog_14_method_8_code 1 = .ok (.istore_n 3, 1) := by decide +kernel
theorem d_Mo_take_2 : decode prog_14_method_8_code 2 = .ok (.iload_n 3, 1) := by decide +kernel
theorem d_Mo_take_3 : decode prog_14_method_8_code 3 = .ok (.iconst 4, 1) := by decide +kernel
theorem d_Mo_take_4 : decode prog_14_method_8_code 4 = .ok (.if_icmp .ge 22, 3) := by decide +kernel
theorem d_Mo_take_7 : decode prog_14_method_8_code 7 = .ok (.aload_n 0, 1) := by decide +kernel
theorem d_Mo_take_8 : decode prog_14_method_8_code 8 = .ok (.getfield 54, 3) := by decide +kernel
theorem d_Mo_take_11 : decode prog_14_method_8_code 11 = .ok (.iload_n 3, 1) := by decide +kernel
theorem d_Mo_take_12 : decode prog_14_method_8_code 12 = .ok (.aload_n 0, 1) := by decide +kernel
theorem d_Mo_take_13 : decode prog_14_method_8_code 13 = .ok (.iload_n 1, 1) := by decide +kernel
theorem d_Mo_take_14 : decode prog_14_method_8_code 14 = .ok (.iload_n 2, 1) := by decide +kernel
theorem d_Mo_take_15 : decode prog_14_method_8_code 15 = .ok (.iload_n 3, 1) := by decide +kernel
theorem d_Mo_take_16 : decode prog_14_method_8_code 16 = .ok (.invokevirtual 83, 3) := by decide +kernel
theorem d_Mo_take_19 : decode prog_14_method_8_code 19 = .ok (.iastore, 1) := by decide +kernel
theorem d_Mo_take_20 : decode prog_14_method_8_code 20 = .ok (.iinc 3 1, 3) := by decide +kernel
theorem d_Mo_take_23 : decode prog_14_method_8_code 23 = .ok (.goto (-21), 3) := by decide +kernel
theorem d_Mo_take_26 : decode prog_14_method_8_code 26 = .ok (.return_, 1) := by decide +kernel
theorem d_Mo_cellOf_0 : decode prog_14_method_7_code 0 = .ok (.aload_n 0, 1) := by decide +kernel
theorem d_Mo_cellOf_1 : decode prog_14_method_7_code 1 = .ok (.getfield 45, 3) := by decide +kernel
theorem d_Mo_cellOf_4 : decode prog_14_method_7_code 4 = .ok (.iconst 4, 1) := by decide +kernel
theorem d_Mo_cellOf_5 : decode prog_14_method_7_code 5 = .ok (.bipush 16, 2) := by decide +kernel
theorem d_Mo_cellOf_7 : decode prog_14_method_7_code 7 = .ok (.iload_n 1, 1) := by decide +kernel
theorem d_Mo_cellOf_8 : decode prog_14_method_7_code 8 = .ok (.imul, 1) := by decide +kernel
theorem d_Mo_cellOf_9 : decode prog_14_method_7_code 9 = .ok (.iload_n 2, 1) := by decide +kernel
theorem d_Mo_cellOf_10 : decode prog_14_method_7_code 10 = .ok (.iadd, 1) := by decide +kernel
theorem d_Mo_cellOf_11 : decode prog_14_method_7_code 11 = .ok (.imul, 1) := by decide +kernel
theorem d_Mo_cellOf_12 : decode prog_14_method_7_code 12 = .ok (.iload_n 3, 1) := by decide +kernel
theorem d_Mo_cellOf_13 : decode prog_14_method_7_code 13 = .ok (.iadd, 1) := by decide +kernel
theorem d_Mo_cellOf_14 : decode prog_14_method_7_code 14 = .ok (.iaload, 1) := by decide +kernel
theorem d_Mo_cellOf_15 : decode prog_14_method_7_code 15 = .ok (.ireturn, 1) := by decide +kernel
theorem d_Mo_gather_0 : decode prog_14_method_4_code 0 = .ok (.iconst 0, 1) := by decide +kernel
theorem d_Mo_gather_1 : decode prog_14_method_4_code 1 = .ok (.istore 4, 2) := by decide +kernel
theorem d_Mo_gather_3 : decode prog_14_method_4_code 3 = .ok (.iload 4, 2) := by decide +kernel
theorem d_Mo_gather_5 : decode prog_14_method_4_code 5 = .ok (.aload_n 0, 1) := by decide +kernel
theorem d_Mo_gather_6 : decode prog_14_method_4_code 6 = .ok (.getfield 72, 3) := by decide +kernel
theorem d_Mo_gather_9 : decode prog_14_method_4_code 9 = .ok (.if_icmp .ge 31, 3) := by decide +kernel
theorem d_Mo_gather_12 : decode prog_14_method_4_code 12 = .ok (.aload_n 0, 1) := by decide +kernel
theorem d_Mo_gather_13 : decode prog_14_method_4_code 13 = .ok (.iload 4, 2) := by decide +kernel
theorem d_Mo_gather_15 : decode prog_14_method_4_code 15 = .ok (.iload_n 1, 1) := by decide +kernel
theorem d_Mo_gather_16 : decode prog_14_method_4_code 16 = .ok (.invokevirtual 75, 3) := by decide +kernel
theorem d_Mo_gather_19 : decode prog_14_method_4_code 19 = .ok (.ifCond .eq 15, 3) := by decide +kernel
theorem d_Mo_gather_22 : decode prog_14_method_4_code 22 = .ok (.aload_n 0, 1) := by decide +kernel
theorem d_Mo_gather_23 : decode prog_14_method_4_code 23 = .ok (.getfield 48, 3) := by decide +kernel
theorem d_Mo_gather_26 : decode prog_14_method_4_code 26 = .ok (.iload 4, 2) := by decide +kernel
theorem d_Mo_gather_28 : decode prog_14_method_4_code 28 = .ok (.dup2, 1) := by decide +kernel
theorem d_Mo_gather_29 : decode prog_14_method_4_code 29 = .ok (.laload, 1) := by decide +kernel
theorem d_Mo_gather_30 : decode prog_14_method_4_code 30 = .ok (.lload_n 2, 1) := by decide +kernel
theorem d_Mo_gather_31 : decode prog_14_method_4_code 31 = .ok (.ladd, 1) := by decide +kernel
theorem d_Mo_gather_32 : decode prog_14_method_4_code 32 = .ok (.lastore, 1) := by decide +kernel
theorem d_Mo_gather_33 : decode prog_14_method_4_code 33 = .ok (.return_, 1) := by decide +kernel
theorem d_Mo_gather_34 : decode prog_14_method_4_code 34 = .ok (.iinc 4 1, 3) := by decide +kernel
theorem d_Mo_gather_37 : decode prog_14_method_4_code 37 = .ok (.goto (-34), 3) := by decide +kernel
theorem d_Mo_gather_40 : decode prog_14_method_4_code 40 = .ok (.iconst 0, 1) := by decide +kernel
theorem d_Mo_gather_41 : decode prog_14_method_4_code 41 = .ok (.istore 4, 2) := by decide +kernel
theorem d_Mo_gather_43 : decode prog_14_method_4_code 43 = .ok (.iload 4, 2) := by decide +kernel
theorem d_Mo_gather_45 : decode prog_14_method_4_code 45 = .ok (.iconst 4, 1) := by decide +kernel
theorem d_Mo_gather_46 : decode prog_14_method_4_code 46 = .ok (.if_icmp .ge 30, 3) := by decide +kernel
theorem d_Mo_gather_49 : decode prog_14_method_4_code 49 = .ok (.aload_n 0, 1) := by decide +kernel
theorem d_Mo_gather_50 : decode prog_14_method_4_code 50 = .ok (.getfield 51, 3) := by decide +kernel
theorem d_Mo_gather_53 : decode prog_14_method_4_code 53 = .ok (.iconst 4, 1) := by decide +kernel
theorem d_Mo_gather_54 : decode prog_14_method_4_code 54 = .ok (.aload_n 0, 1) := by decide +kernel
theorem d_Mo_gather_55 : decode prog_14_method_4_code 55 = .ok (.getfield 72, 3) := by decide +kernel
theorem d_Mo_gather_58 : decode prog_14_method_4_code 58 = .ok (.imul, 1) := by decide +kernel
theorem d_Mo_gather_59 : decode prog_14_method_4_code 59 = .ok (.iload 4, 2) := by decide +kernel
theorem d_Mo_gather_61 : decode prog_14_method_4_code 61 = .ok (.iadd, 1) := by decide +kernel
theorem d_Mo_gather_62 : decode prog_14_method_4_code 62 = .ok (.aload_n 0, 1) := by decide +kernel
theorem d_Mo_gather_63 : decode prog_14_method_4_code 63 = .ok (.getfield 54, 3) := by decide +kernel
theorem d_Mo_gather_66 : decode prog_14_method_4_code 66 = .ok (.iload 4, 2) := by decide +kernel
theorem d_Mo_gather_68 : decode prog_14_method_4_code 68 = .ok (.iaload, 1) := by decide +kernel
theorem d_Mo_gather_69 : decode prog_14_method_4_code 69 = .ok (.iastore, 1) := by decide +kernel
theorem d_Mo_gather_70 : decode prog_14_method_4_code 70 = .ok (.iinc 4 1, 3) := by decide +kernel
theorem d_Mo_gather_73 : decode prog_14_method_4_code 73 = .ok (.goto (-30), 3) := by decide +kernel
theorem d_Mo_gather_76 : decode prog_14_method_4_code 76 = .ok (.aload_n 0, 1) := by decide +kernel
theorem d_Mo_gather_77 : decode prog_14_method_4_code 77 = .ok (.getfield 48, 3) := by decide +kernel
theorem d_Mo_gather_80 : decode prog_14_method_4_code 80 = .ok (.aload_n 0, 1) := by decide +kernel
theorem d_Mo_gather_81 : decode prog_14_method_4_code 81 = .ok (.getfield 72, 3) := by decide +kernel
theorem d_Mo_gather_84 : decode prog_14_method_4_code 84 = .ok (.lload_n 2, 1) := by decide +kernel
theorem d_Mo_gather_85 : decode prog_14_method_4_code 85 = .ok (.lastore, 1) := by decide +kernel
theorem d_Mo_gather_86 : decode prog_14_method_4_code 86 = .ok (.aload_n 0, 1) := by decide +kernel
theorem d_Mo_gather_87 : decode prog_14_method_4_code 87 = .ok (.dup, 1) := by decide +kernel
theorem d_Mo_gather_88 : decode prog_14_method_4_code 88 = .ok (.getfield 72, 3) := by decide +kernel
theorem d_Mo_gather_91 : decode prog_14_method_4_code 91 = .ok (.iconst 1, 1) := by decide +kernel
theorem d_Mo_gather_92 : decode prog_14_method_4_code 92 = .ok (.iadd, 1) := by decide +kernel
theorem d_Mo_gather_93 : decode prog_14_method_4_code 93 = .ok (.putfield 72, 3) := by decide +kernel
theorem d_Mo_gather_96 : decode prog_14_method_4_code 96 = .ok (.return_, 1) := by decide +kernel
theorem d_Mo_isRow_0 : decode prog_14_method_3_code 0 = .ok (.iconst 1, 1) := by decide +kernel
theorem d_Mo_isRow_1 : decode prog_14_method_3_code 1 = .ok (.istore_n 3, 1) := by decide +kernel
theorem d_Mo_isRow_2 : decode prog_14_method_3_code 2 = .ok (.iconst 0, 1) := by decide +kernel
theorem d_Mo_isRow_3 : decode prog_14_method_3_code 3 = .ok (.istore 4, 2) := by decide +kernel
theorem d_Mo_isRow_5 : decode prog_14_method_3_code 5 = .ok (.iload 4, 2) := by decide +kernel
theorem d_Mo_isRow_7 : decode prog_14_method_3_code 7 = .ok (.iload_n 2, 1) := by decide +kernel
theorem d_Mo_isRow_8 : decode prog_14_method_3_code 8 = .ok (.if_icmp .ge 40, 3) := by decide +kernel
theorem d_Mo_isRow_11 : decode prog_14_method_3_code 11 = .ok (.iload_n 3, 1) := by decide +kernel
theorem d_Mo_isRow_12 : decode prog_14_method_3_code 12 = .ok (.ifCond .eq 28, 3) := by decide +kernel
theorem d_Mo_isRow_15 : decode prog_14_method_3_code 15 = .ok (.aload_n 0, 1) := by decide +kernel
theorem d_Mo_isRow_16 : decode prog_14_method_3_code 16 = .ok (.getfield 51, 3) := by decide +kernel
theorem d_Mo_isRow_19 : decode prog_14_method_3_code 19 = .ok (.iconst 4, 1) := by decide +kernel
theorem d_Mo_isRow_20 : decode prog_14_method_3_code 20 = .ok (.iload_n 1, 1) := by decide +kernel
theorem d_Mo_isRow_21 : decode prog_14_method_3_code 21 = .ok (.imul, 1) := by decide +kernel
theorem d_Mo_isRow_22 : decode prog_14_method_3_code 22 = .ok (.iload 4, 2) := by decide +kernel
theorem d_Mo_isRow_24 : decode prog_14_method_3_code 24 = .ok (.iadd, 1) := by decide +kernel
theorem d_Mo_isRow_25 : decode prog_14_method_3_code 25 = .ok (.iaload, 1) := by decide +kernel
theorem d_Mo_isRow_26 : decode prog_14_method_3_code 26 = .ok (.aload_n 0, 1) := by decide +kernel
theorem d_Mo_isRow_27 : decode prog_14_method_3_code 27 = .ok (.getfield 54, 3) := by decide +kernel
theorem d_Mo_isRow_30 : decode prog_14_method_3_code 30 = .ok (.iload 4, 2) := by decide +kernel
theorem d_Mo_isRow_32 : decode prog_14_method_3_code 32 = .ok (.iaload, 1) := by decide +kernel
theorem d_Mo_isRow_33 : decode prog_14_method_3_code 33 = .ok (.if_icmp .ne 7, 3) := by decide +kernel
theorem d_Mo_isRow_36 : decode prog_14_method_3_code 36 = .ok (.iconst 1, 1) := by decide +kernel
theorem d_Mo_isRow_37 : decode prog_14_method_3_code 37 = .ok (.goto 4, 3) := by decide +kernel
theorem d_Mo_isRow_40 : decode prog_14_method_3_code 40 = .ok (.iconst 0, 1) := by decide +kernel
theorem d_Mo_isRow_41 : decode prog_14_method_3_code 41 = .ok (.istore_n 3, 1) := by decide +kernel
theorem d_Mo_isRow_42 : decode prog_14_method_3_code 42 = .ok (.iinc 4 1, 3) := by decide +kernel
theorem d_Mo_isRow_45 : decode prog_14_method_3_code 45 = .ok (.goto (-40), 3) := by decide +kernel
theorem d_Mo_isRow_48 : decode prog_14_method_3_code 48 = .ok (.iload_n 3, 1) := by decide +kernel
theorem d_Mo_isRow_49 : decode prog_14_method_3_code 49 = .ok (.ireturn, 1) := by decide +kernel
theorem d_Mo_settle_0 : decode prog_14_method_6_code 0 = .ok (.iconst 0, 1) := by decide +kernel
theorem d_Mo_settle_1 : decode prog_14_method_6_code 1 = .ok (.istore 4, 2) := by decide +kernel
theorem d_Mo_settle_3 : decode prog_14_method_6_code 3 = .ok (.iconst 0, 1) := by decide +kernel
theorem d_Mo_settle_4 : decode prog_14_method_6_code 4 = .ok (.istore 5, 2) := by decide +kernel
theorem d_Mo_settle_6 : decode prog_14_method_6_code 6 = .ok (.iload 5, 2) := by decide +kernel
theorem d_Mo_settle_8 : decode prog_14_method_6_code 8 = .ok (.aload_n 0, 1) := by decide +kernel
theorem d_Mo_settle_9 : decode prog_14_method_6_code 9 = .ok (.getfield 72, 3) := by decide +kernel
theorem d_Mo_settle_12 : decode prog_14_method_6_code 12 = .ok (.if_icmp .ge 32, 3) := by decide +kernel
theorem d_Mo_settle_15 : decode prog_14_method_6_code 15 = .ok (.aload_n 0, 1) := by decide +kernel
theorem d_Mo_settle_16 : decode prog_14_method_6_code 16 = .ok (.getfield 48, 3) := by decide +kernel
theorem d_Mo_settle_19 : decode prog_14_method_6_code 19 = .ok (.iload 5, 2) := by decide +kernel
theorem d_Mo_settle_21 : decode prog_14_method_6_code 21 = .ok (.laload, 1) := by decide +kernel
theorem d_Mo_settle_22 : decode prog_14_method_6_code 22 = .ok (.lconst 0, 1) := by decide +kernel
theorem d_Mo_settle_23 : decode prog_14_method_6_code 23 = .ok (.lcmp, 1) := by decide +kernel
theorem d_Mo_settle_24 : decode prog_14_method_6_code 24 = .ok (.ifCond .eq 10, 3) := by decide +kernel
theorem d_Mo_settle_27 : decode prog_14_method_6_code 27 = .ok (.iload 4, 2) := by decide +kernel
theorem d_Mo_settle_29 : decode prog_14_method_6_code 29 = .ok (.iconst 1, 1) := by decide +kernel
theorem d_Mo_settle_30 : decode prog_14_method_6_code 30 = .ok (.iadd, 1) := by decide +kernel
theorem d_Mo_settle_31 : decode prog_14_method_6_code 31 = .ok (.goto 5, 3) := by decide +kernel
theorem d_Mo_settle_34 : decode prog_14_method_6_code 34 = .ok (.iload 4, 2) := by decide +kernel
theorem d_Mo_settle_36 : decode prog_14_method_6_code 36 = .ok (.istore 4, 2) := by decide +kernel
theorem d_Mo_settle_38 : decode prog_14_method_6_code 38 = .ok (.iinc 5 1, 3) := by decide +kernel
theorem d_Mo_settle_41 : decode prog_14_method_6_code 41 = .ok (.goto (-35), 3) := by decide +kernel
theorem d_Mo_settle_44 : decode prog_14_method_6_code 44 = .ok (.iload 4, 2) := by decide +kernel
theorem d_Mo_settle_46 : decode prog_14_method_6_code 46 = .ok (.iload_n 3, 1) := by decide +kernel
theorem d_Mo_settle_47 : decode prog_14_method_6_code 47 = .ok (.if_icmp .le 5, 3) := by decide +kernel
theorem d_Mo_settle_50 : decode prog_14_method_6_code 50 = .ok (.iconst 0, 1) := by decide +kernel
theorem d_Mo_settle_51 : decode prog_14_method_6_code 51 = .ok (.ireturn, 1) := by decide +kernel
theorem d_Mo_settle_52 : decode prog_14_method_6_code 52 = .ok (.aload_n 0, 1) := by decide +kernel
theorem d_Mo_settle_53 : decode prog_14_method_6_code 53 = .ok (.getfield 38, 3) := by decide +kernel
theorem d_Mo_settle_56 : decode prog_14_method_6_code 56 = .ok (.iload_n 1, 1) := by decide +kernel
theorem d_Mo_settle_57 : decode prog_14_method_6_code 57 = .ok (.iload 4, 2) := by decide +kernel
theorem d_Mo_settle_59 : decode prog_14_method_6_code 59 = .ok (.iastore, 1) := by decide +kernel
theorem d_Mo_settle_60 : decode prog_14_method_6_code 60 = .ok (.iconst 0, 1) := by decide +kernel
theorem d_Mo_settle_61 : decode prog_14_method_6_code 61 = .ok (.istore 5, 2) := by decide +kernel
theorem d_Mo_settle_63 : decode prog_14_method_6_code 63 = .ok (.iload 5, 2) := by decide +kernel
theorem d_Mo_settle_65 : decode prog_14_method_6_code 65 = .ok (.aload_n 0, 1) := by decide +kernel
theorem d_Mo_settle_66 : decode prog_14_method_6_code 66 = .ok (.getfield 72, 3) := by decide +kernel
theorem d_Mo_settle_69 : decode prog_14_method_6_code 69 = .ok (.if_icmp .ge 133, 3) := by decide +kernel
theorem d_Mo_settle_72 : decode prog_14_method_6_code 72 = .ok (.bipush 16, 2) := by decide +kernel
theorem d_Mo_settle_74 : decode prog_14_method_6_code 74 = .ok (.iload_n 1, 1) := by decide +kernel
theorem d_Mo_settle_75 : decode prog_14_method_6_code 75 = .ok (.imul, 1) := by decide +kernel
theorem d_Mo_settle_76 : decode prog_14_method_6_code 76 = .ok (.istore 6, 2) := by decide +kernel
theorem d_Mo_settle_78 : decode prog_14_method_6_code 78 = .ok (.iconst 0, 1) := by decide +kernel
theorem d_Mo_settle_79 : decode prog_14_method_6_code 79 = .ok (.istore 7, 2) := by decide +kernel
theorem d_Mo_settle_81 : decode prog_14_method_6_code 81 = .ok (.iload 7, 2) := by decide +kernel
theorem d_Mo_settle_83 : decode prog_14_method_6_code 83 = .ok (.aload_n 0, 1) := by decide +kernel
theorem d_Mo_settle_84 : decode prog_14_method_6_code 84 = .ok (.getfield 72, 3) := by decide +kernel
theorem d_Mo_settle_87 : decode prog_14_method_6_code 87 = .ok (.if_icmp .ge 44, 3) := by decide +kernel
theorem d_Mo_settle_90 : decode prog_14_method_6_code 90 = .ok (.aload_n 0, 1) := by decide +kernel
theorem d_Mo_settle_91 : decode prog_14_method_6_code 91 = .ok (.getfield 48, 3) := by decide +kernel
theorem d_Mo_settle_94 : decode prog_14_method_6_code 94 = .ok (.iload 7, 2) := by decide +kernel
theorem d_Mo_settle_96 : decode prog_14_method_6_code 96 = .ok (.laload, 1) := by decide +kernel
theorem d_Mo_settle_97 : decode prog_14_method_6_code 97 = .ok (.lconst 0, 1) := by decide +kernel
theorem d_Mo_settle_98 : decode prog_14_method_6_code 98 = .ok (.lcmp, 1) := by decide +kernel
theorem d_Mo_settle_99 : decode prog_14_method_6_code 99 = .ok (.ifCond .eq 22, 3) := by decide +kernel
theorem d_Mo_settle_102 : decode prog_14_method_6_code 102 = .ok (.aload_n 0, 1) := by decide +kernel
theorem d_Mo_settle_103 : decode prog_14_method_6_code 103 = .ok (.iload 7, 2) := by decide +kernel
theorem d_Mo_settle_105 : decode prog_14_method_6_code 105 = .ok (.iload 5, 2) := by decide +kernel
theorem d_Mo_settle_107 : decode prog_14_method_6_code 107 = .ok (.iload_n 2, 1) := by decide +kernel
theorem d_Mo_settle_108 : decode prog_14_method_6_code 108 = .ok (.invokevirtual 79, 3) := by decide +kernel
theorem d_Mo_settle_111 : decode prog_14_method_6_code 111 = .ok (.ifCond .eq 10, 3) := by decide +kernel
theorem d_Mo_settle_114 : decode prog_14_method_6_code 114 = .ok (.iload 6, 2) := by decide +kernel
theorem d_Mo_settle_116 : decode prog_14_method_6_code 116 = .ok (.iconst 1, 1) := by decide +kernel
theorem d_Mo_settle_117 : decode prog_14_method_6_code 117 = .ok (.iadd, 1) := by decide +kernel
theorem d_Mo_settle_118 : decode prog_14_method_6_code 118 = .ok (.goto 5, 3) := by decide +kernel
theorem d_Mo_settle_121 : decode prog_14_method_6_code 121 = .ok (.iload 6, 2) := by decide +kernel
theorem d_Mo_settle_123 : decode prog_14_method_6_code 123 = .ok (.istore 6, 2) := by decide +kernel
theorem d_Mo_settle_125 : decode prog_14_method_6_code 125 = .ok (.iinc 7 1, 3) := by decide +kernel
theorem d_Mo_settle_128 : decode prog_14_method_6_code 128 = .ok (.goto (-47), 3) := by decide +kernel
theorem d_Mo_settle_131 : decode prog_14_method_6_code 131 = .ok (.aload_n 0, 1) := by decide +kernel
theorem d_Mo_settle_132 : decode prog_14_method_6_code 132 = .ok (.getfield 48, 3) := by decide +kernel
theorem d_Mo_settle_135 : decode prog_14_method_6_code 135 = .ok (.iload 5, 2) := by decide +kernel
theorem d_Mo_settle_137 : decode prog_14_method_6_code 137 = .ok (.laload, 1) := by decide +kernel
theorem d_Mo_settle_138 : decode prog_14_method_6_code 138 = .ok (.lconst 0, 1) := by decide +kernel
theorem d_Mo_settle_139 : decode prog_14_method_6_code 139 = .ok (.lcmp, 1) := by decide +kernel
theorem d_Mo_settle_140 : decode prog_14_method_6_code 140 = .ok (.ifCond .eq 56, 3) := by decide +kernel
theorem d_Mo_settle_143 : decode prog_14_method_6_code 143 = .ok (.aload_n 0, 1) := by decide +kernel
theorem d_Mo_settle_144 : decode prog_14_method_6_code 144 = .ok (.getfield 41, 3) := by decide +kernel
theorem d_Mo_settle_147 : decode prog_14_method_6_code 147 = .ok (.iload 6, 2) := by decide +kernel
theorem d_Mo_settle_149 : decode prog_14_method_6_code 149 = .ok (.aload_n 0, 1) := by decide +kernel
theorem d_Mo_settle_150 : decode prog_14_method_6_code 150 = .ok (.getfield 48, 3) := by decide +kernel
theorem d_Mo_settle_153 : decode prog_14_method_6_code 153 = .ok (.iload 5, 2) := by decide +kernel
theorem d_Mo_settle_155 : decode prog_14_method_6_code 155 = .ok (.laload, 1) := by decide +kernel
theorem d_Mo_settle_156 : decode prog_14_method_6_code 156 = .ok (.lastore, 1) := by decide +kernel
theorem d_Mo_settle_157 : decode prog_14_method_6_code 157 = .ok (.iconst 0, 1) := by decide +kernel
theorem d_Mo_settle_158 : decode prog_14_method_6_code 158 = .ok (.istore 7, 2) := by decide +kernel
theorem d_Mo_settle_160 : decode prog_14_method_6_code 160 = .ok (.iload 7, 2) := by decide +kernel
theorem d_Mo_settle_162 : decode prog_14_method_6_code 162 = .ok (.iconst 4, 1) := by decide +kernel
theorem d_Mo_settle_163 : decode prog_14_method_6_code 163 = .ok (.if_icmp .ge 33, 3) := by decide +kernel
theorem d_Mo_settle_166 : decode prog_14_method_6_code 166 = .ok (.aload_n 0, 1) := by decide +kernel
theorem d_Mo_settle_167 : decode prog_14_method_6_code 167 = .ok (.getfield 45, 3) := by decide +kernel
theorem d_Mo_settle_170 : decode prog_14_method_6_code 170 = .ok (.iconst 4, 1) := by decide +kernel
theorem d_Mo_settle_171 : decode prog_14_method_6_code 171 = .ok (.iload 6, 2) := by decide +kernel
theorem d_Mo_settle_173 : decode prog_14_method_6_code 173 = .ok (.imul, 1) := by decide +kernel
theorem d_Mo_settle_174 : decode prog_14_method_6_code 174 = .ok (.iload 7, 2) := by decide +kernel
theorem d_Mo_settle_176 : decode prog_14_method_6_code 176 = .ok (.iadd, 1) := by decide +kernel
theorem d_Mo_settle_177 : decode prog_14_method_6_code 177 = .ok (.aload_n 0, 1) := by decide +kernel
theorem d_Mo_settle_178 : decode prog_14_method_6_code 178 = .ok (.getfield 51, 3) := by decide +kernel
theorem d_Mo_settle_181 : decode prog_14_method_6_code 181 = .ok (.iconst 4, 1) := by decide +kernel
theorem d_Mo_settle_182 : decode prog_14_method_6_code 182 = .ok (.iload 5, 2) := by decide +kernel
theorem d_Mo_settle_184 : decode prog_14_method_6_code 184 = .ok (.imul, 1) := by decide +kernel
theorem d_Mo_settle_185 : decode prog_14_method_6_code 185 = .ok (.iload 7, 2) := by decide +kernel
theorem d_Mo_settle_187 : decode prog_14_method_6_code 187 = .ok (.iadd, 1) := by decide +kernel
theorem d_Mo_settle_188 : decode prog_14_method_6_code 188 = .ok (.iaload, 1) := by decide +kernel
theorem d_Mo_settle_189 : decode prog_14_method_6_code 189 = .ok (.iastore, 1) := by decide +kernel
theorem d_Mo_settle_190 : decode prog_14_method_6_code 190 = .ok (.iinc 7 1, 3) := by decide +kernel
theorem d_Mo_settle_193 : decode prog_14_method_6_code 193 = .ok (.goto (-33), 3) := by decide +kernel
theorem d_Mo_settle_196 : decode prog_14_method_6_code 196 = .ok (.iinc 5 1, 3) := by decide +kernel
theorem d_Mo_settle_199 : decode prog_14_method_6_code 199 = .ok (.goto (-136), 3) := by decide +kernel
theorem d_Mo_settle_202 : decode prog_14_method_6_code 202 = .ok (.iconst 1, 1) := by decide +kernel
theorem d_Mo_settle_203 : decode prog_14_method_6_code 203 = .ok (.ireturn, 1) := by decide +kernel
theorem d_Mo_comesBefore_0 : decode prog_14_method_5_code 0 = .ok (.iconst 0, 1) := by decide +kernel
theorem d_Mo_comesBefore_1 : decode prog_14_method_5_code 1 = .ok (.istore 4, 2) := by decide +kernel
theorem d_Mo_comesBefore_3 : decode prog_14_method_5_code 3 = .ok (.iload 4, 2) := by decide +kernel
theorem d_Mo_comesBefore_5 : decode prog_14_method_5_code 5 = .ok (.iload_n 3, 1) := by decide +kernel
theorem d_Mo_comesBefore_6 : decode prog_14_method_5_code 6 = .ok (.iconst 1, 1) := by decide +kernel
theorem d_Mo_comesBefore_7 : decode prog_14_method_5_code 7 = .ok (.isub, 1) := by decide +kernel
theorem d_Mo_comesBefore_8 : decode prog_14_method_5_code 8 = .ok (.if_icmp .ge 34, 3) := by decide +kernel
theorem d_Mo_comesBefore_11 : decode prog_14_method_5_code 11 = .ok (.aload_n 0, 1) := by decide +kernel
theorem d_Mo_comesBefore_12 : decode prog_14_method_5_code 12 = .ok (.getfield 51, 3) := by decide +kernel
theorem d_Mo_comesBefore_15 : decode prog_14_method_5_code 15 = .ok (.iconst 4, 1) := by decide +kernel
theorem d_Mo_comesBefore_16 : decode prog_14_method_5_code 16 = .ok (.iload_n 1, 1) := by decide +kernel
theorem d_Mo_comesBefore_17 : decode prog_14_method_5_code 17 = .ok (.imul, 1) := by decide +kernel
theorem d_Mo_comesBefore_18 : decode prog_14_method_5_code 18 = .ok (.iload 4, 2) := by decide +kernel
theorem d_Mo_comesBefore_20 : decode prog_14_method_5_code 20 = .ok (.iadd, 1) := by decide +kernel
theorem d_Mo_comesBefore_21 : decode prog_14_method_5_code 21 = .ok (.iaload, 1) := by decide +kernel
theorem d_Mo_comesBefore_22 : decode prog_14_method_5_code 22 = .ok (.aload_n 0, 1) := by decide +kernel
theorem d_Mo_comesBefore_23 : decode prog_14_method_5_code 23 = .ok (.getfield 51, 3) := by decide +kernel
theorem d_Mo_comesBefore_26 : decode prog_14_method_5_code 26 = .ok (.iconst 4, 1) := by decide +kernel
theorem d_Mo_comesBefore_27 : decode prog_14_method_5_code 27 = .ok (.iload_n 2, 1) := by decide +kernel
theorem d_Mo_comesBefore_28 : decode prog_14_method_5_code 28 = .ok (.imul, 1) := by decide +kernel
theorem d_Mo_comesBefore_29 : decode prog_14_method_5_code 29 = .ok (.iload 4, 2) := by decide +kernel
theorem d_Mo_comesBefore_31 : decode prog_14_method_5_code 31 = .ok (.iadd, 1) := by decide +kernel
theorem d_Mo_comesBefore_32 : decode prog_14_method_5_code 32 = .ok (.iaload, 1) := by decide +kernel
theorem d_Mo_comesBefore_33 : decode prog_14_method_5_code 33 = .ok (.if_icmp .ne 9, 3) := by decide +kernel
theorem d_Mo_comesBefore_36 : decode prog_14_method_5_code 36 = .ok (.iinc 4 1, 3) := by decide +kernel
theorem d_Mo_comesBefore_39 : decode prog_14_method_5_code 39 = .ok (.goto (-36), 3) := by decide +kernel
theorem d_Mo_comesBefore_42 : decode prog_14_method_5_code 42 = .ok (.aload_n 0, 1) := by decide +kernel
theorem d_Mo_comesBefore_43 : decode prog_14_method_5_code 43 = .ok (.getfield 51, 3) := by decide +kernel
theorem d_Mo_comesBefore_46 : decode prog_14_method_5_code 46 = .ok (.iconst 4, 1) := by decide +kernel
theorem d_Mo_comesBefore_47 : decode prog_14_method_5_code 47 = .ok (.iload_n 1, 1) := by decide +kernel
theorem d_Mo_comesBefore_48 : decode prog_14_method_5_code 48 = .ok (.imul, 1) := by decide +kernel
theorem d_Mo_comesBefore_49 : decode prog_14_method_5_code 49 = .ok (.iload 4, 2) := by decide +kernel
theorem d_Mo_comesBefore_51 : decode prog_14_method_5_code 51 = .ok (.iadd, 1) := by decide +kernel
theorem d_Mo_comesBefore_52 : decode prog_14_method_5_code 52 = .ok (.iaload, 1) := by decide +kernel
theorem d_Mo_comesBefore_53 : decode prog_14_method_5_code 53 = .ok (.aload_n 0, 1) := by decide +kernel
theorem d_Mo_comesBefore_54 : decode prog_14_method_5_code 54 = .ok (.getfield 51, 3) := by decide +kernel
theorem d_Mo_comesBefore_57 : decode prog_14_method_5_code 57 = .ok (.iconst 4, 1) := by decide +kernel
theorem d_Mo_comesBefore_58 : decode prog_14_method_5_code 58 = .ok (.iload_n 2, 1) := by decide +kernel
theorem d_Mo_comesBefore_59 : decode prog_14_method_5_code 59 = .ok (.imul, 1) := by decide +kernel
theorem d_Mo_comesBefore_60 : decode prog_14_method_5_code 60 = .ok (.iload 4, 2) := by decide +kernel
theorem d_Mo_comesBefore_62 : decode prog_14_method_5_code 62 = .ok (.iadd, 1) := by decide +kernel
theorem d_Mo_comesBefore_63 : decode prog_14_method_5_code 63 = .ok (.iaload, 1) := by decide +kernel
theorem d_Mo_comesBefore_64 : decode prog_14_method_5_code 64 = .ok (.if_icmp .ge 7, 3) := by decide +kernel
theorem d_Mo_comesBefore_67 : decode prog_14_method_5_code 67 = .ok (.iconst 1, 1) := by decide +kernel
theorem d_Mo_comesBefore_68 : decode prog_14_method_5_code 68 = .ok (.goto 4, 3) := by decide +kernel
theorem d_Mo_comesBefore_71 : decode prog_14_method_5_code 71 = .ok (.iconst 0, 1) := by decide +kernel
theorem d_Mo_comesBefore_72 : decode prog_14_method_5_code 72 = .ok (.ireturn, 1) := by decide +kernel
theorem d_Mo_work_0 : decode prog_14_method_16_code 0 = .ok (.aload_n 0, 1) := by decide +kernel
theorem d_Mo_work_1 : decode prog_14_method_16_code 1 = .ok (.getfield 20, 3) := by decide +kernel
theorem d_Mo_work_4 : decode prog_14_method_16_code 4 = .ok (.iload_n 1, 1) := by decide +kernel
theorem d_Mo_work_5 : decode prog_14_method_16_code 5 = .ok (.iaload, 1) := by decide +kernel
theorem d_Mo_work_6 : decode prog_14_method_16_code 6 = .ok (.iload_n 2, 1) := by decide +kernel
theorem d_Mo_work_7 : decode prog_14_method_16_code 7 = .ok (.iadd, 1) := by decide +kernel
theorem d_Mo_work_8 : decode prog_14_method_16_code 8 = .ok (.istore_n 3, 1) := by decide +kernel
theorem d_Mo_work_9 : decode prog_14_method_16_code 9 = .ok (.aload_n 0, 1) := by decide +kernel
theorem d_Mo_work_10 : decode prog_14_method_16_code 10 = .ok (.getfield 23, 3) := by decide +kernel
theorem d_Mo_work_13 : decode prog_14_method_16_code 13 = .ok (.iload_n 1, 1) := by decide +kernel
theorem d_Mo_work_14 : decode prog_14_method_16_code 14 = .ok (.iaload, 1) := by decide +kernel
theorem d_Mo_work_15 : decode prog_14_method_16_code 15 = .ok (.iload_n 2, 1) := by decide +kernel
theorem d_Mo_work_16 : decode prog_14_method_16_code 16 = .ok (.iadd, 1) := by decide +kernel
theorem d_Mo_work_17 : decode prog_14_method_16_code 17 = .ok (.istore 4, 2) := by decide +kernel
theorem d_Mo_work_19 : decode prog_14_method_16_code 19 = .ok (.aload_n 0, 1) := by decide +kernel
theorem d_Mo_work_20 : decode prog_14_method_16_code 20 = .ok (.iconst 0, 1) := by decide +kernel
theorem d_Mo_work_21 : decode prog_14_method_16_code 21 = .ok (.putfield 72, 3) := by decide +kernel
theorem d_Mo_work_24 : decode prog_14_method_16_code 24 = .ok (.aload_n 0, 1) := by decide +kernel
theorem d_Mo_work_25 : decode prog_14_method_16_code 25 = .ok (.getfield 17, 3) := by decide +kernel
theorem d_Mo_work_28 : decode prog_14_method_16_code 28 = .ok (.iload_n 1, 1) := by decide +kernel
theorem d_Mo_work_29 : decode prog_14_method_16_code 29 = .ok (.iaload, 1) := by decide +kernel
theorem d_Mo_work_30 : decode prog_14_method_16_code 30 = .ok (.iconst 1, 1) := by decide +kernel
theorem d_Mo_work_31 : decode prog_14_method_16_code 31 = .ok (.if_icmp .ne 12, 3) := by decide +kernel
theorem d_Mo_work_34 : decode prog_14_method_16_code 34 = .ok (.aload_n 0, 1) := by decide +kernel
theorem d_Mo_work_35 : decode prog_14_method_16_code 35 = .ok (.iload_n 3, 1) := by decide +kernel
theorem d_Mo_work_36 : decode prog_14_method_16_code 36 = .ok (.iload_n 1, 1) := by decide +kernel
theorem d_Mo_work_37 : decode prog_14_method_16_code 37 = .ok (.invokevirtual 101, 3) := by decide +kernel
theorem d_Mo_work_40 : decode prog_14_method_16_code 40 = .ok (.goto 98, 3) := by decide +kernel
theorem d_Mo_work_43 : decode prog_14_method_16_code 43 = .ok (.aload_n 0, 1) := by decide +kernel
theorem d_Mo_work_44 : decode prog_14_method_16_code 44 = .ok (.getfield 17, 3) := by decide +kernel
theorem d_Mo_work_47 : decode prog_14_method_16_code 47 = .ok (.iload_n 1, 1) := by decide +kernel
theorem d_Mo_work_48 : decode prog_14_method_16_code 48 = .ok (.iaload, 1) := by decide +kernel
theorem d_Mo_work_49 : decode prog_14_method_16_code 49 = .ok (.iconst 2, 1) := by decide +kernel
theorem d_Mo_work_50 : decode prog_14_method_16_code 50 = .ok (.if_icmp .ne 12, 3) := by decide +kernel
theorem d_Mo_work_53 : decode prog_14_method_16_code 53 = .ok (.aload_n 0, 1) := by decide +kernel
theorem d_Mo_work_54 : decode prog_14_method_16_code 54 = .ok (.iload_n 3, 1) := by decide +kernel
theorem d_Mo_work_55 : decode prog_14_method_16_code 55 = .ok (.iload_n 1, 1) := by decide +kernel
theorem d_Mo_work_56 : decode prog_14_method_16_code 56 = .ok (.invokevirtual 104, 3) := by decide +kernel
theorem d_Mo_work_59 : decode prog_14_method_16_code 59 = .ok (.goto 79, 3) := by decide +kernel
theorem d_Mo_work_62 : decode prog_14_method_16_code 62 = .ok (.aload_n 0, 1) := by decide +kernel
theorem d_Mo_work_63 : decode prog_14_method_16_code 63 = .ok (.getfield 17, 3) := by decide +kernel
theorem d_Mo_work_66 : decode prog_14_method_16_code 66 = .ok (.iload_n 1, 1) := by decide +kernel
theorem d_Mo_work_67 : decode prog_14_method_16_code 67 = .ok (.iaload, 1) := by decide +kernel
theorem d_Mo_work_68 : decode prog_14_method_16_code 68 = .ok (.iconst 3, 1) := by decide +kernel
theorem d_Mo_work_69 : decode prog_14_method_16_code 69 = .ok (.if_icmp .ne 14, 3) := by decide +kernel
theorem d_Mo_work_72 : decode prog_14_method_16_code 72 = .ok (.aload_n 0, 1) := by decide +kernel
theorem d_Mo_work_73 : decode prog_14_method_16_code 73 = .ok (.iload_n 3, 1) := by decide +kernel
theorem d_Mo_work_74 : decode prog_14_method_16_code 74 = .ok (.iload 4, 2) := by decide +kernel
theorem d_Mo_work_76 : decode prog_14_method_16_code 76 = .ok (.iload_n 1, 1) := by decide +kernel
theorem d_Mo_work_77 : decode prog_14_method_16_code 77 = .ok (.invokevirtual 107, 3) := by decide +kernel
theorem d_Mo_work_80 : decode prog_14_method_16_code 80 = .ok (.goto 58, 3) := by decide +kernel
theorem d_Mo_work_83 : decode prog_14_method_16_code 83 = .ok (.aload_n 0, 1) := by decide +kernel
theorem d_Mo_work_84 : decode prog_14_method_16_code 84 = .ok (.getfield 17, 3) := by decide +kernel
theorem d_Mo_work_87 : decode prog_14_method_16_code 87 = .ok (.iload_n 1, 1) := by decide +kernel
theorem d_Mo_work_88 : decode prog_14_method_16_code 88 = .ok (.iaload, 1) := by decide +kernel
theorem d_Mo_work_89 : decode prog_14_method_16_code 89 = .ok (.iconst 4, 1) := by decide +kernel
theorem d_Mo_work_90 : decode prog_14_method_16_code 90 = .ok (.if_icmp .ne 21, 3) := by decide +kernel
theorem d_Mo_work_93 : decode prog_14_method_16_code 93 = .ok (.aload_n 0, 1) := by decide +kernel
theorem d_Mo_work_94 : decode prog_14_method_16_code 94 = .ok (.iload_n 3, 1) := by decide +kernel
theorem d_Mo_work_95 : decode prog_14_method_16_code 95 = .ok (.iload_n 1, 1) := by decide +kernel
theorem d_Mo_work_96 : decode prog_14_method_16_code 96 = .ok (.iconst 0, 1) := by decide +kernel
theorem d_Mo_work_97 : decode prog_14_method_16_code 97 = .ok (.invokevirtual 111, 3) := by decide +kernel
theorem d_Mo_work_100 : decode prog_14_method_16_code 100 = .ok (.aload_n 0, 1) := by decide +kernel
theorem d_Mo_work_101 : decode prog_14_method_16_code 101 = .ok (.iload 4, 2) := by decide +kernel
theorem d_Mo_work_103 : decode prog_14_method_16_code 103 = .ok (.iload_n 1, 1) := by decide +kernel
theorem d_Mo_work_104 : decode prog_14_method_16_code 104 = .ok (.iconst 0, 1) := by decide +kernel
theorem d_Mo_work_105 : decode prog_14_method_16_code 105 = .ok (.invokevirtual 111, 3) := by decide +kernel
theorem d_Mo_work_108 : decode prog_14_method_16_code 108 = .ok (.goto 30, 3) := by decide +kernel
theorem d_Mo_work_111 : decode prog_14_method_16_code 111 = .ok (.aload_n 0, 1) := by decide +kernel
theorem d_Mo_work_112 : decode prog_14_method_16_code 112 = .ok (.getfield 17, 3) := by decide +kernel
theorem d_Mo_work_115 : decode prog_14_method_16_code 115 = .ok (.iload_n 1, 1) := by decide +kernel
theorem d_Mo_work_116 : decode prog_14_method_16_code 116 = .ok (.iaload, 1) := by decide +kernel
theorem d_Mo_work_117 : decode prog_14_method_16_code 117 = .ok (.bipush 8, 2) := by decide +kernel
theorem d_Mo_work_119 : decode prog_14_method_16_code 119 = .ok (.if_icmp .ne 13, 3) := by decide +kernel
theorem d_Mo_work_122 : decode prog_14_method_16_code 122 = .ok (.aload_n 0, 1) := by decide +kernel
theorem d_Mo_work_123 : decode prog_14_method_16_code 123 = .ok (.iload_n 3, 1) := by decide +kernel
theorem d_Mo_work_124 : decode prog_14_method_16_code 124 = .ok (.iload_n 1, 1) := by decide +kernel
theorem d_Mo_work_125 : decode prog_14_method_16_code 125 = .ok (.iconst 1, 1) := by decide +kernel
theorem d_Mo_work_126 : decode prog_14_method_16_code 126 = .ok (.invokevirtual 111, 3) := by decide +kernel
theorem d_Mo_work_129 : decode prog_14_method_16_code 129 = .ok (.goto 9, 3) := by decide +kernel
theorem d_Mo_work_132 : decode prog_14_method_16_code 132 = .ok (.aload_n 0, 1) := by decide +kernel
theorem d_Mo_work_133 : decode prog_14_method_16_code 133 = .ok (.iload_n 3, 1) := by decide +kernel
theorem d_Mo_work_134 : decode prog_14_method_16_code 134 = .ok (.iload_n 1, 1) := by decide +kernel
theorem d_Mo_work_135 : decode prog_14_method_16_code 135 = .ok (.invokevirtual 115, 3) := by decide +kernel
theorem d_Mo_work_138 : decode prog_14_method_16_code 138 = .ok (.aload_n 0, 1) := by decide +kernel
theorem d_Mo_work_139 : decode prog_14_method_16_code 139 = .ok (.iload_n 1, 1) := by decide +kernel
theorem d_Mo_work_140 : decode prog_14_method_16_code 140 = .ok (.iload_n 2, 1) := by decide +kernel
theorem d_Mo_work_141 : decode prog_14_method_16_code 141 = .ok (.iadd, 1) := by decide +kernel
theorem d_Mo_work_142 : decode prog_14_method_16_code 142 = .ok (.aload_n 0, 1) := by decide +kernel
theorem d_Mo_work_143 : decode prog_14_method_16_code 143 = .ok (.getfield 13, 3) := by decide +kernel
theorem d_Mo_work_146 : decode prog_14_method_16_code 146 = .ok (.iload_n 1, 1) := by decide +kernel
theorem d_Mo_work_147 : decode prog_14_method_16_code 147 = .ok (.iaload, 1) := by decide +kernel
theorem d_Mo_work_148 : decode prog_14_method_16_code 148 = .ok (.bipush 16, 2) := by decide +kernel
theorem d_Mo_work_150 : decode prog_14_method_16_code 150 = .ok (.invokevirtual 118, 3) := by decide +kernel
theorem d_Mo_work_153 : decode prog_14_method_16_code 153 = .ok (.ireturn, 1) := by decide +kernel
theorem d_Mo_selects_0 : decode prog_14_method_10_code 0 = .ok (.iconst 0, 1) := by decide +kernel
theorem d_Mo_selects_1 : decode prog_14_method_10_code 1 = .ok (.istore_n 3, 1) := by decide +kernel
theorem d_Mo_selects_2 : decode prog_14_method_10_code 2 = .ok (.iload_n 3, 1) := by decide +kernel
theorem d_Mo_selects_3 : decode prog_14_method_10_code 3 = .ok (.aload_n 0, 1) := by decide +kernel
theorem d_Mo_selects_4 : decode prog_14_method_10_code 4 = .ok (.getfield 38, 3) := by decide +kernel
theorem d_Mo_selects_7 : decode prog_14_method_10_code 7 = .ok (.iload_n 1, 1) := by decide +kernel
theorem d_Mo_selects_8 : decode prog_14_method_10_code 8 = .ok (.iaload, 1) := by decide +kernel
theorem d_Mo_selects_9 : decode prog_14_method_10_code 9 = .ok (.if_icmp .ge 66, 3) := by decide +kernel
theorem d_Mo_selects_12 : decode prog_14_method_10_code 12 = .ok (.aload_n 0, 1) := by decide +kernel
theorem d_Mo_selects_13 : decode prog_14_method_10_code 13 = .ok (.iload_n 1, 1) := by decide +kernel
theorem d_Mo_selects_14 : decode prog_14_method_10_code 14 = .ok (.iload_n 3, 1) := by decide +kernel
theorem d_Mo_selects_15 : decode prog_14_method_10_code 15 = .ok (.aload_n 0, 1) := by decide +kernel
theorem d_Mo_selects_16 : decode prog_14_method_10_code 16 = .ok (.getfield 26, 3) := by decide +kernel
theorem d_Mo_selects_19 : decode prog_14_method_10_code 19 = .ok (.iload_n 2, 1) := by decide +kernel
theorem d_Mo_selects_20 : decode prog_14_method_10_code 20 = .ok (.iaload, 1) := by decide +kernel
theorem d_Mo_selects_21 : decode prog_14_method_10_code 21 = .ok (.invokevirtual 83, 3) := by decide +kernel
theorem d_Mo_selects_24 : decode prog_14_method_10_code 24 = .ok (.aload_n 0, 1) := by decide +kernel
theorem d_Mo_selects_25 : decode prog_14_method_10_code 25 = .ok (.getfield 29, 3) := by decide +kernel
theorem d_Mo_selects_28 : decode prog_14_method_10_code 28 = .ok (.iload_n 2, 1) := by decide +kernel
theorem d_Mo_selects_29 : decode prog_14_method_10_code 29 = .ok (.iaload, 1) := by decide +kernel
theorem d_Mo_selects_30 : decode prog_14_method_10_code 30 = .ok (.aload_n 0, 1) := by decide +kernel
theorem d_Mo_selects_31 : decode prog_14_method_10_code 31 = .ok (.getfield 32, 3) := by decide +kernel
theorem d_Mo_selects_34 : decode prog_14_method_10_code 34 = .ok (.iload_n 2, 1) := by decide +kernel
theorem d_Mo_selects_35 : decode prog_14_method_10_code 35 = .ok (.iaload, 1) := by decide +kernel
theorem d_Mo_selects_36 : decode prog_14_method_10_code 36 = .ok (.invokestatic 87, 3) := by decide +kernel
theorem d_Mo_selects_39 : decode prog_14_method_10_code 39 = .ok (.ifCond .eq 30, 3) := by decide +kernel
theorem d_Mo_selects_42 : decode prog_14_method_10_code 42 = .ok (.aload_n 0, 1) := by decide +kernel
theorem d_Mo_selects_43 : decode prog_14_method_10_code 43 = .ok (.iload_n 1, 1) := by decide +kernel
theorem d_Mo_selects_44 : decode prog_14_method_10_code 44 = .ok (.iload_n 3, 1) := by decide +kernel
theorem d_Mo_selects_45 : decode prog_14_method_10_code 45 = .ok (.invokevirtual 90, 3) := by decide +kernel
theorem d_Mo_selects_48 : decode prog_14_method_10_code 48 = .ok (.aload_n 0, 1) := by decide +kernel
theorem d_Mo_selects_49 : decode prog_14_method_10_code 49 = .ok (.aload_n 0, 1) := by decide +kernel
theorem d_Mo_selects_50 : decode prog_14_method_10_code 50 = .ok (.getfield 13, 3) := by decide +kernel
theorem d_Mo_selects_53 : decode prog_14_method_10_code 53 = .ok (.iload_n 2, 1) := by decide +kernel
theorem d_Mo_selects_54 : decode prog_14_method_10_code 54 = .ok (.iaload, 1) := by decide +kernel
theorem d_Mo_selects_55 : decode prog_14_method_10_code 55 = .ok (.aload_n 0, 1) := by decide +kernel
theorem d_Mo_selects_56 : decode prog_14_method_10_code 56 = .ok (.getfield 41, 3) := by decide +kernel
theorem d_Mo_selects_59 : decode prog_14_method_10_code 59 = .ok (.bipush 16, 2) := by decide +kernel
theorem d_Mo_selects_61 : decode prog_14_method_10_code 61 = .ok (.iload_n 1, 1) := by decide +kernel
theorem d_Mo_selects_62 : decode prog_14_method_10_code 62 = .ok (.imul, 1) := by decide +kernel
theorem d_Mo_selects_63 : decode prog_14_method_10_code 63 = .ok (.iload_n 3, 1) := by decide +kernel
theorem d_Mo_selects_64 : decode prog_14_method_10_code 64 = .ok (.iadd, 1) := by decide +kernel
theorem d_Mo_selects_65 : decode prog_14_method_10_code 65 = .ok (.laload, 1) := by decide +kernel
theorem d_Mo_selects_66 : decode prog_14_method_10_code 66 = .ok (.invokevirtual 94, 3) := by decide +kernel
theorem d_Mo_selects_69 : decode prog_14_method_10_code 69 = .ok (.iinc 3 1, 3) := by decide +kernel
theorem d_Mo_selects_72 : decode prog_14_method_10_code 72 = .ok (.goto (-70), 3) := by decide +kernel
theorem d_Mo_selects_75 : decode prog_14_method_10_code 75 = .ok (.return_, 1) := by decide +kernel
theorem d_Mo_passes_0 : decode prog_14_method_9_code 0 = .ok (.iload_n 1, 1) := by decide +kernel
theorem d_Mo_passes_1 : decode prog_14_method_9_code 1 = .ok (.ifCond .ne 16, 3) := by decide +kernel
theorem d_Mo_passes_4 : decode prog_14_method_9_code 4 = .ok (.iload_n 0, 1) := by decide +kernel
theorem d_Mo_passes_5 : decode prog_14_method_9_code 5 = .ok (.iload_n 2, 1) := by decide +kernel
theorem d_Mo_passes_6 : decode prog_14_method_9_code 6 = .ok (.if_icmp .ge 7, 3) := by decide +kernel
theorem d_Mo_passes_9 : decode prog_14_method_9_code 9 = .ok (.iconst 1, 1) := by decide +kernel
theorem d_Mo_passes_10 : decode prog_14_method_9_code 10 = .ok (.goto 35, 3) := by decide +kernel
theorem d_Mo_passes_13 : decode prog_14_method_9_code 13 = .ok (.iconst 0, 1) := by decide +kernel
theorem d_Mo_passes_14 : decode prog_14_method_9_code 14 = .ok (.goto 31, 3) := by decide +kernel
theorem d_Mo_passes_17 : decode prog_14_method_9_code 17 = .ok (.iload_n 1, 1) := by decide +kernel
theorem d_Mo_passes_18 : decode prog_14_method_9_code 18 = .ok (.iconst 1, 1) := by decide +kernel
theorem d_Mo_passes_19 : decode prog_14_method_9_code 19 = .ok (.if_icmp .ne 16, 3) := by decide +kernel
theorem d_Mo_passes_22 : decode prog_14_method_9_code 22 = .ok (.iload_n 0, 1) := by decide +kernel
theorem d_Mo_passes_23 : decode prog_14_method_9_code 23 = .ok (.iload_n 2, 1) := by decide +kernel
theorem d_Mo_passes_24 : decode prog_14_method_9_code 24 = .ok (.if_icmp .ne 7, 3) := by decide +kernel
theorem d_Mo_passes_27 : decode prog_14_method_9_code 27 = .ok (.iconst 1, 1) := by decide +kernel
theorem d_Mo_passes_28 : decode prog_14_method_9_code 28 = .ok (.goto 17, 3) := by decide +kernel
theorem d_Mo_passes_31 : decode prog_14_method_9_code 31 = .ok (.iconst 0, 1) := by decide +kernel
theorem d_Mo_passes_32 : decode prog_14_method_9_code 32 = .ok (.goto 13, 3) := by decide +kernel
theorem d_Mo_passes_35 : decode prog_14_method_9_code 35 = .ok (.iload_n 0, 1) := by decide +kernel
theorem d_Mo_passes_36 : decode prog_14_method_9_code 36 = .ok (.iload_n 2, 1) := by decide +kernel
theorem d_Mo_passes_37 : decode prog_14_method_9_code 37 = .ok (.if_icmp .le 7, 3) := by decide +kernel
theorem d_Mo_passes_40 : decode prog_14_method_9_code 40 = .ok (.iconst 1, 1) := by decide +kernel
theorem d_Mo_passes_41 : decode prog_14_method_9_code 41 = .ok (.goto 4, 3) := by decide +kernel
theorem d_Mo_passes_44 : decode prog_14_method_9_code 44 = .ok (.iconst 0, 1) := by decide +kernel
theorem d_Mo_passes_45 : decode prog_14_method_9_code 45 = .ok (.ireturn, 1) := by decide +kernel
theorem d_Mo_projects_0 : decode prog_14_method_11_code 0 = .ok (.iconst 0, 1) := by decide +kernel
theorem d_Mo_projects_1 : decode prog_14_method_11_code 1 = .ok (.istore_n 3, 1) := by decide +kernel
theorem d_Mo_projects_2 : decode prog_14_method_11_code 2 = .ok (.iload_n 3, 1) := by decide +kernel
theorem d_Mo_projects_3 : decode prog_14_method_11_code 3 = .ok (.aload_n 0, 1) := by decide +kernel
theorem d_Mo_projects_4 : decode prog_14_method_11_code 4 = .ok (.getfield 38, 3) := by decide +kernel
theorem d_Mo_projects_7 : decode prog_14_method_11_code 7 = .ok (.iload_n 1, 1) := by decide +kernel
theorem d_Mo_projects_8 : decode prog_14_method_11_code 8 = .ok (.iaload, 1) := by decide +kernel
theorem d_Mo_projects_9 : decode prog_14_method_11_code 9 = .ok (.if_icmp .ge 77, 3) := by decide +kernel
theorem d_Mo_projects_12 : decode prog_14_method_11_code 12 = .ok (.iconst 0, 1) := by decide +kernel
theorem d_Mo_projects_13 : decode prog_14_method_11_code 13 = .ok (.istore 4, 2) := by decide +kernel
theorem d_Mo_projects_15 : decode prog_14_method_11_code 15 = .ok (.iload 4, 2) := by decide +kernel
theorem d_Mo_projects_17 : decode prog_14_method_11_code 17 = .ok (.aload_n 0, 1) := by decide +kernel
theorem d_Mo_projects_18 : decode prog_14_method_11_code 18 = .ok (.getfield 13, 3) := by decide +kernel
theorem d_Mo_projects_21 : decode prog_14_method_11_code 21 = .ok (.iload_n 2, 1) := by decide +kernel
theorem d_Mo_projects_22 : decode prog_14_method_11_code 22 = .ok (.iaload, 1) := by decide +kernel
theorem d_Mo_projects_23 : decode prog_14_method_11_code 23 = .ok (.if_icmp .ge 36, 3) := by decide +kernel
theorem d_Mo_projects_26 : decode prog_14_method_11_code 26 = .ok (.aload_n 0, 1) := by decide +kernel
theorem d_Mo_projects_27 : decode prog_14_method_11_code 27 = .ok (.getfield 54, 3) := by decide +kernel
theorem d_Mo_projects_30 : decode prog_14_method_11_code 30 = .ok (.iload 4, 2) := by decide +kernel
theorem d_Mo_projects_32 : decode prog_14_method_11_code 32 = .ok (.aload_n 0, 1) := by decide +kernel
theorem d_Mo_projects_33 : decode prog_14_method_11_code 33 = .ok (.iload_n 1, 1) := by decide +kernel
theorem d_Mo_projects_34 : decode prog_14_method_11_code 34 = .ok (.iload_n 3, 1) := by decide +kernel
theorem d_Mo_projects_35 : decode prog_14_method_11_code 35 = .ok (.aload_n 0, 1) := by decide +kernel
theorem d_Mo_projects_36 : decode prog_14_method_11_code 36 = .ok (.getfield 26, 3) := by decide +kernel
theorem d_Mo_projects_39 : decode prog_14_method_11_code 39 = .ok (.iload_n 2, 1) := by decide +kernel
theorem d_Mo_projects_40 : decode prog_14_method_11_code 40 = .ok (.iaload, 1) := by decide +kernel
theorem d_Mo_projects_41 : decode prog_14_method_11_code 41 = .ok (.iconst 4, 1) := by decide +kernel
theorem d_Mo_projects_42 : decode prog_14_method_11_code 42 = .ok (.iload 4, 2) := by decide +kernel
theorem d_Mo_projects_44 : decode prog_14_method_11_code 44 = .ok (.imul, 1) := by decide +kernel
theorem d_Mo_projects_45 : decode prog_14_method_11_code 45 = .ok (.ishr, 1) := by decide +kernel
theorem d_Mo_projects_46 : decode prog_14_method_11_code 46 = .ok (.bipush 15, 2) := by decide +kernel
theorem d_Mo_projects_48 : decode prog_14_method_11_code 48 = .ok (.iand, 1) := by decide +kernel
theorem d_Mo_projects_49 : decode prog_14_method_11_code 49 = .ok (.invokevirtual 83, 3) := by decide +kernel
theorem d_Mo_projects_52 : decode prog_14_method_11_code 52 = .ok (.iastore, 1) := by decide +kernel
theorem d_Mo_projects_53 : decode prog_14_method_11_code 53 = .ok (.iinc 4 1, 3) := by decide +kernel
theorem d_Mo_projects_56 : decode prog_14_method_11_code 56 = .ok (.goto (-41), 3) := by decide +kernel
theorem d_Mo_projects_59 : decode prog_14_method_11_code 59 = .ok (.aload_n 0, 1) := by decide +kernel
theorem d_Mo_projects_60 : decode prog_14_method_11_code 60 = .ok (.aload_n 0, 1) := by decide +kernel
theorem d_Mo_projects_61 : decode prog_14_method_11_code 61 = .ok (.getfield 13, 3) := by decide +kernel
theorem d_Mo_projects_64 : decode prog_14_method_11_code 64 = .ok (.iload_n 2, 1) := by decide +kernel
theorem d_Mo_projects_65 : decode prog_14_method_11_code 65 = .ok (.iaload, 1) := by decide +kernel
theorem d_Mo_projects_66 : decode prog_14_method_11_code 66 = .ok (.aload_n 0, 1) := by decide +kernel
theorem d_Mo_projects_67 : decode prog_14_method_11_code 67 = .ok (.getfield 41, 3) := by decide +kernel
theorem d_Mo_projects_70 : decode prog_14_method_11_code 70 = .ok (.bipush 16, 2) := by decide +kernel
theorem d_Mo_projects_72 : decode prog_14_method_11_code 72 = .ok (.iload_n 1, 1) := by decide +kernel
theorem d_Mo_projects_73 : decode prog_14_method_11_code 73 = .ok (.imul, 1) := by decide +kernel
theorem d_Mo_projects_74 : decode prog_14_method_11_code 74 = .ok (.iload_n 3, 1) := by decide +kernel
theorem d_Mo_projects_75 : decode prog_14_method_11_code 75 = .ok (.iadd, 1) := by decide +kernel
theorem d_Mo_projects_76 : decode prog_14_method_11_code 76 = .ok (.laload, 1) := by decide +kernel
theorem d_Mo_projects_77 : decode prog_14_method_11_code 77 = .ok (.invokevirtual 94, 3) := by decide +kernel
theorem d_Mo_projects_80 : decode prog_14_method_11_code 80 = .ok (.iinc 3 1, 3) := by decide +kernel
theorem d_Mo_projects_83 : decode prog_14_method_11_code 83 = .ok (.goto (-81), 3) := by decide +kernel
theorem d_Mo_projects_86 : decode prog_14_method_11_code 86 = .ok (.return_, 1) := by decide +kernel
theorem d_Mo_joins_0 : decode prog_14_method_12_code 0 = .ok (.aload_n 0, 1) := by decide +kernel
theorem d_Mo_joins_1 : decode prog_14_method_12_code 1 = .ok (.getfield 13, 3) := by decide +kernel
theorem d_Mo_joins_4 : decode prog_14_method_12_code 4 = .ok (.aload_n 0, 1) := by decide +kernel
theorem d_Mo_joins_5 : decode prog_14_method_12_code 5 = .ok (.getfield 20, 3) := by decide +kernel
theorem d_Mo_joins_8 : decode prog_14_method_12_code 8 = .ok (.iload_n 3, 1) := by decide +kernel
theorem d_Mo_joins_9 : decode prog_14_method_12_code 9 = .ok (.iaload, 1) := by decide +kernel
theorem d_Mo_joins_10 : decode prog_14_method_12_code 10 = .ok (.iaload, 1) := by decide +kernel
theorem d_Mo_joins_11 : decode prog_14_method_12_code 11 = .ok (.istore 4, 2) := by decide +kernel
theorem d_Mo_joins_13 : decode prog_14_method_12_code 13 = .ok (.iconst 0, 1) := by decide +kernel
theorem d_Mo_joins_14 : decode prog_14_method_12_code 14 = .ok (.istore 5, 2) := by decide +kernel
theorem d_Mo_joins_16 : decode prog_14_method_12_code 16 = .ok (.iload 5, 2) := by decide +kernel
theorem d_Mo_joins_18 : decode prog_14_method_12_code 18 = .ok (.aload_n 0, 1) := by decide +kernel
theorem d_Mo_joins_19 : decode prog_14_method_12_code 19 = .ok (.getfield 38, 3) := by decide +kernel
theorem d_Mo_joins_22 : decode prog_14_method_12_code 22 = .ok (.iload_n 1, 1) := by decide +kernel
theorem d_Mo_joins_23 : decode prog_14_method_12_code 23 = .ok (.iaload, 1) := by decide +kernel
theorem d_Mo_joins_24 : decode prog_14_method_12_code 24 = .ok (.if_icmp .ge 151, 3) := by decide +kernel
theorem d_Mo_joins_27 : decode prog_14_method_12_code 27 = .ok (.iconst 0, 1) := by decide +kernel
theorem d_Mo_joins_28 : decode prog_14_method_12_code 28 = .ok (.istore 6, 2) := by decide +kernel
theorem d_Mo_joins_30 : decode prog_14_method_12_code 30 = .ok (.iload 6, 2) := by decide +kernel
theorem d_Mo_joins_32 : decode prog_14_method_12_code 32 = .ok (.aload_n 0, 1) := by decide +kernel
theorem d_Mo_joins_33 : decode prog_14_method_12_code 33 = .ok (.getfield 38, 3) := by decide +kernel
theorem d_Mo_joins_36 : decode prog_14_method_12_code 36 = .ok (.iload_n 2, 1) := by decide +kernel
theorem d_Mo_joins_37 : decode prog_14_method_12_code 37 = .ok (.iaload, 1) := by decide +kernel
theorem d_Mo_joins_38 : decode prog_14_method_12_code 38 = .ok (.if_icmp .ge 131, 3) := by decide +kernel
theorem d_Mo_joins_41 : decode prog_14_method_12_code 41 = .ok (.aload_n 0, 1) := by decide +kernel
theorem d_Mo_joins_42 : decode prog_14_method_12_code 42 = .ok (.iload_n 1, 1) := by decide +kernel
theorem d_Mo_joins_43 : decode prog_14_method_12_code 43 = .ok (.iload 5, 2) := by decide +kernel
theorem d_Mo_joins_45 : decode prog_14_method_12_code 45 = .ok (.aload_n 0, 1) := by decide +kernel
theorem d_Mo_joins_46 : decode prog_14_method_12_code 46 = .ok (.getfield 26, 3) := by decide +kernel
theorem d_Mo_joins_49 : decode prog_14_method_12_code 49 = .ok (.iload_n 3, 1) := by decide +kernel
theorem d_Mo_joins_50 : decode prog_14_method_12_code 50 = .ok (.iaload, 1) := by decide +kernel
theorem d_Mo_joins_51 : decode prog_14_method_12_code 51 = .ok (.invokevirtual 83, 3) := by decide +kernel
theorem d_Mo_joins_54 : decode prog_14_method_12_code 54 = .ok (.aload_n 0, 1) := by decide +kernel
theorem d_Mo_joins_55 : decode prog_14_method_12_code 55 = .ok (.iload_n 2, 1) := by decide +kernel
theorem d_Mo_joins_56 : decode prog_14_method_12_code 56 = .ok (.iload 6, 2) := by decide +kernel
theorem d_Mo_joins_58 : decode prog_14_method_12_code 58 = .ok (.aload_n 0, 1) := by decide +kernel
theorem d_Mo_joins_59 : decode prog_14_method_12_code 59 = .ok (.getfield 29, 3) := by decide +kernel
theorem d_Mo_joins_62 : decode prog_14_method_12_code 62 = .ok (.iload_n 3, 1) := by decide +kernel
theorem d_Mo_joins_63 : decode prog_14_method_12_code 63 = .ok (.iaload, 1) := by decide +kernel
theorem d_Mo_joins_64 : decode prog_14_method_12_code 64 = .ok (.invokevirtual 83, 3) := by decide +kernel
theorem d_Mo_joins_67 : decode prog_14_method_12_code 67 = .ok (.if_icmp .ne 96, 3) := by decide +kernel
theorem d_Mo_joins_70 : decode prog_14_method_12_code 70 = .ok (.iconst 0, 1) := by decide +kernel
theorem d_Mo_joins_71 : decode prog_14_method_12_code 71 = .ok (.istore 7, 2) := by decide +kernel
theorem d_Mo_joins_73 : decode prog_14_method_12_code 73 = .ok (.iload 7, 2) := by decide +kernel
theorem d_Mo_joins_75 : decode prog_14_method_12_code 75 = .ok (.aload_n 0, 1) := by decide +kernel
theorem d_Mo_joins_76 : decode prog_14_method_12_code 76 = .ok (.getfield 13, 3) := by decide +kernel
theorem d_Mo_joins_79 : decode prog_14_method_12_code 79 = .ok (.iload_n 3, 1) := by decide +kernel
theorem d_Mo_joins_80 : decode prog_14_method_12_code 80 = .ok (.iaload, 1) := by decide +kernel
theorem d_Mo_joins_81 : decode prog_14_method_12_code 81 = .ok (.if_icmp .ge 47, 3) := by decide +kernel
theorem d_Mo_joins_84 : decode prog_14_method_12_code 84 = .ok (.aload_n 0, 1) := by decide +kernel
theorem d_Mo_joins_85 : decode prog_14_method_12_code 85 = .ok (.getfield 54, 3) := by decide +kernel
theorem d_Mo_joins_88 : decode prog_14_method_12_code 88 = .ok (.iload 7, 2) := by decide +kernel
theorem d_Mo_joins_90 : decode prog_14_method_12_code 90 = .ok (.iload 7, 2) := by decide +kernel
theorem d_Mo_joins_92 : decode prog_14_method_12_code 92 = .ok (.iload 4, 2) := by decide +kernel
theorem d_Mo_joins_94 : decode prog_14_method_12_code 94 = .ok (.if_icmp .ge 15, 3) := by decide +kernel
theorem d_Mo_joins_97 : decode prog_14_method_12_code 97 = .ok (.aload_n 0, 1) := by decide +kernel
theorem d_Mo_joins_98 : decode prog_14_method_12_code 98 = .ok (.iload_n 1, 1) := by decide +kernel
theorem d_Mo_joins_99 : decode prog_14_method_12_code 99 = .ok (.iload 5, 2) := by decide +kernel
theorem d_Mo_joins_101 : decode prog_14_method_12_code 101 = .ok (.iload 7, 2) := by decide +kernel
theorem d_Mo_joins_103 : decode prog_14_method_12_code 103 = .ok (.invokevirtual 83, 3) := by decide +kernel
theorem d_Mo_joins_106 : decode prog_14_method_12_code 106 = .ok (.goto 15, 3) := by decide +kernel
theorem d_Mo_joins_109 : decode prog_14_method_12_code 109 = .ok (.aload_n 0, 1) := by decide +kernel
theorem d_Mo_joins_110 : decode prog_14_method_12_code 110 = .ok (.iload_n 2, 1) := by decide +kernel
theorem d_Mo_joins_111 : decode prog_14_method_12_code 111 = .ok (.iload 6, 2) := by decide +kernel
theorem d_Mo_joins_113 : decode prog_14_method_12_code 113 = .ok (.iload 7, 2) := by decide +kernel
theorem d_Mo_joins_115 : decode prog_14_method_12_code 115 = .ok (.iload 4, 2) := by decide +kernel
theorem d_Mo_joins_117 : decode prog_14_method_12_code 117 = .ok (.isub, 1) := by decide +kernel
theorem d_Mo_joins_118 : decode prog_14_method_12_code 118 = .ok (.invokevirtual 83, 3) := by decide +kernel
theorem d_Mo_joins_121 : decode prog_14_method_12_code 121 = .ok (.iastore, 1) := by decide +kernel
theorem d_Mo_joins_122 : decode prog_14_method_12_code 122 = .ok (.iinc 7 1, 3) := by decide +kernel
theorem d_Mo_joins_125 : decode prog_14_method_12_code 125 = .ok (.goto (-52), 3) := by decide +kernel
theorem d_Mo_joins_128 : decode prog_14_method_12_code 128 = .ok (.aload_n 0, 1) := by decide +kernel
theorem d_Mo_joins_129 : decode prog_14_method_12_code 129 = .ok (.aload_n 0, 1) := by decide +kernel
theorem d_Mo_joins_130 : decode prog_14_method_12_code 130 = .ok (.getfield 13, 3) := by decide +kernel
theorem d_Mo_joins_133 : decode prog_14_method_12_code 133 = .ok (.iload_n 3, 1) := by decide +kernel
theorem d_Mo_joins_134 : decode prog_14_method_12_code 134 = .ok (.iaload, 1) := by decide +kernel
theorem d_Mo_joins_135 : decode prog_14_method_12_code 135 = .ok (.aload_n 0, 1) := by decide +kernel
theorem d_Mo_joins_136 : decode prog_14_method_12_code 136 = .ok (.getfield 41, 3) := by decide +kernel
theorem d_Mo_joins_139 : decode prog_14_method_12_code 139 = .ok (.bipush 16, 2) := by decide +kernel
theorem d_Mo_joins_141 : decode prog_14_method_12_code 141 = .ok (.iload_n 1, 1) := by decide +kernel
theorem d_Mo_joins_142 : decode prog_14_method_12_code 142 = .ok (.imul, 1) := by decide +kernel
theorem d_Mo_joins_143 : decode prog_14_method_12_code 143 = .ok (.iload 5, 2) := by decide +kernel
theorem d_Mo_joins_145 : decode prog_14_method_12_code 145 = .ok (.iadd, 1) := by decide +kernel
theorem d_Mo_joins_146 : decode prog_14_method_12_code 146 = .ok (.laload, 1) := by decide +kernel
theorem d_Mo_joins_147 : decode prog_14_method_12_code 147 = .ok (.aload_n 0, 1) := by decide +kernel
theorem d_Mo_joins_148 : decode prog_14_method_12_code 148 = .ok (.getfield 41, 3) := by decide +kernel
theorem d_Mo_joins_151 : decode prog_14_method_12_code 151 = .ok (.bipush 16, 2) := by decide +kernel
theorem d_Mo_joins_153 : decode prog_14_method_12_code 153 = .ok (.iload_n 2, 1) := by decide +kernel
theorem d_Mo_joins_154 : decode prog_14_method_12_code 154 = .ok (.imul, 1) := by decide +kernel
theorem d_Mo_joins_155 : decode prog_14_method_12_code 155 = .ok (.iload 6, 2) := by decide +kernel
theorem d_Mo_joins_157 : decode prog_14_method_12_code 157 = .ok (.iadd, 1) := by decide +kernel
theorem d_Mo_joins_158 : decode prog_14_method_12_code 158 = .ok (.laload, 1) := by decide +kernel
theorem d_Mo_joins_159 : decode prog_14_method_12_code 159 = .ok (.lmul, 1) := by decide +kernel
theorem d_Mo_joins_160 : decode prog_14_method_12_code 160 = .ok (.invokevirtual 94, 3) := by decide +kernel
theorem d_Mo_joins_163 : decode prog_14_method_12_code 163 = .ok (.iinc 6 1, 3) := by decide +kernel
theorem d_Mo_joins_166 : decode prog_14_method_12_code 166 = .ok (.goto (-136), 3) := by decide +kernel
theorem d_Mo_joins_169 : decode prog_14_method_12_code 169 = .ok (.iinc 5 1, 3) := by decide +kernel
theorem d_Mo_joins_172 : decode prog_14_method_12_code 172 = .ok (.goto (-156), 3) := by decide +kernel
theorem d_Mo_joins_175 : decode prog_14_method_12_code 175 = .ok (.return_, 1) := by decide +kernel
theorem d_Mo_all_0 : decode prog_14_method_13_code 0 = .ok (.iconst 0, 1) := by decide +kernel
theorem d_Mo_all_1 : decode prog_14_method_13_code 1 = .ok (.istore 4, 2) := by decide +kernel
theorem d_Mo_all_3 : decode prog_14_method_13_code 3 = .ok (.iload 4, 2) := by decide +kernel
theorem d_Mo_all_5 : decode prog_14_method_13_code 5 = .ok (.aload_n 0, 1) := by decide +kernel
theorem d_Mo_all_6 : decode prog_14_method_13_code 6 = .ok (.getfield 38, 3) := by decide +kernel
theorem d_Mo_all_9 : decode prog_14_method_13_code 9 = .ok (.iload_n 1, 1) := by decide +kernel
theorem d_Mo_all_10 : decode prog_14_method_13_code 10 = .ok (.iaload, 1) := by decide +kernel
theorem d_Mo_all_11 : decode prog_14_method_13_code 11 = .ok (.if_icmp .ge 46, 3) := by decide +kernel
theorem d_Mo_all_14 : decode prog_14_method_13_code 14 = .ok (.aload_n 0, 1) := by decide +kernel
theorem d_Mo_all_15 : decode prog_14_method_13_code 15 = .ok (.iload_n 1, 1) := by decide +kernel
theorem d_Mo_all_16 : decode prog_14_method_13_code 16 = .ok (.iload 4, 2) := by decide +kernel
theorem d_Mo_all_18 : decode prog_14_method_13_code 18 = .ok (.invokevirtual 90, 3) := by decide +kernel
theorem d_Mo_all_21 : decode prog_14_method_13_code 21 = .ok (.aload_n 0, 1) := by decide +kernel
theorem d_Mo_all_22 : decode prog_14_method_13_code 22 = .ok (.aload_n 0, 1) := by decide +kernel
theorem d_Mo_all_23 : decode prog_14_method_13_code 23 = .ok (.getfield 13, 3) := by decide +kernel
theorem d_Mo_all_26 : decode prog_14_method_13_code 26 = .ok (.iload_n 2, 1) := by decide +kernel
theorem d_Mo_all_27 : decode prog_14_method_13_code 27 = .ok (.iaload, 1) := by decide +kernel
theorem d_Mo_all_28 : decode prog_14_method_13_code 28 = .ok (.iload_n 3, 1) := by decide +kernel
theorem d_Mo_all_29 : decode prog_14_method_13_code 29 = .ok (.ifCond .eq 7, 3) := by decide +kernel
theorem d_Mo_all_32 : decode prog_14_method_13_code 32 = .ok (.lconst 1, 1) := by decide +kernel
theorem d_Mo_all_33 : decode prog_14_method_13_code 33 = .ok (.goto 15, 3) := by decide +kernel
theorem d_Mo_all_36 : decode prog_14_method_13_code 36 = .ok (.aload_n 0, 1) := by decide +kernel
theorem d_Mo_all_37 : decode prog_14_method_13_code 37 = .ok (.getfield 41, 3) := by decide +kernel
theorem d_Mo_all_40 : decode prog_14_method_13_code 40 = .ok (.bipush 16, 2) := by decide +kernel
theorem d_Mo_all_42 : decode prog_14_method_13_code 42 = .ok (.iload_n 1, 1) := by decide +kernel
theorem d_Mo_all_43 : decode prog_14_method_13_code 43 = .ok (.imul, 1) := by decide +kernel
theorem d_Mo_all_44 : decode prog_14_method_13_code 44 = .ok (.iload 4, 2) := by decide +kernel
theorem d_Mo_all_46 : decode prog_14_method_13_code 46 = .ok (.iadd, 1) := by decide +kernel
theorem d_Mo_all_47 : decode prog_14_method_13_code 47 = .ok (.laload, 1) := by decide +kernel
theorem d_Mo_all_48 : decode prog_14_method_13_code 48 = .ok (.invokevirtual 94, 3) := by decide +kernel
theorem d_Mo_all_51 : decode prog_14_method_13_code 51 = .ok (.iinc 4 1, 3) := by decide +kernel
theorem d_Mo_all_54 : decode prog_14_method_13_code 54 = .ok (.goto (-51), 3) := by decide +kernel
theorem d_Mo_all_57 : decode prog_14_method_13_code 57 = .ok (.return_, 1) := by decide +kernel
theorem d_Mo_groups_0 : decode prog_14_method_15_code 0 = .ok (.iconst 0, 1) := by decide +kernel
theorem d_Mo_groups_1 : decode prog_14_method_15_code 1 = .ok (.istore_n 3, 1) := by decide +kernel
theorem d_Mo_groups_2 : decode prog_14_method_15_code 2 = .ok (.iload_n 3, 1) := by decide +kernel
theorem d_Mo_groups_3 : decode prog_14_method_15_code 3 = .ok (.aload_n 0, 1) := by decide +kernel
theorem d_Mo_groups_4 : decode prog_14_method_15_code 4 = .ok (.getfield 38, 3) := by decide +kernel
theorem d_Mo_groups_7 : decode prog_14_method_15_code 7 = .ok (.iload_n 1, 1) := by decide +kernel
theorem d_Mo_groups_8 : decode prog_14_method_15_code 8 = .ok (.iaload, 1) := by decide +kernel
theorem d_Mo_groups_9 : decode prog_14_method_15_code 9 = .ok (.if_icmp .ge 104, 3) := by decide +kernel
theorem d_Mo_groups_12 : decode prog_14_method_15_code 12 = .ok (.aload_n 0, 1) := by decide +kernel
theorem d_Mo_groups_13 : decode prog_14_method_15_code 13 = .ok (.iload_n 1, 1) := by decide +kernel
theorem d_Mo_groups_14 : decode prog_14_method_15_code 14 = .ok (.iload_n 3, 1) := by decide +kernel
theorem d_Mo_groups_15 : decode prog_14_method_15_code 15 = .ok (.aload_n 0, 1) := by decide +kernel
theorem d_Mo_groups_16 : decode prog_14_method_15_code 16 = .ok (.getfield 26, 3) := by decide +kernel
theorem d_Mo_groups_19 : decode prog_14_method_15_code 19 = .ok (.iload_n 2, 1) := by decide +kernel
theorem d_Mo_groups_20 : decode prog_14_method_15_code 20 = .ok (.iaload, 1) := by decide +kernel
theorem d_Mo_groups_21 : decode prog_14_method_15_code 21 = .ok (.invokevirtual 83, 3) := by decide +kernel
theorem d_Mo_groups_24 : decode prog_14_method_15_code 24 = .ok (.istore 4, 2) := by decide +kernel
theorem d_Mo_groups_26 : decode prog_14_method_15_code 26 = .ok (.iconst 1, 1) := by decide +kernel
theorem d_Mo_groups_27 : decode prog_14_method_15_code 27 = .ok (.istore 5, 2) := by decide +kernel
theorem d_Mo_groups_29 : decode prog_14_method_15_code 29 = .ok (.iconst 0, 1) := by decide +kernel
theorem d_Mo_groups_30 : decode prog_14_method_15_code 30 = .ok (.istore 6, 2) := by decide +kernel
theorem d_Mo_groups_32 : decode prog_14_method_15_code 32 = .ok (.iload 6, 2) := by decide +kernel
theorem d_Mo_groups_34 : decode prog_14_method_15_code 34 = .ok (.iload_n 3, 1) := by decide +kernel
theorem d_Mo_groups_35 : decode prog_14_method_15_code 35 = .ok (.if_icmp .ge 39, 3) := by decide +kernel
theorem d_Mo_groups_38 : decode prog_14_method_15_code 38 = .ok (.iload 5, 2) := by decide +kernel
theorem d_Mo_groups_40 : decode prog_14_method_15_code 40 = .ok (.ifCond .eq 25, 3) := by decide +kernel
theorem d_Mo_groups_43 : decode prog_14_method_15_code 43 = .ok (.aload_n 0, 1) := by decide +kernel
theorem d_Mo_groups_44 : decode prog_14_method_15_code 44 = .ok (.iload_n 1, 1) := by decide +kernel
theorem d_Mo_groups_45 : decode prog_14_method_15_code 45 = .ok (.iload 6, 2) := by decide +kernel
theorem d_Mo_groups_47 : decode prog_14_method_15_code 47 = .ok (.aload_n 0, 1) := by decide +kernel
theorem d_Mo_groups_48 : decode prog_14_method_15_code 48 = .ok (.getfield 26, 3) := by decide +kernel
theorem d_Mo_groups_51 : decode prog_14_method_15_code 51 = .ok (.iload_n 2, 1) := by decide +kernel
theorem d_Mo_groups_52 : decode prog_14_method_15_code 52 = .ok (.iaload, 1) := by decide +kernel
theorem d_Mo_groups_53 : decode prog_14_method_15_code 53 = .ok (.invokevirtual 83, 3) := by decide +kernel
theorem d_Mo_groups_56 : decode prog_14_method_15_code 56 = .ok (.iload 4, 2) := by decide +kernel
theorem d_Mo_groups_58 : decode prog_14_method_15_code 58 = .ok (.if_icmp .eq 7, 3) := by decide +kernel
theorem d_Mo_groups_61 : decode prog_14_method_15_code 61 = .ok (.iconst 1, 1) := by decide +kernel
theorem d_Mo_groups_62 : decode prog_14_method_15_code 62 = .ok (.goto 4, 3) := by decide +kernel
theorem d_Mo_groups_65 : decode prog_14_method_15_code 65 = .ok (.iconst 0, 1) := by decide +kernel
theorem d_Mo_groups_66 : decode prog_14_method_15_code 66 = .ok (.istore 5, 2) := by decide +kernel
theorem d_Mo_groups_68 : decode prog_14_method_15_code 68 = .ok (.iinc 6 1, 3) := by decide +kernel
theorem d_Mo_groups_71 : decode prog_14_method_15_code 71 = .ok (.goto (-39), 3) := by decide +kernel
theorem d_Mo_groups_74 : decode prog_14_method_15_code 74 = .ok (.iload 5, 2) := by decide +kernel
theorem d_Mo_groups_76 : decode prog_14_method_15_code 76 = .ok (.ifCond .eq 31, 3) := by decide +kernel
theorem d_Mo_groups_79 : decode prog_14_method_15_code 79 = .ok (.aload_n 0, 1) := by decide +kernel
theorem d_Mo_groups_80 : decode prog_14_method_15_code 80 = .ok (.getfield 54, 3) := by decide +kernel
theorem d_Mo_groups_83 : decode prog_14_method_15_code 83 = .ok (.iconst 0, 1) := by decide +kernel
theorem d_Mo_groups_84 : decode prog_14_method_15_code 84 = .ok (.iload 4, 2) := by decide +kernel
theorem d_Mo_groups_86 : decode prog_14_method_15_code 86 = .ok (.iastore, 1) := by decide +kernel
theorem d_Mo_groups_87 : decode prog_14_method_15_code 87 = .ok (.aload_n 0, 1) := by decide +kernel
theorem d_Mo_groups_88 : decode prog_14_method_15_code 88 = .ok (.getfield 54, 3) := by decide +kernel
theorem d_Mo_groups_91 : decode prog_14_method_15_code 91 = .ok (.iconst 1, 1) := by decide +kernel
theorem d_Mo_groups_92 : decode prog_14_method_15_code 92 = .ok (.aload_n 0, 1) := by decide +kernel
theorem d_Mo_groups_93 : decode prog_14_method_15_code 93 = .ok (.iload_n 1, 1) := by decide +kernel
theorem d_Mo_groups_94 : decode prog_14_method_15_code 94 = .ok (.iload_n 2, 1) := by decide +kernel
theorem d_Mo_groups_95 : decode prog_14_method_15_code 95 = .ok (.iload 4, 2) := by decide +kernel
theorem d_Mo_groups_97 : decode prog_14_method_15_code 97 = .ok (.invokevirtual 98, 3) := by decide +kernel
theorem d_Mo_groups_100 : decode prog_14_method_15_code 100 = .ok (.iastore, 1) := by decide +kernel
theorem d_Mo_groups_101 : decode prog_14_method_15_code 101 = .ok (.aload_n 0, 1) := by decide +kernel
theorem d_Mo_groups_102 : decode prog_14_method_15_code 102 = .ok (.iconst 2, 1) := by decide +kernel
theorem d_Mo_groups_103 : decode prog_14_method_15_code 103 = .ok (.lconst 1, 1) := by decide +kernel
theorem d_Mo_groups_104 : decode prog_14_method_15_code 104 = .ok (.invokevirtual 94, 3) := by decide +kernel
theorem d_Mo_groups_107 : decode prog_14_method_15_code 107 = .ok (.iinc 3 1, 3) := by decide +kernel
theorem d_Mo_groups_110 : decode prog_14_method_15_code 110 = .ok (.goto (-108), 3) := by decide +kernel
theorem d_Mo_groups_113 : decode prog_14_method_15_code 113 = .ok (.return_, 1) := by decide +kernel
theorem d_Mo_result_0 : decode prog_14_method_14_code 0 = .ok (.iconst 0, 1) := by decide +kernel
theorem d_Mo_result_1 : decode prog_14_method_14_code 1 = .ok (.istore 4, 2) := by decide +kernel
theorem d_Mo_result_3 : decode prog_14_method_14_code 3 = .ok (.iconst 0, 1) := by decide +kernel
theorem d_Mo_result_4 : decode prog_14_method_14_code 4 = .ok (.istore 5, 2) := by decide +kernel
theorem d_Mo_result_6 : decode prog_14_method_14_code 6 = .ok (.iconst 0, 1) := by decide +kernel
theorem d_Mo_result_7 : decode prog_14_method_14_code 7 = .ok (.istore 6, 2) := by decide +kernel
theorem d_Mo_result_9 : decode prog_14_method_14_code 9 = .ok (.iload 6, 2) := by decide +kernel
theorem d_Mo_result_11 : decode prog_14_method_14_code 11 = .ok (.aload_n 0, 1) := by decide +kernel
theorem d_Mo_result_12 : decode prog_14_method_14_code 12 = .ok (.getfield 38, 3) := by decide +kernel
theorem d_Mo_result_15 : decode prog_14_method_14_code 15 = .ok (.iload_n 1, 1) := by decide +kernel
theorem d_Mo_result_16 : decode prog_14_method_14_code 16 = .ok (.iaload, 1) := by decide +kernel
theorem d_Mo_result_17 : decode prog_14_method_14_code 17 = .ok (.if_icmp .ge 122, 3) := by decide +kernel
theorem d_Mo_result_20 : decode prog_14_method_14_code 20 = .ok (.aload_n 0, 1) := by decide +kernel
theorem d_Mo_result_21 : decode prog_14_method_14_code 21 = .ok (.iload_n 1, 1) := by decide +kernel
theorem d_Mo_result_22 : decode prog_14_method_14_code 22 = .ok (.iload 6, 2) := by decide +kernel
theorem d_Mo_result_24 : decode prog_14_method_14_code 24 = .ok (.aload_n 0, 1) := by decide +kernel
theorem d_Mo_result_25 : decode prog_14_method_14_code 25 = .ok (.getfield 26, 3) := by decide +kernel
theorem d_Mo_result_28 : decode prog_14_method_14_code 28 = .ok (.iload_n 2, 1) := by decide +kernel
theorem d_Mo_result_29 : decode prog_14_method_14_code 29 = .ok (.iaload, 1) := by decide +kernel
theorem d_Mo_result_30 : decode prog_14_method_14_code 30 = .ok (.invokevirtual 83, 3) := by decide +kernel
theorem d_Mo_result_33 : decode prog_14_method_14_code 33 = .ok (.iload_n 3, 1) := by decide +kernel
theorem d_Mo_result_34 : decode prog_14_method_14_code 34 = .ok (.if_icmp .ne 99, 3) := by decide +kernel
theorem d_Mo_result_37 : decode prog_14_method_14_code 37 = .ok (.aload_n 0, 1) := by decide +kernel
theorem d_Mo_result_38 : decode prog_14_method_14_code 38 = .ok (.iload_n 1, 1) := by decide +kernel
theorem d_Mo_result_39 : decode prog_14_method_14_code 39 = .ok (.iload 6, 2) := by decide +kernel
theorem d_Mo_result_41 : decode prog_14_method_14_code 41 = .ok (.aload_n 0, 1) := by decide +kernel
theorem d_Mo_result_42 : decode prog_14_method_14_code 42 = .ok (.getfield 29, 3) := by decide +kernel
theorem d_Mo_result_45 : decode prog_14_method_14_code 45 = .ok (.iload_n 2, 1) := by decide +kernel
theorem d_Mo_result_46 : decode prog_14_method_14_code 46 = .ok (.iaload, 1) := by decide +kernel
theorem d_Mo_result_47 : decode prog_14_method_14_code 47 = .ok (.invokevirtual 83, 3) := by decide +kernel
theorem d_Mo_result_50 : decode prog_14_method_14_code 50 = .ok (.istore 7, 2) := by decide +kernel
theorem d_Mo_result_52 : decode prog_14_method_14_code 52 = .ok (.aload_n 0, 1) := by decide +kernel
theorem d_Mo_result_53 : decode prog_14_method_14_code 53 = .ok (.getfield 41, 3) := by decide +kernel
theorem d_Mo_result_56 : decode prog_14_method_14_code 56 = .ok (.bipush 16, 2) := by decide +kernel
theorem d_Mo_result_58 : decode prog_14_method_14_code 58 = .ok (.iload_n 1, 1) := by decide +kernel
theorem d_Mo_result_59 : decode prog_14_method_14_code 59 = .ok (.imul, 1) := by decide +kernel
theorem d_Mo_result_60 : decode prog_14_method_14_code 60 = .ok (.iload 6, 2) := by decide +kernel
theorem d_Mo_result_62 : decode prog_14_method_14_code 62 = .ok (.iadd, 1) := by decide +kernel
theorem d_Mo_result_63 : decode prog_14_method_14_code 63 = .ok (.laload, 1) := by decide +kernel
theorem d_Mo_result_64 : decode prog_14_method_14_code 64 = .ok (.l2i, 1) := by decide +kernel
theorem d_Mo_result_65 : decode prog_14_method_14_code 65 = .ok (.istore 8, 2) := by decide +kernel
theorem d_Mo_result_67 : decode prog_14_method_14_code 67 = .ok (.aload_n 0, 1) := by decide +kernel
theorem d_Mo_result_68 : decode prog_14_method_14_code 68 = .ok (.getfield 17, 3) := by decide +kernel
theorem d_Mo_result_71 : decode prog_14_method_14_code 71 = .ok (.iload_n 2, 1) := by decide +kernel
theorem d_Mo_result_72 : decode prog_14_method_14_code 72 = .ok (.iaload, 1) := by decide +kernel
theorem d_Mo_result_73 : decode prog_14_method_14_code 73 = .ok (.bipush 7, 2) := by decide +kernel
theorem d_Mo_result_75 : decode prog_14_method_14_code 75 = .ok (.if_icmp .ne 27, 3) := by decide +kernel
theorem d_Mo_result_78 : decode prog_14_method_14_code 78 = .ok (.iload 5, 2) := by decide +kernel
theorem d_Mo_result_80 : decode prog_14_method_14_code 80 = .ok (.ifCond .eq 10, 3) := by decide +kernel
theorem d_Mo_result_83 : decode prog_14_method_14_code 83 = .ok (.iload 7, 2) := by decide +kernel
theorem d_Mo_result_85 : decode prog_14_method_14_code 85 = .ok (.iload 4, 2) := by decide +kernel
theorem d_Mo_result_87 : decode prog_14_method_14_code 87 = .ok (.if_icmp .le 8, 3) := by decide +kernel
theorem d_Mo_result_90 : decode prog_14_method_14_code 90 = .ok (.iload 7, 2) := by decide +kernel
theorem d_Mo_result_92 : decode prog_14_method_14_code 92 = .ok (.goto 5, 3) := by decide +kernel
theorem d_Mo_result_95 : decode prog_14_method_14_code 95 = .ok (.iload 4, 2) := by decide +kernel
theorem d_Mo_result_97 : decode prog_14_method_14_code 97 = .ok (.istore 4, 2) := by decide +kernel
theorem d_Mo_result_99 : decode prog_14_method_14_code 99 = .ok (.goto 31, 3) := by decide +kernel
theorem d_Mo_result_102 : decode prog_14_method_14_code 102 = .ok (.aload_n 0, 1) := by decide +kernel
theorem d_Mo_result_103 : decode prog_14_method_14_code 103 = .ok (.getfield 17, 3) := by decide +kernel
theorem d_Mo_result_106 : decode prog_14_method_14_code 106 = .ok (.iload_n 2, 1) := by decide +kernel
theorem d_Mo_result_107 : decode prog_14_method_14_code 107 = .ok (.iaload, 1) := by decide +kernel
theorem d_Mo_result_108 : decode prog_14_method_14_code 108 = .ok (.iconst 5, 1) := by decide +kernel
theorem d_Mo_result_109 : decode prog_14_method_14_code 109 = .ok (.if_icmp .ne 14, 3) := by decide +kernel
theorem d_Mo_result_112 : decode prog_14_method_14_code 112 = .ok (.iload 4, 2) := by decide +kernel
theorem d_Mo_result_114 : decode prog_14_method_14_code 114 = .ok (.iload 7, 2) := by decide +kernel
theorem d_Mo_result_116 : decode prog_14_method_14_code 116 = .ok (.iload 8, 2) := by decide +kernel
theorem d_Mo_result_118 : decode prog_14_method_14_code 118 = .ok (.imul, 1) := by decide +kernel
theorem d_Mo_result_119 : decode prog_14_method_14_code 119 = .ok (.iadd, 1) := by decide +kernel
theorem d_Mo_result_120 : decode prog_14_method_14_code 120 = .ok (.goto 8, 3) := by decide +kernel
theorem d_Mo_result_123 : decode prog_14_method_14_code 123 = .ok (.iload 4, 2) := by decide +kernel
theorem d_Mo_result_125 : decode prog_14_method_14_code 125 = .ok (.iload 8, 2) := by decide +kernel
theorem d_Mo_result_127 : decode prog_14_method_14_code 127 = .ok (.iadd, 1) := by decide +kernel
theorem d_Mo_result_128 : decode prog_14_method_14_code 128 = .ok (.istore 4, 2) := by decide +kernel
theorem d_Mo_result_130 : decode prog_14_method_14_code 130 = .ok (.iconst 1, 1) := by decide +kernel
theorem d_Mo_result_131 : decode prog_14_method_14_code 131 = .ok (.istore 5, 2) := by decide +kernel
theorem d_Mo_result_133 : decode prog_14_method_14_code 133 = .ok (.iinc 6 1, 3) := by decide +kernel
theorem d_Mo_result_136 : decode prog_14_method_14_code 136 = .ok (.goto (-127), 3) := by decide +kernel
theorem d_Mo_result_139 : decode prog_14_method_14_code 139 = .ok (.iload 4, 2) := by decide +kernel
theorem d_Mo_result_141 : decode prog_14_method_14_code 141 = .ok (.ireturn, 1) := by decide +kernel
end
section
theorem d_Mo_takeOver_0 : decode prog_14_method_22_code 0 = .ok (.aload_n 0, 1) := by decide +kernel
theorem d_Mo_takeOver_1 : decode prog_14_method_22_code 1 = .ok (.getfield 35, 3) := by decide +kernel
theorem d_Mo_takeOver_4 : decode prog_14_method_22_code 4 = .ok (.iload_n 1, 1) := by decide +kernel
theorem d_Mo_takeOver_5 : decode prog_14_method_22_code 5 = .ok (.aload_n 0, 1) := by decide +kernel
theorem d_Mo_takeOver_6 : decode prog_14_method_22_code 6 = .ok (.iload_n 1, 1) := by decide +kernel
theorem d_Mo_takeOver_7 : decode prog_14_method_22_code 7 = .ok (.invokevirtual 130, 3) := by decide +kernel
theorem d_Mo_takeOver_10 : decode prog_14_method_22_code 10 = .ok (.iastore, 1) := by decide +kernel
theorem d_Mo_takeOver_11 : decode prog_14_method_22_code 11 = .ok (.aload_n 0, 1) := by decide +kernel
theorem d_Mo_takeOver_12 : decode prog_14_method_22_code 12 = .ok (.getfield 38, 3) := by decide +kernel
theorem d_Mo_takeOver_15 : decode prog_14_method_22_code 15 = .ok (.iload_n 1, 1) := by decide +kernel
theorem d_Mo_takeOver_16 : decode prog_14_method_22_code 16 = .ok (.aload_n 0, 1) := by decide +kernel
theorem d_Mo_takeOver_17 : decode prog_14_method_22_code 17 = .ok (.getfield 38, 3) := by decide +kernel
theorem d_Mo_takeOver_20 : decode prog_14_method_22_code 20 = .ok (.bipush 12, 2) := by decide +kernel
theorem d_Mo_takeOver_22 : decode prog_14_method_22_code 22 = .ok (.iload_n 1, 1) := by decide +kernel
theorem d_Mo_takeOver_23 : decode prog_14_method_22_code 23 = .ok (.iadd, 1) := by decide +kernel
theorem d_Mo_takeOver_24 : decode prog_14_method_22_code 24 = .ok (.iaload, 1) := by decide +kernel
theorem d_Mo_takeOver_25 : decode prog_14_method_22_code 25 = .ok (.iastore, 1) := by decide +kernel
theorem d_Mo_takeOver_26 : decode prog_14_method_22_code 26 = .ok (.iconst 0, 1) := by decide +kernel
theorem d_Mo_takeOver_27 : decode prog_14_method_22_code 27 = .ok (.istore_n 2, 1) := by decide +kernel
theorem d_Mo_takeOver_28 : decode prog_14_method_22_code 28 = .ok (.iload_n 2, 1) := by decide +kernel
theorem d_Mo_takeOver_29 : decode prog_14_method_22_code 29 = .ok (.bipush 16, 2) := by decide +kernel
theorem d_Mo_takeOver_31 : decode prog_14_method_22_code 31 = .ok (.if_icmp .ge 34, 3) := by decide +kernel
theorem d_Mo_takeOver_34 : decode prog_14_method_22_code 34 = .ok (.aload_n 0, 1) := by decide +kernel
theorem d_Mo_takeOver_35 : decode prog_14_method_22_code 35 = .ok (.getfield 41, 3) := by decide +kernel
theorem d_Mo_takeOver_38 : decode prog_14_method_22_code 38 = .ok (.bipush 16, 2) := by decide +kernel
theorem d_Mo_takeOver_40 : decode prog_14_method_22_code 40 = .ok (.iload_n 1, 1) := by decide +kernel
theorem d_Mo_takeOver_41 : decode prog_14_method_22_code 41 = .ok (.imul, 1) := by decide +kernel
theorem d_Mo_takeOver_42 : decode prog_14_method_22_code 42 = .ok (.iload_n 2, 1) := by decide +kernel
theorem d_Mo_takeOver_43 : decode prog_14_method_22_code 43 = .ok (.iadd, 1) := by decide +kernel
theorem d_Mo_takeOver_44 : decode prog_14_method_22_code 44 = .ok (.aload_n 0, 1) := by decide +kernel
theorem d_Mo_takeOver_45 : decode prog_14_method_22_code 45 = .ok (.getfield 41, 3) := by decide +kernel
theorem d_Mo_takeOver_48 : decode prog_14_method_22_code 48 = .ok (.bipush 16, 2) := by decide +kernel
theorem d_Mo_takeOver_50 : decode prog_14_method_22_code 50 = .ok (.bipush 12, 2) := by decide +kernel
theorem d_Mo_takeOver_52 : decode prog_14_method_22_code 52 = .ok (.iload_n 1, 1) := by decide +kernel
theorem d_Mo_takeOver_53 : decode prog_14_method_22_code 53 = .ok (.iadd, 1) := by decide +kernel
theorem d_Mo_takeOver_54 : decode prog_14_method_22_code 54 = .ok (.imul, 1) := by decide +kernel
theorem d_Mo_takeOver_55 : decode prog_14_method_22_code 55 = .ok (.iload_n 2, 1) := by decide +kernel
theorem d_Mo_takeOver_56 : decode prog_14_method_22_code 56 = .ok (.iadd, 1) := by decide +kernel
theorem d_Mo_takeOver_57 : decode prog_14_method_22_code 57 = .ok (.laload, 1) := by decide +kernel
theorem d_Mo_takeOver_58 : decode prog_14_method_22_code 58 = .ok (.lastore, 1) := by decide +kernel
theorem d_Mo_takeOver_59 : decode prog_14_method_22_code 59 = .ok (.iinc 2 1, 3) := by decide +kernel
theorem d_Mo_takeOver_62 : decode prog_14_method_22_code 62 = .ok (.goto (-34), 3) := by decide +kernel
theorem d_Mo_takeOver_65 : decode prog_14_method_22_code 65 = .ok (.iconst 0, 1) := by decide +kernel
theorem d_Mo_takeOver_66 : decode prog_14_method_22_code 66 = .ok (.istore_n 2, 1) := by decide +kernel
theorem d_Mo_takeOver_67 : decode prog_14_method_22_code 67 = .ok (.iload_n 2, 1) := by decide +kernel
theorem d_Mo_takeOver_68 : decode prog_14_method_22_code 68 = .ok (.bipush 64, 2) := by decide +kernel
theorem d_Mo_takeOver_70 : decode prog_14_method_22_code 70 = .ok (.if_icmp .ge 34, 3) := by decide +kernel
theorem d_Mo_takeOver_73 : decode prog_14_method_22_code 73 = .ok (.aload_n 0, 1) := by decide +kernel
theorem d_Mo_takeOver_74 : decode prog_14_method_22_code 74 = .ok (.getfield 45, 3) := by decide +kernel
theorem d_Mo_takeOver_77 : decode prog_14_method_22_code 77 = .ok (.bipush 64, 2) := by decide +kernel
theorem d_Mo_takeOver_79 : decode prog_14_method_22_code 79 = .ok (.iload_n 1, 1) := by decide +kernel
theorem d_Mo_takeOver_80 : decode prog_14_method_22_code 80 = .ok (.imul, 1) := by decide +kernel
theorem d_Mo_takeOver_81 : decode prog_14_method_22_code 81 = .ok (.iload_n 2, 1) := by decide +kernel
theorem d_Mo_takeOver_82 : decode prog_14_method_22_code 82 = .ok (.iadd, 1) := by decide +kernel
theorem d_Mo_takeOver_83 : decode prog_14_method_22_code 83 = .ok (.aload_n 0, 1) := by decide +kernel
theorem d_Mo_takeOver_84 : decode prog_14_method_22_code 84 = .ok (.getfield 45, 3) := by decide +kernel
theorem d_Mo_takeOver_87 : decode prog_14_method_22_code 87 = .ok (.bipush 64, 2) := by decide +kernel
theorem d_Mo_takeOver_89 : decode prog_14_method_22_code 89 = .ok (.bipush 12, 2) := by decide +kernel
theorem d_Mo_takeOver_91 : decode prog_14_method_22_code 91 = .ok (.iload_n 1, 1) := by decide +kernel
theorem d_Mo_takeOver_92 : decode prog_14_method_22_code 92 = .ok (.iadd, 1) := by decide +kernel
theorem d_Mo_takeOver_93 : decode prog_14_method_22_code 93 = .ok (.imul, 1) := by decide +kernel
theorem d_Mo_takeOver_94 : decode prog_14_method_22_code 94 = .ok (.iload_n 2, 1) := by decide +kernel
theorem d_Mo_takeOver_95 : decode prog_14_method_22_code 95 = .ok (.iadd, 1) := by decide +kernel
theorem d_Mo_takeOver_96 : decode prog_14_method_22_code 96 = .ok (.iaload, 1) := by decide +kernel
theorem d_Mo_takeOver_97 : decode prog_14_method_22_code 97 = .ok (.iastore, 1) := by decide +kernel
theorem d_Mo_takeOver_98 : decode prog_14_method_22_code 98 = .ok (.iinc 2 1, 3) := by decide +kernel
theorem d_Mo_takeOver_101 : decode prog_14_method_22_code 101 = .ok (.goto (-34), 3) := by decide +kernel
theorem d_Mo_takeOver_104 : decode prog_14_method_22_code 104 = .ok (.return_, 1) := by decide +kernel
theorem d_Mo_differing_0 : decode prog_14_method_21_code 0 = .ok (.iconst 0, 1) := by decide +kernel
theorem d_Mo_differing_1 : decode prog_14_method_21_code 1 = .ok (.istore_n 2, 1) := by decide +kernel
theorem d_Mo_differing_2 : decode prog_14_method_21_code 2 = .ok (.iconst 0, 1) := by decide +kernel
theorem d_Mo_differing_3 : decode prog_14_method_21_code 3 = .ok (.istore_n 3, 1) := by decide +kernel
theorem d_Mo_differing_4 : decode prog_14_method_21_code 4 = .ok (.iload_n 3, 1) := by decide +kernel
theorem d_Mo_differing_5 : decode prog_14_method_21_code 5 = .ok (.aload_n 0, 1) := by decide +kernel
theorem d_Mo_differing_6 : decode prog_14_method_21_code 6 = .ok (.getfield 38, 3) := by decide +kernel
theorem d_Mo_differing_9 : decode prog_14_method_21_code 9 = .ok (.iload_n 1, 1) := by decide +kernel
theorem d_Mo_differing_10 : decode prog_14_method_21_code 10 = .ok (.iaload, 1) := by decide +kernel
theorem d_Mo_differing_11 : decode prog_14_method_21_code 11 = .ok (.if_icmp .ge 48, 3) := by decide +kernel
theorem d_Mo_differing_14 : decode prog_14_method_21_code 14 = .ok (.aload_n 0, 1) := by decide +kernel
theorem d_Mo_differing_15 : decode prog_14_method_21_code 15 = .ok (.bipush 12, 2) := by decide +kernel
theorem d_Mo_differing_17 : decode prog_14_method_21_code 17 = .ok (.iload_n 1, 1) := by decide +kernel
theorem d_Mo_differing_18 : decode prog_14_method_21_code 18 = .ok (.iadd, 1) := by decide +kernel
theorem d_Mo_differing_19 : decode prog_14_method_21_code 19 = .ok (.aload_n 0, 1) := by decide +kernel
theorem d_Mo_differing_20 : decode prog_14_method_21_code 20 = .ok (.getfield 13, 3) := by decide +kernel
theorem d_Mo_differing_23 : decode prog_14_method_21_code 23 = .ok (.iload_n 1, 1) := by decide +kernel
theorem d_Mo_differing_24 : decode prog_14_method_21_code 24 = .ok (.iaload, 1) := by decide +kernel
theorem d_Mo_differing_25 : decode prog_14_method_21_code 25 = .ok (.iload_n 1, 1) := by decide +kernel
theorem d_Mo_differing_26 : decode prog_14_method_21_code 26 = .ok (.iload_n 3, 1) := by decide +kernel
theorem d_Mo_differing_27 : decode prog_14_method_21_code 27 = .ok (.invokevirtual 126, 3) := by decide +kernel
theorem d_Mo_differing_30 : decode prog_14_method_21_code 30 = .ok (.aload_n 0, 1) := by decide +kernel
theorem d_Mo_differing_31 : decode prog_14_method_21_code 31 = .ok (.getfield 41, 3) := by decide +kernel
theorem d_Mo_differing_34 : decode prog_14_method_21_code 34 = .ok (.bipush 16, 2) := by decide +kernel
theorem d_Mo_differing_36 : decode prog_14_method_21_code 36 = .ok (.iload_n 1, 1) := by decide +kernel
theorem d_Mo_differing_37 : decode prog_14_method_21_code 37 = .ok (.imul, 1) := by decide +kernel
theorem d_Mo_differing_38 : decode prog_14_method_21_code 38 = .ok (.iload_n 3, 1) := by decide +kernel
theorem d_Mo_differing_39 : decode prog_14_method_21_code 39 = .ok (.iadd, 1) := by decide +kernel
theorem d_Mo_differing_40 : decode prog_14_method_21_code 40 = .ok (.laload, 1) := by decide +kernel
theorem d_Mo_differing_41 : decode prog_14_method_21_code 41 = .ok (.lcmp, 1) := by decide +kernel
theorem d_Mo_differing_42 : decode prog_14_method_21_code 42 = .ok (.ifCond .eq 9, 3) := by decide +kernel
theorem d_Mo_differing_45 : decode prog_14_method_21_code 45 = .ok (.iload_n 2, 1) := by decide +kernel
theorem d_Mo_differing_46 : decode prog_14_method_21_code 46 = .ok (.iconst 1, 1) := by decide +kernel
theorem d_Mo_differing_47 : decode prog_14_method_21_code 47 = .ok (.iadd, 1) := by decide +kernel
theorem d_Mo_differing_48 : decode prog_14_method_21_code 48 = .ok (.goto 4, 3) := by decide +kernel
theorem d_Mo_differing_51 : decode prog_14_method_21_code 51 = .ok (.iload_n 2, 1) := by decide +kernel
theorem d_Mo_differing_52 : decode prog_14_method_21_code 52 = .ok (.istore_n 2, 1) := by decide +kernel
theorem d_Mo_differing_53 : decode prog_14_method_21_code 53 = .ok (.iinc 3 1, 3) := by decide +kernel
theorem d_Mo_differing_56 : decode prog_14_method_21_code 56 = .ok (.goto (-52), 3) := by decide +kernel
theorem d_Mo_differing_59 : decode prog_14_method_21_code 59 = .ok (.iconst 0, 1) := by decide +kernel
theorem d_Mo_differing_60 : decode prog_14_method_21_code 60 = .ok (.istore_n 3, 1) := by decide +kernel
theorem d_Mo_differing_61 : decode prog_14_method_21_code 61 = .ok (.iload_n 3, 1) := by decide +kernel
theorem d_Mo_differing_62 : decode prog_14_method_21_code 62 = .ok (.aload_n 0, 1) := by decide +kernel
theorem d_Mo_differing_63 : decode prog_14_method_21_code 63 = .ok (.getfield 38, 3) := by decide +kernel
theorem d_Mo_differing_66 : decode prog_14_method_21_code 66 = .ok (.bipush 12, 2) := by decide +kernel
theorem d_Mo_differing_68 : decode prog_14_method_21_code 68 = .ok (.iload_n 1, 1) := by decide +kernel
theorem d_Mo_differing_69 : decode prog_14_method_21_code 69 = .ok (.iadd, 1) := by decide +kernel
theorem d_Mo_differing_70 : decode prog_14_method_21_code 70 = .ok (.iaload, 1) := by decide +kernel
theorem d_Mo_differing_71 : decode prog_14_method_21_code 71 = .ok (.if_icmp .ge 38, 3) := by decide +kernel
theorem d_Mo_differing_74 : decode prog_14_method_21_code 74 = .ok (.aload_n 0, 1) := by decide +kernel
theorem d_Mo_differing_75 : decode prog_14_method_21_code 75 = .ok (.iload_n 1, 1) := by decide +kernel
theorem d_Mo_differing_76 : decode prog_14_method_21_code 76 = .ok (.aload_n 0, 1) := by decide +kernel
theorem d_Mo_differing_77 : decode prog_14_method_21_code 77 = .ok (.getfield 13, 3) := by decide +kernel
theorem d_Mo_differing_80 : decode prog_14_method_21_code 80 = .ok (.iload_n 1, 1) := by decide +kernel
theorem d_Mo_differing_81 : decode prog_14_method_21_code 81 = .ok (.iaload, 1) := by decide +kernel
theorem d_Mo_differing_82 : decode prog_14_method_21_code 82 = .ok (.bipush 12, 2) := by decide +kernel
theorem d_Mo_differing_84 : decode prog_14_method_21_code 84 = .ok (.iload_n 1, 1) := by decide +kernel
theorem d_Mo_differing_85 : decode prog_14_method_21_code 85 = .ok (.iadd, 1) := by decide +kernel
theorem d_Mo_differing_86 : decode prog_14_method_21_code 86 = .ok (.iload_n 3, 1) := by decide +kernel
theorem d_Mo_differing_87 : decode prog_14_method_21_code 87 = .ok (.invokevirtual 126, 3) := by decide +kernel
theorem d_Mo_differing_90 : decode prog_14_method_21_code 90 = .ok (.lconst 0, 1) := by decide +kernel
theorem d_Mo_differing_91 : decode prog_14_method_21_code 91 = .ok (.lcmp, 1) := by decide +kernel
theorem d_Mo_differing_92 : decode prog_14_method_21_code 92 = .ok (.ifCond .ne 9, 3) := by decide +kernel
theorem d_Mo_differing_95 : decode prog_14_method_21_code 95 = .ok (.iload_n 2, 1) := by decide +kernel
theorem d_Mo_differing_96 : decode prog_14_method_21_code 96 = .ok (.iconst 1, 1) := by decide +kernel
theorem d_Mo_differing_97 : decode prog_14_method_21_code 97 = .ok (.iadd, 1) := by decide +kernel
theorem d_Mo_differing_98 : decode prog_14_method_21_code 98 = .ok (.goto 4, 3) := by decide +kernel
theorem d_Mo_differing_101 : decode prog_14_method_21_code 101 = .ok (.iload_n 2, 1) := by decide +kernel
theorem d_Mo_differing_102 : decode prog_14_method_21_code 102 = .ok (.istore_n 2, 1) := by decide +kernel
theorem d_Mo_differing_103 : decode prog_14_method_21_code 103 = .ok (.iinc 3 1, 3) := by decide +kernel
theorem d_Mo_differing_106 : decode prog_14_method_21_code 106 = .ok (.goto (-45), 3) := by decide +kernel
theorem d_Mo_differing_109 : decode prog_14_method_21_code 109 = .ok (.iload_n 2, 1) := by decide +kernel
theorem d_Mo_differing_110 : decode prog_14_method_21_code 110 = .ok (.ireturn, 1) := by decide +kernel
theorem d_Mo_timesOf_0 : decode prog_14_method_20_code 0 = .ok (.iconst 0, 1) := by decide +kernel
theorem d_Mo_timesOf_1 : decode prog_14_method_20_code 1 = .ok (.istore 5, 2) := by decide +kernel
theorem d_Mo_timesOf_3 : decode prog_14_method_20_code 3 = .ok (.iload 5, 2) := by decide +kernel
theorem d_Mo_timesOf_5 : decode prog_14_method_20_code 5 = .ok (.aload_n 0, 1) := by decide +kernel
theorem d_Mo_timesOf_6 : decode prog_14_method_20_code 6 = .ok (.getfield 38, 3) := by decide +kernel
theorem d_Mo_timesOf_9 : decode prog_14_method_20_code 9 = .ok (.iload_n 1, 1) := by decide +kernel
theorem d_Mo_timesOf_10 : decode prog_14_method_20_code 10 = .ok (.iaload, 1) := by decide +kernel
theorem d_Mo_timesOf_11 : decode prog_14_method_20_code 11 = .ok (.if_icmp .ge 78, 3) := by decide +kernel
theorem d_Mo_timesOf_14 : decode prog_14_method_20_code 14 = .ok (.iconst 1, 1) := by decide +kernel
theorem d_Mo_timesOf_15 : decode prog_14_method_20_code 15 = .ok (.istore 6, 2) := by decide +kernel
theorem d_Mo_timesOf_17 : decode prog_14_method_20_code 17 = .ok (.iconst 0, 1) := by decide +kernel
theorem d_Mo_timesOf_18 : decode prog_14_method_20_code 18 = .ok (.istore 7, 2) := by decide +kernel
theorem d_Mo_timesOf_20 : decode prog_14_method_20_code 20 = .ok (.iload 7, 2) := by decide +kernel
theorem d_Mo_timesOf_22 : decode prog_14_method_20_code 22 = .ok (.iload_n 2, 1) := by decide +kernel
theorem d_Mo_timesOf_23 : decode prog_14_method_20_code 23 = .ok (.if_icmp .ge 42, 3) := by decide +kernel
theorem d_Mo_timesOf_26 : decode prog_14_method_20_code 26 = .ok (.iload 6, 2) := by decide +kernel
theorem d_Mo_timesOf_28 : decode prog_14_method_20_code 28 = .ok (.ifCond .eq 28, 3) := by decide +kernel
theorem d_Mo_timesOf_31 : decode prog_14_method_20_code 31 = .ok (.aload_n 0, 1) := by decide +kernel
theorem d_Mo_timesOf_32 : decode prog_14_method_20_code 32 = .ok (.iload_n 1, 1) := by decide +kernel
theorem d_Mo_timesOf_33 : decode prog_14_method_20_code 33 = .ok (.iload 5, 2) := by decide +kernel
theorem d_Mo_timesOf_35 : decode prog_14_method_20_code 35 = .ok (.iload 7, 2) := by decide +kernel
theorem d_Mo_timesOf_37 : decode prog_14_method_20_code 37 = .ok (.invokevirtual 83, 3) := by decide +kernel
theorem d_Mo_timesOf_40 : decode prog_14_method_20_code 40 = .ok (.aload_n 0, 1) := by decide +kernel
theorem d_Mo_timesOf_41 : decode prog_14_method_20_code 41 = .ok (.iload_n 3, 1) := by decide +kernel
theorem d_Mo_timesOf_42 : decode prog_14_method_20_code 42 = .ok (.iload 4, 2) := by decide +kernel
theorem d_Mo_timesOf_44 : decode prog_14_method_20_code 44 = .ok (.iload 7, 2) := by decide +kernel
theorem d_Mo_timesOf_46 : decode prog_14_method_20_code 46 = .ok (.invokevirtual 83, 3) := by decide +kernel
theorem d_Mo_timesOf_49 : decode prog_14_method_20_code 49 = .ok (.if_icmp .ne 7, 3) := by decide +kernel
theorem d_Mo_timesOf_52 : decode prog_14_method_20_code 52 = .ok (.iconst 1, 1) := by decide +kernel
theorem d_Mo_timesOf_53 : decode prog_14_method_20_code 53 = .ok (.goto 4, 3) := by decide +kernel
theorem d_Mo_timesOf_56 : decode prog_14_method_20_code 56 = .ok (.iconst 0, 1) := by decide +kernel
theorem d_Mo_timesOf_57 : decode prog_14_method_20_code 57 = .ok (.istore 6, 2) := by decide +kernel
theorem d_Mo_timesOf_59 : decode prog_14_method_20_code 59 = .ok (.iinc 7 1, 3) := by decide +kernel
theorem d_Mo_timesOf_62 : decode prog_14_method_20_code 62 = .ok (.goto (-42), 3) := by decide +kernel
theorem d_Mo_timesOf_65 : decode prog_14_method_20_code 65 = .ok (.iload 6, 2) := by decide +kernel
theorem d_Mo_timesOf_67 : decode prog_14_method_20_code 67 = .ok (.ifCond .eq 16, 3) := by decide +kernel
theorem d_Mo_timesOf_70 : decode prog_14_method_20_code 70 = .ok (.aload_n 0, 1) := by decide +kernel
theorem d_Mo_timesOf_71 : decode prog_14_method_20_code 71 = .ok (.getfield 41, 3) := by decide +kernel
theorem d_Mo_timesOf_74 : decode prog_14_method_20_code 74 = .ok (.bipush 16, 2) := by decide +kernel
theorem d_Mo_timesOf_76 : decode prog_14_method_20_code 76 = .ok (.iload_n 1, 1) := by decide +kernel
theorem d_Mo_timesOf_77 : decode prog_14_method_20_code 77 = .ok (.imul, 1) := by decide +kernel
theorem d_Mo_timesOf_78 : decode prog_14_method_20_code 78 = .ok (.iload 5, 2) := by decide +kernel
theorem d_Mo_timesOf_80 : decode prog_14_method_20_code 80 = .ok (.iadd, 1) := by decide +kernel
theorem d_Mo_timesOf_81 : decode prog_14_method_20_code 81 = .ok (.laload, 1) := by decide +kernel
theorem d_Mo_timesOf_82 : decode prog_14_method_20_code 82 = .ok (.lreturn, 1) := by decide +kernel
theorem d_Mo_timesOf_83 : decode prog_14_method_20_code 83 = .ok (.iinc 5 1, 3) := by decide +kernel
theorem d_Mo_timesOf_86 : decode prog_14_method_20_code 86 = .ok (.goto (-83), 3) := by decide +kernel
theorem d_Mo_timesOf_89 : decode prog_14_method_20_code 89 = .ok (.lconst 0, 1) := by decide +kernel
theorem d_Mo_timesOf_90 : decode prog_14_method_20_code 90 = .ok (.lreturn, 1) := by decide +kernel
theorem d_Mo_select_0 : decode prog_14_method_28_code 0 = .ok (.aload_n 0, 1) := by decide +kernel
theorem d_Mo_select_1 : decode prog_14_method_28_code 1 = .ok (.aload_n 0, 1) := by decide +kernel
theorem d_Mo_select_2 : decode prog_14_method_28_code 2 = .ok (.iload_n 1, 1) := by decide +kernel
theorem d_Mo_select_3 : decode prog_14_method_28_code 3 = .ok (.iload_n 2, 1) := by decide +kernel
theorem d_Mo_select_4 : decode prog_14_method_28_code 4 = .ok (.invokevirtual 148, 3) := by decide +kernel
theorem d_Mo_select_7 : decode prog_14_method_28_code 7 = .ok (.ifCond .ne 7, 3) := by decide +kernel
theorem d_Mo_select_10 : decode prog_14_method_28_code 10 = .ok (.iconst 1, 1) := by decide +kernel
theorem d_Mo_select_11 : decode prog_14_method_28_code 11 = .ok (.goto 17, 3) := by decide +kernel
theorem d_Mo_select_14 : decode prog_14_method_28_code 14 = .ok (.iload_n 3, 1) := by decide +kernel
theorem d_Mo_select_15 : decode prog_14_method_28_code 15 = .ok (.ifCond .lt 8, 3) := by decide +kernel
theorem d_Mo_select_18 : decode prog_14_method_28_code 18 = .ok (.iload_n 3, 1) := by decide +kernel
theorem d_Mo_select_19 : decode prog_14_method_28_code 19 = .ok (.iconst 2, 1) := by decide +kernel
theorem d_Mo_select_20 : decode prog_14_method_28_code 20 = .ok (.if_icmp .le 7, 3) := by decide +kernel
theorem d_Mo_select_23 : decode prog_14_method_28_code 23 = .ok (.iconst 2, 1) := by decide +kernel
theorem d_Mo_select_24 : decode prog_14_method_28_code 24 = .ok (.goto 4, 3) := by decide +kernel
theorem d_Mo_select_27 : decode prog_14_method_28_code 27 = .ok (.iconst 0, 1) := by decide +kernel
theorem d_Mo_select_28 : decode prog_14_method_28_code 28 = .ok (.putfield 69, 3) := by decide +kernel
theorem d_Mo_select_31 : decode prog_14_method_28_code 31 = .ok (.aload_n 0, 1) := by decide +kernel
theorem d_Mo_select_32 : decode prog_14_method_28_code 32 = .ok (.getfield 69, 3) := by decide +kernel
theorem d_Mo_select_35 : decode prog_14_method_28_code 35 = .ok (.ifCond .le 5, 3) := by decide +kernel
theorem d_Mo_select_38 : decode prog_14_method_28_code 38 = .ok (.iconst 0, 1) := by decide +kernel
theorem d_Mo_select_39 : decode prog_14_method_28_code 39 = .ok (.ireturn, 1) := by decide +kernel
theorem d_Mo_select_40 : decode prog_14_method_28_code 40 = .ok (.aload_n 0, 1) := by decide +kernel
theorem d_Mo_select_41 : decode prog_14_method_28_code 41 = .ok (.iload_n 2, 1) := by decide +kernel
theorem d_Mo_select_42 : decode prog_14_method_28_code 42 = .ok (.iload_n 3, 1) := by decide +kernel
theorem d_Mo_select_43 : decode prog_14_method_28_code 43 = .ok (.iload 4, 2) := by decide +kernel
theorem d_Mo_select_45 : decode prog_14_method_28_code 45 = .ok (.invokevirtual 151, 3) := by decide +kernel
theorem d_Mo_select_48 : decode prog_14_method_28_code 48 = .ok (.aload_n 0, 1) := by decide +kernel
theorem d_Mo_select_49 : decode prog_14_method_28_code 49 = .ok (.iconst 1, 1) := by decide +kernel
theorem d_Mo_select_50 : decode prog_14_method_28_code 50 = .ok (.iload_n 1, 1) := by decide +kernel
theorem d_Mo_select_51 : decode prog_14_method_28_code 51 = .ok (.iconst 0, 1) := by decide +kernel
theorem d_Mo_select_52 : decode prog_14_method_28_code 52 = .ok (.aload_n 0, 1) := by decide +kernel
theorem d_Mo_select_53 : decode prog_14_method_28_code 53 = .ok (.getfield 13, 3) := by decide +kernel
theorem d_Mo_select_56 : decode prog_14_method_28_code 56 = .ok (.iload_n 1, 1) := by decide +kernel
theorem d_Mo_select_57 : decode prog_14_method_28_code 57 = .ok (.iaload, 1) := by decide +kernel
theorem d_Mo_select_58 : decode prog_14_method_28_code 58 = .ok (.iconst 3, 1) := by decide +kernel
theorem d_Mo_select_59 : decode prog_14_method_28_code 59 = .ok (.invokevirtual 154, 3) := by decide +kernel
theorem d_Mo_select_62 : decode prog_14_method_28_code 62 = .ok (.ireturn, 1) := by decide +kernel
theorem d_Mo_isColumn_0 : decode prog_14_method_25_code 0 = .ok (.aload_n 0, 1) := by decide +kernel
theorem d_Mo_isColumn_1 : decode prog_14_method_25_code 1 = .ok (.iload_n 1, 1) := by decide +kernel
theorem d_Mo_isColumn_2 : decode prog_14_method_25_code 2 = .ok (.invokevirtual 145, 3) := by decide +kernel
theorem d_Mo_isColumn_5 : decode prog_14_method_25_code 5 = .ok (.ifCond .eq 21, 3) := by decide +kernel
theorem d_Mo_isColumn_8 : decode prog_14_method_25_code 8 = .ok (.iload_n 2, 1) := by decide +kernel
theorem d_Mo_isColumn_9 : decode prog_14_method_25_code 9 = .ok (.ifCond .lt 17, 3) := by decide +kernel
theorem d_Mo_isColumn_12 : decode prog_14_method_25_code 12 = .ok (.iload_n 2, 1) := by decide +kernel
theorem d_Mo_isColumn_13 : decode prog_14_method_25_code 13 = .ok (.aload_n 0, 1) := by decide +kernel
theorem d_Mo_isColumn_14 : decode prog_14_method_25_code 14 = .ok (.getfield 13, 3) := by decide +kernel
theorem d_Mo_isColumn_17 : decode prog_14_method_25_code 17 = .ok (.iload_n 1, 1) := by decide +kernel
theorem d_Mo_isColumn_18 : decode prog_14_method_25_code 18 = .ok (.iaload, 1) := by decide +kernel
theorem d_Mo_isColumn_19 : decode prog_14_method_25_code 19 = .ok (.if_icmp .ge 7, 3) := by decide +kernel
theorem d_Mo_isColumn_22 : decode prog_14_method_25_code 22 = .ok (.iconst 1, 1) := by decide +kernel
theorem d_Mo_isColumn_23 : decode prog_14_method_25_code 23 = .ok (.goto 4, 3) := by decide +kernel
theorem d_Mo_isColumn_26 : decode prog_14_method_25_code 26 = .ok (.iconst 0, 1) := by decide +kernel
theorem d_Mo_isColumn_27 : decode prog_14_method_25_code 27 = .ok (.ireturn, 1) := by decide +kernel
theorem d_Mo_isView_0 : decode prog_14_method_24_code 0 = .ok (.iload_n 1, 1) := by decide +kernel
theorem d_Mo_isView_1 : decode prog_14_method_24_code 1 = .ok (.ifCond .lt 15, 3) := by decide +kernel
theorem d_Mo_isView_4 : decode prog_14_method_24_code 4 = .ok (.iload_n 1, 1) := by decide +kernel
theorem d_Mo_isView_5 : decode prog_14_method_24_code 5 = .ok (.aload_n 0, 1) := by decide +kernel
theorem d_Mo_isView_6 : decode prog_14_method_24_code 6 = .ok (.getfield 7, 3) := by decide +kernel
theorem d_Mo_isView_9 : decode prog_14_method_24_code 9 = .ok (.if_icmp .ge 7, 3) := by decide +kernel
theorem d_Mo_isView_12 : decode prog_14_method_24_code 12 = .ok (.iconst 1, 1) := by decide +kernel
theorem d_Mo_isView_13 : decode prog_14_method_24_code 13 = .ok (.goto 4, 3) := by decide +kernel
theorem d_Mo_isView_16 : decode prog_14_method_24_code 16 = .ok (.iconst 0, 1) := by decide +kernel
theorem d_Mo_isView_17 : decode prog_14_method_24_code 17 = .ok (.ireturn, 1) := by decide +kernel
theorem d_Mo_told_0 : decode prog_14_method_27_code 0 = .ok (.aload_n 0, 1) := by decide +kernel
theorem d_Mo_told_1 : decode prog_14_method_27_code 1 = .ok (.getfield 7, 3) := by decide +kernel
theorem d_Mo_told_4 : decode prog_14_method_27_code 4 = .ok (.bipush 12, 2) := by decide +kernel
theorem d_Mo_told_6 : decode prog_14_method_27_code 6 = .ok (.if_icmp .ge 33, 3) := by decide +kernel
theorem d_Mo_told_9 : decode prog_14_method_27_code 9 = .ok (.aload_n 0, 1) := by decide +kernel
theorem d_Mo_told_10 : decode prog_14_method_27_code 10 = .ok (.getfield 26, 3) := by decide +kernel
theorem d_Mo_told_13 : decode prog_14_method_27_code 13 = .ok (.aload_n 0, 1) := by decide +kernel
theorem d_Mo_told_14 : decode prog_14_method_27_code 14 = .ok (.getfield 7, 3) := by decide +kernel
theorem d_Mo_told_17 : decode prog_14_method_27_code 17 = .ok (.iload_n 1, 1) := by decide +kernel
theorem d_Mo_told_18 : decode prog_14_method_27_code 18 = .ok (.iastore, 1) := by decide +kernel
theorem d_Mo_told_19 : decode prog_14_method_27_code 19 = .ok (.aload_n 0, 1) := by decide +kernel
theorem d_Mo_told_20 : decode prog_14_method_27_code 20 = .ok (.getfield 29, 3) := by decide +kernel
theorem d_Mo_told_23 : decode prog_14_method_27_code 23 = .ok (.aload_n 0, 1) := by decide +kernel
theorem d_Mo_told_24 : decode prog_14_method_27_code 24 = .ok (.getfield 7, 3) := by decide +kernel
theorem d_Mo_told_27 : decode prog_14_method_27_code 27 = .ok (.iload_n 2, 1) := by decide +kernel
theorem d_Mo_told_28 : decode prog_14_method_27_code 28 = .ok (.iastore, 1) := by decide +kernel
theorem d_Mo_told_29 : decode prog_14_method_27_code 29 = .ok (.aload_n 0, 1) := by decide +kernel
theorem d_Mo_told_30 : decode prog_14_method_27_code 30 = .ok (.getfield 32, 3) := by decide +kernel
theorem d_Mo_told_33 : decode prog_14_method_27_code 33 = .ok (.aload_n 0, 1) := by decide +kernel
theorem d_Mo_told_34 : decode prog_14_method_27_code 34 = .ok (.getfield 7, 3) := by decide +kernel
theorem d_Mo_told_37 : decode prog_14_method_27_code 37 = .ok (.iload_n 3, 1) := by decide +kernel
theorem d_Mo_told_38 : decode prog_14_method_27_code 38 = .ok (.iastore, 1) := by decide +kernel
theorem d_Mo_told_39 : decode prog_14_method_27_code 39 = .ok (.return_, 1) := by decide +kernel
theorem d_Mo_make_0 : decode prog_14_method_26_code 0 = .ok (.aload_n 0, 1) := by decide +kernel
theorem d_Mo_make_1 : decode prog_14_method_26_code 1 = .ok (.getfield 7, 3) := by decide +kernel
theorem d_Mo_make_4 : decode prog_14_method_26_code 4 = .ok (.bipush 12, 2) := by decide +kernel
theorem d_Mo_make_6 : decode prog_14_method_26_code 6 = .ok (.if_icmp .ne 11, 3) := by decide +kernel
theorem d_Mo_make_9 : decode prog_14_method_26_code 9 = .ok (.aload_n 0, 1) := by decide +kernel
theorem d_Mo_make_10 : decode prog_14_method_26_code 10 = .ok (.iload 5, 2) := by decide +kernel
theorem d_Mo_make_12 : decode prog_14_method_26_code 12 = .ok (.putfield 69, 3) := by decide +kernel
theorem d_Mo_make_15 : decode prog_14_method_26_code 15 = .ok (.iconst 0, 1) := by decide +kernel
theorem d_Mo_make_16 : decode prog_14_method_26_code 16 = .ok (.ireturn, 1) := by decide +kernel
theorem d_Mo_make_17 : decode prog_14_method_26_code 17 = .ok (.aload_n 0, 1) := by decide +kernel
theorem d_Mo_make_18 : decode prog_14_method_26_code 18 = .ok (.getfield 17, 3) := by decide +kernel
theorem d_Mo_make_21 : decode prog_14_method_26_code 21 = .ok (.aload_n 0, 1) := by decide +kernel
theorem d_Mo_make_22 : decode prog_14_method_26_code 22 = .ok (.getfield 7, 3) := by decide +kernel
theorem d_Mo_make_25 : decode prog_14_method_26_code 25 = .ok (.iload_n 1, 1) := by decide +kernel
theorem d_Mo_make_26 : decode prog_14_method_26_code 26 = .ok (.iastore, 1) := by decide +kernel
theorem d_Mo_make_27 : decode prog_14_method_26_code 27 = .ok (.aload_n 0, 1) := by decide +kernel
theorem d_Mo_make_28 : decode prog_14_method_26_code 28 = .ok (.getfield 20, 3) := by decide +kernel
theorem d_Mo_make_31 : decode prog_14_method_26_code 31 = .ok (.aload_n 0, 1) := by decide +kernel
theorem d_Mo_make_32 : decode prog_14_method_26_code 32 = .ok (.getfield 7, 3) := by decide +kernel
theorem d_Mo_make_35 : decode prog_14_method_26_code 35 = .ok (.iload_n 2, 1) := by decide +kernel
theorem d_Mo_make_36 : decode prog_14_method_26_code 36 = .ok (.iastore, 1) := by decide +kernel
theorem d_Mo_make_37 : decode prog_14_method_26_code 37 = .ok (.aload_n 0, 1) := by decide +kernel
theorem d_Mo_make_38 : decode prog_14_method_26_code 38 = .ok (.getfield 23, 3) := by decide +kernel
theorem d_Mo_make_41 : decode prog_14_method_26_code 41 = .ok (.aload_n 0, 1) := by decide +kernel
theorem d_Mo_make_42 : decode prog_14_method_26_code 42 = .ok (.getfield 7, 3) := by decide +kernel
theorem d_Mo_make_45 : decode prog_14_method_26_code 45 = .ok (.iload_n 3, 1) := by decide +kernel
theorem d_Mo_make_46 : decode prog_14_method_26_code 46 = .ok (.iastore, 1) := by decide +kernel
theorem d_Mo_make_47 : decode prog_14_method_26_code 47 = .ok (.aload_n 0, 1) := by decide +kernel
theorem d_Mo_make_48 : decode prog_14_method_26_code 48 = .ok (.getfield 13, 3) := by decide +kernel
theorem d_Mo_make_51 : decode prog_14_method_26_code 51 = .ok (.aload_n 0, 1) := by decide +kernel
theorem d_Mo_make_52 : decode prog_14_method_26_code 52 = .ok (.getfield 7, 3) := by decide +kernel
theorem d_Mo_make_55 : decode prog_14_method_26_code 55 = .ok (.iload 4, 2) := by decide +kernel
theorem d_Mo_make_57 : decode prog_14_method_26_code 57 = .ok (.iastore, 1) := by decide +kernel
theorem d_Mo_make_58 : decode prog_14_method_26_code 58 = .ok (.aload_n 0, 1) := by decide +kernel
theorem d_Mo_make_59 : decode prog_14_method_26_code 59 = .ok (.getfield 35, 3) := by decide +kernel
theorem d_Mo_make_62 : decode prog_14_method_26_code 62 = .ok (.aload_n 0, 1) := by decide +kernel
theorem d_Mo_make_63 : decode prog_14_method_26_code 63 = .ok (.getfield 7, 3) := by decide +kernel
theorem d_Mo_make_66 : decode prog_14_method_26_code 66 = .ok (.iconst 0, 1) := by decide +kernel
theorem d_Mo_make_67 : decode prog_14_method_26_code 67 = .ok (.iastore, 1) := by decide +kernel
theorem d_Mo_make_68 : decode prog_14_method_26_code 68 = .ok (.aload_n 0, 1) := by decide +kernel
theorem d_Mo_make_69 : decode prog_14_method_26_code 69 = .ok (.aload_n 0, 1) := by decide +kernel
theorem d_Mo_make_70 : decode prog_14_method_26_code 70 = .ok (.getfield 7, 3) := by decide +kernel
theorem d_Mo_make_73 : decode prog_14_method_26_code 73 = .ok (.iconst 0, 1) := by decide +kernel
theorem d_Mo_make_74 : decode prog_14_method_26_code 74 = .ok (.invokevirtual 138, 3) := by decide +kernel
theorem d_Mo_make_77 : decode prog_14_method_26_code 77 = .ok (.ifCond .ne 11, 3) := by decide +kernel
theorem d_Mo_make_80 : decode prog_14_method_26_code 80 = .ok (.aload_n 0, 1) := by decide +kernel
theorem d_Mo_make_81 : decode prog_14_method_26_code 81 = .ok (.iload 5, 2) := by decide +kernel
theorem d_Mo_make_83 : decode prog_14_method_26_code 83 = .ok (.putfield 69, 3) := by decide +kernel
theorem d_Mo_make_86 : decode prog_14_method_26_code 86 = .ok (.iconst 0, 1) := by decide +kernel
theorem d_Mo_make_87 : decode prog_14_method_26_code 87 = .ok (.ireturn, 1) := by decide +kernel
theorem d_Mo_make_88 : decode prog_14_method_26_code 88 = .ok (.aload_n 0, 1) := by decide +kernel
theorem d_Mo_make_89 : decode prog_14_method_26_code 89 = .ok (.dup, 1) := by decide +kernel
theorem d_Mo_make_90 : decode prog_14_method_26_code 90 = .ok (.getfield 7, 3) := by decide +kernel
theorem d_Mo_make_93 : decode prog_14_method_26_code 93 = .ok (.iconst 1, 1) := by decide +kernel
theorem d_Mo_make_94 : decode prog_14_method_26_code 94 = .ok (.iadd, 1) := by decide +kernel
theorem d_Mo_make_95 : decode prog_14_method_26_code 95 = .ok (.putfield 7, 3) := by decide +kernel
theorem d_Mo_make_98 : decode prog_14_method_26_code 98 = .ok (.aload_n 0, 1) := by decide +kernel
theorem d_Mo_make_99 : decode prog_14_method_26_code 99 = .ok (.getfield 7, 3) := by decide +kernel
theorem d_Mo_make_102 : decode prog_14_method_26_code 102 = .ok (.iconst 1, 1) := by decide +kernel
theorem d_Mo_make_103 : decode prog_14_method_26_code 103 = .ok (.isub, 1) := by decide +kernel
theorem d_Mo_make_104 : decode prog_14_method_26_code 104 = .ok (.ireturn, 1) := by decide +kernel
theorem d_Mo_project_0 : decode prog_14_method_29_code 0 = .ok (.aload_n 0, 1) := by decide +kernel
theorem d_Mo_project_1 : decode prog_14_method_29_code 1 = .ok (.iload_n 1, 1) := by decide +kernel
theorem d_Mo_project_2 : decode prog_14_method_29_code 2 = .ok (.invokevirtual 145, 3) := by decide +kernel
theorem d_Mo_project_5 : decode prog_14_method_29_code 5 = .ok (.istore 4, 2) := by decide +kernel
theorem d_Mo_project_7 : decode prog_14_method_29_code 7 = .ok (.iconst 0, 1) := by decide +kernel
theorem d_Mo_project_8 : decode prog_14_method_29_code 8 = .ok (.istore 5, 2) := by decide +kernel
theorem d_Mo_project_10 : decode prog_14_method_29_code 10 = .ok (.iload 5, 2) := by decide +kernel
theorem d_Mo_project_12 : decode prog_14_method_29_code 12 = .ok (.iload_n 2, 1) := by decide +kernel
theorem d_Mo_project_13 : decode prog_14_method_29_code 13 = .ok (.if_icmp .ge 49, 3) := by decide +kernel
theorem d_Mo_project_16 : decode prog_14_method_29_code 16 = .ok (.iload 5, 2) := by decide +kernel
theorem d_Mo_project_18 : decode prog_14_method_29_code 18 = .ok (.iconst 4, 1) := by decide +kernel
theorem d_Mo_project_19 : decode prog_14_method_29_code 19 = .ok (.if_icmp .ge 43, 3) := by decide +kernel
theorem d_Mo_project_22 : decode prog_14_method_29_code 22 = .ok (.iload_n 2, 1) := by decide +kernel
theorem d_Mo_project_23 : decode prog_14_method_29_code 23 = .ok (.iconst 5, 1) := by decide +kernel
theorem d_Mo_project_24 : decode prog_14_method_29_code 24 = .ok (.if_icmp .ge 38, 3) := by decide +kernel
theorem d_Mo_project_27 : decode prog_14_method_29_code 27 = .ok (.iload 4, 2) := by decide +kernel
theorem d_Mo_project_29 : decode prog_14_method_29_code 29 = .ok (.ifCond .eq 24, 3) := by decide +kernel
theorem d_Mo_project_32 : decode prog_14_method_29_code 32 = .ok (.aload_n 0, 1) := by decide +kernel
theorem d_Mo_project_33 : decode prog_14_method_29_code 33 = .ok (.iload_n 1, 1) := by decide +kernel
theorem d_Mo_project_34 : decode prog_14_method_29_code 34 = .ok (.iload_n 3, 1) := by decide +kernel
theorem d_Mo_project_35 : decode prog_14_method_29_code 35 = .ok (.iconst 4, 1) := by decide +kernel
theorem d_Mo_project_36 : decode prog_14_method_29_code 36 = .ok (.iload 5, 2) := by decide +kernel
theorem d_Mo_project_38 : decode prog_14_method_29_code 38 = .ok (.imul, 1) := by decide +kernel
theorem d_Mo_project_39 : decode prog_14_method_29_code 39 = .ok (.ishr, 1) := by decide +kernel
theorem d_Mo_project_40 : decode prog_14_method_29_code 40 = .ok (.bipush 15, 2) := by decide +kernel
theorem d_Mo_project_42 : decode prog_14_method_29_code 42 = .ok (.iand, 1) := by decide +kernel
theorem d_Mo_project_43 : decode prog_14_method_29_code 43 = .ok (.invokevirtual 148, 3) := by decide +kernel
theorem d_Mo_project_46 : decode prog_14_method_29_code 46 = .ok (.ifCond .eq 7, 3) := by decide +kernel
theorem d_Mo_project_49 : decode prog_14_method_29_code 49 = .ok (.iconst 1, 1) := by decide +kernel
theorem d_Mo_project_50 : decode prog_14_method_29_code 50 = .ok (.goto 4, 3) := by decide +kernel
theorem d_Mo_project_53 : decode prog_14_method_29_code 53 = .ok (.iconst 0, 1) := by decide +kernel
theorem d_Mo_project_54 : decode prog_14_method_29_code 54 = .ok (.istore 4, 2) := by decide +kernel
theorem d_Mo_project_56 : decode prog_14_method_29_code 56 = .ok (.iinc 5 1, 3) := by decide +kernel
theorem d_Mo_project_59 : decode prog_14_method_29_code 59 = .ok (.goto (-49), 3) := by decide +kernel
theorem d_Mo_project_62 : decode prog_14_method_29_code 62 = .ok (.aload_n 0, 1) := by decide +kernel
theorem d_Mo_project_63 : decode prog_14_method_29_code 63 = .ok (.iload 4, 2) := by decide +kernel
theorem d_Mo_project_65 : decode prog_14_method_29_code 65 = .ok (.ifCond .ne 7, 3) := by decide +kernel
theorem d_Mo_project_68 : decode prog_14_method_29_code 68 = .ok (.iconst 1, 1) := by decide +kernel
theorem d_Mo_project_69 : decode prog_14_method_29_code 69 = .ok (.goto 18, 3) := by decide +kernel
theorem d_Mo_project_72 : decode prog_14_method_29_code 72 = .ok (.iload_n 2, 1) := by decide +kernel
theorem d_Mo_project_73 : decode prog_14_method_29_code 73 = .ok (.iconst 1, 1) := by decide +kernel
theorem d_Mo_project_74 : decode prog_14_method_29_code 74 = .ok (.if_icmp .lt 8, 3) := by decide +kernel
theorem d_Mo_project_77 : decode prog_14_method_29_code 77 = .ok (.iload_n 2, 1) := by decide +kernel
theorem d_Mo_project_78 : decode prog_14_method_29_code 78 = .ok (.iconst 4, 1) := by decide +kernel
theorem d_Mo_project_79 : decode prog_14_method_29_code 79 = .ok (.if_icmp .le 7, 3) := by decide +kernel
theorem d_Mo_project_82 : decode prog_14_method_29_code 82 = .ok (.iconst 2, 1) := by decide +kernel
theorem d_Mo_project_83 : decode prog_14_method_29_code 83 = .ok (.goto 4, 3) := by decide +kernel
theorem d_Mo_project_86 : decode prog_14_method_29_code 86 = .ok (.iconst 0, 1) := by decide +kernel
theorem d_Mo_project_87 : decode prog_14_method_29_code 87 = .ok (.putfield 69, 3) := by decide +kernel
theorem d_Mo_project_90 : decode prog_14_method_29_code 90 = .ok (.aload_n 0, 1) := by decide +kernel
theorem d_Mo_project_91 : decode prog_14_method_29_code 91 = .ok (.getfield 69, 3) := by decide +kernel
theorem d_Mo_project_94 : decode prog_14_method_29_code 94 = .ok (.ifCond .le 5, 3) := by decide +kernel
theorem d_Mo_project_97 : decode prog_14_method_29_code 97 = .ok (.iconst 0, 1) := by decide +kernel
theorem d_Mo_project_98 : decode prog_14_method_29_code 98 = .ok (.ireturn, 1) := by decide +kernel
theorem d_Mo_project_99 : decode prog_14_method_29_code 99 = .ok (.aload_n 0, 1) := by decide +kernel
theorem d_Mo_project_100 : decode prog_14_method_29_code 100 = .ok (.iload_n 3, 1) := by decide +kernel
theorem d_Mo_project_101 : decode prog_14_method_29_code 101 = .ok (.iconst 0, 1) := by decide +kernel
theorem d_Mo_project_102 : decode prog_14_method_29_code 102 = .ok (.iconst 0, 1) := by decide +kernel
theorem d_Mo_project_103 : decode prog_14_method_29_code 103 = .ok (.invokevirtual 151, 3) := by decide +kernel
theorem d_Mo_project_106 : decode prog_14_method_29_code 106 = .ok (.aload_n 0, 1) := by decide +kernel
theorem d_Mo_project_107 : decode prog_14_method_29_code 107 = .ok (.iconst 2, 1) := by decide +kernel
theorem d_Mo_project_108 : decode prog_14_method_29_code 108 = .ok (.iload_n 1, 1) := by decide +kernel
theorem d_Mo_project_109 : decode prog_14_method_29_code 109 = .ok (.iconst 0, 1) := by decide +kernel
theorem d_Mo_project_110 : decode prog_14_method_29_code 110 = .ok (.iload_n 2, 1) := by decide +kernel
theorem d_Mo_project_111 : decode prog_14_method_29_code 111 = .ok (.iconst 3, 1) := by decide +kernel
theorem d_Mo_project_112 : decode prog_14_method_29_code 112 = .ok (.invokevirtual 154, 3) := by decide +kernel
theorem d_Mo_project_115 : decode prog_14_method_29_code 115 = .ok (.ireturn, 1) := by decide +kernel
theorem d_Mo_join_0 : decode prog_14_method_30_code 0 = .ok (.aload_n 0, 1) := by decide +kernel
theorem d_Mo_join_1 : decode prog_14_method_30_code 1 = .ok (.aload_n 0, 1) := by decide +kernel
theorem d_Mo_join_2 : decode prog_14_method_30_code 2 = .ok (.iload_n 1, 1) := by decide +kernel
theorem d_Mo_join_3 : decode prog_14_method_30_code 3 = .ok (.iload_n 3, 1) := by decide +kernel
theorem d_Mo_join_4 : decode prog_14_method_30_code 4 = .ok (.invokevirtual 148, 3) := by decide +kernel
theorem d_Mo_join_7 : decode prog_14_method_30_code 7 = .ok (.ifCond .eq 13, 3) := by decide +kernel
theorem d_Mo_join_10 : decode prog_14_method_30_code 10 = .ok (.aload_n 0, 1) := by decide +kernel
theorem d_Mo_join_11 : decode prog_14_method_30_code 11 = .ok (.iload_n 2, 1) := by decide +kernel
theorem d_Mo_join_12 : decode prog_14_method_30_code 12 = .ok (.iload 4, 2) := by decide +kernel
theorem d_Mo_join_14 : decode prog_14_method_30_code 14 = .ok (.invokevirtual 148, 3) := by decide +kernel
theorem d_Mo_join_17 : decode prog_14_method_30_code 17 = .ok (.ifCond .ne 7, 3) := by decide +kernel
theorem d_Mo_join_20 : decode prog_14_method_30_code 20 = .ok (.iconst 1, 1) := by decide +kernel
theorem d_Mo_join_21 : decode prog_14_method_30_code 21 = .ok (.goto 25, 3) := by decide +kernel
theorem d_Mo_join_24 : decode prog_14_method_30_code 24 = .ok (.aload_n 0, 1) := by decide +kernel
theorem d_Mo_join_25 : decode prog_14_method_30_code 25 = .ok (.getfield 13, 3) := by decide +kernel
theorem d_Mo_join_28 : decode prog_14_method_30_code 28 = .ok (.iload_n 1, 1) := by decide +kernel
theorem d_Mo_join_29 : decode prog_14_method_30_code 29 = .ok (.iaload, 1) := by decide +kernel
theorem d_Mo_join_30 : decode prog_14_method_30_code 30 = .ok (.aload_n 0, 1) := by decide +kernel
theorem d_Mo_join_31 : decode prog_14_method_30_code 31 = .ok (.getfield 13, 3) := by decide +kernel
theorem d_Mo_join_34 : decode prog_14_method_30_code 34 = .ok (.iload_n 2, 1) := by decide +kernel
theorem d_Mo_join_35 : decode prog_14_method_30_code 35 = .ok (.iaload, 1) := by decide +kernel
theorem d_Mo_join_36 : decode prog_14_method_30_code 36 = .ok (.iadd, 1) := by decide +kernel
theorem d_Mo_join_37 : decode prog_14_method_30_code 37 = .ok (.iconst 4, 1) := by decide +kernel
theorem d_Mo_join_38 : decode prog_14_method_30_code 38 = .ok (.if_icmp .le 7, 3) := by decide +kernel
theorem d_Mo_join_41 : decode prog_14_method_30_code 41 = .ok (.iconst 2, 1) := by decide +kernel
theorem d_Mo_join_42 : decode prog_14_method_30_code 42 = .ok (.goto 4, 3) := by decide +kernel
theorem d_Mo_join_45 : decode prog_14_method_30_code 45 = .ok (.iconst 0, 1) := by decide +kernel
theorem d_Mo_join_46 : decode prog_14_method_30_code 46 = .ok (.putfield 69, 3) := by decide +kernel
theorem d_Mo_join_49 : decode prog_14_method_30_code 49 = .ok (.aload_n 0, 1) := by decide +kernel
theorem d_Mo_join_50 : decode prog_14_method_30_code 50 = .ok (.getfield 69, 3) := by decide +kernel
theorem d_Mo_join_53 : decode prog_14_method_30_code 53 = .ok (.ifCond .le 5, 3) := by decide +kernel
theorem d_Mo_join_56 : decode prog_14_method_30_code 56 = .ok (.iconst 0, 1) := by decide +kernel
theorem d_Mo_join_57 : decode prog_14_method_30_code 57 = .ok (.ireturn, 1) := by decide +kernel
theorem d_Mo_join_58 : decode prog_14_method_30_code 58 = .ok (.aload_n 0, 1) := by decide +kernel
theorem d_Mo_join_59 : decode prog_14_method_30_code 59 = .ok (.iload_n 3, 1) := by decide +kernel
theorem d_Mo_join_60 : decode prog_14_method_30_code 60 = .ok (.iload 4, 2) := by decide +kernel
theorem d_Mo_join_62 : decode prog_14_method_30_code 62 = .ok (.iconst 0, 1) := by decide +kernel
theorem d_Mo_join_63 : decode prog_14_method_30_code 63 = .ok (.invokevirtual 151, 3) := by decide +kernel
theorem d_Mo_join_66 : decode prog_14_method_30_code 66 = .ok (.aload_n 0, 1) := by decide +kernel
theorem d_Mo_join_67 : decode prog_14_method_30_code 67 = .ok (.iconst 3, 1) := by decide +kernel
theorem d_Mo_join_68 : decode prog_14_method_30_code 68 = .ok (.iload_n 1, 1) := by decide +kernel
theorem d_Mo_join_69 : decode prog_14_method_30_code 69 = .ok (.iload_n 2, 1) := by decide +kernel
theorem d_Mo_join_70 : decode prog_14_method_30_code 70 = .ok (.aload_n 0, 1) := by decide +kernel
theorem d_Mo_join_71 : decode prog_14_method_30_code 71 = .ok (.getfield 13, 3) := by decide +kernel
theorem d_Mo_join_74 : decode prog_14_method_30_code 74 = .ok (.iload_n 1, 1) := by decide +kernel
theorem d_Mo_join_75 : decode prog_14_method_30_code 75 = .ok (.iaload, 1) := by decide +kernel
theorem d_Mo_join_76 : decode prog_14_method_30_code 76 = .ok (.aload_n 0, 1) := by decide +kernel
theorem d_Mo_join_77 : decode prog_14_method_30_code 77 = .ok (.getfield 13, 3) := by decide +kernel
theorem d_Mo_join_80 : decode prog_14_method_30_code 80 = .ok (.iload_n 2, 1) := by decide +kernel
theorem d_Mo_join_81 : decode prog_14_method_30_code 81 = .ok (.iaload, 1) := by decide +kernel
theorem d_Mo_join_82 : decode prog_14_method_30_code 82 = .ok (.iadd, 1) := by decide +kernel
theorem d_Mo_join_83 : decode prog_14_method_30_code 83 = .ok (.iconst 3, 1) := by decide +kernel
theorem d_Mo_join_84 : decode prog_14_method_30_code 84 = .ok (.invokevirtual 154, 3) := by decide +kernel
theorem d_Mo_join_87 : decode prog_14_method_30_code 87 = .ok (.ireturn, 1) := by decide +kernel
theorem d_Mo_union_0 : decode prog_14_method_31_code 0 = .ok (.aload_n 0, 1) := by decide +kernel
theorem d_Mo_union_1 : decode prog_14_method_31_code 1 = .ok (.aload_n 0, 1) := by decide +kernel
theorem d_Mo_union_2 : decode prog_14_method_31_code 2 = .ok (.iload_n 1, 1) := by decide +kernel
theorem d_Mo_union_3 : decode prog_14_method_31_code 3 = .ok (.invokevirtual 145, 3) := by decide +kernel
theorem d_Mo_union_6 : decode prog_14_method_31_code 6 = .ok (.ifCond .eq 11, 3) := by decide +kernel
theorem d_Mo_union_9 : decode prog_14_method_31_code 9 = .ok (.aload_n 0, 1) := by decide +kernel
theorem d_Mo_union_10 : decode prog_14_method_31_code 10 = .ok (.iload_n 2, 1) := by decide +kernel
theorem d_Mo_union_11 : decode prog_14_method_31_code 11 = .ok (.invokevirtual 145, 3) := by decide +kernel
theorem d_Mo_union_14 : decode prog_14_method_31_code 14 = .ok (.ifCond .ne 7, 3) := by decide +kernel
theorem d_Mo_union_17 : decode prog_14_method_31_code 17 = .ok (.iconst 1, 1) := by decide +kernel
theorem d_Mo_union_18 : decode prog_14_method_31_code 18 = .ok (.goto 23, 3) := by decide +kernel
theorem d_Mo_union_21 : decode prog_14_method_31_code 21 = .ok (.aload_n 0, 1) := by decide +kernel
theorem d_Mo_union_22 : decode prog_14_method_31_code 22 = .ok (.getfield 13, 3) := by decide +kernel
theorem d_Mo_union_25 : decode prog_14_method_31_code 25 = .ok (.iload_n 1, 1) := by decide +kernel
theorem d_Mo_union_26 : decode prog_14_method_31_code 26 = .ok (.iaload, 1) := by decide +kernel
theorem d_Mo_union_27 : decode prog_14_method_31_code 27 = .ok (.aload_n 0, 1) := by decide +kernel
theorem d_Mo_union_28 : decode prog_14_method_31_code 28 = .ok (.getfield 13, 3) := by decide +kernel
theorem d_Mo_union_31 : decode prog_14_method_31_code 31 = .ok (.iload_n 2, 1) := by decide +kernel
theorem d_Mo_union_32 : decode prog_14_method_31_code 32 = .ok (.iaload, 1) := by decide +kernel
theorem d_Mo_union_33 : decode prog_14_method_31_code 33 = .ok (.if_icmp .eq 7, 3) := by decide +kernel
theorem d_Mo_union_36 : decode prog_14_method_31_code 36 = .ok (.iconst 2, 1) := by decide +kernel
theorem d_Mo_union_37 : decode prog_14_method_31_code 37 = .ok (.goto 4, 3) := by decide +kernel
theorem d_Mo_union_40 : decode prog_14_method_31_code 40 = .ok (.iconst 0, 1) := by decide +kernel
theorem d_Mo_union_41 : decode prog_14_method_31_code 41 = .ok (.putfield 69, 3) := by decide +kernel
theorem d_Mo_union_44 : decode prog_14_method_31_code 44 = .ok (.aload_n 0, 1) := by decide +kernel
theorem d_Mo_union_45 : decode prog_14_method_31_code 45 = .ok (.getfield 69, 3) := by decide +kernel
theorem d_Mo_union_48 : decode prog_14_method_31_code 48 = .ok (.ifCond .le 5, 3) := by decide +kernel
theorem d_Mo_union_51 : decode prog_14_method_31_code 51 = .ok (.iconst 0, 1) := by decide +kernel
theorem d_Mo_union_52 : decode prog_14_method_31_code 52 = .ok (.ireturn, 1) := by decide +kernel
theorem d_Mo_union_53 : decode prog_14_method_31_code 53 = .ok (.aload_n 0, 1) := by decide +kernel
theorem d_Mo_union_54 : decode prog_14_method_31_code 54 = .ok (.iconst 4, 1) := by decide +kernel
theorem d_Mo_union_55 : decode prog_14_method_31_code 55 = .ok (.iload_n 1, 1) := by decide +kernel
theorem d_Mo_union_56 : decode prog_14_method_31_code 56 = .ok (.iload_n 2, 1) := by decide +kernel
theorem d_Mo_union_57 : decode prog_14_method_31_code 57 = .ok (.aload_n 0, 1) := by decide +kernel
theorem d_Mo_union_58 : decode prog_14_method_31_code 58 = .ok (.getfield 13, 3) := by decide +kernel
theorem d_Mo_union_61 : decode prog_14_method_31_code 61 = .ok (.iload_n 1, 1) := by decide +kernel
theorem d_Mo_union_62 : decode prog_14_method_31_code 62 = .ok (.iaload, 1) := by decide +kernel
theorem d_Mo_union_63 : decode prog_14_method_31_code 63 = .ok (.iconst 3, 1) := by decide +kernel
theorem d_Mo_union_64 : decode prog_14_method_31_code 64 = .ok (.invokevirtual 154, 3) := by decide +kernel
theorem d_Mo_union_67 : decode prog_14_method_31_code 67 = .ok (.ireturn, 1) := by decide +kernel
theorem d_Mo_group_0 : decode prog_14_method_32_code 0 = .ok (.aload_n 0, 1) := by decide +kernel
theorem d_Mo_group_1 : decode prog_14_method_32_code 1 = .ok (.aload_n 0, 1) := by decide +kernel
theorem d_Mo_group_2 : decode prog_14_method_32_code 2 = .ok (.iload_n 1, 1) := by decide +kernel
theorem d_Mo_group_3 : decode prog_14_method_32_code 3 = .ok (.iload_n 3, 1) := by decide +kernel
theorem d_Mo_group_4 : decode prog_14_method_32_code 4 = .ok (.invokevirtual 148, 3) := by decide +kernel
theorem d_Mo_group_7 : decode prog_14_method_32_code 7 = .ok (.ifCond .eq 13, 3) := by decide +kernel
theorem d_Mo_group_10 : decode prog_14_method_32_code 10 = .ok (.aload_n 0, 1) := by decide +kernel
theorem d_Mo_group_11 : decode prog_14_method_32_code 11 = .ok (.iload_n 1, 1) := by decide +kernel
theorem d_Mo_group_12 : decode prog_14_method_32_code 12 = .ok (.iload 4, 2) := by decide +kernel
theorem d_Mo_group_14 : decode prog_14_method_32_code 14 = .ok (.invokevirtual 148, 3) := by decide +kernel
theorem d_Mo_group_17 : decode prog_14_method_32_code 17 = .ok (.ifCond .ne 7, 3) := by decide +kernel
theorem d_Mo_group_20 : decode prog_14_method_32_code 20 = .ok (.iconst 1, 1) := by decide +kernel
theorem d_Mo_group_21 : decode prog_14_method_32_code 21 = .ok (.goto 17, 3) := by decide +kernel
theorem d_Mo_group_24 : decode prog_14_method_32_code 24 = .ok (.iload_n 2, 1) := by decide +kernel
theorem d_Mo_group_25 : decode prog_14_method_32_code 25 = .ok (.ifCond .lt 8, 3) := by decide +kernel
theorem d_Mo_group_28 : decode prog_14_method_32_code 28 = .ok (.iload_n 2, 1) := by decide +kernel
theorem d_Mo_group_29 : decode prog_14_method_32_code 29 = .ok (.iconst 2, 1) := by decide +kernel
theorem d_Mo_group_30 : decode prog_14_method_32_code 30 = .ok (.if_icmp .le 7, 3) := by decide +kernel
theorem d_Mo_group_33 : decode prog_14_method_32_code 33 = .ok (.iconst 2, 1) := by decide +kernel
theorem d_Mo_group_34 : decode prog_14_method_32_code 34 = .ok (.goto 4, 3) := by decide +kernel
theorem d_Mo_group_37 : decode prog_14_method_32_code 37 = .ok (.iconst 0, 1) := by decide +kernel
theorem d_Mo_group_38 : decode prog_14_method_32_code 38 = .ok (.putfield 69, 3) := by decide +kernel
theorem d_Mo_group_41 : decode prog_14_method_32_code 41 = .ok (.aload_n 0, 1) := by decide +kernel
theorem d_Mo_group_42 : decode prog_14_method_32_code 42 = .ok (.getfield 69, 3) := by decide +kernel
theorem d_Mo_group_45 : decode prog_14_method_32_code 45 = .ok (.ifCond .le 5, 3) := by decide +kernel
theorem d_Mo_group_48 : decode prog_14_method_32_code 48 = .ok (.iconst 0, 1) := by decide +kernel
theorem d_Mo_group_49 : decode prog_14_method_32_code 49 = .ok (.ireturn, 1) := by decide +kernel
theorem d_Mo_group_50 : decode prog_14_method_32_code 50 = .ok (.aload_n 0, 1) := by decide +kernel
theorem d_Mo_group_51 : decode prog_14_method_32_code 51 = .ok (.iload_n 3, 1) := by decide +kernel
theorem d_Mo_group_52 : decode prog_14_method_32_code 52 = .ok (.iload 4, 2) := by decide +kernel
theorem d_Mo_group_54 : decode prog_14_method_32_code 54 = .ok (.iconst 0, 1) := by decide +kernel
theorem d_Mo_group_55 : decode prog_14_method_32_code 55 = .ok (.invokevirtual 151, 3) := by decide +kernel
theorem d_Mo_group_58 : decode prog_14_method_32_code 58 = .ok (.aload_n 0, 1) := by decide +kernel
theorem d_Mo_group_59 : decode prog_14_method_32_code 59 = .ok (.iconst 5, 1) := by decide +kernel
theorem d_Mo_group_60 : decode prog_14_method_32_code 60 = .ok (.iload_n 2, 1) := by decide +kernel
theorem d_Mo_group_61 : decode prog_14_method_32_code 61 = .ok (.iadd, 1) := by decide +kernel
theorem d_Mo_group_62 : decode prog_14_method_32_code 62 = .ok (.iload_n 1, 1) := by decide +kernel
theorem d_Mo_group_63 : decode prog_14_method_32_code 63 = .ok (.iconst 0, 1) := by decide +kernel
theorem d_Mo_group_64 : decode prog_14_method_32_code 64 = .ok (.iconst 2, 1) := by decide +kernel
theorem d_Mo_group_65 : decode prog_14_method_32_code 65 = .ok (.iconst 3, 1) := by decide +kernel
theorem d_Mo_group_66 : decode prog_14_method_32_code 66 = .ok (.invokevirtual 154, 3) := by decide +kernel
theorem d_Mo_group_69 : decode prog_14_method_32_code 69 = .ok (.ireturn, 1) := by decide +kernel
theorem d_Mo_distinct_0 : decode prog_14_method_33_code 0 = .ok (.aload_n 0, 1) := by decide +kernel
theorem d_Mo_distinct_1 : decode prog_14_method_33_code 1 = .ok (.aload_n 0, 1) := by decide +kernel
theorem d_Mo_distinct_2 : decode prog_14_method_33_code 2 = .ok (.iload_n 1, 1) := by decide +kernel
theorem d_Mo_distinct_3 : decode prog_14_method_33_code 3 = .ok (.invokevirtual 145, 3) := by decide +kernel
theorem d_Mo_distinct_6 : decode prog_14_method_33_code 6 = .ok (.ifCond .eq 7, 3) := by decide +kernel
theorem d_Mo_distinct_9 : decode prog_14_method_33_code 9 = .ok (.iconst 0, 1) := by decide +kernel
theorem d_Mo_distinct_10 : decode prog_14_method_33_code 10 = .ok (.goto 4, 3) := by decide +kernel
theorem d_Mo_distinct_13 : decode prog_14_method_33_code 13 = .ok (.iconst 1, 1) := by decide +kernel
theorem d_Mo_distinct_14 : decode prog_14_method_33_code 14 = .ok (.putfield 69, 3) := by decide +kernel
theorem d_Mo_distinct_17 : decode prog_14_method_33_code 17 = .ok (.aload_n 0, 1) := by decide +kernel
theorem d_Mo_distinct_18 : decode prog_14_method_33_code 18 = .ok (.getfield 69, 3) := by decide +kernel
theorem d_Mo_distinct_21 : decode prog_14_method_33_code 21 = .ok (.ifCond .le 5, 3) := by decide +kernel
theorem d_Mo_distinct_24 : decode prog_14_method_33_code 24 = .ok (.iconst 0, 1) := by decide +kernel
theorem d_Mo_distinct_25 : decode prog_14_method_33_code 25 = .ok (.ireturn, 1) := by decide +kernel
theorem d_Mo_distinct_26 : decode prog_14_method_33_code 26 = .ok (.aload_n 0, 1) := by decide +kernel
theorem d_Mo_distinct_27 : decode prog_14_method_33_code 27 = .ok (.bipush 8, 2) := by decide +kernel
theorem d_Mo_distinct_29 : decode prog_14_method_33_code 29 = .ok (.iload_n 1, 1) := by decide +kernel
theorem d_Mo_distinct_30 : decode prog_14_method_33_code 30 = .ok (.iconst 0, 1) := by decide +kernel
theorem d_Mo_distinct_31 : decode prog_14_method_33_code 31 = .ok (.aload_n 0, 1) := by decide +kernel
theorem d_Mo_distinct_32 : decode prog_14_method_33_code 32 = .ok (.getfield 13, 3) := by decide +kernel
theorem d_Mo_distinct_35 : decode prog_14_method_33_code 35 = .ok (.iload_n 1, 1) := by decide +kernel
theorem d_Mo_distinct_36 : decode prog_14_method_33_code 36 = .ok (.iaload, 1) := by decide +kernel
theorem d_Mo_distinct_37 : decode prog_14_method_33_code 37 = .ok (.iconst 2, 1) := by decide +kernel
theorem d_Mo_distinct_38 : decode prog_14_method_33_code 38 = .ok (.invokevirtual 154, 3) := by decide +kernel
theorem d_Mo_distinct_41 : decode prog_14_method_33_code 41 = .ok (.ireturn, 1) := by decide +kernel
theorem d_Mo_drop_0 : decode prog_14_method_34_code 0 = .ok (.aload_n 0, 1) := by decide +kernel
theorem d_Mo_drop_1 : decode prog_14_method_34_code 1 = .ok (.aload_n 0, 1) := by decide +kernel
theorem d_Mo_drop_2 : decode prog_14_method_34_code 2 = .ok (.getfield 7, 3) := by decide +kernel
theorem d_Mo_drop_5 : decode prog_14_method_34_code 5 = .ok (.iconst 3, 1) := by decide +kernel
theorem d_Mo_drop_6 : decode prog_14_method_34_code 6 = .ok (.if_icmp .ne 7, 3) := by decide +kernel
theorem d_Mo_drop_9 : decode prog_14_method_34_code 9 = .ok (.iconst 1, 1) := by decide +kernel
theorem d_Mo_drop_10 : decode prog_14_method_34_code 10 = .ok (.goto 4, 3) := by decide +kernel
theorem d_Mo_drop_13 : decode prog_14_method_34_code 13 = .ok (.iconst 0, 1) := by decide +kernel
theorem d_Mo_drop_14 : decode prog_14_method_34_code 14 = .ok (.putfield 69, 3) := by decide +kernel
theorem d_Mo_drop_17 : decode prog_14_method_34_code 17 = .ok (.aload_n 0, 1) := by decide +kernel
theorem d_Mo_drop_18 : decode prog_14_method_34_code 18 = .ok (.getfield 69, 3) := by decide +kernel
theorem d_Mo_drop_21 : decode prog_14_method_34_code 21 = .ok (.ifCond .le 5, 3) := by decide +kernel
theorem d_Mo_drop_24 : decode prog_14_method_34_code 24 = .ok (.iconst 0, 1) := by decide +kernel
theorem d_Mo_drop_25 : decode prog_14_method_34_code 25 = .ok (.ireturn, 1) := by decide +kernel
theorem d_Mo_drop_26 : decode prog_14_method_34_code 26 = .ok (.aload_n 0, 1) := by decide +kernel
theorem d_Mo_drop_27 : decode prog_14_method_34_code 27 = .ok (.dup, 1) := by decide +kernel
theorem d_Mo_drop_28 : decode prog_14_method_34_code 28 = .ok (.getfield 7, 3) := by decide +kernel
theorem d_Mo_drop_31 : decode prog_14_method_34_code 31 = .ok (.iconst 1, 1) := by decide +kernel
theorem d_Mo_drop_32 : decode prog_14_method_34_code 32 = .ok (.isub, 1) := by decide +kernel
theorem d_Mo_drop_33 : decode prog_14_method_34_code 33 = .ok (.putfield 7, 3) := by decide +kernel
theorem d_Mo_drop_36 : decode prog_14_method_34_code 36 = .ok (.aload_n 0, 1) := by decide +kernel
theorem d_Mo_drop_37 : decode prog_14_method_34_code 37 = .ok (.getfield 7, 3) := by decide +kernel
theorem d_Mo_drop_40 : decode prog_14_method_34_code 40 = .ok (.ireturn, 1) := by decide +kernel
theorem d_Mo_width_0 : decode prog_14_method_35_code 0 = .ok (.aload_n 0, 1) := by decide +kernel
theorem d_Mo_width_1 : decode prog_14_method_35_code 1 = .ok (.aload_n 0, 1) := by decide +kernel
theorem d_Mo_width_2 : decode prog_14_method_35_code 2 = .ok (.iload_n 1, 1) := by decide +kernel
theorem d_Mo_width_3 : decode prog_14_method_35_code 3 = .ok (.invokevirtual 145, 3) := by decide +kernel
theorem d_Mo_width_6 : decode prog_14_method_35_code 6 = .ok (.ifCond .eq 7, 3) := by decide +kernel
theorem d_Mo_width_9 : decode prog_14_method_35_code 9 = .ok (.iconst 0, 1) := by decide +kernel
theorem d_Mo_width_10 : decode prog_14_method_35_code 10 = .ok (.goto 4, 3) := by decide +kernel
theorem d_Mo_width_13 : decode prog_14_method_35_code 13 = .ok (.iconst 1, 1) := by decide +kernel
theorem d_Mo_width_14 : decode prog_14_method_35_code 14 = .ok (.putfield 69, 3) := by decide +kernel
theorem d_Mo_width_17 : decode prog_14_method_35_code 17 = .ok (.aload_n 0, 1) := by decide +kernel
theorem d_Mo_width_18 : decode prog_14_method_35_code 18 = .ok (.getfield 69, 3) := by decide +kernel
theorem d_Mo_width_21 : decode prog_14_method_35_code 21 = .ok (.ifCond .le 7, 3) := by decide +kernel
theorem d_Mo_width_24 : decode prog_14_method_35_code 24 = .ok (.iconst 0, 1) := by decide +kernel
theorem d_Mo_width_25 : decode prog_14_method_35_code 25 = .ok (.goto 9, 3) := by decide +kernel
theorem d_Mo_width_28 : decode prog_14_method_35_code 28 = .ok (.aload_n 0, 1) := by decide +kernel
theorem d_Mo_width_29 : decode prog_14_method_35_code 29 = .ok (.getfield 13, 3) := by decide +kernel
theorem d_Mo_width_32 : decode prog_14_method_35_code 32 = .ok (.iload_n 1, 1) := by decide +kernel
theorem d_Mo_width_33 : decode prog_14_method_35_code 33 = .ok (.iaload, 1) := by decide +kernel
theorem d_Mo_width_34 : decode prog_14_method_35_code 34 = .ok (.ireturn, 1) := by decide +kernel
theorem d_Mo_rows_0 : decode prog_14_method_36_code 0 = .ok (.aload_n 0, 1) := by decide +kernel
theorem d_Mo_rows_1 : decode prog_14_method_36_code 1 = .ok (.aload_n 0, 1) := by decide +kernel
theorem d_Mo_rows_2 : decode prog_14_method_36_code 2 = .ok (.iload_n 1, 1) := by decide +kernel
theorem d_Mo_rows_3 : decode prog_14_method_36_code 3 = .ok (.invokevirtual 145, 3) := by decide +kernel
theorem d_Mo_rows_6 : decode prog_14_method_36_code 6 = .ok (.ifCond .eq 7, 3) := by decide +kernel
theorem d_Mo_rows_9 : decode prog_14_method_36_code 9 = .ok (.iconst 0, 1) := by decide +kernel
theorem d_Mo_rows_10 : decode prog_14_method_36_code 10 = .ok (.goto 4, 3) := by decide +kernel
theorem d_Mo_rows_13 : decode prog_14_method_36_code 13 = .ok (.iconst 1, 1) := by decide +kernel
theorem d_Mo_rows_14 : decode prog_14_method_36_code 14 = .ok (.putfield 69, 3) := by decide +kernel
theorem d_Mo_rows_17 : decode prog_14_method_36_code 17 = .ok (.aload_n 0, 1) := by decide +kernel
theorem d_Mo_rows_18 : decode prog_14_method_36_code 18 = .ok (.getfield 69, 3) := by decide +kernel
theorem d_Mo_rows_21 : decode prog_14_method_36_code 21 = .ok (.ifCond .le 7, 3) := by decide +kernel
theorem d_Mo_rows_24 : decode prog_14_method_36_code 24 = .ok (.iconst 0, 1) := by decide +kernel
theorem d_Mo_rows_25 : decode prog_14_method_36_code 25 = .ok (.goto 9, 3) := by decide +kernel
theorem d_Mo_rows_28 : decode prog_14_method_36_code 28 = .ok (.aload_n 0, 1) := by decide +kernel
theorem d_Mo_rows_29 : decode prog_14_method_36_code 29 = .ok (.getfield 38, 3) := by decide +kernel
theorem d_Mo_rows_32 : decode prog_14_method_36_code 32 = .ok (.iload_n 1, 1) := by decide +kernel
theorem d_Mo_rows_33 : decode prog_14_method_36_code 33 = .ok (.iaload, 1) := by decide +kernel
theorem d_Mo_rows_34 : decode prog_14_method_36_code 34 = .ok (.ireturn, 1) := by decide +kernel
theorem d_Mo_cell_0 : decode prog_14_method_37_code 0 = .ok (.aload_n 0, 1) := by decide +kernel
theorem d_Mo_cell_1 : decode prog_14_method_37_code 1 = .ok (.aload_n 0, 1) := by decide +kernel
theorem d_Mo_cell_2 : decode prog_14_method_37_code 2 = .ok (.iload_n 1, 1) := by decide +kernel
theorem d_Mo_cell_3 : decode prog_14_method_37_code 3 = .ok (.iload_n 3, 1) := by decide +kernel
theorem d_Mo_cell_4 : decode prog_14_method_37_code 4 = .ok (.invokevirtual 148, 3) := by decide +kernel
theorem d_Mo_cell_7 : decode prog_14_method_37_code 7 = .ok (.ifCond .ne 7, 3) := by decide +kernel
theorem d_Mo_cell_10 : decode prog_14_method_37_code 10 = .ok (.iconst 1, 1) := by decide +kernel
theorem d_Mo_cell_11 : decode prog_14_method_37_code 11 = .ok (.goto 22, 3) := by decide +kernel
theorem d_Mo_cell_14 : decode prog_14_method_37_code 14 = .ok (.iload_n 2, 1) := by decide +kernel
theorem d_Mo_cell_15 : decode prog_14_method_37_code 15 = .ok (.ifCond .lt 13, 3) := by decide +kernel
theorem d_Mo_cell_18 : decode prog_14_method_37_code 18 = .ok (.iload_n 2, 1) := by decide +kernel
theorem d_Mo_cell_19 : decode prog_14_method_37_code 19 = .ok (.aload_n 0, 1) := by decide +kernel
theorem d_Mo_cell_20 : decode prog_14_method_37_code 20 = .ok (.getfield 38, 3) := by decide +kernel
theorem d_Mo_cell_23 : decode prog_14_method_37_code 23 = .ok (.iload_n 1, 1) := by decide +kernel
theorem d_Mo_cell_24 : decode prog_14_method_37_code 24 = .ok (.iaload, 1) := by decide +kernel
theorem d_Mo_cell_25 : decode prog_14_method_37_code 25 = .ok (.if_icmp .lt 7, 3) := by decide +kernel
theorem d_Mo_cell_28 : decode prog_14_method_37_code 28 = .ok (.iconst 2, 1) := by decide +kernel
theorem d_Mo_cell_29 : decode prog_14_method_37_code 29 = .ok (.goto 4, 3) := by decide +kernel
theorem d_Mo_cell_32 : decode prog_14_method_37_code 32 = .ok (.iconst 0, 1) := by decide +kernel
theorem d_Mo_cell_33 : decode prog_14_method_37_code 33 = .ok (.putfield 69, 3) := by decide +kernel
theorem d_Mo_cell_36 : decode prog_14_method_37_code 36 = .ok (.aload_n 0, 1) := by decide +kernel
theorem d_Mo_cell_37 : decode prog_14_method_37_code 37 = .ok (.getfield 69, 3) := by decide +kernel
theorem d_Mo_cell_40 : decode prog_14_method_37_code 40 = .ok (.ifCond .le 7, 3) := by decide +kernel
theorem d_Mo_cell_43 : decode prog_14_method_37_code 43 = .ok (.iconst 0, 1) := by decide +kernel
theorem d_Mo_cell_44 : decode prog_14_method_37_code 44 = .ok (.goto 10, 3) := by decide +kernel
theorem d_Mo_cell_47 : decode prog_14_method_37_code 47 = .ok (.aload_n 0, 1) := by decide +kernel
theorem d_Mo_cell_48 : decode prog_14_method_37_code 48 = .ok (.iload_n 1, 1) := by decide +kernel
theorem d_Mo_cell_49 : decode prog_14_method_37_code 49 = .ok (.iload_n 2, 1) := by decide +kernel
theorem d_Mo_cell_50 : decode prog_14_method_37_code 50 = .ok (.iload_n 3, 1) := by decide +kernel
theorem d_Mo_cell_51 : decode prog_14_method_37_code 51 = .ok (.invokevirtual 83, 3) := by decide +kernel
theorem d_Mo_cell_54 : decode prog_14_method_37_code 54 = .ok (.ireturn, 1) := by decide +kernel
theorem d_Mo_times_0 : decode prog_14_method_38_code 0 = .ok (.aload_n 0, 1) := by decide +kernel
theorem d_Mo_times_1 : decode prog_14_method_38_code 1 = .ok (.aload_n 0, 1) := by decide +kernel
theorem d_Mo_times_2 : decode prog_14_method_38_code 2 = .ok (.iload_n 1, 1) := by decide +kernel
theorem d_Mo_times_3 : decode prog_14_method_38_code 3 = .ok (.invokevirtual 145, 3) := by decide +kernel
theorem d_Mo_times_6 : decode prog_14_method_38_code 6 = .ok (.ifCond .ne 7, 3) := by decide +kernel
theorem d_Mo_times_9 : decode prog_14_method_38_code 9 = .ok (.iconst 1, 1) := by decide +kernel
theorem d_Mo_times_10 : decode prog_14_method_38_code 10 = .ok (.goto 22, 3) := by decide +kernel
theorem d_Mo_times_13 : decode prog_14_method_38_code 13 = .ok (.iload_n 2, 1) := by decide +kernel
theorem d_Mo_times_14 : decode prog_14_method_38_code 14 = .ok (.ifCond .lt 13, 3) := by decide +kernel
theorem d_Mo_times_17 : decode prog_14_method_38_code 17 = .ok (.iload_n 2, 1) := by decide +kernel
theorem d_Mo_times_18 : decode prog_14_method_38_code 18 = .ok (.aload_n 0, 1) := by decide +kernel
theorem d_Mo_times_19 : decode prog_14_method_38_code 19 = .ok (.getfield 38, 3) := by decide +kernel
theorem d_Mo_times_22 : decode prog_14_method_38_code 22 = .ok (.iload_n 1, 1) := by decide +kernel
theorem d_Mo_times_23 : decode prog_14_method_38_code 23 = .ok (.iaload, 1) := by decide +kernel
theorem d_Mo_times_24 : decode prog_14_method_38_code 24 = .ok (.if_icmp .lt 7, 3) := by decide +kernel
theorem d_Mo_times_27 : decode prog_14_method_38_code 27 = .ok (.iconst 2, 1) := by decide +kernel
theorem d_Mo_times_28 : decode prog_14_method_38_code 28 = .ok (.goto 4, 3) := by decide +kernel
theorem d_Mo_times_31 : decode prog_14_method_38_code 31 = .ok (.iconst 0, 1) := by decide +kernel
theorem d_Mo_times_32 : decode prog_14_method_38_code 32 = .ok (.putfield 69, 3) := by decide +kernel
theorem d_Mo_times_35 : decode prog_14_method_38_code 35 = .ok (.aload_n 0, 1) := by decide +kernel
theorem d_Mo_times_36 : decode prog_14_method_38_code 36 = .ok (.getfield 69, 3) := by decide +kernel
theorem d_Mo_times_39 : decode prog_14_method_38_code 39 = .ok (.ifCond .le 7, 3) := by decide +kernel
theorem d_Mo_times_42 : decode prog_14_method_38_code 42 = .ok (.lconst 0, 1) := by decide +kernel
theorem d_Mo_times_43 : decode prog_14_method_38_code 43 = .ok (.goto 14, 3) := by decide +kernel
theorem d_Mo_times_46 : decode prog_14_method_38_code 46 = .ok (.aload_n 0, 1) := by decide +kernel
theorem d_Mo_times_47 : decode prog_14_method_38_code 47 = .ok (.getfield 41, 3) := by decide +kernel
theorem d_Mo_times_50 : decode prog_14_method_38_code 50 = .ok (.bipush 16, 2) := by decide +kernel
theorem d_Mo_times_52 : decode prog_14_method_38_code 52 = .ok (.iload_n 1, 1) := by decide +kernel
theorem d_Mo_times_53 : decode prog_14_method_38_code 53 = .ok (.imul, 1) := by decide +kernel
theorem d_Mo_times_54 : decode prog_14_method_38_code 54 = .ok (.iload_n 2, 1) := by decide +kernel
theorem d_Mo_times_55 : decode prog_14_method_38_code 55 = .ok (.iadd, 1) := by decide +kernel
theorem d_Mo_times_56 : decode prog_14_method_38_code 56 = .ok (.laload, 1) := by decide +kernel
theorem d_Mo_times_57 : decode prog_14_method_38_code 57 = .ok (.lreturn, 1) := by decide +kernel
theorem d_Mo_many_0 : decode prog_14_method_39_code 0 = .ok (.aload_n 0, 1) := by decide +kernel
theorem d_Mo_many_1 : decode prog_14_method_39_code 1 = .ok (.aload_n 0, 1) := by decide +kernel
theorem d_Mo_many_2 : decode prog_14_method_39_code 2 = .ok (.iload_n 1, 1) := by decide +kernel
theorem d_Mo_many_3 : decode prog_14_method_39_code 3 = .ok (.invokevirtual 145, 3) := by decide +kernel
theorem d_Mo_many_6 : decode prog_14_method_39_code 6 = .ok (.ifCond .eq 7, 3) := by decide +kernel
theorem d_Mo_many_9 : decode prog_14_method_39_code 9 = .ok (.iconst 0, 1) := by decide +kernel
theorem d_Mo_many_10 : decode prog_14_method_39_code 10 = .ok (.goto 4, 3) := by decide +kernel
theorem d_Mo_many_13 : decode prog_14_method_39_code 13 = .ok (.iconst 1, 1) := by decide +kernel
theorem d_Mo_many_14 : decode prog_14_method_39_code 14 = .ok (.putfield 69, 3) := by decide +kernel
theorem d_Mo_many_17 : decode prog_14_method_39_code 17 = .ok (.aload_n 0, 1) := by decide +kernel
theorem d_Mo_many_18 : decode prog_14_method_39_code 18 = .ok (.getfield 69, 3) := by decide +kernel
theorem d_Mo_many_21 : decode prog_14_method_39_code 21 = .ok (.ifCond .le 5, 3) := by decide +kernel
theorem d_Mo_many_24 : decode prog_14_method_39_code 24 = .ok (.lconst 0, 1) := by decide +kernel
theorem d_Mo_many_25 : decode prog_14_method_39_code 25 = .ok (.lreturn, 1) := by decide +kernel
theorem d_Mo_many_26 : decode prog_14_method_39_code 26 = .ok (.aload_n 0, 1) := by decide +kernel
theorem d_Mo_many_27 : decode prog_14_method_39_code 27 = .ok (.getfield 13, 3) := by decide +kernel
theorem d_Mo_many_30 : decode prog_14_method_39_code 30 = .ok (.iload_n 1, 1) := by decide +kernel
theorem d_Mo_many_31 : decode prog_14_method_39_code 31 = .ok (.iaload, 1) := by decide +kernel
theorem d_Mo_many_32 : decode prog_14_method_39_code 32 = .ok (.istore 6, 2) := by decide +kernel
theorem d_Mo_many_34 : decode prog_14_method_39_code 34 = .ok (.iconst 0, 1) := by decide +kernel
theorem d_Mo_many_35 : decode prog_14_method_39_code 35 = .ok (.istore 7, 2) := by decide +kernel
theorem d_Mo_many_37 : decode prog_14_method_39_code 37 = .ok (.iload 7, 2) := by decide +kernel
theorem d_Mo_many_39 : decode prog_14_method_39_code 39 = .ok (.aload_n 0, 1) := by decide +kernel
theorem d_Mo_many_40 : decode prog_14_method_39_code 40 = .ok (.getfield 38, 3) := by decide +kernel
theorem d_Mo_many_43 : decode prog_14_method_39_code 43 = .ok (.iload_n 1, 1) := by decide +kernel
theorem d_Mo_many_44 : decode prog_14_method_39_code 44 = .ok (.iaload, 1) := by decide +kernel
theorem d_Mo_many_45 : decode prog_14_method_39_code 45 = .ok (.if_icmp .ge 102, 3) := by decide +kernel
theorem d_Mo_many_48 : decode prog_14_method_39_code 48 = .ok (.aload_n 0, 1) := by decide +kernel
theorem d_Mo_many_49 : decode prog_14_method_39_code 49 = .ok (.iload_n 1, 1) := by decide +kernel
theorem d_Mo_many_50 : decode prog_14_method_39_code 50 = .ok (.iload 7, 2) := by decide +kernel
theorem d_Mo_many_52 : decode prog_14_method_39_code 52 = .ok (.iconst 0, 1) := by decide +kernel
theorem d_Mo_many_53 : decode prog_14_method_39_code 53 = .ok (.invokevirtual 83, 3) := by decide +kernel
theorem d_Mo_many_56 : decode prog_14_method_39_code 56 = .ok (.iload_n 2, 1) := by decide +kernel
theorem d_Mo_many_57 : decode prog_14_method_39_code 57 = .ok (.if_icmp .ne 63, 3) := by decide +kernel
theorem d_Mo_many_60 : decode prog_14_method_39_code 60 = .ok (.iload 6, 2) := by decide +kernel
theorem d_Mo_many_62 : decode prog_14_method_39_code 62 = .ok (.iconst 2, 1) := by decide +kernel
theorem d_Mo_many_63 : decode prog_14_method_39_code 63 = .ok (.if_icmp .lt 15, 3) := by decide +kernel
theorem d_Mo_many_66 : decode prog_14_method_39_code 66 = .ok (.aload_n 0, 1) := by decide +kernel
theorem d_Mo_many_67 : decode prog_14_method_39_code 67 = .ok (.iload_n 1, 1) := by decide +kernel
theorem d_Mo_many_68 : decode prog_14_method_39_code 68 = .ok (.iload 7, 2) := by decide +kernel
theorem d_Mo_many_70 : decode prog_14_method_39_code 70 = .ok (.iconst 1, 1) := by decide +kernel
theorem d_Mo_many_71 : decode prog_14_method_39_code 71 = .ok (.invokevirtual 83, 3) := by decide +kernel
theorem d_Mo_many_74 : decode prog_14_method_39_code 74 = .ok (.iload_n 3, 1) := by decide +kernel
theorem d_Mo_many_75 : decode prog_14_method_39_code 75 = .ok (.if_icmp .ne 45, 3) := by decide +kernel
theorem d_Mo_many_78 : decode prog_14_method_39_code 78 = .ok (.iload 6, 2) := by decide +kernel
theorem d_Mo_many_80 : decode prog_14_method_39_code 80 = .ok (.iconst 3, 1) := by decide +kernel
theorem d_Mo_many_81 : decode prog_14_method_39_code 81 = .ok (.if_icmp .lt 16, 3) := by decide +kernel
theorem d_Mo_many_84 : decode prog_14_method_39_code 84 = .ok (.aload_n 0, 1) := by decide +kernel
theorem d_Mo_many_85 : decode prog_14_method_39_code 85 = .ok (.iload_n 1, 1) := by decide +kernel
theorem d_Mo_many_86 : decode prog_14_method_39_code 86 = .ok (.iload 7, 2) := by decide +kernel
theorem d_Mo_many_88 : decode prog_14_method_39_code 88 = .ok (.iconst 2, 1) := by decide +kernel
theorem d_Mo_many_89 : decode prog_14_method_39_code 89 = .ok (.invokevirtual 83, 3) := by decide +kernel
theorem d_Mo_many_92 : decode prog_14_method_39_code 92 = .ok (.iload 4, 2) := by decide +kernel
theorem d_Mo_many_94 : decode prog_14_method_39_code 94 = .ok (.if_icmp .ne 26, 3) := by decide +kernel
theorem d_Mo_many_97 : decode prog_14_method_39_code 97 = .ok (.iload 6, 2) := by decide +kernel
theorem d_Mo_many_99 : decode prog_14_method_39_code 99 = .ok (.iconst 4, 1) := by decide +kernel
theorem d_Mo_many_100 : decode prog_14_method_39_code 100 = .ok (.if_icmp .lt 16, 3) := by decide +kernel
theorem d_Mo_many_103 : decode prog_14_method_39_code 103 = .ok (.aload_n 0, 1) := by decide +kernel
theorem d_Mo_many_104 : decode prog_14_method_39_code 104 = .ok (.iload_n 1, 1) := by decide +kernel
theorem d_Mo_many_105 : decode prog_14_method_39_code 105 = .ok (.iload 7, 2) := by decide +kernel
theorem d_Mo_many_107 : decode prog_14_method_39_code 107 = .ok (.iconst 3, 1) := by decide +kernel
theorem d_Mo_many_108 : decode prog_14_method_39_code 108 = .ok (.invokevirtual 83, 3) := by decide +kernel
theorem d_Mo_many_111 : decode prog_14_method_39_code 111 = .ok (.iload 5, 2) := by decide +kernel
theorem d_Mo_many_113 : decode prog_14_method_39_code 113 = .ok (.if_icmp .ne 7, 3) := by decide +kernel
theorem d_Mo_many_116 : decode prog_14_method_39_code 116 = .ok (.iconst 1, 1) := by decide +kernel
theorem d_Mo_many_117 : decode prog_14_method_39_code 117 = .ok (.goto 4, 3) := by decide +kernel
theorem d_Mo_many_120 : decode prog_14_method_39_code 120 = .ok (.iconst 0, 1) := by decide +kernel
theorem d_Mo_many_121 : decode prog_14_method_39_code 121 = .ok (.istore 8, 2) := by decide +kernel
theorem d_Mo_many_123 : decode prog_14_method_39_code 123 = .ok (.iload 8, 2) := by decide +kernel
theorem d_Mo_many_125 : decode prog_14_method_39_code 125 = .ok (.ifCond .eq 16, 3) := by decide +kernel
theorem d_Mo_many_128 : decode prog_14_method_39_code 128 = .ok (.aload_n 0, 1) := by decide +kernel
theorem d_Mo_many_129 : decode prog_14_method_39_code 129 = .ok (.getfield 41, 3) := by decide +kernel
theorem d_Mo_many_132 : decode prog_14_method_39_code 132 = .ok (.bipush 16, 2) := by decide +kernel
theorem d_Mo_many_134 : decode prog_14_method_39_code 134 = .ok (.iload_n 1, 1) := by decide +kernel
theorem d_Mo_many_135 : decode prog_14_method_39_code 135 = .ok (.imul, 1) := by decide +kernel
theorem d_Mo_many_136 : decode prog_14_method_39_code 136 = .ok (.iload 7, 2) := by decide +kernel
theorem d_Mo_many_138 : decode prog_14_method_39_code 138 = .ok (.iadd, 1) := by decide +kernel
theorem d_Mo_many_139 : decode prog_14_method_39_code 139 = .ok (.laload, 1) := by decide +kernel
theorem d_Mo_many_140 : decode prog_14_method_39_code 140 = .ok (.lreturn, 1) := by decide +kernel
theorem d_Mo_many_141 : decode prog_14_method_39_code 141 = .ok (.iinc 7 1, 3) := by decide +kernel
theorem d_Mo_many_144 : decode prog_14_method_39_code 144 = .ok (.goto (-107), 3) := by decide +kernel
theorem d_Mo_many_147 : decode prog_14_method_39_code 147 = .ok (.lconst 0, 1) := by decide +kernel
theorem d_Mo_many_148 : decode prog_14_method_39_code 148 = .ok (.lreturn, 1) := by decide +kernel
theorem d_Mo_moved_0 : decode prog_14_method_40_code 0 = .ok (.aload_n 0, 1) := by decide +kernel
theorem d_Mo_moved_1 : decode prog_14_method_40_code 1 = .ok (.aload_n 0, 1) := by decide +kernel
theorem d_Mo_moved_2 : decode prog_14_method_40_code 2 = .ok (.iload_n 1, 1) := by decide +kernel
theorem d_Mo_moved_3 : decode prog_14_method_40_code 3 = .ok (.invokevirtual 145, 3) := by decide +kernel
theorem d_Mo_moved_6 : decode prog_14_method_40_code 6 = .ok (.ifCond .eq 7, 3) := by decide +kernel
theorem d_Mo_moved_9 : decode prog_14_method_40_code 9 = .ok (.iconst 0, 1) := by decide +kernel
theorem d_Mo_moved_10 : decode prog_14_method_40_code 10 = .ok (.goto 4, 3) := by decide +kernel
theorem d_Mo_moved_13 : decode prog_14_method_40_code 13 = .ok (.iconst 1, 1) := by decide +kernel
theorem d_Mo_moved_14 : decode prog_14_method_40_code 14 = .ok (.putfield 69, 3) := by decide +kernel
theorem d_Mo_moved_17 : decode prog_14_method_40_code 17 = .ok (.aload_n 0, 1) := by decide +kernel
theorem d_Mo_moved_18 : decode prog_14_method_40_code 18 = .ok (.getfield 69, 3) := by decide +kernel
theorem d_Mo_moved_21 : decode prog_14_method_40_code 21 = .ok (.ifCond .le 7, 3) := by decide +kernel
theorem d_Mo_moved_24 : decode prog_14_method_40_code 24 = .ok (.iconst 0, 1) := by decide +kernel
theorem d_Mo_moved_25 : decode prog_14_method_40_code 25 = .ok (.goto 9, 3) := by decide +kernel
theorem d_Mo_moved_28 : decode prog_14_method_40_code 28 = .ok (.aload_n 0, 1) := by decide +kernel
theorem d_Mo_moved_29 : decode prog_14_method_40_code 29 = .ok (.getfield 35, 3) := by decide +kernel
theorem d_Mo_moved_32 : decode prog_14_method_40_code 32 = .ok (.iload_n 1, 1) := by decide +kernel
theorem d_Mo_moved_33 : decode prog_14_method_40_code 33 = .ok (.iaload, 1) := by decide +kernel
theorem d_Mo_moved_34 : decode prog_14_method_40_code 34 = .ok (.ireturn, 1) := by decide +kernel
end
section
theorem d_Law_change_0 : decode method_3_code 0 = .ok (.aload 5, 2) := by decide +kernel
theorem d_Law_change_2 : decode method_3_code 2 = .ok (.iconst 0, 1) := by decide +kernel
theorem d_Law_change_3 : decode method_3_code 3 = .ok (.aload_n 0, 1) := by decide +kernel
theorem d_Law_change_4 : decode method_3_code 4 = .ok (.iload_n 1, 1) := by decide +kernel
theorem d_Law_change_5 : decode method_3_code 5 = .ok (.iload_n 2, 1) := by decide +kernel
theorem d_Law_change_6 : decode method_3_code 6 = .ok (.iload_n 3, 1) := by decide +kernel
theorem d_Law_change_7 : decode method_3_code 7 = .ok (.iload 4, 2) := by decide +kernel
theorem d_Law_change_9 : decode method_3_code 9 = .ok (.invokevirtual 7, 3) := by decide +kernel
theorem d_Law_change_12 : decode method_3_code 12 = .ok (.i2l, 1) := by decide +kernel
theorem d_Law_change_13 : decode method_3_code 13 = .ok (.lastore, 1) := by decide +kernel
theorem d_Law_change_14 : decode method_3_code 14 = .ok (.goto 15, 3) := by decide +kernel
theorem d_Law_change_17 : decode method_3_code 17 = .ok (.astore 6, 2) := by decide +kernel
theorem d_Law_change_19 : decode method_3_code 19 = .ok (.iconst 1, 1) := by decide +kernel
theorem d_Law_change_20 : decode method_3_code 20 = .ok (.ireturn, 1) := by decide +kernel
theorem d_Law_change_21 : decode method_3_code 21 = .ok (.astore 6, 2) := by decide +kernel
theorem d_Law_change_23 : decode method_3_code 23 = .ok (.iconst 2, 1) := by decide +kernel
theorem d_Law_change_24 : decode method_3_code 24 = .ok (.ireturn, 1) := by decide +kernel
theorem d_Law_change_25 : decode method_3_code 25 = .ok (.astore 6, 2) := by decide +kernel
theorem d_Law_change_27 : decode method_3_code 27 = .ok (.iconst 3, 1) := by decide +kernel
theorem d_Law_change_28 : decode method_3_code 28 = .ok (.ireturn, 1) := by decide +kernel
theorem d_Law_change_29 : decode method_3_code 29 = .ok (.iconst 0, 1) := by decide +kernel
theorem d_Law_change_30 : decode method_3_code 30 = .ok (.ireturn, 1) := by decide +kernel
theorem d_Law_commit_0 : decode method_4_code 0 = .ok (.aload_n 1, 1) := by decide +kernel
theorem d_Law_commit_1 : decode method_4_code 1 = .ok (.iconst 0, 1) := by decide +kernel
theorem d_Law_commit_2 : decode method_4_code 2 = .ok (.aload_n 0, 1) := by decide +kernel
theorem d_Law_commit_3 : decode method_4_code 3 = .ok (.invokevirtual 19, 3) := by decide +kernel
theorem d_Law_commit_6 : decode method_4_code 6 = .ok (.i2l, 1) := by decide +kernel
theorem d_Law_commit_7 : decode method_4_code 7 = .ok (.lastore, 1) := by decide +kernel
theorem d_Law_commit_8 : decode method_4_code 8 = .ok (.goto 6, 3) := by decide +kernel
theorem d_Law_commit_11 : decode method_4_code 11 = .ok (.astore_n 2, 1) := by decide +kernel
theorem d_Law_commit_12 : decode method_4_code 12 = .ok (.iconst 1, 1) := by decide +kernel
theorem d_Law_commit_13 : decode method_4_code 13 = .ok (.ireturn, 1) := by decide +kernel
theorem d_Law_commit_14 : decode method_4_code 14 = .ok (.iconst 0, 1) := by decide +kernel
theorem d_Law_commit_15 : decode method_4_code 15 = .ok (.ireturn, 1) := by decide +kernel
theorem d_Law_select_0 : decode method_5_code 0 = .ok (.aload 5, 2) := by decide +kernel
theorem d_Law_select_2 : decode method_5_code 2 = .ok (.iconst 0, 1) := by decide +kernel
theorem d_Law_select_3 : decode method_5_code 3 = .ok (.aload_n 0, 1) := by decide +kernel
theorem d_Law_select_4 : decode method_5_code 4 = .ok (.iload_n 1, 1) := by decide +kernel
theorem d_Law_select_5 : decode method_5_code 5 = .ok (.iload_n 2, 1) := by decide +kernel
theorem d_Law_select_6 : decode method_5_code 6 = .ok (.iload_n 3, 1) := by decide +kernel
theorem d_Law_select_7 : decode method_5_code 7 = .ok (.iload 4, 2) := by decide +kernel
theorem d_Law_select_9 : decode method_5_code 9 = .ok (.invokevirtual 23, 3) := by decide +kernel
theorem d_Law_select_12 : decode method_5_code 12 = .ok (.i2l, 1) := by decide +kernel
theorem d_Law_select_13 : decode method_5_code 13 = .ok (.lastore, 1) := by decide +kernel
theorem d_Law_select_14 : decode method_5_code 14 = .ok (.goto 15, 3) := by decide +kernel
theorem d_Law_select_17 : decode method_5_code 17 = .ok (.astore 6, 2) := by decide +kernel
theorem d_Law_select_19 : decode method_5_code 19 = .ok (.iconst 1, 1) := by decide +kernel
theorem d_Law_select_20 : decode method_5_code 20 = .ok (.ireturn, 1) := by decide +kernel
theorem d_Law_select_21 : decode method_5_code 21 = .ok (.astore 6, 2) := by decide +kernel
theorem d_Law_select_23 : decode method_5_code 23 = .ok (.iconst 2, 1) := by decide +kernel
theorem d_Law_select_24 : decode method_5_code 24 = .ok (.ireturn, 1) := by decide +kernel
theorem d_Law_select_25 : decode method_5_code 25 = .ok (.astore 6, 2) := by decide +kernel
theorem d_Law_select_27 : decode method_5_code 27 = .ok (.iconst 3, 1) := by decide +kernel
theorem d_Law_select_28 : decode method_5_code 28 = .ok (.ireturn, 1) := by decide +kernel
theorem d_Law_select_29 : decode method_5_code 29 = .ok (.iconst 0, 1) := by decide +kernel
theorem d_Law_select_30 : decode method_5_code 30 = .ok (.ireturn, 1) := by decide +kernel
theorem d_Law_project_0 : decode method_6_code 0 = .ok (.aload 4, 2) := by decide +kernel
theorem d_Law_project_2 : decode method_6_code 2 = .ok (.iconst 0, 1) := by decide +kernel
theorem d_Law_project_3 : decode method_6_code 3 = .ok (.aload_n 0, 1) := by decide +kernel
theorem d_Law_project_4 : decode method_6_code 4 = .ok (.iload_n 1, 1) := by decide +kernel
theorem d_Law_project_5 : decode method_6_code 5 = .ok (.iload_n 2, 1) := by decide +kernel
theorem d_Law_project_6 : decode method_6_code 6 = .ok (.iload_n 3, 1) := by decide +kernel
theorem d_Law_project_7 : decode method_6_code 7 = .ok (.invokevirtual 26, 3) := by decide +kernel
theorem d_Law_project_10 : decode method_6_code 10 = .ok (.i2l, 1) := by decide +kernel
theorem d_Law_project_11 : decode method_6_code 11 = .ok (.lastore, 1) := by decide +kernel
theorem d_Law_project_12 : decode method_6_code 12 = .ok (.goto 15, 3) := by decide +kernel
theorem d_Law_project_15 : decode method_6_code 15 = .ok (.astore 5, 2) := by decide +kernel
theorem d_Law_project_17 : decode method_6_code 17 = .ok (.iconst 1, 1) := by decide +kernel
theorem d_Law_project_18 : decode method_6_code 18 = .ok (.ireturn, 1) := by decide +kernel
theorem d_Law_project_19 : decode method_6_code 19 = .ok (.astore 5, 2) := by decide +kernel
theorem d_Law_project_21 : decode method_6_code 21 = .ok (.iconst 2, 1) := by decide +kernel
theorem d_Law_project_22 : decode method_6_code 22 = .ok (.ireturn, 1) := by decide +kernel
theorem d_Law_project_23 : decode method_6_code 23 = .ok (.astore 5, 2) := by decide +kernel
theorem d_Law_project_25 : decode method_6_code 25 = .ok (.iconst 3, 1) := by decide +kernel
theorem d_Law_project_26 : decode method_6_code 26 = .ok (.ireturn, 1) := by decide +kernel
theorem d_Law_project_27 : decode method_6_code 27 = .ok (.iconst 0, 1) := by decide +kernel
theorem d_Law_project_28 : decode method_6_code 28 = .ok (.ireturn, 1) := by decide +kernel
theorem d_Law_join_0 : decode method_7_code 0 = .ok (.aload 5, 2) := by decide +kernel
theorem d_Law_join_2 : decode method_7_code 2 = .ok (.iconst 0, 1) := by decide +kernel
theorem d_Law_join_3 : decode method_7_code 3 = .ok (.aload_n 0, 1) := by decide +kernel
theorem d_Law_join_4 : decode method_7_code 4 = .ok (.iload_n 1, 1) := by decide +kernel
theorem d_Law_join_5 : decode method_7_code 5 = .ok (.iload_n 2, 1) := by decide +kernel
theorem d_Law_join_6 : decode method_7_code 6 = .ok (.iload_n 3, 1) := by decide +kernel
theorem d_Law_join_7 : decode method_7_code 7 = .ok (.iload 4, 2) := by decide +kernel
theorem d_Law_join_9 : decode method_7_code 9 = .ok (.invokevirtual 30, 3) := by decide +kernel
theorem d_Law_join_12 : decode method_7_code 12 = .ok (.i2l, 1) := by decide +kernel
theorem d_Law_join_13 : decode method_7_code 13 = .ok (.lastore, 1) := by decide +kernel
theorem d_Law_join_14 : decode method_7_code 14 = .ok (.goto 15, 3) := by decide +kernel
theorem d_Law_join_17 : decode method_7_code 17 = .ok (.astore 6, 2) := by decide +kernel
theorem d_Law_join_19 : decode method_7_code 19 = .ok (.iconst 1, 1) := by decide +kernel
theorem d_Law_join_20 : decode method_7_code 20 = .ok (.ireturn, 1) := by decide +kernel
theorem d_Law_join_21 : decode method_7_code 21 = .ok (.astore 6, 2) := by decide +kernel
theorem d_Law_join_23 : decode method_7_code 23 = .ok (.iconst 2, 1) := by decide +kernel
theorem d_Law_join_24 : decode method_7_code 24 = .ok (.ireturn, 1) := by decide +kernel
theorem d_Law_join_25 : decode method_7_code 25 = .ok (.astore 6, 2) := by decide +kernel
theorem d_Law_join_27 : decode method_7_code 27 = .ok (.iconst 3, 1) := by decide +kernel
theorem d_Law_join_28 : decode method_7_code 28 = .ok (.ireturn, 1) := by decide +kernel
theorem d_Law_join_29 : decode method_7_code 29 = .ok (.iconst 0, 1) := by decide +kernel
theorem d_Law_join_30 : decode method_7_code 30 = .ok (.ireturn, 1) := by decide +kernel
theorem d_Law_union_0 : decode method_8_code 0 = .ok (.aload_n 3, 1) := by decide +kernel
theorem d_Law_union_1 : decode method_8_code 1 = .ok (.iconst 0, 1) := by decide +kernel
theorem d_Law_union_2 : decode method_8_code 2 = .ok (.aload_n 0, 1) := by decide +kernel
theorem d_Law_union_3 : decode method_8_code 3 = .ok (.iload_n 1, 1) := by decide +kernel
theorem d_Law_union_4 : decode method_8_code 4 = .ok (.iload_n 2, 1) := by decide +kernel
theorem d_Law_union_5 : decode method_8_code 5 = .ok (.invokevirtual 33, 3) := by decide +kernel
theorem d_Law_union_8 : decode method_8_code 8 = .ok (.i2l, 1) := by decide +kernel
theorem d_Law_union_9 : decode method_8_code 9 = .ok (.lastore, 1) := by decide +kernel
theorem d_Law_union_10 : decode method_8_code 10 = .ok (.goto 15, 3) := by decide +kernel
theorem d_Law_union_13 : decode method_8_code 13 = .ok (.astore 4, 2) := by decide +kernel
theorem d_Law_union_15 : decode method_8_code 15 = .ok (.iconst 1, 1) := by decide +kernel
theorem d_Law_union_16 : decode method_8_code 16 = .ok (.ireturn, 1) := by decide +kernel
theorem d_Law_union_17 : decode method_8_code 17 = .ok (.astore 4, 2) := by decide +kernel
theorem d_Law_union_19 : decode method_8_code 19 = .ok (.iconst 2, 1) := by decide +kernel
theorem d_Law_union_20 : decode method_8_code 20 = .ok (.ireturn, 1) := by decide +kernel
theorem d_Law_union_21 : decode method_8_code 21 = .ok (.astore 4, 2) := by decide +kernel
theorem d_Law_union_23 : decode method_8_code 23 = .ok (.iconst 3, 1) := by decide +kernel
theorem d_Law_union_24 : decode method_8_code 24 = .ok (.ireturn, 1) := by decide +kernel
theorem d_Law_union_25 : decode method_8_code 25 = .ok (.iconst 0, 1) := by decide +kernel
theorem d_Law_union_26 : decode method_8_code 26 = .ok (.ireturn, 1) := by decide +kernel
theorem d_Law_group_0 : decode method_9_code 0 = .ok (.aload 5, 2) := by decide +kernel
theorem d_Law_group_2 : decode method_9_code 2 = .ok (.iconst 0, 1) := by decide +kernel
theorem d_Law_group_3 : decode method_9_code 3 = .ok (.aload_n 0, 1) := by decide +kernel
theorem d_Law_group_4 : decode method_9_code 4 = .ok (.iload_n 1, 1) := by decide +kernel
theorem d_Law_group_5 : decode method_9_code 5 = .ok (.iload_n 2, 1) := by decide +kernel
theorem d_Law_group_6 : decode method_9_code 6 = .ok (.iload_n 3, 1) := by decide +kernel
theorem d_Law_group_7 : decode method_9_code 7 = .ok (.iload 4, 2) := by decide +kernel
theorem d_Law_group_9 : decode method_9_code 9 = .ok (.invokevirtual 37, 3) := by decide +kernel
theorem d_Law_group_12 : decode method_9_code 12 = .ok (.i2l, 1) := by decide +kernel
theorem d_Law_group_13 : decode method_9_code 13 = .ok (.lastore, 1) := by decide +kernel
theorem d_Law_group_14 : decode method_9_code 14 = .ok (.goto 15, 3) := by decide +kernel
theorem d_Law_group_17 : decode method_9_code 17 = .ok (.astore 6, 2) := by decide +kernel
theorem d_Law_group_19 : decode method_9_code 19 = .ok (.iconst 1, 1) := by decide +kernel
theorem d_Law_group_20 : decode method_9_code 20 = .ok (.ireturn, 1) := by decide +kernel
theorem d_Law_group_21 : decode method_9_code 21 = .ok (.astore 6, 2) := by decide +kernel
theorem d_Law_group_23 : decode method_9_code 23 = .ok (.iconst 2, 1) := by decide +kernel
theorem d_Law_group_24 : decode method_9_code 24 = .ok (.ireturn, 1) := by decide +kernel
theorem d_Law_group_25 : decode method_9_code 25 = .ok (.astore 6, 2) := by decide +kernel
theorem d_Law_group_27 : decode method_9_code 27 = .ok (.iconst 3, 1) := by decide +kernel
theorem d_Law_group_28 : decode method_9_code 28 = .ok (.ireturn, 1) := by decide +kernel
theorem d_Law_group_29 : decode method_9_code 29 = .ok (.iconst 0, 1) := by decide +kernel
theorem d_Law_group_30 : decode method_9_code 30 = .ok (.ireturn, 1) := by decide +kernel
theorem d_Law_distinct_0 : decode method_10_code 0 = .ok (.aload_n 2, 1) := by decide +kernel
theorem d_Law_distinct_1 : decode method_10_code 1 = .ok (.iconst 0, 1) := by decide +kernel
theorem d_Law_distinct_2 : decode method_10_code 2 = .ok (.aload_n 0, 1) := by decide +kernel
theorem d_Law_distinct_3 : decode method_10_code 3 = .ok (.iload_n 1, 1) := by decide +kernel
theorem d_Law_distinct_4 : decode method_10_code 4 = .ok (.invokevirtual 40, 3) := by decide +kernel
theorem d_Law_distinct_7 : decode method_10_code 7 = .ok (.i2l, 1) := by decide +kernel
theorem d_Law_distinct_8 : decode method_10_code 8 = .ok (.lastore, 1) := by decide +kernel
theorem d_Law_distinct_9 : decode method_10_code 9 = .ok (.goto 9, 3) := by decide +kernel
theorem d_Law_distinct_12 : decode method_10_code 12 = .ok (.astore_n 3, 1) := by decide +kernel
theorem d_Law_distinct_13 : decode method_10_code 13 = .ok (.iconst 1, 1) := by decide +kernel
theorem d_Law_distinct_14 : decode method_10_code 14 = .ok (.ireturn, 1) := by decide +kernel
theorem d_Law_distinct_15 : decode method_10_code 15 = .ok (.astore_n 3, 1) := by decide +kernel
theorem d_Law_distinct_16 : decode method_10_code 16 = .ok (.iconst 2, 1) := by decide +kernel
theorem d_Law_distinct_17 : decode method_10_code 17 = .ok (.ireturn, 1) := by decide +kernel
theorem d_Law_distinct_18 : decode method_10_code 18 = .ok (.iconst 0, 1) := by decide +kernel
theorem d_Law_distinct_19 : decode method_10_code 19 = .ok (.ireturn, 1) := by decide +kernel
theorem d_Law_drop_0 : decode method_11_code 0 = .ok (.aload_n 1, 1) := by decide +kernel
theorem d_Law_drop_1 : decode method_11_code 1 = .ok (.iconst 0, 1) := by decide +kernel
theorem d_Law_drop_2 : decode method_11_code 2 = .ok (.aload_n 0, 1) := by decide +kernel
theorem d_Law_drop_3 : decode method_11_code 3 = .ok (.invokevirtual 44, 3) := by decide +kernel
theorem d_Law_drop_6 : decode method_11_code 6 = .ok (.i2l, 1) := by decide +kernel
theorem d_Law_drop_7 : decode method_11_code 7 = .ok (.lastore, 1) := by decide +kernel
theorem d_Law_drop_8 : decode method_11_code 8 = .ok (.goto 6, 3) := by decide +kernel
theorem d_Law_drop_11 : decode method_11_code 11 = .ok (.astore_n 2, 1) := by decide +kernel
theorem d_Law_drop_12 : decode method_11_code 12 = .ok (.iconst 1, 1) := by decide +kernel
theorem d_Law_drop_13 : decode method_11_code 13 = .ok (.ireturn, 1) := by decide +kernel
theorem d_Law_drop_14 : decode method_11_code 14 = .ok (.iconst 0, 1) := by decide +kernel
theorem d_Law_drop_15 : decode method_11_code 15 = .ok (.ireturn, 1) := by decide +kernel
theorem d_Law_width_0 : decode method_12_code 0 = .ok (.aload_n 2, 1) := by decide +kernel
theorem d_Law_width_1 : decode method_12_code 1 = .ok (.iconst 0, 1) := by decide +kernel
theorem d_Law_width_2 : decode method_12_code 2 = .ok (.aload_n 0, 1) := by decide +kernel
theorem d_Law_width_3 : decode method_12_code 3 = .ok (.iload_n 1, 1) := by decide +kernel
theorem d_Law_width_4 : decode method_12_code 4 = .ok (.invokevirtual 47, 3) := by decide +kernel
theorem d_Law_width_7 : decode method_12_code 7 = .ok (.i2l, 1) := by decide +kernel
theorem d_Law_width_8 : decode method_12_code 8 = .ok (.lastore, 1) := by decide +kernel
theorem d_Law_width_9 : decode method_12_code 9 = .ok (.goto 6, 3) := by decide +kernel
theorem d_Law_width_12 : decode method_12_code 12 = .ok (.astore_n 3, 1) := by decide +kernel
theorem d_Law_width_13 : decode method_12_code 13 = .ok (.iconst 1, 1) := by decide +kernel
theorem d_Law_width_14 : decode method_12_code 14 = .ok (.ireturn, 1) := by decide +kernel
theorem d_Law_width_15 : decode method_12_code 15 = .ok (.iconst 0, 1) := by decide +kernel
theorem d_Law_width_16 : decode method_12_code 16 = .ok (.ireturn, 1) := by decide +kernel
theorem d_Law_rows_0 : decode method_13_code 0 = .ok (.aload_n 2, 1) := by decide +kernel
theorem d_Law_rows_1 : decode method_13_code 1 = .ok (.iconst 0, 1) := by decide +kernel
theorem d_Law_rows_2 : decode method_13_code 2 = .ok (.aload_n 0, 1) := by decide +kernel
theorem d_Law_rows_3 : decode method_13_code 3 = .ok (.iload_n 1, 1) := by decide +kernel
theorem d_Law_rows_4 : decode method_13_code 4 = .ok (.invokevirtual 50, 3) := by decide +kernel
theorem d_Law_rows_7 : decode method_13_code 7 = .ok (.i2l, 1) := by decide +kernel
theorem d_Law_rows_8 : decode method_13_code 8 = .ok (.lastore, 1) := by decide +kernel
theorem d_Law_rows_9 : decode method_13_code 9 = .ok (.goto 6, 3) := by decide +kernel
theorem d_Law_rows_12 : decode method_13_code 12 = .ok (.astore_n 3, 1) := by decide +kernel
theorem d_Law_rows_13 : decode method_13_code 13 = .ok (.iconst 1, 1) := by decide +kernel
theorem d_Law_rows_14 : decode method_13_code 14 = .ok (.ireturn, 1) := by decide +kernel
theorem d_Law_rows_15 : decode method_13_code 15 = .ok (.iconst 0, 1) := by decide +kernel
theorem d_Law_rows_16 : decode method_13_code 16 = .ok (.ireturn, 1) := by decide +kernel
theorem d_Law_cell_0 : decode method_14_code 0 = .ok (.aload 4, 2) := by decide +kernel
theorem d_Law_cell_2 : decode method_14_code 2 = .ok (.iconst 0, 1) := by decide +kernel
theorem d_Law_cell_3 : decode method_14_code 3 = .ok (.aload_n 0, 1) := by decide +kernel
theorem d_Law_cell_4 : decode method_14_code 4 = .ok (.iload_n 1, 1) := by decide +kernel
theorem d_Law_cell_5 : decode method_14_code 5 = .ok (.iload_n 2, 1) := by decide +kernel
theorem d_Law_cell_6 : decode method_14_code 6 = .ok (.iload_n 3, 1) := by decide +kernel
theorem d_Law_cell_7 : decode method_14_code 7 = .ok (.invokevirtual 53, 3) := by decide +kernel
theorem d_Law_cell_10 : decode method_14_code 10 = .ok (.i2l, 1) := by decide +kernel
theorem d_Law_cell_11 : decode method_14_code 11 = .ok (.lastore, 1) := by decide +kernel
theorem d_Law_cell_12 : decode method_14_code 12 = .ok (.goto 11, 3) := by decide +kernel
theorem d_Law_cell_15 : decode method_14_code 15 = .ok (.astore 5, 2) := by decide +kernel
theorem d_Law_cell_17 : decode method_14_code 17 = .ok (.iconst 1, 1) := by decide +kernel
theorem d_Law_cell_18 : decode method_14_code 18 = .ok (.ireturn, 1) := by decide +kernel
theorem d_Law_cell_19 : decode method_14_code 19 = .ok (.astore 5, 2) := by decide +kernel
theorem d_Law_cell_21 : decode method_14_code 21 = .ok (.iconst 2, 1) := by decide +kernel
theorem d_Law_cell_22 : decode method_14_code 22 = .ok (.ireturn, 1) := by decide +kernel
theorem d_Law_cell_23 : decode method_14_code 23 = .ok (.iconst 0, 1) := by decide +kernel
theorem d_Law_cell_24 : decode method_14_code 24 = .ok (.ireturn, 1) := by decide +kernel
theorem d_Law_times_0 : decode method_15_code 0 = .ok (.aload_n 3, 1) := by decide +kernel
theorem d_Law_times_1 : decode method_15_code 1 = .ok (.iconst 0, 1) := by decide +kernel
theorem d_Law_times_2 : decode method_15_code 2 = .ok (.aload_n 0, 1) := by decide +kernel
theorem d_Law_times_3 : decode method_15_code 3 = .ok (.iload_n 1, 1) := by decide +kernel
theorem d_Law_times_4 : decode method_15_code 4 = .ok (.iload_n 2, 1) := by decide +kernel
theorem d_Law_times_5 : decode method_15_code 5 = .ok (.invokevirtual 58, 3) := by decide +kernel
theorem d_Law_times_8 : decode method_15_code 8 = .ok (.lastore, 1) := by decide +kernel
theorem d_Law_times_9 : decode method_15_code 9 = .ok (.goto 11, 3) := by decide +kernel
theorem d_Law_times_12 : decode method_15_code 12 = .ok (.astore 4, 2) := by decide +kernel
theorem d_Law_times_14 : decode method_15_code 14 = .ok (.iconst 1, 1) := by decide +kernel
theorem d_Law_times_15 : decode method_15_code 15 = .ok (.ireturn, 1) := by decide +kernel
theorem d_Law_times_16 : decode method_15_code 16 = .ok (.astore 4, 2) := by decide +kernel
theorem d_Law_times_18 : decode method_15_code 18 = .ok (.iconst 2, 1) := by decide +kernel
theorem d_Law_times_19 : decode method_15_code 19 = .ok (.ireturn, 1) := by decide +kernel
theorem d_Law_times_20 : decode method_15_code 20 = .ok (.iconst 0, 1) := by decide +kernel
theorem d_Law_times_21 : decode method_15_code 21 = .ok (.ireturn, 1) := by decide +kernel
theorem d_Law_many_0 : decode method_16_code 0 = .ok (.aload 6, 2) := by decide +kernel
theorem d_Law_many_2 : decode method_16_code 2 = .ok (.iconst 0, 1) := by decide +kernel
theorem d_Law_many_3 : decode method_16_code 3 = .ok (.aload_n 0, 1) := by decide +kernel
theorem d_Law_many_4 : decode method_16_code 4 = .ok (.iload_n 1, 1) := by decide +kernel
theorem d_Law_many_5 : decode method_16_code 5 = .ok (.iload_n 2, 1) := by decide +kernel
theorem d_Law_many_6 : decode method_16_code 6 = .ok (.iload_n 3, 1) := by decide +kernel
theorem d_Law_many_7 : decode method_16_code 7 = .ok (.iload 4, 2) := by decide +kernel
theorem d_Law_many_9 : decode method_16_code 9 = .ok (.iload 5, 2) := by decide +kernel
theorem d_Law_many_11 : decode method_16_code 11 = .ok (.invokevirtual 62, 3) := by decide +kernel
theorem d_Law_many_14 : decode method_16_code 14 = .ok (.lastore, 1) := by decide +kernel
theorem d_Law_many_15 : decode method_16_code 15 = .ok (.goto 7, 3) := by decide +kernel
theorem d_Law_many_18 : decode method_16_code 18 = .ok (.astore 7, 2) := by decide +kernel
theorem d_Law_many_20 : decode method_16_code 20 = .ok (.iconst 1, 1) := by decide +kernel
theorem d_Law_many_21 : decode method_16_code 21 = .ok (.ireturn, 1) := by decide +kernel
theorem d_Law_many_22 : decode method_16_code 22 = .ok (.iconst 0, 1) := by decide +kernel
theorem d_Law_many_23 : decode method_16_code 23 = .ok (.ireturn, 1) := by decide +kernel
theorem d_Law_moved_0 : decode method_17_code 0 = .ok (.aload_n 2, 1) := by decide +kernel
theorem d_Law_moved_1 : decode method_17_code 1 = .ok (.iconst 0, 1) := by decide +kernel
theorem d_Law_moved_2 : decode method_17_code 2 = .ok (.aload_n 0, 1) := by decide +kernel
theorem d_Law_moved_3 : decode method_17_code 3 = .ok (.iload_n 1, 1) := by decide +kernel
theorem d_Law_moved_4 : decode method_17_code 4 = .ok (.invokevirtual 66, 3) := by decide +kernel
theorem d_Law_moved_7 : decode method_17_code 7 = .ok (.i2l, 1) := by decide +kernel
theorem d_Law_moved_8 : decode method_17_code 8 = .ok (.lastore, 1) := by decide +kernel
theorem d_Law_moved_9 : decode method_17_code 9 = .ok (.goto 6, 3) := by decide +kernel
theorem d_Law_moved_12 : decode method_17_code 12 = .ok (.astore_n 3, 1) := by decide +kernel
theorem d_Law_moved_13 : decode method_17_code 13 = .ok (.iconst 1, 1) := by decide +kernel
theorem d_Law_moved_14 : decode method_17_code 14 = .ok (.ireturn, 1) := by decide +kernel
theorem d_Law_moved_15 : decode method_17_code 15 = .ok (.iconst 0, 1) := by decide +kernel
theorem d_Law_moved_16 : decode method_17_code 16 = .ok (.ireturn, 1) := by decide +kernel
theorem d_Law_law_0 : decode code 0 = .ok (.new 8, 3) := by decide +kernel
theorem d_Law_law_3 : decode code 3 = .ok (.dup, 1) := by decide +kernel
theorem d_Law_law_4 : decode code 4 = .ok (.invokespecial 69, 3) := by decide +kernel
theorem d_Law_law_7 : decode code 7 = .ok (.astore_n 1, 1) := by decide +kernel
theorem d_Law_law_8 : decode code 8 = .ok (.new 70, 3) := by decide +kernel
theorem d_Law_law_11 : decode code 11 = .ok (.dup, 1) := by decide +kernel
theorem d_Law_law_12 : decode code 12 = .ok (.invokespecial 72, 3) := by decide +kernel
theorem d_Law_law_15 : decode code 15 = .ok (.astore_n 2, 1) := by decide +kernel
theorem d_Law_law_16 : decode code 16 = .ok (.iconst 1, 1) := by decide +kernel
theorem d_Law_law_17 : decode code 17 = .ok (.newarray .long, 2) := by decide +kernel
theorem d_Law_law_19 : decode code 19 = .ok (.astore_n 3, 1) := by decide +kernel
theorem d_Law_law_20 : decode code 20 = .ok (.iconst 0, 1) := by decide +kernel
theorem d_Law_law_21 : decode code 21 = .ok (.istore 4, 2) := by decide +kernel
theorem d_Law_law_23 : decode code 23 = .ok (.iload 4, 2) := by decide +kernel
theorem d_Law_law_25 : decode code 25 = .ok (.aload_n 0, 1) := by decide +kernel
theorem d_Law_law_26 : decode code 26 = .ok (.arraylength, 1) := by decide +kernel
theorem d_Law_law_27 : decode code 27 = .ok (.bipush 6, 2) := by decide +kernel
theorem d_Law_law_29 : decode code 29 = .ok (.isub, 1) := by decide +kernel
theorem d_Law_law_30 : decode code 30 = .ok (.if_icmp .gt 1187, 3) := by decide +kernel
theorem d_Law_law_33 : decode code 33 = .ok (.aload_n 0, 1) := by decide +kernel
theorem d_Law_law_34 : decode code 34 = .ok (.iload 4, 2) := by decide +kernel
theorem d_Law_law_36 : decode code 36 = .ok (.iaload, 1) := by decide +kernel
theorem d_Law_law_37 : decode code 37 = .ok (.bipush 15, 2) := by decide +kernel
theorem d_Law_law_39 : decode code 39 = .ok (.iand, 1) := by decide +kernel
theorem d_Law_law_40 : decode code 40 = .ok (.tableswitch 1171 0 15 #[80, 172, 185, 229, 321, 401, 493, 561, 653, 709, 753, 809, 865, 945, 1012, 1115], 80) := by decide +kernel
theorem d_Law_law_120 : decode code 120 = .ok (.aload_n 1, 1) := by decide +kernel
theorem d_Law_law_121 : decode code 121 = .ok (.aload_n 0, 1) := by decide +kernel
theorem d_Law_law_122 : decode code 122 = .ok (.iload 4, 2) := by decide +kernel
theorem d_Law_law_124 : decode code 124 = .ok (.iconst 1, 1) := by decide +kernel
theorem d_Law_law_125 : decode code 125 = .ok (.iadd, 1) := by decide +kernel
theorem d_Law_law_126 : decode code 126 = .ok (.iaload, 1) := by decide +kernel
theorem d_Law_law_127 : decode code 127 = .ok (.aload_n 0, 1) := by decide +kernel
theorem d_Law_law_128 : decode code 128 = .ok (.iload 4, 2) := by decide +kernel
theorem d_Law_law_130 : decode code 130 = .ok (.iconst 2, 1) := by decide +kernel
theorem d_Law_law_131 : decode code 131 = .ok (.iadd, 1) := by decide +kernel
theorem d_Law_law_132 : decode code 132 = .ok (.iaload, 1) := by decide +kernel
theorem d_Law_law_133 : decode code 133 = .ok (.aload_n 0, 1) := by decide +kernel
theorem d_Law_law_134 : decode code 134 = .ok (.iload 4, 2) := by decide +kernel
theorem d_Law_law_136 : decode code 136 = .ok (.iconst 3, 1) := by decide +kernel
theorem d_Law_law_137 : decode code 137 = .ok (.iadd, 1) := by decide +kernel
theorem d_Law_law_138 : decode code 138 = .ok (.iaload, 1) := by decide +kernel
theorem d_Law_law_139 : decode code 139 = .ok (.aload_n 0, 1) := by decide +kernel
theorem d_Law_law_140 : decode code 140 = .ok (.iload 4, 2) := by decide +kernel
theorem d_Law_law_142 : decode code 142 = .ok (.iconst 4, 1) := by decide +kernel
theorem d_Law_law_143 : decode code 143 = .ok (.iadd, 1) := by decide +kernel
theorem d_Law_law_144 : decode code 144 = .ok (.iaload, 1) := by decide +kernel
theorem d_Law_law_145 : decode code 145 = .ok (.aload_n 3, 1) := by decide +kernel
theorem d_Law_law_146 : decode code 146 = .ok (.invokestatic 73, 3) := by decide +kernel
theorem d_Law_law_149 : decode code 149 = .ok (.istore 5, 2) := by decide +kernel
theorem d_Law_law_151 : decode code 151 = .ok (.aload_n 2, 1) := by decide +kernel
theorem d_Law_law_152 : decode code 152 = .ok (.aload_n 0, 1) := by decide +kernel
theorem d_Law_law_153 : decode code 153 = .ok (.iload 4, 2) := by decide +kernel
theorem d_Law_law_155 : decode code 155 = .ok (.iconst 1, 1) := by decide +kernel
theorem d_Law_law_156 : decode code 156 = .ok (.iadd, 1) := by decide +kernel
theorem d_Law_law_157 : decode code 157 = .ok (.iaload, 1) := by decide +kernel
theorem d_Law_law_158 : decode code 158 = .ok (.aload_n 0, 1) := by decide +kernel
theorem d_Law_law_159 : decode code 159 = .ok (.iload 4, 2) := by decide +kernel
theorem d_Law_law_161 : decode code 161 = .ok (.iconst 2, 1) := by decide +kernel
theorem d_Law_law_162 : decode code 162 = .ok (.iadd, 1) := by decide +kernel
theorem d_Law_law_163 : decode code 163 = .ok (.iaload, 1) := by decide +kernel
theorem d_Law_law_164 : decode code 164 = .ok (.aload_n 0, 1) := by decide +kernel
theorem d_Law_law_165 : decode code 165 = .ok (.iload 4, 2) := by decide +kernel
theorem d_Law_law_167 : decode code 167 = .ok (.iconst 3, 1) := by decide +kernel
theorem d_Law_law_168 : decode code 168 = .ok (.iadd, 1) := by decide +kernel
theorem d_Law_law_169 : decode code 169 = .ok (.iaload, 1) := by decide +kernel
theorem d_Law_law_170 : decode code 170 = .ok (.aload_n 0, 1) := by decide +kernel
theorem d_Law_law_171 : decode code 171 = .ok (.iload 4, 2) := by decide +kernel
theorem d_Law_law_173 : decode code 173 = .ok (.iconst 4, 1) := by decide +kernel
theorem d_Law_law_174 : decode code 174 = .ok (.iadd, 1) := by decide +kernel
theorem d_Law_law_175 : decode code 175 = .ok (.iaload, 1) := by decide +kernel
theorem d_Law_law_176 : decode code 176 = .ok (.invokevirtual 78, 3) := by decide +kernel
theorem d_Law_law_179 : decode code 179 = .ok (.istore 6, 2) := by decide +kernel
theorem d_Law_law_181 : decode code 181 = .ok (.aload_n 2, 1) := by decide +kernel
theorem d_Law_law_182 : decode code 182 = .ok (.invokevirtual 79, 3) := by decide +kernel
theorem d_Law_law_185 : decode code 185 = .ok (.iload 5, 2) := by decide +kernel
theorem d_Law_law_187 : decode code 187 = .ok (.if_icmp .eq 5, 3) := by decide +kernel
theorem d_Law_law_190 : decode code 190 = .ok (.iconst 0, 1) := by decide +kernel
theorem d_Law_law_191 : decode code 191 = .ok (.ireturn, 1) := by decide +kernel
theorem d_Law_law_192 : decode code 192 = .ok (.iload 5, 2) := by decide +kernel
theorem d_Law_law_194 : decode code 194 = .ok (.ifCond .ne 15, 3) := by decide +kernel
theorem d_Law_law_197 : decode code 197 = .ok (.aload_n 3, 1) := by decide +kernel
theorem d_Law_law_198 : decode code 198 = .ok (.iconst 0, 1) := by decide +kernel
theorem d_Law_law_199 : decode code 199 = .ok (.laload, 1) := by decide +kernel
theorem d_Law_law_200 : decode code 200 = .ok (.iload 6, 2) := by decide +kernel
theorem d_Law_law_202 : decode code 202 = .ok (.i2l, 1) := by decide +kernel
theorem d_Law_law_203 : decode code 203 = .ok (.lcmp, 1) := by decide +kernel
theorem d_Law_law_204 : decode code 204 = .ok (.ifCond .eq 5, 3) := by decide +kernel
theorem d_Law_law_207 : decode code 207 = .ok (.iconst 0, 1) := by decide +kernel
theorem d_Law_law_208 : decode code 208 = .ok (.ireturn, 1) := by decide +kernel
theorem d_Law_law_209 : decode code 209 = .ok (.goto 1002, 3) := by decide +kernel
theorem d_Law_law_212 : decode code 212 = .ok (.aload_n 1, 1) := by decide +kernel
theorem d_Law_law_213 : decode code 213 = .ok (.invokevirtual 82, 3) := by decide +kernel
theorem d_Law_law_216 : decode code 216 = .ok (.aload_n 2, 1) := by decide +kernel
theorem d_Law_law_217 : decode code 217 = .ok (.invokevirtual 85, 3) := by decide +kernel
theorem d_Law_law_220 : decode code 220 = .ok (.if_icmp .eq 991, 3) := by decide +kernel
theorem d_Law_law_223 : decode code 223 = .ok (.iconst 0, 1) := by decide +kernel
theorem d_Law_law_224 : decode code 224 = .ok (.ireturn, 1) := by decide +kernel
theorem d_Law_law_225 : decode code 225 = .ok (.aload_n 1, 1) := by decide +kernel
theorem d_Law_law_226 : decode code 226 = .ok (.aload_n 3, 1) := by decide +kernel
theorem d_Law_law_227 : decode code 227 = .ok (.invokestatic 86, 3) := by decide +kernel
theorem d_Law_law_230 : decode code 230 = .ok (.istore 5, 2) := by decide +kernel
theorem d_Law_law_232 : decode code 232 = .ok (.aload_n 2, 1) := by decide +kernel
theorem d_Law_law_233 : decode code 233 = .ok (.invokevirtual 89, 3) := by decide +kernel
theorem d_Law_law_236 : decode code 236 = .ok (.istore 6, 2) := by decide +kernel
theorem d_Law_law_238 : decode code 238 = .ok (.aload_n 2, 1) := by decide +kernel
theorem d_Law_law_239 : decode code 239 = .ok (.invokevirtual 79, 3) := by decide +kernel
theorem d_Law_law_242 : decode code 242 = .ok (.iload 5, 2) := by decide +kernel
theorem d_Law_law_244 : decode code 244 = .ok (.if_icmp .eq 5, 3) := by decide +kernel
theorem d_Law_law_247 : decode code 247 = .ok (.iconst 0, 1) := by decide +kernel
theorem d_Law_law_248 : decode code 248 = .ok (.ireturn, 1) := by decide +kernel
theorem d_Law_law_249 : decode code 249 = .ok (.iload 5, 2) := by decide +kernel
theorem d_Law_law_251 : decode code 251 = .ok (.ifCond .ne 15, 3) := by decide +kernel
theorem d_Law_law_254 : decode code 254 = .ok (.aload_n 3, 1) := by decide +kernel
theorem d_Law_law_255 : decode code 255 = .ok (.iconst 0, 1) := by decide +kernel
theorem d_Law_law_256 : decode code 256 = .ok (.laload, 1) := by decide +kernel
theorem d_Law_law_257 : decode code 257 = .ok (.iload 6, 2) := by decide +kernel
theorem d_Law_law_259 : decode code 259 = .ok (.i2l, 1) := by decide +kernel
theorem d_Law_law_260 : decode code 260 = .ok (.lcmp, 1) := by decide +kernel
theorem d_Law_law_261 : decode code 261 = .ok (.ifCond .eq 5, 3) := by decide +kernel
theorem d_Law_law_264 : decode code 264 = .ok (.iconst 0, 1) := by decide +kernel
theorem d_Law_law_265 : decode code 265 = .ok (.ireturn, 1) := by decide +kernel
theorem d_Law_law_266 : decode code 266 = .ok (.goto 945, 3) := by decide +kernel
theorem d_Law_law_269 : decode code 269 = .ok (.aload_n 1, 1) := by decide +kernel
theorem d_Law_law_270 : decode code 270 = .ok (.aload_n 0, 1) := by decide +kernel
theorem d_Law_law_271 : decode code 271 = .ok (.iload 4, 2) := by decide +kernel
theorem d_Law_law_273 : decode code 273 = .ok (.iconst 1, 1) := by decide +kernel
theorem d_Law_law_274 : decode code 274 = .ok (.iadd, 1) := by decide +kernel
theorem d_Law_law_275 : decode code 275 = .ok (.iaload, 1) := by decide +kernel
theorem d_Law_law_276 : decode code 276 = .ok (.aload_n 0, 1) := by decide +kernel
theorem d_Law_law_277 : decode code 277 = .ok (.iload 4, 2) := by decide +kernel
theorem d_Law_law_279 : decode code 279 = .ok (.iconst 2, 1) := by decide +kernel
theorem d_Law_law_280 : decode code 280 = .ok (.iadd, 1) := by decide +kernel
theorem d_Law_law_281 : decode code 281 = .ok (.iaload, 1) := by decide +kernel
theorem d_Law_law_282 : decode code 282 = .ok (.aload_n 0, 1) := by decide +kernel
theorem d_Law_law_283 : decode code 283 = .ok (.iload 4, 2) := by decide +kernel
theorem d_Law_law_285 : decode code 285 = .ok (.iconst 3, 1) := by decide +kernel
theorem d_Law_law_286 : decode code 286 = .ok (.iadd, 1) := by decide +kernel
theorem d_Law_law_287 : decode code 287 = .ok (.iaload, 1) := by decide +kernel
theorem d_Law_law_288 : decode code 288 = .ok (.aload_n 0, 1) := by decide +kernel
theorem d_Law_law_289 : decode code 289 = .ok (.iload 4, 2) := by decide +kernel
theorem d_Law_law_291 : decode code 291 = .ok (.iconst 4, 1) := by decide +kernel
theorem d_Law_law_292 : decode code 292 = .ok (.iadd, 1) := by decide +kernel
theorem d_Law_law_293 : decode code 293 = .ok (.iaload, 1) := by decide +kernel
theorem d_Law_law_294 : decode code 294 = .ok (.aload_n 3, 1) := by decide +kernel
theorem d_Law_law_295 : decode code 295 = .ok (.invokestatic 90, 3) := by decide +kernel
theorem d_Law_law_298 : decode code 298 = .ok (.istore 5, 2) := by decide +kernel
theorem d_Law_law_300 : decode code 300 = .ok (.aload_n 2, 1) := by decide +kernel
theorem d_Law_law_301 : decode code 301 = .ok (.aload_n 0, 1) := by decide +kernel
theorem d_Law_law_302 : decode code 302 = .ok (.iload 4, 2) := by decide +kernel
theorem d_Law_law_304 : decode code 304 = .ok (.iconst 1, 1) := by decide +kernel
theorem d_Law_law_305 : decode code 305 = .ok (.iadd, 1) := by decide +kernel
theorem d_Law_law_306 : decode code 306 = .ok (.iaload, 1) := by decide +kernel
theorem d_Law_law_307 : decode code 307 = .ok (.aload_n 0, 1) := by decide +kernel
theorem d_Law_law_308 : decode code 308 = .ok (.iload 4, 2) := by decide +kernel
theorem d_Law_law_310 : decode code 310 = .ok (.iconst 2, 1) := by decide +kernel
theorem d_Law_law_311 : decode code 311 = .ok (.iadd, 1) := by decide +kernel
theorem d_Law_law_312 : decode code 312 = .ok (.iaload, 1) := by decide +kernel
theorem d_Law_law_313 : decode code 313 = .ok (.aload_n 0, 1) := by decide +kernel
theorem d_Law_law_314 : decode code 314 = .ok (.iload 4, 2) := by decide +kernel
theorem d_Law_law_316 : decode code 316 = .ok (.iconst 3, 1) := by decide +kernel
theorem d_Law_law_317 : decode code 317 = .ok (.iadd, 1) := by decide +kernel
theorem d_Law_law_318 : decode code 318 = .ok (.iaload, 1) := by decide +kernel
theorem d_Law_law_319 : decode code 319 = .ok (.aload_n 0, 1) := by decide +kernel
theorem d_Law_law_320 : decode code 320 = .ok (.iload 4, 2) := by decide +kernel
theorem d_Law_law_322 : decode code 322 = .ok (.iconst 4, 1) := by decide +kernel
theorem d_Law_law_323 : decode code 323 = .ok (.iadd, 1) := by decide +kernel
theorem d_Law_law_324 : decode code 324 = .ok (.iaload, 1) := by decide +kernel
theorem d_Law_law_325 : decode code 325 = .ok (.invokevirtual 92, 3) := by decide +kernel
theorem d_Law_law_328 : decode code 328 = .ok (.istore 6, 2) := by decide +kernel
theorem d_Law_law_330 : decode code 330 = .ok (.aload_n 2, 1) := by decide +kernel
theorem d_Law_law_331 : decode code 331 = .ok (.invokevirtual 79, 3) := by decide +kernel
theorem d_Law_law_334 : decode code 334 = .ok (.iload 5, 2) := by decide +kernel
theorem d_Law_law_336 : decode code 336 = .ok (.if_icmp .eq 5, 3) := by decide +kernel
theorem d_Law_law_339 : decode code 339 = .ok (.iconst 0, 1) := by decide +kernel
theorem d_Law_law_340 : decode code 340 = .ok (.ireturn, 1) := by decide +kernel
theorem d_Law_law_341 : decode code 341 = .ok (.iload 5, 2) := by decide +kernel
theorem d_Law_law_343 : decode code 343 = .ok (.ifCond .ne 15, 3) := by decide +kernel
theorem d_Law_law_346 : decode code 346 = .ok (.aload_n 3, 1) := by decide +kernel
theorem d_Law_law_347 : decode code 347 = .ok (.iconst 0, 1) := by decide +kernel
theorem d_Law_law_348 : decode code 348 = .ok (.laload, 1) := by decide +kernel
theorem d_Law_law_349 : decode code 349 = .ok (.iload 6, 2) := by decide +kernel
theorem d_Law_law_351 : decode code 351 = .ok (.i2l, 1) := by decide +kernel
theorem d_Law_law_352 : decode code 352 = .ok (.lcmp, 1) := by decide +kernel
theorem d_Law_law_353 : decode code 353 = .ok (.ifCond .eq 5, 3) := by decide +kernel
theorem d_Law_law_356 : decode code 356 = .ok (.iconst 0, 1) := by decide +kernel
theorem d_Law_law_357 : decode code 357 = .ok (.ireturn, 1) := by decide +kernel
theorem d_Law_law_358 : decode code 358 = .ok (.goto 853, 3) := by decide +kernel
theorem d_Law_law_361 : decode code 361 = .ok (.aload_n 1, 1) := by decide +kernel
theorem d_Law_law_362 : decode code 362 = .ok (.aload_n 0, 1) := by decide +kernel
theorem d_Law_law_363 : decode code 363 = .ok (.iload 4, 2) := by decide +kernel
theorem d_Law_law_365 : decode code 365 = .ok (.iconst 1, 1) := by decide +kernel
theorem d_Law_law_366 : decode code 366 = .ok (.iadd, 1) := by decide +kernel
theorem d_Law_law_367 : decode code 367 = .ok (.iaload, 1) := by decide +kernel
theorem d_Law_law_368 : decode code 368 = .ok (.aload_n 0, 1) := by decide +kernel
theorem d_Law_law_369 : decode code 369 = .ok (.iload 4, 2) := by decide +kernel
theorem d_Law_law_371 : decode code 371 = .ok (.iconst 2, 1) := by decide +kernel
theorem d_Law_law_372 : decode code 372 = .ok (.iadd, 1) := by decide +kernel
theorem d_Law_law_373 : decode code 373 = .ok (.iaload, 1) := by decide +kernel
theorem d_Law_law_374 : decode code 374 = .ok (.aload_n 0, 1) := by decide +kernel
theorem d_Law_law_375 : decode code 375 = .ok (.iload 4, 2) := by decide +kernel
theorem d_Law_law_377 : decode code 377 = .ok (.iconst 3, 1) := by decide +kernel
theorem d_Law_law_378 : decode code 378 = .ok (.iadd, 1) := by decide +kernel
theorem d_Law_law_379 : decode code 379 = .ok (.iaload, 1) := by decide +kernel
theorem d_Law_law_380 : decode code 380 = .ok (.aload_n 3, 1) := by decide +kernel
theorem d_Law_law_381 : decode code 381 = .ok (.invokestatic 93, 3) := by decide +kernel
theorem d_Law_law_384 : decode code 384 = .ok (.istore 5, 2) := by decide +kernel
theorem d_Law_law_386 : decode code 386 = .ok (.aload_n 2, 1) := by decide +kernel
theorem d_Law_law_387 : decode code 387 = .ok (.aload_n 0, 1) := by decide +kernel
theorem d_Law_law_388 : decode code 388 = .ok (.iload 4, 2) := by decide +kernel
theorem d_Law_law_390 : decode code 390 = .ok (.iconst 1, 1) := by decide +kernel
theorem d_Law_law_391 : decode code 391 = .ok (.iadd, 1) := by decide +kernel
theorem d_Law_law_392 : decode code 392 = .ok (.iaload, 1) := by decide +kernel
theorem d_Law_law_393 : decode code 393 = .ok (.aload_n 0, 1) := by decide +kernel
theorem d_Law_law_394 : decode code 394 = .ok (.iload 4, 2) := by decide +kernel
theorem d_Law_law_396 : decode code 396 = .ok (.iconst 2, 1) := by decide +kernel
theorem d_Law_law_397 : decode code 397 = .ok (.iadd, 1) := by decide +kernel
theorem d_Law_law_398 : decode code 398 = .ok (.iaload, 1) := by decide +kernel
theorem d_Law_law_399 : decode code 399 = .ok (.aload_n 0, 1) := by decide +kernel
theorem d_Law_law_400 : decode code 400 = .ok (.iload 4, 2) := by decide +kernel
theorem d_Law_law_402 : decode code 402 = .ok (.iconst 3, 1) := by decide +kernel
theorem d_Law_law_403 : decode code 403 = .ok (.iadd, 1) := by decide +kernel
theorem d_Law_law_404 : decode code 404 = .ok (.iaload, 1) := by decide +kernel
theorem d_Law_law_405 : decode code 405 = .ok (.invokevirtual 96, 3) := by decide +kernel
theorem d_Law_law_408 : decode code 408 = .ok (.istore 6, 2) := by decide +kernel
theorem d_Law_law_410 : decode code 410 = .ok (.aload_n 2, 1) := by decide +kernel
theorem d_Law_law_411 : decode code 411 = .ok (.invokevirtual 79, 3) := by decide +kernel
theorem d_Law_law_414 : decode code 414 = .ok (.iload 5, 2) := by decide +kernel
theorem d_Law_law_416 : decode code 416 = .ok (.if_icmp .eq 5, 3) := by decide +kernel
theorem d_Law_law_419 : decode code 419 = .ok (.iconst 0, 1) := by decide +kernel
theorem d_Law_law_420 : decode code 420 = .ok (.ireturn, 1) := by decide +kernel
theorem d_Law_law_421 : decode code 421 = .ok (.iload 5, 2) := by decide +kernel
theorem d_Law_law_423 : decode code 423 = .ok (.ifCond .ne 15, 3) := by decide +kernel
theorem d_Law_law_426 : decode code 426 = .ok (.aload_n 3, 1) := by decide +kernel
theorem d_Law_law_427 : decode code 427 = .ok (.iconst 0, 1) := by decide +kernel
theorem d_Law_law_428 : decode code 428 = .ok (.laload, 1) := by decide +kernel
theorem d_Law_law_429 : decode code 429 = .ok (.iload 6, 2) := by decide +kernel
theorem d_Law_law_431 : decode code 431 = .ok (.i2l, 1) := by decide +kernel
theorem d_Law_law_432 : decode code 432 = .ok (.lcmp, 1) := by decide +kernel
theorem d_Law_law_433 : decode code 433 = .ok (.ifCond .eq 5, 3) := by decide +kernel
theorem d_Law_law_436 : decode code 436 = .ok (.iconst 0, 1) := by decide +kernel
theorem d_Law_law_437 : decode code 437 = .ok (.ireturn, 1) := by decide +kernel
theorem d_Law_law_438 : decode code 438 = .ok (.goto 773, 3) := by decide +kernel
theorem d_Law_law_441 : decode code 441 = .ok (.aload_n 1, 1) := by decide +kernel
theorem d_Law_law_442 : decode code 442 = .ok (.aload_n 0, 1) := by decide +kernel
theorem d_Law_law_443 : decode code 443 = .ok (.iload 4, 2) := by decide +kernel
theorem d_Law_law_445 : decode code 445 = .ok (.iconst 1, 1) := by decide +kernel
theorem d_Law_law_446 : decode code 446 = .ok (.iadd, 1) := by decide +kernel
theorem d_Law_law_447 : decode code 447 = .ok (.iaload, 1) := by decide +kernel
theorem d_Law_law_448 : decode code 448 = .ok (.aload_n 0, 1) := by decide +kernel
theorem d_Law_law_449 : decode code 449 = .ok (.iload 4, 2) := by decide +kernel
theorem d_Law_law_451 : decode code 451 = .ok (.iconst 2, 1) := by decide +kernel
theorem d_Law_law_452 : decode code 452 = .ok (.iadd, 1) := by decide +kernel
theorem d_Law_law_453 : decode code 453 = .ok (.iaload, 1) := by decide +kernel
theorem d_Law_law_454 : decode code 454 = .ok (.aload_n 0, 1) := by decide +kernel
theorem d_Law_law_455 : decode code 455 = .ok (.iload 4, 2) := by decide +kernel
theorem d_Law_law_457 : decode code 457 = .ok (.iconst 3, 1) := by decide +kernel
theorem d_Law_law_458 : decode code 458 = .ok (.iadd, 1) := by decide +kernel
theorem d_Law_law_459 : decode code 459 = .ok (.iaload, 1) := by decide +kernel
theorem d_Law_law_460 : decode code 460 = .ok (.aload_n 0, 1) := by decide +kernel
theorem d_Law_law_461 : decode code 461 = .ok (.iload 4, 2) := by decide +kernel
theorem d_Law_law_463 : decode code 463 = .ok (.iconst 4, 1) := by decide +kernel
theorem d_Law_law_464 : decode code 464 = .ok (.iadd, 1) := by decide +kernel
theorem d_Law_law_465 : decode code 465 = .ok (.iaload, 1) := by decide +kernel
theorem d_Law_law_466 : decode code 466 = .ok (.aload_n 3, 1) := by decide +kernel
theorem d_Law_law_467 : decode code 467 = .ok (.invokestatic 97, 3) := by decide +kernel
theorem d_Law_law_470 : decode code 470 = .ok (.istore 5, 2) := by decide +kernel
theorem d_Law_law_472 : decode code 472 = .ok (.aload_n 2, 1) := by decide +kernel
theorem d_Law_law_473 : decode code 473 = .ok (.aload_n 0, 1) := by decide +kernel
theorem d_Law_law_474 : decode code 474 = .ok (.iload 4, 2) := by decide +kernel
theorem d_Law_law_476 : decode code 476 = .ok (.iconst 1, 1) := by decide +kernel
theorem d_Law_law_477 : decode code 477 = .ok (.iadd, 1) := by decide +kernel
theorem d_Law_law_478 : decode code 478 = .ok (.iaload, 1) := by decide +kernel
theorem d_Law_law_479 : decode code 479 = .ok (.aload_n 0, 1) := by decide +kernel
theorem d_Law_law_480 : decode code 480 = .ok (.iload 4, 2) := by decide +kernel
theorem d_Law_law_482 : decode code 482 = .ok (.iconst 2, 1) := by decide +kernel
theorem d_Law_law_483 : decode code 483 = .ok (.iadd, 1) := by decide +kernel
theorem d_Law_law_484 : decode code 484 = .ok (.iaload, 1) := by decide +kernel
theorem d_Law_law_485 : decode code 485 = .ok (.aload_n 0, 1) := by decide +kernel
theorem d_Law_law_486 : decode code 486 = .ok (.iload 4, 2) := by decide +kernel
theorem d_Law_law_488 : decode code 488 = .ok (.iconst 3, 1) := by decide +kernel
theorem d_Law_law_489 : decode code 489 = .ok (.iadd, 1) := by decide +kernel
theorem d_Law_law_490 : decode code 490 = .ok (.iaload, 1) := by decide +kernel
theorem d_Law_law_491 : decode code 491 = .ok (.aload_n 0, 1) := by decide +kernel
theorem d_Law_law_492 : decode code 492 = .ok (.iload 4, 2) := by decide +kernel
theorem d_Law_law_494 : decode code 494 = .ok (.iconst 4, 1) := by decide +kernel
theorem d_Law_law_495 : decode code 495 = .ok (.iadd, 1) := by decide +kernel
theorem d_Law_law_496 : decode code 496 = .ok (.iaload, 1) := by decide +kernel
theorem d_Law_law_497 : decode code 497 = .ok (.invokevirtual 99, 3) := by decide +kernel
theorem d_Law_law_500 : decode code 500 = .ok (.istore 6, 2) := by decide +kernel
theorem d_Law_law_502 : decode code 502 = .ok (.aload_n 2, 1) := by decide +kernel
theorem d_Law_law_503 : decode code 503 = .ok (.invokevirtual 79, 3) := by decide +kernel
theorem d_Law_law_506 : decode code 506 = .ok (.iload 5, 2) := by decide +kernel
theorem d_Law_law_508 : decode code 508 = .ok (.if_icmp .eq 5, 3) := by decide +kernel
theorem d_Law_law_511 : decode code 511 = .ok (.iconst 0, 1) := by decide +kernel
theorem d_Law_law_512 : decode code 512 = .ok (.ireturn, 1) := by decide +kernel
theorem d_Law_law_513 : decode code 513 = .ok (.iload 5, 2) := by decide +kernel
theorem d_Law_law_515 : decode code 515 = .ok (.ifCond .ne 15, 3) := by decide +kernel
theorem d_Law_law_518 : decode code 518 = .ok (.aload_n 3, 1) := by decide +kernel
theorem d_Law_law_519 : decode code 519 = .ok (.iconst 0, 1) := by decide +kernel
theorem d_Law_law_520 : decode code 520 = .ok (.laload, 1) := by decide +kernel
theorem d_Law_law_521 : decode code 521 = .ok (.iload 6, 2) := by decide +kernel
theorem d_Law_law_523 : decode code 523 = .ok (.i2l, 1) := by decide +kernel
theorem d_Law_law_524 : decode code 524 = .ok (.lcmp, 1) := by decide +kernel
theorem d_Law_law_525 : decode code 525 = .ok (.ifCond .eq 5, 3) := by decide +kernel
theorem d_Law_law_528 : decode code 528 = .ok (.iconst 0, 1) := by decide +kernel
theorem d_Law_law_529 : decode code 529 = .ok (.ireturn, 1) := by decide +kernel
theorem d_Law_law_530 : decode code 530 = .ok (.goto 681, 3) := by decide +kernel
theorem d_Law_law_533 : decode code 533 = .ok (.aload_n 1, 1) := by decide +kernel
theorem d_Law_law_534 : decode code 534 = .ok (.aload_n 0, 1) := by decide +kernel
theorem d_Law_law_535 : decode code 535 = .ok (.iload 4, 2) := by decide +kernel
theorem d_Law_law_537 : decode code 537 = .ok (.iconst 1, 1) := by decide +kernel
theorem d_Law_law_538 : decode code 538 = .ok (.iadd, 1) := by decide +kernel
theorem d_Law_law_539 : decode code 539 = .ok (.iaload, 1) := by decide +kernel
theorem d_Law_law_540 : decode code 540 = .ok (.aload_n 0, 1) := by decide +kernel
theorem d_Law_law_541 : decode code 541 = .ok (.iload 4, 2) := by decide +kernel
theorem d_Law_law_543 : decode code 543 = .ok (.iconst 2, 1) := by decide +kernel
theorem d_Law_law_544 : decode code 544 = .ok (.iadd, 1) := by decide +kernel
theorem d_Law_law_545 : decode code 545 = .ok (.iaload, 1) := by decide +kernel
theorem d_Law_law_546 : decode code 546 = .ok (.aload_n 3, 1) := by decide +kernel
theorem d_Law_law_547 : decode code 547 = .ok (.invokestatic 100, 3) := by decide +kernel
theorem d_Law_law_550 : decode code 550 = .ok (.istore 5, 2) := by decide +kernel
theorem d_Law_law_552 : decode code 552 = .ok (.aload_n 2, 1) := by decide +kernel
theorem d_Law_law_553 : decode code 553 = .ok (.aload_n 0, 1) := by decide +kernel
theorem d_Law_law_554 : decode code 554 = .ok (.iload 4, 2) := by decide +kernel
theorem d_Law_law_556 : decode code 556 = .ok (.iconst 1, 1) := by decide +kernel
theorem d_Law_law_557 : decode code 557 = .ok (.iadd, 1) := by decide +kernel
theorem d_Law_law_558 : decode code 558 = .ok (.iaload, 1) := by decide +kernel
theorem d_Law_law_559 : decode code 559 = .ok (.aload_n 0, 1) := by decide +kernel
theorem d_Law_law_560 : decode code 560 = .ok (.iload 4, 2) := by decide +kernel
theorem d_Law_law_562 : decode code 562 = .ok (.iconst 2, 1) := by decide +kernel
theorem d_Law_law_563 : decode code 563 = .ok (.iadd, 1) := by decide +kernel
theorem d_Law_law_564 : decode code 564 = .ok (.iaload, 1) := by decide +kernel
theorem d_Law_law_565 : decode code 565 = .ok (.invokevirtual 103, 3) := by decide +kernel
theorem d_Law_law_568 : decode code 568 = .ok (.istore 6, 2) := by decide +kernel
theorem d_Law_law_570 : decode code 570 = .ok (.aload_n 2, 1) := by decide +kernel
theorem d_Law_law_571 : decode code 571 = .ok (.invokevirtual 79, 3) := by decide +kernel
theorem d_Law_law_574 : decode code 574 = .ok (.iload 5, 2) := by decide +kernel
theorem d_Law_law_576 : decode code 576 = .ok (.if_icmp .eq 5, 3) := by decide +kernel
theorem d_Law_law_579 : decode code 579 = .ok (.iconst 0, 1) := by decide +kernel
theorem d_Law_law_580 : decode code 580 = .ok (.ireturn, 1) := by decide +kernel
theorem d_Law_law_581 : decode code 581 = .ok (.iload 5, 2) := by decide +kernel
theorem d_Law_law_583 : decode code 583 = .ok (.ifCond .ne 15, 3) := by decide +kernel
theorem d_Law_law_586 : decode code 586 = .ok (.aload_n 3, 1) := by decide +kernel
theorem d_Law_law_587 : decode code 587 = .ok (.iconst 0, 1) := by decide +kernel
theorem d_Law_law_588 : decode code 588 = .ok (.laload, 1) := by decide +kernel
theorem d_Law_law_589 : decode code 589 = .ok (.iload 6, 2) := by decide +kernel
theorem d_Law_law_591 : decode code 591 = .ok (.i2l, 1) := by decide +kernel
theorem d_Law_law_592 : decode code 592 = .ok (.lcmp, 1) := by decide +kernel
theorem d_Law_law_593 : decode code 593 = .ok (.ifCond .eq 5, 3) := by decide +kernel
theorem d_Law_law_596 : decode code 596 = .ok (.iconst 0, 1) := by decide +kernel
theorem d_Law_law_597 : decode code 597 = .ok (.ireturn, 1) := by decide +kernel
theorem d_Law_law_598 : decode code 598 = .ok (.goto 613, 3) := by decide +kernel
theorem d_Law_law_601 : decode code 601 = .ok (.aload_n 1, 1) := by decide +kernel
theorem d_Law_law_602 : decode code 602 = .ok (.aload_n 0, 1) := by decide +kernel
theorem d_Law_law_603 : decode code 603 = .ok (.iload 4, 2) := by decide +kernel
theorem d_Law_law_605 : decode code 605 = .ok (.iconst 1, 1) := by decide +kernel
theorem d_Law_law_606 : decode code 606 = .ok (.iadd, 1) := by decide +kernel
theorem d_Law_law_607 : decode code 607 = .ok (.iaload, 1) := by decide +kernel
theorem d_Law_law_608 : decode code 608 = .ok (.aload_n 0, 1) := by decide +kernel
theorem d_Law_law_609 : decode code 609 = .ok (.iload 4, 2) := by decide +kernel
theorem d_Law_law_611 : decode code 611 = .ok (.iconst 2, 1) := by decide +kernel
theorem d_Law_law_612 : decode code 612 = .ok (.iadd, 1) := by decide +kernel
theorem d_Law_law_613 : decode code 613 = .ok (.iaload, 1) := by decide +kernel
theorem d_Law_law_614 : decode code 614 = .ok (.aload_n 0, 1) := by decide +kernel
theorem d_Law_law_615 : decode code 615 = .ok (.iload 4, 2) := by decide +kernel
theorem d_Law_law_617 : decode code 617 = .ok (.iconst 3, 1) := by decide +kernel
theorem d_Law_law_618 : decode code 618 = .ok (.iadd, 1) := by decide +kernel
theorem d_Law_law_619 : decode code 619 = .ok (.iaload, 1) := by decide +kernel
theorem d_Law_law_620 : decode code 620 = .ok (.aload_n 0, 1) := by decide +kernel
theorem d_Law_law_621 : decode code 621 = .ok (.iload 4, 2) := by decide +kernel
theorem d_Law_law_623 : decode code 623 = .ok (.iconst 4, 1) := by decide +kernel
theorem d_Law_law_624 : decode code 624 = .ok (.iadd, 1) := by decide +kernel
theorem d_Law_law_625 : decode code 625 = .ok (.iaload, 1) := by decide +kernel
theorem d_Law_law_626 : decode code 626 = .ok (.aload_n 3, 1) := by decide +kernel
theorem d_Law_law_627 : decode code 627 = .ok (.invokestatic 104, 3) := by decide +kernel
theorem d_Law_law_630 : decode code 630 = .ok (.istore 5, 2) := by decide +kernel
theorem d_Law_law_632 : decode code 632 = .ok (.aload_n 2, 1) := by decide +kernel
theorem d_Law_law_633 : decode code 633 = .ok (.aload_n 0, 1) := by decide +kernel
theorem d_Law_law_634 : decode code 634 = .ok (.iload 4, 2) := by decide +kernel
theorem d_Law_law_636 : decode code 636 = .ok (.iconst 1, 1) := by decide +kernel
theorem d_Law_law_637 : decode code 637 = .ok (.iadd, 1) := by decide +kernel
theorem d_Law_law_638 : decode code 638 = .ok (.iaload, 1) := by decide +kernel
theorem d_Law_law_639 : decode code 639 = .ok (.aload_n 0, 1) := by decide +kernel
theorem d_Law_law_640 : decode code 640 = .ok (.iload 4, 2) := by decide +kernel
theorem d_Law_law_642 : decode code 642 = .ok (.iconst 2, 1) := by decide +kernel
theorem d_Law_law_643 : decode code 643 = .ok (.iadd, 1) := by decide +kernel
theorem d_Law_law_644 : decode code 644 = .ok (.iaload, 1) := by decide +kernel
theorem d_Law_law_645 : decode code 645 = .ok (.aload_n 0, 1) := by decide +kernel
theorem d_Law_law_646 : decode code 646 = .ok (.iload 4, 2) := by decide +kernel
theorem d_Law_law_648 : decode code 648 = .ok (.iconst 3, 1) := by decide +kernel
theorem d_Law_law_649 : decode code 649 = .ok (.iadd, 1) := by decide +kernel
theorem d_Law_law_650 : decode code 650 = .ok (.iaload, 1) := by decide +kernel
theorem d_Law_law_651 : decode code 651 = .ok (.aload_n 0, 1) := by decide +kernel
theorem d_Law_law_652 : decode code 652 = .ok (.iload 4, 2) := by decide +kernel
theorem d_Law_law_654 : decode code 654 = .ok (.iconst 4, 1) := by decide +kernel
theorem d_Law_law_655 : decode code 655 = .ok (.iadd, 1) := by decide +kernel
theorem d_Law_law_656 : decode code 656 = .ok (.iaload, 1) := by decide +kernel
theorem d_Law_law_657 : decode code 657 = .ok (.invokevirtual 106, 3) := by decide +kernel
theorem d_Law_law_660 : decode code 660 = .ok (.istore 6, 2) := by decide +kernel
theorem d_Law_law_662 : decode code 662 = .ok (.aload_n 2, 1) := by decide +kernel
theorem d_Law_law_663 : decode code 663 = .ok (.invokevirtual 79, 3) := by decide +kernel
theorem d_Law_law_666 : decode code 666 = .ok (.iload 5, 2) := by decide +kernel
theorem d_Law_law_668 : decode code 668 = .ok (.if_icmp .eq 5, 3) := by decide +kernel
theorem d_Law_law_671 : decode code 671 = .ok (.iconst 0, 1) := by decide +kernel
theorem d_Law_law_672 : decode code 672 = .ok (.ireturn, 1) := by decide +kernel
theorem d_Law_law_673 : decode code 673 = .ok (.iload 5, 2) := by decide +kernel
theorem d_Law_law_675 : decode code 675 = .ok (.ifCond .ne 15, 3) := by decide +kernel
theorem d_Law_law_678 : decode code 678 = .ok (.aload_n 3, 1) := by decide +kernel
theorem d_Law_law_679 : decode code 679 = .ok (.iconst 0, 1) := by decide +kernel
theorem d_Law_law_680 : decode code 680 = .ok (.laload, 1) := by decide +kernel
theorem d_Law_law_681 : decode code 681 = .ok (.iload 6, 2) := by decide +kernel
theorem d_Law_law_683 : decode code 683 = .ok (.i2l, 1) := by decide +kernel
theorem d_Law_law_684 : decode code 684 = .ok (.lcmp, 1) := by decide +kernel
theorem d_Law_law_685 : decode code 685 = .ok (.ifCond .eq 5, 3) := by decide +kernel
theorem d_Law_law_688 : decode code 688 = .ok (.iconst 0, 1) := by decide +kernel
theorem d_Law_law_689 : decode code 689 = .ok (.ireturn, 1) := by decide +kernel
theorem d_Law_law_690 : decode code 690 = .ok (.goto 521, 3) := by decide +kernel
theorem d_Law_law_693 : decode code 693 = .ok (.aload_n 1, 1) := by decide +kernel
theorem d_Law_law_694 : decode code 694 = .ok (.aload_n 0, 1) := by decide +kernel
theorem d_Law_law_695 : decode code 695 = .ok (.iload 4, 2) := by decide +kernel
theorem d_Law_law_697 : decode code 697 = .ok (.iconst 1, 1) := by decide +kernel
theorem d_Law_law_698 : decode code 698 = .ok (.iadd, 1) := by decide +kernel
theorem d_Law_law_699 : decode code 699 = .ok (.iaload, 1) := by decide +kernel
theorem d_Law_law_700 : decode code 700 = .ok (.aload_n 3, 1) := by decide +kernel
theorem d_Law_law_701 : decode code 701 = .ok (.invokestatic 107, 3) := by decide +kernel
theorem d_Law_law_704 : decode code 704 = .ok (.istore 5, 2) := by decide +kernel
theorem d_Law_law_706 : decode code 706 = .ok (.aload_n 2, 1) := by decide +kernel
theorem d_Law_law_707 : decode code 707 = .ok (.aload_n 0, 1) := by decide +kernel
theorem d_Law_law_708 : decode code 708 = .ok (.iload 4, 2) := by decide +kernel
theorem d_Law_law_710 : decode code 710 = .ok (.iconst 1, 1) := by decide +kernel
theorem d_Law_law_711 : decode code 711 = .ok (.iadd, 1) := by decide +kernel
theorem d_Law_law_712 : decode code 712 = .ok (.iaload, 1) := by decide +kernel
theorem d_Law_law_713 : decode code 713 = .ok (.invokevirtual 110, 3) := by decide +kernel
theorem d_Law_law_716 : decode code 716 = .ok (.istore 6, 2) := by decide +kernel
theorem d_Law_law_718 : decode code 718 = .ok (.aload_n 2, 1) := by decide +kernel
theorem d_Law_law_719 : decode code 719 = .ok (.invokevirtual 79, 3) := by decide +kernel
theorem d_Law_law_722 : decode code 722 = .ok (.iload 5, 2) := by decide +kernel
theorem d_Law_law_724 : decode code 724 = .ok (.if_icmp .eq 5, 3) := by decide +kernel
theorem d_Law_law_727 : decode code 727 = .ok (.iconst 0, 1) := by decide +kernel
theorem d_Law_law_728 : decode code 728 = .ok (.ireturn, 1) := by decide +kernel
theorem d_Law_law_729 : decode code 729 = .ok (.iload 5, 2) := by decide +kernel
theorem d_Law_law_731 : decode code 731 = .ok (.ifCond .ne 15, 3) := by decide +kernel
theorem d_Law_law_734 : decode code 734 = .ok (.aload_n 3, 1) := by decide +kernel
theorem d_Law_law_735 : decode code 735 = .ok (.iconst 0, 1) := by decide +kernel
theorem d_Law_law_736 : decode code 736 = .ok (.laload, 1) := by decide +kernel
theorem d_Law_law_737 : decode code 737 = .ok (.iload 6, 2) := by decide +kernel
theorem d_Law_law_739 : decode code 739 = .ok (.i2l, 1) := by decide +kernel
theorem d_Law_law_740 : decode code 740 = .ok (.lcmp, 1) := by decide +kernel
theorem d_Law_law_741 : decode code 741 = .ok (.ifCond .eq 5, 3) := by decide +kernel
theorem d_Law_law_744 : decode code 744 = .ok (.iconst 0, 1) := by decide +kernel
theorem d_Law_law_745 : decode code 745 = .ok (.ireturn, 1) := by decide +kernel
theorem d_Law_law_746 : decode code 746 = .ok (.goto 465, 3) := by decide +kernel
theorem d_Law_law_749 : decode code 749 = .ok (.aload_n 1, 1) := by decide +kernel
theorem d_Law_law_750 : decode code 750 = .ok (.aload_n 3, 1) := by decide +kernel
theorem d_Law_law_751 : decode code 751 = .ok (.invokestatic 111, 3) := by decide +kernel
theorem d_Law_law_754 : decode code 754 = .ok (.istore 5, 2) := by decide +kernel
theorem d_Law_law_756 : decode code 756 = .ok (.aload_n 2, 1) := by decide +kernel
theorem d_Law_law_757 : decode code 757 = .ok (.invokevirtual 113, 3) := by decide +kernel
theorem d_Law_law_760 : decode code 760 = .ok (.istore 6, 2) := by decide +kernel
theorem d_Law_law_762 : decode code 762 = .ok (.aload_n 2, 1) := by decide +kernel
theorem d_Law_law_763 : decode code 763 = .ok (.invokevirtual 79, 3) := by decide +kernel
theorem d_Law_law_766 : decode code 766 = .ok (.iload 5, 2) := by decide +kernel
theorem d_Law_law_768 : decode code 768 = .ok (.if_icmp .eq 5, 3) := by decide +kernel
theorem d_Law_law_771 : decode code 771 = .ok (.iconst 0, 1) := by decide +kernel
theorem d_Law_law_772 : decode code 772 = .ok (.ireturn, 1) := by decide +kernel
theorem d_Law_law_773 : decode code 773 = .ok (.iload 5, 2) := by decide +kernel
theorem d_Law_law_775 : decode code 775 = .ok (.ifCond .ne 15, 3) := by decide +kernel
theorem d_Law_law_778 : decode code 778 = .ok (.aload_n 3, 1) := by decide +kernel
theorem d_Law_law_779 : decode code 779 = .ok (.iconst 0, 1) := by decide +kernel
theorem d_Law_law_780 : decode code 780 = .ok (.laload, 1) := by decide +kernel
theorem d_Law_law_781 : decode code 781 = .ok (.iload 6, 2) := by decide +kernel
theorem d_Law_law_783 : decode code 783 = .ok (.i2l, 1) := by decide +kernel
theorem d_Law_law_784 : decode code 784 = .ok (.lcmp, 1) := by decide +kernel
theorem d_Law_law_785 : decode code 785 = .ok (.ifCond .eq 5, 3) := by decide +kernel
theorem d_Law_law_788 : decode code 788 = .ok (.iconst 0, 1) := by decide +kernel
theorem d_Law_law_789 : decode code 789 = .ok (.ireturn, 1) := by decide +kernel
theorem d_Law_law_790 : decode code 790 = .ok (.goto 421, 3) := by decide +kernel
theorem d_Law_law_793 : decode code 793 = .ok (.aload_n 1, 1) := by decide +kernel
theorem d_Law_law_794 : decode code 794 = .ok (.aload_n 0, 1) := by decide +kernel
theorem d_Law_law_795 : decode code 795 = .ok (.iload 4, 2) := by decide +kernel
theorem d_Law_law_797 : decode code 797 = .ok (.iconst 1, 1) := by decide +kernel
theorem d_Law_law_798 : decode code 798 = .ok (.iadd, 1) := by decide +kernel
theorem d_Law_law_799 : decode code 799 = .ok (.iaload, 1) := by decide +kernel
theorem d_Law_law_800 : decode code 800 = .ok (.aload_n 3, 1) := by decide +kernel
theorem d_Law_law_801 : decode code 801 = .ok (.invokestatic 114, 3) := by decide +kernel
theorem d_Law_law_804 : decode code 804 = .ok (.istore 5, 2) := by decide +kernel
theorem d_Law_law_806 : decode code 806 = .ok (.aload_n 2, 1) := by decide +kernel
theorem d_Law_law_807 : decode code 807 = .ok (.aload_n 0, 1) := by decide +kernel
theorem d_Law_law_808 : decode code 808 = .ok (.iload 4, 2) := by decide +kernel
theorem d_Law_law_810 : decode code 810 = .ok (.iconst 1, 1) := by decide +kernel
theorem d_Law_law_811 : decode code 811 = .ok (.iadd, 1) := by decide +kernel
theorem d_Law_law_812 : decode code 812 = .ok (.iaload, 1) := by decide +kernel
theorem d_Law_law_813 : decode code 813 = .ok (.invokevirtual 116, 3) := by decide +kernel
theorem d_Law_law_816 : decode code 816 = .ok (.istore 6, 2) := by decide +kernel
theorem d_Law_law_818 : decode code 818 = .ok (.aload_n 2, 1) := by decide +kernel
theorem d_Law_law_819 : decode code 819 = .ok (.invokevirtual 79, 3) := by decide +kernel
theorem d_Law_law_822 : decode code 822 = .ok (.iload 5, 2) := by decide +kernel
theorem d_Law_law_824 : decode code 824 = .ok (.if_icmp .eq 5, 3) := by decide +kernel
theorem d_Law_law_827 : decode code 827 = .ok (.iconst 0, 1) := by decide +kernel
theorem d_Law_law_828 : decode code 828 = .ok (.ireturn, 1) := by decide +kernel
theorem d_Law_law_829 : decode code 829 = .ok (.iload 5, 2) := by decide +kernel
theorem d_Law_law_831 : decode code 831 = .ok (.ifCond .ne 15, 3) := by decide +kernel
theorem d_Law_law_834 : decode code 834 = .ok (.aload_n 3, 1) := by decide +kernel
theorem d_Law_law_835 : decode code 835 = .ok (.iconst 0, 1) := by decide +kernel
theorem d_Law_law_836 : decode code 836 = .ok (.laload, 1) := by decide +kernel
theorem d_Law_law_837 : decode code 837 = .ok (.iload 6, 2) := by decide +kernel
theorem d_Law_law_839 : decode code 839 = .ok (.i2l, 1) := by decide +kernel
theorem d_Law_law_840 : decode code 840 = .ok (.lcmp, 1) := by decide +kernel
theorem d_Law_law_841 : decode code 841 = .ok (.ifCond .eq 5, 3) := by decide +kernel
theorem d_Law_law_844 : decode code 844 = .ok (.iconst 0, 1) := by decide +kernel
theorem d_Law_law_845 : decode code 845 = .ok (.ireturn, 1) := by decide +kernel
theorem d_Law_law_846 : decode code 846 = .ok (.goto 365, 3) := by decide +kernel
theorem d_Law_law_849 : decode code 849 = .ok (.aload_n 1, 1) := by decide +kernel
theorem d_Law_law_850 : decode code 850 = .ok (.aload_n 0, 1) := by decide +kernel
theorem d_Law_law_851 : decode code 851 = .ok (.iload 4, 2) := by decide +kernel
theorem d_Law_law_853 : decode code 853 = .ok (.iconst 1, 1) := by decide +kernel
theorem d_Law_law_854 : decode code 854 = .ok (.iadd, 1) := by decide +kernel
theorem d_Law_law_855 : decode code 855 = .ok (.iaload, 1) := by decide +kernel
theorem d_Law_law_856 : decode code 856 = .ok (.aload_n 3, 1) := by decide +kernel
theorem d_Law_law_857 : decode code 857 = .ok (.invokestatic 117, 3) := by decide +kernel
theorem d_Law_law_860 : decode code 860 = .ok (.istore 5, 2) := by decide +kernel
theorem d_Law_law_862 : decode code 862 = .ok (.aload_n 2, 1) := by decide +kernel
theorem d_Law_law_863 : decode code 863 = .ok (.aload_n 0, 1) := by decide +kernel
theorem d_Law_law_864 : decode code 864 = .ok (.iload 4, 2) := by decide +kernel
theorem d_Law_law_866 : decode code 866 = .ok (.iconst 1, 1) := by decide +kernel
theorem d_Law_law_867 : decode code 867 = .ok (.iadd, 1) := by decide +kernel
theorem d_Law_law_868 : decode code 868 = .ok (.iaload, 1) := by decide +kernel
theorem d_Law_law_869 : decode code 869 = .ok (.invokevirtual 119, 3) := by decide +kernel
theorem d_Law_law_872 : decode code 872 = .ok (.istore 6, 2) := by decide +kernel
theorem d_Law_law_874 : decode code 874 = .ok (.aload_n 2, 1) := by decide +kernel
theorem d_Law_law_875 : decode code 875 = .ok (.invokevirtual 79, 3) := by decide +kernel
theorem d_Law_law_878 : decode code 878 = .ok (.iload 5, 2) := by decide +kernel
theorem d_Law_law_880 : decode code 880 = .ok (.if_icmp .eq 5, 3) := by decide +kernel
theorem d_Law_law_883 : decode code 883 = .ok (.iconst 0, 1) := by decide +kernel
theorem d_Law_law_884 : decode code 884 = .ok (.ireturn, 1) := by decide +kernel
theorem d_Law_law_885 : decode code 885 = .ok (.iload 5, 2) := by decide +kernel
theorem d_Law_law_887 : decode code 887 = .ok (.ifCond .ne 15, 3) := by decide +kernel
theorem d_Law_law_890 : decode code 890 = .ok (.aload_n 3, 1) := by decide +kernel
theorem d_Law_law_891 : decode code 891 = .ok (.iconst 0, 1) := by decide +kernel
theorem d_Law_law_892 : decode code 892 = .ok (.laload, 1) := by decide +kernel
theorem d_Law_law_893 : decode code 893 = .ok (.iload 6, 2) := by decide +kernel
theorem d_Law_law_895 : decode code 895 = .ok (.i2l, 1) := by decide +kernel
theorem d_Law_law_896 : decode code 896 = .ok (.lcmp, 1) := by decide +kernel
theorem d_Law_law_897 : decode code 897 = .ok (.ifCond .eq 5, 3) := by decide +kernel
theorem d_Law_law_900 : decode code 900 = .ok (.iconst 0, 1) := by decide +kernel
theorem d_Law_law_901 : decode code 901 = .ok (.ireturn, 1) := by decide +kernel
theorem d_Law_law_902 : decode code 902 = .ok (.goto 309, 3) := by decide +kernel
theorem d_Law_law_905 : decode code 905 = .ok (.aload_n 1, 1) := by decide +kernel
theorem d_Law_law_906 : decode code 906 = .ok (.aload_n 0, 1) := by decide +kernel
theorem d_Law_law_907 : decode code 907 = .ok (.iload 4, 2) := by decide +kernel
theorem d_Law_law_909 : decode code 909 = .ok (.iconst 1, 1) := by decide +kernel
theorem d_Law_law_910 : decode code 910 = .ok (.iadd, 1) := by decide +kernel
theorem d_Law_law_911 : decode code 911 = .ok (.iaload, 1) := by decide +kernel
theorem d_Law_law_912 : decode code 912 = .ok (.aload_n 0, 1) := by decide +kernel
theorem d_Law_law_913 : decode code 913 = .ok (.iload 4, 2) := by decide +kernel
theorem d_Law_law_915 : decode code 915 = .ok (.iconst 2, 1) := by decide +kernel
theorem d_Law_law_916 : decode code 916 = .ok (.iadd, 1) := by decide +kernel
theorem d_Law_law_917 : decode code 917 = .ok (.iaload, 1) := by decide +kernel
theorem d_Law_law_918 : decode code 918 = .ok (.aload_n 0, 1) := by decide +kernel
theorem d_Law_law_919 : decode code 919 = .ok (.iload 4, 2) := by decide +kernel
theorem d_Law_law_921 : decode code 921 = .ok (.iconst 3, 1) := by decide +kernel
theorem d_Law_law_922 : decode code 922 = .ok (.iadd, 1) := by decide +kernel
theorem d_Law_law_923 : decode code 923 = .ok (.iaload, 1) := by decide +kernel
theorem d_Law_law_924 : decode code 924 = .ok (.aload_n 3, 1) := by decide +kernel
theorem d_Law_law_925 : decode code 925 = .ok (.invokestatic 120, 3) := by decide +kernel
theorem d_Law_law_928 : decode code 928 = .ok (.istore 5, 2) := by decide +kernel
theorem d_Law_law_930 : decode code 930 = .ok (.aload_n 2, 1) := by decide +kernel
theorem d_Law_law_931 : decode code 931 = .ok (.aload_n 0, 1) := by decide +kernel
theorem d_Law_law_932 : decode code 932 = .ok (.iload 4, 2) := by decide +kernel
theorem d_Law_law_934 : decode code 934 = .ok (.iconst 1, 1) := by decide +kernel
theorem d_Law_law_935 : decode code 935 = .ok (.iadd, 1) := by decide +kernel
theorem d_Law_law_936 : decode code 936 = .ok (.iaload, 1) := by decide +kernel
theorem d_Law_law_937 : decode code 937 = .ok (.aload_n 0, 1) := by decide +kernel
theorem d_Law_law_938 : decode code 938 = .ok (.iload 4, 2) := by decide +kernel
theorem d_Law_law_940 : decode code 940 = .ok (.iconst 2, 1) := by decide +kernel
theorem d_Law_law_941 : decode code 941 = .ok (.iadd, 1) := by decide +kernel
theorem d_Law_law_942 : decode code 942 = .ok (.iaload, 1) := by decide +kernel
theorem d_Law_law_943 : decode code 943 = .ok (.aload_n 0, 1) := by decide +kernel
theorem d_Law_law_944 : decode code 944 = .ok (.iload 4, 2) := by decide +kernel
theorem d_Law_law_946 : decode code 946 = .ok (.iconst 3, 1) := by decide +kernel
theorem d_Law_law_947 : decode code 947 = .ok (.iadd, 1) := by decide +kernel
theorem d_Law_law_948 : decode code 948 = .ok (.iaload, 1) := by decide +kernel
theorem d_Law_law_949 : decode code 949 = .ok (.invokevirtual 122, 3) := by decide +kernel
theorem d_Law_law_952 : decode code 952 = .ok (.istore 6, 2) := by decide +kernel
theorem d_Law_law_954 : decode code 954 = .ok (.aload_n 2, 1) := by decide +kernel
theorem d_Law_law_955 : decode code 955 = .ok (.invokevirtual 79, 3) := by decide +kernel
theorem d_Law_law_958 : decode code 958 = .ok (.iload 5, 2) := by decide +kernel
theorem d_Law_law_960 : decode code 960 = .ok (.if_icmp .eq 5, 3) := by decide +kernel
theorem d_Law_law_963 : decode code 963 = .ok (.iconst 0, 1) := by decide +kernel
theorem d_Law_law_964 : decode code 964 = .ok (.ireturn, 1) := by decide +kernel
theorem d_Law_law_965 : decode code 965 = .ok (.iload 5, 2) := by decide +kernel
theorem d_Law_law_967 : decode code 967 = .ok (.ifCond .ne 15, 3) := by decide +kernel
theorem d_Law_law_970 : decode code 970 = .ok (.aload_n 3, 1) := by decide +kernel
theorem d_Law_law_971 : decode code 971 = .ok (.iconst 0, 1) := by decide +kernel
theorem d_Law_law_972 : decode code 972 = .ok (.laload, 1) := by decide +kernel
theorem d_Law_law_973 : decode code 973 = .ok (.iload 6, 2) := by decide +kernel
theorem d_Law_law_975 : decode code 975 = .ok (.i2l, 1) := by decide +kernel
theorem d_Law_law_976 : decode code 976 = .ok (.lcmp, 1) := by decide +kernel
theorem d_Law_law_977 : decode code 977 = .ok (.ifCond .eq 5, 3) := by decide +kernel
theorem d_Law_law_980 : decode code 980 = .ok (.iconst 0, 1) := by decide +kernel
theorem d_Law_law_981 : decode code 981 = .ok (.ireturn, 1) := by decide +kernel
theorem d_Law_law_982 : decode code 982 = .ok (.goto 229, 3) := by decide +kernel
theorem d_Law_law_985 : decode code 985 = .ok (.aload_n 1, 1) := by decide +kernel
theorem d_Law_law_986 : decode code 986 = .ok (.aload_n 0, 1) := by decide +kernel
theorem d_Law_law_987 : decode code 987 = .ok (.iload 4, 2) := by decide +kernel
theorem d_Law_law_989 : decode code 989 = .ok (.iconst 1, 1) := by decide +kernel
theorem d_Law_law_990 : decode code 990 = .ok (.iadd, 1) := by decide +kernel
theorem d_Law_law_991 : decode code 991 = .ok (.iaload, 1) := by decide +kernel
theorem d_Law_law_992 : decode code 992 = .ok (.aload_n 0, 1) := by decide +kernel
theorem d_Law_law_993 : decode code 993 = .ok (.iload 4, 2) := by decide +kernel
theorem d_Law_law_995 : decode code 995 = .ok (.iconst 2, 1) := by decide +kernel
theorem d_Law_law_996 : decode code 996 = .ok (.iadd, 1) := by decide +kernel
theorem d_Law_law_997 : decode code 997 = .ok (.iaload, 1) := by decide +kernel
theorem d_Law_law_998 : decode code 998 = .ok (.aload_n 3, 1) := by decide +kernel
theorem d_Law_law_999 : decode code 999 = .ok (.invokestatic 123, 3) := by decide +kernel
theorem d_Law_law_1002 : decode code 1002 = .ok (.istore 5, 2) := by decide +kernel
theorem d_Law_law_1004 : decode code 1004 = .ok (.aload_n 2, 1) := by decide +kernel
theorem d_Law_law_1005 : decode code 1005 = .ok (.aload_n 0, 1) := by decide +kernel
theorem d_Law_law_1006 : decode code 1006 = .ok (.iload 4, 2) := by decide +kernel
theorem d_Law_law_1008 : decode code 1008 = .ok (.iconst 1, 1) := by decide +kernel
theorem d_Law_law_1009 : decode code 1009 = .ok (.iadd, 1) := by decide +kernel
theorem d_Law_law_1010 : decode code 1010 = .ok (.iaload, 1) := by decide +kernel
theorem d_Law_law_1011 : decode code 1011 = .ok (.aload_n 0, 1) := by decide +kernel
theorem d_Law_law_1012 : decode code 1012 = .ok (.iload 4, 2) := by decide +kernel
theorem d_Law_law_1014 : decode code 1014 = .ok (.iconst 2, 1) := by decide +kernel
theorem d_Law_law_1015 : decode code 1015 = .ok (.iadd, 1) := by decide +kernel
theorem d_Law_law_1016 : decode code 1016 = .ok (.iaload, 1) := by decide +kernel
theorem d_Law_law_1017 : decode code 1017 = .ok (.invokevirtual 125, 3) := by decide +kernel
theorem d_Law_law_1020 : decode code 1020 = .ok (.lstore 6, 2) := by decide +kernel
theorem d_Law_law_1022 : decode code 1022 = .ok (.aload_n 2, 1) := by decide +kernel
theorem d_Law_law_1023 : decode code 1023 = .ok (.invokevirtual 79, 3) := by decide +kernel
theorem d_Law_law_1026 : decode code 1026 = .ok (.iload 5, 2) := by decide +kernel
theorem d_Law_law_1028 : decode code 1028 = .ok (.if_icmp .eq 5, 3) := by decide +kernel
theorem d_Law_law_1031 : decode code 1031 = .ok (.iconst 0, 1) := by decide +kernel
theorem d_Law_law_1032 : decode code 1032 = .ok (.ireturn, 1) := by decide +kernel
theorem d_Law_law_1033 : decode code 1033 = .ok (.iload 5, 2) := by decide +kernel
theorem d_Law_law_1035 : decode code 1035 = .ok (.ifCond .ne 14, 3) := by decide +kernel
theorem d_Law_law_1038 : decode code 1038 = .ok (.aload_n 3, 1) := by decide +kernel
theorem d_Law_law_1039 : decode code 1039 = .ok (.iconst 0, 1) := by decide +kernel
theorem d_Law_law_1040 : decode code 1040 = .ok (.laload, 1) := by decide +kernel
theorem d_Law_law_1041 : decode code 1041 = .ok (.lload 6, 2) := by decide +kernel
theorem d_Law_law_1043 : decode code 1043 = .ok (.lcmp, 1) := by decide +kernel
theorem d_Law_law_1044 : decode code 1044 = .ok (.ifCond .eq 5, 3) := by decide +kernel
theorem d_Law_law_1047 : decode code 1047 = .ok (.iconst 0, 1) := by decide +kernel
theorem d_Law_law_1048 : decode code 1048 = .ok (.ireturn, 1) := by decide +kernel
theorem d_Law_law_1049 : decode code 1049 = .ok (.goto 162, 3) := by decide +kernel
theorem d_Law_law_1052 : decode code 1052 = .ok (.aload_n 1, 1) := by decide +kernel
theorem d_Law_law_1053 : decode code 1053 = .ok (.aload_n 0, 1) := by decide +kernel
theorem d_Law_law_1054 : decode code 1054 = .ok (.iload 4, 2) := by decide +kernel
theorem d_Law_law_1056 : decode code 1056 = .ok (.iconst 1, 1) := by decide +kernel
theorem d_Law_law_1057 : decode code 1057 = .ok (.iadd, 1) := by decide +kernel
theorem d_Law_law_1058 : decode code 1058 = .ok (.iaload, 1) := by decide +kernel
theorem d_Law_law_1059 : decode code 1059 = .ok (.aload_n 0, 1) := by decide +kernel
theorem d_Law_law_1060 : decode code 1060 = .ok (.iload 4, 2) := by decide +kernel
theorem d_Law_law_1062 : decode code 1062 = .ok (.iconst 2, 1) := by decide +kernel
theorem d_Law_law_1063 : decode code 1063 = .ok (.iadd, 1) := by decide +kernel
theorem d_Law_law_1064 : decode code 1064 = .ok (.iaload, 1) := by decide +kernel
theorem d_Law_law_1065 : decode code 1065 = .ok (.aload_n 0, 1) := by decide +kernel
theorem d_Law_law_1066 : decode code 1066 = .ok (.iload 4, 2) := by decide +kernel
theorem d_Law_law_1068 : decode code 1068 = .ok (.iconst 3, 1) := by decide +kernel
theorem d_Law_law_1069 : decode code 1069 = .ok (.iadd, 1) := by decide +kernel
theorem d_Law_law_1070 : decode code 1070 = .ok (.iaload, 1) := by decide +kernel
theorem d_Law_law_1071 : decode code 1071 = .ok (.aload_n 0, 1) := by decide +kernel
theorem d_Law_law_1072 : decode code 1072 = .ok (.iload 4, 2) := by decide +kernel
theorem d_Law_law_1074 : decode code 1074 = .ok (.iconst 4, 1) := by decide +kernel
theorem d_Law_law_1075 : decode code 1075 = .ok (.iadd, 1) := by decide +kernel
theorem d_Law_law_1076 : decode code 1076 = .ok (.iaload, 1) := by decide +kernel
theorem d_Law_law_1077 : decode code 1077 = .ok (.aload_n 0, 1) := by decide +kernel
theorem d_Law_law_1078 : decode code 1078 = .ok (.iload 4, 2) := by decide +kernel
theorem d_Law_law_1080 : decode code 1080 = .ok (.iconst 5, 1) := by decide +kernel
theorem d_Law_law_1081 : decode code 1081 = .ok (.iadd, 1) := by decide +kernel
theorem d_Law_law_1082 : decode code 1082 = .ok (.iaload, 1) := by decide +kernel
theorem d_Law_law_1083 : decode code 1083 = .ok (.aload_n 3, 1) := by decide +kernel
theorem d_Law_law_1084 : decode code 1084 = .ok (.invokestatic 126, 3) := by decide +kernel
theorem d_Law_law_1087 : decode code 1087 = .ok (.istore 5, 2) := by decide +kernel
theorem d_Law_law_1089 : decode code 1089 = .ok (.aload_n 2, 1) := by decide +kernel
theorem d_Law_law_1090 : decode code 1090 = .ok (.aload_n 0, 1) := by decide +kernel
theorem d_Law_law_1091 : decode code 1091 = .ok (.iload 4, 2) := by decide +kernel
theorem d_Law_law_1093 : decode code 1093 = .ok (.iconst 1, 1) := by decide +kernel
theorem d_Law_law_1094 : decode code 1094 = .ok (.iadd, 1) := by decide +kernel
theorem d_Law_law_1095 : decode code 1095 = .ok (.iaload, 1) := by decide +kernel
theorem d_Law_law_1096 : decode code 1096 = .ok (.aload_n 0, 1) := by decide +kernel
theorem d_Law_law_1097 : decode code 1097 = .ok (.iload 4, 2) := by decide +kernel
theorem d_Law_law_1099 : decode code 1099 = .ok (.iconst 2, 1) := by decide +kernel
theorem d_Law_law_1100 : decode code 1100 = .ok (.iadd, 1) := by decide +kernel
theorem d_Law_law_1101 : decode code 1101 = .ok (.iaload, 1) := by decide +kernel
theorem d_Law_law_1102 : decode code 1102 = .ok (.aload_n 0, 1) := by decide +kernel
theorem d_Law_law_1103 : decode code 1103 = .ok (.iload 4, 2) := by decide +kernel
theorem d_Law_law_1105 : decode code 1105 = .ok (.iconst 3, 1) := by decide +kernel
theorem d_Law_law_1106 : decode code 1106 = .ok (.iadd, 1) := by decide +kernel
theorem d_Law_law_1107 : decode code 1107 = .ok (.iaload, 1) := by decide +kernel
theorem d_Law_law_1108 : decode code 1108 = .ok (.aload_n 0, 1) := by decide +kernel
theorem d_Law_law_1109 : decode code 1109 = .ok (.iload 4, 2) := by decide +kernel
theorem d_Law_law_1111 : decode code 1111 = .ok (.iconst 4, 1) := by decide +kernel
theorem d_Law_law_1112 : decode code 1112 = .ok (.iadd, 1) := by decide +kernel
theorem d_Law_law_1113 : decode code 1113 = .ok (.iaload, 1) := by decide +kernel
theorem d_Law_law_1114 : decode code 1114 = .ok (.aload_n 0, 1) := by decide +kernel
theorem d_Law_law_1115 : decode code 1115 = .ok (.iload 4, 2) := by decide +kernel
theorem d_Law_law_1117 : decode code 1117 = .ok (.iconst 5, 1) := by decide +kernel
theorem d_Law_law_1118 : decode code 1118 = .ok (.iadd, 1) := by decide +kernel
theorem d_Law_law_1119 : decode code 1119 = .ok (.iaload, 1) := by decide +kernel
theorem d_Law_law_1120 : decode code 1120 = .ok (.invokevirtual 129, 3) := by decide +kernel
theorem d_Law_law_1123 : decode code 1123 = .ok (.lstore 6, 2) := by decide +kernel
theorem d_Law_law_1125 : decode code 1125 = .ok (.aload_n 2, 1) := by decide +kernel
theorem d_Law_law_1126 : decode code 1126 = .ok (.invokevirtual 79, 3) := by decide +kernel
theorem d_Law_law_1129 : decode code 1129 = .ok (.iload 5, 2) := by decide +kernel
theorem d_Law_law_1131 : decode code 1131 = .ok (.if_icmp .eq 5, 3) := by decide +kernel
theorem d_Law_law_1134 : decode code 1134 = .ok (.iconst 0, 1) := by decide +kernel
theorem d_Law_law_1135 : decode code 1135 = .ok (.ireturn, 1) := by decide +kernel
theorem d_Law_law_1136 : decode code 1136 = .ok (.iload 5, 2) := by decide +kernel
theorem d_Law_law_1138 : decode code 1138 = .ok (.ifCond .ne 14, 3) := by decide +kernel
theorem d_Law_law_1141 : decode code 1141 = .ok (.aload_n 3, 1) := by decide +kernel
theorem d_Law_law_1142 : decode code 1142 = .ok (.iconst 0, 1) := by decide +kernel
theorem d_Law_law_1143 : decode code 1143 = .ok (.laload, 1) := by decide +kernel
theorem d_Law_law_1144 : decode code 1144 = .ok (.lload 6, 2) := by decide +kernel
theorem d_Law_law_1146 : decode code 1146 = .ok (.lcmp, 1) := by decide +kernel
theorem d_Law_law_1147 : decode code 1147 = .ok (.ifCond .eq 5, 3) := by decide +kernel
theorem d_Law_law_1150 : decode code 1150 = .ok (.iconst 0, 1) := by decide +kernel
theorem d_Law_law_1151 : decode code 1151 = .ok (.ireturn, 1) := by decide +kernel
theorem d_Law_law_1152 : decode code 1152 = .ok (.goto 59, 3) := by decide +kernel
theorem d_Law_law_1155 : decode code 1155 = .ok (.aload_n 1, 1) := by decide +kernel
theorem d_Law_law_1156 : decode code 1156 = .ok (.aload_n 0, 1) := by decide +kernel
theorem d_Law_law_1157 : decode code 1157 = .ok (.iload 4, 2) := by decide +kernel
theorem d_Law_law_1159 : decode code 1159 = .ok (.iconst 1, 1) := by decide +kernel
theorem d_Law_law_1160 : decode code 1160 = .ok (.iadd, 1) := by decide +kernel
theorem d_Law_law_1161 : decode code 1161 = .ok (.iaload, 1) := by decide +kernel
theorem d_Law_law_1162 : decode code 1162 = .ok (.aload_n 3, 1) := by decide +kernel
theorem d_Law_law_1163 : decode code 1163 = .ok (.invokestatic 130, 3) := by decide +kernel
theorem d_Law_law_1166 : decode code 1166 = .ok (.istore 5, 2) := by decide +kernel
theorem d_Law_law_1168 : decode code 1168 = .ok (.aload_n 2, 1) := by decide +kernel
theorem d_Law_law_1169 : decode code 1169 = .ok (.aload_n 0, 1) := by decide +kernel
theorem d_Law_law_1170 : decode code 1170 = .ok (.iload 4, 2) := by decide +kernel
theorem d_Law_law_1172 : decode code 1172 = .ok (.iconst 1, 1) := by decide +kernel
theorem d_Law_law_1173 : decode code 1173 = .ok (.iadd, 1) := by decide +kernel
theorem d_Law_law_1174 : decode code 1174 = .ok (.iaload, 1) := by decide +kernel
theorem d_Law_law_1175 : decode code 1175 = .ok (.invokevirtual 132, 3) := by decide +kernel
theorem d_Law_law_1178 : decode code 1178 = .ok (.istore 6, 2) := by decide +kernel
theorem d_Law_law_1180 : decode code 1180 = .ok (.aload_n 2, 1) := by decide +kernel
theorem d_Law_law_1181 : decode code 1181 = .ok (.invokevirtual 79, 3) := by decide +kernel
theorem d_Law_law_1184 : decode code 1184 = .ok (.iload 5, 2) := by decide +kernel
theorem d_Law_law_1186 : decode code 1186 = .ok (.if_icmp .eq 5, 3) := by decide +kernel
theorem d_Law_law_1189 : decode code 1189 = .ok (.iconst 0, 1) := by decide +kernel
theorem d_Law_law_1190 : decode code 1190 = .ok (.ireturn, 1) := by decide +kernel
theorem d_Law_law_1191 : decode code 1191 = .ok (.iload 5, 2) := by decide +kernel
theorem d_Law_law_1193 : decode code 1193 = .ok (.ifCond .ne 15, 3) := by decide +kernel
theorem d_Law_law_1196 : decode code 1196 = .ok (.aload_n 3, 1) := by decide +kernel
theorem d_Law_law_1197 : decode code 1197 = .ok (.iconst 0, 1) := by decide +kernel
theorem d_Law_law_1198 : decode code 1198 = .ok (.laload, 1) := by decide +kernel
theorem d_Law_law_1199 : decode code 1199 = .ok (.iload 6, 2) := by decide +kernel
theorem d_Law_law_1201 : decode code 1201 = .ok (.i2l, 1) := by decide +kernel
theorem d_Law_law_1202 : decode code 1202 = .ok (.lcmp, 1) := by decide +kernel
theorem d_Law_law_1203 : decode code 1203 = .ok (.ifCond .eq 5, 3) := by decide +kernel
theorem d_Law_law_1206 : decode code 1206 = .ok (.iconst 0, 1) := by decide +kernel
theorem d_Law_law_1207 : decode code 1207 = .ok (.ireturn, 1) := by decide +kernel
theorem d_Law_law_1208 : decode code 1208 = .ok (.goto 3, 3) := by decide +kernel
theorem d_Law_law_1211 : decode code 1211 = .ok (.iinc 4 6, 3) := by decide +kernel
theorem d_Law_law_1214 : decode code 1214 = .ok (.goto (-1191), 3) := by decide +kernel
theorem d_Law_law_1217 : decode code 1217 = .ok (.iconst 1, 1) := by decide +kernel
theorem d_Law_law_1218 : decode code 1218 = .ok (.ireturn, 1) := by decide +kernel
end
section
/-! Links: fields, objects, calls. -/
def fw_lnk (own : String) (idx : Nat) (y : MethodName) : Prop := Cond.methodLink own idx y ∈ fw_big ∨ ∃ host, Cond.methodLinkNest own idx y host ∈ fw_big
def fw_me (M' : Mi) (n : Nat) : Prop := fw_word M' ∈ fw_big ∧ (fw_word M').onTables = true ∧ Cond.initialized M'.1.cls ∈ fw_big ∧ (M'.1.cls ≠ "java/lang/invoke/MethodHandle" ∧ M'.1.cls ≠ "java/lang/invoke/VarHandle") ∧ (parseMethodDescriptor M'.1.desc).map (fun d => d.parameters.length) = some n ∧ M'.2.2.1 ≤ 20
theorem uw_DV : ∀ x ∈ u_ws "DeltaViews" T_DV 3, x ∈ fw_big := by
  intro x hx
  obtain ⟨k, hk, rfl⟩ := List.mem_map.mp hx
  have hk := List.mem_range.mp hk
  match k, hk with
  | 0, _ => exact fw_mem 168 (by decide +kernel) rfl
  | 1, _ => exact fw_mem 170 (by decide +kernel) rfl
  | 2, _ => exact fw_mem 172 (by decide +kernel) rfl
theorem uw_View : ∀ x ∈ u_ws "DeltaViews$View" T_View 4, x ∈ fw_big := by
  intro x hx
  obtain ⟨k, hk, rfl⟩ := List.mem_map.mp hx
  have hk := List.mem_range.mp hk
  match k, hk with
  | 0, _ => exact fw_mem 156 (by decide +kernel) rfl
  | 1, _ => exact fw_mem 158 (by decide +kernel) rfl
  | 2, _ => exact fw_mem 160 (by decide +kernel) rfl
  | 3, _ => exact fw_mem 162 (by decide +kernel) rfl
theorem uw_Bag : ∀ x ∈ u_ws "DeltaViews$Bag" T_Bag 5, x ∈ fw_big := by
  intro x hx
  obtain ⟨k, hk, rfl⟩ := List.mem_map.mp hx
  have hk := List.mem_range.mp hk
  match k, hk with
  | 0, _ => exact fw_mem 132 (by decide +kernel) rfl
  | 1, _ => exact fw_mem 134 (by decide +kernel) rfl
  | 2, _ => exact fw_mem 136 (by decide +kernel) rfl
  | 3, _ => exact fw_mem 138 (by decide +kernel) rfl
  | 4, _ => exact fw_mem 140 (by decide +kernel) rfl
theorem uw_Batch : ∀ x ∈ u_ws "DeltaViews$Batch" T_Batch 5, x ∈ fw_big := by
  intro x hx
  obtain ⟨k, hk, rfl⟩ := List.mem_map.mp hx
  have hk := List.mem_range.mp hk
  match k, hk with
  | 0, _ => exact fw_mem 81 (by decide +kernel) rfl
  | 1, _ => exact fw_mem 83 (by decide +kernel) rfl
  | 2, _ => exact fw_mem 85 (by decide +kernel) rfl
  | 3, _ => exact fw_mem 87 (by decide +kernel) rfl
  | 4, _ => exact fw_mem 89 (by decide +kernel) rfl
theorem uw_Table : ∀ x ∈ u_ws "DeltaViews$Table" T_Table 0, x ∈ fw_big := by
  intro x hx; simp [u_ws] at hx
theorem uw_Select : ∀ x ∈ u_ws "DeltaViews$Select" T_Select 4, x ∈ fw_big := by
  intro x hx
  obtain ⟨k, hk, rfl⟩ := List.mem_map.mp hx
  have hk := List.mem_range.mp hk
  match k, hk with
  | 0, _ => exact fw_mem 526 (by decide +kernel) rfl
  | 1, _ => exact fw_mem 528 (by decide +kernel) rfl
  | 2, _ => exact fw_mem 530 (by decide +kernel) rfl
  | 3, _ => exact fw_mem 532 (by decide +kernel) rfl
theorem uw_Project : ∀ x ∈ u_ws "DeltaViews$Project" T_Project 3, x ∈ fw_big := by
  intro x hx
  obtain ⟨k, hk, rfl⟩ := List.mem_map.mp hx
  have hk := List.mem_range.mp hk
  match k, hk with
  | 0, _ => exact fw_mem 563 (by decide +kernel) rfl
  | 1, _ => exact fw_mem 565 (by decide +kernel) rfl
  | 2, _ => exact fw_mem 567 (by decide +kernel) rfl
theorem uw_Join : ∀ x ∈ u_ws "DeltaViews$Join" T_Join 4, x ∈ fw_big := by
  intro x hx
  obtain ⟨k, hk, rfl⟩ := List.mem_map.mp hx
  have hk := List.mem_range.mp hk
  match k, hk with
  | 0, _ => exact fw_mem 587 (by decide +kernel) rfl
  | 1, _ => exact fw_mem 589 (by decide +kernel) rfl
  | 2, _ => exact fw_mem 591 (by decide +kernel) rfl
  | 3, _ => exact fw_mem 593 (by decide +kernel) rfl
theorem uw_Union : ∀ x ∈ u_ws "DeltaViews$Union" T_Union 2, x ∈ fw_big := by
  intro x hx
  obtain ⟨k, hk, rfl⟩ := List.mem_map.mp hx
  have hk := List.mem_range.mp hk
  match k, hk with
  | 0, _ => exact fw_mem 612 (by decide +kernel) rfl
  | 1, _ => exact fw_mem 614 (by decide +kernel) rfl
theorem uw_Group : ∀ x ∈ u_ws "DeltaViews$Group" T_Group 4, x ∈ fw_big := by
  intro x hx
  obtain ⟨k, hk, rfl⟩ := List.mem_map.mp hx
  have hk := List.mem_range.mp hk
  match k, hk with
  | 0, _ => exact fw_mem 634 (by decide +kernel) rfl
  | 1, _ => exact fw_mem 636 (by decide +kernel) rfl
  | 2, _ => exact fw_mem 638 (by decide +kernel) rfl
  | 3, _ => exact fw_mem 640 (by decide +kernel) rfl
theorem uw_Distinct : ∀ x ∈ u_ws "DeltaViews$Distinct" T_Distinct 1, x ∈ fw_big := by
  intro x hx
  obtain ⟨k, hk, rfl⟩ := List.mem_map.mp hx
  have hk := List.mem_range.mp hk
  match k, hk with
  | 0, _ => exact fw_mem 657 (by decide +kernel) rfl
theorem uw_Mo : ∀ x ∈ u_ws "DeltaViewsModel" T_Mo 22, x ∈ fw_big := by
  intro x hx
  obtain ⟨k, hk, rfl⟩ := List.mem_map.mp hx
  have hk := List.mem_range.mp hk
  match k, hk with
  | 0, _ => exact fw_mem 765 (by decide +kernel) rfl
  | 1, _ => exact fw_mem 767 (by decide +kernel) rfl
  | 2, _ => exact fw_mem 769 (by decide +kernel) rfl
  | 3, _ => exact fw_mem 771 (by decide +kernel) rfl
  | 4, _ => exact fw_mem 773 (by decide +kernel) rfl
  | 5, _ => exact fw_mem 775 (by decide +kernel) rfl
  | 6, _ => exact fw_mem 777 (by decide +kernel) rfl
  | 7, _ => exact fw_mem 779 (by decide +kernel) rfl
  | 8, _ => exact fw_mem 781 (by decide +kernel) rfl
  | 9, _ => exact fw_mem 783 (by decide +kernel) rfl
  | 10, _ => exact fw_mem 785 (by decide +kernel) rfl
  | 11, _ => exact fw_mem 787 (by decide +kernel) rfl
  | 12, _ => exact fw_mem 789 (by decide +kernel) rfl
  | 13, _ => exact fw_mem 791 (by decide +kernel) rfl
  | 14, _ => exact fw_mem 793 (by decide +kernel) rfl
  | 15, _ => exact fw_mem 795 (by decide +kernel) rfl
  | 16, _ => exact fw_mem 797 (by decide +kernel) rfl
  | 17, _ => exact fw_mem 799 (by decide +kernel) rfl
  | 18, _ => exact fw_mem 801 (by decide +kernel) rfl
  | 19, _ => exact fw_mem 803 (by decide +kernel) rfl
  | 20, _ => exact fw_mem 805 (by decide +kernel) rfl
  | 21, _ => exact fw_mem 807 (by decide +kernel) rfl
  | n + 22, h => exact absurd h (by omega)
theorem fl_DV_11 : fw_fl "DeltaViews" 11 0 0 := ⟨"DeltaViews", T_DV, 3, rfl, by decide, uw_DV, Or.inl (fw_mem 165 (by decide +kernel) rfl)⟩
theorem fl_DV_15 : fw_fl "DeltaViews" 15 0 1 := ⟨"DeltaViews", T_DV, 3, rfl, by decide, uw_DV, Or.inl (fw_mem 166 (by decide +kernel) rfl)⟩
theorem fl_DV_22 : fw_fl "DeltaViews" 22 0 2 := ⟨"DeltaViews", T_DV, 3, rfl, by decide, uw_DV, Or.inl (fw_mem 167 (by decide +kernel) rfl)⟩
theorem fl_DV_73 : fw_fl "DeltaViews" 73 1 3 := ⟨"DeltaViews$View", T_View, 4, rfl, by decide, uw_View, Or.inr ⟨"DeltaViews", fw_mem 155 (by decide +kernel) rfl⟩⟩
theorem fl_DV_106 : fw_fl "DeltaViews" 106 1 1 := ⟨"DeltaViews$View", T_View, 4, rfl, by decide, uw_View, Or.inr ⟨"DeltaViews", fw_mem 152 (by decide +kernel) rfl⟩⟩
theorem fl_DV_110 : fw_fl "DeltaViews" 110 2 0 := ⟨"DeltaViews$Bag", T_Bag, 5, rfl, by decide, uw_Bag, Or.inr ⟨"DeltaViews", fw_mem 119 (by decide +kernel) rfl⟩⟩
theorem fl_DV_141 : fw_fl "DeltaViews" 141 2 1 := ⟨"DeltaViews$Bag", T_Bag, 5, rfl, by decide, uw_Bag, Or.inr ⟨"DeltaViews", fw_mem 128 (by decide +kernel) rfl⟩⟩
theorem fl_Bag_9 : fw_fl "DeltaViews$Bag" 9 2 0 := ⟨"DeltaViews$Bag", T_Bag, 5, rfl, by decide, uw_Bag, Or.inl (fw_mem 114 (by decide +kernel) rfl)⟩
theorem fl_Bag_15 : fw_fl "DeltaViews$Bag" 15 2 1 := ⟨"DeltaViews$Bag", T_Bag, 5, rfl, by decide, uw_Bag, Or.inl (fw_mem 120 (by decide +kernel) rfl)⟩
theorem fl_Bag_18 : fw_fl "DeltaViews$Bag" 18 2 2 := ⟨"DeltaViews$Bag", T_Bag, 5, rfl, by decide, uw_Bag, Or.inl (fw_mem 129 (by decide +kernel) rfl)⟩
theorem fl_Bag_22 : fw_fl "DeltaViews$Bag" 22 2 3 := ⟨"DeltaViews$Bag", T_Bag, 5, rfl, by decide, uw_Bag, Or.inl (fw_mem 130 (by decide +kernel) rfl)⟩
theorem fl_Bag_26 : fw_fl "DeltaViews$Bag" 26 2 4 := ⟨"DeltaViews$Bag", T_Bag, 5, rfl, by decide, uw_Bag, Or.inl (fw_mem 131 (by decide +kernel) rfl)⟩
theorem fl_Batch_9 : fw_fl "DeltaViews$Batch" 9 3 0 := ⟨"DeltaViews$Batch", T_Batch, 5, rfl, by decide, uw_Batch, Or.inl (fw_mem 76 (by decide +kernel) rfl)⟩
theorem fl_Batch_15 : fw_fl "DeltaViews$Batch" 15 3 1 := ⟨"DeltaViews$Batch", T_Batch, 5, rfl, by decide, uw_Batch, Or.inl (fw_mem 77 (by decide +kernel) rfl)⟩
theorem fl_Batch_18 : fw_fl "DeltaViews$Batch" 18 3 2 := ⟨"DeltaViews$Batch", T_Batch, 5, rfl, by decide, uw_Batch, Or.inl (fw_mem 78 (by decide +kernel) rfl)⟩
theorem fl_Batch_21 : fw_fl "DeltaViews$Batch" 21 3 3 := ⟨"DeltaViews$Batch", T_Batch, 5, rfl, by decide, uw_Batch, Or.inl (fw_mem 79 (by decide +kernel) rfl)⟩
theorem fl_Batch_24 : fw_fl "DeltaViews$Batch" 24 3 4 := ⟨"DeltaViews$Batch", T_Batch, 5, rfl, by decide, uw_Batch, Or.inl (fw_mem 80 (by decide +kernel) rfl)⟩
theorem fl_Distinct_7 : fw_fl "DeltaViews$Distinct" 7 10 0 := ⟨"DeltaViews$Distinct", T_Distinct, 1, rfl, by decide, uw_Distinct, Or.inl (fw_mem 656 (by decide +kernel) rfl)⟩
theorem fl_Distinct_13 : fw_fl "DeltaViews$Distinct" 13 1 1 := ⟨"DeltaViews$View", T_View, 4, rfl, by decide, uw_View, Or.inr ⟨"DeltaViews", fw_mem 146 (by decide +kernel) rfl⟩⟩
theorem fl_Distinct_19 : fw_fl "DeltaViews$Distinct" 19 2 0 := ⟨"DeltaViews$Bag", T_Bag, 5, rfl, by decide, uw_Bag, Or.inr ⟨"DeltaViews", fw_mem 117 (by decide +kernel) rfl⟩⟩
theorem fl_Distinct_29 : fw_fl "DeltaViews$Distinct" 29 2 1 := ⟨"DeltaViews$Bag", T_Bag, 5, rfl, by decide, uw_Bag, Or.inr ⟨"DeltaViews", fw_mem 122 (by decide +kernel) rfl⟩⟩
theorem fl_Group_9 : fw_fl "DeltaViews$Group" 9 9 0 := ⟨"DeltaViews$Group", T_Group, 4, rfl, by decide, uw_Group, Or.inl (fw_mem 630 (by decide +kernel) rfl)⟩
theorem fl_Group_15 : fw_fl "DeltaViews$Group" 15 9 1 := ⟨"DeltaViews$Group", T_Group, 4, rfl, by decide, uw_Group, Or.inl (fw_mem 631 (by decide +kernel) rfl)⟩
theorem fl_Group_19 : fw_fl "DeltaViews$Group" 19 9 2 := ⟨"DeltaViews$Group", T_Group, 4, rfl, by decide, uw_Group, Or.inl (fw_mem 632 (by decide +kernel) rfl)⟩
theorem fl_Group_22 : fw_fl "DeltaViews$Group" 22 9 3 := ⟨"DeltaViews$Group", T_Group, 4, rfl, by decide, uw_Group, Or.inl (fw_mem 633 (by decide +kernel) rfl)⟩
theorem fl_Group_25 : fw_fl "DeltaViews$Group" 25 1 1 := ⟨"DeltaViews$View", T_View, 4, rfl, by decide, uw_View, Or.inr ⟨"DeltaViews", fw_mem 147 (by decide +kernel) rfl⟩⟩
theorem fl_Group_37 : fw_fl "DeltaViews$Group" 37 2 1 := ⟨"DeltaViews$Bag", T_Bag, 5, rfl, by decide, uw_Bag, Or.inr ⟨"DeltaViews", fw_mem 121 (by decide +kernel) rfl⟩⟩
theorem fl_Join_7 : fw_fl "DeltaViews$Join" 7 7 0 := ⟨"DeltaViews$Join", T_Join, 4, rfl, by decide, uw_Join, Or.inl (fw_mem 583 (by decide +kernel) rfl)⟩
theorem fl_Join_13 : fw_fl "DeltaViews$Join" 13 7 1 := ⟨"DeltaViews$Join", T_Join, 4, rfl, by decide, uw_Join, Or.inl (fw_mem 584 (by decide +kernel) rfl)⟩
theorem fl_Join_16 : fw_fl "DeltaViews$Join" 16 7 2 := ⟨"DeltaViews$Join", T_Join, 4, rfl, by decide, uw_Join, Or.inl (fw_mem 585 (by decide +kernel) rfl)⟩
theorem fl_Join_20 : fw_fl "DeltaViews$Join" 20 7 3 := ⟨"DeltaViews$Join", T_Join, 4, rfl, by decide, uw_Join, Or.inl (fw_mem 586 (by decide +kernel) rfl)⟩
theorem fl_Join_23 : fw_fl "DeltaViews$Join" 23 1 1 := ⟨"DeltaViews$View", T_View, 4, rfl, by decide, uw_View, Or.inr ⟨"DeltaViews", fw_mem 150 (by decide +kernel) rfl⟩⟩
theorem fl_Join_29 : fw_fl "DeltaViews$Join" 29 2 0 := ⟨"DeltaViews$Bag", T_Bag, 5, rfl, by decide, uw_Bag, Or.inr ⟨"DeltaViews", fw_mem 115 (by decide +kernel) rfl⟩⟩
theorem fl_Join_38 : fw_fl "DeltaViews$Join" 38 2 1 := ⟨"DeltaViews$Bag", T_Bag, 5, rfl, by decide, uw_Bag, Or.inr ⟨"DeltaViews", fw_mem 125 (by decide +kernel) rfl⟩⟩
theorem fl_Oper_9 : fw_fl "DeltaViews$Operation" 9 2 1 := ⟨"DeltaViews$Bag", T_Bag, 5, rfl, by decide, uw_Bag, Or.inr ⟨"DeltaViews", fw_mem 126 (by decide +kernel) rfl⟩⟩
theorem fl_Project_7 : fw_fl "DeltaViews$Project" 7 6 0 := ⟨"DeltaViews$Project", T_Project, 3, rfl, by decide, uw_Project, Or.inl (fw_mem 560 (by decide +kernel) rfl)⟩
theorem fl_Project_13 : fw_fl "DeltaViews$Project" 13 6 1 := ⟨"DeltaViews$Project", T_Project, 3, rfl, by decide, uw_Project, Or.inl (fw_mem 561 (by decide +kernel) rfl)⟩
theorem fl_Project_17 : fw_fl "DeltaViews$Project" 17 6 2 := ⟨"DeltaViews$Project", T_Project, 3, rfl, by decide, uw_Project, Or.inl (fw_mem 562 (by decide +kernel) rfl)⟩
theorem fl_Project_20 : fw_fl "DeltaViews$Project" 20 1 1 := ⟨"DeltaViews$View", T_View, 4, rfl, by decide, uw_View, Or.inr ⟨"DeltaViews", fw_mem 148 (by decide +kernel) rfl⟩⟩
theorem fl_Project_32 : fw_fl "DeltaViews$Project" 32 2 1 := ⟨"DeltaViews$Bag", T_Bag, 5, rfl, by decide, uw_Bag, Or.inr ⟨"DeltaViews", fw_mem 123 (by decide +kernel) rfl⟩⟩
theorem fl_Select_9 : fw_fl "DeltaViews$Select" 9 5 0 := ⟨"DeltaViews$Select", T_Select, 4, rfl, by decide, uw_Select, Or.inl (fw_mem 522 (by decide +kernel) rfl)⟩
theorem fl_Select_15 : fw_fl "DeltaViews$Select" 15 5 1 := ⟨"DeltaViews$Select", T_Select, 4, rfl, by decide, uw_Select, Or.inl (fw_mem 523 (by decide +kernel) rfl)⟩
theorem fl_Select_19 : fw_fl "DeltaViews$Select" 19 5 2 := ⟨"DeltaViews$Select", T_Select, 4, rfl, by decide, uw_Select, Or.inl (fw_mem 524 (by decide +kernel) rfl)⟩
theorem fl_Select_22 : fw_fl "DeltaViews$Select" 22 5 3 := ⟨"DeltaViews$Select", T_Select, 4, rfl, by decide, uw_Select, Or.inl (fw_mem 525 (by decide +kernel) rfl)⟩
theorem fl_Select_25 : fw_fl "DeltaViews$Select" 25 1 1 := ⟨"DeltaViews$View", T_View, 4, rfl, by decide, uw_View, Or.inr ⟨"DeltaViews", fw_mem 149 (by decide +kernel) rfl⟩⟩
theorem fl_Select_31 : fw_fl "DeltaViews$Select" 31 2 0 := ⟨"DeltaViews$Bag", T_Bag, 5, rfl, by decide, uw_Bag, Or.inr ⟨"DeltaViews", fw_mem 118 (by decide +kernel) rfl⟩⟩
theorem fl_Select_40 : fw_fl "DeltaViews$Select" 40 2 1 := ⟨"DeltaViews$Bag", T_Bag, 5, rfl, by decide, uw_Bag, Or.inr ⟨"DeltaViews", fw_mem 124 (by decide +kernel) rfl⟩⟩
theorem fl_Table_15 : fw_fl "DeltaViews$Table" 15 2 1 := ⟨"DeltaViews$Bag", T_Bag, 5, rfl, by decide, uw_Bag, Or.inr ⟨"DeltaViews", fw_mem 127 (by decide +kernel) rfl⟩⟩
theorem fl_Union_7 : fw_fl "DeltaViews$Union" 7 8 0 := ⟨"DeltaViews$Union", T_Union, 2, rfl, by decide, uw_Union, Or.inl (fw_mem 610 (by decide +kernel) rfl)⟩
theorem fl_Union_13 : fw_fl "DeltaViews$Union" 13 8 1 := ⟨"DeltaViews$Union", T_Union, 2, rfl, by decide, uw_Union, Or.inl (fw_mem 611 (by decide +kernel) rfl)⟩
theorem fl_Union_16 : fw_fl "DeltaViews$Union" 16 1 1 := ⟨"DeltaViews$View", T_View, 4, rfl, by decide, uw_View, Or.inr ⟨"DeltaViews", fw_mem 151 (by decide +kernel) rfl⟩⟩
theorem fl_Union_22 : fw_fl "DeltaViews$Union" 22 2 0 := ⟨"DeltaViews$Bag", T_Bag, 5, rfl, by decide, uw_Bag, Or.inr ⟨"DeltaViews", fw_mem 116 (by decide +kernel) rfl⟩⟩
theorem fl_View_10 : fw_fl "DeltaViews$View" 10 1 1 := ⟨"DeltaViews$View", T_View, 4, rfl, by decide, uw_View, Or.inl (fw_mem 145 (by decide +kernel) rfl)⟩
theorem fl_View_16 : fw_fl "DeltaViews$View" 16 1 2 := ⟨"DeltaViews$View", T_View, 4, rfl, by decide, uw_View, Or.inl (fw_mem 153 (by decide +kernel) rfl)⟩
theorem fl_View_19 : fw_fl "DeltaViews$View" 19 1 3 := ⟨"DeltaViews$View", T_View, 4, rfl, by decide, uw_View, Or.inl (fw_mem 154 (by decide +kernel) rfl)⟩
theorem fl_View_23 : fw_fl "DeltaViews$View" 23 1 0 := ⟨"DeltaViews$View", T_View, 4, rfl, by decide, uw_View, Or.inl (fw_mem 144 (by decide +kernel) rfl)⟩
theorem fl_Mo_7 : fw_fl "DeltaViewsModel" 7 11 1 := ⟨"DeltaViewsModel", T_Mo, 22, rfl, by decide, uw_Mo, Or.inl (fw_mem 744 (by decide +kernel) rfl)⟩
theorem fl_Mo_13 : fw_fl "DeltaViewsModel" 13 11 2 := ⟨"DeltaViewsModel", T_Mo, 22, rfl, by decide, uw_Mo, Or.inl (fw_mem 745 (by decide +kernel) rfl)⟩
theorem fl_Mo_17 : fw_fl "DeltaViewsModel" 17 11 3 := ⟨"DeltaViewsModel", T_Mo, 22, rfl, by decide, uw_Mo, Or.inl (fw_mem 746 (by decide +kernel) rfl)⟩
theorem fl_Mo_20 : fw_fl "DeltaViewsModel" 20 11 4 := ⟨"DeltaViewsModel", T_Mo, 22, rfl, by decide, uw_Mo, Or.inl (fw_mem 747 (by decide +kernel) rfl)⟩
theorem fl_Mo_23 : fw_fl "DeltaViewsModel" 23 11 5 := ⟨"DeltaViewsModel", T_Mo, 22, rfl, by decide, uw_Mo, Or.inl (fw_mem 748 (by decide +kernel) rfl)⟩
theorem fl_Mo_26 : fw_fl "DeltaViewsModel" 26 11 6 := ⟨"DeltaViewsModel", T_Mo, 22, rfl, by decide, uw_Mo, Or.inl (fw_mem 749 (by decide +kernel) rfl)⟩
theorem fl_Mo_29 : fw_fl "DeltaViewsModel" 29 11 7 := ⟨"DeltaViewsModel", T_Mo, 22, rfl, by decide, uw_Mo, Or.inl (fw_mem 750 (by decide +kernel) rfl)⟩
theorem fl_Mo_32 : fw_fl "DeltaViewsModel" 32 11 8 := ⟨"DeltaViewsModel", T_Mo, 22, rfl, by decide, uw_Mo, Or.inl (fw_mem 751 (by decide +kernel) rfl)⟩
theorem fl_Mo_35 : fw_fl "DeltaViewsModel" 35 11 9 := ⟨"DeltaViewsModel", T_Mo, 22, rfl, by decide, uw_Mo, Or.inl (fw_mem 752 (by decide +kernel) rfl)⟩
theorem fl_Mo_38 : fw_fl "DeltaViewsModel" 38 11 10 := ⟨"DeltaViewsModel", T_Mo, 22, rfl, by decide, uw_Mo, Or.inl (fw_mem 753 (by decide +kernel) rfl)⟩
theorem fl_Mo_41 : fw_fl "DeltaViewsModel" 41 11 11 := ⟨"DeltaViewsModel", T_Mo, 22, rfl, by decide, uw_Mo, Or.inl (fw_mem 754 (by decide +kernel) rfl)⟩
theorem fl_Mo_45 : fw_fl "DeltaViewsModel" 45 11 12 := ⟨"DeltaViewsModel", T_Mo, 22, rfl, by decide, uw_Mo, Or.inl (fw_mem 755 (by decide +kernel) rfl)⟩
theorem fl_Mo_48 : fw_fl "DeltaViewsModel" 48 11 14 := ⟨"DeltaViewsModel", T_Mo, 22, rfl, by decide, uw_Mo, Or.inl (fw_mem 757 (by decide +kernel) rfl)⟩
theorem fl_Mo_51 : fw_fl "DeltaViewsModel" 51 11 15 := ⟨"DeltaViewsModel", T_Mo, 22, rfl, by decide, uw_Mo, Or.inl (fw_mem 758 (by decide +kernel) rfl)⟩
theorem fl_Mo_54 : fw_fl "DeltaViewsModel" 54 11 16 := ⟨"DeltaViewsModel", T_Mo, 22, rfl, by decide, uw_Mo, Or.inl (fw_mem 759 (by decide +kernel) rfl)⟩
theorem fl_Mo_57 : fw_fl "DeltaViewsModel" 57 11 18 := ⟨"DeltaViewsModel", T_Mo, 22, rfl, by decide, uw_Mo, Or.inl (fw_mem 761 (by decide +kernel) rfl)⟩
theorem fl_Mo_60 : fw_fl "DeltaViewsModel" 60 11 19 := ⟨"DeltaViewsModel", T_Mo, 22, rfl, by decide, uw_Mo, Or.inl (fw_mem 762 (by decide +kernel) rfl)⟩
theorem fl_Mo_63 : fw_fl "DeltaViewsModel" 63 11 20 := ⟨"DeltaViewsModel", T_Mo, 22, rfl, by decide, uw_Mo, Or.inl (fw_mem 763 (by decide +kernel) rfl)⟩
theorem fl_Mo_66 : fw_fl "DeltaViewsModel" 66 11 21 := ⟨"DeltaViewsModel", T_Mo, 22, rfl, by decide, uw_Mo, Or.inl (fw_mem 764 (by decide +kernel) rfl)⟩
theorem fl_Mo_69 : fw_fl "DeltaViewsModel" 69 11 0 := ⟨"DeltaViewsModel", T_Mo, 22, rfl, by decide, uw_Mo, Or.inl (fw_mem 743 (by decide +kernel) rfl)⟩
theorem fl_Mo_72 : fw_fl "DeltaViewsModel" 72 11 13 := ⟨"DeltaViewsModel", T_Mo, 22, rfl, by decide, uw_Mo, Or.inl (fw_mem 756 (by decide +kernel) rfl)⟩
theorem fl_Mo_121 : fw_fl "DeltaViewsModel" 121 11 17 := ⟨"DeltaViewsModel", T_Mo, 22, rfl, by decide, uw_Mo, Or.inl (fw_mem 760 (by decide +kernel) rfl)⟩
theorem ok_DV_0 (a : Nat) : fw_ok 0 0 (.ref a) := ⟨"DeltaViews", T_DV, 3, rfl, by decide +kernel, by decide +kernel, ty_DV 0, by decide +kernel, rfl, rfl⟩
theorem ok_DV_1 (v : Int32) : fw_ok 0 1 (.int v) := ⟨"DeltaViews", T_DV, 3, rfl, by decide +kernel, by decide +kernel, ty_DV 1, by decide +kernel, rfl, rfl⟩
theorem ok_DV_2 (a : Nat) : fw_ok 0 2 (.ref a) := ⟨"DeltaViews", T_DV, 3, rfl, by decide +kernel, by decide +kernel, ty_DV 2, by decide +kernel, rfl, rfl⟩
theorem ok_View_0 (a : Nat) : fw_ok 1 0 (.ref a) := ⟨"DeltaViews$View", T_View, 4, rfl, by decide +kernel, by decide +kernel, ty_View 0, by decide +kernel, rfl, rfl⟩
theorem ok_View_1 (a : Nat) : fw_ok 1 1 (.ref a) := ⟨"DeltaViews$View", T_View, 4, rfl, by decide +kernel, by decide +kernel, ty_View 1, by decide +kernel, rfl, rfl⟩
theorem ok_View_2 (a : Nat) : fw_ok 1 2 (.ref a) := ⟨"DeltaViews$View", T_View, 4, rfl, by decide +kernel, by decide +kernel, ty_View 2, by decide +kernel, rfl, rfl⟩
theorem ok_View_3 (v : Int32) : fw_ok 1 3 (.int v) := ⟨"DeltaViews$View", T_View, 4, rfl, by decide +kernel, by decide +kernel, ty_View 3, by decide +kernel, rfl, rfl⟩
theorem ok_Bag_0 (v : Int32) : fw_ok 2 0 (.int v) := ⟨"DeltaViews$Bag", T_Bag, 5, rfl, by decide +kernel, by decide +kernel, ty_Bag 0, by decide +kernel, rfl, rfl⟩
theorem ok_Bag_1 (v : Int32) : fw_ok 2 1 (.int v) := ⟨"DeltaViews$Bag", T_Bag, 5, rfl, by decide +kernel, by decide +kernel, ty_Bag 1, by decide +kernel, rfl, rfl⟩
theorem ok_Bag_2 (a : Nat) : fw_ok 2 2 (.ref a) := ⟨"DeltaViews$Bag", T_Bag, 5, rfl, by decide +kernel, by decide +kernel, ty_Bag 2, by decide +kernel, rfl, rfl⟩
theorem ok_Bag_3 (a : Nat) : fw_ok 2 3 (.ref a) := ⟨"DeltaViews$Bag", T_Bag, 5, rfl, by decide +kernel, by decide +kernel, ty_Bag 3, by decide +kernel, rfl, rfl⟩
theorem ok_Bag_4 (a : Nat) : fw_ok 2 4 (.ref a) := ⟨"DeltaViews$Bag", T_Bag, 5, rfl, by decide +kernel, by decide +kernel, ty_Bag 4, by decide +kernel, rfl, rfl⟩
theorem ok_Batch_0 (a : Nat) : fw_ok 3 0 (.ref a) := ⟨"DeltaViews$Batch", T_Batch, 5, rfl, by decide +kernel, by decide +kernel, ty_Batch 0, by decide +kernel, rfl, rfl⟩
theorem ok_Batch_1 (a : Nat) : fw_ok 3 1 (.ref a) := ⟨"DeltaViews$Batch", T_Batch, 5, rfl, by decide +kernel, by decide +kernel, ty_Batch 1, by decide +kernel, rfl, rfl⟩
theorem ok_Batch_2 (a : Nat) : fw_ok 3 2 (.ref a) := ⟨"DeltaViews$Batch", T_Batch, 5, rfl, by decide +kernel, by decide +kernel, ty_Batch 2, by decide +kernel, rfl, rfl⟩
theorem ok_Batch_3 (a : Nat) : fw_ok 3 3 (.ref a) := ⟨"DeltaViews$Batch", T_Batch, 5, rfl, by decide +kernel, by decide +kernel, ty_Batch 3, by decide +kernel, rfl, rfl⟩
theorem ok_Batch_4 (v : Int32) : fw_ok 3 4 (.int v) := ⟨"DeltaViews$Batch", T_Batch, 5, rfl, by decide +kernel, by decide +kernel, ty_Batch 4, by decide +kernel, rfl, rfl⟩
theorem ok_Select_0 (a : Nat) : fw_ok 5 0 (.ref a) := ⟨"DeltaViews$Select", T_Select, 4, rfl, by decide +kernel, by decide +kernel, ty_Select 0, by decide +kernel, rfl, rfl⟩
theorem ok_Select_1 (v : Int32) : fw_ok 5 1 (.int v) := ⟨"DeltaViews$Select", T_Select, 4, rfl, by decide +kernel, by decide +kernel, ty_Select 1, by decide +kernel, rfl, rfl⟩
theorem ok_Select_2 (v : Int32) : fw_ok 5 2 (.int v) := ⟨"DeltaViews$Select", T_Select, 4, rfl, by decide +kernel, by decide +kernel, ty_Select 2, by decide +kernel, rfl, rfl⟩
theorem ok_Select_3 (v : Int32) : fw_ok 5 3 (.int v) := ⟨"DeltaViews$Select", T_Select, 4, rfl, by decide +kernel, by decide +kernel, ty_Select 3, by decide +kernel, rfl, rfl⟩
theorem ok_Project_0 (a : Nat) : fw_ok 6 0 (.ref a) := ⟨"DeltaViews$Project", T_Project, 3, rfl, by decide +kernel, by decide +kernel, ty_Project 0, by decide +kernel, rfl, rfl⟩
theorem ok_Project_1 (v : Int32) : fw_ok 6 1 (.int v) := ⟨"DeltaViews$Project", T_Project, 3, rfl, by decide +kernel, by decide +kernel, ty_Project 1, by decide +kernel, rfl, rfl⟩
theorem ok_Project_2 (v : Int32) : fw_ok 6 2 (.int v) := ⟨"DeltaViews$Project", T_Project, 3, rfl, by decide +kernel, by decide +kernel, ty_Project 2, by decide +kernel, rfl, rfl⟩
theorem ok_Join_0 (a : Nat) : fw_ok 7 0 (.ref a) := ⟨"DeltaViews$Join", T_Join, 4, rfl, by decide +kernel, by decide +kernel, ty_Join 0, by decide +kernel, rfl, rfl⟩
theorem ok_Join_1 (a : Nat) : fw_ok 7 1 (.ref a) := ⟨"DeltaViews$Join", T_Join, 4, rfl, by decide +kernel, by decide +kernel, ty_Join 1, by decide +kernel, rfl, rfl⟩
theorem ok_Join_2 (v : Int32) : fw_ok 7 2 (.int v) := ⟨"DeltaViews$Join", T_Join, 4, rfl, by decide +kernel, by decide +kernel, ty_Join 2, by decide +kernel, rfl, rfl⟩
theorem ok_Join_3 (v : Int32) : fw_ok 7 3 (.int v) := ⟨"DeltaViews$Join", T_Join, 4, rfl, by decide +kernel, by decide +kernel, ty_Join 3, by decide +kernel, rfl, rfl⟩
theorem ok_Union_0 (a : Nat) : fw_ok 8 0 (.ref a) := ⟨"DeltaViews$Union", T_Union, 2, rfl, by decide +kernel, by decide +kernel, ty_Union 0, by decide +kernel, rfl, rfl⟩
theorem ok_Union_1 (a : Nat) : fw_ok 8 1 (.ref a) := ⟨"DeltaViews$Union", T_Union, 2, rfl, by decide +kernel, by decide +kernel, ty_Union 1, by decide +kernel, rfl, rfl⟩
theorem ok_Group_0 (a : Nat) : fw_ok 9 0 (.ref a) := ⟨"DeltaViews$Group", T_Group, 4, rfl, by decide +kernel, by decide +kernel, ty_Group 0, by decide +kernel, rfl, rfl⟩
theorem ok_Group_1 (v : Int32) : fw_ok 9 1 (.int v) := ⟨"DeltaViews$Group", T_Group, 4, rfl, by decide +kernel, by decide +kernel, ty_Group 1, by decide +kernel, rfl, rfl⟩
theorem ok_Group_2 (v : Int32) : fw_ok 9 2 (.int v) := ⟨"DeltaViews$Group", T_Group, 4, rfl, by decide +kernel, by decide +kernel, ty_Group 2, by decide +kernel, rfl, rfl⟩
theorem ok_Group_3 (v : Int32) : fw_ok 9 3 (.int v) := ⟨"DeltaViews$Group", T_Group, 4, rfl, by decide +kernel, by decide +kernel, ty_Group 3, by decide +kernel, rfl, rfl⟩
theorem ok_Distinct_0 (a : Nat) : fw_ok 10 0 (.ref a) := ⟨"DeltaViews$Distinct", T_Distinct, 1, rfl, by decide +kernel, by decide +kernel, ty_Distinct 0, by decide +kernel, rfl, rfl⟩
theorem ok_Mo_0 (v : Int32) : fw_ok 11 0 (.int v) := ⟨"DeltaViewsModel", T_Mo, 22, rfl, by decide +kernel, by decide +kernel, ty_Mo 0, by decide +kernel, rfl, rfl⟩
theorem ok_Mo_1 (v : Int32) : fw_ok 11 1 (.int v) := ⟨"DeltaViewsModel", T_Mo, 22, rfl, by decide +kernel, by decide +kernel, ty_Mo 1, by decide +kernel, rfl, rfl⟩
theorem ok_Mo_2 (a : Nat) : fw_ok 11 2 (.ref a) := ⟨"DeltaViewsModel", T_Mo, 22, rfl, by decide +kernel, by decide +kernel, ty_Mo 2, by decide +kernel, rfl, rfl⟩
theorem ok_Mo_3 (a : Nat) : fw_ok 11 3 (.ref a) := ⟨"DeltaViewsModel", T_Mo, 22, rfl, by decide +kernel, by decide +kernel, ty_Mo 3, by decide +kernel, rfl, rfl⟩
theorem ok_Mo_4 (a : Nat) : fw_ok 11 4 (.ref a) := ⟨"DeltaViewsModel", T_Mo, 22, rfl, by decide +kernel, by decide +kernel, ty_Mo 4, by decide +kernel, rfl, rfl⟩
theorem ok_Mo_5 (a : Nat) : fw_ok 11 5 (.ref a) := ⟨"DeltaViewsModel", T_Mo, 22, rfl, by decide +kernel, by decide +kernel, ty_Mo 5, by decide +kernel, rfl, rfl⟩
theorem ok_Mo_6 (a : Nat) : fw_ok 11 6 (.ref a) := ⟨"DeltaViewsModel", T_Mo, 22, rfl, by decide +kernel, by decide +kernel, ty_Mo 6, by decide +kernel, rfl, rfl⟩
theorem ok_Mo_7 (a : Nat) : fw_ok 11 7 (.ref a) := ⟨"DeltaViewsModel", T_Mo, 22, rfl, by decide +kernel, by decide +kernel, ty_Mo 7, by decide +kernel, rfl, rfl⟩
theorem ok_Mo_8 (a : Nat) : fw_ok 11 8 (.ref a) := ⟨"DeltaViewsModel", T_Mo, 22, rfl, by decide +kernel, by decide +kernel, ty_Mo 8, by decide +kernel, rfl, rfl⟩
theorem ok_Mo_9 (a : Nat) : fw_ok 11 9 (.ref a) := ⟨"DeltaViewsModel", T_Mo, 22, rfl, by decide +kernel, by decide +kernel, ty_Mo 9, by decide +kernel, rfl, rfl⟩
theorem ok_Mo_10 (a : Nat) : fw_ok 11 10 (.ref a) := ⟨"DeltaViewsModel", T_Mo, 22, rfl, by decide +kernel, by decide +kernel, ty_Mo 10, by decide +kernel, rfl, rfl⟩
theorem ok_Mo_11 (a : Nat) : fw_ok 11 11 (.ref a) := ⟨"DeltaViewsModel", T_Mo, 22, rfl, by decide +kernel, by decide +kernel, ty_Mo 11, by decide +kernel, rfl, rfl⟩
theorem ok_Mo_12 (a : Nat) : fw_ok 11 12 (.ref a) := ⟨"DeltaViewsModel", T_Mo, 22, rfl, by decide +kernel, by decide +kernel, ty_Mo 12, by decide +kernel, rfl, rfl⟩
theorem ok_Mo_13 (v : Int32) : fw_ok 11 13 (.int v) := ⟨"DeltaViewsModel", T_Mo, 22, rfl, by decide +kernel, by decide +kernel, ty_Mo 13, by decide +kernel, rfl, rfl⟩
theorem ok_Mo_14 (a : Nat) : fw_ok 11 14 (.ref a) := ⟨"DeltaViewsModel", T_Mo, 22, rfl, by decide +kernel, by decide +kernel, ty_Mo 14, by decide +kernel, rfl, rfl⟩
theorem ok_Mo_15 (a : Nat) : fw_ok 11 15 (.ref a) := ⟨"DeltaViewsModel", T_Mo, 22, rfl, by decide +kernel, by decide +kernel, ty_Mo 15, by decide +kernel, rfl, rfl⟩
theorem ok_Mo_16 (a : Nat) : fw_ok 11 16 (.ref a) := ⟨"DeltaViewsModel", T_Mo, 22, rfl, by decide +kernel, by decide +kernel, ty_Mo 16, by decide +kernel, rfl, rfl⟩
theorem ok_Mo_17 (v : Int32) : fw_ok 11 17 (.int v) := ⟨"DeltaViewsModel", T_Mo, 22, rfl, by decide +kernel, by decide +kernel, ty_Mo 17, by decide +kernel, rfl, rfl⟩
theorem ok_Mo_18 (a : Nat) : fw_ok 11 18 (.ref a) := ⟨"DeltaViewsModel", T_Mo, 22, rfl, by decide +kernel, by decide +kernel, ty_Mo 18, by decide +kernel, rfl, rfl⟩
theorem ok_Mo_19 (a : Nat) : fw_ok 11 19 (.ref a) := ⟨"DeltaViewsModel", T_Mo, 22, rfl, by decide +kernel, by decide +kernel, ty_Mo 19, by decide +kernel, rfl, rfl⟩
theorem ok_Mo_20 (a : Nat) : fw_ok 11 20 (.ref a) := ⟨"DeltaViewsModel", T_Mo, 22, rfl, by decide +kernel, by decide +kernel, ty_Mo 20, by decide +kernel, rfl, rfl⟩
theorem ok_Mo_21 (a : Nat) : fw_ok 11 21 (.ref a) := ⟨"DeltaViewsModel", T_Mo, 22, rfl, by decide +kernel, by decide +kernel, ty_Mo 21, by decide +kernel, rfl, rfl⟩
theorem fi_DV_11 : ∀ C T N, vwCl[0]? = some (C, T, N) → (T 0).2.2.2 = false ∨ (("<init>" : String) = "<init>" ∧ (T 0).1 = "DeltaViews" ∧ Cond.fieldLink "DeltaViews" 11 (T 0).1 (T 0).2.1 (T 0).2.2.1 ∈ fw_big) := fun _ _ _ h => by cases h; exact Or.inr ⟨rfl, rfl, fw_mem 165 (by decide +kernel) rfl⟩
theorem fi_DV_15 (nm : String) : ∀ C T N, vwCl[0]? = some (C, T, N) → (T 1).2.2.2 = false ∨ (nm = "<init>" ∧ (T 1).1 = "DeltaViews" ∧ Cond.fieldLink "DeltaViews" 15 (T 1).1 (T 1).2.1 (T 1).2.2.1 ∈ fw_big) := fun _ _ _ h => by cases h; exact Or.inl rfl
theorem fi_DV_22 : ∀ C T N, vwCl[0]? = some (C, T, N) → (T 2).2.2.2 = false ∨ (("<init>" : String) = "<init>" ∧ (T 2).1 = "DeltaViews" ∧ Cond.fieldLink "DeltaViews" 22 (T 2).1 (T 2).2.1 (T 2).2.2.1 ∈ fw_big) := fun _ _ _ h => by cases h; exact Or.inr ⟨rfl, rfl, fw_mem 167 (by decide +kernel) rfl⟩
theorem fi_Bag_9 (nm : String) : ∀ C T N, vwCl[2]? = some (C, T, N) → (T 0).2.2.2 = false ∨ (nm = "<init>" ∧ (T 0).1 = "DeltaViews$Bag" ∧ Cond.fieldLink "DeltaViews$Bag" 9 (T 0).1 (T 0).2.1 (T 0).2.2.1 ∈ fw_big) := fun _ _ _ h => by cases h; exact Or.inl rfl
theorem fi_Bag_15 (nm : String) : ∀ C T N, vwCl[2]? = some (C, T, N) → (T 1).2.2.2 = false ∨ (nm = "<init>" ∧ (T 1).1 = "DeltaViews$Bag" ∧ Cond.fieldLink "DeltaViews$Bag" 15 (T 1).1 (T 1).2.1 (T 1).2.2.1 ∈ fw_big) := fun _ _ _ h => by cases h; exact Or.inl rfl
theorem fi_Bag_18 : ∀ C T N, vwCl[2]? = some (C, T, N) → (T 2).2.2.2 = false ∨ (("<init>" : String) = "<init>" ∧ (T 2).1 = "DeltaViews$Bag" ∧ Cond.fieldLink "DeltaViews$Bag" 18 (T 2).1 (T 2).2.1 (T 2).2.2.1 ∈ fw_big) := fun _ _ _ h => by cases h; exact Or.inr ⟨rfl, rfl, fw_mem 129 (by decide +kernel) rfl⟩
theorem fi_Bag_22 : ∀ C T N, vwCl[2]? = some (C, T, N) → (T 3).2.2.2 = false ∨ (("<init>" : String) = "<init>" ∧ (T 3).1 = "DeltaViews$Bag" ∧ Cond.fieldLink "DeltaViews$Bag" 22 (T 3).1 (T 3).2.1 (T 3).2.2.1 ∈ fw_big) := fun _ _ _ h => by cases h; exact Or.inr ⟨rfl, rfl, fw_mem 130 (by decide +kernel) rfl⟩
theorem fi_Bag_26 : ∀ C T N, vwCl[2]? = some (C, T, N) → (T 4).2.2.2 = false ∨ (("<init>" : String) = "<init>" ∧ (T 4).1 = "DeltaViews$Bag" ∧ Cond.fieldLink "DeltaViews$Bag" 26 (T 4).1 (T 4).2.1 (T 4).2.2.1 ∈ fw_big) := fun _ _ _ h => by cases h; exact Or.inr ⟨rfl, rfl, fw_mem 131 (by decide +kernel) rfl⟩
theorem fi_Batch_9 : ∀ C T N, vwCl[3]? = some (C, T, N) → (T 0).2.2.2 = false ∨ (("<init>" : String) = "<init>" ∧ (T 0).1 = "DeltaViews$Batch" ∧ Cond.fieldLink "DeltaViews$Batch" 9 (T 0).1 (T 0).2.1 (T 0).2.2.1 ∈ fw_big) := fun _ _ _ h => by cases h; exact Or.inr ⟨rfl, rfl, fw_mem 76 (by decide +kernel) rfl⟩
theorem fi_Batch_15 : ∀ C T N, vwCl[3]? = some (C, T, N) → (T 1).2.2.2 = false ∨ (("<init>" : String) = "<init>" ∧ (T 1).1 = "DeltaViews$Batch" ∧ Cond.fieldLink "DeltaViews$Batch" 15 (T 1).1 (T 1).2.1 (T 1).2.2.1 ∈ fw_big) := fun _ _ _ h => by cases h; exact Or.inr ⟨rfl, rfl, fw_mem 77 (by decide +kernel) rfl⟩
theorem fi_Batch_18 : ∀ C T N, vwCl[3]? = some (C, T, N) → (T 2).2.2.2 = false ∨ (("<init>" : String) = "<init>" ∧ (T 2).1 = "DeltaViews$Batch" ∧ Cond.fieldLink "DeltaViews$Batch" 18 (T 2).1 (T 2).2.1 (T 2).2.2.1 ∈ fw_big) := fun _ _ _ h => by cases h; exact Or.inr ⟨rfl, rfl, fw_mem 78 (by decide +kernel) rfl⟩
theorem fi_Batch_21 : ∀ C T N, vwCl[3]? = some (C, T, N) → (T 3).2.2.2 = false ∨ (("<init>" : String) = "<init>" ∧ (T 3).1 = "DeltaViews$Batch" ∧ Cond.fieldLink "DeltaViews$Batch" 21 (T 3).1 (T 3).2.1 (T 3).2.2.1 ∈ fw_big) := fun _ _ _ h => by cases h; exact Or.inr ⟨rfl, rfl, fw_mem 79 (by decide +kernel) rfl⟩
theorem fi_Batch_24 (nm : String) : ∀ C T N, vwCl[3]? = some (C, T, N) → (T 4).2.2.2 = false ∨ (nm = "<init>" ∧ (T 4).1 = "DeltaViews$Batch" ∧ Cond.fieldLink "DeltaViews$Batch" 24 (T 4).1 (T 4).2.1 (T 4).2.2.1 ∈ fw_big) := fun _ _ _ h => by cases h; exact Or.inl rfl
theorem fi_Distinct_7 : ∀ C T N, vwCl[10]? = some (C, T, N) → (T 0).2.2.2 = false ∨ (("<init>" : String) = "<init>" ∧ (T 0).1 = "DeltaViews$Distinct" ∧ Cond.fieldLink "DeltaViews$Distinct" 7 (T 0).1 (T 0).2.1 (T 0).2.2.1 ∈ fw_big) := fun _ _ _ h => by cases h; exact Or.inr ⟨rfl, rfl, fw_mem 656 (by decide +kernel) rfl⟩
theorem fi_Group_9 : ∀ C T N, vwCl[9]? = some (C, T, N) → (T 0).2.2.2 = false ∨ (("<init>" : String) = "<init>" ∧ (T 0).1 = "DeltaViews$Group" ∧ Cond.fieldLink "DeltaViews$Group" 9 (T 0).1 (T 0).2.1 (T 0).2.2.1 ∈ fw_big) := fun _ _ _ h => by cases h; exact Or.inr ⟨rfl, rfl, fw_mem 630 (by decide +kernel) rfl⟩
theorem fi_Group_15 : ∀ C T N, vwCl[9]? = some (C, T, N) → (T 1).2.2.2 = false ∨ (("<init>" : String) = "<init>" ∧ (T 1).1 = "DeltaViews$Group" ∧ Cond.fieldLink "DeltaViews$Group" 15 (T 1).1 (T 1).2.1 (T 1).2.2.1 ∈ fw_big) := fun _ _ _ h => by cases h; exact Or.inr ⟨rfl, rfl, fw_mem 631 (by decide +kernel) rfl⟩
theorem fi_Group_19 : ∀ C T N, vwCl[9]? = some (C, T, N) → (T 2).2.2.2 = false ∨ (("<init>" : String) = "<init>" ∧ (T 2).1 = "DeltaViews$Group" ∧ Cond.fieldLink "DeltaViews$Group" 19 (T 2).1 (T 2).2.1 (T 2).2.2.1 ∈ fw_big) := fun _ _ _ h => by cases h; exact Or.inr ⟨rfl, rfl, fw_mem 632 (by decide +kernel) rfl⟩
theorem fi_Group_22 : ∀ C T N, vwCl[9]? = some (C, T, N) → (T 3).2.2.2 = false ∨ (("<init>" : String) = "<init>" ∧ (T 3).1 = "DeltaViews$Group" ∧ Cond.fieldLink "DeltaViews$Group" 22 (T 3).1 (T 3).2.1 (T 3).2.2.1 ∈ fw_big) := fun _ _ _ h => by cases h; exact Or.inr ⟨rfl, rfl, fw_mem 633 (by decide +kernel) rfl⟩
theorem fi_Join_7 : ∀ C T N, vwCl[7]? = some (C, T, N) → (T 0).2.2.2 = false ∨ (("<init>" : String) = "<init>" ∧ (T 0).1 = "DeltaViews$Join" ∧ Cond.fieldLink "DeltaViews$Join" 7 (T 0).1 (T 0).2.1 (T 0).2.2.1 ∈ fw_big) := fun _ _ _ h => by cases h; exact Or.inr ⟨rfl, rfl, fw_mem 583 (by decide +kernel) rfl⟩
theorem fi_Join_13 : ∀ C T N, vwCl[7]? = some (C, T, N) → (T 1).2.2.2 = false ∨ (("<init>" : String) = "<init>" ∧ (T 1).1 = "DeltaViews$Join" ∧ Cond.fieldLink "DeltaViews$Join" 13 (T 1).1 (T 1).2.1 (T 1).2.2.1 ∈ fw_big) := fun _ _ _ h => by cases h; exact Or.inr ⟨rfl, rfl, fw_mem 584 (by decide +kernel) rfl⟩
theorem fi_Join_16 : ∀ C T N, vwCl[7]? = some (C, T, N) → (T 2).2.2.2 = false ∨ (("<init>" : String) = "<init>" ∧ (T 2).1 = "DeltaViews$Join" ∧ Cond.fieldLink "DeltaViews$Join" 16 (T 2).1 (T 2).2.1 (T 2).2.2.1 ∈ fw_big) := fun _ _ _ h => by cases h; exact Or.inr ⟨rfl, rfl, fw_mem 585 (by decide +kernel) rfl⟩
theorem fi_Join_20 : ∀ C T N, vwCl[7]? = some (C, T, N) → (T 3).2.2.2 = false ∨ (("<init>" : String) = "<init>" ∧ (T 3).1 = "DeltaViews$Join" ∧ Cond.fieldLink "DeltaViews$Join" 20 (T 3).1 (T 3).2.1 (T 3).2.2.1 ∈ fw_big) := fun _ _ _ h => by cases h; exact Or.inr ⟨rfl, rfl, fw_mem 586 (by decide +kernel) rfl⟩
theorem fi_Project_7 : ∀ C T N, vwCl[6]? = some (C, T, N) → (T 0).2.2.2 = false ∨ (("<init>" : String) = "<init>" ∧ (T 0).1 = "DeltaViews$Project" ∧ Cond.fieldLink "DeltaViews$Project" 7 (T 0).1 (T 0).2.1 (T 0).2.2.1 ∈ fw_big) := fun _ _ _ h => by cases h; exact Or.inr ⟨rfl, rfl, fw_mem 560 (by decide +kernel) rfl⟩
theorem fi_Project_13 : ∀ C T N, vwCl[6]? = some (C, T, N) → (T 1).2.2.2 = false ∨ (("<init>" : String) = "<init>" ∧ (T 1).1 = "DeltaViews$Project" ∧ Cond.fieldLink "DeltaViews$Project" 13 (T 1).1 (T 1).2.1 (T 1).2.2.1 ∈ fw_big) := fun _ _ _ h => by cases h; exact Or.inr ⟨rfl, rfl, fw_mem 561 (by decide +kernel) rfl⟩
theorem fi_Project_17 : ∀ C T N, vwCl[6]? = some (C, T, N) → (T 2).2.2.2 = false ∨ (("<init>" : String) = "<init>" ∧ (T 2).1 = "DeltaViews$Project" ∧ Cond.fieldLink "DeltaViews$Project" 17 (T 2).1 (T 2).2.1 (T 2).2.2.1 ∈ fw_big) := fun _ _ _ h => by cases h; exact Or.inr ⟨rfl, rfl, fw_mem 562 (by decide +kernel) rfl⟩
theorem fi_Select_9 : ∀ C T N, vwCl[5]? = some (C, T, N) → (T 0).2.2.2 = false ∨ (("<init>" : String) = "<init>" ∧ (T 0).1 = "DeltaViews$Select" ∧ Cond.fieldLink "DeltaViews$Select" 9 (T 0).1 (T 0).2.1 (T 0).2.2.1 ∈ fw_big) := fun _ _ _ h => by cases h; exact Or.inr ⟨rfl, rfl, fw_mem 522 (by decide +kernel) rfl⟩
theorem fi_Select_15 : ∀ C T N, vwCl[5]? = some (C, T, N) → (T 1).2.2.2 = false ∨ (("<init>" : String) = "<init>" ∧ (T 1).1 = "DeltaViews$Select" ∧ Cond.fieldLink "DeltaViews$Select" 15 (T 1).1 (T 1).2.1 (T 1).2.2.1 ∈ fw_big) := fun _ _ _ h => by cases h; exact Or.inr ⟨rfl, rfl, fw_mem 523 (by decide +kernel) rfl⟩
theorem fi_Select_19 : ∀ C T N, vwCl[5]? = some (C, T, N) → (T 2).2.2.2 = false ∨ (("<init>" : String) = "<init>" ∧ (T 2).1 = "DeltaViews$Select" ∧ Cond.fieldLink "DeltaViews$Select" 19 (T 2).1 (T 2).2.1 (T 2).2.2.1 ∈ fw_big) := fun _ _ _ h => by cases h; exact Or.inr ⟨rfl, rfl, fw_mem 524 (by decide +kernel) rfl⟩
theorem fi_Select_22 : ∀ C T N, vwCl[5]? = some (C, T, N) → (T 3).2.2.2 = false ∨ (("<init>" : String) = "<init>" ∧ (T 3).1 = "DeltaViews$Select" ∧ Cond.fieldLink "DeltaViews$Select" 22 (T 3).1 (T 3).2.1 (T 3).2.2.1 ∈ fw_big) := fun _ _ _ h => by cases h; exact Or.inr ⟨rfl, rfl, fw_mem 525 (by decide +kernel) rfl⟩
theorem fi_Union_7 : ∀ C T N, vwCl[8]? = some (C, T, N) → (T 0).2.2.2 = false ∨ (("<init>" : String) = "<init>" ∧ (T 0).1 = "DeltaViews$Union" ∧ Cond.fieldLink "DeltaViews$Union" 7 (T 0).1 (T 0).2.1 (T 0).2.2.1 ∈ fw_big) := fun _ _ _ h => by cases h; exact Or.inr ⟨rfl, rfl, fw_mem 610 (by decide +kernel) rfl⟩
theorem fi_Union_13 : ∀ C T N, vwCl[8]? = some (C, T, N) → (T 1).2.2.2 = false ∨ (("<init>" : String) = "<init>" ∧ (T 1).1 = "DeltaViews$Union" ∧ Cond.fieldLink "DeltaViews$Union" 13 (T 1).1 (T 1).2.1 (T 1).2.2.1 ∈ fw_big) := fun _ _ _ h => by cases h; exact Or.inr ⟨rfl, rfl, fw_mem 611 (by decide +kernel) rfl⟩
theorem fi_View_10 (nm : String) : ∀ C T N, vwCl[1]? = some (C, T, N) → (T 1).2.2.2 = false ∨ (nm = "<init>" ∧ (T 1).1 = "DeltaViews$View" ∧ Cond.fieldLink "DeltaViews$View" 10 (T 1).1 (T 1).2.1 (T 1).2.2.1 ∈ fw_big) := fun _ _ _ h => by cases h; exact Or.inl rfl
theorem fi_View_16 (nm : String) : ∀ C T N, vwCl[1]? = some (C, T, N) → (T 2).2.2.2 = false ∨ (nm = "<init>" ∧ (T 2).1 = "DeltaViews$View" ∧ Cond.fieldLink "DeltaViews$View" 16 (T 2).1 (T 2).2.1 (T 2).2.2.1 ∈ fw_big) := fun _ _ _ h => by cases h; exact Or.inl rfl
theorem fi_View_19 (nm : String) : ∀ C T N, vwCl[1]? = some (C, T, N) → (T 3).2.2.2 = false ∨ (nm = "<init>" ∧ (T 3).1 = "DeltaViews$View" ∧ Cond.fieldLink "DeltaViews$View" 19 (T 3).1 (T 3).2.1 (T 3).2.2.1 ∈ fw_big) := fun _ _ _ h => by cases h; exact Or.inl rfl
theorem fi_View_23 (nm : String) : ∀ C T N, vwCl[1]? = some (C, T, N) → (T 0).2.2.2 = false ∨ (nm = "<init>" ∧ (T 0).1 = "DeltaViews$View" ∧ Cond.fieldLink "DeltaViews$View" 23 (T 0).1 (T 0).2.1 (T 0).2.2.1 ∈ fw_big) := fun _ _ _ h => by cases h; exact Or.inl rfl
theorem fi_Mo_7 (nm : String) : ∀ C T N, vwCl[11]? = some (C, T, N) → (T 1).2.2.2 = false ∨ (nm = "<init>" ∧ (T 1).1 = "DeltaViewsModel" ∧ Cond.fieldLink "DeltaViewsModel" 7 (T 1).1 (T 1).2.1 (T 1).2.2.1 ∈ fw_big) := fun _ _ _ h => by cases h; exact Or.inl rfl
theorem fi_Mo_13 : ∀ C T N, vwCl[11]? = some (C, T, N) → (T 2).2.2.2 = false ∨ (("<init>" : String) = "<init>" ∧ (T 2).1 = "DeltaViewsModel" ∧ Cond.fieldLink "DeltaViewsModel" 13 (T 2).1 (T 2).2.1 (T 2).2.2.1 ∈ fw_big) := fun _ _ _ h => by cases h; exact Or.inr ⟨rfl, rfl, fw_mem 745 (by decide +kernel) rfl⟩
theorem fi_Mo_17 : ∀ C T N, vwCl[11]? = some (C, T, N) → (T 3).2.2.2 = false ∨ (("<init>" : String) = "<init>" ∧ (T 3).1 = "DeltaViewsModel" ∧ Cond.fieldLink "DeltaViewsModel" 17 (T 3).1 (T 3).2.1 (T 3).2.2.1 ∈ fw_big) := fun _ _ _ h => by cases h; exact Or.inr ⟨rfl, rfl, fw_mem 746 (by decide +kernel) rfl⟩
theorem fi_Mo_20 : ∀ C T N, vwCl[11]? = some (C, T, N) → (T 4).2.2.2 = false ∨ (("<init>" : String) = "<init>" ∧ (T 4).1 = "DeltaViewsModel" ∧ Cond.fieldLink "DeltaViewsModel" 20 (T 4).1 (T 4).2.1 (T 4).2.2.1 ∈ fw_big) := fun _ _ _ h => by cases h; exact Or.inr ⟨rfl, rfl, fw_mem 747 (by decide +kernel) rfl⟩
theorem fi_Mo_23 : ∀ C T N, vwCl[11]? = some (C, T, N) → (T 5).2.2.2 = false ∨ (("<init>" : String) = "<init>" ∧ (T 5).1 = "DeltaViewsModel" ∧ Cond.fieldLink "DeltaViewsModel" 23 (T 5).1 (T 5).2.1 (T 5).2.2.1 ∈ fw_big) := fun _ _ _ h => by cases h; exact Or.inr ⟨rfl, rfl, fw_mem 748 (by decide +kernel) rfl⟩
theorem fi_Mo_26 : ∀ C T N, vwCl[11]? = some (C, T, N) → (T 6).2.2.2 = false ∨ (("<init>" : String) = "<init>" ∧ (T 6).1 = "DeltaViewsModel" ∧ Cond.fieldLink "DeltaViewsModel" 26 (T 6).1 (T 6).2.1 (T 6).2.2.1 ∈ fw_big) := fun _ _ _ h => by cases h; exact Or.inr ⟨rfl, rfl, fw_mem 749 (by decide +kernel) rfl⟩
theorem fi_Mo_29 : ∀ C T N, vwCl[11]? = some (C, T, N) → (T 7).2.2.2 = false ∨ (("<init>" : String) = "<init>" ∧ (T 7).1 = "DeltaViewsModel" ∧ Cond.fieldLink "DeltaViewsModel" 29 (T 7).1 (T 7).2.1 (T 7).2.2.1 ∈ fw_big) := fun _ _ _ h => by cases h; exact Or.inr ⟨rfl, rfl, fw_mem 750 (by decide +kernel) rfl⟩
theorem fi_Mo_32 : ∀ C T N, vwCl[11]? = some (C, T, N) → (T 8).2.2.2 = false ∨ (("<init>" : String) = "<init>" ∧ (T 8).1 = "DeltaViewsModel" ∧ Cond.fieldLink "DeltaViewsModel" 32 (T 8).1 (T 8).2.1 (T 8).2.2.1 ∈ fw_big) := fun _ _ _ h => by cases h; exact Or.inr ⟨rfl, rfl, fw_mem 751 (by decide +kernel) rfl⟩
theorem fi_Mo_35 : ∀ C T N, vwCl[11]? = some (C, T, N) → (T 9).2.2.2 = false ∨ (("<init>" : String) = "<init>" ∧ (T 9).1 = "DeltaViewsModel" ∧ Cond.fieldLink "DeltaViewsModel" 35 (T 9).1 (T 9).2.1 (T 9).2.2.1 ∈ fw_big) := fun _ _ _ h => by cases h; exact Or.inr ⟨rfl, rfl, fw_mem 752 (by decide +kernel) rfl⟩
theorem fi_Mo_38 : ∀ C T N, vwCl[11]? = some (C, T, N) → (T 10).2.2.2 = false ∨ (("<init>" : String) = "<init>" ∧ (T 10).1 = "DeltaViewsModel" ∧ Cond.fieldLink "DeltaViewsModel" 38 (T 10).1 (T 10).2.1 (T 10).2.2.1 ∈ fw_big) := fun _ _ _ h => by cases h; exact Or.inr ⟨rfl, rfl, fw_mem 753 (by decide +kernel) rfl⟩
theorem fi_Mo_41 : ∀ C T N, vwCl[11]? = some (C, T, N) → (T 11).2.2.2 = false ∨ (("<init>" : String) = "<init>" ∧ (T 11).1 = "DeltaViewsModel" ∧ Cond.fieldLink "DeltaViewsModel" 41 (T 11).1 (T 11).2.1 (T 11).2.2.1 ∈ fw_big) := fun _ _ _ h => by cases h; exact Or.inr ⟨rfl, rfl, fw_mem 754 (by decide +kernel) rfl⟩
theorem fi_Mo_45 : ∀ C T N, vwCl[11]? = some (C, T, N) → (T 12).2.2.2 = false ∨ (("<init>" : String) = "<init>" ∧ (T 12).1 = "DeltaViewsModel" ∧ Cond.fieldLink "DeltaViewsModel" 45 (T 12).1 (T 12).2.1 (T 12).2.2.1 ∈ fw_big) := fun _ _ _ h => by cases h; exact Or.inr ⟨rfl, rfl, fw_mem 755 (by decide +kernel) rfl⟩
theorem fi_Mo_48 : ∀ C T N, vwCl[11]? = some (C, T, N) → (T 14).2.2.2 = false ∨ (("<init>" : String) = "<init>" ∧ (T 14).1 = "DeltaViewsModel" ∧ Cond.fieldLink "DeltaViewsModel" 48 (T 14).1 (T 14).2.1 (T 14).2.2.1 ∈ fw_big) := fun _ _ _ h => by cases h; exact Or.inr ⟨rfl, rfl, fw_mem 757 (by decide +kernel) rfl⟩
theorem fi_Mo_51 : ∀ C T N, vwCl[11]? = some (C, T, N) → (T 15).2.2.2 = false ∨ (("<init>" : String) = "<init>" ∧ (T 15).1 = "DeltaViewsModel" ∧ Cond.fieldLink "DeltaViewsModel" 51 (T 15).1 (T 15).2.1 (T 15).2.2.1 ∈ fw_big) := fun _ _ _ h => by cases h; exact Or.inr ⟨rfl, rfl, fw_mem 758 (by decide +kernel) rfl⟩
theorem fi_Mo_54 : ∀ C T N, vwCl[11]? = some (C, T, N) → (T 16).2.2.2 = false ∨ (("<init>" : String) = "<init>" ∧ (T 16).1 = "DeltaViewsModel" ∧ Cond.fieldLink "DeltaViewsModel" 54 (T 16).1 (T 16).2.1 (T 16).2.2.1 ∈ fw_big) := fun _ _ _ h => by cases h; exact Or.inr ⟨rfl, rfl, fw_mem 759 (by decide +kernel) rfl⟩
theorem fi_Mo_57 : ∀ C T N, vwCl[11]? = some (C, T, N) → (T 18).2.2.2 = false ∨ (("<init>" : String) = "<init>" ∧ (T 18).1 = "DeltaViewsModel" ∧ Cond.fieldLink "DeltaViewsModel" 57 (T 18).1 (T 18).2.1 (T 18).2.2.1 ∈ fw_big) := fun _ _ _ h => by cases h; exact Or.inr ⟨rfl, rfl, fw_mem 761 (by decide +kernel) rfl⟩
theorem fi_Mo_60 : ∀ C T N, vwCl[11]? = some (C, T, N) → (T 19).2.2.2 = false ∨ (("<init>" : String) = "<init>" ∧ (T 19).1 = "DeltaViewsModel" ∧ Cond.fieldLink "DeltaViewsModel" 60 (T 19).1 (T 19).2.1 (T 19).2.2.1 ∈ fw_big) := fun _ _ _ h => by cases h; exact Or.inr ⟨rfl, rfl, fw_mem 762 (by decide +kernel) rfl⟩
theorem fi_Mo_63 : ∀ C T N, vwCl[11]? = some (C, T, N) → (T 20).2.2.2 = false ∨ (("<init>" : String) = "<init>" ∧ (T 20).1 = "DeltaViewsModel" ∧ Cond.fieldLink "DeltaViewsModel" 63 (T 20).1 (T 20).2.1 (T 20).2.2.1 ∈ fw_big) := fun _ _ _ h => by cases h; exact Or.inr ⟨rfl, rfl, fw_mem 763 (by decide +kernel) rfl⟩
theorem fi_Mo_66 : ∀ C T N, vwCl[11]? = some (C, T, N) → (T 21).2.2.2 = false ∨ (("<init>" : String) = "<init>" ∧ (T 21).1 = "DeltaViewsModel" ∧ Cond.fieldLink "DeltaViewsModel" 66 (T 21).1 (T 21).2.1 (T 21).2.2.1 ∈ fw_big) := fun _ _ _ h => by cases h; exact Or.inr ⟨rfl, rfl, fw_mem 764 (by decide +kernel) rfl⟩
theorem fi_Mo_69 (nm : String) : ∀ C T N, vwCl[11]? = some (C, T, N) → (T 0).2.2.2 = false ∨ (nm = "<init>" ∧ (T 0).1 = "DeltaViewsModel" ∧ Cond.fieldLink "DeltaViewsModel" 69 (T 0).1 (T 0).2.1 (T 0).2.2.1 ∈ fw_big) := fun _ _ _ h => by cases h; exact Or.inl rfl
theorem fi_Mo_72 (nm : String) : ∀ C T N, vwCl[11]? = some (C, T, N) → (T 13).2.2.2 = false ∨ (nm = "<init>" ∧ (T 13).1 = "DeltaViewsModel" ∧ Cond.fieldLink "DeltaViewsModel" 72 (T 13).1 (T 13).2.1 (T 13).2.2.1 ∈ fw_big) := fun _ _ _ h => by cases h; exact Or.inl rfl
theorem fi_Mo_121 (nm : String) : ∀ C T N, vwCl[11]? = some (C, T, N) → (T 17).2.2.2 = false ∨ (nm = "<init>" ∧ (T 17).1 = "DeltaViewsModel" ∧ Cond.fieldLink "DeltaViewsModel" 121 (T 17).1 (T 17).2.1 (T 17).2.2.1 ∈ fw_big) := fun _ _ _ h => by cases h; exact Or.inl rfl
theorem nw_DV_9 : fw_nw "DeltaViews" 9 1 [.null, .null, .null, .int 0] 4 := ⟨"DeltaViews$View", T_View, rfl, uw_View, fw_mem 68 (by decide +kernel) rfl, fw_mem 93 (by decide +kernel) rfl, fw_mem 40 (by decide +kernel) rfl, ty_View, by decide +kernel, fun j hj => match j, hj with | 0, _ => rfl | 1, _ => rfl | 2, _ => rfl | 3, _ => rfl⟩
theorem nw_DV_19 : fw_nw "DeltaViews" 19 3 [.null, .null, .null, .null, .int 0] 5 := ⟨"DeltaViews$Batch", T_Batch, rfl, uw_Batch, fw_mem 70 (by decide +kernel) rfl, fw_mem 71 (by decide +kernel) rfl, fw_mem 39 (by decide +kernel) rfl, ty_Batch, by decide +kernel, fun j hj => match j, hj with | 0, _ => rfl | 1, _ => rfl | 2, _ => rfl | 3, _ => rfl | 4, _ => rfl⟩
theorem nw_DV_26 : fw_nw "DeltaViews" 26 4 [] 0 := ⟨"DeltaViews$Table", T_Table, rfl, uw_Table, fw_mem 94 (by decide +kernel) rfl, fw_mem 95 (by decide +kernel) rfl, fw_mem 42 (by decide +kernel) rfl, ty_Table, by decide +kernel, fun j hj => absurd hj (Nat.not_lt_zero _)⟩
theorem nw_DV_86 : fw_nw "DeltaViews" 86 5 [.null, .int 0, .int 0, .int 0] 4 := ⟨"DeltaViews$Select", T_Select, rfl, uw_Select, fw_mem 517 (by decide +kernel) rfl, fw_mem 432 (by decide +kernel) rfl, fw_mem 53 (by decide +kernel) rfl, ty_Select, by decide +kernel, fun j hj => match j, hj with | 0, _ => rfl | 1, _ => rfl | 2, _ => rfl | 3, _ => rfl⟩
theorem nw_DV_101 : fw_nw "DeltaViews" 101 6 [.null, .int 0, .int 0] 3 := ⟨"DeltaViews$Project", T_Project, rfl, uw_Project, fw_mem 554 (by decide +kernel) rfl, fw_mem 555 (by decide +kernel) rfl, fw_mem 54 (by decide +kernel) rfl, ty_Project, by decide +kernel, fun j hj => match j, hj with | 0, _ => rfl | 1, _ => rfl | 2, _ => rfl⟩
theorem nw_DV_117 : fw_nw "DeltaViews" 117 7 [.null, .null, .int 0, .int 0] 4 := ⟨"DeltaViews$Join", T_Join, rfl, uw_Join, fw_mem 578 (by decide +kernel) rfl, fw_mem 407 (by decide +kernel) rfl, fw_mem 55 (by decide +kernel) rfl, ty_Join, by decide +kernel, fun j hj => match j, hj with | 0, _ => rfl | 1, _ => rfl | 2, _ => rfl | 3, _ => rfl⟩
theorem nw_DV_124 : fw_nw "DeltaViews" 124 8 [.null, .null] 2 := ⟨"DeltaViews$Union", T_Union, rfl, uw_Union, fw_mem 604 (by decide +kernel) rfl, fw_mem 605 (by decide +kernel) rfl, fw_mem 56 (by decide +kernel) rfl, ty_Union, by decide +kernel, fun j hj => match j, hj with | 0, _ => rfl | 1, _ => rfl⟩
theorem nw_DV_131 : fw_nw "DeltaViews" 131 9 [.null, .int 0, .int 0, .int 0] 4 := ⟨"DeltaViews$Group", T_Group, rfl, uw_Group, fw_mem 625 (by decide +kernel) rfl, fw_mem 380 (by decide +kernel) rfl, fw_mem 57 (by decide +kernel) rfl, ty_Group, by decide +kernel, fun j hj => match j, hj with | 0, _ => rfl | 1, _ => rfl | 2, _ => rfl | 3, _ => rfl⟩
theorem nw_DV_134 : fw_nw "DeltaViews" 134 10 [.null] 1 := ⟨"DeltaViews$Distinct", T_Distinct, rfl, uw_Distinct, fw_mem 650 (by decide +kernel) rfl, fw_mem 651 (by decide +kernel) rfl, fw_mem 58 (by decide +kernel) rfl, ty_Distinct, by decide +kernel, fun j hj => match j, hj with | 0, _ => rfl⟩
theorem nw_View_7 : fw_nw "DeltaViews$View" 7 2 [.int 0, .int 0, .null, .null, .null] 5 := ⟨"DeltaViews$Bag", T_Bag, rfl, uw_Bag, fw_mem 108 (by decide +kernel) rfl, fw_mem 109 (by decide +kernel) rfl, fw_mem 43 (by decide +kernel) rfl, ty_Bag, by decide +kernel, fun j hj => match j, hj with | 0, _ => rfl | 1, _ => rfl | 2, _ => rfl | 3, _ => rfl | 4, _ => rfl⟩
theorem nw_Law_8 : fw_nw "DeltaViewsLaw" 8 0 [.null, .int 0, .null] 3 := ⟨"DeltaViews", T_DV, rfl, uw_DV, fw_mem 60 (by decide +kernel) rfl, fw_mem 61 (by decide +kernel) rfl, fw_mem 38 (by decide +kernel) rfl, ty_DV, by decide +kernel, fun j hj => match j, hj with | 0, _ => rfl | 1, _ => rfl | 2, _ => rfl⟩
theorem nw_Law_70 : fw_nw "DeltaViewsLaw" 70 11 [.int 0, .int 0, .null, .null, .null, .null, .null, .null, .null, .null, .null, .null, .null, .int 0, .null, .null, .null, .int 0, .null, .null, .null, .null] 22 := ⟨"DeltaViewsModel", T_Mo, rfl, uw_Mo, fw_mem 737 (by decide +kernel) rfl, fw_mem 738 (by decide +kernel) rfl, fw_mem 44 (by decide +kernel) rfl, ty_Mo, by decide +kernel, fun j hj => match j, hj with | 0, _ => rfl | 1, _ => rfl | 2, _ => rfl | 3, _ => rfl | 4, _ => rfl | 5, _ => rfl | 6, _ => rfl | 7, _ => rfl | 8, _ => rfl | 9, _ => rfl | 10, _ => rfl | 11, _ => rfl | 12, _ => rfl | 13, _ => rfl | 14, _ => rfl | 15, _ => rfl | 16, _ => rfl | 17, _ => rfl | 18, _ => rfl | 19, _ => rfl | 20, _ => rfl | 21, _ => rfl | n + 22, h => absurd h (by omega)⟩
theorem me_DV_init : fw_me mi_DV_init 0 := ⟨fw_mem 64 (by decide +kernel) rfl, rfl, fw_mem 38 (by decide +kernel) rfl, by decide, by decide +kernel, by decide⟩
theorem im_DV_init : Cond.instanceMethod mi_DV_init.1 ∈ fw_big := fw_mem 63 (by decide +kernel) rfl
theorem me_Batch_init : fw_me mi_Batch_init 0 := ⟨fw_mem 74 (by decide +kernel) rfl, rfl, fw_mem 39 (by decide +kernel) rfl, by decide, by decide +kernel, by decide⟩
theorem im_Batch_init : Cond.instanceMethod mi_Batch_init.1 ∈ fw_big := fw_mem 73 (by decide +kernel) rfl
theorem me_Table_init : fw_me mi_Table_init 0 := ⟨fw_mem 98 (by decide +kernel) rfl, rfl, fw_mem 42 (by decide +kernel) rfl, by decide, by decide +kernel, by decide⟩
theorem im_Table_init : Cond.instanceMethod mi_Table_init.1 ∈ fw_big := fw_mem 97 (by decide +kernel) rfl
theorem me_Oper_init : fw_me mi_Oper_init 0 := ⟨fw_mem 101 (by decide +kernel) rfl, rfl, fw_mem 41 (by decide +kernel) rfl, by decide, by decide +kernel, by decide⟩
theorem im_Oper_init : Cond.instanceMethod mi_Oper_init.1 ∈ fw_big := fw_mem 100 (by decide +kernel) rfl
theorem me_View_init : fw_me mi_View_init 1 := ⟨fw_mem 106 (by decide +kernel) rfl, rfl, fw_mem 40 (by decide +kernel) rfl, by decide, by decide +kernel, by decide⟩
theorem im_View_init : Cond.instanceMethod mi_View_init.1 ∈ fw_big := fw_mem 105 (by decide +kernel) rfl
theorem me_Bag_init : fw_me mi_Bag_init 0 := ⟨fw_mem 112 (by decide +kernel) rfl, rfl, fw_mem 43 (by decide +kernel) rfl, by decide, by decide +kernel, by decide⟩
theorem im_Bag_init : Cond.instanceMethod mi_Bag_init.1 ∈ fw_big := fw_mem 111 (by decide +kernel) rfl
theorem me_DV_cancel : fw_me mi_DV_cancel 0 := ⟨fw_mem 178 (by decide +kernel) rfl, rfl, fw_mem 38 (by decide +kernel) rfl, by decide, by decide +kernel, by decide⟩
theorem im_DV_cancel : Cond.instanceMethod mi_DV_cancel.1 ∈ fw_big := fw_mem 176 (by decide +kernel) rfl
theorem se_DV_cancel : Cond.selects mi_DV_cancel.1.cls mi_DV_cancel.1 mi_DV_cancel.1 ∈ fw_big := fw_mem 177 (by decide +kernel) rfl
theorem me_Batch_empty : fw_me mi_Batch_empty 0 := ⟨fw_mem 182 (by decide +kernel) rfl, rfl, fw_mem 39 (by decide +kernel) rfl, by decide, by decide +kernel, by decide⟩
theorem im_Batch_empty : Cond.instanceMethod mi_Batch_empty.1 ∈ fw_big := fw_mem 180 (by decide +kernel) rfl
theorem se_Batch_empty : Cond.selects mi_Batch_empty.1.cls mi_Batch_empty.1 mi_Batch_empty.1 ∈ fw_big := fw_mem 181 (by decide +kernel) rfl
theorem me_Law_change : fw_me mi_Law_change 6 := ⟨fw_mem 185 (by decide +kernel) rfl, rfl, fw_mem 37 (by decide +kernel) rfl, by decide, by decide +kernel, by decide⟩
theorem st_Law_change : Cond.static mi_Law_change.1 ∈ fw_big := fw_mem 184 (by decide +kernel) rfl
theorem me_DV_change : fw_me mi_DV_change 4 := ⟨fw_mem 192 (by decide +kernel) rfl, rfl, fw_mem 38 (by decide +kernel) rfl, by decide, by decide +kernel, by decide⟩
theorem im_DV_change : Cond.instanceMethod mi_DV_change.1 ∈ fw_big := fw_mem 190 (by decide +kernel) rfl
theorem se_DV_change : Cond.selects mi_DV_change.1.cls mi_DV_change.1 mi_DV_change.1 ∈ fw_big := fw_mem 191 (by decide +kernel) rfl
theorem me_DV_isTooFar : fw_me mi_DV_isTooFar 2 := ⟨fw_mem 264 (by decide +kernel) rfl, rfl, fw_mem 38 (by decide +kernel) rfl, by decide, by decide +kernel, by decide⟩
theorem st_DV_isTooFar : Cond.static mi_DV_isTooFar.1 ∈ fw_big := fw_mem 263 (by decide +kernel) rfl
theorem me_Batch_isFull : fw_me mi_Batch_isFull 0 := ⟨fw_mem 284 (by decide +kernel) rfl, rfl, fw_mem 39 (by decide +kernel) rfl, by decide, by decide +kernel, by decide⟩
theorem im_Batch_isFull : Cond.instanceMethod mi_Batch_isFull.1 ∈ fw_big := fw_mem 282 (by decide +kernel) rfl
theorem se_Batch_isFull : Cond.selects mi_Batch_isFull.1.cls mi_Batch_isFull.1 mi_Batch_isFull.1 ∈ fw_big := fw_mem 283 (by decide +kernel) rfl
theorem me_Batch_append : fw_me mi_Batch_append 4 := ⟨fw_mem 304 (by decide +kernel) rfl, rfl, fw_mem 39 (by decide +kernel) rfl, by decide, by decide +kernel, by decide⟩
theorem im_Batch_append : Cond.instanceMethod mi_Batch_append.1 ∈ fw_big := fw_mem 302 (by decide +kernel) rfl
theorem se_Batch_append : Cond.selects mi_Batch_append.1.cls mi_Batch_append.1 mi_Batch_append.1 ∈ fw_big := fw_mem 303 (by decide +kernel) rfl
theorem me_Law_commit : fw_me mi_Law_commit 2 := ⟨fw_mem 307 (by decide +kernel) rfl, rfl, fw_mem 37 (by decide +kernel) rfl, by decide, by decide +kernel, by decide⟩
theorem st_Law_commit : Cond.static mi_Law_commit.1 ∈ fw_big := fw_mem 306 (by decide +kernel) rfl
theorem me_DV_commit : fw_me mi_DV_commit 0 := ⟨fw_mem 311 (by decide +kernel) rfl, rfl, fw_mem 38 (by decide +kernel) rfl, by decide, by decide +kernel, by decide⟩
theorem im_DV_commit : Cond.instanceMethod mi_DV_commit.1 ∈ fw_big := fw_mem 309 (by decide +kernel) rfl
theorem se_DV_commit : Cond.selects mi_DV_commit.1.cls mi_DV_commit.1 mi_DV_commit.1 ∈ fw_big := fw_mem 310 (by decide +kernel) rfl
theorem me_DV_renewViews : fw_me mi_DV_renewViews 0 := ⟨fw_mem 315 (by decide +kernel) rfl, rfl, fw_mem 38 (by decide +kernel) rfl, by decide, by decide +kernel, by decide⟩
theorem im_DV_renewViews : Cond.instanceMethod mi_DV_renewViews.1 ∈ fw_big := fw_mem 314 (by decide +kernel) rfl
theorem se_DV_renewViews : Cond.selects mi_DV_renewViews.1.cls mi_DV_renewViews.1 mi_DV_renewViews.1 ∈ fw_big := fw_mem 1 (by decide +kernel) rfl
theorem me_View_renew : fw_me mi_View_renew 0 := ⟨fw_mem 319 (by decide +kernel) rfl, rfl, fw_mem 40 (by decide +kernel) rfl, by decide, by decide +kernel, by decide⟩
theorem im_View_renew : Cond.instanceMethod mi_View_renew.1 ∈ fw_big := fw_mem 317 (by decide +kernel) rfl
theorem se_View_renew : Cond.selects mi_View_renew.1.cls mi_View_renew.1 mi_View_renew.1 ∈ fw_big := fw_mem 318 (by decide +kernel) rfl
theorem me_View_exchangeBags : fw_me mi_View_exchangeBags 0 := ⟨fw_mem 323 (by decide +kernel) rfl, rfl, fw_mem 40 (by decide +kernel) rfl, by decide, by decide +kernel, by decide⟩
theorem im_View_exchangeBags : Cond.instanceMethod mi_View_exchangeBags.1 ∈ fw_big := fw_mem 321 (by decide +kernel) rfl
theorem se_View_exchangeBags : Cond.selects mi_View_exchangeBags.1.cls mi_View_exchangeBags.1 mi_View_exchangeBags.1 ∈ fw_big := fw_mem 322 (by decide +kernel) rfl
theorem me_Distinct_fill : fw_me mi_Distinct_fill 2 := ⟨fw_mem 329 (by decide +kernel) rfl, rfl, fw_mem 58 (by decide +kernel) rfl, by decide, by decide +kernel, by decide⟩
theorem im_Distinct_fill : Cond.instanceMethod mi_Distinct_fill.1 ∈ fw_big := fw_mem 328 (by decide +kernel) rfl
theorem me_Bag_clear : fw_me mi_Bag_clear 1 := ⟨fw_mem 333 (by decide +kernel) rfl, rfl, fw_mem 43 (by decide +kernel) rfl, by decide, by decide +kernel, by decide⟩
theorem im_Bag_clear : Cond.instanceMethod mi_Bag_clear.1 ∈ fw_big := fw_mem 331 (by decide +kernel) rfl
theorem se_Bag_clear : Cond.selects mi_Bag_clear.1.cls mi_Bag_clear.1 mi_Bag_clear.1 ∈ fw_big := fw_mem 332 (by decide +kernel) rfl
theorem me_Bag_putRow : fw_me mi_Bag_putRow 3 := ⟨fw_mem 337 (by decide +kernel) rfl, rfl, fw_mem 43 (by decide +kernel) rfl, by decide, by decide +kernel, by decide⟩
theorem im_Bag_putRow : Cond.instanceMethod mi_Bag_putRow.1 ∈ fw_big := fw_mem 335 (by decide +kernel) rfl
theorem se_Bag_putRow : Cond.selects mi_Bag_putRow.1.cls mi_Bag_putRow.1 mi_Bag_putRow.1 ∈ fw_big := fw_mem 336 (by decide +kernel) rfl
theorem me_Bag_cellAt : fw_me mi_Bag_cellAt 2 := ⟨fw_mem 341 (by decide +kernel) rfl, rfl, fw_mem 43 (by decide +kernel) rfl, by decide, by decide +kernel, by decide⟩
theorem im_Bag_cellAt : Cond.instanceMethod mi_Bag_cellAt.1 ∈ fw_big := fw_mem 339 (by decide +kernel) rfl
theorem se_Bag_cellAt : Cond.selects mi_Bag_cellAt.1.cls mi_Bag_cellAt.1 mi_Bag_cellAt.1 ∈ fw_big := fw_mem 340 (by decide +kernel) rfl
theorem me_Bag_put : fw_me mi_Bag_put 2 := ⟨fw_mem 345 (by decide +kernel) rfl, rfl, fw_mem 43 (by decide +kernel) rfl, by decide, by decide +kernel, by decide⟩
theorem im_Bag_put : Cond.instanceMethod mi_Bag_put.1 ∈ fw_big := fw_mem 343 (by decide +kernel) rfl
theorem se_Bag_put : Cond.selects mi_Bag_put.1.cls mi_Bag_put.1 mi_Bag_put.1 ∈ fw_big := fw_mem 344 (by decide +kernel) rfl
theorem me_Bag_add : fw_me mi_Bag_add 1 := ⟨fw_mem 349 (by decide +kernel) rfl, rfl, fw_mem 43 (by decide +kernel) rfl, by decide, by decide +kernel, by decide⟩
theorem im_Bag_add : Cond.instanceMethod mi_Bag_add.1 ∈ fw_big := fw_mem 347 (by decide +kernel) rfl
theorem se_Bag_add : Cond.selects mi_Bag_add.1.cls mi_Bag_add.1 mi_Bag_add.1 ∈ fw_big := fw_mem 348 (by decide +kernel) rfl
theorem me_Bag_placeOfPending : fw_me mi_Bag_placeOfPending 0 := ⟨fw_mem 353 (by decide +kernel) rfl, rfl, fw_mem 43 (by decide +kernel) rfl, by decide, by decide +kernel, by decide⟩
theorem im_Bag_placeOfPending : Cond.instanceMethod mi_Bag_placeOfPending.1 ∈ fw_big := fw_mem 352 (by decide +kernel) rfl
theorem se_Bag_placeOfPending : Cond.selects mi_Bag_placeOfPending.1.cls mi_Bag_placeOfPending.1 mi_Bag_placeOfPending.1 ∈ fw_big := fw_mem 2 (by decide +kernel) rfl
theorem me_Bag_orderOfCells : fw_me mi_Bag_orderOfCells 3 := ⟨fw_mem 357 (by decide +kernel) rfl, rfl, fw_mem 43 (by decide +kernel) rfl, by decide, by decide +kernel, by decide⟩
theorem im_Bag_orderOfCells : Cond.instanceMethod mi_Bag_orderOfCells.1 ∈ fw_big := fw_mem 356 (by decide +kernel) rfl
theorem se_Bag_orderOfCells : Cond.selects mi_Bag_orderOfCells.1.cls mi_Bag_orderOfCells.1 mi_Bag_orderOfCells.1 ∈ fw_big := fw_mem 3 (by decide +kernel) rfl
theorem me_Bag_isPending : fw_me mi_Bag_isPending 1 := ⟨fw_mem 361 (by decide +kernel) rfl, rfl, fw_mem 43 (by decide +kernel) rfl, by decide, by decide +kernel, by decide⟩
theorem im_Bag_isPending : Cond.instanceMethod mi_Bag_isPending.1 ∈ fw_big := fw_mem 360 (by decide +kernel) rfl
theorem se_Bag_isPending : Cond.selects mi_Bag_isPending.1.cls mi_Bag_isPending.1 mi_Bag_isPending.1 ∈ fw_big := fw_mem 4 (by decide +kernel) rfl
theorem me_Bag_remove : fw_me mi_Bag_remove 1 := ⟨fw_mem 365 (by decide +kernel) rfl, rfl, fw_mem 43 (by decide +kernel) rfl, by decide, by decide +kernel, by decide⟩
theorem im_Bag_remove : Cond.instanceMethod mi_Bag_remove.1 ∈ fw_big := fw_mem 364 (by decide +kernel) rfl
theorem se_Bag_remove : Cond.selects mi_Bag_remove.1.cls mi_Bag_remove.1 mi_Bag_remove.1 ∈ fw_big := fw_mem 5 (by decide +kernel) rfl
theorem me_Bag_insert : fw_me mi_Bag_insert 2 := ⟨fw_mem 372 (by decide +kernel) rfl, rfl, fw_mem 43 (by decide +kernel) rfl, by decide, by decide +kernel, by decide⟩
theorem im_Bag_insert : Cond.instanceMethod mi_Bag_insert.1 ∈ fw_big := fw_mem 371 (by decide +kernel) rfl
theorem se_Bag_insert : Cond.selects mi_Bag_insert.1.cls mi_Bag_insert.1 mi_Bag_insert.1 ∈ fw_big := fw_mem 6 (by decide +kernel) rfl
theorem me_Group_fill : fw_me mi_Group_fill 2 := ⟨fw_mem 375 (by decide +kernel) rfl, rfl, fw_mem 57 (by decide +kernel) rfl, by decide, by decide +kernel, by decide⟩
theorem im_Group_fill : Cond.instanceMethod mi_Group_fill.1 ∈ fw_big := fw_mem 374 (by decide +kernel) rfl
theorem me_Group_isFirstOfGroup : fw_me mi_Group_isFirstOfGroup 2 := ⟨fw_mem 381 (by decide +kernel) rfl, rfl, fw_mem 57 (by decide +kernel) rfl, by decide, by decide +kernel, by decide⟩
theorem im_Group_isFirstOfGroup : Cond.instanceMethod mi_Group_isFirstOfGroup.1 ∈ fw_big := fw_mem 379 (by decide +kernel) rfl
theorem se_Group_isFirstOfGroup : Cond.selects mi_Group_isFirstOfGroup.1.cls mi_Group_isFirstOfGroup.1 mi_Group_isFirstOfGroup.1 ∈ fw_big := fw_mem 7 (by decide +kernel) rfl
theorem me_Group_fold : fw_me mi_Group_fold 2 := ⟨fw_mem 387 (by decide +kernel) rfl, rfl, fw_mem 57 (by decide +kernel) rfl, by decide, by decide +kernel, by decide⟩
theorem im_Group_fold : Cond.instanceMethod mi_Group_fold.1 ∈ fw_big := fw_mem 386 (by decide +kernel) rfl
theorem se_Group_fold : Cond.selects mi_Group_fold.1.cls mi_Group_fold.1 mi_Group_fold.1 ∈ fw_big := fw_mem 8 (by decide +kernel) rfl
theorem me_Group_worth : fw_me mi_Group_worth 2 := ⟨fw_mem 391 (by decide +kernel) rfl, rfl, fw_mem 57 (by decide +kernel) rfl, by decide, by decide +kernel, by decide⟩
theorem im_Group_worth : Cond.instanceMethod mi_Group_worth.1 ∈ fw_big := fw_mem 390 (by decide +kernel) rfl
theorem se_Group_worth : Cond.selects mi_Group_worth.1.cls mi_Group_worth.1 mi_Group_worth.1 ∈ fw_big := fw_mem 9 (by decide +kernel) rfl
theorem me_Bag_timesAt : fw_me mi_Bag_timesAt 1 := ⟨fw_mem 395 (by decide +kernel) rfl, rfl, fw_mem 43 (by decide +kernel) rfl, by decide, by decide +kernel, by decide⟩
theorem im_Bag_timesAt : Cond.instanceMethod mi_Bag_timesAt.1 ∈ fw_big := fw_mem 393 (by decide +kernel) rfl
theorem se_Bag_timesAt : Cond.selects mi_Bag_timesAt.1.cls mi_Bag_timesAt.1 mi_Bag_timesAt.1 ∈ fw_big := fw_mem 394 (by decide +kernel) rfl
theorem me_Join_fill : fw_me mi_Join_fill 2 := ⟨fw_mem 402 (by decide +kernel) rfl, rfl, fw_mem 55 (by decide +kernel) rfl, by decide, by decide +kernel, by decide⟩
theorem im_Join_fill : Cond.instanceMethod mi_Join_fill.1 ∈ fw_big := fw_mem 401 (by decide +kernel) rfl
theorem me_Join_addPartners : fw_me mi_Join_addPartners 2 := ⟨fw_mem 408 (by decide +kernel) rfl, rfl, fw_mem 55 (by decide +kernel) rfl, by decide, by decide +kernel, by decide⟩
theorem im_Join_addPartners : Cond.instanceMethod mi_Join_addPartners.1 ∈ fw_big := fw_mem 406 (by decide +kernel) rfl
theorem se_Join_addPartners : Cond.selects mi_Join_addPartners.1.cls mi_Join_addPartners.1 mi_Join_addPartners.1 ∈ fw_big := fw_mem 10 (by decide +kernel) rfl
theorem me_Project_fill : fw_me mi_Project_fill 2 := ⟨fw_mem 415 (by decide +kernel) rfl, rfl, fw_mem 54 (by decide +kernel) rfl, by decide, by decide +kernel, by decide⟩
theorem im_Project_fill : Cond.instanceMethod mi_Project_fill.1 ∈ fw_big := fw_mem 414 (by decide +kernel) rfl
theorem me_DV_columnInBits : fw_me mi_DV_columnInBits 2 := ⟨fw_mem 419 (by decide +kernel) rfl, rfl, fw_mem 38 (by decide +kernel) rfl, by decide, by decide +kernel, by decide⟩
theorem st_DV_columnInBits : Cond.static mi_DV_columnInBits.1 ∈ fw_big := fw_mem 418 (by decide +kernel) rfl
theorem me_Select_fill : fw_me mi_Select_fill 2 := ⟨fw_mem 426 (by decide +kernel) rfl, rfl, fw_mem 53 (by decide +kernel) rfl, by decide, by decide +kernel, by decide⟩
theorem im_Select_fill : Cond.instanceMethod mi_Select_fill.1 ∈ fw_big := fw_mem 425 (by decide +kernel) rfl
theorem me_Select_passes : fw_me mi_Select_passes 1 := ⟨fw_mem 433 (by decide +kernel) rfl, rfl, fw_mem 53 (by decide +kernel) rfl, by decide, by decide +kernel, by decide⟩
theorem im_Select_passes : Cond.instanceMethod mi_Select_passes.1 ∈ fw_big := fw_mem 431 (by decide +kernel) rfl
theorem se_Select_passes : Cond.selects mi_Select_passes.1.cls mi_Select_passes.1 mi_Select_passes.1 ∈ fw_big := fw_mem 11 (by decide +kernel) rfl
theorem me_Table_fill : fw_me mi_Table_fill 2 := ⟨fw_mem 439 (by decide +kernel) rfl, rfl, fw_mem 42 (by decide +kernel) rfl, by decide, by decide +kernel, by decide⟩
theorem im_Table_fill : Cond.instanceMethod mi_Table_fill.1 ∈ fw_big := fw_mem 438 (by decide +kernel) rfl
theorem me_Bag_copy : fw_me mi_Bag_copy 1 := ⟨fw_mem 443 (by decide +kernel) rfl, rfl, fw_mem 43 (by decide +kernel) rfl, by decide, by decide +kernel, by decide⟩
theorem im_Bag_copy : Cond.instanceMethod mi_Bag_copy.1 ∈ fw_big := fw_mem 441 (by decide +kernel) rfl
theorem se_Bag_copy : Cond.selects mi_Bag_copy.1.cls mi_Bag_copy.1 mi_Bag_copy.1 ∈ fw_big := fw_mem 442 (by decide +kernel) rfl
theorem me_Union_fill : fw_me mi_Union_fill 2 := ⟨fw_mem 446 (by decide +kernel) rfl, rfl, fw_mem 56 (by decide +kernel) rfl, by decide, by decide +kernel, by decide⟩
theorem im_Union_fill : Cond.instanceMethod mi_Union_fill.1 ∈ fw_big := fw_mem 445 (by decide +kernel) rfl
theorem me_Bag_addAll : fw_me mi_Bag_addAll 1 := ⟨fw_mem 451 (by decide +kernel) rfl, rfl, fw_mem 43 (by decide +kernel) rfl, by decide, by decide +kernel, by decide⟩
theorem im_Bag_addAll : Cond.instanceMethod mi_Bag_addAll.1 ∈ fw_big := fw_mem 449 (by decide +kernel) rfl
theorem se_Bag_addAll : Cond.selects mi_Bag_addAll.1.cls mi_Bag_addAll.1 mi_Bag_addAll.1 ∈ fw_big := fw_mem 450 (by decide +kernel) rfl
theorem me_Batch_addTo : fw_me mi_Batch_addTo 2 := ⟨fw_mem 458 (by decide +kernel) rfl, rfl, fw_mem 39 (by decide +kernel) rfl, by decide, by decide +kernel, by decide⟩
theorem im_Batch_addTo : Cond.instanceMethod mi_Batch_addTo.1 ∈ fw_big := fw_mem 456 (by decide +kernel) rfl
theorem se_Batch_addTo : Cond.selects mi_Batch_addTo.1.cls mi_Batch_addTo.1 mi_Batch_addTo.1 ∈ fw_big := fw_mem 457 (by decide +kernel) rfl
theorem me_View_keepsLimits : fw_me mi_View_keepsLimits 0 := ⟨fw_mem 464 (by decide +kernel) rfl, rfl, fw_mem 40 (by decide +kernel) rfl, by decide, by decide +kernel, by decide⟩
theorem im_View_keepsLimits : Cond.instanceMethod mi_View_keepsLimits.1 ∈ fw_big := fw_mem 462 (by decide +kernel) rfl
theorem se_View_keepsLimits : Cond.selects mi_View_keepsLimits.1.cls mi_View_keepsLimits.1 mi_View_keepsLimits.1 ∈ fw_big := fw_mem 463 (by decide +kernel) rfl
theorem me_Table_allows : fw_me mi_Table_allows 1 := ⟨fw_mem 475 (by decide +kernel) rfl, rfl, fw_mem 42 (by decide +kernel) rfl, by decide, by decide +kernel, by decide⟩
theorem im_Table_allows : Cond.instanceMethod mi_Table_allows.1 ∈ fw_big := fw_mem 474 (by decide +kernel) rfl
theorem me_Bag_hasTimesOutside : fw_me mi_Bag_hasTimesOutside 2 := ⟨fw_mem 479 (by decide +kernel) rfl, rfl, fw_mem 43 (by decide +kernel) rfl, by decide, by decide +kernel, by decide⟩
theorem im_Bag_hasTimesOutside : Cond.instanceMethod mi_Bag_hasTimesOutside.1 ∈ fw_big := fw_mem 477 (by decide +kernel) rfl
theorem se_Bag_hasTimesOutside : Cond.selects mi_Bag_hasTimesOutside.1.cls mi_Bag_hasTimesOutside.1 mi_Bag_hasTimesOutside.1 ∈ fw_big := fw_mem 478 (by decide +kernel) rfl
theorem me_Oper_allows : fw_me mi_Oper_allows 1 := ⟨fw_mem 481 (by decide +kernel) rfl, rfl, fw_mem 41 (by decide +kernel) rfl, by decide, by decide +kernel, by decide⟩
theorem im_Oper_allows : Cond.instanceMethod mi_Oper_allows.1 ∈ fw_big := fw_mem 466 (by decide +kernel) rfl
theorem me_DV_takeBack : fw_me mi_DV_takeBack 1 := ⟨fw_mem 485 (by decide +kernel) rfl, rfl, fw_mem 38 (by decide +kernel) rfl, by decide, by decide +kernel, by decide⟩
theorem im_DV_takeBack : Cond.instanceMethod mi_DV_takeBack.1 ∈ fw_big := fw_mem 484 (by decide +kernel) rfl
theorem se_DV_takeBack : Cond.selects mi_DV_takeBack.1.cls mi_DV_takeBack.1 mi_DV_takeBack.1 ∈ fw_big := fw_mem 12 (by decide +kernel) rfl
theorem me_View_countMoved : fw_me mi_View_countMoved 0 := ⟨fw_mem 491 (by decide +kernel) rfl, rfl, fw_mem 40 (by decide +kernel) rfl, by decide, by decide +kernel, by decide⟩
theorem im_View_countMoved : Cond.instanceMethod mi_View_countMoved.1 ∈ fw_big := fw_mem 489 (by decide +kernel) rfl
theorem se_View_countMoved : Cond.selects mi_View_countMoved.1.cls mi_View_countMoved.1 mi_View_countMoved.1 ∈ fw_big := fw_mem 490 (by decide +kernel) rfl
theorem me_Bag_differencesFrom : fw_me mi_Bag_differencesFrom 1 := ⟨fw_mem 495 (by decide +kernel) rfl, rfl, fw_mem 43 (by decide +kernel) rfl, by decide, by decide +kernel, by decide⟩
theorem im_Bag_differencesFrom : Cond.instanceMethod mi_Bag_differencesFrom.1 ∈ fw_big := fw_mem 493 (by decide +kernel) rfl
theorem se_Bag_differencesFrom : Cond.selects mi_Bag_differencesFrom.1.cls mi_Bag_differencesFrom.1 mi_Bag_differencesFrom.1 ∈ fw_big := fw_mem 494 (by decide +kernel) rfl
theorem me_Bag_orderOfRows : fw_me mi_Bag_orderOfRows 3 := ⟨fw_mem 499 (by decide +kernel) rfl, rfl, fw_mem 43 (by decide +kernel) rfl, by decide, by decide +kernel, by decide⟩
theorem im_Bag_orderOfRows : Cond.instanceMethod mi_Bag_orderOfRows.1 ∈ fw_big := fw_mem 498 (by decide +kernel) rfl
theorem se_Bag_orderOfRows : Cond.selects mi_Bag_orderOfRows.1.cls mi_Bag_orderOfRows.1 mi_Bag_orderOfRows.1 ∈ fw_big := fw_mem 13 (by decide +kernel) rfl
theorem me_Law_select : fw_me mi_Law_select 6 := ⟨fw_mem 502 (by decide +kernel) rfl, rfl, fw_mem 37 (by decide +kernel) rfl, by decide, by decide +kernel, by decide⟩
theorem st_Law_select : Cond.static mi_Law_select.1 ∈ fw_big := fw_mem 501 (by decide +kernel) rfl
theorem me_DV_select : fw_me mi_DV_select 4 := ⟨fw_mem 506 (by decide +kernel) rfl, rfl, fw_mem 38 (by decide +kernel) rfl, by decide, by decide +kernel, by decide⟩
theorem im_DV_select : Cond.instanceMethod mi_DV_select.1 ∈ fw_big := fw_mem 504 (by decide +kernel) rfl
theorem se_DV_select : Cond.selects mi_DV_select.1.cls mi_DV_select.1 mi_DV_select.1 ∈ fw_big := fw_mem 505 (by decide +kernel) rfl
theorem me_DV_viewAt : fw_me mi_DV_viewAt 1 := ⟨fw_mem 510 (by decide +kernel) rfl, rfl, fw_mem 38 (by decide +kernel) rfl, by decide, by decide +kernel, by decide⟩
theorem im_DV_viewAt : Cond.instanceMethod mi_DV_viewAt.1 ∈ fw_big := fw_mem 509 (by decide +kernel) rfl
theorem se_DV_viewAt : Cond.selects mi_DV_viewAt.1.cls mi_DV_viewAt.1 mi_DV_viewAt.1 ∈ fw_big := fw_mem 14 (by decide +kernel) rfl
theorem me_DV_needColumn : fw_me mi_DV_needColumn 2 := ⟨fw_mem 514 (by decide +kernel) rfl, rfl, fw_mem 38 (by decide +kernel) rfl, by decide, by decide +kernel, by decide⟩
theorem st_DV_needColumn : Cond.static mi_DV_needColumn.1 ∈ fw_big := fw_mem 513 (by decide +kernel) rfl
theorem me_Select_init : fw_me mi_Select_init 4 := ⟨fw_mem 520 (by decide +kernel) rfl, rfl, fw_mem 53 (by decide +kernel) rfl, by decide, by decide +kernel, by decide⟩
theorem im_Select_init : Cond.instanceMethod mi_Select_init.1 ∈ fw_big := fw_mem 519 (by decide +kernel) rfl
theorem me_DV_makeView : fw_me mi_DV_makeView 1 := ⟨fw_mem 538 (by decide +kernel) rfl, rfl, fw_mem 38 (by decide +kernel) rfl, by decide, by decide +kernel, by decide⟩
theorem im_DV_makeView : Cond.instanceMethod mi_DV_makeView.1 ∈ fw_big := fw_mem 537 (by decide +kernel) rfl
theorem se_DV_makeView : Cond.selects mi_DV_makeView.1.cls mi_DV_makeView.1 mi_DV_makeView.1 ∈ fw_big := fw_mem 15 (by decide +kernel) rfl
theorem me_View_begin : fw_me mi_View_begin 1 := ⟨fw_mem 543 (by decide +kernel) rfl, rfl, fw_mem 40 (by decide +kernel) rfl, by decide, by decide +kernel, by decide⟩
theorem im_View_begin : Cond.instanceMethod mi_View_begin.1 ∈ fw_big := fw_mem 541 (by decide +kernel) rfl
theorem se_View_begin : Cond.selects mi_View_begin.1.cls mi_View_begin.1 mi_View_begin.1 ∈ fw_big := fw_mem 542 (by decide +kernel) rfl
theorem me_Law_project : fw_me mi_Law_project 5 := ⟨fw_mem 547 (by decide +kernel) rfl, rfl, fw_mem 37 (by decide +kernel) rfl, by decide, by decide +kernel, by decide⟩
theorem st_Law_project : Cond.static mi_Law_project.1 ∈ fw_big := fw_mem 546 (by decide +kernel) rfl
theorem me_DV_project : fw_me mi_DV_project 3 := ⟨fw_mem 551 (by decide +kernel) rfl, rfl, fw_mem 38 (by decide +kernel) rfl, by decide, by decide +kernel, by decide⟩
theorem im_DV_project : Cond.instanceMethod mi_DV_project.1 ∈ fw_big := fw_mem 549 (by decide +kernel) rfl
theorem se_DV_project : Cond.selects mi_DV_project.1.cls mi_DV_project.1 mi_DV_project.1 ∈ fw_big := fw_mem 550 (by decide +kernel) rfl
theorem me_Project_init : fw_me mi_Project_init 3 := ⟨fw_mem 558 (by decide +kernel) rfl, rfl, fw_mem 54 (by decide +kernel) rfl, by decide, by decide +kernel, by decide⟩
theorem im_Project_init : Cond.instanceMethod mi_Project_init.1 ∈ fw_big := fw_mem 557 (by decide +kernel) rfl
theorem me_Law_join : fw_me mi_Law_join 6 := ⟨fw_mem 572 (by decide +kernel) rfl, rfl, fw_mem 37 (by decide +kernel) rfl, by decide, by decide +kernel, by decide⟩
theorem st_Law_join : Cond.static mi_Law_join.1 ∈ fw_big := fw_mem 571 (by decide +kernel) rfl
theorem me_DV_join : fw_me mi_DV_join 4 := ⟨fw_mem 576 (by decide +kernel) rfl, rfl, fw_mem 38 (by decide +kernel) rfl, by decide, by decide +kernel, by decide⟩
theorem im_DV_join : Cond.instanceMethod mi_DV_join.1 ∈ fw_big := fw_mem 574 (by decide +kernel) rfl
theorem se_DV_join : Cond.selects mi_DV_join.1.cls mi_DV_join.1 mi_DV_join.1 ∈ fw_big := fw_mem 575 (by decide +kernel) rfl
theorem me_Join_init : fw_me mi_Join_init 4 := ⟨fw_mem 581 (by decide +kernel) rfl, rfl, fw_mem 55 (by decide +kernel) rfl, by decide, by decide +kernel, by decide⟩
theorem im_Join_init : Cond.instanceMethod mi_Join_init.1 ∈ fw_big := fw_mem 580 (by decide +kernel) rfl
theorem me_Law_union : fw_me mi_Law_union 4 := ⟨fw_mem 598 (by decide +kernel) rfl, rfl, fw_mem 37 (by decide +kernel) rfl, by decide, by decide +kernel, by decide⟩
theorem st_Law_union : Cond.static mi_Law_union.1 ∈ fw_big := fw_mem 597 (by decide +kernel) rfl
theorem me_DV_union : fw_me mi_DV_union 2 := ⟨fw_mem 602 (by decide +kernel) rfl, rfl, fw_mem 38 (by decide +kernel) rfl, by decide, by decide +kernel, by decide⟩
theorem im_DV_union : Cond.instanceMethod mi_DV_union.1 ∈ fw_big := fw_mem 600 (by decide +kernel) rfl
theorem se_DV_union : Cond.selects mi_DV_union.1.cls mi_DV_union.1 mi_DV_union.1 ∈ fw_big := fw_mem 601 (by decide +kernel) rfl
theorem me_Union_init : fw_me mi_Union_init 2 := ⟨fw_mem 608 (by decide +kernel) rfl, rfl, fw_mem 56 (by decide +kernel) rfl, by decide, by decide +kernel, by decide⟩
theorem im_Union_init : Cond.instanceMethod mi_Union_init.1 ∈ fw_big := fw_mem 607 (by decide +kernel) rfl
theorem me_Law_group : fw_me mi_Law_group 6 := ⟨fw_mem 619 (by decide +kernel) rfl, rfl, fw_mem 37 (by decide +kernel) rfl, by decide, by decide +kernel, by decide⟩
theorem st_Law_group : Cond.static mi_Law_group.1 ∈ fw_big := fw_mem 618 (by decide +kernel) rfl
theorem me_DV_group : fw_me mi_DV_group 4 := ⟨fw_mem 623 (by decide +kernel) rfl, rfl, fw_mem 38 (by decide +kernel) rfl, by decide, by decide +kernel, by decide⟩
theorem im_DV_group : Cond.instanceMethod mi_DV_group.1 ∈ fw_big := fw_mem 621 (by decide +kernel) rfl
theorem se_DV_group : Cond.selects mi_DV_group.1.cls mi_DV_group.1 mi_DV_group.1 ∈ fw_big := fw_mem 622 (by decide +kernel) rfl
theorem me_Group_init : fw_me mi_Group_init 4 := ⟨fw_mem 628 (by decide +kernel) rfl, rfl, fw_mem 57 (by decide +kernel) rfl, by decide, by decide +kernel, by decide⟩
theorem im_Group_init : Cond.instanceMethod mi_Group_init.1 ∈ fw_big := fw_mem 627 (by decide +kernel) rfl
theorem me_Law_distinct : fw_me mi_Law_distinct 3 := ⟨fw_mem 645 (by decide +kernel) rfl, rfl, fw_mem 37 (by decide +kernel) rfl, by decide, by decide +kernel, by decide⟩
theorem st_Law_distinct : Cond.static mi_Law_distinct.1 ∈ fw_big := fw_mem 644 (by decide +kernel) rfl
theorem me_DV_distinct : fw_me mi_DV_distinct 1 := ⟨fw_mem 649 (by decide +kernel) rfl, rfl, fw_mem 38 (by decide +kernel) rfl, by decide, by decide +kernel, by decide⟩
theorem im_DV_distinct : Cond.instanceMethod mi_DV_distinct.1 ∈ fw_big := fw_mem 647 (by decide +kernel) rfl
theorem se_DV_distinct : Cond.selects mi_DV_distinct.1.cls mi_DV_distinct.1 mi_DV_distinct.1 ∈ fw_big := fw_mem 648 (by decide +kernel) rfl
theorem me_Distinct_init : fw_me mi_Distinct_init 1 := ⟨fw_mem 654 (by decide +kernel) rfl, rfl, fw_mem 58 (by decide +kernel) rfl, by decide, by decide +kernel, by decide⟩
theorem im_Distinct_init : Cond.instanceMethod mi_Distinct_init.1 ∈ fw_big := fw_mem 653 (by decide +kernel) rfl
theorem me_Law_drop : fw_me mi_Law_drop 2 := ⟨fw_mem 662 (by decide +kernel) rfl, rfl, fw_mem 37 (by decide +kernel) rfl, by decide, by decide +kernel, by decide⟩
theorem st_Law_drop : Cond.static mi_Law_drop.1 ∈ fw_big := fw_mem 661 (by decide +kernel) rfl
theorem me_DV_drop : fw_me mi_DV_drop 0 := ⟨fw_mem 666 (by decide +kernel) rfl, rfl, fw_mem 38 (by decide +kernel) rfl, by decide, by decide +kernel, by decide⟩
theorem im_DV_drop : Cond.instanceMethod mi_DV_drop.1 ∈ fw_big := fw_mem 664 (by decide +kernel) rfl
theorem se_DV_drop : Cond.selects mi_DV_drop.1.cls mi_DV_drop.1 mi_DV_drop.1 ∈ fw_big := fw_mem 665 (by decide +kernel) rfl
theorem me_Law_width : fw_me mi_Law_width 3 := ⟨fw_mem 670 (by decide +kernel) rfl, rfl, fw_mem 37 (by decide +kernel) rfl, by decide, by decide +kernel, by decide⟩
theorem st_Law_width : Cond.static mi_Law_width.1 ∈ fw_big := fw_mem 669 (by decide +kernel) rfl
theorem me_DV_width : fw_me mi_DV_width 1 := ⟨fw_mem 674 (by decide +kernel) rfl, rfl, fw_mem 38 (by decide +kernel) rfl, by decide, by decide +kernel, by decide⟩
theorem im_DV_width : Cond.instanceMethod mi_DV_width.1 ∈ fw_big := fw_mem 672 (by decide +kernel) rfl
theorem se_DV_width : Cond.selects mi_DV_width.1.cls mi_DV_width.1 mi_DV_width.1 ∈ fw_big := fw_mem 673 (by decide +kernel) rfl
theorem me_Law_rows : fw_me mi_Law_rows 3 := ⟨fw_mem 677 (by decide +kernel) rfl, rfl, fw_mem 37 (by decide +kernel) rfl, by decide, by decide +kernel, by decide⟩
theorem st_Law_rows : Cond.static mi_Law_rows.1 ∈ fw_big := fw_mem 676 (by decide +kernel) rfl
theorem me_DV_rows : fw_me mi_DV_rows 1 := ⟨fw_mem 681 (by decide +kernel) rfl, rfl, fw_mem 38 (by decide +kernel) rfl, by decide, by decide +kernel, by decide⟩
theorem im_DV_rows : Cond.instanceMethod mi_DV_rows.1 ∈ fw_big := fw_mem 679 (by decide +kernel) rfl
theorem se_DV_rows : Cond.selects mi_DV_rows.1.cls mi_DV_rows.1 mi_DV_rows.1 ∈ fw_big := fw_mem 680 (by decide +kernel) rfl
theorem me_Law_cell : fw_me mi_Law_cell 5 := ⟨fw_mem 684 (by decide +kernel) rfl, rfl, fw_mem 37 (by decide +kernel) rfl, by decide, by decide +kernel, by decide⟩
theorem st_Law_cell : Cond.static mi_Law_cell.1 ∈ fw_big := fw_mem 683 (by decide +kernel) rfl
theorem me_DV_cell : fw_me mi_DV_cell 3 := ⟨fw_mem 689 (by decide +kernel) rfl, rfl, fw_mem 38 (by decide +kernel) rfl, by decide, by decide +kernel, by decide⟩
theorem im_DV_cell : Cond.instanceMethod mi_DV_cell.1 ∈ fw_big := fw_mem 687 (by decide +kernel) rfl
theorem se_DV_cell : Cond.selects mi_DV_cell.1.cls mi_DV_cell.1 mi_DV_cell.1 ∈ fw_big := fw_mem 688 (by decide +kernel) rfl
theorem me_DV_needRow : fw_me mi_DV_needRow 2 := ⟨fw_mem 692 (by decide +kernel) rfl, rfl, fw_mem 38 (by decide +kernel) rfl, by decide, by decide +kernel, by decide⟩
theorem st_DV_needRow : Cond.static mi_DV_needRow.1 ∈ fw_big := fw_mem 691 (by decide +kernel) rfl
theorem me_Law_times : fw_me mi_Law_times 4 := ⟨fw_mem 712 (by decide +kernel) rfl, rfl, fw_mem 37 (by decide +kernel) rfl, by decide, by decide +kernel, by decide⟩
theorem st_Law_times : Cond.static mi_Law_times.1 ∈ fw_big := fw_mem 711 (by decide +kernel) rfl
theorem me_DV_times : fw_me mi_DV_times 2 := ⟨fw_mem 716 (by decide +kernel) rfl, rfl, fw_mem 38 (by decide +kernel) rfl, by decide, by decide +kernel, by decide⟩
theorem im_DV_times : Cond.instanceMethod mi_DV_times.1 ∈ fw_big := fw_mem 714 (by decide +kernel) rfl
theorem se_DV_times : Cond.selects mi_DV_times.1.cls mi_DV_times.1 mi_DV_times.1 ∈ fw_big := fw_mem 715 (by decide +kernel) rfl
theorem me_Law_many : fw_me mi_Law_many 7 := ⟨fw_mem 720 (by decide +kernel) rfl, rfl, fw_mem 37 (by decide +kernel) rfl, by decide, by decide +kernel, by decide⟩
theorem st_Law_many : Cond.static mi_Law_many.1 ∈ fw_big := fw_mem 719 (by decide +kernel) rfl
theorem me_DV_many : fw_me mi_DV_many 5 := ⟨fw_mem 724 (by decide +kernel) rfl, rfl, fw_mem 38 (by decide +kernel) rfl, by decide, by decide +kernel, by decide⟩
theorem im_DV_many : Cond.instanceMethod mi_DV_many.1 ∈ fw_big := fw_mem 722 (by decide +kernel) rfl
theorem se_DV_many : Cond.selects mi_DV_many.1.cls mi_DV_many.1 mi_DV_many.1 ∈ fw_big := fw_mem 723 (by decide +kernel) rfl
theorem me_Bag_timesOfPending : fw_me mi_Bag_timesOfPending 0 := ⟨fw_mem 729 (by decide +kernel) rfl, rfl, fw_mem 43 (by decide +kernel) rfl, by decide, by decide +kernel, by decide⟩
theorem im_Bag_timesOfPending : Cond.instanceMethod mi_Bag_timesOfPending.1 ∈ fw_big := fw_mem 727 (by decide +kernel) rfl
theorem se_Bag_timesOfPending : Cond.selects mi_Bag_timesOfPending.1.cls mi_Bag_timesOfPending.1 mi_Bag_timesOfPending.1 ∈ fw_big := fw_mem 728 (by decide +kernel) rfl
theorem me_Law_moved : fw_me mi_Law_moved 3 := ⟨fw_mem 732 (by decide +kernel) rfl, rfl, fw_mem 37 (by decide +kernel) rfl, by decide, by decide +kernel, by decide⟩
theorem st_Law_moved : Cond.static mi_Law_moved.1 ∈ fw_big := fw_mem 731 (by decide +kernel) rfl
theorem me_DV_moved : fw_me mi_DV_moved 1 := ⟨fw_mem 736 (by decide +kernel) rfl, rfl, fw_mem 38 (by decide +kernel) rfl, by decide, by decide +kernel, by decide⟩
theorem im_DV_moved : Cond.instanceMethod mi_DV_moved.1 ∈ fw_big := fw_mem 734 (by decide +kernel) rfl
theorem se_DV_moved : Cond.selects mi_DV_moved.1.cls mi_DV_moved.1 mi_DV_moved.1 ∈ fw_big := fw_mem 735 (by decide +kernel) rfl
theorem me_Mo_init : fw_me mi_Mo_init 0 := ⟨fw_mem 741 (by decide +kernel) rfl, rfl, fw_mem 44 (by decide +kernel) rfl, by decide, by decide +kernel, by decide⟩
theorem im_Mo_init : Cond.instanceMethod mi_Mo_init.1 ∈ fw_big := fw_mem 740 (by decide +kernel) rfl
theorem me_Mo_thrown : fw_me mi_Mo_thrown 0 := ⟨fw_mem 813 (by decide +kernel) rfl, rfl, fw_mem 44 (by decide +kernel) rfl, by decide, by decide +kernel, by decide⟩
theorem im_Mo_thrown : Cond.instanceMethod mi_Mo_thrown.1 ∈ fw_big := fw_mem 811 (by decide +kernel) rfl
theorem se_Mo_thrown : Cond.selects mi_Mo_thrown.1.cls mi_Mo_thrown.1 mi_Mo_thrown.1 ∈ fw_big := fw_mem 812 (by decide +kernel) rfl
theorem me_Mo_change : fw_me mi_Mo_change 4 := ⟨fw_mem 817 (by decide +kernel) rfl, rfl, fw_mem 44 (by decide +kernel) rfl, by decide, by decide +kernel, by decide⟩
theorem im_Mo_change : Cond.instanceMethod mi_Mo_change.1 ∈ fw_big := fw_mem 815 (by decide +kernel) rfl
theorem se_Mo_change : Cond.selects mi_Mo_change.1.cls mi_Mo_change.1 mi_Mo_change.1 ∈ fw_big := fw_mem 816 (by decide +kernel) rfl
theorem me_Mo_cancel : fw_me mi_Mo_cancel 0 := ⟨fw_mem 821 (by decide +kernel) rfl, rfl, fw_mem 44 (by decide +kernel) rfl, by decide, by decide +kernel, by decide⟩
theorem im_Mo_cancel : Cond.instanceMethod mi_Mo_cancel.1 ∈ fw_big := fw_mem 819 (by decide +kernel) rfl
theorem se_Mo_cancel : Cond.selects mi_Mo_cancel.1.cls mi_Mo_cancel.1 mi_Mo_cancel.1 ∈ fw_big := fw_mem 820 (by decide +kernel) rfl
theorem me_Mo_commit : fw_me mi_Mo_commit 0 := ⟨fw_mem 825 (by decide +kernel) rfl, rfl, fw_mem 44 (by decide +kernel) rfl, by decide, by decide +kernel, by decide⟩
theorem im_Mo_commit : Cond.instanceMethod mi_Mo_commit.1 ∈ fw_big := fw_mem 823 (by decide +kernel) rfl
theorem se_Mo_commit : Cond.selects mi_Mo_commit.1.cls mi_Mo_commit.1 mi_Mo_commit.1 ∈ fw_big := fw_mem 824 (by decide +kernel) rfl
theorem me_Mo_tryTable : fw_me mi_Mo_tryTable 1 := ⟨fw_mem 829 (by decide +kernel) rfl, rfl, fw_mem 44 (by decide +kernel) rfl, by decide, by decide +kernel, by decide⟩
theorem im_Mo_tryTable : Cond.instanceMethod mi_Mo_tryTable.1 ∈ fw_big := fw_mem 828 (by decide +kernel) rfl
theorem se_Mo_tryTable : Cond.selects mi_Mo_tryTable.1.cls mi_Mo_tryTable.1 mi_Mo_tryTable.1 ∈ fw_big := fw_mem 16 (by decide +kernel) rfl
theorem me_Mo_take : fw_me mi_Mo_take 2 := ⟨fw_mem 833 (by decide +kernel) rfl, rfl, fw_mem 44 (by decide +kernel) rfl, by decide, by decide +kernel, by decide⟩
theorem im_Mo_take : Cond.instanceMethod mi_Mo_take.1 ∈ fw_big := fw_mem 832 (by decide +kernel) rfl
theorem se_Mo_take : Cond.selects mi_Mo_take.1.cls mi_Mo_take.1 mi_Mo_take.1 ∈ fw_big := fw_mem 17 (by decide +kernel) rfl
theorem me_Mo_cellOf : fw_me mi_Mo_cellOf 3 := ⟨fw_mem 837 (by decide +kernel) rfl, rfl, fw_mem 44 (by decide +kernel) rfl, by decide, by decide +kernel, by decide⟩
theorem im_Mo_cellOf : Cond.instanceMethod mi_Mo_cellOf.1 ∈ fw_big := fw_mem 836 (by decide +kernel) rfl
theorem se_Mo_cellOf : Cond.selects mi_Mo_cellOf.1.cls mi_Mo_cellOf.1 mi_Mo_cellOf.1 ∈ fw_big := fw_mem 18 (by decide +kernel) rfl
theorem me_Mo_gather : fw_me mi_Mo_gather 2 := ⟨fw_mem 841 (by decide +kernel) rfl, rfl, fw_mem 44 (by decide +kernel) rfl, by decide, by decide +kernel, by decide⟩
theorem im_Mo_gather : Cond.instanceMethod mi_Mo_gather.1 ∈ fw_big := fw_mem 840 (by decide +kernel) rfl
theorem se_Mo_gather : Cond.selects mi_Mo_gather.1.cls mi_Mo_gather.1 mi_Mo_gather.1 ∈ fw_big := fw_mem 19 (by decide +kernel) rfl
theorem me_Mo_isRow : fw_me mi_Mo_isRow 2 := ⟨fw_mem 845 (by decide +kernel) rfl, rfl, fw_mem 44 (by decide +kernel) rfl, by decide, by decide +kernel, by decide⟩
theorem im_Mo_isRow : Cond.instanceMethod mi_Mo_isRow.1 ∈ fw_big := fw_mem 844 (by decide +kernel) rfl
theorem se_Mo_isRow : Cond.selects mi_Mo_isRow.1.cls mi_Mo_isRow.1 mi_Mo_isRow.1 ∈ fw_big := fw_mem 20 (by decide +kernel) rfl
theorem me_Mo_settle : fw_me mi_Mo_settle 3 := ⟨fw_mem 850 (by decide +kernel) rfl, rfl, fw_mem 44 (by decide +kernel) rfl, by decide, by decide +kernel, by decide⟩
theorem im_Mo_settle : Cond.instanceMethod mi_Mo_settle.1 ∈ fw_big := fw_mem 849 (by decide +kernel) rfl
theorem se_Mo_settle : Cond.selects mi_Mo_settle.1.cls mi_Mo_settle.1 mi_Mo_settle.1 ∈ fw_big := fw_mem 21 (by decide +kernel) rfl
theorem me_Mo_comesBefore : fw_me mi_Mo_comesBefore 3 := ⟨fw_mem 854 (by decide +kernel) rfl, rfl, fw_mem 44 (by decide +kernel) rfl, by decide, by decide +kernel, by decide⟩
theorem im_Mo_comesBefore : Cond.instanceMethod mi_Mo_comesBefore.1 ∈ fw_big := fw_mem 853 (by decide +kernel) rfl
theorem se_Mo_comesBefore : Cond.selects mi_Mo_comesBefore.1.cls mi_Mo_comesBefore.1 mi_Mo_comesBefore.1 ∈ fw_big := fw_mem 22 (by decide +kernel) rfl
theorem me_Mo_work : fw_me mi_Mo_work 2 := ⟨fw_mem 858 (by decide +kernel) rfl, rfl, fw_mem 44 (by decide +kernel) rfl, by decide, by decide +kernel, by decide⟩
theorem im_Mo_work : Cond.instanceMethod mi_Mo_work.1 ∈ fw_big := fw_mem 857 (by decide +kernel) rfl
theorem se_Mo_work : Cond.selects mi_Mo_work.1.cls mi_Mo_work.1 mi_Mo_work.1 ∈ fw_big := fw_mem 23 (by decide +kernel) rfl
theorem me_Mo_selects : fw_me mi_Mo_selects 2 := ⟨fw_mem 862 (by decide +kernel) rfl, rfl, fw_mem 44 (by decide +kernel) rfl, by decide, by decide +kernel, by decide⟩
theorem im_Mo_selects : Cond.instanceMethod mi_Mo_selects.1 ∈ fw_big := fw_mem 861 (by decide +kernel) rfl
theorem se_Mo_selects : Cond.selects mi_Mo_selects.1.cls mi_Mo_selects.1 mi_Mo_selects.1 ∈ fw_big := fw_mem 24 (by decide +kernel) rfl
theorem me_Mo_passes : fw_me mi_Mo_passes 3 := ⟨fw_mem 865 (by decide +kernel) rfl, rfl, fw_mem 44 (by decide +kernel) rfl, by decide, by decide +kernel, by decide⟩
theorem st_Mo_passes : Cond.static mi_Mo_passes.1 ∈ fw_big := fw_mem 864 (by decide +kernel) rfl
theorem me_Mo_projects : fw_me mi_Mo_projects 2 := ⟨fw_mem 869 (by decide +kernel) rfl, rfl, fw_mem 44 (by decide +kernel) rfl, by decide, by decide +kernel, by decide⟩
theorem im_Mo_projects : Cond.instanceMethod mi_Mo_projects.1 ∈ fw_big := fw_mem 868 (by decide +kernel) rfl
theorem se_Mo_projects : Cond.selects mi_Mo_projects.1.cls mi_Mo_projects.1 mi_Mo_projects.1 ∈ fw_big := fw_mem 25 (by decide +kernel) rfl
theorem me_Mo_joins : fw_me mi_Mo_joins 3 := ⟨fw_mem 873 (by decide +kernel) rfl, rfl, fw_mem 44 (by decide +kernel) rfl, by decide, by decide +kernel, by decide⟩
theorem im_Mo_joins : Cond.instanceMethod mi_Mo_joins.1 ∈ fw_big := fw_mem 872 (by decide +kernel) rfl
theorem se_Mo_joins : Cond.selects mi_Mo_joins.1.cls mi_Mo_joins.1 mi_Mo_joins.1 ∈ fw_big := fw_mem 26 (by decide +kernel) rfl
theorem me_Mo_all : fw_me mi_Mo_all 3 := ⟨fw_mem 877 (by decide +kernel) rfl, rfl, fw_mem 44 (by decide +kernel) rfl, by decide, by decide +kernel, by decide⟩
theorem im_Mo_all : Cond.instanceMethod mi_Mo_all.1 ∈ fw_big := fw_mem 876 (by decide +kernel) rfl
theorem se_Mo_all : Cond.selects mi_Mo_all.1.cls mi_Mo_all.1 mi_Mo_all.1 ∈ fw_big := fw_mem 27 (by decide +kernel) rfl
theorem me_Mo_groups : fw_me mi_Mo_groups 2 := ⟨fw_mem 881 (by decide +kernel) rfl, rfl, fw_mem 44 (by decide +kernel) rfl, by decide, by decide +kernel, by decide⟩
theorem im_Mo_groups : Cond.instanceMethod mi_Mo_groups.1 ∈ fw_big := fw_mem 880 (by decide +kernel) rfl
theorem se_Mo_groups : Cond.selects mi_Mo_groups.1.cls mi_Mo_groups.1 mi_Mo_groups.1 ∈ fw_big := fw_mem 28 (by decide +kernel) rfl
theorem me_Mo_result : fw_me mi_Mo_result 3 := ⟨fw_mem 885 (by decide +kernel) rfl, rfl, fw_mem 44 (by decide +kernel) rfl, by decide, by decide +kernel, by decide⟩
theorem im_Mo_result : Cond.instanceMethod mi_Mo_result.1 ∈ fw_big := fw_mem 884 (by decide +kernel) rfl
theorem se_Mo_result : Cond.selects mi_Mo_result.1.cls mi_Mo_result.1 mi_Mo_result.1 ∈ fw_big := fw_mem 29 (by decide +kernel) rfl
theorem me_Mo_takeOver : fw_me mi_Mo_takeOver 1 := ⟨fw_mem 889 (by decide +kernel) rfl, rfl, fw_mem 44 (by decide +kernel) rfl, by decide, by decide +kernel, by decide⟩
theorem im_Mo_takeOver : Cond.instanceMethod mi_Mo_takeOver.1 ∈ fw_big := fw_mem 888 (by decide +kernel) rfl
theorem se_Mo_takeOver : Cond.selects mi_Mo_takeOver.1.cls mi_Mo_takeOver.1 mi_Mo_takeOver.1 ∈ fw_big := fw_mem 30 (by decide +kernel) rfl
theorem me_Mo_differing : fw_me mi_Mo_differing 1 := ⟨fw_mem 893 (by decide +kernel) rfl, rfl, fw_mem 44 (by decide +kernel) rfl, by decide, by decide +kernel, by decide⟩
theorem im_Mo_differing : Cond.instanceMethod mi_Mo_differing.1 ∈ fw_big := fw_mem 892 (by decide +kernel) rfl
theorem se_Mo_differing : Cond.selects mi_Mo_differing.1.cls mi_Mo_differing.1 mi_Mo_differing.1 ∈ fw_big := fw_mem 31 (by decide +kernel) rfl
theorem me_Mo_timesOf : fw_me mi_Mo_timesOf 4 := ⟨fw_mem 897 (by decide +kernel) rfl, rfl, fw_mem 44 (by decide +kernel) rfl, by decide, by decide +kernel, by decide⟩
theorem im_Mo_timesOf : Cond.instanceMethod mi_Mo_timesOf.1 ∈ fw_big := fw_mem 896 (by decide +kernel) rfl
theorem se_Mo_timesOf : Cond.selects mi_Mo_timesOf.1.cls mi_Mo_timesOf.1 mi_Mo_timesOf.1 ∈ fw_big := fw_mem 32 (by decide +kernel) rfl
theorem me_Mo_select : fw_me mi_Mo_select 4 := ⟨fw_mem 901 (by decide +kernel) rfl, rfl, fw_mem 44 (by decide +kernel) rfl, by decide, by decide +kernel, by decide⟩
theorem im_Mo_select : Cond.instanceMethod mi_Mo_select.1 ∈ fw_big := fw_mem 899 (by decide +kernel) rfl
theorem se_Mo_select : Cond.selects mi_Mo_select.1.cls mi_Mo_select.1 mi_Mo_select.1 ∈ fw_big := fw_mem 900 (by decide +kernel) rfl
theorem me_Mo_isColumn : fw_me mi_Mo_isColumn 2 := ⟨fw_mem 905 (by decide +kernel) rfl, rfl, fw_mem 44 (by decide +kernel) rfl, by decide, by decide +kernel, by decide⟩
theorem im_Mo_isColumn : Cond.instanceMethod mi_Mo_isColumn.1 ∈ fw_big := fw_mem 904 (by decide +kernel) rfl
theorem se_Mo_isColumn : Cond.selects mi_Mo_isColumn.1.cls mi_Mo_isColumn.1 mi_Mo_isColumn.1 ∈ fw_big := fw_mem 33 (by decide +kernel) rfl
theorem me_Mo_isView : fw_me mi_Mo_isView 1 := ⟨fw_mem 909 (by decide +kernel) rfl, rfl, fw_mem 44 (by decide +kernel) rfl, by decide, by decide +kernel, by decide⟩
theorem im_Mo_isView : Cond.instanceMethod mi_Mo_isView.1 ∈ fw_big := fw_mem 908 (by decide +kernel) rfl
theorem se_Mo_isView : Cond.selects mi_Mo_isView.1.cls mi_Mo_isView.1 mi_Mo_isView.1 ∈ fw_big := fw_mem 34 (by decide +kernel) rfl
theorem me_Mo_told : fw_me mi_Mo_told 3 := ⟨fw_mem 913 (by decide +kernel) rfl, rfl, fw_mem 44 (by decide +kernel) rfl, by decide, by decide +kernel, by decide⟩
theorem im_Mo_told : Cond.instanceMethod mi_Mo_told.1 ∈ fw_big := fw_mem 912 (by decide +kernel) rfl
theorem se_Mo_told : Cond.selects mi_Mo_told.1.cls mi_Mo_told.1 mi_Mo_told.1 ∈ fw_big := fw_mem 35 (by decide +kernel) rfl
theorem me_Mo_make : fw_me mi_Mo_make 5 := ⟨fw_mem 917 (by decide +kernel) rfl, rfl, fw_mem 44 (by decide +kernel) rfl, by decide, by decide +kernel, by decide⟩
theorem im_Mo_make : Cond.instanceMethod mi_Mo_make.1 ∈ fw_big := fw_mem 916 (by decide +kernel) rfl
theorem se_Mo_make : Cond.selects mi_Mo_make.1.cls mi_Mo_make.1 mi_Mo_make.1 ∈ fw_big := fw_mem 36 (by decide +kernel) rfl
theorem me_Mo_project : fw_me mi_Mo_project 3 := ⟨fw_mem 921 (by decide +kernel) rfl, rfl, fw_mem 44 (by decide +kernel) rfl, by decide, by decide +kernel, by decide⟩
theorem im_Mo_project : Cond.instanceMethod mi_Mo_project.1 ∈ fw_big := fw_mem 919 (by decide +kernel) rfl
theorem se_Mo_project : Cond.selects mi_Mo_project.1.cls mi_Mo_project.1 mi_Mo_project.1 ∈ fw_big := fw_mem 920 (by decide +kernel) rfl
theorem me_Mo_join : fw_me mi_Mo_join 4 := ⟨fw_mem 925 (by decide +kernel) rfl, rfl, fw_mem 44 (by decide +kernel) rfl, by decide, by decide +kernel, by decide⟩
theorem im_Mo_join : Cond.instanceMethod mi_Mo_join.1 ∈ fw_big := fw_mem 923 (by decide +kernel) rfl
theorem se_Mo_join : Cond.selects mi_Mo_join.1.cls mi_Mo_join.1 mi_Mo_join.1 ∈ fw_big := fw_mem 924 (by decide +kernel) rfl
theorem me_Mo_union : fw_me mi_Mo_union 2 := ⟨fw_mem 929 (by decide +kernel) rfl, rfl, fw_mem 44 (by decide +kernel) rfl, by decide, by decide +kernel, by decide⟩
theorem im_Mo_union : Cond.instanceMethod mi_Mo_union.1 ∈ fw_big := fw_mem 927 (by decide +kernel) rfl
theorem se_Mo_union : Cond.selects mi_Mo_union.1.cls mi_Mo_union.1 mi_Mo_union.1 ∈ fw_big := fw_mem 928 (by decide +kernel) rfl
theorem me_Mo_group : fw_me mi_Mo_group 4 := ⟨fw_mem 933 (by decide +kernel) rfl, rfl, fw_mem 44 (by decide +kernel) rfl, by decide, by decide +kernel, by decide⟩
theorem im_Mo_group : Cond.instanceMethod mi_Mo_group.1 ∈ fw_big := fw_mem 931 (by decide +kernel) rfl
theorem se_Mo_group : Cond.selects mi_Mo_group.1.cls mi_Mo_group.1 mi_Mo_group.1 ∈ fw_big := fw_mem 932 (by decide +kernel) rfl
theorem me_Mo_distinct : fw_me mi_Mo_distinct 1 := ⟨fw_mem 937 (by decide +kernel) rfl, rfl, fw_mem 44 (by decide +kernel) rfl, by decide, by decide +kernel, by decide⟩
theorem im_Mo_distinct : Cond.instanceMethod mi_Mo_distinct.1 ∈ fw_big := fw_mem 935 (by decide +kernel) rfl
theorem se_Mo_distinct : Cond.selects mi_Mo_distinct.1.cls mi_Mo_distinct.1 mi_Mo_distinct.1 ∈ fw_big := fw_mem 936 (by decide +kernel) rfl
theorem me_Mo_drop : fw_me mi_Mo_drop 0 := ⟨fw_mem 941 (by decide +kernel) rfl, rfl, fw_mem 44 (by decide +kernel) rfl, by decide, by decide +kernel, by decide⟩
theorem im_Mo_drop : Cond.instanceMethod mi_Mo_drop.1 ∈ fw_big := fw_mem 939 (by decide +kernel) rfl
theorem se_Mo_drop : Cond.selects mi_Mo_drop.1.cls mi_Mo_drop.1 mi_Mo_drop.1 ∈ fw_big := fw_mem 940 (by decide +kernel) rfl
theorem me_Mo_width : fw_me mi_Mo_width 1 := ⟨fw_mem 945 (by decide +kernel) rfl, rfl, fw_mem 44 (by decide +kernel) rfl, by decide, by decide +kernel, by decide⟩
theorem im_Mo_width : Cond.instanceMethod mi_Mo_width.1 ∈ fw_big := fw_mem 943 (by decide +kernel) rfl
theorem se_Mo_width : Cond.selects mi_Mo_width.1.cls mi_Mo_width.1 mi_Mo_width.1 ∈ fw_big := fw_mem 944 (by decide +kernel) rfl
theorem me_Mo_rows : fw_me mi_Mo_rows 1 := ⟨fw_mem 949 (by decide +kernel) rfl, rfl, fw_mem 44 (by decide +kernel) rfl, by decide, by decide +kernel, by decide⟩
theorem im_Mo_rows : Cond.instanceMethod mi_Mo_rows.1 ∈ fw_big := fw_mem 947 (by decide +kernel) rfl
theorem se_Mo_rows : Cond.selects mi_Mo_rows.1.cls mi_Mo_rows.1 mi_Mo_rows.1 ∈ fw_big := fw_mem 948 (by decide +kernel) rfl
theorem me_Mo_cell : fw_me mi_Mo_cell 3 := ⟨fw_mem 953 (by decide +kernel) rfl, rfl, fw_mem 44 (by decide +kernel) rfl, by decide, by decide +kernel, by decide⟩
theorem im_Mo_cell : Cond.instanceMethod mi_Mo_cell.1 ∈ fw_big := fw_mem 951 (by decide +kernel) rfl
theorem se_Mo_cell : Cond.selects mi_Mo_cell.1.cls mi_Mo_cell.1 mi_Mo_cell.1 ∈ fw_big := fw_mem 952 (by decide +kernel) rfl
theorem me_Mo_times : fw_me mi_Mo_times 2 := ⟨fw_mem 957 (by decide +kernel) rfl, rfl, fw_mem 44 (by decide +kernel) rfl, by decide, by decide +kernel, by decide⟩
theorem im_Mo_times : Cond.instanceMethod mi_Mo_times.1 ∈ fw_big := fw_mem 955 (by decide +kernel) rfl
theorem se_Mo_times : Cond.selects mi_Mo_times.1.cls mi_Mo_times.1 mi_Mo_times.1 ∈ fw_big := fw_mem 956 (by decide +kernel) rfl
theorem me_Mo_many : fw_me mi_Mo_many 5 := ⟨fw_mem 961 (by decide +kernel) rfl, rfl, fw_mem 44 (by decide +kernel) rfl, by decide, by decide +kernel, by decide⟩
theorem im_Mo_many : Cond.instanceMethod mi_Mo_many.1 ∈ fw_big := fw_mem 959 (by decide +kernel) rfl
theorem se_Mo_many : Cond.selects mi_Mo_many.1.cls mi_Mo_many.1 mi_Mo_many.1 ∈ fw_big := fw_mem 960 (by decide +kernel) rfl
theorem me_Mo_moved : fw_me mi_Mo_moved 1 := ⟨fw_mem 965 (by decide +kernel) rfl, rfl, fw_mem 44 (by decide +kernel) rfl, by decide, by decide +kernel, by decide⟩
theorem im_Mo_moved : Cond.instanceMethod mi_Mo_moved.1 ∈ fw_big := fw_mem 963 (by decide +kernel) rfl
theorem se_Mo_moved : Cond.selects mi_Mo_moved.1.cls mi_Mo_moved.1 mi_Mo_moved.1 ∈ fw_big := fw_mem 964 (by decide +kernel) rfl
theorem lk_DV_21 : fw_lnk "DeltaViews" 21 mi_Batch_init.1 := Or.inr ⟨"DeltaViews", fw_mem 72 (by decide +kernel) rfl⟩
theorem lk_DV_28 : fw_lnk "DeltaViews" 28 mi_Table_init.1 := Or.inr ⟨"DeltaViews", fw_mem 96 (by decide +kernel) rfl⟩
theorem lk_DV_29 : fw_lnk "DeltaViews" 29 mi_View_init.1 := Or.inl (fw_mem 104 (by decide +kernel) rfl)
theorem lk_DV_39 : fw_lnk "DeltaViews" 39 mi_DV_isTooFar.1 := Or.inl (fw_mem 262 (by decide +kernel) rfl)
theorem lk_DV_48 : fw_lnk "DeltaViews" 48 mi_Batch_isFull.1 := Or.inl (fw_mem 281 (by decide +kernel) rfl)
theorem lk_DV_57 : fw_lnk "DeltaViews" 57 mi_Batch_append.1 := Or.inl (fw_mem 301 (by decide +kernel) rfl)
theorem lk_DV_61 : fw_lnk "DeltaViews" 61 mi_Batch_empty.1 := Or.inl (fw_mem 179 (by decide +kernel) rfl)
theorem lk_DV_65 : fw_lnk "DeltaViews" 65 mi_DV_renewViews.1 := Or.inl (fw_mem 312 (by decide +kernel) rfl)
theorem lk_DV_70 : fw_lnk "DeltaViews" 70 mi_View_countMoved.1 := Or.inl (fw_mem 488 (by decide +kernel) rfl)
theorem lk_DV_76 : fw_lnk "DeltaViews" 76 mi_DV_viewAt.1 := Or.inl (fw_mem 507 (by decide +kernel) rfl)
theorem lk_DV_80 : fw_lnk "DeltaViews" 80 mi_DV_needColumn.1 := Or.inl (fw_mem 512 (by decide +kernel) rfl)
theorem lk_DV_88 : fw_lnk "DeltaViews" 88 mi_Select_init.1 := Or.inl (fw_mem 518 (by decide +kernel) rfl)
theorem lk_DV_91 : fw_lnk "DeltaViews" 91 mi_DV_makeView.1 := Or.inl (fw_mem 535 (by decide +kernel) rfl)
theorem lk_DV_97 : fw_lnk "DeltaViews" 97 mi_DV_columnInBits.1 := Or.inl (fw_mem 553 (by decide +kernel) rfl)
theorem lk_DV_103 : fw_lnk "DeltaViews" 103 mi_Project_init.1 := Or.inl (fw_mem 556 (by decide +kernel) rfl)
theorem lk_DV_119 : fw_lnk "DeltaViews" 119 mi_Join_init.1 := Or.inl (fw_mem 579 (by decide +kernel) rfl)
theorem lk_DV_126 : fw_lnk "DeltaViews" 126 mi_Union_init.1 := Or.inl (fw_mem 606 (by decide +kernel) rfl)
theorem lk_DV_133 : fw_lnk "DeltaViews" 133 mi_Group_init.1 := Or.inl (fw_mem 626 (by decide +kernel) rfl)
theorem lk_DV_136 : fw_lnk "DeltaViews" 136 mi_Distinct_init.1 := Or.inl (fw_mem 652 (by decide +kernel) rfl)
theorem lk_DV_144 : fw_lnk "DeltaViews" 144 mi_DV_needRow.1 := Or.inl (fw_mem 690 (by decide +kernel) rfl)
theorem lk_DV_147 : fw_lnk "DeltaViews" 147 mi_Bag_cellAt.1 := Or.inl (fw_mem 709 (by decide +kernel) rfl)
theorem lk_DV_150 : fw_lnk "DeltaViews" 150 mi_Bag_timesAt.1 := Or.inl (fw_mem 717 (by decide +kernel) rfl)
theorem lk_DV_154 : fw_lnk "DeltaViews" 154 mi_Bag_put.1 := Or.inl (fw_mem 725 (by decide +kernel) rfl)
theorem lk_DV_158 : fw_lnk "DeltaViews" 158 mi_Bag_timesOfPending.1 := Or.inl (fw_mem 726 (by decide +kernel) rfl)
theorem lk_DV_173 : fw_lnk "DeltaViews" 173 mi_View_begin.1 := Or.inl (fw_mem 540 (by decide +kernel) rfl)
theorem lk_DV_176 : fw_lnk "DeltaViews" 176 mi_View_keepsLimits.1 := Or.inl (fw_mem 461 (by decide +kernel) rfl)
theorem lk_DV_181 : fw_lnk "DeltaViews" 181 mi_View_renew.1 := Or.inl (fw_mem 316 (by decide +kernel) rfl)
theorem lk_DV_184 : fw_lnk "DeltaViews" 184 mi_Batch_addTo.1 := Or.inl (fw_mem 455 (by decide +kernel) rfl)
theorem lk_DV_188 : fw_lnk "DeltaViews" 188 mi_DV_takeBack.1 := Or.inl (fw_mem 482 (by decide +kernel) rfl)
theorem lk_DV_192 : fw_lnk "DeltaViews" 192 mi_View_exchangeBags.1 := Or.inl (fw_mem 486 (by decide +kernel) rfl)
theorem lk_Bag_35 : fw_lnk "DeltaViews$Bag" 35 mi_Bag_cellAt.1 := Or.inl (fw_mem 338 (by decide +kernel) rfl)
theorem lk_Bag_39 : fw_lnk "DeltaViews$Bag" 39 mi_Bag_put.1 := Or.inl (fw_mem 342 (by decide +kernel) rfl)
theorem lk_Bag_43 : fw_lnk "DeltaViews$Bag" 43 mi_Bag_placeOfPending.1 := Or.inl (fw_mem 350 (by decide +kernel) rfl)
theorem lk_Bag_47 : fw_lnk "DeltaViews$Bag" 47 mi_Bag_isPending.1 := Or.inl (fw_mem 358 (by decide +kernel) rfl)
theorem lk_Bag_51 : fw_lnk "DeltaViews$Bag" 51 mi_Bag_remove.1 := Or.inl (fw_mem 362 (by decide +kernel) rfl)
theorem lk_Bag_55 : fw_lnk "DeltaViews$Bag" 55 mi_Bag_insert.1 := Or.inl (fw_mem 369 (by decide +kernel) rfl)
theorem lk_Bag_59 : fw_lnk "DeltaViews$Bag" 59 mi_Bag_putRow.1 := Or.inl (fw_mem 452 (by decide +kernel) rfl)
theorem lk_Bag_63 : fw_lnk "DeltaViews$Bag" 63 mi_Bag_timesAt.1 := Or.inl (fw_mem 453 (by decide +kernel) rfl)
theorem lk_Bag_67 : fw_lnk "DeltaViews$Bag" 67 mi_Bag_add.1 := Or.inl (fw_mem 454 (by decide +kernel) rfl)
theorem lk_Bag_71 : fw_lnk "DeltaViews$Bag" 71 mi_Bag_orderOfRows.1 := Or.inl (fw_mem 496 (by decide +kernel) rfl)
theorem lk_Bag_75 : fw_lnk "DeltaViews$Bag" 75 mi_Bag_orderOfCells.1 := Or.inl (fw_mem 354 (by decide +kernel) rfl)
theorem lk_Batch_28 : fw_lnk "DeltaViews$Batch" 28 mi_Bag_put.1 := Or.inl (fw_mem 459 (by decide +kernel) rfl)
theorem lk_Batch_34 : fw_lnk "DeltaViews$Batch" 34 mi_Bag_add.1 := Or.inl (fw_mem 460 (by decide +kernel) rfl)
theorem lk_Distinct_1 : fw_lnk "DeltaViews$Distinct" 1 mi_Oper_init.1 := Or.inr ⟨"DeltaViews", fw_mem 655 (by decide +kernel) rfl⟩
theorem lk_Distinct_25 : fw_lnk "DeltaViews$Distinct" 25 mi_Bag_clear.1 := Or.inl (fw_mem 330 (by decide +kernel) rfl)
theorem lk_Distinct_32 : fw_lnk "DeltaViews$Distinct" 32 mi_Bag_putRow.1 := Or.inl (fw_mem 334 (by decide +kernel) rfl)
theorem lk_Distinct_36 : fw_lnk "DeltaViews$Distinct" 36 mi_Bag_add.1 := Or.inl (fw_mem 346 (by decide +kernel) rfl)
theorem lk_Group_3 : fw_lnk "DeltaViews$Group" 3 mi_Oper_init.1 := Or.inr ⟨"DeltaViews", fw_mem 629 (by decide +kernel) rfl⟩
theorem lk_Group_31 : fw_lnk "DeltaViews$Group" 31 mi_Bag_clear.1 := Or.inl (fw_mem 376 (by decide +kernel) rfl)
theorem lk_Group_40 : fw_lnk "DeltaViews$Group" 40 mi_Group_isFirstOfGroup.1 := Or.inl (fw_mem 377 (by decide +kernel) rfl)
theorem lk_Group_44 : fw_lnk "DeltaViews$Group" 44 mi_Bag_cellAt.1 := Or.inl (fw_mem 382 (by decide +kernel) rfl)
theorem lk_Group_48 : fw_lnk "DeltaViews$Group" 48 mi_Bag_put.1 := Or.inl (fw_mem 383 (by decide +kernel) rfl)
theorem lk_Group_52 : fw_lnk "DeltaViews$Group" 52 mi_Group_fold.1 := Or.inl (fw_mem 384 (by decide +kernel) rfl)
theorem lk_Group_56 : fw_lnk "DeltaViews$Group" 56 mi_Bag_add.1 := Or.inl (fw_mem 399 (by decide +kernel) rfl)
theorem lk_Group_60 : fw_lnk "DeltaViews$Group" 60 mi_Group_worth.1 := Or.inl (fw_mem 388 (by decide +kernel) rfl)
theorem lk_Group_68 : fw_lnk "DeltaViews$Group" 68 mi_Bag_timesAt.1 := Or.inl (fw_mem 392 (by decide +kernel) rfl)
theorem lk_Join_1 : fw_lnk "DeltaViews$Join" 1 mi_Oper_init.1 := Or.inr ⟨"DeltaViews", fw_mem 582 (by decide +kernel) rfl⟩
theorem lk_Join_34 : fw_lnk "DeltaViews$Join" 34 mi_Bag_clear.1 := Or.inl (fw_mem 403 (by decide +kernel) rfl)
theorem lk_Join_41 : fw_lnk "DeltaViews$Join" 41 mi_Join_addPartners.1 := Or.inl (fw_mem 404 (by decide +kernel) rfl)
theorem lk_Join_45 : fw_lnk "DeltaViews$Join" 45 mi_Bag_cellAt.1 := Or.inl (fw_mem 409 (by decide +kernel) rfl)
theorem lk_Join_49 : fw_lnk "DeltaViews$Join" 49 mi_Bag_putRow.1 := Or.inl (fw_mem 410 (by decide +kernel) rfl)
theorem lk_Join_53 : fw_lnk "DeltaViews$Join" 53 mi_Bag_timesAt.1 := Or.inl (fw_mem 411 (by decide +kernel) rfl)
theorem lk_Join_57 : fw_lnk "DeltaViews$Join" 57 mi_Bag_add.1 := Or.inl (fw_mem 412 (by decide +kernel) rfl)
theorem lk_Project_1 : fw_lnk "DeltaViews$Project" 1 mi_Oper_init.1 := Or.inr ⟨"DeltaViews", fw_mem 559 (by decide +kernel) rfl⟩
theorem lk_Project_26 : fw_lnk "DeltaViews$Project" 26 mi_Bag_clear.1 := Or.inl (fw_mem 416 (by decide +kernel) rfl)
theorem lk_Project_35 : fw_lnk "DeltaViews$Project" 35 mi_DV_columnInBits.1 := Or.inr ⟨"DeltaViews", fw_mem 417 (by decide +kernel) rfl⟩
theorem lk_Project_41 : fw_lnk "DeltaViews$Project" 41 mi_Bag_cellAt.1 := Or.inl (fw_mem 420 (by decide +kernel) rfl)
theorem lk_Project_44 : fw_lnk "DeltaViews$Project" 44 mi_Bag_put.1 := Or.inl (fw_mem 421 (by decide +kernel) rfl)
theorem lk_Project_48 : fw_lnk "DeltaViews$Project" 48 mi_Bag_timesAt.1 := Or.inl (fw_mem 422 (by decide +kernel) rfl)
theorem lk_Project_52 : fw_lnk "DeltaViews$Project" 52 mi_Bag_add.1 := Or.inl (fw_mem 423 (by decide +kernel) rfl)
theorem lk_Select_3 : fw_lnk "DeltaViews$Select" 3 mi_Oper_init.1 := Or.inr ⟨"DeltaViews", fw_mem 521 (by decide +kernel) rfl⟩
theorem lk_Select_36 : fw_lnk "DeltaViews$Select" 36 mi_Bag_clear.1 := Or.inl (fw_mem 427 (by decide +kernel) rfl)
theorem lk_Select_43 : fw_lnk "DeltaViews$Select" 43 mi_Bag_cellAt.1 := Or.inl (fw_mem 428 (by decide +kernel) rfl)
theorem lk_Select_47 : fw_lnk "DeltaViews$Select" 47 mi_Select_passes.1 := Or.inl (fw_mem 429 (by decide +kernel) rfl)
theorem lk_Select_51 : fw_lnk "DeltaViews$Select" 51 mi_Bag_putRow.1 := Or.inl (fw_mem 434 (by decide +kernel) rfl)
theorem lk_Select_55 : fw_lnk "DeltaViews$Select" 55 mi_Bag_timesAt.1 := Or.inl (fw_mem 435 (by decide +kernel) rfl)
theorem lk_Select_59 : fw_lnk "DeltaViews$Select" 59 mi_Bag_add.1 := Or.inl (fw_mem 436 (by decide +kernel) rfl)
theorem lk_Table_3 : fw_lnk "DeltaViews$Table" 3 mi_Oper_init.1 := Or.inr ⟨"DeltaViews", fw_mem 99 (by decide +kernel) rfl⟩
theorem lk_Table_9 : fw_lnk "DeltaViews$Table" 9 mi_Bag_copy.1 := Or.inl (fw_mem 440 (by decide +kernel) rfl)
theorem lk_Table_19 : fw_lnk "DeltaViews$Table" 19 mi_Bag_hasTimesOutside.1 := Or.inl (fw_mem 476 (by decide +kernel) rfl)
theorem lk_Union_1 : fw_lnk "DeltaViews$Union" 1 mi_Oper_init.1 := Or.inr ⟨"DeltaViews", fw_mem 609 (by decide +kernel) rfl⟩
theorem lk_Union_28 : fw_lnk "DeltaViews$Union" 28 mi_Bag_clear.1 := Or.inl (fw_mem 447 (by decide +kernel) rfl)
theorem lk_Union_32 : fw_lnk "DeltaViews$Union" 32 mi_Bag_addAll.1 := Or.inl (fw_mem 448 (by decide +kernel) rfl)
theorem lk_View_9 : fw_lnk "DeltaViews$View" 9 mi_Bag_init.1 := Or.inr ⟨"DeltaViews", fw_mem 110 (by decide +kernel) rfl⟩
theorem lk_View_33 : fw_lnk "DeltaViews$View" 33 mi_View_exchangeBags.1 := Or.inl (fw_mem 320 (by decide +kernel) rfl)
theorem lk_View_36 : fw_lnk "DeltaViews$View" 36 mi_Oper_allows.1 := Or.inl (fw_mem 465 (by decide +kernel) rfl)
theorem lk_View_40 : fw_lnk "DeltaViews$View" 40 mi_Bag_differencesFrom.1 := Or.inl (fw_mem 492 (by decide +kernel) rfl)
theorem lk_Law_7 : fw_lnk "DeltaViewsLaw" 7 mi_DV_change.1 := Or.inl (fw_mem 189 (by decide +kernel) rfl)
theorem lk_Law_19 : fw_lnk "DeltaViewsLaw" 19 mi_DV_commit.1 := Or.inl (fw_mem 308 (by decide +kernel) rfl)
theorem lk_Law_23 : fw_lnk "DeltaViewsLaw" 23 mi_DV_select.1 := Or.inl (fw_mem 503 (by decide +kernel) rfl)
theorem lk_Law_26 : fw_lnk "DeltaViewsLaw" 26 mi_DV_project.1 := Or.inl (fw_mem 548 (by decide +kernel) rfl)
theorem lk_Law_30 : fw_lnk "DeltaViewsLaw" 30 mi_DV_join.1 := Or.inl (fw_mem 573 (by decide +kernel) rfl)
theorem lk_Law_33 : fw_lnk "DeltaViewsLaw" 33 mi_DV_union.1 := Or.inl (fw_mem 599 (by decide +kernel) rfl)
theorem lk_Law_37 : fw_lnk "DeltaViewsLaw" 37 mi_DV_group.1 := Or.inl (fw_mem 620 (by decide +kernel) rfl)
theorem lk_Law_40 : fw_lnk "DeltaViewsLaw" 40 mi_DV_distinct.1 := Or.inl (fw_mem 646 (by decide +kernel) rfl)
theorem lk_Law_44 : fw_lnk "DeltaViewsLaw" 44 mi_DV_drop.1 := Or.inl (fw_mem 663 (by decide +kernel) rfl)
theorem lk_Law_47 : fw_lnk "DeltaViewsLaw" 47 mi_DV_width.1 := Or.inl (fw_mem 671 (by decide +kernel) rfl)
theorem lk_Law_50 : fw_lnk "DeltaViewsLaw" 50 mi_DV_rows.1 := Or.inl (fw_mem 678 (by decide +kernel) rfl)
theorem lk_Law_53 : fw_lnk "DeltaViewsLaw" 53 mi_DV_cell.1 := Or.inl (fw_mem 686 (by decide +kernel) rfl)
theorem lk_Law_58 : fw_lnk "DeltaViewsLaw" 58 mi_DV_times.1 := Or.inl (fw_mem 713 (by decide +kernel) rfl)
theorem lk_Law_62 : fw_lnk "DeltaViewsLaw" 62 mi_DV_many.1 := Or.inl (fw_mem 721 (by decide +kernel) rfl)
theorem lk_Law_66 : fw_lnk "DeltaViewsLaw" 66 mi_DV_moved.1 := Or.inl (fw_mem 733 (by decide +kernel) rfl)
theorem lk_Law_69 : fw_lnk "DeltaViewsLaw" 69 mi_DV_init.1 := Or.inl (fw_mem 62 (by decide +kernel) rfl)
theorem lk_Law_72 : fw_lnk "DeltaViewsLaw" 72 mi_Mo_init.1 := Or.inl (fw_mem 739 (by decide +kernel) rfl)
theorem lk_Law_73 : fw_lnk "DeltaViewsLaw" 73 mi_Law_change.1 := Or.inl (fw_mem 183 (by decide +kernel) rfl)
theorem lk_Law_78 : fw_lnk "DeltaViewsLaw" 78 mi_Mo_change.1 := Or.inl (fw_mem 814 (by decide +kernel) rfl)
theorem lk_Law_79 : fw_lnk "DeltaViewsLaw" 79 mi_Mo_thrown.1 := Or.inl (fw_mem 810 (by decide +kernel) rfl)
theorem lk_Law_82 : fw_lnk "DeltaViewsLaw" 82 mi_DV_cancel.1 := Or.inl (fw_mem 175 (by decide +kernel) rfl)
theorem lk_Law_85 : fw_lnk "DeltaViewsLaw" 85 mi_Mo_cancel.1 := Or.inl (fw_mem 818 (by decide +kernel) rfl)
theorem lk_Law_86 : fw_lnk "DeltaViewsLaw" 86 mi_Law_commit.1 := Or.inl (fw_mem 305 (by decide +kernel) rfl)
theorem lk_Law_89 : fw_lnk "DeltaViewsLaw" 89 mi_Mo_commit.1 := Or.inl (fw_mem 822 (by decide +kernel) rfl)
theorem lk_Law_90 : fw_lnk "DeltaViewsLaw" 90 mi_Law_select.1 := Or.inl (fw_mem 500 (by decide +kernel) rfl)
theorem lk_Law_92 : fw_lnk "DeltaViewsLaw" 92 mi_Mo_select.1 := Or.inl (fw_mem 898 (by decide +kernel) rfl)
theorem lk_Law_93 : fw_lnk "DeltaViewsLaw" 93 mi_Law_project.1 := Or.inl (fw_mem 545 (by decide +kernel) rfl)
theorem lk_Law_96 : fw_lnk "DeltaViewsLaw" 96 mi_Mo_project.1 := Or.inl (fw_mem 918 (by decide +kernel) rfl)
theorem lk_Law_97 : fw_lnk "DeltaViewsLaw" 97 mi_Law_join.1 := Or.inl (fw_mem 570 (by decide +kernel) rfl)
theorem lk_Law_99 : fw_lnk "DeltaViewsLaw" 99 mi_Mo_join.1 := Or.inl (fw_mem 922 (by decide +kernel) rfl)
theorem lk_Law_100 : fw_lnk "DeltaViewsLaw" 100 mi_Law_union.1 := Or.inl (fw_mem 596 (by decide +kernel) rfl)
theorem lk_Law_103 : fw_lnk "DeltaViewsLaw" 103 mi_Mo_union.1 := Or.inl (fw_mem 926 (by decide +kernel) rfl)
theorem lk_Law_104 : fw_lnk "DeltaViewsLaw" 104 mi_Law_group.1 := Or.inl (fw_mem 617 (by decide +kernel) rfl)
theorem lk_Law_106 : fw_lnk "DeltaViewsLaw" 106 mi_Mo_group.1 := Or.inl (fw_mem 930 (by decide +kernel) rfl)
theorem lk_Law_107 : fw_lnk "DeltaViewsLaw" 107 mi_Law_distinct.1 := Or.inl (fw_mem 643 (by decide +kernel) rfl)
theorem lk_Law_110 : fw_lnk "DeltaViewsLaw" 110 mi_Mo_distinct.1 := Or.inl (fw_mem 934 (by decide +kernel) rfl)
theorem lk_Law_111 : fw_lnk "DeltaViewsLaw" 111 mi_Law_drop.1 := Or.inl (fw_mem 660 (by decide +kernel) rfl)
theorem lk_Law_113 : fw_lnk "DeltaViewsLaw" 113 mi_Mo_drop.1 := Or.inl (fw_mem 938 (by decide +kernel) rfl)
theorem lk_Law_114 : fw_lnk "DeltaViewsLaw" 114 mi_Law_width.1 := Or.inl (fw_mem 668 (by decide +kernel) rfl)
theorem lk_Law_116 : fw_lnk "DeltaViewsLaw" 116 mi_Mo_width.1 := Or.inl (fw_mem 942 (by decide +kernel) rfl)
theorem lk_Law_117 : fw_lnk "DeltaViewsLaw" 117 mi_Law_rows.1 := Or.inl (fw_mem 675 (by decide +kernel) rfl)
theorem lk_Law_119 : fw_lnk "DeltaViewsLaw" 119 mi_Mo_rows.1 := Or.inl (fw_mem 946 (by decide +kernel) rfl)
theorem lk_Law_120 : fw_lnk "DeltaViewsLaw" 120 mi_Law_cell.1 := Or.inl (fw_mem 682 (by decide +kernel) rfl)
theorem lk_Law_122 : fw_lnk "DeltaViewsLaw" 122 mi_Mo_cell.1 := Or.inl (fw_mem 950 (by decide +kernel) rfl)
theorem lk_Law_123 : fw_lnk "DeltaViewsLaw" 123 mi_Law_times.1 := Or.inl (fw_mem 710 (by decide +kernel) rfl)
theorem lk_Law_125 : fw_lnk "DeltaViewsLaw" 125 mi_Mo_times.1 := Or.inl (fw_mem 954 (by decide +kernel) rfl)
theorem lk_Law_126 : fw_lnk "DeltaViewsLaw" 126 mi_Law_many.1 := Or.inl (fw_mem 718 (by decide +kernel) rfl)
theorem lk_Law_129 : fw_lnk "DeltaViewsLaw" 129 mi_Mo_many.1 := Or.inl (fw_mem 958 (by decide +kernel) rfl)
theorem lk_Law_130 : fw_lnk "DeltaViewsLaw" 130 mi_Law_moved.1 := Or.inl (fw_mem 730 (by decide +kernel) rfl)
theorem lk_Law_132 : fw_lnk "DeltaViewsLaw" 132 mi_Mo_moved.1 := Or.inl (fw_mem 962 (by decide +kernel) rfl)
theorem lk_Mo_75 : fw_lnk "DeltaViewsModel" 75 mi_Mo_isRow.1 := Or.inl (fw_mem 842 (by decide +kernel) rfl)
theorem lk_Mo_79 : fw_lnk "DeltaViewsModel" 79 mi_Mo_comesBefore.1 := Or.inl (fw_mem 851 (by decide +kernel) rfl)
theorem lk_Mo_83 : fw_lnk "DeltaViewsModel" 83 mi_Mo_cellOf.1 := Or.inl (fw_mem 834 (by decide +kernel) rfl)
theorem lk_Mo_87 : fw_lnk "DeltaViewsModel" 87 mi_Mo_passes.1 := Or.inl (fw_mem 863 (by decide +kernel) rfl)
theorem lk_Mo_90 : fw_lnk "DeltaViewsModel" 90 mi_Mo_take.1 := Or.inl (fw_mem 830 (by decide +kernel) rfl)
theorem lk_Mo_94 : fw_lnk "DeltaViewsModel" 94 mi_Mo_gather.1 := Or.inl (fw_mem 838 (by decide +kernel) rfl)
theorem lk_Mo_98 : fw_lnk "DeltaViewsModel" 98 mi_Mo_result.1 := Or.inl (fw_mem 882 (by decide +kernel) rfl)
theorem lk_Mo_101 : fw_lnk "DeltaViewsModel" 101 mi_Mo_selects.1 := Or.inl (fw_mem 859 (by decide +kernel) rfl)
theorem lk_Mo_104 : fw_lnk "DeltaViewsModel" 104 mi_Mo_projects.1 := Or.inl (fw_mem 866 (by decide +kernel) rfl)
theorem lk_Mo_107 : fw_lnk "DeltaViewsModel" 107 mi_Mo_joins.1 := Or.inl (fw_mem 870 (by decide +kernel) rfl)
theorem lk_Mo_111 : fw_lnk "DeltaViewsModel" 111 mi_Mo_all.1 := Or.inl (fw_mem 874 (by decide +kernel) rfl)
theorem lk_Mo_115 : fw_lnk "DeltaViewsModel" 115 mi_Mo_groups.1 := Or.inl (fw_mem 878 (by decide +kernel) rfl)
theorem lk_Mo_118 : fw_lnk "DeltaViewsModel" 118 mi_Mo_settle.1 := Or.inl (fw_mem 847 (by decide +kernel) rfl)
theorem lk_Mo_126 : fw_lnk "DeltaViewsModel" 126 mi_Mo_timesOf.1 := Or.inl (fw_mem 894 (by decide +kernel) rfl)
theorem lk_Mo_130 : fw_lnk "DeltaViewsModel" 130 mi_Mo_differing.1 := Or.inl (fw_mem 890 (by decide +kernel) rfl)
theorem lk_Mo_134 : fw_lnk "DeltaViewsModel" 134 mi_Mo_tryTable.1 := Or.inl (fw_mem 826 (by decide +kernel) rfl)
theorem lk_Mo_138 : fw_lnk "DeltaViewsModel" 138 mi_Mo_work.1 := Or.inl (fw_mem 855 (by decide +kernel) rfl)
theorem lk_Mo_141 : fw_lnk "DeltaViewsModel" 141 mi_Mo_takeOver.1 := Or.inl (fw_mem 886 (by decide +kernel) rfl)
theorem lk_Mo_145 : fw_lnk "DeltaViewsModel" 145 mi_Mo_isView.1 := Or.inl (fw_mem 906 (by decide +kernel) rfl)
theorem lk_Mo_148 : fw_lnk "DeltaViewsModel" 148 mi_Mo_isColumn.1 := Or.inl (fw_mem 902 (by decide +kernel) rfl)
theorem lk_Mo_151 : fw_lnk "DeltaViewsModel" 151 mi_Mo_told.1 := Or.inl (fw_mem 910 (by decide +kernel) rfl)
theorem lk_Mo_154 : fw_lnk "DeltaViewsModel" 154 mi_Mo_make.1 := Or.inl (fw_mem 914 (by decide +kernel) rfl)
end
section
/-! Calls by their links; writing with a new name for the world; indices as numbers. -/
section CR
variable {g : Gl} {d mc ms : Nat} {M : Mi} {w0 : Wd} {sz0 : Nat} {E : Rs → Wd → Nat → Prop} {pc : Nat} {L : List (Nat × Value)} {S : List Value} {w : Wd} {sz nc ns : Nat}
variable {rest A : List Value} {M' : Mi} {d' mc' ms' n idx : Nat} {E' : Rs → Wd → Nat → Prop}
theorem v_cs (hd : decode M.2.1 pc = .ok (.invokestatic idx, 3)) (hl : fw_lnk M.1.cls idx M'.1) (hm : fw_me M' n) (hs : Cond.static M'.1 ∈ fw_big) (hA : A.length = n) (hS : S = A.reverse ++ rest) (hc : CT g d' mc' ms' M' A w sz E') (r1 : d' + 1 ≤ d) (r3 : nc + mc' ≤ mc) (r4 : ns + ms' ≤ ms) (hst : (rest.map fun v => v.category).sum ≤ 8)
    (kr : ∀ v w' sz', E' (.inl v) w' sz' → VV g d mc ms M w0 sz0 E (pc + 3) L (v.toList ++ rest) w' sz' (nc + mc') (ns + ms'))
    (kt : ∀ k w' sz', E' (.inr k) w' sz' → VT g d mc ms M w0 sz0 E pc L rest w' sz' (nc + mc') (ns + ms') k) : VV g d mc ms M w0 sz0 E pc L S w sz nc ns :=
  v_call (en_s hd hl hm.1 hm.2.1 hs hm.2.2.1 hm.2.2.2.1 (by rw [hA]; exact hm.2.2.2.2.1) hS) hc hm.1 hm.2.1 hm.2.2.1 r1 hm.2.2.2.2.2 r3 r4 hst kr kt
theorem v_cv {a ci N : Nat} {fs : List Value} {T : u_T} (hd : decode M.2.1 pc = .ok (.invokevirtual idx, 3)) (hl : fw_lnk M.1.cls idx M'.1) (hm : fw_me M' n) (hi : Cond.instanceMethod M'.1 ∈ fw_big) (hse : Cond.selects M'.1.cls M'.1 M'.1 ∈ fw_big) (hcl : vwCl[ci]? = some (M'.1.cls, T, N)) (ha : w a = some (cO ci fs)) (hA : A.length = n) (hS : S = A.reverse ++ .ref a :: rest) (hc : CT g d' mc' ms' M' (.ref a :: A) w sz E') (r1 : d' + 1 ≤ d) (r3 : nc + mc' ≤ mc) (r4 : ns + ms' ≤ ms) (hst : (rest.map fun v => v.category).sum ≤ 8)
    (kr : ∀ v w' sz', E' (.inl v) w' sz' → VV g d mc ms M w0 sz0 E (pc + 3) L (v.toList ++ rest) w' sz' (nc + mc') (ns + ms'))
    (kt : ∀ k w' sz', E' (.inr k) w' sz' → VT g d mc ms M w0 sz0 E pc L rest w' sz' (nc + mc') (ns + ms') k) : VV g d mc ms M w0 sz0 E pc L S w sz nc ns :=
  v_call (en_v hd hl hm.1 hm.2.1 hi hse hcl ha hm.2.2.2.1 (by rw [hA]; exact hm.2.2.2.2.1) hS) hc hm.1 hm.2.1 hm.2.2.1 r1 hm.2.2.2.2.2 r3 r4 hst kr kt
theorem v_ci {a : Nat} (hd : decode M.2.1 pc = .ok (.invokespecial idx, 3)) (hl : fw_lnk M.1.cls idx M'.1) (hm : fw_me M' n) (hi : Cond.instanceMethod M'.1 ∈ fw_big) (hnm : M'.1.name = "<init>") (hr : M'.2.2.2.1 = none) (hh : M'.2.2.2.2 = []) (hA : A.length = n) (hS : S = A.reverse ++ .ref a :: rest) (hc : CT g d' mc' ms' M' (.ref a :: A) w sz E') (r1 : d' + 1 ≤ d) (r3 : nc + mc' ≤ mc) (r4 : ns + ms' ≤ ms) (hst : (rest.map fun v => v.category).sum ≤ 8)
    (kr : ∀ v w' sz', E' (.inl v) w' sz' → VV g d mc ms M w0 sz0 E (pc + 3) L (v.toList ++ rest) w' sz' (nc + mc') (ns + ms'))
    (kt : ∀ k w' sz', E' (.inr k) w' sz' → VT g d mc ms M w0 sz0 E pc L rest w' sz' (nc + mc') (ns + ms') k) : VV g d mc ms M w0 sz0 E pc L S w sz nc ns := by
  have hw : Cond.code M'.1 M'.2.1 M'.2.2.1 none ∈ fw_big := by
    have h := hm.1
    obtain ⟨y, b, nn, r, hh'⟩ := M'
    dsimp only at hr hh
    subst hr
    subst hh
    exact h
  exact v_call (en_i hd hl hw hi hnm hm.2.2.2.1 (by rw [hA]; exact hm.2.2.2.2.1) hS) hc hm.1 hm.2.1 hm.2.2.1 r1 hm.2.2.2.2.2 r3 r4 hst kr kt
/-- an end that answers v and leaves the world alone -/
def rdE (v : Option Value) (w : Wd) (sz : Nat) : Rs → Wd → Nat → Prop := fun r w' sz' => r = .inl v ∧ w' = w ∧ sz' = sz
/-- an end that answers v, with a world that meets P; nothing is made -/
def wrE (v : Option Value) (sz : Nat) (P : Wd → Prop) : Rs → Wd → Nat → Prop := fun r w' sz' => r = .inl v ∧ sz' = sz ∧ P w'
theorem rdE.k {v0 : Option Value} {w : Wd} {sz : Nat} {X : Option Value → Wd → Nat → Prop} (h : X v0 w sz) : ∀ v w' sz', rdE v0 w sz (.inl v) w' sz' → X v w' sz' := by
  rintro v w' sz' ⟨h1, rfl, rfl⟩
  cases h1
  exact h
theorem rdE.t {v0 : Option Value} {w : Wd} {sz : Nat} {X : Nat → Wd → Nat → Prop} : ∀ k w' sz', rdE v0 w sz (.inr k) w' sz' → X k w' sz' := by
  rintro k w' sz' ⟨h1, -⟩
  cases h1
theorem wrE.k {v0 : Option Value} {sz : Nat} {P : Wd → Prop} {X : Option Value → Wd → Nat → Prop} (h : ∀ w', P w' → X v0 w' sz) : ∀ v w' sz', wrE v0 sz P (.inl v) w' sz' → X v w' sz' := by
  rintro v w' sz' ⟨h1, rfl, h3⟩
  cases h1
  exact h w' h3
theorem wrE.t {v0 : Option Value} {sz : Nat} {P : Wd → Prop} {X : Nat → Wd → Nat → Prop} : ∀ k w' sz', wrE v0 sz P (.inr k) w' sz' → X k w' sz' := by
  rintro k w' sz' ⟨h1, -⟩
  cases h1
/-- writing, with a new name for the world -/
theorem v_putW {a ci k idx : Nat} {fs fs' : List Value} {v : Value} (hd : decode M.2.1 pc = .ok (.putfield idx, 3)) (hf : fw_fl M.1.cls idx ci k) (hfin : ∀ C T N, vwCl[ci]? = some (C, T, N) → (T k).2.2.2 = false ∨ (M.1.name = "<init>" ∧ (T k).1 = M.1.cls ∧ Cond.fieldLink M.1.cls idx (T k).1 (T k).2.1 (T k).2.2.1 ∈ fw_big)) (hok : fw_ok ci k v) (ha : w a = some (cO ci fs)) (hl : k < fs.length) (hfs : fs.set k v = fs')
    (kk : ∀ w', w' a = some (cO ci fs') → (∀ q, q ≠ a → w' q = w q) → VV g d mc ms M w0 sz0 E (pc + 3) L S w' sz nc ns) : VV g d mc ms M w0 sz0 E pc L (v :: .ref a :: S) w sz nc ns :=
  v_put hd hf hfin hok ha hl hfs (kk _ (fw_up_s _ _ _) (fun _ h => fw_up_n _ _ h))
theorem v_iastW {a n k : Nat} {f : Nat → Int32} {i x : Int32} (hd : decode M.2.1 pc = .ok (.iastore, 1)) (ha : w a = some (cI n f)) (hi : i = nI k) (hk : k < n) (hn : n < 2 ^ 31)
    (kk : ∀ w', w' a = some (cI n (upd f k x)) → (∀ q, q ≠ a → w' q = w q) → VV g d mc ms M w0 sz0 E (pc + 1) L S w' sz nc ns) : VV g d mc ms M w0 sz0 E pc L (.int x :: .int i :: .ref a :: S) w sz nc ns := by
  subst hi
  refine v_iast hd ha (vp_in_nI hk hn) ?_
  rw [nI_clamp (by omega)]
  exact kk _ (fw_up_s _ _ _) (fun _ h => fw_up_n _ _ h)
theorem v_lastW {a n k : Nat} {f : Nat → Int64} {i : Int32} {x : Int64} (hd : decode M.2.1 pc = .ok (.lastore, 1)) (ha : w a = some (cJ n f)) (hi : i = nI k) (hk : k < n) (hn : n < 2 ^ 31)
    (kk : ∀ w', w' a = some (cJ n (vp_updL f k x)) → (∀ q, q ≠ a → w' q = w q) → VV g d mc ms M w0 sz0 E (pc + 1) L S w' sz nc ns) : VV g d mc ms M w0 sz0 E pc L (.long x :: .int i :: .ref a :: S) w sz nc ns := by
  subst hi
  refine v_last hd ha (vp_in_nI hk hn) ?_
  rw [nI_clamp (by omega)]
  exact kk _ (fw_up_s _ _ _) (fun _ h => fw_up_n _ _ h)
theorem v_ialdN {a n k : Nat} {f : Nat → Int32} {i : Int32} (hd : decode M.2.1 pc = .ok (.iaload, 1)) (ha : w a = some (cI n f)) (hi : i = nI k) (hk : k < n) (hn : n < 2 ^ 31) (kk : VV g d mc ms M w0 sz0 E (pc + 1) L (.int (f k) :: S) w sz nc ns) : VV g d mc ms M w0 sz0 E pc L (.int i :: .ref a :: S) w sz nc ns := by
  subst hi
  refine v_iald hd ha (vp_in_nI hk hn) ?_
  rw [nI_clamp (by omega)]
  exact kk
theorem v_laldN {a n k : Nat} {f : Nat → Int64} {i : Int32} (hd : decode M.2.1 pc = .ok (.laload, 1)) (ha : w a = some (cJ n f)) (hi : i = nI k) (hk : k < n) (hn : n < 2 ^ 31) (kk : VV g d mc ms M w0 sz0 E (pc + 1) L (.long (f k) :: S) w sz nc ns) : VV g d mc ms M w0 sz0 E pc L (.int i :: .ref a :: S) w sz nc ns := by
  subst hi
  refine v_lald hd ha (vp_in_nI hk hn) ?_
  rw [nI_clamp (by omega)]
  exact kk
theorem v_aaldN {a n k q : Nat} {f : Nat → Option Nat} {i : Int32} (hd : decode M.2.1 pc = .ok (.aaload, 1)) (ha : w a = some (cR n f)) (hi : i = nI k) (hk : k < n) (hn : n < 2 ^ 31) (hq : f k = some q) (kk : VV g d mc ms M w0 sz0 E (pc + 1) L (.ref q :: S) w sz nc ns) : VV g d mc ms M w0 sz0 E pc L (.int i :: .ref a :: S) w sz nc ns := by
  subst hi
  exact v_aald hd ha (vp_in_nI hk hn) (by rw [nI_clamp (by omega)]; exact hq) kk
/-- the top of the stack in another form -/
theorem v_re {x y : Int32} (h : x = y) (k : VV g d mc ms M w0 sz0 E pc L (.int y :: S) w sz nc ns) : VV g d mc ms M w0 sz0 E pc L (.int x :: S) w sz nc ns := h ▸ k
/-- locals in another order, or fewer -/
theorem v_ls {L' : List (Nat × Value)} (h : L'.all (fun q => L.any (fun r => decide (r.1 = q.1))) = true) (h2 : ∀ q ∈ L', q ∈ L) (k : VV g d mc ms M w0 sz0 E pc L' S w sz nc ns) : VV g d mc ms M w0 sz0 E pc L S w sz nc ns := v_sub h2 k
end CR
end
section
/-! Calls of readers and writers that make nothing. -/
section CW
variable {g : Gl} {d mc ms : Nat} {M : Mi} {w0 : Wd} {sz0 : Nat} {E : Rs → Wd → Nat → Prop} {pc : Nat} {L : List (Nat × Value)} {S : List Value} {w : Wd} {sz nc ns : Nat}
variable {rest A : List Value} {M' : Mi} {d' n idx : Nat} {x : Value} {P : Wd → Prop}
theorem v_csR (hd : decode M.2.1 pc = .ok (.invokestatic idx, 3)) (hl : fw_lnk M.1.cls idx M'.1) (hm : fw_me M' n) (hs : Cond.static M'.1 ∈ fw_big) (hA : A.length = n) (hS : S = A.reverse ++ rest) (hc : CT g d' 0 0 M' A w sz (rdE (some x) w sz)) (r1 : d' + 1 ≤ d) (r3 : nc ≤ mc) (r4 : ns ≤ ms) (hst : (rest.map fun v => v.category).sum ≤ 8)
    (kr : VV g d mc ms M w0 sz0 E (pc + 3) L (x :: rest) w sz nc ns) : VV g d mc ms M w0 sz0 E pc L S w sz nc ns := v_cs hd hl hm hs hA hS hc r1 r3 r4 hst (rdE.k kr) rdE.t
theorem v_cvR {a ci N : Nat} {fs : List Value} {T : u_T} (hd : decode M.2.1 pc = .ok (.invokevirtual idx, 3)) (hl : fw_lnk M.1.cls idx M'.1) (hm : fw_me M' n) (hi : Cond.instanceMethod M'.1 ∈ fw_big) (hse : Cond.selects M'.1.cls M'.1 M'.1 ∈ fw_big) (hcl : vwCl[ci]? = some (M'.1.cls, T, N)) (ha : w a = some (cO ci fs)) (hA : A.length = n) (hS : S = A.reverse ++ .ref a :: rest) (hc : CT g d' 0 0 M' (.ref a :: A) w sz (rdE (some x) w sz)) (r1 : d' + 1 ≤ d) (r3 : nc ≤ mc) (r4 : ns ≤ ms) (hst : (rest.map fun v => v.category).sum ≤ 8)
    (kr : VV g d mc ms M w0 sz0 E (pc + 3) L (x :: rest) w sz nc ns) : VV g d mc ms M w0 sz0 E pc L S w sz nc ns := v_cv hd hl hm hi hse hcl ha hA hS hc r1 r3 r4 hst (rdE.k kr) rdE.t
theorem v_cvV {a ci N : Nat} {fs : List Value} {T : u_T} (hd : decode M.2.1 pc = .ok (.invokevirtual idx, 3)) (hl : fw_lnk M.1.cls idx M'.1) (hm : fw_me M' n) (hi : Cond.instanceMethod M'.1 ∈ fw_big) (hse : Cond.selects M'.1.cls M'.1 M'.1 ∈ fw_big) (hcl : vwCl[ci]? = some (M'.1.cls, T, N)) (ha : w a = some (cO ci fs)) (hA : A.length = n) (hS : S = A.reverse ++ .ref a :: rest) (hc : CT g d' 0 0 M' (.ref a :: A) w sz (wrE none sz P)) (r1 : d' + 1 ≤ d) (r3 : nc ≤ mc) (r4 : ns ≤ ms) (hst : (rest.map fun v => v.category).sum ≤ 8)
    (kr : ∀ w', P w' → VV g d mc ms M w0 sz0 E (pc + 3) L rest w' sz nc ns) : VV g d mc ms M w0 sz0 E pc L S w sz nc ns := v_cv hd hl hm hi hse hcl ha hA hS hc r1 r3 r4 hst (wrE.k kr) wrE.t
theorem v_cvX {a ci N : Nat} {fs : List Value} {T : u_T} (hd : decode M.2.1 pc = .ok (.invokevirtual idx, 3)) (hl : fw_lnk M.1.cls idx M'.1) (hm : fw_me M' n) (hi : Cond.instanceMethod M'.1 ∈ fw_big) (hse : Cond.selects M'.1.cls M'.1 M'.1 ∈ fw_big) (hcl : vwCl[ci]? = some (M'.1.cls, T, N)) (ha : w a = some (cO ci fs)) (hA : A.length = n) (hS : S = A.reverse ++ .ref a :: rest) (hc : CT g d' 0 0 M' (.ref a :: A) w sz (wrE (some x) sz P)) (r1 : d' + 1 ≤ d) (r3 : nc ≤ mc) (r4 : ns ≤ ms) (hst : (rest.map fun v => v.category).sum ≤ 8)
    (kr : ∀ w', P w' → VV g d mc ms M w0 sz0 E (pc + 3) L (x :: rest) w' sz nc ns) : VV g d mc ms M w0 sz0 E pc L S w sz nc ns := v_cv hd hl hm hi hse hcl ha hA hS hc r1 r3 r4 hst (wrE.k kr) wrE.t
/-- more room than asked -/
theorem fw_b31 {n : Nat} (h : n ≤ 100000) : n < 2 ^ 31 := by omega
end CW
end
section
/-! The reference's state: four numbers, eighteen arrays, one behind another. -/
def mo_fs (b : Nat) (sc : Nat → Int32) : List Value := [.int (sc 0), .int (sc 1), .ref (b + 1), .ref (b + 2), .ref (b + 3), .ref (b + 4), .ref (b + 5), .ref (b + 6), .ref (b + 7), .ref (b + 8), .ref (b + 9), .ref (b + 10), .ref (b + 11), .int (sc 2), .ref (b + 12), .ref (b + 13), .ref (b + 14), .int (sc 3), .ref (b + 15), .ref (b + 16), .ref (b + 17), .ref (b + 18)]
def MAt (w : Wd) (b : Nat) (sc : Nat → Int32) (ia : Nat → Nat → Int32) (la : Nat → Nat → Int64) : Prop :=
  w b = some (cO 11 (mo_fs b sc)) ∧ w (b + 1) = some (cI 12 (ia 0)) ∧ w (b + 2) = some (cI 12 (ia 1)) ∧ w (b + 3) = some (cI 12 (ia 2)) ∧ w (b + 4) = some (cI 12 (ia 3)) ∧ w (b + 5) = some (cI 12 (ia 4)) ∧ w (b + 6) = some (cI 12 (ia 5)) ∧ w (b + 7) = some (cI 12 (ia 6)) ∧ w (b + 8) = some (cI 12 (ia 7)) ∧ w (b + 9) = some (cI 24 (ia 8)) ∧ w (b + 10) = some (cJ 384 (la 9)) ∧ w (b + 11) = some (cI 1536 (ia 10)) ∧ w (b + 12) = some (cJ 256 (la 11)) ∧ w (b + 13) = some (cI 1024 (ia 12)) ∧ w (b + 14) = some (cI 4 (ia 13)) ∧ w (b + 15) = some (cI 8 (ia 14)) ∧ w (b + 16) = some (cI 8 (ia 15)) ∧ w (b + 17) = some (cI 8 (ia 16)) ∧ w (b + 18) = some (cI 8 (ia 17))
theorem MAt.o {w : Wd} {b : Nat} {sc : Nat → Int32} {ia : Nat → Nat → Int32} {la : Nat → Nat → Int64} (h : MAt w b sc ia la) : w b = some (cO 11 (mo_fs b sc)) := h.1
theorem MAt.a0 {w : Wd} {b : Nat} {sc : Nat → Int32} {ia : Nat → Nat → Int32} {la : Nat → Nat → Int64} (h : MAt w b sc ia la) : w (b + 1) = some (cI 12 (ia 0)) := h.2.1
theorem MAt.a1 {w : Wd} {b : Nat} {sc : Nat → Int32} {ia : Nat → Nat → Int32} {la : Nat → Nat → Int64} (h : MAt w b sc ia la) : w (b + 2) = some (cI 12 (ia 1)) := h.2.2.1
theorem MAt.a2 {w : Wd} {b : Nat} {sc : Nat → Int32} {ia : Nat → Nat → Int32} {la : Nat → Nat → Int64} (h : MAt w b sc ia la) : w (b + 3) = some (cI 12 (ia 2)) := h.2.2.2.1
theorem MAt.a3 {w : Wd} {b : Nat} {sc : Nat → Int32} {ia : Nat → Nat → Int32} {la : Nat → Nat → Int64} (h : MAt w b sc ia la) : w (b + 4) = some (cI 12 (ia 3)) := h.2.2.2.2.1
theorem MAt.a4 {w : Wd} {b : Nat} {sc : Nat → Int32} {ia : Nat → Nat → Int32} {la : Nat → Nat → Int64} (h : MAt w b sc ia la) : w (b + 5) = some (cI 12 (ia 4)) := h.2.2.2.2.2.1
theorem MAt.a5 {w : Wd} {b : Nat} {sc : Nat → Int32} {ia : Nat → Nat → Int32} {la : Nat → Nat → Int64} (h : MAt w b sc ia la) : w (b + 6) = some (cI 12 (ia 5)) := h.2.2.2.2.2.2.1
theorem MAt.a6 {w : Wd} {b : Nat} {sc : Nat → Int32} {ia : Nat → Nat → Int32} {la : Nat → Nat → Int64} (h : MAt w b sc ia la) : w (b + 7) = some (cI 12 (ia 6)) := h.2.2.2.2.2.2.2.1
theorem MAt.a7 {w : Wd} {b : Nat} {sc : Nat → Int32} {ia : Nat → Nat → Int32} {la : Nat → Nat → Int64} (h : MAt w b sc ia la) : w (b + 8) = some (cI 12 (ia 7)) := h.2.2.2.2.2.2.2.2.1
theorem MAt.a8 {w : Wd} {b : Nat} {sc : Nat → Int32} {ia : Nat → Nat → Int32} {la : Nat → Nat → Int64} (h : MAt w b sc ia la) : w (b + 9) = some (cI 24 (ia 8)) := h.2.2.2.2.2.2.2.2.2.1
theorem MAt.a9 {w : Wd} {b : Nat} {sc : Nat → Int32} {ia : Nat → Nat → Int32} {la : Nat → Nat → Int64} (h : MAt w b sc ia la) : w (b + 10) = some (cJ 384 (la 9)) := h.2.2.2.2.2.2.2.2.2.2.1
theorem MAt.a10 {w : Wd} {b : Nat} {sc : Nat → Int32} {ia : Nat → Nat → Int32} {la : Nat → Nat → Int64} (h : MAt w b sc ia la) : w (b + 11) = some (cI 1536 (ia 10)) := h.2.2.2.2.2.2.2.2.2.2.2.1
theorem MAt.a11 {w : Wd} {b : Nat} {sc : Nat → Int32} {ia : Nat → Nat → Int32} {la : Nat → Nat → Int64} (h : MAt w b sc ia la) : w (b + 12) = some (cJ 256 (la 11)) := h.2.2.2.2.2.2.2.2.2.2.2.2.1
theorem MAt.a12 {w : Wd} {b : Nat} {sc : Nat → Int32} {ia : Nat → Nat → Int32} {la : Nat → Nat → Int64} (h : MAt w b sc ia la) : w (b + 13) = some (cI 1024 (ia 12)) := h.2.2.2.2.2.2.2.2.2.2.2.2.2.1
theorem MAt.a13 {w : Wd} {b : Nat} {sc : Nat → Int32} {ia : Nat → Nat → Int32} {la : Nat → Nat → Int64} (h : MAt w b sc ia la) : w (b + 14) = some (cI 4 (ia 13)) := h.2.2.2.2.2.2.2.2.2.2.2.2.2.2.1
theorem MAt.a14 {w : Wd} {b : Nat} {sc : Nat → Int32} {ia : Nat → Nat → Int32} {la : Nat → Nat → Int64} (h : MAt w b sc ia la) : w (b + 15) = some (cI 8 (ia 14)) := h.2.2.2.2.2.2.2.2.2.2.2.2.2.2.2.1
theorem MAt.a15 {w : Wd} {b : Nat} {sc : Nat → Int32} {ia : Nat → Nat → Int32} {la : Nat → Nat → Int64} (h : MAt w b sc ia la) : w (b + 16) = some (cI 8 (ia 15)) := h.2.2.2.2.2.2.2.2.2.2.2.2.2.2.2.2.1
theorem MAt.a16 {w : Wd} {b : Nat} {sc : Nat → Int32} {ia : Nat → Nat → Int32} {la : Nat → Nat → Int64} (h : MAt w b sc ia la) : w (b + 17) = some (cI 8 (ia 16)) := h.2.2.2.2.2.2.2.2.2.2.2.2.2.2.2.2.2.1
theorem MAt.a17 {w : Wd} {b : Nat} {sc : Nat → Int32} {ia : Nat → Nat → Int32} {la : Nat → Nat → Int64} (h : MAt w b sc ia la) : w (b + 18) = some (cI 8 (ia 17)) := h.2.2.2.2.2.2.2.2.2.2.2.2.2.2.2.2.2.2
theorem MAt.mv {w : Wd} {b : Nat} {sc : Nat → Int32} {ia : Nat → Nat → Int32} {la : Nat → Nat → Int64} {w' : Wd} (h : MAt w b sc ia la) (hw : ∀ q, b ≤ q → q < b + 19 → w' q = w q) : MAt w' b sc ia la :=
  ⟨(hw _ (by omega) (by omega)).trans h.o, (hw _ (by omega) (by omega)).trans h.a0, (hw _ (by omega) (by omega)).trans h.a1, (hw _ (by omega) (by omega)).trans h.a2, (hw _ (by omega) (by omega)).trans h.a3, (hw _ (by omega) (by omega)).trans h.a4, (hw _ (by omega) (by omega)).trans h.a5, (hw _ (by omega) (by omega)).trans h.a6, (hw _ (by omega) (by omega)).trans h.a7, (hw _ (by omega) (by omega)).trans h.a8, (hw _ (by omega) (by omega)).trans h.a9, (hw _ (by omega) (by omega)).trans h.a10, (hw _ (by omega) (by omega)).trans h.a11, (hw _ (by omega) (by omega)).trans h.a12, (hw _ (by omega) (by omega)).trans h.a13, (hw _ (by omega) (by omega)).trans h.a14, (hw _ (by omega) (by omega)).trans h.a15, (hw _ (by omega) (by omega)).trans h.a16, (hw _ (by omega) (by omega)).trans h.a17⟩
theorem MAt.s0 {w : Wd} {b : Nat} {sc : Nat → Int32} {ia : Nat → Nat → Int32} {la : Nat → Nat → Int64} {w' : Wd} {f : Nat → Int32} (h : MAt w b sc ia la) (hn : w' (b + 1) = some (cI 12 f)) (hq : ∀ q, q ≠ b + 1 → w' q = w q) : MAt w' b sc (va_up ia 0 f) la :=
  ⟨(hq _ (by omega)).trans h.o, hn, (hq _ (by omega)).trans h.a1, (hq _ (by omega)).trans h.a2, (hq _ (by omega)).trans h.a3, (hq _ (by omega)).trans h.a4, (hq _ (by omega)).trans h.a5, (hq _ (by omega)).trans h.a6, (hq _ (by omega)).trans h.a7, (hq _ (by omega)).trans h.a8, (hq _ (by omega)).trans h.a9, (hq _ (by omega)).trans h.a10, (hq _ (by omega)).trans h.a11, (hq _ (by omega)).trans h.a12, (hq _ (by omega)).trans h.a13, (hq _ (by omega)).trans h.a14, (hq _ (by omega)).trans h.a15, (hq _ (by omega)).trans h.a16, (hq _ (by omega)).trans h.a17⟩
theorem MAt.s1 {w : Wd} {b : Nat} {sc : Nat → Int32} {ia : Nat → Nat → Int32} {la : Nat → Nat → Int64} {w' : Wd} {f : Nat → Int32} (h : MAt w b sc ia la) (hn : w' (b + 2) = some (cI 12 f)) (hq : ∀ q, q ≠ b + 2 → w' q = w q) : MAt w' b sc (va_up ia 1 f) la :=
  ⟨(hq _ (by omega)).trans h.o, (hq _ (by omega)).trans h.a0, hn, (hq _ (by omega)).trans h.a2, (hq _ (by omega)).trans h.a3, (hq _ (by omega)).trans h.a4, (hq _ (by omega)).trans h.a5, (hq _ (by omega)).trans h.a6, (hq _ (by omega)).trans h.a7, (hq _ (by omega)).trans h.a8, (hq _ (by omega)).trans h.a9, (hq _ (by omega)).trans h.a10, (hq _ (by omega)).trans h.a11, (hq _ (by omega)).trans h.a12, (hq _ (by omega)).trans h.a13, (hq _ (by omega)).trans h.a14, (hq _ (by omega)).trans h.a15, (hq _ (by omega)).trans h.a16, (hq _ (by omega)).trans h.a17⟩
theorem MAt.s2 {w : Wd} {b : Nat} {sc : Nat → Int32} {ia : Nat → Nat → Int32} {la : Nat → Nat → Int64} {w' : Wd} {f : Nat → Int32} (h : MAt w b sc ia la) (hn : w' (b + 3) = some (cI 12 f)) (hq : ∀ q, q ≠ b + 3 → w' q = w q) : MAt w' b sc (va_up ia 2 f) la :=
  ⟨(hq _ (by omega)).trans h.o, (hq _ (by omega)).trans h.a0, (hq _ (by omega)).trans h.a1, hn, (hq _ (by omega)).trans h.a3, (hq _ (by omega)).trans h.a4, (hq _ (by omega)).trans h.a5, (hq _ (by omega)).trans h.a6, (hq _ (by omega)).trans h.a7, (hq _ (by omega)).trans h.a8, (hq _ (by omega)).trans h.a9, (hq _ (by omega)).trans h.a10, (hq _ (by omega)).trans h.a11, (hq _ (by omega)).trans h.a12, (hq _ (by omega)).trans h.a13, (hq _ (by omega)).trans h.a14, (hq _ (by omega)).trans h.a15, (hq _ (by omega)).trans h.a16, (hq _ (by omega)).trans h.a17⟩
theorem MAt.s3 {w : Wd} {b : Nat} {sc : Nat → Int32} {ia : Nat → Nat → Int32} {la : Nat → Nat → Int64} {w' : Wd} {f : Nat → Int32} (h : MAt w b sc ia la) (hn : w' (b + 4) = some (cI 12 f)) (hq : ∀ q, q ≠ b + 4 → w' q = w q) : MAt w' b sc (va_up ia 3 f) la :=
  ⟨(hq _ (by omega)).trans h.o, (hq _ (by omega)).trans h.a0, (hq _ (by omega)).trans h.a1, (hq _ (by omega)).trans h.a2, hn, (hq _ (by omega)).trans h.a4, (hq _ (by omega)).trans h.a5, (hq _ (by omega)).trans h.a6, (hq _ (by omega)).trans h.a7, (hq _ (by omega)).trans h.a8, (hq _ (by omega)).trans h.a9, (hq _ (by omega)).trans h.a10, (hq _ (by omega)).trans h.a11, (hq _ (by omega)).trans h.a12, (hq _ (by omega)).trans h.a13, (hq _ (by omega)).trans h.a14, (hq _ (by omega)).trans h.a15, (hq _ (by omega)).trans h.a16, (hq _ (by omega)).trans h.a17⟩
theorem MAt.s4 {w : Wd} {b : Nat} {sc : Nat → Int32} {ia : Nat → Nat → Int32} {la : Nat → Nat → Int64} {w' : Wd} {f : Nat → Int32} (h : MAt w b sc ia la) (hn : w' (b + 5) = some (cI 12 f)) (hq : ∀ q, q ≠ b + 5 → w' q = w q) : MAt w' b sc (va_up ia 4 f) la :=
  ⟨(hq _ (by omega)).trans h.o, (hq _ (by omega)).trans h.a0, (hq _ (by omega)).trans h.a1, (hq _ (by omega)).trans h.a2, (hq _ (by omega)).trans h.a3, hn, (hq _ (by omega)).trans h.a5, (hq _ (by omega)).trans h.a6, (hq _ (by omega)).trans h.a7, (hq _ (by omega)).trans h.a8, (hq _ (by omega)).trans h.a9, (hq _ (by omega)).trans h.a10, (hq _ (by omega)).trans h.a11, (hq _ (by omega)).trans h.a12, (hq _ (by omega)).trans h.a13, (hq _ (by omega)).trans h.a14, (hq _ (by omega)).trans h.a15, (hq _ (by omega)).trans h.a16, (hq _ (by omega)).trans h.a17⟩
theorem MAt.s5 {w : Wd} {b : Nat} {sc : Nat → Int32} {ia : Nat → Nat → Int32} {la : Nat → Nat → Int64} {w' : Wd} {f : Nat → Int32} (h : MAt w b sc ia la) (hn : w' (b + 6) = some (cI 12 f)) (hq : ∀ q, q ≠ b + 6 → w' q = w q) : MAt w' b sc (va_up ia 5 f) la :=
  ⟨(hq _ (by omega)).trans h.o, (hq _ (by omega)).trans h.a0, (hq _ (by omega)).trans h.a1, (hq _ (by omega)).trans h.a2, (hq _ (by omega)).trans h.a3, (hq _ (by omega)).trans h.a4, hn, (hq _ (by omega)).trans h.a6, (hq _ (by omega)).trans h.a7, (hq _ (by omega)).trans h.a8, (hq _ (by omega)).trans h.a9, (hq _ (by omega)).trans h.a10, (hq _ (by omega)).trans h.a11, (hq _ (by omega)).trans h.a12, (hq _ (by omega)).trans h.a13, (hq _ (by omega)).trans h.a14, (hq _ (by omega)).trans h.a15, (hq _ (by omega)).trans h.a16, (hq _ (by omega)).trans h.a17⟩
theorem MAt.s6 {w : Wd} {b : Nat} {sc : Nat → Int32} {ia : Nat → Nat → Int32} {la : Nat → Nat → Int64} {w' : Wd} {f : Nat → Int32} (h : MAt w b sc ia la) (hn : w' (b + 7) = some (cI 12 f)) (hq : ∀ q, q ≠ b + 7 → w' q = w q) : MAt w' b sc (va_up ia 6 f) la :=
  ⟨(hq _ (by omega)).trans h.o, (hq _ (by omega)).trans h.a0, (hq _ (by omega)).trans h.a1, (hq _ (by omega)).trans h.a2, (hq _ (by omega)).trans h.a3, (hq _ (by omega)).trans h.a4, (hq _ (by omega)).trans h.a5, hn, (hq _ (by omega)).trans h.a7, (hq _ (by omega)).trans h.a8, (hq _ (by omega)).trans h.a9, (hq _ (by omega)).trans h.a10, (hq _ (by omega)).trans h.a11, (hq _ (by omega)).trans h.a12, (hq _ (by omega)).trans h.a13, (hq _ (by omega)).trans h.a14, (hq _ (by omega)).trans h.a15, (hq _ (by omega)).trans h.a16, (hq _ (by omega)).trans h.a17⟩
theorem MAt.s7 {w : Wd} {b : Nat} {sc : Nat → Int32} {ia : Nat → Nat → Int32} {la : Nat → Nat → Int64} {w' : Wd} {f : Nat → Int32} (h : MAt w b sc ia la) (hn : w' (b + 8) = some (cI 12 f)) (hq : ∀ q, q ≠ b + 8 → w' q = w q) : MAt w' b sc (va_up ia 7 f) la :=
  ⟨(hq _ (by omega)).trans h.o, (hq _ (by omega)).trans h.a0, (hq _ (by omega)).trans h.a1, (hq _ (by omega)).trans h.a2, (hq _ (by omega)).trans h.a3, (hq _ (by omega)).trans h.a4, (hq _ (by omega)).trans h.a5, (hq _ (by omega)).trans h.a6, hn, (hq _ (by omega)).trans h.a8, (hq _ (by omega)).trans h.a9, (hq _ (by omega)).trans h.a10, (hq _ (by omega)).trans h.a11, (hq _ (by omega)).trans h.a12, (hq _ (by omega)).trans h.a13, (hq _ (by omega)).trans h.a14, (hq _ (by omega)).trans h.a15, (hq _ (by omega)).trans h.a16, (hq _ (by omega)).trans h.a17⟩
theorem MAt.s8 {w : Wd} {b : Nat} {sc : Nat → Int32} {ia : Nat → Nat → Int32} {la : Nat → Nat → Int64} {w' : Wd} {f : Nat → Int32} (h : MAt w b sc ia la) (hn : w' (b + 9) = some (cI 24 f)) (hq : ∀ q, q ≠ b + 9 → w' q = w q) : MAt w' b sc (va_up ia 8 f) la :=
  ⟨(hq _ (by omega)).trans h.o, (hq _ (by omega)).trans h.a0, (hq _ (by omega)).trans h.a1, (hq _ (by omega)).trans h.a2, (hq _ (by omega)).trans h.a3, (hq _ (by omega)).trans h.a4, (hq _ (by omega)).trans h.a5, (hq _ (by omega)).trans h.a6, (hq _ (by omega)).trans h.a7, hn, (hq _ (by omega)).trans h.a9, (hq _ (by omega)).trans h.a10, (hq _ (by omega)).trans h.a11, (hq _ (by omega)).trans h.a12, (hq _ (by omega)).trans h.a13, (hq _ (by omega)).trans h.a14, (hq _ (by omega)).trans h.a15, (hq _ (by omega)).trans h.a16, (hq _ (by omega)).trans h.a17⟩
theorem MAt.s9 {w : Wd} {b : Nat} {sc : Nat → Int32} {ia : Nat → Nat → Int32} {la : Nat → Nat → Int64} {w' : Wd} {f : Nat → Int64} (h : MAt w b sc ia la) (hn : w' (b + 10) = some (cJ 384 f)) (hq : ∀ q, q ≠ b + 10 → w' q = w q) : MAt w' b sc ia (va_up la 9 f) :=
  ⟨(hq _ (by omega)).trans h.o, (hq _ (by omega)).trans h.a0, (hq _ (by omega)).trans h.a1, (hq _ (by omega)).trans h.a2, (hq _ (by omega)).trans h.a3, (hq _ (by omega)).trans h.a4, (hq _ (by omega)).trans h.a5, (hq _ (by omega)).trans h.a6, (hq _ (by omega)).trans h.a7, (hq _ (by omega)).trans h.a8, hn, (hq _ (by omega)).trans h.a10, (hq _ (by omega)).trans h.a11, (hq _ (by omega)).trans h.a12, (hq _ (by omega)).trans h.a13, (hq _ (by omega)).trans h.a14, (hq _ (by omega)).trans h.a15, (hq _ (by omega)).trans h.a16, (hq _ (by omega)).trans h.a17⟩
theorem MAt.s10 {w : Wd} {b : Nat} {sc : Nat → Int32} {ia : Nat → Nat → Int32} {la : Nat → Nat → Int64} {w' : Wd} {f : Nat → Int32} (h : MAt w b sc ia la) (hn : w' (b + 11) = some (cI 1536 f)) (hq : ∀ q, q ≠ b + 11 → w' q = w q) : MAt w' b sc (va_up ia 10 f) la :=
  ⟨(hq _ (by omega)).trans h.o, (hq _ (by omega)).trans h.a0, (hq _ (by omega)).trans h.a1, (hq _ (by omega)).trans h.a2, (hq _ (by omega)).trans h.a3, (hq _ (by omega)).trans h.a4, (hq _ (by omega)).trans h.a5, (hq _ (by omega)).trans h.a6, (hq _ (by omega)).trans h.a7, (hq _ (by omega)).trans h.a8, (hq _ (by omega)).trans h.a9, hn, (hq _ (by omega)).trans h.a11, (hq _ (by omega)).trans h.a12, (hq _ (by omega)).trans h.a13, (hq _ (by omega)).trans h.a14, (hq _ (by omega)).trans h.a15, (hq _ (by omega)).trans h.a16, (hq _ (by omega)).trans h.a17⟩
theorem MAt.s11 {w : Wd} {b : Nat} {sc : Nat → Int32} {ia : Nat → Nat → Int32} {la : Nat → Nat → Int64} {w' : Wd} {f : Nat → Int64} (h : MAt w b sc ia la) (hn : w' (b + 12) = some (cJ 256 f)) (hq : ∀ q, q ≠ b + 12 → w' q = w q) : MAt w' b sc ia (va_up la 11 f) :=
  ⟨(hq _ (by omega)).trans h.o, (hq _ (by omega)).trans h.a0, (hq _ (by omega)).trans h.a1, (hq _ (by omega)).trans h.a2, (hq _ (by omega)).trans h.a3, (hq _ (by omega)).trans h.a4, (hq _ (by omega)).trans h.a5, (hq _ (by omega)).trans h.a6, (hq _ (by omega)).trans h.a7, (hq _ (by omega)).trans h.a8, (hq _ (by omega)).trans h.a9, (hq _ (by omega)).trans h.a10, hn, (hq _ (by omega)).trans h.a12, (hq _ (by omega)).trans h.a13, (hq _ (by omega)).trans h.a14, (hq _ (by omega)).trans h.a15, (hq _ (by omega)).trans h.a16, (hq _ (by omega)).trans h.a17⟩
theorem MAt.s12 {w : Wd} {b : Nat} {sc : Nat → Int32} {ia : Nat → Nat → Int32} {la : Nat → Nat → Int64} {w' : Wd} {f : Nat → Int32} (h : MAt w b sc ia la) (hn : w' (b + 13) = some (cI 1024 f)) (hq : ∀ q, q ≠ b + 13 → w' q = w q) : MAt w' b sc (va_up ia 12 f) la :=
  ⟨(hq _ (by omega)).trans h.o, (hq _ (by omega)).trans h.a0, (hq _ (by omega)).trans h.a1, (hq _ (by omega)).trans h.a2, (hq _ (by omega)).trans h.a3, (hq _ (by omega)).trans h.a4, (hq _ (by omega)).trans h.a5, (hq _ (by omega)).trans h.a6, (hq _ (by omega)).trans h.a7, (hq _ (by omega)).trans h.a8, (hq _ (by omega)).trans h.a9, (hq _ (by omega)).trans h.a10, (hq _ (by omega)).trans h.a11, hn, (hq _ (by omega)).trans h.a13, (hq _ (by omega)).trans h.a14, (hq _ (by omega)).trans h.a15, (hq _ (by omega)).trans h.a16, (hq _ (by omega)).trans h.a17⟩
theorem MAt.s13 {w : Wd} {b : Nat} {sc : Nat → Int32} {ia : Nat → Nat → Int32} {la : Nat → Nat → Int64} {w' : Wd} {f : Nat → Int32} (h : MAt w b sc ia la) (hn : w' (b + 14) = some (cI 4 f)) (hq : ∀ q, q ≠ b + 14 → w' q = w q) : MAt w' b sc (va_up ia 13 f) la :=
  ⟨(hq _ (by omega)).trans h.o, (hq _ (by omega)).trans h.a0, (hq _ (by omega)).trans h.a1, (hq _ (by omega)).trans h.a2, (hq _ (by omega)).trans h.a3, (hq _ (by omega)).trans h.a4, (hq _ (by omega)).trans h.a5, (hq _ (by omega)).trans h.a6, (hq _ (by omega)).trans h.a7, (hq _ (by omega)).trans h.a8, (hq _ (by omega)).trans h.a9, (hq _ (by omega)).trans h.a10, (hq _ (by omega)).trans h.a11, (hq _ (by omega)).trans h.a12, hn, (hq _ (by omega)).trans h.a14, (hq _ (by omega)).trans h.a15, (hq _ (by omega)).trans h.a16, (hq _ (by omega)).trans h.a17⟩
theorem MAt.s14 {w : Wd} {b : Nat} {sc : Nat → Int32} {ia : Nat → Nat → Int32} {la : Nat → Nat → Int64} {w' : Wd} {f : Nat → Int32} (h : MAt w b sc ia la) (hn : w' (b + 15) = some (cI 8 f)) (hq : ∀ q, q ≠ b + 15 → w' q = w q) : MAt w' b sc (va_up ia 14 f) la :=
  ⟨(hq _ (by omega)).trans h.o, (hq _ (by omega)).trans h.a0, (hq _ (by omega)).trans h.a1, (hq _ (by omega)).trans h.a2, (hq _ (by omega)).trans h.a3, (hq _ (by omega)).trans h.a4, (hq _ (by omega)).trans h.a5, (hq _ (by omega)).trans h.a6, (hq _ (by omega)).trans h.a7, (hq _ (by omega)).trans h.a8, (hq _ (by omega)).trans h.a9, (hq _ (by omega)).trans h.a10, (hq _ (by omega)).trans h.a11, (hq _ (by omega)).trans h.a12, (hq _ (by omega)).trans h.a13, hn, (hq _ (by omega)).trans h.a15, (hq _ (by omega)).trans h.a16, (hq _ (by omega)).trans h.a17⟩
theorem MAt.s15 {w : Wd} {b : Nat} {sc : Nat → Int32} {ia : Nat → Nat → Int32} {la : Nat → Nat → Int64} {w' : Wd} {f : Nat → Int32} (h : MAt w b sc ia la) (hn : w' (b + 16) = some (cI 8 f)) (hq : ∀ q, q ≠ b + 16 → w' q = w q) : MAt w' b sc (va_up ia 15 f) la :=
  ⟨(hq _ (by omega)).trans h.o, (hq _ (by omega)).trans h.a0, (hq _ (by omega)).trans h.a1, (hq _ (by omega)).trans h.a2, (hq _ (by omega)).trans h.a3, (hq _ (by omega)).trans h.a4, (hq _ (by omega)).trans h.a5, (hq _ (by omega)).trans h.a6, (hq _ (by omega)).trans h.a7, (hq _ (by omega)).trans h.a8, (hq _ (by omega)).trans h.a9, (hq _ (by omega)).trans h.a10, (hq _ (by omega)).trans h.a11, (hq _ (by omega)).trans h.a12, (hq _ (by omega)).trans h.a13, (hq _ (by omega)).trans h.a14, hn, (hq _ (by omega)).trans h.a16, (hq _ (by omega)).trans h.a17⟩
theorem MAt.s16 {w : Wd} {b : Nat} {sc : Nat → Int32} {ia : Nat → Nat → Int32} {la : Nat → Nat → Int64} {w' : Wd} {f : Nat → Int32} (h : MAt w b sc ia la) (hn : w' (b + 17) = some (cI 8 f)) (hq : ∀ q, q ≠ b + 17 → w' q = w q) : MAt w' b sc (va_up ia 16 f) la :=
  ⟨(hq _ (by omega)).trans h.o, (hq _ (by omega)).trans h.a0, (hq _ (by omega)).trans h.a1, (hq _ (by omega)).trans h.a2, (hq _ (by omega)).trans h.a3, (hq _ (by omega)).trans h.a4, (hq _ (by omega)).trans h.a5, (hq _ (by omega)).trans h.a6, (hq _ (by omega)).trans h.a7, (hq _ (by omega)).trans h.a8, (hq _ (by omega)).trans h.a9, (hq _ (by omega)).trans h.a10, (hq _ (by omega)).trans h.a11, (hq _ (by omega)).trans h.a12, (hq _ (by omega)).trans h.a13, (hq _ (by omega)).trans h.a14, (hq _ (by omega)).trans h.a15, hn, (hq _ (by omega)).trans h.a17⟩
theorem MAt.s17 {w : Wd} {b : Nat} {sc : Nat → Int32} {ia : Nat → Nat → Int32} {la : Nat → Nat → Int64} {w' : Wd} {f : Nat → Int32} (h : MAt w b sc ia la) (hn : w' (b + 18) = some (cI 8 f)) (hq : ∀ q, q ≠ b + 18 → w' q = w q) : MAt w' b sc (va_up ia 17 f) la :=
  ⟨(hq _ (by omega)).trans h.o, (hq _ (by omega)).trans h.a0, (hq _ (by omega)).trans h.a1, (hq _ (by omega)).trans h.a2, (hq _ (by omega)).trans h.a3, (hq _ (by omega)).trans h.a4, (hq _ (by omega)).trans h.a5, (hq _ (by omega)).trans h.a6, (hq _ (by omega)).trans h.a7, (hq _ (by omega)).trans h.a8, (hq _ (by omega)).trans h.a9, (hq _ (by omega)).trans h.a10, (hq _ (by omega)).trans h.a11, (hq _ (by omega)).trans h.a12, (hq _ (by omega)).trans h.a13, (hq _ (by omega)).trans h.a14, (hq _ (by omega)).trans h.a15, (hq _ (by omega)).trans h.a16, hn⟩
theorem MAt.n0 {w : Wd} {b : Nat} {sc : Nat → Int32} {ia : Nat → Nat → Int32} {la : Nat → Nat → Int64} {w' : Wd} {x : Int32} (h : MAt w b sc ia la) (hn : w' b = some (cO 11 (mo_fs b (va_up sc 0 x)))) (hq : ∀ q, q ≠ b → w' q = w q) : MAt w' b (va_up sc 0 x) ia la :=
  ⟨hn, (hq _ (by omega)).trans h.a0, (hq _ (by omega)).trans h.a1, (hq _ (by omega)).trans h.a2, (hq _ (by omega)).trans h.a3, (hq _ (by omega)).trans h.a4, (hq _ (by omega)).trans h.a5, (hq _ (by omega)).trans h.a6, (hq _ (by omega)).trans h.a7, (hq _ (by omega)).trans h.a8, (hq _ (by omega)).trans h.a9, (hq _ (by omega)).trans h.a10, (hq _ (by omega)).trans h.a11, (hq _ (by omega)).trans h.a12, (hq _ (by omega)).trans h.a13, (hq _ (by omega)).trans h.a14, (hq _ (by omega)).trans h.a15, (hq _ (by omega)).trans h.a16, (hq _ (by omega)).trans h.a17⟩
theorem MAt.n1 {w : Wd} {b : Nat} {sc : Nat → Int32} {ia : Nat → Nat → Int32} {la : Nat → Nat → Int64} {w' : Wd} {x : Int32} (h : MAt w b sc ia la) (hn : w' b = some (cO 11 (mo_fs b (va_up sc 1 x)))) (hq : ∀ q, q ≠ b → w' q = w q) : MAt w' b (va_up sc 1 x) ia la :=
  ⟨hn, (hq _ (by omega)).trans h.a0, (hq _ (by omega)).trans h.a1, (hq _ (by omega)).trans h.a2, (hq _ (by omega)).trans h.a3, (hq _ (by omega)).trans h.a4, (hq _ (by omega)).trans h.a5, (hq _ (by omega)).trans h.a6, (hq _ (by omega)).trans h.a7, (hq _ (by omega)).trans h.a8, (hq _ (by omega)).trans h.a9, (hq _ (by omega)).trans h.a10, (hq _ (by omega)).trans h.a11, (hq _ (by omega)).trans h.a12, (hq _ (by omega)).trans h.a13, (hq _ (by omega)).trans h.a14, (hq _ (by omega)).trans h.a15, (hq _ (by omega)).trans h.a16, (hq _ (by omega)).trans h.a17⟩
theorem MAt.n2 {w : Wd} {b : Nat} {sc : Nat → Int32} {ia : Nat → Nat → Int32} {la : Nat → Nat → Int64} {w' : Wd} {x : Int32} (h : MAt w b sc ia la) (hn : w' b = some (cO 11 (mo_fs b (va_up sc 2 x)))) (hq : ∀ q, q ≠ b → w' q = w q) : MAt w' b (va_up sc 2 x) ia la :=
  ⟨hn, (hq _ (by omega)).trans h.a0, (hq _ (by omega)).trans h.a1, (hq _ (by omega)).trans h.a2, (hq _ (by omega)).trans h.a3, (hq _ (by omega)).trans h.a4, (hq _ (by omega)).trans h.a5, (hq _ (by omega)).trans h.a6, (hq _ (by omega)).trans h.a7, (hq _ (by omega)).trans h.a8, (hq _ (by omega)).trans h.a9, (hq _ (by omega)).trans h.a10, (hq _ (by omega)).trans h.a11, (hq _ (by omega)).trans h.a12, (hq _ (by omega)).trans h.a13, (hq _ (by omega)).trans h.a14, (hq _ (by omega)).trans h.a15, (hq _ (by omega)).trans h.a16, (hq _ (by omega)).trans h.a17⟩
theorem MAt.n3 {w : Wd} {b : Nat} {sc : Nat → Int32} {ia : Nat → Nat → Int32} {la : Nat → Nat → Int64} {w' : Wd} {x : Int32} (h : MAt w b sc ia la) (hn : w' b = some (cO 11 (mo_fs b (va_up sc 3 x)))) (hq : ∀ q, q ≠ b → w' q = w q) : MAt w' b (va_up sc 3 x) ia la :=
  ⟨hn, (hq _ (by omega)).trans h.a0, (hq _ (by omega)).trans h.a1, (hq _ (by omega)).trans h.a2, (hq _ (by omega)).trans h.a3, (hq _ (by omega)).trans h.a4, (hq _ (by omega)).trans h.a5, (hq _ (by omega)).trans h.a6, (hq _ (by omega)).trans h.a7, (hq _ (by omega)).trans h.a8, (hq _ (by omega)).trans h.a9, (hq _ (by omega)).trans h.a10, (hq _ (by omega)).trans h.a11, (hq _ (by omega)).trans h.a12, (hq _ (by omega)).trans h.a13, (hq _ (by omega)).trans h.a14, (hq _ (by omega)).trans h.a15, (hq _ (by omega)).trans h.a16, (hq _ (by omega)).trans h.a17⟩
def mo_fr (b : Nat) (w w' : Wd) : Prop := ∀ q, q < b ∨ b + 19 ≤ q → w' q = w q
theorem mo_fr.rf {b : Nat} {w : Wd} : mo_fr b w w := fun _ _ => rfl
theorem mo_fr.tr {b : Nat} {w w1 w2 : Wd} (h : mo_fr b w w1) (k : mo_fr b w1 w2) : mo_fr b w w2 := fun q hq => (k q hq).trans (h q hq)
theorem mo_fr.at {b a : Nat} {w w1 w2 : Wd} (h : mo_fr b w w1) (ha : b ≤ a ∧ a < b + 19) (k : ∀ q, q ≠ a → w2 q = w1 q) : mo_fr b w w2 := fun q hq => (k q (by omega)).trans (h q hq)
/-- answers of yes or no -/
theorem zr1 {P : Prop} [Decidable P] (h : P) : (Sum.inl (some (.int (nI 1))) : Rs) = .inl (some (.int (if P then 1 else 0))) := by rw [if_pos h]; rfl
theorem zr0 {P : Prop} [Decidable P] (h : ¬ P) : (Sum.inl (some (.int (nI 0))) : Rs) = .inl (some (.int (if P then 1 else 0))) := by rw [if_neg h]; rfl
theorem zf {P : Prop} [Decidable P] : (if P then (1 : Int32) else 0) = 0 ↔ ¬ P := by by_cases h : P <;> simp [h]
theorem zt {P : Prop} [Decidable P] : ¬ (if P then (1 : Int32) else 0) = 0 ↔ P := by by_cases h : P <;> simp [h]
theorem zb1 {P : Prop} [Decidable P] (h : P) : nI 1 = (if P then 1 else 0) := by rw [if_pos h]; rfl
theorem zb0 {P : Prop} [Decidable P] (h : ¬ P) : nI 0 = (if P then 1 else 0) := by rw [if_neg h]; rfl
theorem z01 : nI 0 = 0 ∨ nI 0 = 1 := Or.inl rfl
theorem z11 : nI 1 = 0 ∨ nI 1 = 1 := Or.inr rfl
theorem zb {P : Prop} [Decidable P] : (if P then (1 : Int32) else 0) = 0 ∨ (if P then (1 : Int32) else 0) = 1 := by by_cases h : P <;> simp [h]
end
section
set_option maxRecDepth 100000 in
set_option maxHeartbeats 4000000 in
theorem c_Mo_thrown (g : Gl) {w : Wd} {b sz : Nat} {sc : Nat → Int32} {ia : Nat → Nat → Int32} {la : Nat → Nat → Int64} (hM : MAt w b sc ia la) : CT g 0 0 0 mi_Mo_thrown [.ref b] w sz (rdE (some (.int (sc 0))) w sz) := by
  refine CT.of (by decide) (Nat.le_of_ble_eq_true rfl) ?_
  refine v_aload_n (pc := 0) d_Mo_thrown_0 rfl rfl ?_
  refine v_get (pc := 1) d_Mo_thrown_1 fl_Mo_69 hM.o rfl ?_
  exact v_iret (pc := 4) d_Mo_thrown_4 rfl (Nat.le_of_ble_eq_true rfl) (Nat.le_of_ble_eq_true rfl) ⟨rfl, rfl, rfl⟩
set_option maxRecDepth 100000 in
set_option maxHeartbeats 4000000 in
theorem c_Mo_isView (g : Gl) {w : Wd} {b sz : Nat} {sc : Nat → Int32} {ia : Nat → Nat → Int32} {la : Nat → Nat → Int64} (hM : MAt w b sc ia la) (e : Int32) : CT g 0 0 0 mi_Mo_isView [.ref b, .int e] w sz (rdE (some (.int (if 0 ≤ e ∧ e < sc 1 then 1 else 0))) w sz) := by
  refine CT.of (by decide) (Nat.le_of_ble_eq_true rfl) ?_
  refine v_iload_n (pc := 0) d_Mo_isView_0 rfl rfl ?_
  refine v_if_lt (pc := 1) (tgt := 16) d_Mo_isView_1 rfl (fun hc => ?_) (fun hc => ?_)
  · skip
    refine v_iconst (pc := 16) (v := nI 0) d_Mo_isView_16 rfl ?_
    exact v_zret (pc := 17) d_Mo_isView_17 rfl z01 (Nat.le_of_ble_eq_true rfl) (Nat.le_of_ble_eq_true rfl) ⟨zr0 (by rintro ⟨h1, h2⟩; simp only [Int32.lt_iff_toInt_lt, Int32.le_iff_toInt_le, Int32.toInt_zero] at *; omega), rfl, rfl⟩
  · skip
    refine v_iload_n (pc := 4) d_Mo_isView_4 rfl rfl ?_
    refine v_aload_n (pc := 5) d_Mo_isView_5 rfl rfl ?_
    refine v_get (pc := 6) d_Mo_isView_6 fl_Mo_7 hM.o rfl ?_
    refine v_icmp_ge (pc := 9) (tgt := 16) d_Mo_isView_9 rfl (fun hc => ?_) (fun hc => ?_)
    · skip
      refine v_iconst (pc := 16) (v := nI 0) d_Mo_isView_16 rfl ?_
      exact v_zret (pc := 17) d_Mo_isView_17 rfl z01 (Nat.le_of_ble_eq_true rfl) (Nat.le_of_ble_eq_true rfl) ⟨zr0 (by rintro ⟨h1, h2⟩; simp only [Int32.lt_iff_toInt_lt, Int32.le_iff_toInt_le, Int32.toInt_zero] at *; omega), rfl, rfl⟩
    · skip
      refine v_iconst (pc := 12) (v := nI 1) d_Mo_isView_12 rfl ?_
      refine v_goto (pc := 13) (tgt := 17) d_Mo_isView_13 rfl ?_
      exact v_zret (pc := 17) d_Mo_isView_17 rfl z11 (Nat.le_of_ble_eq_true rfl) (Nat.le_of_ble_eq_true rfl) ⟨zr1 (by constructor <;> (simp only [Int32.lt_iff_toInt_lt, Int32.le_iff_toInt_le, Int32.toInt_zero] at *; omega)), rfl, rfl⟩
set_option maxRecDepth 100000 in
set_option maxHeartbeats 4000000 in
theorem c_Mo_cellOf (g : Gl) {w : Wd} {b sz : Nat} {sc : Nat → Int32} {ia : Nat → Nat → Int32} {la : Nat → Nat → Int64} (hM : MAt w b sc ia la) {k r c : Nat} (h : 4 * (16 * k + r) + c < 1536) : CT g 0 0 0 mi_Mo_cellOf [.ref b, .int (nI k), .int (nI r), .int (nI c)] w sz (rdE (some (.int (ia 10 (4 * (16 * k + r) + c)))) w sz) := by
  refine CT.of (by decide) (Nat.le_of_ble_eq_true rfl) ?_
  refine v_aload_n (pc := 0) d_Mo_cellOf_0 rfl rfl ?_
  refine v_get (pc := 1) d_Mo_cellOf_1 fl_Mo_45 hM.o rfl ?_
  refine v_iconst (pc := 4) (v := nI 4) d_Mo_cellOf_4 rfl ?_
  refine v_bipush (pc := 5) (v := nI 16) d_Mo_cellOf_5 rfl ?_
  refine v_iload_n (pc := 7) d_Mo_cellOf_7 rfl rfl ?_
  refine v_imul (pc := 8) d_Mo_cellOf_8 ?_
  refine v_re (pk_mul 16 k) ?_
  refine v_iload_n (pc := 9) d_Mo_cellOf_9 rfl rfl ?_
  refine v_iadd (pc := 10) d_Mo_cellOf_10 ?_
  refine v_re (nI_add (16 * k) r) ?_
  refine v_imul (pc := 11) d_Mo_cellOf_11 ?_
  refine v_re (pk_mul 4 ((16 * k) + r)) ?_
  refine v_iload_n (pc := 12) d_Mo_cellOf_12 rfl rfl ?_
  refine v_iadd (pc := 13) d_Mo_cellOf_13 ?_
  refine v_re (nI_add (4 * ((16 * k) + r)) c) ?_
  refine v_ialdN (pc := 14) (k := (4 * ((16 * k) + r)) + c) (f := ia 10) d_Mo_cellOf_14 hM.a10 rfl (by omega) (by decide) ?_
  exact v_iret (pc := 15) d_Mo_cellOf_15 rfl (Nat.le_of_ble_eq_true rfl) (Nat.le_of_ble_eq_true rfl) ⟨rfl, rfl, rfl⟩
set_option maxRecDepth 100000 in
set_option maxHeartbeats 4000000 in
theorem lp_Mo_isRow (g : Gl) {w : Wd} {b sz : Nat} {sc : Nat → Int32} {ia : Nat → Nat → Int32} {la : Nat → Nat → Int64} (hM : MAt w b sc ia la) {r wd : Nat} (hr : r < 256) (hwd : wd ≤ 4) {E : Rs → Wd → Nat → Prop} (hE : E (.inl (some (.int (if ar_row (ia 12) wd (4 * r) = ar_row (ia 13) wd 0 then 1 else 0)))) w sz) : ∀ (zz : Nat) (c : Nat), wd - c = zz → c ≤ wd → VV g 0 0 0 mi_Mo_isRow w sz E 5 [(4, .int (nI c)), (3, .int (if ar_row (ia 12) c (4 * r) = ar_row (ia 13) c 0 then 1 else 0)), (0, .ref b), (1, .int (nI r)), (2, .int (nI wd))] [] w sz 0 0 := by
  intro zz
  induction zz using Nat.strongRecOn with | _ zz ih => _
  intro c hn hcw
  refine v_iload (pc := 5) d_Mo_isRow_5 rfl ?_
  refine v_iload_n (pc := 7) d_Mo_isRow_7 rfl rfl ?_
  refine v_icmp_ge (pc := 8) (tgt := 48) d_Mo_isRow_8 rfl (fun hc => ?_) (fun hc => ?_)
  · skip
    rw [nI_leI (by omega) (by omega)] at hc
    obtain rfl : c = wd := by omega
    refine v_iload_n (pc := 48) d_Mo_isRow_48 rfl rfl ?_
    exact v_zret (pc := 49) d_Mo_isRow_49 rfl zb (Nat.le_of_ble_eq_true rfl) (Nat.le_of_ble_eq_true rfl) hE
  · skip
    rw [nI_leI (by omega) (by omega)] at hc
    refine v_iload_n (pc := 11) d_Mo_isRow_11 rfl rfl ?_
    refine v_if_eq (pc := 12) (tgt := 40) d_Mo_isRow_12 rfl (fun hc => ?_) (fun hc => ?_)
    · skip
      rw [zf] at hc
      have hcc : ¬ ar_row (ia 12) c (4 * r) = ar_row (ia 13) c 0 ∨ ¬ ia 12 (4 * r + c) = ia 13 c := Or.inl hc
      refine v_iconst (pc := 40) (v := nI 0) d_Mo_isRow_40 rfl ?_
      refine v_re (y := (if ar_row (ia 12) (c + 1) (4 * r) = ar_row (ia 13) (c + 1) 0 then 1 else 0)) (zb0 (by intro h9; have h8 := ar_row_inj h9; rcases hcc with hcc | hcc; exact hcc (ar_row_congr (fun j hj => h8 j (by omega))); have h7 := h8 c (by omega); rw [Nat.zero_add] at h7; exact hcc h7)) ?_
      refine v_istore_n (pc := 41) (L' := [(3, .int (if ar_row (ia 12) (c + 1) (4 * r) = ar_row (ia 13) (c + 1) 0 then 1 else 0)), (4, .int (nI c)), (0, .ref b), (1, .int (nI r)), (2, .int (nI wd))]) d_Mo_isRow_41 rfl (by decide) rfl ?_
      refine v_iinc (pc := 42) (L' := [(4, .int (nI (c + 1))), (3, .int (if ar_row (ia 12) (c + 1) (4 * r) = ar_row (ia 13) (c + 1) 0 then 1 else 0)), (0, .ref b), (1, .int (nI r)), (2, .int (nI wd))]) d_Mo_isRow_42 rfl (ix_inc _) (by decide) rfl ?_
      refine v_goto (pc := 45) (tgt := 5) d_Mo_isRow_45 rfl ?_
      refine v_sub (L' := [(4, .int (nI (c + 1))), (3, .int (if ar_row (ia 12) (c + 1) (4 * r) = ar_row (ia 13) (c + 1) 0 then 1 else 0)), (0, .ref b), (1, .int (nI r)), (2, .int (nI wd))]) (by simp) ?_
      exact ih (wd - (c + 1)) (by omega) (c + 1) rfl (by omega)
    · skip
      rw [zt] at hc
      have h1 := hc
      refine v_aload_n (pc := 15) d_Mo_isRow_15 rfl rfl ?_
      refine v_get (pc := 16) d_Mo_isRow_16 fl_Mo_51 hM.o rfl ?_
      refine v_iconst (pc := 19) (v := nI 4) d_Mo_isRow_19 rfl ?_
      refine v_iload_n (pc := 20) d_Mo_isRow_20 rfl rfl ?_
      refine v_imul (pc := 21) d_Mo_isRow_21 ?_
      refine v_re (pk_mul 4 r) ?_
      refine v_iload (pc := 22) d_Mo_isRow_22 rfl ?_
      refine v_iadd (pc := 24) d_Mo_isRow_24 ?_
      refine v_re (nI_add (4 * r) c) ?_
      refine v_ialdN (pc := 25) (k := (4 * r) + c) (f := ia 12) d_Mo_isRow_25 hM.a12 rfl (by omega) (by decide) ?_
      refine v_aload_n (pc := 26) d_Mo_isRow_26 rfl rfl ?_
      refine v_get (pc := 27) d_Mo_isRow_27 fl_Mo_54 hM.o rfl ?_
      refine v_iload (pc := 30) d_Mo_isRow_30 rfl ?_
      refine v_ialdN (pc := 32) (k := c) (f := ia 13) d_Mo_isRow_32 hM.a13 rfl (by omega) (by decide) ?_
      refine v_icmp_ne (pc := 33) (tgt := 40) d_Mo_isRow_33 rfl (fun hc => ?_) (fun hc => ?_)
      · skip
        have hcc : ¬ ar_row (ia 12) c (4 * r) = ar_row (ia 13) c 0 ∨ ¬ ia 12 (4 * r + c) = ia 13 c := Or.inr hc
        refine v_iconst (pc := 40) (v := nI 0) d_Mo_isRow_40 rfl ?_
        refine v_re (y := (if ar_row (ia 12) (c + 1) (4 * r) = ar_row (ia 13) (c + 1) 0 then 1 else 0)) (zb0 (by intro h9; have h8 := ar_row_inj h9; rcases hcc with hcc | hcc; exact hcc (ar_row_congr (fun j hj => h8 j (by omega))); have h7 := h8 c (by omega); rw [Nat.zero_add] at h7; exact hcc h7)) ?_
        refine v_istore_n (pc := 41) (L' := [(3, .int (if ar_row (ia 12) (c + 1) (4 * r) = ar_row (ia 13) (c + 1) 0 then 1 else 0)), (4, .int (nI c)), (0, .ref b), (1, .int (nI r)), (2, .int (nI wd))]) d_Mo_isRow_41 rfl (by decide) rfl ?_
        refine v_iinc (pc := 42) (L' := [(4, .int (nI (c + 1))), (3, .int (if ar_row (ia 12) (c + 1) (4 * r) = ar_row (ia 13) (c + 1) 0 then 1 else 0)), (0, .ref b), (1, .int (nI r)), (2, .int (nI wd))]) d_Mo_isRow_42 rfl (ix_inc _) (by decide) rfl ?_
        refine v_goto (pc := 45) (tgt := 5) d_Mo_isRow_45 rfl ?_
        refine v_sub (L' := [(4, .int (nI (c + 1))), (3, .int (if ar_row (ia 12) (c + 1) (4 * r) = ar_row (ia 13) (c + 1) 0 then 1 else 0)), (0, .ref b), (1, .int (nI r)), (2, .int (nI wd))]) (by simp) ?_
        exact ih (wd - (c + 1)) (by omega) (c + 1) rfl (by omega)
      · skip
        have hc : ia 12 (4 * r + c) = ia 13 c := by simpa using hc
        refine v_iconst (pc := 36) (v := nI 1) d_Mo_isRow_36 rfl ?_
        refine v_goto (pc := 37) (tgt := 41) d_Mo_isRow_37 rfl ?_
        refine v_re (y := (if ar_row (ia 12) (c + 1) (4 * r) = ar_row (ia 13) (c + 1) 0 then 1 else 0)) (zb1 (by rw [ar_row_snoc, ar_row_snoc, h1]; congr 2; rw [Nat.zero_add]; exact hc)) ?_
        refine v_istore_n (pc := 41) (L' := [(3, .int (if ar_row (ia 12) (c + 1) (4 * r) = ar_row (ia 13) (c + 1) 0 then 1 else 0)), (4, .int (nI c)), (0, .ref b), (1, .int (nI r)), (2, .int (nI wd))]) d_Mo_isRow_41 rfl (by decide) rfl ?_
        refine v_iinc (pc := 42) (L' := [(4, .int (nI (c + 1))), (3, .int (if ar_row (ia 12) (c + 1) (4 * r) = ar_row (ia 13) (c + 1) 0 then 1 else 0)), (0, .ref b), (1, .int (nI r)), (2, .int (nI wd))]) d_Mo_isRow_42 rfl (ix_inc _) (by decide) rfl ?_
        refine v_goto (pc := 45) (tgt := 5) d_Mo_isRow_45 rfl ?_
        refine v_sub (L' := [(4, .int (nI (c + 1))), (3, .int (if ar_row (ia 12) (c + 1) (4 * r) = ar_row (ia 13) (c + 1) 0 then 1 else 0)), (0, .ref b), (1, .int (nI r)), (2, .int (nI wd))]) (by simp) ?_
        exact ih (wd - (c + 1)) (by omega) (c + 1) rfl (by omega)
set_option maxRecDepth 100000 in
set_option maxHeartbeats 4000000 in
theorem c_Mo_isRow (g : Gl) {w : Wd} {b sz : Nat} {sc : Nat → Int32} {ia : Nat → Nat → Int32} {la : Nat → Nat → Int64} (hM : MAt w b sc ia la) {r wd : Nat} (hr : r < 256) (hwd : wd ≤ 4) : CT g 0 0 0 mi_Mo_isRow [.ref b, .int (nI r), .int (nI wd)] w sz (rdE (some (.int (if ar_row (ia 12) wd (4 * r) = ar_row (ia 13) wd 0 then 1 else 0))) w sz) := by
  refine CT.of (by decide) (Nat.le_of_ble_eq_true rfl) ?_
  refine v_iconst (pc := 0) (v := nI 1) d_Mo_isRow_0 rfl ?_
  refine v_re (y := (if ar_row (ia 12) 0 (4 * r) = ar_row (ia 13) 0 0 then 1 else 0)) (zb1 rfl) ?_
  refine v_istore_n (pc := 1) (L' := [(3, .int (if ar_row (ia 12) 0 (4 * r) = ar_row (ia 13) 0 0 then 1 else 0)), (0, .ref b), (1, .int (nI r)), (2, .int (nI wd))]) d_Mo_isRow_1 rfl (by decide) rfl ?_
  refine v_iconst (pc := 2) (v := nI 0) d_Mo_isRow_2 rfl ?_
  refine v_istore (pc := 3) (L' := [(4, .int (nI 0)), (3, .int (if ar_row (ia 12) 0 (4 * r) = ar_row (ia 13) 0 0 then 1 else 0)), (0, .ref b), (1, .int (nI r)), (2, .int (nI wd))]) d_Mo_isRow_3 (by decide) rfl ?_
  refine v_sub (L' := [(4, .int (nI 0)), (3, .int (if ar_row (ia 12) 0 (4 * r) = ar_row (ia 13) 0 0 then 1 else 0)), (0, .ref b), (1, .int (nI r)), (2, .int (nI wd))]) (by simp) ?_
  exact lp_Mo_isRow g hM hr hwd ⟨rfl, rfl, rfl⟩ wd 0 rfl (by omega)
end
section
/-! gathering -/
theorem va_id {α : Type} (f : Nat → α) (k : Nat) : va_up f k (f k) = f := by
  funext j
  by_cases h : j = k
  · subst h; exact va_up_self _ _ _
  · exact va_up_ne _ _ h
theorem ma_g_hit {q : List Int32} {k k0 : Int64} : ∀ {b : MaB} {i : Nat}, (∀ j x, j < i → b[j]? = some x → x.1 ≠ q) → b[i]? = some (q, k0) → ma_g b q k = b.set i (q, k0 + k)
  | [], _, _, h => by simp at h
  | (r, m) :: t, 0, _, h => by
    have e : (r, m) = (q, k0) := by simpa using h
    cases e
    simp [ma_g]
  | (r, m) :: t, i + 1, h1, h => by
    have hr : r ≠ q := h1 0 (r, m) (by omega) rfl
    simp only [ma_g, if_neg hr, List.set_cons_succ]
    rw [ma_g_hit (i := i) (fun j x hj hx => h1 (j + 1) x (by omega) (by simpa using hx)) (by simpa using h)]
theorem ma_g_miss {q : List Int32} {k : Int64} : ∀ {b : MaB}, (∀ x ∈ b, x.1 ≠ q) → ma_g b q k = b ++ [(q, k)]
  | [], _ => rfl
  | (r, m) :: t, h => by
    have hr : r ≠ q := h (r, m) List.mem_cons_self
    simp only [ma_g, if_neg hr, List.cons_append]
    rw [ma_g_miss (fun x hx => h x (List.mem_cons_of_mem _ hx))]
theorem ar_bag_set {f : Nat → Int32} {m : Nat → Int64} {w o n i : Nat} {x : Int64} (hi : i < n) : (ar_bag f m w o n).set i (ar_row f w (4 * (o + i)), x) = ar_bag f (vp_updL m (o + i) x) w o n := by
  apply ar_ext (by rw [List.length_set, ar_bag_len])
  intro r hr
  rw [List.getElem?_set]
  by_cases h : i = r
  · subst h
    rw [if_pos rfl, if_pos (by rw [ar_bag_len]; exact hi), pk_uLs]
  · rw [if_neg h, ar_bag_get hr, pk_uLn (by omega)]
theorem ar_bag_new {f f1 : Nat → Int32} {m : Nat → Int64} {w o n : Nat} {x : Int64} {q : List Int32} (hw : w ≤ 4) (h1 : ∀ i, i < 4 * (o + n) → f1 i = f i) (h2 : ar_row f1 w (4 * (o + n)) = q) : ar_bag f1 (vp_updL m (o + n) x) w o (n + 1) = ar_bag f m w o n ++ [(q, x)] := by
  rw [ar_bag_snoc, h2, pk_uLs]
  congr 1
  refine ar_bag_congr (fun r hr c hc => h1 _ (by omega)) (fun r hr => pk_uLn (by omega))
def mo_gp (w : Wd) (b : Nat) (sc : Nat → Int32) (ia : Nat → Nat → Int32) (la : Nat → Nat → Int64) (n wd : Nat) (many : Int64) (w' : Wd) : Prop := ∃ sc' ia' la', MAt w' b sc' ia' la' ∧ mo_fr b w w' ∧ (∀ j, j ≠ 2 → sc' j = sc j) ∧ (∀ k, k ≠ 12 → ia' k = ia k) ∧ (∀ k, k ≠ 11 → la' k = la k) ∧ ∃ n', sc' 2 = nI n' ∧ n' ≤ n + 1 ∧ ar_bag (ia' 12) (la' 11) wd 0 n' = ma_g (ar_bag (ia 12) (la 11) wd 0 n) (ar_row (ia 13) wd 0) many
set_option maxRecDepth 100000 in
set_option maxHeartbeats 4000000 in
theorem lp2_Mo_gather (g : Gl) {w : Wd} {b sz : Nat} {sc : Nat → Int32} {ia : Nat → Nat → Int32} {la : Nat → Nat → Int64} (hM : MAt w b sc ia la) {n wd : Nat} {many : Int64} (hg : sc 2 = nI n) (hn : n < 256) (hwd : wd ≤ 4) (hno : ∀ x ∈ ar_bag (ia 12) (la 11) wd 0 n, x.1 ≠ ar_row (ia 13) wd 0) {E : Rs → Wd → Nat → Prop} (hE : ∀ w', mo_gp w b sc ia la n wd many w' → E (.inl none) w' sz) : ∀ (zz : Nat) (c : Nat) (w1 : Wd) (f1 : Nat → Int32), 4 - c = zz → c ≤ 4 → MAt w1 b sc (va_up ia 12 f1) la → mo_fr b w w1 → (∀ j, j < c → f1 (4 * n + j) = ia 13 j) → (∀ i, i < 4 * n → f1 i = ia 12 i) → VV g 1 0 0 mi_Mo_gather w sz E 43 [(4, .int (nI c)), (0, .ref b), (1, .int (nI wd)), (2, .long many)] [] w1 sz 0 0 := by
  intro zz
  induction zz using Nat.strongRecOn with | _ zz ih => _
  intro c w1 f1 hnn hc4 h1 h3 h4 h5
  refine v_iload (pc := 43) d_Mo_gather_43 rfl ?_
  refine v_iconst (pc := 45) (v := nI 4) d_Mo_gather_45 rfl ?_
  refine v_icmp_ge (pc := 46) (tgt := 76) d_Mo_gather_46 rfl (fun hc => ?_) (fun hc => ?_)
  · skip
    rw [nI_leI (by omega) (by omega)] at hc
    obtain rfl : c = 4 := by omega
    refine v_aload_n (pc := 76) d_Mo_gather_76 rfl rfl ?_
    refine v_get (pc := 77) d_Mo_gather_77 fl_Mo_48 h1.o rfl ?_
    refine v_aload_n (pc := 80) d_Mo_gather_80 rfl rfl ?_
    refine v_get (pc := 81) d_Mo_gather_81 fl_Mo_72 h1.o rfl ?_
    refine v_re hg ?_
    refine v_lload_n (pc := 84) d_Mo_gather_84 rfl rfl ?_
    refine v_lastW (pc := 85) (k := n) (f := la 11) d_Mo_gather_85 h1.a11 rfl (by omega) (by decide) (fun w2 hn2 hq2 => ?_)
    have h2 := h1.s11 hn2 hq2
    refine v_aload_n (pc := 86) d_Mo_gather_86 rfl rfl ?_
    refine v_dup (pc := 87) d_Mo_gather_87 rfl ?_
    refine v_get (pc := 88) d_Mo_gather_88 fl_Mo_72 h2.o rfl ?_
    refine v_re hg ?_
    refine v_iconst (pc := 91) (v := nI 1) d_Mo_gather_91 rfl ?_
    refine v_iadd (pc := 92) d_Mo_gather_92 ?_
    refine v_re (nI_add n 1) ?_
    refine v_putW (pc := 93) (fs' := mo_fs b (va_up sc 2 (nI (n + 1)))) d_Mo_gather_93 fl_Mo_72 (fi_Mo_72 _) (ok_Mo_13 _) h2.o (Nat.le_of_ble_eq_true rfl) rfl (fun w3 hn3 hq3 => ?_)
    have h6 := h2.n2 hn3 hq3
    exact v_vret (pc := 96) d_Mo_gather_96 rfl (Nat.le_of_ble_eq_true rfl) (Nat.le_of_ble_eq_true rfl) (hE w3 ⟨_, _, _, h6, (h3.at ⟨by omega, by omega⟩ hq2).at ⟨by omega, by omega⟩ hq3, fun j hj => va_up_ne _ _ hj, fun k hk => va_up_ne _ _ hk, fun k hk => va_up_ne _ _ hk, n + 1, rfl, Nat.le_refl _, by
      rw [ma_g_miss hno]
      have h9 := ar_bag_new (f := ia 12) (f1 := f1) (m := la 11) (w := wd) (o := 0) (n := n) (x := many) (q := ar_row (ia 13) wd 0) hwd (fun i hi => h5 i (by omega)) (ar_row_congr (fun j hj => by have h8 := h4 j (by omega); rw [Nat.zero_add, Nat.zero_add]; exact h8))
      rw [Nat.zero_add] at h9
      exact h9⟩)
  · skip
    rw [nI_leI (by omega) (by omega)] at hc
    refine v_aload_n (pc := 49) d_Mo_gather_49 rfl rfl ?_
    refine v_get (pc := 50) d_Mo_gather_50 fl_Mo_51 h1.o rfl ?_
    refine v_iconst (pc := 53) (v := nI 4) d_Mo_gather_53 rfl ?_
    refine v_aload_n (pc := 54) d_Mo_gather_54 rfl rfl ?_
    refine v_get (pc := 55) d_Mo_gather_55 fl_Mo_72 h1.o rfl ?_
    refine v_re hg ?_
    refine v_imul (pc := 58) d_Mo_gather_58 ?_
    refine v_re (pk_mul 4 n) ?_
    refine v_iload (pc := 59) d_Mo_gather_59 rfl ?_
    refine v_iadd (pc := 61) d_Mo_gather_61 ?_
    refine v_re (nI_add (4 * n) c) ?_
    refine v_aload_n (pc := 62) d_Mo_gather_62 rfl rfl ?_
    refine v_get (pc := 63) d_Mo_gather_63 fl_Mo_54 h1.o rfl ?_
    refine v_iload (pc := 66) d_Mo_gather_66 rfl ?_
    refine v_ialdN (pc := 68) (k := c) (f := ia 13) d_Mo_gather_68 h1.a13 rfl (by omega) (by decide) ?_
    refine v_iastW (pc := 69) (k := (4 * n) + c) (f := f1) d_Mo_gather_69 h1.a12 rfl (by omega) (by decide) (fun w2 hn2 hq2 => ?_)
    have h2 := h1.s12 hn2 hq2
    rw [bx_uu] at h2
    refine v_iinc (pc := 70) (L' := [(4, .int (nI (c + 1))), (0, .ref b), (1, .int (nI wd)), (2, .long many)]) d_Mo_gather_70 rfl (ix_inc _) (by decide) rfl ?_
    refine v_goto (pc := 73) (tgt := 43) d_Mo_gather_73 rfl ?_
    refine v_sub (L' := [(4, .int (nI (c + 1))), (0, .ref b), (1, .int (nI wd)), (2, .long many)]) (by simp) ?_
    exact ih (4 - (c + 1)) (by omega) (c + 1) w2 (upd f1 (4 * n + c) (ia 13 c)) rfl (by omega) h2 (h3.at ⟨by omega, by omega⟩ hq2) (fun j hj => by by_cases hjc : j = c; (subst hjc; exact pk_us); (rw [pk_un (by omega)]; exact h4 j (by omega))) (fun i hi => by rw [pk_un (by omega)]; exact h5 i hi)
set_option maxRecDepth 100000 in
set_option maxHeartbeats 4000000 in
theorem lp1_Mo_gather (g : Gl) {w : Wd} {b sz : Nat} {sc : Nat → Int32} {ia : Nat → Nat → Int32} {la : Nat → Nat → Int64} (hM : MAt w b sc ia la) {n wd : Nat} {many : Int64} (hg : sc 2 = nI n) (hn : n < 256) (hwd : wd ≤ 4) {E : Rs → Wd → Nat → Prop} (hE : ∀ w', mo_gp w b sc ia la n wd many w' → E (.inl none) w' sz) : ∀ (zz : Nat) (r : Nat), n - r = zz → r ≤ n → (∀ j, j < r → ¬ ar_row (ia 12) wd (4 * j) = ar_row (ia 13) wd 0) → VV g 1 0 0 mi_Mo_gather w sz E 3 [(4, .int (nI r)), (0, .ref b), (1, .int (nI wd)), (2, .long many)] [] w sz 0 0 := by
  intro zz
  induction zz using Nat.strongRecOn with | _ zz ih => _
  intro r hnn hrn hsk
  refine v_iload (pc := 3) d_Mo_gather_3 rfl ?_
  refine v_aload_n (pc := 5) d_Mo_gather_5 rfl rfl ?_
  refine v_get (pc := 6) d_Mo_gather_6 fl_Mo_72 hM.o rfl ?_
  refine v_re hg ?_
  refine v_icmp_ge (pc := 9) (tgt := 40) d_Mo_gather_9 rfl (fun hc => ?_) (fun hc => ?_)
  · skip
    rw [nI_leI (by omega) (by omega)] at hc
    refine v_iconst (pc := 40) (v := nI 0) d_Mo_gather_40 rfl ?_
    refine v_istore (pc := 41) (L' := [(4, .int (nI 0)), (0, .ref b), (1, .int (nI wd)), (2, .long many)]) d_Mo_gather_41 (by decide) rfl ?_
    refine v_sub (L' := [(4, .int (nI 0)), (0, .ref b), (1, .int (nI wd)), (2, .long many)]) (by simp) ?_
    exact lp2_Mo_gather g hM hg hn hwd (fun x hx => by obtain ⟨j, hj, rfl⟩ := ar_bag_mem hx; rw [Nat.zero_add]; exact hsk j (by omega)) hE 4 0 w (ia 12) rfl (by omega) (by rw [va_id]; exact hM) mo_fr.rf (fun j hj => absurd hj (Nat.not_lt_zero _)) (fun i _ => rfl)
  · skip
    rw [nI_leI (by omega) (by omega)] at hc
    refine v_aload_n (pc := 12) d_Mo_gather_12 rfl rfl ?_
    refine v_iload (pc := 13) d_Mo_gather_13 rfl ?_
    refine v_iload_n (pc := 15) d_Mo_gather_15 rfl rfl ?_
    refine v_cvR (pc := 16) (A := [.int (nI r), .int (nI wd)]) (rest := []) (x := .int (if ar_row (ia 12) wd (4 * r) = ar_row (ia 13) wd 0 then 1 else 0)) d_Mo_gather_16 lk_Mo_75 me_Mo_isRow im_Mo_isRow se_Mo_isRow rfl hM.o rfl rfl (c_Mo_isRow g hM (r := r) (wd := wd) (by omega) hwd) (Nat.le_of_ble_eq_true rfl) (Nat.le_of_ble_eq_true rfl) (Nat.le_of_ble_eq_true rfl) (Nat.le_of_ble_eq_true rfl) ?_
    refine v_if_eq (pc := 19) (tgt := 34) d_Mo_gather_19 rfl (fun hc => ?_) (fun hc => ?_)
    · skip
      rw [zf] at hc
      refine v_iinc (pc := 34) (L' := [(4, .int (nI (r + 1))), (0, .ref b), (1, .int (nI wd)), (2, .long many)]) d_Mo_gather_34 rfl (ix_inc _) (by decide) rfl ?_
      refine v_goto (pc := 37) (tgt := 3) d_Mo_gather_37 rfl ?_
      refine v_sub (L' := [(4, .int (nI (r + 1))), (0, .ref b), (1, .int (nI wd)), (2, .long many)]) (by simp) ?_
      exact ih (n - (r + 1)) (by omega) (r + 1) rfl (by omega) (fun j hj => by by_cases hjr : j = r; (subst hjr; exact hc); exact hsk j (by omega))
    · skip
      rw [zt] at hc
      refine v_aload_n (pc := 22) d_Mo_gather_22 rfl rfl ?_
      refine v_get (pc := 23) d_Mo_gather_23 fl_Mo_48 hM.o rfl ?_
      refine v_iload (pc := 26) d_Mo_gather_26 rfl ?_
      refine v_dup2 (pc := 28) d_Mo_gather_28 rfl rfl ?_
      refine v_laldN (pc := 29) (k := r) (f := la 11) d_Mo_gather_29 hM.a11 rfl (by omega) (by decide) ?_
      refine v_lload_n (pc := 30) d_Mo_gather_30 rfl rfl ?_
      refine v_ladd (pc := 31) d_Mo_gather_31 ?_
      refine v_lastW (pc := 32) (k := r) (f := la 11) d_Mo_gather_32 hM.a11 rfl (by omega) (by decide) (fun w2 hn2 hq2 => ?_)
      have h2 := hM.s11 hn2 hq2
      exact v_vret (pc := 33) d_Mo_gather_33 rfl (Nat.le_of_ble_eq_true rfl) (Nat.le_of_ble_eq_true rfl) (hE w2 ⟨_, _, _, h2, mo_fr.rf.at ⟨by omega, by omega⟩ hq2, fun j _ => rfl, fun k _ => rfl, fun k hk => va_up_ne _ _ hk, n, hg, by omega, by
      rw [ma_g_hit (i := r) (k0 := la 11 r) (fun j x hj hx => by rw [ar_bag_get (by omega)] at hx; cases hx; rw [Nat.zero_add]; exact hsk j hj) (by rw [ar_bag_get (by omega), Nat.zero_add, hc])]
      have h9 := ar_bag_set (f := ia 12) (m := la 11) (w := wd) (o := 0) (n := n) (i := r) (x := la 11 r + many) (by omega)
      rw [Nat.zero_add, hc] at h9
      exact h9.symm⟩)
set_option maxRecDepth 100000 in
set_option maxHeartbeats 4000000 in
theorem c_Mo_gather (g : Gl) {w : Wd} {b sz : Nat} {sc : Nat → Int32} {ia : Nat → Nat → Int32} {la : Nat → Nat → Int64} (hM : MAt w b sc ia la) {n wd : Nat} {many : Int64} (hg : sc 2 = nI n) (hn : n < 256) (hwd : wd ≤ 4) : CT g 1 0 0 mi_Mo_gather [.ref b, .int (nI wd), .long many] w sz (wrE none sz (mo_gp w b sc ia la n wd many)) := by
  refine CT.of (by decide) (Nat.le_of_ble_eq_true rfl) ?_
  refine v_iconst (pc := 0) (v := nI 0) d_Mo_gather_0 rfl ?_
  refine v_istore (pc := 1) (L' := [(4, .int (nI 0)), (0, .ref b), (1, .int (nI wd)), (2, .long many)]) d_Mo_gather_1 (by decide) rfl ?_
  refine v_sub (L' := [(4, .int (nI 0)), (0, .ref b), (1, .int (nI wd)), (2, .long many)]) (by simp) ?_
  exact lp1_Mo_gather g hM hg hn hwd (fun w' h => ⟨rfl, rfl, h⟩) n 0 rfl (by omega) (fun j hj => absurd hj (Nat.not_lt_zero _))
end
section
/-! comparing, taking -/
theorem ar_row_cmp {f g : Nat → Int32} {n a b c : Nat} (hc : c < n) (he : ∀ j, j < c → f (a + j) = g (b + j)) (hs : c + 1 = n ∨ f (a + c) ≠ g (b + c)) : ma_lt (ar_row f n a) (ar_row g n b) = true ↔ f (a + c) < g (b + c) := by
  constructor
  · intro h
    rcases ma_i32_tri (f (a + c)) (g (b + c)) with h1 | h1 | h1
    · exact h1
    · rcases hs with hs | hs
      · have : ar_row f n a = ar_row g n b := ar_row_congr (fun j hj => by
          by_cases hjc : j = c
          · subst hjc; exact h1
          · exact he j (by omega))
        rw [this, ma_lt_irr] at h
        cases h
      · exact absurd h1 hs
    · have h2 := ar_row_lt (n := n) hc h1 (fun j hj => (he j hj).symm)
      rw [ma_lt_asym h2] at h
      cases h
  · intro h
    exact ar_row_lt hc h he
set_option maxRecDepth 100000 in
set_option maxHeartbeats 4000000 in
theorem lp_Mo_comesBefore (g : Gl) {w : Wd} {b sz : Nat} {sc : Nat → Int32} {ia : Nat → Nat → Int32} {la : Nat → Nat → Int64} (hM : MAt w b sc ia la) {r s wd : Nat} (hr : r < 256) (hs : s < 256) (hw1 : 1 ≤ wd) (hwd : wd ≤ 4) {E : Rs → Wd → Nat → Prop} (hE : E (.inl (some (.int (if ma_lt (ar_row (ia 12) wd (4 * r)) (ar_row (ia 12) wd (4 * s)) = true then 1 else 0)))) w sz) : ∀ (zz : Nat) (c : Nat), wd - 1 - c = zz → c ≤ wd - 1 → (∀ j, j < c → ia 12 (4 * r + j) = ia 12 (4 * s + j)) → VV g 0 0 0 mi_Mo_comesBefore w sz E 3 [(4, .int (nI c)), (0, .ref b), (1, .int (nI r)), (2, .int (nI s)), (3, .int (nI wd))] [] w sz 0 0 := by
  intro zz
  induction zz using Nat.strongRecOn with | _ zz ih => _
  intro c hn hcw heq
  refine v_iload (pc := 3) d_Mo_comesBefore_3 rfl ?_
  refine v_iload_n (pc := 5) d_Mo_comesBefore_5 rfl rfl ?_
  refine v_iconst (pc := 6) (v := nI 1) d_Mo_comesBefore_6 rfl ?_
  refine v_isub (pc := 7) d_Mo_comesBefore_7 ?_
  refine v_re (pk_sub (a := wd) (b := 1) (by omega)) ?_
  refine v_icmp_ge (pc := 8) (tgt := 42) d_Mo_comesBefore_8 rfl (fun hc => ?_) (fun hc => ?_)
  · skip
    rw [nI_leI (by omega) (by omega)] at hc
    have hst : c + 1 = wd ∨ ia 12 (4 * r + c) ≠ ia 12 (4 * s + c) := Or.inl (by omega)
    refine v_aload_n (pc := 42) d_Mo_comesBefore_42 rfl rfl ?_
    refine v_get (pc := 43) d_Mo_comesBefore_43 fl_Mo_51 hM.o rfl ?_
    refine v_iconst (pc := 46) (v := nI 4) d_Mo_comesBefore_46 rfl ?_
    refine v_iload_n (pc := 47) d_Mo_comesBefore_47 rfl rfl ?_
    refine v_imul (pc := 48) d_Mo_comesBefore_48 ?_
    refine v_re (pk_mul 4 r) ?_
    refine v_iload (pc := 49) d_Mo_comesBefore_49 rfl ?_
    refine v_iadd (pc := 51) d_Mo_comesBefore_51 ?_
    refine v_re (nI_add (4 * r) c) ?_
    refine v_ialdN (pc := 52) (k := (4 * r) + c) (f := ia 12) d_Mo_comesBefore_52 hM.a12 rfl (by omega) (by decide) ?_
    refine v_aload_n (pc := 53) d_Mo_comesBefore_53 rfl rfl ?_
    refine v_get (pc := 54) d_Mo_comesBefore_54 fl_Mo_51 hM.o rfl ?_
    refine v_iconst (pc := 57) (v := nI 4) d_Mo_comesBefore_57 rfl ?_
    refine v_iload_n (pc := 58) d_Mo_comesBefore_58 rfl rfl ?_
    refine v_imul (pc := 59) d_Mo_comesBefore_59 ?_
    refine v_re (pk_mul 4 s) ?_
    refine v_iload (pc := 60) d_Mo_comesBefore_60 rfl ?_
    refine v_iadd (pc := 62) d_Mo_comesBefore_62 ?_
    refine v_re (nI_add (4 * s) c) ?_
    refine v_ialdN (pc := 63) (k := (4 * s) + c) (f := ia 12) d_Mo_comesBefore_63 hM.a12 rfl (by omega) (by decide) ?_
    refine v_icmp_ge (pc := 64) (tgt := 71) d_Mo_comesBefore_64 rfl (fun hc => ?_) (fun hc => ?_)
    · skip
      refine v_iconst (pc := 71) (v := nI 0) d_Mo_comesBefore_71 rfl ?_
      refine v_re (y := (if ma_lt (ar_row (ia 12) wd (4 * r)) (ar_row (ia 12) wd (4 * s)) = true then 1 else 0)) (zb0 (fun h9 => Int32.not_le.mpr ((ar_row_cmp (c := c) (by omega) heq hst).mp h9) hc)) ?_
      exact v_zret (pc := 72) d_Mo_comesBefore_72 rfl zb (Nat.le_of_ble_eq_true rfl) (Nat.le_of_ble_eq_true rfl) hE
    · skip
      refine v_iconst (pc := 67) (v := nI 1) d_Mo_comesBefore_67 rfl ?_
      refine v_goto (pc := 68) (tgt := 72) d_Mo_comesBefore_68 rfl ?_
      refine v_re (y := (if ma_lt (ar_row (ia 12) wd (4 * r)) (ar_row (ia 12) wd (4 * s)) = true then 1 else 0)) (zb1 ((ar_row_cmp (c := c) (by omega) heq hst).mpr (Int32.not_le.mp hc))) ?_
      exact v_zret (pc := 72) d_Mo_comesBefore_72 rfl zb (Nat.le_of_ble_eq_true rfl) (Nat.le_of_ble_eq_true rfl) hE
  · skip
    rw [nI_leI (by omega) (by omega)] at hc
    refine v_aload_n (pc := 11) d_Mo_comesBefore_11 rfl rfl ?_
    refine v_get (pc := 12) d_Mo_comesBefore_12 fl_Mo_51 hM.o rfl ?_
    refine v_iconst (pc := 15) (v := nI 4) d_Mo_comesBefore_15 rfl ?_
    refine v_iload_n (pc := 16) d_Mo_comesBefore_16 rfl rfl ?_
    refine v_imul (pc := 17) d_Mo_comesBefore_17 ?_
    refine v_re (pk_mul 4 r) ?_
    refine v_iload (pc := 18) d_Mo_comesBefore_18 rfl ?_
    refine v_iadd (pc := 20) d_Mo_comesBefore_20 ?_
    refine v_re (nI_add (4 * r) c) ?_
    refine v_ialdN (pc := 21) (k := (4 * r) + c) (f := ia 12) d_Mo_comesBefore_21 hM.a12 rfl (by omega) (by decide) ?_
    refine v_aload_n (pc := 22) d_Mo_comesBefore_22 rfl rfl ?_
    refine v_get (pc := 23) d_Mo_comesBefore_23 fl_Mo_51 hM.o rfl ?_
    refine v_iconst (pc := 26) (v := nI 4) d_Mo_comesBefore_26 rfl ?_
    refine v_iload_n (pc := 27) d_Mo_comesBefore_27 rfl rfl ?_
    refine v_imul (pc := 28) d_Mo_comesBefore_28 ?_
    refine v_re (pk_mul 4 s) ?_
    refine v_iload (pc := 29) d_Mo_comesBefore_29 rfl ?_
    refine v_iadd (pc := 31) d_Mo_comesBefore_31 ?_
    refine v_re (nI_add (4 * s) c) ?_
    refine v_ialdN (pc := 32) (k := (4 * s) + c) (f := ia 12) d_Mo_comesBefore_32 hM.a12 rfl (by omega) (by decide) ?_
    refine v_icmp_ne (pc := 33) (tgt := 42) d_Mo_comesBefore_33 rfl (fun hc => ?_) (fun hc => ?_)
    · skip
      have hst : c + 1 = wd ∨ ia 12 (4 * r + c) ≠ ia 12 (4 * s + c) := Or.inr hc
      refine v_aload_n (pc := 42) d_Mo_comesBefore_42 rfl rfl ?_
      refine v_get (pc := 43) d_Mo_comesBefore_43 fl_Mo_51 hM.o rfl ?_
      refine v_iconst (pc := 46) (v := nI 4) d_Mo_comesBefore_46 rfl ?_
      refine v_iload_n (pc := 47) d_Mo_comesBefore_47 rfl rfl ?_
      refine v_imul (pc := 48) d_Mo_comesBefore_48 ?_
      refine v_re (pk_mul 4 r) ?_
      refine v_iload (pc := 49) d_Mo_comesBefore_49 rfl ?_
      refine v_iadd (pc := 51) d_Mo_comesBefore_51 ?_
      refine v_re (nI_add (4 * r) c) ?_
      refine v_ialdN (pc := 52) (k := (4 * r) + c) (f := ia 12) d_Mo_comesBefore_52 hM.a12 rfl (by omega) (by decide) ?_
      refine v_aload_n (pc := 53) d_Mo_comesBefore_53 rfl rfl ?_
      refine v_get (pc := 54) d_Mo_comesBefore_54 fl_Mo_51 hM.o rfl ?_
      refine v_iconst (pc := 57) (v := nI 4) d_Mo_comesBefore_57 rfl ?_
      refine v_iload_n (pc := 58) d_Mo_comesBefore_58 rfl rfl ?_
      refine v_imul (pc := 59) d_Mo_comesBefore_59 ?_
      refine v_re (pk_mul 4 s) ?_
      refine v_iload (pc := 60) d_Mo_comesBefore_60 rfl ?_
      refine v_iadd (pc := 62) d_Mo_comesBefore_62 ?_
      refine v_re (nI_add (4 * s) c) ?_
      refine v_ialdN (pc := 63) (k := (4 * s) + c) (f := ia 12) d_Mo_comesBefore_63 hM.a12 rfl (by omega) (by decide) ?_
      refine v_icmp_ge (pc := 64) (tgt := 71) d_Mo_comesBefore_64 rfl (fun hc => ?_) (fun hc => ?_)
      · skip
        refine v_iconst (pc := 71) (v := nI 0) d_Mo_comesBefore_71 rfl ?_
        refine v_re (y := (if ma_lt (ar_row (ia 12) wd (4 * r)) (ar_row (ia 12) wd (4 * s)) = true then 1 else 0)) (zb0 (fun h9 => Int32.not_le.mpr ((ar_row_cmp (c := c) (by omega) heq hst).mp h9) hc)) ?_
        exact v_zret (pc := 72) d_Mo_comesBefore_72 rfl zb (Nat.le_of_ble_eq_true rfl) (Nat.le_of_ble_eq_true rfl) hE
      · skip
        refine v_iconst (pc := 67) (v := nI 1) d_Mo_comesBefore_67 rfl ?_
        refine v_goto (pc := 68) (tgt := 72) d_Mo_comesBefore_68 rfl ?_
        refine v_re (y := (if ma_lt (ar_row (ia 12) wd (4 * r)) (ar_row (ia 12) wd (4 * s)) = true then 1 else 0)) (zb1 ((ar_row_cmp (c := c) (by omega) heq hst).mpr (Int32.not_le.mp hc))) ?_
        exact v_zret (pc := 72) d_Mo_comesBefore_72 rfl zb (Nat.le_of_ble_eq_true rfl) (Nat.le_of_ble_eq_true rfl) hE
    · skip
      have hc : ia 12 (4 * r + c) = ia 12 (4 * s + c) := by simpa using hc
      refine v_iinc (pc := 36) (L' := [(4, .int (nI (c + 1))), (0, .ref b), (1, .int (nI r)), (2, .int (nI s)), (3, .int (nI wd))]) d_Mo_comesBefore_36 rfl (ix_inc _) (by decide) rfl ?_
      refine v_goto (pc := 39) (tgt := 3) d_Mo_comesBefore_39 rfl ?_
      refine v_sub (L' := [(4, .int (nI (c + 1))), (0, .ref b), (1, .int (nI r)), (2, .int (nI s)), (3, .int (nI wd))]) (by simp) ?_
      exact ih (wd - 1 - (c + 1)) (by omega) (c + 1) rfl (by omega) (fun j hj => by by_cases hjc : j = c; (subst hjc; exact hc); exact heq j (by omega))
set_option maxRecDepth 100000 in
set_option maxHeartbeats 4000000 in
theorem c_Mo_comesBefore (g : Gl) {w : Wd} {b sz : Nat} {sc : Nat → Int32} {ia : Nat → Nat → Int32} {la : Nat → Nat → Int64} (hM : MAt w b sc ia la) {r s wd : Nat} (hr : r < 256) (hs : s < 256) (hw1 : 1 ≤ wd) (hwd : wd ≤ 4) : CT g 0 0 0 mi_Mo_comesBefore [.ref b, .int (nI r), .int (nI s), .int (nI wd)] w sz (rdE (some (.int (if ma_lt (ar_row (ia 12) wd (4 * r)) (ar_row (ia 12) wd (4 * s)) = true then 1 else 0))) w sz) := by
  refine CT.of (by decide) (Nat.le_of_ble_eq_true rfl) ?_
  refine v_iconst (pc := 0) (v := nI 0) d_Mo_comesBefore_0 rfl ?_
  refine v_istore (pc := 1) (L' := [(4, .int (nI 0)), (0, .ref b), (1, .int (nI r)), (2, .int (nI s)), (3, .int (nI wd))]) d_Mo_comesBefore_1 (by decide) rfl ?_
  refine v_sub (L' := [(4, .int (nI 0)), (0, .ref b), (1, .int (nI r)), (2, .int (nI s)), (3, .int (nI wd))]) (by simp) ?_
  exact lp_Mo_comesBefore g hM hr hs hw1 hwd ⟨rfl, rfl, rfl⟩ (wd - 1) 0 rfl (by omega) (fun j hj => absurd hj (Nat.not_lt_zero _))
end
section
/-! taking, passing, settling -/
theorem lg0 {x y : Int64} : lg_cmp x y = 0 ↔ x = y := by
  unfold lg_cmp
  by_cases h1 : y < x
  · have : x ≠ y := fun h => by subst h; exact absurd h1 (by simp [Int64.lt_iff_toInt_lt])
    simp [h1, this]
  · by_cases h2 : x < y
    · have : x ≠ y := fun h => by subst h; exact absurd h2 (by simp [Int64.lt_iff_toInt_lt])
      simp [h1, h2, this]
    · have : x = y := by
        rw [Int64.lt_iff_toInt_lt] at h1 h2
        exact Int64.toInt_inj.mp (by omega)
      simp [h1, h2, this]
def ma_ps (c t n : Int32) : Bool := if t = 0 then decide (c < n) else if t = 1 then decide (c = n) else decide (n < c)
def mo_tp (w : Wd) (b : Nat) (sc : Nat → Int32) (ia : Nat → Nat → Int32) (la : Nat → Nat → Int64) (k r : Nat) (w' : Wd) : Prop := ∃ f, MAt w' b sc (va_up ia 13 f) la ∧ mo_fr b w w' ∧ ∀ c, c < 4 → f c = ia 10 (4 * (16 * k + r) + c)
set_option maxRecDepth 100000 in
set_option maxHeartbeats 4000000 in
theorem lp_Mo_take (g : Gl) {w : Wd} {b sz : Nat} {sc : Nat → Int32} {ia : Nat → Nat → Int32} {la : Nat → Nat → Int64} (hM : MAt w b sc ia la) {k r : Nat} (hk : 4 * (16 * k + r) + 3 < 1536) {E : Rs → Wd → Nat → Prop} (hE : ∀ w', mo_tp w b sc ia la k r w' → E (.inl none) w' sz) : ∀ (zz : Nat) (c : Nat) (w1 : Wd) (f1 : Nat → Int32), 4 - c = zz → c ≤ 4 → MAt w1 b sc (va_up ia 13 f1) la → mo_fr b w w1 → (∀ j, j < c → f1 j = ia 10 (4 * (16 * k + r) + j)) → VV g 1 0 0 mi_Mo_take w sz E 2 [(3, .int (nI c)), (0, .ref b), (1, .int (nI k)), (2, .int (nI r))] [] w1 sz 0 0 := by
  intro zz
  induction zz using Nat.strongRecOn with | _ zz ih => _
  intro c w1 f1 hnn hc4 h1 h3 h4
  refine v_iload_n (pc := 2) d_Mo_take_2 rfl rfl ?_
  refine v_iconst (pc := 3) (v := nI 4) d_Mo_take_3 rfl ?_
  refine v_icmp_ge (pc := 4) (tgt := 26) d_Mo_take_4 rfl (fun hc => ?_) (fun hc => ?_)
  · skip
    rw [nI_leI (by omega) (by omega)] at hc
    obtain rfl : c = 4 := by omega
    exact v_vret (pc := 26) d_Mo_take_26 rfl (Nat.le_of_ble_eq_true rfl) (Nat.le_of_ble_eq_true rfl) (hE w1 ⟨f1, h1, h3, h4⟩)
  · skip
    rw [nI_leI (by omega) (by omega)] at hc
    refine v_aload_n (pc := 7) d_Mo_take_7 rfl rfl ?_
    refine v_get (pc := 8) d_Mo_take_8 fl_Mo_54 h1.o rfl ?_
    refine v_iload_n (pc := 11) d_Mo_take_11 rfl rfl ?_
    refine v_aload_n (pc := 12) d_Mo_take_12 rfl rfl ?_
    refine v_iload_n (pc := 13) d_Mo_take_13 rfl rfl ?_
    refine v_iload_n (pc := 14) d_Mo_take_14 rfl rfl ?_
    refine v_iload_n (pc := 15) d_Mo_take_15 rfl rfl ?_
    refine v_cvR (pc := 16) (A := [.int (nI k), .int (nI r), .int (nI c)]) (rest := [.int (nI c), .ref (b + 14)]) (x := .int (ia 10 (4 * (16 * k + r) + c))) d_Mo_take_16 lk_Mo_83 me_Mo_cellOf im_Mo_cellOf se_Mo_cellOf rfl h1.o rfl rfl (c_Mo_cellOf g h1 (k := k) (r := r) (c := c) (by omega)) (Nat.le_of_ble_eq_true rfl) (Nat.le_of_ble_eq_true rfl) (Nat.le_of_ble_eq_true rfl) (Nat.le_of_ble_eq_true rfl) ?_
    refine v_iastW (pc := 19) (k := c) (f := f1) d_Mo_take_19 h1.a13 rfl (by omega) (by decide) (fun w2 hn2 hq2 => ?_)
    have h2 := h1.s13 hn2 hq2
    rw [bx_uu] at h2
    refine v_iinc (pc := 20) (L' := [(3, .int (nI (c + 1))), (0, .ref b), (1, .int (nI k)), (2, .int (nI r))]) d_Mo_take_20 rfl (ix_inc _) (by decide) rfl ?_
    refine v_goto (pc := 23) (tgt := 2) d_Mo_take_23 rfl ?_
    refine v_sub (L' := [(3, .int (nI (c + 1))), (0, .ref b), (1, .int (nI k)), (2, .int (nI r))]) (by simp) ?_
    exact ih (4 - (c + 1)) (by omega) (c + 1) w2 (upd f1 c (ia 10 (4 * (16 * k + r) + c))) rfl (by omega) h2 (h3.at ⟨by omega, by omega⟩ hq2) (fun j hj => by by_cases hjc : j = c; (subst hjc; exact pk_us); (rw [pk_un (by omega)]; exact h4 j (by omega)))
set_option maxRecDepth 100000 in
set_option maxHeartbeats 4000000 in
theorem c_Mo_take (g : Gl) {w : Wd} {b sz : Nat} {sc : Nat → Int32} {ia : Nat → Nat → Int32} {la : Nat → Nat → Int64} (hM : MAt w b sc ia la) {k r : Nat} (hk : 4 * (16 * k + r) + 3 < 1536) : CT g 1 0 0 mi_Mo_take [.ref b, .int (nI k), .int (nI r)] w sz (wrE none sz (mo_tp w b sc ia la k r)) := by
  refine CT.of (by decide) (Nat.le_of_ble_eq_true rfl) ?_
  refine v_iconst (pc := 0) (v := nI 0) d_Mo_take_0 rfl ?_
  refine v_istore_n (pc := 1) (L' := [(3, .int (nI 0)), (0, .ref b), (1, .int (nI k)), (2, .int (nI r))]) d_Mo_take_1 rfl (by decide) rfl ?_
  refine v_sub (L' := [(3, .int (nI 0)), (0, .ref b), (1, .int (nI k)), (2, .int (nI r))]) (by simp) ?_
  exact lp_Mo_take g hM hk (fun w' h => ⟨rfl, rfl, h⟩) 4 0 w (ia 13) rfl (by omega) (by rw [va_id]; exact hM) mo_fr.rf (fun j hj => absurd hj (Nat.not_lt_zero _))
set_option maxRecDepth 100000 in
set_option maxHeartbeats 4000000 in
theorem c_Mo_passes (g : Gl) {w : Wd} {sz : Nat} (c t x : Int32) : CT g 0 0 0 mi_Mo_passes [.int c, .int t, .int x] w sz (rdE (some (.int (if ma_ps c t x = true then 1 else 0))) w sz) := by
  refine CT.of (by decide) (Nat.le_of_ble_eq_true rfl) ?_
  refine v_iload_n (pc := 0) d_Mo_passes_0 rfl rfl ?_
  refine v_if_ne (pc := 1) (tgt := 17) d_Mo_passes_1 rfl (fun hc => ?_) (fun hc => ?_)
  · skip
    refine v_iload_n (pc := 17) d_Mo_passes_17 rfl rfl ?_
    refine v_iconst (pc := 18) (v := nI 1) d_Mo_passes_18 rfl ?_
    refine v_icmp_ne (pc := 19) (tgt := 35) d_Mo_passes_19 rfl (fun hc => ?_) (fun hc => ?_)
    · skip
      have hc : ¬ t = 1 := hc
      refine v_iload_n (pc := 35) d_Mo_passes_35 rfl rfl ?_
      refine v_iload_n (pc := 36) d_Mo_passes_36 rfl rfl ?_
      refine v_icmp_le (pc := 37) (tgt := 44) d_Mo_passes_37 rfl (fun hc => ?_) (fun hc => ?_)
      · skip
        refine v_iconst (pc := 44) (v := nI 0) d_Mo_passes_44 rfl ?_
        exact v_zret (pc := 45) d_Mo_passes_45 rfl z01 (Nat.le_of_ble_eq_true rfl) (Nat.le_of_ble_eq_true rfl) ⟨zr0 (by unfold ma_ps; simp_all [Int32.not_lt, Int32.not_le]), rfl, rfl⟩
      · skip
        refine v_iconst (pc := 40) (v := nI 1) d_Mo_passes_40 rfl ?_
        refine v_goto (pc := 41) (tgt := 45) d_Mo_passes_41 rfl ?_
        exact v_zret (pc := 45) d_Mo_passes_45 rfl z11 (Nat.le_of_ble_eq_true rfl) (Nat.le_of_ble_eq_true rfl) ⟨zr1 (by unfold ma_ps; simp_all [Int32.not_lt, Int32.not_le]), rfl, rfl⟩
    · skip
      have hc : t = 1 := hc
      refine v_iload_n (pc := 22) d_Mo_passes_22 rfl rfl ?_
      refine v_iload_n (pc := 23) d_Mo_passes_23 rfl rfl ?_
      refine v_icmp_ne (pc := 24) (tgt := 31) d_Mo_passes_24 rfl (fun hc => ?_) (fun hc => ?_)
      · skip
        refine v_iconst (pc := 31) (v := nI 0) d_Mo_passes_31 rfl ?_
        refine v_goto (pc := 32) (tgt := 45) d_Mo_passes_32 rfl ?_
        exact v_zret (pc := 45) d_Mo_passes_45 rfl z01 (Nat.le_of_ble_eq_true rfl) (Nat.le_of_ble_eq_true rfl) ⟨zr0 (by unfold ma_ps; simp_all [Int32.not_lt, Int32.not_le]), rfl, rfl⟩
      · skip
        refine v_iconst (pc := 27) (v := nI 1) d_Mo_passes_27 rfl ?_
        refine v_goto (pc := 28) (tgt := 45) d_Mo_passes_28 rfl ?_
        exact v_zret (pc := 45) d_Mo_passes_45 rfl z11 (Nat.le_of_ble_eq_true rfl) (Nat.le_of_ble_eq_true rfl) ⟨zr1 (by unfold ma_ps; simp_all [Int32.not_lt, Int32.not_le]), rfl, rfl⟩
  · skip
    refine v_iload_n (pc := 4) d_Mo_passes_4 rfl rfl ?_
    refine v_iload_n (pc := 5) d_Mo_passes_5 rfl rfl ?_
    refine v_icmp_ge (pc := 6) (tgt := 13) d_Mo_passes_6 rfl (fun hc => ?_) (fun hc => ?_)
    · skip
      refine v_iconst (pc := 13) (v := nI 0) d_Mo_passes_13 rfl ?_
      refine v_goto (pc := 14) (tgt := 45) d_Mo_passes_14 rfl ?_
      exact v_zret (pc := 45) d_Mo_passes_45 rfl z01 (Nat.le_of_ble_eq_true rfl) (Nat.le_of_ble_eq_true rfl) ⟨zr0 (by unfold ma_ps; simp_all [Int32.not_lt, Int32.not_le]), rfl, rfl⟩
    · skip
      refine v_iconst (pc := 9) (v := nI 1) d_Mo_passes_9 rfl ?_
      refine v_goto (pc := 10) (tgt := 45) d_Mo_passes_10 rfl ?_
      exact v_zret (pc := 45) d_Mo_passes_45 rfl z11 (Nat.le_of_ble_eq_true rfl) (Nat.le_of_ble_eq_true rfl) ⟨zr1 (by unfold ma_ps; simp_all [Int32.not_lt, Int32.not_le]), rfl, rfl⟩
end
section
/-! settling: by ranks into the sorted order -/
def mo_nz (m : Nat → Int64) (s : Nat) : Nat := (List.range s).countP (fun i => decide (m i ≠ 0))
def mo_rk (f : Nat → Int32) (m : Nat → Int64) (wd : Nat) (q : List Int32) (s : Nat) : Nat := (List.range s).countP (fun i => decide (m i ≠ 0) && ma_lt (ar_row f wd (4 * i)) q)
theorem mo_nz_s (m : Nat → Int64) (s : Nat) : mo_nz m (s + 1) = mo_nz m s + if m s ≠ 0 then 1 else 0 := by
  unfold mo_nz
  rw [List.range_succ, List.countP_append, List.countP_singleton]
  by_cases h : m s = 0 <;> simp [h]
theorem mo_nz_le (m : Nat → Int64) (s : Nat) : mo_nz m s ≤ s := by
  have := List.countP_le_length (p := fun i => decide (m i ≠ 0)) (l := List.range s)
  rwa [List.length_range] at this
theorem mo_rk_1 {f : Nat → Int32} {m : Nat → Int64} {wd : Nat} {q : List Int32} {s : Nat} (h1 : ¬ m s = 0) (h2 : ma_lt (ar_row f wd (4 * s)) q = true) : mo_rk f m wd q (s + 1) = mo_rk f m wd q s + 1 := by
  unfold mo_rk
  rw [List.range_succ, List.countP_append, List.countP_singleton]
  simp [h1, h2]
theorem mo_rk_0 {f : Nat → Int32} {m : Nat → Int64} {wd : Nat} {q : List Int32} {s : Nat} (h : m s = 0 ∨ ¬ ma_lt (ar_row f wd (4 * s)) q = true) : mo_rk f m wd q (s + 1) = mo_rk f m wd q s := by
  unfold mo_rk
  rw [List.range_succ, List.countP_append, List.countP_singleton]
  rcases h with h | h
  · simp [h]
  · simp [Bool.eq_false_iff.mpr h]
theorem mo_rk_le (f : Nat → Int32) (m : Nat → Int64) (wd : Nat) (q : List Int32) (s : Nat) : mo_rk f m wd q s ≤ s := by
  have := List.countP_le_length (p := fun i => decide (m i ≠ 0) && ma_lt (ar_row f wd (4 * i)) q) (l := List.range s)
  rwa [List.length_range] at this
section ST
variable {f : Nat → Int32} {m : Nat → Int64} {wd n : Nat} {c : MaB}
theorem mo_len (hp : ((ar_bag f m wd 0 n).filter (fun x => decide (x.2 ≠ 0))).Perm c) : mo_nz m n = c.length := by
  rw [← hp.length_eq, ← List.countP_eq_length_filter]
  unfold ar_bag mo_nz
  rw [List.countP_map]
  congr 1
  funext i
  simp
theorem mo_at (hp : ((ar_bag f m wd 0 n).filter (fun x => decide (x.2 ≠ 0))).Perm c) {i : Nat} (hi : i < c.length) : ∃ s, s < n ∧ m s ≠ 0 ∧ c[i]? = some (ar_row f wd (4 * s), m s) := by
  have h := hp.symm.mem_iff.mp (List.getElem_mem hi)
  obtain ⟨h1, h2⟩ := List.mem_filter.mp h
  obtain ⟨s, hs, e⟩ := ar_bag_mem h1
  rw [Nat.zero_add] at e
  refine ⟨s, hs, ?_, ?_⟩
  · have := of_decide_eq_true h2
    rw [e] at this
    exact this
  · rw [List.getElem?_eq_getElem hi, e]
theorem mo_rank (hok : ma_ok wd c) (hp : ((ar_bag f m wd 0 n).filter (fun x => decide (x.2 ≠ 0))).Perm c) {s : Nat} (hs : s < n) (hm : m s ≠ 0) : mo_rk f m wd (ar_row f wd (4 * s)) n < c.length ∧ c[mo_rk f m wd (ar_row f wd (4 * s)) n]? = some (ar_row f wd (4 * s), m s) := by
  have hin : (ar_row f wd (4 * s), m s) ∈ c := by
    refine hp.mem_iff.mp (List.mem_filter.mpr ⟨?_, decide_eq_true hm⟩)
    have := List.mem_of_getElem? (ar_bag_get (f := f) (m := m) (w := wd) (o := 0) hs)
    rwa [Nat.zero_add] at this
  obtain ⟨i, hi, e⟩ := List.getElem_of_mem hin
  have hr := ma_rank hok hi
  rw [e] at hr
  have e2 : mo_rk f m wd (ar_row f wd (4 * s)) n = c.countP (fun x => ma_lt x.1 (ar_row f wd (4 * s))) := by
    rw [← hp.countP_eq, List.countP_filter]
    unfold ar_bag mo_rk
    rw [List.countP_map]
    congr 1
    funext i
    simp [Bool.and_comm]
  rw [e2]
  dsimp only at hr
  rw [hr]
  exact ⟨hi, by rw [List.getElem?_eq_getElem hi, e]⟩
end ST
set_option maxRecDepth 100000 in
set_option maxHeartbeats 4000000 in
theorem lp1_Mo_settle (g : Gl) {w0 w : Wd} {b sz : Nat} {sc : Nat → Int32} {ia : Nat → Nat → Int32} {la : Nat → Nat → Int64} (hM : MAt w b sc ia la) {n k wd mo : Nat} (hg : sc 2 = nI n) (hn : n ≤ 256) (hk : k < 24) (hw1 : 1 ≤ wd) (hwd : wd ≤ 4) (hmo : mo ≤ 16) {E : Rs → Wd → Nat → Prop} (K : VV g 1 0 0 mi_Mo_settle w0 sz E 44 [(5, .int (nI n)), (4, .int (nI (mo_nz (la 11) n))), (0, .ref b), (1, .int (nI k)), (2, .int (nI wd)), (3, .int (nI mo))] [] w sz 0 0) : ∀ (zz : Nat) (r : Nat), n - r = zz → r ≤ n → VV g 1 0 0 mi_Mo_settle w0 sz E 6 [(5, .int (nI r)), (4, .int (nI (mo_nz (la 11) r))), (0, .ref b), (1, .int (nI k)), (2, .int (nI wd)), (3, .int (nI mo))] [] w sz 0 0 := by
  intro zz
  induction zz using Nat.strongRecOn with | _ zz ih => _
  intro r hnn hrn
  have hle := mo_nz_le (la 11) r
  refine v_iload (pc := 6) d_Mo_settle_6 rfl ?_
  refine v_aload_n (pc := 8) d_Mo_settle_8 rfl rfl ?_
  refine v_get (pc := 9) d_Mo_settle_9 fl_Mo_72 hM.o rfl ?_
  refine v_re hg ?_
  refine v_icmp_ge (pc := 12) (tgt := 44) d_Mo_settle_12 rfl (fun hc => ?_) (fun hc => ?_)
  · skip
    rw [nI_leI (by omega) (by omega)] at hc
    obtain rfl : r = n := by omega
    exact K
  · skip
    rw [nI_leI (by omega) (by omega)] at hc
    refine v_aload_n (pc := 15) d_Mo_settle_15 rfl rfl ?_
    refine v_get (pc := 16) d_Mo_settle_16 fl_Mo_48 hM.o rfl ?_
    refine v_iload (pc := 19) d_Mo_settle_19 rfl ?_
    refine v_laldN (pc := 21) (k := r) (f := la 11) d_Mo_settle_21 hM.a11 rfl (by omega) (by decide) ?_
    refine v_lconst (pc := 22) (v := 0) d_Mo_settle_22 rfl ?_
    refine v_lcmp (pc := 23) d_Mo_settle_23 ?_
    refine v_if_eq (pc := 24) (tgt := 34) d_Mo_settle_24 rfl (fun hc => ?_) (fun hc => ?_)
    · skip
      rw [lg0] at hc
      refine v_iload (pc := 34) d_Mo_settle_34 rfl ?_
      refine v_re (y := nI (mo_nz (la 11) (r + 1))) (by rw [mo_nz_s, if_neg (fun h => h hc)]; rfl) ?_
      refine v_istore (pc := 36) (L' := [(4, .int (nI (mo_nz (la 11) (r + 1)))), (5, .int (nI r)), (0, .ref b), (1, .int (nI k)), (2, .int (nI wd)), (3, .int (nI mo))]) d_Mo_settle_36 (by decide) rfl ?_
      refine v_iinc (pc := 38) (L' := [(5, .int (nI (r + 1))), (4, .int (nI (mo_nz (la 11) (r + 1)))), (0, .ref b), (1, .int (nI k)), (2, .int (nI wd)), (3, .int (nI mo))]) d_Mo_settle_38 rfl (ix_inc _) (by decide) rfl ?_
      refine v_goto (pc := 41) (tgt := 6) d_Mo_settle_41 rfl ?_
      refine v_sub (L' := [(5, .int (nI (r + 1))), (4, .int (nI (mo_nz (la 11) (r + 1)))), (0, .ref b), (1, .int (nI k)), (2, .int (nI wd)), (3, .int (nI mo))]) (by simp) ?_
      exact ih (n - (r + 1)) (by omega) (r + 1) rfl (by omega)
    · skip
      rw [lg0] at hc
      refine v_iload (pc := 27) d_Mo_settle_27 rfl ?_
      refine v_iconst (pc := 29) (v := nI 1) d_Mo_settle_29 rfl ?_
      refine v_iadd (pc := 30) d_Mo_settle_30 ?_
      refine v_re (nI_add (mo_nz (la 11) r) 1) ?_
      refine v_goto (pc := 31) (tgt := 36) d_Mo_settle_31 rfl ?_
      refine v_re (y := nI (mo_nz (la 11) (r + 1))) (by rw [mo_nz_s, if_pos hc]) ?_
      refine v_istore (pc := 36) (L' := [(4, .int (nI (mo_nz (la 11) (r + 1)))), (5, .int (nI r)), (0, .ref b), (1, .int (nI k)), (2, .int (nI wd)), (3, .int (nI mo))]) d_Mo_settle_36 (by decide) rfl ?_
      refine v_iinc (pc := 38) (L' := [(5, .int (nI (r + 1))), (4, .int (nI (mo_nz (la 11) (r + 1)))), (0, .ref b), (1, .int (nI k)), (2, .int (nI wd)), (3, .int (nI mo))]) d_Mo_settle_38 rfl (ix_inc _) (by decide) rfl ?_
      refine v_goto (pc := 41) (tgt := 6) d_Mo_settle_41 rfl ?_
      refine v_sub (L' := [(5, .int (nI (r + 1))), (4, .int (nI (mo_nz (la 11) (r + 1)))), (0, .ref b), (1, .int (nI k)), (2, .int (nI wd)), (3, .int (nI mo))]) (by simp) ?_
      exact ih (n - (r + 1)) (by omega) (r + 1) rfl (by omega)
set_option maxRecDepth 100000 in
set_option maxHeartbeats 4000000 in
theorem lp3_Mo_settle (g : Gl) {w0 w : Wd} {b sz : Nat} {sc : Nat → Int32} {ia : Nat → Nat → Int32} {la : Nat → Nat → Int64} (hM : MAt w b sc ia la) {n k wd mo : Nat} (hg : sc 2 = nI n) (hn : n ≤ 256) (hk : k < 24) (hw1 : 1 ≤ wd) (hwd : wd ≤ 4) (hmo : mo ≤ 16) {r N0 : Nat} (hr : r < n) {E : Rs → Wd → Nat → Prop} (K : VV g 1 0 0 mi_Mo_settle w0 sz E 131 [(7, .int (nI n)), (6, .int (nI (16 * k + mo_rk (ia 12) (la 11) wd (ar_row (ia 12) wd (4 * r)) n))), (5, .int (nI r)), (4, .int (nI N0)), (0, .ref b), (1, .int (nI k)), (2, .int (nI wd)), (3, .int (nI mo))] [] w sz 0 0) : ∀ (zz : Nat) (s : Nat), n - s = zz → s ≤ n → VV g 1 0 0 mi_Mo_settle w0 sz E 81 [(7, .int (nI s)), (6, .int (nI (16 * k + mo_rk (ia 12) (la 11) wd (ar_row (ia 12) wd (4 * r)) s))), (5, .int (nI r)), (4, .int (nI N0)), (0, .ref b), (1, .int (nI k)), (2, .int (nI wd)), (3, .int (nI mo))] [] w sz 0 0 := by
  intro zz
  induction zz using Nat.strongRecOn with | _ zz ih => _
  intro s hnn hsn
  have hle := mo_rk_le (ia 12) (la 11) wd (ar_row (ia 12) wd (4 * r)) s
  refine v_iload (pc := 81) d_Mo_settle_81 rfl ?_
  refine v_aload_n (pc := 83) d_Mo_settle_83 rfl rfl ?_
  refine v_get (pc := 84) d_Mo_settle_84 fl_Mo_72 hM.o rfl ?_
  refine v_re hg ?_
  refine v_icmp_ge (pc := 87) (tgt := 131) d_Mo_settle_87 rfl (fun hc => ?_) (fun hc => ?_)
  · skip
    rw [nI_leI (by omega) (by omega)] at hc
    obtain rfl : s = n := by omega
    exact K
  · skip
    rw [nI_leI (by omega) (by omega)] at hc
    refine v_aload_n (pc := 90) d_Mo_settle_90 rfl rfl ?_
    refine v_get (pc := 91) d_Mo_settle_91 fl_Mo_48 hM.o rfl ?_
    refine v_iload (pc := 94) d_Mo_settle_94 rfl ?_
    refine v_laldN (pc := 96) (k := s) (f := la 11) d_Mo_settle_96 hM.a11 rfl (by omega) (by decide) ?_
    refine v_lconst (pc := 97) (v := 0) d_Mo_settle_97 rfl ?_
    refine v_lcmp (pc := 98) d_Mo_settle_98 ?_
    refine v_if_eq (pc := 99) (tgt := 121) d_Mo_settle_99 rfl (fun hc => ?_) (fun hc => ?_)
    · skip
      rw [lg0] at hc
      have hor : la 11 s = 0 ∨ ¬ ma_lt (ar_row (ia 12) wd (4 * s)) (ar_row (ia 12) wd (4 * r)) = true := Or.inl hc
      refine v_iload (pc := 121) d_Mo_settle_121 rfl ?_
      refine v_re (y := nI (16 * k + mo_rk (ia 12) (la 11) wd (ar_row (ia 12) wd (4 * r)) (s + 1))) (by rw [mo_rk_0 hor]) ?_
      refine v_istore (pc := 123) (L' := [(6, .int (nI (16 * k + mo_rk (ia 12) (la 11) wd (ar_row (ia 12) wd (4 * r)) (s + 1)))), (7, .int (nI s)), (5, .int (nI r)), (4, .int (nI N0)), (0, .ref b), (1, .int (nI k)), (2, .int (nI wd)), (3, .int (nI mo))]) d_Mo_settle_123 (by decide) rfl ?_
      refine v_iinc (pc := 125) (L' := [(7, .int (nI (s + 1))), (6, .int (nI (16 * k + mo_rk (ia 12) (la 11) wd (ar_row (ia 12) wd (4 * r)) (s + 1)))), (5, .int (nI r)), (4, .int (nI N0)), (0, .ref b), (1, .int (nI k)), (2, .int (nI wd)), (3, .int (nI mo))]) d_Mo_settle_125 rfl (ix_inc _) (by decide) rfl ?_
      refine v_goto (pc := 128) (tgt := 81) d_Mo_settle_128 rfl ?_
      refine v_sub (L' := [(7, .int (nI (s + 1))), (6, .int (nI (16 * k + mo_rk (ia 12) (la 11) wd (ar_row (ia 12) wd (4 * r)) (s + 1)))), (5, .int (nI r)), (4, .int (nI N0)), (0, .ref b), (1, .int (nI k)), (2, .int (nI wd)), (3, .int (nI mo))]) (by simp) ?_
      exact ih (n - (s + 1)) (by omega) (s + 1) rfl (by omega)
    · skip
      rw [lg0] at hc
      have hz := hc
      refine v_aload_n (pc := 102) d_Mo_settle_102 rfl rfl ?_
      refine v_iload (pc := 103) d_Mo_settle_103 rfl ?_
      refine v_iload (pc := 105) d_Mo_settle_105 rfl ?_
      refine v_iload_n (pc := 107) d_Mo_settle_107 rfl rfl ?_
      refine v_cvR (pc := 108) (A := [.int (nI s), .int (nI r), .int (nI wd)]) (rest := []) (x := .int (if ma_lt (ar_row (ia 12) wd (4 * s)) (ar_row (ia 12) wd (4 * r)) = true then 1 else 0)) d_Mo_settle_108 lk_Mo_79 me_Mo_comesBefore im_Mo_comesBefore se_Mo_comesBefore rfl hM.o rfl rfl (c_Mo_comesBefore g hM (r := s) (s := r) (wd := wd) (by omega) (by omega) hw1 hwd) (Nat.le_of_ble_eq_true rfl) (Nat.le_of_ble_eq_true rfl) (Nat.le_of_ble_eq_true rfl) (Nat.le_of_ble_eq_true rfl) ?_
      refine v_if_eq (pc := 111) (tgt := 121) d_Mo_settle_111 rfl (fun hc => ?_) (fun hc => ?_)
      · skip
        rw [zf] at hc
        have hor : la 11 s = 0 ∨ ¬ ma_lt (ar_row (ia 12) wd (4 * s)) (ar_row (ia 12) wd (4 * r)) = true := Or.inr hc
        refine v_iload (pc := 121) d_Mo_settle_121 rfl ?_
        refine v_re (y := nI (16 * k + mo_rk (ia 12) (la 11) wd (ar_row (ia 12) wd (4 * r)) (s + 1))) (by rw [mo_rk_0 hor]) ?_
        refine v_istore (pc := 123) (L' := [(6, .int (nI (16 * k + mo_rk (ia 12) (la 11) wd (ar_row (ia 12) wd (4 * r)) (s + 1)))), (7, .int (nI s)), (5, .int (nI r)), (4, .int (nI N0)), (0, .ref b), (1, .int (nI k)), (2, .int (nI wd)), (3, .int (nI mo))]) d_Mo_settle_123 (by decide) rfl ?_
        refine v_iinc (pc := 125) (L' := [(7, .int (nI (s + 1))), (6, .int (nI (16 * k + mo_rk (ia 12) (la 11) wd (ar_row (ia 12) wd (4 * r)) (s + 1)))), (5, .int (nI r)), (4, .int (nI N0)), (0, .ref b), (1, .int (nI k)), (2, .int (nI wd)), (3, .int (nI mo))]) d_Mo_settle_125 rfl (ix_inc _) (by decide) rfl ?_
        refine v_goto (pc := 128) (tgt := 81) d_Mo_settle_128 rfl ?_
        refine v_sub (L' := [(7, .int (nI (s + 1))), (6, .int (nI (16 * k + mo_rk (ia 12) (la 11) wd (ar_row (ia 12) wd (4 * r)) (s + 1)))), (5, .int (nI r)), (4, .int (nI N0)), (0, .ref b), (1, .int (nI k)), (2, .int (nI wd)), (3, .int (nI mo))]) (by simp) ?_
        exact ih (n - (s + 1)) (by omega) (s + 1) rfl (by omega)
      · skip
        rw [zt] at hc
        refine v_iload (pc := 114) d_Mo_settle_114 rfl ?_
        refine v_iconst (pc := 116) (v := nI 1) d_Mo_settle_116 rfl ?_
        refine v_iadd (pc := 117) d_Mo_settle_117 ?_
        refine v_re (nI_add (16 * k + mo_rk (ia 12) (la 11) wd (ar_row (ia 12) wd (4 * r)) s) 1) ?_
        refine v_goto (pc := 118) (tgt := 123) d_Mo_settle_118 rfl ?_
        refine v_re (y := nI (16 * k + mo_rk (ia 12) (la 11) wd (ar_row (ia 12) wd (4 * r)) (s + 1))) (by rw [mo_rk_1 hz hc]; rfl) ?_
        refine v_istore (pc := 123) (L' := [(6, .int (nI (16 * k + mo_rk (ia 12) (la 11) wd (ar_row (ia 12) wd (4 * r)) (s + 1)))), (7, .int (nI s)), (5, .int (nI r)), (4, .int (nI N0)), (0, .ref b), (1, .int (nI k)), (2, .int (nI wd)), (3, .int (nI mo))]) d_Mo_settle_123 (by decide) rfl ?_
        refine v_iinc (pc := 125) (L' := [(7, .int (nI (s + 1))), (6, .int (nI (16 * k + mo_rk (ia 12) (la 11) wd (ar_row (ia 12) wd (4 * r)) (s + 1)))), (5, .int (nI r)), (4, .int (nI N0)), (0, .ref b), (1, .int (nI k)), (2, .int (nI wd)), (3, .int (nI mo))]) d_Mo_settle_125 rfl (ix_inc _) (by decide) rfl ?_
        refine v_goto (pc := 128) (tgt := 81) d_Mo_settle_128 rfl ?_
        refine v_sub (L' := [(7, .int (nI (s + 1))), (6, .int (nI (16 * k + mo_rk (ia 12) (la 11) wd (ar_row (ia 12) wd (4 * r)) (s + 1)))), (5, .int (nI r)), (4, .int (nI N0)), (0, .ref b), (1, .int (nI k)), (2, .int (nI wd)), (3, .int (nI mo))]) (by simp) ?_
        exact ih (n - (s + 1)) (by omega) (s + 1) rfl (by omega)
set_option maxRecDepth 100000 in
set_option maxHeartbeats 4000000 in
theorem lp4_Mo_settle (g : Gl) {w0 w : Wd} {b sz : Nat} {sc : Nat → Int32} {ia : Nat → Nat → Int32} {la : Nat → Nat → Int64} (hM : MAt w b sc ia la) {n k wd mo : Nat} (hg : sc 2 = nI n) (hn : n ≤ 256) (hk : k < 24) (hw1 : 1 ≤ wd) (hwd : wd ≤ 4) (hmo : mo ≤ 16) {r N0 at_ : Nat} (hr : r < n) (hat : at_ < 384) {E : Rs → Wd → Nat → Prop} (K : ∀ w1 f1, MAt w1 b sc (va_up ia 10 f1) la → mo_fr b w w1 → (∀ j, j < 4 → f1 (4 * at_ + j) = ia 12 (4 * r + j)) → (∀ i, i < 4 * at_ ∨ 4 * at_ + 4 ≤ i → f1 i = ia 10 i) → VV g 1 0 0 mi_Mo_settle w0 sz E 196 [(7, .int (nI 4)), (6, .int (nI at_)), (5, .int (nI r)), (4, .int (nI N0)), (0, .ref b), (1, .int (nI k)), (2, .int (nI wd)), (3, .int (nI mo))] [] w1 sz 0 0) : ∀ (zz : Nat) (c : Nat) (w1 : Wd) (f1 : Nat → Int32), 4 - c = zz → c ≤ 4 → MAt w1 b sc (va_up ia 10 f1) la → mo_fr b w w1 → (∀ j, j < c → f1 (4 * at_ + j) = ia 12 (4 * r + j)) → (∀ i, i < 4 * at_ ∨ 4 * at_ + 4 ≤ i → f1 i = ia 10 i) → VV g 1 0 0 mi_Mo_settle w0 sz E 160 [(7, .int (nI c)), (6, .int (nI at_)), (5, .int (nI r)), (4, .int (nI N0)), (0, .ref b), (1, .int (nI k)), (2, .int (nI wd)), (3, .int (nI mo))] [] w1 sz 0 0 := by
  intro zz
  induction zz using Nat.strongRecOn with | _ zz ih => _
  intro c w1 f1 hnn hc4 h1 h3 h4 h5
  refine v_iload (pc := 160) d_Mo_settle_160 rfl ?_
  refine v_iconst (pc := 162) (v := nI 4) d_Mo_settle_162 rfl ?_
  refine v_icmp_ge (pc := 163) (tgt := 196) d_Mo_settle_163 rfl (fun hc => ?_) (fun hc => ?_)
  · skip
    rw [nI_leI (by omega) (by omega)] at hc
    obtain rfl : c = 4 := by omega
    exact K w1 f1 h1 h3 h4 h5
  · skip
    rw [nI_leI (by omega) (by omega)] at hc
    refine v_aload_n (pc := 166) d_Mo_settle_166 rfl rfl ?_
    refine v_get (pc := 167) d_Mo_settle_167 fl_Mo_45 h1.o rfl ?_
    refine v_iconst (pc := 170) (v := nI 4) d_Mo_settle_170 rfl ?_
    refine v_iload (pc := 171) d_Mo_settle_171 rfl ?_
    refine v_imul (pc := 173) d_Mo_settle_173 ?_
    refine v_re (pk_mul 4 at_) ?_
    refine v_iload (pc := 174) d_Mo_settle_174 rfl ?_
    refine v_iadd (pc := 176) d_Mo_settle_176 ?_
    refine v_re (nI_add (4 * at_) c) ?_
    refine v_aload_n (pc := 177) d_Mo_settle_177 rfl rfl ?_
    refine v_get (pc := 178) d_Mo_settle_178 fl_Mo_51 h1.o rfl ?_
    refine v_iconst (pc := 181) (v := nI 4) d_Mo_settle_181 rfl ?_
    refine v_iload (pc := 182) d_Mo_settle_182 rfl ?_
    refine v_imul (pc := 184) d_Mo_settle_184 ?_
    refine v_re (pk_mul 4 r) ?_
    refine v_iload (pc := 185) d_Mo_settle_185 rfl ?_
    refine v_iadd (pc := 187) d_Mo_settle_187 ?_
    refine v_re (nI_add (4 * r) c) ?_
    refine v_ialdN (pc := 188) (k := (4 * r) + c) (f := ia 12) d_Mo_settle_188 h1.a12 rfl (by omega) (by decide) ?_
    refine v_iastW (pc := 189) (k := (4 * at_) + c) (f := f1) d_Mo_settle_189 h1.a10 rfl (by omega) (by decide) (fun w2 hn2 hq2 => ?_)
    have h2 := h1.s10 hn2 hq2
    rw [bx_uu] at h2
    refine v_iinc (pc := 190) (L' := [(7, .int (nI (c + 1))), (6, .int (nI at_)), (5, .int (nI r)), (4, .int (nI N0)), (0, .ref b), (1, .int (nI k)), (2, .int (nI wd)), (3, .int (nI mo))]) d_Mo_settle_190 rfl (ix_inc _) (by decide) rfl ?_
    refine v_goto (pc := 193) (tgt := 160) d_Mo_settle_193 rfl ?_
    refine v_sub (L' := [(7, .int (nI (c + 1))), (6, .int (nI at_)), (5, .int (nI r)), (4, .int (nI N0)), (0, .ref b), (1, .int (nI k)), (2, .int (nI wd)), (3, .int (nI mo))]) (by simp) ?_
    exact ih (4 - (c + 1)) (by omega) (c + 1) w2 (upd f1 (4 * at_ + c) (ia 12 (4 * r + c))) rfl (by omega) h2 (h3.at ⟨by omega, by omega⟩ hq2) (fun j hj => by by_cases hjc : j = c; (subst hjc; exact pk_us); (rw [pk_un (by omega)]; exact h4 j (by omega))) (fun i hi => by rw [pk_un (by omega)]; exact h5 i hi)
end
section
def mo_sp (w : Wd) (b : Nat) (sc : Nat → Int32) (ia : Nat → Nat → Int32) (la : Nat → Nat → Int64) (k wd : Nat) (c : MaB) (w' : Wd) : Prop := ∃ f1 m1, MAt w' b sc (va_up ia 10 f1) (va_up la 9 m1) ∧ mo_fr b w w' ∧ ar_bag f1 m1 wd (16 * k) c.length = c ∧ (∀ i, i < 16 * k ∨ 16 * k + 16 ≤ i → m1 i = la 9 i) ∧ (∀ i, i < 64 * k ∨ 64 * k + 64 ≤ i → f1 i = ia 10 i)
theorem mo_uni {n i j : Nat} {c : MaB} {x : List Int32 × Int64} (h : ma_ok n c) (hi : c[i]? = some x) (hj : c[j]? = some x) : i = j := by
  obtain ⟨h1, e1⟩ := List.getElem?_eq_some_iff.mp hi
  obtain ⟨h2, e2⟩ := List.getElem?_eq_some_iff.mp hj
  have r1 := ma_rank h h1
  have r2 := ma_rank h h2
  rw [e1] at r1
  rw [e2] at r2
  exact r1.symm.trans r2
set_option maxRecDepth 100000 in
set_option maxHeartbeats 4000000 in
theorem lp2_Mo_settle (g : Gl) {w0 w : Wd} {b sz : Nat} {sc : Nat → Int32} {ia : Nat → Nat → Int32} {la : Nat → Nat → Int64} (hM : MAt w b sc ia la) {n k wd mo : Nat} (hg : sc 2 = nI n) (hn : n ≤ 256) (hk : k < 24) (hw1 : 1 ≤ wd) (hwd : wd ≤ 4) (hmo : mo ≤ 16) {c : MaB} (hok : ma_ok wd c) (hp : ((ar_bag (ia 12) (la 11) wd 0 n).filter (fun x => decide (x.2 ≠ 0))).Perm c) (hcl : c.length ≤ 16) {E : Rs → Wd → Nat → Prop} (hE : ∀ w', mo_sp w b sc ia la k wd c w' → E (.inl (some (.int (nI 1)))) w' sz) : ∀ (zz : Nat) (r : Nat) (w1 : Wd) (f1 : Nat → Int32) (m1 : Nat → Int64), n - r = zz → r ≤ n → MAt w1 b sc (va_up ia 10 f1) (va_up la 9 m1) → mo_fr b w w1 → (∀ s, s < r → la 11 s ≠ 0 → ∀ i, c[i]? = some (ar_row (ia 12) wd (4 * s), la 11 s) → m1 (16 * k + i) = la 11 s ∧ ar_row f1 wd (4 * (16 * k + i)) = ar_row (ia 12) wd (4 * s)) → (∀ i, i < 16 * k ∨ 16 * k + 16 ≤ i → m1 i = la 9 i) → (∀ i, i < 64 * k ∨ 64 * k + 64 ≤ i → f1 i = ia 10 i) → VV g 1 0 0 mi_Mo_settle w0 sz E 63 [(5, .int (nI r)), (4, .int (nI (c.length))), (0, .ref b), (1, .int (nI k)), (2, .int (nI wd)), (3, .int (nI mo))] [] w1 sz 0 0 := by
  intro zz
  induction zz using Nat.strongRecOn with | _ zz ih => _
  intro r w1 f1 m1 hnn hrn h1 hfr hwr hm9 hf10
  refine v_iload (pc := 63) d_Mo_settle_63 rfl ?_
  refine v_aload_n (pc := 65) d_Mo_settle_65 rfl rfl ?_
  refine v_get (pc := 66) d_Mo_settle_66 fl_Mo_72 h1.o rfl ?_
  refine v_re hg ?_
  refine v_icmp_ge (pc := 69) (tgt := 202) d_Mo_settle_69 rfl (fun hc => ?_) (fun hc => ?_)
  · skip
    rw [nI_leI (by omega) (by omega)] at hc
    obtain rfl : r = n := by omega
    refine v_iconst (pc := 202) (v := nI 1) d_Mo_settle_202 rfl ?_
    exact v_zret (pc := 203) d_Mo_settle_203 rfl z11 (Nat.le_of_ble_eq_true rfl) (Nat.le_of_ble_eq_true rfl) (hE w1 ⟨f1, m1, h1, hfr, (ar_ext rfl (fun i hi => by obtain ⟨s, q1, q2, q3⟩ := mo_at hp hi; obtain ⟨y1, y2⟩ := hwr s q1 q2 i q3; rw [q3, y1, y2])).symm, hm9, hf10⟩)
  · skip
    rw [nI_leI (by omega) (by omega)] at hc
    refine v_bipush (pc := 72) (v := nI 16) d_Mo_settle_72 rfl ?_
    refine v_iload_n (pc := 74) d_Mo_settle_74 rfl rfl ?_
    refine v_imul (pc := 75) d_Mo_settle_75 ?_
    refine v_re (pk_mul 16 k) ?_
    refine v_re (y := nI (16 * k + mo_rk (ia 12) (la 11) wd (ar_row (ia 12) wd (4 * r)) 0)) rfl ?_
    refine v_istore (pc := 76) (L' := [(6, .int (nI (16 * k + mo_rk (ia 12) (la 11) wd (ar_row (ia 12) wd (4 * r)) 0))), (5, .int (nI r)), (4, .int (nI (c.length))), (0, .ref b), (1, .int (nI k)), (2, .int (nI wd)), (3, .int (nI mo))]) d_Mo_settle_76 (by decide) rfl ?_
    refine v_iconst (pc := 78) (v := nI 0) d_Mo_settle_78 rfl ?_
    refine v_istore (pc := 79) (L' := [(7, .int (nI 0)), (6, .int (nI (16 * k + mo_rk (ia 12) (la 11) wd (ar_row (ia 12) wd (4 * r)) 0))), (5, .int (nI r)), (4, .int (nI (c.length))), (0, .ref b), (1, .int (nI k)), (2, .int (nI wd)), (3, .int (nI mo))]) d_Mo_settle_79 (by decide) rfl ?_
    refine v_sub (L' := [(7, .int (nI 0)), (6, .int (nI (16 * k + mo_rk (ia 12) (la 11) wd (ar_row (ia 12) wd (4 * r)) 0))), (5, .int (nI r)), (4, .int (nI (c.length))), (0, .ref b), (1, .int (nI k)), (2, .int (nI wd)), (3, .int (nI mo))]) (by simp) ?_
    refine lp3_Mo_settle g h1 hg hn hk hw1 hwd hmo (r := r) (N0 := c.length) (by omega) ?_ n 0 rfl (by omega)
    show VV g 1 0 0 mi_Mo_settle w0 sz E 131 [(7, .int (nI n)), (6, .int (nI (16 * k + mo_rk (ia 12) (la 11) wd (ar_row (ia 12) wd (4 * r)) n))), (5, .int (nI r)), (4, .int (nI (c.length))), (0, .ref b), (1, .int (nI k)), (2, .int (nI wd)), (3, .int (nI mo))] [] w1 sz 0 0
    refine v_aload_n (pc := 131) d_Mo_settle_131 rfl rfl ?_
    refine v_get (pc := 132) d_Mo_settle_132 fl_Mo_48 h1.o rfl ?_
    refine v_iload (pc := 135) d_Mo_settle_135 rfl ?_
    refine v_laldN (pc := 137) (k := r) (f := la 11) d_Mo_settle_137 h1.a11 rfl (by omega) (by decide) ?_
    refine v_lconst (pc := 138) (v := 0) d_Mo_settle_138 rfl ?_
    refine v_lcmp (pc := 139) d_Mo_settle_139 ?_
    refine v_if_eq (pc := 140) (tgt := 196) d_Mo_settle_140 rfl (fun hc => ?_) (fun hc => ?_)
    · skip
      rw [lg0] at hc
      refine v_iinc (pc := 196) (L' := [(5, .int (nI (r + 1))), (7, .int (nI n)), (6, .int (nI (16 * k + mo_rk (ia 12) (la 11) wd (ar_row (ia 12) wd (4 * r)) n))), (4, .int (nI (c.length))), (0, .ref b), (1, .int (nI k)), (2, .int (nI wd)), (3, .int (nI mo))]) d_Mo_settle_196 rfl (ix_inc _) (by decide) rfl ?_
      refine v_goto (pc := 199) (tgt := 63) d_Mo_settle_199 rfl ?_
      refine v_sub (L' := [(5, .int (nI (r + 1))), (4, .int (nI (c.length))), (0, .ref b), (1, .int (nI k)), (2, .int (nI wd)), (3, .int (nI mo))]) (by simp) ?_
      exact ih (n - (r + 1)) (by omega) (r + 1) w1 f1 m1 rfl (by omega) h1 hfr (fun s hs hms => hwr s (by by_cases h9 : s = r; (subst h9; exact absurd hc hms); omega) hms) hm9 hf10
    · skip
      rw [lg0] at hc
      obtain ⟨hrk, hci⟩ := mo_rank hok hp (show r < n by omega) hc
      generalize hat : mo_rk (ia 12) (la 11) wd (ar_row (ia 12) wd (4 * r)) n = i0 at hrk hci ⊢
      refine v_aload_n (pc := 143) d_Mo_settle_143 rfl rfl ?_
      refine v_get (pc := 144) d_Mo_settle_144 fl_Mo_41 h1.o rfl ?_
      refine v_iload (pc := 147) d_Mo_settle_147 rfl ?_
      refine v_aload_n (pc := 149) d_Mo_settle_149 rfl rfl ?_
      refine v_get (pc := 150) d_Mo_settle_150 fl_Mo_48 h1.o rfl ?_
      refine v_iload (pc := 153) d_Mo_settle_153 rfl ?_
      refine v_laldN (pc := 155) (k := r) (f := la 11) d_Mo_settle_155 h1.a11 rfl (by omega) (by decide) ?_
      refine v_lastW (pc := 156) (k := 16 * k + i0) (f := m1) d_Mo_settle_156 h1.a9 rfl (by omega) (by decide) (fun w2 hn2 hq2 => ?_)
      have h2 := h1.s9 hn2 hq2
      rw [bx_uu] at h2
      refine v_iconst (pc := 157) (v := nI 0) d_Mo_settle_157 rfl ?_
      refine v_istore (pc := 158) (L' := [(7, .int (nI 0)), (6, .int (nI (16 * k + i0))), (5, .int (nI r)), (4, .int (nI (c.length))), (0, .ref b), (1, .int (nI k)), (2, .int (nI wd)), (3, .int (nI mo))]) d_Mo_settle_158 (by decide) rfl ?_
      refine v_sub (L' := [(7, .int (nI 0)), (6, .int (nI (16 * k + i0))), (5, .int (nI r)), (4, .int (nI (c.length))), (0, .ref b), (1, .int (nI k)), (2, .int (nI wd)), (3, .int (nI mo))]) (by simp) ?_
      refine lp4_Mo_settle g h2 hg hn hk hw1 hwd hmo (r := r) (N0 := c.length) (at_ := 16 * k + i0) (by omega) (by omega) (fun w3 f3 h3 g1 g2 g3 => ?_) 4 0 w2 f1 rfl (by omega) (by rw [bx_uu]; exact h2) mo_fr.rf (fun j hj => absurd hj (Nat.not_lt_zero _)) (fun i _ => rfl)
      rw [bx_uu] at h3
      have g2 : ∀ j, j < 4 → f3 (4 * (16 * k + i0) + j) = ia 12 (4 * r + j) := g2
      have g3 : ∀ i, i < 4 * (16 * k + i0) ∨ 4 * (16 * k + i0) + 4 ≤ i → f3 i = f1 i := g3
      refine v_iinc (pc := 196) (L' := [(5, .int (nI (r + 1))), (7, .int (nI 4)), (6, .int (nI (16 * k + i0))), (4, .int (nI (c.length))), (0, .ref b), (1, .int (nI k)), (2, .int (nI wd)), (3, .int (nI mo))]) d_Mo_settle_196 rfl (ix_inc _) (by decide) rfl ?_
      refine v_goto (pc := 199) (tgt := 63) d_Mo_settle_199 rfl ?_
      refine v_sub (L' := [(5, .int (nI (r + 1))), (4, .int (nI (c.length))), (0, .ref b), (1, .int (nI k)), (2, .int (nI wd)), (3, .int (nI mo))]) (by simp) ?_
      refine ih (n - (r + 1)) (by omega) (r + 1) w3 f3 (vp_updL m1 (16 * k + i0) (la 11 r)) rfl (by omega) h3 ((hfr.at ⟨by omega, by omega⟩ hq2).tr g1) ?_ (fun i hi => by rw [pk_uLn (by omega)]; exact hm9 i hi) (fun i hi => by rw [g3 i (by omega)]; exact hf10 i hi)
      intro s hs hms i hci2
      have hil : i < c.length := (List.getElem?_eq_some_iff.mp hci2).1
      by_cases hii : i = i0
      · subst hii
        rw [hci] at hci2
        have e9 := Option.some.inj hci2
        have e8 : ar_row (ia 12) wd (4 * r) = ar_row (ia 12) wd (4 * s) := congrArg Prod.fst e9
        have e7 : la 11 r = la 11 s := congrArg Prod.snd e9
        rw [pk_uLs, e7, ← e8]
        exact ⟨rfl, ar_row_congr (fun j hj => g2 j (by omega))⟩
      · have hsr : s ≠ r := fun h => by
          subst h
          have := ma_srt_nd hok.1
          exact hii (mo_uni hok hci2 hci)
        obtain ⟨y1, y2⟩ := hwr s (by omega) hms i hci2
        rw [pk_uLn (by omega)]
        refine ⟨y1, Eq.trans ?_ y2⟩
        exact ar_row_congr (fun j hj => g3 _ (by omega))
set_option maxRecDepth 100000 in
set_option maxHeartbeats 4000000 in
theorem c_Mo_settle_no (g : Gl) {w : Wd} {b sz : Nat} {sc : Nat → Int32} {ia : Nat → Nat → Int32} {la : Nat → Nat → Int64} (hM : MAt w b sc ia la) {n k wd mo : Nat} (hg : sc 2 = nI n) (hn : n ≤ 256) (hk : k < 24) (hw1 : 1 ≤ wd) (hwd : wd ≤ 4) (hmo : mo ≤ 16) {c : MaB} (hok : ma_ok wd c) (hp : ((ar_bag (ia 12) (la 11) wd 0 n).filter (fun x => decide (x.2 ≠ 0))).Perm c) (hcl : mo < c.length) (hcl2 : c.length ≤ 256) : CT g 1 0 0 mi_Mo_settle [.ref b, .int (nI k), .int (nI wd), .int (nI mo)] w sz (rdE (some (.int (nI 0))) w sz) := by
  refine CT.of (by decide) (Nat.le_of_ble_eq_true rfl) ?_
  refine v_iconst (pc := 0) (v := nI 0) d_Mo_settle_0 rfl ?_
  refine v_istore (pc := 1) (L' := [(4, .int (nI 0)), (0, .ref b), (1, .int (nI k)), (2, .int (nI wd)), (3, .int (nI mo))]) d_Mo_settle_1 (by decide) rfl ?_
  refine v_iconst (pc := 3) (v := nI 0) d_Mo_settle_3 rfl ?_
  refine v_istore (pc := 4) (L' := [(5, .int (nI 0)), (4, .int (nI 0)), (0, .ref b), (1, .int (nI k)), (2, .int (nI wd)), (3, .int (nI mo))]) d_Mo_settle_4 (by decide) rfl ?_
  refine v_sub (L' := [(5, .int (nI 0)), (4, .int (nI 0)), (0, .ref b), (1, .int (nI k)), (2, .int (nI wd)), (3, .int (nI mo))]) (by simp) ?_
  refine lp1_Mo_settle g hM hg hn hk hw1 hwd hmo ?_ n 0 rfl (by omega)
  rw [mo_len hp]
  refine v_iload (pc := 44) d_Mo_settle_44 rfl ?_
  refine v_iload_n (pc := 46) d_Mo_settle_46 rfl rfl ?_
  refine v_icmp_le (pc := 47) (tgt := 52) d_Mo_settle_47 rfl (fun hc => ?_) (fun hc => ?_)
  · skip
    rw [nI_leI (by omega) (by omega)] at hc
    exact absurd hc (by omega)
  · skip
    rw [nI_leI (by omega) (by omega)] at hc
    refine v_iconst (pc := 50) (v := nI 0) d_Mo_settle_50 rfl ?_
    exact v_zret (pc := 51) d_Mo_settle_51 rfl z01 (Nat.le_of_ble_eq_true rfl) (Nat.le_of_ble_eq_true rfl) ⟨rfl, rfl, rfl⟩
set_option maxRecDepth 100000 in
set_option maxHeartbeats 4000000 in
theorem c_Mo_settle_ok (g : Gl) {w : Wd} {b sz : Nat} {sc : Nat → Int32} {ia : Nat → Nat → Int32} {la : Nat → Nat → Int64} (hM : MAt w b sc ia la) {n k wd mo : Nat} (hg : sc 2 = nI n) (hn : n ≤ 256) (hk : k < 24) (hw1 : 1 ≤ wd) (hwd : wd ≤ 4) (hmo : mo ≤ 16) {c : MaB} (hok : ma_ok wd c) (hp : ((ar_bag (ia 12) (la 11) wd 0 n).filter (fun x => decide (x.2 ≠ 0))).Perm c) (hcl : c.length ≤ mo) : CT g 1 0 0 mi_Mo_settle [.ref b, .int (nI k), .int (nI wd), .int (nI mo)] w sz (wrE (some (.int (nI 1))) sz (mo_sp w b sc (va_up ia 8 (upd (ia 8) k (nI c.length))) la k wd c)) := by
  refine CT.of (by decide) (Nat.le_of_ble_eq_true rfl) ?_
  refine v_iconst (pc := 0) (v := nI 0) d_Mo_settle_0 rfl ?_
  refine v_istore (pc := 1) (L' := [(4, .int (nI 0)), (0, .ref b), (1, .int (nI k)), (2, .int (nI wd)), (3, .int (nI mo))]) d_Mo_settle_1 (by decide) rfl ?_
  refine v_iconst (pc := 3) (v := nI 0) d_Mo_settle_3 rfl ?_
  refine v_istore (pc := 4) (L' := [(5, .int (nI 0)), (4, .int (nI 0)), (0, .ref b), (1, .int (nI k)), (2, .int (nI wd)), (3, .int (nI mo))]) d_Mo_settle_4 (by decide) rfl ?_
  refine v_sub (L' := [(5, .int (nI 0)), (4, .int (nI 0)), (0, .ref b), (1, .int (nI k)), (2, .int (nI wd)), (3, .int (nI mo))]) (by simp) ?_
  refine lp1_Mo_settle g hM hg hn hk hw1 hwd hmo ?_ n 0 rfl (by omega)
  rw [mo_len hp]
  refine v_iload (pc := 44) d_Mo_settle_44 rfl ?_
  refine v_iload_n (pc := 46) d_Mo_settle_46 rfl rfl ?_
  refine v_icmp_le (pc := 47) (tgt := 52) d_Mo_settle_47 rfl (fun hc => ?_) (fun hc => ?_)
  · skip
    rw [nI_leI (by omega) (by omega)] at hc
    refine v_aload_n (pc := 52) d_Mo_settle_52 rfl rfl ?_
    refine v_get (pc := 53) d_Mo_settle_53 fl_Mo_38 hM.o rfl ?_
    refine v_iload_n (pc := 56) d_Mo_settle_56 rfl rfl ?_
    refine v_iload (pc := 57) d_Mo_settle_57 rfl ?_
    refine v_iastW (pc := 59) (k := k) (f := ia 8) d_Mo_settle_59 hM.a8 rfl (by omega) (by decide) (fun w2 hn2 hq2 => ?_)
    have h2 := hM.s8 hn2 hq2
    refine v_iconst (pc := 60) (v := nI 0) d_Mo_settle_60 rfl ?_
    refine v_istore (pc := 61) (L' := [(5, .int (nI 0)), (4, .int (nI (c.length))), (0, .ref b), (1, .int (nI k)), (2, .int (nI wd)), (3, .int (nI mo))]) d_Mo_settle_61 (by decide) rfl ?_
    refine v_sub (L' := [(5, .int (nI 0)), (4, .int (nI (c.length))), (0, .ref b), (1, .int (nI k)), (2, .int (nI wd)), (3, .int (nI mo))]) (by simp) ?_
    refine lp2_Mo_settle g h2 hg hn hk hw1 hwd hmo hok hp (by omega) (fun w' h => ⟨rfl, rfl, ?_⟩) n 0 w2 (ia 10) (la 9) rfl (by omega) (by rw [show va_up (va_up ia 8 (upd (ia 8) k (nI c.length))) 10 (ia 10) = va_up ia 8 (upd (ia 8) k (nI c.length)) from va_id (va_up ia 8 (upd (ia 8) k (nI c.length))) 10, va_id]; exact h2) mo_fr.rf (fun s hs => absurd hs (Nat.not_lt_zero _)) (fun i _ => rfl) (fun i _ => rfl)
    obtain ⟨f1, m1, q1, q2, q3, q4, q5⟩ := h
    exact ⟨f1, m1, q1, (mo_fr.rf.at ⟨by omega, by omega⟩ hq2).tr q2, q3, q4, q5⟩
  · skip
    rw [nI_leI (by omega) (by omega)] at hc
    exact absurd hc (by omega)
end
section
/-! What a view's operation adds, row by row, and gathering it. -/
def op_sel (p : Nat) (t x : Int32) (B : MaB) : MaB := B.filter (fun y => ma_ps (y.1.getD p 0) t x)
def op_prj (n : Nat) (cols : Nat → Nat) (B : MaB) : MaB := B.map (fun y => ((List.range n).map (fun c => y.1.getD (cols c) 0), y.2))
def op_jn1 (p q : Nat) (y : List Int32 × Int64) (C : MaB) : MaB := (C.filter (fun z => decide (y.1.getD p 0 = z.1.getD q 0))).map (fun z => (y.1 ++ z.1, y.2 * z.2))
def op_jn (p q : Nat) (B C : MaB) : MaB := B.flatMap (fun y => op_jn1 p q y C)
def op_dis (B : MaB) : MaB := B.map (fun y => (y.1, 1))
theorem ar_row_getD {f : Nat → Int32} {n a c : Nat} (h : c < n) : (ar_row f n a).getD c 0 = f (a + c) := by
  rw [List.getD_eq_getElem?_getD, ar_row_get h]
  rfl
theorem ma_gf_snoc (G A : MaB) (x : List Int32 × Int64) : ma_gf G (A ++ [x]) = ma_g (ma_gf G A) x.1 x.2 := by
  simp [ma_gf]
theorem ma_gf_app (G A B : MaB) : ma_gf G (A ++ B) = ma_gf (ma_gf G A) B := by simp [ma_gf]
theorem ma_g_len (G : MaB) (r : List Int32) (m : Int64) : (ma_g G r m).length ≤ G.length + 1 := by
  induction G with
  | nil => simp [ma_g]
  | cons y t ih =>
    obtain ⟨q, k⟩ := y
    simp only [ma_g]
    split
    · simp
    · simp only [List.length_cons]; omega
theorem ma_gf_len (A : MaB) : ∀ G : MaB, (ma_gf G A).length ≤ G.length + A.length := by
  induction A with
  | nil => intro G; exact Nat.le_refl _
  | cons y t ih =>
    intro G
    have h1 := ih (ma_g G y.1 y.2)
    have h2 := ma_g_len G y.1 y.2
    show (ma_gf (ma_g G y.1 y.2) t).length ≤ _
    simp only [List.length_cons]
    omega
def mo_gs (w : Wd) (b : Nat) (sc : Nat → Int32) (ia : Nat → Nat → Int32) (la : Nat → Nat → Int64) (wd : Nat) (G : MaB) (w1 : Wd) : Prop :=
  ∃ f o m, MAt w1 b (va_up sc 2 (nI G.length)) (va_up (va_up ia 12 f) 13 o) (va_up la 11 m) ∧ mo_fr b w w1 ∧ ar_bag f m wd 0 G.length = G
theorem va_cm {α : Type} (f : Nat → α) {i j : Nat} (h : i ≠ j) (x y : α) : va_up (va_up f i x) j y = va_up (va_up f j y) i x := by
  funext k
  unfold va_up
  by_cases h1 : k = j <;> by_cases h2 : k = i <;> simp [h1, h2] <;> omega
theorem va_eq {α : Type} {f f' : Nat → α} {k : Nat} (h : ∀ j, j ≠ k → f' j = f j) : f' = va_up f k (f' k) := by
  funext j
  by_cases hj : j = k
  · subst hj; exact (va_up_self _ _ _).symm
  · rw [va_up_ne _ _ hj]; exact h j hj
theorem mo_gs.start {w : Wd} {b : Nat} {sc : Nat → Int32} {ia : Nat → Nat → Int32} {la : Nat → Nat → Int64} {wd : Nat} {G : MaB} (hM : MAt w b sc ia la) (hg : sc 2 = nI G.length) (hG : ar_bag (ia 12) (la 11) wd 0 G.length = G) : mo_gs w b sc ia la wd G w := by
  refine ⟨ia 12, ia 13, la 11, ?_, mo_fr.rf, hG⟩
  rw [← hg, va_id, va_id, va_id, va_id]
  exact hM
theorem mo_gs.add {w w2 w3 : Wd} {b : Nat} {sc : Nat → Int32} {ia : Nat → Nat → Int32} {la : Nat → Nat → Int64} {wd : Nat} {G : MaB} {f o : Nat → Int32} {m : Nat → Int64} {many : Int64} (hfr : mo_fr b w w2) (hG : ar_bag f m wd 0 G.length = G)
    (h : mo_gp w2 b (va_up sc 2 (nI G.length)) (va_up (va_up ia 12 f) 13 o) (va_up la 11 m) G.length wd many w3) : mo_gs w b sc ia la wd (ma_g G (ar_row o wd 0) many) w3 := by
  obtain ⟨sc', ia', la', q1, q2, q3, q4, q5, n', q6, q7, q8⟩ := h
  have q8 : ar_bag (ia' 12) (la' 11) wd 0 n' = ma_g (ar_bag f m wd 0 G.length) (ar_row o wd 0) many := q8
  rw [hG] at q8
  have hl : n' = (ma_g G (ar_row o wd 0) many).length := by rw [← q8, ar_bag_len]
  have e1 := va_eq q3
  have e2 := va_eq q4
  have e3 := va_eq q5
  rw [q6, bx_uu] at e1
  rw [bx_uu] at e3
  rw [va_cm _ (by decide : (13 : Nat) ≠ 12), bx_uu] at e2
  refine ⟨ia' 12, o, la' 11, ?_, hfr.tr q2, by rw [← hl]; exact q8⟩
  rw [← hl, ← e1, ← e2, ← e3]
  exact q1
set_option maxRecDepth 100000 in
set_option maxHeartbeats 4000000 in
theorem lp_Mo_selects (g : Gl) {w : Wd} {b sz : Nat} {sc : Nat → Int32} {ia : Nat → Nat → Int32} {la : Nat → Nat → Int64} (hM : MAt w b sc ia la) {e v ne wd : Nat} (he : e < 24) (hv : v < 12) (hce : ia 8 e = nI ne) (hne : ne ≤ 16) (hw : ia 0 v = nI wd) (hwd : wd ≤ 4) {G0 : MaB} (hg : sc 2 = nI G0.length) (hG : ar_bag (ia 12) (la 11) wd 0 G0.length = G0) {p : Nat} (hp : ia 4 v = nI p) (hpe : p < wd) (h0 : G0.length + 16 ≤ 256) {E : Rs → Wd → Nat → Prop} (hE : ∀ w', mo_gs w b sc ia la wd (ma_gf G0 (op_sel p (ia 5 v) (ia 6 v) (ar_bag (ia 10) (la 9) wd (16 * e) ne))) w' → E (.inl none) w' sz) : ∀ (zz : Nat) (r : Nat) (w1 : Wd), ne - r = zz → r ≤ ne → mo_gs w b sc ia la wd (ma_gf G0 (op_sel p (ia 5 v) (ia 6 v) (ar_bag (ia 10) (la 9) wd (16 * e) r))) w1 → VV g 2 0 0 mi_Mo_selects w sz E 2 [(3, .int (nI r)), (0, .ref b), (1, .int (nI e)), (2, .int (nI v))] [] w1 sz 0 0 := by
  intro zz
  induction zz using Nat.strongRecOn with | _ zz ih => _
  intro r w1 hnn hrn hgs
  obtain ⟨f1, o1, m1, h1, hfr, hGG⟩ := id hgs
  have hlen := ma_gf_len (op_sel p (ia 5 v) (ia 6 v) (ar_bag (ia 10) (la 9) wd (16 * e) r)) G0
  have hfl : (op_sel p (ia 5 v) (ia 6 v) (ar_bag (ia 10) (la 9) wd (16 * e) r)).length ≤ r := by have := List.length_filter_le (fun y => ma_ps (y.1.getD p 0) (ia 5 v) (ia 6 v)) (ar_bag (ia 10) (la 9) wd (16 * e) r); rw [ar_bag_len] at this; exact this
  refine v_iload_n (pc := 2) d_Mo_selects_2 rfl rfl ?_
  refine v_aload_n (pc := 3) d_Mo_selects_3 rfl rfl ?_
  refine v_get (pc := 4) d_Mo_selects_4 fl_Mo_38 h1.o rfl ?_
  refine v_iload_n (pc := 7) d_Mo_selects_7 rfl rfl ?_
  refine v_ialdN (pc := 8) (k := e) (f := ia 8) d_Mo_selects_8 h1.a8 rfl (by omega) (by decide) ?_
  refine v_re hce ?_
  refine v_icmp_ge (pc := 9) (tgt := 75) d_Mo_selects_9 rfl (fun hc => ?_) (fun hc => ?_)
  · skip
    rw [nI_leI (by omega) (by omega)] at hc
    obtain rfl : r = ne := by omega
    exact v_vret (pc := 75) d_Mo_selects_75 rfl (Nat.le_of_ble_eq_true rfl) (Nat.le_of_ble_eq_true rfl) (hE w1 hgs)
  · skip
    rw [nI_leI (by omega) (by omega)] at hc
    refine v_aload_n (pc := 12) d_Mo_selects_12 rfl rfl ?_
    refine v_iload_n (pc := 13) d_Mo_selects_13 rfl rfl ?_
    refine v_iload_n (pc := 14) d_Mo_selects_14 rfl rfl ?_
    refine v_aload_n (pc := 15) d_Mo_selects_15 rfl rfl ?_
    refine v_get (pc := 16) d_Mo_selects_16 fl_Mo_26 h1.o rfl ?_
    refine v_iload_n (pc := 19) d_Mo_selects_19 rfl rfl ?_
    refine v_ialdN (pc := 20) (k := v) (f := ia 4) d_Mo_selects_20 h1.a4 rfl (by omega) (by decide) ?_
    refine v_re hp ?_
    refine v_cvR (pc := 21) (A := [.int (nI e), .int (nI r), .int (nI p)]) (rest := []) (x := .int (ia 10 (4 * (16 * e + r) + p))) d_Mo_selects_21 lk_Mo_83 me_Mo_cellOf im_Mo_cellOf se_Mo_cellOf rfl h1.o rfl rfl (c_Mo_cellOf g h1 (k := e) (r := r) (c := p) (by omega)) (Nat.le_of_ble_eq_true rfl) (Nat.le_of_ble_eq_true rfl) (Nat.le_of_ble_eq_true rfl) (Nat.le_of_ble_eq_true rfl) ?_
    refine v_aload_n (pc := 24) d_Mo_selects_24 rfl rfl ?_
    refine v_get (pc := 25) d_Mo_selects_25 fl_Mo_29 h1.o rfl ?_
    refine v_iload_n (pc := 28) d_Mo_selects_28 rfl rfl ?_
    refine v_ialdN (pc := 29) (k := v) (f := ia 5) d_Mo_selects_29 h1.a5 rfl (by omega) (by decide) ?_
    refine v_aload_n (pc := 30) d_Mo_selects_30 rfl rfl ?_
    refine v_get (pc := 31) d_Mo_selects_31 fl_Mo_32 h1.o rfl ?_
    refine v_iload_n (pc := 34) d_Mo_selects_34 rfl rfl ?_
    refine v_ialdN (pc := 35) (k := v) (f := ia 6) d_Mo_selects_35 h1.a6 rfl (by omega) (by decide) ?_
    refine v_csR (pc := 36) (A := [.int (ia 10 (4 * (16 * e + r) + p)), .int (ia 5 v), .int (ia 6 v)]) (rest := []) (x := .int (if ma_ps (ia 10 (4 * (16 * e + r) + p)) (ia 5 v) (ia 6 v) = true then 1 else 0)) d_Mo_selects_36 lk_Mo_87 me_Mo_passes st_Mo_passes rfl rfl (c_Mo_passes g (ia 10 (4 * (16 * e + r) + p)) (ia 5 v) (ia 6 v)) (Nat.le_of_ble_eq_true rfl) (Nat.le_of_ble_eq_true rfl) (Nat.le_of_ble_eq_true rfl) (Nat.le_of_ble_eq_true rfl) ?_
    refine v_if_eq (pc := 39) (tgt := 69) d_Mo_selects_39 rfl (fun hc => ?_) (fun hc => ?_)
    · skip
      rw [zf] at hc
      have hnext : mo_gs w b sc ia la wd (ma_gf G0 (op_sel p (ia 5 v) (ia 6 v) (ar_bag (ia 10) (la 9) wd (16 * e) (r + 1)))) w1 := by
        unfold op_sel at hgs ⊢
        rw [ar_bag_snoc, List.filter_append, List.filter_cons_of_neg (by show ¬ ma_ps ((ar_row (ia 10) wd (4 * (16 * e + r))).getD p 0) _ _ = true; rw [ar_row_getD hpe]; exact hc), List.filter_nil, List.append_nil]
        exact hgs
      refine v_iinc (pc := 69) (L' := [(3, .int (nI (r + 1))), (0, .ref b), (1, .int (nI e)), (2, .int (nI v))]) d_Mo_selects_69 rfl (ix_inc _) (by decide) rfl ?_
      refine v_goto (pc := 72) (tgt := 2) d_Mo_selects_72 rfl ?_
      refine v_sub (L' := [(3, .int (nI (r + 1))), (0, .ref b), (1, .int (nI e)), (2, .int (nI v))]) (by simp) ?_
      exact ih (ne - (r + 1)) (by omega) (r + 1) _ rfl (by omega) hnext
    · skip
      rw [zt] at hc
      refine v_aload_n (pc := 42) d_Mo_selects_42 rfl rfl ?_
      refine v_iload_n (pc := 43) d_Mo_selects_43 rfl rfl ?_
      refine v_iload_n (pc := 44) d_Mo_selects_44 rfl rfl ?_
      refine v_cvV (pc := 45) (A := [.int (nI e), .int (nI r)]) (rest := []) d_Mo_selects_45 lk_Mo_90 me_Mo_take im_Mo_take se_Mo_take rfl h1.o rfl rfl (c_Mo_take g h1 (k := e) (r := r) (by omega)) (Nat.le_of_ble_eq_true rfl) (Nat.le_of_ble_eq_true rfl) (Nat.le_of_ble_eq_true rfl) (Nat.le_of_ble_eq_true rfl) (fun w2 ht2 => ?_)
      obtain ⟨o2, h2, hf2, ho2⟩ := ht2
      rw [bx_uu] at h2
      refine v_aload_n (pc := 48) d_Mo_selects_48 rfl rfl ?_
      refine v_aload_n (pc := 49) d_Mo_selects_49 rfl rfl ?_
      refine v_get (pc := 50) d_Mo_selects_50 fl_Mo_13 h2.o rfl ?_
      refine v_iload_n (pc := 53) d_Mo_selects_53 rfl rfl ?_
      refine v_ialdN (pc := 54) (k := v) (f := ia 0) d_Mo_selects_54 h2.a0 rfl (by omega) (by decide) ?_
      refine v_re hw ?_
      refine v_aload_n (pc := 55) d_Mo_selects_55 rfl rfl ?_
      refine v_get (pc := 56) d_Mo_selects_56 fl_Mo_41 h2.o rfl ?_
      refine v_bipush (pc := 59) (v := nI 16) d_Mo_selects_59 rfl ?_
      refine v_iload_n (pc := 61) d_Mo_selects_61 rfl rfl ?_
      refine v_imul (pc := 62) d_Mo_selects_62 ?_
      refine v_re (pk_mul 16 e) ?_
      refine v_iload_n (pc := 63) d_Mo_selects_63 rfl rfl ?_
      refine v_iadd (pc := 64) d_Mo_selects_64 ?_
      refine v_re (nI_add (16 * e) r) ?_
      refine v_laldN (pc := 65) (k := (16 * e) + r) (f := la 9) d_Mo_selects_65 h2.a9 rfl (by omega) (by decide) ?_
      refine v_cvV (pc := 66) (A := [.int (nI wd), .long (la 9 ((16 * e) + r))]) (rest := []) d_Mo_selects_66 lk_Mo_94 me_Mo_gather im_Mo_gather se_Mo_gather rfl h2.o rfl rfl (c_Mo_gather g h2 (n := (ma_gf G0 (op_sel p (ia 5 v) (ia 6 v) (ar_bag (ia 10) (la 9) wd (16 * e) r))).length) (wd := wd) (many := la 9 (16 * e + r)) rfl (by omega) hwd) (Nat.le_of_ble_eq_true rfl) (Nat.le_of_ble_eq_true rfl) (Nat.le_of_ble_eq_true rfl) (Nat.le_of_ble_eq_true rfl) (fun w3 ht3 => ?_)
      have hnext : mo_gs w b sc ia la wd (ma_gf G0 (op_sel p (ia 5 v) (ia 6 v) (ar_bag (ia 10) (la 9) wd (16 * e) (r + 1)))) w3 := by
        have e9 := mo_gs.add (hfr.tr hf2) hGG ht3
        have e8 : ar_row o2 wd 0 = ar_row (ia 10) wd (4 * (16 * e + r)) := ar_row_congr (fun c hc => by rw [Nat.zero_add]; exact ho2 c (by omega))
        rw [e8] at e9
        unfold op_sel at e9 ⊢
        rw [ar_bag_snoc, List.filter_append, List.filter_cons_of_pos (by show ma_ps ((ar_row (ia 10) wd (4 * (16 * e + r))).getD p 0) _ _ = true; rw [ar_row_getD hpe]; exact hc), List.filter_nil, ma_gf_snoc]
        exact e9
      refine v_iinc (pc := 69) (L' := [(3, .int (nI (r + 1))), (0, .ref b), (1, .int (nI e)), (2, .int (nI v))]) d_Mo_selects_69 rfl (ix_inc _) (by decide) rfl ?_
      refine v_goto (pc := 72) (tgt := 2) d_Mo_selects_72 rfl ?_
      refine v_sub (L' := [(3, .int (nI (r + 1))), (0, .ref b), (1, .int (nI e)), (2, .int (nI v))]) (by simp) ?_
      exact ih (ne - (r + 1)) (by omega) (r + 1) _ rfl (by omega) hnext
set_option maxRecDepth 100000 in
set_option maxHeartbeats 4000000 in
theorem c_Mo_selects (g : Gl) {w : Wd} {b sz : Nat} {sc : Nat → Int32} {ia : Nat → Nat → Int32} {la : Nat → Nat → Int64} (hM : MAt w b sc ia la) {e v ne wd : Nat} (he : e < 24) (hv : v < 12) (hce : ia 8 e = nI ne) (hne : ne ≤ 16) (hw : ia 0 v = nI wd) (hwd : wd ≤ 4) {G0 : MaB} (hg : sc 2 = nI G0.length) (hG : ar_bag (ia 12) (la 11) wd 0 G0.length = G0) {p : Nat} (hp : ia 4 v = nI p) (hpe : p < wd) (h0 : G0.length + 16 ≤ 256) : CT g 2 0 0 mi_Mo_selects [.ref b, .int (nI e), .int (nI v)] w sz (wrE none sz (mo_gs w b sc ia la wd (ma_gf G0 (op_sel p (ia 5 v) (ia 6 v) (ar_bag (ia 10) (la 9) wd (16 * e) ne))))) := by
  refine CT.of (by decide) (Nat.le_of_ble_eq_true rfl) ?_
  refine v_iconst (pc := 0) (v := nI 0) d_Mo_selects_0 rfl ?_
  refine v_istore_n (pc := 1) (L' := [(3, .int (nI 0)), (0, .ref b), (1, .int (nI e)), (2, .int (nI v))]) d_Mo_selects_1 rfl (by decide) rfl ?_
  refine v_sub (L' := [(3, .int (nI 0)), (0, .ref b), (1, .int (nI e)), (2, .int (nI v))]) (by simp) ?_
  exact lp_Mo_selects g hM he hv hce hne hw hwd hg hG hp hpe h0 (fun w' h => ⟨rfl, rfl, h⟩) ne 0 w rfl (by omega) (mo_gs.start hM hg hG)
end
section
theorem op_dis_len (B : MaB) : (op_dis B).length = B.length := by simp [op_dis]
set_option maxRecDepth 100000 in
set_option maxHeartbeats 4000000 in
theorem lp_Mo_all (g : Gl) {w : Wd} {b sz : Nat} {sc : Nat → Int32} {ia : Nat → Nat → Int32} {la : Nat → Nat → Int64} (hM : MAt w b sc ia la) {e v ne wd : Nat} (he : e < 24) (hv : v < 12) (hce : ia 8 e = nI ne) (hne : ne ≤ 16) (hw : ia 0 v = nI wd) (hwd : wd ≤ 4) {G0 : MaB} (hg : sc 2 = nI G0.length) (hG : ar_bag (ia 12) (la 11) wd 0 G0.length = G0) (h0 : G0.length + 16 ≤ 256) {E : Rs → Wd → Nat → Prop} (hE : ∀ w', mo_gs w b sc ia la wd (ma_gf G0 (ar_bag (ia 10) (la 9) wd (16 * e) ne)) w' → E (.inl none) w' sz) : ∀ (zz : Nat) (r : Nat) (w1 : Wd), ne - r = zz → r ≤ ne → mo_gs w b sc ia la wd (ma_gf G0 (ar_bag (ia 10) (la 9) wd (16 * e) r)) w1 → VV g 2 0 0 mi_Mo_all w sz E 3 [(4, .int (nI r)), (0, .ref b), (1, .int (nI e)), (2, .int (nI v)), (3, .int (nI 0))] [] w1 sz 0 0 := by
  intro zz
  induction zz using Nat.strongRecOn with | _ zz ih => _
  intro r w1 hnn hrn hgs
  obtain ⟨f1, o1, m1, h1, hfr, hGG⟩ := id hgs
  have hlen := ma_gf_len (ar_bag (ia 10) (la 9) wd (16 * e) r) G0
  have hfl : (ar_bag (ia 10) (la 9) wd (16 * e) r).length = r := by rw [ar_bag_len]
  refine v_iload (pc := 3) d_Mo_all_3 rfl ?_
  refine v_aload_n (pc := 5) d_Mo_all_5 rfl rfl ?_
  refine v_get (pc := 6) d_Mo_all_6 fl_Mo_38 h1.o rfl ?_
  refine v_iload_n (pc := 9) d_Mo_all_9 rfl rfl ?_
  refine v_ialdN (pc := 10) (k := e) (f := ia 8) d_Mo_all_10 h1.a8 rfl (by omega) (by decide) ?_
  refine v_re hce ?_
  refine v_icmp_ge (pc := 11) (tgt := 57) d_Mo_all_11 rfl (fun hc => ?_) (fun hc => ?_)
  · skip
    rw [nI_leI (by omega) (by omega)] at hc
    obtain rfl : r = ne := by omega
    exact v_vret (pc := 57) d_Mo_all_57 rfl (Nat.le_of_ble_eq_true rfl) (Nat.le_of_ble_eq_true rfl) (hE w1 hgs)
  · skip
    rw [nI_leI (by omega) (by omega)] at hc
    refine v_aload_n (pc := 14) d_Mo_all_14 rfl rfl ?_
    refine v_iload_n (pc := 15) d_Mo_all_15 rfl rfl ?_
    refine v_iload (pc := 16) d_Mo_all_16 rfl ?_
    refine v_cvV (pc := 18) (A := [.int (nI e), .int (nI r)]) (rest := []) d_Mo_all_18 lk_Mo_90 me_Mo_take im_Mo_take se_Mo_take rfl h1.o rfl rfl (c_Mo_take g h1 (k := e) (r := r) (by omega)) (Nat.le_of_ble_eq_true rfl) (Nat.le_of_ble_eq_true rfl) (Nat.le_of_ble_eq_true rfl) (Nat.le_of_ble_eq_true rfl) (fun w2 ht2 => ?_)
    obtain ⟨o2, h2, hf2, ho2⟩ := ht2
    rw [bx_uu] at h2
    refine v_aload_n (pc := 21) d_Mo_all_21 rfl rfl ?_
    refine v_aload_n (pc := 22) d_Mo_all_22 rfl rfl ?_
    refine v_get (pc := 23) d_Mo_all_23 fl_Mo_13 h2.o rfl ?_
    refine v_iload_n (pc := 26) d_Mo_all_26 rfl rfl ?_
    refine v_ialdN (pc := 27) (k := v) (f := ia 0) d_Mo_all_27 h2.a0 rfl (by omega) (by decide) ?_
    refine v_re hw ?_
    refine v_iload_n (pc := 28) d_Mo_all_28 rfl rfl ?_
    refine v_if_eq (pc := 29) (tgt := 36) d_Mo_all_29 rfl (fun hc => ?_) (fun hc => ?_)
    · skip
      refine v_aload_n (pc := 36) d_Mo_all_36 rfl rfl ?_
      refine v_get (pc := 37) d_Mo_all_37 fl_Mo_41 h2.o rfl ?_
      refine v_bipush (pc := 40) (v := nI 16) d_Mo_all_40 rfl ?_
      refine v_iload_n (pc := 42) d_Mo_all_42 rfl rfl ?_
      refine v_imul (pc := 43) d_Mo_all_43 ?_
      refine v_re (pk_mul 16 e) ?_
      refine v_iload (pc := 44) d_Mo_all_44 rfl ?_
      refine v_iadd (pc := 46) d_Mo_all_46 ?_
      refine v_re (nI_add (16 * e) r) ?_
      refine v_laldN (pc := 47) (k := (16 * e) + r) (f := la 9) d_Mo_all_47 h2.a9 rfl (by omega) (by decide) ?_
      refine v_cvV (pc := 48) (A := [.int (nI wd), .long (la 9 ((16 * e) + r))]) (rest := []) d_Mo_all_48 lk_Mo_94 me_Mo_gather im_Mo_gather se_Mo_gather rfl h2.o rfl rfl (c_Mo_gather g h2 (n := (ma_gf G0 (ar_bag (ia 10) (la 9) wd (16 * e) r)).length) (wd := wd) (many := la 9 (16 * e + r)) rfl (by omega) hwd) (Nat.le_of_ble_eq_true rfl) (Nat.le_of_ble_eq_true rfl) (Nat.le_of_ble_eq_true rfl) (Nat.le_of_ble_eq_true rfl) (fun w3 ht3 => ?_)
      have hnext : mo_gs w b sc ia la wd (ma_gf G0 (ar_bag (ia 10) (la 9) wd (16 * e) (r + 1))) w3 := by
        have e9 := mo_gs.add (hfr.tr hf2) hGG ht3
        have e8 : ar_row o2 wd 0 = ar_row (ia 10) wd (4 * (16 * e + r)) := ar_row_congr (fun c hc => by rw [Nat.zero_add]; exact ho2 c (by omega))
        rw [e8] at e9
        rw [ar_bag_snoc, ma_gf_snoc]
        exact e9
      refine v_iinc (pc := 51) (L' := [(4, .int (nI (r + 1))), (0, .ref b), (1, .int (nI e)), (2, .int (nI v)), (3, .int (nI 0))]) d_Mo_all_51 rfl (ix_inc _) (by decide) rfl ?_
      refine v_goto (pc := 54) (tgt := 3) d_Mo_all_54 rfl ?_
      refine v_sub (L' := [(4, .int (nI (r + 1))), (0, .ref b), (1, .int (nI e)), (2, .int (nI v)), (3, .int (nI 0))]) (by simp) ?_
      exact ih (ne - (r + 1)) (by omega) (r + 1) _ rfl (by omega) hnext
    · skip
      exact absurd rfl hc
set_option maxRecDepth 100000 in
set_option maxHeartbeats 4000000 in
theorem c_Mo_all (g : Gl) {w : Wd} {b sz : Nat} {sc : Nat → Int32} {ia : Nat → Nat → Int32} {la : Nat → Nat → Int64} (hM : MAt w b sc ia la) {e v ne wd : Nat} (he : e < 24) (hv : v < 12) (hce : ia 8 e = nI ne) (hne : ne ≤ 16) (hw : ia 0 v = nI wd) (hwd : wd ≤ 4) {G0 : MaB} (hg : sc 2 = nI G0.length) (hG : ar_bag (ia 12) (la 11) wd 0 G0.length = G0) (h0 : G0.length + 16 ≤ 256) : CT g 2 0 0 mi_Mo_all [.ref b, .int (nI e), .int (nI v), .int (nI 0)] w sz (wrE none sz (mo_gs w b sc ia la wd (ma_gf G0 (ar_bag (ia 10) (la 9) wd (16 * e) ne)))) := by
  refine CT.of (by decide) (Nat.le_of_ble_eq_true rfl) ?_
  refine v_iconst (pc := 0) (v := nI 0) d_Mo_all_0 rfl ?_
  refine v_istore (pc := 1) (L' := [(4, .int (nI 0)), (0, .ref b), (1, .int (nI e)), (2, .int (nI v)), (3, .int (nI 0))]) d_Mo_all_1 (by decide) rfl ?_
  refine v_sub (L' := [(4, .int (nI 0)), (0, .ref b), (1, .int (nI e)), (2, .int (nI v)), (3, .int (nI 0))]) (by simp) ?_
  exact lp_Mo_all g hM he hv hce hne hw hwd hg hG h0 (fun w' h => ⟨rfl, rfl, h⟩) ne 0 w rfl (by omega) (mo_gs.start hM hg hG)
set_option maxRecDepth 100000 in
set_option maxHeartbeats 4000000 in
theorem lp_Mo_dis (g : Gl) {w : Wd} {b sz : Nat} {sc : Nat → Int32} {ia : Nat → Nat → Int32} {la : Nat → Nat → Int64} (hM : MAt w b sc ia la) {e v ne wd : Nat} (he : e < 24) (hv : v < 12) (hce : ia 8 e = nI ne) (hne : ne ≤ 16) (hw : ia 0 v = nI wd) (hwd : wd ≤ 4) {G0 : MaB} (hg : sc 2 = nI G0.length) (hG : ar_bag (ia 12) (la 11) wd 0 G0.length = G0) (h0 : G0.length + 16 ≤ 256) {E : Rs → Wd → Nat → Prop} (hE : ∀ w', mo_gs w b sc ia la wd (ma_gf G0 (op_dis (ar_bag (ia 10) (la 9) wd (16 * e) ne))) w' → E (.inl none) w' sz) : ∀ (zz : Nat) (r : Nat) (w1 : Wd), ne - r = zz → r ≤ ne → mo_gs w b sc ia la wd (ma_gf G0 (op_dis (ar_bag (ia 10) (la 9) wd (16 * e) r))) w1 → VV g 2 0 0 mi_Mo_all w sz E 3 [(4, .int (nI r)), (0, .ref b), (1, .int (nI e)), (2, .int (nI v)), (3, .int (nI 1))] [] w1 sz 0 0 := by
  intro zz
  induction zz using Nat.strongRecOn with | _ zz ih => _
  intro r w1 hnn hrn hgs
  obtain ⟨f1, o1, m1, h1, hfr, hGG⟩ := id hgs
  have hlen := ma_gf_len (op_dis (ar_bag (ia 10) (la 9) wd (16 * e) r)) G0
  have hfl : (op_dis (ar_bag (ia 10) (la 9) wd (16 * e) r)).length = r := by rw [op_dis_len, ar_bag_len]
  refine v_iload (pc := 3) d_Mo_all_3 rfl ?_
  refine v_aload_n (pc := 5) d_Mo_all_5 rfl rfl ?_
  refine v_get (pc := 6) d_Mo_all_6 fl_Mo_38 h1.o rfl ?_
  refine v_iload_n (pc := 9) d_Mo_all_9 rfl rfl ?_
  refine v_ialdN (pc := 10) (k := e) (f := ia 8) d_Mo_all_10 h1.a8 rfl (by omega) (by decide) ?_
  refine v_re hce ?_
  refine v_icmp_ge (pc := 11) (tgt := 57) d_Mo_all_11 rfl (fun hc => ?_) (fun hc => ?_)
  · skip
    rw [nI_leI (by omega) (by omega)] at hc
    obtain rfl : r = ne := by omega
    exact v_vret (pc := 57) d_Mo_all_57 rfl (Nat.le_of_ble_eq_true rfl) (Nat.le_of_ble_eq_true rfl) (hE w1 hgs)
  · skip
    rw [nI_leI (by omega) (by omega)] at hc
    refine v_aload_n (pc := 14) d_Mo_all_14 rfl rfl ?_
    refine v_iload_n (pc := 15) d_Mo_all_15 rfl rfl ?_
    refine v_iload (pc := 16) d_Mo_all_16 rfl ?_
    refine v_cvV (pc := 18) (A := [.int (nI e), .int (nI r)]) (rest := []) d_Mo_all_18 lk_Mo_90 me_Mo_take im_Mo_take se_Mo_take rfl h1.o rfl rfl (c_Mo_take g h1 (k := e) (r := r) (by omega)) (Nat.le_of_ble_eq_true rfl) (Nat.le_of_ble_eq_true rfl) (Nat.le_of_ble_eq_true rfl) (Nat.le_of_ble_eq_true rfl) (fun w2 ht2 => ?_)
    obtain ⟨o2, h2, hf2, ho2⟩ := ht2
    rw [bx_uu] at h2
    refine v_aload_n (pc := 21) d_Mo_all_21 rfl rfl ?_
    refine v_aload_n (pc := 22) d_Mo_all_22 rfl rfl ?_
    refine v_get (pc := 23) d_Mo_all_23 fl_Mo_13 h2.o rfl ?_
    refine v_iload_n (pc := 26) d_Mo_all_26 rfl rfl ?_
    refine v_ialdN (pc := 27) (k := v) (f := ia 0) d_Mo_all_27 h2.a0 rfl (by omega) (by decide) ?_
    refine v_re hw ?_
    refine v_iload_n (pc := 28) d_Mo_all_28 rfl rfl ?_
    refine v_if_eq (pc := 29) (tgt := 36) d_Mo_all_29 rfl (fun hc => ?_) (fun hc => ?_)
    · skip
      exact absurd hc (by decide)
    · skip
      refine v_lconst (pc := 32) (v := 1) d_Mo_all_32 rfl ?_
      refine v_goto (pc := 33) (tgt := 48) d_Mo_all_33 rfl ?_
      refine v_cvV (pc := 48) (A := [.int (nI wd), .long 1]) (rest := []) d_Mo_all_48 lk_Mo_94 me_Mo_gather im_Mo_gather se_Mo_gather rfl h2.o rfl rfl (c_Mo_gather g h2 (n := (ma_gf G0 (op_dis (ar_bag (ia 10) (la 9) wd (16 * e) r))).length) (wd := wd) (many := 1) rfl (by omega) hwd) (Nat.le_of_ble_eq_true rfl) (Nat.le_of_ble_eq_true rfl) (Nat.le_of_ble_eq_true rfl) (Nat.le_of_ble_eq_true rfl) (fun w3 ht3 => ?_)
      have hnext : mo_gs w b sc ia la wd (ma_gf G0 (op_dis (ar_bag (ia 10) (la 9) wd (16 * e) (r + 1)))) w3 := by
        have e9 := mo_gs.add (hfr.tr hf2) hGG ht3
        have e8 : ar_row o2 wd 0 = ar_row (ia 10) wd (4 * (16 * e + r)) := ar_row_congr (fun c hc => by rw [Nat.zero_add]; exact ho2 c (by omega))
        rw [e8] at e9
        unfold op_dis at e9 ⊢
        rw [ar_bag_snoc, List.map_append, List.map_cons, List.map_nil, ma_gf_snoc]
        exact e9
      refine v_iinc (pc := 51) (L' := [(4, .int (nI (r + 1))), (0, .ref b), (1, .int (nI e)), (2, .int (nI v)), (3, .int (nI 1))]) d_Mo_all_51 rfl (ix_inc _) (by decide) rfl ?_
      refine v_goto (pc := 54) (tgt := 3) d_Mo_all_54 rfl ?_
      refine v_sub (L' := [(4, .int (nI (r + 1))), (0, .ref b), (1, .int (nI e)), (2, .int (nI v)), (3, .int (nI 1))]) (by simp) ?_
      exact ih (ne - (r + 1)) (by omega) (r + 1) _ rfl (by omega) hnext
set_option maxRecDepth 100000 in
set_option maxHeartbeats 4000000 in
theorem c_Mo_dis (g : Gl) {w : Wd} {b sz : Nat} {sc : Nat → Int32} {ia : Nat → Nat → Int32} {la : Nat → Nat → Int64} (hM : MAt w b sc ia la) {e v ne wd : Nat} (he : e < 24) (hv : v < 12) (hce : ia 8 e = nI ne) (hne : ne ≤ 16) (hw : ia 0 v = nI wd) (hwd : wd ≤ 4) {G0 : MaB} (hg : sc 2 = nI G0.length) (hG : ar_bag (ia 12) (la 11) wd 0 G0.length = G0) (h0 : G0.length + 16 ≤ 256) : CT g 2 0 0 mi_Mo_all [.ref b, .int (nI e), .int (nI v), .int (nI 1)] w sz (wrE none sz (mo_gs w b sc ia la wd (ma_gf G0 (op_dis (ar_bag (ia 10) (la 9) wd (16 * e) ne))))) := by
  refine CT.of (by decide) (Nat.le_of_ble_eq_true rfl) ?_
  refine v_iconst (pc := 0) (v := nI 0) d_Mo_all_0 rfl ?_
  refine v_istore (pc := 1) (L' := [(4, .int (nI 0)), (0, .ref b), (1, .int (nI e)), (2, .int (nI v)), (3, .int (nI 1))]) d_Mo_all_1 (by decide) rfl ?_
  refine v_sub (L' := [(4, .int (nI 0)), (0, .ref b), (1, .int (nI e)), (2, .int (nI v)), (3, .int (nI 1))]) (by simp) ?_
  exact lp_Mo_dis g hM he hv hce hne hw hwd hg hG h0 (fun w' h => ⟨rfl, rfl, h⟩) ne 0 w rfl (by omega) (mo_gs.start hM hg hG)
end
section
theorem op_prj_len (n : Nat) (cols : Nat → Nat) (B : MaB) : (op_prj n cols B).length = B.length := by simp [op_prj]
set_option maxRecDepth 100000 in
set_option maxHeartbeats 4000000 in
theorem lp1_Mo_projects (g : Gl) {w0 w : Wd} {b sz : Nat} {sc : Nat → Int32} {ia : Nat → Nat → Int32} {la : Nat → Nat → Int64} (hM : MAt w b sc ia la) {e v wd we r : Nat} {cols : Nat → Nat} (her : e < 24) (hr : r < 16) (hv : v < 12) (hw : ia 0 v = nI wd) (hwd : wd ≤ 4) (hwe : we ≤ 4) (hcol : ∀ c, c < wd → (ia 4 v >>> (nI (4 * c) &&& 31)) &&& nI 15 = nI (cols c) ∧ cols c < we) {E : Rs → Wd → Nat → Prop} (K : ∀ w1 o1, MAt w1 b sc (va_up ia 13 o1) la → mo_fr b w w1 → (∀ j, j < wd → o1 j = ia 10 (4 * (16 * e + r) + cols j)) → VV g 2 0 0 mi_Mo_projects w0 sz E 59 [(4, .int (nI wd)), (3, .int (nI r)), (0, .ref b), (1, .int (nI e)), (2, .int (nI v))] [] w1 sz 0 0) : ∀ (zz : Nat) (c : Nat) (w1 : Wd) (o1 : Nat → Int32), wd - c = zz → c ≤ wd → MAt w1 b sc (va_up ia 13 o1) la → mo_fr b w w1 → (∀ j, j < c → o1 j = ia 10 (4 * (16 * e + r) + cols j)) → VV g 2 0 0 mi_Mo_projects w0 sz E 15 [(4, .int (nI c)), (3, .int (nI r)), (0, .ref b), (1, .int (nI e)), (2, .int (nI v))] [] w1 sz 0 0 := by
  intro zz
  induction zz using Nat.strongRecOn with | _ zz ih => _
  intro c w1 o1 hnn hcw h1 h3 h4
  refine v_iload (pc := 15) d_Mo_projects_15 rfl ?_
  refine v_aload_n (pc := 17) d_Mo_projects_17 rfl rfl ?_
  refine v_get (pc := 18) d_Mo_projects_18 fl_Mo_13 h1.o rfl ?_
  refine v_iload_n (pc := 21) d_Mo_projects_21 rfl rfl ?_
  refine v_ialdN (pc := 22) (k := v) (f := ia 0) d_Mo_projects_22 h1.a0 rfl (by omega) (by decide) ?_
  refine v_re hw ?_
  refine v_icmp_ge (pc := 23) (tgt := 59) d_Mo_projects_23 rfl (fun hc => ?_) (fun hc => ?_)
  · skip
    rw [nI_leI (by omega) (by omega)] at hc
    obtain rfl : c = wd := by omega
    exact K w1 o1 h1 h3 h4
  · skip
    rw [nI_leI (by omega) (by omega)] at hc
    refine v_aload_n (pc := 26) d_Mo_projects_26 rfl rfl ?_
    refine v_get (pc := 27) d_Mo_projects_27 fl_Mo_54 h1.o rfl ?_
    refine v_iload (pc := 30) d_Mo_projects_30 rfl ?_
    refine v_aload_n (pc := 32) d_Mo_projects_32 rfl rfl ?_
    refine v_iload_n (pc := 33) d_Mo_projects_33 rfl rfl ?_
    refine v_iload_n (pc := 34) d_Mo_projects_34 rfl rfl ?_
    refine v_aload_n (pc := 35) d_Mo_projects_35 rfl rfl ?_
    refine v_get (pc := 36) d_Mo_projects_36 fl_Mo_26 h1.o rfl ?_
    refine v_iload_n (pc := 39) d_Mo_projects_39 rfl rfl ?_
    refine v_ialdN (pc := 40) (k := v) (f := ia 4) d_Mo_projects_40 h1.a4 rfl (by omega) (by decide) ?_
    refine v_iconst (pc := 41) (v := nI 4) d_Mo_projects_41 rfl ?_
    refine v_iload (pc := 42) d_Mo_projects_42 rfl ?_
    refine v_imul (pc := 44) d_Mo_projects_44 ?_
    refine v_re (pk_mul 4 c) ?_
    refine v_ishr (pc := 45) d_Mo_projects_45 ?_
    refine v_bipush (pc := 46) (v := nI 15) d_Mo_projects_46 rfl ?_
    refine v_iand (pc := 48) d_Mo_projects_48 ?_
    obtain ⟨hc1, hc2⟩ := hcol c (by omega)
    refine v_re (y := nI (cols c)) hc1 ?_
    refine v_cvR (pc := 49) (A := [.int (nI e), .int (nI r), .int (nI (cols c))]) (rest := [.int (nI c), .ref (b + 14)]) (x := .int (ia 10 (4 * (16 * e + r) + cols c))) d_Mo_projects_49 lk_Mo_83 me_Mo_cellOf im_Mo_cellOf se_Mo_cellOf rfl h1.o rfl rfl (c_Mo_cellOf g h1 (k := e) (r := r) (c := cols c) (by omega)) (Nat.le_of_ble_eq_true rfl) (Nat.le_of_ble_eq_true rfl) (Nat.le_of_ble_eq_true rfl) (Nat.le_of_ble_eq_true rfl) ?_
    refine v_iastW (pc := 52) (k := c) (f := o1) d_Mo_projects_52 h1.a13 rfl (by omega) (by decide) (fun w2 hn2 hq2 => ?_)
    have h2 := h1.s13 hn2 hq2
    rw [bx_uu] at h2
    refine v_iinc (pc := 53) (L' := [(4, .int (nI (c + 1))), (3, .int (nI r)), (0, .ref b), (1, .int (nI e)), (2, .int (nI v))]) d_Mo_projects_53 rfl (ix_inc _) (by decide) rfl ?_
    refine v_goto (pc := 56) (tgt := 15) d_Mo_projects_56 rfl ?_
    refine v_sub (L' := [(4, .int (nI (c + 1))), (3, .int (nI r)), (0, .ref b), (1, .int (nI e)), (2, .int (nI v))]) (by simp) ?_
    exact ih (wd - (c + 1)) (by omega) (c + 1) w2 (upd o1 c (ia 10 (4 * (16 * e + r) + cols c))) rfl (by omega) h2 (h3.at ⟨by omega, by omega⟩ hq2) (fun j hj => by by_cases hjc : j = c; (subst hjc; exact pk_us); (rw [pk_un (by omega)]; exact h4 j (by omega)))
set_option maxRecDepth 100000 in
set_option maxHeartbeats 4000000 in
theorem lp_Mo_projects (g : Gl) {w : Wd} {b sz : Nat} {sc : Nat → Int32} {ia : Nat → Nat → Int32} {la : Nat → Nat → Int64} (hM : MAt w b sc ia la) {e v ne wd : Nat} (he : e < 24) (hv : v < 12) (hce : ia 8 e = nI ne) (hne : ne ≤ 16) (hw : ia 0 v = nI wd) (hwd : wd ≤ 4) {G0 : MaB} (hg : sc 2 = nI G0.length) (hG : ar_bag (ia 12) (la 11) wd 0 G0.length = G0) {we : Nat} {cols : Nat → Nat} (hwe : we ≤ 4) (hcol : ∀ c, c < wd → (ia 4 v >>> (nI (4 * c) &&& 31)) &&& nI 15 = nI (cols c) ∧ cols c < we) (h0 : G0.length + 16 ≤ 256) {E : Rs → Wd → Nat → Prop} (hE : ∀ w', mo_gs w b sc ia la wd (ma_gf G0 (op_prj wd cols (ar_bag (ia 10) (la 9) we (16 * e) ne))) w' → E (.inl none) w' sz) : ∀ (zz : Nat) (r : Nat) (w1 : Wd), ne - r = zz → r ≤ ne → mo_gs w b sc ia la wd (ma_gf G0 (op_prj wd cols (ar_bag (ia 10) (la 9) we (16 * e) r))) w1 → VV g 2 0 0 mi_Mo_projects w sz E 2 [(3, .int (nI r)), (0, .ref b), (1, .int (nI e)), (2, .int (nI v))] [] w1 sz 0 0 := by
  intro zz
  induction zz using Nat.strongRecOn with | _ zz ih => _
  intro r w1 hnn hrn hgs
  obtain ⟨f1, o1, m1, h1, hfr, hGG⟩ := id hgs
  have hlen := ma_gf_len (op_prj wd cols (ar_bag (ia 10) (la 9) we (16 * e) r)) G0
  have hfl : (op_prj wd cols (ar_bag (ia 10) (la 9) we (16 * e) r)).length = r := by rw [op_prj_len, ar_bag_len]
  refine v_iload_n (pc := 2) d_Mo_projects_2 rfl rfl ?_
  refine v_aload_n (pc := 3) d_Mo_projects_3 rfl rfl ?_
  refine v_get (pc := 4) d_Mo_projects_4 fl_Mo_38 h1.o rfl ?_
  refine v_iload_n (pc := 7) d_Mo_projects_7 rfl rfl ?_
  refine v_ialdN (pc := 8) (k := e) (f := ia 8) d_Mo_projects_8 h1.a8 rfl (by omega) (by decide) ?_
  refine v_re hce ?_
  refine v_icmp_ge (pc := 9) (tgt := 86) d_Mo_projects_9 rfl (fun hc => ?_) (fun hc => ?_)
  · skip
    rw [nI_leI (by omega) (by omega)] at hc
    obtain rfl : r = ne := by omega
    exact v_vret (pc := 86) d_Mo_projects_86 rfl (Nat.le_of_ble_eq_true rfl) (Nat.le_of_ble_eq_true rfl) (hE w1 hgs)
  · skip
    rw [nI_leI (by omega) (by omega)] at hc
    refine v_iconst (pc := 12) (v := nI 0) d_Mo_projects_12 rfl ?_
    refine v_istore (pc := 13) (L' := [(4, .int (nI 0)), (3, .int (nI r)), (0, .ref b), (1, .int (nI e)), (2, .int (nI v))]) d_Mo_projects_13 (by decide) rfl ?_
    refine v_sub (L' := [(4, .int (nI 0)), (3, .int (nI r)), (0, .ref b), (1, .int (nI e)), (2, .int (nI v))]) (by simp) ?_
    refine lp1_Mo_projects g h1 (e := e) (v := v) (wd := wd) (we := we) (r := r) (cols := cols) he (by omega) hv hw hwd hwe hcol (fun w2 o2 h2 hf2 ho2 => ?_) wd 0 w1 o1 rfl (by omega) (by rw [bx_uu]; exact h1) mo_fr.rf (fun j hj => absurd hj (Nat.not_lt_zero _))
    rw [bx_uu] at h2
    have ho2 : ∀ j, j < wd → o2 j = ia 10 (4 * (16 * e + r) + cols j) := ho2
    refine v_aload_n (pc := 59) d_Mo_projects_59 rfl rfl ?_
    refine v_aload_n (pc := 60) d_Mo_projects_60 rfl rfl ?_
    refine v_get (pc := 61) d_Mo_projects_61 fl_Mo_13 h2.o rfl ?_
    refine v_iload_n (pc := 64) d_Mo_projects_64 rfl rfl ?_
    refine v_ialdN (pc := 65) (k := v) (f := ia 0) d_Mo_projects_65 h2.a0 rfl (by omega) (by decide) ?_
    refine v_re hw ?_
    refine v_aload_n (pc := 66) d_Mo_projects_66 rfl rfl ?_
    refine v_get (pc := 67) d_Mo_projects_67 fl_Mo_41 h2.o rfl ?_
    refine v_bipush (pc := 70) (v := nI 16) d_Mo_projects_70 rfl ?_
    refine v_iload_n (pc := 72) d_Mo_projects_72 rfl rfl ?_
    refine v_imul (pc := 73) d_Mo_projects_73 ?_
    refine v_re (pk_mul 16 e) ?_
    refine v_iload_n (pc := 74) d_Mo_projects_74 rfl rfl ?_
    refine v_iadd (pc := 75) d_Mo_projects_75 ?_
    refine v_re (nI_add (16 * e) r) ?_
    refine v_laldN (pc := 76) (k := (16 * e) + r) (f := la 9) d_Mo_projects_76 h2.a9 rfl (by omega) (by decide) ?_
    refine v_cvV (pc := 77) (A := [.int (nI wd), .long (la 9 ((16 * e) + r))]) (rest := []) d_Mo_projects_77 lk_Mo_94 me_Mo_gather im_Mo_gather se_Mo_gather rfl h2.o rfl rfl (c_Mo_gather g h2 (n := (ma_gf G0 (op_prj wd cols (ar_bag (ia 10) (la 9) we (16 * e) r))).length) (wd := wd) (many := la 9 (16 * e + r)) rfl (by omega) hwd) (Nat.le_of_ble_eq_true rfl) (Nat.le_of_ble_eq_true rfl) (Nat.le_of_ble_eq_true rfl) (Nat.le_of_ble_eq_true rfl) (fun w3 ht3 => ?_)
    have hnext : mo_gs w b sc ia la wd (ma_gf G0 (op_prj wd cols (ar_bag (ia 10) (la 9) we (16 * e) (r + 1)))) w3 := by
      have e9 := mo_gs.add (hfr.tr hf2) hGG ht3
      have e8 : ar_row o2 wd 0 = (List.range wd).map (fun c => (ar_row (ia 10) we (4 * (16 * e + r))).getD (cols c) 0) := by
        refine List.map_congr_left (fun c hc => ?_)
        have hc := List.mem_range.mp hc
        rw [ar_row_getD (hcol c hc).2, Nat.zero_add]
        exact ho2 c hc
      rw [e8] at e9
      unfold op_prj at e9 ⊢
      rw [ar_bag_snoc, List.map_append, List.map_cons, List.map_nil, ma_gf_snoc]
      exact e9
    refine v_iinc (pc := 80) (L' := [(3, .int (nI (r + 1))), (4, .int (nI wd)), (0, .ref b), (1, .int (nI e)), (2, .int (nI v))]) d_Mo_projects_80 rfl (ix_inc _) (by decide) rfl ?_
    refine v_goto (pc := 83) (tgt := 2) d_Mo_projects_83 rfl ?_
    refine v_sub (L' := [(3, .int (nI (r + 1))), (0, .ref b), (1, .int (nI e)), (2, .int (nI v))]) (by simp) ?_
    exact ih (ne - (r + 1)) (by omega) (r + 1) _ rfl (by omega) hnext
set_option maxRecDepth 100000 in
set_option maxHeartbeats 4000000 in
theorem c_Mo_projects (g : Gl) {w : Wd} {b sz : Nat} {sc : Nat → Int32} {ia : Nat → Nat → Int32} {la : Nat → Nat → Int64} (hM : MAt w b sc ia la) {e v ne wd : Nat} (he : e < 24) (hv : v < 12) (hce : ia 8 e = nI ne) (hne : ne ≤ 16) (hw : ia 0 v = nI wd) (hwd : wd ≤ 4) {G0 : MaB} (hg : sc 2 = nI G0.length) (hG : ar_bag (ia 12) (la 11) wd 0 G0.length = G0) {we : Nat} {cols : Nat → Nat} (hwe : we ≤ 4) (hcol : ∀ c, c < wd → (ia 4 v >>> (nI (4 * c) &&& 31)) &&& nI 15 = nI (cols c) ∧ cols c < we) (h0 : G0.length + 16 ≤ 256) : CT g 2 0 0 mi_Mo_projects [.ref b, .int (nI e), .int (nI v)] w sz (wrE none sz (mo_gs w b sc ia la wd (ma_gf G0 (op_prj wd cols (ar_bag (ia 10) (la 9) we (16 * e) ne))))) := by
  refine CT.of (by decide) (Nat.le_of_ble_eq_true rfl) ?_
  refine v_iconst (pc := 0) (v := nI 0) d_Mo_projects_0 rfl ?_
  refine v_istore_n (pc := 1) (L' := [(3, .int (nI 0)), (0, .ref b), (1, .int (nI e)), (2, .int (nI v))]) d_Mo_projects_1 rfl (by decide) rfl ?_
  refine v_sub (L' := [(3, .int (nI 0)), (0, .ref b), (1, .int (nI e)), (2, .int (nI v))]) (by simp) ?_
  exact lp_Mo_projects g hM he hv hce hne hw hwd hg hG hwe hcol h0 (fun w' h => ⟨rfl, rfl, h⟩) ne 0 w rfl (by omega) (mo_gs.start hM hg hG)
end
section
theorem ar_row_app (f : Nat → Int32) (m a : Nat) : ∀ n, ar_row f (m + n) a = ar_row f m a ++ ar_row f n (a + m)
  | 0 => by rw [Nat.add_zero, ar_row_0, List.append_nil]
  | n + 1 => by rw [← Nat.add_assoc, ar_row_snoc, ar_row_app f m a n, ar_row_snoc, List.append_assoc, Nat.add_assoc]
theorem op_jn1_len (p q : Nat) (y : List Int32 × Int64) (C : MaB) : (op_jn1 p q y C).length ≤ C.length := by
  unfold op_jn1
  rw [List.length_map]
  exact List.length_filter_le _ _
theorem op_jn_len (p q : Nat) (C : MaB) : ∀ B : MaB, (op_jn p q B C).length ≤ B.length * C.length
  | [] => by simp [op_jn]
  | y :: B => by
    have h1 := op_jn_len p q C B
    have h2 := op_jn1_len p q y C
    unfold op_jn at h1 ⊢
    rw [List.flatMap_cons, List.length_append, List.length_cons, Nat.succ_mul]
    omega
theorem op_jn_snoc (p q : Nat) (B C : MaB) (y : List Int32 × Int64) : op_jn p q (B ++ [y]) C = op_jn p q B C ++ op_jn1 p q y C := by
  unfold op_jn
  rw [List.flatMap_append, List.flatMap_cons, List.flatMap_nil, List.append_nil]
theorem op_jn1_snoc1 {p q : Nat} {y z : List Int32 × Int64} {C : MaB} (h : y.1.getD p 0 = z.1.getD q 0) : op_jn1 p q y (C ++ [z]) = op_jn1 p q y C ++ [(y.1 ++ z.1, y.2 * z.2)] := by
  unfold op_jn1
  rw [List.filter_append, List.filter_cons_of_pos (by rw [decide_eq_true_eq]; exact h), List.filter_nil, List.map_append, List.map_cons, List.map_nil]
theorem op_jn1_snoc0 {p q : Nat} {y z : List Int32 × Int64} {C : MaB} (h : ¬ y.1.getD p 0 = z.1.getD q 0) : op_jn1 p q y (C ++ [z]) = op_jn1 p q y C := by
  unfold op_jn1
  rw [List.filter_append, List.filter_cons_of_neg (by rw [decide_eq_true_eq]; exact h), List.filter_nil, List.append_nil]
set_option maxRecDepth 100000 in
set_option maxHeartbeats 4000000 in
theorem lp1_Mo_joins (g : Gl) {w0 w : Wd} {b sz : Nat} {sc : Nat → Int32} {ia : Nat → Nat → Int32} {la : Nat → Nat → Int64} (hM : MAt w b sc ia la) {e f v wl wr r s : Nat} (her : e < 24) (hfr' : f < 24) (hr : r < 16) (hs : s < 16) (hv : v < 12) (hw : ia 0 v = nI (wl + wr)) (hwd : wl + wr ≤ 4) {E : Rs → Wd → Nat → Prop} (K : ∀ w1 o1, MAt w1 b sc (va_up ia 13 o1) la → mo_fr b w w1 → (∀ j, j < wl + wr → o1 j = (if j < wl then ia 10 (4 * (16 * e + r) + j) else ia 10 (4 * (16 * f + s) + (j - wl)))) → VV g 2 0 0 mi_Mo_joins w0 sz E 128 [(7, .int (nI (wl + wr))), (6, .int (nI s)), (5, .int (nI r)), (4, .int (nI wl)), (0, .ref b), (1, .int (nI e)), (2, .int (nI f)), (3, .int (nI v))] [] w1 sz 0 0) : ∀ (zz : Nat) (c : Nat) (w1 : Wd) (o1 : Nat → Int32), wl + wr - c = zz → c ≤ wl + wr → MAt w1 b sc (va_up ia 13 o1) la → mo_fr b w w1 → (∀ j, j < c → o1 j = (if j < wl then ia 10 (4 * (16 * e + r) + j) else ia 10 (4 * (16 * f + s) + (j - wl)))) → VV g 2 0 0 mi_Mo_joins w0 sz E 73 [(7, .int (nI c)), (6, .int (nI s)), (5, .int (nI r)), (4, .int (nI wl)), (0, .ref b), (1, .int (nI e)), (2, .int (nI f)), (3, .int (nI v))] [] w1 sz 0 0 := by
  intro zz
  induction zz using Nat.strongRecOn with | _ zz ih => _
  intro c w1 o1 hnn hcw h1 h3 h4
  refine v_iload (pc := 73) d_Mo_joins_73 rfl ?_
  refine v_aload_n (pc := 75) d_Mo_joins_75 rfl rfl ?_
  refine v_get (pc := 76) d_Mo_joins_76 fl_Mo_13 h1.o rfl ?_
  refine v_iload_n (pc := 79) d_Mo_joins_79 rfl rfl ?_
  refine v_ialdN (pc := 80) (k := v) (f := ia 0) d_Mo_joins_80 h1.a0 rfl (by omega) (by decide) ?_
  refine v_re hw ?_
  refine v_icmp_ge (pc := 81) (tgt := 128) d_Mo_joins_81 rfl (fun hc => ?_) (fun hc => ?_)
  · skip
    rw [nI_leI (by omega) (by omega)] at hc
    obtain rfl : c = wl + wr := by omega
    exact K w1 o1 h1 h3 h4
  · skip
    rw [nI_leI (by omega) (by omega)] at hc
    refine v_aload_n (pc := 84) d_Mo_joins_84 rfl rfl ?_
    refine v_get (pc := 85) d_Mo_joins_85 fl_Mo_54 h1.o rfl ?_
    refine v_iload (pc := 88) d_Mo_joins_88 rfl ?_
    refine v_iload (pc := 90) d_Mo_joins_90 rfl ?_
    refine v_iload (pc := 92) d_Mo_joins_92 rfl ?_
    refine v_icmp_ge (pc := 94) (tgt := 109) d_Mo_joins_94 rfl (fun hc => ?_) (fun hc => ?_)
    · skip
      rw [nI_leI (by omega) (by omega)] at hc
      refine v_aload_n (pc := 109) d_Mo_joins_109 rfl rfl ?_
      refine v_iload_n (pc := 110) d_Mo_joins_110 rfl rfl ?_
      refine v_iload (pc := 111) d_Mo_joins_111 rfl ?_
      refine v_iload (pc := 113) d_Mo_joins_113 rfl ?_
      refine v_iload (pc := 115) d_Mo_joins_115 rfl ?_
      refine v_isub (pc := 117) d_Mo_joins_117 ?_
      refine v_re (pk_sub (a := c) (b := wl) (by omega)) ?_
      refine v_cvR (pc := 118) (A := [.int (nI f), .int (nI s), .int (nI (c - wl))]) (rest := [.int (nI c), .ref (b + 14)]) (x := .int (ia 10 (4 * (16 * f + s) + (c - wl)))) d_Mo_joins_118 lk_Mo_83 me_Mo_cellOf im_Mo_cellOf se_Mo_cellOf rfl h1.o rfl rfl (c_Mo_cellOf g h1 (k := f) (r := s) (c := c - wl) (by omega)) (Nat.le_of_ble_eq_true rfl) (Nat.le_of_ble_eq_true rfl) (Nat.le_of_ble_eq_true rfl) (Nat.le_of_ble_eq_true rfl) ?_
      refine v_re (y := (if c < wl then ia 10 (4 * (16 * e + r) + c) else ia 10 (4 * (16 * f + s) + (c - wl)))) (if_neg (by omega)).symm ?_
      refine v_iastW (pc := 121) (k := c) (f := o1) d_Mo_joins_121 h1.a13 rfl (by omega) (by decide) (fun w2 hn2 hq2 => ?_)
      have h2 := h1.s13 hn2 hq2
      rw [bx_uu] at h2
      refine v_iinc (pc := 122) (L' := [(7, .int (nI (c + 1))), (6, .int (nI s)), (5, .int (nI r)), (4, .int (nI wl)), (0, .ref b), (1, .int (nI e)), (2, .int (nI f)), (3, .int (nI v))]) d_Mo_joins_122 rfl (ix_inc _) (by decide) rfl ?_
      refine v_goto (pc := 125) (tgt := 73) d_Mo_joins_125 rfl ?_
      refine v_sub (L' := [(7, .int (nI (c + 1))), (6, .int (nI s)), (5, .int (nI r)), (4, .int (nI wl)), (0, .ref b), (1, .int (nI e)), (2, .int (nI f)), (3, .int (nI v))]) (by simp) ?_
      exact ih (wl + wr - (c + 1)) (by omega) (c + 1) w2 _ rfl (by omega) h2 (h3.at ⟨by omega, by omega⟩ hq2) (fun j hj => by by_cases hjc : j = c; (subst hjc; exact pk_us); (rw [pk_un (by omega)]; exact h4 j (by omega)))
    · skip
      rw [nI_leI (by omega) (by omega)] at hc
      refine v_aload_n (pc := 97) d_Mo_joins_97 rfl rfl ?_
      refine v_iload_n (pc := 98) d_Mo_joins_98 rfl rfl ?_
      refine v_iload (pc := 99) d_Mo_joins_99 rfl ?_
      refine v_iload (pc := 101) d_Mo_joins_101 rfl ?_
      refine v_cvR (pc := 103) (A := [.int (nI e), .int (nI r), .int (nI c)]) (rest := [.int (nI c), .ref (b + 14)]) (x := .int (ia 10 (4 * (16 * e + r) + c))) d_Mo_joins_103 lk_Mo_83 me_Mo_cellOf im_Mo_cellOf se_Mo_cellOf rfl h1.o rfl rfl (c_Mo_cellOf g h1 (k := e) (r := r) (c := c) (by omega)) (Nat.le_of_ble_eq_true rfl) (Nat.le_of_ble_eq_true rfl) (Nat.le_of_ble_eq_true rfl) (Nat.le_of_ble_eq_true rfl) ?_
      refine v_re (y := (if c < wl then ia 10 (4 * (16 * e + r) + c) else ia 10 (4 * (16 * f + s) + (c - wl)))) (if_pos (by omega)).symm ?_
      refine v_goto (pc := 106) (tgt := 121) d_Mo_joins_106 rfl ?_
      refine v_iastW (pc := 121) (k := c) (f := o1) d_Mo_joins_121 h1.a13 rfl (by omega) (by decide) (fun w2 hn2 hq2 => ?_)
      have h2 := h1.s13 hn2 hq2
      rw [bx_uu] at h2
      refine v_iinc (pc := 122) (L' := [(7, .int (nI (c + 1))), (6, .int (nI s)), (5, .int (nI r)), (4, .int (nI wl)), (0, .ref b), (1, .int (nI e)), (2, .int (nI f)), (3, .int (nI v))]) d_Mo_joins_122 rfl (ix_inc _) (by decide) rfl ?_
      refine v_goto (pc := 125) (tgt := 73) d_Mo_joins_125 rfl ?_
      refine v_sub (L' := [(7, .int (nI (c + 1))), (6, .int (nI s)), (5, .int (nI r)), (4, .int (nI wl)), (0, .ref b), (1, .int (nI e)), (2, .int (nI f)), (3, .int (nI v))]) (by simp) ?_
      exact ih (wl + wr - (c + 1)) (by omega) (c + 1) w2 _ rfl (by omega) h2 (h3.at ⟨by omega, by omega⟩ hq2) (fun j hj => by by_cases hjc : j = c; (subst hjc; exact pk_us); (rw [pk_un (by omega)]; exact h4 j (by omega)))
set_option maxRecDepth 100000 in
set_option maxHeartbeats 4000000 in
theorem lp2_Mo_joins (g : Gl) {w0 w : Wd} {b sz : Nat} {sc : Nat → Int32} {ia : Nat → Nat → Int32} {la : Nat → Nat → Int64} (hM : MAt w b sc ia la) {e f v ne nf wl wr p q x : Nat} (he : e < 24) (hf : f < 24) (hv : v < 12) (hce : ia 8 e = nI ne) (hne : ne ≤ 16) (hcf : ia 8 f = nI nf) (hnf : nf ≤ 16) (hw : ia 0 v = nI (wl + wr)) (hwd : wl + wr ≤ 4) (hp : ia 4 v = nI p) (hpl : p < wl) (hq : ia 5 v = nI q) (hqr : q < wr) (hx : ia 2 v = nI x) (hx12 : x < 12) (hwx : ia 0 x = nI wl) (hg : sc 2 = nI 0) {r : Nat} (hr : r < ne) {E : Rs → Wd → Nat → Prop} (K : ∀ w1, mo_gs w b sc ia la (wl + wr) (ma_gf [] ((op_jn p q (ar_bag (ia 10) (la 9) wl (16 * e) r) (ar_bag (ia 10) (la 9) wr (16 * f) nf)) ++ op_jn1 p q (ar_row (ia 10) wl (4 * (16 * e + r)), la 9 (16 * e + r)) (ar_bag (ia 10) (la 9) wr (16 * f) nf))) w1 → VV g 2 0 0 mi_Mo_joins w0 sz E 169 [(6, .int (nI nf)), (5, .int (nI r)), (4, .int (nI wl)), (0, .ref b), (1, .int (nI e)), (2, .int (nI f)), (3, .int (nI v))] [] w1 sz 0 0) : ∀ (zz : Nat) (s : Nat) (w1 : Wd), nf - s = zz → s ≤ nf → mo_gs w b sc ia la (wl + wr) (ma_gf [] ((op_jn p q (ar_bag (ia 10) (la 9) wl (16 * e) r) (ar_bag (ia 10) (la 9) wr (16 * f) nf)) ++ op_jn1 p q (ar_row (ia 10) wl (4 * (16 * e + r)), la 9 (16 * e + r)) (ar_bag (ia 10) (la 9) wr (16 * f) s))) w1 → VV g 2 0 0 mi_Mo_joins w0 sz E 30 [(6, .int (nI s)), (5, .int (nI r)), (4, .int (nI wl)), (0, .ref b), (1, .int (nI e)), (2, .int (nI f)), (3, .int (nI v))] [] w1 sz 0 0 := by
  intro zz
  induction zz using Nat.strongRecOn with | _ zz ih => _
  intro s w1 hnn hsn hgs
  obtain ⟨f1, o1, m1, h1, hfr, hGG⟩ := id hgs
  have hlen := ma_gf_len ((op_jn p q (ar_bag (ia 10) (la 9) wl (16 * e) r) (ar_bag (ia 10) (la 9) wr (16 * f) nf)) ++ op_jn1 p q (ar_row (ia 10) wl (4 * (16 * e + r)), la 9 (16 * e + r)) (ar_bag (ia 10) (la 9) wr (16 * f) s)) []
  have hl1 := op_jn1_len p q (ar_row (ia 10) wl (4 * (16 * e + r)), la 9 (16 * e + r)) (ar_bag (ia 10) (la 9) wr (16 * f) s)
  have hl2 := op_jn_len p q (ar_bag (ia 10) (la 9) wr (16 * f) nf) (ar_bag (ia 10) (la 9) wl (16 * e) r)
  rw [List.length_append] at hlen
  rw [ar_bag_len] at hl1
  rw [ar_bag_len, ar_bag_len] at hl2
  have hl3 : r * nf ≤ r * 16 := Nat.mul_le_mul_left r hnf
  have hl0 : ([] : MaB).length = 0 := rfl
  refine v_iload (pc := 30) d_Mo_joins_30 rfl ?_
  refine v_aload_n (pc := 32) d_Mo_joins_32 rfl rfl ?_
  refine v_get (pc := 33) d_Mo_joins_33 fl_Mo_38 h1.o rfl ?_
  refine v_iload_n (pc := 36) d_Mo_joins_36 rfl rfl ?_
  refine v_ialdN (pc := 37) (k := f) (f := ia 8) d_Mo_joins_37 h1.a8 rfl (by omega) (by decide) ?_
  refine v_re hcf ?_
  refine v_icmp_ge (pc := 38) (tgt := 169) d_Mo_joins_38 rfl (fun hc => ?_) (fun hc => ?_)
  · skip
    rw [nI_leI (by omega) (by omega)] at hc
    obtain rfl : s = nf := by omega
    exact K w1 hgs
  · skip
    rw [nI_leI (by omega) (by omega)] at hc
    refine v_aload_n (pc := 41) d_Mo_joins_41 rfl rfl ?_
    refine v_iload_n (pc := 42) d_Mo_joins_42 rfl rfl ?_
    refine v_iload (pc := 43) d_Mo_joins_43 rfl ?_
    refine v_aload_n (pc := 45) d_Mo_joins_45 rfl rfl ?_
    refine v_get (pc := 46) d_Mo_joins_46 fl_Mo_26 h1.o rfl ?_
    refine v_iload_n (pc := 49) d_Mo_joins_49 rfl rfl ?_
    refine v_ialdN (pc := 50) (k := v) (f := ia 4) d_Mo_joins_50 h1.a4 rfl (by omega) (by decide) ?_
    refine v_re hp ?_
    refine v_cvR (pc := 51) (A := [.int (nI e), .int (nI r), .int (nI p)]) (rest := []) (x := .int (ia 10 (4 * (16 * e + r) + p))) d_Mo_joins_51 lk_Mo_83 me_Mo_cellOf im_Mo_cellOf se_Mo_cellOf rfl h1.o rfl rfl (c_Mo_cellOf g h1 (k := e) (r := r) (c := p) (by omega)) (Nat.le_of_ble_eq_true rfl) (Nat.le_of_ble_eq_true rfl) (Nat.le_of_ble_eq_true rfl) (Nat.le_of_ble_eq_true rfl) ?_
    refine v_aload_n (pc := 54) d_Mo_joins_54 rfl rfl ?_
    refine v_iload_n (pc := 55) d_Mo_joins_55 rfl rfl ?_
    refine v_iload (pc := 56) d_Mo_joins_56 rfl ?_
    refine v_aload_n (pc := 58) d_Mo_joins_58 rfl rfl ?_
    refine v_get (pc := 59) d_Mo_joins_59 fl_Mo_29 h1.o rfl ?_
    refine v_iload_n (pc := 62) d_Mo_joins_62 rfl rfl ?_
    refine v_ialdN (pc := 63) (k := v) (f := ia 5) d_Mo_joins_63 h1.a5 rfl (by omega) (by decide) ?_
    refine v_re hq ?_
    refine v_cvR (pc := 64) (A := [.int (nI f), .int (nI s), .int (nI q)]) (rest := [.int (ia 10 (4 * (16 * e + r) + p))]) (x := .int (ia 10 (4 * (16 * f + s) + q))) d_Mo_joins_64 lk_Mo_83 me_Mo_cellOf im_Mo_cellOf se_Mo_cellOf rfl h1.o rfl rfl (c_Mo_cellOf g h1 (k := f) (r := s) (c := q) (by omega)) (Nat.le_of_ble_eq_true rfl) (Nat.le_of_ble_eq_true rfl) (Nat.le_of_ble_eq_true rfl) (Nat.le_of_ble_eq_true rfl) ?_
    refine v_icmp_ne (pc := 67) (tgt := 163) d_Mo_joins_67 rfl (fun hc => ?_) (fun hc => ?_)
    · skip
      have hnext : mo_gs w b sc ia la (wl + wr) (ma_gf [] ((op_jn p q (ar_bag (ia 10) (la 9) wl (16 * e) r) (ar_bag (ia 10) (la 9) wr (16 * f) nf)) ++ op_jn1 p q (ar_row (ia 10) wl (4 * (16 * e + r)), la 9 (16 * e + r)) (ar_bag (ia 10) (la 9) wr (16 * f) (s + 1)))) w1 := by
        rw [ar_bag_snoc, op_jn1_snoc0 (by show ¬ (ar_row (ia 10) wl (4 * (16 * e + r))).getD p 0 = (ar_row (ia 10) wr (4 * (16 * f + s))).getD q 0; rw [ar_row_getD hpl, ar_row_getD hqr]; exact hc)]
        exact hgs
      refine v_iinc (pc := 163) (L' := [(6, .int (nI (s + 1))), (5, .int (nI r)), (4, .int (nI wl)), (0, .ref b), (1, .int (nI e)), (2, .int (nI f)), (3, .int (nI v))]) d_Mo_joins_163 rfl (ix_inc _) (by decide) rfl ?_
      refine v_goto (pc := 166) (tgt := 30) d_Mo_joins_166 rfl ?_
      refine v_sub (L' := [(6, .int (nI (s + 1))), (5, .int (nI r)), (4, .int (nI wl)), (0, .ref b), (1, .int (nI e)), (2, .int (nI f)), (3, .int (nI v))]) (by simp) ?_
      exact ih (nf - (s + 1)) (by omega) (s + 1) _ rfl (by omega) hnext
    · skip
      refine v_iconst (pc := 70) (v := nI 0) d_Mo_joins_70 rfl ?_
      refine v_istore (pc := 71) (L' := [(7, .int (nI 0)), (6, .int (nI s)), (5, .int (nI r)), (4, .int (nI wl)), (0, .ref b), (1, .int (nI e)), (2, .int (nI f)), (3, .int (nI v))]) d_Mo_joins_71 (by decide) rfl ?_
      refine v_sub (L' := [(7, .int (nI 0)), (6, .int (nI s)), (5, .int (nI r)), (4, .int (nI wl)), (0, .ref b), (1, .int (nI e)), (2, .int (nI f)), (3, .int (nI v))]) (by simp) ?_
      refine lp1_Mo_joins g h1 (e := e) (f := f) (v := v) (wl := wl) (wr := wr) (r := r) (s := s) he hf (by omega) (by omega) hv hw hwd (fun w2 o2 h2 hf2 ho2 => ?_) (wl + wr) 0 w1 o1 rfl (by omega) (by rw [bx_uu]; exact h1) mo_fr.rf (fun j hj => absurd hj (Nat.not_lt_zero _))
      rw [bx_uu] at h2
      have ho2 : ∀ j, j < wl + wr → o2 j = (if j < wl then ia 10 (4 * (16 * e + r) + j) else ia 10 (4 * (16 * f + s) + (j - wl))) := ho2
      refine v_aload_n (pc := 128) d_Mo_joins_128 rfl rfl ?_
      refine v_aload_n (pc := 129) d_Mo_joins_129 rfl rfl ?_
      refine v_get (pc := 130) d_Mo_joins_130 fl_Mo_13 h2.o rfl ?_
      refine v_iload_n (pc := 133) d_Mo_joins_133 rfl rfl ?_
      refine v_ialdN (pc := 134) (k := v) (f := ia 0) d_Mo_joins_134 h2.a0 rfl (by omega) (by decide) ?_
      refine v_re hw ?_
      refine v_aload_n (pc := 135) d_Mo_joins_135 rfl rfl ?_
      refine v_get (pc := 136) d_Mo_joins_136 fl_Mo_41 h2.o rfl ?_
      refine v_bipush (pc := 139) (v := nI 16) d_Mo_joins_139 rfl ?_
      refine v_iload_n (pc := 141) d_Mo_joins_141 rfl rfl ?_
      refine v_imul (pc := 142) d_Mo_joins_142 ?_
      refine v_re (pk_mul 16 e) ?_
      refine v_iload (pc := 143) d_Mo_joins_143 rfl ?_
      refine v_iadd (pc := 145) d_Mo_joins_145 ?_
      refine v_re (nI_add (16 * e) r) ?_
      refine v_laldN (pc := 146) (k := (16 * e) + r) (f := la 9) d_Mo_joins_146 h2.a9 rfl (by omega) (by decide) ?_
      refine v_aload_n (pc := 147) d_Mo_joins_147 rfl rfl ?_
      refine v_get (pc := 148) d_Mo_joins_148 fl_Mo_41 h2.o rfl ?_
      refine v_bipush (pc := 151) (v := nI 16) d_Mo_joins_151 rfl ?_
      refine v_iload_n (pc := 153) d_Mo_joins_153 rfl rfl ?_
      refine v_imul (pc := 154) d_Mo_joins_154 ?_
      refine v_re (pk_mul 16 f) ?_
      refine v_iload (pc := 155) d_Mo_joins_155 rfl ?_
      refine v_iadd (pc := 157) d_Mo_joins_157 ?_
      refine v_re (nI_add (16 * f) s) ?_
      refine v_laldN (pc := 158) (k := (16 * f) + s) (f := la 9) d_Mo_joins_158 h2.a9 rfl (by omega) (by decide) ?_
      refine v_lmul (pc := 159) d_Mo_joins_159 ?_
      refine v_cvV (pc := 160) (A := [.int (nI (wl + wr)), .long (la 9 ((16 * e) + r) * la 9 ((16 * f) + s))]) (rest := []) d_Mo_joins_160 lk_Mo_94 me_Mo_gather im_Mo_gather se_Mo_gather rfl h2.o rfl rfl (c_Mo_gather g h2 (n := (ma_gf [] ((op_jn p q (ar_bag (ia 10) (la 9) wl (16 * e) r) (ar_bag (ia 10) (la 9) wr (16 * f) nf)) ++ op_jn1 p q (ar_row (ia 10) wl (4 * (16 * e + r)), la 9 (16 * e + r)) (ar_bag (ia 10) (la 9) wr (16 * f) s))).length) (wd := wl + wr) (many := la 9 (16 * e + r) * la 9 (16 * f + s)) rfl (by omega) hwd) (Nat.le_of_ble_eq_true rfl) (Nat.le_of_ble_eq_true rfl) (Nat.le_of_ble_eq_true rfl) (Nat.le_of_ble_eq_true rfl) (fun w3 ht3 => ?_)
      have hnext : mo_gs w b sc ia la (wl + wr) (ma_gf [] ((op_jn p q (ar_bag (ia 10) (la 9) wl (16 * e) r) (ar_bag (ia 10) (la 9) wr (16 * f) nf)) ++ op_jn1 p q (ar_row (ia 10) wl (4 * (16 * e + r)), la 9 (16 * e + r)) (ar_bag (ia 10) (la 9) wr (16 * f) (s + 1)))) w3 := by
        have e9 := mo_gs.add (hfr.tr hf2) hGG ht3
        have e8 : ar_row o2 (wl + wr) 0 = ar_row (ia 10) wl (4 * (16 * e + r)) ++ ar_row (ia 10) wr (4 * (16 * f + s)) := by
          rw [ar_row_app]
          have e7 : ar_row o2 wl 0 = ar_row (ia 10) wl (4 * (16 * e + r)) := ar_row_congr (fun c hc => by rw [Nat.zero_add, ho2 c (by omega), if_pos hc])
          have e6 : ar_row o2 wr (0 + wl) = ar_row (ia 10) wr (4 * (16 * f + s)) := ar_row_congr (fun c hc => by rw [ho2 _ (by omega), if_neg (by omega)]; congr 1; omega)
          rw [e7, e6]
        rw [e8] at e9
        rw [ar_bag_snoc, op_jn1_snoc1 (by show (ar_row (ia 10) wl (4 * (16 * e + r))).getD p 0 = (ar_row (ia 10) wr (4 * (16 * f + s))).getD q 0; rw [ar_row_getD hpl, ar_row_getD hqr]; exact hc), ← List.append_assoc, ma_gf_snoc]
        exact e9
      refine v_iinc (pc := 163) (L' := [(6, .int (nI (s + 1))), (7, .int (nI (wl + wr))), (5, .int (nI r)), (4, .int (nI wl)), (0, .ref b), (1, .int (nI e)), (2, .int (nI f)), (3, .int (nI v))]) d_Mo_joins_163 rfl (ix_inc _) (by decide) rfl ?_
      refine v_goto (pc := 166) (tgt := 30) d_Mo_joins_166 rfl ?_
      refine v_sub (L' := [(6, .int (nI (s + 1))), (5, .int (nI r)), (4, .int (nI wl)), (0, .ref b), (1, .int (nI e)), (2, .int (nI f)), (3, .int (nI v))]) (by simp) ?_
      exact ih (nf - (s + 1)) (by omega) (s + 1) _ rfl (by omega) hnext
set_option maxRecDepth 100000 in
set_option maxHeartbeats 4000000 in
theorem lp_Mo_joins (g : Gl) {w : Wd} {b sz : Nat} {sc : Nat → Int32} {ia : Nat → Nat → Int32} {la : Nat → Nat → Int64} (hM : MAt w b sc ia la) {e f v ne nf wl wr p q x : Nat} (he : e < 24) (hf : f < 24) (hv : v < 12) (hce : ia 8 e = nI ne) (hne : ne ≤ 16) (hcf : ia 8 f = nI nf) (hnf : nf ≤ 16) (hw : ia 0 v = nI (wl + wr)) (hwd : wl + wr ≤ 4) (hp : ia 4 v = nI p) (hpl : p < wl) (hq : ia 5 v = nI q) (hqr : q < wr) (hx : ia 2 v = nI x) (hx12 : x < 12) (hwx : ia 0 x = nI wl) (hg : sc 2 = nI 0) {E : Rs → Wd → Nat → Prop} (hE : ∀ w', mo_gs w b sc ia la (wl + wr) (ma_gf [] (op_jn p q (ar_bag (ia 10) (la 9) wl (16 * e) ne) (ar_bag (ia 10) (la 9) wr (16 * f) nf))) w' → E (.inl none) w' sz) : ∀ (zz : Nat) (r : Nat) (w1 : Wd), ne - r = zz → r ≤ ne → mo_gs w b sc ia la (wl + wr) (ma_gf [] (op_jn p q (ar_bag (ia 10) (la 9) wl (16 * e) r) (ar_bag (ia 10) (la 9) wr (16 * f) nf))) w1 → VV g 2 0 0 mi_Mo_joins w sz E 16 [(5, .int (nI r)), (4, .int (nI wl)), (0, .ref b), (1, .int (nI e)), (2, .int (nI f)), (3, .int (nI v))] [] w1 sz 0 0 := by
  intro zz
  induction zz using Nat.strongRecOn with | _ zz ih => _
  intro r w1 hnn hrn hgs
  obtain ⟨f1, o1, m1, h1, hfr, hGG⟩ := id hgs
  refine v_iload (pc := 16) d_Mo_joins_16 rfl ?_
  refine v_aload_n (pc := 18) d_Mo_joins_18 rfl rfl ?_
  refine v_get (pc := 19) d_Mo_joins_19 fl_Mo_38 h1.o rfl ?_
  refine v_iload_n (pc := 22) d_Mo_joins_22 rfl rfl ?_
  refine v_ialdN (pc := 23) (k := e) (f := ia 8) d_Mo_joins_23 h1.a8 rfl (by omega) (by decide) ?_
  refine v_re hce ?_
  refine v_icmp_ge (pc := 24) (tgt := 175) d_Mo_joins_24 rfl (fun hc => ?_) (fun hc => ?_)
  · skip
    rw [nI_leI (by omega) (by omega)] at hc
    obtain rfl : r = ne := by omega
    exact v_vret (pc := 175) d_Mo_joins_175 rfl (Nat.le_of_ble_eq_true rfl) (Nat.le_of_ble_eq_true rfl) (hE w1 hgs)
  · skip
    rw [nI_leI (by omega) (by omega)] at hc
    refine v_iconst (pc := 27) (v := nI 0) d_Mo_joins_27 rfl ?_
    refine v_istore (pc := 28) (L' := [(6, .int (nI 0)), (5, .int (nI r)), (4, .int (nI wl)), (0, .ref b), (1, .int (nI e)), (2, .int (nI f)), (3, .int (nI v))]) d_Mo_joins_28 (by decide) rfl ?_
    refine v_sub (L' := [(6, .int (nI 0)), (5, .int (nI r)), (4, .int (nI wl)), (0, .ref b), (1, .int (nI e)), (2, .int (nI f)), (3, .int (nI v))]) (by simp) ?_
    refine lp2_Mo_joins g hM he hf hv hce hne hcf hnf hw hwd hp hpl hq hqr hx hx12 hwx hg (r := r) (by omega) (fun w2 hgs2 => ?_) nf 0 w1 rfl (by omega) (by rw [show ar_bag (ia 10) (la 9) wr (16 * f) 0 = [] from rfl, show op_jn1 p q (ar_row (ia 10) wl (4 * (16 * e + r)), la 9 (16 * e + r)) [] = [] from rfl, List.append_nil]; exact hgs)
    have hnext : mo_gs w b sc ia la (wl + wr) (ma_gf [] (op_jn p q (ar_bag (ia 10) (la 9) wl (16 * e) (r + 1)) (ar_bag (ia 10) (la 9) wr (16 * f) nf))) w2 := by
      rw [ar_bag_snoc, op_jn_snoc]
      exact hgs2
    refine v_iinc (pc := 169) (L' := [(5, .int (nI (r + 1))), (6, .int (nI nf)), (4, .int (nI wl)), (0, .ref b), (1, .int (nI e)), (2, .int (nI f)), (3, .int (nI v))]) d_Mo_joins_169 rfl (ix_inc _) (by decide) rfl ?_
    refine v_goto (pc := 172) (tgt := 16) d_Mo_joins_172 rfl ?_
    refine v_sub (L' := [(5, .int (nI (r + 1))), (4, .int (nI wl)), (0, .ref b), (1, .int (nI e)), (2, .int (nI f)), (3, .int (nI v))]) (by simp) ?_
    exact ih (ne - (r + 1)) (by omega) (r + 1) _ rfl (by omega) hnext
set_option maxRecDepth 100000 in
set_option maxHeartbeats 4000000 in
theorem c_Mo_joins (g : Gl) {w : Wd} {b sz : Nat} {sc : Nat → Int32} {ia : Nat → Nat → Int32} {la : Nat → Nat → Int64} (hM : MAt w b sc ia la) {e f v ne nf wl wr p q x : Nat} (he : e < 24) (hf : f < 24) (hv : v < 12) (hce : ia 8 e = nI ne) (hne : ne ≤ 16) (hcf : ia 8 f = nI nf) (hnf : nf ≤ 16) (hw : ia 0 v = nI (wl + wr)) (hwd : wl + wr ≤ 4) (hp : ia 4 v = nI p) (hpl : p < wl) (hq : ia 5 v = nI q) (hqr : q < wr) (hx : ia 2 v = nI x) (hx12 : x < 12) (hwx : ia 0 x = nI wl) (hg : sc 2 = nI 0) : CT g 2 0 0 mi_Mo_joins [.ref b, .int (nI e), .int (nI f), .int (nI v)] w sz (wrE none sz (mo_gs w b sc ia la (wl + wr) (ma_gf [] (op_jn p q (ar_bag (ia 10) (la 9) wl (16 * e) ne) (ar_bag (ia 10) (la 9) wr (16 * f) nf))) )) := by
  refine CT.of (by decide) (Nat.le_of_ble_eq_true rfl) ?_
  refine v_aload_n (pc := 0) d_Mo_joins_0 rfl rfl ?_
  refine v_get (pc := 1) d_Mo_joins_1 fl_Mo_13 hM.o rfl ?_
  refine v_aload_n (pc := 4) d_Mo_joins_4 rfl rfl ?_
  refine v_get (pc := 5) d_Mo_joins_5 fl_Mo_20 hM.o rfl ?_
  refine v_iload_n (pc := 8) d_Mo_joins_8 rfl rfl ?_
  refine v_ialdN (pc := 9) (k := v) (f := ia 2) d_Mo_joins_9 hM.a2 rfl (by omega) (by decide) ?_
  refine v_re hx ?_
  refine v_ialdN (pc := 10) (k := x) (f := ia 0) d_Mo_joins_10 hM.a0 rfl (by omega) (by decide) ?_
  refine v_re hwx ?_
  refine v_istore (pc := 11) (L' := [(4, .int (nI wl)), (0, .ref b), (1, .int (nI e)), (2, .int (nI f)), (3, .int (nI v))]) d_Mo_joins_11 (by decide) rfl ?_
  refine v_iconst (pc := 13) (v := nI 0) d_Mo_joins_13 rfl ?_
  refine v_istore (pc := 14) (L' := [(5, .int (nI 0)), (4, .int (nI wl)), (0, .ref b), (1, .int (nI e)), (2, .int (nI f)), (3, .int (nI v))]) d_Mo_joins_14 (by decide) rfl ?_
  refine v_sub (L' := [(5, .int (nI 0)), (4, .int (nI wl)), (0, .ref b), (1, .int (nI e)), (2, .int (nI f)), (3, .int (nI v))]) (by simp) ?_
  exact lp_Mo_joins g hM he hf hv hce hne hcf hnf hw hwd hp hpl hq hqr hx hx12 hwx hg (fun w' h => ⟨rfl, rfl, h⟩) ne 0 w rfl (by omega) (mo_gs.start (G := []) hM hg rfl)
end
section
def op_ky (p : Nat) (y : List Int32 × Int64) : Int32 := y.1.getD p 0
def op_wo (kd q : Nat) (y : List Int32 × Int64) : Int32 := if kd = 0 then y.1.getD q 0 * y.2.toInt32 else if kd = 1 then y.2.toInt32 else y.1.getD q 0
def op_sv (kd : Nat) (a : Option Int32) (x : Int32) : Int32 := match a with | none => x | some s => if kd = 2 then (if s < x then x else s) else s + x
def op_rs (kd p q : Nat) (k : Int32) (B : MaB) : Option Int32 := B.foldl (fun a y => if op_ky p y = k then some (op_sv kd a (op_wo kd q y)) else a) none
def op_fst (p : Nat) (k : Int32) (B : MaB) : Bool := B.all (fun y => decide (op_ky p y ≠ k))
def op_gr (kd p q : Nat) (B : MaB) : Nat → MaB
  | 0 => []
  | r + 1 => op_gr kd p q B r ++ (match B[r]? with
    | some y => if op_fst p (op_ky p y) (B.take r) = true then [([op_ky p y, (op_rs kd p q (op_ky p y) B).getD 0], 1)] else []
    | none => [])
theorem op_gr_len (kd p q : Nat) (B : MaB) : ∀ r, (op_gr kd p q B r).length ≤ r
  | 0 => Nat.le_refl _
  | r + 1 => by
    have h := op_gr_len kd p q B r
    rw [op_gr, List.length_append]
    split
    · split
      · simp only [List.length_cons, List.length_nil]; omega
      · simp only [List.length_nil]; omega
    · simp only [List.length_nil]; omega
theorem ar_bag_take {f : Nat → Int32} {m : Nat → Int64} {w o n r : Nat} (h : r ≤ n) : (ar_bag f m w o n).take r = ar_bag f m w o r := by
  unfold ar_bag
  rw [← List.map_take, List.take_range, Nat.min_eq_left h]
theorem op_rs_snoc (kd p q : Nat) (k : Int32) (B : MaB) (y : List Int32 × Int64) : op_rs kd p q k (B ++ [y]) = if op_ky p y = k then some (op_sv kd (op_rs kd p q k B) (op_wo kd q y)) else op_rs kd p q k B := by
  unfold op_rs
  rw [List.foldl_append]
  rfl
theorem op_fst_snoc (p : Nat) (k : Int32) (B : MaB) (y : List Int32 × Int64) : op_fst p k (B ++ [y]) = true ↔ op_fst p k B = true ∧ op_ky p y ≠ k := by
  unfold op_fst
  rw [List.all_append, Bool.and_eq_true]
  simp
theorem op_ky_row {f : Nat → Int32} {m : Int64} {w a p : Nat} (h : p < w) : op_ky p (ar_row f w a, m) = f (a + p) := ar_row_getD h
theorem op_sv_n {a : Option Int32} {x : Int32} (h : ¬ a.isSome = true) : op_sv 2 a x = x := by
  cases a with
  | none => rfl
  | some s => exact absurd rfl h
theorem op_sv_g {a : Option Int32} {x : Int32} (h : a.getD 0 < x) : op_sv 2 a x = x := by
  cases a with
  | none => rfl
  | some s => exact if_pos h
theorem op_sv_l {a : Option Int32} {x : Int32} (h2 : a.isSome = true) (h : ¬ a.getD 0 < x) : op_sv 2 a x = a.getD 0 := by
  cases a with
  | none => cases h2
  | some s => exact if_neg h
theorem op_sv_s {kd : Nat} {a : Option Int32} {x : Int32} (h : kd ≠ 2) : op_sv kd a x = a.getD 0 + x := by
  cases a with
  | none => exact (Int32.zero_add x).symm
  | some s => exact if_neg h
set_option maxRecDepth 100000 in
set_option maxHeartbeats 4000000 in
theorem lp_Mo_result (g : Gl) {w : Wd} {b sz : Nat} {sc : Nat → Int32} {ia : Nat → Nat → Int32} {la : Nat → Nat → Int64} (hM : MAt w b sc ia la) {e v ne we kd p q : Nat} (he : e < 24) (hv : v < 12) (hce : ia 8 e = nI ne) (hne : ne ≤ 16) (hwe : we ≤ 4) (hkd : kd ≤ 2) (hk : ia 1 v = nI (5 + kd)) (hp : ia 4 v = nI p) (hpe : p < we) (hq : ia 5 v = nI q) (hqe : q < we) {k : Int32} : ∀ (zz : Nat) (r : Nat), ne - r = zz → r ≤ ne → VV g 1 0 0 mi_Mo_result w sz (rdE (some (.int ((op_rs kd p q k (ar_bag (ia 10) (la 9) we (16 * e) ne)).getD 0))) w sz) 9 [(6, .int (nI r)), (4, .int ((op_rs kd p q k (ar_bag (ia 10) (la 9) we (16 * e) r)).getD 0)), (5, .int (if (op_rs kd p q k (ar_bag (ia 10) (la 9) we (16 * e) r)).isSome = true then 1 else 0)), (0, .ref b), (1, .int (nI e)), (2, .int (nI v)), (3, .int k)] [] w sz 0 0 := by
  intro zz
  induction zz using Nat.strongRecOn with | _ zz ih => _
  intro r hnn hrn
  refine v_iload (pc := 9) d_Mo_result_9 rfl ?_
  refine v_aload_n (pc := 11) d_Mo_result_11 rfl rfl ?_
  refine v_get (pc := 12) d_Mo_result_12 fl_Mo_38 hM.o rfl ?_
  refine v_iload_n (pc := 15) d_Mo_result_15 rfl rfl ?_
  refine v_ialdN (pc := 16) (k := e) (f := ia 8) d_Mo_result_16 hM.a8 rfl (by omega) (by decide) ?_
  refine v_re hce ?_
  refine v_icmp_ge (pc := 17) (tgt := 139) d_Mo_result_17 rfl (fun hc => ?_) (fun hc => ?_)
  · skip
    rw [nI_leI (by omega) (by omega)] at hc
    obtain rfl : r = ne := by omega
    refine v_iload (pc := 139) d_Mo_result_139 rfl ?_
    exact v_iret (pc := 141) d_Mo_result_141 rfl (Nat.le_of_ble_eq_true rfl) (Nat.le_of_ble_eq_true rfl) ⟨rfl, rfl, rfl⟩
  · skip
    rw [nI_leI (by omega) (by omega)] at hc
    refine v_aload_n (pc := 20) d_Mo_result_20 rfl rfl ?_
    refine v_iload_n (pc := 21) d_Mo_result_21 rfl rfl ?_
    refine v_iload (pc := 22) d_Mo_result_22 rfl ?_
    refine v_aload_n (pc := 24) d_Mo_result_24 rfl rfl ?_
    refine v_get (pc := 25) d_Mo_result_25 fl_Mo_26 hM.o rfl ?_
    refine v_iload_n (pc := 28) d_Mo_result_28 rfl rfl ?_
    refine v_ialdN (pc := 29) (k := v) (f := ia 4) d_Mo_result_29 hM.a4 rfl (by omega) (by decide) ?_
    refine v_re hp ?_
    refine v_cvR (pc := 30) (A := [.int (nI e), .int (nI r), .int (nI p)]) (rest := []) (x := .int (ia 10 (4 * (16 * e + r) + p))) d_Mo_result_30 lk_Mo_83 me_Mo_cellOf im_Mo_cellOf se_Mo_cellOf rfl hM.o rfl rfl (c_Mo_cellOf g hM (k := e) (r := r) (c := p) (by omega)) (Nat.le_of_ble_eq_true rfl) (Nat.le_of_ble_eq_true rfl) (Nat.le_of_ble_eq_true rfl) (Nat.le_of_ble_eq_true rfl) ?_
    refine v_iload_n (pc := 33) d_Mo_result_33 rfl rfl ?_
    refine v_icmp_ne (pc := 34) (tgt := 133) d_Mo_result_34 rfl (fun hc => ?_) (fun hc => ?_)
    · skip
      have hst : (op_rs kd p q k (ar_bag (ia 10) (la 9) we (16 * e) (r + 1))) = (op_rs kd p q k (ar_bag (ia 10) (la 9) we (16 * e) r)) := by rw [ar_bag_snoc, op_rs_snoc, if_neg (by rw [op_ky_row hpe]; exact hc)]
      refine v_iinc (pc := 133) (L' := [(6, .int (nI (r + 1))), (4, .int ((op_rs kd p q k (ar_bag (ia 10) (la 9) we (16 * e) r)).getD 0)), (5, .int (if (op_rs kd p q k (ar_bag (ia 10) (la 9) we (16 * e) r)).isSome = true then 1 else 0)), (0, .ref b), (1, .int (nI e)), (2, .int (nI v)), (3, .int k)]) d_Mo_result_133 rfl (ix_inc _) (by decide) rfl ?_
      refine v_goto (pc := 136) (tgt := 9) d_Mo_result_136 rfl ?_
      rw [← hst]
      refine v_sub (L' := [(6, .int (nI (r + 1))), (4, .int ((op_rs kd p q k (ar_bag (ia 10) (la 9) we (16 * e) (r + 1))).getD 0)), (5, .int (if (op_rs kd p q k (ar_bag (ia 10) (la 9) we (16 * e) (r + 1))).isSome = true then 1 else 0)), (0, .ref b), (1, .int (nI e)), (2, .int (nI v)), (3, .int k)]) (by simp) ?_
      exact ih (ne - (r + 1)) (by omega) (r + 1) rfl (by omega)
    · skip
      have hst : (op_rs kd p q k (ar_bag (ia 10) (la 9) we (16 * e) (r + 1))) = some (op_sv kd (op_rs kd p q k (ar_bag (ia 10) (la 9) we (16 * e) r)) (op_wo kd q (ar_row (ia 10) we (4 * (16 * e + r)), la 9 (16 * e + r)))) := by rw [ar_bag_snoc, op_rs_snoc, if_pos (by rw [op_ky_row hpe]; exact hc)]
      refine v_aload_n (pc := 37) d_Mo_result_37 rfl rfl ?_
      refine v_iload_n (pc := 38) d_Mo_result_38 rfl rfl ?_
      refine v_iload (pc := 39) d_Mo_result_39 rfl ?_
      refine v_aload_n (pc := 41) d_Mo_result_41 rfl rfl ?_
      refine v_get (pc := 42) d_Mo_result_42 fl_Mo_29 hM.o rfl ?_
      refine v_iload_n (pc := 45) d_Mo_result_45 rfl rfl ?_
      refine v_ialdN (pc := 46) (k := v) (f := ia 5) d_Mo_result_46 hM.a5 rfl (by omega) (by decide) ?_
      refine v_re hq ?_
      refine v_cvR (pc := 47) (A := [.int (nI e), .int (nI r), .int (nI q)]) (rest := []) (x := .int (ia 10 (4 * (16 * e + r) + q))) d_Mo_result_47 lk_Mo_83 me_Mo_cellOf im_Mo_cellOf se_Mo_cellOf rfl hM.o rfl rfl (c_Mo_cellOf g hM (k := e) (r := r) (c := q) (by omega)) (Nat.le_of_ble_eq_true rfl) (Nat.le_of_ble_eq_true rfl) (Nat.le_of_ble_eq_true rfl) (Nat.le_of_ble_eq_true rfl) ?_
      refine v_istore (pc := 50) (L' := [(7, .int (ia 10 (4 * (16 * e + r) + q))), (6, .int (nI r)), (4, .int ((op_rs kd p q k (ar_bag (ia 10) (la 9) we (16 * e) r)).getD 0)), (5, .int (if (op_rs kd p q k (ar_bag (ia 10) (la 9) we (16 * e) r)).isSome = true then 1 else 0)), (0, .ref b), (1, .int (nI e)), (2, .int (nI v)), (3, .int k)]) d_Mo_result_50 (by decide) rfl ?_
      refine v_aload_n (pc := 52) d_Mo_result_52 rfl rfl ?_
      refine v_get (pc := 53) d_Mo_result_53 fl_Mo_41 hM.o rfl ?_
      refine v_bipush (pc := 56) (v := nI 16) d_Mo_result_56 rfl ?_
      refine v_iload_n (pc := 58) d_Mo_result_58 rfl rfl ?_
      refine v_imul (pc := 59) d_Mo_result_59 ?_
      refine v_re (pk_mul 16 e) ?_
      refine v_iload (pc := 60) d_Mo_result_60 rfl ?_
      refine v_iadd (pc := 62) d_Mo_result_62 ?_
      refine v_re (nI_add (16 * e) r) ?_
      refine v_laldN (pc := 63) (k := (16 * e) + r) (f := la 9) d_Mo_result_63 hM.a9 rfl (by omega) (by decide) ?_
      refine v_l2i (pc := 64) d_Mo_result_64 ?_
      refine v_istore (pc := 65) (L' := [(8, .int ((la 9 ((16 * e) + r)).toInt32)), (7, .int (ia 10 (4 * (16 * e + r) + q))), (6, .int (nI r)), (4, .int ((op_rs kd p q k (ar_bag (ia 10) (la 9) we (16 * e) r)).getD 0)), (5, .int (if (op_rs kd p q k (ar_bag (ia 10) (la 9) we (16 * e) r)).isSome = true then 1 else 0)), (0, .ref b), (1, .int (nI e)), (2, .int (nI v)), (3, .int k)]) d_Mo_result_65 (by decide) rfl ?_
      refine v_aload_n (pc := 67) d_Mo_result_67 rfl rfl ?_
      refine v_get (pc := 68) d_Mo_result_68 fl_Mo_17 hM.o rfl ?_
      refine v_iload_n (pc := 71) d_Mo_result_71 rfl rfl ?_
      refine v_ialdN (pc := 72) (k := v) (f := ia 1) d_Mo_result_72 hM.a1 rfl (by omega) (by decide) ?_
      refine v_re hk ?_
      refine v_bipush (pc := 73) (v := nI 7) d_Mo_result_73 rfl ?_
      refine v_icmp_ne (pc := 75) (tgt := 102) d_Mo_result_75 rfl (fun hc => ?_) (fun hc => ?_)
      · skip
        rw [nI_eq (by omega) (by omega)] at hc
        refine v_aload_n (pc := 102) d_Mo_result_102 rfl rfl ?_
        refine v_get (pc := 103) d_Mo_result_103 fl_Mo_17 hM.o rfl ?_
        refine v_iload_n (pc := 106) d_Mo_result_106 rfl rfl ?_
        refine v_ialdN (pc := 107) (k := v) (f := ia 1) d_Mo_result_107 hM.a1 rfl (by omega) (by decide) ?_
        refine v_re hk ?_
        refine v_iconst (pc := 108) (v := nI 5) d_Mo_result_108 rfl ?_
        refine v_icmp_ne (pc := 109) (tgt := 123) d_Mo_result_109 rfl (fun hc => ?_) (fun hc => ?_)
        · skip
          rw [nI_eq (by omega) (by omega)] at hc
          obtain rfl : kd = 1 := by omega
          have hval : op_wo 1 q (ar_row (ia 10) we (4 * (16 * e + r)), la 9 (16 * e + r)) = (la 9 (16 * e + r)).toInt32 := rfl
          refine v_iload (pc := 123) d_Mo_result_123 rfl ?_
          refine v_iload (pc := 125) d_Mo_result_125 rfl ?_
          refine v_iadd (pc := 127) d_Mo_result_127 ?_
          refine v_re (y := ((op_rs 1 p q k (ar_bag (ia 10) (la 9) we (16 * e) (r + 1))).getD 0)) (by rw [hst, op_sv_s (by omega), hval]; rfl) ?_
          refine v_istore (pc := 128) (L' := [(4, .int ((op_rs 1 p q k (ar_bag (ia 10) (la 9) we (16 * e) (r + 1))).getD 0)), (8, .int ((la 9 ((16 * e) + r)).toInt32)), (7, .int (ia 10 (4 * (16 * e + r) + q))), (6, .int (nI r)), (5, .int (if (op_rs 1 p q k (ar_bag (ia 10) (la 9) we (16 * e) r)).isSome = true then 1 else 0)), (0, .ref b), (1, .int (nI e)), (2, .int (nI v)), (3, .int k)]) d_Mo_result_128 (by decide) rfl ?_
          refine v_iconst (pc := 130) (v := nI 1) d_Mo_result_130 rfl ?_
          refine v_re (y := (if (op_rs 1 p q k (ar_bag (ia 10) (la 9) we (16 * e) (r + 1))).isSome = true then 1 else 0)) (zb1 (by rw [hst]; rfl)) ?_
          refine v_istore (pc := 131) (L' := [(5, .int (if (op_rs 1 p q k (ar_bag (ia 10) (la 9) we (16 * e) (r + 1))).isSome = true then 1 else 0)), (4, .int ((op_rs 1 p q k (ar_bag (ia 10) (la 9) we (16 * e) (r + 1))).getD 0)), (8, .int ((la 9 ((16 * e) + r)).toInt32)), (7, .int (ia 10 (4 * (16 * e + r) + q))), (6, .int (nI r)), (0, .ref b), (1, .int (nI e)), (2, .int (nI v)), (3, .int k)]) d_Mo_result_131 (by decide) rfl ?_
          refine v_iinc (pc := 133) (L' := [(6, .int (nI (r + 1))), (5, .int (if (op_rs 1 p q k (ar_bag (ia 10) (la 9) we (16 * e) (r + 1))).isSome = true then 1 else 0)), (4, .int ((op_rs 1 p q k (ar_bag (ia 10) (la 9) we (16 * e) (r + 1))).getD 0)), (8, .int ((la 9 ((16 * e) + r)).toInt32)), (7, .int (ia 10 (4 * (16 * e + r) + q))), (0, .ref b), (1, .int (nI e)), (2, .int (nI v)), (3, .int k)]) d_Mo_result_133 rfl (ix_inc _) (by decide) rfl ?_
          refine v_goto (pc := 136) (tgt := 9) d_Mo_result_136 rfl ?_
          refine v_sub (L' := [(6, .int (nI (r + 1))), (4, .int ((op_rs 1 p q k (ar_bag (ia 10) (la 9) we (16 * e) (r + 1))).getD 0)), (5, .int (if (op_rs 1 p q k (ar_bag (ia 10) (la 9) we (16 * e) (r + 1))).isSome = true then 1 else 0)), (0, .ref b), (1, .int (nI e)), (2, .int (nI v)), (3, .int k)]) (by simp) ?_
          exact ih (ne - (r + 1)) (by omega) (r + 1) rfl (by omega)
        · skip
          rw [nI_eq (by omega) (by omega)] at hc
          obtain rfl : kd = 0 := by omega
          have hval : op_wo 0 q (ar_row (ia 10) we (4 * (16 * e + r)), la 9 (16 * e + r)) = ia 10 (4 * (16 * e + r) + q) * (la 9 (16 * e + r)).toInt32 := by show (ar_row (ia 10) we (4 * (16 * e + r))).getD q 0 * _ = _; rw [ar_row_getD hqe]
          refine v_iload (pc := 112) d_Mo_result_112 rfl ?_
          refine v_iload (pc := 114) d_Mo_result_114 rfl ?_
          refine v_iload (pc := 116) d_Mo_result_116 rfl ?_
          refine v_imul (pc := 118) d_Mo_result_118 ?_
          refine v_iadd (pc := 119) d_Mo_result_119 ?_
          refine v_goto (pc := 120) (tgt := 128) d_Mo_result_120 rfl ?_
          refine v_re (y := ((op_rs 0 p q k (ar_bag (ia 10) (la 9) we (16 * e) (r + 1))).getD 0)) (by rw [hst, op_sv_s (by omega), hval]; rfl) ?_
          refine v_istore (pc := 128) (L' := [(4, .int ((op_rs 0 p q k (ar_bag (ia 10) (la 9) we (16 * e) (r + 1))).getD 0)), (8, .int ((la 9 ((16 * e) + r)).toInt32)), (7, .int (ia 10 (4 * (16 * e + r) + q))), (6, .int (nI r)), (5, .int (if (op_rs 0 p q k (ar_bag (ia 10) (la 9) we (16 * e) r)).isSome = true then 1 else 0)), (0, .ref b), (1, .int (nI e)), (2, .int (nI v)), (3, .int k)]) d_Mo_result_128 (by decide) rfl ?_
          refine v_iconst (pc := 130) (v := nI 1) d_Mo_result_130 rfl ?_
          refine v_re (y := (if (op_rs 0 p q k (ar_bag (ia 10) (la 9) we (16 * e) (r + 1))).isSome = true then 1 else 0)) (zb1 (by rw [hst]; rfl)) ?_
          refine v_istore (pc := 131) (L' := [(5, .int (if (op_rs 0 p q k (ar_bag (ia 10) (la 9) we (16 * e) (r + 1))).isSome = true then 1 else 0)), (4, .int ((op_rs 0 p q k (ar_bag (ia 10) (la 9) we (16 * e) (r + 1))).getD 0)), (8, .int ((la 9 ((16 * e) + r)).toInt32)), (7, .int (ia 10 (4 * (16 * e + r) + q))), (6, .int (nI r)), (0, .ref b), (1, .int (nI e)), (2, .int (nI v)), (3, .int k)]) d_Mo_result_131 (by decide) rfl ?_
          refine v_iinc (pc := 133) (L' := [(6, .int (nI (r + 1))), (5, .int (if (op_rs 0 p q k (ar_bag (ia 10) (la 9) we (16 * e) (r + 1))).isSome = true then 1 else 0)), (4, .int ((op_rs 0 p q k (ar_bag (ia 10) (la 9) we (16 * e) (r + 1))).getD 0)), (8, .int ((la 9 ((16 * e) + r)).toInt32)), (7, .int (ia 10 (4 * (16 * e + r) + q))), (0, .ref b), (1, .int (nI e)), (2, .int (nI v)), (3, .int k)]) d_Mo_result_133 rfl (ix_inc _) (by decide) rfl ?_
          refine v_goto (pc := 136) (tgt := 9) d_Mo_result_136 rfl ?_
          refine v_sub (L' := [(6, .int (nI (r + 1))), (4, .int ((op_rs 0 p q k (ar_bag (ia 10) (la 9) we (16 * e) (r + 1))).getD 0)), (5, .int (if (op_rs 0 p q k (ar_bag (ia 10) (la 9) we (16 * e) (r + 1))).isSome = true then 1 else 0)), (0, .ref b), (1, .int (nI e)), (2, .int (nI v)), (3, .int k)]) (by simp) ?_
          exact ih (ne - (r + 1)) (by omega) (r + 1) rfl (by omega)
      · skip
        rw [nI_eq (by omega) (by omega)] at hc
        obtain rfl : kd = 2 := by omega
        have hwo : op_wo 2 q (ar_row (ia 10) we (4 * (16 * e + r)), la 9 (16 * e + r)) = ia 10 (4 * (16 * e + r) + q) := (ar_row_getD hqe : (ar_row (ia 10) we (4 * (16 * e + r))).getD q 0 = _)
        refine v_iload (pc := 78) d_Mo_result_78 rfl ?_
        refine v_if_eq (pc := 80) (tgt := 90) d_Mo_result_80 rfl (fun hc => ?_) (fun hc => ?_)
        · skip
          rw [zf] at hc
          have hval : op_sv 2 (op_rs 2 p q k (ar_bag (ia 10) (la 9) we (16 * e) r)) (op_wo 2 q (ar_row (ia 10) we (4 * (16 * e + r)), la 9 (16 * e + r))) = ia 10 (4 * (16 * e + r) + q) := by rw [hwo]; exact op_sv_n hc
          refine v_iload (pc := 90) d_Mo_result_90 rfl ?_
          refine v_goto (pc := 92) (tgt := 97) d_Mo_result_92 rfl ?_
          refine v_re (y := ((op_rs 2 p q k (ar_bag (ia 10) (la 9) we (16 * e) (r + 1))).getD 0)) (by rw [hst]; exact hval.symm) ?_
          refine v_istore (pc := 97) (L' := [(4, .int ((op_rs 2 p q k (ar_bag (ia 10) (la 9) we (16 * e) (r + 1))).getD 0)), (8, .int ((la 9 ((16 * e) + r)).toInt32)), (7, .int (ia 10 (4 * (16 * e + r) + q))), (6, .int (nI r)), (5, .int (if (op_rs 2 p q k (ar_bag (ia 10) (la 9) we (16 * e) r)).isSome = true then 1 else 0)), (0, .ref b), (1, .int (nI e)), (2, .int (nI v)), (3, .int k)]) d_Mo_result_97 (by decide) rfl ?_
          refine v_goto (pc := 99) (tgt := 130) d_Mo_result_99 rfl ?_
          refine v_iconst (pc := 130) (v := nI 1) d_Mo_result_130 rfl ?_
          refine v_re (y := (if (op_rs 2 p q k (ar_bag (ia 10) (la 9) we (16 * e) (r + 1))).isSome = true then 1 else 0)) (zb1 (by rw [hst]; rfl)) ?_
          refine v_istore (pc := 131) (L' := [(5, .int (if (op_rs 2 p q k (ar_bag (ia 10) (la 9) we (16 * e) (r + 1))).isSome = true then 1 else 0)), (4, .int ((op_rs 2 p q k (ar_bag (ia 10) (la 9) we (16 * e) (r + 1))).getD 0)), (8, .int ((la 9 ((16 * e) + r)).toInt32)), (7, .int (ia 10 (4 * (16 * e + r) + q))), (6, .int (nI r)), (0, .ref b), (1, .int (nI e)), (2, .int (nI v)), (3, .int k)]) d_Mo_result_131 (by decide) rfl ?_
          refine v_iinc (pc := 133) (L' := [(6, .int (nI (r + 1))), (5, .int (if (op_rs 2 p q k (ar_bag (ia 10) (la 9) we (16 * e) (r + 1))).isSome = true then 1 else 0)), (4, .int ((op_rs 2 p q k (ar_bag (ia 10) (la 9) we (16 * e) (r + 1))).getD 0)), (8, .int ((la 9 ((16 * e) + r)).toInt32)), (7, .int (ia 10 (4 * (16 * e + r) + q))), (0, .ref b), (1, .int (nI e)), (2, .int (nI v)), (3, .int k)]) d_Mo_result_133 rfl (ix_inc _) (by decide) rfl ?_
          refine v_goto (pc := 136) (tgt := 9) d_Mo_result_136 rfl ?_
          refine v_sub (L' := [(6, .int (nI (r + 1))), (4, .int ((op_rs 2 p q k (ar_bag (ia 10) (la 9) we (16 * e) (r + 1))).getD 0)), (5, .int (if (op_rs 2 p q k (ar_bag (ia 10) (la 9) we (16 * e) (r + 1))).isSome = true then 1 else 0)), (0, .ref b), (1, .int (nI e)), (2, .int (nI v)), (3, .int k)]) (by simp) ?_
          exact ih (ne - (r + 1)) (by omega) (r + 1) rfl (by omega)
        · skip
          rw [zt] at hc
          have hany := hc
          refine v_iload (pc := 83) d_Mo_result_83 rfl ?_
          refine v_iload (pc := 85) d_Mo_result_85 rfl ?_
          refine v_icmp_le (pc := 87) (tgt := 95) d_Mo_result_87 rfl (fun hc => ?_) (fun hc => ?_)
          · skip
            have hval : op_sv 2 (op_rs 2 p q k (ar_bag (ia 10) (la 9) we (16 * e) r)) (op_wo 2 q (ar_row (ia 10) we (4 * (16 * e + r)), la 9 (16 * e + r))) = (op_rs 2 p q k (ar_bag (ia 10) (la 9) we (16 * e) r)).getD 0 := by rw [hwo]; exact op_sv_l hany (Int32.not_lt.mpr hc)
            refine v_iload (pc := 95) d_Mo_result_95 rfl ?_
            refine v_re (y := ((op_rs 2 p q k (ar_bag (ia 10) (la 9) we (16 * e) (r + 1))).getD 0)) (by rw [hst]; exact hval.symm) ?_
            refine v_istore (pc := 97) (L' := [(4, .int ((op_rs 2 p q k (ar_bag (ia 10) (la 9) we (16 * e) (r + 1))).getD 0)), (8, .int ((la 9 ((16 * e) + r)).toInt32)), (7, .int (ia 10 (4 * (16 * e + r) + q))), (6, .int (nI r)), (5, .int (if (op_rs 2 p q k (ar_bag (ia 10) (la 9) we (16 * e) r)).isSome = true then 1 else 0)), (0, .ref b), (1, .int (nI e)), (2, .int (nI v)), (3, .int k)]) d_Mo_result_97 (by decide) rfl ?_
            refine v_goto (pc := 99) (tgt := 130) d_Mo_result_99 rfl ?_
            refine v_iconst (pc := 130) (v := nI 1) d_Mo_result_130 rfl ?_
            refine v_re (y := (if (op_rs 2 p q k (ar_bag (ia 10) (la 9) we (16 * e) (r + 1))).isSome = true then 1 else 0)) (zb1 (by rw [hst]; rfl)) ?_
            refine v_istore (pc := 131) (L' := [(5, .int (if (op_rs 2 p q k (ar_bag (ia 10) (la 9) we (16 * e) (r + 1))).isSome = true then 1 else 0)), (4, .int ((op_rs 2 p q k (ar_bag (ia 10) (la 9) we (16 * e) (r + 1))).getD 0)), (8, .int ((la 9 ((16 * e) + r)).toInt32)), (7, .int (ia 10 (4 * (16 * e + r) + q))), (6, .int (nI r)), (0, .ref b), (1, .int (nI e)), (2, .int (nI v)), (3, .int k)]) d_Mo_result_131 (by decide) rfl ?_
            refine v_iinc (pc := 133) (L' := [(6, .int (nI (r + 1))), (5, .int (if (op_rs 2 p q k (ar_bag (ia 10) (la 9) we (16 * e) (r + 1))).isSome = true then 1 else 0)), (4, .int ((op_rs 2 p q k (ar_bag (ia 10) (la 9) we (16 * e) (r + 1))).getD 0)), (8, .int ((la 9 ((16 * e) + r)).toInt32)), (7, .int (ia 10 (4 * (16 * e + r) + q))), (0, .ref b), (1, .int (nI e)), (2, .int (nI v)), (3, .int k)]) d_Mo_result_133 rfl (ix_inc _) (by decide) rfl ?_
            refine v_goto (pc := 136) (tgt := 9) d_Mo_result_136 rfl ?_
            refine v_sub (L' := [(6, .int (nI (r + 1))), (4, .int ((op_rs 2 p q k (ar_bag (ia 10) (la 9) we (16 * e) (r + 1))).getD 0)), (5, .int (if (op_rs 2 p q k (ar_bag (ia 10) (la 9) we (16 * e) (r + 1))).isSome = true then 1 else 0)), (0, .ref b), (1, .int (nI e)), (2, .int (nI v)), (3, .int k)]) (by simp) ?_
            exact ih (ne - (r + 1)) (by omega) (r + 1) rfl (by omega)
          · skip
            have hval : op_sv 2 (op_rs 2 p q k (ar_bag (ia 10) (la 9) we (16 * e) r)) (op_wo 2 q (ar_row (ia 10) we (4 * (16 * e + r)), la 9 (16 * e + r))) = ia 10 (4 * (16 * e + r) + q) := by rw [hwo]; exact op_sv_g (Int32.not_le.mp hc)
            refine v_iload (pc := 90) d_Mo_result_90 rfl ?_
            refine v_goto (pc := 92) (tgt := 97) d_Mo_result_92 rfl ?_
            refine v_re (y := ((op_rs 2 p q k (ar_bag (ia 10) (la 9) we (16 * e) (r + 1))).getD 0)) (by rw [hst]; exact hval.symm) ?_
            refine v_istore (pc := 97) (L' := [(4, .int ((op_rs 2 p q k (ar_bag (ia 10) (la 9) we (16 * e) (r + 1))).getD 0)), (8, .int ((la 9 ((16 * e) + r)).toInt32)), (7, .int (ia 10 (4 * (16 * e + r) + q))), (6, .int (nI r)), (5, .int (if (op_rs 2 p q k (ar_bag (ia 10) (la 9) we (16 * e) r)).isSome = true then 1 else 0)), (0, .ref b), (1, .int (nI e)), (2, .int (nI v)), (3, .int k)]) d_Mo_result_97 (by decide) rfl ?_
            refine v_goto (pc := 99) (tgt := 130) d_Mo_result_99 rfl ?_
            refine v_iconst (pc := 130) (v := nI 1) d_Mo_result_130 rfl ?_
            refine v_re (y := (if (op_rs 2 p q k (ar_bag (ia 10) (la 9) we (16 * e) (r + 1))).isSome = true then 1 else 0)) (zb1 (by rw [hst]; rfl)) ?_
            refine v_istore (pc := 131) (L' := [(5, .int (if (op_rs 2 p q k (ar_bag (ia 10) (la 9) we (16 * e) (r + 1))).isSome = true then 1 else 0)), (4, .int ((op_rs 2 p q k (ar_bag (ia 10) (la 9) we (16 * e) (r + 1))).getD 0)), (8, .int ((la 9 ((16 * e) + r)).toInt32)), (7, .int (ia 10 (4 * (16 * e + r) + q))), (6, .int (nI r)), (0, .ref b), (1, .int (nI e)), (2, .int (nI v)), (3, .int k)]) d_Mo_result_131 (by decide) rfl ?_
            refine v_iinc (pc := 133) (L' := [(6, .int (nI (r + 1))), (5, .int (if (op_rs 2 p q k (ar_bag (ia 10) (la 9) we (16 * e) (r + 1))).isSome = true then 1 else 0)), (4, .int ((op_rs 2 p q k (ar_bag (ia 10) (la 9) we (16 * e) (r + 1))).getD 0)), (8, .int ((la 9 ((16 * e) + r)).toInt32)), (7, .int (ia 10 (4 * (16 * e + r) + q))), (0, .ref b), (1, .int (nI e)), (2, .int (nI v)), (3, .int k)]) d_Mo_result_133 rfl (ix_inc _) (by decide) rfl ?_
            refine v_goto (pc := 136) (tgt := 9) d_Mo_result_136 rfl ?_
            refine v_sub (L' := [(6, .int (nI (r + 1))), (4, .int ((op_rs 2 p q k (ar_bag (ia 10) (la 9) we (16 * e) (r + 1))).getD 0)), (5, .int (if (op_rs 2 p q k (ar_bag (ia 10) (la 9) we (16 * e) (r + 1))).isSome = true then 1 else 0)), (0, .ref b), (1, .int (nI e)), (2, .int (nI v)), (3, .int k)]) (by simp) ?_
            exact ih (ne - (r + 1)) (by omega) (r + 1) rfl (by omega)
set_option maxRecDepth 100000 in
set_option maxHeartbeats 4000000 in
theorem c_Mo_result (g : Gl) {w : Wd} {b sz : Nat} {sc : Nat → Int32} {ia : Nat → Nat → Int32} {la : Nat → Nat → Int64} (hM : MAt w b sc ia la) {e v ne we kd p q : Nat} (he : e < 24) (hv : v < 12) (hce : ia 8 e = nI ne) (hne : ne ≤ 16) (hwe : we ≤ 4) (hkd : kd ≤ 2) (hk : ia 1 v = nI (5 + kd)) (hp : ia 4 v = nI p) (hpe : p < we) (hq : ia 5 v = nI q) (hqe : q < we) {k : Int32} : CT g 1 0 0 mi_Mo_result [.ref b, .int (nI e), .int (nI v), .int k] w sz (rdE (some (.int ((op_rs kd p q k (ar_bag (ia 10) (la 9) we (16 * e) ne)).getD 0))) w sz) := by
  refine CT.of (by decide) (Nat.le_of_ble_eq_true rfl) ?_
  refine v_iconst (pc := 0) (v := nI 0) d_Mo_result_0 rfl ?_
  refine v_re (y := ((op_rs kd p q k (ar_bag (ia 10) (la 9) we (16 * e) 0)).getD 0)) rfl ?_
  refine v_istore (pc := 1) (L' := [(4, .int ((op_rs kd p q k (ar_bag (ia 10) (la 9) we (16 * e) 0)).getD 0)), (0, .ref b), (1, .int (nI e)), (2, .int (nI v)), (3, .int k)]) d_Mo_result_1 (by decide) rfl ?_
  refine v_iconst (pc := 3) (v := nI 0) d_Mo_result_3 rfl ?_
  refine v_re (y := (if (op_rs kd p q k (ar_bag (ia 10) (la 9) we (16 * e) 0)).isSome = true then 1 else 0)) rfl ?_
  refine v_istore (pc := 4) (L' := [(5, .int (if (op_rs kd p q k (ar_bag (ia 10) (la 9) we (16 * e) 0)).isSome = true then 1 else 0)), (4, .int ((op_rs kd p q k (ar_bag (ia 10) (la 9) we (16 * e) 0)).getD 0)), (0, .ref b), (1, .int (nI e)), (2, .int (nI v)), (3, .int k)]) d_Mo_result_4 (by decide) rfl ?_
  refine v_iconst (pc := 6) (v := nI 0) d_Mo_result_6 rfl ?_
  refine v_istore (pc := 7) (L' := [(6, .int (nI 0)), (5, .int (if (op_rs kd p q k (ar_bag (ia 10) (la 9) we (16 * e) 0)).isSome = true then 1 else 0)), (4, .int ((op_rs kd p q k (ar_bag (ia 10) (la 9) we (16 * e) 0)).getD 0)), (0, .ref b), (1, .int (nI e)), (2, .int (nI v)), (3, .int k)]) d_Mo_result_7 (by decide) rfl ?_
  refine v_sub (L' := [(6, .int (nI 0)), (4, .int ((op_rs kd p q k (ar_bag (ia 10) (la 9) we (16 * e) 0)).getD 0)), (5, .int (if (op_rs kd p q k (ar_bag (ia 10) (la 9) we (16 * e) 0)).isSome = true then 1 else 0)), (0, .ref b), (1, .int (nI e)), (2, .int (nI v)), (3, .int k)]) (by simp) ?_
  exact lp_Mo_result g hM he hv hce hne hwe hkd hk hp hpe hq hqe ne 0 rfl (by omega)
set_option maxRecDepth 100000 in
set_option maxHeartbeats 4000000 in
theorem lp1_Mo_groups (g : Gl) {w0 w : Wd} {b sz : Nat} {sc : Nat → Int32} {ia : Nat → Nat → Int32} {la : Nat → Nat → Int64} (hM : MAt w b sc ia la) {e v ne we kd p q : Nat} (he : e < 24) (hv : v < 12) (hce : ia 8 e = nI ne) (hne : ne ≤ 16) (hwe : we ≤ 4) (hkd : kd ≤ 2) (hk : ia 1 v = nI (5 + kd)) (hp : ia 4 v = nI p) (hpe : p < we) (hq : ia 5 v = nI q) (hqe : q < we) {r : Nat} (hr : r < ne) {k : Int32} {E : Rs → Wd → Nat → Prop} (K : VV g 2 0 0 mi_Mo_groups w0 sz E 74 [(6, .int (nI r)), (5, .int (if op_fst p k (ar_bag (ia 10) (la 9) we (16 * e) r) = true then 1 else 0)), (4, .int k), (3, .int (nI r)), (0, .ref b), (1, .int (nI e)), (2, .int (nI v))] [] w sz 0 0) : ∀ (zz : Nat) (s : Nat), r - s = zz → s ≤ r → VV g 2 0 0 mi_Mo_groups w0 sz E 32 [(6, .int (nI s)), (5, .int (if op_fst p k (ar_bag (ia 10) (la 9) we (16 * e) s) = true then 1 else 0)), (4, .int k), (3, .int (nI r)), (0, .ref b), (1, .int (nI e)), (2, .int (nI v))] [] w sz 0 0 := by
  intro zz
  induction zz using Nat.strongRecOn with | _ zz ih => _
  intro s hnn hsr
  refine v_iload (pc := 32) d_Mo_groups_32 rfl ?_
  refine v_iload_n (pc := 34) d_Mo_groups_34 rfl rfl ?_
  refine v_icmp_ge (pc := 35) (tgt := 74) d_Mo_groups_35 rfl (fun hc => ?_) (fun hc => ?_)
  · skip
    rw [nI_leI (by omega) (by omega)] at hc
    obtain rfl : s = r := by omega
    exact K
  · skip
    rw [nI_leI (by omega) (by omega)] at hc
    refine v_iload (pc := 38) d_Mo_groups_38 rfl ?_
    refine v_if_eq (pc := 40) (tgt := 65) d_Mo_groups_40 rfl (fun hc => ?_) (fun hc => ?_)
    · skip
      rw [zf] at hc
      have hv0 : ¬ op_fst p k (ar_bag (ia 10) (la 9) we (16 * e) (s + 1)) = true := by rw [ar_bag_snoc, op_fst_snoc, op_ky_row hpe]; exact fun h => hc h.1
      refine v_iconst (pc := 65) (v := nI 0) d_Mo_groups_65 rfl ?_
      refine v_re (y := (if op_fst p k (ar_bag (ia 10) (la 9) we (16 * e) (s + 1)) = true then 1 else 0)) (zb0 hv0) ?_
      refine v_istore (pc := 66) (L' := [(5, .int (if op_fst p k (ar_bag (ia 10) (la 9) we (16 * e) (s + 1)) = true then 1 else 0)), (6, .int (nI s)), (4, .int k), (3, .int (nI r)), (0, .ref b), (1, .int (nI e)), (2, .int (nI v))]) d_Mo_groups_66 (by decide) rfl ?_
      refine v_iinc (pc := 68) (L' := [(6, .int (nI (s + 1))), (5, .int (if op_fst p k (ar_bag (ia 10) (la 9) we (16 * e) (s + 1)) = true then 1 else 0)), (4, .int k), (3, .int (nI r)), (0, .ref b), (1, .int (nI e)), (2, .int (nI v))]) d_Mo_groups_68 rfl (ix_inc _) (by decide) rfl ?_
      refine v_goto (pc := 71) (tgt := 32) d_Mo_groups_71 rfl ?_
      refine v_sub (L' := [(6, .int (nI (s + 1))), (5, .int (if op_fst p k (ar_bag (ia 10) (la 9) we (16 * e) (s + 1)) = true then 1 else 0)), (4, .int k), (3, .int (nI r)), (0, .ref b), (1, .int (nI e)), (2, .int (nI v))]) (by simp) ?_
      exact ih (r - (s + 1)) (by omega) (s + 1) rfl (by omega)
    · skip
      rw [zt] at hc
      have hb := hc
      refine v_aload_n (pc := 43) d_Mo_groups_43 rfl rfl ?_
      refine v_iload_n (pc := 44) d_Mo_groups_44 rfl rfl ?_
      refine v_iload (pc := 45) d_Mo_groups_45 rfl ?_
      refine v_aload_n (pc := 47) d_Mo_groups_47 rfl rfl ?_
      refine v_get (pc := 48) d_Mo_groups_48 fl_Mo_26 hM.o rfl ?_
      refine v_iload_n (pc := 51) d_Mo_groups_51 rfl rfl ?_
      refine v_ialdN (pc := 52) (k := v) (f := ia 4) d_Mo_groups_52 hM.a4 rfl (by omega) (by decide) ?_
      refine v_re hp ?_
      refine v_cvR (pc := 53) (A := [.int (nI e), .int (nI s), .int (nI p)]) (rest := []) (x := .int (ia 10 (4 * (16 * e + s) + p))) d_Mo_groups_53 lk_Mo_83 me_Mo_cellOf im_Mo_cellOf se_Mo_cellOf rfl hM.o rfl rfl (c_Mo_cellOf g hM (k := e) (r := s) (c := p) (by omega)) (Nat.le_of_ble_eq_true rfl) (Nat.le_of_ble_eq_true rfl) (Nat.le_of_ble_eq_true rfl) (Nat.le_of_ble_eq_true rfl) ?_
      refine v_iload (pc := 56) d_Mo_groups_56 rfl ?_
      refine v_icmp_eq (pc := 58) (tgt := 65) d_Mo_groups_58 rfl (fun hc => ?_) (fun hc => ?_)
      · skip
        have hv0 : ¬ op_fst p k (ar_bag (ia 10) (la 9) we (16 * e) (s + 1)) = true := by rw [ar_bag_snoc, op_fst_snoc, op_ky_row hpe]; exact fun h => h.2 hc
        refine v_iconst (pc := 65) (v := nI 0) d_Mo_groups_65 rfl ?_
        refine v_re (y := (if op_fst p k (ar_bag (ia 10) (la 9) we (16 * e) (s + 1)) = true then 1 else 0)) (zb0 hv0) ?_
        refine v_istore (pc := 66) (L' := [(5, .int (if op_fst p k (ar_bag (ia 10) (la 9) we (16 * e) (s + 1)) = true then 1 else 0)), (6, .int (nI s)), (4, .int k), (3, .int (nI r)), (0, .ref b), (1, .int (nI e)), (2, .int (nI v))]) d_Mo_groups_66 (by decide) rfl ?_
        refine v_iinc (pc := 68) (L' := [(6, .int (nI (s + 1))), (5, .int (if op_fst p k (ar_bag (ia 10) (la 9) we (16 * e) (s + 1)) = true then 1 else 0)), (4, .int k), (3, .int (nI r)), (0, .ref b), (1, .int (nI e)), (2, .int (nI v))]) d_Mo_groups_68 rfl (ix_inc _) (by decide) rfl ?_
        refine v_goto (pc := 71) (tgt := 32) d_Mo_groups_71 rfl ?_
        refine v_sub (L' := [(6, .int (nI (s + 1))), (5, .int (if op_fst p k (ar_bag (ia 10) (la 9) we (16 * e) (s + 1)) = true then 1 else 0)), (4, .int k), (3, .int (nI r)), (0, .ref b), (1, .int (nI e)), (2, .int (nI v))]) (by simp) ?_
        exact ih (r - (s + 1)) (by omega) (s + 1) rfl (by omega)
      · skip
        have hv1 : op_fst p k (ar_bag (ia 10) (la 9) we (16 * e) (s + 1)) = true := by rw [ar_bag_snoc, op_fst_snoc, op_ky_row hpe]; exact ⟨hb, hc⟩
        refine v_iconst (pc := 61) (v := nI 1) d_Mo_groups_61 rfl ?_
        refine v_re (y := (if op_fst p k (ar_bag (ia 10) (la 9) we (16 * e) (s + 1)) = true then 1 else 0)) (zb1 hv1) ?_
        refine v_goto (pc := 62) (tgt := 66) d_Mo_groups_62 rfl ?_
        refine v_istore (pc := 66) (L' := [(5, .int (if op_fst p k (ar_bag (ia 10) (la 9) we (16 * e) (s + 1)) = true then 1 else 0)), (6, .int (nI s)), (4, .int k), (3, .int (nI r)), (0, .ref b), (1, .int (nI e)), (2, .int (nI v))]) d_Mo_groups_66 (by decide) rfl ?_
        refine v_iinc (pc := 68) (L' := [(6, .int (nI (s + 1))), (5, .int (if op_fst p k (ar_bag (ia 10) (la 9) we (16 * e) (s + 1)) = true then 1 else 0)), (4, .int k), (3, .int (nI r)), (0, .ref b), (1, .int (nI e)), (2, .int (nI v))]) d_Mo_groups_68 rfl (ix_inc _) (by decide) rfl ?_
        refine v_goto (pc := 71) (tgt := 32) d_Mo_groups_71 rfl ?_
        refine v_sub (L' := [(6, .int (nI (s + 1))), (5, .int (if op_fst p k (ar_bag (ia 10) (la 9) we (16 * e) (s + 1)) = true then 1 else 0)), (4, .int k), (3, .int (nI r)), (0, .ref b), (1, .int (nI e)), (2, .int (nI v))]) (by simp) ?_
        exact ih (r - (s + 1)) (by omega) (s + 1) rfl (by omega)
set_option maxRecDepth 100000 in
set_option maxHeartbeats 4000000 in
theorem lp_Mo_groups (g : Gl) {w : Wd} {b sz : Nat} {sc : Nat → Int32} {ia : Nat → Nat → Int32} {la : Nat → Nat → Int64} (hM : MAt w b sc ia la) {e v ne we kd p q : Nat} (he : e < 24) (hv : v < 12) (hce : ia 8 e = nI ne) (hne : ne ≤ 16) (hwe : we ≤ 4) (hkd : kd ≤ 2) (hk : ia 1 v = nI (5 + kd)) (hp : ia 4 v = nI p) (hpe : p < we) (hq : ia 5 v = nI q) (hqe : q < we) (hg : sc 2 = nI 0) {E : Rs → Wd → Nat → Prop} (hE : ∀ w', mo_gs w b sc ia la 2 (ma_gf [] (op_gr kd p q (ar_bag (ia 10) (la 9) we (16 * e) ne) ne)) w' → E (.inl none) w' sz) : ∀ (zz : Nat) (r : Nat) (w1 : Wd), ne - r = zz → r ≤ ne → mo_gs w b sc ia la 2 (ma_gf [] (op_gr kd p q (ar_bag (ia 10) (la 9) we (16 * e) ne) r)) w1 → VV g 2 0 0 mi_Mo_groups w sz E 2 [(3, .int (nI r)), (0, .ref b), (1, .int (nI e)), (2, .int (nI v))] [] w1 sz 0 0 := by
  intro zz
  induction zz using Nat.strongRecOn with | _ zz ih => _
  intro r w1 hnn hrn hgs
  obtain ⟨f1, o1, m1, h1, hfr, hGG⟩ := id hgs
  have hlen := ma_gf_len (op_gr kd p q (ar_bag (ia 10) (la 9) we (16 * e) ne) r) []
  have hl1 := op_gr_len kd p q (ar_bag (ia 10) (la 9) we (16 * e) ne) r
  have hl0 : ([] : MaB).length = 0 := rfl
  refine v_iload_n (pc := 2) d_Mo_groups_2 rfl rfl ?_
  refine v_aload_n (pc := 3) d_Mo_groups_3 rfl rfl ?_
  refine v_get (pc := 4) d_Mo_groups_4 fl_Mo_38 h1.o rfl ?_
  refine v_iload_n (pc := 7) d_Mo_groups_7 rfl rfl ?_
  refine v_ialdN (pc := 8) (k := e) (f := ia 8) d_Mo_groups_8 h1.a8 rfl (by omega) (by decide) ?_
  refine v_re hce ?_
  refine v_icmp_ge (pc := 9) (tgt := 113) d_Mo_groups_9 rfl (fun hc => ?_) (fun hc => ?_)
  · skip
    rw [nI_leI (by omega) (by omega)] at hc
    obtain rfl : r = ne := by omega
    exact v_vret (pc := 113) d_Mo_groups_113 rfl (Nat.le_of_ble_eq_true rfl) (Nat.le_of_ble_eq_true rfl) (hE w1 hgs)
  · skip
    rw [nI_leI (by omega) (by omega)] at hc
    refine v_aload_n (pc := 12) d_Mo_groups_12 rfl rfl ?_
    refine v_iload_n (pc := 13) d_Mo_groups_13 rfl rfl ?_
    refine v_iload_n (pc := 14) d_Mo_groups_14 rfl rfl ?_
    refine v_aload_n (pc := 15) d_Mo_groups_15 rfl rfl ?_
    refine v_get (pc := 16) d_Mo_groups_16 fl_Mo_26 h1.o rfl ?_
    refine v_iload_n (pc := 19) d_Mo_groups_19 rfl rfl ?_
    refine v_ialdN (pc := 20) (k := v) (f := ia 4) d_Mo_groups_20 h1.a4 rfl (by omega) (by decide) ?_
    refine v_re hp ?_
    refine v_cvR (pc := 21) (A := [.int (nI e), .int (nI r), .int (nI p)]) (rest := []) (x := .int (ia 10 (4 * (16 * e + r) + p))) d_Mo_groups_21 lk_Mo_83 me_Mo_cellOf im_Mo_cellOf se_Mo_cellOf rfl h1.o rfl rfl (c_Mo_cellOf g h1 (k := e) (r := r) (c := p) (by omega)) (Nat.le_of_ble_eq_true rfl) (Nat.le_of_ble_eq_true rfl) (Nat.le_of_ble_eq_true rfl) (Nat.le_of_ble_eq_true rfl) ?_
    refine v_istore (pc := 24) (L' := [(4, .int (ia 10 (4 * (16 * e + r) + p))), (3, .int (nI r)), (0, .ref b), (1, .int (nI e)), (2, .int (nI v))]) d_Mo_groups_24 (by decide) rfl ?_
    refine v_iconst (pc := 26) (v := nI 1) d_Mo_groups_26 rfl ?_
    refine v_re (y := (if op_fst p (ia 10 (4 * (16 * e + r) + p)) (ar_bag (ia 10) (la 9) we (16 * e) 0) = true then 1 else 0)) rfl ?_
    refine v_istore (pc := 27) (L' := [(5, .int (if op_fst p (ia 10 (4 * (16 * e + r) + p)) (ar_bag (ia 10) (la 9) we (16 * e) 0) = true then 1 else 0)), (4, .int (ia 10 (4 * (16 * e + r) + p))), (3, .int (nI r)), (0, .ref b), (1, .int (nI e)), (2, .int (nI v))]) d_Mo_groups_27 (by decide) rfl ?_
    refine v_iconst (pc := 29) (v := nI 0) d_Mo_groups_29 rfl ?_
    refine v_istore (pc := 30) (L' := [(6, .int (nI 0)), (5, .int (if op_fst p (ia 10 (4 * (16 * e + r) + p)) (ar_bag (ia 10) (la 9) we (16 * e) 0) = true then 1 else 0)), (4, .int (ia 10 (4 * (16 * e + r) + p))), (3, .int (nI r)), (0, .ref b), (1, .int (nI e)), (2, .int (nI v))]) d_Mo_groups_30 (by decide) rfl ?_
    refine v_sub (L' := [(6, .int (nI 0)), (5, .int (if op_fst p (ia 10 (4 * (16 * e + r) + p)) (ar_bag (ia 10) (la 9) we (16 * e) 0) = true then 1 else 0)), (4, .int (ia 10 (4 * (16 * e + r) + p))), (3, .int (nI r)), (0, .ref b), (1, .int (nI e)), (2, .int (nI v))]) (by simp) ?_
    refine lp1_Mo_groups g h1 (e := e) (v := v) (ne := ne) (we := we) (kd := kd) (p := p) (q := q) he hv hce hne hwe hkd hk hp hpe hq hqe (r := r) (by omega) (k := (ia 10 (4 * (16 * e + r) + p))) ?_ r 0 rfl (by omega)
    show VV g 2 0 0 mi_Mo_groups w sz E 74 [(6, .int (nI r)), (5, .int (if op_fst p (ia 10 (4 * (16 * e + r) + p)) (ar_bag (ia 10) (la 9) we (16 * e) r) = true then 1 else 0)), (4, .int (ia 10 (4 * (16 * e + r) + p))), (3, .int (nI r)), (0, .ref b), (1, .int (nI e)), (2, .int (nI v))] [] w1 sz 0 0
    refine v_iload (pc := 74) d_Mo_groups_74 rfl ?_
    refine v_if_eq (pc := 76) (tgt := 107) d_Mo_groups_76 rfl (fun hc => ?_) (fun hc => ?_)
    · skip
      rw [zf] at hc
      have hnext : mo_gs w b sc ia la 2 (ma_gf [] (op_gr kd p q (ar_bag (ia 10) (la 9) we (16 * e) ne) (r + 1))) w1 := by
        rw [op_gr, ar_bag_get (by omega), ar_bag_take (by omega)]
        dsimp only
        rw [op_ky_row hpe, if_neg hc, List.append_nil]
        exact hgs
      refine v_iinc (pc := 107) (L' := [(3, .int (nI (r + 1))), (6, .int (nI r)), (5, .int (if op_fst p (ia 10 (4 * (16 * e + r) + p)) (ar_bag (ia 10) (la 9) we (16 * e) r) = true then 1 else 0)), (4, .int (ia 10 (4 * (16 * e + r) + p))), (0, .ref b), (1, .int (nI e)), (2, .int (nI v))]) d_Mo_groups_107 rfl (ix_inc _) (by decide) rfl ?_
      refine v_goto (pc := 110) (tgt := 2) d_Mo_groups_110 rfl ?_
      refine v_sub (L' := [(3, .int (nI (r + 1))), (0, .ref b), (1, .int (nI e)), (2, .int (nI v))]) (by simp) ?_
      exact ih (ne - (r + 1)) (by omega) (r + 1) _ rfl (by omega) hnext
    · skip
      rw [zt] at hc
      refine v_aload_n (pc := 79) d_Mo_groups_79 rfl rfl ?_
      refine v_get (pc := 80) d_Mo_groups_80 fl_Mo_54 h1.o rfl ?_
      refine v_iconst (pc := 83) (v := nI 0) d_Mo_groups_83 rfl ?_
      refine v_iload (pc := 84) d_Mo_groups_84 rfl ?_
      refine v_iastW (pc := 86) (k := 0) (f := o1) d_Mo_groups_86 h1.a13 rfl (by omega) (by decide) (fun w2 hn2 hq2 => ?_)
      have h2 := h1.s13 hn2 hq2
      rw [bx_uu] at h2
      refine v_aload_n (pc := 87) d_Mo_groups_87 rfl rfl ?_
      refine v_get (pc := 88) d_Mo_groups_88 fl_Mo_54 h2.o rfl ?_
      refine v_iconst (pc := 91) (v := nI 1) d_Mo_groups_91 rfl ?_
      refine v_aload_n (pc := 92) d_Mo_groups_92 rfl rfl ?_
      refine v_iload_n (pc := 93) d_Mo_groups_93 rfl rfl ?_
      refine v_iload_n (pc := 94) d_Mo_groups_94 rfl rfl ?_
      refine v_iload (pc := 95) d_Mo_groups_95 rfl ?_
      have hh2 : MAt w2 b _ _ _ := h2
      refine v_cvR (pc := 97) (A := [.int (nI e), .int (nI v), .int (ia 10 (4 * (16 * e + r) + p))]) (rest := [.int (nI 1), .ref (b + 14)]) (x := .int ((op_rs kd p q (ia 10 (4 * (16 * e + r) + p)) (ar_bag (ia 10) (la 9) we (16 * e) ne)).getD 0)) d_Mo_groups_97 lk_Mo_98 me_Mo_result im_Mo_result se_Mo_result rfl h2.o rfl rfl (c_Mo_result g h2 (e := e) (v := v) (ne := ne) (we := we) (kd := kd) (p := p) (q := q) he hv hce hne hwe hkd hk hp hpe hq hqe (k := (ia 10 (4 * (16 * e + r) + p)))) (Nat.le_of_ble_eq_true rfl) (Nat.le_of_ble_eq_true rfl) (Nat.le_of_ble_eq_true rfl) (Nat.le_of_ble_eq_true rfl) ?_
      refine v_iastW (pc := 100) (k := 1) (f := (upd o1 0 (ia 10 (4 * (16 * e + r) + p)))) d_Mo_groups_100 h2.a13 rfl (by omega) (by decide) (fun w3 hn3 hq3 => ?_)
      have h3 := h2.s13 hn3 hq3
      rw [bx_uu] at h3
      refine v_aload_n (pc := 101) d_Mo_groups_101 rfl rfl ?_
      refine v_iconst (pc := 102) (v := nI 2) d_Mo_groups_102 rfl ?_
      refine v_lconst (pc := 103) (v := 1) d_Mo_groups_103 rfl ?_
      refine v_cvV (pc := 104) (A := [.int (nI 2), .long 1]) (rest := []) d_Mo_groups_104 lk_Mo_94 me_Mo_gather im_Mo_gather se_Mo_gather rfl h3.o rfl rfl (c_Mo_gather g h3 (n := (ma_gf [] (op_gr kd p q (ar_bag (ia 10) (la 9) we (16 * e) ne) r)).length) (wd := 2) (many := 1) rfl (by omega) (by decide)) (Nat.le_of_ble_eq_true rfl) (Nat.le_of_ble_eq_true rfl) (Nat.le_of_ble_eq_true rfl) (Nat.le_of_ble_eq_true rfl) (fun w4 ht4 => ?_)
      have hnext : mo_gs w b sc ia la 2 (ma_gf [] (op_gr kd p q (ar_bag (ia 10) (la 9) we (16 * e) ne) (r + 1))) w4 := by
        have e9 := mo_gs.add (w2 := w3) ((hfr.at ⟨by omega, by omega⟩ hq2).at ⟨by omega, by omega⟩ hq3) hGG ht4
        have e8 : ar_row (upd (upd o1 0 (ia 10 (4 * (16 * e + r) + p))) 1 ((op_rs kd p q (ia 10 (4 * (16 * e + r) + p)) (ar_bag (ia 10) (la 9) we (16 * e) ne)).getD 0)) 2 0 = [(ia 10 (4 * (16 * e + r) + p)), (op_rs kd p q (ia 10 (4 * (16 * e + r) + p)) (ar_bag (ia 10) (la 9) we (16 * e) ne)).getD 0] := by
          rw [ar_row_cons, ar_row_cons, ar_row_0, Nat.zero_add, pk_us, pk_un (by decide), pk_us]
        rw [e8] at e9
        rw [op_gr, ar_bag_get (by omega), ar_bag_take (by omega)]
        dsimp only
        rw [op_ky_row hpe, if_pos hc, ma_gf_snoc]
        exact e9
      refine v_iinc (pc := 107) (L' := [(3, .int (nI (r + 1))), (6, .int (nI r)), (5, .int (if op_fst p (ia 10 (4 * (16 * e + r) + p)) (ar_bag (ia 10) (la 9) we (16 * e) r) = true then 1 else 0)), (4, .int (ia 10 (4 * (16 * e + r) + p))), (0, .ref b), (1, .int (nI e)), (2, .int (nI v))]) d_Mo_groups_107 rfl (ix_inc _) (by decide) rfl ?_
      refine v_goto (pc := 110) (tgt := 2) d_Mo_groups_110 rfl ?_
      refine v_sub (L' := [(3, .int (nI (r + 1))), (0, .ref b), (1, .int (nI e)), (2, .int (nI v))]) (by simp) ?_
      exact ih (ne - (r + 1)) (by omega) (r + 1) _ rfl (by omega) hnext
set_option maxRecDepth 100000 in
set_option maxHeartbeats 4000000 in
theorem c_Mo_groups (g : Gl) {w : Wd} {b sz : Nat} {sc : Nat → Int32} {ia : Nat → Nat → Int32} {la : Nat → Nat → Int64} (hM : MAt w b sc ia la) {e v ne we kd p q : Nat} (he : e < 24) (hv : v < 12) (hce : ia 8 e = nI ne) (hne : ne ≤ 16) (hwe : we ≤ 4) (hkd : kd ≤ 2) (hk : ia 1 v = nI (5 + kd)) (hp : ia 4 v = nI p) (hpe : p < we) (hq : ia 5 v = nI q) (hqe : q < we) (hg : sc 2 = nI 0) : CT g 2 0 0 mi_Mo_groups [.ref b, .int (nI e), .int (nI v)] w sz (wrE none sz (mo_gs w b sc ia la 2 (ma_gf [] (op_gr kd p q (ar_bag (ia 10) (la 9) we (16 * e) ne) ne)) )) := by
  refine CT.of (by decide) (Nat.le_of_ble_eq_true rfl) ?_
  refine v_iconst (pc := 0) (v := nI 0) d_Mo_groups_0 rfl ?_
  refine v_istore_n (pc := 1) (L' := [(3, .int (nI 0)), (0, .ref b), (1, .int (nI e)), (2, .int (nI v))]) d_Mo_groups_1 rfl (by decide) rfl ?_
  refine v_sub (L' := [(3, .int (nI 0)), (0, .ref b), (1, .int (nI e)), (2, .int (nI v))]) (by simp) ?_
  exact lp_Mo_groups g hM he hv hce hne hwe hkd hk hp hpe hq hqe hg (fun w' h => ⟨rfl, rfl, h⟩) ne 0 w rfl (by omega) (mo_gs.start (G := []) hM hg rfl)
end
section
/-! What a view is made by: kind (0 a table; 1 select, 2 project, 3 join, 4 union, 5 to 7 group, 8 distinct), two views, three numbers. -/
abbrev VOp : Type := Nat × Nat × Nat × Int32 × Int32 × Int32
def i2n (x : Int32) : Nat := x.toInt.toNat
theorem i2n_nI {n : Nat} (h : n < 2 ^ 31) : i2n (nI n) = n := by unfold i2n; rw [nI_toInt h]; rfl
def colN (cols : Int32) (c : Nat) : Nat := i2n ((cols >>> (nI (4 * c) &&& 31)) &&& nI 15)
theorem and15 (x : Int32) : x &&& nI 15 = nI (i2n (x &&& nI 15)) ∧ i2n (x &&& nI 15) < 16 := by
  have h1 : (x &&& nI 15).toBitVec.toNat ≤ 15 := by
    show (x.toBitVec &&& 15#32).toNat ≤ 15
    rw [BitVec.toNat_and]
    exact Nat.and_le_right
  have h2 : (x &&& nI 15).toInt = ((x &&& nI 15).toBitVec.toNat : Int) := by
    show (x &&& nI 15).toBitVec.toInt = _
    rw [BitVec.toInt_eq_toNat_of_lt (by omega)]
  have h3 : i2n (x &&& nI 15) = (x &&& nI 15).toBitVec.toNat := by unfold i2n; rw [h2]; rfl
  refine ⟨Int32.toInt_inj.mp ?_, by omega⟩
  rw [nI_toInt (by omega), h3, h2]
theorem colN_eq (cols : Int32) (c : Nat) : (cols >>> (nI (4 * c) &&& 31)) &&& nI 15 = nI (colN cols c) := (and15 _).1
theorem colN_lt (cols : Int32) (c : Nat) : colN cols c < 16 := (and15 _).2
def op_adds (wv : Nat) (β : Nat → MaB) (o : VOp) : MaB :=
  if o.1 = 1 then op_sel (i2n o.2.2.2.1) o.2.2.2.2.1 o.2.2.2.2.2 (β o.2.1)
  else if o.1 = 2 then op_prj wv (colN o.2.2.2.1) (β o.2.1)
  else if o.1 = 3 then op_jn (i2n o.2.2.2.1) (i2n o.2.2.2.2.1) (β o.2.1) (β o.2.2.1)
  else if o.1 = 4 then β o.2.1 ++ β o.2.2.1
  else if o.1 = 8 then op_dis (β o.2.1)
  else op_gr (o.1 - 5) (i2n o.2.2.2.1) (i2n o.2.2.2.2.1) (β o.2.1) (β o.2.1).length
def WO (wd : Nat → Nat) (v : Nat) (o : VOp) : Prop := 1 ≤ wd v ∧ wd v ≤ 4 ∧
  ((o.1 = 1 ∧ o.2.1 < v ∧ wd v = wd o.2.1 ∧ ∃ p, o.2.2.2.1 = nI p ∧ p < wd o.2.1) ∨
   (o.1 = 2 ∧ o.2.1 < v ∧ ∀ c, c < wd v → colN o.2.2.2.1 c < wd o.2.1) ∨
   (o.1 = 3 ∧ o.2.1 < v ∧ o.2.2.1 < v ∧ wd v = wd o.2.1 + wd o.2.2.1 ∧ ∃ p q, o.2.2.2.1 = nI p ∧ o.2.2.2.2.1 = nI q ∧ p < wd o.2.1 ∧ q < wd o.2.2.1) ∨
   (o.1 = 4 ∧ o.2.1 < v ∧ o.2.2.1 < v ∧ wd o.2.1 = wd v ∧ wd o.2.2.1 = wd v) ∨
   (o.1 = 8 ∧ o.2.1 < v ∧ wd o.2.1 = wd v) ∨
   (∃ kd, kd ≤ 2 ∧ o.1 = 5 + kd ∧ o.2.1 < v ∧ wd v = 2 ∧ ∃ p q, o.2.2.2.1 = nI p ∧ o.2.2.2.2.1 = nI q ∧ p < wd o.2.1 ∧ q < wd o.2.1))
theorem op_gr_row (kd p q : Nat) (B : MaB) : ∀ r, ∀ x ∈ op_gr kd p q B r, x.1.length = 2
  | 0 => fun x hx => by cases hx
  | r + 1 => fun x hx => by
    rw [op_gr] at hx
    rcases List.mem_append.mp hx with h | h
    · exact op_gr_row kd p q B r x h
    · split at h
      · split at h
        · rw [List.mem_singleton] at h; subst h; rfl
        · cases h
      · cases h
theorem op_adds_row {wd : Nat → Nat} {β : Nat → MaB} {v : Nat} {o : VOp} (hW : WO wd v o) (hB : ∀ u, u < v → ∀ x ∈ β u, x.1.length = wd u) : ∀ x ∈ op_adds (wd v) β o, x.1.length = wd v := by
  obtain ⟨k, e, f, P, Q, R⟩ := o
  obtain ⟨h1, h4, h⟩ := hW
  dsimp only at h
  unfold op_adds
  dsimp only
  intro x hx
  rcases h with ⟨rfl, he, hw, _⟩ | ⟨rfl, he, hw⟩ | ⟨rfl, he, hf, hw, _⟩ | ⟨rfl, he, hf, hw1, hw2⟩ | ⟨rfl, he, hw⟩ | ⟨kd, hkd, rfl, he, hw, _⟩
  · rw [if_pos rfl] at hx
    rw [hw]; exact hB e he x (List.mem_filter.mp hx).1
  · rw [if_neg (by decide), if_pos rfl] at hx
    obtain ⟨y, hy, rfl⟩ := List.mem_map.mp hx
    simp
  · rw [if_neg (by decide), if_neg (by decide), if_pos rfl] at hx
    obtain ⟨y, hy, hx⟩ := List.mem_flatMap.mp hx
    obtain ⟨z, hz, rfl⟩ := List.mem_map.mp hx
    rw [List.length_append, hB e he y hy, hB f hf z (List.mem_filter.mp hz).1, hw]
  · rw [if_neg (by decide), if_neg (by decide), if_neg (by decide), if_pos rfl] at hx
    rcases List.mem_append.mp hx with h | h
    · rw [hB e he x h, hw1]
    · rw [hB f hf x h, hw2]
  · rw [if_neg (by decide), if_neg (by decide), if_neg (by decide), if_neg (by decide), if_pos rfl] at hx
    obtain ⟨y, hy, rfl⟩ := List.mem_map.mp hx
    rw [← hw]; exact hB e he y hy
  · rw [if_neg (by omega), if_neg (by omega), if_neg (by omega), if_neg (by omega), if_neg (by omega)] at hx
    rw [hw]; exact op_gr_row _ _ _ _ _ x hx
/-! The reference's blocks. -/
def BK (ia : Nat → Nat → Int32) (la : Nat → Nat → Int64) (k wd : Nat) (c : MaB) : Prop := ia 8 k = nI c.length ∧ c.length ≤ 16 ∧ ar_bag (ia 10) (la 9) wd (16 * k) c.length = c
theorem BK.row {ia : Nat → Nat → Int32} {la : Nat → Nat → Int64} {k wd : Nat} {c : MaB} (h : BK ia la k wd c) : ∀ x ∈ c, x.1.length = wd := by
  intro x hx
  rw [← h.2.2] at hx
  obtain ⟨r, _, rfl⟩ := ar_bag_mem hx
  exact ar_row_len _ _ _
def mo_ch (k : Nat) (sc : Nat → Int32) (ia : Nat → Nat → Int32) (la : Nat → Nat → Int64) (sc' : Nat → Int32) (ia' : Nat → Nat → Int32) (la' : Nat → Nat → Int64) : Prop :=
  (∀ j, j ≠ 2 → sc' j = sc j) ∧ (∀ i, i ≠ 8 → i ≠ 10 → i ≠ 12 → i ≠ 13 → ia' i = ia i) ∧ (∀ i, i ≠ k → ia' 8 i = ia 8 i) ∧ (∀ i, i < 64 * k ∨ 64 * k + 64 ≤ i → ia' 10 i = ia 10 i) ∧ (∀ i, i < 16 * k ∨ 16 * k + 16 ≤ i → la' 9 i = la 9 i)
theorem BK.ch {sc sc' : Nat → Int32} {ia ia' : Nat → Nat → Int32} {la la' : Nat → Nat → Int64} {k u wd : Nat} {c : MaB} (h : BK ia la u wd c) (hw : wd ≤ 4) (hc : mo_ch k sc ia la sc' ia' la') (hu : u ≠ k) : BK ia' la' u wd c := by
  obtain ⟨h1, h2, h3⟩ := h
  obtain ⟨c1, c2, c3, c4, c5⟩ := hc
  refine ⟨by rw [c3 u hu]; exact h1, h2, Eq.trans (ar_bag_congr (fun r hr c hc => c4 _ ?_) (fun r hr => c5 _ ?_)) h3⟩
  · rcases Nat.lt_or_gt_of_ne hu with h | h
    · left; omega
    · right; omega
  · rcases Nat.lt_or_gt_of_ne hu with h | h
    · left; omega
    · right; omega
theorem mo_ch.tr2 {k : Nat} {sc s1 s2 : Nat → Int32} {ia i1 i2 : Nat → Nat → Int32} {la l1 l2 : Nat → Nat → Int64} (h : mo_ch k sc ia la s1 i1 l1) (g : mo_ch k s1 i1 l1 s2 i2 l2) : mo_ch k sc ia la s2 i2 l2 :=
  ⟨fun j hj => (g.1 j hj).trans (h.1 j hj), fun i a b c d => (g.2.1 i a b c d).trans (h.2.1 i a b c d), fun i hi => (g.2.2.1 i hi).trans (h.2.2.1 i hi), fun i hi => (g.2.2.2.1 i hi).trans (h.2.2.2.1 i hi), fun i hi => (g.2.2.2.2 i hi).trans (h.2.2.2.2 i hi)⟩
def mo_wp (w : Wd) (b : Nat) (sc : Nat → Int32) (ia : Nat → Nat → Int32) (la : Nat → Nat → Int64) (k wd mo : Nat) (c : MaB) (w' : Wd) : Prop :=
  ∃ sc' ia' la', MAt w' b sc' ia' la' ∧ mo_fr b w w' ∧ mo_ch k sc ia la sc' ia' la' ∧ (c.length ≤ mo → BK ia' la' k wd c)
theorem c_Mo_settle (g : Gl) {w w1 : Wd} {b sz : Nat} {sc : Nat → Int32} {ia : Nat → Nat → Int32} {la : Nat → Nat → Int64} {k wd mo : Nat} {A : MaB} (hk : k < 24) (hw1 : 1 ≤ wd) (hwd : wd ≤ 4) (hmo : mo ≤ 16) (hG : (ma_gf [] A).length ≤ 256) (hA : ∀ x ∈ A, x.1.length = wd) (h : mo_gs w b sc ia la wd (ma_gf [] A) w1) :
    CT g 1 0 0 mi_Mo_settle [.ref b, .int (nI k), .int (nI wd), .int (nI mo)] w1 sz (wrE (some (.int (if (ma_fold [] A).length ≤ mo then 1 else 0))) sz (mo_wp w b sc ia la k wd mo (ma_fold [] A))) := by
  obtain ⟨f1, o1, m1, h1, hfr, hGG⟩ := h
  have hok : ma_ok wd (ma_fold [] A) := ma_fold_ok (ma_ok_nil wd) hA
  have hp : ((ar_bag f1 m1 wd 0 (ma_gf [] A).length).filter (fun x => decide (x.2 ≠ 0))).Perm (ma_fold [] A) := by rw [hGG]; exact ma_perm hA
  have hl : (ma_fold [] A).length ≤ 256 := by
    rw [← hp.length_eq]
    refine Nat.le_trans (List.length_filter_le _ _) ?_
    rw [ar_bag_len]; exact hG
  by_cases hc : (ma_fold [] A).length ≤ mo
  · refine CT.mono (c_Mo_settle_ok g h1 (n := (ma_gf [] A).length) (k := k) (wd := wd) (mo := mo) rfl hG hk hw1 hwd hmo hok hp hc) ?_
    rintro r w' sz' ⟨rfl, rfl, f2, m2, q1, q2, q3, q4, q5⟩
    refine ⟨by rw [if_pos hc]; rfl, rfl, _, _, _, q1, hfr.tr q2, ⟨?_, ?_, ?_, ?_, ?_⟩, fun _ => ⟨pk_us, by omega, q3⟩⟩
    · intro j hj; exact va_up_ne _ _ hj
    · intro i a1 a2 a3 a4; rw [va_up_ne _ _ a2, va_up_ne _ _ a1, va_up_ne _ _ a4, va_up_ne _ _ a3]
    · intro i hi; exact pk_un hi
    · intro i hi; exact q5 i hi
    · intro i hi; exact q4 i hi
  · refine CT.mono (c_Mo_settle_no g h1 (n := (ma_gf [] A).length) (k := k) (wd := wd) (mo := mo) rfl hG hk hw1 hwd hmo hok hp (by omega) hl) ?_
    rintro r w' sz' ⟨rfl, rfl, rfl⟩
    refine ⟨by rw [if_neg hc]; rfl, rfl, _, _, _, h1, hfr, ⟨?_, ?_, ?_, ?_, ?_⟩, fun h => absurd h hc⟩
    · intro j hj; exact va_up_ne _ _ hj
    · intro i a1 a2 a3 a4; rw [va_up_ne _ _ a4, va_up_ne _ _ a3]
    · intro i hi; rfl
    · intro i hi; rfl
    · intro i hi; rfl
end
section
def RO (ia : Nat → Nat → Int32) (v : Nat) (o : VOp) : Prop := ia 1 v = nI o.1 ∧ ia 2 v = nI o.2.1 ∧ ia 3 v = nI o.2.2.1 ∧ (o.1 ≠ 4 → o.1 ≠ 8 → ia 4 v = o.2.2.2.1 ∧ ia 5 v = o.2.2.2.2.1 ∧ ia 6 v = o.2.2.2.2.2)
theorem mo_gs.tr {w w1 w2 : Wd} {b : Nat} {sc : Nat → Int32} {ia : Nat → Nat → Int32} {la : Nat → Nat → Int64} {wd : Nat} {G : MaB} {x : Int32} {f o : Nat → Int32} {m : Nat → Int64} (hfr : mo_fr b w w1) (h : mo_gs w1 b (va_up sc 2 x) (va_up (va_up ia 12 f) 13 o) (va_up la 11 m) wd G w2) : mo_gs w b sc ia la wd G w2 := by
  obtain ⟨f2, o2, m2, q1, q2, q3⟩ := h
  rw [bx_uu, bx_uu, va_cm (va_up ia 12 f) (by decide : (13 : Nat) ≠ 12), bx_uu, bx_uu] at q1
  exact ⟨f2, o2, m2, q1, hfr.tr q2, q3⟩
set_option maxRecDepth 100000 in
set_option maxHeartbeats 4000000 in
theorem c_Mo_work_sel (g : Gl) {w : Wd} {b sz : Nat} {sc : Nat → Int32} {ia : Nat → Nat → Int32} {la : Nat → Nat → Int64} (hM : MAt w b sc ia la) {v on : Nat} (hv : v < 12) (hon : on ≤ 12) {e p wd : Nat} {B : MaB} (hk : ia 1 v = nI 1) (he : ia 2 v = nI e) (he2 : e < 12) (hB : BK ia la (e + on) wd B) (hw : ia 0 v = nI wd) (hw1 : 1 ≤ wd) (hwd : wd ≤ 4) (hp : ia 4 v = nI p) (hpe : p < wd) (hA : ∀ x ∈ (op_sel p (ia 5 v) (ia 6 v) B), x.1.length = wd) : CT g 3 0 0 mi_Mo_work [.ref b, .int (nI v), .int (nI on)] w sz (wrE (some (.int (if (ma_fold [] (op_sel p (ia 5 v) (ia 6 v) B)).length ≤ 16 then 1 else 0))) sz (mo_wp w b sc ia la (v + on) wd 16 (ma_fold [] (op_sel p (ia 5 v) (ia 6 v) B)))) := by
  refine CT.of (by decide) (Nat.le_of_ble_eq_true rfl) ?_
  obtain ⟨hB1, hB2, hB3⟩ := hB
  have hlen : (ma_gf [] (op_sel p (ia 5 v) (ia 6 v) B)).length ≤ 256 := by have h1 := ma_gf_len (op_sel p (ia 5 v) (ia 6 v) B) []; have h2 : (op_sel p (ia 5 v) (ia 6 v) B).length ≤ B.length := List.length_filter_le _ _; have hl0 : ([] : MaB).length = 0 := rfl; omega
  refine v_aload_n (pc := 0) d_Mo_work_0 rfl rfl ?_
  refine v_get (pc := 1) d_Mo_work_1 fl_Mo_20 hM.o rfl ?_
  refine v_iload_n (pc := 4) d_Mo_work_4 rfl rfl ?_
  refine v_ialdN (pc := 5) (k := v) (f := ia 2) d_Mo_work_5 hM.a2 rfl (by omega) (by decide) ?_
  refine v_re he ?_
  refine v_iload_n (pc := 6) d_Mo_work_6 rfl rfl ?_
  refine v_iadd (pc := 7) d_Mo_work_7 ?_
  refine v_re (nI_add e on) ?_
  refine v_istore_n (pc := 8) (L' := [(3, .int (nI (e + on))), (0, .ref b), (1, .int (nI v)), (2, .int (nI on))]) d_Mo_work_8 rfl (by decide) rfl ?_
  refine v_aload_n (pc := 9) d_Mo_work_9 rfl rfl ?_
  refine v_get (pc := 10) d_Mo_work_10 fl_Mo_23 hM.o rfl ?_
  refine v_iload_n (pc := 13) d_Mo_work_13 rfl rfl ?_
  refine v_ialdN (pc := 14) (k := v) (f := ia 3) d_Mo_work_14 hM.a3 rfl (by omega) (by decide) ?_
  refine v_iload_n (pc := 15) d_Mo_work_15 rfl rfl ?_
  refine v_iadd (pc := 16) d_Mo_work_16 ?_
  refine v_istore (pc := 17) (L' := [(4, .int ((ia 3 v) + (nI on))), (3, .int (nI (e + on))), (0, .ref b), (1, .int (nI v)), (2, .int (nI on))]) d_Mo_work_17 (by decide) rfl ?_
  refine v_aload_n (pc := 19) d_Mo_work_19 rfl rfl ?_
  refine v_iconst (pc := 20) (v := nI 0) d_Mo_work_20 rfl ?_
  refine v_putW (pc := 21) (fs' := (mo_fs b (va_up sc 2 (nI 0)))) d_Mo_work_21 fl_Mo_72 (fi_Mo_72 _) (ok_Mo_13 _) hM.o (Nat.le_of_ble_eq_true rfl) rfl (fun w1 hn1 hq1 => ?_)
  have hM1 := hM.n2 hn1 hq1
  refine v_aload_n (pc := 24) d_Mo_work_24 rfl rfl ?_
  refine v_get (pc := 25) d_Mo_work_25 fl_Mo_17 hM1.o rfl ?_
  refine v_iload_n (pc := 28) d_Mo_work_28 rfl rfl ?_
  refine v_ialdN (pc := 29) (k := v) (f := ia 1) d_Mo_work_29 hM1.a1 rfl (by omega) (by decide) ?_
  refine v_re hk ?_
  refine v_iconst (pc := 30) (v := nI 1) d_Mo_work_30 rfl ?_
  refine v_icmp_ne (pc := 31) (tgt := 43) d_Mo_work_31 rfl (fun hc => ?_) (fun hc => ?_)
  · skip
    rw [nI_eq (by omega) (by omega)] at hc
    exact absurd hc (by omega)
  · skip
    rw [nI_eq (by omega) (by omega)] at hc
    refine v_aload_n (pc := 34) d_Mo_work_34 rfl rfl ?_
    refine v_iload_n (pc := 35) d_Mo_work_35 rfl rfl ?_
    refine v_iload_n (pc := 36) d_Mo_work_36 rfl rfl ?_
    refine v_cvV (pc := 37) (A := [.int (nI (e + on)), .int (nI v)]) (rest := []) d_Mo_work_37 lk_Mo_101 me_Mo_selects im_Mo_selects se_Mo_selects rfl hM1.o rfl rfl (c_Mo_selects g hM1 (e := e + on) (v := v) (ne := B.length) (wd := wd) (by omega) hv hB1 hB2 hw hwd (G0 := []) rfl rfl (p := p) hp hpe (by decide)) (Nat.le_of_ble_eq_true rfl) (Nat.le_of_ble_eq_true rfl) (Nat.le_of_ble_eq_true rfl) (Nat.le_of_ble_eq_true rfl) (fun w2 hgs => ?_)
    rw [hB3] at hgs
    obtain ⟨f1, o1, m1, h1, hfr, hGG⟩ := id hgs
    refine v_goto (pc := 40) (tgt := 138) d_Mo_work_40 rfl ?_
    refine v_aload_n (pc := 138) d_Mo_work_138 rfl rfl ?_
    refine v_iload_n (pc := 139) d_Mo_work_139 rfl rfl ?_
    refine v_iload_n (pc := 140) d_Mo_work_140 rfl rfl ?_
    refine v_iadd (pc := 141) d_Mo_work_141 ?_
    refine v_re (nI_add v on) ?_
    refine v_aload_n (pc := 142) d_Mo_work_142 rfl rfl ?_
    refine v_get (pc := 143) d_Mo_work_143 fl_Mo_13 h1.o rfl ?_
    refine v_iload_n (pc := 146) d_Mo_work_146 rfl rfl ?_
    refine v_ialdN (pc := 147) (k := v) (f := ia 0) d_Mo_work_147 h1.a0 rfl (by omega) (by decide) ?_
    refine v_re hw ?_
    refine v_bipush (pc := 148) (v := nI 16) d_Mo_work_148 rfl ?_
    refine v_cvX (pc := 150) (A := [.int (nI (v + on)), .int (nI wd), .int (nI 16)]) (rest := []) (x := .int (if (ma_fold [] (op_sel p (ia 5 v) (ia 6 v) B)).length ≤ 16 then 1 else 0)) d_Mo_work_150 lk_Mo_118 me_Mo_settle im_Mo_settle se_Mo_settle rfl h1.o rfl rfl (c_Mo_settle g (k := v + on) (wd := wd) (mo := 16) (A := (op_sel p (ia 5 v) (ia 6 v) B)) (by omega) hw1 hwd (by decide) hlen hA hgs) (Nat.le_of_ble_eq_true rfl) (Nat.le_of_ble_eq_true rfl) (Nat.le_of_ble_eq_true rfl) (Nat.le_of_ble_eq_true rfl) (fun w9 h9 => ?_)
    obtain ⟨sc', ia', la', q1, q2, q3, q4⟩ := h9
    exact v_zret (pc := 153) d_Mo_work_153 rfl zb (Nat.le_of_ble_eq_true rfl) (Nat.le_of_ble_eq_true rfl) ⟨rfl, rfl, sc', ia', la', q1, (mo_fr.rf.at ⟨by omega, by omega⟩ hq1).tr q2, ⟨fun j hj => (q3.1 j hj).trans (va_up_ne _ _ hj), q3.2⟩, q4⟩
set_option maxRecDepth 100000 in
set_option maxHeartbeats 4000000 in
theorem c_Mo_work_prj (g : Gl) {w : Wd} {b sz : Nat} {sc : Nat → Int32} {ia : Nat → Nat → Int32} {la : Nat → Nat → Int64} (hM : MAt w b sc ia la) {v on : Nat} (hv : v < 12) (hon : on ≤ 12) {e we wd : Nat} {cols : Nat → Nat} {B : MaB} (hk : ia 1 v = nI 2) (he : ia 2 v = nI e) (he2 : e < 12) (hB : BK ia la (e + on) we B) (hw : ia 0 v = nI wd) (hw1 : 1 ≤ wd) (hwd : wd ≤ 4) (hwe : we ≤ 4) (hcol : ∀ c, c < wd → (ia 4 v >>> (nI (4 * c) &&& 31)) &&& nI 15 = nI (cols c) ∧ cols c < we) (hA : ∀ x ∈ (op_prj wd cols B), x.1.length = wd) : CT g 3 0 0 mi_Mo_work [.ref b, .int (nI v), .int (nI on)] w sz (wrE (some (.int (if (ma_fold [] (op_prj wd cols B)).length ≤ 16 then 1 else 0))) sz (mo_wp w b sc ia la (v + on) wd 16 (ma_fold [] (op_prj wd cols B)))) := by
  refine CT.of (by decide) (Nat.le_of_ble_eq_true rfl) ?_
  obtain ⟨hB1, hB2, hB3⟩ := hB
  have hlen : (ma_gf [] (op_prj wd cols B)).length ≤ 256 := by have h1 := ma_gf_len (op_prj wd cols B) []; rw [op_prj_len] at h1; have hl0 : ([] : MaB).length = 0 := rfl; omega
  refine v_aload_n (pc := 0) d_Mo_work_0 rfl rfl ?_
  refine v_get (pc := 1) d_Mo_work_1 fl_Mo_20 hM.o rfl ?_
  refine v_iload_n (pc := 4) d_Mo_work_4 rfl rfl ?_
  refine v_ialdN (pc := 5) (k := v) (f := ia 2) d_Mo_work_5 hM.a2 rfl (by omega) (by decide) ?_
  refine v_re he ?_
  refine v_iload_n (pc := 6) d_Mo_work_6 rfl rfl ?_
  refine v_iadd (pc := 7) d_Mo_work_7 ?_
  refine v_re (nI_add e on) ?_
  refine v_istore_n (pc := 8) (L' := [(3, .int (nI (e + on))), (0, .ref b), (1, .int (nI v)), (2, .int (nI on))]) d_Mo_work_8 rfl (by decide) rfl ?_
  refine v_aload_n (pc := 9) d_Mo_work_9 rfl rfl ?_
  refine v_get (pc := 10) d_Mo_work_10 fl_Mo_23 hM.o rfl ?_
  refine v_iload_n (pc := 13) d_Mo_work_13 rfl rfl ?_
  refine v_ialdN (pc := 14) (k := v) (f := ia 3) d_Mo_work_14 hM.a3 rfl (by omega) (by decide) ?_
  refine v_iload_n (pc := 15) d_Mo_work_15 rfl rfl ?_
  refine v_iadd (pc := 16) d_Mo_work_16 ?_
  refine v_istore (pc := 17) (L' := [(4, .int ((ia 3 v) + (nI on))), (3, .int (nI (e + on))), (0, .ref b), (1, .int (nI v)), (2, .int (nI on))]) d_Mo_work_17 (by decide) rfl ?_
  refine v_aload_n (pc := 19) d_Mo_work_19 rfl rfl ?_
  refine v_iconst (pc := 20) (v := nI 0) d_Mo_work_20 rfl ?_
  refine v_putW (pc := 21) (fs' := (mo_fs b (va_up sc 2 (nI 0)))) d_Mo_work_21 fl_Mo_72 (fi_Mo_72 _) (ok_Mo_13 _) hM.o (Nat.le_of_ble_eq_true rfl) rfl (fun w1 hn1 hq1 => ?_)
  have hM1 := hM.n2 hn1 hq1
  refine v_aload_n (pc := 24) d_Mo_work_24 rfl rfl ?_
  refine v_get (pc := 25) d_Mo_work_25 fl_Mo_17 hM1.o rfl ?_
  refine v_iload_n (pc := 28) d_Mo_work_28 rfl rfl ?_
  refine v_ialdN (pc := 29) (k := v) (f := ia 1) d_Mo_work_29 hM1.a1 rfl (by omega) (by decide) ?_
  refine v_re hk ?_
  refine v_iconst (pc := 30) (v := nI 1) d_Mo_work_30 rfl ?_
  refine v_icmp_ne (pc := 31) (tgt := 43) d_Mo_work_31 rfl (fun hc => ?_) (fun hc => ?_)
  · skip
    rw [nI_eq (by omega) (by omega)] at hc
    refine v_aload_n (pc := 43) d_Mo_work_43 rfl rfl ?_
    refine v_get (pc := 44) d_Mo_work_44 fl_Mo_17 hM1.o rfl ?_
    refine v_iload_n (pc := 47) d_Mo_work_47 rfl rfl ?_
    refine v_ialdN (pc := 48) (k := v) (f := ia 1) d_Mo_work_48 hM1.a1 rfl (by omega) (by decide) ?_
    refine v_re hk ?_
    refine v_iconst (pc := 49) (v := nI 2) d_Mo_work_49 rfl ?_
    refine v_icmp_ne (pc := 50) (tgt := 62) d_Mo_work_50 rfl (fun hc => ?_) (fun hc => ?_)
    · skip
      rw [nI_eq (by omega) (by omega)] at hc
      exact absurd hc (by omega)
    · skip
      rw [nI_eq (by omega) (by omega)] at hc
      refine v_aload_n (pc := 53) d_Mo_work_53 rfl rfl ?_
      refine v_iload_n (pc := 54) d_Mo_work_54 rfl rfl ?_
      refine v_iload_n (pc := 55) d_Mo_work_55 rfl rfl ?_
      refine v_cvV (pc := 56) (A := [.int (nI (e + on)), .int (nI v)]) (rest := []) d_Mo_work_56 lk_Mo_104 me_Mo_projects im_Mo_projects se_Mo_projects rfl hM1.o rfl rfl (c_Mo_projects g hM1 (e := e + on) (v := v) (ne := B.length) (wd := wd) (by omega) hv hB1 hB2 hw hwd (G0 := []) rfl rfl (we := we) (cols := cols) hwe hcol (by decide)) (Nat.le_of_ble_eq_true rfl) (Nat.le_of_ble_eq_true rfl) (Nat.le_of_ble_eq_true rfl) (Nat.le_of_ble_eq_true rfl) (fun w2 hgs => ?_)
      rw [hB3] at hgs
      obtain ⟨f1, o1, m1, h1, hfr, hGG⟩ := id hgs
      refine v_goto (pc := 59) (tgt := 138) d_Mo_work_59 rfl ?_
      refine v_aload_n (pc := 138) d_Mo_work_138 rfl rfl ?_
      refine v_iload_n (pc := 139) d_Mo_work_139 rfl rfl ?_
      refine v_iload_n (pc := 140) d_Mo_work_140 rfl rfl ?_
      refine v_iadd (pc := 141) d_Mo_work_141 ?_
      refine v_re (nI_add v on) ?_
      refine v_aload_n (pc := 142) d_Mo_work_142 rfl rfl ?_
      refine v_get (pc := 143) d_Mo_work_143 fl_Mo_13 h1.o rfl ?_
      refine v_iload_n (pc := 146) d_Mo_work_146 rfl rfl ?_
      refine v_ialdN (pc := 147) (k := v) (f := ia 0) d_Mo_work_147 h1.a0 rfl (by omega) (by decide) ?_
      refine v_re hw ?_
      refine v_bipush (pc := 148) (v := nI 16) d_Mo_work_148 rfl ?_
      refine v_cvX (pc := 150) (A := [.int (nI (v + on)), .int (nI wd), .int (nI 16)]) (rest := []) (x := .int (if (ma_fold [] (op_prj wd cols B)).length ≤ 16 then 1 else 0)) d_Mo_work_150 lk_Mo_118 me_Mo_settle im_Mo_settle se_Mo_settle rfl h1.o rfl rfl (c_Mo_settle g (k := v + on) (wd := wd) (mo := 16) (A := (op_prj wd cols B)) (by omega) hw1 hwd (by decide) hlen hA hgs) (Nat.le_of_ble_eq_true rfl) (Nat.le_of_ble_eq_true rfl) (Nat.le_of_ble_eq_true rfl) (Nat.le_of_ble_eq_true rfl) (fun w9 h9 => ?_)
      obtain ⟨sc', ia', la', q1, q2, q3, q4⟩ := h9
      exact v_zret (pc := 153) d_Mo_work_153 rfl zb (Nat.le_of_ble_eq_true rfl) (Nat.le_of_ble_eq_true rfl) ⟨rfl, rfl, sc', ia', la', q1, (mo_fr.rf.at ⟨by omega, by omega⟩ hq1).tr q2, ⟨fun j hj => (q3.1 j hj).trans (va_up_ne _ _ hj), q3.2⟩, q4⟩
  · skip
    rw [nI_eq (by omega) (by omega)] at hc
    exact absurd hc (by omega)
set_option maxRecDepth 100000 in
set_option maxHeartbeats 4000000 in
theorem c_Mo_work_jn (g : Gl) {w : Wd} {b sz : Nat} {sc : Nat → Int32} {ia : Nat → Nat → Int32} {la : Nat → Nat → Int64} (hM : MAt w b sc ia la) {v on : Nat} (hv : v < 12) (hon : on ≤ 12) {e f wl wr p q : Nat} {B C : MaB} (hk : ia 1 v = nI 3) (he : ia 2 v = nI e) (he2 : e < 12) (hf : ia 3 v = nI f) (hf2 : f < 12) (hB : BK ia la (e + on) wl B) (hC : BK ia la (f + on) wr C) (hw : ia 0 v = nI (wl + wr)) (hw1 : 1 ≤ wl + wr) (hwd : wl + wr ≤ 4) (hp : ia 4 v = nI p) (hpl : p < wl) (hq : ia 5 v = nI q) (hqr : q < wr) (hwx : ia 0 e = nI wl) (hA : ∀ x ∈ (op_jn p q B C), x.1.length = (wl + wr)) : CT g 3 0 0 mi_Mo_work [.ref b, .int (nI v), .int (nI on)] w sz (wrE (some (.int (if (ma_fold [] (op_jn p q B C)).length ≤ 16 then 1 else 0))) sz (mo_wp w b sc ia la (v + on) (wl + wr) 16 (ma_fold [] (op_jn p q B C)))) := by
  refine CT.of (by decide) (Nat.le_of_ble_eq_true rfl) ?_
  obtain ⟨hB1, hB2, hB3⟩ := hB
  obtain ⟨hC1, hC2, hC3⟩ := hC
  have hlen : (ma_gf [] (op_jn p q B C)).length ≤ 256 := by have h1 := ma_gf_len (op_jn p q B C) []; have h2 := op_jn_len p q C B; have h3 := Nat.mul_le_mul hB2 hC2; have hl0 : ([] : MaB).length = 0 := rfl; omega
  refine v_aload_n (pc := 0) d_Mo_work_0 rfl rfl ?_
  refine v_get (pc := 1) d_Mo_work_1 fl_Mo_20 hM.o rfl ?_
  refine v_iload_n (pc := 4) d_Mo_work_4 rfl rfl ?_
  refine v_ialdN (pc := 5) (k := v) (f := ia 2) d_Mo_work_5 hM.a2 rfl (by omega) (by decide) ?_
  refine v_re he ?_
  refine v_iload_n (pc := 6) d_Mo_work_6 rfl rfl ?_
  refine v_iadd (pc := 7) d_Mo_work_7 ?_
  refine v_re (nI_add e on) ?_
  refine v_istore_n (pc := 8) (L' := [(3, .int (nI (e + on))), (0, .ref b), (1, .int (nI v)), (2, .int (nI on))]) d_Mo_work_8 rfl (by decide) rfl ?_
  refine v_aload_n (pc := 9) d_Mo_work_9 rfl rfl ?_
  refine v_get (pc := 10) d_Mo_work_10 fl_Mo_23 hM.o rfl ?_
  refine v_iload_n (pc := 13) d_Mo_work_13 rfl rfl ?_
  refine v_ialdN (pc := 14) (k := v) (f := ia 3) d_Mo_work_14 hM.a3 rfl (by omega) (by decide) ?_
  refine v_re hf ?_
  refine v_iload_n (pc := 15) d_Mo_work_15 rfl rfl ?_
  refine v_iadd (pc := 16) d_Mo_work_16 ?_
  refine v_re (nI_add f on) ?_
  refine v_istore (pc := 17) (L' := [(4, .int (nI (f + on))), (3, .int (nI (e + on))), (0, .ref b), (1, .int (nI v)), (2, .int (nI on))]) d_Mo_work_17 (by decide) rfl ?_
  refine v_aload_n (pc := 19) d_Mo_work_19 rfl rfl ?_
  refine v_iconst (pc := 20) (v := nI 0) d_Mo_work_20 rfl ?_
  refine v_putW (pc := 21) (fs' := (mo_fs b (va_up sc 2 (nI 0)))) d_Mo_work_21 fl_Mo_72 (fi_Mo_72 _) (ok_Mo_13 _) hM.o (Nat.le_of_ble_eq_true rfl) rfl (fun w1 hn1 hq1 => ?_)
  have hM1 := hM.n2 hn1 hq1
  refine v_aload_n (pc := 24) d_Mo_work_24 rfl rfl ?_
  refine v_get (pc := 25) d_Mo_work_25 fl_Mo_17 hM1.o rfl ?_
  refine v_iload_n (pc := 28) d_Mo_work_28 rfl rfl ?_
  refine v_ialdN (pc := 29) (k := v) (f := ia 1) d_Mo_work_29 hM1.a1 rfl (by omega) (by decide) ?_
  refine v_re hk ?_
  refine v_iconst (pc := 30) (v := nI 1) d_Mo_work_30 rfl ?_
  refine v_icmp_ne (pc := 31) (tgt := 43) d_Mo_work_31 rfl (fun hc => ?_) (fun hc => ?_)
  · skip
    rw [nI_eq (by omega) (by omega)] at hc
    refine v_aload_n (pc := 43) d_Mo_work_43 rfl rfl ?_
    refine v_get (pc := 44) d_Mo_work_44 fl_Mo_17 hM1.o rfl ?_
    refine v_iload_n (pc := 47) d_Mo_work_47 rfl rfl ?_
    refine v_ialdN (pc := 48) (k := v) (f := ia 1) d_Mo_work_48 hM1.a1 rfl (by omega) (by decide) ?_
    refine v_re hk ?_
    refine v_iconst (pc := 49) (v := nI 2) d_Mo_work_49 rfl ?_
    refine v_icmp_ne (pc := 50) (tgt := 62) d_Mo_work_50 rfl (fun hc => ?_) (fun hc => ?_)
    · skip
      rw [nI_eq (by omega) (by omega)] at hc
      refine v_aload_n (pc := 62) d_Mo_work_62 rfl rfl ?_
      refine v_get (pc := 63) d_Mo_work_63 fl_Mo_17 hM1.o rfl ?_
      refine v_iload_n (pc := 66) d_Mo_work_66 rfl rfl ?_
      refine v_ialdN (pc := 67) (k := v) (f := ia 1) d_Mo_work_67 hM1.a1 rfl (by omega) (by decide) ?_
      refine v_re hk ?_
      refine v_iconst (pc := 68) (v := nI 3) d_Mo_work_68 rfl ?_
      refine v_icmp_ne (pc := 69) (tgt := 83) d_Mo_work_69 rfl (fun hc => ?_) (fun hc => ?_)
      · skip
        rw [nI_eq (by omega) (by omega)] at hc
        exact absurd hc (by omega)
      · skip
        rw [nI_eq (by omega) (by omega)] at hc
        refine v_aload_n (pc := 72) d_Mo_work_72 rfl rfl ?_
        refine v_iload_n (pc := 73) d_Mo_work_73 rfl rfl ?_
        refine v_iload (pc := 74) d_Mo_work_74 rfl ?_
        refine v_iload_n (pc := 76) d_Mo_work_76 rfl rfl ?_
        refine v_cvV (pc := 77) (A := [.int (nI (e + on)), .int (nI (f + on)), .int (nI v)]) (rest := []) d_Mo_work_77 lk_Mo_107 me_Mo_joins im_Mo_joins se_Mo_joins rfl hM1.o rfl rfl (c_Mo_joins g hM1 (e := e + on) (f := f + on) (v := v) (ne := B.length) (nf := C.length) (wl := wl) (wr := wr) (p := p) (q := q) (x := e) (by omega) (by omega) hv hB1 hB2 hC1 hC2 hw hwd hp hpl hq hqr he he2 hwx rfl) (Nat.le_of_ble_eq_true rfl) (Nat.le_of_ble_eq_true rfl) (Nat.le_of_ble_eq_true rfl) (Nat.le_of_ble_eq_true rfl) (fun w2 hgs => ?_)
        rw [hB3, hC3] at hgs
        obtain ⟨f1, o1, m1, h1, hfr, hGG⟩ := id hgs
        refine v_goto (pc := 80) (tgt := 138) d_Mo_work_80 rfl ?_
        refine v_aload_n (pc := 138) d_Mo_work_138 rfl rfl ?_
        refine v_iload_n (pc := 139) d_Mo_work_139 rfl rfl ?_
        refine v_iload_n (pc := 140) d_Mo_work_140 rfl rfl ?_
        refine v_iadd (pc := 141) d_Mo_work_141 ?_
        refine v_re (nI_add v on) ?_
        refine v_aload_n (pc := 142) d_Mo_work_142 rfl rfl ?_
        refine v_get (pc := 143) d_Mo_work_143 fl_Mo_13 h1.o rfl ?_
        refine v_iload_n (pc := 146) d_Mo_work_146 rfl rfl ?_
        refine v_ialdN (pc := 147) (k := v) (f := ia 0) d_Mo_work_147 h1.a0 rfl (by omega) (by decide) ?_
        refine v_re hw ?_
        refine v_bipush (pc := 148) (v := nI 16) d_Mo_work_148 rfl ?_
        refine v_cvX (pc := 150) (A := [.int (nI (v + on)), .int (nI (wl + wr)), .int (nI 16)]) (rest := []) (x := .int (if (ma_fold [] (op_jn p q B C)).length ≤ 16 then 1 else 0)) d_Mo_work_150 lk_Mo_118 me_Mo_settle im_Mo_settle se_Mo_settle rfl h1.o rfl rfl (c_Mo_settle g (k := v + on) (wd := (wl + wr)) (mo := 16) (A := (op_jn p q B C)) (by omega) hw1 hwd (by decide) hlen hA hgs) (Nat.le_of_ble_eq_true rfl) (Nat.le_of_ble_eq_true rfl) (Nat.le_of_ble_eq_true rfl) (Nat.le_of_ble_eq_true rfl) (fun w9 h9 => ?_)
        obtain ⟨sc', ia', la', q1, q2, q3, q4⟩ := h9
        exact v_zret (pc := 153) d_Mo_work_153 rfl zb (Nat.le_of_ble_eq_true rfl) (Nat.le_of_ble_eq_true rfl) ⟨rfl, rfl, sc', ia', la', q1, (mo_fr.rf.at ⟨by omega, by omega⟩ hq1).tr q2, ⟨fun j hj => (q3.1 j hj).trans (va_up_ne _ _ hj), q3.2⟩, q4⟩
    · skip
      rw [nI_eq (by omega) (by omega)] at hc
      exact absurd hc (by omega)
  · skip
    rw [nI_eq (by omega) (by omega)] at hc
    exact absurd hc (by omega)
set_option maxRecDepth 100000 in
set_option maxHeartbeats 4000000 in
theorem c_Mo_work_un (g : Gl) {w : Wd} {b sz : Nat} {sc : Nat → Int32} {ia : Nat → Nat → Int32} {la : Nat → Nat → Int64} (hM : MAt w b sc ia la) {v on : Nat} (hv : v < 12) (hon : on ≤ 12) {e f wd : Nat} {B C : MaB} (hk : ia 1 v = nI 4) (he : ia 2 v = nI e) (he2 : e < 12) (hf : ia 3 v = nI f) (hf2 : f < 12) (hB : BK ia la (e + on) wd B) (hC : BK ia la (f + on) wd C) (hw : ia 0 v = nI wd) (hw1 : 1 ≤ wd) (hwd : wd ≤ 4) (hA : ∀ x ∈ (B ++ C), x.1.length = wd) : CT g 3 0 0 mi_Mo_work [.ref b, .int (nI v), .int (nI on)] w sz (wrE (some (.int (if (ma_fold [] (B ++ C)).length ≤ 16 then 1 else 0))) sz (mo_wp w b sc ia la (v + on) wd 16 (ma_fold [] (B ++ C)))) := by
  refine CT.of (by decide) (Nat.le_of_ble_eq_true rfl) ?_
  obtain ⟨hB1, hB2, hB3⟩ := hB
  obtain ⟨hC1, hC2, hC3⟩ := hC
  have hlen : (ma_gf [] (B ++ C)).length ≤ 256 := by have h1 := ma_gf_len (B ++ C) []; rw [List.length_append] at h1; have hl0 : ([] : MaB).length = 0 := rfl; omega
  refine v_aload_n (pc := 0) d_Mo_work_0 rfl rfl ?_
  refine v_get (pc := 1) d_Mo_work_1 fl_Mo_20 hM.o rfl ?_
  refine v_iload_n (pc := 4) d_Mo_work_4 rfl rfl ?_
  refine v_ialdN (pc := 5) (k := v) (f := ia 2) d_Mo_work_5 hM.a2 rfl (by omega) (by decide) ?_
  refine v_re he ?_
  refine v_iload_n (pc := 6) d_Mo_work_6 rfl rfl ?_
  refine v_iadd (pc := 7) d_Mo_work_7 ?_
  refine v_re (nI_add e on) ?_
  refine v_istore_n (pc := 8) (L' := [(3, .int (nI (e + on))), (0, .ref b), (1, .int (nI v)), (2, .int (nI on))]) d_Mo_work_8 rfl (by decide) rfl ?_
  refine v_aload_n (pc := 9) d_Mo_work_9 rfl rfl ?_
  refine v_get (pc := 10) d_Mo_work_10 fl_Mo_23 hM.o rfl ?_
  refine v_iload_n (pc := 13) d_Mo_work_13 rfl rfl ?_
  refine v_ialdN (pc := 14) (k := v) (f := ia 3) d_Mo_work_14 hM.a3 rfl (by omega) (by decide) ?_
  refine v_re hf ?_
  refine v_iload_n (pc := 15) d_Mo_work_15 rfl rfl ?_
  refine v_iadd (pc := 16) d_Mo_work_16 ?_
  refine v_re (nI_add f on) ?_
  refine v_istore (pc := 17) (L' := [(4, .int (nI (f + on))), (3, .int (nI (e + on))), (0, .ref b), (1, .int (nI v)), (2, .int (nI on))]) d_Mo_work_17 (by decide) rfl ?_
  refine v_aload_n (pc := 19) d_Mo_work_19 rfl rfl ?_
  refine v_iconst (pc := 20) (v := nI 0) d_Mo_work_20 rfl ?_
  refine v_putW (pc := 21) (fs' := (mo_fs b (va_up sc 2 (nI 0)))) d_Mo_work_21 fl_Mo_72 (fi_Mo_72 _) (ok_Mo_13 _) hM.o (Nat.le_of_ble_eq_true rfl) rfl (fun w1 hn1 hq1 => ?_)
  have hM1 := hM.n2 hn1 hq1
  refine v_aload_n (pc := 24) d_Mo_work_24 rfl rfl ?_
  refine v_get (pc := 25) d_Mo_work_25 fl_Mo_17 hM1.o rfl ?_
  refine v_iload_n (pc := 28) d_Mo_work_28 rfl rfl ?_
  refine v_ialdN (pc := 29) (k := v) (f := ia 1) d_Mo_work_29 hM1.a1 rfl (by omega) (by decide) ?_
  refine v_re hk ?_
  refine v_iconst (pc := 30) (v := nI 1) d_Mo_work_30 rfl ?_
  refine v_icmp_ne (pc := 31) (tgt := 43) d_Mo_work_31 rfl (fun hc => ?_) (fun hc => ?_)
  · skip
    rw [nI_eq (by omega) (by omega)] at hc
    refine v_aload_n (pc := 43) d_Mo_work_43 rfl rfl ?_
    refine v_get (pc := 44) d_Mo_work_44 fl_Mo_17 hM1.o rfl ?_
    refine v_iload_n (pc := 47) d_Mo_work_47 rfl rfl ?_
    refine v_ialdN (pc := 48) (k := v) (f := ia 1) d_Mo_work_48 hM1.a1 rfl (by omega) (by decide) ?_
    refine v_re hk ?_
    refine v_iconst (pc := 49) (v := nI 2) d_Mo_work_49 rfl ?_
    refine v_icmp_ne (pc := 50) (tgt := 62) d_Mo_work_50 rfl (fun hc => ?_) (fun hc => ?_)
    · skip
      rw [nI_eq (by omega) (by omega)] at hc
      refine v_aload_n (pc := 62) d_Mo_work_62 rfl rfl ?_
      refine v_get (pc := 63) d_Mo_work_63 fl_Mo_17 hM1.o rfl ?_
      refine v_iload_n (pc := 66) d_Mo_work_66 rfl rfl ?_
      refine v_ialdN (pc := 67) (k := v) (f := ia 1) d_Mo_work_67 hM1.a1 rfl (by omega) (by decide) ?_
      refine v_re hk ?_
      refine v_iconst (pc := 68) (v := nI 3) d_Mo_work_68 rfl ?_
      refine v_icmp_ne (pc := 69) (tgt := 83) d_Mo_work_69 rfl (fun hc => ?_) (fun hc => ?_)
      · skip
        rw [nI_eq (by omega) (by omega)] at hc
        refine v_aload_n (pc := 83) d_Mo_work_83 rfl rfl ?_
        refine v_get (pc := 84) d_Mo_work_84 fl_Mo_17 hM1.o rfl ?_
        refine v_iload_n (pc := 87) d_Mo_work_87 rfl rfl ?_
        refine v_ialdN (pc := 88) (k := v) (f := ia 1) d_Mo_work_88 hM1.a1 rfl (by omega) (by decide) ?_
        refine v_re hk ?_
        refine v_iconst (pc := 89) (v := nI 4) d_Mo_work_89 rfl ?_
        refine v_icmp_ne (pc := 90) (tgt := 111) d_Mo_work_90 rfl (fun hc => ?_) (fun hc => ?_)
        · skip
          rw [nI_eq (by omega) (by omega)] at hc
          exact absurd hc (by omega)
        · skip
          rw [nI_eq (by omega) (by omega)] at hc
          refine v_aload_n (pc := 93) d_Mo_work_93 rfl rfl ?_
          refine v_iload_n (pc := 94) d_Mo_work_94 rfl rfl ?_
          refine v_iload_n (pc := 95) d_Mo_work_95 rfl rfl ?_
          refine v_iconst (pc := 96) (v := nI 0) d_Mo_work_96 rfl ?_
          refine v_cvV (pc := 97) (A := [.int (nI (e + on)), .int (nI v), .int (nI 0)]) (rest := []) d_Mo_work_97 lk_Mo_111 me_Mo_all im_Mo_all se_Mo_all rfl hM1.o rfl rfl (c_Mo_all g hM1 (e := e + on) (v := v) (ne := B.length) (wd := wd) (by omega) hv hB1 hB2 hw hwd (G0 := []) rfl rfl (by decide)) (Nat.le_of_ble_eq_true rfl) (Nat.le_of_ble_eq_true rfl) (Nat.le_of_ble_eq_true rfl) (Nat.le_of_ble_eq_true rfl) (fun w2 hgs1 => ?_)
          rw [hB3] at hgs1
          have hlB := ma_gf_len B []
          have hl0 : ([] : MaB).length = 0 := rfl
          obtain ⟨f2, o2, m2, h2, hfr2, hGG2⟩ := id hgs1
          refine v_aload_n (pc := 100) d_Mo_work_100 rfl rfl ?_
          refine v_iload (pc := 101) d_Mo_work_101 rfl ?_
          refine v_iload_n (pc := 103) d_Mo_work_103 rfl rfl ?_
          refine v_iconst (pc := 104) (v := nI 0) d_Mo_work_104 rfl ?_
          refine v_cvV (pc := 105) (A := [.int (nI (f + on)), .int (nI v), .int (nI 0)]) (rest := []) d_Mo_work_105 lk_Mo_111 me_Mo_all im_Mo_all se_Mo_all rfl h2.o rfl rfl (c_Mo_all g h2 (e := f + on) (v := v) (ne := C.length) (wd := wd) (by omega) hv hC1 hC2 hw hwd (G0 := ma_gf [] B) rfl hGG2 (by omega)) (Nat.le_of_ble_eq_true rfl) (Nat.le_of_ble_eq_true rfl) (Nat.le_of_ble_eq_true rfl) (Nat.le_of_ble_eq_true rfl) (fun w3 hgs2 => ?_)
          have hgs : mo_gs w1 b (va_up sc 2 (nI 0)) ia la wd (ma_gf [] (B ++ C)) w3 := by
            rw [ma_gf_app, ← hC3]
            exact mo_gs.tr hfr2 hgs2
          obtain ⟨f1, o1, m1, h1, hfr, hGG⟩ := id hgs
          refine v_goto (pc := 108) (tgt := 138) d_Mo_work_108 rfl ?_
          refine v_aload_n (pc := 138) d_Mo_work_138 rfl rfl ?_
          refine v_iload_n (pc := 139) d_Mo_work_139 rfl rfl ?_
          refine v_iload_n (pc := 140) d_Mo_work_140 rfl rfl ?_
          refine v_iadd (pc := 141) d_Mo_work_141 ?_
          refine v_re (nI_add v on) ?_
          refine v_aload_n (pc := 142) d_Mo_work_142 rfl rfl ?_
          refine v_get (pc := 143) d_Mo_work_143 fl_Mo_13 h1.o rfl ?_
          refine v_iload_n (pc := 146) d_Mo_work_146 rfl rfl ?_
          refine v_ialdN (pc := 147) (k := v) (f := ia 0) d_Mo_work_147 h1.a0 rfl (by omega) (by decide) ?_
          refine v_re hw ?_
          refine v_bipush (pc := 148) (v := nI 16) d_Mo_work_148 rfl ?_
          refine v_cvX (pc := 150) (A := [.int (nI (v + on)), .int (nI wd), .int (nI 16)]) (rest := []) (x := .int (if (ma_fold [] (B ++ C)).length ≤ 16 then 1 else 0)) d_Mo_work_150 lk_Mo_118 me_Mo_settle im_Mo_settle se_Mo_settle rfl h1.o rfl rfl (c_Mo_settle g (k := v + on) (wd := wd) (mo := 16) (A := (B ++ C)) (by omega) hw1 hwd (by decide) hlen hA hgs) (Nat.le_of_ble_eq_true rfl) (Nat.le_of_ble_eq_true rfl) (Nat.le_of_ble_eq_true rfl) (Nat.le_of_ble_eq_true rfl) (fun w9 h9 => ?_)
          obtain ⟨sc', ia', la', q1, q2, q3, q4⟩ := h9
          exact v_zret (pc := 153) d_Mo_work_153 rfl zb (Nat.le_of_ble_eq_true rfl) (Nat.le_of_ble_eq_true rfl) ⟨rfl, rfl, sc', ia', la', q1, (mo_fr.rf.at ⟨by omega, by omega⟩ hq1).tr q2, ⟨fun j hj => (q3.1 j hj).trans (va_up_ne _ _ hj), q3.2⟩, q4⟩
      · skip
        rw [nI_eq (by omega) (by omega)] at hc
        exact absurd hc (by omega)
    · skip
      rw [nI_eq (by omega) (by omega)] at hc
      exact absurd hc (by omega)
  · skip
    rw [nI_eq (by omega) (by omega)] at hc
    exact absurd hc (by omega)
set_option maxRecDepth 100000 in
set_option maxHeartbeats 4000000 in
theorem c_Mo_work_dis (g : Gl) {w : Wd} {b sz : Nat} {sc : Nat → Int32} {ia : Nat → Nat → Int32} {la : Nat → Nat → Int64} (hM : MAt w b sc ia la) {v on : Nat} (hv : v < 12) (hon : on ≤ 12) {e wd : Nat} {B : MaB} (hk : ia 1 v = nI 8) (he : ia 2 v = nI e) (he2 : e < 12) (hB : BK ia la (e + on) wd B) (hw : ia 0 v = nI wd) (hw1 : 1 ≤ wd) (hwd : wd ≤ 4) (hA : ∀ x ∈ (op_dis B), x.1.length = wd) : CT g 3 0 0 mi_Mo_work [.ref b, .int (nI v), .int (nI on)] w sz (wrE (some (.int (if (ma_fold [] (op_dis B)).length ≤ 16 then 1 else 0))) sz (mo_wp w b sc ia la (v + on) wd 16 (ma_fold [] (op_dis B)))) := by
  refine CT.of (by decide) (Nat.le_of_ble_eq_true rfl) ?_
  obtain ⟨hB1, hB2, hB3⟩ := hB
  have hlen : (ma_gf [] (op_dis B)).length ≤ 256 := by have h1 := ma_gf_len (op_dis B) []; rw [op_dis_len] at h1; have hl0 : ([] : MaB).length = 0 := rfl; omega
  refine v_aload_n (pc := 0) d_Mo_work_0 rfl rfl ?_
  refine v_get (pc := 1) d_Mo_work_1 fl_Mo_20 hM.o rfl ?_
  refine v_iload_n (pc := 4) d_Mo_work_4 rfl rfl ?_
  refine v_ialdN (pc := 5) (k := v) (f := ia 2) d_Mo_work_5 hM.a2 rfl (by omega) (by decide) ?_
  refine v_re he ?_
  refine v_iload_n (pc := 6) d_Mo_work_6 rfl rfl ?_
  refine v_iadd (pc := 7) d_Mo_work_7 ?_
  refine v_re (nI_add e on) ?_
  refine v_istore_n (pc := 8) (L' := [(3, .int (nI (e + on))), (0, .ref b), (1, .int (nI v)), (2, .int (nI on))]) d_Mo_work_8 rfl (by decide) rfl ?_
  refine v_aload_n (pc := 9) d_Mo_work_9 rfl rfl ?_
  refine v_get (pc := 10) d_Mo_work_10 fl_Mo_23 hM.o rfl ?_
  refine v_iload_n (pc := 13) d_Mo_work_13 rfl rfl ?_
  refine v_ialdN (pc := 14) (k := v) (f := ia 3) d_Mo_work_14 hM.a3 rfl (by omega) (by decide) ?_
  refine v_iload_n (pc := 15) d_Mo_work_15 rfl rfl ?_
  refine v_iadd (pc := 16) d_Mo_work_16 ?_
  refine v_istore (pc := 17) (L' := [(4, .int ((ia 3 v) + (nI on))), (3, .int (nI (e + on))), (0, .ref b), (1, .int (nI v)), (2, .int (nI on))]) d_Mo_work_17 (by decide) rfl ?_
  refine v_aload_n (pc := 19) d_Mo_work_19 rfl rfl ?_
  refine v_iconst (pc := 20) (v := nI 0) d_Mo_work_20 rfl ?_
  refine v_putW (pc := 21) (fs' := (mo_fs b (va_up sc 2 (nI 0)))) d_Mo_work_21 fl_Mo_72 (fi_Mo_72 _) (ok_Mo_13 _) hM.o (Nat.le_of_ble_eq_true rfl) rfl (fun w1 hn1 hq1 => ?_)
  have hM1 := hM.n2 hn1 hq1
  refine v_aload_n (pc := 24) d_Mo_work_24 rfl rfl ?_
  refine v_get (pc := 25) d_Mo_work_25 fl_Mo_17 hM1.o rfl ?_
  refine v_iload_n (pc := 28) d_Mo_work_28 rfl rfl ?_
  refine v_ialdN (pc := 29) (k := v) (f := ia 1) d_Mo_work_29 hM1.a1 rfl (by omega) (by decide) ?_
  refine v_re hk ?_
  refine v_iconst (pc := 30) (v := nI 1) d_Mo_work_30 rfl ?_
  refine v_icmp_ne (pc := 31) (tgt := 43) d_Mo_work_31 rfl (fun hc => ?_) (fun hc => ?_)
  · skip
    rw [nI_eq (by omega) (by omega)] at hc
    refine v_aload_n (pc := 43) d_Mo_work_43 rfl rfl ?_
    refine v_get (pc := 44) d_Mo_work_44 fl_Mo_17 hM1.o rfl ?_
    refine v_iload_n (pc := 47) d_Mo_work_47 rfl rfl ?_
    refine v_ialdN (pc := 48) (k := v) (f := ia 1) d_Mo_work_48 hM1.a1 rfl (by omega) (by decide) ?_
    refine v_re hk ?_
    refine v_iconst (pc := 49) (v := nI 2) d_Mo_work_49 rfl ?_
    refine v_icmp_ne (pc := 50) (tgt := 62) d_Mo_work_50 rfl (fun hc => ?_) (fun hc => ?_)
    · skip
      rw [nI_eq (by omega) (by omega)] at hc
      refine v_aload_n (pc := 62) d_Mo_work_62 rfl rfl ?_
      refine v_get (pc := 63) d_Mo_work_63 fl_Mo_17 hM1.o rfl ?_
      refine v_iload_n (pc := 66) d_Mo_work_66 rfl rfl ?_
      refine v_ialdN (pc := 67) (k := v) (f := ia 1) d_Mo_work_67 hM1.a1 rfl (by omega) (by decide) ?_
      refine v_re hk ?_
      refine v_iconst (pc := 68) (v := nI 3) d_Mo_work_68 rfl ?_
      refine v_icmp_ne (pc := 69) (tgt := 83) d_Mo_work_69 rfl (fun hc => ?_) (fun hc => ?_)
      · skip
        rw [nI_eq (by omega) (by omega)] at hc
        refine v_aload_n (pc := 83) d_Mo_work_83 rfl rfl ?_
        refine v_get (pc := 84) d_Mo_work_84 fl_Mo_17 hM1.o rfl ?_
        refine v_iload_n (pc := 87) d_Mo_work_87 rfl rfl ?_
        refine v_ialdN (pc := 88) (k := v) (f := ia 1) d_Mo_work_88 hM1.a1 rfl (by omega) (by decide) ?_
        refine v_re hk ?_
        refine v_iconst (pc := 89) (v := nI 4) d_Mo_work_89 rfl ?_
        refine v_icmp_ne (pc := 90) (tgt := 111) d_Mo_work_90 rfl (fun hc => ?_) (fun hc => ?_)
        · skip
          rw [nI_eq (by omega) (by omega)] at hc
          refine v_aload_n (pc := 111) d_Mo_work_111 rfl rfl ?_
          refine v_get (pc := 112) d_Mo_work_112 fl_Mo_17 hM1.o rfl ?_
          refine v_iload_n (pc := 115) d_Mo_work_115 rfl rfl ?_
          refine v_ialdN (pc := 116) (k := v) (f := ia 1) d_Mo_work_116 hM1.a1 rfl (by omega) (by decide) ?_
          refine v_re hk ?_
          refine v_bipush (pc := 117) (v := nI 8) d_Mo_work_117 rfl ?_
          refine v_icmp_ne (pc := 119) (tgt := 132) d_Mo_work_119 rfl (fun hc => ?_) (fun hc => ?_)
          · skip
            rw [nI_eq (by omega) (by omega)] at hc
            exact absurd hc (by omega)
          · skip
            rw [nI_eq (by omega) (by omega)] at hc
            refine v_aload_n (pc := 122) d_Mo_work_122 rfl rfl ?_
            refine v_iload_n (pc := 123) d_Mo_work_123 rfl rfl ?_
            refine v_iload_n (pc := 124) d_Mo_work_124 rfl rfl ?_
            refine v_iconst (pc := 125) (v := nI 1) d_Mo_work_125 rfl ?_
            refine v_cvV (pc := 126) (A := [.int (nI (e + on)), .int (nI v), .int (nI 1)]) (rest := []) d_Mo_work_126 lk_Mo_111 me_Mo_all im_Mo_all se_Mo_all rfl hM1.o rfl rfl (c_Mo_dis g hM1 (e := e + on) (v := v) (ne := B.length) (wd := wd) (by omega) hv hB1 hB2 hw hwd (G0 := []) rfl rfl (by decide)) (Nat.le_of_ble_eq_true rfl) (Nat.le_of_ble_eq_true rfl) (Nat.le_of_ble_eq_true rfl) (Nat.le_of_ble_eq_true rfl) (fun w2 hgs => ?_)
            rw [hB3] at hgs
            obtain ⟨f1, o1, m1, h1, hfr, hGG⟩ := id hgs
            refine v_goto (pc := 129) (tgt := 138) d_Mo_work_129 rfl ?_
            refine v_aload_n (pc := 138) d_Mo_work_138 rfl rfl ?_
            refine v_iload_n (pc := 139) d_Mo_work_139 rfl rfl ?_
            refine v_iload_n (pc := 140) d_Mo_work_140 rfl rfl ?_
            refine v_iadd (pc := 141) d_Mo_work_141 ?_
            refine v_re (nI_add v on) ?_
            refine v_aload_n (pc := 142) d_Mo_work_142 rfl rfl ?_
            refine v_get (pc := 143) d_Mo_work_143 fl_Mo_13 h1.o rfl ?_
            refine v_iload_n (pc := 146) d_Mo_work_146 rfl rfl ?_
            refine v_ialdN (pc := 147) (k := v) (f := ia 0) d_Mo_work_147 h1.a0 rfl (by omega) (by decide) ?_
            refine v_re hw ?_
            refine v_bipush (pc := 148) (v := nI 16) d_Mo_work_148 rfl ?_
            refine v_cvX (pc := 150) (A := [.int (nI (v + on)), .int (nI wd), .int (nI 16)]) (rest := []) (x := .int (if (ma_fold [] (op_dis B)).length ≤ 16 then 1 else 0)) d_Mo_work_150 lk_Mo_118 me_Mo_settle im_Mo_settle se_Mo_settle rfl h1.o rfl rfl (c_Mo_settle g (k := v + on) (wd := wd) (mo := 16) (A := (op_dis B)) (by omega) hw1 hwd (by decide) hlen hA hgs) (Nat.le_of_ble_eq_true rfl) (Nat.le_of_ble_eq_true rfl) (Nat.le_of_ble_eq_true rfl) (Nat.le_of_ble_eq_true rfl) (fun w9 h9 => ?_)
            obtain ⟨sc', ia', la', q1, q2, q3, q4⟩ := h9
            exact v_zret (pc := 153) d_Mo_work_153 rfl zb (Nat.le_of_ble_eq_true rfl) (Nat.le_of_ble_eq_true rfl) ⟨rfl, rfl, sc', ia', la', q1, (mo_fr.rf.at ⟨by omega, by omega⟩ hq1).tr q2, ⟨fun j hj => (q3.1 j hj).trans (va_up_ne _ _ hj), q3.2⟩, q4⟩
        · skip
          rw [nI_eq (by omega) (by omega)] at hc
          exact absurd hc (by omega)
      · skip
        rw [nI_eq (by omega) (by omega)] at hc
        exact absurd hc (by omega)
    · skip
      rw [nI_eq (by omega) (by omega)] at hc
      exact absurd hc (by omega)
  · skip
    rw [nI_eq (by omega) (by omega)] at hc
    exact absurd hc (by omega)
set_option maxRecDepth 100000 in
set_option maxHeartbeats 4000000 in
theorem c_Mo_work_gr (g : Gl) {w : Wd} {b sz : Nat} {sc : Nat → Int32} {ia : Nat → Nat → Int32} {la : Nat → Nat → Int64} (hM : MAt w b sc ia la) {v on : Nat} (hv : v < 12) (hon : on ≤ 12) {e we kd p q : Nat} {B : MaB} (hkd : kd ≤ 2) (hk : ia 1 v = nI (5 + kd)) (he : ia 2 v = nI e) (he2 : e < 12) (hB : BK ia la (e + on) we B) (hwe : we ≤ 4) (hw : ia 0 v = nI 2) (hp : ia 4 v = nI p) (hpe : p < we) (hq : ia 5 v = nI q) (hqe : q < we) (hA : ∀ x ∈ (op_gr kd p q B B.length), x.1.length = 2) : CT g 3 0 0 mi_Mo_work [.ref b, .int (nI v), .int (nI on)] w sz (wrE (some (.int (if (ma_fold [] (op_gr kd p q B B.length)).length ≤ 16 then 1 else 0))) sz (mo_wp w b sc ia la (v + on) 2 16 (ma_fold [] (op_gr kd p q B B.length)))) := by
  refine CT.of (by decide) (Nat.le_of_ble_eq_true rfl) ?_
  obtain ⟨hB1, hB2, hB3⟩ := hB
  have hlen : (ma_gf [] (op_gr kd p q B B.length)).length ≤ 256 := by have h1 := ma_gf_len (op_gr kd p q B B.length) []; have h2 := op_gr_len kd p q B B.length; have hl0 : ([] : MaB).length = 0 := rfl; omega
  refine v_aload_n (pc := 0) d_Mo_work_0 rfl rfl ?_
  refine v_get (pc := 1) d_Mo_work_1 fl_Mo_20 hM.o rfl ?_
  refine v_iload_n (pc := 4) d_Mo_work_4 rfl rfl ?_
  refine v_ialdN (pc := 5) (k := v) (f := ia 2) d_Mo_work_5 hM.a2 rfl (by omega) (by decide) ?_
  refine v_re he ?_
  refine v_iload_n (pc := 6) d_Mo_work_6 rfl rfl ?_
  refine v_iadd (pc := 7) d_Mo_work_7 ?_
  refine v_re (nI_add e on) ?_
  refine v_istore_n (pc := 8) (L' := [(3, .int (nI (e + on))), (0, .ref b), (1, .int (nI v)), (2, .int (nI on))]) d_Mo_work_8 rfl (by decide) rfl ?_
  refine v_aload_n (pc := 9) d_Mo_work_9 rfl rfl ?_
  refine v_get (pc := 10) d_Mo_work_10 fl_Mo_23 hM.o rfl ?_
  refine v_iload_n (pc := 13) d_Mo_work_13 rfl rfl ?_
  refine v_ialdN (pc := 14) (k := v) (f := ia 3) d_Mo_work_14 hM.a3 rfl (by omega) (by decide) ?_
  refine v_iload_n (pc := 15) d_Mo_work_15 rfl rfl ?_
  refine v_iadd (pc := 16) d_Mo_work_16 ?_
  refine v_istore (pc := 17) (L' := [(4, .int ((ia 3 v) + (nI on))), (3, .int (nI (e + on))), (0, .ref b), (1, .int (nI v)), (2, .int (nI on))]) d_Mo_work_17 (by decide) rfl ?_
  refine v_aload_n (pc := 19) d_Mo_work_19 rfl rfl ?_
  refine v_iconst (pc := 20) (v := nI 0) d_Mo_work_20 rfl ?_
  refine v_putW (pc := 21) (fs' := (mo_fs b (va_up sc 2 (nI 0)))) d_Mo_work_21 fl_Mo_72 (fi_Mo_72 _) (ok_Mo_13 _) hM.o (Nat.le_of_ble_eq_true rfl) rfl (fun w1 hn1 hq1 => ?_)
  have hM1 := hM.n2 hn1 hq1
  refine v_aload_n (pc := 24) d_Mo_work_24 rfl rfl ?_
  refine v_get (pc := 25) d_Mo_work_25 fl_Mo_17 hM1.o rfl ?_
  refine v_iload_n (pc := 28) d_Mo_work_28 rfl rfl ?_
  refine v_ialdN (pc := 29) (k := v) (f := ia 1) d_Mo_work_29 hM1.a1 rfl (by omega) (by decide) ?_
  refine v_re hk ?_
  refine v_iconst (pc := 30) (v := nI 1) d_Mo_work_30 rfl ?_
  refine v_icmp_ne (pc := 31) (tgt := 43) d_Mo_work_31 rfl (fun hc => ?_) (fun hc => ?_)
  · skip
    rw [nI_eq (by omega) (by omega)] at hc
    refine v_aload_n (pc := 43) d_Mo_work_43 rfl rfl ?_
    refine v_get (pc := 44) d_Mo_work_44 fl_Mo_17 hM1.o rfl ?_
    refine v_iload_n (pc := 47) d_Mo_work_47 rfl rfl ?_
    refine v_ialdN (pc := 48) (k := v) (f := ia 1) d_Mo_work_48 hM1.a1 rfl (by omega) (by decide) ?_
    refine v_re hk ?_
    refine v_iconst (pc := 49) (v := nI 2) d_Mo_work_49 rfl ?_
    refine v_icmp_ne (pc := 50) (tgt := 62) d_Mo_work_50 rfl (fun hc => ?_) (fun hc => ?_)
    · skip
      rw [nI_eq (by omega) (by omega)] at hc
      refine v_aload_n (pc := 62) d_Mo_work_62 rfl rfl ?_
      refine v_get (pc := 63) d_Mo_work_63 fl_Mo_17 hM1.o rfl ?_
      refine v_iload_n (pc := 66) d_Mo_work_66 rfl rfl ?_
      refine v_ialdN (pc := 67) (k := v) (f := ia 1) d_Mo_work_67 hM1.a1 rfl (by omega) (by decide) ?_
      refine v_re hk ?_
      refine v_iconst (pc := 68) (v := nI 3) d_Mo_work_68 rfl ?_
      refine v_icmp_ne (pc := 69) (tgt := 83) d_Mo_work_69 rfl (fun hc => ?_) (fun hc => ?_)
      · skip
        rw [nI_eq (by omega) (by omega)] at hc
        refine v_aload_n (pc := 83) d_Mo_work_83 rfl rfl ?_
        refine v_get (pc := 84) d_Mo_work_84 fl_Mo_17 hM1.o rfl ?_
        refine v_iload_n (pc := 87) d_Mo_work_87 rfl rfl ?_
        refine v_ialdN (pc := 88) (k := v) (f := ia 1) d_Mo_work_88 hM1.a1 rfl (by omega) (by decide) ?_
        refine v_re hk ?_
        refine v_iconst (pc := 89) (v := nI 4) d_Mo_work_89 rfl ?_
        refine v_icmp_ne (pc := 90) (tgt := 111) d_Mo_work_90 rfl (fun hc => ?_) (fun hc => ?_)
        · skip
          rw [nI_eq (by omega) (by omega)] at hc
          refine v_aload_n (pc := 111) d_Mo_work_111 rfl rfl ?_
          refine v_get (pc := 112) d_Mo_work_112 fl_Mo_17 hM1.o rfl ?_
          refine v_iload_n (pc := 115) d_Mo_work_115 rfl rfl ?_
          refine v_ialdN (pc := 116) (k := v) (f := ia 1) d_Mo_work_116 hM1.a1 rfl (by omega) (by decide) ?_
          refine v_re hk ?_
          refine v_bipush (pc := 117) (v := nI 8) d_Mo_work_117 rfl ?_
          refine v_icmp_ne (pc := 119) (tgt := 132) d_Mo_work_119 rfl (fun hc => ?_) (fun hc => ?_)
          · skip
            rw [nI_eq (by omega) (by omega)] at hc
            refine v_aload_n (pc := 132) d_Mo_work_132 rfl rfl ?_
            refine v_iload_n (pc := 133) d_Mo_work_133 rfl rfl ?_
            refine v_iload_n (pc := 134) d_Mo_work_134 rfl rfl ?_
            refine v_cvV (pc := 135) (A := [.int (nI (e + on)), .int (nI v)]) (rest := []) d_Mo_work_135 lk_Mo_115 me_Mo_groups im_Mo_groups se_Mo_groups rfl hM1.o rfl rfl (c_Mo_groups g hM1 (e := e + on) (v := v) (ne := B.length) (we := we) (kd := kd) (p := p) (q := q) (by omega) hv hB1 hB2 hwe hkd hk hp hpe hq hqe rfl) (Nat.le_of_ble_eq_true rfl) (Nat.le_of_ble_eq_true rfl) (Nat.le_of_ble_eq_true rfl) (Nat.le_of_ble_eq_true rfl) (fun w2 hgs => ?_)
            rw [hB3] at hgs
            obtain ⟨f1, o1, m1, h1, hfr, hGG⟩ := id hgs
            refine v_aload_n (pc := 138) d_Mo_work_138 rfl rfl ?_
            refine v_iload_n (pc := 139) d_Mo_work_139 rfl rfl ?_
            refine v_iload_n (pc := 140) d_Mo_work_140 rfl rfl ?_
            refine v_iadd (pc := 141) d_Mo_work_141 ?_
            refine v_re (nI_add v on) ?_
            refine v_aload_n (pc := 142) d_Mo_work_142 rfl rfl ?_
            refine v_get (pc := 143) d_Mo_work_143 fl_Mo_13 h1.o rfl ?_
            refine v_iload_n (pc := 146) d_Mo_work_146 rfl rfl ?_
            refine v_ialdN (pc := 147) (k := v) (f := ia 0) d_Mo_work_147 h1.a0 rfl (by omega) (by decide) ?_
            refine v_re hw ?_
            refine v_bipush (pc := 148) (v := nI 16) d_Mo_work_148 rfl ?_
            refine v_cvX (pc := 150) (A := [.int (nI (v + on)), .int (nI 2), .int (nI 16)]) (rest := []) (x := .int (if (ma_fold [] (op_gr kd p q B B.length)).length ≤ 16 then 1 else 0)) d_Mo_work_150 lk_Mo_118 me_Mo_settle im_Mo_settle se_Mo_settle rfl h1.o rfl rfl (c_Mo_settle g (k := v + on) (wd := 2) (mo := 16) (A := (op_gr kd p q B B.length)) (by omega) (by decide) (by decide) (by decide) hlen hA hgs) (Nat.le_of_ble_eq_true rfl) (Nat.le_of_ble_eq_true rfl) (Nat.le_of_ble_eq_true rfl) (Nat.le_of_ble_eq_true rfl) (fun w9 h9 => ?_)
            obtain ⟨sc', ia', la', q1, q2, q3, q4⟩ := h9
            exact v_zret (pc := 153) d_Mo_work_153 rfl zb (Nat.le_of_ble_eq_true rfl) (Nat.le_of_ble_eq_true rfl) ⟨rfl, rfl, sc', ia', la', q1, (mo_fr.rf.at ⟨by omega, by omega⟩ hq1).tr q2, ⟨fun j hj => (q3.1 j hj).trans (va_up_ne _ _ hj), q3.2⟩, q4⟩
          · skip
            rw [nI_eq (by omega) (by omega)] at hc
            exact absurd hc (by omega)
        · skip
          rw [nI_eq (by omega) (by omega)] at hc
          exact absurd hc (by omega)
      · skip
        rw [nI_eq (by omega) (by omega)] at hc
        exact absurd hc (by omega)
    · skip
      rw [nI_eq (by omega) (by omega)] at hc
      exact absurd hc (by omega)
  · skip
    rw [nI_eq (by omega) (by omega)] at hc
    exact absurd hc (by omega)
section OA
variable {wv e f : Nat} {β : Nat → MaB} {P Q R : Int32}
theorem oa1 : op_adds wv β (1, e, f, P, Q, R) = op_sel (i2n P) Q R (β e) := rfl
theorem oa2 : op_adds wv β (2, e, f, P, Q, R) = op_prj wv (colN P) (β e) := rfl
theorem oa3 : op_adds wv β (3, e, f, P, Q, R) = op_jn (i2n P) (i2n Q) (β e) (β f) := rfl
theorem oa4 : op_adds wv β (4, e, f, P, Q, R) = β e ++ β f := rfl
theorem oa8 : op_adds wv β (8, e, f, P, Q, R) = op_dis (β e) := rfl
theorem oa5 {kd : Nat} (h : kd ≤ 2) : op_adds wv β (5 + kd, e, f, P, Q, R) = op_gr kd (i2n P) (i2n Q) (β e) (β e).length := by
  unfold op_adds
  dsimp only
  rw [if_neg (by omega), if_neg (by omega), if_neg (by omega), if_neg (by omega), if_neg (by omega), show 5 + kd - 5 = kd by omega]
end OA
theorem c_Mo_work (g : Gl) {w : Wd} {b sz : Nat} {sc : Nat → Int32} {ia : Nat → Nat → Int32} {la : Nat → Nat → Int64} (hM : MAt w b sc ia la) {v on : Nat} (hv : v < 12) (hon : on ≤ 12) {wd : Nat → Nat} {β : Nat → MaB} {o : VOp} (hR : RO ia v o) (hW : WO wd v o) (hw : ∀ u, u ≤ v → ia 0 u = nI (wd u)) (hw4 : ∀ u, u ≤ v → wd u ≤ 4) (hB : ∀ u, u < v → BK ia la (u + on) (wd u) (β u)) :
    CT g 3 0 0 mi_Mo_work [.ref b, .int (nI v), .int (nI on)] w sz (wrE (some (.int (if (ma_fold [] (op_adds (wd v) β o)).length ≤ 16 then 1 else 0))) sz (mo_wp w b sc ia la (v + on) (wd v) 16 (ma_fold [] (op_adds (wd v) β o)))) := by
  have hA := op_adds_row hW (fun u hu => (hB u hu).row)
  obtain ⟨k, e, f, P, Q, R⟩ := o
  obtain ⟨h1, h4, h⟩ := hW
  obtain ⟨r1, r2, r3, r4⟩ := hR
  dsimp only at h r1 r2 r3 r4
  rcases h with ⟨rfl, he, hww, pp, rfl, hp⟩ | ⟨rfl, he, hcc⟩ | ⟨rfl, he, hf, hww, pp, qq, rfl, rfl, hp, hq⟩ | ⟨rfl, he, hf, hww1, hww2⟩ | ⟨rfl, he, hww⟩ | ⟨kd, hkd, rfl, he, hww, pp, qq, rfl, rfl, hp, hq⟩
  · obtain ⟨a1, a2, a3⟩ := r4 (by decide) (by decide)
    have he4 := hw4 e (by omega)
    rw [oa1, i2n_nI (by omega), ← a2, ← a3] at hA ⊢
    exact c_Mo_work_sel g hM hv hon r1 r2 (by omega) (by rw [hww]; exact hB e he) (hw v (Nat.le_refl _)) h1 h4 a1 (by omega) hA
  · obtain ⟨a1, a2, a3⟩ := r4 (by decide) (by decide)
    rw [oa2] at hA ⊢
    exact c_Mo_work_prj g hM hv hon r1 r2 (by omega) (hB e he) (hw v (Nat.le_refl _)) h1 h4 (hw4 e (by omega)) (fun c hc => ⟨by rw [a1]; exact colN_eq P c, hcc c hc⟩) hA
  · obtain ⟨a1, a2, a3⟩ := r4 (by decide) (by decide)
    have he4 := hw4 e (by omega)
    have hf4 := hw4 f (by omega)
    rw [oa3, i2n_nI (by omega), i2n_nI (by omega), hww] at hA ⊢
    exact c_Mo_work_jn g hM hv hon r1 r2 (by omega) r3 (by omega) (hB e he) (hB f hf) (by rw [← hww]; exact hw v (Nat.le_refl _)) (by omega) (by omega) a1 hp a2 hq (hw e (by omega)) hA
  · rw [oa4] at hA ⊢
    exact c_Mo_work_un g hM hv hon r1 r2 (by omega) r3 (by omega) (by rw [← hww1]; exact hB e he) (by rw [← hww2]; exact hB f hf) (hw v (Nat.le_refl _)) h1 h4 hA
  · rw [oa8] at hA ⊢
    exact c_Mo_work_dis g hM hv hon r1 r2 (by omega) (by rw [← hww]; exact hB e he) (hw v (Nat.le_refl _)) h1 h4 hA
  · obtain ⟨a1, a2, a3⟩ := r4 (by omega) (by omega)
    have he4 := hw4 e (by omega)
    rw [oa5 hkd, i2n_nI (by omega), i2n_nI (by omega), hww] at hA ⊢
    exact c_Mo_work_gr g hM hv hon hkd r1 r2 (by omega) (hB e he) he4 (by rw [← hww]; exact hw v (Nat.le_refl _)) a1 hp a2 hq hA
end
