section
-- ===== PART A: goes FIRST, ahead of the names: the tables' words, and 'selects' of the private methods out of them =====
/-- a private method of a class that the tables say can be made, by its rows of tables_1 -/
def lw_okq (q : MethodName × Nat) : Prop := (q.1.cls ≠ "java/lang/invoke/MethodHandle" ∧ q.1.cls ≠ "java/lang/invoke/VarHandle") ∧ Cond.instantiable q.1.cls q.2 ∈ tables_1 ∧ Cond.privateMethod q.1 ∈ tables_1 ∧ Cond.instanceMethod q.1 ∈ tables_1
theorem lw_p0 : lw_okq (⟨"java/lang/Throwable", "fillInStackTrace", "(I)Ljava/lang/Throwable;"⟩, 6) := ⟨⟨by decide +kernel, by decide +kernel⟩, List.mem_of_getElem? (i := 196) (by decide +kernel), List.mem_of_getElem? (i := 194) (by decide +kernel), List.mem_of_getElem? (i := 195) (by decide +kernel)⟩
theorem lw_p1 : lw_okq (⟨"DeltaViews", "renewViews", "()Z"⟩, 3) := ⟨⟨by decide +kernel, by decide +kernel⟩, List.mem_of_getElem? (i := 24) (by decide +kernel), List.mem_of_getElem? (i := 276) (by decide +kernel), List.mem_of_getElem? (i := 277) (by decide +kernel)⟩
theorem lw_p2 : lw_okq (⟨"DeltaViews$Bag", "placeOfPending", "()I"⟩, 5) := ⟨⟨by decide +kernel, by decide +kernel⟩, List.mem_of_getElem? (i := 72) (by decide +kernel), List.mem_of_getElem? (i := 314) (by decide +kernel), List.mem_of_getElem? (i := 315) (by decide +kernel)⟩
theorem lw_p3 : lw_okq (⟨"DeltaViews$Bag", "orderOfCells", "(I[II)I"⟩, 5) := ⟨⟨by decide +kernel, by decide +kernel⟩, List.mem_of_getElem? (i := 72) (by decide +kernel), List.mem_of_getElem? (i := 318) (by decide +kernel), List.mem_of_getElem? (i := 319) (by decide +kernel)⟩
theorem lw_p4 : lw_okq (⟨"DeltaViews$Bag", "isPending", "(I)Z"⟩, 5) := ⟨⟨by decide +kernel, by decide +kernel⟩, List.mem_of_getElem? (i := 72) (by decide +kernel), List.mem_of_getElem? (i := 322) (by decide +kernel), List.mem_of_getElem? (i := 323) (by decide +kernel)⟩
theorem lw_p5 : lw_okq (⟨"DeltaViews$Bag", "remove", "(I)V"⟩, 5) := ⟨⟨by decide +kernel, by decide +kernel⟩, List.mem_of_getElem? (i := 72) (by decide +kernel), List.mem_of_getElem? (i := 326) (by decide +kernel), List.mem_of_getElem? (i := 327) (by decide +kernel)⟩
theorem lw_p6 : lw_okq (⟨"DeltaViews$Bag", "insert", "(IJ)V"⟩, 5) := ⟨⟨by decide +kernel, by decide +kernel⟩, List.mem_of_getElem? (i := 72) (by decide +kernel), List.mem_of_getElem? (i := 333) (by decide +kernel), List.mem_of_getElem? (i := 334) (by decide +kernel)⟩
theorem lw_p7 : lw_okq (⟨"DeltaViews$Group", "isFirstOfGroup", "(LDeltaViews$Bag;I)Z"⟩, 4) := ⟨⟨by decide +kernel, by decide +kernel⟩, List.mem_of_getElem? (i := 343) (by decide +kernel), List.mem_of_getElem? (i := 341) (by decide +kernel), List.mem_of_getElem? (i := 342) (by decide +kernel)⟩
theorem lw_p8 : lw_okq (⟨"DeltaViews$Group", "fold", "(LDeltaViews$Bag;I)I"⟩, 4) := ⟨⟨by decide +kernel, by decide +kernel⟩, List.mem_of_getElem? (i := 343) (by decide +kernel), List.mem_of_getElem? (i := 348) (by decide +kernel), List.mem_of_getElem? (i := 349) (by decide +kernel)⟩
theorem lw_p9 : lw_okq (⟨"DeltaViews$Group", "worth", "(LDeltaViews$Bag;I)I"⟩, 4) := ⟨⟨by decide +kernel, by decide +kernel⟩, List.mem_of_getElem? (i := 343) (by decide +kernel), List.mem_of_getElem? (i := 352) (by decide +kernel), List.mem_of_getElem? (i := 353) (by decide +kernel)⟩
theorem lw_p10 : lw_okq (⟨"DeltaViews$Join", "addPartners", "(ILDeltaViews$Bag;)V"⟩, 4) := ⟨⟨by decide +kernel, by decide +kernel⟩, List.mem_of_getElem? (i := 370) (by decide +kernel), List.mem_of_getElem? (i := 368) (by decide +kernel), List.mem_of_getElem? (i := 369) (by decide +kernel)⟩
theorem lw_p11 : lw_okq (⟨"DeltaViews$Select", "passes", "(I)Z"⟩, 4) := ⟨⟨by decide +kernel, by decide +kernel⟩, List.mem_of_getElem? (i := 395) (by decide +kernel), List.mem_of_getElem? (i := 393) (by decide +kernel), List.mem_of_getElem? (i := 394) (by decide +kernel)⟩
theorem lw_p12 : lw_okq (⟨"DeltaViews", "takeBack", "(I)V"⟩, 3) := ⟨⟨by decide +kernel, by decide +kernel⟩, List.mem_of_getElem? (i := 24) (by decide +kernel), List.mem_of_getElem? (i := 446) (by decide +kernel), List.mem_of_getElem? (i := 447) (by decide +kernel)⟩
theorem lw_p13 : lw_okq (⟨"DeltaViews$Bag", "orderOfRows", "(ILDeltaViews$Bag;I)I"⟩, 5) := ⟨⟨by decide +kernel, by decide +kernel⟩, List.mem_of_getElem? (i := 72) (by decide +kernel), List.mem_of_getElem? (i := 460) (by decide +kernel), List.mem_of_getElem? (i := 461) (by decide +kernel)⟩
theorem lw_p14 : lw_okq (⟨"DeltaViews", "viewAt", "(I)LDeltaViews$View;"⟩, 3) := ⟨⟨by decide +kernel, by decide +kernel⟩, List.mem_of_getElem? (i := 24) (by decide +kernel), List.mem_of_getElem? (i := 471) (by decide +kernel), List.mem_of_getElem? (i := 472) (by decide +kernel)⟩
theorem lw_p15 : lw_okq (⟨"DeltaViews", "makeView", "(LDeltaViews$Operation;)I"⟩, 3) := ⟨⟨by decide +kernel, by decide +kernel⟩, List.mem_of_getElem? (i := 24) (by decide +kernel), List.mem_of_getElem? (i := 499) (by decide +kernel), List.mem_of_getElem? (i := 500) (by decide +kernel)⟩
def lw_privs_1 : List (MethodName × Nat) := [(⟨"java/lang/Throwable", "fillInStackTrace", "(I)Ljava/lang/Throwable;"⟩, 6), (⟨"DeltaViews", "renewViews", "()Z"⟩, 3), (⟨"DeltaViews$Bag", "placeOfPending", "()I"⟩, 5), (⟨"DeltaViews$Bag", "orderOfCells", "(I[II)I"⟩, 5), (⟨"DeltaViews$Bag", "isPending", "(I)Z"⟩, 5), (⟨"DeltaViews$Bag", "remove", "(I)V"⟩, 5), (⟨"DeltaViews$Bag", "insert", "(IJ)V"⟩, 5), (⟨"DeltaViews$Group", "isFirstOfGroup", "(LDeltaViews$Bag;I)Z"⟩, 4), (⟨"DeltaViews$Group", "fold", "(LDeltaViews$Bag;I)I"⟩, 4), (⟨"DeltaViews$Group", "worth", "(LDeltaViews$Bag;I)I"⟩, 4), (⟨"DeltaViews$Join", "addPartners", "(ILDeltaViews$Bag;)V"⟩, 4), (⟨"DeltaViews$Select", "passes", "(I)Z"⟩, 4), (⟨"DeltaViews", "takeBack", "(I)V"⟩, 3), (⟨"DeltaViews$Bag", "orderOfRows", "(ILDeltaViews$Bag;I)I"⟩, 5), (⟨"DeltaViews", "viewAt", "(I)LDeltaViews$View;"⟩, 3), (⟨"DeltaViews", "makeView", "(LDeltaViews$Operation;)I"⟩, 3)]
theorem lw_r1 : ∀ q ∈ lw_privs_1, lw_okq q := List.forall_mem_cons.mpr ⟨lw_p0, List.forall_mem_cons.mpr ⟨lw_p1, List.forall_mem_cons.mpr ⟨lw_p2, List.forall_mem_cons.mpr ⟨lw_p3, List.forall_mem_cons.mpr ⟨lw_p4, List.forall_mem_cons.mpr ⟨lw_p5, List.forall_mem_cons.mpr ⟨lw_p6, List.forall_mem_cons.mpr ⟨lw_p7, List.forall_mem_cons.mpr ⟨lw_p8, List.forall_mem_cons.mpr ⟨lw_p9, List.forall_mem_cons.mpr ⟨lw_p10, List.forall_mem_cons.mpr ⟨lw_p11, List.forall_mem_cons.mpr ⟨lw_p12, List.forall_mem_cons.mpr ⟨lw_p13, List.forall_mem_cons.mpr ⟨lw_p14, List.forall_mem_cons.mpr ⟨lw_p15, fun _ h => absurd h List.not_mem_nil⟩⟩⟩⟩⟩⟩⟩⟩⟩⟩⟩⟩⟩⟩⟩⟩
theorem lw_p16 : lw_okq (⟨"DeltaViewsModel", "tryTable", "(I)Z"⟩, 22) := ⟨⟨by decide +kernel, by decide +kernel⟩, List.mem_of_getElem? (i := 701) (by decide +kernel), List.mem_of_getElem? (i := 790) (by decide +kernel), List.mem_of_getElem? (i := 791) (by decide +kernel)⟩
theorem lw_p17 : lw_okq (⟨"DeltaViewsModel", "take", "(II)V"⟩, 22) := ⟨⟨by decide +kernel, by decide +kernel⟩, List.mem_of_getElem? (i := 701) (by decide +kernel), List.mem_of_getElem? (i := 794) (by decide +kernel), List.mem_of_getElem? (i := 795) (by decide +kernel)⟩
theorem lw_p18 : lw_okq (⟨"DeltaViewsModel", "cellOf", "(III)I"⟩, 22) := ⟨⟨by decide +kernel, by decide +kernel⟩, List.mem_of_getElem? (i := 701) (by decide +kernel), List.mem_of_getElem? (i := 798) (by decide +kernel), List.mem_of_getElem? (i := 799) (by decide +kernel)⟩
theorem lw_p19 : lw_okq (⟨"DeltaViewsModel", "gather", "(IJ)V"⟩, 22) := ⟨⟨by decide +kernel, by decide +kernel⟩, List.mem_of_getElem? (i := 701) (by decide +kernel), List.mem_of_getElem? (i := 802) (by decide +kernel), List.mem_of_getElem? (i := 803) (by decide +kernel)⟩
theorem lw_p20 : lw_okq (⟨"DeltaViewsModel", "isRow", "(II)Z"⟩, 22) := ⟨⟨by decide +kernel, by decide +kernel⟩, List.mem_of_getElem? (i := 701) (by decide +kernel), List.mem_of_getElem? (i := 806) (by decide +kernel), List.mem_of_getElem? (i := 807) (by decide +kernel)⟩
theorem lw_p21 : lw_okq (⟨"DeltaViewsModel", "settle", "(III)Z"⟩, 22) := ⟨⟨by decide +kernel, by decide +kernel⟩, List.mem_of_getElem? (i := 701) (by decide +kernel), List.mem_of_getElem? (i := 811) (by decide +kernel), List.mem_of_getElem? (i := 812) (by decide +kernel)⟩
theorem lw_p22 : lw_okq (⟨"DeltaViewsModel", "comesBefore", "(III)Z"⟩, 22) := ⟨⟨by decide +kernel, by decide +kernel⟩, List.mem_of_getElem? (i := 701) (by decide +kernel), List.mem_of_getElem? (i := 815) (by decide +kernel), List.mem_of_getElem? (i := 816) (by decide +kernel)⟩
theorem lw_p23 : lw_okq (⟨"DeltaViewsModel", "work", "(II)Z"⟩, 22) := ⟨⟨by decide +kernel, by decide +kernel⟩, List.mem_of_getElem? (i := 701) (by decide +kernel), List.mem_of_getElem? (i := 819) (by decide +kernel), List.mem_of_getElem? (i := 820) (by decide +kernel)⟩
theorem lw_p24 : lw_okq (⟨"DeltaViewsModel", "selects", "(II)V"⟩, 22) := ⟨⟨by decide +kernel, by decide +kernel⟩, List.mem_of_getElem? (i := 701) (by decide +kernel), List.mem_of_getElem? (i := 823) (by decide +kernel), List.mem_of_getElem? (i := 824) (by decide +kernel)⟩
theorem lw_p25 : lw_okq (⟨"DeltaViewsModel", "projects", "(II)V"⟩, 22) := ⟨⟨by decide +kernel, by decide +kernel⟩, List.mem_of_getElem? (i := 701) (by decide +kernel), List.mem_of_getElem? (i := 830) (by decide +kernel), List.mem_of_getElem? (i := 831) (by decide +kernel)⟩
theorem lw_p26 : lw_okq (⟨"DeltaViewsModel", "joins", "(III)V"⟩, 22) := ⟨⟨by decide +kernel, by decide +kernel⟩, List.mem_of_getElem? (i := 701) (by decide +kernel), List.mem_of_getElem? (i := 834) (by decide +kernel), List.mem_of_getElem? (i := 835) (by decide +kernel)⟩
theorem lw_p27 : lw_okq (⟨"DeltaViewsModel", "all", "(IIZ)V"⟩, 22) := ⟨⟨by decide +kernel, by decide +kernel⟩, List.mem_of_getElem? (i := 701) (by decide +kernel), List.mem_of_getElem? (i := 838) (by decide +kernel), List.mem_of_getElem? (i := 839) (by decide +kernel)⟩
theorem lw_p28 : lw_okq (⟨"DeltaViewsModel", "groups", "(II)V"⟩, 22) := ⟨⟨by decide +kernel, by decide +kernel⟩, List.mem_of_getElem? (i := 701) (by decide +kernel), List.mem_of_getElem? (i := 842) (by decide +kernel), List.mem_of_getElem? (i := 843) (by decide +kernel)⟩
theorem lw_p29 : lw_okq (⟨"DeltaViewsModel", "result", "(III)I"⟩, 22) := ⟨⟨by decide +kernel, by decide +kernel⟩, List.mem_of_getElem? (i := 701) (by decide +kernel), List.mem_of_getElem? (i := 846) (by decide +kernel), List.mem_of_getElem? (i := 847) (by decide +kernel)⟩
theorem lw_p30 : lw_okq (⟨"DeltaViewsModel", "takeOver", "(I)V"⟩, 22) := ⟨⟨by decide +kernel, by decide +kernel⟩, List.mem_of_getElem? (i := 701) (by decide +kernel), List.mem_of_getElem? (i := 850) (by decide +kernel), List.mem_of_getElem? (i := 851) (by decide +kernel)⟩
theorem lw_p31 : lw_okq (⟨"DeltaViewsModel", "differing", "(I)I"⟩, 22) := ⟨⟨by decide +kernel, by decide +kernel⟩, List.mem_of_getElem? (i := 701) (by decide +kernel), List.mem_of_getElem? (i := 854) (by decide +kernel), List.mem_of_getElem? (i := 855) (by decide +kernel)⟩
def lw_privs_2 : List (MethodName × Nat) := [(⟨"DeltaViewsModel", "tryTable", "(I)Z"⟩, 22), (⟨"DeltaViewsModel", "take", "(II)V"⟩, 22), (⟨"DeltaViewsModel", "cellOf", "(III)I"⟩, 22), (⟨"DeltaViewsModel", "gather", "(IJ)V"⟩, 22), (⟨"DeltaViewsModel", "isRow", "(II)Z"⟩, 22), (⟨"DeltaViewsModel", "settle", "(III)Z"⟩, 22), (⟨"DeltaViewsModel", "comesBefore", "(III)Z"⟩, 22), (⟨"DeltaViewsModel", "work", "(II)Z"⟩, 22), (⟨"DeltaViewsModel", "selects", "(II)V"⟩, 22), (⟨"DeltaViewsModel", "projects", "(II)V"⟩, 22), (⟨"DeltaViewsModel", "joins", "(III)V"⟩, 22), (⟨"DeltaViewsModel", "all", "(IIZ)V"⟩, 22), (⟨"DeltaViewsModel", "groups", "(II)V"⟩, 22), (⟨"DeltaViewsModel", "result", "(III)I"⟩, 22), (⟨"DeltaViewsModel", "takeOver", "(I)V"⟩, 22), (⟨"DeltaViewsModel", "differing", "(I)I"⟩, 22)]
theorem lw_r2 : ∀ q ∈ lw_privs_2, lw_okq q := List.forall_mem_cons.mpr ⟨lw_p16, List.forall_mem_cons.mpr ⟨lw_p17, List.forall_mem_cons.mpr ⟨lw_p18, List.forall_mem_cons.mpr ⟨lw_p19, List.forall_mem_cons.mpr ⟨lw_p20, List.forall_mem_cons.mpr ⟨lw_p21, List.forall_mem_cons.mpr ⟨lw_p22, List.forall_mem_cons.mpr ⟨lw_p23, List.forall_mem_cons.mpr ⟨lw_p24, List.forall_mem_cons.mpr ⟨lw_p25, List.forall_mem_cons.mpr ⟨lw_p26, List.forall_mem_cons.mpr ⟨lw_p27, List.forall_mem_cons.mpr ⟨lw_p28, List.forall_mem_cons.mpr ⟨lw_p29, List.forall_mem_cons.mpr ⟨lw_p30, List.forall_mem_cons.mpr ⟨lw_p31, fun _ h => absurd h List.not_mem_nil⟩⟩⟩⟩⟩⟩⟩⟩⟩⟩⟩⟩⟩⟩⟩⟩
theorem lw_p32 : lw_okq (⟨"DeltaViewsModel", "timesOf", "(IIII)J"⟩, 22) := ⟨⟨by decide +kernel, by decide +kernel⟩, List.mem_of_getElem? (i := 701) (by decide +kernel), List.mem_of_getElem? (i := 858) (by decide +kernel), List.mem_of_getElem? (i := 859) (by decide +kernel)⟩
theorem lw_p33 : lw_okq (⟨"DeltaViewsModel", "isColumn", "(II)Z"⟩, 22) := ⟨⟨by decide +kernel, by decide +kernel⟩, List.mem_of_getElem? (i := 701) (by decide +kernel), List.mem_of_getElem? (i := 866) (by decide +kernel), List.mem_of_getElem? (i := 867) (by decide +kernel)⟩
theorem lw_p34 : lw_okq (⟨"DeltaViewsModel", "isView", "(I)Z"⟩, 22) := ⟨⟨by decide +kernel, by decide +kernel⟩, List.mem_of_getElem? (i := 701) (by decide +kernel), List.mem_of_getElem? (i := 870) (by decide +kernel), List.mem_of_getElem? (i := 871) (by decide +kernel)⟩
theorem lw_p35 : lw_okq (⟨"DeltaViewsModel", "told", "(III)V"⟩, 22) := ⟨⟨by decide +kernel, by decide +kernel⟩, List.mem_of_getElem? (i := 701) (by decide +kernel), List.mem_of_getElem? (i := 874) (by decide +kernel), List.mem_of_getElem? (i := 875) (by decide +kernel)⟩
theorem lw_p36 : lw_okq (⟨"DeltaViewsModel", "make", "(IIIII)I"⟩, 22) := ⟨⟨by decide +kernel, by decide +kernel⟩, List.mem_of_getElem? (i := 701) (by decide +kernel), List.mem_of_getElem? (i := 878) (by decide +kernel), List.mem_of_getElem? (i := 879) (by decide +kernel)⟩
def lw_privs_3 : List (MethodName × Nat) := [(⟨"DeltaViewsModel", "timesOf", "(IIII)J"⟩, 22), (⟨"DeltaViewsModel", "isColumn", "(II)Z"⟩, 22), (⟨"DeltaViewsModel", "isView", "(I)Z"⟩, 22), (⟨"DeltaViewsModel", "told", "(III)V"⟩, 22), (⟨"DeltaViewsModel", "make", "(IIIII)I"⟩, 22)]
theorem lw_r3 : ∀ q ∈ lw_privs_3, lw_okq q := List.forall_mem_cons.mpr ⟨lw_p32, List.forall_mem_cons.mpr ⟨lw_p33, List.forall_mem_cons.mpr ⟨lw_p34, List.forall_mem_cons.mpr ⟨lw_p35, List.forall_mem_cons.mpr ⟨lw_p36, fun _ h => absurd h List.not_mem_nil⟩⟩⟩⟩⟩
def lw_privs : List (MethodName × Nat) := lw_privs_1 ++ (lw_privs_2 ++ (lw_privs_3))
def lw_tbl : List Cond := k2_sels lw_privs ++ tables_1
theorem lw_privs_ok : ∀ q ∈ lw_privs, lw_okq q := by
  show ∀ q ∈ lw_privs_1 ++ (lw_privs_2 ++ (lw_privs_3)), lw_okq q
  exact List.forall_mem_append.mpr ⟨lw_r1, List.forall_mem_append.mpr ⟨lw_r2, lw_r3⟩⟩
/-! field tables, methods -/
def T_DV : u_T := fun k => match k with
  | 0 => ("DeltaViews", "views", "[LDeltaViews$View;", true)
  | 1 => ("DeltaViews", "count", "I", false)
  | _ => ("DeltaViews", "batch", "LDeltaViews$Batch;", true)
def ty_DV : Nat → FieldType := fun k => match k with
  | 0 => .array (.object "DeltaViews$View")
  | 1 => .int
  | _ => .object "DeltaViews$Batch"
def T_View : u_T := fun k => match k with
  | 0 => ("DeltaViews$View", "operation", "LDeltaViews$Operation;", false)
  | 1 => ("DeltaViews$View", "now", "LDeltaViews$Bag;", false)
  | 2 => ("DeltaViews$View", "before", "LDeltaViews$Bag;", false)
  | _ => ("DeltaViews$View", "moved", "I", false)
def ty_View : Nat → FieldType := fun k => match k with
  | 0 => .object "DeltaViews$Operation"
  | 1 => .object "DeltaViews$Bag"
  | 2 => .object "DeltaViews$Bag"
  | _ => .int
def T_Bag : u_T := fun k => match k with
  | 0 => ("DeltaViews$Bag", "width", "I", false)
  | 1 => ("DeltaViews$Bag", "size", "I", false)
  | 2 => ("DeltaViews$Bag", "cells", "[I", true)
  | 3 => ("DeltaViews$Bag", "multiplicities", "[J", true)
  | _ => ("DeltaViews$Bag", "pending", "[I", true)
def ty_Bag : Nat → FieldType := fun k => match k with
  | 0 => .int
  | 1 => .int
  | 2 => .array .int
  | 3 => .array .long
  | _ => .array .int
def T_Batch : u_T := fun k => match k with
  | 0 => ("DeltaViews$Batch", "table", "[I", true)
  | 1 => ("DeltaViews$Batch", "a", "[I", true)
  | 2 => ("DeltaViews$Batch", "b", "[I", true)
  | 3 => ("DeltaViews$Batch", "by", "[I", true)
  | _ => ("DeltaViews$Batch", "size", "I", false)
def ty_Batch : Nat → FieldType := fun k => match k with
  | 0 => .array .int
  | 1 => .array .int
  | 2 => .array .int
  | 3 => .array .int
  | _ => .int
def T_Table : u_T := fun k => match k with
  | _ => ("", "", "", false)
def ty_Table : Nat → FieldType := fun k => match k with
  | _ => .int
def T_Select : u_T := fun k => match k with
  | 0 => ("DeltaViews$Select", "source", "LDeltaViews$View;", true)
  | 1 => ("DeltaViews$Select", "column", "I", true)
  | 2 => ("DeltaViews$Select", "test", "I", true)
  | _ => ("DeltaViews$Select", "number", "I", true)
def ty_Select : Nat → FieldType := fun k => match k with
  | 0 => .object "DeltaViews$View"
  | 1 => .int
  | 2 => .int
  | _ => .int
def T_Project : u_T := fun k => match k with
  | 0 => ("DeltaViews$Project", "source", "LDeltaViews$View;", true)
  | 1 => ("DeltaViews$Project", "newWidth", "I", true)
  | _ => ("DeltaViews$Project", "columns", "I", true)
def ty_Project : Nat → FieldType := fun k => match k with
  | 0 => .object "DeltaViews$View"
  | 1 => .int
  | _ => .int
def T_Join : u_T := fun k => match k with
  | 0 => ("DeltaViews$Join", "left", "LDeltaViews$View;", true)
  | 1 => ("DeltaViews$Join", "right", "LDeltaViews$View;", true)
  | 2 => ("DeltaViews$Join", "leftColumn", "I", true)
  | _ => ("DeltaViews$Join", "rightColumn", "I", true)
def ty_Join : Nat → FieldType := fun k => match k with
  | 0 => .object "DeltaViews$View"
  | 1 => .object "DeltaViews$View"
  | 2 => .int
  | _ => .int
def T_Union : u_T := fun k => match k with
  | 0 => ("DeltaViews$Union", "left", "LDeltaViews$View;", true)
  | _ => ("DeltaViews$Union", "right", "LDeltaViews$View;", true)
def ty_Union : Nat → FieldType := fun k => match k with
  | 0 => .object "DeltaViews$View"
  | _ => .object "DeltaViews$View"
def T_Group : u_T := fun k => match k with
  | 0 => ("DeltaViews$Group", "source", "LDeltaViews$View;", true)
  | 1 => ("DeltaViews$Group", "kind", "I", true)
  | 2 => ("DeltaViews$Group", "keyColumn", "I", true)
  | _ => ("DeltaViews$Group", "column", "I", true)
def ty_Group : Nat → FieldType := fun k => match k with
  | 0 => .object "DeltaViews$View"
  | 1 => .int
  | 2 => .int
  | _ => .int
def T_Distinct : u_T := fun k => match k with
  | _ => ("DeltaViews$Distinct", "source", "LDeltaViews$View;", true)
def ty_Distinct : Nat → FieldType := fun k => match k with
  | _ => .object "DeltaViews$View"
def T_Mo : u_T := fun k => match k with
  | 0 => ("DeltaViewsModel", "thrown", "I", false)
  | 1 => ("DeltaViewsModel", "views", "I", false)
  | 2 => ("DeltaViewsModel", "widths", "[I", true)
  | 3 => ("DeltaViewsModel", "kinds", "[I", true)
  | 4 => ("DeltaViewsModel", "es", "[I", true)
  | 5 => ("DeltaViewsModel", "fs", "[I", true)
  | 6 => ("DeltaViewsModel", "ps", "[I", true)
  | 7 => ("DeltaViewsModel", "qs", "[I", true)
  | 8 => ("DeltaViewsModel", "rs", "[I", true)
  | 9 => ("DeltaViewsModel", "moves", "[I", true)
  | 10 => ("DeltaViewsModel", "counts", "[I", true)
  | 11 => ("DeltaViewsModel", "times", "[J", true)
  | 12 => ("DeltaViewsModel", "cells", "[I", true)
  | 13 => ("DeltaViewsModel", "gathered", "I", false)
  | 14 => ("DeltaViewsModel", "mine", "[J", true)
  | 15 => ("DeltaViewsModel", "rows", "[I", true)
  | 16 => ("DeltaViewsModel", "one", "[I", true)
  | 17 => ("DeltaViewsModel", "changes", "I", false)
  | 18 => ("DeltaViewsModel", "tables", "[I", true)
  | 19 => ("DeltaViewsModel", "as", "[I", true)
  | 20 => ("DeltaViewsModel", "bs", "[I", true)
  | _ => ("DeltaViewsModel", "bys", "[I", true)
def ty_Mo : Nat → FieldType := fun k => match k with
  | 0 => .int
  | 1 => .int
  | 2 => .array .int
  | 3 => .array .int
  | 4 => .array .int
  | 5 => .array .int
  | 6 => .array .int
  | 7 => .array .int
  | 8 => .array .int
  | 9 => .array .int
  | 10 => .array .int
  | 11 => .array .long
  | 12 => .array .int
  | 13 => .int
  | 14 => .array .long
  | 15 => .array .int
  | 16 => .array .int
  | 17 => .int
  | 18 => .array .int
  | 19 => .array .int
  | 20 => .array .int
  | _ => .array .int
abbrev vwCl : List vw_C := [("DeltaViews", T_DV, 3), ("DeltaViews$View", T_View, 4), ("DeltaViews$Bag", T_Bag, 5), ("DeltaViews$Batch", T_Batch, 5), ("DeltaViews$Table", T_Table, 0), ("DeltaViews$Select", T_Select, 4), ("DeltaViews$Project", T_Project, 3), ("DeltaViews$Join", T_Join, 4), ("DeltaViews$Union", T_Union, 2), ("DeltaViews$Group", T_Group, 4), ("DeltaViews$Distinct", T_Distinct, 1), ("DeltaViewsModel", T_Mo, 22)]
abbrev mi_DV_init : MethodName × ByteArray × Nat × Option FieldType × List (Nat × Nat × Nat × Nat) := (⟨"DeltaViews", "<init>", "()V"⟩, prog_1_method_1_code, 2, none, [])
abbrev mi_Batch_init : MethodName × ByteArray × Nat × Option FieldType × List (Nat × Nat × Nat × Nat) := (⟨"DeltaViews$Batch", "<init>", "()V"⟩, prog_3_method_1_code, 1, none, [])
abbrev mi_Table_init : MethodName × ByteArray × Nat × Option FieldType × List (Nat × Nat × Nat × Nat) := (⟨"DeltaViews$Table", "<init>", "()V"⟩, prog_10_method_1_code, 1, none, [])
abbrev mi_Oper_init : MethodName × ByteArray × Nat × Option FieldType × List (Nat × Nat × Nat × Nat) := (⟨"DeltaViews$Operation", "<init>", "()V"⟩, prog_7_method_1_code, 1, none, [])
abbrev mi_View_init : MethodName × ByteArray × Nat × Option FieldType × List (Nat × Nat × Nat × Nat) := (⟨"DeltaViews$View", "<init>", "(LDeltaViews$Operation;)V"⟩, prog_12_method_1_code, 2, none, [])
abbrev mi_Bag_init : MethodName × ByteArray × Nat × Option FieldType × List (Nat × Nat × Nat × Nat) := (⟨"DeltaViews$Bag", "<init>", "()V"⟩, prog_2_method_1_code, 1, none, [])
abbrev mi_DV_cancel : MethodName × ByteArray × Nat × Option FieldType × List (Nat × Nat × Nat × Nat) := (⟨"DeltaViews", "cancel", "()I"⟩, prog_1_method_3_code, 1, some .int, [])
abbrev mi_Batch_empty : MethodName × ByteArray × Nat × Option FieldType × List (Nat × Nat × Nat × Nat) := (⟨"DeltaViews$Batch", "empty", "()I"⟩, prog_3_method_4_code, 2, some .int, [])
abbrev mi_Law_change : MethodName × ByteArray × Nat × Option FieldType × List (Nat × Nat × Nat × Nat) := (⟨"DeltaViewsLaw", "change", "(LDeltaViews;IIII[J)I"⟩, method_3_code, 7, some .int, [(0, 14, 17, 13), (0, 14, 21, 15), (0, 14, 25, 17)])
abbrev mi_DV_change : MethodName × ByteArray × Nat × Option FieldType × List (Nat × Nat × Nat × Nat) := (⟨"DeltaViews", "change", "(IIII)I"⟩, prog_1_method_2_code, 5, some .int, [])
abbrev mi_DV_isTooFar : MethodName × ByteArray × Nat × Option FieldType × List (Nat × Nat × Nat × Nat) := (⟨"DeltaViews", "isTooFar", "(II)Z"⟩, prog_1_method_18_code, 2, some .boolean, [])
abbrev mi_Batch_isFull : MethodName × ByteArray × Nat × Option FieldType × List (Nat × Nat × Nat × Nat) := (⟨"DeltaViews$Batch", "isFull", "()Z"⟩, prog_3_method_2_code, 1, some .boolean, [])
abbrev mi_Batch_append : MethodName × ByteArray × Nat × Option FieldType × List (Nat × Nat × Nat × Nat) := (⟨"DeltaViews$Batch", "append", "(IIII)I"⟩, prog_3_method_3_code, 5, some .int, [])
abbrev mi_Law_commit : MethodName × ByteArray × Nat × Option FieldType × List (Nat × Nat × Nat × Nat) := (⟨"DeltaViewsLaw", "commit", "(LDeltaViews;[J)I"⟩, method_4_code, 3, some .int, [(0, 8, 11, 17)])
abbrev mi_DV_commit : MethodName × ByteArray × Nat × Option FieldType × List (Nat × Nat × Nat × Nat) := (⟨"DeltaViews", "commit", "()I"⟩, prog_1_method_4_code, 4, some .int, [])
abbrev mi_DV_renewViews : MethodName × ByteArray × Nat × Option FieldType × List (Nat × Nat × Nat × Nat) := (⟨"DeltaViews", "renewViews", "()Z"⟩, prog_1_method_24_code, 2, some .boolean, [])
abbrev mi_View_renew : MethodName × ByteArray × Nat × Option FieldType × List (Nat × Nat × Nat × Nat) := (⟨"DeltaViews$View", "renew", "()V"⟩, prog_12_method_3_code, 1, none, [])
abbrev mi_View_exchangeBags : MethodName × ByteArray × Nat × Option FieldType × List (Nat × Nat × Nat × Nat) := (⟨"DeltaViews$View", "exchangeBags", "()V"⟩, prog_12_method_4_code, 2, none, [])
abbrev mi_Distinct_fill : MethodName × ByteArray × Nat × Option FieldType × List (Nat × Nat × Nat × Nat) := (⟨"DeltaViews$Distinct", "fill", "(LDeltaViews$Bag;LDeltaViews$Bag;)V"⟩, prog_4_method_2_code, 5, none, [])
abbrev mi_Bag_clear : MethodName × ByteArray × Nat × Option FieldType × List (Nat × Nat × Nat × Nat) := (⟨"DeltaViews$Bag", "clear", "(I)V"⟩, prog_2_method_2_code, 2, none, [])
abbrev mi_Bag_putRow : MethodName × ByteArray × Nat × Option FieldType × List (Nat × Nat × Nat × Nat) := (⟨"DeltaViews$Bag", "putRow", "(LDeltaViews$Bag;II)V"⟩, prog_2_method_7_code, 5, none, [])
abbrev mi_Bag_cellAt : MethodName × ByteArray × Nat × Option FieldType × List (Nat × Nat × Nat × Nat) := (⟨"DeltaViews$Bag", "cellAt", "(II)I"⟩, prog_2_method_4_code, 3, some .int, [])
abbrev mi_Bag_put : MethodName × ByteArray × Nat × Option FieldType × List (Nat × Nat × Nat × Nat) := (⟨"DeltaViews$Bag", "put", "(II)V"⟩, prog_2_method_6_code, 3, none, [])
abbrev mi_Bag_add : MethodName × ByteArray × Nat × Option FieldType × List (Nat × Nat × Nat × Nat) := (⟨"DeltaViews$Bag", "add", "(J)V"⟩, prog_2_method_8_code, 4, none, [])
abbrev mi_Bag_placeOfPending : MethodName × ByteArray × Nat × Option FieldType × List (Nat × Nat × Nat × Nat) := (⟨"DeltaViews$Bag", "placeOfPending", "()I"⟩, prog_2_method_15_code, 2, some .int, [])
abbrev mi_Bag_orderOfCells : MethodName × ByteArray × Nat × Option FieldType × List (Nat × Nat × Nat × Nat) := (⟨"DeltaViews$Bag", "orderOfCells", "(I[II)I"⟩, prog_2_method_14_code, 7, some .int, [])
abbrev mi_Bag_isPending : MethodName × ByteArray × Nat × Option FieldType × List (Nat × Nat × Nat × Nat) := (⟨"DeltaViews$Bag", "isPending", "(I)Z"⟩, prog_2_method_16_code, 2, some .boolean, [])
abbrev mi_Bag_remove : MethodName × ByteArray × Nat × Option FieldType × List (Nat × Nat × Nat × Nat) := (⟨"DeltaViews$Bag", "remove", "(I)V"⟩, prog_2_method_18_code, 4, none, [])
abbrev mi_Bag_insert : MethodName × ByteArray × Nat × Option FieldType × List (Nat × Nat × Nat × Nat) := (⟨"DeltaViews$Bag", "insert", "(IJ)V"⟩, prog_2_method_17_code, 6, none, [])
abbrev mi_Group_fill : MethodName × ByteArray × Nat × Option FieldType × List (Nat × Nat × Nat × Nat) := (⟨"DeltaViews$Group", "fill", "(LDeltaViews$Bag;LDeltaViews$Bag;)V"⟩, prog_5_method_2_code, 5, none, [])
abbrev mi_Group_isFirstOfGroup : MethodName × ByteArray × Nat × Option FieldType × List (Nat × Nat × Nat × Nat) := (⟨"DeltaViews$Group", "isFirstOfGroup", "(LDeltaViews$Bag;I)Z"⟩, prog_5_method_3_code, 4, some .boolean, [])
abbrev mi_Group_fold : MethodName × ByteArray × Nat × Option FieldType × List (Nat × Nat × Nat × Nat) := (⟨"DeltaViews$Group", "fold", "(LDeltaViews$Bag;I)I"⟩, prog_5_method_4_code, 6, some .int, [])
abbrev mi_Group_worth : MethodName × ByteArray × Nat × Option FieldType × List (Nat × Nat × Nat × Nat) := (⟨"DeltaViews$Group", "worth", "(LDeltaViews$Bag;I)I"⟩, prog_5_method_5_code, 3, some .int, [])
abbrev mi_Bag_timesAt : MethodName × ByteArray × Nat × Option FieldType × List (Nat × Nat × Nat × Nat) := (⟨"DeltaViews$Bag", "timesAt", "(I)J"⟩, prog_2_method_5_code, 2, some .long, [])
abbrev mi_Join_fill : MethodName × ByteArray × Nat × Option FieldType × List (Nat × Nat × Nat × Nat) := (⟨"DeltaViews$Join", "fill", "(LDeltaViews$Bag;LDeltaViews$Bag;)V"⟩, prog_6_method_2_code, 4, none, [])
abbrev mi_Join_addPartners : MethodName × ByteArray × Nat × Option FieldType × List (Nat × Nat × Nat × Nat) := (⟨"DeltaViews$Join", "addPartners", "(ILDeltaViews$Bag;)V"⟩, prog_6_method_3_code, 6, none, [])
abbrev mi_Project_fill : MethodName × ByteArray × Nat × Option FieldType × List (Nat × Nat × Nat × Nat) := (⟨"DeltaViews$Project", "fill", "(LDeltaViews$Bag;LDeltaViews$Bag;)V"⟩, prog_8_method_2_code, 6, none, [])
abbrev mi_DV_columnInBits : MethodName × ByteArray × Nat × Option FieldType × List (Nat × Nat × Nat × Nat) := (⟨"DeltaViews", "columnInBits", "(II)I"⟩, prog_1_method_19_code, 2, some .int, [])
abbrev mi_Select_fill : MethodName × ByteArray × Nat × Option FieldType × List (Nat × Nat × Nat × Nat) := (⟨"DeltaViews$Select", "fill", "(LDeltaViews$Bag;LDeltaViews$Bag;)V"⟩, prog_9_method_2_code, 5, none, [])
abbrev mi_Select_passes : MethodName × ByteArray × Nat × Option FieldType × List (Nat × Nat × Nat × Nat) := (⟨"DeltaViews$Select", "passes", "(I)Z"⟩, prog_9_method_3_code, 2, some .boolean, [])
abbrev mi_Table_fill : MethodName × ByteArray × Nat × Option FieldType × List (Nat × Nat × Nat × Nat) := (⟨"DeltaViews$Table", "fill", "(LDeltaViews$Bag;LDeltaViews$Bag;)V"⟩, prog_10_method_2_code, 3, none, [])
abbrev mi_Bag_copy : MethodName × ByteArray × Nat × Option FieldType × List (Nat × Nat × Nat × Nat) := (⟨"DeltaViews$Bag", "copy", "(LDeltaViews$Bag;)V"⟩, prog_2_method_3_code, 2, none, [])
abbrev mi_Union_fill : MethodName × ByteArray × Nat × Option FieldType × List (Nat × Nat × Nat × Nat) := (⟨"DeltaViews$Union", "fill", "(LDeltaViews$Bag;LDeltaViews$Bag;)V"⟩, prog_11_method_2_code, 3, none, [])
abbrev mi_Bag_addAll : MethodName × ByteArray × Nat × Option FieldType × List (Nat × Nat × Nat × Nat) := (⟨"DeltaViews$Bag", "addAll", "(LDeltaViews$Bag;)V"⟩, prog_2_method_9_code, 3, none, [])
abbrev mi_Batch_addTo : MethodName × ByteArray × Nat × Option FieldType × List (Nat × Nat × Nat × Nat) := (⟨"DeltaViews$Batch", "addTo", "(ILDeltaViews$Bag;)V"⟩, prog_3_method_5_code, 4, none, [])
abbrev mi_View_keepsLimits : MethodName × ByteArray × Nat × Option FieldType × List (Nat × Nat × Nat × Nat) := (⟨"DeltaViews$View", "keepsLimits", "()Z"⟩, prog_12_method_5_code, 1, some .boolean, [])
abbrev mi_Table_allows : MethodName × ByteArray × Nat × Option FieldType × List (Nat × Nat × Nat × Nat) := (⟨"DeltaViews$Table", "allows", "(LDeltaViews$Bag;)Z"⟩, prog_10_method_3_code, 2, some .boolean, [])
abbrev mi_Bag_hasTimesOutside : MethodName × ByteArray × Nat × Option FieldType × List (Nat × Nat × Nat × Nat) := (⟨"DeltaViews$Bag", "hasTimesOutside", "(II)Z"⟩, prog_2_method_11_code, 4, some .boolean, [])
abbrev mi_Oper_allows : MethodName × ByteArray × Nat × Option FieldType × List (Nat × Nat × Nat × Nat) := (⟨"DeltaViews$Operation", "allows", "(LDeltaViews$Bag;)Z"⟩, prog_7_method_3_code, 2, some .boolean, [])
abbrev mi_DV_takeBack : MethodName × ByteArray × Nat × Option FieldType × List (Nat × Nat × Nat × Nat) := (⟨"DeltaViews", "takeBack", "(I)V"⟩, prog_1_method_25_code, 3, none, [])
abbrev mi_View_countMoved : MethodName × ByteArray × Nat × Option FieldType × List (Nat × Nat × Nat × Nat) := (⟨"DeltaViews$View", "countMoved", "()V"⟩, prog_12_method_6_code, 1, none, [])
abbrev mi_Bag_differencesFrom : MethodName × ByteArray × Nat × Option FieldType × List (Nat × Nat × Nat × Nat) := (⟨"DeltaViews$Bag", "differencesFrom", "(LDeltaViews$Bag;)I"⟩, prog_2_method_12_code, 6, some .int, [])
abbrev mi_Bag_orderOfRows : MethodName × ByteArray × Nat × Option FieldType × List (Nat × Nat × Nat × Nat) := (⟨"DeltaViews$Bag", "orderOfRows", "(ILDeltaViews$Bag;I)I"⟩, prog_2_method_13_code, 4, some .int, [])
abbrev mi_Law_select : MethodName × ByteArray × Nat × Option FieldType × List (Nat × Nat × Nat × Nat) := (⟨"DeltaViewsLaw", "select", "(LDeltaViews;IIII[J)I"⟩, method_5_code, 7, some .int, [(0, 14, 17, 13), (0, 14, 21, 15), (0, 14, 25, 17)])
abbrev mi_DV_select : MethodName × ByteArray × Nat × Option FieldType × List (Nat × Nat × Nat × Nat) := (⟨"DeltaViews", "select", "(IIII)I"⟩, prog_1_method_5_code, 6, some .int, [])
abbrev mi_DV_viewAt : MethodName × ByteArray × Nat × Option FieldType × List (Nat × Nat × Nat × Nat) := (⟨"DeltaViews", "viewAt", "(I)LDeltaViews$View;"⟩, prog_1_method_20_code, 2, some (.object "DeltaViews$View"), [])
abbrev mi_DV_needColumn : MethodName × ByteArray × Nat × Option FieldType × List (Nat × Nat × Nat × Nat) := (⟨"DeltaViews", "needColumn", "(LDeltaViews$View;I)V"⟩, prog_1_method_21_code, 2, none, [])
abbrev mi_Select_init : MethodName × ByteArray × Nat × Option FieldType × List (Nat × Nat × Nat × Nat) := (⟨"DeltaViews$Select", "<init>", "(LDeltaViews$View;III)V"⟩, prog_9_method_1_code, 5, none, [])
abbrev mi_DV_makeView : MethodName × ByteArray × Nat × Option FieldType × List (Nat × Nat × Nat × Nat) := (⟨"DeltaViews", "makeView", "(LDeltaViews$Operation;)I"⟩, prog_1_method_23_code, 3, some .int, [])
abbrev mi_View_begin : MethodName × ByteArray × Nat × Option FieldType × List (Nat × Nat × Nat × Nat) := (⟨"DeltaViews$View", "begin", "(LDeltaViews$Operation;)V"⟩, prog_12_method_2_code, 2, none, [])
abbrev mi_Law_project : MethodName × ByteArray × Nat × Option FieldType × List (Nat × Nat × Nat × Nat) := (⟨"DeltaViewsLaw", "project", "(LDeltaViews;III[J)I"⟩, method_6_code, 6, some .int, [(0, 12, 15, 13), (0, 12, 19, 15), (0, 12, 23, 17)])
abbrev mi_DV_project : MethodName × ByteArray × Nat × Option FieldType × List (Nat × Nat × Nat × Nat) := (⟨"DeltaViews", "project", "(III)I"⟩, prog_1_method_6_code, 6, some .int, [])
abbrev mi_Project_init : MethodName × ByteArray × Nat × Option FieldType × List (Nat × Nat × Nat × Nat) := (⟨"DeltaViews$Project", "<init>", "(LDeltaViews$View;II)V"⟩, prog_8_method_1_code, 4, none, [])
abbrev mi_Law_join : MethodName × ByteArray × Nat × Option FieldType × List (Nat × Nat × Nat × Nat) := (⟨"DeltaViewsLaw", "join", "(LDeltaViews;IIII[J)I"⟩, method_7_code, 7, some .int, [(0, 14, 17, 13), (0, 14, 21, 15), (0, 14, 25, 17)])
abbrev mi_DV_join : MethodName × ByteArray × Nat × Option FieldType × List (Nat × Nat × Nat × Nat) := (⟨"DeltaViews", "join", "(IIII)I"⟩, prog_1_method_7_code, 7, some .int, [])
abbrev mi_Join_init : MethodName × ByteArray × Nat × Option FieldType × List (Nat × Nat × Nat × Nat) := (⟨"DeltaViews$Join", "<init>", "(LDeltaViews$View;LDeltaViews$View;II)V"⟩, prog_6_method_1_code, 5, none, [])
abbrev mi_Law_union : MethodName × ByteArray × Nat × Option FieldType × List (Nat × Nat × Nat × Nat) := (⟨"DeltaViewsLaw", "union", "(LDeltaViews;II[J)I"⟩, method_8_code, 5, some .int, [(0, 10, 13, 13), (0, 10, 17, 15), (0, 10, 21, 17)])
abbrev mi_DV_union : MethodName × ByteArray × Nat × Option FieldType × List (Nat × Nat × Nat × Nat) := (⟨"DeltaViews", "union", "(II)I"⟩, prog_1_method_8_code, 5, some .int, [])
abbrev mi_Union_init : MethodName × ByteArray × Nat × Option FieldType × List (Nat × Nat × Nat × Nat) := (⟨"DeltaViews$Union", "<init>", "(LDeltaViews$View;LDeltaViews$View;)V"⟩, prog_11_method_1_code, 3, none, [])
abbrev mi_Law_group : MethodName × ByteArray × Nat × Option FieldType × List (Nat × Nat × Nat × Nat) := (⟨"DeltaViewsLaw", "group", "(LDeltaViews;IIII[J)I"⟩, method_9_code, 7, some .int, [(0, 14, 17, 13), (0, 14, 21, 15), (0, 14, 25, 17)])
abbrev mi_DV_group : MethodName × ByteArray × Nat × Option FieldType × List (Nat × Nat × Nat × Nat) := (⟨"DeltaViews", "group", "(IIII)I"⟩, prog_1_method_9_code, 6, some .int, [])
abbrev mi_Group_init : MethodName × ByteArray × Nat × Option FieldType × List (Nat × Nat × Nat × Nat) := (⟨"DeltaViews$Group", "<init>", "(LDeltaViews$View;III)V"⟩, prog_5_method_1_code, 5, none, [])
abbrev mi_Law_distinct : MethodName × ByteArray × Nat × Option FieldType × List (Nat × Nat × Nat × Nat) := (⟨"DeltaViewsLaw", "distinct", "(LDeltaViews;I[J)I"⟩, method_10_code, 4, some .int, [(0, 9, 12, 13), (0, 9, 15, 17)])
abbrev mi_DV_distinct : MethodName × ByteArray × Nat × Option FieldType × List (Nat × Nat × Nat × Nat) := (⟨"DeltaViews", "distinct", "(I)I"⟩, prog_1_method_10_code, 2, some .int, [])
abbrev mi_Distinct_init : MethodName × ByteArray × Nat × Option FieldType × List (Nat × Nat × Nat × Nat) := (⟨"DeltaViews$Distinct", "<init>", "(LDeltaViews$View;)V"⟩, prog_4_method_1_code, 2, none, [])
abbrev mi_Law_drop : MethodName × ByteArray × Nat × Option FieldType × List (Nat × Nat × Nat × Nat) := (⟨"DeltaViewsLaw", "drop", "(LDeltaViews;[J)I"⟩, method_11_code, 3, some .int, [(0, 8, 11, 17)])
abbrev mi_DV_drop : MethodName × ByteArray × Nat × Option FieldType × List (Nat × Nat × Nat × Nat) := (⟨"DeltaViews", "drop", "()I"⟩, prog_1_method_11_code, 1, some .int, [])
abbrev mi_Law_width : MethodName × ByteArray × Nat × Option FieldType × List (Nat × Nat × Nat × Nat) := (⟨"DeltaViewsLaw", "width", "(LDeltaViews;I[J)I"⟩, method_12_code, 4, some .int, [(0, 9, 12, 13)])
abbrev mi_DV_width : MethodName × ByteArray × Nat × Option FieldType × List (Nat × Nat × Nat × Nat) := (⟨"DeltaViews", "width", "(I)I"⟩, prog_1_method_12_code, 2, some .int, [])
abbrev mi_Law_rows : MethodName × ByteArray × Nat × Option FieldType × List (Nat × Nat × Nat × Nat) := (⟨"DeltaViewsLaw", "rows", "(LDeltaViews;I[J)I"⟩, method_13_code, 4, some .int, [(0, 9, 12, 13)])
abbrev mi_DV_rows : MethodName × ByteArray × Nat × Option FieldType × List (Nat × Nat × Nat × Nat) := (⟨"DeltaViews", "rows", "(I)I"⟩, prog_1_method_13_code, 2, some .int, [])
abbrev mi_Law_cell : MethodName × ByteArray × Nat × Option FieldType × List (Nat × Nat × Nat × Nat) := (⟨"DeltaViewsLaw", "cell", "(LDeltaViews;III[J)I"⟩, method_14_code, 6, some .int, [(0, 12, 15, 13), (0, 12, 19, 56)])
abbrev mi_DV_cell : MethodName × ByteArray × Nat × Option FieldType × List (Nat × Nat × Nat × Nat) := (⟨"DeltaViews", "cell", "(III)I"⟩, prog_1_method_14_code, 5, some .int, [])
abbrev mi_DV_needRow : MethodName × ByteArray × Nat × Option FieldType × List (Nat × Nat × Nat × Nat) := (⟨"DeltaViews", "needRow", "(LDeltaViews$View;I)V"⟩, prog_1_method_22_code, 2, none, [])
abbrev mi_Law_times : MethodName × ByteArray × Nat × Option FieldType × List (Nat × Nat × Nat × Nat) := (⟨"DeltaViewsLaw", "times", "(LDeltaViews;II[J)I"⟩, method_15_code, 5, some .int, [(0, 9, 12, 13), (0, 9, 16, 56)])
abbrev mi_DV_times : MethodName × ByteArray × Nat × Option FieldType × List (Nat × Nat × Nat × Nat) := (⟨"DeltaViews", "times", "(II)J"⟩, prog_1_method_15_code, 4, some .long, [])
abbrev mi_Law_many : MethodName × ByteArray × Nat × Option FieldType × List (Nat × Nat × Nat × Nat) := (⟨"DeltaViewsLaw", "many", "(LDeltaViews;IIIII[J)I"⟩, method_16_code, 8, some .int, [(0, 15, 18, 13)])
abbrev mi_DV_many : MethodName × ByteArray × Nat × Option FieldType × List (Nat × Nat × Nat × Nat) := (⟨"DeltaViews", "many", "(IIIII)J"⟩, prog_1_method_16_code, 7, some .long, [])
abbrev mi_Bag_timesOfPending : MethodName × ByteArray × Nat × Option FieldType × List (Nat × Nat × Nat × Nat) := (⟨"DeltaViews$Bag", "timesOfPending", "()J"⟩, prog_2_method_10_code, 2, some .long, [])
abbrev mi_Law_moved : MethodName × ByteArray × Nat × Option FieldType × List (Nat × Nat × Nat × Nat) := (⟨"DeltaViewsLaw", "moved", "(LDeltaViews;I[J)I"⟩, method_17_code, 4, some .int, [(0, 9, 12, 13)])
abbrev mi_DV_moved : MethodName × ByteArray × Nat × Option FieldType × List (Nat × Nat × Nat × Nat) := (⟨"DeltaViews", "moved", "(I)I"⟩, prog_1_method_17_code, 2, some .int, [])
abbrev mi_Mo_init : MethodName × ByteArray × Nat × Option FieldType × List (Nat × Nat × Nat × Nat) := (⟨"DeltaViewsModel", "<init>", "()V"⟩, prog_14_method_1_code, 2, none, [])
abbrev mi_Mo_thrown : MethodName × ByteArray × Nat × Option FieldType × List (Nat × Nat × Nat × Nat) := (⟨"DeltaViewsModel", "thrown", "()I"⟩, prog_14_method_2_code, 1, some .int, [])
abbrev mi_Mo_change : MethodName × ByteArray × Nat × Option FieldType × List (Nat × Nat × Nat × Nat) := (⟨"DeltaViewsModel", "change", "(IIII)I"⟩, prog_14_method_17_code, 5, some .int, [])
abbrev mi_Mo_cancel : MethodName × ByteArray × Nat × Option FieldType × List (Nat × Nat × Nat × Nat) := (⟨"DeltaViewsModel", "cancel", "()I"⟩, prog_14_method_18_code, 2, some .int, [])
abbrev mi_Mo_commit : MethodName × ByteArray × Nat × Option FieldType × List (Nat × Nat × Nat × Nat) := (⟨"DeltaViewsModel", "commit", "()I"⟩, prog_14_method_23_code, 3, some .int, [])
abbrev mi_Mo_tryTable : MethodName × ByteArray × Nat × Option FieldType × List (Nat × Nat × Nat × Nat) := (⟨"DeltaViewsModel", "tryTable", "(I)Z"⟩, prog_14_method_19_code, 4, some .boolean, [])
abbrev mi_Mo_take : MethodName × ByteArray × Nat × Option FieldType × List (Nat × Nat × Nat × Nat) := (⟨"DeltaViewsModel", "take", "(II)V"⟩, prog_14_method_8_code, 4, none, [])
abbrev mi_Mo_cellOf : MethodName × ByteArray × Nat × Option FieldType × List (Nat × Nat × Nat × Nat) := (⟨"DeltaViewsModel", "cellOf", "(III)I"⟩, prog_14_method_7_code, 4, some .int, [])
abbrev mi_Mo_gather : MethodName × ByteArray × Nat × Option FieldType × List (Nat × Nat × Nat × Nat) := (⟨"DeltaViewsModel", "gather", "(IJ)V"⟩, prog_14_method_4_code, 5, none, [])
abbrev mi_Mo_isRow : MethodName × ByteArray × Nat × Option FieldType × List (Nat × Nat × Nat × Nat) := (⟨"DeltaViewsModel", "isRow", "(II)Z"⟩, prog_14_method_3_code, 5, some .boolean, [])
abbrev mi_Mo_settle : MethodName × ByteArray × Nat × Option FieldType × List (Nat × Nat × Nat × Nat) := (⟨"DeltaViewsModel", "settle", "(III)Z"⟩, prog_14_method_6_code, 8, some .boolean, [])
abbrev mi_Mo_comesBefore : MethodName × ByteArray × Nat × Option FieldType × List (Nat × Nat × Nat × Nat) := (⟨"DeltaViewsModel", "comesBefore", "(III)Z"⟩, prog_14_method_5_code, 5, some .boolean, [])
abbrev mi_Mo_work : MethodName × ByteArray × Nat × Option FieldType × List (Nat × Nat × Nat × Nat) := (⟨"DeltaViewsModel", "work", "(II)Z"⟩, prog_14_method_16_code, 5, some .boolean, [])
abbrev mi_Mo_selects : MethodName × ByteArray × Nat × Option FieldType × List (Nat × Nat × Nat × Nat) := (⟨"DeltaViewsModel", "selects", "(II)V"⟩, prog_14_method_10_code, 4, none, [])
abbrev mi_Mo_passes : MethodName × ByteArray × Nat × Option FieldType × List (Nat × Nat × Nat × Nat) := (⟨"DeltaViewsModel", "passes", "(III)Z"⟩, prog_14_method_9_code, 3, some .boolean, [])
abbrev mi_Mo_projects : MethodName × ByteArray × Nat × Option FieldType × List (Nat × Nat × Nat × Nat) := (⟨"DeltaViewsModel", "projects", "(II)V"⟩, prog_14_method_11_code, 5, none, [])
abbrev mi_Mo_joins : MethodName × ByteArray × Nat × Option FieldType × List (Nat × Nat × Nat × Nat) := (⟨"DeltaViewsModel", "joins", "(III)V"⟩, prog_14_method_12_code, 8, none, [])
abbrev mi_Mo_all : MethodName × ByteArray × Nat × Option FieldType × List (Nat × Nat × Nat × Nat) := (⟨"DeltaViewsModel", "all", "(IIZ)V"⟩, prog_14_method_13_code, 5, none, [])
abbrev mi_Mo_groups : MethodName × ByteArray × Nat × Option FieldType × List (Nat × Nat × Nat × Nat) := (⟨"DeltaViewsModel", "groups", "(II)V"⟩, prog_14_method_15_code, 7, none, [])
abbrev mi_Mo_result : MethodName × ByteArray × Nat × Option FieldType × List (Nat × Nat × Nat × Nat) := (⟨"DeltaViewsModel", "result", "(III)I"⟩, prog_14_method_14_code, 9, some .int, [])
abbrev mi_Mo_takeOver : MethodName × ByteArray × Nat × Option FieldType × List (Nat × Nat × Nat × Nat) := (⟨"DeltaViewsModel", "takeOver", "(I)V"⟩, prog_14_method_22_code, 3, none, [])
abbrev mi_Mo_differing : MethodName × ByteArray × Nat × Option FieldType × List (Nat × Nat × Nat × Nat) := (⟨"DeltaViewsModel", "differing", "(I)I"⟩, prog_14_method_21_code, 4, some .int, [])
abbrev mi_Mo_timesOf : MethodName × ByteArray × Nat × Option FieldType × List (Nat × Nat × Nat × Nat) := (⟨"DeltaViewsModel", "timesOf", "(IIII)J"⟩, prog_14_method_20_code, 8, some .long, [])
abbrev mi_Mo_select : MethodName × ByteArray × Nat × Option FieldType × List (Nat × Nat × Nat × Nat) := (⟨"DeltaViewsModel", "select", "(IIII)I"⟩, prog_14_method_28_code, 5, some .int, [])
abbrev mi_Mo_isColumn : MethodName × ByteArray × Nat × Option FieldType × List (Nat × Nat × Nat × Nat) := (⟨"DeltaViewsModel", "isColumn", "(II)Z"⟩, prog_14_method_25_code, 3, some .boolean, [])
abbrev mi_Mo_isView : MethodName × ByteArray × Nat × Option FieldType × List (Nat × Nat × Nat × Nat) := (⟨"DeltaViewsModel", "isView", "(I)Z"⟩, prog_14_method_24_code, 2, some .boolean, [])
abbrev mi_Mo_told : MethodName × ByteArray × Nat × Option FieldType × List (Nat × Nat × Nat × Nat) := (⟨"DeltaViewsModel", "told", "(III)V"⟩, prog_14_method_27_code, 4, none, [])
abbrev mi_Mo_make : MethodName × ByteArray × Nat × Option FieldType × List (Nat × Nat × Nat × Nat) := (⟨"DeltaViewsModel", "make", "(IIIII)I"⟩, prog_14_method_26_code, 6, some .int, [])
abbrev mi_Mo_project : MethodName × ByteArray × Nat × Option FieldType × List (Nat × Nat × Nat × Nat) := (⟨"DeltaViewsModel", "project", "(III)I"⟩, prog_14_method_29_code, 6, some .int, [])
abbrev mi_Mo_join : MethodName × ByteArray × Nat × Option FieldType × List (Nat × Nat × Nat × Nat) := (⟨"DeltaViewsModel", "join", "(IIII)I"⟩, prog_14_method_30_code, 5, some .int, [])
abbrev mi_Mo_union : MethodName × ByteArray × Nat × Option FieldType × List (Nat × Nat × Nat × Nat) := (⟨"DeltaViewsModel", "union", "(II)I"⟩, prog_14_method_31_code, 3, some .int, [])
abbrev mi_Mo_group : MethodName × ByteArray × Nat × Option FieldType × List (Nat × Nat × Nat × Nat) := (⟨"DeltaViewsModel", "group", "(IIII)I"⟩, prog_14_method_32_code, 5, some .int, [])
abbrev mi_Mo_distinct : MethodName × ByteArray × Nat × Option FieldType × List (Nat × Nat × Nat × Nat) := (⟨"DeltaViewsModel", "distinct", "(I)I"⟩, prog_14_method_33_code, 2, some .int, [])
abbrev mi_Mo_drop : MethodName × ByteArray × Nat × Option FieldType × List (Nat × Nat × Nat × Nat) := (⟨"DeltaViewsModel", "drop", "()I"⟩, prog_14_method_34_code, 1, some .int, [])
abbrev mi_Mo_width : MethodName × ByteArray × Nat × Option FieldType × List (Nat × Nat × Nat × Nat) := (⟨"DeltaViewsModel", "width", "(I)I"⟩, prog_14_method_35_code, 2, some .int, [])
abbrev mi_Mo_rows : MethodName × ByteArray × Nat × Option FieldType × List (Nat × Nat × Nat × Nat) := (⟨"DeltaViewsModel", "rows", "(I)I"⟩, prog_14_method_36_code, 2, some .int, [])
abbrev mi_Mo_cell : MethodName × ByteArray × Nat × Option FieldType × List (Nat × Nat × Nat × Nat) := (⟨"DeltaViewsModel", "cell", "(III)I"⟩, prog_14_method_37_code, 4, some .int, [])
abbrev mi_Mo_times : MethodName × ByteArray × Nat × Option FieldType × List (Nat × Nat × Nat × Nat) := (⟨"DeltaViewsModel", "times", "(II)J"⟩, prog_14_method_38_code, 3, some .long, [])
abbrev mi_Mo_many : MethodName × ByteArray × Nat × Option FieldType × List (Nat × Nat × Nat × Nat) := (⟨"DeltaViewsModel", "many", "(IIIII)J"⟩, prog_14_method_39_code, 9, some .long, [])
abbrev mi_Mo_moved : MethodName × ByteArray × Nat × Option FieldType × List (Nat × Nat × Nat × Nat) := (⟨"DeltaViewsModel", "moved", "(I)I"⟩, prog_14_method_40_code, 2, some .int, [])
abbrev mi_Law_law : MethodName × ByteArray × Nat × Option FieldType × List (Nat × Nat × Nat × Nat) := (⟨"DeltaViewsLaw", "law", "([I)Z"⟩, code, 8, some .boolean, [])
def fw_ex : Nat → String
  | 1 => "java/lang/IndexOutOfBoundsException"
  | 2 => "java/lang/IllegalArgumentException"
  | 3 => "java/lang/IllegalStateException"
  | _ => "java/util/NoSuchElementException"
/-- words that stay true as the tables warm -/
def fw_keep : Cond → Bool
  | .fieldLinkNest .. => true
  | .methodLinkNest .. => true
  | .declares _ => true
  | .castable .. => true
  | .arrayClass _ => true
  | w => w.onTables && w.keeps
def fw_big : List Cond := lw_tbl.filter fw_keep
theorem fw_big_ok : ∀ c ∈ fw_big, fw_keep c = true := fun _ h => (List.mem_filter.mp h).2
theorem fw_mem {c : Cond} (i : Nat) (h : lw_tbl[i]? = some c) (hk : fw_keep c = true) : c ∈ fw_big := List.mem_filter.mpr ⟨List.mem_of_getElem? h, hk⟩
end
section
/-! Bags of rows as sorted lists: the mathematics that both programs meet in. -/
def ma_lt : List Int32 → List Int32 → Bool
  | x :: xs, y :: ys => decide (x < y) || (decide (x = y) && ma_lt xs ys)
  | _, _ => false
abbrev MaB : Type := List (List Int32 × Int64)
theorem ma_lt_cons (x y : Int32) (xs ys : List Int32) : ma_lt (x :: xs) (y :: ys) = true ↔ x < y ∨ (x = y ∧ ma_lt xs ys = true) := by
  simp [ma_lt]
theorem ma_lt_irr (r : List Int32) : ma_lt r r = false := by
  induction r with
  | nil => rfl
  | cons x t ih => simp [ma_lt, ih]
theorem ma_lt_trans : ∀ {a b c : List Int32}, ma_lt a b = true → ma_lt b c = true → ma_lt a c = true
  | [], _, _, h, _ => by simp [ma_lt] at h
  | _ :: _, [], _, h, _ => by simp [ma_lt] at h
  | _ :: _, _ :: _, [], _, h => by simp [ma_lt] at h
  | x :: xs, y :: ys, z :: zs, h, g => by
    rw [ma_lt_cons] at h g ⊢
    rcases h with h | ⟨rfl, h⟩
    · rcases g with g | ⟨rfl, g⟩
      · exact Or.inl (Int32.lt_trans h g)
      · exact Or.inl h
    · rcases g with g | ⟨rfl, g⟩
      · exact Or.inl g
      · exact Or.inr ⟨rfl, ma_lt_trans h g⟩
theorem ma_lt_asym {a b : List Int32} (h : ma_lt a b = true) : ma_lt b a = false := by
  cases g : ma_lt b a with
  | false => rfl
  | true =>
    have := ma_lt_trans h g
    rw [ma_lt_irr] at this
    cases this
theorem ma_lt_ne {a b : List Int32} (h : ma_lt a b = true) : a ≠ b := by
  rintro rfl
  rw [ma_lt_irr] at h
  cases h
theorem ma_i32_tri (x y : Int32) : x < y ∨ x = y ∨ y < x := by
  rw [Int32.lt_iff_toInt_lt, Int32.lt_iff_toInt_lt, ← Int32.toInt_inj]
  omega
theorem ma_lt_tri : ∀ {a b : List Int32}, a.length = b.length → ma_lt a b = true ∨ a = b ∨ ma_lt b a = true
  | [], [], _ => Or.inr (Or.inl rfl)
  | [], _ :: _, h => by simp at h
  | _ :: _, [], h => by simp at h
  | x :: xs, y :: ys, h => by
    rw [ma_lt_cons, ma_lt_cons]
    have h' : xs.length = ys.length := by simpa using h
    rcases ma_i32_tri x y with g | rfl | g
    · exact Or.inl (Or.inl g)
    · rcases ma_lt_tri h' with k | rfl | k
      · exact Or.inl (Or.inr ⟨rfl, k⟩)
      · exact Or.inr (Or.inl rfl)
      · exact Or.inr (Or.inr (Or.inr ⟨rfl, k⟩))
    · exact Or.inr (Or.inr (Or.inl g))
/-- a row's multiplicity -/
def ma_look : MaB → List Int32 → Int64
  | [], _ => 0
  | (q, k) :: t, r => if q = r then k else ma_look t r
/-- sorted insertion: the way of the system -/
def ma_add : MaB → List Int32 → Int64 → MaB
  | [], r, m => if m = 0 then [] else [(r, m)]
  | (q, k) :: t, r, m => if ma_lt q r = true then (q, k) :: ma_add t r m else if q = r then (if k + m = 0 then t else (q, k + m) :: t) else if m = 0 then (q, k) :: t else (r, m) :: (q, k) :: t
def ma_srt (b : MaB) : Prop := b.Pairwise (fun x y => ma_lt x.1 y.1 = true)
def ma_ok (n : Nat) (b : MaB) : Prop := ma_srt b ∧ ∀ x ∈ b, x.1.length = n ∧ x.2 ≠ 0
theorem ma_ok_nil (n : Nat) : ma_ok n [] := ⟨List.Pairwise.nil, fun _ h => by cases h⟩
theorem ma_ok_cons {n : Nat} {x : List Int32 × Int64} {t : MaB} : ma_ok n (x :: t) ↔ (x.1.length = n ∧ x.2 ≠ 0 ∧ ∀ y ∈ t, ma_lt x.1 y.1 = true) ∧ ma_ok n t := by
  unfold ma_ok ma_srt
  rw [List.pairwise_cons]
  constructor
  · rintro ⟨⟨h1, h2⟩, h3⟩
    exact ⟨⟨(h3 x List.mem_cons_self).1, (h3 x List.mem_cons_self).2, h1⟩, h2, fun y hy => h3 y (List.mem_cons_of_mem _ hy)⟩
  · rintro ⟨⟨h1, h2, h3⟩, h4, h5⟩
    refine ⟨⟨h3, h4⟩, fun y hy => ?_⟩
    rcases List.mem_cons.mp hy with rfl | hy
    · exact ⟨h1, h2⟩
    · exact h5 y hy
theorem ma_add_mem {b : MaB} {r : List Int32} {m : Int64} {x : List Int32 × Int64} (h : x ∈ ma_add b r m) : x ∈ b ∨ x.1 = r := by
  induction b with
  | nil =>
    simp only [ma_add] at h
    split at h
    · cases h
    · exact Or.inr (by rw [List.mem_singleton.mp h])
  | cons y t ih =>
    obtain ⟨q, k⟩ := y
    simp only [ma_add] at h
    split at h
    · rcases List.mem_cons.mp h with rfl | h
      · exact Or.inl List.mem_cons_self
      · rcases ih h with g | g
        · exact Or.inl (List.mem_cons_of_mem _ g)
        · exact Or.inr g
    · split at h
      · rename_i hq
        split at h
        · exact Or.inl (List.mem_cons_of_mem _ h)
        · rcases List.mem_cons.mp h with rfl | h
          · exact Or.inr hq
          · exact Or.inl (List.mem_cons_of_mem _ h)
      · split at h
        · exact Or.inl h
        · rcases List.mem_cons.mp h with rfl | h
          · exact Or.inr rfl
          · exact Or.inl h
theorem ma_add_ok {n : Nat} {b : MaB} {r : List Int32} {m : Int64} (h : ma_ok n b) (hr : r.length = n) : ma_ok n (ma_add b r m) := by
  induction b with
  | nil =>
    simp only [ma_add]
    split
    · exact ma_ok_nil n
    · rename_i hm
      exact ma_ok_cons.mpr ⟨⟨hr, hm, fun _ h => by cases h⟩, ma_ok_nil n⟩
  | cons y t ih =>
    obtain ⟨q, k⟩ := y
    obtain ⟨⟨h1, h2, h3⟩, h4⟩ := ma_ok_cons.mp h
    simp only [ma_add]
    split
    · rename_i hq
      refine ma_ok_cons.mpr ⟨⟨h1, h2, fun x hx => ?_⟩, ih h4⟩
      rcases ma_add_mem hx with g | g
      · exact h3 x g
      · rw [g]; exact hq
    · rename_i hq
      split
      · split
        · exact h4
        · rename_i hk
          exact ma_ok_cons.mpr ⟨⟨h1, hk, h3⟩, h4⟩
      · rename_i hqr
        split
        · exact h
        · rename_i hm
          have hlt : ma_lt r q = true := by
            rcases ma_lt_tri (a := r) (b := q) (hr.trans h1.symm) with g | g | g
            · exact g
            · exact absurd g.symm hqr
            · exact absurd g hq
          refine ma_ok_cons.mpr ⟨⟨hr, hm, fun x hx => ?_⟩, h⟩
          rcases List.mem_cons.mp hx with rfl | hx
          · exact hlt
          · exact ma_lt_trans hlt (h3 x hx)
theorem ma_look_no {b : MaB} {r : List Int32} (h : ∀ x ∈ b, x.1 ≠ r) : ma_look b r = 0 := by
  induction b with
  | nil => rfl
  | cons y t ih =>
    obtain ⟨q, k⟩ := y
    simp only [ma_look]
    rw [if_neg (h (q, k) List.mem_cons_self)]
    exact ih fun x hx => h x (List.mem_cons_of_mem _ hx)
theorem ma_add_look {n : Nat} {b : MaB} {r : List Int32} {m : Int64} (h : ma_ok n b) (hr : r.length = n) (z : List Int32) : ma_look (ma_add b r m) z = ma_look b z + if r = z then m else 0 := by
  induction b with
  | nil =>
    simp only [ma_add, ma_look]
    by_cases hm : m = 0
    · subst hm
      simp [ma_look]
    · rw [if_neg hm]
      simp [ma_look]
  | cons y t ih =>
    obtain ⟨q, k⟩ := y
    obtain ⟨⟨h1, h2, h3⟩, h4⟩ := ma_ok_cons.mp h
    simp only [ma_add]
    split
    · rename_i hq
      simp only [ma_look]
      split
      · rename_i hz
        subst hz
        rw [if_neg (fun e => ma_lt_ne hq e.symm)]
        simp
      · exact ih h4
    · rename_i hq
      split
      · rename_i hqr
        subst hqr
        have h5 : ∀ x ∈ t, x.1 ≠ q := fun x hx e => ma_lt_ne (h3 x hx) e.symm
        by_cases hz : q = z
        · subst hz
          split
          · rename_i hk
            rw [ma_look_no h5]
            simp [ma_look, hk]
          · simp [ma_look]
        · split
          · simp [ma_look, hz]
          · simp [ma_look, hz]
      · rename_i hqr
        by_cases hm : m = 0
        · subst hm
          simp
        · rw [if_neg hm]
          have hlt : ma_lt r q = true := by
            rcases ma_lt_tri (a := r) (b := q) (hr.trans h1.symm) with g | g | g
            · exact g
            · exact absurd g.symm hqr
            · exact absurd g hq
          have h5 : ∀ x ∈ (q, k) :: t, x.1 ≠ r := by
            intro x hx e
            rcases List.mem_cons.mp hx with rfl | hx
            · exact hqr e
            · exact ma_lt_ne (ma_lt_trans hlt (h3 x hx)) e.symm
          by_cases hz : r = z
          · subst hz
            rw [ma_look_no h5]
            simp [ma_look]
          · simp [ma_look, hz]
/-- gathering: the way of the reference -/
def ma_g : MaB → List Int32 → Int64 → MaB
  | [], r, m => [(r, m)]
  | (q, k) :: t, r, m => if q = r then (q, k + m) :: t else (q, k) :: ma_g t r m
def ma_nd (b : MaB) : Prop := b.Pairwise (fun x y => x.1 ≠ y.1)
theorem ma_g_mem {b : MaB} {r : List Int32} {m : Int64} {x : List Int32 × Int64} (h : x ∈ ma_g b r m) : (∃ y ∈ b, y.1 = x.1) ∨ x.1 = r := by
  induction b with
  | nil => exact Or.inr (by rw [List.mem_singleton.mp h])
  | cons y t ih =>
    obtain ⟨q, k⟩ := y
    simp only [ma_g] at h
    split at h
    · rcases List.mem_cons.mp h with rfl | h
      · exact Or.inl ⟨(q, k), List.mem_cons_self, rfl⟩
      · exact Or.inl ⟨x, List.mem_cons_of_mem _ h, rfl⟩
    · rcases List.mem_cons.mp h with rfl | h
      · exact Or.inl ⟨(q, k), List.mem_cons_self, rfl⟩
      · rcases ih h with ⟨y, hy, e⟩ | e
        · exact Or.inl ⟨y, List.mem_cons_of_mem _ hy, e⟩
        · exact Or.inr e
theorem ma_g_nd {b : MaB} {r : List Int32} {m : Int64} (h : ma_nd b) : ma_nd (ma_g b r m) := by
  induction b with
  | nil => exact List.pairwise_singleton _ _
  | cons y t ih =>
    obtain ⟨q, k⟩ := y
    unfold ma_nd at h ih ⊢
    rw [List.pairwise_cons] at h
    simp only [ma_g]
    split
    · rw [List.pairwise_cons]
      exact ⟨h.1, h.2⟩
    · rename_i hq
      rw [List.pairwise_cons]
      refine ⟨fun x hx => ?_, ih h.2⟩
      rcases ma_g_mem hx with ⟨y, hy, e⟩ | e
      · rw [← e]; exact h.1 y hy
      · rw [e]; exact hq
theorem ma_g_look {b : MaB} {r : List Int32} {m : Int64} (z : List Int32) : ma_look (ma_g b r m) z = ma_look b z + if r = z then m else 0 := by
  induction b with
  | nil => simp [ma_g, ma_look]
  | cons y t ih =>
    obtain ⟨q, k⟩ := y
    simp only [ma_g]
    split
    · rename_i hq
      subst hq
      by_cases hz : q = z
      · subst hz; simp [ma_look]
      · simp [ma_look, hz]
    · rename_i hq
      simp only [ma_look]
      split
      · rename_i hz
        subst hz
        rw [if_neg (fun e => hq e.symm)]
        simp
      · exact ih
theorem ma_look_mem {b : MaB} (h : ma_nd b) {x : List Int32 × Int64} (hx : x ∈ b) : ma_look b x.1 = x.2 := by
  induction b with
  | nil => cases hx
  | cons y t ih =>
    obtain ⟨q, k⟩ := y
    unfold ma_nd at h
    rw [List.pairwise_cons] at h
    simp only [ma_look]
    rcases List.mem_cons.mp hx with rfl | hx
    · simp
    · rw [if_neg (h.1 x hx)]
      exact ih h.2 hx
theorem ma_mem_look {b : MaB} {r : List Int32} (h : ma_look b r ≠ 0) : (r, ma_look b r) ∈ b := by
  induction b with
  | nil => exact absurd rfl h
  | cons y t ih =>
    obtain ⟨q, k⟩ := y
    simp only [ma_look] at h ⊢
    split
    · rename_i hq
      subst hq
      exact List.mem_cons_self
    · rename_i hq
      rw [if_neg hq] at h
      exact List.mem_cons_of_mem _ (ih h)
theorem ma_srt_nd {b : MaB} (h : ma_srt b) : ma_nd b := List.Pairwise.imp (fun {_ _} h => ma_lt_ne h) h
def ma_fold (b A : MaB) : MaB := A.foldl (fun c x => ma_add c x.1 x.2) b
def ma_gf (b A : MaB) : MaB := A.foldl (fun c x => ma_g c x.1 x.2) b
theorem ma_fold_ok {n : Nat} {A : MaB} : ∀ {b : MaB}, ma_ok n b → (∀ x ∈ A, x.1.length = n) → ma_ok n (ma_fold b A) := by
  induction A with
  | nil => intro b h _; exact h
  | cons y t ih => intro b h hA; exact ih (ma_add_ok h (hA y List.mem_cons_self)) (fun x hx => hA x (List.mem_cons_of_mem _ hx))
theorem ma_gf_nd {A : MaB} : ∀ {b : MaB}, ma_nd b → ma_nd (ma_gf b A) := by
  induction A with
  | nil => intro b h; exact h
  | cons y t ih => intro b h; exact ih (ma_g_nd h)
theorem ma_fold_look {n : Nat} {A : MaB} : ∀ {b g : MaB}, ma_ok n b → (∀ x ∈ A, x.1.length = n) → (∀ z, ma_look b z = ma_look g z) → ∀ z, ma_look (ma_fold b A) z = ma_look (ma_gf g A) z := by
  induction A with
  | nil => intro b g _ _ h; exact h
  | cons y t ih =>
    intro b g hb hA h
    refine ih (ma_add_ok hb (hA y List.mem_cons_self)) (fun x hx => hA x (List.mem_cons_of_mem _ hx)) (fun z => ?_)
    rw [ma_add_look hb (hA y List.mem_cons_self), ma_g_look, h]
theorem ma_nd_nodup {b : MaB} (h : ma_nd b) : b.Nodup := List.Pairwise.imp (fun {_ _} h e => h (congrArg Prod.fst e)) h
/-- what is gathered and not nought is, in some order, what sorted insertion gives -/
theorem ma_perm {n : Nat} {A : MaB} (hA : ∀ x ∈ A, x.1.length = n) : ((ma_gf [] A).filter (fun x => decide (x.2 ≠ 0))).Perm (ma_fold [] A) := by
  have h1 : ma_ok n (ma_fold [] A) := ma_fold_ok (ma_ok_nil n) hA
  have h2 : ma_nd (ma_gf [] A) := ma_gf_nd List.Pairwise.nil
  have h3 := ma_fold_look (b := []) (g := []) (ma_ok_nil n) hA (fun _ => rfl)
  refine (List.perm_ext_iff_of_nodup ((ma_nd_nodup h2).sublist List.filter_sublist) (ma_nd_nodup (ma_srt_nd h1.1))).mpr fun x => ?_
  rw [List.mem_filter]
  constructor
  · rintro ⟨hx, hz⟩
    have e := ma_look_mem h2 hx
    have hz : x.2 ≠ 0 := of_decide_eq_true hz
    have e2 : ma_look (ma_fold [] A) x.1 = x.2 := (h3 x.1).trans e
    have := ma_mem_look (b := ma_fold [] A) (r := x.1) (by rw [e2]; exact hz)
    rw [e2] at this
    exact this
  · intro hx
    have e := ma_look_mem (ma_srt_nd h1.1) hx
    have hz := (h1.2 x hx).2
    have e2 : ma_look (ma_gf [] A) x.1 = x.2 := (h3 x.1).symm.trans e
    have := ma_mem_look (b := ma_gf [] A) (r := x.1) (by rw [e2]; exact hz)
    rw [e2] at this
    exact ⟨this, decide_eq_true hz⟩
/-- in a sorted bag the place of a row is the number of those before it -/
theorem ma_rank {n : Nat} {b : MaB} (h : ma_ok n b) : ∀ {i : Nat} (hi : i < b.length), b.countP (fun x => ma_lt x.1 (b[i]).1) = i := by
  induction b with
  | nil => intro i hi; simp at hi
  | cons y t ih =>
    intro i hi
    obtain ⟨⟨h1, h2, h3⟩, h4⟩ := ma_ok_cons.mp h
    cases i with
    | zero =>
      rw [List.countP_eq_zero]
      intro x hx
      rcases List.mem_cons.mp hx with rfl | hx
      · simp [ma_lt_irr]
      · simp [ma_lt_asym (h3 x hx)]
    | succ j =>
      have hj : j < t.length := by simpa using hi
      have hy := h3 (t[j]) (List.getElem_mem hj)
      rw [List.countP_cons_of_pos (by simpa using hy)]
      have := ih h4 hj
      simp only [List.getElem_cons_succ]
      omega
/-! The system's room of 32 rows. -/
def ma_addC (b : MaB) (r : List Int32) (m : Int64) : MaB := if 32 ≤ b.length ∧ b.all (fun x => decide (x.1 ≠ r)) = true then b else ma_add b r m
def ma_foldC (b A : MaB) : MaB := A.foldl (fun c x => ma_addC c x.1 x.2) b
theorem ma_add_len (b : MaB) (r : List Int32) (m : Int64) : (ma_add b r m).length ≤ b.length + 1 := by
  induction b with
  | nil =>
    simp only [ma_add]
    split <;> simp
  | cons y t ih =>
    obtain ⟨q, k⟩ := y
    simp only [ma_add]
    split
    · simp only [List.length_cons]; omega
    · split
      · split
        · simp only [List.length_cons]; omega
        · simp only [List.length_cons]; omega
      · split
        · simp only [List.length_cons]; omega
        · simp only [List.length_cons]; omega
theorem ma_foldC_small {A : MaB} : ∀ {b : MaB}, b.length + A.length ≤ 32 → ma_foldC b A = ma_fold b A := by
  induction A with
  | nil => intro b _; rfl
  | cons y t ih =>
    intro b h
    simp only [List.length_cons] at h
    have e : ma_addC b y.1 y.2 = ma_add b y.1 y.2 := by
      unfold ma_addC
      rw [if_neg]
      rintro ⟨g, -⟩
      omega
    show ma_foldC (ma_addC b y.1 y.2) t = ma_fold (ma_add b y.1 y.2) t
    rw [e]
    have := ma_add_len b y.1 y.2
    exact ih (by omega)
theorem ma_add_new {n : Nat} {b : MaB} {r : List Int32} {m : Int64} (h : ma_ok n b) (hn : ∀ x ∈ b, x.1 ≠ r) : (m = 0 → ma_add b r m = b) ∧ (m ≠ 0 → (ma_add b r m).length = b.length + 1) := by
  induction b with
  | nil => simp only [ma_add]; exact ⟨fun e => by rw [if_pos e], fun e => by rw [if_neg e]; rfl⟩
  | cons y t ih =>
    obtain ⟨q, k⟩ := y
    obtain ⟨-, h4⟩ := ma_ok_cons.mp h
    have hq : ¬ q = r := hn (q, k) List.mem_cons_self
    obtain ⟨i1, i2⟩ := ih h4 (fun x hx => hn x (List.mem_cons_of_mem _ hx))
    simp only [ma_add]
    constructor
    · intro e
      split
      · rw [i1 e]
      · rfl
    · intro e
      split
      · simp only [List.length_cons]; rw [i2 e]
      · rfl
theorem ma_fold_new {n : Nat} {A : MaB} : ∀ {b : MaB}, ma_ok n b → (∀ x ∈ A, x.1.length = n) → ma_nd A → (∀ x ∈ A, ∀ y ∈ b, y.1 ≠ x.1) → (ma_fold b A).length = b.length + A.countP (fun x => decide (x.2 ≠ 0)) := by
  induction A with
  | nil => intro b _ _ _ _; rfl
  | cons y t ih =>
    intro b hb hA hd hn
    unfold ma_nd at hd
    rw [List.pairwise_cons] at hd
    obtain ⟨i1, i2⟩ := ma_add_new (m := y.2) hb (hn y List.mem_cons_self)
    have hn2 : ∀ x ∈ t, ∀ z ∈ ma_add b y.1 y.2, z.1 ≠ x.1 := by
      intro x hx z hz
      rcases ma_add_mem hz with g | g
      · exact hn x (List.mem_cons_of_mem _ hx) z g
      · rw [g]; exact hd.1 x hx
    have := ih (ma_add_ok hb (hA y List.mem_cons_self)) (fun x hx => hA x (List.mem_cons_of_mem _ hx)) hd.2 hn2
    show (ma_fold (ma_add b y.1 y.2) t).length = _
    rw [this]
    by_cases hz : y.2 = 0
    · rw [i1 hz, List.countP_cons_of_neg (by simp [hz])]
    · rw [i2 hz, List.countP_cons_of_pos (by simp [hz])]
      omega
theorem ma_foldC_new {n : Nat} {A : MaB} : ∀ {b : MaB}, ma_ok n b → b.length ≤ 32 → (∀ x ∈ A, x.1.length = n) → ma_nd A → (∀ x ∈ A, ∀ y ∈ b, y.1 ≠ x.1) →
    (b.length + A.countP (fun x => decide (x.2 ≠ 0)) ≤ 32 → ma_foldC b A = ma_fold b A) ∧ (32 ≤ b.length + A.countP (fun x => decide (x.2 ≠ 0)) → (ma_foldC b A).length = 32) := by
  induction A with
  | nil => intro b _ h1 _ _ _; exact ⟨fun _ => rfl, fun h => by simp at h; show b.length = 32; omega⟩
  | cons y t ih =>
    intro b hb h1 hA hd hn
    unfold ma_nd at hd
    rw [List.pairwise_cons] at hd
    obtain ⟨i1, i2⟩ := ma_add_new (m := y.2) hb (hn y List.mem_cons_self)
    have hn2 : ∀ x ∈ t, ∀ z ∈ ma_add b y.1 y.2, z.1 ≠ x.1 := by
      intro x hx z hz
      rcases ma_add_mem hz with g | g
      · exact hn x (List.mem_cons_of_mem _ hx) z g
      · rw [g]; exact hd.1 x hx
    have hA2 : ∀ x ∈ t, x.1.length = n := fun x hx => hA x (List.mem_cons_of_mem _ hx)
    show (_ → ma_foldC (ma_addC b y.1 y.2) t = ma_fold (ma_add b y.1 y.2) t) ∧ (_ → (ma_foldC (ma_addC b y.1 y.2) t).length = 32)
    by_cases hz : y.2 = 0
    · have e2 : ma_add b y.1 y.2 = b := i1 hz
      have e : ma_addC b y.1 y.2 = b := by
        unfold ma_addC
        split
        · rfl
        · exact e2
      rw [e, e2, List.countP_cons_of_neg (by simp [hz])]
      exact ih hb h1 hA2 hd.2 (fun x hx => hn x (List.mem_cons_of_mem _ hx))
    · rw [List.countP_cons_of_pos (by simp [hz])]
      by_cases hl : b.length < 32
      · have e : ma_addC b y.1 y.2 = ma_add b y.1 y.2 := by
          unfold ma_addC
          rw [if_neg]
          rintro ⟨g, -⟩
          omega
        rw [e]
        have e3 := i2 hz
        obtain ⟨j1, j2⟩ := ih (ma_add_ok hb (hA y List.mem_cons_self)) (by omega) hA2 hd.2 hn2
        exact ⟨fun h => j1 (by omega), fun h => j2 (by omega)⟩
      · have e : ma_addC b y.1 y.2 = b := by
          unfold ma_addC
          rw [if_pos]
          refine ⟨by omega, List.all_eq_true.mpr fun x hx => decide_eq_true (hn y List.mem_cons_self x hx)⟩
        rw [e]
        obtain ⟨-, j2⟩ := ih hb h1 hA2 hd.2 (fun x hx => hn x (List.mem_cons_of_mem _ hx))
        exact ⟨fun h => by omega, fun _ => j2 (by omega)⟩
/-! In how many rows two bags differ: by merging, and by two counts. -/
def ma_mv : MaB → MaB → Nat
  | [], y => y.length
  | x :: xs, [] => (x :: xs).length
  | (q, k) :: xs, (r, m) :: ys => if ma_lt q r = true then 1 + ma_mv xs ((r, m) :: ys) else if q = r then (if k = m then 0 else 1) + ma_mv xs ys else 1 + ma_mv ((q, k) :: xs) ys
  termination_by x y => x.length + y.length
def ma_mv2 (x y : MaB) : Nat := y.countP (fun e => decide (ma_look x e.1 ≠ e.2)) + x.countP (fun e => decide (ma_look y e.1 = 0))
theorem ma_mv_eq {n : Nat} : ∀ (N : Nat) (x y : MaB), x.length + y.length ≤ N → ma_ok n x → ma_ok n y → ma_mv x y = ma_mv2 x y := by
  intro N
  induction N with
  | zero =>
    intro x y h _ _
    have hx : x = [] := List.length_eq_zero_iff.mp (by omega)
    have hy : y = [] := List.length_eq_zero_iff.mp (by omega)
    subst hx; subst hy
    simp [ma_mv, ma_mv2]
  | succ N ih =>
    intro x y h hx hy
    match x, y with
    | [], y =>
      rw [ma_mv]
      unfold ma_mv2
      rw [List.countP_nil, List.countP_eq_length.mpr]
      · rfl
      · intro e he
        have := (hy.2 e he).2
        simp [ma_look, Ne.symm this]
    | a :: xs, [] =>
      rw [ma_mv]
      unfold ma_mv2
      rw [List.countP_nil, List.countP_eq_length.mpr]
      · omega
      · intro e _
        simp [ma_look]
    | (q, k) :: xs, (r, m) :: ys =>
      obtain ⟨⟨a1, a2, a3⟩, a4⟩ := ma_ok_cons.mp hx
      obtain ⟨⟨b1, b2, b3⟩, b4⟩ := ma_ok_cons.mp hy
      simp only [List.length_cons] at h
      dsimp only at a1 a2 a3 b1 b2 b3
      rw [ma_mv]
      rcases ma_lt_tri (a := q) (b := r) (a1.trans b1.symm) with g | g | g
      · rw [if_pos g, ih xs ((r, m) :: ys) (by simp only [List.length_cons]; omega) a4 hy]
        have hno : ∀ e ∈ (r, m) :: ys, q ≠ e.1 := by
          intro e he
          rcases List.mem_cons.mp he with rfl | he
          · exact ma_lt_ne g
          · exact ma_lt_ne (ma_lt_trans g (b3 e he))
        unfold ma_mv2
        rw [List.countP_cons_of_pos (a := (q, k)) (l := xs) (by simp [ma_look_no (b := (r, m) :: ys) (r := q) (fun e he => (hno e he).symm)])]
        rw [List.countP_congr (l := (r, m) :: ys) (p := fun e => decide (ma_look ((q, k) :: xs) e.1 ≠ e.2)) (q := fun e => decide (ma_look xs e.1 ≠ e.2)) (fun e he => by simp [ma_look, hno e he])]
        omega
      · subst g
        rw [if_neg (by rw [ma_lt_irr]; decide), if_pos rfl, ih xs ys (by omega) a4 b4]
        have hx2 : ∀ e ∈ ys, q ≠ e.1 := fun e he => ma_lt_ne (b3 e he)
        have hy2 : ∀ e ∈ xs, q ≠ e.1 := fun e he => ma_lt_ne (a3 e he)
        unfold ma_mv2
        rw [List.countP_cons_of_neg (a := (q, k)) (l := xs) (by simp [ma_look, b2])]
        rw [List.countP_cons (a := (q, m)) (l := ys)]
        rw [List.countP_congr (l := ys) (p := fun e => decide (ma_look ((q, k) :: xs) e.1 ≠ e.2)) (q := fun e => decide (ma_look xs e.1 ≠ e.2)) (fun e he => by simp [ma_look, hx2 e he])]
        rw [List.countP_congr (l := xs) (p := fun e => decide (ma_look ((q, m) :: ys) e.1 = 0)) (q := fun e => decide (ma_look ys e.1 = 0)) (fun e he => by simp [ma_look, hy2 e he])]
        by_cases hk : k = m
        · simp [ma_look, hk]
        · simp [ma_look, hk]; omega
      · have g' : ¬ ma_lt q r = true := by rw [ma_lt_asym g]; decide
        rw [if_neg g', if_neg (fun e => ma_lt_ne g e.symm), ih ((q, k) :: xs) ys (by simp only [List.length_cons]; omega) hx b4]
        have hno : ∀ e ∈ (q, k) :: xs, r ≠ e.1 := by
          intro e he
          rcases List.mem_cons.mp he with rfl | he
          · exact ma_lt_ne g
          · exact ma_lt_ne (ma_lt_trans g (a3 e he))
        unfold ma_mv2
        rw [List.countP_cons_of_pos (a := (r, m)) (l := ys) (by simp [ma_look_no (b := (q, k) :: xs) (r := r) (fun e he => (hno e he).symm), Ne.symm b2])]
        rw [List.countP_congr (l := (q, k) :: xs) (p := fun e => decide (ma_look ((r, m) :: ys) e.1 = 0)) (q := fun e => decide (ma_look ys e.1 = 0)) (fun e he => by simp [ma_look, hno e he])]
        omega
end
section
/-! Rows and bags as they lie in arrays. -/
def ar_row (f : Nat → Int32) (n a : Nat) : List Int32 := (List.range n).map (fun c => f (a + c))
theorem ar_row_len (f : Nat → Int32) (n a : Nat) : (ar_row f n a).length = n := by simp [ar_row]
theorem ar_row_0 (f : Nat → Int32) (a : Nat) : ar_row f 0 a = [] := rfl
theorem ar_row_cons (f : Nat → Int32) (n a : Nat) : ar_row f (n + 1) a = f a :: ar_row f n (a + 1) := by
  unfold ar_row
  rw [List.range_succ_eq_map, List.map_cons, List.map_map]
  congr 1
  apply List.map_congr_left
  intro c _
  show f (a + (c + 1)) = f (a + 1 + c)
  congr 1
  omega
theorem ar_row_snoc (f : Nat → Int32) (n a : Nat) : ar_row f (n + 1) a = ar_row f n a ++ [f (a + n)] := by
  simp [ar_row, List.range_succ]
theorem ar_row_congr {f g : Nat → Int32} {n a b : Nat} (h : ∀ c, c < n → f (a + c) = g (b + c)) : ar_row f n a = ar_row g n b := by
  unfold ar_row
  apply List.map_congr_left
  intro c hc
  exact h c (List.mem_range.mp hc)
theorem ar_row_get {f : Nat → Int32} {n a c : Nat} (h : c < n) : (ar_row f n a)[c]? = some (f (a + c)) := by
  simp [ar_row, h]
theorem ar_row_inj {f g : Nat → Int32} {n a b : Nat} (h : ar_row f n a = ar_row g n b) : ∀ c, c < n → f (a + c) = g (b + c) := by
  intro c hc
  have h1 := ar_row_get (f := f) (a := a) hc
  rw [h, ar_row_get hc] at h1
  exact (Option.some.inj h1).symm
theorem ar_row_lt {f g : Nat → Int32} : ∀ {n a b c : Nat}, c < n → f (a + c) < g (b + c) → (∀ j, j < c → f (a + j) = g (b + j)) → ma_lt (ar_row f n a) (ar_row g n b) = true
  | 0, _, _, _, h, _, _ => absurd h (Nat.not_lt_zero _)
  | n + 1, a, b, 0, _, h2, _ => by
    rw [ar_row_cons, ar_row_cons, ma_lt_cons]
    exact Or.inl h2
  | n + 1, a, b, c + 1, h1, h2, h3 => by
    rw [ar_row_cons, ar_row_cons, ma_lt_cons]
    refine Or.inr ⟨h3 0 (by omega), ar_row_lt (c := c) (by omega) ?_ (fun j hj => ?_)⟩
    · have e1 : a + 1 + c = a + (c + 1) := by omega
      have e2 : b + 1 + c = b + (c + 1) := by omega
      rw [e1, e2]; exact h2
    · have e1 : a + 1 + j = a + (j + 1) := by omega
      have e2 : b + 1 + j = b + (j + 1) := by omega
      rw [e1, e2]; exact h3 (j + 1) (by omega)
/-- n rows, row r at 4 * (o + r), its number at o + r -/
def ar_bag (f : Nat → Int32) (m : Nat → Int64) (w o n : Nat) : MaB := (List.range n).map (fun r => (ar_row f w (4 * (o + r)), m (o + r)))
theorem ar_bag_len (f : Nat → Int32) (m : Nat → Int64) (w o n : Nat) : (ar_bag f m w o n).length = n := by simp [ar_bag]
theorem ar_bag_get {f : Nat → Int32} {m : Nat → Int64} {w o n r : Nat} (h : r < n) : (ar_bag f m w o n)[r]? = some (ar_row f w (4 * (o + r)), m (o + r)) := by
  simp [ar_bag, h]
theorem ar_bag_snoc (f : Nat → Int32) (m : Nat → Int64) (w o n : Nat) : ar_bag f m w o (n + 1) = ar_bag f m w o n ++ [(ar_row f w (4 * (o + n)), m (o + n))] := by
  simp [ar_bag, List.range_succ]
theorem ar_bag_congr {f g : Nat → Int32} {m k : Nat → Int64} {w o p n : Nat} (h1 : ∀ r, r < n → ∀ c, c < w → f (4 * (o + r) + c) = g (4 * (p + r) + c)) (h2 : ∀ r, r < n → m (o + r) = k (p + r)) : ar_bag f m w o n = ar_bag g k w p n := by
  unfold ar_bag
  apply List.map_congr_left
  intro r hr
  have hr := List.mem_range.mp hr
  rw [h2 r hr, ar_row_congr (h1 r hr)]
theorem ar_ext {b : MaB} {f : Nat → Int32} {m : Nat → Int64} {w o n : Nat} (hl : b.length = n) (h : ∀ r, r < n → b[r]? = some (ar_row f w (4 * (o + r)), m (o + r))) : b = ar_bag f m w o n := by
  apply List.ext_getElem?
  intro i
  by_cases hi : i < n
  · rw [h i hi, ar_bag_get hi]
  · rw [List.getElem?_eq_none (by omega), List.getElem?_eq_none (by rw [ar_bag_len]; omega)]
theorem ar_bag_mem {f : Nat → Int32} {m : Nat → Int64} {w o n : Nat} {x : List Int32 × Int64} (h : x ∈ ar_bag f m w o n) : ∃ r, r < n ∧ x = (ar_row f w (4 * (o + r)), m (o + r)) := by
  obtain ⟨r, hr, rfl⟩ := List.mem_map.mp h
  exact ⟨r, List.mem_range.mp hr, rfl⟩
/-! numbers -/
theorem ix_inc (k : Nat) : nI k + Int32.ofInt 1 = nI (k + 1) := (nI_succ k).symm
theorem ix_4a (r c : Nat) : nI r * 4 + nI c = nI (4 * r + c) := by
  show nI r * nI 4 + nI c = _
  rw [pk_mul, nI_add, Nat.mul_comm]
theorem ix_4b (r c : Nat) : 4 * nI r + nI c = nI (4 * r + c) := by
  show nI 4 * nI r + nI c = _
  rw [pk_mul, nI_add]
theorem ix_16 (b r : Nat) : 16 * nI b + nI r = nI (16 * b + r) := by
  show nI 16 * nI b + nI r = _
  rw [pk_mul, nI_add]
theorem ix_64 (b r : Nat) : 64 * nI b + nI r = nI (64 * b + r) := by
  show nI 64 * nI b + nI r = _
  rw [pk_mul, nI_add]
theorem ix_m4 (r : Nat) : nI r * 4 = nI (4 * r) := by
  show nI r * nI 4 = _
  rw [pk_mul, Nat.mul_comm]
end
section
/-! Worlds as partial maps, one judgement for a body, one form of contract. -/
abbrev Ct : Type := (Nat × (Nat → Int32)) ⊕ (Nat × (Nat → Int64)) ⊕ (Nat × (Nat → Option Nat)) ⊕ (Nat × List Value) ⊕ Cell
abbrev Wd : Type := Nat → Option Ct
abbrev cI (n : Nat) (f : Nat → Int32) : Ct := .inl (n, f)
abbrev cJ (n : Nat) (f : Nat → Int64) : Ct := .inr (.inl (n, f))
abbrev cR (n : Nat) (f : Nat → Option Nat) : Ct := .inr (.inr (.inl (n, f)))
abbrev cO (k : Nat) (fs : List Value) : Ct := .inr (.inr (.inr (.inl (k, fs))))
abbrev cX (c : Cell) : Ct := .inr (.inr (.inr (.inr c)))
/-- the launch; the numbers of the tables' classes and slots; the three kinds of arrays -/
abbrev Gl : Type := Launch × va_G × ClassId × ClassId × ClassId
def fw_tys (g : Gl) : List (ClassId × FieldType) := [(g.2.2.1, .int), (g.2.2.2.1, .long), (g.2.2.2.2, .object "DeltaViews$View")]
def fw_at (g : Gl) (a : Nat) (e : Ct) (H : Heap) : Prop := match e with
  | .inl x => H[a]? = some (vp_cell g.2.2.1 (x.1, .inl x.2))
  | .inr (.inl x) => H[a]? = some (vp_cell g.2.2.2.1 (x.1, .inr (.inl x.2)))
  | .inr (.inr (.inl x)) => H[a]? = some (vp_cell g.2.2.2.2 (x.1, .inr (.inr (.inr (.inr x.2)))))
  | .inr (.inr (.inr (.inl o))) => ∃ r : vw_C, vwCl[o.1]? = some r ∧ t_OB a (g.2.1.1 o.1) r.2.2 (g.2.1.2 o.1) H (vp_V o.2)
  | .inr (.inr (.inr (.inr c))) => H[a]? = some c
theorem fw_at.kept {g : Gl} {a : Nat} {e : Ct} {H H1 : Heap} (h : fw_at g a e H) (hq : H1[a]? = H[a]?) : fw_at g a e H1 := by
  match e, h with
  | .inl x, h => exact hq.trans h
  | .inr (.inl x), h => exact hq.trans h
  | .inr (.inr (.inl x)), h => exact hq.trans h
  | .inr (.inr (.inr (.inl o))), h =>
    obtain ⟨r, h1, h2⟩ := h
    exact ⟨r, h1, h2.kept hq⟩
  | .inr (.inr (.inr (.inr c))), h => exact hq.trans h
theorem fw_at.cell {g : Gl} {a : Nat} {e : Ct} {H : Heap} (h : fw_at g a e H) : ∃ c : Cell, H[a]? = some c := by
  match e, h with
  | .inl x, h => exact ⟨_, h⟩
  | .inr (.inl x), h => exact ⟨_, h⟩
  | .inr (.inr (.inl x)), h => exact ⟨_, h⟩
  | .inr (.inr (.inr (.inl o))), h =>
    obtain ⟨r, h1, cell, h2, -⟩ := h
    exact ⟨_, h2⟩
  | .inr (.inr (.inr (.inr c))), h => exact ⟨_, h⟩
theorem fw_at.lt {g : Gl} {a : Nat} {e : Ct} {H : Heap} (h : fw_at g a e H) : a < H.size := by
  obtain ⟨c, hc⟩ := h.cell
  exact (Array.getElem?_eq_some_iff.mp hc).1
def fw_H (g : Gl) (w : Wd) (H : Heap) : Prop := ∀ a e, w a = some e → fw_at g a e H
def fw_up (w : Wd) (a : Nat) (e : Ct) : Wd := fun q => if q = a then some e else w q
theorem fw_up_s (w : Wd) (a : Nat) (e : Ct) : fw_up w a e a = some e := by simp [fw_up]
theorem fw_up_n (w : Wd) {a q : Nat} (e : Ct) (h : q ≠ a) : fw_up w a e q = w q := by simp [fw_up, h]
theorem fw_H.set {g : Gl} {w : Wd} {H H1 : Heap} {a : Nat} {e : Ct} (h : fw_H g w H) (ha : fw_at g a e H1) (hq : ∀ q : Nat, q ≠ a → H1[q]? = H[q]?) : fw_H g (fw_up w a e) H1 := by
  intro q e' he
  by_cases hqa : q = a
  · subst hqa
    rw [fw_up_s] at he
    rw [← Option.some.inj he]
    exact ha
  · rw [fw_up_n _ _ hqa] at he
    exact (h q e' he).kept (hq q hqa)
theorem fw_H.born {g : Gl} {w : Wd} {H H1 : Heap} {e : Ct} (h : fw_H g w H) (ha : fw_at g H.size e H1) (hq : ∀ q : Nat, q < H.size → H1[q]? = H[q]?) : fw_H g (fw_up w H.size e) H1 := by
  intro q e' he
  by_cases hqa : q = H.size
  · subst hqa
    rw [fw_up_s] at he
    rw [← Option.some.inj he]
    exact ha
  · rw [fw_up_n _ _ hqa] at he
    have := h q e' he
    exact this.kept (hq q this.lt)
def fw_raw : Ct → Bool
  | .inr (.inr (.inr (.inr _))) => true
  | _ => false
/-- what a body may write: what its world holds and isn't raw, and what is made later -/
def fw_fr (w : Wd) (sz q : Nat) : Prop := (∃ e, w q = some e ∧ fw_raw e = false) ∨ sz ≤ q
def fw_ext (w : Wd) (sz : Nat) (w' : Wd) (sz' : Nat) : Prop := sz ≤ sz' ∧ ∀ q, fw_fr w' sz' q → fw_fr w sz q
theorem fw_ext.rf {w : Wd} {sz : Nat} : fw_ext w sz w sz := ⟨Nat.le_refl _, fun _ h => h⟩
theorem fw_ext.tr {w w' w2 : Wd} {sz sz' sz2 : Nat} (h : fw_ext w sz w' sz') (k : fw_ext w' sz' w2 sz2) : fw_ext w sz w2 sz2 := ⟨Nat.le_trans h.1 k.1, fun q z => h.2 q (k.2 q z)⟩
theorem fw_ext.up {w : Wd} {sz a : Nat} {e0 e : Ct} (ha : w a = some e0) (hr : fw_raw e0 = false) : fw_ext w sz (fw_up w a e) sz := by
  refine ⟨Nat.le_refl _, fun q h => ?_⟩
  rcases h with ⟨e1, h1, h2⟩ | h
  · by_cases hqa : q = a
    · subst hqa
      exact Or.inl ⟨e0, ha, hr⟩
    · rw [fw_up_n _ _ hqa] at h1
      exact Or.inl ⟨e1, h1, h2⟩
  · exact Or.inr h
theorem fw_ext.new {w : Wd} {sz : Nat} {e : Ct} : fw_ext w sz (fw_up w sz e) (sz + 1) := by
  refine ⟨Nat.le_succ _, fun q h => ?_⟩
  rcases h with ⟨e1, h1, h2⟩ | h
  · by_cases hqa : q = sz
    · subst hqa
      exact Or.inr (Nat.le_refl _)
    · rw [fw_up_n _ _ hqa] at h1
      exact Or.inl ⟨e1, h1, h2⟩
  · exact Or.inr (by omega)
/-! The tables' words, all at once; a method; a body's context. -/
/-- a method: its name, bytes, locals, answer, handlers -/
abbrev Mi : Type := MethodName × ByteArray × Nat × Option FieldType × List (Nat × Nat × Nat × Nat)
def fw_word (M : Mi) : Cond := match M.2.2.2.2 with
  | [] => .code M.1 M.2.1 M.2.2.1 M.2.2.2.1
  | h :: t => .codeWith M.1 M.2.1 M.2.2.1 M.2.2.2.1 (h :: t)
def fw_code (M : Mi) (meth : Method) (c : Code) : Prop := c.code = M.2.1 ∧ c.maxLocals = M.2.2.1 ∧ c.exceptionTable.toList.map (fun h => (h.startPc, h.endPc, h.handlerPc, h.catchType)) = M.2.2.2.2 ∧ meth.sig.returnType = M.2.2.2.1 ∧ meth.locks = false
theorem fw_word_spec {M : Mi} {s : State} {args : Array Value} {m : MethodId} (hn : s.methodNamed? M.1 = some m) (h : (fw_word M).before args s = true) :
    ∃ meth c, s.vm.method? m = some meth ∧ meth.code = some c ∧ fw_code M meth c ∧ parseMethodDescriptor M.1.desc = some meth.sig := by
  obtain ⟨y, b, n, r, hh⟩ := M
  cases hh with
  | nil =>
    obtain ⟨meth, c, h1, h2, h3, h4, h5, h6, h7, h8⟩ := Cond.code_spec hn h
    refine ⟨meth, c, h1, h2, ⟨h3, h4, ?_, h5, h6⟩, h8⟩
    have e : c.exceptionTable = #[] := by simpa using h7
    rw [e]; rfl
  | cons x t =>
    obtain ⟨m9, meth, c, hn9, h1, h2, h3, h4, h5, h6, h7, h8⟩ := Cond.codeWith_spec h
    cases hn.symm.trans hn9
    exact ⟨meth, c, h1, h2, ⟨h3, h4, h5, h6, h7⟩, h8⟩
def fw_T (U : State) : Prop := ∀ c ∈ fw_big, c.before #[] U = true
def fw_K (g : Gl) (U : State) : Prop := va_K g.2.1 vwCl (fw_tys g) U ∧ fw_T U
def fw_rm (d mc ms : Nat) : Room := { frames := d, cells := mc, slots := ms, locals := 39 * d }
/-- how a method ends: with an answer, or with an object thrown, of the kind that a number names -/
abbrev Rs : Type := Option Value ⊕ Nat
def fw_out (r : Rs) (o : Outcome) (sz : Nat) (t : State) : Prop := match r with
  | .inl v => o = .returned v
  | .inr k => ∃ (x : Addr) (cell : Cell), o = .threw x ∧ sz ≤ x ∧ t.heap[x]? = some cell ∧ cell.vm = .none ∧ t.vm.findClass (fw_ex k) = some cell.cls
def fw_Q (g : Gl) (w : Wd) (sz mc ms : Nat) (E : Rs → Wd → Nat → Prop) (st : State) (o : Outcome) (t : State) : Prop :=
  (∃ (r : Rs) (w' : Wd), fw_out r o sz t ∧ fw_H g w' t.heap ∧ fw_ext w sz w' t.heap.size ∧ E r w' t.heap.size) ∧
    ∃ L : List Loc, st.WarmedH t.vm ∧ st.sameButNew ({ t with vm := st.vm } : State) L mc ms ∧ ∀ q ∈ L, fw_fr w sz q.base
/-- the contract of a method at these arguments, from this world, at depth d, with so many cells and slots -/
def CT (g : Gl) (d mc ms : Nat) (M : Mi) (as : List Value) (w : Wd) (sz : Nat) (E : Rs → Wd → Nat → Prop) : Prop :=
  MetFree g.1 M.1 (headSpec [fw_word M] (fw_rm d mc ms)) (fun v U => v = as.toArray ∧ U.heap.size = sz ∧ fw_H g w U.heap ∧ fw_K g U) (fun _ _ _ _ _ => True) (fun _ st o t => fw_Q g w sz mc ms E st o t)
def fw_Cx (g : Gl) (M : Mi) (w0 : Wd) (sz0 : Nat) (p : Program) (s : State) (m : MethodId) (meth : Method) (c : Code) : Prop :=
  p.tables.exec = Jvm.exec ∧ fw_code M meth c ∧ s.methodNamed? M.1 = some m ∧ s.vm.method? m = some meth ∧ fw_K g s ∧ s.heap.size = sz0 ∧ fw_H g w0 s.heap
def fw_E (g : Gl) (w0 : Wd) (sz0 mc ms : Nat) (E : Rs → Wd → Nat → Prop) (below : List Frame) (s t : State) : Prop := ∃ o, t.status = .running ∧ Ended t below o ∧ fw_Q g w0 sz0 mc ms E s o t
/-- a body at pc, with these locals, this stack and this world, comes to an end of E -/
def VV (g : Gl) (d mc ms : Nat) (M : Mi) (w0 : Wd) (sz0 : Nat) (E : Rs → Wd → Nat → Prop) (pc : Nat) (L : List (Nat × Value)) (S : List Value) (w : Wd) (sz nc ns : Nat) : Prop :=
  ∀ (p : Program) (e : Env) (s : State) (m : MethodId) (args : Array Value) (below : List Frame) (meth : Method) (c : Code) (H : Heap) (locs : List Loc) (ls : Array Slot),
    fw_Cx g M w0 sz0 p s m meth c → fw_H g w H → H.size = sz → fw_ext w0 sz0 w sz → (∀ q ∈ locs, fw_fr w0 sz0 q.base) → lv_has ls M.2.2.1 L →
    W p g.1 e (fw_rm d mc ms) s m args below meth c H locs nc ns (fw_E g w0 sz0 mc ms E below s) (F0 m pc ls S)
section FW
variable {g : Gl} {d mc ms : Nat} {M : Mi} {w0 : Wd} {sz0 : Nat} {E : Rs → Wd → Nat → Prop} {pc : Nat} {L : List (Nat × Value)} {S : List Value} {w : Wd} {sz nc ns : Nat}
theorem fw_mono {p : Program} {l : Launch} {e : Env} {R : Room} {s : State} {m : MethodId} {args : Array Value} {below : List Frame} {meth : Method} {c : Code} {H : Heap} {locs : List Loc} {cells slots : Nat} {Q Q' : State → Prop} {f : JFrame} (h : ∀ t, Q t → Q' t)
    (k : W p l e R s m args below meth c H locs cells slots Q f) : W p l e R s m args below meth c H locs cells slots Q' f := by
  intro T hT X
  obtain ⟨t, a, b⟩ := k T hT X
  exact ⟨t, a, h t b⟩
/-- a step that leaves locals and world alone -/
theorem vv_s {pc' : Nat} {S' : List Value}
    (h : ∀ {p : Program} {e : Env} {s : State} {m : MethodId} {args : Array Value} {below : List Frame} {meth : Method} {c : Code} {H : Heap} {locs : List Loc} {ls : Array Slot} {Q : State → Prop}, p.tables.exec = Jvm.exec → c.code = M.2.1 →
      W p g.1 e (fw_rm d mc ms) s m args below meth c H locs nc ns Q (F0 m pc' ls S') → W p g.1 e (fw_rm d mc ms) s m args below meth c H locs nc ns Q (F0 m pc ls S))
    (k : VV g d mc ms M w0 sz0 E pc' L S' w sz nc ns) : VV g d mc ms M w0 sz0 E pc L S w sz nc ns :=
  fun p e s m args below meth c H locs ls hC hH hz hx hl hL => h hC.1 hC.2.1.1 (k p e s m args below meth c H locs ls hC hH hz hx hl hL)
/-- a step that reads locals -/
theorem vv_l {pc' : Nat} {S' : List Value}
    (h : ∀ {p : Program} {e : Env} {s : State} {m : MethodId} {args : Array Value} {below : List Frame} {meth : Method} {c : Code} {H : Heap} {locs : List Loc} {ls : Array Slot} {Q : State → Prop}, lv_has ls M.2.2.1 L → p.tables.exec = Jvm.exec → c.code = M.2.1 →
      W p g.1 e (fw_rm d mc ms) s m args below meth c H locs nc ns Q (F0 m pc' ls S') → W p g.1 e (fw_rm d mc ms) s m args below meth c H locs nc ns Q (F0 m pc ls S))
    (k : VV g d mc ms M w0 sz0 E pc' L S' w sz nc ns) : VV g d mc ms M w0 sz0 E pc L S w sz nc ns :=
  fun p e s m args below meth c H locs ls hC hH hz hx hl hL => h hL hC.1 hC.2.1.1 (k p e s m args below meth c H locs ls hC hH hz hx hl hL)
/-- a step that writes locals -/
theorem vv_t {pc' : Nat} {L' : List (Nat × Value)} {S' : List Value}
    (h : ∀ {p : Program} {e : Env} {s : State} {m : MethodId} {args : Array Value} {below : List Frame} {meth : Method} {c : Code} {H : Heap} {locs : List Loc} {ls : Array Slot} {Q : State → Prop}, lv_has ls M.2.2.1 L → p.tables.exec = Jvm.exec → c.code = M.2.1 →
      (∀ ls', lv_has ls' M.2.2.1 L' → W p g.1 e (fw_rm d mc ms) s m args below meth c H locs nc ns Q (F0 m pc' ls' S')) → W p g.1 e (fw_rm d mc ms) s m args below meth c H locs nc ns Q (F0 m pc ls S))
    (k : VV g d mc ms M w0 sz0 E pc' L' S' w sz nc ns) : VV g d mc ms M w0 sz0 E pc L S w sz nc ns :=
  fun p e s m args below meth c H locs ls hC hH hz hx hl hL => h hL hC.1 hC.2.1.1 (fun ls' hL' => k p e s m args below meth c H locs ls' hC hH hz hx hl hL')
end FW
end
