/-! Links: fields, objects, calls. -/
def fw_lnk (own : String) (idx : Nat) (y : MethodName) : Prop := Cond.methodLink own idx y ∈ fw_big ∨ ∃ host, Cond.methodLinkNest own idx y host ∈ fw_big
def fw_me (M' : Mi) (n : Nat) : Prop := fw_word M' ∈ fw_big ∧ (fw_word M').onTables = true ∧ Cond.initialized M'.1.cls ∈ fw_big ∧ (M'.1.cls ≠ "java/lang/invoke/MethodHandle" ∧ M'.1.cls ≠ "java/lang/invoke/VarHandle") ∧ (parseMethodDescriptor M'.1.desc).map (fun d => d.parameters.length) = some n ∧ M'.2.2.1 ≤ 20
theorem uw_DV : ∀ x ∈ u_ws "DeltaViews" T_DV 3, x ∈ fw_big := by
  intro x hx
  obtain ⟨k, hk, rfl⟩ := List.mem_map.mp hx
  have hk := List.mem_range.mp hk
  match k, hk with
  | 0, _ => exact fw_mem 168 (by decide +kernel) rfl
  | 1, _ => exact fw_mem 170 (by decide +kernel) rfl
  | 2, _ => exact fw_mem 172 (by decide +kernel) rfl
theorem uw_View : ∀ x ∈ u_ws "DeltaViews$View" T_View 4, x ∈ fw_big := by
  intro x hx
  obtain ⟨k, hk, rfl⟩ := List.mem_map.mp hx
  have hk := List.mem_range.mp hk
  match k, hk with
  | 0, _ => exact fw_mem 156 (by decide +kernel) rfl
  | 1, _ => exact fw_mem 158 (by decide +kernel) rfl
  | 2, _ => exact fw_mem 160 (by decide +kernel) rfl
  | 3, _ => exact fw_mem 162 (by decide +kernel) rfl
theorem uw_Bag : ∀ x ∈ u_ws "DeltaViews$Bag" T_Bag 5, x ∈ fw_big := by
  intro x hx
  obtain ⟨k, hk, rfl⟩ := List.mem_map.mp hx
  have hk := List.mem_range.mp hk
  match k, hk with
  | 0, _ => exact fw_mem 132 (by decide +kernel) rfl
  | 1, _ => exact fw_mem 134 (by decide +kernel) rfl
  | 2, _ => exact fw_mem 136 (by decide +kernel) rfl
  | 3, _ => exact fw_mem 138 (by decide +kernel) rfl
  | 4, _ => exact fw_mem 140 (by decide +kernel) rfl
theorem uw_Batch : ∀ x ∈ u_ws "DeltaViews$Batch" T_Batch 5, x ∈ fw_big := by
  intro x hx
  obtain ⟨k, hk, rfl⟩ := List.mem_map.mp hx
  have hk := List.mem_range.mp hk
  match k, hk with
  | 0, _ => exact fw_mem 81 (by decide +kernel) rfl
  | 1, _ => exact fw_mem 83 (by decide +kernel) rfl
  | 2, _ => exact fw_mem 85 (by decide +kernel) rfl
  | 3, _ => exact fw_mem 87 (by decide +kernel) rfl
  | 4, _ => exact fw_mem 89 (by decide +kernel) rfl
theorem uw_Table : ∀ x ∈ u_ws "DeltaViews$Table" T_Table 0, x ∈ fw_big := by
  intro x hx; simp [u_ws] at hx
theorem uw_Select : ∀ x ∈ u_ws "DeltaViews$Select" T_Select 4, x ∈ fw_big := by
  intro x hx
  obtain ⟨k, hk, rfl⟩ := List.mem_map.mp hx
  have hk := List.mem_range.mp hk
  match k, hk with
  | 0, _ => exact fw_mem 526 (by decide +kernel) rfl
  | 1, _ => exact fw_mem 528 (by decide +kernel) rfl
  | 2, _ => exact fw_mem 530 (by decide +kernel) rfl
  | 3, _ => exact fw_mem 532 (by decide +kernel) rfl
theorem uw_Project : ∀ x ∈ u_ws "DeltaViews$Project" T_Project 3, x ∈ fw_big := by
  intro x hx
  obtain ⟨k, hk, rfl⟩ := List.mem_map.mp hx
  have hk := List.mem_range.mp hk
  match k, hk with
  | 0, _ => exact fw_mem 563 (by decide +kernel) rfl
  | 1, _ => exact fw_mem 565 (by decide +kernel) rfl
  | 2, _ => exact fw_mem 567 (by decide +kernel) rfl
theorem uw_Join : ∀ x ∈ u_ws "DeltaViews$Join" T_Join 4, x ∈ fw_big := by
  intro x hx
  obtain ⟨k, hk, rfl⟩ := List.mem_map.mp hx
  have hk := List.mem_range.mp hk
  match k, hk with
  | 0, _ => exact fw_mem 587 (by decide +kernel) rfl
  | 1, _ => exact fw_mem 589 (by decide +kernel) rfl
  | 2, _ => exact fw_mem 591 (by decide +kernel) rfl
  | 3, _ => exact fw_mem 593 (by decide +kernel) rfl
theorem uw_Union : ∀ x ∈ u_ws "DeltaViews$Union" T_Union 2, x ∈ fw_big := by
  intro x hx
  obtain ⟨k, hk, rfl⟩ := List.mem_map.mp hx
  have hk := List.mem_range.mp hk
  match k, hk with
  | 0, _ => exact fw_mem 612 (by decide +kernel) rfl
  | 1, _ => exact fw_mem 614 (by decide +kernel) rfl
theorem uw_Group : ∀ x ∈ u_ws "DeltaViews$Group" T_Group 4, x ∈ fw_big := by
  intro x hx
  obtain ⟨k, hk, rfl⟩ := List.mem_map.mp hx
  have hk := List.mem_range.mp hk
  match k, hk with
  | 0, _ => exact fw_mem 634 (by decide +kernel) rfl
  | 1, _ => exact fw_mem 636 (by decide +kernel) rfl
  | 2, _ => exact fw_mem 638 (by decide +kernel) rfl
  | 3, _ => exact fw_mem 640 (by decide +kernel) rfl
theorem uw_Distinct : ∀ x ∈ u_ws "DeltaViews$Distinct" T_Distinct 1, x ∈ fw_big := by
  intro x hx
  obtain ⟨k, hk, rfl⟩ := List.mem_map.mp hx
  have hk := List.mem_range.mp hk
  match k, hk with
  | 0, _ => exact fw_mem 657 (by decide +kernel) rfl
theorem uw_Mo : ∀ x ∈ u_ws "DeltaViewsModel" T_Mo 22, x ∈ fw_big := by
  intro x hx
  obtain ⟨k, hk, rfl⟩ := List.mem_map.mp hx
  have hk := List.mem_range.mp hk
  match k, hk with
  | 0, _ => exact fw_mem 765 (by decide +kernel) rfl
  | 1, _ => exact fw_mem 767 (by decide +kernel) rfl
  | 2, _ => exact fw_mem 769 (by decide +kernel) rfl
  | 3, _ => exact fw_mem 771 (by decide +kernel) rfl
  | 4, _ => exact fw_mem 773 (by decide +kernel) rfl
  | 5, _ => exact fw_mem 775 (by decide +kernel) rfl
  | 6, _ => exact fw_mem 777 (by decide +kernel) rfl
  | 7, _ => exact fw_mem 779 (by decide +kernel) rfl
  | 8, _ => exact fw_mem 781 (by decide +kernel) rfl
  | 9, _ => exact fw_mem 783 (by decide +kernel) rfl
  | 10, _ => exact fw_mem 785 (by decide +kernel) rfl
  | 11, _ => exact fw_mem 787 (by decide +kernel) rfl
  | 12, _ => exact fw_mem 789 (by decide +kernel) rfl
  | 13, _ => exact fw_mem 791 (by decide +kernel) rfl
  | 14, _ => exact fw_mem 793 (by decide +kernel) rfl
  | 15, _ => exact fw_mem 795 (by decide +kernel) rfl
  | 16, _ => exact fw_mem 797 (by decide +kernel) rfl
  | 17, _ => exact fw_mem 799 (by decide +kernel) rfl
  | 18, _ => exact fw_mem 801 (by decide +kernel) rfl
  | 19, _ => exact fw_mem 803 (by decide +kernel) rfl
  | 20, _ => exact fw_mem 805 (by decide +kernel) rfl
  | 21, _ => exact fw_mem 807 (by decide +kernel) rfl
  | n + 22, h => exact absurd h (by omega)
theorem fl_DV_11 : fw_fl "DeltaViews" 11 0 0 := ⟨"DeltaViews", T_DV, 3, rfl, by decide, uw_DV, Or.inl (fw_mem 165 (by decide +kernel) rfl)⟩
theorem fl_DV_15 : fw_fl "DeltaViews" 15 0 1 := ⟨"DeltaViews", T_DV, 3, rfl, by decide, uw_DV, Or.inl (fw_mem 166 (by decide +kernel) rfl)⟩
theorem fl_DV_22 : fw_fl "DeltaViews" 22 0 2 := ⟨"DeltaViews", T_DV, 3, rfl, by decide, uw_DV, Or.inl (fw_mem 167 (by decide +kernel) rfl)⟩
theorem fl_DV_73 : fw_fl "DeltaViews" 73 1 3 := ⟨"DeltaViews$View", T_View, 4, rfl, by decide, uw_View, Or.inr ⟨"DeltaViews", fw_mem 155 (by decide +kernel) rfl⟩⟩
theorem fl_DV_106 : fw_fl "DeltaViews" 106 1 1 := ⟨"DeltaViews$View", T_View, 4, rfl, by decide, uw_View, Or.inr ⟨"DeltaViews", fw_mem 152 (by decide +kernel) rfl⟩⟩
theorem fl_DV_110 : fw_fl "DeltaViews" 110 2 0 := ⟨"DeltaViews$Bag", T_Bag, 5, rfl, by decide, uw_Bag, Or.inr ⟨"DeltaViews", fw_mem 119 (by decide +kernel) rfl⟩⟩
theorem fl_DV_141 : fw_fl "DeltaViews" 141 2 1 := ⟨"DeltaViews$Bag", T_Bag, 5, rfl, by decide, uw_Bag, Or.inr ⟨"DeltaViews", fw_mem 128 (by decide +kernel) rfl⟩⟩
theorem fl_Bag_9 : fw_fl "DeltaViews$Bag" 9 2 0 := ⟨"DeltaViews$Bag", T_Bag, 5, rfl, by decide, uw_Bag, Or.inl (fw_mem 114 (by decide +kernel) rfl)⟩
theorem fl_Bag_15 : fw_fl "DeltaViews$Bag" 15 2 1 := ⟨"DeltaViews$Bag", T_Bag, 5, rfl, by decide, uw_Bag, Or.inl (fw_mem 120 (by decide +kernel) rfl)⟩
theorem fl_Bag_18 : fw_fl "DeltaViews$Bag" 18 2 2 := ⟨"DeltaViews$Bag", T_Bag, 5, rfl, by decide, uw_Bag, Or.inl (fw_mem 129 (by decide +kernel) rfl)⟩
theorem fl_Bag_22 : fw_fl "DeltaViews$Bag" 22 2 3 := ⟨"DeltaViews$Bag", T_Bag, 5, rfl, by decide, uw_Bag, Or.inl (fw_mem 130 (by decide +kernel) rfl)⟩
theorem fl_Bag_26 : fw_fl "DeltaViews$Bag" 26 2 4 := ⟨"DeltaViews$Bag", T_Bag, 5, rfl, by decide, uw_Bag, Or.inl (fw_mem 131 (by decide +kernel) rfl)⟩
theorem fl_Batch_9 : fw_fl "DeltaViews$Batch" 9 3 0 := ⟨"DeltaViews$Batch", T_Batch, 5, rfl, by decide, uw_Batch, Or.inl (fw_mem 76 (by decide +kernel) rfl)⟩
theorem fl_Batch_15 : fw_fl "DeltaViews$Batch" 15 3 1 := ⟨"DeltaViews$Batch", T_Batch, 5, rfl, by decide, uw_Batch, Or.inl (fw_mem 77 (by decide +kernel) rfl)⟩
theorem fl_Batch_18 : fw_fl "DeltaViews$Batch" 18 3 2 := ⟨"DeltaViews$Batch", T_Batch, 5, rfl, by decide, uw_Batch, Or.inl (fw_mem 78 (by decide +kernel) rfl)⟩
theorem fl_Batch_21 : fw_fl "DeltaViews$Batch" 21 3 3 := ⟨"DeltaViews$Batch", T_Batch, 5, rfl, by decide, uw_Batch, Or.inl (fw_mem 79 (by decide +kernel) rfl)⟩
theorem fl_Batch_24 : fw_fl "DeltaViews$Batch" 24 3 4 := ⟨"DeltaViews$Batch", T_Batch, 5, rfl, by decide, uw_Batch, Or.inl (fw_mem 80 (by decide +kernel) rfl)⟩
theorem fl_Distinct_7 : fw_fl "DeltaViews$Distinct" 7 10 0 := ⟨"DeltaViews$Distinct", T_Distinct, 1, rfl, by decide, uw_Distinct, Or.inl (fw_mem 656 (by decide +kernel) rfl)⟩
theorem fl_Distinct_13 : fw_fl "DeltaViews$Distinct" 13 1 1 := ⟨"DeltaViews$View", T_View, 4, rfl, by decide, uw_View, Or.inr ⟨"DeltaViews", fw_mem 146 (by decide +kernel) rfl⟩⟩
theorem fl_Distinct_19 : fw_fl "DeltaViews$Distinct" 19 2 0 := ⟨"DeltaViews$Bag", T_Bag, 5, rfl, by decide, uw_Bag, Or.inr ⟨"DeltaViews", fw_mem 117 (by decide +kernel) rfl⟩⟩
theorem fl_Distinct_29 : fw_fl "DeltaViews$Distinct" 29 2 1 := ⟨"DeltaViews$Bag", T_Bag, 5, rfl, by decide, uw_Bag, Or.inr ⟨"DeltaViews", fw_mem 122 (by decide +kernel) rfl⟩⟩
theorem fl_Group_9 : fw_fl "DeltaViews$Group" 9 9 0 := ⟨"DeltaViews$Group", T_Group, 4, rfl, by decide, uw_Group, Or.inl (fw_mem 630 (by decide +kernel) rfl)⟩
theorem fl_Group_15 : fw_fl "DeltaViews$Group" 15 9 1 := ⟨"DeltaViews$Group", T_Group, 4, rfl, by decide, uw_Group, Or.inl (fw_mem 631 (by decide +kernel) rfl)⟩
theorem fl_Group_19 : fw_fl "DeltaViews$Group" 19 9 2 := ⟨"DeltaViews$Group", T_Group, 4, rfl, by decide, uw_Group, Or.inl (fw_mem 632 (by decide +kernel) rfl)⟩
theorem fl_Group_22 : fw_fl "DeltaViews$Group" 22 9 3 := ⟨"DeltaViews$Group", T_Group, 4, rfl, by decide, uw_Group, Or.inl (fw_mem 633 (by decide +kernel) rfl)⟩
theorem fl_Group_25 : fw_fl "DeltaViews$Group" 25 1 1 := ⟨"DeltaViews$View", T_View, 4, rfl, by decide, uw_View, Or.inr ⟨"DeltaViews", fw_mem 147 (by decide +kernel) rfl⟩⟩
theorem fl_Group_37 : fw_fl "DeltaViews$Group" 37 2 1 := ⟨"DeltaViews$Bag", T_Bag, 5, rfl, by decide, uw_Bag, Or.inr ⟨"DeltaViews", fw_mem 121 (by decide +kernel) rfl⟩⟩
theorem fl_Join_7 : fw_fl "DeltaViews$Join" 7 7 0 := ⟨"DeltaViews$Join", T_Join, 4, rfl, by decide, uw_Join, Or.inl (fw_mem 583 (by decide +kernel) rfl)⟩
theorem fl_Join_13 : fw_fl "DeltaViews$Join" 13 7 1 := ⟨"DeltaViews$Join", T_Join, 4, rfl, by decide, uw_Join, Or.inl (fw_mem 584 (by decide +kernel) rfl)⟩
theorem fl_Join_16 : fw_fl "DeltaViews$Join" 16 7 2 := ⟨"DeltaViews$Join", T_Join, 4, rfl, by decide, uw_Join, Or.inl (fw_mem 585 (by decide +kernel) rfl)⟩
theorem fl_Join_20 : fw_fl "DeltaViews$Join" 20 7 3 := ⟨"DeltaViews$Join", T_Join, 4, rfl, by decide, uw_Join, Or.inl (fw_mem 586 (by decide +kernel) rfl)⟩
theorem fl_Join_23 : fw_fl "DeltaViews$Join" 23 1 1 := ⟨"DeltaViews$View", T_View, 4, rfl, by decide, uw_View, Or.inr ⟨"DeltaViews", fw_mem 150 (by decide +kernel) rfl⟩⟩
theorem fl_Join_29 : fw_fl "DeltaViews$Join" 29 2 0 := ⟨"DeltaViews$Bag", T_Bag, 5, rfl, by decide, uw_Bag, Or.inr ⟨"DeltaViews", fw_mem 115 (by decide +kernel) rfl⟩⟩
theorem fl_Join_38 : fw_fl "DeltaViews$Join" 38 2 1 := ⟨"DeltaViews$Bag", T_Bag, 5, rfl, by decide, uw_Bag, Or.inr ⟨"DeltaViews", fw_mem 125 (by decide +kernel) rfl⟩⟩
theorem fl_Oper_9 : fw_fl "DeltaViews$Operation" 9 2 1 := ⟨"DeltaViews$Bag", T_Bag, 5, rfl, by decide, uw_Bag, Or.inr ⟨"DeltaViews", fw_mem 126 (by decide +kernel) rfl⟩⟩
theorem fl_Project_7 : fw_fl "DeltaViews$Project" 7 6 0 := ⟨"DeltaViews$Project", T_Project, 3, rfl, by decide, uw_Project, Or.inl (fw_mem 560 (by decide +kernel) rfl)⟩
theorem fl_Project_13 : fw_fl "DeltaViews$Project" 13 6 1 := ⟨"DeltaViews$Project", T_Project, 3, rfl, by decide, uw_Project, Or.inl (fw_mem 561 (by decide +kernel) rfl)⟩
theorem fl_Project_17 : fw_fl "DeltaViews$Project" 17 6 2 := ⟨"DeltaViews$Project", T_Project, 3, rfl, by decide, uw_Project, Or.inl (fw_mem 562 (by decide +kernel) rfl)⟩
theorem fl_Project_20 : fw_fl "DeltaViews$Project" 20 1 1 := ⟨"DeltaViews$View", T_View, 4, rfl, by decide, uw_View, Or.inr ⟨"DeltaViews", fw_mem 148 (by decide +kernel) rfl⟩⟩
theorem fl_Project_32 : fw_fl "DeltaViews$Project" 32 2 1 := ⟨"DeltaViews$Bag", T_Bag, 5, rfl, by decide, uw_Bag, Or.inr ⟨"DeltaViews", fw_mem 123 (by decide +kernel) rfl⟩⟩
theorem fl_Select_9 : fw_fl "DeltaViews$Select" 9 5 0 := ⟨"DeltaViews$Select", T_Select, 4, rfl, by decide, uw_Select, Or.inl (fw_mem 522 (by decide +kernel) rfl)⟩
theorem fl_Select_15 : fw_fl "DeltaViews$Select" 15 5 1 := ⟨"DeltaViews$Select", T_Select, 4, rfl, by decide, uw_Select, Or.inl (fw_mem 523 (by decide +kernel) rfl)⟩
theorem fl_Select_19 : fw_fl "DeltaViews$Select" 19 5 2 := ⟨"DeltaViews$Select", T_Select, 4, rfl, by decide, uw_Select, Or.inl (fw_mem 524 (by decide +kernel) rfl)⟩
theorem fl_Select_22 : fw_fl "DeltaViews$Select" 22 5 3 := ⟨"DeltaViews$Select", T_Select, 4, rfl, by decide, uw_Select, Or.inl (fw_mem 525 (by decide +kernel) rfl)⟩
theorem fl_Select_25 : fw_fl "DeltaViews$Select" 25 1 1 := ⟨"DeltaViews$View", T_View, 4, rfl, by decide, uw_View, Or.inr ⟨"DeltaViews", fw_mem 149 (by decide +kernel) rfl⟩⟩
theorem fl_Select_31 : fw_fl "DeltaViews$Select" 31 2 0 := ⟨"DeltaViews$Bag", T_Bag, 5, rfl, by decide, uw_Bag, Or.inr ⟨"DeltaViews", fw_mem 118 (by decide +kernel) rfl⟩⟩
theorem fl_Select_40 : fw_fl "DeltaViews$Select" 40 2 1 := ⟨"DeltaViews$Bag", T_Bag, 5, rfl, by decide, uw_Bag, Or.inr ⟨"DeltaViews", fw_mem 124 (by decide +kernel) rfl⟩⟩
theorem fl_Table_15 : fw_fl "DeltaViews$Table" 15 2 1 := ⟨"DeltaViews$Bag", T_Bag, 5, rfl, by decide, uw_Bag, Or.inr ⟨"DeltaViews", fw_mem 127 (by decide +kernel) rfl⟩⟩
theorem fl_Union_7 : fw_fl "DeltaViews$Union" 7 8 0 := ⟨"DeltaViews$Union", T_Union, 2, rfl, by decide, uw_Union, Or.inl (fw_mem 610 (by decide +kernel) rfl)⟩
theorem fl_Union_13 : fw_fl "DeltaViews$Union" 13 8 1 := ⟨"DeltaViews$Union", T_Union, 2, rfl, by decide, uw_Union, Or.inl (fw_mem 611 (by decide +kernel) rfl)⟩
theorem fl_Union_16 : fw_fl "DeltaViews$Union" 16 1 1 := ⟨"DeltaViews$View", T_View, 4, rfl, by decide, uw_View, Or.inr ⟨"DeltaViews", fw_mem 151 (by decide +kernel) rfl⟩⟩
theorem fl_Union_22 : fw_fl "DeltaViews$Union" 22 2 0 := ⟨"DeltaViews$Bag", T_Bag, 5, rfl, by decide, uw_Bag, Or.inr ⟨"DeltaViews", fw_mem 116 (by decide +kernel) rfl⟩⟩
theorem fl_View_10 : fw_fl "DeltaViews$View" 10 1 1 := ⟨"DeltaViews$View", T_View, 4, rfl, by decide, uw_View, Or.inl (fw_mem 145 (by decide +kernel) rfl)⟩
theorem fl_View_16 : fw_fl "DeltaViews$View" 16 1 2 := ⟨"DeltaViews$View", T_View, 4, rfl, by decide, uw_View, Or.inl (fw_mem 153 (by decide +kernel) rfl)⟩
theorem fl_View_19 : fw_fl "DeltaViews$View" 19 1 3 := ⟨"DeltaViews$View", T_View, 4, rfl, by decide, uw_View, Or.inl (fw_mem 154 (by decide +kernel) rfl)⟩
theorem fl_View_23 : fw_fl "DeltaViews$View" 23 1 0 := ⟨"DeltaViews$View", T_View, 4, rfl, by decide, uw_View, Or.inl (fw_mem 144 (by decide +kernel) rfl)⟩
theorem fl_Mo_7 : fw_fl "DeltaViewsModel" 7 11 1 := ⟨"DeltaViewsModel", T_Mo, 22, rfl, by decide, uw_Mo, Or.inl (fw_mem 744 (by decide +kernel) rfl)⟩
theorem fl_Mo_13 : fw_fl "DeltaViewsModel" 13 11 2 := ⟨"DeltaViewsModel", T_Mo, 22, rfl, by decide, uw_Mo, Or.inl (fw_mem 745 (by decide +kernel) rfl)⟩
theorem fl_Mo_17 : fw_fl "DeltaViewsModel" 17 11 3 := ⟨"DeltaViewsModel", T_Mo, 22, rfl, by decide, uw_Mo, Or.inl (fw_mem 746 (by decide +kernel) rfl)⟩
theorem fl_Mo_20 : fw_fl "DeltaViewsModel" 20 11 4 := ⟨"DeltaViewsModel", T_Mo, 22, rfl, by decide, uw_Mo, Or.inl (fw_mem 747 (by decide +kernel) rfl)⟩
theorem fl_Mo_23 : fw_fl "DeltaViewsModel" 23 11 5 := ⟨"DeltaViewsModel", T_Mo, 22, rfl, by decide, uw_Mo, Or.inl (fw_mem 748 (by decide +kernel) rfl)⟩
theorem fl_Mo_26 : fw_fl "DeltaViewsModel" 26 11 6 := ⟨"DeltaViewsModel", T_Mo, 22, rfl, by decide, uw_Mo, Or.inl (fw_mem 749 (by decide +kernel) rfl)⟩
theorem fl_Mo_29 : fw_fl "DeltaViewsModel" 29 11 7 := ⟨"DeltaViewsModel", T_Mo, 22, rfl, by decide, uw_Mo, Or.inl (fw_mem 750 (by decide +kernel) rfl)⟩
theorem fl_Mo_32 : fw_fl "DeltaViewsModel" 32 11 8 := ⟨"DeltaViewsModel", T_Mo, 22, rfl, by decide, uw_Mo, Or.inl (fw_mem 751 (by decide +kernel) rfl)⟩
theorem fl_Mo_35 : fw_fl "DeltaViewsModel" 35 11 9 := ⟨"DeltaViewsModel", T_Mo, 22, rfl, by decide, uw_Mo, Or.inl (fw_mem 752 (by decide +kernel) rfl)⟩
theorem fl_Mo_38 : fw_fl "DeltaViewsModel" 38 11 10 := ⟨"DeltaViewsModel", T_Mo, 22, rfl, by decide, uw_Mo, Or.inl (fw_mem 753 (by decide +kernel) rfl)⟩
theorem fl_Mo_41 : fw_fl "DeltaViewsModel" 41 11 11 := ⟨"DeltaViewsModel", T_Mo, 22, rfl, by decide, uw_Mo, Or.inl (fw_mem 754 (by decide +kernel) rfl)⟩
theorem fl_Mo_45 : fw_fl "DeltaViewsModel" 45 11 12 := ⟨"DeltaViewsModel", T_Mo, 22, rfl, by decide, uw_Mo, Or.inl (fw_mem 755 (by decide +kernel) rfl)⟩
theorem fl_Mo_48 : fw_fl "DeltaViewsModel" 48 11 14 := ⟨"DeltaViewsModel", T_Mo, 22, rfl, by decide, uw_Mo, Or.inl (fw_mem 757 (by decide +kernel) rfl)⟩
theorem fl_Mo_51 : fw_fl "DeltaViewsModel" 51 11 15 := ⟨"DeltaViewsModel", T_Mo, 22, rfl, by decide, uw_Mo, Or.inl (fw_mem 758 (by decide +kernel) rfl)⟩
theorem fl_Mo_54 : fw_fl "DeltaViewsModel" 54 11 16 := ⟨"DeltaViewsModel", T_Mo, 22, rfl, by decide, uw_Mo, Or.inl (fw_mem 759 (by decide +kernel) rfl)⟩
theorem fl_Mo_57 : fw_fl "DeltaViewsModel" 57 11 18 := ⟨"DeltaViewsModel", T_Mo, 22, rfl, by decide, uw_Mo, Or.inl (fw_mem 761 (by decide +kernel) rfl)⟩
theorem fl_Mo_60 : fw_fl "DeltaViewsModel" 60 11 19 := ⟨"DeltaViewsModel", T_Mo, 22, rfl, by decide, uw_Mo, Or.inl (fw_mem 762 (by decide +kernel) rfl)⟩
theorem fl_Mo_63 : fw_fl "DeltaViewsModel" 63 11 20 := ⟨"DeltaViewsModel", T_Mo, 22, rfl, by decide, uw_Mo, Or.inl (fw_mem 763 (by decide +kernel) rfl)⟩
theorem fl_Mo_66 : fw_fl "DeltaViewsModel" 66 11 21 := ⟨"DeltaViewsModel", T_Mo, 22, rfl, by decide, uw_Mo, Or.inl (fw_mem 764 (by decide +kernel) rfl)⟩
theorem fl_Mo_69 : fw_fl "DeltaViewsModel" 69 11 0 := ⟨"DeltaViewsModel", T_Mo, 22, rfl, by decide, uw_Mo, Or.inl (fw_mem 743 (by decide +kernel) rfl)⟩
theorem fl_Mo_72 : fw_fl "DeltaViewsModel" 72 11 13 := ⟨"DeltaViewsModel", T_Mo, 22, rfl, by decide, uw_Mo, Or.inl (fw_mem 756 (by decide +kernel) rfl)⟩
theorem fl_Mo_121 : fw_fl "DeltaViewsModel" 121 11 17 := ⟨"DeltaViewsModel", T_Mo, 22, rfl, by decide, uw_Mo, Or.inl (fw_mem 760 (by decide +kernel) rfl)⟩
theorem ok_DV_0 (a : Nat) : fw_ok 0 0 (.ref a) := ⟨"DeltaViews", T_DV, 3, rfl, by decide +kernel, by decide +kernel, ty_DV 0, by decide +kernel, rfl, rfl⟩
theorem ok_DV_1 (v : Int32) : fw_ok 0 1 (.int v) := ⟨"DeltaViews", T_DV, 3, rfl, by decide +kernel, by decide +kernel, ty_DV 1, by decide +kernel, rfl, rfl⟩
theorem ok_DV_2 (a : Nat) : fw_ok 0 2 (.ref a) := ⟨"DeltaViews", T_DV, 3, rfl, by decide +kernel, by decide +kernel, ty_DV 2, by decide +kernel, rfl, rfl⟩
theorem ok_View_0 (a : Nat) : fw_ok 1 0 (.ref a) := ⟨"DeltaViews$View", T_View, 4, rfl, by decide +kernel, by decide +kernel, ty_View 0, by decide +kernel, rfl, rfl⟩
theorem ok_View_1 (a : Nat) : fw_ok 1 1 (.ref a) := ⟨"DeltaViews$View", T_View, 4, rfl, by decide +kernel, by decide +kernel, ty_View 1, by decide +kernel, rfl, rfl⟩
theorem ok_View_2 (a : Nat) : fw_ok 1 2 (.ref a) := ⟨"DeltaViews$View", T_View, 4, rfl, by decide +kernel, by decide +kernel, ty_View 2, by decide +kernel, rfl, rfl⟩
theorem ok_View_3 (v : Int32) : fw_ok 1 3 (.int v) := ⟨"DeltaViews$View", T_View, 4, rfl, by decide +kernel, by decide +kernel, ty_View 3, by decide +kernel, rfl, rfl⟩
theorem ok_Bag_0 (v : Int32) : fw_ok 2 0 (.int v) := ⟨"DeltaViews$Bag", T_Bag, 5, rfl, by decide +kernel, by decide +kernel, ty_Bag 0, by decide +kernel, rfl, rfl⟩
theorem ok_Bag_1 (v : Int32) : fw_ok 2 1 (.int v) := ⟨"DeltaViews$Bag", T_Bag, 5, rfl, by decide +kernel, by decide +kernel, ty_Bag 1, by decide +kernel, rfl, rfl⟩
theorem ok_Bag_2 (a : Nat) : fw_ok 2 2 (.ref a) := ⟨"DeltaViews$Bag", T_Bag, 5, rfl, by decide +kernel, by decide +kernel, ty_Bag 2, by decide +kernel, rfl, rfl⟩
theorem ok_Bag_3 (a : Nat) : fw_ok 2 3 (.ref a) := ⟨"DeltaViews$Bag", T_Bag, 5, rfl, by decide +kernel, by decide +kernel, ty_Bag 3, by decide +kernel, rfl, rfl⟩
theorem ok_Bag_4 (a : Nat) : fw_ok 2 4 (.ref a) := ⟨"DeltaViews$Bag", T_Bag, 5, rfl, by decide +kernel, by decide +kernel, ty_Bag 4, by decide +kernel, rfl, rfl⟩
theorem ok_Batch_0 (a : Nat) : fw_ok 3 0 (.ref a) := ⟨"DeltaViews$Batch", T_Batch, 5, rfl, by decide +kernel, by decide +kernel, ty_Batch 0, by decide +kernel, rfl, rfl⟩
theorem ok_Batch_1 (a : Nat) : fw_ok 3 1 (.ref a) := ⟨"DeltaViews$Batch", T_Batch, 5, rfl, by decide +kernel, by decide +kernel, ty_Batch 1, by decide +kernel, rfl, rfl⟩
theorem ok_Batch_2 (a : Nat) : fw_ok 3 2 (.ref a) := ⟨"DeltaViews$Batch", T_Batch, 5, rfl, by decide +kernel, by decide +kernel, ty_Batch 2, by decide +kernel, rfl, rfl⟩
theorem ok_Batch_3 (a : Nat) : fw_ok 3 3 (.ref a) := ⟨"DeltaViews$Batch", T_Batch, 5, rfl, by decide +kernel, by decide +kernel, ty_Batch 3, by decide +kernel, rfl, rfl⟩
theorem ok_Batch_4 (v : Int32) : fw_ok 3 4 (.int v) := ⟨"DeltaViews$Batch", T_Batch, 5, rfl, by decide +kernel, by decide +kernel, ty_Batch 4, by decide +kernel, rfl, rfl⟩
theorem ok_Select_0 (a : Nat) : fw_ok 5 0 (.ref a) := ⟨"DeltaViews$Select", T_Select, 4, rfl, by decide +kernel, by decide +kernel, ty_Select 0, by decide +kernel, rfl, rfl⟩
theorem ok_Select_1 (v : Int32) : fw_ok 5 1 (.int v) := ⟨"DeltaViews$Select", T_Select, 4, rfl, by decide +kernel, by decide +kernel, ty_Select 1, by decide +kernel, rfl, rfl⟩
theorem ok_Select_2 (v : Int32) : fw_ok 5 2 (.int v) := ⟨"DeltaViews$Select", T_Select, 4, rfl, by decide +kernel, by decide +kernel, ty_Select 2, by decide +kernel, rfl, rfl⟩
theorem ok_Select_3 (v : Int32) : fw_ok 5 3 (.int v) := ⟨"DeltaViews$Select", T_Select, 4, rfl, by decide +kernel, by decide +kernel, ty_Select 3, by decide +kernel, rfl, rfl⟩
theorem ok_Project_0 (a : Nat) : fw_ok 6 0 (.ref a) := ⟨"DeltaViews$Project", T_Project, 3, rfl, by decide +kernel, by decide +kernel, ty_Project 0, by decide +kernel, rfl, rfl⟩
theorem ok_Project_1 (v : Int32) : fw_ok 6 1 (.int v) := ⟨"DeltaViews$Project", T_Project, 3, rfl, by decide +kernel, by decide +kernel, ty_Project 1, by decide +kernel, rfl, rfl⟩
theorem ok_Project_2 (v : Int32) : fw_ok 6 2 (.int v) := ⟨"DeltaViews$Project", T_Project, 3, rfl, by decide +kernel, by decide +kernel, ty_Project 2, by decide +kernel, rfl, rfl⟩
theorem ok_Join_0 (a : Nat) : fw_ok 7 0 (.ref a) := ⟨"DeltaViews$Join", T_Join, 4, rfl, by decide +kernel, by decide +kernel, ty_Join 0, by decide +kernel, rfl, rfl⟩
theorem ok_Join_1 (a : Nat) : fw_ok 7 1 (.ref a) := ⟨"DeltaViews$Join", T_Join, 4, rfl, by decide +kernel, by decide +kernel, ty_Join 1, by decide +kernel, rfl, rfl⟩
theorem ok_Join_2 (v : Int32) : fw_ok 7 2 (.int v) := ⟨"DeltaViews$Join", T_Join, 4, rfl, by decide +kernel, by decide +kernel, ty_Join 2, by decide +kernel, rfl, rfl⟩
theorem ok_Join_3 (v : Int32) : fw_ok 7 3 (.int v) := ⟨"DeltaViews$Join", T_Join, 4, rfl, by decide +kernel, by decide +kernel, ty_Join 3, by decide +kernel, rfl, rfl⟩
theorem ok_Union_0 (a : Nat) : fw_ok 8 0 (.ref a) := ⟨"DeltaViews$Union", T_Union, 2, rfl, by decide +kernel, by decide +kernel, ty_Union 0, by decide +kernel, rfl, rfl⟩
theorem ok_Union_1 (a : Nat) : fw_ok 8 1 (.ref a) := ⟨"DeltaViews$Union", T_Union, 2, rfl, by decide +kernel, by decide +kernel, ty_Union 1, by decide +kernel, rfl, rfl⟩
theorem ok_Group_0 (a : Nat) : fw_ok 9 0 (.ref a) := ⟨"DeltaViews$Group", T_Group, 4, rfl, by decide +kernel, by decide +kernel, ty_Group 0, by decide +kernel, rfl, rfl⟩
theorem ok_Group_1 (v : Int32) : fw_ok 9 1 (.int v) := ⟨"DeltaViews$Group", T_Group, 4, rfl, by decide +kernel, by decide +kernel, ty_Group 1, by decide +kernel, rfl, rfl⟩
theorem ok_Group_2 (v : Int32) : fw_ok 9 2 (.int v) := ⟨"DeltaViews$Group", T_Group, 4, rfl, by decide +kernel, by decide +kernel, ty_Group 2, by decide +kernel, rfl, rfl⟩
theorem ok_Group_3 (v : Int32) : fw_ok 9 3 (.int v) := ⟨"DeltaViews$Group", T_Group, 4, rfl, by decide +kernel, by decide +kernel, ty_Group 3, by decide +kernel, rfl, rfl⟩
theorem ok_Distinct_0 (a : Nat) : fw_ok 10 0 (.ref a) := ⟨"DeltaViews$Distinct", T_Distinct, 1, rfl, by decide +kernel, by decide +kernel, ty_Distinct 0, by decide +kernel, rfl, rfl⟩
theorem ok_Mo_0 (v : Int32) : fw_ok 11 0 (.int v) := ⟨"DeltaViewsModel", T_Mo, 22, rfl, by decide +kernel, by decide +kernel, ty_Mo 0, by decide +kernel, rfl, rfl⟩
theorem ok_Mo_1 (v : Int32) : fw_ok 11 1 (.int v) := ⟨"DeltaViewsModel", T_Mo, 22, rfl, by decide +kernel, by decide +kernel, ty_Mo 1, by decide +kernel, rfl, rfl⟩
theorem ok_Mo_2 (a : Nat) : fw_ok 11 2 (.ref a) := ⟨"DeltaViewsModel", T_Mo, 22, rfl, by decide +kernel, by decide +kernel, ty_Mo 2, by decide +kernel, rfl, rfl⟩
theorem ok_Mo_3 (a : Nat) : fw_ok 11 3 (.ref a) := ⟨"DeltaViewsModel", T_Mo, 22, rfl, by decide +kernel, by decide +kernel, ty_Mo 3, by decide +kernel, rfl, rfl⟩
theorem ok_Mo_4 (a : Nat) : fw_ok 11 4 (.ref a) := ⟨"DeltaViewsModel", T_Mo, 22, rfl, by decide +kernel, by decide +kernel, ty_Mo 4, by decide +kernel, rfl, rfl⟩
theorem ok_Mo_5 (a : Nat) : fw_ok 11 5 (.ref a) := ⟨"DeltaViewsModel", T_Mo, 22, rfl, by decide +kernel, by decide +kernel, ty_Mo 5, by decide +kernel, rfl, rfl⟩
theorem ok_Mo_6 (a : Nat) : fw_ok 11 6 (.ref a) := ⟨"DeltaViewsModel", T_Mo, 22, rfl, by decide +kernel, by decide +kernel, ty_Mo 6, by decide +kernel, rfl, rfl⟩
theorem ok_Mo_7 (a : Nat) : fw_ok 11 7 (.ref a) := ⟨"DeltaViewsModel", T_Mo, 22, rfl, by decide +kernel, by decide +kernel, ty_Mo 7, by decide +kernel, rfl, rfl⟩
theorem ok_Mo_8 (a : Nat) : fw_ok 11 8 (.ref a) := ⟨"DeltaViewsModel", T_Mo, 22, rfl, by decide +kernel, by decide +kernel, ty_Mo 8, by decide +kernel, rfl, rfl⟩
theorem ok_Mo_9 (a : Nat) : fw_ok 11 9 (.ref a) := ⟨"DeltaViewsModel", T_Mo, 22, rfl, by decide +kernel, by decide +kernel, ty_Mo 9, by decide +kernel, rfl, rfl⟩
theorem ok_Mo_10 (a : Nat) : fw_ok 11 10 (.ref a) := ⟨"DeltaViewsModel", T_Mo, 22, rfl, by decide +kernel, by decide +kernel, ty_Mo 10, by decide +kernel, rfl, rfl⟩
theorem ok_Mo_11 (a : Nat) : fw_ok 11 11 (.ref a) := ⟨"DeltaViewsModel", T_Mo, 22, rfl, by decide +kernel, by decide +kernel, ty_Mo 11, by decide +kernel, rfl, rfl⟩
theorem ok_Mo_12 (a : Nat) : fw_ok 11 12 (.ref a) := ⟨"DeltaViewsModel", T_Mo, 22, rfl, by decide +kernel, by decide +kernel, ty_Mo 12, by decide +kernel, rfl, rfl⟩
theorem ok_Mo_13 (v : Int32) : fw_ok 11 13 (.int v) := ⟨"DeltaViewsModel", T_Mo, 22, rfl, by decide +kernel, by decide +kernel, ty_Mo 13, by decide +kernel, rfl, rfl⟩
theorem ok_Mo_14 (a : Nat) : fw_ok 11 14 (.ref a) := ⟨"DeltaViewsModel", T_Mo, 22, rfl, by decide +kernel, by decide +kernel, ty_Mo 14, by decide +kernel, rfl, rfl⟩
theorem ok_Mo_15 (a : Nat) : fw_ok 11 15 (.ref a) := ⟨"DeltaViewsModel", T_Mo, 22, rfl, by decide +kernel, by decide +kernel, ty_Mo 15, by decide +kernel, rfl, rfl⟩
theorem ok_Mo_16 (a : Nat) : fw_ok 11 16 (.ref a) := ⟨"DeltaViewsModel", T_Mo, 22, rfl, by decide +kernel, by decide +kernel, ty_Mo 16, by decide +kernel, rfl, rfl⟩
theorem ok_Mo_17 (v : Int32) : fw_ok 11 17 (.int v) := ⟨"DeltaViewsModel", T_Mo, 22, rfl, by decide +kernel, by decide +kernel, ty_Mo 17, by decide +kernel, rfl, rfl⟩
theorem ok_Mo_18 (a : Nat) : fw_ok 11 18 (.ref a) := ⟨"DeltaViewsModel", T_Mo, 22, rfl, by decide +kernel, by decide +kernel, ty_Mo 18, by decide +kernel, rfl, rfl⟩
theorem ok_Mo_19 (a : Nat) : fw_ok 11 19 (.ref a) := ⟨"DeltaViewsModel", T_Mo, 22, rfl, by decide +kernel, by decide +kernel, ty_Mo 19, by decide +kernel, rfl, rfl⟩
theorem ok_Mo_20 (a : Nat) : fw_ok 11 20 (.ref a) := ⟨"DeltaViewsModel", T_Mo, 22, rfl, by decide +kernel, by decide +kernel, ty_Mo 20, by decide +kernel, rfl, rfl⟩
theorem ok_Mo_21 (a : Nat) : fw_ok 11 21 (.ref a) := ⟨"DeltaViewsModel", T_Mo, 22, rfl, by decide +kernel, by decide +kernel, ty_Mo 21, by decide +kernel, rfl, rfl⟩
theorem fi_DV_11 : ∀ C T N, vwCl[0]? = some (C, T, N) → (T 0).2.2.2 = false ∨ (("<init>" : String) = "<init>" ∧ (T 0).1 = "DeltaViews" ∧ Cond.fieldLink "DeltaViews" 11 (T 0).1 (T 0).2.1 (T 0).2.2.1 ∈ fw_big) := fun _ _ _ h => by cases h; exact Or.inr ⟨rfl, rfl, fw_mem 165 (by decide +kernel) rfl⟩
theorem fi_DV_15 (nm : String) : ∀ C T N, vwCl[0]? = some (C, T, N) → (T 1).2.2.2 = false ∨ (nm = "<init>" ∧ (T 1).1 = "DeltaViews" ∧ Cond.fieldLink "DeltaViews" 15 (T 1).1 (T 1).2.1 (T 1).2.2.1 ∈ fw_big) := fun _ _ _ h => by cases h; exact Or.inl rfl
theorem fi_DV_22 : ∀ C T N, vwCl[0]? = some (C, T, N) → (T 2).2.2.2 = false ∨ (("<init>" : String) = "<init>" ∧ (T 2).1 = "DeltaViews" ∧ Cond.fieldLink "DeltaViews" 22 (T 2).1 (T 2).2.1 (T 2).2.2.1 ∈ fw_big) := fun _ _ _ h => by cases h; exact Or.inr ⟨rfl, rfl, fw_mem 167 (by decide +kernel) rfl⟩
theorem fi_Bag_9 (nm : String) : ∀ C T N, vwCl[2]? = some (C, T, N) → (T 0).2.2.2 = false ∨ (nm = "<init>" ∧ (T 0).1 = "DeltaViews$Bag" ∧ Cond.fieldLink "DeltaViews$Bag" 9 (T 0).1 (T 0).2.1 (T 0).2.2.1 ∈ fw_big) := fun _ _ _ h => by cases h; exact Or.inl rfl
theorem fi_Bag_15 (nm : String) : ∀ C T N, vwCl[2]? = some (C, T, N) → (T 1).2.2.2 = false ∨ (nm = "<init>" ∧ (T 1).1 = "DeltaViews$Bag" ∧ Cond.fieldLink "DeltaViews$Bag" 15 (T 1).1 (T 1).2.1 (T 1).2.2.1 ∈ fw_big) := fun _ _ _ h => by cases h; exact Or.inl rfl
theorem fi_Bag_18 : ∀ C T N, vwCl[2]? = some (C, T, N) → (T 2).2.2.2 = false ∨ (("<init>" : String) = "<init>" ∧ (T 2).1 = "DeltaViews$Bag" ∧ Cond.fieldLink "DeltaViews$Bag" 18 (T 2).1 (T 2).2.1 (T 2).2.2.1 ∈ fw_big) := fun _ _ _ h => by cases h; exact Or.inr ⟨rfl, rfl, fw_mem 129 (by decide +kernel) rfl⟩
theorem fi_Bag_22 : ∀ C T N, vwCl[2]? = some (C, T, N) → (T 3).2.2.2 = false ∨ (("<init>" : String) = "<init>" ∧ (T 3).1 = "DeltaViews$Bag" ∧ Cond.fieldLink "DeltaViews$Bag" 22 (T 3).1 (T 3).2.1 (T 3).2.2.1 ∈ fw_big) := fun _ _ _ h => by cases h; exact Or.inr ⟨rfl, rfl, fw_mem 130 (by decide +kernel) rfl⟩
theorem fi_Bag_26 : ∀ C T N, vwCl[2]? = some (C, T, N) → (T 4).2.2.2 = false ∨ (("<init>" : String) = "<init>" ∧ (T 4).1 = "DeltaViews$Bag" ∧ Cond.fieldLink "DeltaViews$Bag" 26 (T 4).1 (T 4).2.1 (T 4).2.2.1 ∈ fw_big) := fun _ _ _ h => by cases h; exact Or.inr ⟨rfl, rfl, fw_mem 131 (by decide +kernel) rfl⟩
theorem fi_Batch_9 : ∀ C T N, vwCl[3]? = some (C, T, N) → (T 0).2.2.2 = false ∨ (("<init>" : String) = "<init>" ∧ (T 0).1 = "DeltaViews$Batch" ∧ Cond.fieldLink "DeltaViews$Batch" 9 (T 0).1 (T 0).2.1 (T 0).2.2.1 ∈ fw_big) := fun _ _ _ h => by cases h; exact Or.inr ⟨rfl, rfl, fw_mem 76 (by decide +kernel) rfl⟩
theorem fi_Batch_15 : ∀ C T N, vwCl[3]? = some (C, T, N) → (T 1).2.2.2 = false ∨ (("<init>" : String) = "<init>" ∧ (T 1).1 = "DeltaViews$Batch" ∧ Cond.fieldLink "DeltaViews$Batch" 15 (T 1).1 (T 1).2.1 (T 1).2.2.1 ∈ fw_big) := fun _ _ _ h => by cases h; exact Or.inr ⟨rfl, rfl, fw_mem 77 (by decide +kernel) rfl⟩
theorem fi_Batch_18 : ∀ C T N, vwCl[3]? = some (C, T, N) → (T 2).2.2.2 = false ∨ (("<init>" : String) = "<init>" ∧ (T 2).1 = "DeltaViews$Batch" ∧ Cond.fieldLink "DeltaViews$Batch" 18 (T 2).1 (T 2).2.1 (T 2).2.2.1 ∈ fw_big) := fun _ _ _ h => by cases h; exact Or.inr ⟨rfl, rfl, fw_mem 78 (by decide +kernel) rfl⟩
theorem fi_Batch_21 : ∀ C T N, vwCl[3]? = some (C, T, N) → (T 3).2.2.2 = false ∨ (("<init>" : String) = "<init>" ∧ (T 3).1 = "DeltaViews$Batch" ∧ Cond.fieldLink "DeltaViews$Batch" 21 (T 3).1 (T 3).2.1 (T 3).2.2.1 ∈ fw_big) := fun _ _ _ h => by cases h; exact Or.inr ⟨rfl, rfl, fw_mem 79 (by decide +kernel) rfl⟩
theorem fi_Batch_24 (nm : String) : ∀ C T N, vwCl[3]? = some (C, T, N) → (T 4).2.2.2 = false ∨ (nm = "<init>" ∧ (T 4).1 = "DeltaViews$Batch" ∧ Cond.fieldLink "DeltaViews$Batch" 24 (T 4).1 (T 4).2.1 (T 4).2.2.1 ∈ fw_big) := fun _ _ _ h => by cases h; exact Or.inl rfl
theorem fi_Distinct_7 : ∀ C T N, vwCl[10]? = some (C, T, N) → (T 0).2.2.2 = false ∨ (("<init>" : String) = "<init>" ∧ (T 0).1 = "DeltaViews$Distinct" ∧ Cond.fieldLink "DeltaViews$Distinct" 7 (T 0).1 (T 0).2.1 (T 0).2.2.1 ∈ fw_big) := fun _ _ _ h => by cases h; exact Or.inr ⟨rfl, rfl, fw_mem 656 (by decide +kernel) rfl⟩
theorem fi_Group_9 : ∀ C T N, vwCl[9]? = some (C, T, N) → (T 0).2.2.2 = false ∨ (("<init>" : String) = "<init>" ∧ (T 0).1 = "DeltaViews$Group" ∧ Cond.fieldLink "DeltaViews$Group" 9 (T 0).1 (T 0).2.1 (T 0).2.2.1 ∈ fw_big) := fun _ _ _ h => by cases h; exact Or.inr ⟨rfl, rfl, fw_mem 630 (by decide +kernel) rfl⟩
theorem fi_Group_15 : ∀ C T N, vwCl[9]? = some (C, T, N) → (T 1).2.2.2 = false ∨ (("<init>" : String) = "<init>" ∧ (T 1).1 = "DeltaViews$Group" ∧ Cond.fieldLink "DeltaViews$Group" 15 (T 1).1 (T 1).2.1 (T 1).2.2.1 ∈ fw_big) := fun _ _ _ h => by cases h; exact Or.inr ⟨rfl, rfl, fw_mem 631 (by decide +kernel) rfl⟩
theorem fi_Group_19 : ∀ C T N, vwCl[9]? = some (C, T, N) → (T 2).2.2.2 = false ∨ (("<init>" : String) = "<init>" ∧ (T 2).1 = "DeltaViews$Group" ∧ Cond.fieldLink "DeltaViews$Group" 19 (T 2).1 (T 2).2.1 (T 2).2.2.1 ∈ fw_big) := fun _ _ _ h => by cases h; exact Or.inr ⟨rfl, rfl, fw_mem 632 (by decide +kernel) rfl⟩
theorem fi_Group_22 : ∀ C T N, vwCl[9]? = some (C, T, N) → (T 3).2.2.2 = false ∨ (("<init>" : String) = "<init>" ∧ (T 3).1 = "DeltaViews$Group" ∧ Cond.fieldLink "DeltaViews$Group" 22 (T 3).1 (T 3).2.1 (T 3).2.2.1 ∈ fw_big) := fun _ _ _ h => by cases h; exact Or.inr ⟨rfl, rfl, fw_mem 633 (by decide +kernel) rfl⟩
theorem fi_Join_7 : ∀ C T N, vwCl[7]? = some (C, T, N) → (T 0).2.2.2 = false ∨ (("<init>" : String) = "<init>" ∧ (T 0).1 = "DeltaViews$Join" ∧ Cond.fieldLink "DeltaViews$Join" 7 (T 0).1 (T 0).2.1 (T 0).2.2.1 ∈ fw_big) := fun _ _ _ h => by cases h; exact Or.inr ⟨rfl, rfl, fw_mem 583 (by decide +kernel) rfl⟩
theorem fi_Join_13 : ∀ C T N, vwCl[7]? = some (C, T, N) → (T 1).2.2.2 = false ∨ (("<init>" : String) = "<init>" ∧ (T 1).1 = "DeltaViews$Join" ∧ Cond.fieldLink "DeltaViews$Join" 13 (T 1).1 (T 1).2.1 (T 1).2.2.1 ∈ fw_big) := fun _ _ _ h => by cases h; exact Or.inr ⟨rfl, rfl, fw_mem 584 (by decide +kernel) rfl⟩
theorem fi_Join_16 : ∀ C T N, vwCl[7]? = some (C, T, N) → (T 2).2.2.2 = false ∨ (("<init>" : String) = "<init>" ∧ (T 2).1 = "DeltaViews$Join" ∧ Cond.fieldLink "DeltaViews$Join" 16 (T 2).1 (T 2).2.1 (T 2).2.2.1 ∈ fw_big) := fun _ _ _ h => by cases h; exact Or.inr ⟨rfl, rfl, fw_mem 585 (by decide +kernel) rfl⟩
theorem fi_Join_20 : ∀ C T N, vwCl[7]? = some (C, T, N) → (T 3).2.2.2 = false ∨ (("<init>" : String) = "<init>" ∧ (T 3).1 = "DeltaViews$Join" ∧ Cond.fieldLink "DeltaViews$Join" 20 (T 3).1 (T 3).2.1 (T 3).2.2.1 ∈ fw_big) := fun _ _ _ h => by cases h; exact Or.inr ⟨rfl, rfl, fw_mem 586 (by decide +kernel) rfl⟩
theorem fi_Project_7 : ∀ C T N, vwCl[6]? = some (C, T, N) → (T 0).2.2.2 = false ∨ (("<init>" : String) = "<init>" ∧ (T 0).1 = "DeltaViews$Project" ∧ Cond.fieldLink "DeltaViews$Project" 7 (T 0).1 (T 0).2.1 (T 0).2.2.1 ∈ fw_big) := fun _ _ _ h => by cases h; exact Or.inr ⟨rfl, rfl, fw_mem 560 (by decide +kernel) rfl⟩
theorem fi_Project_13 : ∀ C T N, vwCl[6]? = some (C, T, N) → (T 1).2.2.2 = false ∨ (("<init>" : String) = "<init>" ∧ (T 1).1 = "DeltaViews$Project" ∧ Cond.fieldLink "DeltaViews$Project" 13 (T 1).1 (T 1).2.1 (T 1).2.2.1 ∈ fw_big) := fun _ _ _ h => by cases h; exact Or.inr ⟨rfl, rfl, fw_mem 561 (by decide +kernel) rfl⟩
theorem fi_Project_17 : ∀ C T N, vwCl[6]? = some (C, T, N) → (T 2).2.2.2 = false ∨ (("<init>" : String) = "<init>" ∧ (T 2).1 = "DeltaViews$Project" ∧ Cond.fieldLink "DeltaViews$Project" 17 (T 2).1 (T 2).2.1 (T 2).2.2.1 ∈ fw_big) := fun _ _ _ h => by cases h; exact Or.inr ⟨rfl, rfl, fw_mem 562 (by decide +kernel) rfl⟩
theorem fi_Select_9 : ∀ C T N, vwCl[5]? = some (C, T, N) → (T 0).2.2.2 = false ∨ (("<init>" : String) = "<init>" ∧ (T 0).1 = "DeltaViews$Select" ∧ Cond.fieldLink "DeltaViews$Select" 9 (T 0).1 (T 0).2.1 (T 0).2.2.1 ∈ fw_big) := fun _ _ _ h => by cases h; exact Or.inr ⟨rfl, rfl, fw_mem 522 (by decide +kernel) rfl⟩
theorem fi_Select_15 : ∀ C T N, vwCl[5]? = some (C, T, N) → (T 1).2.2.2 = false ∨ (("<init>" : String) = "<init>" ∧ (T 1).1 = "DeltaViews$Select" ∧ Cond.fieldLink "DeltaViews$Select" 15 (T 1).1 (T 1).2.1 (T 1).2.2.1 ∈ fw_big) := fun _ _ _ h => by cases h; exact Or.inr ⟨rfl, rfl, fw_mem 523 (by decide +kernel) rfl⟩
theorem fi_Select_19 : ∀ C T N, vwCl[5]? = some (C, T, N) → (T 2).2.2.2 = false ∨ (("<init>" : String) = "<init>" ∧ (T 2).1 = "DeltaViews$Select" ∧ Cond.fieldLink "DeltaViews$Select" 19 (T 2).1 (T 2).2.1 (T 2).2.2.1 ∈ fw_big) := fun _ _ _ h => by cases h; exact Or.inr ⟨rfl, rfl, fw_mem 524 (by decide +kernel) rfl⟩
theorem fi_Select_22 : ∀ C T N, vwCl[5]? = some (C, T, N) → (T 3).2.2.2 = false ∨ (("<init>" : String) = "<init>" ∧ (T 3).1 = "DeltaViews$Select" ∧ Cond.fieldLink "DeltaViews$Select" 22 (T 3).1 (T 3).2.1 (T 3).2.2.1 ∈ fw_big) := fun _ _ _ h => by cases h; exact Or.inr ⟨rfl, rfl, fw_mem 525 (by decide +kernel) rfl⟩
theorem fi_Union_7 : ∀ C T N, vwCl[8]? = some (C, T, N) → (T 0).2.2.2 = false ∨ (("<init>" : String) = "<init>" ∧ (T 0).1 = "DeltaViews$Union" ∧ Cond.fieldLink "DeltaViews$Union" 7 (T 0).1 (T 0).2.1 (T 0).2.2.1 ∈ fw_big) := fun _ _ _ h => by cases h; exact Or.inr ⟨rfl, rfl, fw_mem 610 (by decide +kernel) rfl⟩
theorem fi_Union_13 : ∀ C T N, vwCl[8]? = some (C, T, N) → (T 1).2.2.2 = false ∨ (("<init>" : String) = "<init>" ∧ (T 1).1 = "DeltaViews$Union" ∧ Cond.fieldLink "DeltaViews$Union" 13 (T 1).1 (T 1).2.1 (T 1).2.2.1 ∈ fw_big) := fun _ _ _ h => by cases h; exact Or.inr ⟨rfl, rfl, fw_mem 611 (by decide +kernel) rfl⟩
theorem fi_View_10 (nm : String) : ∀ C T N, vwCl[1]? = some (C, T, N) → (T 1).2.2.2 = false ∨ (nm = "<init>" ∧ (T 1).1 = "DeltaViews$View" ∧ Cond.fieldLink "DeltaViews$View" 10 (T 1).1 (T 1).2.1 (T 1).2.2.1 ∈ fw_big) := fun _ _ _ h => by cases h; exact Or.inl rfl
theorem fi_View_16 (nm : String) : ∀ C T N, vwCl[1]? = some (C, T, N) → (T 2).2.2.2 = false ∨ (nm = "<init>" ∧ (T 2).1 = "DeltaViews$View" ∧ Cond.fieldLink "DeltaViews$View" 16 (T 2).1 (T 2).2.1 (T 2).2.2.1 ∈ fw_big) := fun _ _ _ h => by cases h; exact Or.inl rfl
theorem fi_View_19 (nm : String) : ∀ C T N, vwCl[1]? = some (C, T, N) → (T 3).2.2.2 = false ∨ (nm = "<init>" ∧ (T 3).1 = "DeltaViews$View" ∧ Cond.fieldLink "DeltaViews$View" 19 (T 3).1 (T 3).2.1 (T 3).2.2.1 ∈ fw_big) := fun _ _ _ h => by cases h; exact Or.inl rfl
theorem fi_View_23 (nm : String) : ∀ C T N, vwCl[1]? = some (C, T, N) → (T 0).2.2.2 = false ∨ (nm = "<init>" ∧ (T 0).1 = "DeltaViews$View" ∧ Cond.fieldLink "DeltaViews$View" 23 (T 0).1 (T 0).2.1 (T 0).2.2.1 ∈ fw_big) := fun _ _ _ h => by cases h; exact Or.inl rfl
theorem fi_Mo_7 (nm : String) : ∀ C T N, vwCl[11]? = some (C, T, N) → (T 1).2.2.2 = false ∨ (nm = "<init>" ∧ (T 1).1 = "DeltaViewsModel" ∧ Cond.fieldLink "DeltaViewsModel" 7 (T 1).1 (T 1).2.1 (T 1).2.2.1 ∈ fw_big) := fun _ _ _ h => by cases h; exact Or.inl rfl
theorem fi_Mo_13 : ∀ C T N, vwCl[11]? = some (C, T, N) → (T 2).2.2.2 = false ∨ (("<init>" : String) = "<init>" ∧ (T 2).1 = "DeltaViewsModel" ∧ Cond.fieldLink "DeltaViewsModel" 13 (T 2).1 (T 2).2.1 (T 2).2.2.1 ∈ fw_big) := fun _ _ _ h => by cases h; exact Or.inr ⟨rfl, rfl, fw_mem 745 (by decide +kernel) rfl⟩
theorem fi_Mo_17 : ∀ C T N, vwCl[11]? = some (C, T, N) → (T 3).2.2.2 = false ∨ (("<init>" : String) = "<init>" ∧ (T 3).1 = "DeltaViewsModel" ∧ Cond.fieldLink "DeltaViewsModel" 17 (T 3).1 (T 3).2.1 (T 3).2.2.1 ∈ fw_big) := fun _ _ _ h => by cases h; exact Or.inr ⟨rfl, rfl, fw_mem 746 (by decide +kernel) rfl⟩
theorem fi_Mo_20 : ∀ C T N, vwCl[11]? = some (C, T, N) → (T 4).2.2.2 = false ∨ (("<init>" : String) = "<init>" ∧ (T 4).1 = "DeltaViewsModel" ∧ Cond.fieldLink "DeltaViewsModel" 20 (T 4).1 (T 4).2.1 (T 4).2.2.1 ∈ fw_big) := fun _ _ _ h => by cases h; exact Or.inr ⟨rfl, rfl, fw_mem 747 (by decide +kernel) rfl⟩
theorem fi_Mo_23 : ∀ C T N, vwCl[11]? = some (C, T, N) → (T 5).2.2.2 = false ∨ (("<init>" : String) = "<init>" ∧ (T 5).1 = "DeltaViewsModel" ∧ Cond.fieldLink "DeltaViewsModel" 23 (T 5).1 (T 5).2.1 (T 5).2.2.1 ∈ fw_big) := fun _ _ _ h => by cases h; exact Or.inr ⟨rfl, rfl, fw_mem 748 (by decide +kernel) rfl⟩
theorem fi_Mo_26 : ∀ C T N, vwCl[11]? = some (C, T, N) → (T 6).2.2.2 = false ∨ (("<init>" : String) = "<init>" ∧ (T 6).1 = "DeltaViewsModel" ∧ Cond.fieldLink "DeltaViewsModel" 26 (T 6).1 (T 6).2.1 (T 6).2.2.1 ∈ fw_big) := fun _ _ _ h => by cases h; exact Or.inr ⟨rfl, rfl, fw_mem 749 (by decide +kernel) rfl⟩
theorem fi_Mo_29 : ∀ C T N, vwCl[11]? = some (C, T, N) → (T 7).2.2.2 = false ∨ (("<init>" : String) = "<init>" ∧ (T 7).1 = "DeltaViewsModel" ∧ Cond.fieldLink "DeltaViewsModel" 29 (T 7).1 (T 7).2.1 (T 7).2.2.1 ∈ fw_big) := fun _ _ _ h => by cases h; exact Or.inr ⟨rfl, rfl, fw_mem 750 (by decide +kernel) rfl⟩
theorem fi_Mo_32 : ∀ C T N, vwCl[11]? = some (C, T, N) → (T 8).2.2.2 = false ∨ (("<init>" : String) = "<init>" ∧ (T 8).1 = "DeltaViewsModel" ∧ Cond.fieldLink "DeltaViewsModel" 32 (T 8).1 (T 8).2.1 (T 8).2.2.1 ∈ fw_big) := fun _ _ _ h => by cases h; exact Or.inr ⟨rfl, rfl, fw_mem 751 (by decide +kernel) rfl⟩
theorem fi_Mo_35 : ∀ C T N, vwCl[11]? = some (C, T, N) → (T 9).2.2.2 = false ∨ (("<init>" : String) = "<init>" ∧ (T 9).1 = "DeltaViewsModel" ∧ Cond.fieldLink "DeltaViewsModel" 35 (T 9).1 (T 9).2.1 (T 9).2.2.1 ∈ fw_big) := fun _ _ _ h => by cases h; exact Or.inr ⟨rfl, rfl, fw_mem 752 (by decide +kernel) rfl⟩
theorem fi_Mo_38 : ∀ C T N, vwCl[11]? = some (C, T, N) → (T 10).2.2.2 = false ∨ (("<init>" : String) = "<init>" ∧ (T 10).1 = "DeltaViewsModel" ∧ Cond.fieldLink "DeltaViewsModel" 38 (T 10).1 (T 10).2.1 (T 10).2.2.1 ∈ fw_big) := fun _ _ _ h => by cases h; exact Or.inr ⟨rfl, rfl, fw_mem 753 (by decide +kernel) rfl⟩
theorem fi_Mo_41 : ∀ C T N, vwCl[11]? = some (C, T, N) → (T 11).2.2.2 = false ∨ (("<init>" : String) = "<init>" ∧ (T 11).1 = "DeltaViewsModel" ∧ Cond.fieldLink "DeltaViewsModel" 41 (T 11).1 (T 11).2.1 (T 11).2.2.1 ∈ fw_big) := fun _ _ _ h => by cases h; exact Or.inr ⟨rfl, rfl, fw_mem 754 (by decide +kernel) rfl⟩
theorem fi_Mo_45 : ∀ C T N, vwCl[11]? = some (C, T, N) → (T 12).2.2.2 = false ∨ (("<init>" : String) = "<init>" ∧ (T 12).1 = "DeltaViewsModel" ∧ Cond.fieldLink "DeltaViewsModel" 45 (T 12).1 (T 12).2.1 (T 12).2.2.1 ∈ fw_big) := fun _ _ _ h => by cases h; exact Or.inr ⟨rfl, rfl, fw_mem 755 (by decide +kernel) rfl⟩
theorem fi_Mo_48 : ∀ C T N, vwCl[11]? = some (C, T, N) → (T 14).2.2.2 = false ∨ (("<init>" : String) = "<init>" ∧ (T 14).1 = "DeltaViewsModel" ∧ Cond.fieldLink "DeltaViewsModel" 48 (T 14).1 (T 14).2.1 (T 14).2.2.1 ∈ fw_big) := fun _ _ _ h => by cases h; exact Or.inr ⟨rfl, rfl, fw_mem 757 (by decide +kernel) rfl⟩
theorem fi_Mo_51 : ∀ C T N, vwCl[11]? = some (C, T, N) → (T 15).2.2.2 = false ∨ (("<init>" : String) = "<init>" ∧ (T 15).1 = "DeltaViewsModel" ∧ Cond.fieldLink "DeltaViewsModel" 51 (T 15).1 (T 15).2.1 (T 15).2.2.1 ∈ fw_big) := fun _ _ _ h => by cases h; exact Or.inr ⟨rfl, rfl, fw_mem 758 (by decide +kernel) rfl⟩
theorem fi_Mo_54 : ∀ C T N, vwCl[11]? = some (C, T, N) → (T 16).2.2.2 = false ∨ (("<init>" : String) = "<init>" ∧ (T 16).1 = "DeltaViewsModel" ∧ Cond.fieldLink "DeltaViewsModel" 54 (T 16).1 (T 16).2.1 (T 16).2.2.1 ∈ fw_big) := fun _ _ _ h => by cases h; exact Or.inr ⟨rfl, rfl, fw_mem 759 (by decide +kernel) rfl⟩
theorem fi_Mo_57 : ∀ C T N, vwCl[11]? = some (C, T, N) → (T 18).2.2.2 = false ∨ (("<init>" : String) = "<init>" ∧ (T 18).1 = "DeltaViewsModel" ∧ Cond.fieldLink "DeltaViewsModel" 57 (T 18).1 (T 18).2.1 (T 18).2.2.1 ∈ fw_big) := fun _ _ _ h => by cases h; exact Or.inr ⟨rfl, rfl, fw_mem 761 (by decide +kernel) rfl⟩
theorem fi_Mo_60 : ∀ C T N, vwCl[11]? = some (C, T, N) → (T 19).2.2.2 = false ∨ (("<init>" : String) = "<init>" ∧ (T 19).1 = "DeltaViewsModel" ∧ Cond.fieldLink "DeltaViewsModel" 60 (T 19).1 (T 19).2.1 (T 19).2.2.1 ∈ fw_big) := fun _ _ _ h => by cases h; exact Or.inr ⟨rfl, rfl, fw_mem 762 (by decide +kernel) rfl⟩
theorem fi_Mo_63 : ∀ C T N, vwCl[11]? = some (C, T, N) → (T 20).2.2.2 = false ∨ (("<init>" : String) = "<init>" ∧ (T 20).1 = "DeltaViewsModel" ∧ Cond.fieldLink "DeltaViewsModel" 63 (T 20).1 (T 20).2.1 (T 20).2.2.1 ∈ fw_big) := fun _ _ _ h => by cases h; exact Or.inr ⟨rfl, rfl, fw_mem 763 (by decide +kernel) rfl⟩
theorem fi_Mo_66 : ∀ C T N, vwCl[11]? = some (C, T, N) → (T 21).2.2.2 = false ∨ (("<init>" : String) = "<init>" ∧ (T 21).1 = "DeltaViewsModel" ∧ Cond.fieldLink "DeltaViewsModel" 66 (T 21).1 (T 21).2.1 (T 21).2.2.1 ∈ fw_big) := fun _ _ _ h => by cases h; exact Or.inr ⟨rfl, rfl, fw_mem 764 (by decide +kernel) rfl⟩
theorem fi_Mo_69 (nm : String) : ∀ C T N, vwCl[11]? = some (C, T, N) → (T 0).2.2.2 = false ∨ (nm = "<init>" ∧ (T 0).1 = "DeltaViewsModel" ∧ Cond.fieldLink "DeltaViewsModel" 69 (T 0).1 (T 0).2.1 (T 0).2.2.1 ∈ fw_big) := fun _ _ _ h => by cases h; exact Or.inl rfl
theorem fi_Mo_72 (nm : String) : ∀ C T N, vwCl[11]? = some (C, T, N) → (T 13).2.2.2 = false ∨ (nm = "<init>" ∧ (T 13).1 = "DeltaViewsModel" ∧ Cond.fieldLink "DeltaViewsModel" 72 (T 13).1 (T 13).2.1 (T 13).2.2.1 ∈ fw_big) := fun _ _ _ h => by cases h; exact Or.inl rfl
theorem fi_Mo_121 (nm : String) : ∀ C T N, vwCl[11]? = some (C, T, N) → (T 17).2.2.2 = false ∨ (nm = "<init>" ∧ (T 17).1 = "DeltaViewsModel" ∧ Cond.fieldLink "DeltaViewsModel" 121 (T 17).1 (T 17).2.1 (T 17).2.2.1 ∈ fw_big) := fun _ _ _ h => by cases h; exact Or.inl rfl
theorem nw_DV_9 : fw_nw "DeltaViews" 9 1 [.null, .null, .null, .int 0] 4 := ⟨"DeltaViews$View", T_View, rfl, uw_View, fw_mem 68 (by decide +kernel) rfl, fw_mem 93 (by decide +kernel) rfl, fw_mem 40 (by decide +kernel) rfl, ty_View, by decide +kernel, fun j hj => match j, hj with | 0, _ => rfl | 1, _ => rfl | 2, _ => rfl | 3, _ => rfl⟩
theorem nw_DV_19 : fw_nw "DeltaViews" 19 3 [.null, .null, .null, .null, .int 0] 5 := ⟨"DeltaViews$Batch", T_Batch, rfl, uw_Batch, fw_mem 70 (by decide +kernel) rfl, fw_mem 71 (by decide +kernel) rfl, fw_mem 39 (by decide +kernel) rfl, ty_Batch, by decide +kernel, fun j hj => match j, hj with | 0, _ => rfl | 1, _ => rfl | 2, _ => rfl | 3, _ => rfl | 4, _ => rfl⟩
theorem nw_DV_26 : fw_nw "DeltaViews" 26 4 [] 0 := ⟨"DeltaViews$Table", T_Table, rfl, uw_Table, fw_mem 94 (by decide +kernel) rfl, fw_mem 95 (by decide +kernel) rfl, fw_mem 42 (by decide +kernel) rfl, ty_Table, by decide +kernel, fun j hj => absurd hj (Nat.not_lt_zero _)⟩
theorem nw_DV_86 : fw_nw "DeltaViews" 86 5 [.null, .int 0, .int 0, .int 0] 4 := ⟨"DeltaViews$Select", T_Select, rfl, uw_Select, fw_mem 517 (by decide +kernel) rfl, fw_mem 432 (by decide +kernel) rfl, fw_mem 53 (by decide +kernel) rfl, ty_Select, by decide +kernel, fun j hj => match j, hj with | 0, _ => rfl | 1, _ => rfl | 2, _ => rfl | 3, _ => rfl⟩
theorem nw_DV_101 : fw_nw "DeltaViews" 101 6 [.null, .int 0, .int 0] 3 := ⟨"DeltaViews$Project", T_Project, rfl, uw_Project, fw_mem 554 (by decide +kernel) rfl, fw_mem 555 (by decide +kernel) rfl, fw_mem 54 (by decide +kernel) rfl, ty_Project, by decide +kernel, fun j hj => match j, hj with | 0, _ => rfl | 1, _ => rfl | 2, _ => rfl⟩
theorem nw_DV_117 : fw_nw "DeltaViews" 117 7 [.null, .null, .int 0, .int 0] 4 := ⟨"DeltaViews$Join", T_Join, rfl, uw_Join, fw_mem 578 (by decide +kernel) rfl, fw_mem 407 (by decide +kernel) rfl, fw_mem 55 (by decide +kernel) rfl, ty_Join, by decide +kernel, fun j hj => match j, hj with | 0, _ => rfl | 1, _ => rfl | 2, _ => rfl | 3, _ => rfl⟩
theorem nw_DV_124 : fw_nw "DeltaViews" 124 8 [.null, .null] 2 := ⟨"DeltaViews$Union", T_Union, rfl, uw_Union, fw_mem 604 (by decide +kernel) rfl, fw_mem 605 (by decide +kernel) rfl, fw_mem 56 (by decide +kernel) rfl, ty_Union, by decide +kernel, fun j hj => match j, hj with | 0, _ => rfl | 1, _ => rfl⟩
theorem nw_DV_131 : fw_nw "DeltaViews" 131 9 [.null, .int 0, .int 0, .int 0] 4 := ⟨"DeltaViews$Group", T_Group, rfl, uw_Group, fw_mem 625 (by decide +kernel) rfl, fw_mem 380 (by decide +kernel) rfl, fw_mem 57 (by decide +kernel) rfl, ty_Group, by decide +kernel, fun j hj => match j, hj with | 0, _ => rfl | 1, _ => rfl | 2, _ => rfl | 3, _ => rfl⟩
theorem nw_DV_134 : fw_nw "DeltaViews" 134 10 [.null] 1 := ⟨"DeltaViews$Distinct", T_Distinct, rfl, uw_Distinct, fw_mem 650 (by decide +kernel) rfl, fw_mem 651 (by decide +kernel) rfl, fw_mem 58 (by decide +kernel) rfl, ty_Distinct, by decide +kernel, fun j hj => match j, hj with | 0, _ => rfl⟩
theorem nw_View_7 : fw_nw "DeltaViews$View" 7 2 [.int 0, .int 0, .null, .null, .null] 5 := ⟨"DeltaViews$Bag", T_Bag, rfl, uw_Bag, fw_mem 108 (by decide +kernel) rfl, fw_mem 109 (by decide +kernel) rfl, fw_mem 43 (by decide +kernel) rfl, ty_Bag, by decide +kernel, fun j hj => match j, hj with | 0, _ => rfl | 1, _ => rfl | 2, _ => rfl | 3, _ => rfl | 4, _ => rfl⟩
theorem nw_Law_8 : fw_nw "DeltaViewsLaw" 8 0 [.null, .int 0, .null] 3 := ⟨"DeltaViews", T_DV, rfl, uw_DV, fw_mem 60 (by decide +kernel) rfl, fw_mem 61 (by decide +kernel) rfl, fw_mem 38 (by decide +kernel) rfl, ty_DV, by decide +kernel, fun j hj => match j, hj with | 0, _ => rfl | 1, _ => rfl | 2, _ => rfl⟩
theorem nw_Law_70 : fw_nw "DeltaViewsLaw" 70 11 [.int 0, .int 0, .null, .null, .null, .null, .null, .null, .null, .null, .null, .null, .null, .int 0, .null, .null, .null, .int 0, .null, .null, .null, .null] 22 := ⟨"DeltaViewsModel", T_Mo, rfl, uw_Mo, fw_mem 737 (by decide +kernel) rfl, fw_mem 738 (by decide +kernel) rfl, fw_mem 44 (by decide +kernel) rfl, ty_Mo, by decide +kernel, fun j hj => match j, hj with | 0, _ => rfl | 1, _ => rfl | 2, _ => rfl | 3, _ => rfl | 4, _ => rfl | 5, _ => rfl | 6, _ => rfl | 7, _ => rfl | 8, _ => rfl | 9, _ => rfl | 10, _ => rfl | 11, _ => rfl | 12, _ => rfl | 13, _ => rfl | 14, _ => rfl | 15, _ => rfl | 16, _ => rfl | 17, _ => rfl | 18, _ => rfl | 19, _ => rfl | 20, _ => rfl | 21, _ => rfl | n + 22, h => absurd h (by omega)⟩
theorem me_DV_init : fw_me mi_DV_init 0 := ⟨fw_mem 64 (by decide +kernel) rfl, rfl, fw_mem 38 (by decide +kernel) rfl, by decide, by decide +kernel, by decide⟩
theorem im_DV_init : Cond.instanceMethod mi_DV_init.1 ∈ fw_big := fw_mem 63 (by decide +kernel) rfl
theorem me_Batch_init : fw_me mi_Batch_init 0 := ⟨fw_mem 74 (by decide +kernel) rfl, rfl, fw_mem 39 (by decide +kernel) rfl, by decide, by decide +kernel, by decide⟩
theorem im_Batch_init : Cond.instanceMethod mi_Batch_init.1 ∈ fw_big := fw_mem 73 (by decide +kernel) rfl
theorem me_Table_init : fw_me mi_Table_init 0 := ⟨fw_mem 98 (by decide +kernel) rfl, rfl, fw_mem 42 (by decide +kernel) rfl, by decide, by decide +kernel, by decide⟩
theorem im_Table_init : Cond.instanceMethod mi_Table_init.1 ∈ fw_big := fw_mem 97 (by decide +kernel) rfl
theorem me_Oper_init : fw_me mi_Oper_init 0 := ⟨fw_mem 101 (by decide +kernel) rfl, rfl, fw_mem 41 (by decide +kernel) rfl, by decide, by decide +kernel, by decide⟩
theorem im_Oper_init : Cond.instanceMethod mi_Oper_init.1 ∈ fw_big := fw_mem 100 (by decide +kernel) rfl
theorem me_View_init : fw_me mi_View_init 1 := ⟨fw_mem 106 (by decide +kernel) rfl, rfl, fw_mem 40 (by decide +kernel) rfl, by decide, by decide +kernel, by decide⟩
theorem im_View_init : Cond.instanceMethod mi_View_init.1 ∈ fw_big := fw_mem 105 (by decide +kernel) rfl
theorem me_Bag_init : fw_me mi_Bag_init 0 := ⟨fw_mem 112 (by decide +kernel) rfl, rfl, fw_mem 43 (by decide +kernel) rfl, by decide, by decide +kernel, by decide⟩
theorem im_Bag_init : Cond.instanceMethod mi_Bag_init.1 ∈ fw_big := fw_mem 111 (by decide +kernel) rfl
theorem me_DV_cancel : fw_me mi_DV_cancel 0 := ⟨fw_mem 178 (by decide +kernel) rfl, rfl, fw_mem 38 (by decide +kernel) rfl, by decide, by decide +kernel, by decide⟩
theorem im_DV_cancel : Cond.instanceMethod mi_DV_cancel.1 ∈ fw_big := fw_mem 176 (by decide +kernel) rfl
theorem se_DV_cancel : Cond.selects mi_DV_cancel.1.cls mi_DV_cancel.1 mi_DV_cancel.1 ∈ fw_big := fw_mem 177 (by decide +kernel) rfl
theorem me_Batch_empty : fw_me mi_Batch_empty 0 := ⟨fw_mem 182 (by decide +kernel) rfl, rfl, fw_mem 39 (by decide +kernel) rfl, by decide, by decide +kernel, by decide⟩
theorem im_Batch_empty : Cond.instanceMethod mi_Batch_empty.1 ∈ fw_big := fw_mem 180 (by decide +kernel) rfl
theorem se_Batch_empty : Cond.selects mi_Batch_empty.1.cls mi_Batch_empty.1 mi_Batch_empty.1 ∈ fw_big := fw_mem 181 (by decide +kernel) rfl
theorem me_Law_change : fw_me mi_Law_change 6 := ⟨fw_mem 185 (by decide +kernel) rfl, rfl, fw_mem 37 (by decide +kernel) rfl, by decide, by decide +kernel, by decide⟩
theorem st_Law_change : Cond.static mi_Law_change.1 ∈ fw_big := fw_mem 184 (by decide +kernel) rfl
theorem me_DV_change : fw_me mi_DV_change 4 := ⟨fw_mem 192 (by decide +kernel) rfl, rfl, fw_mem 38 (by decide +kernel) rfl, by decide, by decide +kernel, by decide⟩
theorem im_DV_change : Cond.instanceMethod mi_DV_change.1 ∈ fw_big := fw_mem 190 (by decide +kernel) rfl
theorem se_DV_change : Cond.selects mi_DV_change.1.cls mi_DV_change.1 mi_DV_change.1 ∈ fw_big := fw_mem 191 (by decide +kernel) rfl
theorem me_DV_isTooFar : fw_me mi_DV_isTooFar 2 := ⟨fw_mem 264 (by decide +kernel) rfl, rfl, fw_mem 38 (by decide +kernel) rfl, by decide, by decide +kernel, by decide⟩
theorem st_DV_isTooFar : Cond.static mi_DV_isTooFar.1 ∈ fw_big := fw_mem 263 (by decide +kernel) rfl
theorem me_Batch_isFull : fw_me mi_Batch_isFull 0 := ⟨fw_mem 284 (by decide +kernel) rfl, rfl, fw_mem 39 (by decide +kernel) rfl, by decide, by decide +kernel, by decide⟩
theorem im_Batch_isFull : Cond.instanceMethod mi_Batch_isFull.1 ∈ fw_big := fw_mem 282 (by decide +kernel) rfl
theorem se_Batch_isFull : Cond.selects mi_Batch_isFull.1.cls mi_Batch_isFull.1 mi_Batch_isFull.1 ∈ fw_big := fw_mem 283 (by decide +kernel) rfl
theorem me_Batch_append : fw_me mi_Batch_append 4 := ⟨fw_mem 304 (by decide +kernel) rfl, rfl, fw_mem 39 (by decide +kernel) rfl, by decide, by decide +kernel, by decide⟩
theorem im_Batch_append : Cond.instanceMethod mi_Batch_append.1 ∈ fw_big := fw_mem 302 (by decide +kernel) rfl
theorem se_Batch_append : Cond.selects mi_Batch_append.1.cls mi_Batch_append.1 mi_Batch_append.1 ∈ fw_big := fw_mem 303 (by decide +kernel) rfl
theorem me_Law_commit : fw_me mi_Law_commit 2 := ⟨fw_mem 307 (by decide +kernel) rfl, rfl, fw_mem 37 (by decide +kernel) rfl, by decide, by decide +kernel, by decide⟩
theorem st_Law_commit : Cond.static mi_Law_commit.1 ∈ fw_big := fw_mem 306 (by decide +kernel) rfl
theorem me_DV_commit : fw_me mi_DV_commit 0 := ⟨fw_mem 311 (by decide +kernel) rfl, rfl, fw_mem 38 (by decide +kernel) rfl, by decide, by decide +kernel, by decide⟩
theorem im_DV_commit : Cond.instanceMethod mi_DV_commit.1 ∈ fw_big := fw_mem 309 (by decide +kernel) rfl
theorem se_DV_commit : Cond.selects mi_DV_commit.1.cls mi_DV_commit.1 mi_DV_commit.1 ∈ fw_big := fw_mem 310 (by decide +kernel) rfl
theorem me_DV_renewViews : fw_me mi_DV_renewViews 0 := ⟨fw_mem 315 (by decide +kernel) rfl, rfl, fw_mem 38 (by decide +kernel) rfl, by decide, by decide +kernel, by decide⟩
theorem im_DV_renewViews : Cond.instanceMethod mi_DV_renewViews.1 ∈ fw_big := fw_mem 314 (by decide +kernel) rfl
theorem se_DV_renewViews : Cond.selects mi_DV_renewViews.1.cls mi_DV_renewViews.1 mi_DV_renewViews.1 ∈ fw_big := fw_mem 1 (by decide +kernel) rfl
theorem me_View_renew : fw_me mi_View_renew 0 := ⟨fw_mem 319 (by decide +kernel) rfl, rfl, fw_mem 40 (by decide +kernel) rfl, by decide, by decide +kernel, by decide⟩
theorem im_View_renew : Cond.instanceMethod mi_View_renew.1 ∈ fw_big := fw_mem 317 (by decide +kernel) rfl
theorem se_View_renew : Cond.selects mi_View_renew.1.cls mi_View_renew.1 mi_View_renew.1 ∈ fw_big := fw_mem 318 (by decide +kernel) rfl
theorem me_View_exchangeBags : fw_me mi_View_exchangeBags 0 := ⟨fw_mem 323 (by decide +kernel) rfl, rfl, fw_mem 40 (by decide +kernel) rfl, by decide, by decide +kernel, by decide⟩
theorem im_View_exchangeBags : Cond.instanceMethod mi_View_exchangeBags.1 ∈ fw_big := fw_mem 321 (by decide +kernel) rfl
theorem se_View_exchangeBags : Cond.selects mi_View_exchangeBags.1.cls mi_View_exchangeBags.1 mi_View_exchangeBags.1 ∈ fw_big := fw_mem 322 (by decide +kernel) rfl
theorem me_Distinct_fill : fw_me mi_Distinct_fill 2 := ⟨fw_mem 329 (by decide +kernel) rfl, rfl, fw_mem 58 (by decide +kernel) rfl, by decide, by decide +kernel, by decide⟩
theorem im_Distinct_fill : Cond.instanceMethod mi_Distinct_fill.1 ∈ fw_big := fw_mem 328 (by decide +kernel) rfl
theorem me_Bag_clear : fw_me mi_Bag_clear 1 := ⟨fw_mem 333 (by decide +kernel) rfl, rfl, fw_mem 43 (by decide +kernel) rfl, by decide, by decide +kernel, by decide⟩
theorem im_Bag_clear : Cond.instanceMethod mi_Bag_clear.1 ∈ fw_big := fw_mem 331 (by decide +kernel) rfl
theorem se_Bag_clear : Cond.selects mi_Bag_clear.1.cls mi_Bag_clear.1 mi_Bag_clear.1 ∈ fw_big := fw_mem 332 (by decide +kernel) rfl
theorem me_Bag_putRow : fw_me mi_Bag_putRow 3 := ⟨fw_mem 337 (by decide +kernel) rfl, rfl, fw_mem 43 (by decide +kernel) rfl, by decide, by decide +kernel, by decide⟩
theorem im_Bag_putRow : Cond.instanceMethod mi_Bag_putRow.1 ∈ fw_big := fw_mem 335 (by decide +kernel) rfl
theorem se_Bag_putRow : Cond.selects mi_Bag_putRow.1.cls mi_Bag_putRow.1 mi_Bag_putRow.1 ∈ fw_big := fw_mem 336 (by decide +kernel) rfl
theorem me_Bag_cellAt : fw_me mi_Bag_cellAt 2 := ⟨fw_mem 341 (by decide +kernel) rfl, rfl, fw_mem 43 (by decide +kernel) rfl, by decide, by decide +kernel, by decide⟩
theorem im_Bag_cellAt : Cond.instanceMethod mi_Bag_cellAt.1 ∈ fw_big := fw_mem 339 (by decide +kernel) rfl
theorem se_Bag_cellAt : Cond.selects mi_Bag_cellAt.1.cls mi_Bag_cellAt.1 mi_Bag_cellAt.1 ∈ fw_big := fw_mem 340 (by decide +kernel) rfl
theorem me_Bag_put : fw_me mi_Bag_put 2 := ⟨fw_mem 345 (by decide +kernel) rfl, rfl, fw_mem 43 (by decide +kernel) rfl, by decide, by decide +kernel, by decide⟩
theorem im_Bag_put : Cond.instanceMethod mi_Bag_put.1 ∈ fw_big := fw_mem 343 (by decide +kernel) rfl
theorem se_Bag_put : Cond.selects mi_Bag_put.1.cls mi_Bag_put.1 mi_Bag_put.1 ∈ fw_big := fw_mem 344 (by decide +kernel) rfl
theorem me_Bag_add : fw_me mi_Bag_add 1 := ⟨fw_mem 349 (by decide +kernel) rfl, rfl, fw_mem 43 (by decide +kernel) rfl, by decide, by decide +kernel, by decide⟩
theorem im_Bag_add : Cond.instanceMethod mi_Bag_add.1 ∈ fw_big := fw_mem 347 (by decide +kernel) rfl
theorem se_Bag_add : Cond.selects mi_Bag_add.1.cls mi_Bag_add.1 mi_Bag_add.1 ∈ fw_big := fw_mem 348 (by decide +kernel) rfl
theorem me_Bag_placeOfPending : fw_me mi_Bag_placeOfPending 0 := ⟨fw_mem 353 (by decide +kernel) rfl, rfl, fw_mem 43 (by decide +kernel) rfl, by decide, by decide +kernel, by decide⟩
theorem im_Bag_placeOfPending : Cond.instanceMethod mi_Bag_placeOfPending.1 ∈ fw_big := fw_mem 352 (by decide +kernel) rfl
theorem se_Bag_placeOfPending : Cond.selects mi_Bag_placeOfPending.1.cls mi_Bag_placeOfPending.1 mi_Bag_placeOfPending.1 ∈ fw_big := fw_mem 2 (by decide +kernel) rfl
theorem me_Bag_orderOfCells : fw_me mi_Bag_orderOfCells 3 := ⟨fw_mem 357 (by decide +kernel) rfl, rfl, fw_mem 43 (by decide +kernel) rfl, by decide, by decide +kernel, by decide⟩
theorem im_Bag_orderOfCells : Cond.instanceMethod mi_Bag_orderOfCells.1 ∈ fw_big := fw_mem 356 (by decide +kernel) rfl
theorem se_Bag_orderOfCells : Cond.selects mi_Bag_orderOfCells.1.cls mi_Bag_orderOfCells.1 mi_Bag_orderOfCells.1 ∈ fw_big := fw_mem 3 (by decide +kernel) rfl
theorem me_Bag_isPending : fw_me mi_Bag_isPending 1 := ⟨fw_mem 361 (by decide +kernel) rfl, rfl, fw_mem 43 (by decide +kernel) rfl, by decide, by decide +kernel, by decide⟩
theorem im_Bag_isPending : Cond.instanceMethod mi_Bag_isPending.1 ∈ fw_big := fw_mem 360 (by decide +kernel) rfl
theorem se_Bag_isPending : Cond.selects mi_Bag_isPending.1.cls mi_Bag_isPending.1 mi_Bag_isPending.1 ∈ fw_big := fw_mem 4 (by decide +kernel) rfl
theorem me_Bag_remove : fw_me mi_Bag_remove 1 := ⟨fw_mem 365 (by decide +kernel) rfl, rfl, fw_mem 43 (by decide +kernel) rfl, by decide, by decide +kernel, by decide⟩
theorem im_Bag_remove : Cond.instanceMethod mi_Bag_remove.1 ∈ fw_big := fw_mem 364 (by decide +kernel) rfl
theorem se_Bag_remove : Cond.selects mi_Bag_remove.1.cls mi_Bag_remove.1 mi_Bag_remove.1 ∈ fw_big := fw_mem 5 (by decide +kernel) rfl
theorem me_Bag_insert : fw_me mi_Bag_insert 2 := ⟨fw_mem 372 (by decide +kernel) rfl, rfl, fw_mem 43 (by decide +kernel) rfl, by decide, by decide +kernel, by decide⟩
theorem im_Bag_insert : Cond.instanceMethod mi_Bag_insert.1 ∈ fw_big := fw_mem 371 (by decide +kernel) rfl
theorem se_Bag_insert : Cond.selects mi_Bag_insert.1.cls mi_Bag_insert.1 mi_Bag_insert.1 ∈ fw_big := fw_mem 6 (by decide +kernel) rfl
theorem me_Group_fill : fw_me mi_Group_fill 2 := ⟨fw_mem 375 (by decide +kernel) rfl, rfl, fw_mem 57 (by decide +kernel) rfl, by decide, by decide +kernel, by decide⟩
theorem im_Group_fill : Cond.instanceMethod mi_Group_fill.1 ∈ fw_big := fw_mem 374 (by decide +kernel) rfl
theorem me_Group_isFirstOfGroup : fw_me mi_Group_isFirstOfGroup 2 := ⟨fw_mem 381 (by decide +kernel) rfl, rfl, fw_mem 57 (by decide +kernel) rfl, by decide, by decide +kernel, by decide⟩
theorem im_Group_isFirstOfGroup : Cond.instanceMethod mi_Group_isFirstOfGroup.1 ∈ fw_big := fw_mem 379 (by decide +kernel) rfl
theorem se_Group_isFirstOfGroup : Cond.selects mi_Group_isFirstOfGroup.1.cls mi_Group_isFirstOfGroup.1 mi_Group_isFirstOfGroup.1 ∈ fw_big := fw_mem 7 (by decide +kernel) rfl
theorem me_Group_fold : fw_me mi_Group_fold 2 := ⟨fw_mem 387 (by decide +kernel) rfl, rfl, fw_mem 57 (by decide +kernel) rfl, by decide, by decide +kernel, by decide⟩
theorem im_Group_fold : Cond.instanceMethod mi_Group_fold.1 ∈ fw_big := fw_mem 386 (by decide +kernel) rfl
theorem se_Group_fold : Cond.selects mi_Group_fold.1.cls mi_Group_fold.1 mi_Group_fold.1 ∈ fw_big := fw_mem 8 (by decide +kernel) rfl
theorem me_Group_worth : fw_me mi_Group_worth 2 := ⟨fw_mem 391 (by decide +kernel) rfl, rfl, fw_mem 57 (by decide +kernel) rfl, by decide, by decide +kernel, by decide⟩
theorem im_Group_worth : Cond.instanceMethod mi_Group_worth.1 ∈ fw_big := fw_mem 390 (by decide +kernel) rfl
theorem se_Group_worth : Cond.selects mi_Group_worth.1.cls mi_Group_worth.1 mi_Group_worth.1 ∈ fw_big := fw_mem 9 (by decide +kernel) rfl
theorem me_Bag_timesAt : fw_me mi_Bag_timesAt 1 := ⟨fw_mem 395 (by decide +kernel) rfl, rfl, fw_mem 43 (by decide +kernel) rfl, by decide, by decide +kernel, by decide⟩
theorem im_Bag_timesAt : Cond.instanceMethod mi_Bag_timesAt.1 ∈ fw_big := fw_mem 393 (by decide +kernel) rfl
theorem se_Bag_timesAt : Cond.selects mi_Bag_timesAt.1.cls mi_Bag_timesAt.1 mi_Bag_timesAt.1 ∈ fw_big := fw_mem 394 (by decide +kernel) rfl
theorem me_Join_fill : fw_me mi_Join_fill 2 := ⟨fw_mem 402 (by decide +kernel) rfl, rfl, fw_mem 55 (by decide +kernel) rfl, by decide, by decide +kernel, by decide⟩
theorem im_Join_fill : Cond.instanceMethod mi_Join_fill.1 ∈ fw_big := fw_mem 401 (by decide +kernel) rfl
theorem me_Join_addPartners : fw_me mi_Join_addPartners 2 := ⟨fw_mem 408 (by decide +kernel) rfl, rfl, fw_mem 55 (by decide +kernel) rfl, by decide, by decide +kernel, by decide⟩
theorem im_Join_addPartners : Cond.instanceMethod mi_Join_addPartners.1 ∈ fw_big := fw_mem 406 (by decide +kernel) rfl
theorem se_Join_addPartners : Cond.selects mi_Join_addPartners.1.cls mi_Join_addPartners.1 mi_Join_addPartners.1 ∈ fw_big := fw_mem 10 (by decide +kernel) rfl
theorem me_Project_fill : fw_me mi_Project_fill 2 := ⟨fw_mem 415 (by decide +kernel) rfl, rfl, fw_mem 54 (by decide +kernel) rfl, by decide, by decide +kernel, by decide⟩
theorem im_Project_fill : Cond.instanceMethod mi_Project_fill.1 ∈ fw_big := fw_mem 414 (by decide +kernel) rfl
theorem me_DV_columnInBits : fw_me mi_DV_columnInBits 2 := ⟨fw_mem 419 (by decide +kernel) rfl, rfl, fw_mem 38 (by decide +kernel) rfl, by decide, by decide +kernel, by decide⟩
theorem st_DV_columnInBits : Cond.static mi_DV_columnInBits.1 ∈ fw_big := fw_mem 418 (by decide +kernel) rfl
theorem me_Select_fill : fw_me mi_Select_fill 2 := ⟨fw_mem 426 (by decide +kernel) rfl, rfl, fw_mem 53 (by decide +kernel) rfl, by decide, by decide +kernel, by decide⟩
theorem im_Select_fill : Cond.instanceMethod mi_Select_fill.1 ∈ fw_big := fw_mem 425 (by decide +kernel) rfl
theorem me_Select_passes : fw_me mi_Select_passes 1 := ⟨fw_mem 433 (by decide +kernel) rfl, rfl, fw_mem 53 (by decide +kernel) rfl, by decide, by decide +kernel, by decide⟩
theorem im_Select_passes : Cond.instanceMethod mi_Select_passes.1 ∈ fw_big := fw_mem 431 (by decide +kernel) rfl
theorem se_Select_passes : Cond.selects mi_Select_passes.1.cls mi_Select_passes.1 mi_Select_passes.1 ∈ fw_big := fw_mem 11 (by decide +kernel) rfl
theorem me_Table_fill : fw_me mi_Table_fill 2 := ⟨fw_mem 439 (by decide +kernel) rfl, rfl, fw_mem 42 (by decide +kernel) rfl, by decide, by decide +kernel, by decide⟩
theorem im_Table_fill : Cond.instanceMethod mi_Table_fill.1 ∈ fw_big := fw_mem 438 (by decide +kernel) rfl
theorem me_Bag_copy : fw_me mi_Bag_copy 1 := ⟨fw_mem 443 (by decide +kernel) rfl, rfl, fw_mem 43 (by decide +kernel) rfl, by decide, by decide +kernel, by decide⟩
theorem im_Bag_copy : Cond.instanceMethod mi_Bag_copy.1 ∈ fw_big := fw_mem 441 (by decide +kernel) rfl
theorem se_Bag_copy : Cond.selects mi_Bag_copy.1.cls mi_Bag_copy.1 mi_Bag_copy.1 ∈ fw_big := fw_mem 442 (by decide +kernel) rfl
theorem me_Union_fill : fw_me mi_Union_fill 2 := ⟨fw_mem 446 (by decide +kernel) rfl, rfl, fw_mem 56 (by decide +kernel) rfl, by decide, by decide +kernel, by decide⟩
theorem im_Union_fill : Cond.instanceMethod mi_Union_fill.1 ∈ fw_big := fw_mem 445 (by decide +kernel) rfl
theorem me_Bag_addAll : fw_me mi_Bag_addAll 1 := ⟨fw_mem 451 (by decide +kernel) rfl, rfl, fw_mem 43 (by decide +kernel) rfl, by decide, by decide +kernel, by decide⟩
theorem im_Bag_addAll : Cond.instanceMethod mi_Bag_addAll.1 ∈ fw_big := fw_mem 449 (by decide +kernel) rfl
theorem se_Bag_addAll : Cond.selects mi_Bag_addAll.1.cls mi_Bag_addAll.1 mi_Bag_addAll.1 ∈ fw_big := fw_mem 450 (by decide +kernel) rfl
theorem me_Batch_addTo : fw_me mi_Batch_addTo 2 := ⟨fw_mem 458 (by decide +kernel) rfl, rfl, fw_mem 39 (by decide +kernel) rfl, by decide, by decide +kernel, by decide⟩
theorem im_Batch_addTo : Cond.instanceMethod mi_Batch_addTo.1 ∈ fw_big := fw_mem 456 (by decide +kernel) rfl
theorem se_Batch_addTo : Cond.selects mi_Batch_addTo.1.cls mi_Batch_addTo.1 mi_Batch_addTo.1 ∈ fw_big := fw_mem 457 (by decide +kernel) rfl
theorem me_View_keepsLimits : fw_me mi_View_keepsLimits 0 := ⟨fw_mem 464 (by decide +kernel) rfl, rfl, fw_mem 40 (by decide +kernel) rfl, by decide, by decide +kernel, by decide⟩
theorem im_View_keepsLimits : Cond.instanceMethod mi_View_keepsLimits.1 ∈ fw_big := fw_mem 462 (by decide +kernel) rfl
theorem se_View_keepsLimits : Cond.selects mi_View_keepsLimits.1.cls mi_View_keepsLimits.1 mi_View_keepsLimits.1 ∈ fw_big := fw_mem 463 (by decide +kernel) rfl
theorem me_Table_allows : fw_me mi_Table_allows 1 := ⟨fw_mem 475 (by decide +kernel) rfl, rfl, fw_mem 42 (by decide +kernel) rfl, by decide, by decide +kernel, by decide⟩
theorem im_Table_allows : Cond.instanceMethod mi_Table_allows.1 ∈ fw_big := fw_mem 474 (by decide +kernel) rfl
theorem me_Bag_hasTimesOutside : fw_me mi_Bag_hasTimesOutside 2 := ⟨fw_mem 479 (by decide +kernel) rfl, rfl, fw_mem 43 (by decide +kernel) rfl, by decide, by decide +kernel, by decide⟩
theorem im_Bag_hasTimesOutside : Cond.instanceMethod mi_Bag_hasTimesOutside.1 ∈ fw_big := fw_mem 477 (by decide +kernel) rfl
theorem se_Bag_hasTimesOutside : Cond.selects mi_Bag_hasTimesOutside.1.cls mi_Bag_hasTimesOutside.1 mi_Bag_hasTimesOutside.1 ∈ fw_big := fw_mem 478 (by decide +kernel) rfl
theorem me_Oper_allows : fw_me mi_Oper_allows 1 := ⟨fw_mem 481 (by decide +kernel) rfl, rfl, fw_mem 41 (by decide +kernel) rfl, by decide, by decide +kernel, by decide⟩
theorem im_Oper_allows : Cond.instanceMethod mi_Oper_allows.1 ∈ fw_big := fw_mem 466 (by decide +kernel) rfl
theorem me_DV_takeBack : fw_me mi_DV_takeBack 1 := ⟨fw_mem 485 (by decide +kernel) rfl, rfl, fw_mem 38 (by decide +kernel) rfl, by decide, by decide +kernel, by decide⟩
theorem im_DV_takeBack : Cond.instanceMethod mi_DV_takeBack.1 ∈ fw_big := fw_mem 484 (by decide +kernel) rfl
theorem se_DV_takeBack : Cond.selects mi_DV_takeBack.1.cls mi_DV_takeBack.1 mi_DV_takeBack.1 ∈ fw_big := fw_mem 12 (by decide +kernel) rfl
theorem me_View_countMoved : fw_me mi_View_countMoved 0 := ⟨fw_mem 491 (by decide +kernel) rfl, rfl, fw_mem 40 (by decide +kernel) rfl, by decide, by decide +kernel, by decide⟩
theorem im_View_countMoved : Cond.instanceMethod mi_View_countMoved.1 ∈ fw_big := fw_mem 489 (by decide +kernel) rfl
theorem se_View_countMoved : Cond.selects mi_View_countMoved.1.cls mi_View_countMoved.1 mi_View_countMoved.1 ∈ fw_big := fw_mem 490 (by decide +kernel) rfl
theorem me_Bag_differencesFrom : fw_me mi_Bag_differencesFrom 1 := ⟨fw_mem 495 (by decide +kernel) rfl, rfl, fw_mem 43 (by decide +kernel) rfl, by decide, by decide +kernel, by decide⟩
theorem im_Bag_differencesFrom : Cond.instanceMethod mi_Bag_differencesFrom.1 ∈ fw_big := fw_mem 493 (by decide +kernel) rfl
theorem se_Bag_differencesFrom : Cond.selects mi_Bag_differencesFrom.1.cls mi_Bag_differencesFrom.1 mi_Bag_differencesFrom.1 ∈ fw_big := fw_mem 494 (by decide +kernel) rfl
theorem me_Bag_orderOfRows : fw_me mi_Bag_orderOfRows 3 := ⟨fw_mem 499 (by decide +kernel) rfl, rfl, fw_mem 43 (by decide +kernel) rfl, by decide, by decide +kernel, by decide⟩
theorem im_Bag_orderOfRows : Cond.instanceMethod mi_Bag_orderOfRows.1 ∈ fw_big := fw_mem 498 (by decide +kernel) rfl
theorem se_Bag_orderOfRows : Cond.selects mi_Bag_orderOfRows.1.cls mi_Bag_orderOfRows.1 mi_Bag_orderOfRows.1 ∈ fw_big := fw_mem 13 (by decide +kernel) rfl
theorem me_Law_select : fw_me mi_Law_select 6 := ⟨fw_mem 502 (by decide +kernel) rfl, rfl, fw_mem 37 (by decide +kernel) rfl, by decide, by decide +kernel, by decide⟩
theorem st_Law_select : Cond.static mi_Law_select.1 ∈ fw_big := fw_mem 501 (by decide +kernel) rfl
theorem me_DV_select : fw_me mi_DV_select 4 := ⟨fw_mem 506 (by decide +kernel) rfl, rfl, fw_mem 38 (by decide +kernel) rfl, by decide, by decide +kernel, by decide⟩
theorem im_DV_select : Cond.instanceMethod mi_DV_select.1 ∈ fw_big := fw_mem 504 (by decide +kernel) rfl
theorem se_DV_select : Cond.selects mi_DV_select.1.cls mi_DV_select.1 mi_DV_select.1 ∈ fw_big := fw_mem 505 (by decide +kernel) rfl
theorem me_DV_viewAt : fw_me mi_DV_viewAt 1 := ⟨fw_mem 510 (by decide +kernel) rfl, rfl, fw_mem 38 (by decide +kernel) rfl, by decide, by decide +kernel, by decide⟩
theorem im_DV_viewAt : Cond.instanceMethod mi_DV_viewAt.1 ∈ fw_big := fw_mem 509 (by decide +kernel) rfl
theorem se_DV_viewAt : Cond.selects mi_DV_viewAt.1.cls mi_DV_viewAt.1 mi_DV_viewAt.1 ∈ fw_big := fw_mem 14 (by decide +kernel) rfl
theorem me_DV_needColumn : fw_me mi_DV_needColumn 2 := ⟨fw_mem 514 (by decide +kernel) rfl, rfl, fw_mem 38 (by decide +kernel) rfl, by decide, by decide +kernel, by decide⟩
theorem st_DV_needColumn : Cond.static mi_DV_needColumn.1 ∈ fw_big := fw_mem 513 (by decide +kernel) rfl
theorem me_Select_init : fw_me mi_Select_init 4 := ⟨fw_mem 520 (by decide +kernel) rfl, rfl, fw_mem 53 (by decide +kernel) rfl, by decide, by decide +kernel, by decide⟩
theorem im_Select_init : Cond.instanceMethod mi_Select_init.1 ∈ fw_big := fw_mem 519 (by decide +kernel) rfl
theorem me_DV_makeView : fw_me mi_DV_makeView 1 := ⟨fw_mem 538 (by decide +kernel) rfl, rfl, fw_mem 38 (by decide +kernel) rfl, by decide, by decide +kernel, by decide⟩
theorem im_DV_makeView : Cond.instanceMethod mi_DV_makeView.1 ∈ fw_big := fw_mem 537 (by decide +kernel) rfl
theorem se_DV_makeView : Cond.selects mi_DV_makeView.1.cls mi_DV_makeView.1 mi_DV_makeView.1 ∈ fw_big := fw_mem 15 (by decide +kernel) rfl
theorem me_View_begin : fw_me mi_View_begin 1 := ⟨fw_mem 543 (by decide +kernel) rfl, rfl, fw_mem 40 (by decide +kernel) rfl, by decide, by decide +kernel, by decide⟩
theorem im_View_begin : Cond.instanceMethod mi_View_begin.1 ∈ fw_big := fw_mem 541 (by decide +kernel) rfl
theorem se_View_begin : Cond.selects mi_View_begin.1.cls mi_View_begin.1 mi_View_begin.1 ∈ fw_big := fw_mem 542 (by decide +kernel) rfl
theorem me_Law_project : fw_me mi_Law_project 5 := ⟨fw_mem 547 (by decide +kernel) rfl, rfl, fw_mem 37 (by decide +kernel) rfl, by decide, by decide +kernel, by decide⟩
theorem st_Law_project : Cond.static mi_Law_project.1 ∈ fw_big := fw_mem 546 (by decide +kernel) rfl
theorem me_DV_project : fw_me mi_DV_project 3 := ⟨fw_mem 551 (by decide +kernel) rfl, rfl, fw_mem 38 (by decide +kernel) rfl, by decide, by decide +kernel, by decide⟩
theorem im_DV_project : Cond.instanceMethod mi_DV_project.1 ∈ fw_big := fw_mem 549 (by decide +kernel) rfl
theorem se_DV_project : Cond.selects mi_DV_project.1.cls mi_DV_project.1 mi_DV_project.1 ∈ fw_big := fw_mem 550 (by decide +kernel) rfl
theorem me_Project_init : fw_me mi_Project_init 3 := ⟨fw_mem 558 (by decide +kernel) rfl, rfl, fw_mem 54 (by decide +kernel) rfl, by decide, by decide +kernel, by decide⟩
theorem im_Project_init : Cond.instanceMethod mi_Project_init.1 ∈ fw_big := fw_mem 557 (by decide +kernel) rfl
theorem me_Law_join : fw_me mi_Law_join 6 := ⟨fw_mem 572 (by decide +kernel) rfl, rfl, fw_mem 37 (by decide +kernel) rfl, by decide, by decide +kernel, by decide⟩
theorem st_Law_join : Cond.static mi_Law_join.1 ∈ fw_big := fw_mem 571 (by decide +kernel) rfl
theorem me_DV_join : fw_me mi_DV_join 4 := ⟨fw_mem 576 (by decide +kernel) rfl, rfl, fw_mem 38 (by decide +kernel) rfl, by decide, by decide +kernel, by decide⟩
theorem im_DV_join : Cond.instanceMethod mi_DV_join.1 ∈ fw_big := fw_mem 574 (by decide +kernel) rfl
theorem se_DV_join : Cond.selects mi_DV_join.1.cls mi_DV_join.1 mi_DV_join.1 ∈ fw_big := fw_mem 575 (by decide +kernel) rfl
theorem me_Join_init : fw_me mi_Join_init 4 := ⟨fw_mem 581 (by decide +kernel) rfl, rfl, fw_mem 55 (by decide +kernel) rfl, by decide, by decide +kernel, by decide⟩
theorem im_Join_init : Cond.instanceMethod mi_Join_init.1 ∈ fw_big := fw_mem 580 (by decide +kernel) rfl
theorem me_Law_union : fw_me mi_Law_union 4 := ⟨fw_mem 598 (by decide +kernel) rfl, rfl, fw_mem 37 (by decide +kernel) rfl, by decide, by decide +kernel, by decide⟩
theorem st_Law_union : Cond.static mi_Law_union.1 ∈ fw_big := fw_mem 597 (by decide +kernel) rfl
theorem me_DV_union : fw_me mi_DV_union 2 := ⟨fw_mem 602 (by decide +kernel) rfl, rfl, fw_mem 38 (by decide +kernel) rfl, by decide, by decide +kernel, by decide⟩
theorem im_DV_union : Cond.instanceMethod mi_DV_union.1 ∈ fw_big := fw_mem 600 (by decide +kernel) rfl
theorem se_DV_union : Cond.selects mi_DV_union.1.cls mi_DV_union.1 mi_DV_union.1 ∈ fw_big := fw_mem 601 (by decide +kernel) rfl
theorem me_Union_init : fw_me mi_Union_init 2 := ⟨fw_mem 608 (by decide +kernel) rfl, rfl, fw_mem 56 (by decide +kernel) rfl, by decide, by decide +kernel, by decide⟩
theorem im_Union_init : Cond.instanceMethod mi_Union_init.1 ∈ fw_big := fw_mem 607 (by decide +kernel) rfl
theorem me_Law_group : fw_me mi_Law_group 6 := ⟨fw_mem 619 (by decide +kernel) rfl, rfl, fw_mem 37 (by decide +kernel) rfl, by decide, by decide +kernel, by decide⟩
theorem st_Law_group : Cond.static mi_Law_group.1 ∈ fw_big := fw_mem 618 (by decide +kernel) rfl
theorem me_DV_group : fw_me mi_DV_group 4 := ⟨fw_mem 623 (by decide +kernel) rfl, rfl, fw_mem 38 (by decide +kernel) rfl, by decide, by decide +kernel, by decide⟩
theorem im_DV_group : Cond.instanceMethod mi_DV_group.1 ∈ fw_big := fw_mem 621 (by decide +kernel) rfl
theorem se_DV_group : Cond.selects mi_DV_group.1.cls mi_DV_group.1 mi_DV_group.1 ∈ fw_big := fw_mem 622 (by decide +kernel) rfl
theorem me_Group_init : fw_me mi_Group_init 4 := ⟨fw_mem 628 (by decide +kernel) rfl, rfl, fw_mem 57 (by decide +kernel) rfl, by decide, by decide +kernel, by decide⟩
theorem im_Group_init : Cond.instanceMethod mi_Group_init.1 ∈ fw_big := fw_mem 627 (by decide +kernel) rfl
theorem me_Law_distinct : fw_me mi_Law_distinct 3 := ⟨fw_mem 645 (by decide +kernel) rfl, rfl, fw_mem 37 (by decide +kernel) rfl, by decide, by decide +kernel, by decide⟩
theorem st_Law_distinct : Cond.static mi_Law_distinct.1 ∈ fw_big := fw_mem 644 (by decide +kernel) rfl
theorem me_DV_distinct : fw_me mi_DV_distinct 1 := ⟨fw_mem 649 (by decide +kernel) rfl, rfl, fw_mem 38 (by decide +kernel) rfl, by decide, by decide +kernel, by decide⟩
theorem im_DV_distinct : Cond.instanceMethod mi_DV_distinct.1 ∈ fw_big := fw_mem 647 (by decide +kernel) rfl
theorem se_DV_distinct : Cond.selects mi_DV_distinct.1.cls mi_DV_distinct.1 mi_DV_distinct.1 ∈ fw_big := fw_mem 648 (by decide +kernel) rfl
theorem me_Distinct_init : fw_me mi_Distinct_init 1 := ⟨fw_mem 654 (by decide +kernel) rfl, rfl, fw_mem 58 (by decide +kernel) rfl, by decide, by decide +kernel, by decide⟩
theorem im_Distinct_init : Cond.instanceMethod mi_Distinct_init.1 ∈ fw_big := fw_mem 653 (by decide +kernel) rfl
theorem me_Law_drop : fw_me mi_Law_drop 2 := ⟨fw_mem 662 (by decide +kernel) rfl, rfl, fw_mem 37 (by decide +kernel) rfl, by decide, by decide +kernel, by decide⟩
theorem st_Law_drop : Cond.static mi_Law_drop.1 ∈ fw_big := fw_mem 661 (by decide +kernel) rfl
theorem me_DV_drop : fw_me mi_DV_drop 0 := ⟨fw_mem 666 (by decide +kernel) rfl, rfl, fw_mem 38 (by decide +kernel) rfl, by decide, by decide +kernel, by decide⟩
theorem im_DV_drop : Cond.instanceMethod mi_DV_drop.1 ∈ fw_big := fw_mem 664 (by decide +kernel) rfl
theorem se_DV_drop : Cond.selects mi_DV_drop.1.cls mi_DV_drop.1 mi_DV_drop.1 ∈ fw_big := fw_mem 665 (by decide +kernel) rfl
theorem me_Law_width : fw_me mi_Law_width 3 := ⟨fw_mem 670 (by decide +kernel) rfl, rfl, fw_mem 37 (by decide +kernel) rfl, by decide, by decide +kernel, by decide⟩
theorem st_Law_width : Cond.static mi_Law_width.1 ∈ fw_big := fw_mem 669 (by decide +kernel) rfl
theorem me_DV_width : fw_me mi_DV_width 1 := ⟨fw_mem 674 (by decide +kernel) rfl, rfl, fw_mem 38 (by decide +kernel) rfl, by decide, by decide +kernel, by decide⟩
theorem im_DV_width : Cond.instanceMethod mi_DV_width.1 ∈ fw_big := fw_mem 672 (by decide +kernel) rfl
theorem se_DV_width : Cond.selects mi_DV_width.1.cls mi_DV_width.1 mi_DV_width.1 ∈ fw_big := fw_mem 673 (by decide +kernel) rfl
theorem me_Law_rows : fw_me mi_Law_rows 3 := ⟨fw_mem 677 (by decide +kernel) rfl, rfl, fw_mem 37 (by decide +kernel) rfl, by decide, by decide +kernel, by decide⟩
theorem st_Law_rows : Cond.static mi_Law_rows.1 ∈ fw_big := fw_mem 676 (by decide +kernel) rfl
theorem me_DV_rows : fw_me mi_DV_rows 1 := ⟨fw_mem 681 (by decide +kernel) rfl, rfl, fw_mem 38 (by decide +kernel) rfl, by decide, by decide +kernel, by decide⟩
theorem im_DV_rows : Cond.instanceMethod mi_DV_rows.1 ∈ fw_big := fw_mem 679 (by decide +kernel) rfl
theorem se_DV_rows : Cond.selects mi_DV_rows.1.cls mi_DV_rows.1 mi_DV_rows.1 ∈ fw_big := fw_mem 680 (by decide +kernel) rfl
theorem me_Law_cell : fw_me mi_Law_cell 5 := ⟨fw_mem 684 (by decide +kernel) rfl, rfl, fw_mem 37 (by decide +kernel) rfl, by decide, by decide +kernel, by decide⟩
theorem st_Law_cell : Cond.static mi_Law_cell.1 ∈ fw_big := fw_mem 683 (by decide +kernel) rfl
theorem me_DV_cell : fw_me mi_DV_cell 3 := ⟨fw_mem 689 (by decide +kernel) rfl, rfl, fw_mem 38 (by decide +kernel) rfl, by decide, by decide +kernel, by decide⟩
theorem im_DV_cell : Cond.instanceMethod mi_DV_cell.1 ∈ fw_big := fw_mem 687 (by decide +kernel) rfl
theorem se_DV_cell : Cond.selects mi_DV_cell.1.cls mi_DV_cell.1 mi_DV_cell.1 ∈ fw_big := fw_mem 688 (by decide +kernel) rfl
theorem me_DV_needRow : fw_me mi_DV_needRow 2 := ⟨fw_mem 692 (by decide +kernel) rfl, rfl, fw_mem 38 (by decide +kernel) rfl, by decide, by decide +kernel, by decide⟩
theorem st_DV_needRow : Cond.static mi_DV_needRow.1 ∈ fw_big := fw_mem 691 (by decide +kernel) rfl
theorem me_Law_times : fw_me mi_Law_times 4 := ⟨fw_mem 712 (by decide +kernel) rfl, rfl, fw_mem 37 (by decide +kernel) rfl, by decide, by decide +kernel, by decide⟩
theorem st_Law_times : Cond.static mi_Law_times.1 ∈ fw_big := fw_mem 711 (by decide +kernel) rfl
theorem me_DV_times : fw_me mi_DV_times 2 := ⟨fw_mem 716 (by decide +kernel) rfl, rfl, fw_mem 38 (by decide +kernel) rfl, by decide, by decide +kernel, by decide⟩
theorem im_DV_times : Cond.instanceMethod mi_DV_times.1 ∈ fw_big := fw_mem 714 (by decide +kernel) rfl
theorem se_DV_times : Cond.selects mi_DV_times.1.cls mi_DV_times.1 mi_DV_times.1 ∈ fw_big := fw_mem 715 (by decide +kernel) rfl
theorem me_Law_many : fw_me mi_Law_many 7 := ⟨fw_mem 720 (by decide +kernel) rfl, rfl, fw_mem 37 (by decide +kernel) rfl, by decide, by decide +kernel, by decide⟩
theorem st_Law_many : Cond.static mi_Law_many.1 ∈ fw_big := fw_mem 719 (by decide +kernel) rfl
theorem me_DV_many : fw_me mi_DV_many 5 := ⟨fw_mem 724 (by decide +kernel) rfl, rfl, fw_mem 38 (by decide +kernel) rfl, by decide, by decide +kernel, by decide⟩
theorem im_DV_many : Cond.instanceMethod mi_DV_many.1 ∈ fw_big := fw_mem 722 (by decide +kernel) rfl
theorem se_DV_many : Cond.selects mi_DV_many.1.cls mi_DV_many.1 mi_DV_many.1 ∈ fw_big := fw_mem 723 (by decide +kernel) rfl
theorem me_Bag_timesOfPending : fw_me mi_Bag_timesOfPending 0 := ⟨fw_mem 729 (by decide +kernel) rfl, rfl, fw_mem 43 (by decide +kernel) rfl, by decide, by decide +kernel, by decide⟩
theorem im_Bag_timesOfPending : Cond.instanceMethod mi_Bag_timesOfPending.1 ∈ fw_big := fw_mem 727 (by decide +kernel) rfl
theorem se_Bag_timesOfPending : Cond.selects mi_Bag_timesOfPending.1.cls mi_Bag_timesOfPending.1 mi_Bag_timesOfPending.1 ∈ fw_big := fw_mem 728 (by decide +kernel) rfl
theorem me_Law_moved : fw_me mi_Law_moved 3 := ⟨fw_mem 732 (by decide +kernel) rfl, rfl, fw_mem 37 (by decide +kernel) rfl, by decide, by decide +kernel, by decide⟩
theorem st_Law_moved : Cond.static mi_Law_moved.1 ∈ fw_big := fw_mem 731 (by decide +kernel) rfl
theorem me_DV_moved : fw_me mi_DV_moved 1 := ⟨fw_mem 736 (by decide +kernel) rfl, rfl, fw_mem 38 (by decide +kernel) rfl, by decide, by decide +kernel, by decide⟩
theorem im_DV_moved : Cond.instanceMethod mi_DV_moved.1 ∈ fw_big := fw_mem 734 (by decide +kernel) rfl
theorem se_DV_moved : Cond.selects mi_DV_moved.1.cls mi_DV_moved.1 mi_DV_moved.1 ∈ fw_big := fw_mem 735 (by decide +kernel) rfl
theorem me_Mo_init : fw_me mi_Mo_init 0 := ⟨fw_mem 741 (by decide +kernel) rfl, rfl, fw_mem 44 (by decide +kernel) rfl, by decide, by decide +kernel, by decide⟩
theorem im_Mo_init : Cond.instanceMethod mi_Mo_init.1 ∈ fw_big := fw_mem 740 (by decide +kernel) rfl
theorem me_Mo_thrown : fw_me mi_Mo_thrown 0 := ⟨fw_mem 813 (by decide +kernel) rfl, rfl, fw_mem 44 (by decide +kernel) rfl, by decide, by decide +kernel, by decide⟩
theorem im_Mo_thrown : Cond.instanceMethod mi_Mo_thrown.1 ∈ fw_big := fw_mem 811 (by decide +kernel) rfl
theorem se_Mo_thrown : Cond.selects mi_Mo_thrown.1.cls mi_Mo_thrown.1 mi_Mo_thrown.1 ∈ fw_big := fw_mem 812 (by decide +kernel) rfl
theorem me_Mo_change : fw_me mi_Mo_change 4 := ⟨fw_mem 817 (by decide +kernel) rfl, rfl, fw_mem 44 (by decide +kernel) rfl, by decide, by decide +kernel, by decide⟩
theorem im_Mo_change : Cond.instanceMethod mi_Mo_change.1 ∈ fw_big := fw_mem 815 (by decide +kernel) rfl
theorem se_Mo_change : Cond.selects mi_Mo_change.1.cls mi_Mo_change.1 mi_Mo_change.1 ∈ fw_big := fw_mem 816 (by decide +kernel) rfl
theorem me_Mo_cancel : fw_me mi_Mo_cancel 0 := ⟨fw_mem 821 (by decide +kernel) rfl, rfl, fw_mem 44 (by decide +kernel) rfl, by decide, by decide +kernel, by decide⟩
theorem im_Mo_cancel : Cond.instanceMethod mi_Mo_cancel.1 ∈ fw_big := fw_mem 819 (by decide +kernel) rfl
theorem se_Mo_cancel : Cond.selects mi_Mo_cancel.1.cls mi_Mo_cancel.1 mi_Mo_cancel.1 ∈ fw_big := fw_mem 820 (by decide +kernel) rfl
theorem me_Mo_commit : fw_me mi_Mo_commit 0 := ⟨fw_mem 825 (by decide +kernel) rfl, rfl, fw_mem 44 (by decide +kernel) rfl, by decide, by decide +kernel, by decide⟩
theorem im_Mo_commit : Cond.instanceMethod mi_Mo_commit.1 ∈ fw_big := fw_mem 823 (by decide +kernel) rfl
theorem se_Mo_commit : Cond.selects mi_Mo_commit.1.cls mi_Mo_commit.1 mi_Mo_commit.1 ∈ fw_big := fw_mem 824 (by decide +kernel) rfl
theorem me_Mo_tryTable : fw_me mi_Mo_tryTable 1 := ⟨fw_mem 829 (by decide +kernel) rfl, rfl, fw_mem 44 (by decide +kernel) rfl, by decide, by decide +kernel, by decide⟩
theorem im_Mo_tryTable : Cond.instanceMethod mi_Mo_tryTable.1 ∈ fw_big := fw_mem 828 (by decide +kernel) rfl
theorem se_Mo_tryTable : Cond.selects mi_Mo_tryTable.1.cls mi_Mo_tryTable.1 mi_Mo_tryTable.1 ∈ fw_big := fw_mem 16 (by decide +kernel) rfl
theorem me_Mo_take : fw_me mi_Mo_take 2 := ⟨fw_mem 833 (by decide +kernel) rfl, rfl, fw_mem 44 (by decide +kernel) rfl, by decide, by decide +kernel, by decide⟩
theorem im_Mo_take : Cond.instanceMethod mi_Mo_take.1 ∈ fw_big := fw_mem 832 (by decide +kernel) rfl
theorem se_Mo_take : Cond.selects mi_Mo_take.1.cls mi_Mo_take.1 mi_Mo_take.1 ∈ fw_big := fw_mem 17 (by decide +kernel) rfl
theorem me_Mo_cellOf : fw_me mi_Mo_cellOf 3 := ⟨fw_mem 837 (by decide +kernel) rfl, rfl, fw_mem 44 (by decide +kernel) rfl, by decide, by decide +kernel, by decide⟩
theorem im_Mo_cellOf : Cond.instanceMethod mi_Mo_cellOf.1 ∈ fw_big := fw_mem 836 (by decide +kernel) rfl
theorem se_Mo_cellOf : Cond.selects mi_Mo_cellOf.1.cls mi_Mo_cellOf.1 mi_Mo_cellOf.1 ∈ fw_big := fw_mem 18 (by decide +kernel) rfl
theorem me_Mo_gather : fw_me mi_Mo_gather 2 := ⟨fw_mem 841 (by decide +kernel) rfl, rfl, fw_mem 44 (by decide +kernel) rfl, by decide, by decide +kernel, by decide⟩
theorem im_Mo_gather : Cond.instanceMethod mi_Mo_gather.1 ∈ fw_big := fw_mem 840 (by decide +kernel) rfl
theorem se_Mo_gather : Cond.selects mi_Mo_gather.1.cls mi_Mo_gather.1 mi_Mo_gather.1 ∈ fw_big := fw_mem 19 (by decide +kernel) rfl
theorem me_Mo_isRow : fw_me mi_Mo_isRow 2 := ⟨fw_mem 845 (by decide +kernel) rfl, rfl, fw_mem 44 (by decide +kernel) rfl, by decide, by decide +kernel, by decide⟩
theorem im_Mo_isRow : Cond.instanceMethod mi_Mo_isRow.1 ∈ fw_big := fw_mem 844 (by decide +kernel) rfl
theorem se_Mo_isRow : Cond.selects mi_Mo_isRow.1.cls mi_Mo_isRow.1 mi_Mo_isRow.1 ∈ fw_big := fw_mem 20 (by decide +kernel) rfl
theorem me_Mo_settle : fw_me mi_Mo_settle 3 := ⟨fw_mem 850 (by decide +kernel) rfl, rfl, fw_mem 44 (by decide +kernel) rfl, by decide, by decide +kernel, by decide⟩
theorem im_Mo_settle : Cond.instanceMethod mi_Mo_settle.1 ∈ fw_big := fw_mem 849 (by decide +kernel) rfl
theorem se_Mo_settle : Cond.selects mi_Mo_settle.1.cls mi_Mo_settle.1 mi_Mo_settle.1 ∈ fw_big := fw_mem 21 (by decide +kernel) rfl
theorem me_Mo_comesBefore : fw_me mi_Mo_comesBefore 3 := ⟨fw_mem 854 (by decide +kernel) rfl, rfl, fw_mem 44 (by decide +kernel) rfl, by decide, by decide +kernel, by decide⟩
theorem im_Mo_comesBefore : Cond.instanceMethod mi_Mo_comesBefore.1 ∈ fw_big := fw_mem 853 (by decide +kernel) rfl
theorem se_Mo_comesBefore : Cond.selects mi_Mo_comesBefore.1.cls mi_Mo_comesBefore.1 mi_Mo_comesBefore.1 ∈ fw_big := fw_mem 22 (by decide +kernel) rfl
theorem me_Mo_work : fw_me mi_Mo_work 2 := ⟨fw_mem 858 (by decide +kernel) rfl, rfl, fw_mem 44 (by decide +kernel) rfl, by decide, by decide +kernel, by decide⟩
theorem im_Mo_work : Cond.instanceMethod mi_Mo_work.1 ∈ fw_big := fw_mem 857 (by decide +kernel) rfl
theorem se_Mo_work : Cond.selects mi_Mo_work.1.cls mi_Mo_work.1 mi_Mo_work.1 ∈ fw_big := fw_mem 23 (by decide +kernel) rfl
theorem me_Mo_selects : fw_me mi_Mo_selects 2 := ⟨fw_mem 862 (by decide +kernel) rfl, rfl, fw_mem 44 (by decide +kernel) rfl, by decide, by decide +kernel, by decide⟩
theorem im_Mo_selects : Cond.instanceMethod mi_Mo_selects.1 ∈ fw_big := fw_mem 861 (by decide +kernel) rfl
theorem se_Mo_selects : Cond.selects mi_Mo_selects.1.cls mi_Mo_selects.1 mi_Mo_selects.1 ∈ fw_big := fw_mem 24 (by decide +kernel) rfl
theorem me_Mo_passes : fw_me mi_Mo_passes 3 := ⟨fw_mem 865 (by decide +kernel) rfl, rfl, fw_mem 44 (by decide +kernel) rfl, by decide, by decide +kernel, by decide⟩
theorem st_Mo_passes : Cond.static mi_Mo_passes.1 ∈ fw_big := fw_mem 864 (by decide +kernel) rfl
theorem me_Mo_projects : fw_me mi_Mo_projects 2 := ⟨fw_mem 869 (by decide +kernel) rfl, rfl, fw_mem 44 (by decide +kernel) rfl, by decide, by decide +kernel, by decide⟩
theorem im_Mo_projects : Cond.instanceMethod mi_Mo_projects.1 ∈ fw_big := fw_mem 868 (by decide +kernel) rfl
theorem se_Mo_projects : Cond.selects mi_Mo_projects.1.cls mi_Mo_projects.1 mi_Mo_projects.1 ∈ fw_big := fw_mem 25 (by decide +kernel) rfl
theorem me_Mo_joins : fw_me mi_Mo_joins 3 := ⟨fw_mem 873 (by decide +kernel) rfl, rfl, fw_mem 44 (by decide +kernel) rfl, by decide, by decide +kernel, by decide⟩
theorem im_Mo_joins : Cond.instanceMethod mi_Mo_joins.1 ∈ fw_big := fw_mem 872 (by decide +kernel) rfl
theorem se_Mo_joins : Cond.selects mi_Mo_joins.1.cls mi_Mo_joins.1 mi_Mo_joins.1 ∈ fw_big := fw_mem 26 (by decide +kernel) rfl
theorem me_Mo_all : fw_me mi_Mo_all 3 := ⟨fw_mem 877 (by decide +kernel) rfl, rfl, fw_mem 44 (by decide +kernel) rfl, by decide, by decide +kernel, by decide⟩
theorem im_Mo_all : Cond.instanceMethod mi_Mo_all.1 ∈ fw_big := fw_mem 876 (by decide +kernel) rfl
theorem se_Mo_all : Cond.selects mi_Mo_all.1.cls mi_Mo_all.1 mi_Mo_all.1 ∈ fw_big := fw_mem 27 (by decide +kernel) rfl
theorem me_Mo_groups : fw_me mi_Mo_groups 2 := ⟨fw_mem 881 (by decide +kernel) rfl, rfl, fw_mem 44 (by decide +kernel) rfl, by decide, by decide +kernel, by decide⟩
theorem im_Mo_groups : Cond.instanceMethod mi_Mo_groups.1 ∈ fw_big := fw_mem 880 (by decide +kernel) rfl
theorem se_Mo_groups : Cond.selects mi_Mo_groups.1.cls mi_Mo_groups.1 mi_Mo_groups.1 ∈ fw_big := fw_mem 28 (by decide +kernel) rfl
theorem me_Mo_result : fw_me mi_Mo_result 3 := ⟨fw_mem 885 (by decide +kernel) rfl, rfl, fw_mem 44 (by decide +kernel) rfl, by decide, by decide +kernel, by decide⟩
theorem im_Mo_result : Cond.instanceMethod mi_Mo_result.1 ∈ fw_big := fw_mem 884 (by decide +kernel) rfl
theorem se_Mo_result : Cond.selects mi_Mo_result.1.cls mi_Mo_result.1 mi_Mo_result.1 ∈ fw_big := fw_mem 29 (by decide +kernel) rfl
theorem me_Mo_takeOver : fw_me mi_Mo_takeOver 1 := ⟨fw_mem 889 (by decide +kernel) rfl, rfl, fw_mem 44 (by decide +kernel) rfl, by decide, by decide +kernel, by decide⟩
theorem im_Mo_takeOver : Cond.instanceMethod mi_Mo_takeOver.1 ∈ fw_big := fw_mem 888 (by decide +kernel) rfl
theorem se_Mo_takeOver : Cond.selects mi_Mo_takeOver.1.cls mi_Mo_takeOver.1 mi_Mo_takeOver.1 ∈ fw_big := fw_mem 30 (by decide +kernel) rfl
theorem me_Mo_differing : fw_me mi_Mo_differing 1 := ⟨fw_mem 893 (by decide +kernel) rfl, rfl, fw_mem 44 (by decide +kernel) rfl, by decide, by decide +kernel, by decide⟩
theorem im_Mo_differing : Cond.instanceMethod mi_Mo_differing.1 ∈ fw_big := fw_mem 892 (by decide +kernel) rfl
theorem se_Mo_differing : Cond.selects mi_Mo_differing.1.cls mi_Mo_differing.1 mi_Mo_differing.1 ∈ fw_big := fw_mem 31 (by decide +kernel) rfl
theorem me_Mo_timesOf : fw_me mi_Mo_timesOf 4 := ⟨fw_mem 897 (by decide +kernel) rfl, rfl, fw_mem 44 (by decide +kernel) rfl, by decide, by decide +kernel, by decide⟩
theorem im_Mo_timesOf : Cond.instanceMethod mi_Mo_timesOf.1 ∈ fw_big := fw_mem 896 (by decide +kernel) rfl
theorem se_Mo_timesOf : Cond.selects mi_Mo_timesOf.1.cls mi_Mo_timesOf.1 mi_Mo_timesOf.1 ∈ fw_big := fw_mem 32 (by decide +kernel) rfl
theorem me_Mo_select : fw_me mi_Mo_select 4 := ⟨fw_mem 901 (by decide +kernel) rfl, rfl, fw_mem 44 (by decide +kernel) rfl, by decide, by decide +kernel, by decide⟩
theorem im_Mo_select : Cond.instanceMethod mi_Mo_select.1 ∈ fw_big := fw_mem 899 (by decide +kernel) rfl
theorem se_Mo_select : Cond.selects mi_Mo_select.1.cls mi_Mo_select.1 mi_Mo_select.1 ∈ fw_big := fw_mem 900 (by decide +kernel) rfl
theorem me_Mo_isColumn : fw_me mi_Mo_isColumn 2 := ⟨fw_mem 905 (by decide +kernel) rfl, rfl, fw_mem 44 (by decide +kernel) rfl, by decide, by decide +kernel, by decide⟩
theorem im_Mo_isColumn : Cond.instanceMethod mi_Mo_isColumn.1 ∈ fw_big := fw_mem 904 (by decide +kernel) rfl
theorem se_Mo_isColumn : Cond.selects mi_Mo_isColumn.1.cls mi_Mo_isColumn.1 mi_Mo_isColumn.1 ∈ fw_big := fw_mem 33 (by decide +kernel) rfl
theorem me_Mo_isView : fw_me mi_Mo_isView 1 := ⟨fw_mem 909 (by decide +kernel) rfl, rfl, fw_mem 44 (by decide +kernel) rfl, by decide, by decide +kernel, by decide⟩
theorem im_Mo_isView : Cond.instanceMethod mi_Mo_isView.1 ∈ fw_big := fw_mem 908 (by decide +kernel) rfl
theorem se_Mo_isView : Cond.selects mi_Mo_isView.1.cls mi_Mo_isView.1 mi_Mo_isView.1 ∈ fw_big := fw_mem 34 (by decide +kernel) rfl
theorem me_Mo_told : fw_me mi_Mo_told 3 := ⟨fw_mem 913 (by decide +kernel) rfl, rfl, fw_mem 44 (by decide +kernel) rfl, by decide, by decide +kernel, by decide⟩
theorem im_Mo_told : Cond.instanceMethod mi_Mo_told.1 ∈ fw_big := fw_mem 912 (by decide +kernel) rfl
theorem se_Mo_told : Cond.selects mi_Mo_told.1.cls mi_Mo_told.1 mi_Mo_told.1 ∈ fw_big := fw_mem 35 (by decide +kernel) rfl
theorem me_Mo_make : fw_me mi_Mo_make 5 := ⟨fw_mem 917 (by decide +kernel) rfl, rfl, fw_mem 44 (by decide +kernel) rfl, by decide, by decide +kernel, by decide⟩
theorem im_Mo_make : Cond.instanceMethod mi_Mo_make.1 ∈ fw_big := fw_mem 916 (by decide +kernel) rfl
theorem se_Mo_make : Cond.selects mi_Mo_make.1.cls mi_Mo_make.1 mi_Mo_make.1 ∈ fw_big := fw_mem 36 (by decide +kernel) rfl
theorem me_Mo_project : fw_me mi_Mo_project 3 := ⟨fw_mem 921 (by decide +kernel) rfl, rfl, fw_mem 44 (by decide +kernel) rfl, by decide, by decide +kernel, by decide⟩
theorem im_Mo_project : Cond.instanceMethod mi_Mo_project.1 ∈ fw_big := fw_mem 919 (by decide +kernel) rfl
theorem se_Mo_project : Cond.selects mi_Mo_project.1.cls mi_Mo_project.1 mi_Mo_project.1 ∈ fw_big := fw_mem 920 (by decide +kernel) rfl
theorem me_Mo_join : fw_me mi_Mo_join 4 := ⟨fw_mem 925 (by decide +kernel) rfl, rfl, fw_mem 44 (by decide +kernel) rfl, by decide, by decide +kernel, by decide⟩
theorem im_Mo_join : Cond.instanceMethod mi_Mo_join.1 ∈ fw_big := fw_mem 923 (by decide +kernel) rfl
theorem se_Mo_join : Cond.selects mi_Mo_join.1.cls mi_Mo_join.1 mi_Mo_join.1 ∈ fw_big := fw_mem 924 (by decide +kernel) rfl
theorem me_Mo_union : fw_me mi_Mo_union 2 := ⟨fw_mem 929 (by decide +kernel) rfl, rfl, fw_mem 44 (by decide +kernel) rfl, by decide, by decide +kernel, by decide⟩
theorem im_Mo_union : Cond.instanceMethod mi_Mo_union.1 ∈ fw_big := fw_mem 927 (by decide +kernel) rfl
theorem se_Mo_union : Cond.selects mi_Mo_union.1.cls mi_Mo_union.1 mi_Mo_union.1 ∈ fw_big := fw_mem 928 (by decide +kernel) rfl
theorem me_Mo_group : fw_me mi_Mo_group 4 := ⟨fw_mem 933 (by decide +kernel) rfl, rfl, fw_mem 44 (by decide +kernel) rfl, by decide, by decide +kernel, by decide⟩
theorem im_Mo_group : Cond.instanceMethod mi_Mo_group.1 ∈ fw_big := fw_mem 931 (by decide +kernel) rfl
theorem se_Mo_group : Cond.selects mi_Mo_group.1.cls mi_Mo_group.1 mi_Mo_group.1 ∈ fw_big := fw_mem 932 (by decide +kernel) rfl
theorem me_Mo_distinct : fw_me mi_Mo_distinct 1 := ⟨fw_mem 937 (by decide +kernel) rfl, rfl, fw_mem 44 (by decide +kernel) rfl, by decide, by decide +kernel, by decide⟩
theorem im_Mo_distinct : Cond.instanceMethod mi_Mo_distinct.1 ∈ fw_big := fw_mem 935 (by decide +kernel) rfl
theorem se_Mo_distinct : Cond.selects mi_Mo_distinct.1.cls mi_Mo_distinct.1 mi_Mo_distinct.1 ∈ fw_big := fw_mem 936 (by decide +kernel) rfl
theorem me_Mo_drop : fw_me mi_Mo_drop 0 := ⟨fw_mem 941 (by decide +kernel) rfl, rfl, fw_mem 44 (by decide +kernel) rfl, by decide, by decide +kernel, by decide⟩
theorem im_Mo_drop : Cond.instanceMethod mi_Mo_drop.1 ∈ fw_big := fw_mem 939 (by decide +kernel) rfl
theorem se_Mo_drop : Cond.selects mi_Mo_drop.1.cls mi_Mo_drop.1 mi_Mo_drop.1 ∈ fw_big := fw_mem 940 (by decide +kernel) rfl
theorem me_Mo_width : fw_me mi_Mo_width 1 := ⟨fw_mem 945 (by decide +kernel) rfl, rfl, fw_mem 44 (by decide +kernel) rfl, by decide, by decide +kernel, by decide⟩
theorem im_Mo_width : Cond.instanceMethod mi_Mo_width.1 ∈ fw_big := fw_mem 943 (by decide +kernel) rfl
theorem se_Mo_width : Cond.selects mi_Mo_width.1.cls mi_Mo_width.1 mi_Mo_width.1 ∈ fw_big := fw_mem 944 (by decide +kernel) rfl
theorem me_Mo_rows : fw_me mi_Mo_rows 1 := ⟨fw_mem 949 (by decide +kernel) rfl, rfl, fw_mem 44 (by decide +kernel) rfl, by decide, by decide +kernel, by decide⟩
theorem im_Mo_rows : Cond.instanceMethod mi_Mo_rows.1 ∈ fw_big := fw_mem 947 (by decide +kernel) rfl
theorem se_Mo_rows : Cond.selects mi_Mo_rows.1.cls mi_Mo_rows.1 mi_Mo_rows.1 ∈ fw_big := fw_mem 948 (by decide +kernel) rfl
theorem me_Mo_cell : fw_me mi_Mo_cell 3 := ⟨fw_mem 953 (by decide +kernel) rfl, rfl, fw_mem 44 (by decide +kernel) rfl, by decide, by decide +kernel, by decide⟩
theorem im_Mo_cell : Cond.instanceMethod mi_Mo_cell.1 ∈ fw_big := fw_mem 951 (by decide +kernel) rfl
theorem se_Mo_cell : Cond.selects mi_Mo_cell.1.cls mi_Mo_cell.1 mi_Mo_cell.1 ∈ fw_big := fw_mem 952 (by decide +kernel) rfl
theorem me_Mo_times : fw_me mi_Mo_times 2 := ⟨fw_mem 957 (by decide +kernel) rfl, rfl, fw_mem 44 (by decide +kernel) rfl, by decide, by decide +kernel, by decide⟩
theorem im_Mo_times : Cond.instanceMethod mi_Mo_times.1 ∈ fw_big := fw_mem 955 (by decide +kernel) rfl
theorem se_Mo_times : Cond.selects mi_Mo_times.1.cls mi_Mo_times.1 mi_Mo_times.1 ∈ fw_big := fw_mem 956 (by decide +kernel) rfl
theorem me_Mo_many : fw_me mi_Mo_many 5 := ⟨fw_mem 961 (by decide +kernel) rfl, rfl, fw_mem 44 (by decide +kernel) rfl, by decide, by decide +kernel, by decide⟩
theorem im_Mo_many : Cond.instanceMethod mi_Mo_many.1 ∈ fw_big := fw_mem 959 (by decide +kernel) rfl
theorem se_Mo_many : Cond.selects mi_Mo_many.1.cls mi_Mo_many.1 mi_Mo_many.1 ∈ fw_big := fw_mem 960 (by decide +kernel) rfl
theorem me_Mo_moved : fw_me mi_Mo_moved 1 := ⟨fw_mem 965 (by decide +kernel) rfl, rfl, fw_mem 44 (by decide +kernel) rfl, by decide, by decide +kernel, by decide⟩
theorem im_Mo_moved : Cond.instanceMethod mi_Mo_moved.1 ∈ fw_big := fw_mem 963 (by decide +kernel) rfl
theorem se_Mo_moved : Cond.selects mi_Mo_moved.1.cls mi_Mo_moved.1 mi_Mo_moved.1 ∈ fw_big := fw_mem 964 (by decide +kernel) rfl
theorem lk_DV_21 : fw_lnk "DeltaViews" 21 mi_Batch_init.1 := Or.inr ⟨"DeltaViews", fw_mem 72 (by decide +kernel) rfl⟩
theorem lk_DV_28 : fw_lnk "DeltaViews" 28 mi_Table_init.1 := Or.inr ⟨"DeltaViews", fw_mem 96 (by decide +kernel) rfl⟩
theorem lk_DV_29 : fw_lnk "DeltaViews" 29 mi_View_init.1 := Or.inl (fw_mem 104 (by decide +kernel) rfl)
theorem lk_DV_39 : fw_lnk "DeltaViews" 39 mi_DV_isTooFar.1 := Or.inl (fw_mem 262 (by decide +kernel) rfl)
theorem lk_DV_48 : fw_lnk "DeltaViews" 48 mi_Batch_isFull.1 := Or.inl (fw_mem 281 (by decide +kernel) rfl)
theorem lk_DV_57 : fw_lnk "DeltaViews" 57 mi_Batch_append.1 := Or.inl (fw_mem 301 (by decide +kernel) rfl)
theorem lk_DV_61 : fw_lnk "DeltaViews" 61 mi_Batch_empty.1 := Or.inl (fw_mem 179 (by decide +kernel) rfl)
theorem lk_DV_65 : fw_lnk "DeltaViews" 65 mi_DV_renewViews.1 := Or.inl (fw_mem 312 (by decide +kernel) rfl)
theorem lk_DV_70 : fw_lnk "DeltaViews" 70 mi_View_countMoved.1 := Or.inl (fw_mem 488 (by decide +kernel) rfl)
theorem lk_DV_76 : fw_lnk "DeltaViews" 76 mi_DV_viewAt.1 := Or.inl (fw_mem 507 (by decide +kernel) rfl)
theorem lk_DV_80 : fw_lnk "DeltaViews" 80 mi_DV_needColumn.1 := Or.inl (fw_mem 512 (by decide +kernel) rfl)
theorem lk_DV_88 : fw_lnk "DeltaViews" 88 mi_Select_init.1 := Or.inl (fw_mem 518 (by decide +kernel) rfl)
theorem lk_DV_91 : fw_lnk "DeltaViews" 91 mi_DV_makeView.1 := Or.inl (fw_mem 535 (by decide +kernel) rfl)
theorem lk_DV_97 : fw_lnk "DeltaViews" 97 mi_DV_columnInBits.1 := Or.inl (fw_mem 553 (by decide +kernel) rfl)
theorem lk_DV_103 : fw_lnk "DeltaViews" 103 mi_Project_init.1 := Or.inl (fw_mem 556 (by decide +kernel) rfl)
theorem lk_DV_119 : fw_lnk "DeltaViews" 119 mi_Join_init.1 := Or.inl (fw_mem 579 (by decide +kernel) rfl)
theorem lk_DV_126 : fw_lnk "DeltaViews" 126 mi_Union_init.1 := Or.inl (fw_mem 606 (by decide +kernel) rfl)
theorem lk_DV_133 : fw_lnk "DeltaViews" 133 mi_Group_init.1 := Or.inl (fw_mem 626 (by decide +kernel) rfl)
theorem lk_DV_136 : fw_lnk "DeltaViews" 136 mi_Distinct_init.1 := Or.inl (fw_mem 652 (by decide +kernel) rfl)
theorem lk_DV_144 : fw_lnk "DeltaViews" 144 mi_DV_needRow.1 := Or.inl (fw_mem 690 (by decide +kernel) rfl)
theorem lk_DV_147 : fw_lnk "DeltaViews" 147 mi_Bag_cellAt.1 := Or.inl (fw_mem 709 (by decide +kernel) rfl)
theorem lk_DV_150 : fw_lnk "DeltaViews" 150 mi_Bag_timesAt.1 := Or.inl (fw_mem 717 (by decide +kernel) rfl)
theorem lk_DV_154 : fw_lnk "DeltaViews" 154 mi_Bag_put.1 := Or.inl (fw_mem 725 (by decide +kernel) rfl)
theorem lk_DV_158 : fw_lnk "DeltaViews" 158 mi_Bag_timesOfPending.1 := Or.inl (fw_mem 726 (by decide +kernel) rfl)
theorem lk_DV_173 : fw_lnk "DeltaViews" 173 mi_View_begin.1 := Or.inl (fw_mem 540 (by decide +kernel) rfl)
theorem lk_DV_176 : fw_lnk "DeltaViews" 176 mi_View_keepsLimits.1 := Or.inl (fw_mem 461 (by decide +kernel) rfl)
theorem lk_DV_181 : fw_lnk "DeltaViews" 181 mi_View_renew.1 := Or.inl (fw_mem 316 (by decide +kernel) rfl)
theorem lk_DV_184 : fw_lnk "DeltaViews" 184 mi_Batch_addTo.1 := Or.inl (fw_mem 455 (by decide +kernel) rfl)
theorem lk_DV_188 : fw_lnk "DeltaViews" 188 mi_DV_takeBack.1 := Or.inl (fw_mem 482 (by decide +kernel) rfl)
theorem lk_DV_192 : fw_lnk "DeltaViews" 192 mi_View_exchangeBags.1 := Or.inl (fw_mem 486 (by decide +kernel) rfl)
theorem lk_Bag_35 : fw_lnk "DeltaViews$Bag" 35 mi_Bag_cellAt.1 := Or.inl (fw_mem 338 (by decide +kernel) rfl)
theorem lk_Bag_39 : fw_lnk "DeltaViews$Bag" 39 mi_Bag_put.1 := Or.inl (fw_mem 342 (by decide +kernel) rfl)
theorem lk_Bag_43 : fw_lnk "DeltaViews$Bag" 43 mi_Bag_placeOfPending.1 := Or.inl (fw_mem 350 (by decide +kernel) rfl)
theorem lk_Bag_47 : fw_lnk "DeltaViews$Bag" 47 mi_Bag_isPending.1 := Or.inl (fw_mem 358 (by decide +kernel) rfl)
theorem lk_Bag_51 : fw_lnk "DeltaViews$Bag" 51 mi_Bag_remove.1 := Or.inl (fw_mem 362 (by decide +kernel) rfl)
theorem lk_Bag_55 : fw_lnk "DeltaViews$Bag" 55 mi_Bag_insert.1 := Or.inl (fw_mem 369 (by decide +kernel) rfl)
theorem lk_Bag_59 : fw_lnk "DeltaViews$Bag" 59 mi_Bag_putRow.1 := Or.inl (fw_mem 452 (by decide +kernel) rfl)
theorem lk_Bag_63 : fw_lnk "DeltaViews$Bag" 63 mi_Bag_timesAt.1 := Or.inl (fw_mem 453 (by decide +kernel) rfl)
theorem lk_Bag_67 : fw_lnk "DeltaViews$Bag" 67 mi_Bag_add.1 := Or.inl (fw_mem 454 (by decide +kernel) rfl)
theorem lk_Bag_71 : fw_lnk "DeltaViews$Bag" 71 mi_Bag_orderOfRows.1 := Or.inl (fw_mem 496 (by decide +kernel) rfl)
theorem lk_Bag_75 : fw_lnk "DeltaViews$Bag" 75 mi_Bag_orderOfCells.1 := Or.inl (fw_mem 354 (by decide +kernel) rfl)
theorem lk_Batch_28 : fw_lnk "DeltaViews$Batch" 28 mi_Bag_put.1 := Or.inl (fw_mem 459 (by decide +kernel) rfl)
theorem lk_Batch_34 : fw_lnk "DeltaViews$Batch" 34 mi_Bag_add.1 := Or.inl (fw_mem 460 (by decide +kernel) rfl)
theorem lk_Distinct_1 : fw_lnk "DeltaViews$Distinct" 1 mi_Oper_init.1 := Or.inr ⟨"DeltaViews", fw_mem 655 (by decide +kernel) rfl⟩
theorem lk_Distinct_25 : fw_lnk "DeltaViews$Distinct" 25 mi_Bag_clear.1 := Or.inl (fw_mem 330 (by decide +kernel) rfl)
theorem lk_Distinct_32 : fw_lnk "DeltaViews$Distinct" 32 mi_Bag_putRow.1 := Or.inl (fw_mem 334 (by decide +kernel) rfl)
theorem lk_Distinct_36 : fw_lnk "DeltaViews$Distinct" 36 mi_Bag_add.1 := Or.inl (fw_mem 346 (by decide +kernel) rfl)
theorem lk_Group_3 : fw_lnk "DeltaViews$Group" 3 mi_Oper_init.1 := Or.inr ⟨"DeltaViews", fw_mem 629 (by decide +kernel) rfl⟩
theorem lk_Group_31 : fw_lnk "DeltaViews$Group" 31 mi_Bag_clear.1 := Or.inl (fw_mem 376 (by decide +kernel) rfl)
theorem lk_Group_40 : fw_lnk "DeltaViews$Group" 40 mi_Group_isFirstOfGroup.1 := Or.inl (fw_mem 377 (by decide +kernel) rfl)
theorem lk_Group_44 : fw_lnk "DeltaViews$Group" 44 mi_Bag_cellAt.1 := Or.inl (fw_mem 382 (by decide +kernel) rfl)
theorem lk_Group_48 : fw_lnk "DeltaViews$Group" 48 mi_Bag_put.1 := Or.inl (fw_mem 383 (by decide +kernel) rfl)
theorem lk_Group_52 : fw_lnk "DeltaViews$Group" 52 mi_Group_fold.1 := Or.inl (fw_mem 384 (by decide +kernel) rfl)
theorem lk_Group_56 : fw_lnk "DeltaViews$Group" 56 mi_Bag_add.1 := Or.inl (fw_mem 399 (by decide +kernel) rfl)
theorem lk_Group_60 : fw_lnk "DeltaViews$Group" 60 mi_Group_worth.1 := Or.inl (fw_mem 388 (by decide +kernel) rfl)
theorem lk_Group_68 : fw_lnk "DeltaViews$Group" 68 mi_Bag_timesAt.1 := Or.inl (fw_mem 392 (by decide +kernel) rfl)
theorem lk_Join_1 : fw_lnk "DeltaViews$Join" 1 mi_Oper_init.1 := Or.inr ⟨"DeltaViews", fw_mem 582 (by decide +kernel) rfl⟩
theorem lk_Join_34 : fw_lnk "DeltaViews$Join" 34 mi_Bag_clear.1 := Or.inl (fw_mem 403 (by decide +kernel) rfl)
theorem lk_Join_41 : fw_lnk "DeltaViews$Join" 41 mi_Join_addPartners.1 := Or.inl (fw_mem 404 (by decide +kernel) rfl)
theorem lk_Join_45 : fw_lnk "DeltaViews$Join" 45 mi_Bag_cellAt.1 := Or.inl (fw_mem 409 (by decide +kernel) rfl)
theorem lk_Join_49 : fw_lnk "DeltaViews$Join" 49 mi_Bag_putRow.1 := Or.inl (fw_mem 410 (by decide +kernel) rfl)
theorem lk_Join_53 : fw_lnk "DeltaViews$Join" 53 mi_Bag_timesAt.1 := Or.inl (fw_mem 411 (by decide +kernel) rfl)
theorem lk_Join_57 : fw_lnk "DeltaViews$Join" 57 mi_Bag_add.1 := Or.inl (fw_mem 412 (by decide +kernel) rfl)
theorem lk_Project_1 : fw_lnk "DeltaViews$Project" 1 mi_Oper_init.1 := Or.inr ⟨"DeltaViews", fw_mem 559 (by decide +kernel) rfl⟩
theorem lk_Project_26 : fw_lnk "DeltaViews$Project" 26 mi_Bag_clear.1 := Or.inl (fw_mem 416 (by decide +kernel) rfl)
theorem lk_Project_35 : fw_lnk "DeltaViews$Project" 35 mi_DV_columnInBits.1 := Or.inr ⟨"DeltaViews", fw_mem 417 (by decide +kernel) rfl⟩
theorem lk_Project_41 : fw_lnk "DeltaViews$Project" 41 mi_Bag_cellAt.1 := Or.inl (fw_mem 420 (by decide +kernel) rfl)
theorem lk_Project_44 : fw_lnk "DeltaViews$Project" 44 mi_Bag_put.1 := Or.inl (fw_mem 421 (by decide +kernel) rfl)
theorem lk_Project_48 : fw_lnk "DeltaViews$Project" 48 mi_Bag_timesAt.1 := Or.inl (fw_mem 422 (by decide +kernel) rfl)
theorem lk_Project_52 : fw_lnk "DeltaViews$Project" 52 mi_Bag_add.1 := Or.inl (fw_mem 423 (by decide +kernel) rfl)
theorem lk_Select_3 : fw_lnk "DeltaViews$Select" 3 mi_Oper_init.1 := Or.inr ⟨"DeltaViews", fw_mem 521 (by decide +kernel) rfl⟩
theorem lk_Select_36 : fw_lnk "DeltaViews$Select" 36 mi_Bag_clear.1 := Or.inl (fw_mem 427 (by decide +kernel) rfl)
theorem lk_Select_43 : fw_lnk "DeltaViews$Select" 43 mi_Bag_cellAt.1 := Or.inl (fw_mem 428 (by decide +kernel) rfl)
theorem lk_Select_47 : fw_lnk "DeltaViews$Select" 47 mi_Select_passes.1 := Or.inl (fw_mem 429 (by decide +kernel) rfl)
theorem lk_Select_51 : fw_lnk "DeltaViews$Select" 51 mi_Bag_putRow.1 := Or.inl (fw_mem 434 (by decide +kernel) rfl)
theorem lk_Select_55 : fw_lnk "DeltaViews$Select" 55 mi_Bag_timesAt.1 := Or.inl (fw_mem 435 (by decide +kernel) rfl)
theorem lk_Select_59 : fw_lnk "DeltaViews$Select" 59 mi_Bag_add.1 := Or.inl (fw_mem 436 (by decide +kernel) rfl)
theorem lk_Table_3 : fw_lnk "DeltaViews$Table" 3 mi_Oper_init.1 := Or.inr ⟨"DeltaViews", fw_mem 99 (by decide +kernel) rfl⟩
theorem lk_Table_9 : fw_lnk "DeltaViews$Table" 9 mi_Bag_copy.1 := Or.inl (fw_mem 440 (by decide +kernel) rfl)
theorem lk_Table_19 : fw_lnk "DeltaViews$Table" 19 mi_Bag_hasTimesOutside.1 := Or.inl (fw_mem 476 (by decide +kernel) rfl)
theorem lk_Union_1 : fw_lnk "DeltaViews$Union" 1 mi_Oper_init.1 := Or.inr ⟨"DeltaViews", fw_mem 609 (by decide +kernel) rfl⟩
theorem lk_Union_28 : fw_lnk "DeltaViews$Union" 28 mi_Bag_clear.1 := Or.inl (fw_mem 447 (by decide +kernel) rfl)
theorem lk_Union_32 : fw_lnk "DeltaViews$Union" 32 mi_Bag_addAll.1 := Or.inl (fw_mem 448 (by decide +kernel) rfl)
theorem lk_View_9 : fw_lnk "DeltaViews$View" 9 mi_Bag_init.1 := Or.inr ⟨"DeltaViews", fw_mem 110 (by decide +kernel) rfl⟩
theorem lk_View_33 : fw_lnk "DeltaViews$View" 33 mi_View_exchangeBags.1 := Or.inl (fw_mem 320 (by decide +kernel) rfl)
theorem lk_View_36 : fw_lnk "DeltaViews$View" 36 mi_Oper_allows.1 := Or.inl (fw_mem 465 (by decide +kernel) rfl)
theorem lk_View_40 : fw_lnk "DeltaViews$View" 40 mi_Bag_differencesFrom.1 := Or.inl (fw_mem 492 (by decide +kernel) rfl)
theorem lk_Law_7 : fw_lnk "DeltaViewsLaw" 7 mi_DV_change.1 := Or.inl (fw_mem 189 (by decide +kernel) rfl)
theorem lk_Law_19 : fw_lnk "DeltaViewsLaw" 19 mi_DV_commit.1 := Or.inl (fw_mem 308 (by decide +kernel) rfl)
theorem lk_Law_23 : fw_lnk "DeltaViewsLaw" 23 mi_DV_select.1 := Or.inl (fw_mem 503 (by decide +kernel) rfl)
theorem lk_Law_26 : fw_lnk "DeltaViewsLaw" 26 mi_DV_project.1 := Or.inl (fw_mem 548 (by decide +kernel) rfl)
theorem lk_Law_30 : fw_lnk "DeltaViewsLaw" 30 mi_DV_join.1 := Or.inl (fw_mem 573 (by decide +kernel) rfl)
theorem lk_Law_33 : fw_lnk "DeltaViewsLaw" 33 mi_DV_union.1 := Or.inl (fw_mem 599 (by decide +kernel) rfl)
theorem lk_Law_37 : fw_lnk "DeltaViewsLaw" 37 mi_DV_group.1 := Or.inl (fw_mem 620 (by decide +kernel) rfl)
theorem lk_Law_40 : fw_lnk "DeltaViewsLaw" 40 mi_DV_distinct.1 := Or.inl (fw_mem 646 (by decide +kernel) rfl)
theorem lk_Law_44 : fw_lnk "DeltaViewsLaw" 44 mi_DV_drop.1 := Or.inl (fw_mem 663 (by decide +kernel) rfl)
theorem lk_Law_47 : fw_lnk "DeltaViewsLaw" 47 mi_DV_width.1 := Or.inl (fw_mem 671 (by decide +kernel) rfl)
theorem lk_Law_50 : fw_lnk "DeltaViewsLaw" 50 mi_DV_rows.1 := Or.inl (fw_mem 678 (by decide +kernel) rfl)
theorem lk_Law_53 : fw_lnk "DeltaViewsLaw" 53 mi_DV_cell.1 := Or.inl (fw_mem 686 (by decide +kernel) rfl)
theorem lk_Law_58 : fw_lnk "DeltaViewsLaw" 58 mi_DV_times.1 := Or.inl (fw_mem 713 (by decide +kernel) rfl)
theorem lk_Law_62 : fw_lnk "DeltaViewsLaw" 62 mi_DV_many.1 := Or.inl (fw_mem 721 (by decide +kernel) rfl)
theorem lk_Law_66 : fw_lnk "DeltaViewsLaw" 66 mi_DV_moved.1 := Or.inl (fw_mem 733 (by decide +kernel) rfl)
theorem lk_Law_69 : fw_lnk "DeltaViewsLaw" 69 mi_DV_init.1 := Or.inl (fw_mem 62 (by decide +kernel) rfl)
theorem lk_Law_72 : fw_lnk "DeltaViewsLaw" 72 mi_Mo_init.1 := Or.inl (fw_mem 739 (by decide +kernel) rfl)
theorem lk_Law_73 : fw_lnk "DeltaViewsLaw" 73 mi_Law_change.1 := Or.inl (fw_mem 183 (by decide +kernel) rfl)
theorem lk_Law_78 : fw_lnk "DeltaViewsLaw" 78 mi_Mo_change.1 := Or.inl (fw_mem 814 (by decide +kernel) rfl)
theorem lk_Law_79 : fw_lnk "DeltaViewsLaw" 79 mi_Mo_thrown.1 := Or.inl (fw_mem 810 (by decide +kernel) rfl)
theorem lk_Law_82 : fw_lnk "DeltaViewsLaw" 82 mi_DV_cancel.1 := Or.inl (fw_mem 175 (by decide +kernel) rfl)
theorem lk_Law_85 : fw_lnk "DeltaViewsLaw" 85 mi_Mo_cancel.1 := Or.inl (fw_mem 818 (by decide +kernel) rfl)
theorem lk_Law_86 : fw_lnk "DeltaViewsLaw" 86 mi_Law_commit.1 := Or.inl (fw_mem 305 (by decide +kernel) rfl)
theorem lk_Law_89 : fw_lnk "DeltaViewsLaw" 89 mi_Mo_commit.1 := Or.inl (fw_mem 822 (by decide +kernel) rfl)
theorem lk_Law_90 : fw_lnk "DeltaViewsLaw" 90 mi_Law_select.1 := Or.inl (fw_mem 500 (by decide +kernel) rfl)
theorem lk_Law_92 : fw_lnk "DeltaViewsLaw" 92 mi_Mo_select.1 := Or.inl (fw_mem 898 (by decide +kernel) rfl)
theorem lk_Law_93 : fw_lnk "DeltaViewsLaw" 93 mi_Law_project.1 := Or.inl (fw_mem 545 (by decide +kernel) rfl)
theorem lk_Law_96 : fw_lnk "DeltaViewsLaw" 96 mi_Mo_project.1 := Or.inl (fw_mem 918 (by decide +kernel) rfl)
theorem lk_Law_97 : fw_lnk "DeltaViewsLaw" 97 mi_Law_join.1 := Or.inl (fw_mem 570 (by decide +kernel) rfl)
theorem lk_Law_99 : fw_lnk "DeltaViewsLaw" 99 mi_Mo_join.1 := Or.inl (fw_mem 922 (by decide +kernel) rfl)
theorem lk_Law_100 : fw_lnk "DeltaViewsLaw" 100 mi_Law_union.1 := Or.inl (fw_mem 596 (by decide +kernel) rfl)
theorem lk_Law_103 : fw_lnk "DeltaViewsLaw" 103 mi_Mo_union.1 := Or.inl (fw_mem 926 (by decide +kernel) rfl)
theorem lk_Law_104 : fw_lnk "DeltaViewsLaw" 104 mi_Law_group.1 := Or.inl (fw_mem 617 (by decide +kernel) rfl)
theorem lk_Law_106 : fw_lnk "DeltaViewsLaw" 106 mi_Mo_group.1 := Or.inl (fw_mem 930 (by decide +kernel) rfl)
theorem lk_Law_107 : fw_lnk "DeltaViewsLaw" 107 mi_Law_distinct.1 := Or.inl (fw_mem 643 (by decide +kernel) rfl)
theorem lk_Law_110 : fw_lnk "DeltaViewsLaw" 110 mi_Mo_distinct.1 := Or.inl (fw_mem 934 (by decide +kernel) rfl)
theorem lk_Law_111 : fw_lnk "DeltaViewsLaw" 111 mi_Law_drop.1 := Or.inl (fw_mem 660 (by decide +kernel) rfl)
theorem lk_Law_113 : fw_lnk "DeltaViewsLaw" 113 mi_Mo_drop.1 := Or.inl (fw_mem 938 (by decide +kernel) rfl)
theorem lk_Law_114 : fw_lnk "DeltaViewsLaw" 114 mi_Law_width.1 := Or.inl (fw_mem 668 (by decide +kernel) rfl)
theorem lk_Law_116 : fw_lnk "DeltaViewsLaw" 116 mi_Mo_width.1 := Or.inl (fw_mem 942 (by decide +kernel) rfl)
theorem lk_Law_117 : fw_lnk "DeltaViewsLaw" 117 mi_Law_rows.1 := Or.inl (fw_mem 675 (by decide +kernel) rfl)
theorem lk_Law_119 : fw_lnk "DeltaViewsLaw" 119 mi_Mo_rows.1 := Or.inl (fw_mem 946 (by decide +kernel) rfl)
theorem lk_Law_120 : fw_lnk "DeltaViewsLaw" 120 mi_Law_cell.1 := Or.inl (fw_mem 682 (by decide +kernel) rfl)
theorem lk_Law_122 : fw_lnk "DeltaViewsLaw" 122 mi_Mo_cell.1 := Or.inl (fw_mem 950 (by decide +kernel) rfl)
theorem lk_Law_123 : fw_lnk "DeltaViewsLaw" 123 mi_Law_times.1 := Or.inl (fw_mem 710 (by decide +kernel) rfl)
theorem lk_Law_125 : fw_lnk "DeltaViewsLaw" 125 mi_Mo_times.1 := Or.inl (fw_mem 954 (by decide +kernel) rfl)
theorem lk_Law_126 : fw_lnk "DeltaViewsLaw" 126 mi_Law_many.1 := Or.inl (fw_mem 718 (by decide +kernel) rfl)
theorem lk_Law_129 : fw_lnk "DeltaViewsLaw" 129 mi_Mo_many.1 := Or.inl (fw_mem 958 (by decide +kernel) rfl)
theorem lk_Law_130 : fw_lnk "DeltaViewsLaw" 130 mi_Law_moved.1 := Or.inl (fw_mem 730 (by decide +kernel) rfl)
theorem lk_Law_132 : fw_lnk "DeltaViewsLaw" 132 mi_Mo_moved.1 := Or.inl (fw_mem 962 (by decide +kernel) rfl)
theorem lk_Mo_75 : fw_lnk "DeltaViewsModel" 75 mi_Mo_isRow.1 := Or.inl (fw_mem 842 (by decide +kernel) rfl)
theorem lk_Mo_79 : fw_lnk "DeltaViewsModel" 79 mi_Mo_comesBefore.1 := Or.inl (fw_mem 851 (by decide +kernel) rfl)
theorem lk_Mo_83 : fw_lnk "DeltaViewsModel" 83 mi_Mo_cellOf.1 := Or.inl (fw_mem 834 (by decide +kernel) rfl)
theorem lk_Mo_87 : fw_lnk "DeltaViewsModel" 87 mi_Mo_passes.1 := Or.inl (fw_mem 863 (by decide +kernel) rfl)
theorem lk_Mo_90 : fw_lnk "DeltaViewsModel" 90 mi_Mo_take.1 := Or.inl (fw_mem 830 (by decide +kernel) rfl)
theorem lk_Mo_94 : fw_lnk "DeltaViewsModel" 94 mi_Mo_gather.1 := Or.inl (fw_mem 838 (by decide +kernel) rfl)
theorem lk_Mo_98 : fw_lnk "DeltaViewsModel" 98 mi_Mo_result.1 := Or.inl (fw_mem 882 (by decide +kernel) rfl)
theorem lk_Mo_101 : fw_lnk "DeltaViewsModel" 101 mi_Mo_selects.1 := Or.inl (fw_mem 859 (by decide +kernel) rfl)
theorem lk_Mo_104 : fw_lnk "DeltaViewsModel" 104 mi_Mo_projects.1 := Or.inl (fw_mem 866 (by decide +kernel) rfl)
theorem lk_Mo_107 : fw_lnk "DeltaViewsModel" 107 mi_Mo_joins.1 := Or.inl (fw_mem 870 (by decide +kernel) rfl)
theorem lk_Mo_111 : fw_lnk "DeltaViewsModel" 111 mi_Mo_all.1 := Or.inl (fw_mem 874 (by decide +kernel) rfl)
theorem lk_Mo_115 : fw_lnk "DeltaViewsModel" 115 mi_Mo_groups.1 := Or.inl (fw_mem 878 (by decide +kernel) rfl)
theorem lk_Mo_118 : fw_lnk "DeltaViewsModel" 118 mi_Mo_settle.1 := Or.inl (fw_mem 847 (by decide +kernel) rfl)
theorem lk_Mo_126 : fw_lnk "DeltaViewsModel" 126 mi_Mo_timesOf.1 := Or.inl (fw_mem 894 (by decide +kernel) rfl)
theorem lk_Mo_130 : fw_lnk "DeltaViewsModel" 130 mi_Mo_differing.1 := Or.inl (fw_mem 890 (by decide +kernel) rfl)
theorem lk_Mo_134 : fw_lnk "DeltaViewsModel" 134 mi_Mo_tryTable.1 := Or.inl (fw_mem 826 (by decide +kernel) rfl)
theorem lk_Mo_138 : fw_lnk "DeltaViewsModel" 138 mi_Mo_work.1 := Or.inl (fw_mem 855 (by decide +kernel) rfl)
theorem lk_Mo_141 : fw_lnk "DeltaViewsModel" 141 mi_Mo_takeOver.1 := Or.inl (fw_mem 886 (by decide +kernel) rfl)
theorem lk_Mo_145 : fw_lnk "DeltaViewsModel" 145 mi_Mo_isView.1 := Or.inl (fw_mem 906 (by decide +kernel) rfl)
theorem lk_Mo_148 : fw_lnk "DeltaViewsModel" 148 mi_Mo_isColumn.1 := Or.inl (fw_mem 902 (by decide +kernel) rfl)
theorem lk_Mo_151 : fw_lnk "DeltaViewsModel" 151 mi_Mo_told.1 := Or.inl (fw_mem 910 (by decide +kernel) rfl)
theorem lk_Mo_154 : fw_lnk "DeltaViewsModel" 154 mi_Mo_make.1 := Or.inl (fw_mem 914 (by decide +kernel) rfl)
