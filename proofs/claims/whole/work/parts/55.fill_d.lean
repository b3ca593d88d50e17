theorem mx_1 : Cond.methodLink "DeltaViews$Group" 63 Lib.Math.max.name ∈ fw_big := fw_mem 396 (by decide +kernel) rfl
theorem mx_2 : Cond.static Lib.Math.max.name ∈ fw_big := fw_mem 397 (by decide +kernel) rfl
theorem mx_4 : Cond.code Lib.Math.max.name Lib.Math.max.code 2 (some .int) ∈ fw_big := fw_mem 398 (by decide +kernel) rfl
theorem mx_3 : Cond.initialized "java/lang/Math" ∈ fw_big := fw_mem 52 (by decide +kernel) rfl
theorem op_rs_none {kd p q : Nat} {k : Int32} : ∀ {B : MaB}, op_fst p k B = true → op_rs kd p q k B = none := by
  intro B h
  unfold op_rs
  have h1 : ∀ (B : MaB), (∀ x ∈ B, op_ky p x ≠ k) → B.foldl (fun a y => if op_ky p y = k then some (op_sv kd a (op_wo kd q y)) else a) none = none := by
    intro B
    induction B with
    | nil => intro _; rfl
    | cons y t ih =>
      intro h9
      rw [List.foldl_cons, if_neg (h9 y List.mem_cons_self)]
      exact ih (fun x hx => h9 x (List.mem_cons_of_mem _ hx))
  refine h1 B (fun x hx => ?_)
  have h2 := List.all_eq_true.mp h x hx
  rw [decide_eq_true_eq] at h2
  exact h2
set_option maxRecDepth 100000 in
set_option maxHeartbeats 4000000 in
theorem c_Group_worth (g : Gl) {w : Wd} {o v sz kd p q e we ne : Nat} {fe : Nat → Int32} {me : Nat → Int64} {pe : Nat → Int32} (hE : BGo w e we ne fe me pe) (hne : ne ≤ 32) (hwe : we ≤ 4) (hO : w o = some (cO 9 [.ref v, .int (nI kd), .int (nI p), .int (nI q)])) (hkd : kd ≤ 2) (hp : p < we) (hq : q < we) {r : Nat} (hr : r < 32) : CT g 1 0 0 mi_Group_worth [.ref o, .ref e, .int (nI r)] w sz (rdE (some (.int (op_wo kd q (ar_row fe we (4 * r), me r)))) w sz) := by
  refine CT.of (by decide) (Nat.le_of_ble_eq_true rfl) ?_
  refine v_aload_n (pc := 0) d_Group_worth_0 rfl rfl ?_
  refine v_get (pc := 1) d_Group_worth_1 fl_Group_15 hO rfl ?_
  have hk3 : kd = 0 ∨ kd = 1 ∨ kd = 2 := by omega
  rcases hk3 with rfl | rfl | rfl
  · skip
    refine v_look (pc := 4) (tgt := 32) d_Group_worth_4 (by decide) rfl rfl ?_
    refine v_aload_n (pc := 32) d_Group_worth_32 rfl rfl ?_
    refine v_iload_n (pc := 33) d_Group_worth_33 rfl rfl ?_
    refine v_aload_n (pc := 34) d_Group_worth_34 rfl rfl ?_
    refine v_get (pc := 35) d_Group_worth_35 fl_Group_22 hO rfl ?_
    refine v_cvR (pc := 38) (A := [.int (nI r), .int (nI q)]) (rest := []) (x := .int (fe (4 * r + q))) d_Group_worth_38 lk_Group_44 me_Bag_cellAt im_Bag_cellAt se_Bag_cellAt rfl hE.o rfl rfl (c_Bag_cellAt g hE (r := r) (c := q) (by omega)) (Nat.le_of_ble_eq_true rfl) (Nat.le_of_ble_eq_true rfl) (Nat.le_of_ble_eq_true rfl) (Nat.le_of_ble_eq_true rfl) ?_
    refine v_aload_n (pc := 41) d_Group_worth_41 rfl rfl ?_
    refine v_iload_n (pc := 42) d_Group_worth_42 rfl rfl ?_
    refine v_cvR (pc := 43) (A := [.int (nI r)]) (rest := [.int (fe (4 * r + q))]) (x := .long (me r)) d_Group_worth_43 lk_Group_68 me_Bag_timesAt im_Bag_timesAt se_Bag_timesAt rfl hE.o rfl rfl (c_Bag_timesAt g hE (r := r) (by omega)) (Nat.le_of_ble_eq_true rfl) (Nat.le_of_ble_eq_true rfl) (Nat.le_of_ble_eq_true rfl) (Nat.le_of_ble_eq_true rfl) ?_
    refine v_l2i (pc := 46) d_Group_worth_46 ?_
    refine v_imul (pc := 47) d_Group_worth_47 ?_
    exact v_iret (pc := 48) d_Group_worth_48 rfl (Nat.le_of_ble_eq_true rfl) (Nat.le_of_ble_eq_true rfl) ⟨by show _ = Sum.inl (some (Value.int ((ar_row fe we (4 * r)).getD q 0 * (me r).toInt32))); rw [ar_row_getD hq], rfl, rfl⟩
  · skip
    refine v_look (pc := 4) (tgt := 49) d_Group_worth_4 (by decide) rfl rfl ?_
    refine v_aload_n (pc := 49) d_Group_worth_49 rfl rfl ?_
    refine v_iload_n (pc := 50) d_Group_worth_50 rfl rfl ?_
    refine v_cvR (pc := 51) (A := [.int (nI r)]) (rest := []) (x := .long (me r)) d_Group_worth_51 lk_Group_68 me_Bag_timesAt im_Bag_timesAt se_Bag_timesAt rfl hE.o rfl rfl (c_Bag_timesAt g hE (r := r) (by omega)) (Nat.le_of_ble_eq_true rfl) (Nat.le_of_ble_eq_true rfl) (Nat.le_of_ble_eq_true rfl) (Nat.le_of_ble_eq_true rfl) ?_
    refine v_l2i (pc := 54) d_Group_worth_54 ?_
    exact v_iret (pc := 55) d_Group_worth_55 rfl (Nat.le_of_ble_eq_true rfl) (Nat.le_of_ble_eq_true rfl) ⟨rfl, rfl, rfl⟩
  · skip
    refine v_look (pc := 4) (tgt := 56) d_Group_worth_4 (by decide) rfl rfl ?_
    refine v_aload_n (pc := 56) d_Group_worth_56 rfl rfl ?_
    refine v_iload_n (pc := 57) d_Group_worth_57 rfl rfl ?_
    refine v_aload_n (pc := 58) d_Group_worth_58 rfl rfl ?_
    refine v_get (pc := 59) d_Group_worth_59 fl_Group_22 hO rfl ?_
    refine v_cvR (pc := 62) (A := [.int (nI r), .int (nI q)]) (rest := []) (x := .int (fe (4 * r + q))) d_Group_worth_62 lk_Group_44 me_Bag_cellAt im_Bag_cellAt se_Bag_cellAt rfl hE.o rfl rfl (c_Bag_cellAt g hE (r := r) (c := q) (by omega)) (Nat.le_of_ble_eq_true rfl) (Nat.le_of_ble_eq_true rfl) (Nat.le_of_ble_eq_true rfl) (Nat.le_of_ble_eq_true rfl) ?_
    exact v_iret (pc := 65) d_Group_worth_65 rfl (Nat.le_of_ble_eq_true rfl) (Nat.le_of_ble_eq_true rfl) ⟨by show _ = Sum.inl (some (Value.int ((ar_row fe we (4 * r)).getD q 0))); rw [ar_row_getD hq], rfl, rfl⟩
set_option maxRecDepth 100000 in
set_option maxHeartbeats 4000000 in
theorem lp_Group_isFirstOfGroup (g : Gl) {w : Wd} {o v sz kd p q e we ne : Nat} {fe : Nat → Int32} {me : Nat → Int64} {pe : Nat → Int32} (hE : BGo w e we ne fe me pe) (hne : ne ≤ 32) (hwe : we ≤ 4) (hO : w o = some (cO 9 [.ref v, .int (nI kd), .int (nI p), .int (nI q)])) (hkd : kd ≤ 2) (hp : p < we) (hq : q < we) {r : Nat} (hr : r < 32) : ∀ (zz : Nat) (s : Nat), r - s = zz → s ≤ r → (∀ j, j < s → ¬ fe (4 * j + p) = (fe (4 * r + p))) → VV g 1 0 0 mi_Group_isFirstOfGroup w sz (rdE (some (.int (if op_fst p (fe (4 * r + p)) (ar_bag fe me we 0 r) = true then 1 else 0))) w sz) 2 [(3, .int (nI s)), (0, .ref o), (1, .ref e), (2, .int (nI r))] [] w sz 0 0 := by
  intro zz
  induction zz using Nat.strongRecOn with | _ zz ih => _
  intro s hnn hsr hall
  refine v_iload_n (pc := 2) d_Group_isFirstOfGroup_2 rfl rfl ?_
  refine v_iload_n (pc := 3) d_Group_isFirstOfGroup_3 rfl rfl ?_
  refine v_icmp_ge (pc := 4) (tgt := 36) d_Group_isFirstOfGroup_4 rfl (fun hc => ?_) (fun hc => ?_)
  · skip
    rw [nI_leI (by omega) (by omega)] at hc
    refine v_iconst (pc := 36) (v := nI 1) d_Group_isFirstOfGroup_36 rfl ?_
    obtain rfl : s = r := by omega
    exact v_zret (pc := 37) d_Group_isFirstOfGroup_37 rfl z11 (Nat.le_of_ble_eq_true rfl) (Nat.le_of_ble_eq_true rfl) ⟨zr1 (List.all_eq_true.mpr (fun x hx => by obtain ⟨j, hj, rfl⟩ := ar_bag_mem hx; rw [decide_eq_true_eq, op_ky_row hp, Nat.zero_add]; exact hall j hj)), rfl, rfl⟩
  · skip
    rw [nI_leI (by omega) (by omega)] at hc
    refine v_aload_n (pc := 7) d_Group_isFirstOfGroup_7 rfl rfl ?_
    refine v_iload_n (pc := 8) d_Group_isFirstOfGroup_8 rfl rfl ?_
    refine v_aload_n (pc := 9) d_Group_isFirstOfGroup_9 rfl rfl ?_
    refine v_get (pc := 10) d_Group_isFirstOfGroup_10 fl_Group_19 hO rfl ?_
    refine v_cvR (pc := 13) (A := [.int (nI s), .int (nI p)]) (rest := []) (x := .int (fe (4 * s + p))) d_Group_isFirstOfGroup_13 lk_Group_44 me_Bag_cellAt im_Bag_cellAt se_Bag_cellAt rfl hE.o rfl rfl (c_Bag_cellAt g hE (r := s) (c := p) (by omega)) (Nat.le_of_ble_eq_true rfl) (Nat.le_of_ble_eq_true rfl) (Nat.le_of_ble_eq_true rfl) (Nat.le_of_ble_eq_true rfl) ?_
    refine v_aload_n (pc := 16) d_Group_isFirstOfGroup_16 rfl rfl ?_
    refine v_iload_n (pc := 17) d_Group_isFirstOfGroup_17 rfl rfl ?_
    refine v_aload_n (pc := 18) d_Group_isFirstOfGroup_18 rfl rfl ?_
    refine v_get (pc := 19) d_Group_isFirstOfGroup_19 fl_Group_19 hO rfl ?_
    refine v_cvR (pc := 22) (A := [.int (nI r), .int (nI p)]) (rest := [.int (fe (4 * s + p))]) (x := .int (fe (4 * r + p))) d_Group_isFirstOfGroup_22 lk_Group_44 me_Bag_cellAt im_Bag_cellAt se_Bag_cellAt rfl hE.o rfl rfl (c_Bag_cellAt g hE (r := r) (c := p) (by omega)) (Nat.le_of_ble_eq_true rfl) (Nat.le_of_ble_eq_true rfl) (Nat.le_of_ble_eq_true rfl) (Nat.le_of_ble_eq_true rfl) ?_
    refine v_icmp_ne (pc := 25) (tgt := 30) d_Group_isFirstOfGroup_25 rfl (fun hc => ?_) (fun hc => ?_)
    · skip
      refine v_iinc (pc := 30) (L' := [(3, .int (nI (s + 1))), (0, .ref o), (1, .ref e), (2, .int (nI r))]) d_Group_isFirstOfGroup_30 rfl (ix_inc _) (by decide) rfl ?_
      refine v_goto (pc := 33) (tgt := 2) d_Group_isFirstOfGroup_33 rfl ?_
      refine v_sub (L' := [(3, .int (nI (s + 1))), (0, .ref o), (1, .ref e), (2, .int (nI r))]) (by simp) ?_
      exact ih (r - (s + 1)) (by omega) (s + 1) rfl (by omega) (fun j hj => by by_cases h9 : j = s; (subst h9; exact hc); (exact hall j (by omega)))
    · skip
      refine v_iconst (pc := 28) (v := nI 0) d_Group_isFirstOfGroup_28 rfl ?_
      exact v_zret (pc := 29) d_Group_isFirstOfGroup_29 rfl z01 (Nat.le_of_ble_eq_true rfl) (Nat.le_of_ble_eq_true rfl) ⟨zr0 (fun h => by have h9 := List.all_eq_true.mp h _ (List.mem_of_getElem? (ar_bag_get (show s < r by omega))); rw [decide_eq_true_eq, op_ky_row hp, Nat.zero_add] at h9; exact h9 hc), rfl, rfl⟩
set_option maxRecDepth 100000 in
set_option maxHeartbeats 4000000 in
theorem c_Group_isFirstOfGroup (g : Gl) {w : Wd} {o v sz kd p q e we ne : Nat} {fe : Nat → Int32} {me : Nat → Int64} {pe : Nat → Int32} (hE : BGo w e we ne fe me pe) (hne : ne ≤ 32) (hwe : we ≤ 4) (hO : w o = some (cO 9 [.ref v, .int (nI kd), .int (nI p), .int (nI q)])) (hkd : kd ≤ 2) (hp : p < we) (hq : q < we) {r : Nat} (hr : r < 32) : CT g 1 0 0 mi_Group_isFirstOfGroup [.ref o, .ref e, .int (nI r)] w sz (rdE (some (.int (if op_fst p (fe (4 * r + p)) (ar_bag fe me we 0 r) = true then 1 else 0))) w sz) := by
  refine CT.of (by decide) (Nat.le_of_ble_eq_true rfl) ?_
  refine v_iconst (pc := 0) (v := nI 0) d_Group_isFirstOfGroup_0 rfl ?_
  refine v_istore_n (pc := 1) (L' := [(3, .int (nI 0)), (0, .ref o), (1, .ref e), (2, .int (nI r))]) d_Group_isFirstOfGroup_1 rfl (by decide) rfl ?_
  refine v_sub (L' := [(3, .int (nI 0)), (0, .ref o), (1, .ref e), (2, .int (nI r))]) (by simp) ?_
  exact lp_Group_isFirstOfGroup g hE hne hwe hO hkd hp hq hr r 0 rfl (by omega) (fun j hj => absurd hj (Nat.not_lt_zero _))
set_option maxRecDepth 100000 in
set_option maxHeartbeats 4000000 in
theorem lp_Group_fold (g : Gl) {w : Wd} {o v sz kd p q e we ne : Nat} {fe : Nat → Int32} {me : Nat → Int64} {pe : Nat → Int32} (hE : BGo w e we ne fe me pe) (hne : ne ≤ 32) (hwe : we ≤ 4) (hO : w o = some (cO 9 [.ref v, .int (nI kd), .int (nI p), .int (nI q)])) (hkd : kd ≤ 2) (hp : p < we) (hq : q < we) {r : Nat} (hr : r < ne) : ∀ (zz : Nat) (s : Nat), ne - s = zz → s ≤ ne → (op_rs kd p q (fe (4 * r + p)) (ar_bag fe me we 0 s)).isSome = true → VV g 2 0 0 mi_Group_fold w sz (rdE (some (.int ((op_rs kd p q (fe (4 * r + p)) (ar_bag fe me we 0 ne)).getD 0))) w sz) 12 [(4, .int (nI s)), (3, .int ((op_rs kd p q (fe (4 * r + p)) (ar_bag fe me we 0 s)).getD 0)), (0, .ref o), (1, .ref e), (2, .int (nI r))] [] w sz 0 0 := by
  intro zz
  induction zz using Nat.strongRecOn with | _ zz ih => _
  intro s hnn hsn hsm
  refine v_iload (pc := 12) d_Group_fold_12 rfl ?_
  refine v_aload_n (pc := 14) d_Group_fold_14 rfl rfl ?_
  refine v_get (pc := 15) d_Group_fold_15 fl_Group_37 hE.o rfl ?_
  refine v_icmp_ge (pc := 18) (tgt := 80) d_Group_fold_18 rfl (fun hc => ?_) (fun hc => ?_)
  · skip
    rw [nI_leI (by omega) (by omega)] at hc
    obtain rfl : s = ne := by omega
    refine v_iload_n (pc := 80) d_Group_fold_80 rfl rfl ?_
    exact v_iret (pc := 81) d_Group_fold_81 rfl (Nat.le_of_ble_eq_true rfl) (Nat.le_of_ble_eq_true rfl) ⟨rfl, rfl, rfl⟩
  · skip
    rw [nI_leI (by omega) (by omega)] at hc
    refine v_aload_n (pc := 21) d_Group_fold_21 rfl rfl ?_
    refine v_iload (pc := 22) d_Group_fold_22 rfl ?_
    refine v_aload_n (pc := 24) d_Group_fold_24 rfl rfl ?_
    refine v_get (pc := 25) d_Group_fold_25 fl_Group_19 hO rfl ?_
    refine v_cvR (pc := 28) (A := [.int (nI s), .int (nI p)]) (rest := []) (x := .int (fe (4 * s + p))) d_Group_fold_28 lk_Group_44 me_Bag_cellAt im_Bag_cellAt se_Bag_cellAt rfl hE.o rfl rfl (c_Bag_cellAt g hE (r := s) (c := p) (by omega)) (Nat.le_of_ble_eq_true rfl) (Nat.le_of_ble_eq_true rfl) (Nat.le_of_ble_eq_true rfl) (Nat.le_of_ble_eq_true rfl) ?_
    refine v_aload_n (pc := 31) d_Group_fold_31 rfl rfl ?_
    refine v_iload_n (pc := 32) d_Group_fold_32 rfl rfl ?_
    refine v_aload_n (pc := 33) d_Group_fold_33 rfl rfl ?_
    refine v_get (pc := 34) d_Group_fold_34 fl_Group_19 hO rfl ?_
    refine v_cvR (pc := 37) (A := [.int (nI r), .int (nI p)]) (rest := [.int (fe (4 * s + p))]) (x := .int (fe (4 * r + p))) d_Group_fold_37 lk_Group_44 me_Bag_cellAt im_Bag_cellAt se_Bag_cellAt rfl hE.o rfl rfl (c_Bag_cellAt g hE (r := r) (c := p) (by omega)) (Nat.le_of_ble_eq_true rfl) (Nat.le_of_ble_eq_true rfl) (Nat.le_of_ble_eq_true rfl) (Nat.le_of_ble_eq_true rfl) ?_
    refine v_icmp_ne (pc := 40) (tgt := 74) d_Group_fold_40 rfl (fun hc => ?_) (fun hc => ?_)
    · skip
      have hnh := hc
      refine v_iinc (pc := 74) (L' := [(4, .int (nI (s + 1))), (3, .int ((op_rs kd p q (fe (4 * r + p)) (ar_bag fe me we 0 s)).getD 0)), (0, .ref o), (1, .ref e), (2, .int (nI r))]) d_Group_fold_74 rfl (ix_inc _) (by decide) rfl ?_
      refine v_goto (pc := 77) (tgt := 12) d_Group_fold_77 rfl ?_
      have hst : (op_rs kd p q (fe (4 * r + p)) (ar_bag fe me we 0 (s + 1))) = (op_rs kd p q (fe (4 * r + p)) (ar_bag fe me we 0 s)) := by rw [ar_bag_snoc, op_rs_snoc, if_neg (by rw [op_ky_row hp, Nat.zero_add]; exact hnh)]
      rw [← hst]
      refine v_sub (L' := [(4, .int (nI (s + 1))), (3, .int ((op_rs kd p q (fe (4 * r + p)) (ar_bag fe me we 0 (s + 1))).getD 0)), (0, .ref o), (1, .ref e), (2, .int (nI r))]) (by simp) ?_
      exact ih (ne - (s + 1)) (by omega) (s + 1) rfl (by omega) (by rw [hst]; exact hsm)
    · skip
      have hst : (op_rs kd p q (fe (4 * r + p)) (ar_bag fe me we 0 (s + 1))) = some (op_sv kd (op_rs kd p q (fe (4 * r + p)) (ar_bag fe me we 0 s)) (op_wo kd q (ar_row fe we (4 * s), me s))) := by rw [ar_bag_snoc, op_rs_snoc, if_pos (by rw [op_ky_row hp, Nat.zero_add]; exact hc)]; rw [Nat.zero_add]
      refine v_aload_n (pc := 43) d_Group_fold_43 rfl rfl ?_
      refine v_aload_n (pc := 44) d_Group_fold_44 rfl rfl ?_
      refine v_iload (pc := 45) d_Group_fold_45 rfl ?_
      refine v_cvR (pc := 47) (A := [.ref e, .int (nI s)]) (rest := []) (x := .int (op_wo kd q (ar_row fe we (4 * s), me s))) d_Group_fold_47 lk_Group_60 me_Group_worth im_Group_worth se_Group_worth rfl hO rfl rfl (c_Group_worth g hE hne hwe hO hkd hp hq (r := s) (by omega)) (Nat.le_of_ble_eq_true rfl) (Nat.le_of_ble_eq_true rfl) (Nat.le_of_ble_eq_true rfl) (Nat.le_of_ble_eq_true rfl) ?_
      refine v_istore (pc := 50) (L' := [(5, .int (op_wo kd q (ar_row fe we (4 * s), me s))), (4, .int (nI s)), (3, .int ((op_rs kd p q (fe (4 * r + p)) (ar_bag fe me we 0 s)).getD 0)), (0, .ref o), (1, .ref e), (2, .int (nI r))]) d_Group_fold_50 (by decide) rfl ?_
      refine v_aload_n (pc := 52) d_Group_fold_52 rfl rfl ?_
      refine v_get (pc := 53) d_Group_fold_53 fl_Group_15 hO rfl ?_
      refine v_iconst (pc := 56) (v := nI 2) d_Group_fold_56 rfl ?_
      refine v_icmp_ne (pc := 57) (tgt := 69) d_Group_fold_57 rfl (fun hc => ?_) (fun hc => ?_)
      · skip
        rw [nI_eq (by omega) (by omega)] at hc
        refine v_iload_n (pc := 69) d_Group_fold_69 rfl rfl ?_
        refine v_iload (pc := 70) d_Group_fold_70 rfl ?_
        refine v_iadd (pc := 72) d_Group_fold_72 ?_
        have hv : op_sv kd (op_rs kd p q (fe (4 * r + p)) (ar_bag fe me we 0 s)) (op_wo kd q (ar_row fe we (4 * s), me s)) = (((op_rs kd p q (fe (4 * r + p)) (ar_bag fe me we 0 s)).getD 0) + (op_wo kd q (ar_row fe we (4 * s), me s))) := op_sv_s hc
        refine v_re (y := ((op_rs kd p q (fe (4 * r + p)) (ar_bag fe me we 0 (s + 1))).getD 0)) (by rw [hst, ← hv]; rfl) ?_
        refine v_istore_n (pc := 73) (L' := [(3, .int ((op_rs kd p q (fe (4 * r + p)) (ar_bag fe me we 0 (s + 1))).getD 0)), (5, .int (op_wo kd q (ar_row fe we (4 * s), me s))), (4, .int (nI s)), (0, .ref o), (1, .ref e), (2, .int (nI r))]) d_Group_fold_73 rfl (by decide) rfl ?_
        refine v_iinc (pc := 74) (L' := [(4, .int (nI (s + 1))), (3, .int ((op_rs kd p q (fe (4 * r + p)) (ar_bag fe me we 0 (s + 1))).getD 0)), (5, .int (op_wo kd q (ar_row fe we (4 * s), me s))), (0, .ref o), (1, .ref e), (2, .int (nI r))]) d_Group_fold_74 rfl (ix_inc _) (by decide) rfl ?_
        refine v_goto (pc := 77) (tgt := 12) d_Group_fold_77 rfl ?_
        refine v_sub (L' := [(4, .int (nI (s + 1))), (3, .int ((op_rs kd p q (fe (4 * r + p)) (ar_bag fe me we 0 (s + 1))).getD 0)), (0, .ref o), (1, .ref e), (2, .int (nI r))]) (by simp) ?_
        exact ih (ne - (s + 1)) (by omega) (s + 1) rfl (by omega) (by rw [hst]; rfl)
      · skip
        rw [nI_eq (by omega) (by omega)] at hc
        refine v_iload_n (pc := 60) d_Group_fold_60 rfl rfl ?_
        refine v_iload (pc := 61) d_Group_fold_61 rfl ?_
        refine v_max (pc := 63) d_Group_fold_63 mx_1 mx_2 mx_3 mx_4 (Nat.le_of_ble_eq_true rfl) (Nat.le_of_ble_eq_true rfl) (Nat.le_of_ble_eq_true rfl) (Nat.le_of_ble_eq_true rfl) ?_
        have hv : op_sv kd (op_rs kd p q (fe (4 * r + p)) (ar_bag fe me we 0 s)) (op_wo kd q (ar_row fe we (4 * s), me s)) = (if ((op_rs kd p q (fe (4 * r + p)) (ar_bag fe me we 0 s)).getD 0) < (op_wo kd q (ar_row fe we (4 * s), me s)) then (op_wo kd q (ar_row fe we (4 * s), me s)) else ((op_rs kd p q (fe (4 * r + p)) (ar_bag fe me we 0 s)).getD 0)) := by
          obtain ⟨z, hz⟩ := Option.isSome_iff_exists.mp hsm
          rw [hz]; show (if kd = 2 then _ else _) = _; rw [if_pos hc]; rfl
        refine v_goto (pc := 66) (tgt := 73) d_Group_fold_66 rfl ?_
        refine v_re (y := ((op_rs kd p q (fe (4 * r + p)) (ar_bag fe me we 0 (s + 1))).getD 0)) (by rw [hst, ← hv]; rfl) ?_
        refine v_istore_n (pc := 73) (L' := [(3, .int ((op_rs kd p q (fe (4 * r + p)) (ar_bag fe me we 0 (s + 1))).getD 0)), (5, .int (op_wo kd q (ar_row fe we (4 * s), me s))), (4, .int (nI s)), (0, .ref o), (1, .ref e), (2, .int (nI r))]) d_Group_fold_73 rfl (by decide) rfl ?_
        refine v_iinc (pc := 74) (L' := [(4, .int (nI (s + 1))), (3, .int ((op_rs kd p q (fe (4 * r + p)) (ar_bag fe me we 0 (s + 1))).getD 0)), (5, .int (op_wo kd q (ar_row fe we (4 * s), me s))), (0, .ref o), (1, .ref e), (2, .int (nI r))]) d_Group_fold_74 rfl (ix_inc _) (by decide) rfl ?_
        refine v_goto (pc := 77) (tgt := 12) d_Group_fold_77 rfl ?_
        refine v_sub (L' := [(4, .int (nI (s + 1))), (3, .int ((op_rs kd p q (fe (4 * r + p)) (ar_bag fe me we 0 (s + 1))).getD 0)), (0, .ref o), (1, .ref e), (2, .int (nI r))]) (by simp) ?_
        exact ih (ne - (s + 1)) (by omega) (s + 1) rfl (by omega) (by rw [hst]; rfl)
set_option maxRecDepth 100000 in
set_option maxHeartbeats 4000000 in
theorem c_Group_fold (g : Gl) {w : Wd} {o v sz kd p q e we ne : Nat} {fe : Nat → Int32} {me : Nat → Int64} {pe : Nat → Int32} (hE : BGo w e we ne fe me pe) (hne : ne ≤ 32) (hwe : we ≤ 4) (hO : w o = some (cO 9 [.ref v, .int (nI kd), .int (nI p), .int (nI q)])) (hkd : kd ≤ 2) (hp : p < we) (hq : q < we) {r : Nat} (hr : r < ne) (hf : op_fst p (fe (4 * r + p)) (ar_bag fe me we 0 r) = true) : CT g 2 0 0 mi_Group_fold [.ref o, .ref e, .int (nI r)] w sz (rdE (some (.int ((op_rs kd p q (fe (4 * r + p)) (ar_bag fe me we 0 ne)).getD 0))) w sz) := by
  refine CT.of (by decide) (Nat.le_of_ble_eq_true rfl) ?_
  refine v_aload_n (pc := 0) d_Group_fold_0 rfl rfl ?_
  refine v_aload_n (pc := 1) d_Group_fold_1 rfl rfl ?_
  refine v_iload_n (pc := 2) d_Group_fold_2 rfl rfl ?_
  refine v_cvR (pc := 3) (A := [.ref e, .int (nI r)]) (rest := []) (x := .int (op_wo kd q (ar_row fe we (4 * r), me r))) d_Group_fold_3 lk_Group_60 me_Group_worth im_Group_worth se_Group_worth rfl hO rfl rfl (c_Group_worth g hE hne hwe hO hkd hp hq (r := r) (by omega)) (Nat.le_of_ble_eq_true rfl) (Nat.le_of_ble_eq_true rfl) (Nat.le_of_ble_eq_true rfl) (Nat.le_of_ble_eq_true rfl) ?_
  have hst : (op_rs kd p q (fe (4 * r + p)) (ar_bag fe me we 0 (r + 1))) = some (op_wo kd q (ar_row fe we (4 * r), me r)) := by rw [ar_bag_snoc, op_rs_snoc, if_pos (by rw [op_ky_row hp, Nat.zero_add]), op_rs_none hf, Nat.zero_add]; rfl
  refine v_re (y := ((op_rs kd p q (fe (4 * r + p)) (ar_bag fe me we 0 (r + 1))).getD 0)) (by rw [hst]; rfl) ?_
  refine v_istore_n (pc := 6) (L' := [(3, .int ((op_rs kd p q (fe (4 * r + p)) (ar_bag fe me we 0 (r + 1))).getD 0)), (0, .ref o), (1, .ref e), (2, .int (nI r))]) d_Group_fold_6 rfl (by decide) rfl ?_
  refine v_iload_n (pc := 7) d_Group_fold_7 rfl rfl ?_
  refine v_iconst (pc := 8) (v := nI 1) d_Group_fold_8 rfl ?_
  refine v_iadd (pc := 9) d_Group_fold_9 ?_
  refine v_re (nI_add r 1) ?_
  refine v_istore (pc := 10) (L' := [(4, .int (nI (r + 1))), (3, .int ((op_rs kd p q (fe (4 * r + p)) (ar_bag fe me we 0 (r + 1))).getD 0)), (0, .ref o), (1, .ref e), (2, .int (nI r))]) d_Group_fold_10 (by decide) rfl ?_
  refine v_sub (L' := [(4, .int (nI (r + 1))), (3, .int ((op_rs kd p q (fe (4 * r + p)) (ar_bag fe me we 0 (r + 1))).getD 0)), (0, .ref o), (1, .ref e), (2, .int (nI r))]) (by simp) ?_
  exact lp_Group_fold g hE hne hwe hO hkd hp hq hr _ (r + 1) rfl (by omega) (by rw [hst]; rfl)
