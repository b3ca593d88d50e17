set_option maxRecDepth 100000 in
set_option maxHeartbeats 4000000 in
theorem c_Union_fill (g : Gl) {w : Wd} {o bq h sz wd0 n0 : Nat} {f0 : Nat → Int32} {m0 : Nat → Int64} {pd0 : Nat → Int32} (hB : BGo w h wd0 n0 f0 m0 pd0) (ho : o < h ∨ h + 4 ≤ o) {e we ne : Nat} {fe : Nat → Int32} {me : Nat → Int64} {pe : Nat → Int32} (hE : BGo w e we ne fe me pe) (hd : e + 4 ≤ h ∨ h + 4 ≤ e) (hne : ne ≤ 32) (hwe : we ≤ 4) {e2 ne2 : Nat} {fe2 : Nat → Int32} {me2 : Nat → Int64} {pe2 : Nat → Int32} (hE2 : BGo w e2 we ne2 fe2 me2 pe2) (hd2 : e2 + 4 ≤ h ∨ h + 4 ≤ e2) (hne2 : ne2 ≤ 32) {v : Nat} {q1 q2 q3 : Value} (hV : w v = some (cO 1 [q1, .ref e, q2, q3])) {v2 : Nat} {p1 p2 p3 : Value} (hV2 : w v2 = some (cO 1 [p1, .ref e2, p2, p3])) (hvo : v < h ∨ h + 4 ≤ v) (hvo2 : v2 < h ∨ h + 4 ≤ v2) (hO : w o = some (cO 8 [.ref v, .ref v2])) : CT g 5 0 0 mi_Union_fill [.ref o, .ref bq, .ref h] w sz (wrE none sz (bg_st w h we (ma_foldC [] ((ar_bag fe me we 0 ne) ++ ar_bag fe2 me2 we 0 ne2)))) := by
  refine CT.of (by decide) (Nat.le_of_ble_eq_true rfl) ?_
  refine v_aload_n (pc := 0) d_Union_fill_0 rfl rfl ?_
  refine v_aload_n (pc := 1) d_Union_fill_1 rfl rfl ?_
  refine v_get (pc := 2) d_Union_fill_2 fl_Union_7 hO rfl ?_
  refine v_get (pc := 5) d_Union_fill_5 fl_Union_16 hV rfl ?_
  refine v_get (pc := 8) d_Union_fill_8 fl_Union_22 hE.o rfl ?_
  refine v_cvV (pc := 11) (A := [.int (nI we)]) (rest := []) d_Union_fill_11 lk_Union_28 me_Bag_clear im_Bag_clear se_Bag_clear rfl hB.o rfl rfl (c_Bag_clear g hB we) (Nat.le_of_ble_eq_true rfl) (Nat.le_of_ble_eq_true rfl) (Nat.le_of_ble_eq_true rfl) (Nat.le_of_ble_eq_true rfl) (fun w2 ht2 => ?_)
  obtain ⟨h2, hf2⟩ := ht2
  have kE2 := hE.mv (w' := w2) (fun q h1 h2 => hf2 q (by omega))
  have kF2 := hE2.mv (w' := w2) (fun q h1 h2 => hf2 q (by omega))
  have kO2 := (hf2 o ho).trans hO
  have kV2 := (hf2 v hvo).trans hV
  have kW2 := (hf2 v2 hvo2).trans hV2
  refine v_aload_n (pc := 14) d_Union_fill_14 rfl rfl ?_
  refine v_aload_n (pc := 15) d_Union_fill_15 rfl rfl ?_
  refine v_get (pc := 16) d_Union_fill_16 fl_Union_7 kO2 rfl ?_
  refine v_get (pc := 19) d_Union_fill_19 fl_Union_16 kV2 rfl ?_
  refine v_cvV (pc := 22) (A := [.ref e]) (rest := []) d_Union_fill_22 lk_Union_32 me_Bag_addAll im_Bag_addAll se_Bag_addAll rfl h2.o rfl rfl (c_Bag_addAll g hd kE2 hne hwe (B0 := []) (ma_ok_nil we) (by decide) ⟨_, _, _, h2, bg_fr.rf, rfl⟩) (Nat.le_of_ble_eq_true rfl) (Nat.le_of_ble_eq_true rfl) (Nat.le_of_ble_eq_true rfl) (Nat.le_of_ble_eq_true rfl) (fun w3 ht3 => ?_)
  obtain ⟨f3, m3, pd3, h3, hf3, hB3⟩ := ht3
  have kE3 := kE2.mv (w' := w3) (fun q h1 h2 => hf3 q (by omega))
  have kF3 := kF2.mv (w' := w3) (fun q h1 h2 => hf3 q (by omega))
  have kO3 := (hf3 o ho).trans kO2
  have kV3 := (hf3 v hvo).trans kV2
  have kW3 := (hf3 v2 hvo2).trans kW2
  refine v_aload_n (pc := 25) d_Union_fill_25 rfl rfl ?_
  refine v_aload_n (pc := 26) d_Union_fill_26 rfl rfl ?_
  refine v_get (pc := 27) d_Union_fill_27 fl_Union_13 kO3 rfl ?_
  refine v_get (pc := 30) d_Union_fill_30 fl_Union_16 kW3 rfl ?_
  obtain ⟨hok, hl⟩ := ma_foldC_ok (ma_ok_nil we) (by decide) (A := (ar_bag fe me we 0 ne)) ar_rows
  refine v_cvV (pc := 33) (A := [.ref e2]) (rest := []) d_Union_fill_33 lk_Union_32 me_Bag_addAll im_Bag_addAll se_Bag_addAll rfl h3.o rfl rfl (c_Bag_addAll g hd2 kF3 hne2 hwe (B0 := ma_foldC [] (ar_bag fe me we 0 ne)) hok hl ⟨_, _, _, h3, bg_fr.rf, hB3⟩) (Nat.le_of_ble_eq_true rfl) (Nat.le_of_ble_eq_true rfl) (Nat.le_of_ble_eq_true rfl) (Nat.le_of_ble_eq_true rfl) (fun w4 ht4 => ?_)
  obtain ⟨f4, m4, pd4, h4, hf4, hB4⟩ := ht4
  exact v_vret (pc := 36) d_Union_fill_36 rfl (Nat.le_of_ble_eq_true rfl) (Nat.le_of_ble_eq_true rfl) ⟨rfl, rfl, by rw [ma_foldC_app]; exact ⟨f4, m4, pd4, h4, (hf2.tr hf3).tr hf4, hB4⟩⟩
set_option maxRecDepth 100000 in
set_option maxHeartbeats 4000000 in
theorem c_Table_fill (g : Gl) {w : Wd} {o bq h sz wd0 n0 : Nat} {f0 : Nat → Int32} {m0 : Nat → Int64} {pd0 : Nat → Int32} (hB : BGo w h wd0 n0 f0 m0 pd0) (ho : o < h ∨ h + 4 ≤ o) {e we ne : Nat} {fe : Nat → Int32} {me : Nat → Int64} {pe : Nat → Int32} (hE : BGo w e we ne fe me pe) (hd : e + 4 ≤ h ∨ h + 4 ≤ e) (hne : ne ≤ 32) (hwe : we ≤ 4) : CT g 3 0 0 mi_Table_fill [.ref o, .ref e, .ref h] w sz (wrE none sz (bg_st w h we (ar_bag fe me we 0 ne))) := by
  refine CT.of (by decide) (Nat.le_of_ble_eq_true rfl) ?_
  refine v_aload_n (pc := 0) d_Table_fill_0 rfl rfl ?_
  refine v_aload_n (pc := 1) d_Table_fill_1 rfl rfl ?_
  refine v_cvV (pc := 2) (A := [.ref e]) (rest := []) d_Table_fill_2 lk_Table_9 me_Bag_copy im_Bag_copy se_Bag_copy rfl hB.o rfl rfl (c_Bag_copy g hB hE hd hne hwe) (Nat.le_of_ble_eq_true rfl) (Nat.le_of_ble_eq_true rfl) (Nat.le_of_ble_eq_true rfl) (Nat.le_of_ble_eq_true rfl) (fun w2 ht2 => ?_)
  obtain ⟨f2, m2, h2, hf2, he2⟩ := ht2
  exact v_vret (pc := 5) d_Table_fill_5 rfl (Nat.le_of_ble_eq_true rfl) (Nat.le_of_ble_eq_true rfl) ⟨rfl, rfl, f2, m2, pd0, by rw [ar_bag_len]; exact h2, hf2, by rw [ar_bag_len]; exact he2⟩
set_option maxRecDepth 100000 in
set_option maxHeartbeats 4000000 in
theorem c_Table_allows (g : Gl) {w : Wd} {o e we ne sz : Nat} {fe : Nat → Int32} {me : Nat → Int64} {pe : Nat → Int32} (hE : BGo w e we ne fe me pe) (hne : ne ≤ 32) : CT g 1 0 0 mi_Table_allows [.ref o, .ref e] w sz (rdE (some (.int (if tb_ok (ar_bag fe me we 0 ne) = true then 1 else 0))) w sz) := by
  refine CT.of (by decide) (Nat.le_of_ble_eq_true rfl) ?_
  refine v_aload_n (pc := 0) d_Table_allows_0 rfl rfl ?_
  refine v_get (pc := 1) d_Table_allows_1 fl_Table_15 hE.o rfl ?_
  refine v_bipush (pc := 4) (v := nI 8) d_Table_allows_4 rfl ?_
  refine v_icmp_gt (pc := 6) (tgt := 23) d_Table_allows_6 rfl (fun hc => ?_) (fun hc => ?_)
  · skip
    rw [nI_ltI (by omega) (by omega)] at hc
    refine v_iconst (pc := 23) (v := nI 0) d_Table_allows_23 rfl ?_
    exact v_zret (pc := 24) d_Table_allows_24 rfl z01 (Nat.le_of_ble_eq_true rfl) (Nat.le_of_ble_eq_true rfl) ⟨zr0 (fun h => by have h9 := (tb_iff.mp h).1; rw [ar_bag_len] at h9; omega), rfl, rfl⟩
  · skip
    rw [nI_ltI (by omega) (by omega)] at hc
    refine v_aload_n (pc := 9) d_Table_allows_9 rfl rfl ?_
    refine v_iconst (pc := 10) (v := nI 1) d_Table_allows_10 rfl ?_
    refine v_bipush (pc := 11) (v := nI 99) d_Table_allows_11 rfl ?_
    have h8 : ne ≤ 8 := by omega
    refine v_cvR (pc := 13) (A := [.int (nI 1), .int (nI 99)]) (rest := []) (x := .int (if ¬ (tb_in (ar_bag fe me we 0 ne) = true) then 1 else 0)) d_Table_allows_13 lk_Table_19 me_Bag_hasTimesOutside im_Bag_hasTimesOutside se_Bag_hasTimesOutside rfl hE.o rfl rfl (c_Bag_hasTimesOutside g hE hne) (Nat.le_of_ble_eq_true rfl) (Nat.le_of_ble_eq_true rfl) (Nat.le_of_ble_eq_true rfl) (Nat.le_of_ble_eq_true rfl) ?_
    refine v_if_ne (pc := 16) (tgt := 23) d_Table_allows_16 rfl (fun hc => ?_) (fun hc => ?_)
    · skip
      rw [zt] at hc
      refine v_iconst (pc := 23) (v := nI 0) d_Table_allows_23 rfl ?_
      exact v_zret (pc := 24) d_Table_allows_24 rfl z01 (Nat.le_of_ble_eq_true rfl) (Nat.le_of_ble_eq_true rfl) ⟨zr0 (fun h => hc (tb_iff.mp h).2), rfl, rfl⟩
    · skip
      rw [zf] at hc
      refine v_iconst (pc := 19) (v := nI 1) d_Table_allows_19 rfl ?_
      refine v_goto (pc := 20) (tgt := 24) d_Table_allows_20 rfl ?_
      exact v_zret (pc := 24) d_Table_allows_24 rfl z11 (Nat.le_of_ble_eq_true rfl) (Nat.le_of_ble_eq_true rfl) ⟨zr1 (tb_iff.mpr ⟨by rw [ar_bag_len]; exact h8, Classical.not_not.mp hc⟩), rfl, rfl⟩
set_option maxRecDepth 100000 in
set_option maxHeartbeats 4000000 in
theorem c_Oper_allows (g : Gl) {w : Wd} {o e we ne sz : Nat} {fe : Nat → Int32} {me : Nat → Int64} {pe : Nat → Int32} (hE : BGo w e we ne fe me pe) (hne : ne ≤ 32) : CT g 0 0 0 mi_Oper_allows [.ref o, .ref e] w sz (rdE (some (.int (if ne ≤ 16 then 1 else 0))) w sz) := by
  refine CT.of (by decide) (Nat.le_of_ble_eq_true rfl) ?_
  refine v_aload_n (pc := 0) d_Oper_allows_0 rfl rfl ?_
  refine v_get (pc := 1) d_Oper_allows_1 fl_Oper_9 hE.o rfl ?_
  refine v_bipush (pc := 4) (v := nI 16) d_Oper_allows_4 rfl ?_
  refine v_icmp_gt (pc := 6) (tgt := 13) d_Oper_allows_6 rfl (fun hc => ?_) (fun hc => ?_)
  · skip
    rw [nI_ltI (by omega) (by omega)] at hc
    refine v_iconst (pc := 13) (v := nI 0) d_Oper_allows_13 rfl ?_
    exact v_zret (pc := 14) d_Oper_allows_14 rfl z01 (Nat.le_of_ble_eq_true rfl) (Nat.le_of_ble_eq_true rfl) ⟨zr0 (by omega), rfl, rfl⟩
  · skip
    rw [nI_ltI (by omega) (by omega)] at hc
    refine v_iconst (pc := 9) (v := nI 1) d_Oper_allows_9 rfl ?_
    refine v_goto (pc := 10) (tgt := 14) d_Oper_allows_10 rfl ?_
    exact v_zret (pc := 14) d_Oper_allows_14 rfl z11 (Nat.le_of_ble_eq_true rfl) (Nat.le_of_ble_eq_true rfl) ⟨zr1 (by omega), rfl, rfl⟩
set_option maxRecDepth 100000 in
set_option maxHeartbeats 4000000 in
theorem c_DV_columnInBits (g : Gl) {w : Wd} {sz : Nat} (cols : Int32) (k : Nat) : CT g 0 0 0 mi_DV_columnInBits [.int cols, .int (nI k)] w sz (rdE (some (.int (nI (colN cols k)))) w sz) := by
  refine CT.of (by decide) (Nat.le_of_ble_eq_true rfl) ?_
  refine v_iload_n (pc := 0) d_DV_columnInBits_0 rfl rfl ?_
  refine v_iconst (pc := 1) (v := nI 4) d_DV_columnInBits_1 rfl ?_
  refine v_iload_n (pc := 2) d_DV_columnInBits_2 rfl rfl ?_
  refine v_imul (pc := 3) d_DV_columnInBits_3 ?_
  refine v_re (pk_mul 4 k) ?_
  refine v_ishr (pc := 4) d_DV_columnInBits_4 ?_
  refine v_bipush (pc := 5) (v := nI 15) d_DV_columnInBits_5 rfl ?_
  refine v_iand (pc := 7) d_DV_columnInBits_7 ?_
  refine v_re (y := nI (colN cols k)) (colN_eq cols k) ?_
  exact v_iret (pc := 8) d_DV_columnInBits_8 rfl (Nat.le_of_ble_eq_true rfl) (Nat.le_of_ble_eq_true rfl) ⟨rfl, rfl, rfl⟩
set_option maxRecDepth 100000 in
set_option maxHeartbeats 4000000 in
theorem lp1_Project_fill (g : Gl) {w0 w : Wd} {v o bq h sz wd n0 : Nat} {cols : Int32} {f0 : Nat → Int32} {m0 : Nat → Int64} {pd0 : Nat → Int32} (hB : BGo w h wd n0 f0 m0 pd0) (ho : o < h ∨ h + 4 ≤ o) {e we ne : Nat} {fe : Nat → Int32} {me : Nat → Int64} {pe : Nat → Int32} (hE : BGo w e we ne fe me pe) (hd : e + 4 ≤ h ∨ h + 4 ≤ e) (hne : ne ≤ 32) (hwe : we ≤ 4) (hO : w o = some (cO 6 [.ref v, .int (nI wd), .int cols])) (hwd : wd ≤ 4) (hcl : ∀ c, c < wd → colN cols c < we) {r : Nat} (hr : r < 32) {E : Rs → Wd → Nat → Prop} (K : ∀ w1 pd1, BGo w1 h wd n0 f0 m0 pd1 → bg_fr h w w1 → (∀ j, j < wd → pd1 j = fe (4 * r + colN cols j)) → VV g 4 0 0 mi_Project_fill w0 sz E 67 [(5, .int (nI wd)), (4, .int (nI r)), (3, .ref e), (0, .ref o), (1, .ref bq), (2, .ref h)] [] w1 sz 0 0) : ∀ (zz : Nat) (c : Nat) (w1 : Wd) (pd1 : Nat → Int32), wd - c = zz → c ≤ wd → BGo w1 h wd n0 f0 m0 pd1 → bg_fr h w w1 → (∀ j, j < c → pd1 j = fe (4 * r + colN cols j)) → VV g 4 0 0 mi_Project_fill w0 sz E 31 [(5, .int (nI c)), (4, .int (nI r)), (3, .ref e), (0, .ref o), (1, .ref bq), (2, .ref h)] [] w1 sz 0 0 := by
  intro zz
  induction zz using Nat.strongRecOn with | _ zz ih => _
  intro c w1 pd1 hnn hcw h1 hfr hpd
  have k1 := hE.mv (w' := w1) (fun q h1 h2 => hfr q (by omega))
  have hO1 := (hfr o ho).trans hO
  refine v_iload (pc := 31) d_Project_fill_31 rfl ?_
  refine v_aload_n (pc := 33) d_Project_fill_33 rfl rfl ?_
  refine v_get (pc := 34) d_Project_fill_34 fl_Project_13 hO1 rfl ?_
  refine v_icmp_ge (pc := 37) (tgt := 67) d_Project_fill_37 rfl (fun hc => ?_) (fun hc => ?_)
  · skip
    rw [nI_leI (by omega) (by omega)] at hc
    obtain rfl : c = wd := by omega
    exact K w1 pd1 h1 hfr hpd
  · skip
    rw [nI_leI (by omega) (by omega)] at hc
    refine v_aload_n (pc := 40) d_Project_fill_40 rfl rfl ?_
    refine v_iload (pc := 41) d_Project_fill_41 rfl ?_
    refine v_aload_n (pc := 43) d_Project_fill_43 rfl rfl ?_
    refine v_iload (pc := 44) d_Project_fill_44 rfl ?_
    refine v_aload_n (pc := 46) d_Project_fill_46 rfl rfl ?_
    refine v_get (pc := 47) d_Project_fill_47 fl_Project_17 hO1 rfl ?_
    refine v_iload (pc := 50) d_Project_fill_50 rfl ?_
    refine v_csR (pc := 52) (A := [.int cols, .int (nI c)]) (rest := [.int (nI r), .ref e, .int (nI c), .ref h]) (x := .int (nI (colN cols c))) d_Project_fill_52 lk_Project_35 me_DV_columnInBits st_DV_columnInBits rfl rfl (c_DV_columnInBits g cols c) (Nat.le_of_ble_eq_true rfl) (Nat.le_of_ble_eq_true rfl) (Nat.le_of_ble_eq_true rfl) (Nat.le_of_ble_eq_true rfl) ?_
    have hcc := hcl c (by omega)
    refine v_cvR (pc := 55) (A := [.int (nI r), .int (nI (colN cols c))]) (rest := [.int (nI c), .ref h]) (x := .int (fe (4 * r + colN cols c))) d_Project_fill_55 lk_Project_41 me_Bag_cellAt im_Bag_cellAt se_Bag_cellAt rfl k1.o rfl rfl (c_Bag_cellAt g k1 (r := r) (c := colN cols c) (by omega)) (Nat.le_of_ble_eq_true rfl) (Nat.le_of_ble_eq_true rfl) (Nat.le_of_ble_eq_true rfl) (Nat.le_of_ble_eq_true rfl) ?_
    refine v_cvV (pc := 58) (A := [.int (nI c), .int (fe (4 * r + colN cols c))]) (rest := []) d_Project_fill_58 lk_Project_44 me_Bag_put im_Bag_put se_Bag_put rfl h1.o rfl rfl (c_Bag_put g h1 (c := c) (by omega) (fe (4 * r + colN cols c))) (Nat.le_of_ble_eq_true rfl) (Nat.le_of_ble_eq_true rfl) (Nat.le_of_ble_eq_true rfl) (Nat.le_of_ble_eq_true rfl) (fun w2 ht2 => ?_)
    obtain ⟨h2, hf2⟩ := ht2
    refine v_iinc (pc := 61) (L' := [(5, .int (nI (c + 1))), (4, .int (nI r)), (3, .ref e), (0, .ref o), (1, .ref bq), (2, .ref h)]) d_Project_fill_61 rfl (ix_inc _) (by decide) rfl ?_
    refine v_goto (pc := 64) (tgt := 31) d_Project_fill_64 rfl ?_
    refine v_sub (L' := [(5, .int (nI (c + 1))), (4, .int (nI r)), (3, .ref e), (0, .ref o), (1, .ref bq), (2, .ref h)]) (by simp) ?_
    exact ih (wd - (c + 1)) (by omega) (c + 1) w2 _ rfl (by omega) h2 (hfr.tr hf2) (fun j hj => by by_cases h9 : j = c; (subst h9; exact pk_us); (rw [pk_un (by omega)]; exact hpd j (by omega)))
set_option maxRecDepth 100000 in
set_option maxHeartbeats 4000000 in
theorem lp_Project_fill (g : Gl) {w : Wd} {v wd : Nat} {cols : Int32} {o bq h sz wd0 n0 : Nat} {f0 : Nat → Int32} {m0 : Nat → Int64} {pd0 : Nat → Int32} (hB : BGo w h wd0 n0 f0 m0 pd0) (ho : o < h ∨ h + 4 ≤ o) {e we ne : Nat} {fe : Nat → Int32} {me : Nat → Int64} {pe : Nat → Int32} (hE : BGo w e we ne fe me pe) (hd : e + 4 ≤ h ∨ h + 4 ≤ e) (hne : ne ≤ 32) (hwe : we ≤ 4) (hO : w o = some (cO 6 [.ref v, .int (nI wd), .int cols])) (hwd : wd ≤ 4) (hcl : ∀ c, c < wd → colN cols c < we) {E : Rs → Wd → Nat → Prop} (hE' : ∀ w', bg_st w h wd (ma_foldC [] (op_prj wd (colN cols) (ar_bag fe me we 0 ne))) w' → E (.inl none) w' sz) : ∀ (zz : Nat) (r : Nat) (w1 : Wd), ne - r = zz → r ≤ ne → bg_st w h wd (ma_foldC [] (op_prj wd (colN cols) (ar_bag fe me we 0 r))) w1 → VV g 4 0 0 mi_Project_fill w sz E 19 [(4, .int (nI r)), (3, .ref e), (0, .ref o), (1, .ref bq), (2, .ref h)] [] w1 sz 0 0 := by
  intro zz
  induction zz using Nat.strongRecOn with | _ zz ih => _
  intro r w1 hnn hrn hst
  obtain ⟨f1, m1, pd1, h1, hfr, hBB⟩ := id hst
  have k1 := hE.mv (w' := w1) (fun q h1 h2 => hfr q (by omega))
  have hO1 := (hfr o ho).trans hO
  obtain ⟨hok, hl⟩ := ma_foldC_ok (ma_ok_nil wd) (by decide) (A := (op_prj wd (colN cols) (ar_bag fe me we 0 r))) (fun x hx => by obtain ⟨y, hy, rfl⟩ := List.mem_map.mp hx; simp)
  refine v_iload (pc := 19) d_Project_fill_19 rfl ?_
  refine v_aload_n (pc := 21) d_Project_fill_21 rfl rfl ?_
  refine v_get (pc := 22) d_Project_fill_22 fl_Project_32 k1.o rfl ?_
  refine v_icmp_ge (pc := 25) (tgt := 83) d_Project_fill_25 rfl (fun hc => ?_) (fun hc => ?_)
  · skip
    rw [nI_leI (by omega) (by omega)] at hc
    obtain rfl : r = ne := by omega
    exact v_vret (pc := 83) d_Project_fill_83 rfl (Nat.le_of_ble_eq_true rfl) (Nat.le_of_ble_eq_true rfl) (hE' w1 hst)
  · skip
    rw [nI_leI (by omega) (by omega)] at hc
    refine v_iconst (pc := 28) (v := nI 0) d_Project_fill_28 rfl ?_
    refine v_istore (pc := 29) (L' := [(5, .int (nI 0)), (4, .int (nI r)), (3, .ref e), (0, .ref o), (1, .ref bq), (2, .ref h)]) d_Project_fill_29 (by decide) rfl ?_
    refine v_sub (L' := [(5, .int (nI 0)), (4, .int (nI r)), (3, .ref e), (0, .ref o), (1, .ref bq), (2, .ref h)]) (by simp) ?_
    refine lp1_Project_fill g h1 ho k1 hd hne hwe hO1 hwd hcl (r := r) (by omega) (fun w2 pd2 h2 hf2 hp2 => ?_) wd 0 w1 pd1 rfl (by omega) h1 bg_fr.rf (fun j hj => absurd hj (Nat.not_lt_zero _))
    have k2 := k1.mv (w' := w2) (fun q h1 h2 => hf2 q (by omega))
    refine v_aload_n (pc := 67) d_Project_fill_67 rfl rfl ?_
    refine v_aload_n (pc := 68) d_Project_fill_68 rfl rfl ?_
    refine v_iload (pc := 69) d_Project_fill_69 rfl ?_
    refine v_cvR (pc := 71) (A := [.int (nI r)]) (rest := [.ref h]) (x := .long (me r)) d_Project_fill_71 lk_Project_48 me_Bag_timesAt im_Bag_timesAt se_Bag_timesAt rfl k2.o rfl rfl (c_Bag_timesAt g k2 (r := r) (by omega)) (Nat.le_of_ble_eq_true rfl) (Nat.le_of_ble_eq_true rfl) (Nat.le_of_ble_eq_true rfl) (Nat.le_of_ble_eq_true rfl) ?_
    refine v_cvV (pc := 74) (A := [.long (me r)]) (rest := []) d_Project_fill_74 lk_Project_52 me_Bag_add im_Bag_add se_Bag_add rfl h2.o rfl rfl (c_Bag_add g h2 hl hwd (by rw [hBB]; exact hok.1) (me r)) (Nat.le_of_ble_eq_true rfl) (Nat.le_of_ble_eq_true rfl) (Nat.le_of_ble_eq_true rfl) (Nat.le_of_ble_eq_true rfl) (fun w3 ht3 => ?_)
    have hnext : bg_st w h wd (ma_foldC [] (op_prj wd (colN cols) (ar_bag fe me we 0 (r + 1)))) w3 := by
      have e8 : ar_row pd2 wd 0 = (List.range wd).map (fun c => (ar_row fe we (4 * (0 + r))).getD (colN cols c) 0) := by
        refine List.map_congr_left (fun c hc => ?_)
        have hc := List.mem_range.mp hc
        rw [ar_row_getD (hcl c hc), Nat.zero_add, Nat.zero_add]
        exact hp2 c hc
      unfold op_prj at hBB ht3 ⊢
      rw [ar_bag_snoc, List.map_append, List.map_cons, List.map_nil, ma_foldC_snoc]
      rw [hBB, e8] at ht3
      have e9 := bg_ad.st (hfr.tr hf2) ht3
      rw [show me r = me (0 + r) from by rw [Nat.zero_add]] at e9
      exact e9
    refine v_iinc (pc := 77) (L' := [(4, .int (nI (r + 1))), (5, .int (nI wd)), (3, .ref e), (0, .ref o), (1, .ref bq), (2, .ref h)]) d_Project_fill_77 rfl (ix_inc _) (by decide) rfl ?_
    refine v_goto (pc := 80) (tgt := 19) d_Project_fill_80 rfl ?_
    refine v_sub (L' := [(4, .int (nI (r + 1))), (3, .ref e), (0, .ref o), (1, .ref bq), (2, .ref h)]) (by simp) ?_
    exact ih (ne - (r + 1)) (by omega) (r + 1) _ rfl (by omega) hnext
set_option maxRecDepth 100000 in
set_option maxHeartbeats 4000000 in
theorem c_Project_fill (g : Gl) {w : Wd} {wd : Nat} {cols : Int32} {o bq h sz wd0 n0 : Nat} {f0 : Nat → Int32} {m0 : Nat → Int64} {pd0 : Nat → Int32} (hB : BGo w h wd0 n0 f0 m0 pd0) (ho : o < h ∨ h + 4 ≤ o) {e we ne : Nat} {fe : Nat → Int32} {me : Nat → Int64} {pe : Nat → Int32} (hE : BGo w e we ne fe me pe) (hd : e + 4 ≤ h ∨ h + 4 ≤ e) (hne : ne ≤ 32) (hwe : we ≤ 4) {v : Nat} {q1 q2 q3 : Value} (hV : w v = some (cO 1 [q1, .ref e, q2, q3])) (hO : w o = some (cO 6 [.ref v, .int (nI wd), .int cols])) (hwd : wd ≤ 4) (hcl : ∀ c, c < wd → colN cols c < we) : CT g 4 0 0 mi_Project_fill [.ref o, .ref bq, .ref h] w sz (wrE none sz (bg_st w h wd (ma_foldC [] (op_prj wd (colN cols) (ar_bag fe me we 0 ne))) )) := by
  refine CT.of (by decide) (Nat.le_of_ble_eq_true rfl) ?_
  refine v_aload_n (pc := 0) d_Project_fill_0 rfl rfl ?_
  refine v_get (pc := 1) d_Project_fill_1 fl_Project_7 hO rfl ?_
  refine v_get (pc := 4) d_Project_fill_4 fl_Project_20 hV rfl ?_
  refine v_astore_n (pc := 7) (L' := [(3, .ref e), (0, .ref o), (1, .ref bq), (2, .ref h)]) d_Project_fill_7 rfl (by decide) rfl ?_
  refine v_aload_n (pc := 8) d_Project_fill_8 rfl rfl ?_
  refine v_aload_n (pc := 9) d_Project_fill_9 rfl rfl ?_
  refine v_get (pc := 10) d_Project_fill_10 fl_Project_13 hO rfl ?_
  refine v_cvV (pc := 13) (A := [.int (nI wd)]) (rest := []) d_Project_fill_13 lk_Project_26 me_Bag_clear im_Bag_clear se_Bag_clear rfl hB.o rfl rfl (c_Bag_clear g hB wd) (Nat.le_of_ble_eq_true rfl) (Nat.le_of_ble_eq_true rfl) (Nat.le_of_ble_eq_true rfl) (Nat.le_of_ble_eq_true rfl) (fun w2 ht2 => ?_)
  obtain ⟨h2, hf2⟩ := ht2
  refine v_iconst (pc := 16) (v := nI 0) d_Project_fill_16 rfl ?_
  refine v_istore (pc := 17) (L' := [(4, .int (nI 0)), (3, .ref e), (0, .ref o), (1, .ref bq), (2, .ref h)]) d_Project_fill_17 (by decide) rfl ?_
  refine v_sub (L' := [(4, .int (nI 0)), (3, .ref e), (0, .ref o), (1, .ref bq), (2, .ref h)]) (by simp) ?_
  exact lp_Project_fill g hB ho hE hd hne hwe hO hwd hcl (fun w' h => ⟨rfl, rfl, h⟩) ne 0 w2 rfl (by omega) (bg_st.clr h2 hf2)
