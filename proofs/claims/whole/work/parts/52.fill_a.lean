theorem bg_st.clr {w w' : Wd} {h wd : Nat} {f : Nat → Int32} {m : Nat → Int64} {pd : Nat → Int32} (h1 : BGo w' h wd 0 f m pd) (h2 : bg_fr h w w') : bg_st w h wd (ma_foldC [] []) w' := ⟨f, m, pd, h1, h2, rfl⟩
theorem op_dis_row {wd : Nat} {B : MaB} (h : ∀ x ∈ B, x.1.length = wd) : ∀ x ∈ op_dis B, x.1.length = wd := by
  intro x hx
  obtain ⟨y, hy, rfl⟩ := List.mem_map.mp hx
  exact h y hy
theorem op_sel_row {wd p : Nat} {t x0 : Int32} {B : MaB} (h : ∀ x ∈ B, x.1.length = wd) : ∀ x ∈ op_sel p t x0 B, x.1.length = wd := fun x hx => h x (List.mem_filter.mp hx).1
theorem ar_rows {f : Nat → Int32} {m : Nat → Int64} {w o n : Nat} : ∀ x ∈ ar_bag f m w o n, x.1.length = w := by
  intro x hx
  obtain ⟨s, _, rfl⟩ := ar_bag_mem hx
  exact ar_row_len _ _ _
set_option maxRecDepth 100000 in
set_option maxHeartbeats 4000000 in
theorem c_Select_passes (g : Gl) {w : Wd} {o v p sz : Nat} {t x : Int32} (hO : w o = some (cO 5 [.ref v, .int (nI p), .int t, .int x])) (c : Int32) : CT g 0 0 0 mi_Select_passes [.ref o, .int c] w sz (rdE (some (.int (if ma_ps c t x = true then 1 else 0))) w sz) := by
  refine CT.of (by decide) (Nat.le_of_ble_eq_true rfl) ?_
  refine v_aload_n (pc := 0) d_Select_passes_0 rfl rfl ?_
  refine v_get (pc := 1) d_Select_passes_1 fl_Select_19 hO rfl ?_
  by_cases h0 : t = 0
  · subst h0
    refine v_look (pc := 4) (tgt := 32) d_Select_passes_4 (by decide) rfl rfl ?_
    refine v_iload_n (pc := 32) d_Select_passes_32 rfl rfl ?_
    refine v_aload_n (pc := 33) d_Select_passes_33 rfl rfl ?_
    refine v_get (pc := 34) d_Select_passes_34 fl_Select_22 hO rfl ?_
    refine v_icmp_ge (pc := 37) (tgt := 44) d_Select_passes_37 rfl (fun hc => ?_) (fun hc => ?_)
    · skip
      refine v_iconst (pc := 44) (v := nI 0) d_Select_passes_44 rfl ?_
      exact v_zret (pc := 45) d_Select_passes_45 rfl z01 (Nat.le_of_ble_eq_true rfl) (Nat.le_of_ble_eq_true rfl) ⟨zr0 (by unfold ma_ps; simp_all [Int32.not_lt, Int32.not_le]), rfl, rfl⟩
    · skip
      refine v_iconst (pc := 40) (v := nI 1) d_Select_passes_40 rfl ?_
      refine v_goto (pc := 41) (tgt := 45) d_Select_passes_41 rfl ?_
      exact v_zret (pc := 45) d_Select_passes_45 rfl z11 (Nat.le_of_ble_eq_true rfl) (Nat.le_of_ble_eq_true rfl) ⟨zr1 (by unfold ma_ps; simp_all [Int32.not_lt, Int32.not_le]), rfl, rfl⟩
  · by_cases h1 : t = 1
    · subst h1
      refine v_look (pc := 4) (tgt := 46) d_Select_passes_4 (by decide) rfl rfl ?_
      refine v_iload_n (pc := 46) d_Select_passes_46 rfl rfl ?_
      refine v_aload_n (pc := 47) d_Select_passes_47 rfl rfl ?_
      refine v_get (pc := 48) d_Select_passes_48 fl_Select_22 hO rfl ?_
      refine v_icmp_ne (pc := 51) (tgt := 58) d_Select_passes_51 rfl (fun hc => ?_) (fun hc => ?_)
      · skip
        refine v_iconst (pc := 58) (v := nI 0) d_Select_passes_58 rfl ?_
        exact v_zret (pc := 59) d_Select_passes_59 rfl z01 (Nat.le_of_ble_eq_true rfl) (Nat.le_of_ble_eq_true rfl) ⟨zr0 (by unfold ma_ps; simp_all [Int32.not_lt, Int32.not_le]), rfl, rfl⟩
      · skip
        refine v_iconst (pc := 54) (v := nI 1) d_Select_passes_54 rfl ?_
        refine v_goto (pc := 55) (tgt := 59) d_Select_passes_55 rfl ?_
        exact v_zret (pc := 59) d_Select_passes_59 rfl z11 (Nat.le_of_ble_eq_true rfl) (Nat.le_of_ble_eq_true rfl) ⟨zr1 (by unfold ma_ps; simp_all [Int32.not_lt, Int32.not_le]), rfl, rfl⟩
    · skip
      have t0 : t.toInt ≠ 0 := fun h => h0 (Int32.toInt_inj.mp h)
      have t1 : t.toInt ≠ 1 := fun h => h1 (Int32.toInt_inj.mp h)
      refine v_look (pc := 4) (tgt := 60) (off := 56) d_Select_passes_4 (by decide) (by simp [Op.lookupswitch.offset, List.find?, Ne.symm t0, Ne.symm t1]) rfl ?_
      refine v_iload_n (pc := 60) d_Select_passes_60 rfl rfl ?_
      refine v_aload_n (pc := 61) d_Select_passes_61 rfl rfl ?_
      refine v_get (pc := 62) d_Select_passes_62 fl_Select_22 hO rfl ?_
      refine v_icmp_le (pc := 65) (tgt := 72) d_Select_passes_65 rfl (fun hc => ?_) (fun hc => ?_)
      · skip
        refine v_iconst (pc := 72) (v := nI 0) d_Select_passes_72 rfl ?_
        exact v_zret (pc := 73) d_Select_passes_73 rfl z01 (Nat.le_of_ble_eq_true rfl) (Nat.le_of_ble_eq_true rfl) ⟨zr0 (by unfold ma_ps; simp_all [Int32.not_lt, Int32.not_le]), rfl, rfl⟩
      · skip
        refine v_iconst (pc := 68) (v := nI 1) d_Select_passes_68 rfl ?_
        refine v_goto (pc := 69) (tgt := 73) d_Select_passes_69 rfl ?_
        exact v_zret (pc := 73) d_Select_passes_73 rfl z11 (Nat.le_of_ble_eq_true rfl) (Nat.le_of_ble_eq_true rfl) ⟨zr1 (by unfold ma_ps; simp_all [Int32.not_lt, Int32.not_le]), rfl, rfl⟩
set_option maxRecDepth 100000 in
set_option maxHeartbeats 4000000 in
theorem lp_Distinct_fill (g : Gl) {w : Wd} {v o bq h sz wd0 n0 : Nat} {f0 : Nat → Int32} {m0 : Nat → Int64} {pd0 : Nat → Int32} (hB : BGo w h wd0 n0 f0 m0 pd0) (ho : o < h ∨ h + 4 ≤ o) {e we ne : Nat} {fe : Nat → Int32} {me : Nat → Int64} {pe : Nat → Int32} (hE : BGo w e we ne fe me pe) (hd : e + 4 ≤ h ∨ h + 4 ≤ e) (hne : ne ≤ 32) (hwe : we ≤ 4) (hO : w o = some (cO 10 [.ref v]))  {E : Rs → Wd → Nat → Prop} (hE' : ∀ w', bg_st w h we (ma_foldC [] (op_dis (ar_bag fe me we 0 ne))) w' → E (.inl none) w' sz) : ∀ (zz : Nat) (r : Nat) (w1 : Wd), ne - r = zz → r ≤ ne → bg_st w h we (ma_foldC [] (op_dis (ar_bag fe me we 0 r))) w1 → VV g 4 0 0 mi_Distinct_fill w sz E 19 [(4, .int (nI r)), (3, .ref e), (0, .ref o), (1, .ref bq), (2, .ref h)] [] w1 sz 0 0 := by
  intro zz
  induction zz using Nat.strongRecOn with | _ zz ih => _
  intro r w1 hnn hrn hst
  obtain ⟨f1, m1, pd1, h1, hfr, hBB⟩ := id hst
  have k1 := hE.mv (w' := w1) (fun q h1 h2 => hfr q (by omega))
  have hO1 := (hfr o ho).trans hO
  obtain ⟨hok, hl⟩ := ma_foldC_ok (ma_ok_nil we) (by decide) (A := (op_dis (ar_bag fe me we 0 r))) (op_dis_row ar_rows)
  refine v_iload (pc := 19) d_Distinct_fill_19 rfl ?_
  refine v_aload_n (pc := 21) d_Distinct_fill_21 rfl rfl ?_
  refine v_get (pc := 22) d_Distinct_fill_22 fl_Distinct_29 k1.o rfl ?_
  refine v_icmp_ge (pc := 25) (tgt := 47) d_Distinct_fill_25 rfl (fun hc => ?_) (fun hc => ?_)
  · skip
    rw [nI_leI (by omega) (by omega)] at hc
    obtain rfl : r = ne := by omega
    exact v_vret (pc := 47) d_Distinct_fill_47 rfl (Nat.le_of_ble_eq_true rfl) (Nat.le_of_ble_eq_true rfl) (hE' w1 hst)
  · skip
    rw [nI_leI (by omega) (by omega)] at hc
    refine v_aload_n (pc := 28) d_Distinct_fill_28 rfl rfl ?_
    refine v_aload_n (pc := 29) d_Distinct_fill_29 rfl rfl ?_
    refine v_iload (pc := 30) d_Distinct_fill_30 rfl ?_
    refine v_iconst (pc := 32) (v := nI 0) d_Distinct_fill_32 rfl ?_
    refine v_cvV (pc := 33) (A := [.ref e, .int (nI r), .int (nI 0)]) (rest := []) d_Distinct_fill_33 lk_Distinct_32 me_Bag_putRow im_Bag_putRow se_Bag_putRow rfl h1.o rfl rfl (c_Bag_putRow g h1 k1 hd (r := r) (s := 0) (by omega) hwe (by omega)) (Nat.le_of_ble_eq_true rfl) (Nat.le_of_ble_eq_true rfl) (Nat.le_of_ble_eq_true rfl) (Nat.le_of_ble_eq_true rfl) (fun w2 ht2 => ?_)
    obtain ⟨pd2, h2, hf2, hp2, _⟩ := ht2
    have k2 := k1.mv (w' := w2) (fun q h1 h2 => hf2 q (by omega))
    have e8 : ar_row pd2 we 0 = ar_row fe we (4 * (0 + r)) := ar_row_congr (fun c hc => by have h9 := hp2 c hc; rw [Nat.zero_add] at h9; rw [Nat.zero_add, Nat.zero_add]; exact h9)
    refine v_aload_n (pc := 36) d_Distinct_fill_36 rfl rfl ?_
    refine v_lconst (pc := 37) (v := 1) d_Distinct_fill_37 rfl ?_
    refine v_cvV (pc := 38) (A := [.long 1]) (rest := []) d_Distinct_fill_38 lk_Distinct_36 me_Bag_add im_Bag_add se_Bag_add rfl h2.o rfl rfl (c_Bag_add g h2 hl hwe (by rw [hBB]; exact hok.1) 1) (Nat.le_of_ble_eq_true rfl) (Nat.le_of_ble_eq_true rfl) (Nat.le_of_ble_eq_true rfl) (Nat.le_of_ble_eq_true rfl) (fun w3 ht3 => ?_)
    have hnext : bg_st w h we (ma_foldC [] (op_dis (ar_bag fe me we 0 (r + 1)))) w3 := by
      unfold op_dis at hBB ht3 ⊢
      rw [ar_bag_snoc, List.map_append, List.map_cons, List.map_nil, ma_foldC_snoc]
      rw [hBB, e8] at ht3
      exact bg_ad.st (hfr.tr hf2) ht3
    refine v_iinc (pc := 41) (L' := [(4, .int (nI (r + 1))), (3, .ref e), (0, .ref o), (1, .ref bq), (2, .ref h)]) d_Distinct_fill_41 rfl (ix_inc _) (by decide) rfl ?_
    refine v_goto (pc := 44) (tgt := 19) d_Distinct_fill_44 rfl ?_
    refine v_sub (L' := [(4, .int (nI (r + 1))), (3, .ref e), (0, .ref o), (1, .ref bq), (2, .ref h)]) (by simp) ?_
    exact ih (ne - (r + 1)) (by omega) (r + 1) _ rfl (by omega) hnext
set_option maxRecDepth 100000 in
set_option maxHeartbeats 4000000 in
theorem c_Distinct_fill (g : Gl) {w : Wd} {o bq h sz wd0 n0 : Nat} {f0 : Nat → Int32} {m0 : Nat → Int64} {pd0 : Nat → Int32} (hB : BGo w h wd0 n0 f0 m0 pd0) (ho : o < h ∨ h + 4 ≤ o) {e we ne : Nat} {fe : Nat → Int32} {me : Nat → Int64} {pe : Nat → Int32} (hE : BGo w e we ne fe me pe) (hd : e + 4 ≤ h ∨ h + 4 ≤ e) (hne : ne ≤ 32) (hwe : we ≤ 4) {v : Nat} {q1 q2 q3 : Value} (hV : w v = some (cO 1 [q1, .ref e, q2, q3])) (hO : w o = some (cO 10 [.ref v]))  : CT g 4 0 0 mi_Distinct_fill [.ref o, .ref bq, .ref h] w sz (wrE none sz (bg_st w h we (ma_foldC [] (op_dis (ar_bag fe me we 0 ne))) )) := by
  refine CT.of (by decide) (Nat.le_of_ble_eq_true rfl) ?_
  refine v_aload_n (pc := 0) d_Distinct_fill_0 rfl rfl ?_
  refine v_get (pc := 1) d_Distinct_fill_1 fl_Distinct_7 hO rfl ?_
  refine v_get (pc := 4) d_Distinct_fill_4 fl_Distinct_13 hV rfl ?_
  refine v_astore_n (pc := 7) (L' := [(3, .ref e), (0, .ref o), (1, .ref bq), (2, .ref h)]) d_Distinct_fill_7 rfl (by decide) rfl ?_
  refine v_aload_n (pc := 8) d_Distinct_fill_8 rfl rfl ?_
  refine v_aload_n (pc := 9) d_Distinct_fill_9 rfl rfl ?_
  refine v_get (pc := 10) d_Distinct_fill_10 fl_Distinct_19 hE.o rfl ?_
  refine v_cvV (pc := 13) (A := [.int (nI we)]) (rest := []) d_Distinct_fill_13 lk_Distinct_25 me_Bag_clear im_Bag_clear se_Bag_clear rfl hB.o rfl rfl (c_Bag_clear g hB we) (Nat.le_of_ble_eq_true rfl) (Nat.le_of_ble_eq_true rfl) (Nat.le_of_ble_eq_true rfl) (Nat.le_of_ble_eq_true rfl) (fun w2 ht2 => ?_)
  obtain ⟨h2, hf2⟩ := ht2
  refine v_iconst (pc := 16) (v := nI 0) d_Distinct_fill_16 rfl ?_
  refine v_istore (pc := 17) (L' := [(4, .int (nI 0)), (3, .ref e), (0, .ref o), (1, .ref bq), (2, .ref h)]) d_Distinct_fill_17 (by decide) rfl ?_
  refine v_sub (L' := [(4, .int (nI 0)), (3, .ref e), (0, .ref o), (1, .ref bq), (2, .ref h)]) (by simp) ?_
  exact lp_Distinct_fill g hB ho hE hd hne hwe hO  (fun w' h => ⟨rfl, rfl, h⟩) ne 0 w2 rfl (by omega) (bg_st.clr h2 hf2)
set_option maxRecDepth 100000 in
set_option maxHeartbeats 4000000 in
theorem lp_Select_fill (g : Gl) {w : Wd} {v p : Nat} {t x : Int32} {o bq h sz wd0 n0 : Nat} {f0 : Nat → Int32} {m0 : Nat → Int64} {pd0 : Nat → Int32} (hB : BGo w h wd0 n0 f0 m0 pd0) (ho : o < h ∨ h + 4 ≤ o) {e we ne : Nat} {fe : Nat → Int32} {me : Nat → Int64} {pe : Nat → Int32} (hE : BGo w e we ne fe me pe) (hd : e + 4 ≤ h ∨ h + 4 ≤ e) (hne : ne ≤ 32) (hwe : we ≤ 4) (hO : w o = some (cO 5 [.ref v, .int (nI p), .int t, .int x])) (hpe : p < we) {E : Rs → Wd → Nat → Prop} (hE' : ∀ w', bg_st w h we (ma_foldC [] (op_sel p t x (ar_bag fe me we 0 ne))) w' → E (.inl none) w' sz) : ∀ (zz : Nat) (r : Nat) (w1 : Wd), ne - r = zz → r ≤ ne → bg_st w h we (ma_foldC [] (op_sel p t x (ar_bag fe me we 0 r))) w1 → VV g 4 0 0 mi_Select_fill w sz E 19 [(4, .int (nI r)), (3, .ref e), (0, .ref o), (1, .ref bq), (2, .ref h)] [] w1 sz 0 0 := by
  intro zz
  induction zz using Nat.strongRecOn with | _ zz ih => _
  intro r w1 hnn hrn hst
  obtain ⟨f1, m1, pd1, h1, hfr, hBB⟩ := id hst
  have k1 := hE.mv (w' := w1) (fun q h1 h2 => hfr q (by omega))
  have hO1 := (hfr o ho).trans hO
  obtain ⟨hok, hl⟩ := ma_foldC_ok (ma_ok_nil we) (by decide) (A := (op_sel p t x (ar_bag fe me we 0 r))) (op_sel_row ar_rows)
  refine v_iload (pc := 19) d_Select_fill_19 rfl ?_
  refine v_aload_n (pc := 21) d_Select_fill_21 rfl rfl ?_
  refine v_get (pc := 22) d_Select_fill_22 fl_Select_40 k1.o rfl ?_
  refine v_icmp_ge (pc := 25) (tgt := 69) d_Select_fill_25 rfl (fun hc => ?_) (fun hc => ?_)
  · skip
    rw [nI_leI (by omega) (by omega)] at hc
    obtain rfl : r = ne := by omega
    exact v_vret (pc := 69) d_Select_fill_69 rfl (Nat.le_of_ble_eq_true rfl) (Nat.le_of_ble_eq_true rfl) (hE' w1 hst)
  · skip
    rw [nI_leI (by omega) (by omega)] at hc
    refine v_aload_n (pc := 28) d_Select_fill_28 rfl rfl ?_
    refine v_aload_n (pc := 29) d_Select_fill_29 rfl rfl ?_
    refine v_iload (pc := 30) d_Select_fill_30 rfl ?_
    refine v_aload_n (pc := 32) d_Select_fill_32 rfl rfl ?_
    refine v_get (pc := 33) d_Select_fill_33 fl_Select_15 hO1 rfl ?_
    refine v_cvR (pc := 36) (A := [.int (nI r), .int (nI p)]) (rest := [.ref o]) (x := .int (fe (4 * r + p))) d_Select_fill_36 lk_Select_43 me_Bag_cellAt im_Bag_cellAt se_Bag_cellAt rfl k1.o rfl rfl (c_Bag_cellAt g k1 (r := r) (c := p) (by omega)) (Nat.le_of_ble_eq_true rfl) (Nat.le_of_ble_eq_true rfl) (Nat.le_of_ble_eq_true rfl) (Nat.le_of_ble_eq_true rfl) ?_
    refine v_cvR (pc := 39) (A := [.int (fe (4 * r + p))]) (rest := []) (x := .int (if ma_ps (fe (4 * r + p)) t x = true then 1 else 0)) d_Select_fill_39 lk_Select_47 me_Select_passes im_Select_passes se_Select_passes rfl hO1 rfl rfl (c_Select_passes g hO1 (fe (4 * r + p))) (Nat.le_of_ble_eq_true rfl) (Nat.le_of_ble_eq_true rfl) (Nat.le_of_ble_eq_true rfl) (Nat.le_of_ble_eq_true rfl) ?_
    refine v_if_eq (pc := 42) (tgt := 63) d_Select_fill_42 rfl (fun hc => ?_) (fun hc => ?_)
    · skip
      rw [zf] at hc
      have hnext : bg_st w h we (ma_foldC [] (op_sel p t x (ar_bag fe me we 0 (r + 1)))) w1 := by
        unfold op_sel at hst ⊢
        rw [ar_bag_snoc, List.filter_append, List.filter_cons_of_neg (by show ¬ ma_ps ((ar_row fe we (4 * (0 + r))).getD p 0) _ _ = true; rw [ar_row_getD hpe, Nat.zero_add]; exact hc), List.filter_nil, List.append_nil]
        exact hst
      refine v_iinc (pc := 63) (L' := [(4, .int (nI (r + 1))), (3, .ref e), (0, .ref o), (1, .ref bq), (2, .ref h)]) d_Select_fill_63 rfl (ix_inc _) (by decide) rfl ?_
      refine v_goto (pc := 66) (tgt := 19) d_Select_fill_66 rfl ?_
      refine v_sub (L' := [(4, .int (nI (r + 1))), (3, .ref e), (0, .ref o), (1, .ref bq), (2, .ref h)]) (by simp) ?_
      exact ih (ne - (r + 1)) (by omega) (r + 1) _ rfl (by omega) hnext
    · skip
      rw [zt] at hc
      refine v_aload_n (pc := 45) d_Select_fill_45 rfl rfl ?_
      refine v_aload_n (pc := 46) d_Select_fill_46 rfl rfl ?_
      refine v_iload (pc := 47) d_Select_fill_47 rfl ?_
      refine v_iconst (pc := 49) (v := nI 0) d_Select_fill_49 rfl ?_
      refine v_cvV (pc := 50) (A := [.ref e, .int (nI r), .int (nI 0)]) (rest := []) d_Select_fill_50 lk_Select_51 me_Bag_putRow im_Bag_putRow se_Bag_putRow rfl h1.o rfl rfl (c_Bag_putRow g h1 k1 hd (r := r) (s := 0) (by omega) hwe (by omega)) (Nat.le_of_ble_eq_true rfl) (Nat.le_of_ble_eq_true rfl) (Nat.le_of_ble_eq_true rfl) (Nat.le_of_ble_eq_true rfl) (fun w2 ht2 => ?_)
      obtain ⟨pd2, h2, hf2, hp2, _⟩ := ht2
      have k2 := k1.mv (w' := w2) (fun q h1 h2 => hf2 q (by omega))
      have e8 : ar_row pd2 we 0 = ar_row fe we (4 * (0 + r)) := ar_row_congr (fun c hc => by have h9 := hp2 c hc; rw [Nat.zero_add] at h9; rw [Nat.zero_add, Nat.zero_add]; exact h9)
      refine v_aload_n (pc := 53) d_Select_fill_53 rfl rfl ?_
      refine v_aload_n (pc := 54) d_Select_fill_54 rfl rfl ?_
      refine v_iload (pc := 55) d_Select_fill_55 rfl ?_
      refine v_cvR (pc := 57) (A := [.int (nI r)]) (rest := [.ref h]) (x := .long (me r)) d_Select_fill_57 lk_Select_55 me_Bag_timesAt im_Bag_timesAt se_Bag_timesAt rfl k2.o rfl rfl (c_Bag_timesAt g k2 (r := r) (by omega)) (Nat.le_of_ble_eq_true rfl) (Nat.le_of_ble_eq_true rfl) (Nat.le_of_ble_eq_true rfl) (Nat.le_of_ble_eq_true rfl) ?_
      refine v_cvV (pc := 60) (A := [.long (me r)]) (rest := []) d_Select_fill_60 lk_Select_59 me_Bag_add im_Bag_add se_Bag_add rfl h2.o rfl rfl (c_Bag_add g h2 hl hwe (by rw [hBB]; exact hok.1) (me r)) (Nat.le_of_ble_eq_true rfl) (Nat.le_of_ble_eq_true rfl) (Nat.le_of_ble_eq_true rfl) (Nat.le_of_ble_eq_true rfl) (fun w3 ht3 => ?_)
      have hnext : bg_st w h we (ma_foldC [] (op_sel p t x (ar_bag fe me we 0 (r + 1)))) w3 := by
        unfold op_sel at hBB ht3 ⊢
        rw [ar_bag_snoc, List.filter_append, List.filter_cons_of_pos (by show ma_ps ((ar_row fe we (4 * (0 + r))).getD p 0) _ _ = true; rw [ar_row_getD hpe, Nat.zero_add]; exact hc), List.filter_nil, ma_foldC_snoc]
        rw [hBB, e8] at ht3
        have e9 := bg_ad.st (hfr.tr hf2) ht3
        rw [show me r = me (0 + r) from by rw [Nat.zero_add]] at e9
        exact e9
      refine v_iinc (pc := 63) (L' := [(4, .int (nI (r + 1))), (3, .ref e), (0, .ref o), (1, .ref bq), (2, .ref h)]) d_Select_fill_63 rfl (ix_inc _) (by decide) rfl ?_
      refine v_goto (pc := 66) (tgt := 19) d_Select_fill_66 rfl ?_
      refine v_sub (L' := [(4, .int (nI (r + 1))), (3, .ref e), (0, .ref o), (1, .ref bq), (2, .ref h)]) (by simp) ?_
      exact ih (ne - (r + 1)) (by omega) (r + 1) _ rfl (by omega) hnext
set_option maxRecDepth 100000 in
set_option maxHeartbeats 4000000 in
theorem c_Select_fill (g : Gl) {w : Wd} {p : Nat} {t x : Int32} {o bq h sz wd0 n0 : Nat} {f0 : Nat → Int32} {m0 : Nat → Int64} {pd0 : Nat → Int32} (hB : BGo w h wd0 n0 f0 m0 pd0) (ho : o < h ∨ h + 4 ≤ o) {e we ne : Nat} {fe : Nat → Int32} {me : Nat → Int64} {pe : Nat → Int32} (hE : BGo w e we ne fe me pe) (hd : e + 4 ≤ h ∨ h + 4 ≤ e) (hne : ne ≤ 32) (hwe : we ≤ 4) {v : Nat} {q1 q2 q3 : Value} (hV : w v = some (cO 1 [q1, .ref e, q2, q3])) (hO : w o = some (cO 5 [.ref v, .int (nI p), .int t, .int x])) (hpe : p < we) : CT g 4 0 0 mi_Select_fill [.ref o, .ref bq, .ref h] w sz (wrE none sz (bg_st w h we (ma_foldC [] (op_sel p t x (ar_bag fe me we 0 ne))) )) := by
  refine CT.of (by decide) (Nat.le_of_ble_eq_true rfl) ?_
  refine v_aload_n (pc := 0) d_Select_fill_0 rfl rfl ?_
  refine v_get (pc := 1) d_Select_fill_1 fl_Select_9 hO rfl ?_
  refine v_get (pc := 4) d_Select_fill_4 fl_Select_25 hV rfl ?_
  refine v_astore_n (pc := 7) (L' := [(3, .ref e), (0, .ref o), (1, .ref bq), (2, .ref h)]) d_Select_fill_7 rfl (by decide) rfl ?_
  refine v_aload_n (pc := 8) d_Select_fill_8 rfl rfl ?_
  refine v_aload_n (pc := 9) d_Select_fill_9 rfl rfl ?_
  refine v_get (pc := 10) d_Select_fill_10 fl_Select_31 hE.o rfl ?_
  refine v_cvV (pc := 13) (A := [.int (nI we)]) (rest := []) d_Select_fill_13 lk_Select_36 me_Bag_clear im_Bag_clear se_Bag_clear rfl hB.o rfl rfl (c_Bag_clear g hB we) (Nat.le_of_ble_eq_true rfl) (Nat.le_of_ble_eq_true rfl) (Nat.le_of_ble_eq_true rfl) (Nat.le_of_ble_eq_true rfl) (fun w2 ht2 => ?_)
  obtain ⟨h2, hf2⟩ := ht2
  refine v_iconst (pc := 16) (v := nI 0) d_Select_fill_16 rfl ?_
  refine v_istore (pc := 17) (L' := [(4, .int (nI 0)), (3, .ref e), (0, .ref o), (1, .ref bq), (2, .ref h)]) d_Select_fill_17 (by decide) rfl ?_
  refine v_sub (L' := [(4, .int (nI 0)), (3, .ref e), (0, .ref o), (1, .ref bq), (2, .ref h)]) (by simp) ?_
  exact lp_Select_fill g hB ho hE hd hne hwe hO hpe (fun w' h => ⟨rfl, rfl, h⟩) ne 0 w2 rfl (by omega) (bg_st.clr h2 hf2)
