theorem op_jn1_row {p q a b : Nat} {y : List Int32 × Int64} {C : MaB} (hy : y.1.length = a) (h : ∀ x ∈ C, x.1.length = b) : ∀ x ∈ op_jn1 p q y C, x.1.length = a + b := by
  intro x hx
  obtain ⟨z, hz, rfl⟩ := List.mem_map.mp hx
  rw [List.length_append, hy, h z (List.mem_filter.mp hz).1]
theorem op_jn_row {p q a b : Nat} {B C : MaB} (hB : ∀ x ∈ B, x.1.length = a) (h : ∀ x ∈ C, x.1.length = b) : ∀ x ∈ op_jn p q B C, x.1.length = a + b := by
  intro x hx
  obtain ⟨y, hy, hx⟩ := List.mem_flatMap.mp hx
  exact op_jn1_row (hB y hy) h x hx
set_option maxRecDepth 100000 in
set_option maxHeartbeats 4000000 in
theorem lp_Join_addPartners (g : Gl) {w : Wd} {o h sz p q : Nat} {B0 : MaB} (ho : o < h ∨ h + 4 ≤ o) {e we ne : Nat} {fe : Nat → Int32} {me : Nat → Int64} {pe : Nat → Int32} (hE : BGo w e we ne fe me pe) (hd : e + 4 ≤ h ∨ h + 4 ≤ e) (hne : ne ≤ 32) (hwe : we ≤ 4) {e2 we2 ne2 : Nat} {fe2 : Nat → Int32} {me2 : Nat → Int64} {pe2 : Nat → Int32} (hE2 : BGo w e2 we2 ne2 fe2 me2 pe2) (hd2 : e2 + 4 ≤ h ∨ h + 4 ≤ e2) (hne2 : ne2 ≤ 32) {v v2 : Nat} (hO : w o = some (cO 7 [.ref v, .ref v2, .int (nI p), .int (nI q)])) (hp : p < we) (hq : q < we2) (hww : we + we2 ≤ 4) {r : Nat} (hr : r < 32) (hok0 : ma_ok (we + we2) B0) (hl0 : B0.length ≤ 32) {E : Rs → Wd → Nat → Prop} (hE' : ∀ w', bg_st w h (we + we2) (ma_foldC B0 (op_jn1 p q (ar_row fe we (4 * r), me r) (ar_bag fe2 me2 we2 0 ne2))) w' → E (.inl none) w' sz) : ∀ (zz : Nat) (s : Nat) (w1 : Wd), ne2 - s = zz → s ≤ ne2 → bg_st w h (we + we2) (ma_foldC B0 (op_jn1 p q (ar_row fe we (4 * r), me r) (ar_bag fe2 me2 we2 0 s))) w1 → VV g 4 0 0 mi_Join_addPartners w sz E 20 [(5, .int (nI s)), (3, .ref e), (4, .ref e2), (0, .ref o), (1, .int (nI r)), (2, .ref h)] [] w1 sz 0 0 := by
  intro zz
  induction zz using Nat.strongRecOn with | _ zz ih => _
  intro s w1 hnn hsn hst
  obtain ⟨f1, m1, pd1, h1, hfr, hBB⟩ := id hst
  have k1 := hE.mv (w' := w1) (fun q h1 h2 => hfr q (by omega))
  have j1 := hE2.mv (w' := w1) (fun q h1 h2 => hfr q (by omega))
  have hO1 := (hfr o ho).trans hO
  obtain ⟨hok, hl⟩ := ma_foldC_ok hok0 hl0 (A := (op_jn1 p q (ar_row fe we (4 * r), me r) (ar_bag fe2 me2 we2 0 s))) (op_jn1_row (ar_row_len _ _ _) ar_rows)
  refine v_iload (pc := 20) d_Join_addPartners_20 rfl ?_
  refine v_aload (pc := 22) d_Join_addPartners_22 rfl ?_
  refine v_get (pc := 24) d_Join_addPartners_24 fl_Join_38 j1.o rfl ?_
  refine v_icmp_ge (pc := 27) (tgt := 95) d_Join_addPartners_27 rfl (fun hc => ?_) (fun hc => ?_)
  · skip
    rw [nI_leI (by omega) (by omega)] at hc
    obtain rfl : s = ne2 := by omega
    exact v_vret (pc := 95) d_Join_addPartners_95 rfl (Nat.le_of_ble_eq_true rfl) (Nat.le_of_ble_eq_true rfl) (hE' w1 hst)
  · skip
    rw [nI_leI (by omega) (by omega)] at hc
    refine v_aload_n (pc := 30) d_Join_addPartners_30 rfl rfl ?_
    refine v_iload_n (pc := 31) d_Join_addPartners_31 rfl rfl ?_
    refine v_aload_n (pc := 32) d_Join_addPartners_32 rfl rfl ?_
    refine v_get (pc := 33) d_Join_addPartners_33 fl_Join_16 hO1 rfl ?_
    refine v_cvR (pc := 36) (A := [.int (nI r), .int (nI p)]) (rest := []) (x := .int (fe (4 * r + p))) d_Join_addPartners_36 lk_Join_45 me_Bag_cellAt im_Bag_cellAt se_Bag_cellAt rfl k1.o rfl rfl (c_Bag_cellAt g k1 (r := r) (c := p) (by omega)) (Nat.le_of_ble_eq_true rfl) (Nat.le_of_ble_eq_true rfl) (Nat.le_of_ble_eq_true rfl) (Nat.le_of_ble_eq_true rfl) ?_
    refine v_aload (pc := 39) d_Join_addPartners_39 rfl ?_
    refine v_iload (pc := 41) d_Join_addPartners_41 rfl ?_
    refine v_aload_n (pc := 43) d_Join_addPartners_43 rfl rfl ?_
    refine v_get (pc := 44) d_Join_addPartners_44 fl_Join_20 hO1 rfl ?_
    refine v_cvR (pc := 47) (A := [.int (nI s), .int (nI q)]) (rest := [.int (fe (4 * r + p))]) (x := .int (fe2 (4 * s + q))) d_Join_addPartners_47 lk_Join_45 me_Bag_cellAt im_Bag_cellAt se_Bag_cellAt rfl j1.o rfl rfl (c_Bag_cellAt g j1 (r := s) (c := q) (by omega)) (Nat.le_of_ble_eq_true rfl) (Nat.le_of_ble_eq_true rfl) (Nat.le_of_ble_eq_true rfl) (Nat.le_of_ble_eq_true rfl) ?_
    refine v_icmp_ne (pc := 50) (tgt := 89) d_Join_addPartners_50 rfl (fun hc => ?_) (fun hc => ?_)
    · skip
      have hnext : bg_st w h (we + we2) (ma_foldC B0 (op_jn1 p q (ar_row fe we (4 * r), me r) (ar_bag fe2 me2 we2 0 (s + 1)))) w1 := by
        rw [ar_bag_snoc, op_jn1_snoc0 (by show ¬ (ar_row fe we (4 * r)).getD p 0 = (ar_row fe2 we2 (4 * (0 + s))).getD q 0; rw [ar_row_getD hp, ar_row_getD hq, Nat.zero_add]; exact hc)]
        exact hst
      refine v_iinc (pc := 89) (L' := [(5, .int (nI (s + 1))), (3, .ref e), (4, .ref e2), (0, .ref o), (1, .int (nI r)), (2, .ref h)]) d_Join_addPartners_89 rfl (ix_inc _) (by decide) rfl ?_
      refine v_goto (pc := 92) (tgt := 20) d_Join_addPartners_92 rfl ?_
      refine v_sub (L' := [(5, .int (nI (s + 1))), (3, .ref e), (4, .ref e2), (0, .ref o), (1, .int (nI r)), (2, .ref h)]) (by simp) ?_
      exact ih (ne2 - (s + 1)) (by omega) (s + 1) _ rfl (by omega) hnext
    · skip
      refine v_aload_n (pc := 53) d_Join_addPartners_53 rfl rfl ?_
      refine v_aload_n (pc := 54) d_Join_addPartners_54 rfl rfl ?_
      refine v_iload_n (pc := 55) d_Join_addPartners_55 rfl rfl ?_
      refine v_iconst (pc := 56) (v := nI 0) d_Join_addPartners_56 rfl ?_
      refine v_cvV (pc := 57) (A := [.ref e, .int (nI r), .int (nI 0)]) (rest := []) d_Join_addPartners_57 lk_Join_49 me_Bag_putRow im_Bag_putRow se_Bag_putRow rfl h1.o rfl rfl (c_Bag_putRow g h1 k1 hd (r := r) (s := 0) (by omega) hwe (by omega)) (Nat.le_of_ble_eq_true rfl) (Nat.le_of_ble_eq_true rfl) (Nat.le_of_ble_eq_true rfl) (Nat.le_of_ble_eq_true rfl) (fun w2 ht2 => ?_)
      obtain ⟨pd2, h2, hf2, hp2, _⟩ := ht2
      have k2 := k1.mv (w' := w2) (fun q h1 h2 => hf2 q (by omega))
      have j2 := j1.mv (w' := w2) (fun q h1 h2 => hf2 q (by omega))
      refine v_aload_n (pc := 60) d_Join_addPartners_60 rfl rfl ?_
      refine v_aload (pc := 61) d_Join_addPartners_61 rfl ?_
      refine v_iload (pc := 63) d_Join_addPartners_63 rfl ?_
      refine v_aload_n (pc := 65) d_Join_addPartners_65 rfl rfl ?_
      refine v_get (pc := 66) d_Join_addPartners_66 fl_Join_29 k2.o rfl ?_
      refine v_cvV (pc := 69) (A := [.ref e2, .int (nI s), .int (nI we)]) (rest := []) d_Join_addPartners_69 lk_Join_49 me_Bag_putRow im_Bag_putRow se_Bag_putRow rfl h2.o rfl rfl (c_Bag_putRow g h2 j2 hd2 (r := s) (s := we) (by omega) (by omega) hww) (Nat.le_of_ble_eq_true rfl) (Nat.le_of_ble_eq_true rfl) (Nat.le_of_ble_eq_true rfl) (Nat.le_of_ble_eq_true rfl) (fun w3 ht3 => ?_)
      obtain ⟨pd3, h3, hf3, hp3, ho3⟩ := ht3
      have k3 := k2.mv (w' := w3) (fun q h1 h2 => hf3 q (by omega))
      have j3 := j2.mv (w' := w3) (fun q h1 h2 => hf3 q (by omega))
      refine v_aload_n (pc := 72) d_Join_addPartners_72 rfl rfl ?_
      refine v_aload_n (pc := 73) d_Join_addPartners_73 rfl rfl ?_
      refine v_iload_n (pc := 74) d_Join_addPartners_74 rfl rfl ?_
      refine v_cvR (pc := 75) (A := [.int (nI r)]) (rest := [.ref h]) (x := .long (me r)) d_Join_addPartners_75 lk_Join_53 me_Bag_timesAt im_Bag_timesAt se_Bag_timesAt rfl k3.o rfl rfl (c_Bag_timesAt g k3 (r := r) (by omega)) (Nat.le_of_ble_eq_true rfl) (Nat.le_of_ble_eq_true rfl) (Nat.le_of_ble_eq_true rfl) (Nat.le_of_ble_eq_true rfl) ?_
      refine v_aload (pc := 78) d_Join_addPartners_78 rfl ?_
      refine v_iload (pc := 80) d_Join_addPartners_80 rfl ?_
      refine v_cvR (pc := 82) (A := [.int (nI s)]) (rest := [.long (me r), .ref h]) (x := .long (me2 s)) d_Join_addPartners_82 lk_Join_53 me_Bag_timesAt im_Bag_timesAt se_Bag_timesAt rfl j3.o rfl rfl (c_Bag_timesAt g j3 (r := s) (by omega)) (Nat.le_of_ble_eq_true rfl) (Nat.le_of_ble_eq_true rfl) (Nat.le_of_ble_eq_true rfl) (Nat.le_of_ble_eq_true rfl) ?_
      refine v_lmul (pc := 85) d_Join_addPartners_85 ?_
      refine v_cvV (pc := 86) (A := [.long ((me r) * (me2 s))]) (rest := []) d_Join_addPartners_86 lk_Join_57 me_Bag_add im_Bag_add se_Bag_add rfl h3.o rfl rfl (c_Bag_add g h3 hl hww (by rw [hBB]; exact hok.1) (me r * me2 s)) (Nat.le_of_ble_eq_true rfl) (Nat.le_of_ble_eq_true rfl) (Nat.le_of_ble_eq_true rfl) (Nat.le_of_ble_eq_true rfl) (fun w4 ht4 => ?_)
      have hnext : bg_st w h (we + we2) (ma_foldC B0 (op_jn1 p q (ar_row fe we (4 * r), me r) (ar_bag fe2 me2 we2 0 (s + 1)))) w4 := by
        have e8 : ar_row pd3 (we + we2) 0 = ar_row fe we (4 * r) ++ ar_row fe2 we2 (4 * (0 + s)) := by
          rw [ar_row_app]
          have e7 : ar_row pd3 we 0 = ar_row fe we (4 * r) := ar_row_congr (fun c hc => by have h9 := hp2 c hc; rw [Nat.zero_add] at h9; rw [Nat.zero_add, ho3 c (Or.inl hc)]; exact h9)
          have e6 : ar_row pd3 we2 (0 + we) = ar_row fe2 we2 (4 * (0 + s)) := ar_row_congr (fun c hc => by rw [Nat.zero_add, Nat.zero_add]; exact hp3 c hc)
          rw [e7, e6]
        rw [hBB, e8] at ht4
        rw [ar_bag_snoc, op_jn1_snoc1 (by show (ar_row fe we (4 * r)).getD p 0 = (ar_row fe2 we2 (4 * (0 + s))).getD q 0; rw [ar_row_getD hp, ar_row_getD hq, Nat.zero_add]; exact hc), ma_foldC_snoc]
        have e9 := bg_ad.st ((hfr.tr hf2).tr hf3) ht4
        rw [show me2 s = me2 (0 + s) from by rw [Nat.zero_add]] at e9
        exact e9
      refine v_iinc (pc := 89) (L' := [(5, .int (nI (s + 1))), (3, .ref e), (4, .ref e2), (0, .ref o), (1, .int (nI r)), (2, .ref h)]) d_Join_addPartners_89 rfl (ix_inc _) (by decide) rfl ?_
      refine v_goto (pc := 92) (tgt := 20) d_Join_addPartners_92 rfl ?_
      refine v_sub (L' := [(5, .int (nI (s + 1))), (3, .ref e), (4, .ref e2), (0, .ref o), (1, .int (nI r)), (2, .ref h)]) (by simp) ?_
      exact ih (ne2 - (s + 1)) (by omega) (s + 1) _ rfl (by omega) hnext
set_option maxRecDepth 100000 in
set_option maxHeartbeats 4000000 in
theorem c_Join_addPartners (g : Gl) {w : Wd} {o h sz p q : Nat} {B0 : MaB} (ho : o < h ∨ h + 4 ≤ o) {e we ne : Nat} {fe : Nat → Int32} {me : Nat → Int64} {pe : Nat → Int32} (hE : BGo w e we ne fe me pe) (hd : e + 4 ≤ h ∨ h + 4 ≤ e) (hne : ne ≤ 32) (hwe : we ≤ 4) {e2 we2 ne2 : Nat} {fe2 : Nat → Int32} {me2 : Nat → Int64} {pe2 : Nat → Int32} (hE2 : BGo w e2 we2 ne2 fe2 me2 pe2) (hd2 : e2 + 4 ≤ h ∨ h + 4 ≤ e2) (hne2 : ne2 ≤ 32) {v : Nat} {q1 q2 q3 : Value} (hV : w v = some (cO 1 [q1, .ref e, q2, q3])) {v2 : Nat} {p1 p2 p3 : Value} (hV2 : w v2 = some (cO 1 [p1, .ref e2, p2, p3])) (hO : w o = some (cO 7 [.ref v, .ref v2, .int (nI p), .int (nI q)])) (hp : p < we) (hq : q < we2) (hww : we + we2 ≤ 4) {r : Nat} (hr : r < 32) (hok0 : ma_ok (we + we2) B0) (hl0 : B0.length ≤ 32) (hst : bg_st w h (we + we2) B0 w) : CT g 4 0 0 mi_Join_addPartners [.ref o, .int (nI r), .ref h] w sz (wrE none sz (bg_st w h (we + we2) (ma_foldC B0 (op_jn1 p q (ar_row fe we (4 * r), me r) (ar_bag fe2 me2 we2 0 ne2))) )) := by
  refine CT.of (by decide) (Nat.le_of_ble_eq_true rfl) ?_
  refine v_aload_n (pc := 0) d_Join_addPartners_0 rfl rfl ?_
  refine v_get (pc := 1) d_Join_addPartners_1 fl_Join_7 hO rfl ?_
  refine v_get (pc := 4) d_Join_addPartners_4 fl_Join_23 hV rfl ?_
  refine v_astore_n (pc := 7) (L' := [(3, .ref e), (0, .ref o), (1, .int (nI r)), (2, .ref h)]) d_Join_addPartners_7 rfl (by decide) rfl ?_
  refine v_aload_n (pc := 8) d_Join_addPartners_8 rfl rfl ?_
  refine v_get (pc := 9) d_Join_addPartners_9 fl_Join_13 hO rfl ?_
  refine v_get (pc := 12) d_Join_addPartners_12 fl_Join_23 hV2 rfl ?_
  refine v_astore (pc := 15) (L' := [(4, .ref e2), (3, .ref e), (0, .ref o), (1, .int (nI r)), (2, .ref h)]) d_Join_addPartners_15 (by decide) rfl ?_
  refine v_iconst (pc := 17) (v := nI 0) d_Join_addPartners_17 rfl ?_
  refine v_istore (pc := 18) (L' := [(5, .int (nI 0)), (4, .ref e2), (3, .ref e), (0, .ref o), (1, .int (nI r)), (2, .ref h)]) d_Join_addPartners_18 (by decide) rfl ?_
  refine v_sub (L' := [(5, .int (nI 0)), (3, .ref e), (4, .ref e2), (0, .ref o), (1, .int (nI r)), (2, .ref h)]) (by simp) ?_
  exact lp_Join_addPartners g ho hE hd hne hwe hE2 hd2 hne2 hO hp hq hww hr hok0 hl0 (fun w' h => ⟨rfl, rfl, h⟩) ne2 0 w rfl (by omega) hst
set_option maxRecDepth 100000 in
set_option maxHeartbeats 4000000 in
theorem lp_Join_fill (g : Gl) {w : Wd} {p q : Nat} {o bq h sz wd0 n0 : Nat} {f0 : Nat → Int32} {m0 : Nat → Int64} {pd0 : Nat → Int32} (hB : BGo w h wd0 n0 f0 m0 pd0) (ho : o < h ∨ h + 4 ≤ o) {e we ne : Nat} {fe : Nat → Int32} {me : Nat → Int64} {pe : Nat → Int32} (hE : BGo w e we ne fe me pe) (hd : e + 4 ≤ h ∨ h + 4 ≤ e) (hne : ne ≤ 32) (hwe : we ≤ 4) {e2 we2 ne2 : Nat} {fe2 : Nat → Int32} {me2 : Nat → Int64} {pe2 : Nat → Int32} (hE2 : BGo w e2 we2 ne2 fe2 me2 pe2) (hd2 : e2 + 4 ≤ h ∨ h + 4 ≤ e2) (hne2 : ne2 ≤ 32) {v : Nat} {q1 q2 q3 : Value} (hV : w v = some (cO 1 [q1, .ref e, q2, q3])) {v2 : Nat} {p1 p2 p3 : Value} (hV2 : w v2 = some (cO 1 [p1, .ref e2, p2, p3])) (hvo : v < h ∨ h + 4 ≤ v) (hvo2 : v2 < h ∨ h + 4 ≤ v2) (hO : w o = some (cO 7 [.ref v, .ref v2, .int (nI p), .int (nI q)])) (hp : p < we) (hq : q < we2) (hww : we + we2 ≤ 4) {E : Rs → Wd → Nat → Prop} (hE' : ∀ w', bg_st w h (we + we2) (ma_foldC [] (op_jn p q (ar_bag fe me we 0 ne) (ar_bag fe2 me2 we2 0 ne2))) w' → E (.inl none) w' sz) : ∀ (zz : Nat) (r : Nat) (w1 : Wd), ne - r = zz → r ≤ ne → bg_st w h (we + we2) (ma_foldC [] (op_jn p q (ar_bag fe me we 0 r) (ar_bag fe2 me2 we2 0 ne2))) w1 → VV g 5 0 0 mi_Join_fill w sz E 27 [(3, .int (nI r)), (0, .ref o), (1, .ref bq), (2, .ref h)] [] w1 sz 0 0 := by
  intro zz
  induction zz using Nat.strongRecOn with | _ zz ih => _
  intro r w1 hnn hrn hst
  obtain ⟨f1, m1, pd1, h1, hfr, hBB⟩ := id hst
  have k1 := hE.mv (w' := w1) (fun q h1 h2 => hfr q (by omega))
  have j1 := hE2.mv (w' := w1) (fun q h1 h2 => hfr q (by omega))
  have hO1 := (hfr o ho).trans hO
  have hV1 := (hfr v hvo).trans hV
  have hW1 := (hfr v2 hvo2).trans hV2
  obtain ⟨hok, hl⟩ := ma_foldC_ok (ma_ok_nil (we + we2)) (by decide) (A := (op_jn p q (ar_bag fe me we 0 r) (ar_bag fe2 me2 we2 0 ne2))) (op_jn_row ar_rows ar_rows)
  refine v_iload_n (pc := 27) d_Join_fill_27 rfl rfl ?_
  refine v_aload_n (pc := 28) d_Join_fill_28 rfl rfl ?_
  refine v_get (pc := 29) d_Join_fill_29 fl_Join_7 hO1 rfl ?_
  refine v_get (pc := 32) d_Join_fill_32 fl_Join_23 hV1 rfl ?_
  refine v_get (pc := 35) d_Join_fill_35 fl_Join_38 k1.o rfl ?_
  refine v_icmp_ge (pc := 38) (tgt := 53) d_Join_fill_38 rfl (fun hc => ?_) (fun hc => ?_)
  · skip
    rw [nI_leI (by omega) (by omega)] at hc
    obtain rfl : r = ne := by omega
    exact v_vret (pc := 53) d_Join_fill_53 rfl (Nat.le_of_ble_eq_true rfl) (Nat.le_of_ble_eq_true rfl) (hE' w1 hst)
  · skip
    rw [nI_leI (by omega) (by omega)] at hc
    refine v_aload_n (pc := 41) d_Join_fill_41 rfl rfl ?_
    refine v_iload_n (pc := 42) d_Join_fill_42 rfl rfl ?_
    refine v_aload_n (pc := 43) d_Join_fill_43 rfl rfl ?_
    refine v_cvV (pc := 44) (A := [.int (nI r), .ref h]) (rest := []) d_Join_fill_44 lk_Join_41 me_Join_addPartners im_Join_addPartners se_Join_addPartners rfl hO1 rfl rfl (c_Join_addPartners g ho k1 hd hne hwe j1 hd2 hne2 hV1 hW1 hO1 hp hq hww (r := r) (by omega) hok hl ⟨f1, m1, pd1, h1, bg_fr.rf, hBB⟩) (Nat.le_of_ble_eq_true rfl) (Nat.le_of_ble_eq_true rfl) (Nat.le_of_ble_eq_true rfl) (Nat.le_of_ble_eq_true rfl) (fun w2 ht2 => ?_)
    have hnext : bg_st w h (we + we2) (ma_foldC [] (op_jn p q (ar_bag fe me we 0 (r + 1)) (ar_bag fe2 me2 we2 0 ne2))) w2 := by
      obtain ⟨f2, m2, pd2, h2, hf2, hB2⟩ := ht2
      rw [ar_bag_snoc, op_jn_snoc, ma_foldC_app, Nat.zero_add]
      exact ⟨f2, m2, pd2, h2, hfr.tr hf2, hB2⟩
    refine v_iinc (pc := 47) (L' := [(3, .int (nI (r + 1))), (0, .ref o), (1, .ref bq), (2, .ref h)]) d_Join_fill_47 rfl (ix_inc _) (by decide) rfl ?_
    refine v_goto (pc := 50) (tgt := 27) d_Join_fill_50 rfl ?_
    refine v_sub (L' := [(3, .int (nI (r + 1))), (0, .ref o), (1, .ref bq), (2, .ref h)]) (by simp) ?_
    exact ih (ne - (r + 1)) (by omega) (r + 1) _ rfl (by omega) hnext
set_option maxRecDepth 100000 in
set_option maxHeartbeats 4000000 in
theorem c_Join_fill (g : Gl) {w : Wd} {p q : Nat} {o bq h sz wd0 n0 : Nat} {f0 : Nat → Int32} {m0 : Nat → Int64} {pd0 : Nat → Int32} (hB : BGo w h wd0 n0 f0 m0 pd0) (ho : o < h ∨ h + 4 ≤ o) {e we ne : Nat} {fe : Nat → Int32} {me : Nat → Int64} {pe : Nat → Int32} (hE : BGo w e we ne fe me pe) (hd : e + 4 ≤ h ∨ h + 4 ≤ e) (hne : ne ≤ 32) (hwe : we ≤ 4) {e2 we2 ne2 : Nat} {fe2 : Nat → Int32} {me2 : Nat → Int64} {pe2 : Nat → Int32} (hE2 : BGo w e2 we2 ne2 fe2 me2 pe2) (hd2 : e2 + 4 ≤ h ∨ h + 4 ≤ e2) (hne2 : ne2 ≤ 32) {v : Nat} {q1 q2 q3 : Value} (hV : w v = some (cO 1 [q1, .ref e, q2, q3])) {v2 : Nat} {p1 p2 p3 : Value} (hV2 : w v2 = some (cO 1 [p1, .ref e2, p2, p3])) (hvo : v < h ∨ h + 4 ≤ v) (hvo2 : v2 < h ∨ h + 4 ≤ v2) (hO : w o = some (cO 7 [.ref v, .ref v2, .int (nI p), .int (nI q)])) (hp : p < we) (hq : q < we2) (hww : we + we2 ≤ 4) : CT g 5 0 0 mi_Join_fill [.ref o, .ref bq, .ref h] w sz (wrE none sz (bg_st w h (we + we2) (ma_foldC [] (op_jn p q (ar_bag fe me we 0 ne) (ar_bag fe2 me2 we2 0 ne2))) )) := by
  refine CT.of (by decide) (Nat.le_of_ble_eq_true rfl) ?_
  refine v_aload_n (pc := 0) d_Join_fill_0 rfl rfl ?_
  refine v_aload_n (pc := 1) d_Join_fill_1 rfl rfl ?_
  refine v_get (pc := 2) d_Join_fill_2 fl_Join_7 hO rfl ?_
  refine v_get (pc := 5) d_Join_fill_5 fl_Join_23 hV rfl ?_
  refine v_get (pc := 8) d_Join_fill_8 fl_Join_29 hE.o rfl ?_
  refine v_aload_n (pc := 11) d_Join_fill_11 rfl rfl ?_
  refine v_get (pc := 12) d_Join_fill_12 fl_Join_13 hO rfl ?_
  refine v_get (pc := 15) d_Join_fill_15 fl_Join_23 hV2 rfl ?_
  refine v_get (pc := 18) d_Join_fill_18 fl_Join_29 hE2.o rfl ?_
  refine v_iadd (pc := 21) d_Join_fill_21 ?_
  refine v_re (nI_add we we2) ?_
  refine v_cvV (pc := 22) (A := [.int (nI (we + we2))]) (rest := []) d_Join_fill_22 lk_Join_34 me_Bag_clear im_Bag_clear se_Bag_clear rfl hB.o rfl rfl (c_Bag_clear g hB (we + we2)) (Nat.le_of_ble_eq_true rfl) (Nat.le_of_ble_eq_true rfl) (Nat.le_of_ble_eq_true rfl) (Nat.le_of_ble_eq_true rfl) (fun w2 ht2 => ?_)
  obtain ⟨h2, hf2⟩ := ht2
  refine v_iconst (pc := 25) (v := nI 0) d_Join_fill_25 rfl ?_
  refine v_istore_n (pc := 26) (L' := [(3, .int (nI 0)), (0, .ref o), (1, .ref bq), (2, .ref h)]) d_Join_fill_26 rfl (by decide) rfl ?_
  refine v_sub (L' := [(3, .int (nI 0)), (0, .ref o), (1, .ref bq), (2, .ref h)]) (by simp) ?_
  exact lp_Join_fill g hB ho hE hd hne hwe hE2 hd2 hne2 hV hV2 hvo hvo2 hO hp hq hww (fun w' h => ⟨rfl, rfl, h⟩) ne 0 w2 rfl (by omega) (bg_st.clr h2 hf2)
