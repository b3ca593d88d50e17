theorem CR.bt {w w' : Wd} {Z sz : Nat} {a : As} {sw : Nat → Bool} {od : Nat → Nat} {l : Bt} (h : CR w Z sz a sw od) (hA : a.1 ≤ 12) (hq : bt_fr (Z + 2) w w') (hb : ∃ x y z u, BTo w' (Z + 2) l.length x y z u ∧ bt_of x y z u l.length = l) : CR w' Z sz (a.1, a.2.1, a.2.2.1, a.2.2.2.1, a.2.2.2.2.1, l) sw od := by
  obtain ⟨h1, ⟨fV, h2, h2'⟩, h3, h4, h5, h6, h7⟩ := h
  have hv : ∀ i, w' (VA Z i) = w (VA Z i) := fun i => hq _ (by unfold VA; omega)
  have hn : ∀ i q, nwA Z sw i ≤ q → w' q = w q := fun i q h => hq q (by have := nwA_c Z sw i; omega)
  have hb2 : ∀ i q, bfA Z sw i ≤ q → w' q = w q := fun i q h => hq q (by have := nwA_c Z sw i; omega)
  refine ⟨(hq _ (by omega)).trans h1, ⟨fV, (hq _ (by omega)).trans h2, h2'⟩, hb, fun i hi => ?_, fun i hi => ?_, h6, h7⟩
  · obtain ⟨⟨mx, c1, c2⟩, c3, c4, c5, c6⟩ := h4 i hi
    exact ⟨⟨mx, (hv i).trans c1, c2⟩, c3.mv (fun q h _ => hn i q h), c4.mv (fun q h _ => hb2 i q h), c5, c6⟩
  · obtain ⟨c1, c2⟩ := h5 i hi
    have hi12 : i < a.1 := hi
    refine ⟨c1.mv (fun q h _ => hn i q h), c2.mv (hq _ ?_)⟩
    have := (h4 i (by omega)).2.2.2.1
    unfold VA at this
    omega
theorem CR.cnt {w w' : Wd} {Z sz n : Nat} {a : As} {sw : Nat → Bool} {od : Nat → Nat} (h : CR w Z sz a sw od) (hn : n ≤ a.1) (hA : a.1 ≤ 12) (hz : w' Z = some (cO 0 [.ref (Z + 1), .int (nI n), .ref (Z + 2)])) (hq : ∀ q, q ≠ Z → w' q = w q) : CR w' Z sz (n, a.2) sw od := by
  obtain ⟨h1, ⟨fV, h2, h2'⟩, ⟨x, y, z, u, h3, h3'⟩, h4, h5, h6, h7⟩ := h
  refine ⟨hz, ⟨fV, (hq _ (by omega)).trans h2, h2'⟩, ⟨x, y, z, u, h3.mv (fun q h _ => hq q (by omega)), h3'⟩, fun i hi => ?_, fun i hi => ?_, h6, h7⟩
  · obtain ⟨⟨mx, c1, c2⟩, c3, c4, c5, c6⟩ := h4 i hi
    exact ⟨⟨mx, (hq _ (by unfold VA; omega)).trans c1, fun h => c2 (Nat.lt_of_lt_of_le h hn)⟩, c3.mv (fun q h _ => hq q (by have := nwA_c Z sw i; omega)), c4.mv (fun q h _ => hq q (by have := nwA_c Z sw i; omega)), c5, c6⟩
  · have hi9 : i < a.1 := Nat.lt_of_lt_of_le hi hn
    obtain ⟨c1, c2⟩ := h5 i hi9
    refine ⟨c1.mv (fun q h _ => hq q (by have := nwA_c Z sw i; omega)), c2.mv (hq _ ?_)⟩
    have := (h4 i (by omega)).2.2.2.1
    unfold VA at this
    omega
set_option maxRecDepth 100000 in
set_option maxHeartbeats 4000000 in
theorem c_DV_width (g : Gl) {w : Wd} {Z sz : Nat} {a : As} {sw : Nat → Bool} {od : Nat → Nat} (hC : CR w Z sz a sw od) (hA : AWa a) (e : Int32) : CT g 7 1 6 mi_DV_width [.ref Z, .int e] w sz (CE w Z sz (if isV a e then 0 else 1) 1 (.int (nI (a.2.1 (i2n e)))) a) := by
  refine CT.of (by decide) (Nat.le_of_ble_eq_true rfl) ?_
  by_cases hv : isV a e
  · skip
    obtain ⟨k, hk1, hk2, hk3⟩ := isV_n hv hA.2.1
    have hk12 := hA.2.1
    subst hk1
    obtain ⟨⟨mx, hV, hmx⟩, _⟩ := hC.2.2.2.1 k (by omega)
    obtain ⟨⟨f, m, pd, hB, hBB⟩, hOP⟩ := hC.2.2.2.2.1 k hk2
    refine v_aload_n (pc := 0) d_DV_width_0 rfl rfl ?_
    refine v_iload_n (pc := 1) d_DV_width_1 rfl rfl ?_
    refine v_cvR (pc := 2) (A := [.int (nI k)]) (rest := []) (x := .ref (VA Z k)) d_DV_width_2 lk_DV_76 me_DV_viewAt im_DV_viewAt se_DV_viewAt rfl hC.1 rfl rfl (c_DV_viewAt g hC hA (k := k) hk2) (Nat.le_of_ble_eq_true rfl) (Nat.le_of_ble_eq_true rfl) (Nat.le_of_ble_eq_true rfl) (Nat.le_of_ble_eq_true rfl) ?_
    refine v_get (pc := 5) d_DV_width_5 fl_DV_106 hV rfl ?_
    refine v_get (pc := 8) d_DV_width_8 fl_DV_110 hB.o rfl ?_
    exact v_iret (pc := 11) d_DV_width_11 rfl (Nat.le_of_ble_eq_true rfl) (Nat.le_of_ble_eq_true rfl) ⟨Nat.le_refl _, cl_fr.rf, ⟨sw, od, hC⟩, by rw [if_pos hv, if_pos rfl, hk3]⟩
  · skip
    refine v_aload_n (pc := 0) d_DV_width_0 rfl rfl ?_
    refine v_iload_n (pc := 1) d_DV_width_1 rfl rfl ?_
    exact v_cvT (pc := 2) (A := [.int e]) (rest := []) d_DV_width_2 lk_DV_76 me_DV_viewAt im_DV_viewAt se_DV_viewAt rfl hC.1 rfl rfl (c_DV_viewAt_no g hC hA hv) (Nat.le_of_ble_eq_true rfl) (Nat.le_of_ble_eq_true rfl) (Nat.le_of_ble_eq_true rfl) (Nat.le_of_ble_eq_true rfl) rfl ⟨Nat.le_succ _, cl_fr.rf, ⟨sw, od, hC.up (Nat.le_succ _)⟩, by rw [if_neg hv, if_neg (by decide)]⟩
set_option maxRecDepth 100000 in
set_option maxHeartbeats 4000000 in
theorem c_DV_rows (g : Gl) {w : Wd} {Z sz : Nat} {a : As} {sw : Nat → Bool} {od : Nat → Nat} (hC : CR w Z sz a sw od) (hA : AWa a) (e : Int32) : CT g 7 1 6 mi_DV_rows [.ref Z, .int e] w sz (CE w Z sz (if isV a e then 0 else 1) 1 (.int (nI (a.2.2.2.1 (i2n e)).length)) a) := by
  refine CT.of (by decide) (Nat.le_of_ble_eq_true rfl) ?_
  by_cases hv : isV a e
  · skip
    obtain ⟨k, hk1, hk2, hk3⟩ := isV_n hv hA.2.1
    have hk12 := hA.2.1
    subst hk1
    obtain ⟨⟨mx, hV, hmx⟩, _⟩ := hC.2.2.2.1 k (by omega)
    obtain ⟨⟨f, m, pd, hB, hBB⟩, hOP⟩ := hC.2.2.2.2.1 k hk2
    refine v_aload_n (pc := 0) d_DV_rows_0 rfl rfl ?_
    refine v_iload_n (pc := 1) d_DV_rows_1 rfl rfl ?_
    refine v_cvR (pc := 2) (A := [.int (nI k)]) (rest := []) (x := .ref (VA Z k)) d_DV_rows_2 lk_DV_76 me_DV_viewAt im_DV_viewAt se_DV_viewAt rfl hC.1 rfl rfl (c_DV_viewAt g hC hA (k := k) hk2) (Nat.le_of_ble_eq_true rfl) (Nat.le_of_ble_eq_true rfl) (Nat.le_of_ble_eq_true rfl) (Nat.le_of_ble_eq_true rfl) ?_
    refine v_get (pc := 5) d_DV_rows_5 fl_DV_106 hV rfl ?_
    refine v_get (pc := 8) d_DV_rows_8 fl_DV_141 hB.o rfl ?_
    exact v_iret (pc := 11) d_DV_rows_11 rfl (Nat.le_of_ble_eq_true rfl) (Nat.le_of_ble_eq_true rfl) ⟨Nat.le_refl _, cl_fr.rf, ⟨sw, od, hC⟩, by rw [if_pos hv, if_pos rfl, hk3]⟩
  · skip
    refine v_aload_n (pc := 0) d_DV_rows_0 rfl rfl ?_
    refine v_iload_n (pc := 1) d_DV_rows_1 rfl rfl ?_
    exact v_cvT (pc := 2) (A := [.int e]) (rest := []) d_DV_rows_2 lk_DV_76 me_DV_viewAt im_DV_viewAt se_DV_viewAt rfl hC.1 rfl rfl (c_DV_viewAt_no g hC hA hv) (Nat.le_of_ble_eq_true rfl) (Nat.le_of_ble_eq_true rfl) (Nat.le_of_ble_eq_true rfl) (Nat.le_of_ble_eq_true rfl) rfl ⟨Nat.le_succ _, cl_fr.rf, ⟨sw, od, hC.up (Nat.le_succ _)⟩, by rw [if_neg hv, if_neg (by decide)]⟩
set_option maxRecDepth 100000 in
set_option maxHeartbeats 4000000 in
theorem c_DV_moved (g : Gl) {w : Wd} {Z sz : Nat} {a : As} {sw : Nat → Bool} {od : Nat → Nat} (hC : CR w Z sz a sw od) (hA : AWa a) (e : Int32) : CT g 7 1 6 mi_DV_moved [.ref Z, .int e] w sz (CE w Z sz (if isV a e then 0 else 1) 1 (.int (nI (a.2.2.2.2.1 (i2n e)))) a) := by
  refine CT.of (by decide) (Nat.le_of_ble_eq_true rfl) ?_
  by_cases hv : isV a e
  · skip
    obtain ⟨k, hk1, hk2, hk3⟩ := isV_n hv hA.2.1
    have hk12 := hA.2.1
    subst hk1
    obtain ⟨⟨mx, hV, hmx⟩, _⟩ := hC.2.2.2.1 k (by omega)
    obtain ⟨⟨f, m, pd, hB, hBB⟩, hOP⟩ := hC.2.2.2.2.1 k hk2
    refine v_aload_n (pc := 0) d_DV_moved_0 rfl rfl ?_
    refine v_iload_n (pc := 1) d_DV_moved_1 rfl rfl ?_
    refine v_cvR (pc := 2) (A := [.int (nI k)]) (rest := []) (x := .ref (VA Z k)) d_DV_moved_2 lk_DV_76 me_DV_viewAt im_DV_viewAt se_DV_viewAt rfl hC.1 rfl rfl (c_DV_viewAt g hC hA (k := k) hk2) (Nat.le_of_ble_eq_true rfl) (Nat.le_of_ble_eq_true rfl) (Nat.le_of_ble_eq_true rfl) (Nat.le_of_ble_eq_true rfl) ?_
    refine v_get (pc := 5) d_DV_moved_5 fl_DV_73 hV rfl ?_
    exact v_iret (pc := 8) d_DV_moved_8 rfl (Nat.le_of_ble_eq_true rfl) (Nat.le_of_ble_eq_true rfl) ⟨Nat.le_refl _, cl_fr.rf, ⟨sw, od, hC⟩, by rw [if_pos hv, if_pos rfl, hk3, hmx hk2]⟩
  · skip
    refine v_aload_n (pc := 0) d_DV_moved_0 rfl rfl ?_
    refine v_iload_n (pc := 1) d_DV_moved_1 rfl rfl ?_
    exact v_cvT (pc := 2) (A := [.int e]) (rest := []) d_DV_moved_2 lk_DV_76 me_DV_viewAt im_DV_viewAt se_DV_viewAt rfl hC.1 rfl rfl (c_DV_viewAt_no g hC hA hv) (Nat.le_of_ble_eq_true rfl) (Nat.le_of_ble_eq_true rfl) (Nat.le_of_ble_eq_true rfl) (Nat.le_of_ble_eq_true rfl) rfl ⟨Nat.le_succ _, cl_fr.rf, ⟨sw, od, hC.up (Nat.le_succ _)⟩, by rw [if_neg hv, if_neg (by decide)]⟩
set_option maxRecDepth 100000 in
set_option maxHeartbeats 4000000 in
theorem c_DV_cancel (g : Gl) {w : Wd} {Z sz : Nat} {a : As} {sw : Nat → Bool} {od : Nat → Nat} (hC : CR w Z sz a sw od) (hA : AWa a) : CT g 1 0 0 mi_DV_cancel [.ref Z] w sz (CE w Z sz 0 0 (.int (nI a.2.2.2.2.2.length)) (a.1, a.2.1, a.2.2.1, a.2.2.2.1, a.2.2.2.2.1, [])) := by
  refine CT.of (by decide) (Nat.le_of_ble_eq_true rfl) ?_
  obtain ⟨x, y, z, u, hT, hTT⟩ := hC.2.2.1
  refine v_aload_n (pc := 0) d_DV_cancel_0 rfl rfl ?_
  refine v_get (pc := 1) d_DV_cancel_1 fl_DV_22 hC.1 rfl ?_
  refine v_cvX (pc := 4) (A := []) (rest := []) (x := .int (nI (a.2.2.2.2.2.length))) d_DV_cancel_4 lk_DV_61 me_Batch_empty im_Batch_empty se_Batch_empty rfl hT.o rfl rfl (c_Batch_empty g hT) (Nat.le_of_ble_eq_true rfl) (Nat.le_of_ble_eq_true rfl) (Nat.le_of_ble_eq_true rfl) (Nat.le_of_ble_eq_true rfl) (fun w1 ht1 => ?_)
  obtain ⟨h1, hq1⟩ := ht1
  exact v_iret (pc := 7) d_DV_cancel_7 rfl (Nat.le_of_ble_eq_true rfl) (Nat.le_of_ble_eq_true rfl) ⟨Nat.le_refl _, fun q hq => hq1 q (by omega), ⟨sw, od, hC.bt (l := []) hA.2.1 hq1 ⟨x, y, z, u, h1, rfl⟩⟩, by rw [if_pos rfl]⟩
set_option maxRecDepth 100000 in
set_option maxHeartbeats 4000000 in
theorem c_DV_drop (g : Gl) {w : Wd} {Z sz : Nat} {a : As} {sw : Nat → Bool} {od : Nat → Nat} (hC : CR w Z sz a sw od) (hA : AWa a) : CT g 6 1 6 mi_DV_drop [.ref Z] w sz (CE w Z sz (if a.1 = 3 then 1 else 0) 3 (.int (nI (a.1 - 1))) (if a.1 = 3 then a else (a.1 - 1, a.2))) := by
  refine CT.of (by decide) (Nat.le_of_ble_eq_true rfl) ?_
  have hn3 := hA.1
  have hn12 := hA.2.1
  refine v_aload_n (pc := 0) d_DV_drop_0 rfl rfl ?_
  refine v_get (pc := 1) d_DV_drop_1 fl_DV_15 hC.1 rfl ?_
  refine v_iconst (pc := 4) (v := nI 3) d_DV_drop_4 rfl ?_
  refine v_icmp_ne (pc := 5) (tgt := 18) d_DV_drop_5 rfl (fun hc => ?_) (fun hc => ?_)
  · skip
    rw [nI_eq (by omega) (by omega)] at hc
    have h3 := hc
    refine v_aload_n (pc := 18) d_DV_drop_18 rfl rfl ?_
    refine v_dup (pc := 19) d_DV_drop_19 rfl ?_
    refine v_get (pc := 20) d_DV_drop_20 fl_DV_15 hC.1 rfl ?_
    refine v_iconst (pc := 23) (v := nI 1) d_DV_drop_23 rfl ?_
    refine v_isub (pc := 24) d_DV_drop_24 ?_
    refine v_re (pk_sub (a := a.1) (b := 1) (by omega)) ?_
    refine v_putW (pc := 25) (fs' := [.ref (Z + 1), .int (nI (a.1 - 1)), .ref (Z + 2)]) d_DV_drop_25 fl_DV_15 (fi_DV_15 _) (ok_DV_1 _) hC.1 (Nat.le_of_ble_eq_true rfl) rfl (fun w1 hn1 hq1 => ?_)
    refine v_aload_n (pc := 28) d_DV_drop_28 rfl rfl ?_
    refine v_get (pc := 29) d_DV_drop_29 fl_DV_15 hn1 rfl ?_
    exact v_iret (pc := 32) d_DV_drop_32 rfl (Nat.le_of_ble_eq_true rfl) (Nat.le_of_ble_eq_true rfl) ⟨Nat.le_refl _, fun q hq => hq1 q (by omega), ⟨sw, od, by rw [if_neg h3]; exact hC.cnt (Nat.sub_le _ _) hA.2.1 hn1 hq1⟩, by rw [if_neg h3, if_pos rfl]⟩
  · skip
    rw [nI_eq (by omega) (by omega)] at hc
    have h3 := hc
    exact v_throw (pc := 8) d_DV_drop_8 d_DV_drop_11 d_DV_drop_12 d_DV_drop_14 d_DV_drop_17 tk_139 rfl (Nat.le_of_ble_eq_true rfl) (Nat.le_of_ble_eq_true rfl) (Nat.le_of_ble_eq_true rfl) (Nat.le_of_ble_eq_true rfl) ⟨Nat.le_succ _, cl_fr.rf, ⟨sw, od, by rw [if_pos h3]; exact hC.up (Nat.le_succ _)⟩, by rw [if_pos h3, if_neg (by decide)]⟩
