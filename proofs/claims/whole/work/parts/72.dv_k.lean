set_option maxRecDepth 100000 in
set_option maxHeartbeats 4000000 in
theorem c_DV_needRow_no (g : Gl) {w : Wd} {v b sz wd n : Nat} {q1 q2 q3 : Value} {f : Nat → Int32} {m : Nat → Int64} {pd : Nat → Int32} (hV : w v = some (cO 1 [q1, .ref b, q2, q3])) (hB : BGo w b wd n f m pd) {c : Int32} (hno : ¬ (0 ≤ c ∧ c < nI n)) : CT g 6 1 6 mi_DV_needRow [.ref v, .int c] w sz (thE 4 w sz) := by
  refine CT.of (by decide) (Nat.le_of_ble_eq_true rfl) ?_
  refine v_iload_n (pc := 0) d_DV_needRow_0 rfl rfl ?_
  refine v_if_lt (pc := 1) (tgt := 15) d_DV_needRow_1 rfl (fun hc => ?_) (fun hc => ?_)
  · skip
    exact v_throwN (pc := 15) d_DV_needRow_15 d_DV_needRow_18 d_DV_needRow_19 d_DV_needRow_21 d_DV_needRow_24 tk_168 rfl (Nat.le_of_ble_eq_true rfl) (Nat.le_of_ble_eq_true rfl) (Nat.le_of_ble_eq_true rfl) (Nat.le_of_ble_eq_true rfl) ⟨rfl, rfl, rfl⟩
  · skip
    have hl := hc
    refine v_iload_n (pc := 4) d_DV_needRow_4 rfl rfl ?_
    refine v_aload_n (pc := 5) d_DV_needRow_5 rfl rfl ?_
    refine v_get (pc := 6) d_DV_needRow_6 fl_DV_106 hV rfl ?_
    refine v_get (pc := 9) d_DV_needRow_9 fl_DV_141 hB.o rfl ?_
    refine v_icmp_lt (pc := 12) (tgt := 25) d_DV_needRow_12 rfl (fun hc => ?_) (fun hc => ?_)
    · skip
      exact absurd ⟨Int32.not_lt.mp hl, hc⟩ hno
    · skip
      exact v_throwN (pc := 15) d_DV_needRow_15 d_DV_needRow_18 d_DV_needRow_19 d_DV_needRow_21 d_DV_needRow_24 tk_168 rfl (Nat.le_of_ble_eq_true rfl) (Nat.le_of_ble_eq_true rfl) (Nat.le_of_ble_eq_true rfl) (Nat.le_of_ble_eq_true rfl) ⟨rfl, rfl, rfl⟩
set_option maxRecDepth 100000 in
set_option maxHeartbeats 4000000 in
theorem c_DV_needRow (g : Gl) {w : Wd} {v b sz wd n : Nat} {q1 q2 q3 : Value} {f : Nat → Int32} {m : Nat → Int64} {pd : Nat → Int32} (hV : w v = some (cO 1 [q1, .ref b, q2, q3])) (hB : BGo w b wd n f m pd) {c : Int32} (hyes : 0 ≤ c ∧ c < nI n) : CT g 0 0 0 mi_DV_needRow [.ref v, .int c] w sz (rdE none w sz) := by
  refine CT.of (by decide) (Nat.le_of_ble_eq_true rfl) ?_
  refine v_iload_n (pc := 0) d_DV_needRow_0 rfl rfl ?_
  refine v_if_lt (pc := 1) (tgt := 15) d_DV_needRow_1 rfl (fun hc => ?_) (fun hc => ?_)
  · skip
    exact absurd hc (Int32.not_lt.mpr hyes.1)
  · skip
    refine v_iload_n (pc := 4) d_DV_needRow_4 rfl rfl ?_
    refine v_aload_n (pc := 5) d_DV_needRow_5 rfl rfl ?_
    refine v_get (pc := 6) d_DV_needRow_6 fl_DV_106 hV rfl ?_
    refine v_get (pc := 9) d_DV_needRow_9 fl_DV_141 hB.o rfl ?_
    refine v_icmp_lt (pc := 12) (tgt := 25) d_DV_needRow_12 rfl (fun hc => ?_) (fun hc => ?_)
    · skip
      exact v_vret (pc := 25) d_DV_needRow_25 rfl (Nat.le_of_ble_eq_true rfl) (Nat.le_of_ble_eq_true rfl) ⟨rfl, rfl, rfl⟩
    · skip
      exact absurd hyes.2 hc
theorem bg_cell {f : Nat → Int32} {m : Nat → Int64} {wd r c : Nat} {B : MaB} (h : ar_bag f m wd 0 B.length = B) (hr : r < B.length) (hc : c < wd) : f (4 * r + c) = (B.getD r ([], 0)).1.getD c 0 := by
  have h2 := ar_bag_get (f := f) (m := m) (w := wd) (o := 0) hr
  rw [h, Nat.zero_add] at h2
  have h3 : B.getD r ([], 0) = (ar_row f wd (4 * r), m r) := by rw [List.getD_eq_getElem?_getD, h2]; rfl
  rw [h3]
  exact (ar_row_getD hc).symm
theorem bg_time {f : Nat → Int32} {m : Nat → Int64} {wd r : Nat} {B : MaB} (h : ar_bag f m wd 0 B.length = B) (hr : r < B.length) : m r = (B.getD r ([], 0)).2 := by
  have h2 := ar_bag_get (f := f) (m := m) (w := wd) (o := 0) hr
  rw [h, Nat.zero_add] at h2
  rw [List.getD_eq_getElem?_getD, h2]
  rfl
set_option maxRecDepth 100000 in
set_option maxHeartbeats 4000000 in
theorem c_DV_cell (g : Gl) {w : Wd} {Z sz : Nat} {a : As} {sw : Nat → Bool} {od : Nat → Nat} (hC : CR w Z sz a sw od) (hA : AWa a) (e i c : Int32) : CT g 8 1 6 mi_DV_cell [.ref Z, .int e, .int i, .int c] w sz (CE w Z sz (if isC a e c then if isR a e i then 0 else 2 else 1) (if isC a e c then if isR a e i then 0 else 4 else 1) (.int (cellA a e i c)) a) := by
  refine CT.of (by decide) (Nat.le_of_ble_eq_true rfl) ?_
  have hn12 := hA.2.1
  have hsz := hC.2.2.2.2.2.2
  refine v_aload_n (pc := 0) d_DV_cell_0 rfl rfl ?_
  refine v_iload_n (pc := 1) d_DV_cell_1 rfl rfl ?_
  refine Classical.byCases (p := isV a e) (fun hvk => ?_) (fun hvk => v_cvT (pc := 2) (A := [.int e]) (rest := []) d_DV_cell_2 lk_DV_76 me_DV_viewAt im_DV_viewAt se_DV_viewAt rfl hC.1 rfl rfl (c_DV_viewAt_no g hC hA hvk) (Nat.le_of_ble_eq_true rfl) (Nat.le_of_ble_eq_true rfl) (Nat.le_of_ble_eq_true rfl) (Nat.le_of_ble_eq_true rfl) rfl (CE.thr (hC.up (Nat.le_succ _)) (Nat.le_succ _) cl_fr.rf (by rw [if_neg (show ¬ isC a e c from fun h => hvk h.1)]; decide) (by first | rw [if_neg (show ¬ isC a e c from fun h => hvk h.1)] | rfl) (by first | rw [if_neg (show ¬ isC a e c from fun h => hvk h.1)] | rfl)))
  obtain ⟨k, hk1, hk2, hk3⟩ := isV_n hvk hA.2.1
  subst hk1
  obtain ⟨⟨mxk, hVk, hmxk⟩, -⟩ := hC.2.2.2.1 k (by omega)
  obtain ⟨⟨fk, mk, pdk, hBk, hBBk⟩, hOPk⟩ := hC.2.2.2.2.1 k hk2
  obtain ⟨hw1k, hw4k, hokk, hlnk⟩ := hA.2.2.2.1 k hk2
  refine v_cvR (pc := 2) (A := [.int (nI k)]) (rest := []) (x := .ref (VA Z k)) d_DV_cell_2 lk_DV_76 me_DV_viewAt im_DV_viewAt se_DV_viewAt rfl hC.1 rfl rfl (c_DV_viewAt g hC hA (k := k) hk2) (Nat.le_of_ble_eq_true rfl) (Nat.le_of_ble_eq_true rfl) (Nat.le_of_ble_eq_true rfl) (Nat.le_of_ble_eq_true rfl) ?_
  refine v_astore (pc := 5) (L' := [(4, .ref (VA Z k)), (0, .ref Z), (1, .int (nI k)), (2, .int i), (3, .int c)]) d_DV_cell_5 (by decide) rfl ?_
  refine v_aload (pc := 7) d_DV_cell_7 rfl ?_
  refine v_iload_n (pc := 9) d_DV_cell_9 rfl rfl ?_
  refine Classical.byCases (p := 0 ≤ c ∧ c < nI (a.2.1 k)) (fun hcj => ?_) (fun hcj => v_csT (pc := 10) (A := [.ref (VA Z k), .int c]) (rest := []) d_DV_cell_10 lk_DV_80 me_DV_needColumn st_DV_needColumn rfl rfl (c_DV_needColumn_no g hVk hBk hcj) (Nat.le_of_ble_eq_true rfl) (Nat.le_of_ble_eq_true rfl) (Nat.le_of_ble_eq_true rfl) (Nat.le_of_ble_eq_true rfl) rfl (CE.thr (hC.up (Nat.le_succ _)) (Nat.le_succ _) cl_fr.rf (by rw [if_neg (show ¬ isC a (nI k) c from fun h => hcj (by have h9 := h.2; rw [hk3] at h9; exact h9))]; decide) (by first | rw [if_neg (show ¬ isC a (nI k) c from fun h => hcj (by have h9 := h.2; rw [hk3] at h9; exact h9))] | rfl) (by first | rw [if_neg (show ¬ isC a (nI k) c from fun h => hcj (by have h9 := h.2; rw [hk3] at h9; exact h9))] | rfl)))
  refine v_csV0 (pc := 10) (A := [.ref (VA Z k), .int c]) (rest := []) d_DV_cell_10 lk_DV_80 me_DV_needColumn st_DV_needColumn rfl rfl (c_DV_needColumn g hVk hBk hcj) (Nat.le_of_ble_eq_true rfl) (Nat.le_of_ble_eq_true rfl) (Nat.le_of_ble_eq_true rfl) (Nat.le_of_ble_eq_true rfl) ?_
  have hCj : isC a (nI k) c := ⟨hvk, by rw [hk3]; exact hcj⟩
  refine v_aload (pc := 13) d_DV_cell_13 rfl ?_
  refine v_iload_n (pc := 15) d_DV_cell_15 rfl rfl ?_
  refine Classical.byCases (p := 0 ≤ i ∧ i < nI (a.2.2.2.1 k).length) (fun hr0 => ?_) (fun hr0 => v_csT (pc := 16) (A := [.ref (VA Z k), .int i]) (rest := []) d_DV_cell_16 lk_DV_144 me_DV_needRow st_DV_needRow rfl rfl (c_DV_needRow_no g hVk hBk hr0) (Nat.le_of_ble_eq_true rfl) (Nat.le_of_ble_eq_true rfl) (Nat.le_of_ble_eq_true rfl) (Nat.le_of_ble_eq_true rfl) rfl (CE.thr (hC.up (Nat.le_succ _)) (Nat.le_succ _) cl_fr.rf (by rw [if_pos hCj, if_neg (show ¬ isR a (nI k) i from fun h => hr0 ⟨h.1, by have h9 := h.2; rw [hk3] at h9; exact h9⟩)]; decide) (by first | rw [if_pos hCj, if_neg (show ¬ isR a (nI k) i from fun h => hr0 ⟨h.1, by have h9 := h.2; rw [hk3] at h9; exact h9⟩)] | rfl) (by first | rw [if_pos hCj, if_neg (show ¬ isR a (nI k) i from fun h => hr0 ⟨h.1, by have h9 := h.2; rw [hk3] at h9; exact h9⟩)] | rfl)))
  refine v_csV0 (pc := 16) (A := [.ref (VA Z k), .int i]) (rest := []) d_DV_cell_16 lk_DV_144 me_DV_needRow st_DV_needRow rfl rfl (c_DV_needRow g hVk hBk hr0) (Nat.le_of_ble_eq_true rfl) (Nat.le_of_ble_eq_true rfl) (Nat.le_of_ble_eq_true rfl) (Nat.le_of_ble_eq_true rfl) ?_
  have hR : isR a (nI k) i := ⟨hr0.1, by rw [hk3]; exact hr0.2⟩
  obtain ⟨r, hr1, hr2, hr3⟩ := isR_n hR hk3 hlnk
  subst hr1
  have hv := hCj
  obtain ⟨k9, j, e1, e2, e3, hj1, hj2, hj3⟩ := isC_n hCj hA
  obtain rfl : k = k9 := hk3.symm.trans e3
  subst hj1
  have hji : i2n (nI j) = j := i2n_nI (by omega)
  refine v_aload (pc := 19) d_DV_cell_19 rfl ?_
  refine v_get (pc := 21) d_DV_cell_21 fl_DV_106 hVk rfl ?_
  refine v_iload_n (pc := 24) d_DV_cell_24 rfl rfl ?_
  refine v_iload_n (pc := 25) d_DV_cell_25 rfl rfl ?_
  refine v_cvR (pc := 26) (A := [.int (nI r), .int (nI j)]) (rest := []) (x := .int (fk (4 * r + j))) d_DV_cell_26 lk_DV_147 me_Bag_cellAt im_Bag_cellAt se_Bag_cellAt rfl hBk.o rfl rfl (c_Bag_cellAt g hBk (r := r) (c := j) (by omega)) (Nat.le_of_ble_eq_true rfl) (Nat.le_of_ble_eq_true rfl) (Nat.le_of_ble_eq_true rfl) (Nat.le_of_ble_eq_true rfl) ?_
  have hj9 := (isC_n hv hA)
  exact v_iret (pc := 29) d_DV_cell_29 rfl (Nat.le_of_ble_eq_true rfl) (Nat.le_of_ble_eq_true rfl) ⟨Nat.le_refl _, cl_fr.rf, ⟨sw, od, hC⟩, by rw [if_pos hv, if_pos hR, if_pos rfl, bg_cell hBBk hr2 hj2, cellA, hk3, hr3, hji]⟩
set_option maxRecDepth 100000 in
set_option maxHeartbeats 4000000 in
theorem c_DV_times (g : Gl) {w : Wd} {Z sz : Nat} {a : As} {sw : Nat → Bool} {od : Nat → Nat} (hC : CR w Z sz a sw od) (hA : AWa a) (e i : Int32) : CT g 8 1 6 mi_DV_times [.ref Z, .int e, .int i] w sz (CE w Z sz (if isV a e then if isR a e i then 0 else 2 else 1) (if isV a e then if isR a e i then 0 else 4 else 1) (.long (timeA a e i)) a) := by
  refine CT.of (by decide) (Nat.le_of_ble_eq_true rfl) ?_
  have hn12 := hA.2.1
  have hsz := hC.2.2.2.2.2.2
  refine v_aload_n (pc := 0) d_DV_times_0 rfl rfl ?_
  refine v_iload_n (pc := 1) d_DV_times_1 rfl rfl ?_
  refine Classical.byCases (p := isV a e) (fun hvk => ?_) (fun hvk => v_cvT (pc := 2) (A := [.int e]) (rest := []) d_DV_times_2 lk_DV_76 me_DV_viewAt im_DV_viewAt se_DV_viewAt rfl hC.1 rfl rfl (c_DV_viewAt_no g hC hA hvk) (Nat.le_of_ble_eq_true rfl) (Nat.le_of_ble_eq_true rfl) (Nat.le_of_ble_eq_true rfl) (Nat.le_of_ble_eq_true rfl) rfl (CE.thr (hC.up (Nat.le_succ _)) (Nat.le_succ _) cl_fr.rf (by rw [if_neg hvk]; decide) (by first | rw [if_neg hvk] | rfl) (by first | rw [if_neg hvk] | rfl)))
  obtain ⟨k, hk1, hk2, hk3⟩ := isV_n hvk hA.2.1
  subst hk1
  obtain ⟨⟨mxk, hVk, hmxk⟩, -⟩ := hC.2.2.2.1 k (by omega)
  obtain ⟨⟨fk, mk, pdk, hBk, hBBk⟩, hOPk⟩ := hC.2.2.2.2.1 k hk2
  obtain ⟨hw1k, hw4k, hokk, hlnk⟩ := hA.2.2.2.1 k hk2
  refine v_cvR (pc := 2) (A := [.int (nI k)]) (rest := []) (x := .ref (VA Z k)) d_DV_times_2 lk_DV_76 me_DV_viewAt im_DV_viewAt se_DV_viewAt rfl hC.1 rfl rfl (c_DV_viewAt g hC hA (k := k) hk2) (Nat.le_of_ble_eq_true rfl) (Nat.le_of_ble_eq_true rfl) (Nat.le_of_ble_eq_true rfl) (Nat.le_of_ble_eq_true rfl) ?_
  refine v_astore_n (pc := 5) (L' := [(3, .ref (VA Z k)), (0, .ref Z), (1, .int (nI k)), (2, .int i)]) d_DV_times_5 rfl (by decide) rfl ?_
  refine v_aload_n (pc := 6) d_DV_times_6 rfl rfl ?_
  refine v_iload_n (pc := 7) d_DV_times_7 rfl rfl ?_
  refine Classical.byCases (p := 0 ≤ i ∧ i < nI (a.2.2.2.1 k).length) (fun hr0 => ?_) (fun hr0 => v_csT (pc := 8) (A := [.ref (VA Z k), .int i]) (rest := []) d_DV_times_8 lk_DV_144 me_DV_needRow st_DV_needRow rfl rfl (c_DV_needRow_no g hVk hBk hr0) (Nat.le_of_ble_eq_true rfl) (Nat.le_of_ble_eq_true rfl) (Nat.le_of_ble_eq_true rfl) (Nat.le_of_ble_eq_true rfl) rfl (CE.thr (hC.up (Nat.le_succ _)) (Nat.le_succ _) cl_fr.rf (by rw [if_pos hvk, if_neg (show ¬ isR a (nI k) i from fun h => hr0 ⟨h.1, by have h9 := h.2; rw [hk3] at h9; exact h9⟩)]; decide) (by first | rw [if_pos hvk, if_neg (show ¬ isR a (nI k) i from fun h => hr0 ⟨h.1, by have h9 := h.2; rw [hk3] at h9; exact h9⟩)] | rfl) (by first | rw [if_pos hvk, if_neg (show ¬ isR a (nI k) i from fun h => hr0 ⟨h.1, by have h9 := h.2; rw [hk3] at h9; exact h9⟩)] | rfl)))
  refine v_csV0 (pc := 8) (A := [.ref (VA Z k), .int i]) (rest := []) d_DV_times_8 lk_DV_144 me_DV_needRow st_DV_needRow rfl rfl (c_DV_needRow g hVk hBk hr0) (Nat.le_of_ble_eq_true rfl) (Nat.le_of_ble_eq_true rfl) (Nat.le_of_ble_eq_true rfl) (Nat.le_of_ble_eq_true rfl) ?_
  have hR : isR a (nI k) i := ⟨hr0.1, by rw [hk3]; exact hr0.2⟩
  obtain ⟨r, hr1, hr2, hr3⟩ := isR_n hR hk3 hlnk
  subst hr1
  refine v_aload_n (pc := 11) d_DV_times_11 rfl rfl ?_
  refine v_get (pc := 12) d_DV_times_12 fl_DV_106 hVk rfl ?_
  refine v_iload_n (pc := 15) d_DV_times_15 rfl rfl ?_
  refine v_cvR (pc := 16) (A := [.int (nI r)]) (rest := []) (x := .long (mk r)) d_DV_times_16 lk_DV_150 me_Bag_timesAt im_Bag_timesAt se_Bag_timesAt rfl hBk.o rfl rfl (c_Bag_timesAt g hBk (r := r) (by omega)) (Nat.le_of_ble_eq_true rfl) (Nat.le_of_ble_eq_true rfl) (Nat.le_of_ble_eq_true rfl) (Nat.le_of_ble_eq_true rfl) ?_
  exact v_lret (pc := 19) d_DV_times_19 rfl (Nat.le_of_ble_eq_true rfl) (Nat.le_of_ble_eq_true rfl) ⟨Nat.le_refl _, cl_fr.rf, ⟨sw, od, hC⟩, by rw [if_pos hvk, if_pos hR, if_pos rfl, bg_time hBBk hr2, timeA, hk3, hr3]⟩
