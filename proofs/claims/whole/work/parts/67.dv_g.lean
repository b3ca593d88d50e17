/-! project, many -/
theorem pcols_no {a : As} {k m j : Nat} {cols : Int32} (hk : i2n (nI k) = k) (hw : a.2.1 k ≤ 4) (hj : j < m) (h : ¬ colN cols j < a.2.1 k) : ¬ pcols a (nI k) cols m = true := fun hp => by
  have h9 := (pcols_at hp j hj).2.2
  have h8 := colN_lt cols j
  rw [hk, nI_ltI (by omega) (by omega)] at h9
  exact h h9
theorem pcols_yes {a : As} {k m : Nat} {cols : Int32} (hk : i2n (nI k) = k) (hv : isV a (nI k)) (hw : a.2.1 k ≤ 4) (h : ∀ c, c < m → colN cols c < a.2.1 k) : pcols a (nI k) cols m = true := by
  unfold pcols
  rw [List.all_eq_true]
  intro c hc
  have h9 := h c (List.mem_range.mp hc)
  have h8 := colN_lt cols c
  rw [decide_eq_true_eq]
  exact ⟨hv, Int32.not_lt.mp (nI_pos (by omega)), by rw [hk, nI_ltI (by omega) (by omega)]; exact h9⟩
theorem CR.now {w w' : Wd} {Z sz k : Nat} {a : As} {sw : Nat → Bool} {od : Nat → Nat} (h : CR w Z sz a sw od) (hA : AWa a) (hk : k < a.1) (hq : bg_fr (nwA Z sw k) w w') (hN : bgN w' (nwA Z sw k) (a.2.1 k) (a.2.2.2.1 k)) : CR w' Z sz a sw od := by
  obtain ⟨h1, ⟨fV, h2, h2'⟩, ⟨x, y, z, u, h3, h3'⟩, h4, h5, h6, h7⟩ := h
  have hn12 := hA.2.1
  have hc := nwA_c Z sw k
  refine ⟨(hq _ (by omega)).trans h1, ⟨fV, (hq _ (by omega)).trans h2, h2'⟩, ⟨x, y, z, u, h3.mv (fun q h h' => hq q (by omega)), h3'⟩, fun i hi => ?_, fun i hi => ?_, h6, h7⟩
  · obtain ⟨⟨mx, c1, c2⟩, c3, c4, c5, c6⟩ := h4 i hi
    have hvi : VA Z i = Z + 7 + 10 * i := rfl
    by_cases e : i = k
    · subst e
      exact ⟨⟨mx, (hq _ (by omega)).trans c1, c2⟩, hN.x (by have := (hA.2.2.2.1 i hk).2.2.2; omega) (hA.2.2.2.1 i hk).2.1, c4.mv (fun q h h' => hq q (by omega)), c5, c6⟩
    · have hci := nwA_c Z sw i
      exact ⟨⟨mx, (hq _ (by omega)).trans c1, c2⟩, c3.mv (fun q h h' => hq q (by omega)), c4.mv (fun q h h' => hq q (by omega)), c5, c6⟩
  · obtain ⟨c1, c2⟩ := h5 i hi
    have hvi : VA Z i = Z + 7 + 10 * i := rfl
    have hci := nwA_c Z sw i
    have hoi := (h4 i (by omega)).2.2.2.1
    refine ⟨?_, c2.mv (hq _ (by omega))⟩
    by_cases e : i = k
    · subst e
      exact hN
    · exact c1.mv (fun q h h' => hq q (by omega))
set_option maxRecDepth 100000 in
set_option maxHeartbeats 4000000 in
theorem lp_DV_project (g : Gl) {w : Wd} {Z sz k m : Nat} {a : As} {sw : Nat → Bool} {cols : Int32} {q1 q2 q3 : Value} {n : Nat} {f : Nat → Int32} {mm : Nat → Int64} {pd : Nat → Int32} (hV : w (VA Z k) = some (cO 1 [q1, .ref (nwA Z sw k), q2, q3])) (hB : BGo w (nwA Z sw k) (a.2.1 k) n f mm pd) (hw4 : a.2.1 k ≤ 4) (hm4 : m ≤ 4) {E : Rs → Wd → Nat → Prop} (hno : ∀ j, j < m → ¬ colN cols j < a.2.1 k → E (.inr 1) w (sz + 1)) (K : (∀ c, c < m → colN cols c < a.2.1 k) → VV g 8 2 10 mi_DV_project w sz E 53 [(5, .int (nI m)), (4, .ref (VA Z k)), (0, .ref Z), (1, .int (nI k)), (2, .int (nI m)), (3, .int cols)] [] w sz 0 0) : ∀ (zz : Nat) (j : Nat), m - j = zz → j ≤ m → (∀ c, c < j → colN cols c < a.2.1 k) → VV g 8 2 10 mi_DV_project w sz E 30 [(5, .int (nI j)), (4, .ref (VA Z k)), (0, .ref Z), (1, .int (nI k)), (2, .int (nI m)), (3, .int cols)] [] w sz 0 0 := by
  intro zz
  induction zz using Nat.strongRecOn with | _ zz ih => _
  intro j hnn hjm hcol
  refine v_iload (pc := 30) d_DV_project_30 rfl ?_
  refine v_iload_n (pc := 32) d_DV_project_32 rfl rfl ?_
  refine v_icmp_ge (pc := 33) (tgt := 53) d_DV_project_33 rfl (fun hc => ?_) (fun hc => ?_)
  · skip
    rw [nI_leI (by omega) (by omega)] at hc
    have hjm : j = m := by omega
    rw [hjm]
    exact K (fun c hc => hcol c (by omega))
  · skip
    rw [nI_leI (by omega) (by omega)] at hc
    refine v_aload (pc := 36) d_DV_project_36 rfl ?_
    refine v_iload_n (pc := 38) d_DV_project_38 rfl rfl ?_
    refine v_iload (pc := 39) d_DV_project_39 rfl ?_
    refine v_csR (pc := 41) (A := [.int cols, .int (nI j)]) (rest := [.ref (VA Z k)]) (x := .int (nI (colN cols j))) d_DV_project_41 lk_DV_97 me_DV_columnInBits st_DV_columnInBits rfl rfl (c_DV_columnInBits g cols j) (Nat.le_of_ble_eq_true rfl) (Nat.le_of_ble_eq_true rfl) (Nat.le_of_ble_eq_true rfl) (Nat.le_of_ble_eq_true rfl) ?_
    have hc15 := colN_lt cols j
    refine Classical.byCases (p := colN cols j < a.2.1 k) (fun hcj => ?_) (fun hcj => v_csT (pc := 44) (A := [.ref (VA Z k), .int (nI (colN cols j))]) (rest := []) d_DV_project_44 lk_DV_80 me_DV_needColumn st_DV_needColumn rfl rfl (c_DV_needColumn_no g hV hB (c := nI (colN cols j)) (fun h => hcj (by have h9 := h.2; rw [nI_ltI (by omega) (by omega)] at h9; exact h9))) (Nat.le_of_ble_eq_true rfl) (Nat.le_of_ble_eq_true rfl) (Nat.le_of_ble_eq_true rfl) (Nat.le_of_ble_eq_true rfl) rfl (hno j (by omega) hcj))
    refine v_csV0 (pc := 44) (A := [.ref (VA Z k), .int (nI (colN cols j))]) (rest := []) d_DV_project_44 lk_DV_80 me_DV_needColumn st_DV_needColumn rfl rfl (c_DV_needColumn g hV hB (c := nI (colN cols j)) ⟨Int32.not_lt.mp (nI_pos (by omega)), by rw [nI_ltI (by omega) (by omega)]; exact hcj⟩) (Nat.le_of_ble_eq_true rfl) (Nat.le_of_ble_eq_true rfl) (Nat.le_of_ble_eq_true rfl) (Nat.le_of_ble_eq_true rfl) ?_
    refine v_iinc (pc := 47) (L' := [(5, .int (nI (j + 1))), (4, .ref (VA Z k)), (0, .ref Z), (1, .int (nI k)), (2, .int (nI m)), (3, .int cols)]) d_DV_project_47 rfl (ix_inc _) (by decide) rfl ?_
    refine v_goto (pc := 50) (tgt := 30) d_DV_project_50 rfl ?_
    refine v_sub (L' := [(5, .int (nI (j + 1))), (4, .ref (VA Z k)), (0, .ref Z), (1, .int (nI k)), (2, .int (nI m)), (3, .int cols)]) (by simp) ?_
    exact ih (m - (j + 1)) (by omega) (j + 1) rfl (by omega) (fun c hc => by by_cases h9 : c = j; (subst h9; exact hcj); (exact hcol c (by omega)))
set_option maxRecDepth 100000 in
set_option maxHeartbeats 4000000 in
theorem c_DV_project (g : Gl) {w : Wd} {Z sz : Nat} {a : As} {sw : Nat → Bool} {od : Nat → Nat} (hC : CR w Z sz a sw od) (hA : AWa a) (e n cols : Int32) : CT g 8 2 10 mi_DV_project [.ref Z, .int e, .int n, .int cols] w sz (CE w Z sz (if isV a e then if nI 1 ≤ n ∧ n ≤ nI 4 then if pcols a e cols (i2n n) = true then if fits a (2, i2n e, 0, cols, 0, 0) (i2n n) = true then 0 else 3 else 1 else 2 else 1) (if isV a e then if nI 1 ≤ n ∧ n ≤ nI 4 then if pcols a e cols (i2n n) = true then 3 else 1 else 2 else 1) (.int (nI a.1)) (if isV a e then if nI 1 ≤ n ∧ n ≤ nI 4 then if pcols a e cols (i2n n) = true then if fits a (2, i2n e, 0, cols, 0, 0) (i2n n) = true then mkv a (2, i2n e, 0, cols, 0, 0) (i2n n) else a else a else a else a)) := by
  refine CT.of (by decide) (Nat.le_of_ble_eq_true rfl) ?_
  have hn12 := hA.2.1
  have hsz := hC.2.2.2.2.2.2
  refine v_aload_n (pc := 0) d_DV_project_0 rfl rfl ?_
  refine v_iload_n (pc := 1) d_DV_project_1 rfl rfl ?_
  refine Classical.byCases (p := isV a e) (fun hvk => ?_) (fun hvk => v_cvT (pc := 2) (A := [.int e]) (rest := []) d_DV_project_2 lk_DV_76 me_DV_viewAt im_DV_viewAt se_DV_viewAt rfl hC.1 rfl rfl (c_DV_viewAt_no g hC hA hvk) (Nat.le_of_ble_eq_true rfl) (Nat.le_of_ble_eq_true rfl) (Nat.le_of_ble_eq_true rfl) (Nat.le_of_ble_eq_true rfl) rfl (CE.thr (hC.up (Nat.le_succ _)) (Nat.le_succ _) cl_fr.rf (by rw [if_neg hvk]; decide) (by first | rw [if_neg hvk] | rfl) (by first | rw [if_neg hvk] | rfl)))
  obtain ⟨k, hk1, hk2, hk3⟩ := isV_n hvk hA.2.1
  subst hk1
  obtain ⟨⟨mxk, hVk, hmxk⟩, -⟩ := hC.2.2.2.1 k (by omega)
  obtain ⟨⟨fk, mk, pdk, hBk, hBBk⟩, hOPk⟩ := hC.2.2.2.2.1 k hk2
  obtain ⟨hw1k, hw4k, hokk, hlnk⟩ := hA.2.2.2.1 k hk2
  refine v_cvR (pc := 2) (A := [.int (nI k)]) (rest := []) (x := .ref (VA Z k)) d_DV_project_2 lk_DV_76 me_DV_viewAt im_DV_viewAt se_DV_viewAt rfl hC.1 rfl rfl (c_DV_viewAt g hC hA (k := k) hk2) (Nat.le_of_ble_eq_true rfl) (Nat.le_of_ble_eq_true rfl) (Nat.le_of_ble_eq_true rfl) (Nat.le_of_ble_eq_true rfl) ?_
  refine v_astore (pc := 5) (L' := [(4, .ref (VA Z k)), (0, .ref Z), (1, .int (nI k)), (2, .int n), (3, .int cols)]) d_DV_project_5 (by decide) rfl ?_
  refine v_iload_n (pc := 7) d_DV_project_7 rfl rfl ?_
  refine v_iconst (pc := 8) (v := nI 1) d_DV_project_8 rfl ?_
  refine v_icmp_lt (pc := 9) (tgt := 17) d_DV_project_9 rfl (fun hc => ?_) (fun hc => ?_)
  · skip
    have ht : ¬ (nI 1 ≤ n ∧ n ≤ nI 4) := fun h => absurd hc (Int32.not_lt.mpr h.1)
    exact v_throw (pc := 17) d_DV_project_17 d_DV_project_20 d_DV_project_21 d_DV_project_23 d_DV_project_26 tk_95 rfl (Nat.le_of_ble_eq_true rfl) (Nat.le_of_ble_eq_true rfl) (Nat.le_of_ble_eq_true rfl) (Nat.le_of_ble_eq_true rfl) (CE.thr (hC.up (Nat.le_succ _)) (Nat.le_succ _) cl_fr.rf (by rw [if_pos hvk, if_neg ht]; decide) (by first | rw [if_pos hvk, if_neg ht] | rfl) (by first | rw [if_pos hvk, if_neg ht] | rfl))
  · skip
    have ht0 := hc
    refine v_iload_n (pc := 12) d_DV_project_12 rfl rfl ?_
    refine v_iconst (pc := 13) (v := nI 4) d_DV_project_13 rfl ?_
    refine v_icmp_le (pc := 14) (tgt := 27) d_DV_project_14 rfl (fun hc => ?_) (fun hc => ?_)
    · skip
      have ht : nI 1 ≤ n ∧ n ≤ nI 4 := ⟨Int32.not_lt.mp ht0, hc⟩
      obtain ⟨ht1, ht2⟩ := i2n_of (Int32.le_trans (show (0 : Int32) ≤ nI 1 by decide) ht.1)
      have htd : 1 ≤ i2n n ∧ i2n n ≤ 4 := by have h9 := ht; rw [ht1, nI_leI (by decide) (by omega), nI_leI (by omega) (by decide)] at h9; exact h9
      generalize hd : i2n n = m at ht1 ht2 htd
      subst ht1
      refine v_iconst (pc := 27) (v := nI 0) d_DV_project_27 rfl ?_
      refine v_istore (pc := 28) (L' := [(5, .int (nI 0)), (4, .ref (VA Z k)), (0, .ref Z), (1, .int (nI k)), (2, .int (nI m)), (3, .int cols)]) d_DV_project_28 (by decide) rfl ?_
      refine v_sub (L' := [(5, .int (nI 0)), (4, .ref (VA Z k)), (0, .ref Z), (1, .int (nI k)), (2, .int (nI m)), (3, .int cols)]) (by simp) ?_
      refine lp_DV_project g (a := a) (sw := sw) hVk hBk hw4k htd.2 (fun j hj hcj => (CE.thr (hC.up (Nat.le_succ _)) (Nat.le_succ _) cl_fr.rf (by rw [if_pos hvk, if_pos ht, if_neg (pcols_no hk3 hw4k hj hcj)]; decide) (by first | rw [if_pos hvk, if_pos ht, if_neg (pcols_no hk3 hw4k hj hcj)] | rfl) (by first | rw [if_pos hvk, if_pos ht, if_neg (pcols_no hk3 hw4k hj hcj)] | rfl))) (fun hcols => ?_) (m - 0) 0 rfl (Nat.zero_le _) (fun c hc => absurd hc (Nat.not_lt_zero _))
      have hp := pcols_yes (cols := cols) hk3 hvk hw4k hcols
      refine v_aload_n (pc := 53) d_DV_project_53 rfl rfl ?_
      refine v_newW (pc := 54) (sz' := sz + 1) (nc' := 1) (ns' := 3) d_DV_project_54 nw_DV_101 (Nat.le_of_ble_eq_true rfl) (Nat.le_of_ble_eq_true rfl) rfl rfl rfl (fun w1 hn1 hq1 => ?_)
      have hC1 : CR w1 Z (sz + 1) a sw od := (hC.ext hA.2.1 (fun q h => hq1 q (by omega))).up (Nat.le_succ _)
      have hf1 : cl_fr Z w w1 := fun q hq => hq1 q (by omega)
      refine v_dup (pc := 57) d_DV_project_57 rfl ?_
      refine v_aload (pc := 58) d_DV_project_58 rfl ?_
      refine v_iload_n (pc := 60) d_DV_project_60 rfl rfl ?_
      refine v_iload_n (pc := 61) d_DV_project_61 rfl rfl ?_
      refine v_ciV (pc := 62) (A := [.ref (VA Z k), .int (nI m), .int cols]) (rest := [.ref sz, .ref Z]) d_DV_project_62 lk_DV_103 me_Project_init im_Project_init rfl rfl rfl rfl rfl (c_Project_init g hn1) (Nat.le_of_ble_eq_true rfl) (Nat.le_of_ble_eq_true rfl) (Nat.le_of_ble_eq_true rfl) (Nat.le_of_ble_eq_true rfl) (fun w2 ht2 => ?_)
      obtain ⟨hn2, hq2⟩ := ht2
      have hC2 : CR w2 Z (sz + 1) a sw od := (hC.ext hA.2.1 (fun q h => (hq2 q (by omega)).trans (hq1 q (by omega)))).up (Nat.le_succ _)
      have hf2 : cl_fr Z w w2 := fun q hq => (hq2 q (by omega)).trans (hq1 q (by omega))
      exact v_cvCE (pc := 65) (A := [.ref sz]) d_DV_project_65 lk_DV_91 me_DV_makeView im_DV_makeView se_DV_makeView rfl hC2.1 rfl rfl (c_DV_makeView g hC2 hA (o := (2, k, 0, cols, 0, 0)) (o2 := sz) (wv := m) (Or.inr (Or.inr (Or.inl ⟨rfl, hn2⟩))) hsz (wo_prj hA hk2 htd.1 htd.2 hcols) (Nat.lt_succ_self _) (show (2 : Nat) ≠ 0 by decide) (cd := 3) (by decide)) (Nat.le_of_ble_eq_true rfl) (Nat.le_of_ble_eq_true rfl) (Nat.le_of_ble_eq_true rfl) rfl d_DV_project_68 rfl (fun r w' sz' h => by rw [if_pos hvk, if_pos hvk, if_pos hvk, if_pos ht, if_pos ht, if_pos ht, if_pos hp, if_pos hp, if_pos hp, hk3]; exact CE.via (Nat.le_succ _) hf2 h)
    · skip
      have ht : ¬ (nI 1 ≤ n ∧ n ≤ nI 4) := fun h => hc h.2
      exact v_throw (pc := 17) d_DV_project_17 d_DV_project_20 d_DV_project_21 d_DV_project_23 d_DV_project_26 tk_95 rfl (Nat.le_of_ble_eq_true rfl) (Nat.le_of_ble_eq_true rfl) (Nat.le_of_ble_eq_true rfl) (Nat.le_of_ble_eq_true rfl) (CE.thr (hC.up (Nat.le_succ _)) (Nat.le_succ _) cl_fr.rf (by rw [if_pos hvk, if_neg ht]; decide) (by first | rw [if_pos hvk, if_neg ht] | rfl) (by first | rw [if_pos hvk, if_neg ht] | rfl))
set_option maxRecDepth 100000 in
set_option maxHeartbeats 4000000 in
theorem c_DV_many (g : Gl) {w : Wd} {Z sz : Nat} {a : As} {sw : Nat → Bool} {od : Nat → Nat} (hC : CR w Z sz a sw od) (hA : AWa a) (e x y z u : Int32) : CT g 8 1 6 mi_DV_many [.ref Z, .int e, .int x, .int y, .int z, .int u] w sz (CE w Z sz (if isV a e then 0 else 1) (1) (.long (manyA a e x y z u)) a) := by
  refine CT.of (by decide) (Nat.le_of_ble_eq_true rfl) ?_
  have hn12 := hA.2.1
  have hsz := hC.2.2.2.2.2.2
  refine v_aload_n (pc := 0) d_DV_many_0 rfl rfl ?_
  refine v_iload_n (pc := 1) d_DV_many_1 rfl rfl ?_
  refine Classical.byCases (p := isV a e) (fun hvk => ?_) (fun hvk => v_cvT (pc := 2) (A := [.int e]) (rest := []) d_DV_many_2 lk_DV_76 me_DV_viewAt im_DV_viewAt se_DV_viewAt rfl hC.1 rfl rfl (c_DV_viewAt_no g hC hA hvk) (Nat.le_of_ble_eq_true rfl) (Nat.le_of_ble_eq_true rfl) (Nat.le_of_ble_eq_true rfl) (Nat.le_of_ble_eq_true rfl) rfl (CE.thr (hC.up (Nat.le_succ _)) (Nat.le_succ _) cl_fr.rf (by rw [if_neg hvk]; decide) (by first | rw [if_neg hvk] | rfl) (by first | rw [if_neg hvk] | rfl)))
  obtain ⟨k, hk1, hk2, hk3⟩ := isV_n hvk hA.2.1
  subst hk1
  obtain ⟨⟨mxk, hVk, hmxk⟩, -⟩ := hC.2.2.2.1 k (by omega)
  obtain ⟨⟨fk, mk, pdk, hBk, hBBk⟩, hOPk⟩ := hC.2.2.2.2.1 k hk2
  obtain ⟨hw1k, hw4k, hokk, hlnk⟩ := hA.2.2.2.1 k hk2
  refine v_cvR (pc := 2) (A := [.int (nI k)]) (rest := []) (x := .ref (VA Z k)) d_DV_many_2 lk_DV_76 me_DV_viewAt im_DV_viewAt se_DV_viewAt rfl hC.1 rfl rfl (c_DV_viewAt g hC hA (k := k) hk2) (Nat.le_of_ble_eq_true rfl) (Nat.le_of_ble_eq_true rfl) (Nat.le_of_ble_eq_true rfl) (Nat.le_of_ble_eq_true rfl) ?_
  refine v_get (pc := 5) d_DV_many_5 fl_DV_106 hVk rfl ?_
  refine v_astore (pc := 8) (L' := [(6, .ref (nwA Z sw k)), (0, .ref Z), (1, .int (nI k)), (2, .int x), (3, .int y), (4, .int z), (5, .int u)]) d_DV_many_8 (by decide) rfl ?_
  refine v_aload (pc := 10) d_DV_many_10 rfl ?_
  refine v_iconst (pc := 12) (v := nI 0) d_DV_many_12 rfl ?_
  refine v_iload_n (pc := 13) d_DV_many_13 rfl rfl ?_
  refine v_cvV (pc := 14) (A := [.int (nI 0), .int x]) (rest := []) d_DV_many_14 lk_DV_154 me_Bag_put im_Bag_put se_Bag_put rfl hBk.o rfl rfl (c_Bag_put g hBk (c := 0) (by decide) x) (Nat.le_of_ble_eq_true rfl) (Nat.le_of_ble_eq_true rfl) (Nat.le_of_ble_eq_true rfl) (Nat.le_of_ble_eq_true rfl) (fun w1 ht1 => ?_)
  obtain ⟨hB1, hf1⟩ := ht1
  refine v_aload (pc := 17) d_DV_many_17 rfl ?_
  refine v_iconst (pc := 19) (v := nI 1) d_DV_many_19 rfl ?_
  refine v_iload_n (pc := 20) d_DV_many_20 rfl rfl ?_
  refine v_cvV (pc := 21) (A := [.int (nI 1), .int y]) (rest := []) d_DV_many_21 lk_DV_154 me_Bag_put im_Bag_put se_Bag_put rfl hB1.o rfl rfl (c_Bag_put g hB1 (c := 1) (by decide) y) (Nat.le_of_ble_eq_true rfl) (Nat.le_of_ble_eq_true rfl) (Nat.le_of_ble_eq_true rfl) (Nat.le_of_ble_eq_true rfl) (fun w2 ht2 => ?_)
  obtain ⟨hB2, hf2⟩ := ht2
  refine v_aload (pc := 24) d_DV_many_24 rfl ?_
  refine v_iconst (pc := 26) (v := nI 2) d_DV_many_26 rfl ?_
  refine v_iload (pc := 27) d_DV_many_27 rfl ?_
  refine v_cvV (pc := 29) (A := [.int (nI 2), .int z]) (rest := []) d_DV_many_29 lk_DV_154 me_Bag_put im_Bag_put se_Bag_put rfl hB2.o rfl rfl (c_Bag_put g hB2 (c := 2) (by decide) z) (Nat.le_of_ble_eq_true rfl) (Nat.le_of_ble_eq_true rfl) (Nat.le_of_ble_eq_true rfl) (Nat.le_of_ble_eq_true rfl) (fun w3 ht3 => ?_)
  obtain ⟨hB3, hf3⟩ := ht3
  refine v_aload (pc := 32) d_DV_many_32 rfl ?_
  refine v_iconst (pc := 34) (v := nI 3) d_DV_many_34 rfl ?_
  refine v_iload (pc := 35) d_DV_many_35 rfl ?_
  refine v_cvV (pc := 37) (A := [.int (nI 3), .int u]) (rest := []) d_DV_many_37 lk_DV_154 me_Bag_put im_Bag_put se_Bag_put rfl hB3.o rfl rfl (c_Bag_put g hB3 (c := 3) (by decide) u) (Nat.le_of_ble_eq_true rfl) (Nat.le_of_ble_eq_true rfl) (Nat.le_of_ble_eq_true rfl) (Nat.le_of_ble_eq_true rfl) (fun w4 ht4 => ?_)
  obtain ⟨hB4, hf4⟩ := ht4
  refine v_aload (pc := 40) d_DV_many_40 rfl ?_
  refine v_cvR (pc := 42) (A := []) (rest := []) (x := .long (ma_look (ar_bag fk mk (a.2.1 k) 0 (a.2.2.2.1 k).length) (ar_row (upd (upd (upd (upd pdk 0 x) 1 y) 2 z) 3 u) (a.2.1 k) 0))) d_DV_many_42 lk_DV_158 me_Bag_timesOfPending im_Bag_timesOfPending se_Bag_timesOfPending rfl hB4.o rfl rfl (c_Bag_timesOfPending g hB4 (by omega) hw4k (by rw [hBBk]; exact hokk.1)) (Nat.le_of_ble_eq_true rfl) (Nat.le_of_ble_eq_true rfl) (Nat.le_of_ble_eq_true rfl) (Nat.le_of_ble_eq_true rfl) ?_
  have hrow : ar_row (upd (upd (upd (upd pdk 0 x) 1 y) 2 z) 3 u) (a.2.1 k) 0 = [x, y, z, u].take (a.2.1 k) := (row4 hw1k hw4k).mpr ⟨by simp [upd], Or.inr (by simp [upd]), Or.inr (by simp [upd]), Or.inr (by simp [upd])⟩
  have hfr : bg_fr (nwA Z sw k) w w4 := fun q hq => ((hf4 q hq).trans (hf3 q hq)).trans ((hf2 q hq).trans (hf1 q hq))
  have hck := nwA_c Z sw k
  exact v_lret (pc := 45) d_DV_many_45 rfl (Nat.le_of_ble_eq_true rfl) (Nat.le_of_ble_eq_true rfl) ⟨Nat.le_refl _, fun q hq => hfr q (by omega), ⟨sw, od, hC.now hA hk2 hfr ⟨fk, mk, _, hB4, hBBk⟩⟩, by rw [if_pos hvk, if_pos rfl, hrow, hBBk, manyA, hk3]⟩
