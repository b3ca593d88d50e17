theorem op_dis_len (B : MaB) : (op_dis B).length = B.length := by simp [op_dis]
set_option maxRecDepth 100000 in
set_option maxHeartbeats 4000000 in
theorem lp_Mo_all (g : Gl) {w : Wd} {b sz : Nat} {sc : Nat → Int32} {ia : Nat → Nat → Int32} {la : Nat → Nat → Int64} (hM : MAt w b sc ia la) {e v ne wd : Nat} (he : e < 24) (hv : v < 12) (hce : ia 8 e = nI ne) (hne : ne ≤ 16) (hw : ia 0 v = nI wd) (hwd : wd ≤ 4) {G0 : MaB} (hg : sc 2 = nI G0.length) (hG : ar_bag (ia 12) (la 11) wd 0 G0.length = G0) (h0 : G0.length + 16 ≤ 256) {E : Rs → Wd → Nat → Prop} (hE : ∀ w', mo_gs w b sc ia la wd (ma_gf G0 (ar_bag (ia 10) (la 9) wd (16 * e) ne)) w' → E (.inl none) w' sz) : ∀ (zz : Nat) (r : Nat) (w1 : Wd), ne - r = zz → r ≤ ne → mo_gs w b sc ia la wd (ma_gf G0 (ar_bag (ia 10) (la 9) wd (16 * e) r)) w1 → VV g 2 0 0 mi_Mo_all w sz E 3 [(4, .int (nI r)), (0, .ref b), (1, .int (nI e)), (2, .int (nI v)), (3, .int (nI 0))] [] w1 sz 0 0 := by
  intro zz
  induction zz using Nat.strongRecOn with | _ zz ih => _
  intro r w1 hnn hrn hgs
  obtain ⟨f1, o1, m1, h1, hfr, hGG⟩ := id hgs
  have hlen := ma_gf_len (ar_bag (ia 10) (la 9) wd (16 * e) r) G0
  have hfl : (ar_bag (ia 10) (la 9) wd (16 * e) r).length = r := by rw [ar_bag_len]
  refine v_iload (pc := 3) d_Mo_all_3 rfl ?_
  refine v_aload_n (pc := 5) d_Mo_all_5 rfl rfl ?_
  refine v_get (pc := 6) d_Mo_all_6 fl_Mo_38 h1.o rfl ?_
  refine v_iload_n (pc := 9) d_Mo_all_9 rfl rfl ?_
  refine v_ialdN (pc := 10) (k := e) (f := ia 8) d_Mo_all_10 h1.a8 rfl (by omega) (by decide) ?_
  refine v_re hce ?_
  refine v_icmp_ge (pc := 11) (tgt := 57) d_Mo_all_11 rfl (fun hc => ?_) (fun hc => ?_)
  · skip
    rw [nI_leI (by omega) (by omega)] at hc
    obtain rfl : r = ne := by omega
    exact v_vret (pc := 57) d_Mo_all_57 rfl (Nat.le_of_ble_eq_true rfl) (Nat.le_of_ble_eq_true rfl) (hE w1 hgs)
  · skip
    rw [nI_leI (by omega) (by omega)] at hc
    refine v_aload_n (pc := 14) d_Mo_all_14 rfl rfl ?_
    refine v_iload_n (pc := 15) d_Mo_all_15 rfl rfl ?_
    refine v_iload (pc := 16) d_Mo_all_16 rfl ?_
    refine v_cvV (pc := 18) (A := [.int (nI e), .int (nI r)]) (rest := []) d_Mo_all_18 lk_Mo_90 me_Mo_take im_Mo_take se_Mo_take rfl h1.o rfl rfl (c_Mo_take g h1 (k := e) (r := r) (by omega)) (Nat.le_of_ble_eq_true rfl) (Nat.le_of_ble_eq_true rfl) (Nat.le_of_ble_eq_true rfl) (Nat.le_of_ble_eq_true rfl) (fun w2 ht2 => ?_)
    obtain ⟨o2, h2, hf2, ho2⟩ := ht2
    rw [bx_uu] at h2
    refine v_aload_n (pc := 21) d_Mo_all_21 rfl rfl ?_
    refine v_aload_n (pc := 22) d_Mo_all_22 rfl rfl ?_
    refine v_get (pc := 23) d_Mo_all_23 fl_Mo_13 h2.o rfl ?_
    refine v_iload_n (pc := 26) d_Mo_all_26 rfl rfl ?_
    refine v_ialdN (pc := 27) (k := v) (f := ia 0) d_Mo_all_27 h2.a0 rfl (by omega) (by decide) ?_
    refine v_re hw ?_
    refine v_iload_n (pc := 28) d_Mo_all_28 rfl rfl ?_
    refine v_if_eq (pc := 29) (tgt := 36) d_Mo_all_29 rfl (fun hc => ?_) (fun hc => ?_)
    · skip
      refine v_aload_n (pc := 36) d_Mo_all_36 rfl rfl ?_
      refine v_get (pc := 37) d_Mo_all_37 fl_Mo_41 h2.o rfl ?_
      refine v_bipush (pc := 40) (v := nI 16) d_Mo_all_40 rfl ?_
      refine v_iload_n (pc := 42) d_Mo_all_42 rfl rfl ?_
      refine v_imul (pc := 43) d_Mo_all_43 ?_
      refine v_re (pk_mul 16 e) ?_
      refine v_iload (pc := 44) d_Mo_all_44 rfl ?_
      refine v_iadd (pc := 46) d_Mo_all_46 ?_
      refine v_re (nI_add (16 * e) r) ?_
      refine v_laldN (pc := 47) (k := (16 * e) + r) (f := la 9) d_Mo_all_47 h2.a9 rfl (by omega) (by decide) ?_
      refine v_cvV (pc := 48) (A := [.int (nI wd), .long (la 9 ((16 * e) + r))]) (rest := []) d_Mo_all_48 lk_Mo_94 me_Mo_gather im_Mo_gather se_Mo_gather rfl h2.o rfl rfl (c_Mo_gather g h2 (n := (ma_gf G0 (ar_bag (ia 10) (la 9) wd (16 * e) r)).length) (wd := wd) (many := la 9 (16 * e + r)) rfl (by omega) hwd) (Nat.le_of_ble_eq_true rfl) (Nat.le_of_ble_eq_true rfl) (Nat.le_of_ble_eq_true rfl) (Nat.le_of_ble_eq_true rfl) (fun w3 ht3 => ?_)
      have hnext : mo_gs w b sc ia la wd (ma_gf G0 (ar_bag (ia 10) (la 9) wd (16 * e) (r + 1))) w3 := by
        have e9 := mo_gs.add (hfr.tr hf2) hGG ht3
        have e8 : ar_row o2 wd 0 = ar_row (ia 10) wd (4 * (16 * e + r)) := ar_row_congr (fun c hc => by rw [Nat.zero_add]; exact ho2 c (by omega))
        rw [e8] at e9
        rw [ar_bag_snoc, ma_gf_snoc]
        exact e9
      refine v_iinc (pc := 51) (L' := [(4, .int (nI (r + 1))), (0, .ref b), (1, .int (nI e)), (2, .int (nI v)), (3, .int (nI 0))]) d_Mo_all_51 rfl (ix_inc _) (by decide) rfl ?_
      refine v_goto (pc := 54) (tgt := 3) d_Mo_all_54 rfl ?_
      refine v_sub (L' := [(4, .int (nI (r + 1))), (0, .ref b), (1, .int (nI e)), (2, .int (nI v)), (3, .int (nI 0))]) (by simp) ?_
      exact ih (ne - (r + 1)) (by omega) (r + 1) _ rfl (by omega) hnext
    · skip
      exact absurd rfl hc
set_option maxRecDepth 100000 in
set_option maxHeartbeats 4000000 in
theorem c_Mo_all (g : Gl) {w : Wd} {b sz : Nat} {sc : Nat → Int32} {ia : Nat → Nat → Int32} {la : Nat → Nat → Int64} (hM : MAt w b sc ia la) {e v ne wd : Nat} (he : e < 24) (hv : v < 12) (hce : ia 8 e = nI ne) (hne : ne ≤ 16) (hw : ia 0 v = nI wd) (hwd : wd ≤ 4) {G0 : MaB} (hg : sc 2 = nI G0.length) (hG : ar_bag (ia 12) (la 11) wd 0 G0.length = G0) (h0 : G0.length + 16 ≤ 256) : CT g 2 0 0 mi_Mo_all [.ref b, .int (nI e), .int (nI v), .int (nI 0)] w sz (wrE none sz (mo_gs w b sc ia la wd (ma_gf G0 (ar_bag (ia 10) (la 9) wd (16 * e) ne)))) := by
  refine CT.of (by decide) (Nat.le_of_ble_eq_true rfl) ?_
  refine v_iconst (pc := 0) (v := nI 0) d_Mo_all_0 rfl ?_
  refine v_istore (pc := 1) (L' := [(4, .int (nI 0)), (0, .ref b), (1, .int (nI e)), (2, .int (nI v)), (3, .int (nI 0))]) d_Mo_all_1 (by decide) rfl ?_
  refine v_sub (L' := [(4, .int (nI 0)), (0, .ref b), (1, .int (nI e)), (2, .int (nI v)), (3, .int (nI 0))]) (by simp) ?_
  exact lp_Mo_all g hM he hv hce hne hw hwd hg hG h0 (fun w' h => ⟨rfl, rfl, h⟩) ne 0 w rfl (by omega) (mo_gs.start hM hg hG)
set_option maxRecDepth 100000 in
set_option maxHeartbeats 4000000 in
theorem lp_Mo_dis (g : Gl) {w : Wd} {b sz : Nat} {sc : Nat → Int32} {ia : Nat → Nat → Int32} {la : Nat → Nat → Int64} (hM : MAt w b sc ia la) {e v ne wd : Nat} (he : e < 24) (hv : v < 12) (hce : ia 8 e = nI ne) (hne : ne ≤ 16) (hw : ia 0 v = nI wd) (hwd : wd ≤ 4) {G0 : MaB} (hg : sc 2 = nI G0.length) (hG : ar_bag (ia 12) (la 11) wd 0 G0.length = G0) (h0 : G0.length + 16 ≤ 256) {E : Rs → Wd → Nat → Prop} (hE : ∀ w', mo_gs w b sc ia la wd (ma_gf G0 (op_dis (ar_bag (ia 10) (la 9) wd (16 * e) ne))) w' → E (.inl none) w' sz) : ∀ (zz : Nat) (r : Nat) (w1 : Wd), ne - r = zz → r ≤ ne → mo_gs w b sc ia la wd (ma_gf G0 (op_dis (ar_bag (ia 10) (la 9) wd (16 * e) r))) w1 → VV g 2 0 0 mi_Mo_all w sz E 3 [(4, .int (nI r)), (0, .ref b), (1, .int (nI e)), (2, .int (nI v)), (3, .int (nI 1))] [] w1 sz 0 0 := by
  intro zz
  induction zz using Nat.strongRecOn with | _ zz ih => _
  intro r w1 hnn hrn hgs
  obtain ⟨f1, o1, m1, h1, hfr, hGG⟩ := id hgs
  have hlen := ma_gf_len (op_dis (ar_bag (ia 10) (la 9) wd (16 * e) r)) G0
  have hfl : (op_dis (ar_bag (ia 10) (la 9) wd (16 * e) r)).length = r := by rw [op_dis_len, ar_bag_len]
  refine v_iload (pc := 3) d_Mo_all_3 rfl ?_
  refine v_aload_n (pc := 5) d_Mo_all_5 rfl rfl ?_
  refine v_get (pc := 6) d_Mo_all_6 fl_Mo_38 h1.o rfl ?_
  refine v_iload_n (pc := 9) d_Mo_all_9 rfl rfl ?_
  refine v_ialdN (pc := 10) (k := e) (f := ia 8) d_Mo_all_10 h1.a8 rfl (by omega) (by decide) ?_
  refine v_re hce ?_
  refine v_icmp_ge (pc := 11) (tgt := 57) d_Mo_all_11 rfl (fun hc => ?_) (fun hc => ?_)
  · skip
    rw [nI_leI (by omega) (by omega)] at hc
    obtain rfl : r = ne := by omega
    exact v_vret (pc := 57) d_Mo_all_57 rfl (Nat.le_of_ble_eq_true rfl) (Nat.le_of_ble_eq_true rfl) (hE w1 hgs)
  · skip
    rw [nI_leI (by omega) (by omega)] at hc
    refine v_aload_n (pc := 14) d_Mo_all_14 rfl rfl ?_
    refine v_iload_n (pc := 15) d_Mo_all_15 rfl rfl ?_
    refine v_iload (pc := 16) d_Mo_all_16 rfl ?_
    refine v_cvV (pc := 18) (A := [.int (nI e), .int (nI r)]) (rest := []) d_Mo_all_18 lk_Mo_90 me_Mo_take im_Mo_take se_Mo_take rfl h1.o rfl rfl (c_Mo_take g h1 (k := e) (r := r) (by omega)) (Nat.le_of_ble_eq_true rfl) (Nat.le_of_ble_eq_true rfl) (Nat.le_of_ble_eq_true rfl) (Nat.le_of_ble_eq_true rfl) (fun w2 ht2 => ?_)
    obtain ⟨o2, h2, hf2, ho2⟩ := ht2
    rw [bx_uu] at h2
    refine v_aload_n (pc := 21) d_Mo_all_21 rfl rfl ?_
    refine v_aload_n (pc := 22) d_Mo_all_22 rfl rfl ?_
    refine v_get (pc := 23) d_Mo_all_23 fl_Mo_13 h2.o rfl ?_
    refine v_iload_n (pc := 26) d_Mo_all_26 rfl rfl ?_
    refine v_ialdN (pc := 27) (k := v) (f := ia 0) d_Mo_all_27 h2.a0 rfl (by omega) (by decide) ?_
    refine v_re hw ?_
    refine v_iload_n (pc := 28) d_Mo_all_28 rfl rfl ?_
    refine v_if_eq (pc := 29) (tgt := 36) d_Mo_all_29 rfl (fun hc => ?_) (fun hc => ?_)
    · skip
      exact absurd hc (by decide)
    · skip
      refine v_lconst (pc := 32) (v := 1) d_Mo_all_32 rfl ?_
      refine v_goto (pc := 33) (tgt := 48) d_Mo_all_33 rfl ?_
      refine v_cvV (pc := 48) (A := [.int (nI wd), .long 1]) (rest := []) d_Mo_all_48 lk_Mo_94 me_Mo_gather im_Mo_gather se_Mo_gather rfl h2.o rfl rfl (c_Mo_gather g h2 (n := (ma_gf G0 (op_dis (ar_bag (ia 10) (la 9) wd (16 * e) r))).length) (wd := wd) (many := 1) rfl (by omega) hwd) (Nat.le_of_ble_eq_true rfl) (Nat.le_of_ble_eq_true rfl) (Nat.le_of_ble_eq_true rfl) (Nat.le_of_ble_eq_true rfl) (fun w3 ht3 => ?_)
      have hnext : mo_gs w b sc ia la wd (ma_gf G0 (op_dis (ar_bag (ia 10) (la 9) wd (16 * e) (r + 1)))) w3 := by
        have e9 := mo_gs.add (hfr.tr hf2) hGG ht3
        have e8 : ar_row o2 wd 0 = ar_row (ia 10) wd (4 * (16 * e + r)) := ar_row_congr (fun c hc => by rw [Nat.zero_add]; exact ho2 c (by omega))
        rw [e8] at e9
        unfold op_dis at e9 ⊢
        rw [ar_bag_snoc, List.map_append, List.map_cons, List.map_nil, ma_gf_snoc]
        exact e9
      refine v_iinc (pc := 51) (L' := [(4, .int (nI (r + 1))), (0, .ref b), (1, .int (nI e)), (2, .int (nI v)), (3, .int (nI 1))]) d_Mo_all_51 rfl (ix_inc _) (by decide) rfl ?_
      refine v_goto (pc := 54) (tgt := 3) d_Mo_all_54 rfl ?_
      refine v_sub (L' := [(4, .int (nI (r + 1))), (0, .ref b), (1, .int (nI e)), (2, .int (nI v)), (3, .int (nI 1))]) (by simp) ?_
      exact ih (ne - (r + 1)) (by omega) (r + 1) _ rfl (by omega) hnext
set_option maxRecDepth 100000 in
set_option maxHeartbeats 4000000 in
theorem c_Mo_dis (g : Gl) {w : Wd} {b sz : Nat} {sc : Nat → Int32} {ia : Nat → Nat → Int32} {la : Nat → Nat → Int64} (hM : MAt w b sc ia la) {e v ne wd : Nat} (he : e < 24) (hv : v < 12) (hce : ia 8 e = nI ne) (hne : ne ≤ 16) (hw : ia 0 v = nI wd) (hwd : wd ≤ 4) {G0 : MaB} (hg : sc 2 = nI G0.length) (hG : ar_bag (ia 12) (la 11) wd 0 G0.length = G0) (h0 : G0.length + 16 ≤ 256) : CT g 2 0 0 mi_Mo_all [.ref b, .int (nI e), .int (nI v), .int (nI 1)] w sz (wrE none sz (mo_gs w b sc ia la wd (ma_gf G0 (op_dis (ar_bag (ia 10) (la 9) wd (16 * e) ne))))) := by
  refine CT.of (by decide) (Nat.le_of_ble_eq_true rfl) ?_
  refine v_iconst (pc := 0) (v := nI 0) d_Mo_all_0 rfl ?_
  refine v_istore (pc := 1) (L' := [(4, .int (nI 0)), (0, .ref b), (1, .int (nI e)), (2, .int (nI v)), (3, .int (nI 1))]) d_Mo_all_1 (by decide) rfl ?_
  refine v_sub (L' := [(4, .int (nI 0)), (0, .ref b), (1, .int (nI e)), (2, .int (nI v)), (3, .int (nI 1))]) (by simp) ?_
  exact lp_Mo_dis g hM he hv hce hne hw hwd hg hG h0 (fun w' h => ⟨rfl, rfl, h⟩) ne 0 w rfl (by omega) (mo_gs.start hM hg hG)
