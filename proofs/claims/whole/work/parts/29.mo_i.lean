theorem op_prj_len (n : Nat) (cols : Nat → Nat) (B : MaB) : (op_prj n cols B).length = B.length := by simp [op_prj]
set_option maxRecDepth 100000 in
set_option maxHeartbeats 4000000 in
theorem lp1_Mo_projects (g : Gl) {w0 w : Wd} {b sz : Nat} {sc : Nat → Int32} {ia : Nat → Nat → Int32} {la : Nat → Nat → Int64} (hM : MAt w b sc ia la) {e v wd we r : Nat} {cols : Nat → Nat} (her : e < 24) (hr : r < 16) (hv : v < 12) (hw : ia 0 v = nI wd) (hwd : wd ≤ 4) (hwe : we ≤ 4) (hcol : ∀ c, c < wd → (ia 4 v >>> (nI (4 * c) &&& 31)) &&& nI 15 = nI (cols c) ∧ cols c < we) {E : Rs → Wd → Nat → Prop} (K : ∀ w1 o1, MAt w1 b sc (va_up ia 13 o1) la → mo_fr b w w1 → (∀ j, j < wd → o1 j = ia 10 (4 * (16 * e + r) + cols j)) → VV g 2 0 0 mi_Mo_projects w0 sz E 59 [(4, .int (nI wd)), (3, .int (nI r)), (0, .ref b), (1, .int (nI e)), (2, .int (nI v))] [] w1 sz 0 0) : ∀ (zz : Nat) (c : Nat) (w1 : Wd) (o1 : Nat → Int32), wd - c = zz → c ≤ wd → MAt w1 b sc (va_up ia 13 o1) la → mo_fr b w w1 → (∀ j, j < c → o1 j = ia 10 (4 * (16 * e + r) + cols j)) → VV g 2 0 0 mi_Mo_projects w0 sz E 15 [(4, .int (nI c)), (3, .int (nI r)), (0, .ref b), (1, .int (nI e)), (2, .int (nI v))] [] w1 sz 0 0 := by
  intro zz
  induction zz using Nat.strongRecOn with | _ zz ih => _
  intro c w1 o1 hnn hcw h1 h3 h4
  refine v_iload (pc := 15) d_Mo_projects_15 rfl ?_
  refine v_aload_n (pc := 17) d_Mo_projects_17 rfl rfl ?_
  refine v_get (pc := 18) d_Mo_projects_18 fl_Mo_13 h1.o rfl ?_
  refine v_iload_n (pc := 21) d_Mo_projects_21 rfl rfl ?_
  refine v_ialdN (pc := 22) (k := v) (f := ia 0) d_Mo_projects_22 h1.a0 rfl (by omega) (by decide) ?_
  refine v_re hw ?_
  refine v_icmp_ge (pc := 23) (tgt := 59) d_Mo_projects_23 rfl (fun hc => ?_) (fun hc => ?_)
  · skip
    rw [nI_leI (by omega) (by omega)] at hc
    obtain rfl : c = wd := by omega
    exact K w1 o1 h1 h3 h4
  · skip
    rw [nI_leI (by omega) (by omega)] at hc
    refine v_aload_n (pc := 26) d_Mo_projects_26 rfl rfl ?_
    refine v_get (pc := 27) d_Mo_projects_27 fl_Mo_54 h1.o rfl ?_
    refine v_iload (pc := 30) d_Mo_projects_30 rfl ?_
    refine v_aload_n (pc := 32) d_Mo_projects_32 rfl rfl ?_
    refine v_iload_n (pc := 33) d_Mo_projects_33 rfl rfl ?_
    refine v_iload_n (pc := 34) d_Mo_projects_34 rfl rfl ?_
    refine v_aload_n (pc := 35) d_Mo_projects_35 rfl rfl ?_
    refine v_get (pc := 36) d_Mo_projects_36 fl_Mo_26 h1.o rfl ?_
    refine v_iload_n (pc := 39) d_Mo_projects_39 rfl rfl ?_
    refine v_ialdN (pc := 40) (k := v) (f := ia 4) d_Mo_projects_40 h1.a4 rfl (by omega) (by decide) ?_
    refine v_iconst (pc := 41) (v := nI 4) d_Mo_projects_41 rfl ?_
    refine v_iload (pc := 42) d_Mo_projects_42 rfl ?_
    refine v_imul (pc := 44) d_Mo_projects_44 ?_
    refine v_re (pk_mul 4 c) ?_
    refine v_ishr (pc := 45) d_Mo_projects_45 ?_
    refine v_bipush (pc := 46) (v := nI 15) d_Mo_projects_46 rfl ?_
    refine v_iand (pc := 48) d_Mo_projects_48 ?_
    obtain ⟨hc1, hc2⟩ := hcol c (by omega)
    refine v_re (y := nI (cols c)) hc1 ?_
    refine v_cvR (pc := 49) (A := [.int (nI e), .int (nI r), .int (nI (cols c))]) (rest := [.int (nI c), .ref (b + 14)]) (x := .int (ia 10 (4 * (16 * e + r) + cols c))) d_Mo_projects_49 lk_Mo_83 me_Mo_cellOf im_Mo_cellOf se_Mo_cellOf rfl h1.o rfl rfl (c_Mo_cellOf g h1 (k := e) (r := r) (c := cols c) (by omega)) (Nat.le_of_ble_eq_true rfl) (Nat.le_of_ble_eq_true rfl) (Nat.le_of_ble_eq_true rfl) (Nat.le_of_ble_eq_true rfl) ?_
    refine v_iastW (pc := 52) (k := c) (f := o1) d_Mo_projects_52 h1.a13 rfl (by omega) (by decide) (fun w2 hn2 hq2 => ?_)
    have h2 := h1.s13 hn2 hq2
    rw [bx_uu] at h2
    refine v_iinc (pc := 53) (L' := [(4, .int (nI (c + 1))), (3, .int (nI r)), (0, .ref b), (1, .int (nI e)), (2, .int (nI v))]) d_Mo_projects_53 rfl (ix_inc _) (by decide) rfl ?_
    refine v_goto (pc := 56) (tgt := 15) d_Mo_projects_56 rfl ?_
    refine v_sub (L' := [(4, .int (nI (c + 1))), (3, .int (nI r)), (0, .ref b), (1, .int (nI e)), (2, .int (nI v))]) (by simp) ?_
    exact ih (wd - (c + 1)) (by omega) (c + 1) w2 (upd o1 c (ia 10 (4 * (16 * e + r) + cols c))) rfl (by omega) h2 (h3.at ⟨by omega, by omega⟩ hq2) (fun j hj => by by_cases hjc : j = c; (subst hjc; exact pk_us); (rw [pk_un (by omega)]; exact h4 j (by omega)))
set_option maxRecDepth 100000 in
set_option maxHeartbeats 4000000 in
theorem lp_Mo_projects (g : Gl) {w : Wd} {b sz : Nat} {sc : Nat → Int32} {ia : Nat → Nat → Int32} {la : Nat → Nat → Int64} (hM : MAt w b sc ia la) {e v ne wd : Nat} (he : e < 24) (hv : v < 12) (hce : ia 8 e = nI ne) (hne : ne ≤ 16) (hw : ia 0 v = nI wd) (hwd : wd ≤ 4) {G0 : MaB} (hg : sc 2 = nI G0.length) (hG : ar_bag (ia 12) (la 11) wd 0 G0.length = G0) {we : Nat} {cols : Nat → Nat} (hwe : we ≤ 4) (hcol : ∀ c, c < wd → (ia 4 v >>> (nI (4 * c) &&& 31)) &&& nI 15 = nI (cols c) ∧ cols c < we) (h0 : G0.length + 16 ≤ 256) {E : Rs → Wd → Nat → Prop} (hE : ∀ w', mo_gs w b sc ia la wd (ma_gf G0 (op_prj wd cols (ar_bag (ia 10) (la 9) we (16 * e) ne))) w' → E (.inl none) w' sz) : ∀ (zz : Nat) (r : Nat) (w1 : Wd), ne - r = zz → r ≤ ne → mo_gs w b sc ia la wd (ma_gf G0 (op_prj wd cols (ar_bag (ia 10) (la 9) we (16 * e) r))) w1 → VV g 2 0 0 mi_Mo_projects w sz E 2 [(3, .int (nI r)), (0, .ref b), (1, .int (nI e)), (2, .int (nI v))] [] w1 sz 0 0 := by
  intro zz
  induction zz using Nat.strongRecOn with | _ zz ih => _
  intro r w1 hnn hrn hgs
  obtain ⟨f1, o1, m1, h1, hfr, hGG⟩ := id hgs
  have hlen := ma_gf_len (op_prj wd cols (ar_bag (ia 10) (la 9) we (16 * e) r)) G0
  have hfl : (op_prj wd cols (ar_bag (ia 10) (la 9) we (16 * e) r)).length = r := by rw [op_prj_len, ar_bag_len]
  refine v_iload_n (pc := 2) d_Mo_projects_2 rfl rfl ?_
  refine v_aload_n (pc := 3) d_Mo_projects_3 rfl rfl ?_
  refine v_get (pc := 4) d_Mo_projects_4 fl_Mo_38 h1.o rfl ?_
  refine v_iload_n (pc := 7) d_Mo_projects_7 rfl rfl ?_
  refine v_ialdN (pc := 8) (k := e) (f := ia 8) d_Mo_projects_8 h1.a8 rfl (by omega) (by decide) ?_
  refine v_re hce ?_
  refine v_icmp_ge (pc := 9) (tgt := 86) d_Mo_projects_9 rfl (fun hc => ?_) (fun hc => ?_)
  · skip
    rw [nI_leI (by omega) (by omega)] at hc
    obtain rfl : r = ne := by omega
    exact v_vret (pc := 86) d_Mo_projects_86 rfl (Nat.le_of_ble_eq_true rfl) (Nat.le_of_ble_eq_true rfl) (hE w1 hgs)
  · skip
    rw [nI_leI (by omega) (by omega)] at hc
    refine v_iconst (pc := 12) (v := nI 0) d_Mo_projects_12 rfl ?_
    refine v_istore (pc := 13) (L' := [(4, .int (nI 0)), (3, .int (nI r)), (0, .ref b), (1, .int (nI e)), (2, .int (nI v))]) d_Mo_projects_13 (by decide) rfl ?_
    refine v_sub (L' := [(4, .int (nI 0)), (3, .int (nI r)), (0, .ref b), (1, .int (nI e)), (2, .int (nI v))]) (by simp) ?_
    refine lp1_Mo_projects g h1 (e := e) (v := v) (wd := wd) (we := we) (r := r) (cols := cols) he (by omega) hv hw hwd hwe hcol (fun w2 o2 h2 hf2 ho2 => ?_) wd 0 w1 o1 rfl (by omega) (by rw [bx_uu]; exact h1) mo_fr.rf (fun j hj => absurd hj (Nat.not_lt_zero _))
    rw [bx_uu] at h2
    have ho2 : ∀ j, j < wd → o2 j = ia 10 (4 * (16 * e + r) + cols j) := ho2
    refine v_aload_n (pc := 59) d_Mo_projects_59 rfl rfl ?_
    refine v_aload_n (pc := 60) d_Mo_projects_60 rfl rfl ?_
    refine v_get (pc := 61) d_Mo_projects_61 fl_Mo_13 h2.o rfl ?_
    refine v_iload_n (pc := 64) d_Mo_projects_64 rfl rfl ?_
    refine v_ialdN (pc := 65) (k := v) (f := ia 0) d_Mo_projects_65 h2.a0 rfl (by omega) (by decide) ?_
    refine v_re hw ?_
    refine v_aload_n (pc := 66) d_Mo_projects_66 rfl rfl ?_
    refine v_get (pc := 67) d_Mo_projects_67 fl_Mo_41 h2.o rfl ?_
    refine v_bipush (pc := 70) (v := nI 16) d_Mo_projects_70 rfl ?_
    refine v_iload_n (pc := 72) d_Mo_projects_72 rfl rfl ?_
    refine v_imul (pc := 73) d_Mo_projects_73 ?_
    refine v_re (pk_mul 16 e) ?_
    refine v_iload_n (pc := 74) d_Mo_projects_74 rfl rfl ?_
    refine v_iadd (pc := 75) d_Mo_projects_75 ?_
    refine v_re (nI_add (16 * e) r) ?_
    refine v_laldN (pc := 76) (k := (16 * e) + r) (f := la 9) d_Mo_projects_76 h2.a9 rfl (by omega) (by decide) ?_
    refine v_cvV (pc := 77) (A := [.int (nI wd), .long (la 9 ((16 * e) + r))]) (rest := []) d_Mo_projects_77 lk_Mo_94 me_Mo_gather im_Mo_gather se_Mo_gather rfl h2.o rfl rfl (c_Mo_gather g h2 (n := (ma_gf G0 (op_prj wd cols (ar_bag (ia 10) (la 9) we (16 * e) r))).length) (wd := wd) (many := la 9 (16 * e + r)) rfl (by omega) hwd) (Nat.le_of_ble_eq_true rfl) (Nat.le_of_ble_eq_true rfl) (Nat.le_of_ble_eq_true rfl) (Nat.le_of_ble_eq_true rfl) (fun w3 ht3 => ?_)
    have hnext : mo_gs w b sc ia la wd (ma_gf G0 (op_prj wd cols (ar_bag (ia 10) (la 9) we (16 * e) (r + 1)))) w3 := by
      have e9 := mo_gs.add (hfr.tr hf2) hGG ht3
      have e8 : ar_row o2 wd 0 = (List.range wd).map (fun c => (ar_row (ia 10) we (4 * (16 * e + r))).getD (cols c) 0) := by
        refine List.map_congr_left (fun c hc => ?_)
        have hc := List.mem_range.mp hc
        rw [ar_row_getD (hcol c hc).2, Nat.zero_add]
        exact ho2 c hc
      rw [e8] at e9
      unfold op_prj at e9 ⊢
      rw [ar_bag_snoc, List.map_append, List.map_cons, List.map_nil, ma_gf_snoc]
      exact e9
    refine v_iinc (pc := 80) (L' := [(3, .int (nI (r + 1))), (4, .int (nI wd)), (0, .ref b), (1, .int (nI e)), (2, .int (nI v))]) d_Mo_projects_80 rfl (ix_inc _) (by decide) rfl ?_
    refine v_goto (pc := 83) (tgt := 2) d_Mo_projects_83 rfl ?_
    refine v_sub (L' := [(3, .int (nI (r + 1))), (0, .ref b), (1, .int (nI e)), (2, .int (nI v))]) (by simp) ?_
    exact ih (ne - (r + 1)) (by omega) (r + 1) _ rfl (by omega) hnext
set_option maxRecDepth 100000 in
set_option maxHeartbeats 4000000 in
theorem c_Mo_projects (g : Gl) {w : Wd} {b sz : Nat} {sc : Nat → Int32} {ia : Nat → Nat → Int32} {la : Nat → Nat → Int64} (hM : MAt w b sc ia la) {e v ne wd : Nat} (he : e < 24) (hv : v < 12) (hce : ia 8 e = nI ne) (hne : ne ≤ 16) (hw : ia 0 v = nI wd) (hwd : wd ≤ 4) {G0 : MaB} (hg : sc 2 = nI G0.length) (hG : ar_bag (ia 12) (la 11) wd 0 G0.length = G0) {we : Nat} {cols : Nat → Nat} (hwe : we ≤ 4) (hcol : ∀ c, c < wd → (ia 4 v >>> (nI (4 * c) &&& 31)) &&& nI 15 = nI (cols c) ∧ cols c < we) (h0 : G0.length + 16 ≤ 256) : CT g 2 0 0 mi_Mo_projects [.ref b, .int (nI e), .int (nI v)] w sz (wrE none sz (mo_gs w b sc ia la wd (ma_gf G0 (op_prj wd cols (ar_bag (ia 10) (la 9) we (16 * e) ne))))) := by
  refine CT.of (by decide) (Nat.le_of_ble_eq_true rfl) ?_
  refine v_iconst (pc := 0) (v := nI 0) d_Mo_projects_0 rfl ?_
  refine v_istore_n (pc := 1) (L' := [(3, .int (nI 0)), (0, .ref b), (1, .int (nI e)), (2, .int (nI v))]) d_Mo_projects_1 rfl (by decide) rfl ?_
  refine v_sub (L' := [(3, .int (nI 0)), (0, .ref b), (1, .int (nI e)), (2, .int (nI v))]) (by simp) ?_
  exact lp_Mo_projects g hM he hv hce hne hw hwd hg hG hwe hcol h0 (fun w' h => ⟨rfl, rfl, h⟩) ne 0 w rfl (by omega) (mo_gs.start hM hg hG)
