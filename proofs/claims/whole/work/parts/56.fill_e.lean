set_option maxRecDepth 100000 in
set_option maxHeartbeats 4000000 in
theorem lp_Group_fill (g : Gl) {w : Wd} {v kd p q : Nat} {o bq h sz wd0 n0 : Nat} {f0 : Nat → Int32} {m0 : Nat → Int64} {pd0 : Nat → Int32} (hB : BGo w h wd0 n0 f0 m0 pd0) (ho : o < h ∨ h + 4 ≤ o) {e we ne : Nat} {fe : Nat → Int32} {me : Nat → Int64} {pe : Nat → Int32} (hE : BGo w e we ne fe me pe) (hd : e + 4 ≤ h ∨ h + 4 ≤ e) (hne : ne ≤ 32) (hwe : we ≤ 4) (hO : w o = some (cO 9 [.ref v, .int (nI kd), .int (nI p), .int (nI q)])) (hkd : kd ≤ 2) (hp : p < we) (hq : q < we) {E : Rs → Wd → Nat → Prop} (hE' : ∀ w', bg_st w h 2 (ma_foldC [] (op_gr kd p q (ar_bag fe me we 0 ne) ne)) w' → E (.inl none) w' sz) : ∀ (zz : Nat) (r : Nat) (w1 : Wd), ne - r = zz → r ≤ ne → bg_st w h 2 (ma_foldC [] (op_gr kd p q (ar_bag fe me we 0 ne) r)) w1 → VV g 4 0 0 mi_Group_fill w sz E 16 [(4, .int (nI r)), (3, .ref e), (0, .ref o), (1, .ref bq), (2, .ref h)] [] w1 sz 0 0 := by
  intro zz
  induction zz using Nat.strongRecOn with | _ zz ih => _
  intro r w1 hnn hrn hst
  obtain ⟨f1, m1, pd1, h1, hfr, hBB⟩ := id hst
  have k1 := hE.mv (w' := w1) (fun q h1 h2 => hfr q (by omega))
  have hO1 := (hfr o ho).trans hO
  obtain ⟨hok, hl⟩ := ma_foldC_ok (ma_ok_nil 2) (by decide) (A := (op_gr kd p q (ar_bag fe me we 0 ne) r)) (op_gr_row _ _ _ _ _)
  refine v_iload (pc := 16) d_Group_fill_16 rfl ?_
  refine v_aload_n (pc := 18) d_Group_fill_18 rfl rfl ?_
  refine v_get (pc := 19) d_Group_fill_19 fl_Group_37 k1.o rfl ?_
  refine v_icmp_ge (pc := 22) (tgt := 73) d_Group_fill_22 rfl (fun hc => ?_) (fun hc => ?_)
  · skip
    rw [nI_leI (by omega) (by omega)] at hc
    obtain rfl : r = ne := by omega
    exact v_vret (pc := 73) d_Group_fill_73 rfl (Nat.le_of_ble_eq_true rfl) (Nat.le_of_ble_eq_true rfl) (hE' w1 hst)
  · skip
    rw [nI_leI (by omega) (by omega)] at hc
    refine v_aload_n (pc := 25) d_Group_fill_25 rfl rfl ?_
    refine v_aload_n (pc := 26) d_Group_fill_26 rfl rfl ?_
    refine v_iload (pc := 27) d_Group_fill_27 rfl ?_
    refine v_cvR (pc := 29) (A := [.ref e, .int (nI r)]) (rest := []) (x := .int (if op_fst p (fe (4 * r + p)) (ar_bag fe me we 0 r) = true then 1 else 0)) d_Group_fill_29 lk_Group_40 me_Group_isFirstOfGroup im_Group_isFirstOfGroup se_Group_isFirstOfGroup rfl hO1 rfl rfl (c_Group_isFirstOfGroup g k1 hne hwe hO1 hkd hp hq (r := r) (by omega)) (Nat.le_of_ble_eq_true rfl) (Nat.le_of_ble_eq_true rfl) (Nat.le_of_ble_eq_true rfl) (Nat.le_of_ble_eq_true rfl) ?_
    refine v_if_eq (pc := 32) (tgt := 67) d_Group_fill_32 rfl (fun hc => ?_) (fun hc => ?_)
    · skip
      rw [zf] at hc
      have hnext : bg_st w h 2 (ma_foldC [] (op_gr kd p q (ar_bag fe me we 0 ne) (r + 1))) w1 := by
        rw [op_gr, ar_bag_get (by omega), ar_bag_take (by omega)]
        dsimp only
        rw [op_ky_row hp, Nat.zero_add, if_neg hc, List.append_nil]
        exact hst
      refine v_iinc (pc := 67) (L' := [(4, .int (nI (r + 1))), (3, .ref e), (0, .ref o), (1, .ref bq), (2, .ref h)]) d_Group_fill_67 rfl (ix_inc _) (by decide) rfl ?_
      refine v_goto (pc := 70) (tgt := 16) d_Group_fill_70 rfl ?_
      refine v_sub (L' := [(4, .int (nI (r + 1))), (3, .ref e), (0, .ref o), (1, .ref bq), (2, .ref h)]) (by simp) ?_
      exact ih (ne - (r + 1)) (by omega) (r + 1) _ rfl (by omega) hnext
    · skip
      rw [zt] at hc
      refine v_aload_n (pc := 35) d_Group_fill_35 rfl rfl ?_
      refine v_iconst (pc := 36) (v := nI 0) d_Group_fill_36 rfl ?_
      refine v_aload_n (pc := 37) d_Group_fill_37 rfl rfl ?_
      refine v_iload (pc := 38) d_Group_fill_38 rfl ?_
      refine v_aload_n (pc := 40) d_Group_fill_40 rfl rfl ?_
      refine v_get (pc := 41) d_Group_fill_41 fl_Group_19 hO1 rfl ?_
      have hfst := hc
      refine v_cvR (pc := 44) (A := [.int (nI r), .int (nI p)]) (rest := [.int (nI 0), .ref h]) (x := .int (fe (4 * r + p))) d_Group_fill_44 lk_Group_44 me_Bag_cellAt im_Bag_cellAt se_Bag_cellAt rfl k1.o rfl rfl (c_Bag_cellAt g k1 (r := r) (c := p) (by omega)) (Nat.le_of_ble_eq_true rfl) (Nat.le_of_ble_eq_true rfl) (Nat.le_of_ble_eq_true rfl) (Nat.le_of_ble_eq_true rfl) ?_
      refine v_cvV (pc := 47) (A := [.int (nI 0), .int (fe (4 * r + p))]) (rest := []) d_Group_fill_47 lk_Group_48 me_Bag_put im_Bag_put se_Bag_put rfl h1.o rfl rfl (c_Bag_put g h1 (c := 0) (by decide) (fe (4 * r + p))) (Nat.le_of_ble_eq_true rfl) (Nat.le_of_ble_eq_true rfl) (Nat.le_of_ble_eq_true rfl) (Nat.le_of_ble_eq_true rfl) (fun w2 ht2 => ?_)
      obtain ⟨h2, hf2⟩ := ht2
      have k2 := k1.mv (w' := w2) (fun q h1 h2 => hf2 q (by omega))
      have hO2 := (hf2 o ho).trans hO1
      refine v_aload_n (pc := 50) d_Group_fill_50 rfl rfl ?_
      refine v_iconst (pc := 51) (v := nI 1) d_Group_fill_51 rfl ?_
      refine v_aload_n (pc := 52) d_Group_fill_52 rfl rfl ?_
      refine v_aload_n (pc := 53) d_Group_fill_53 rfl rfl ?_
      refine v_iload (pc := 54) d_Group_fill_54 rfl ?_
      refine v_cvR (pc := 56) (A := [.ref e, .int (nI r)]) (rest := [.int (nI 1), .ref h]) (x := .int ((op_rs kd p q (fe (4 * r + p)) (ar_bag fe me we 0 ne)).getD 0)) d_Group_fill_56 lk_Group_52 me_Group_fold im_Group_fold se_Group_fold rfl hO2 rfl rfl (c_Group_fold g k2 hne hwe hO2 hkd hp hq (r := r) (by omega) hfst) (Nat.le_of_ble_eq_true rfl) (Nat.le_of_ble_eq_true rfl) (Nat.le_of_ble_eq_true rfl) (Nat.le_of_ble_eq_true rfl) ?_
      refine v_cvV (pc := 59) (A := [.int (nI 1), .int ((op_rs kd p q (fe (4 * r + p)) (ar_bag fe me we 0 ne)).getD 0)]) (rest := []) d_Group_fill_59 lk_Group_48 me_Bag_put im_Bag_put se_Bag_put rfl h2.o rfl rfl (c_Bag_put g h2 (c := 1) (by decide) ((op_rs kd p q (fe (4 * r + p)) (ar_bag fe me we 0 ne)).getD 0)) (Nat.le_of_ble_eq_true rfl) (Nat.le_of_ble_eq_true rfl) (Nat.le_of_ble_eq_true rfl) (Nat.le_of_ble_eq_true rfl) (fun w3 ht3 => ?_)
      obtain ⟨h3, hf3⟩ := ht3
      refine v_aload_n (pc := 62) d_Group_fill_62 rfl rfl ?_
      refine v_lconst (pc := 63) (v := 1) d_Group_fill_63 rfl ?_
      refine v_cvV (pc := 64) (A := [.long 1]) (rest := []) d_Group_fill_64 lk_Group_56 me_Bag_add im_Bag_add se_Bag_add rfl h3.o rfl rfl (c_Bag_add g h3 hl (by decide) (by rw [hBB]; exact hok.1) 1) (Nat.le_of_ble_eq_true rfl) (Nat.le_of_ble_eq_true rfl) (Nat.le_of_ble_eq_true rfl) (Nat.le_of_ble_eq_true rfl) (fun w4 ht4 => ?_)
      have hnext : bg_st w h 2 (ma_foldC [] (op_gr kd p q (ar_bag fe me we 0 ne) (r + 1))) w4 := by
        have e8 : ar_row (upd (upd pd1 0 (fe (4 * r + p))) 1 ((op_rs kd p q (fe (4 * r + p)) (ar_bag fe me we 0 ne)).getD 0)) 2 0 = [(fe (4 * r + p)), ((op_rs kd p q (fe (4 * r + p)) (ar_bag fe me we 0 ne)).getD 0)] := by
          rw [ar_row_cons, ar_row_cons, ar_row_0, Nat.zero_add, pk_us, pk_un (by decide), pk_us]
        rw [hBB, e8] at ht4
        rw [op_gr, ar_bag_get (by omega), ar_bag_take (by omega)]
        dsimp only
        rw [op_ky_row hp, Nat.zero_add, if_pos hfst, ma_foldC_snoc]
        exact bg_ad.st ((hfr.tr hf2).tr hf3) ht4
      refine v_iinc (pc := 67) (L' := [(4, .int (nI (r + 1))), (3, .ref e), (0, .ref o), (1, .ref bq), (2, .ref h)]) d_Group_fill_67 rfl (ix_inc _) (by decide) rfl ?_
      refine v_goto (pc := 70) (tgt := 16) d_Group_fill_70 rfl ?_
      refine v_sub (L' := [(4, .int (nI (r + 1))), (3, .ref e), (0, .ref o), (1, .ref bq), (2, .ref h)]) (by simp) ?_
      exact ih (ne - (r + 1)) (by omega) (r + 1) _ rfl (by omega) hnext
set_option maxRecDepth 100000 in
set_option maxHeartbeats 4000000 in
theorem c_Group_fill (g : Gl) {w : Wd} {kd p q : Nat} {o bq h sz wd0 n0 : Nat} {f0 : Nat → Int32} {m0 : Nat → Int64} {pd0 : Nat → Int32} (hB : BGo w h wd0 n0 f0 m0 pd0) (ho : o < h ∨ h + 4 ≤ o) {e we ne : Nat} {fe : Nat → Int32} {me : Nat → Int64} {pe : Nat → Int32} (hE : BGo w e we ne fe me pe) (hd : e + 4 ≤ h ∨ h + 4 ≤ e) (hne : ne ≤ 32) (hwe : we ≤ 4) {v : Nat} {q1 q2 q3 : Value} (hV : w v = some (cO 1 [q1, .ref e, q2, q3])) (hO : w o = some (cO 9 [.ref v, .int (nI kd), .int (nI p), .int (nI q)])) (hkd : kd ≤ 2) (hp : p < we) (hq : q < we) : CT g 4 0 0 mi_Group_fill [.ref o, .ref bq, .ref h] w sz (wrE none sz (bg_st w h 2 (ma_foldC [] (op_gr kd p q (ar_bag fe me we 0 ne) ne)) )) := by
  refine CT.of (by decide) (Nat.le_of_ble_eq_true rfl) ?_
  refine v_aload_n (pc := 0) d_Group_fill_0 rfl rfl ?_
  refine v_get (pc := 1) d_Group_fill_1 fl_Group_9 hO rfl ?_
  refine v_get (pc := 4) d_Group_fill_4 fl_Group_25 hV rfl ?_
  refine v_astore_n (pc := 7) (L' := [(3, .ref e), (0, .ref o), (1, .ref bq), (2, .ref h)]) d_Group_fill_7 rfl (by decide) rfl ?_
  refine v_aload_n (pc := 8) d_Group_fill_8 rfl rfl ?_
  refine v_iconst (pc := 9) (v := nI 2) d_Group_fill_9 rfl ?_
  refine v_cvV (pc := 10) (A := [.int (nI 2)]) (rest := []) d_Group_fill_10 lk_Group_31 me_Bag_clear im_Bag_clear se_Bag_clear rfl hB.o rfl rfl (c_Bag_clear g hB 2) (Nat.le_of_ble_eq_true rfl) (Nat.le_of_ble_eq_true rfl) (Nat.le_of_ble_eq_true rfl) (Nat.le_of_ble_eq_true rfl) (fun w2 ht2 => ?_)
  obtain ⟨h2, hf2⟩ := ht2
  refine v_iconst (pc := 13) (v := nI 0) d_Group_fill_13 rfl ?_
  refine v_istore (pc := 14) (L' := [(4, .int (nI 0)), (3, .ref e), (0, .ref o), (1, .ref bq), (2, .ref h)]) d_Group_fill_14 (by decide) rfl ?_
  refine v_sub (L' := [(4, .int (nI 0)), (3, .ref e), (0, .ref o), (1, .ref bq), (2, .ref h)]) (by simp) ?_
  exact lp_Group_fill g hB ho hE hd hne hwe hO hkd hp hq (fun w' h => ⟨rfl, rfl, h⟩) ne 0 w2 rfl (by omega) (bg_st.clr h2 hf2)
def BTo (w : Wd) (z n : Nat) (a b c d : Nat → Int32) : Prop := w z = some (cO 3 [.ref (z + 1), .ref (z + 2), .ref (z + 3), .ref (z + 4), .int (nI n)]) ∧ w (z + 1) = some (cI 8 a) ∧ w (z + 2) = some (cI 8 b) ∧ w (z + 3) = some (cI 8 c) ∧ w (z + 4) = some (cI 8 d)
theorem BTo.o {w : Wd} {z n : Nat} {a b c d : Nat → Int32} (h9 : BTo w z n a b c d) : w (z) = some (cO 3 [.ref (z + 1), .ref (z + 2), .ref (z + 3), .ref (z + 4), .int (nI n)]) := h9.1
theorem BTo.ta {w : Wd} {z n : Nat} {a b c d : Nat → Int32} (h9 : BTo w z n a b c d) : w (z + 1) = some (cI 8 a) := h9.2.1
theorem BTo.tb {w : Wd} {z n : Nat} {a b c d : Nat → Int32} (h9 : BTo w z n a b c d) : w (z + 2) = some (cI 8 b) := h9.2.2.1
theorem BTo.tc {w : Wd} {z n : Nat} {a b c d : Nat → Int32} (h9 : BTo w z n a b c d) : w (z + 3) = some (cI 8 c) := h9.2.2.2.1
theorem BTo.td {w : Wd} {z n : Nat} {a b c d : Nat → Int32} (h9 : BTo w z n a b c d) : w (z + 4) = some (cI 8 d) := h9.2.2.2.2
theorem BTo.mv {w : Wd} {z n : Nat} {a b c d : Nat → Int32} {w' : Wd} (h9 : BTo w z n a b c d) (hw : ∀ q, z ≤ q → q < z + 5 → w' q = w q) : BTo w' z n a b c d := ⟨(hw _ (by omega) (by omega)).trans h9.o, (hw _ (by omega) (by omega)).trans h9.ta, (hw _ (by omega) (by omega)).trans h9.tb, (hw _ (by omega) (by omega)).trans h9.tc, (hw _ (by omega) (by omega)).trans h9.td⟩
theorem BTo.s0 {w : Wd} {z n : Nat} {a b c d : Nat → Int32} {w' : Wd} {n' : Nat} (h9 : BTo w z n a b c d) (hn : w' (z) = some (cO 3 [.ref (z + 1), .ref (z + 2), .ref (z + 3), .ref (z + 4), .int (nI n')])) (hq : ∀ q, q ≠ z → w' q = w q) : BTo w' z n' a b c d := ⟨hn, (hq _ (by omega)).trans h9.ta, (hq _ (by omega)).trans h9.tb, (hq _ (by omega)).trans h9.tc, (hq _ (by omega)).trans h9.td⟩
theorem BTo.s1 {w : Wd} {z n : Nat} {a b c d : Nat → Int32} {w' : Wd} {f' : Nat → Int32} (h9 : BTo w z n a b c d) (hn : w' (z + 1) = some (cI 8 f')) (hq : ∀ q, q ≠ z + 1 → w' q = w q) : BTo w' z n f' b c d := ⟨(hq _ (by omega)).trans h9.o, hn, (hq _ (by omega)).trans h9.tb, (hq _ (by omega)).trans h9.tc, (hq _ (by omega)).trans h9.td⟩
theorem BTo.s2 {w : Wd} {z n : Nat} {a b c d : Nat → Int32} {w' : Wd} {f' : Nat → Int32} (h9 : BTo w z n a b c d) (hn : w' (z + 2) = some (cI 8 f')) (hq : ∀ q, q ≠ z + 2 → w' q = w q) : BTo w' z n a f' c d := ⟨(hq _ (by omega)).trans h9.o, (hq _ (by omega)).trans h9.ta, hn, (hq _ (by omega)).trans h9.tc, (hq _ (by omega)).trans h9.td⟩
theorem BTo.s3 {w : Wd} {z n : Nat} {a b c d : Nat → Int32} {w' : Wd} {f' : Nat → Int32} (h9 : BTo w z n a b c d) (hn : w' (z + 3) = some (cI 8 f')) (hq : ∀ q, q ≠ z + 3 → w' q = w q) : BTo w' z n a b f' d := ⟨(hq _ (by omega)).trans h9.o, (hq _ (by omega)).trans h9.ta, (hq _ (by omega)).trans h9.tb, hn, (hq _ (by omega)).trans h9.td⟩
theorem BTo.s4 {w : Wd} {z n : Nat} {a b c d : Nat → Int32} {w' : Wd} {f' : Nat → Int32} (h9 : BTo w z n a b c d) (hn : w' (z + 4) = some (cI 8 f')) (hq : ∀ q, q ≠ z + 4 → w' q = w q) : BTo w' z n a b c f' := ⟨(hq _ (by omega)).trans h9.o, (hq _ (by omega)).trans h9.ta, (hq _ (by omega)).trans h9.tb, (hq _ (by omega)).trans h9.tc, hn⟩
def bt_fr (z : Nat) (w w' : Wd) : Prop := ∀ q, q < z ∨ z + 5 ≤ q → w' q = w q
theorem bt_fr.rf {z : Nat} {w : Wd} : bt_fr z w w := fun _ _ => rfl
theorem bt_fr.at {h a : Nat} {w w1 w2 : Wd} (x : bt_fr h w w1) (ha : h ≤ a ∧ a < h + 5) (k : ∀ q, q ≠ a → w2 q = w1 q) : bt_fr h w w2 := fun q hq => (k q (by omega)).trans (x q hq)
set_option maxRecDepth 100000 in
set_option maxHeartbeats 4000000 in
theorem c_Batch_isFull (g : Gl) {w : Wd} {z n sz : Nat} {a b c d : Nat → Int32} (hT : BTo w z n a b c d) (hn : n ≤ 8) : CT g 0 0 0 mi_Batch_isFull [.ref z] w sz (rdE (some (.int (if n = 8 then 1 else 0))) w sz) := by
  refine CT.of (by decide) (Nat.le_of_ble_eq_true rfl) ?_
  refine v_aload_n (pc := 0) d_Batch_isFull_0 rfl rfl ?_
  refine v_get (pc := 1) d_Batch_isFull_1 fl_Batch_24 hT.o rfl ?_
  refine v_bipush (pc := 4) (v := nI 8) d_Batch_isFull_4 rfl ?_
  refine v_icmp_ne (pc := 6) (tgt := 13) d_Batch_isFull_6 rfl (fun hc => ?_) (fun hc => ?_)
  · skip
    rw [nI_eq (by omega) (by omega)] at hc
    refine v_iconst (pc := 13) (v := nI 0) d_Batch_isFull_13 rfl ?_
    exact v_zret (pc := 14) d_Batch_isFull_14 rfl z01 (Nat.le_of_ble_eq_true rfl) (Nat.le_of_ble_eq_true rfl) ⟨zr0 hc, rfl, rfl⟩
  · skip
    rw [nI_eq (by omega) (by omega)] at hc
    refine v_iconst (pc := 9) (v := nI 1) d_Batch_isFull_9 rfl ?_
    refine v_goto (pc := 10) (tgt := 14) d_Batch_isFull_10 rfl ?_
    exact v_zret (pc := 14) d_Batch_isFull_14 rfl z11 (Nat.le_of_ble_eq_true rfl) (Nat.le_of_ble_eq_true rfl) ⟨zr1 hc, rfl, rfl⟩
set_option maxRecDepth 100000 in
set_option maxHeartbeats 4000000 in
theorem c_Batch_empty (g : Gl) {w : Wd} {z n sz : Nat} {a b c d : Nat → Int32} (hT : BTo w z n a b c d) : CT g 0 0 0 mi_Batch_empty [.ref z] w sz (wrE (some (.int (nI n))) sz (fun w' => BTo w' z 0 a b c d ∧ bt_fr z w w')) := by
  refine CT.of (by decide) (Nat.le_of_ble_eq_true rfl) ?_
  refine v_aload_n (pc := 0) d_Batch_empty_0 rfl rfl ?_
  refine v_get (pc := 1) d_Batch_empty_1 fl_Batch_24 hT.o rfl ?_
  refine v_istore_n (pc := 4) (L' := [(1, .int (nI n)), (0, .ref z)]) d_Batch_empty_4 rfl (by decide) rfl ?_
  refine v_aload_n (pc := 5) d_Batch_empty_5 rfl rfl ?_
  refine v_iconst (pc := 6) (v := nI 0) d_Batch_empty_6 rfl ?_
  refine v_putW (pc := 7) (fs' := [.ref (z + 1), .ref (z + 2), .ref (z + 3), .ref (z + 4), .int (nI 0)]) d_Batch_empty_7 fl_Batch_24 (fi_Batch_24 _) (ok_Batch_4 _) hT.o (Nat.le_of_ble_eq_true rfl) rfl (fun w1 hn1 hq1 => ?_)
  have h1 := hT.s0 hn1 hq1
  refine v_iload_n (pc := 10) d_Batch_empty_10 rfl rfl ?_
  exact v_iret (pc := 11) d_Batch_empty_11 rfl (Nat.le_of_ble_eq_true rfl) (Nat.le_of_ble_eq_true rfl) ⟨rfl, rfl, h1, bt_fr.rf.at ⟨by omega, by omega⟩ hq1⟩
set_option maxRecDepth 100000 in
set_option maxHeartbeats 4000000 in
theorem c_Batch_append (g : Gl) {w : Wd} {z n sz : Nat} {a b c d : Nat → Int32} (hT : BTo w z n a b c d) (hn : n < 8) (t x y u : Int32) : CT g 0 0 0 mi_Batch_append [.ref z, .int t, .int x, .int y, .int u] w sz (wrE (some (.int (nI (n + 1)))) sz (fun w' => BTo w' z (n + 1) (upd a n t) (upd b n x) (upd c n y) (upd d n u) ∧ bt_fr z w w')) := by
  refine CT.of (by decide) (Nat.le_of_ble_eq_true rfl) ?_
  refine v_aload_n (pc := 0) d_Batch_append_0 rfl rfl ?_
  refine v_get (pc := 1) d_Batch_append_1 fl_Batch_9 hT.o rfl ?_
  refine v_aload_n (pc := 4) d_Batch_append_4 rfl rfl ?_
  refine v_get (pc := 5) d_Batch_append_5 fl_Batch_24 hT.o rfl ?_
  refine v_iload_n (pc := 8) d_Batch_append_8 rfl rfl ?_
  refine v_iastW (pc := 9) (k := n) (f := a) d_Batch_append_9 hT.ta rfl (by omega) (by decide) (fun w1 hn1 hq1 => ?_)
  have h1 := hT.s1 hn1 hq1
  refine v_aload_n (pc := 10) d_Batch_append_10 rfl rfl ?_
  refine v_get (pc := 11) d_Batch_append_11 fl_Batch_15 h1.o rfl ?_
  refine v_aload_n (pc := 14) d_Batch_append_14 rfl rfl ?_
  refine v_get (pc := 15) d_Batch_append_15 fl_Batch_24 h1.o rfl ?_
  refine v_iload_n (pc := 18) d_Batch_append_18 rfl rfl ?_
  refine v_iastW (pc := 19) (k := n) (f := b) d_Batch_append_19 h1.tb rfl (by omega) (by decide) (fun w2 hn2 hq2 => ?_)
  have h2 := h1.s2 hn2 hq2
  refine v_aload_n (pc := 20) d_Batch_append_20 rfl rfl ?_
  refine v_get (pc := 21) d_Batch_append_21 fl_Batch_18 h2.o rfl ?_
  refine v_aload_n (pc := 24) d_Batch_append_24 rfl rfl ?_
  refine v_get (pc := 25) d_Batch_append_25 fl_Batch_24 h2.o rfl ?_
  refine v_iload_n (pc := 28) d_Batch_append_28 rfl rfl ?_
  refine v_iastW (pc := 29) (k := n) (f := c) d_Batch_append_29 h2.tc rfl (by omega) (by decide) (fun w3 hn3 hq3 => ?_)
  have h3 := h2.s3 hn3 hq3
  refine v_aload_n (pc := 30) d_Batch_append_30 rfl rfl ?_
  refine v_get (pc := 31) d_Batch_append_31 fl_Batch_21 h3.o rfl ?_
  refine v_aload_n (pc := 34) d_Batch_append_34 rfl rfl ?_
  refine v_get (pc := 35) d_Batch_append_35 fl_Batch_24 h3.o rfl ?_
  refine v_iload (pc := 38) d_Batch_append_38 rfl ?_
  refine v_iastW (pc := 40) (k := n) (f := d) d_Batch_append_40 h3.td rfl (by omega) (by decide) (fun w4 hn4 hq4 => ?_)
  have h4 := h3.s4 hn4 hq4
  refine v_aload_n (pc := 41) d_Batch_append_41 rfl rfl ?_
  refine v_dup (pc := 42) d_Batch_append_42 rfl ?_
  refine v_get (pc := 43) d_Batch_append_43 fl_Batch_24 h4.o rfl ?_
  refine v_iconst (pc := 46) (v := nI 1) d_Batch_append_46 rfl ?_
  refine v_iadd (pc := 47) d_Batch_append_47 ?_
  refine v_re (nI_add n 1) ?_
  refine v_putW (pc := 48) (fs' := [.ref (z + 1), .ref (z + 2), .ref (z + 3), .ref (z + 4), .int (nI (n + 1))]) d_Batch_append_48 fl_Batch_24 (fi_Batch_24 _) (ok_Batch_4 _) h4.o (Nat.le_of_ble_eq_true rfl) rfl (fun w5 hn5 hq5 => ?_)
  have h5 := h4.s0 hn5 hq5
  refine v_aload_n (pc := 51) d_Batch_append_51 rfl rfl ?_
  refine v_get (pc := 52) d_Batch_append_52 fl_Batch_24 h5.o rfl ?_
  exact v_iret (pc := 55) d_Batch_append_55 rfl (Nat.le_of_ble_eq_true rfl) (Nat.le_of_ble_eq_true rfl) ⟨rfl, rfl, h5, ((((bt_fr.rf.at ⟨by omega, by omega⟩ hq1).at ⟨by omega, by omega⟩ hq2).at ⟨by omega, by omega⟩ hq3).at ⟨by omega, by omega⟩ hq4).at ⟨by omega, by omega⟩ hq5⟩
set_option maxRecDepth 100000 in
set_option maxHeartbeats 4000000 in
theorem lp_Batch_addTo (g : Gl) {w : Wd} {h z n sz v : Nat} {a b c d : Nat → Int32} {B0 : MaB} (hT : BTo w z n a b c d) (hd : z + 5 ≤ h ∨ h + 4 ≤ z) (hn : n ≤ 8) (hok0 : ma_ok 2 B0) (hl0 : B0.length ≤ 32) {E : Rs → Wd → Nat → Prop} (hE' : ∀ w', bg_st w h 2 (ma_foldC B0 (bt_adds v (bt_of a b c d n))) w' → E (.inl none) w' sz) : ∀ (zz : Nat) (k : Nat) (w1 : Wd), n - k = zz → k ≤ n → bg_st w h 2 (ma_foldC B0 (bt_adds v (bt_of a b c d k))) w1 → VV g 4 0 0 mi_Batch_addTo w sz E 2 [(3, .int (nI k)), (0, .ref z), (1, .int (nI v)), (2, .ref h)] [] w1 sz 0 0 := by
  intro zz
  induction zz using Nat.strongRecOn with | _ zz ih => _
  intro k w1 hnn hkn hst
  obtain ⟨f1, m1, pd1, h1, hfr, hBB⟩ := id hst
  have k1 := hT.mv (w' := w1) (fun q h1 h2 => hfr q (by omega))
  obtain ⟨hok, hl⟩ := ma_foldC_ok hok0 hl0 (A := bt_adds v (bt_of a b c d k)) (bt_adds_row _ _)
  refine v_iload_n (pc := 2) d_Batch_addTo_2 rfl rfl ?_
  refine v_aload_n (pc := 3) d_Batch_addTo_3 rfl rfl ?_
  refine v_get (pc := 4) d_Batch_addTo_4 fl_Batch_24 k1.o rfl ?_
  refine v_icmp_ge (pc := 7) (tgt := 59) d_Batch_addTo_7 rfl (fun hc => ?_) (fun hc => ?_)
  · skip
    rw [nI_leI (by omega) (by omega)] at hc
    obtain rfl : k = n := by omega
    exact v_vret (pc := 59) d_Batch_addTo_59 rfl (Nat.le_of_ble_eq_true rfl) (Nat.le_of_ble_eq_true rfl) (hE' w1 hst)
  · skip
    rw [nI_leI (by omega) (by omega)] at hc
    refine v_aload_n (pc := 10) d_Batch_addTo_10 rfl rfl ?_
    refine v_get (pc := 11) d_Batch_addTo_11 fl_Batch_9 k1.o rfl ?_
    refine v_iload_n (pc := 14) d_Batch_addTo_14 rfl rfl ?_
    refine v_ialdN (pc := 15) (k := k) (f := a) d_Batch_addTo_15 k1.ta rfl (by omega) (by decide) ?_
    refine v_iload_n (pc := 16) d_Batch_addTo_16 rfl rfl ?_
    refine v_icmp_ne (pc := 17) (tgt := 53) d_Batch_addTo_17 rfl (fun hc => ?_) (fun hc => ?_)
    · skip
      have hnext : bg_st w h 2 (ma_foldC B0 (bt_adds v (bt_of a b c d (k + 1)))) w1 := by
        rw [bt_of_snoc, bt_adds_0 hc]
        exact hst
      refine v_iinc (pc := 53) (L' := [(3, .int (nI (k + 1))), (0, .ref z), (1, .int (nI v)), (2, .ref h)]) d_Batch_addTo_53 rfl (ix_inc _) (by decide) rfl ?_
      refine v_goto (pc := 56) (tgt := 2) d_Batch_addTo_56 rfl ?_
      refine v_sub (L' := [(3, .int (nI (k + 1))), (0, .ref z), (1, .int (nI v)), (2, .ref h)]) (by simp) ?_
      exact ih (n - (k + 1)) (by omega) (k + 1) _ rfl (by omega) hnext
    · skip
      refine v_aload_n (pc := 20) d_Batch_addTo_20 rfl rfl ?_
      refine v_iconst (pc := 21) (v := nI 0) d_Batch_addTo_21 rfl ?_
      refine v_aload_n (pc := 22) d_Batch_addTo_22 rfl rfl ?_
      refine v_get (pc := 23) d_Batch_addTo_23 fl_Batch_15 k1.o rfl ?_
      refine v_iload_n (pc := 26) d_Batch_addTo_26 rfl rfl ?_
      refine v_ialdN (pc := 27) (k := k) (f := b) d_Batch_addTo_27 k1.tb rfl (by omega) (by decide) ?_
      refine v_cvV (pc := 28) (A := [.int (nI 0), .int (b k)]) (rest := []) d_Batch_addTo_28 lk_Batch_28 me_Bag_put im_Bag_put se_Bag_put rfl h1.o rfl rfl (c_Bag_put g h1 (c := 0) (by decide) (b k)) (Nat.le_of_ble_eq_true rfl) (Nat.le_of_ble_eq_true rfl) (Nat.le_of_ble_eq_true rfl) (Nat.le_of_ble_eq_true rfl) (fun w2 ht2 => ?_)
      obtain ⟨h2, hf2⟩ := ht2
      have k2 := k1.mv (w' := w2) (fun q h1 h2 => hf2 q (by omega))
      refine v_aload_n (pc := 31) d_Batch_addTo_31 rfl rfl ?_
      refine v_iconst (pc := 32) (v := nI 1) d_Batch_addTo_32 rfl ?_
      refine v_aload_n (pc := 33) d_Batch_addTo_33 rfl rfl ?_
      refine v_get (pc := 34) d_Batch_addTo_34 fl_Batch_18 k2.o rfl ?_
      refine v_iload_n (pc := 37) d_Batch_addTo_37 rfl rfl ?_
      refine v_ialdN (pc := 38) (k := k) (f := c) d_Batch_addTo_38 k2.tc rfl (by omega) (by decide) ?_
      refine v_cvV (pc := 39) (A := [.int (nI 1), .int (c k)]) (rest := []) d_Batch_addTo_39 lk_Batch_28 me_Bag_put im_Bag_put se_Bag_put rfl h2.o rfl rfl (c_Bag_put g h2 (c := 1) (by decide) (c k)) (Nat.le_of_ble_eq_true rfl) (Nat.le_of_ble_eq_true rfl) (Nat.le_of_ble_eq_true rfl) (Nat.le_of_ble_eq_true rfl) (fun w3 ht3 => ?_)
      obtain ⟨h3, hf3⟩ := ht3
      have k3 := k2.mv (w' := w3) (fun q h1 h2 => hf3 q (by omega))
      refine v_aload_n (pc := 42) d_Batch_addTo_42 rfl rfl ?_
      refine v_aload_n (pc := 43) d_Batch_addTo_43 rfl rfl ?_
      refine v_get (pc := 44) d_Batch_addTo_44 fl_Batch_21 k3.o rfl ?_
      refine v_iload_n (pc := 47) d_Batch_addTo_47 rfl rfl ?_
      refine v_ialdN (pc := 48) (k := k) (f := d) d_Batch_addTo_48 k3.td rfl (by omega) (by decide) ?_
      refine v_i2l (pc := 49) d_Batch_addTo_49 ?_
      refine v_cvV (pc := 50) (A := [.long ((d k).toInt64)]) (rest := []) d_Batch_addTo_50 lk_Batch_34 me_Bag_add im_Bag_add se_Bag_add rfl h3.o rfl rfl (c_Bag_add g h3 hl (by decide) (by rw [hBB]; exact hok.1) (d k).toInt64) (Nat.le_of_ble_eq_true rfl) (Nat.le_of_ble_eq_true rfl) (Nat.le_of_ble_eq_true rfl) (Nat.le_of_ble_eq_true rfl) (fun w4 ht4 => ?_)
      have hnext : bg_st w h 2 (ma_foldC B0 (bt_adds v (bt_of a b c d (k + 1)))) w4 := by
        have e8 : ar_row (upd (upd pd1 0 (b k)) 1 (c k)) 2 0 = [b k, c k] := by
          rw [ar_row_cons, ar_row_cons, ar_row_0, Nat.zero_add, pk_us, pk_un (by decide), pk_us]
        rw [hBB, e8] at ht4
        rw [bt_of_snoc, bt_adds_1 hc, ma_foldC_snoc]
        exact bg_ad.st ((hfr.tr hf2).tr hf3) ht4
      refine v_iinc (pc := 53) (L' := [(3, .int (nI (k + 1))), (0, .ref z), (1, .int (nI v)), (2, .ref h)]) d_Batch_addTo_53 rfl (ix_inc _) (by decide) rfl ?_
      refine v_goto (pc := 56) (tgt := 2) d_Batch_addTo_56 rfl ?_
      refine v_sub (L' := [(3, .int (nI (k + 1))), (0, .ref z), (1, .int (nI v)), (2, .ref h)]) (by simp) ?_
      exact ih (n - (k + 1)) (by omega) (k + 1) _ rfl (by omega) hnext
set_option maxRecDepth 100000 in
set_option maxHeartbeats 4000000 in
theorem c_Batch_addTo (g : Gl) {w : Wd} {h z n sz v : Nat} {a b c d : Nat → Int32} {B0 : MaB} (hT : BTo w z n a b c d) (hd : z + 5 ≤ h ∨ h + 4 ≤ z) (hn : n ≤ 8) (hok0 : ma_ok 2 B0) (hl0 : B0.length ≤ 32) (hst : bg_st w h 2 B0 w) : CT g 4 0 0 mi_Batch_addTo [.ref z, .int (nI v), .ref h] w sz (wrE none sz (bg_st w h 2 (ma_foldC B0 (bt_adds v (bt_of a b c d n))) )) := by
  refine CT.of (by decide) (Nat.le_of_ble_eq_true rfl) ?_
  refine v_iconst (pc := 0) (v := nI 0) d_Batch_addTo_0 rfl ?_
  refine v_istore_n (pc := 1) (L' := [(3, .int (nI 0)), (0, .ref z), (1, .int (nI v)), (2, .ref h)]) d_Batch_addTo_1 rfl (by decide) rfl ?_
  refine v_sub (L' := [(3, .int (nI 0)), (0, .ref z), (1, .int (nI v)), (2, .ref h)]) (by simp) ?_
  exact lp_Batch_addTo g hT hd hn hok0 hl0 (fun w' h => ⟨rfl, rfl, h⟩) n 0 w rfl (by omega) hst
set_option maxRecDepth 100000 in
set_option maxHeartbeats 4000000 in
theorem lp_Batch_addTo_no (g : Gl) {w : Wd} {h z n sz v : Nat} {a b c d : Nat → Int32} (hT : BTo w z n a b c d) (hn : n ≤ 8) (hno : ∀ k, k < n → ¬ a k = nI v) : ∀ (zz : Nat) (k : Nat), n - k = zz → k ≤ n → VV g 4 0 0 mi_Batch_addTo w sz (rdE none w sz) 2 [(3, .int (nI k)), (0, .ref z), (1, .int (nI v)), (2, .ref h)] [] w sz 0 0 := by
  intro zz
  induction zz using Nat.strongRecOn with | _ zz ih => _
  intro k hnn hkn
  refine v_iload_n (pc := 2) d_Batch_addTo_2 rfl rfl ?_
  refine v_aload_n (pc := 3) d_Batch_addTo_3 rfl rfl ?_
  refine v_get (pc := 4) d_Batch_addTo_4 fl_Batch_24 hT.o rfl ?_
  refine v_icmp_ge (pc := 7) (tgt := 59) d_Batch_addTo_7 rfl (fun hc => ?_) (fun hc => ?_)
  · skip
    rw [nI_leI (by omega) (by omega)] at hc
    exact v_vret (pc := 59) d_Batch_addTo_59 rfl (Nat.le_of_ble_eq_true rfl) (Nat.le_of_ble_eq_true rfl) ⟨rfl, rfl, rfl⟩
  · skip
    rw [nI_leI (by omega) (by omega)] at hc
    refine v_aload_n (pc := 10) d_Batch_addTo_10 rfl rfl ?_
    refine v_get (pc := 11) d_Batch_addTo_11 fl_Batch_9 hT.o rfl ?_
    refine v_iload_n (pc := 14) d_Batch_addTo_14 rfl rfl ?_
    refine v_ialdN (pc := 15) (k := k) (f := a) d_Batch_addTo_15 hT.ta rfl (by omega) (by decide) ?_
    refine v_iload_n (pc := 16) d_Batch_addTo_16 rfl rfl ?_
    refine v_icmp_ne (pc := 17) (tgt := 53) d_Batch_addTo_17 rfl (fun hc => ?_) (fun hc => ?_)
    · skip
      refine v_iinc (pc := 53) (L' := [(3, .int (nI (k + 1))), (0, .ref z), (1, .int (nI v)), (2, .ref h)]) d_Batch_addTo_53 rfl (ix_inc _) (by decide) rfl ?_
      refine v_goto (pc := 56) (tgt := 2) d_Batch_addTo_56 rfl ?_
      refine v_sub (L' := [(3, .int (nI (k + 1))), (0, .ref z), (1, .int (nI v)), (2, .ref h)]) (by simp) ?_
      exact ih (n - (k + 1)) (by omega) (k + 1) rfl (by omega)
    · skip
      exact absurd hc (hno k (by omega))
set_option maxRecDepth 100000 in
set_option maxHeartbeats 4000000 in
theorem c_Batch_addTo_no (g : Gl) {w : Wd} {h z n sz v : Nat} {a b c d : Nat → Int32} (hT : BTo w z n a b c d) (hn : n ≤ 8) (hno : ∀ k, k < n → ¬ a k = nI v) : CT g 4 0 0 mi_Batch_addTo [.ref z, .int (nI v), .ref h] w sz (rdE none w sz) := by
  refine CT.of (by decide) (Nat.le_of_ble_eq_true rfl) ?_
  refine v_iconst (pc := 0) (v := nI 0) d_Batch_addTo_0 rfl ?_
  refine v_istore_n (pc := 1) (L' := [(3, .int (nI 0)), (0, .ref z), (1, .int (nI v)), (2, .ref h)]) d_Batch_addTo_1 rfl (by decide) rfl ?_
  refine v_sub (L' := [(3, .int (nI 0)), (0, .ref z), (1, .int (nI v)), (2, .ref h)]) (by simp) ?_
  exact lp_Batch_addTo_no g hT hn hno n 0 rfl (by omega)
