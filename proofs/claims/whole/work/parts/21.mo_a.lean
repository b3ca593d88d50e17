set_option maxRecDepth 100000 in
set_option maxHeartbeats 4000000 in
theorem c_Mo_thrown (g : Gl) {w : Wd} {b sz : Nat} {sc : Nat → Int32} {ia : Nat → Nat → Int32} {la : Nat → Nat → Int64} (hM : MAt w b sc ia la) : CT g 0 0 0 mi_Mo_thrown [.ref b] w sz (rdE (some (.int (sc 0))) w sz) := by
  refine CT.of (by decide) (Nat.le_of_ble_eq_true rfl) ?_
  refine v_aload_n (pc := 0) d_Mo_thrown_0 rfl rfl ?_
  refine v_get (pc := 1) d_Mo_thrown_1 fl_Mo_69 hM.o rfl ?_
  exact v_iret (pc := 4) d_Mo_thrown_4 rfl (Nat.le_of_ble_eq_true rfl) (Nat.le_of_ble_eq_true rfl) ⟨rfl, rfl, rfl⟩
set_option maxRecDepth 100000 in
set_option maxHeartbeats 4000000 in
theorem c_Mo_isView (g : Gl) {w : Wd} {b sz : Nat} {sc : Nat → Int32} {ia : Nat → Nat → Int32} {la : Nat → Nat → Int64} (hM : MAt w b sc ia la) (e : Int32) : CT g 0 0 0 mi_Mo_isView [.ref b, .int e] w sz (rdE (some (.int (if 0 ≤ e ∧ e < sc 1 then 1 else 0))) w sz) := by
  refine CT.of (by decide) (Nat.le_of_ble_eq_true rfl) ?_
  refine v_iload_n (pc := 0) d_Mo_isView_0 rfl rfl ?_
  refine v_if_lt (pc := 1) (tgt := 16) d_Mo_isView_1 rfl (fun hc => ?_) (fun hc => ?_)
  · skip
    refine v_iconst (pc := 16) (v := nI 0) d_Mo_isView_16 rfl ?_
    exact v_zret (pc := 17) d_Mo_isView_17 rfl z01 (Nat.le_of_ble_eq_true rfl) (Nat.le_of_ble_eq_true rfl) ⟨zr0 (by rintro ⟨h1, h2⟩; simp only [Int32.lt_iff_toInt_lt, Int32.le_iff_toInt_le, Int32.toInt_zero] at *; omega), rfl, rfl⟩
  · skip
    refine v_iload_n (pc := 4) d_Mo_isView_4 rfl rfl ?_
    refine v_aload_n (pc := 5) d_Mo_isView_5 rfl rfl ?_
    refine v_get (pc := 6) d_Mo_isView_6 fl_Mo_7 hM.o rfl ?_
    refine v_icmp_ge (pc := 9) (tgt := 16) d_Mo_isView_9 rfl (fun hc => ?_) (fun hc => ?_)
    · skip
      refine v_iconst (pc := 16) (v := nI 0) d_Mo_isView_16 rfl ?_
      exact v_zret (pc := 17) d_Mo_isView_17 rfl z01 (Nat.le_of_ble_eq_true rfl) (Nat.le_of_ble_eq_true rfl) ⟨zr0 (by rintro ⟨h1, h2⟩; simp only [Int32.lt_iff_toInt_lt, Int32.le_iff_toInt_le, Int32.toInt_zero] at *; omega), rfl, rfl⟩
    · skip
      refine v_iconst (pc := 12) (v := nI 1) d_Mo_isView_12 rfl ?_
      refine v_goto (pc := 13) (tgt := 17) d_Mo_isView_13 rfl ?_
      exact v_zret (pc := 17) d_Mo_isView_17 rfl z11 (Nat.le_of_ble_eq_true rfl) (Nat.le_of_ble_eq_true rfl) ⟨zr1 (by constructor <;> (simp only [Int32.lt_iff_toInt_lt, Int32.le_iff_toInt_le, Int32.toInt_zero] at *; omega)), rfl, rfl⟩
set_option maxRecDepth 100000 in
set_option maxHeartbeats 4000000 in
theorem c_Mo_cellOf (g : Gl) {w : Wd} {b sz : Nat} {sc : Nat → Int32} {ia : Nat → Nat → Int32} {la : Nat → Nat → Int64} (hM : MAt w b sc ia la) {k r c : Nat} (h : 4 * (16 * k + r) + c < 1536) : CT g 0 0 0 mi_Mo_cellOf [.ref b, .int (nI k), .int (nI r), .int (nI c)] w sz (rdE (some (.int (ia 10 (4 * (16 * k + r) + c)))) w sz) := by
  refine CT.of (by decide) (Nat.le_of_ble_eq_true rfl) ?_
  refine v_aload_n (pc := 0) d_Mo_cellOf_0 rfl rfl ?_
  refine v_get (pc := 1) d_Mo_cellOf_1 fl_Mo_45 hM.o rfl ?_
  refine v_iconst (pc := 4) (v := nI 4) d_Mo_cellOf_4 rfl ?_
  refine v_bipush (pc := 5) (v := nI 16) d_Mo_cellOf_5 rfl ?_
  refine v_iload_n (pc := 7) d_Mo_cellOf_7 rfl rfl ?_
  refine v_imul (pc := 8) d_Mo_cellOf_8 ?_
  refine v_re (pk_mul 16 k) ?_
  refine v_iload_n (pc := 9) d_Mo_cellOf_9 rfl rfl ?_
  refine v_iadd (pc := 10) d_Mo_cellOf_10 ?_
  refine v_re (nI_add (16 * k) r) ?_
  refine v_imul (pc := 11) d_Mo_cellOf_11 ?_
  refine v_re (pk_mul 4 ((16 * k) + r)) ?_
  refine v_iload_n (pc := 12) d_Mo_cellOf_12 rfl rfl ?_
  refine v_iadd (pc := 13) d_Mo_cellOf_13 ?_
  refine v_re (nI_add (4 * ((16 * k) + r)) c) ?_
  refine v_ialdN (pc := 14) (k := (4 * ((16 * k) + r)) + c) (f := ia 10) d_Mo_cellOf_14 hM.a10 rfl (by omega) (by decide) ?_
  exact v_iret (pc := 15) d_Mo_cellOf_15 rfl (Nat.le_of_ble_eq_true rfl) (Nat.le_of_ble_eq_true rfl) ⟨rfl, rfl, rfl⟩
set_option maxRecDepth 100000 in
set_option maxHeartbeats 4000000 in
theorem lp_Mo_isRow (g : Gl) {w : Wd} {b sz : Nat} {sc : Nat → Int32} {ia : Nat → Nat → Int32} {la : Nat → Nat → Int64} (hM : MAt w b sc ia la) {r wd : Nat} (hr : r < 256) (hwd : wd ≤ 4) {E : Rs → Wd → Nat → Prop} (hE : E (.inl (some (.int (if ar_row (ia 12) wd (4 * r) = ar_row (ia 13) wd 0 then 1 else 0)))) w sz) : ∀ (zz : Nat) (c : Nat), wd - c = zz → c ≤ wd → VV g 0 0 0 mi_Mo_isRow w sz E 5 [(4, .int (nI c)), (3, .int (if ar_row (ia 12) c (4 * r) = ar_row (ia 13) c 0 then 1 else 0)), (0, .ref b), (1, .int (nI r)), (2, .int (nI wd))] [] w sz 0 0 := by
  intro zz
  induction zz using Nat.strongRecOn with | _ zz ih => _
  intro c hn hcw
  refine v_iload (pc := 5) d_Mo_isRow_5 rfl ?_
  refine v_iload_n (pc := 7) d_Mo_isRow_7 rfl rfl ?_
  refine v_icmp_ge (pc := 8) (tgt := 48) d_Mo_isRow_8 rfl (fun hc => ?_) (fun hc => ?_)
  · skip
    rw [nI_leI (by omega) (by omega)] at hc
    obtain rfl : c = wd := by omega
    refine v_iload_n (pc := 48) d_Mo_isRow_48 rfl rfl ?_
    exact v_zret (pc := 49) d_Mo_isRow_49 rfl zb (Nat.le_of_ble_eq_true rfl) (Nat.le_of_ble_eq_true rfl) hE
  · skip
    rw [nI_leI (by omega) (by omega)] at hc
    refine v_iload_n (pc := 11) d_Mo_isRow_11 rfl rfl ?_
    refine v_if_eq (pc := 12) (tgt := 40) d_Mo_isRow_12 rfl (fun hc => ?_) (fun hc => ?_)
    · skip
      rw [zf] at hc
      have hcc : ¬ ar_row (ia 12) c (4 * r) = ar_row (ia 13) c 0 ∨ ¬ ia 12 (4 * r + c) = ia 13 c := Or.inl hc
      refine v_iconst (pc := 40) (v := nI 0) d_Mo_isRow_40 rfl ?_
      refine v_re (y := (if ar_row (ia 12) (c + 1) (4 * r) = ar_row (ia 13) (c + 1) 0 then 1 else 0)) (zb0 (by intro h9; have h8 := ar_row_inj h9; rcases hcc with hcc | hcc; exact hcc (ar_row_congr (fun j hj => h8 j (by omega))); have h7 := h8 c (by omega); rw [Nat.zero_add] at h7; exact hcc h7)) ?_
      refine v_istore_n (pc := 41) (L' := [(3, .int (if ar_row (ia 12) (c + 1) (4 * r) = ar_row (ia 13) (c + 1) 0 then 1 else 0)), (4, .int (nI c)), (0, .ref b), (1, .int (nI r)), (2, .int (nI wd))]) d_Mo_isRow_41 rfl (by decide) rfl ?_
      refine v_iinc (pc := 42) (L' := [(4, .int (nI (c + 1))), (3, .int (if ar_row (ia 12) (c + 1) (4 * r) = ar_row (ia 13) (c + 1) 0 then 1 else 0)), (0, .ref b), (1, .int (nI r)), (2, .int (nI wd))]) d_Mo_isRow_42 rfl (ix_inc _) (by decide) rfl ?_
      refine v_goto (pc := 45) (tgt := 5) d_Mo_isRow_45 rfl ?_
      refine v_sub (L' := [(4, .int (nI (c + 1))), (3, .int (if ar_row (ia 12) (c + 1) (4 * r) = ar_row (ia 13) (c + 1) 0 then 1 else 0)), (0, .ref b), (1, .int (nI r)), (2, .int (nI wd))]) (by simp) ?_
      exact ih (wd - (c + 1)) (by omega) (c + 1) rfl (by omega)
    · skip
      rw [zt] at hc
      have h1 := hc
      refine v_aload_n (pc := 15) d_Mo_isRow_15 rfl rfl ?_
      refine v_get (pc := 16) d_Mo_isRow_16 fl_Mo_51 hM.o rfl ?_
      refine v_iconst (pc := 19) (v := nI 4) d_Mo_isRow_19 rfl ?_
      refine v_iload_n (pc := 20) d_Mo_isRow_20 rfl rfl ?_
      refine v_imul (pc := 21) d_Mo_isRow_21 ?_
      refine v_re (pk_mul 4 r) ?_
      refine v_iload (pc := 22) d_Mo_isRow_22 rfl ?_
      refine v_iadd (pc := 24) d_Mo_isRow_24 ?_
      refine v_re (nI_add (4 * r) c) ?_
      refine v_ialdN (pc := 25) (k := (4 * r) + c) (f := ia 12) d_Mo_isRow_25 hM.a12 rfl (by omega) (by decide) ?_
      refine v_aload_n (pc := 26) d_Mo_isRow_26 rfl rfl ?_
      refine v_get (pc := 27) d_Mo_isRow_27 fl_Mo_54 hM.o rfl ?_
      refine v_iload (pc := 30) d_Mo_isRow_30 rfl ?_
      refine v_ialdN (pc := 32) (k := c) (f := ia 13) d_Mo_isRow_32 hM.a13 rfl (by omega) (by decide) ?_
      refine v_icmp_ne (pc := 33) (tgt := 40) d_Mo_isRow_33 rfl (fun hc => ?_) (fun hc => ?_)
      · skip
        have hcc : ¬ ar_row (ia 12) c (4 * r) = ar_row (ia 13) c 0 ∨ ¬ ia 12 (4 * r + c) = ia 13 c := Or.inr hc
        refine v_iconst (pc := 40) (v := nI 0) d_Mo_isRow_40 rfl ?_
        refine v_re (y := (if ar_row (ia 12) (c + 1) (4 * r) = ar_row (ia 13) (c + 1) 0 then 1 else 0)) (zb0 (by intro h9; have h8 := ar_row_inj h9; rcases hcc with hcc | hcc; exact hcc (ar_row_congr (fun j hj => h8 j (by omega))); have h7 := h8 c (by omega); rw [Nat.zero_add] at h7; exact hcc h7)) ?_
        refine v_istore_n (pc := 41) (L' := [(3, .int (if ar_row (ia 12) (c + 1) (4 * r) = ar_row (ia 13) (c + 1) 0 then 1 else 0)), (4, .int (nI c)), (0, .ref b), (1, .int (nI r)), (2, .int (nI wd))]) d_Mo_isRow_41 rfl (by decide) rfl ?_
        refine v_iinc (pc := 42) (L' := [(4, .int (nI (c + 1))), (3, .int (if ar_row (ia 12) (c + 1) (4 * r) = ar_row (ia 13) (c + 1) 0 then 1 else 0)), (0, .ref b), (1, .int (nI r)), (2, .int (nI wd))]) d_Mo_isRow_42 rfl (ix_inc _) (by decide) rfl ?_
        refine v_goto (pc := 45) (tgt := 5) d_Mo_isRow_45 rfl ?_
        refine v_sub (L' := [(4, .int (nI (c + 1))), (3, .int (if ar_row (ia 12) (c + 1) (4 * r) = ar_row (ia 13) (c + 1) 0 then 1 else 0)), (0, .ref b), (1, .int (nI r)), (2, .int (nI wd))]) (by simp) ?_
        exact ih (wd - (c + 1)) (by omega) (c + 1) rfl (by omega)
      · skip
        have hc : ia 12 (4 * r + c) = ia 13 c := by simpa using hc
        refine v_iconst (pc := 36) (v := nI 1) d_Mo_isRow_36 rfl ?_
        refine v_goto (pc := 37) (tgt := 41) d_Mo_isRow_37 rfl ?_
        refine v_re (y := (if ar_row (ia 12) (c + 1) (4 * r) = ar_row (ia 13) (c + 1) 0 then 1 else 0)) (zb1 (by rw [ar_row_snoc, ar_row_snoc, h1]; congr 2; rw [Nat.zero_add]; exact hc)) ?_
        refine v_istore_n (pc := 41) (L' := [(3, .int (if ar_row (ia 12) (c + 1) (4 * r) = ar_row (ia 13) (c + 1) 0 then 1 else 0)), (4, .int (nI c)), (0, .ref b), (1, .int (nI r)), (2, .int (nI wd))]) d_Mo_isRow_41 rfl (by decide) rfl ?_
        refine v_iinc (pc := 42) (L' := [(4, .int (nI (c + 1))), (3, .int (if ar_row (ia 12) (c + 1) (4 * r) = ar_row (ia 13) (c + 1) 0 then 1 else 0)), (0, .ref b), (1, .int (nI r)), (2, .int (nI wd))]) d_Mo_isRow_42 rfl (ix_inc _) (by decide) rfl ?_
        refine v_goto (pc := 45) (tgt := 5) d_Mo_isRow_45 rfl ?_
        refine v_sub (L' := [(4, .int (nI (c + 1))), (3, .int (if ar_row (ia 12) (c + 1) (4 * r) = ar_row (ia 13) (c + 1) 0 then 1 else 0)), (0, .ref b), (1, .int (nI r)), (2, .int (nI wd))]) (by simp) ?_
        exact ih (wd - (c + 1)) (by omega) (c + 1) rfl (by omega)
set_option maxRecDepth 100000 in
set_option maxHeartbeats 4000000 in
theorem c_Mo_isRow (g : Gl) {w : Wd} {b sz : Nat} {sc : Nat → Int32} {ia : Nat → Nat → Int32} {la : Nat → Nat → Int64} (hM : MAt w b sc ia la) {r wd : Nat} (hr : r < 256) (hwd : wd ≤ 4) : CT g 0 0 0 mi_Mo_isRow [.ref b, .int (nI r), .int (nI wd)] w sz (rdE (some (.int (if ar_row (ia 12) wd (4 * r) = ar_row (ia 13) wd 0 then 1 else 0))) w sz) := by
  refine CT.of (by decide) (Nat.le_of_ble_eq_true rfl) ?_
  refine v_iconst (pc := 0) (v := nI 1) d_Mo_isRow_0 rfl ?_
  refine v_re (y := (if ar_row (ia 12) 0 (4 * r) = ar_row (ia 13) 0 0 then 1 else 0)) (zb1 rfl) ?_
  refine v_istore_n (pc := 1) (L' := [(3, .int (if ar_row (ia 12) 0 (4 * r) = ar_row (ia 13) 0 0 then 1 else 0)), (0, .ref b), (1, .int (nI r)), (2, .int (nI wd))]) d_Mo_isRow_1 rfl (by decide) rfl ?_
  refine v_iconst (pc := 2) (v := nI 0) d_Mo_isRow_2 rfl ?_
  refine v_istore (pc := 3) (L' := [(4, .int (nI 0)), (3, .int (if ar_row (ia 12) 0 (4 * r) = ar_row (ia 13) 0 0 then 1 else 0)), (0, .ref b), (1, .int (nI r)), (2, .int (nI wd))]) d_Mo_isRow_3 (by decide) rfl ?_
  refine v_sub (L' := [(4, .int (nI 0)), (3, .int (if ar_row (ia 12) 0 (4 * r) = ar_row (ia 13) 0 0 then 1 else 0)), (0, .ref b), (1, .int (nI r)), (2, .int (nI wd))]) (by simp) ?_
  exact lp_Mo_isRow g hM hr hwd ⟨rfl, rfl, rfl⟩ wd 0 rfl (by omega)
