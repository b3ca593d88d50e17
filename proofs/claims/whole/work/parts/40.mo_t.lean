/-! what is read -/
theorem BK.cell {ia : Nat → Nat → Int32} {la : Nat → Nat → Int64} {k wd r c : Nat} {B : MaB} (h : BK ia la k wd B) (hr : r < B.length) (hc : c < wd) : ia 10 (4 * (16 * k + r) + c) = (B.getD r ([], 0)).1.getD c 0 := by
  have h1 : B[r]? = some (ar_row (ia 10) wd (4 * (16 * k + r)), la 9 (16 * k + r)) := by
    have h2 := ar_bag_get (f := ia 10) (m := la 9) (w := wd) (o := 16 * k) hr
    rw [h.2.2] at h2
    exact h2
  have h3 : B.getD r ([], 0) = (ar_row (ia 10) wd (4 * (16 * k + r)), la 9 (16 * k + r)) := by rw [List.getD_eq_getElem?_getD, h1]; rfl
  rw [h3]
  exact (ar_row_getD hc).symm
theorem BK.time {ia : Nat → Nat → Int32} {la : Nat → Nat → Int64} {k wd r : Nat} {B : MaB} (h : BK ia la k wd B) (hr : r < B.length) : la 9 (16 * k + r) = (B.getD r ([], 0)).2 := by
  have h1 : B[r]? = some (ar_row (ia 10) wd (4 * (16 * k + r)), la 9 (16 * k + r)) := by
    have h2 := ar_bag_get (f := ia 10) (m := la 9) (w := wd) (o := 16 * k) hr
    rw [h.2.2] at h2
    exact h2
  rw [List.getD_eq_getElem?_getD, h1]
  rfl
def cellA (a : As) (e i c : Int32) : Int32 := ((a.2.2.2.1 (i2n e)).getD (i2n i) ([], 0)).1.getD (i2n c) 0
def timeA (a : As) (e i : Int32) : Int64 := ((a.2.2.2.1 (i2n e)).getD (i2n i) ([], 0)).2
abbrev isR (a : As) (e i : Int32) : Prop := 0 ≤ i ∧ i < nI (a.2.2.2.1 (i2n e)).length
theorem isR_n {a : As} {e i : Int32} {k : Nat} (h : isR a e i) (hk : i2n e = k) (hl : (a.2.2.2.1 k).length ≤ 16) : ∃ r, i = nI r ∧ r < (a.2.2.2.1 k).length ∧ i2n i = r := by
  obtain ⟨h1, h2⟩ := i2n_of h.1
  have h3 := h.2
  rw [hk, h1, nI_ltI (by omega) (by omega)] at h3
  exact ⟨i2n i, h1, h3, rfl⟩
set_option maxRecDepth 100000 in
set_option maxHeartbeats 4000000 in
theorem c_Mo_width (g : Gl) {w : Wd} {b sz : Nat} {sc : Nat → Int32} {ia : Nat → Nat → Int32} {la : Nat → Nat → Int64} (hM : MAt w b sc ia la) {a : As} (hA : AWa a) (hR : RAa sc ia la a) (e : Int32) : CT g 1 0 0 mi_Mo_width [.ref b, .int e] w sz (RE w b sz (if isV a e then 0 else 1) (.int (if isV a e then nI (a.2.1 (i2n e)) else nI 0)) a) := by
  refine CT.of (by decide) (Nat.le_of_ble_eq_true rfl) ?_
  refine v_aload_n (pc := 0) d_Mo_width_0 rfl rfl ?_
  refine v_aload_n (pc := 1) d_Mo_width_1 rfl rfl ?_
  refine v_iload_n (pc := 2) d_Mo_width_2 rfl rfl ?_
  refine v_cvR (pc := 3) (A := [.int e]) (rest := [.ref b]) (x := .int (if isV a e then 1 else 0)) d_Mo_width_3 lk_Mo_145 me_Mo_isView im_Mo_isView se_Mo_isView rfl hM.o rfl rfl (c_Mo_isViewA g hM hR e) (Nat.le_of_ble_eq_true rfl) (Nat.le_of_ble_eq_true rfl) (Nat.le_of_ble_eq_true rfl) (Nat.le_of_ble_eq_true rfl) ?_
  refine v_if_eq (pc := 6) (tgt := 13) d_Mo_width_6 rfl (fun hc => ?_) (fun hc => ?_)
  · skip
    rw [zf] at hc
    have hv := hc
    refine v_iconst (pc := 13) (v := nI 1) d_Mo_width_13 rfl ?_
    refine v_putW (pc := 14) (fs' := (mo_fs b (va_up sc 0 (nI 1)))) d_Mo_width_14 fl_Mo_69 (fi_Mo_69 _) (ok_Mo_0 _) hM.o (Nat.le_of_ble_eq_true rfl) rfl (fun w1 hn1 hq1 => ?_)
    have h1 := hM.n0 hn1 hq1
    have hfr1 : mo_fr b w w1 := mo_fr.rf.at ⟨by omega, by omega⟩ hq1
    have hth : (va_up sc 0 (nI 1)) 0 = nI 1 := rfl
    refine v_aload_n (pc := 17) d_Mo_width_17 rfl rfl ?_
    refine v_get (pc := 18) d_Mo_width_18 fl_Mo_69 h1.o rfl ?_
    refine v_re hth ?_
    refine v_if_le (pc := 21) (tgt := 28) d_Mo_width_21 rfl (fun hc => ?_) (fun hc => ?_)
    · skip
      exact absurd hc (by decide)
    · skip
      refine v_iconst (pc := 24) (v := nI 0) d_Mo_width_24 rfl ?_
      refine v_goto (pc := 25) (tgt := 34) d_Mo_width_25 rfl ?_
      exact v_iret (pc := 34) d_Mo_width_34 rfl (Nat.le_of_ble_eq_true rfl) (Nat.le_of_ble_eq_true rfl) ⟨by rw [if_neg hv], rfl, hfr1, by rw [if_neg hv]; exact ⟨_, _, _, h1, rfl, hR⟩⟩
  · skip
    rw [zt] at hc
    have hv := hc
    obtain ⟨k, hk1, hk2, hk3⟩ := isV_n hc hA.2.1
    subst hk1
    have hk12 := hA.2.1
    obtain ⟨hr0, hr7, hrB⟩ := hR.2.2.2.1 k hk2
    obtain ⟨hB1, hB2, hB3⟩ := id hrB
    refine v_iconst (pc := 9) (v := nI 0) d_Mo_width_9 rfl ?_
    refine v_goto (pc := 10) (tgt := 14) d_Mo_width_10 rfl ?_
    refine v_putW (pc := 14) (fs' := (mo_fs b (va_up sc 0 (nI 0)))) d_Mo_width_14 fl_Mo_69 (fi_Mo_69 _) (ok_Mo_0 _) hM.o (Nat.le_of_ble_eq_true rfl) rfl (fun w1 hn1 hq1 => ?_)
    have h1 := hM.n0 hn1 hq1
    have hfr1 : mo_fr b w w1 := mo_fr.rf.at ⟨by omega, by omega⟩ hq1
    have hth : (va_up sc 0 (nI 0)) 0 = nI 0 := rfl
    refine v_aload_n (pc := 17) d_Mo_width_17 rfl rfl ?_
    refine v_get (pc := 18) d_Mo_width_18 fl_Mo_69 h1.o rfl ?_
    refine v_re hth ?_
    refine v_if_le (pc := 21) (tgt := 28) d_Mo_width_21 rfl (fun hc => ?_) (fun hc => ?_)
    · skip
      refine v_aload_n (pc := 28) d_Mo_width_28 rfl rfl ?_
      refine v_get (pc := 29) d_Mo_width_29 fl_Mo_13 h1.o rfl ?_
      refine v_iload_n (pc := 32) d_Mo_width_32 rfl rfl ?_
      refine v_ialdN (pc := 33) (k := k) (f := ia 0) d_Mo_width_33 h1.a0 rfl (by omega) (by decide) ?_
      exact v_iret (pc := 34) d_Mo_width_34 rfl (Nat.le_of_ble_eq_true rfl) (Nat.le_of_ble_eq_true rfl) ⟨by rw [if_pos hv, hk3, hr0], rfl, hfr1, by rw [if_pos hv]; exact ⟨_, _, _, h1, rfl, hR⟩⟩
    · skip
      exact absurd hc (by decide)
set_option maxRecDepth 100000 in
set_option maxHeartbeats 4000000 in
theorem c_Mo_rows (g : Gl) {w : Wd} {b sz : Nat} {sc : Nat → Int32} {ia : Nat → Nat → Int32} {la : Nat → Nat → Int64} (hM : MAt w b sc ia la) {a : As} (hA : AWa a) (hR : RAa sc ia la a) (e : Int32) : CT g 1 0 0 mi_Mo_rows [.ref b, .int e] w sz (RE w b sz (if isV a e then 0 else 1) (.int (if isV a e then nI (a.2.2.2.1 (i2n e)).length else nI 0)) a) := by
  refine CT.of (by decide) (Nat.le_of_ble_eq_true rfl) ?_
  refine v_aload_n (pc := 0) d_Mo_rows_0 rfl rfl ?_
  refine v_aload_n (pc := 1) d_Mo_rows_1 rfl rfl ?_
  refine v_iload_n (pc := 2) d_Mo_rows_2 rfl rfl ?_
  refine v_cvR (pc := 3) (A := [.int e]) (rest := [.ref b]) (x := .int (if isV a e then 1 else 0)) d_Mo_rows_3 lk_Mo_145 me_Mo_isView im_Mo_isView se_Mo_isView rfl hM.o rfl rfl (c_Mo_isViewA g hM hR e) (Nat.le_of_ble_eq_true rfl) (Nat.le_of_ble_eq_true rfl) (Nat.le_of_ble_eq_true rfl) (Nat.le_of_ble_eq_true rfl) ?_
  refine v_if_eq (pc := 6) (tgt := 13) d_Mo_rows_6 rfl (fun hc => ?_) (fun hc => ?_)
  · skip
    rw [zf] at hc
    have hv := hc
    refine v_iconst (pc := 13) (v := nI 1) d_Mo_rows_13 rfl ?_
    refine v_putW (pc := 14) (fs' := (mo_fs b (va_up sc 0 (nI 1)))) d_Mo_rows_14 fl_Mo_69 (fi_Mo_69 _) (ok_Mo_0 _) hM.o (Nat.le_of_ble_eq_true rfl) rfl (fun w1 hn1 hq1 => ?_)
    have h1 := hM.n0 hn1 hq1
    have hfr1 : mo_fr b w w1 := mo_fr.rf.at ⟨by omega, by omega⟩ hq1
    have hth : (va_up sc 0 (nI 1)) 0 = nI 1 := rfl
    refine v_aload_n (pc := 17) d_Mo_rows_17 rfl rfl ?_
    refine v_get (pc := 18) d_Mo_rows_18 fl_Mo_69 h1.o rfl ?_
    refine v_re hth ?_
    refine v_if_le (pc := 21) (tgt := 28) d_Mo_rows_21 rfl (fun hc => ?_) (fun hc => ?_)
    · skip
      exact absurd hc (by decide)
    · skip
      refine v_iconst (pc := 24) (v := nI 0) d_Mo_rows_24 rfl ?_
      refine v_goto (pc := 25) (tgt := 34) d_Mo_rows_25 rfl ?_
      exact v_iret (pc := 34) d_Mo_rows_34 rfl (Nat.le_of_ble_eq_true rfl) (Nat.le_of_ble_eq_true rfl) ⟨by rw [if_neg hv], rfl, hfr1, by rw [if_neg hv]; exact ⟨_, _, _, h1, rfl, hR⟩⟩
  · skip
    rw [zt] at hc
    have hv := hc
    obtain ⟨k, hk1, hk2, hk3⟩ := isV_n hc hA.2.1
    subst hk1
    have hk12 := hA.2.1
    obtain ⟨hr0, hr7, hrB⟩ := hR.2.2.2.1 k hk2
    obtain ⟨hB1, hB2, hB3⟩ := id hrB
    refine v_iconst (pc := 9) (v := nI 0) d_Mo_rows_9 rfl ?_
    refine v_goto (pc := 10) (tgt := 14) d_Mo_rows_10 rfl ?_
    refine v_putW (pc := 14) (fs' := (mo_fs b (va_up sc 0 (nI 0)))) d_Mo_rows_14 fl_Mo_69 (fi_Mo_69 _) (ok_Mo_0 _) hM.o (Nat.le_of_ble_eq_true rfl) rfl (fun w1 hn1 hq1 => ?_)
    have h1 := hM.n0 hn1 hq1
    have hfr1 : mo_fr b w w1 := mo_fr.rf.at ⟨by omega, by omega⟩ hq1
    have hth : (va_up sc 0 (nI 0)) 0 = nI 0 := rfl
    refine v_aload_n (pc := 17) d_Mo_rows_17 rfl rfl ?_
    refine v_get (pc := 18) d_Mo_rows_18 fl_Mo_69 h1.o rfl ?_
    refine v_re hth ?_
    refine v_if_le (pc := 21) (tgt := 28) d_Mo_rows_21 rfl (fun hc => ?_) (fun hc => ?_)
    · skip
      refine v_aload_n (pc := 28) d_Mo_rows_28 rfl rfl ?_
      refine v_get (pc := 29) d_Mo_rows_29 fl_Mo_38 h1.o rfl ?_
      refine v_iload_n (pc := 32) d_Mo_rows_32 rfl rfl ?_
      refine v_ialdN (pc := 33) (k := k) (f := ia 8) d_Mo_rows_33 h1.a8 rfl (by omega) (by decide) ?_
      refine v_re hB1 ?_
      exact v_iret (pc := 34) d_Mo_rows_34 rfl (Nat.le_of_ble_eq_true rfl) (Nat.le_of_ble_eq_true rfl) ⟨by rw [if_pos hv, hk3], rfl, hfr1, by rw [if_pos hv]; exact ⟨_, _, _, h1, rfl, hR⟩⟩
    · skip
      exact absurd hc (by decide)
set_option maxRecDepth 100000 in
set_option maxHeartbeats 4000000 in
theorem c_Mo_moved (g : Gl) {w : Wd} {b sz : Nat} {sc : Nat → Int32} {ia : Nat → Nat → Int32} {la : Nat → Nat → Int64} (hM : MAt w b sc ia la) {a : As} (hA : AWa a) (hR : RAa sc ia la a) (e : Int32) : CT g 1 0 0 mi_Mo_moved [.ref b, .int e] w sz (RE w b sz (if isV a e then 0 else 1) (.int (if isV a e then nI (a.2.2.2.2.1 (i2n e)) else nI 0)) a) := by
  refine CT.of (by decide) (Nat.le_of_ble_eq_true rfl) ?_
  refine v_aload_n (pc := 0) d_Mo_moved_0 rfl rfl ?_
  refine v_aload_n (pc := 1) d_Mo_moved_1 rfl rfl ?_
  refine v_iload_n (pc := 2) d_Mo_moved_2 rfl rfl ?_
  refine v_cvR (pc := 3) (A := [.int e]) (rest := [.ref b]) (x := .int (if isV a e then 1 else 0)) d_Mo_moved_3 lk_Mo_145 me_Mo_isView im_Mo_isView se_Mo_isView rfl hM.o rfl rfl (c_Mo_isViewA g hM hR e) (Nat.le_of_ble_eq_true rfl) (Nat.le_of_ble_eq_true rfl) (Nat.le_of_ble_eq_true rfl) (Nat.le_of_ble_eq_true rfl) ?_
  refine v_if_eq (pc := 6) (tgt := 13) d_Mo_moved_6 rfl (fun hc => ?_) (fun hc => ?_)
  · skip
    rw [zf] at hc
    have hv := hc
    refine v_iconst (pc := 13) (v := nI 1) d_Mo_moved_13 rfl ?_
    refine v_putW (pc := 14) (fs' := (mo_fs b (va_up sc 0 (nI 1)))) d_Mo_moved_14 fl_Mo_69 (fi_Mo_69 _) (ok_Mo_0 _) hM.o (Nat.le_of_ble_eq_true rfl) rfl (fun w1 hn1 hq1 => ?_)
    have h1 := hM.n0 hn1 hq1
    have hfr1 : mo_fr b w w1 := mo_fr.rf.at ⟨by omega, by omega⟩ hq1
    have hth : (va_up sc 0 (nI 1)) 0 = nI 1 := rfl
    refine v_aload_n (pc := 17) d_Mo_moved_17 rfl rfl ?_
    refine v_get (pc := 18) d_Mo_moved_18 fl_Mo_69 h1.o rfl ?_
    refine v_re hth ?_
    refine v_if_le (pc := 21) (tgt := 28) d_Mo_moved_21 rfl (fun hc => ?_) (fun hc => ?_)
    · skip
      exact absurd hc (by decide)
    · skip
      refine v_iconst (pc := 24) (v := nI 0) d_Mo_moved_24 rfl ?_
      refine v_goto (pc := 25) (tgt := 34) d_Mo_moved_25 rfl ?_
      exact v_iret (pc := 34) d_Mo_moved_34 rfl (Nat.le_of_ble_eq_true rfl) (Nat.le_of_ble_eq_true rfl) ⟨by rw [if_neg hv], rfl, hfr1, by rw [if_neg hv]; exact ⟨_, _, _, h1, rfl, hR⟩⟩
  · skip
    rw [zt] at hc
    have hv := hc
    obtain ⟨k, hk1, hk2, hk3⟩ := isV_n hc hA.2.1
    subst hk1
    have hk12 := hA.2.1
    obtain ⟨hr0, hr7, hrB⟩ := hR.2.2.2.1 k hk2
    obtain ⟨hB1, hB2, hB3⟩ := id hrB
    refine v_iconst (pc := 9) (v := nI 0) d_Mo_moved_9 rfl ?_
    refine v_goto (pc := 10) (tgt := 14) d_Mo_moved_10 rfl ?_
    refine v_putW (pc := 14) (fs' := (mo_fs b (va_up sc 0 (nI 0)))) d_Mo_moved_14 fl_Mo_69 (fi_Mo_69 _) (ok_Mo_0 _) hM.o (Nat.le_of_ble_eq_true rfl) rfl (fun w1 hn1 hq1 => ?_)
    have h1 := hM.n0 hn1 hq1
    have hfr1 : mo_fr b w w1 := mo_fr.rf.at ⟨by omega, by omega⟩ hq1
    have hth : (va_up sc 0 (nI 0)) 0 = nI 0 := rfl
    refine v_aload_n (pc := 17) d_Mo_moved_17 rfl rfl ?_
    refine v_get (pc := 18) d_Mo_moved_18 fl_Mo_69 h1.o rfl ?_
    refine v_re hth ?_
    refine v_if_le (pc := 21) (tgt := 28) d_Mo_moved_21 rfl (fun hc => ?_) (fun hc => ?_)
    · skip
      refine v_aload_n (pc := 28) d_Mo_moved_28 rfl rfl ?_
      refine v_get (pc := 29) d_Mo_moved_29 fl_Mo_35 h1.o rfl ?_
      refine v_iload_n (pc := 32) d_Mo_moved_32 rfl rfl ?_
      refine v_ialdN (pc := 33) (k := k) (f := ia 7) d_Mo_moved_33 h1.a7 rfl (by omega) (by decide) ?_
      exact v_iret (pc := 34) d_Mo_moved_34 rfl (Nat.le_of_ble_eq_true rfl) (Nat.le_of_ble_eq_true rfl) ⟨by rw [if_pos hv, hk3, hr7], rfl, hfr1, by rw [if_pos hv]; exact ⟨_, _, _, h1, rfl, hR⟩⟩
    · skip
      exact absurd hc (by decide)
set_option maxRecDepth 100000 in
set_option maxHeartbeats 4000000 in
theorem c_Mo_drop (g : Gl) {w : Wd} {b sz : Nat} {sc : Nat → Int32} {ia : Nat → Nat → Int32} {la : Nat → Nat → Int64} (hM : MAt w b sc ia la) {a : As} (hA : AWa a) (hR : RAa sc ia la a) : CT g 0 0 0 mi_Mo_drop [.ref b] w sz (RE w b sz (if a.1 = 3 then 1 else 0) (.int (if a.1 = 3 then nI 0 else nI (a.1 - 1))) (if a.1 = 3 then a else (a.1 - 1, a.2))) := by
  refine CT.of (by decide) (Nat.le_of_ble_eq_true rfl) ?_
  have hn3 := hA.1
  have hn12 := hA.2.1
  refine v_aload_n (pc := 0) d_Mo_drop_0 rfl rfl ?_
  refine v_aload_n (pc := 1) d_Mo_drop_1 rfl rfl ?_
  refine v_get (pc := 2) d_Mo_drop_2 fl_Mo_7 hM.o rfl ?_
  refine v_re hR.1 ?_
  refine v_iconst (pc := 5) (v := nI 3) d_Mo_drop_5 rfl ?_
  refine v_icmp_ne (pc := 6) (tgt := 13) d_Mo_drop_6 rfl (fun hc => ?_) (fun hc => ?_)
  · skip
    rw [nI_eq (by omega) (by omega)] at hc
    have hd := hc
    refine v_iconst (pc := 13) (v := nI 0) d_Mo_drop_13 rfl ?_
    refine v_putW (pc := 14) (fs' := (mo_fs b (va_up sc 0 (nI 0)))) d_Mo_drop_14 fl_Mo_69 (fi_Mo_69 _) (ok_Mo_0 _) hM.o (Nat.le_of_ble_eq_true rfl) rfl (fun w1 hn1 hq1 => ?_)
    have h1 := hM.n0 hn1 hq1
    have hfr1 : mo_fr b w w1 := mo_fr.rf.at ⟨by omega, by omega⟩ hq1
    have hth : (va_up sc 0 (nI 0)) 0 = nI 0 := rfl
    refine v_aload_n (pc := 17) d_Mo_drop_17 rfl rfl ?_
    refine v_get (pc := 18) d_Mo_drop_18 fl_Mo_69 h1.o rfl ?_
    refine v_re hth ?_
    refine v_if_le (pc := 21) (tgt := 26) d_Mo_drop_21 rfl (fun hc => ?_) (fun hc => ?_)
    · skip
      have hs1 : (va_up sc 0 (nI 0)) 1 = nI a.1 := hR.1
      refine v_aload_n (pc := 26) d_Mo_drop_26 rfl rfl ?_
      refine v_dup (pc := 27) d_Mo_drop_27 rfl ?_
      refine v_get (pc := 28) d_Mo_drop_28 fl_Mo_7 h1.o rfl ?_
      refine v_re hs1 ?_
      refine v_iconst (pc := 31) (v := nI 1) d_Mo_drop_31 rfl ?_
      refine v_isub (pc := 32) d_Mo_drop_32 ?_
      refine v_re (pk_sub (a := a.1) (b := 1) (by omega)) ?_
      refine v_putW (pc := 33) (fs' := (mo_fs b (va_up (va_up sc 0 (nI 0)) 1 (nI (a.1 - 1))))) d_Mo_drop_33 fl_Mo_7 (fi_Mo_7 _) (ok_Mo_1 _) h1.o (Nat.le_of_ble_eq_true rfl) rfl (fun w2 hn2 hq2 => ?_)
      have h2 := h1.n1 hn2 hq2
      have hs2 : (va_up (va_up sc 0 (nI 0)) 1 (nI (a.1 - 1))) 1 = nI (a.1 - 1) := rfl
      refine v_aload_n (pc := 36) d_Mo_drop_36 rfl rfl ?_
      refine v_get (pc := 37) d_Mo_drop_37 fl_Mo_7 h2.o rfl ?_
      refine v_re hs2 ?_
      exact v_iret (pc := 40) d_Mo_drop_40 rfl (Nat.le_of_ble_eq_true rfl) (Nat.le_of_ble_eq_true rfl) ⟨by rw [if_neg hd], rfl, hfr1.at ⟨by omega, by omega⟩ hq2, by rw [if_neg hd, if_neg hd]; exact ⟨_, _, _, h2, rfl, rfl, hR.2.1, hR.2.2.1, fun v hv => hR.2.2.2.1 v (by have : v < a.1 - 1 := hv; omega), fun v h3 hv => hR.2.2.2.2 v h3 (by have : v < a.1 - 1 := hv; omega)⟩⟩
    · skip
      exact absurd hc (by decide)
  · skip
    rw [nI_eq (by omega) (by omega)] at hc
    have hd := hc
    refine v_iconst (pc := 9) (v := nI 1) d_Mo_drop_9 rfl ?_
    refine v_goto (pc := 10) (tgt := 14) d_Mo_drop_10 rfl ?_
    refine v_putW (pc := 14) (fs' := (mo_fs b (va_up sc 0 (nI 1)))) d_Mo_drop_14 fl_Mo_69 (fi_Mo_69 _) (ok_Mo_0 _) hM.o (Nat.le_of_ble_eq_true rfl) rfl (fun w1 hn1 hq1 => ?_)
    have h1 := hM.n0 hn1 hq1
    have hfr1 : mo_fr b w w1 := mo_fr.rf.at ⟨by omega, by omega⟩ hq1
    have hth : (va_up sc 0 (nI 1)) 0 = nI 1 := rfl
    refine v_aload_n (pc := 17) d_Mo_drop_17 rfl rfl ?_
    refine v_get (pc := 18) d_Mo_drop_18 fl_Mo_69 h1.o rfl ?_
    refine v_re hth ?_
    refine v_if_le (pc := 21) (tgt := 26) d_Mo_drop_21 rfl (fun hc => ?_) (fun hc => ?_)
    · skip
      have hs1 : (va_up sc 0 (nI 0)) 1 = nI a.1 := hR.1
      exact absurd hc (by decide)
    · skip
      refine v_iconst (pc := 24) (v := nI 0) d_Mo_drop_24 rfl ?_
      exact v_iret (pc := 25) d_Mo_drop_25 rfl (Nat.le_of_ble_eq_true rfl) (Nat.le_of_ble_eq_true rfl) ⟨by rw [if_pos hd], rfl, hfr1, by rw [if_pos hd, if_pos hd]; exact ⟨_, _, _, h1, rfl, hR⟩⟩
set_option maxRecDepth 100000 in
set_option maxHeartbeats 4000000 in
theorem c_Mo_cancel (g : Gl) {w : Wd} {b sz : Nat} {sc : Nat → Int32} {ia : Nat → Nat → Int32} {la : Nat → Nat → Int64} (hM : MAt w b sc ia la) {a : As} (hA : AWa a) (hR : RAa sc ia la a) : CT g 0 0 0 mi_Mo_cancel [.ref b] w sz (RE w b sz 0 (.int (nI a.2.2.2.2.2.length)) (a.1, a.2.1, a.2.2.1, a.2.2.2.1, a.2.2.2.2.1, [])) := by
  refine CT.of (by decide) (Nat.le_of_ble_eq_true rfl) ?_
  refine v_aload_n (pc := 0) d_Mo_cancel_0 rfl rfl ?_
  refine v_iconst (pc := 1) (v := nI 0) d_Mo_cancel_1 rfl ?_
  refine v_putW (pc := 2) (fs' := (mo_fs b (va_up sc 0 (nI 0)))) d_Mo_cancel_2 fl_Mo_69 (fi_Mo_69 _) (ok_Mo_0 _) hM.o (Nat.le_of_ble_eq_true rfl) rfl (fun w1 hn1 hq1 => ?_)
  have h1 := hM.n0 hn1 hq1
  have hfr1 : mo_fr b w w1 := mo_fr.rf.at ⟨by omega, by omega⟩ hq1
  have hth : (va_up sc 0 (nI 0)) 0 = nI 0 := rfl
  have hs3 : (va_up sc 0 (nI 0)) 3 = nI a.2.2.2.2.2.length := hR.2.1
  refine v_aload_n (pc := 5) d_Mo_cancel_5 rfl rfl ?_
  refine v_get (pc := 6) d_Mo_cancel_6 fl_Mo_121 h1.o rfl ?_
  refine v_re hs3 ?_
  refine v_istore_n (pc := 9) (L' := [(1, .int (nI (a.2.2.2.2.2.length))), (0, .ref b)]) d_Mo_cancel_9 rfl (by decide) rfl ?_
  refine v_aload_n (pc := 10) d_Mo_cancel_10 rfl rfl ?_
  refine v_iconst (pc := 11) (v := nI 0) d_Mo_cancel_11 rfl ?_
  refine v_putW (pc := 12) (fs' := (mo_fs b (va_up (va_up sc 0 (nI 0)) 3 (nI 0)))) d_Mo_cancel_12 fl_Mo_121 (fi_Mo_121 _) (ok_Mo_17 _) h1.o (Nat.le_of_ble_eq_true rfl) rfl (fun w2 hn2 hq2 => ?_)
  have h2 := h1.n3 hn2 hq2
  refine v_iload_n (pc := 15) d_Mo_cancel_15 rfl rfl ?_
  exact v_iret (pc := 16) d_Mo_cancel_16 rfl (Nat.le_of_ble_eq_true rfl) (Nat.le_of_ble_eq_true rfl) ⟨rfl, rfl, hfr1.at ⟨by omega, by omega⟩ hq2, ⟨_, _, _, h2, rfl, hR.1, rfl, rfl, hR.2.2.2⟩⟩
set_option maxRecDepth 100000 in
set_option maxHeartbeats 4000000 in
theorem c_Mo_cell (g : Gl) {w : Wd} {b sz : Nat} {sc : Nat → Int32} {ia : Nat → Nat → Int32} {la : Nat → Nat → Int64} (hM : MAt w b sc ia la) {a : As} (hA : AWa a) (hR : RAa sc ia la a) (e i c : Int32) : CT g 2 0 0 mi_Mo_cell [.ref b, .int e, .int i, .int c] w sz (RE w b sz (if isC a e c then if isR a e i then 0 else 2 else 1) (.int (if isC a e c then if isR a e i then cellA a e i c else nI 0 else nI 0)) a) := by
  refine CT.of (by decide) (Nat.le_of_ble_eq_true rfl) ?_
  refine v_aload_n (pc := 0) d_Mo_cell_0 rfl rfl ?_
  refine v_aload_n (pc := 1) d_Mo_cell_1 rfl rfl ?_
  refine v_iload_n (pc := 2) d_Mo_cell_2 rfl rfl ?_
  refine v_iload_n (pc := 3) d_Mo_cell_3 rfl rfl ?_
  refine v_cvR (pc := 4) (A := [.int e, .int c]) (rest := [.ref b]) (x := .int (if isC a e c then 1 else 0)) d_Mo_cell_4 lk_Mo_148 me_Mo_isColumn im_Mo_isColumn se_Mo_isColumn rfl hM.o rfl rfl (c_Mo_isColumn g hM hA hR e c) (Nat.le_of_ble_eq_true rfl) (Nat.le_of_ble_eq_true rfl) (Nat.le_of_ble_eq_true rfl) (Nat.le_of_ble_eq_true rfl) ?_
  refine v_if_ne (pc := 7) (tgt := 14) d_Mo_cell_7 rfl (fun hc => ?_) (fun hc => ?_)
  · skip
    rw [zt] at hc
    have hv := hc
    obtain ⟨k, j, hk1, hk2, hk3, hj1, hj2, hj3⟩ := isC_n hc hA
    have hk12 := hA.2.1
    subst hk1
    subst hj1
    obtain ⟨hr0, hr7, hrB⟩ := hR.2.2.2.1 k hk2
    obtain ⟨hB1, hB2, hB3⟩ := id hrB
    refine v_iload_n (pc := 14) d_Mo_cell_14 rfl rfl ?_
    refine v_if_lt (pc := 15) (tgt := 28) d_Mo_cell_15 rfl (fun hc => ?_) (fun hc => ?_)
    · skip
      have hi : ¬ isR a (nI k) i := fun h => absurd hc (Int32.not_lt.mpr h.1)
      refine v_iconst (pc := 28) (v := nI 2) d_Mo_cell_28 rfl ?_
      refine v_goto (pc := 29) (tgt := 33) d_Mo_cell_29 rfl ?_
      refine v_putW (pc := 33) (fs' := (mo_fs b (va_up sc 0 (nI 2)))) d_Mo_cell_33 fl_Mo_69 (fi_Mo_69 _) (ok_Mo_0 _) hM.o (Nat.le_of_ble_eq_true rfl) rfl (fun w1 hn1 hq1 => ?_)
      have h1 := hM.n0 hn1 hq1
      have hfr1 : mo_fr b w w1 := mo_fr.rf.at ⟨by omega, by omega⟩ hq1
      have hth : (va_up sc 0 (nI 2)) 0 = nI 2 := rfl
      refine v_aload_n (pc := 36) d_Mo_cell_36 rfl rfl ?_
      refine v_get (pc := 37) d_Mo_cell_37 fl_Mo_69 h1.o rfl ?_
      refine v_re hth ?_
      refine v_if_le (pc := 40) (tgt := 47) d_Mo_cell_40 rfl (fun hc => ?_) (fun hc => ?_)
      · skip
        exact absurd hc (by decide)
      · skip
        refine v_iconst (pc := 43) (v := nI 0) d_Mo_cell_43 rfl ?_
        refine v_goto (pc := 44) (tgt := 54) d_Mo_cell_44 rfl ?_
        exact v_iret (pc := 54) d_Mo_cell_54 rfl (Nat.le_of_ble_eq_true rfl) (Nat.le_of_ble_eq_true rfl) ⟨by rw [if_pos hv, if_neg hi], rfl, hfr1, by rw [if_pos hv, if_neg hi]; exact ⟨_, _, _, h1, rfl, hR⟩⟩
    · skip
      have hi0 := hc
      refine v_iload_n (pc := 18) d_Mo_cell_18 rfl rfl ?_
      refine v_aload_n (pc := 19) d_Mo_cell_19 rfl rfl ?_
      refine v_get (pc := 20) d_Mo_cell_20 fl_Mo_38 hM.o rfl ?_
      refine v_iload_n (pc := 23) d_Mo_cell_23 rfl rfl ?_
      refine v_ialdN (pc := 24) (k := k) (f := ia 8) d_Mo_cell_24 hM.a8 rfl (by omega) (by decide) ?_
      refine v_re hB1 ?_
      refine v_icmp_lt (pc := 25) (tgt := 32) d_Mo_cell_25 rfl (fun hc => ?_) (fun hc => ?_)
      · skip
        have hi : isR a (nI k) i := ⟨Int32.not_lt.mp hi0, by rw [hk3]; exact hc⟩
        obtain ⟨r, hi1, hi2, hi3⟩ := isR_n hi hk3 hB2
        subst hi1
        refine v_iconst (pc := 32) (v := nI 0) d_Mo_cell_32 rfl ?_
        refine v_putW (pc := 33) (fs' := (mo_fs b (va_up sc 0 (nI 0)))) d_Mo_cell_33 fl_Mo_69 (fi_Mo_69 _) (ok_Mo_0 _) hM.o (Nat.le_of_ble_eq_true rfl) rfl (fun w1 hn1 hq1 => ?_)
        have h1 := hM.n0 hn1 hq1
        have hfr1 : mo_fr b w w1 := mo_fr.rf.at ⟨by omega, by omega⟩ hq1
        have hth : (va_up sc 0 (nI 0)) 0 = nI 0 := rfl
        refine v_aload_n (pc := 36) d_Mo_cell_36 rfl rfl ?_
        refine v_get (pc := 37) d_Mo_cell_37 fl_Mo_69 h1.o rfl ?_
        refine v_re hth ?_
        refine v_if_le (pc := 40) (tgt := 47) d_Mo_cell_40 rfl (fun hc => ?_) (fun hc => ?_)
        · skip
          refine v_aload_n (pc := 47) d_Mo_cell_47 rfl rfl ?_
          refine v_iload_n (pc := 48) d_Mo_cell_48 rfl rfl ?_
          refine v_iload_n (pc := 49) d_Mo_cell_49 rfl rfl ?_
          refine v_iload_n (pc := 50) d_Mo_cell_50 rfl rfl ?_
          refine v_cvR (pc := 51) (A := [.int (nI k), .int (nI r), .int (nI j)]) (rest := []) (x := .int (ia 10 (4 * (16 * k + r) + j))) d_Mo_cell_51 lk_Mo_83 me_Mo_cellOf im_Mo_cellOf se_Mo_cellOf rfl h1.o rfl rfl (c_Mo_cellOf g h1 (k := k) (r := r) (c := j) (by omega)) (Nat.le_of_ble_eq_true rfl) (Nat.le_of_ble_eq_true rfl) (Nat.le_of_ble_eq_true rfl) (Nat.le_of_ble_eq_true rfl) ?_
          exact v_iret (pc := 54) d_Mo_cell_54 rfl (Nat.le_of_ble_eq_true rfl) (Nat.le_of_ble_eq_true rfl) ⟨by rw [if_pos hv, if_pos hi]; unfold cellA; rw [hk3, hi3, i2n_nI (by omega), hrB.cell hi2 hj2], rfl, hfr1, by rw [if_pos hv, if_pos hi]; exact ⟨_, _, _, h1, rfl, hR⟩⟩
        · skip
          exact absurd hc (by decide)
      · skip
        have hi : ¬ isR a (nI k) i := fun h => by have h9 := h.2; rw [hk3] at h9; exact hc h9
        refine v_iconst (pc := 28) (v := nI 2) d_Mo_cell_28 rfl ?_
        refine v_goto (pc := 29) (tgt := 33) d_Mo_cell_29 rfl ?_
        refine v_putW (pc := 33) (fs' := (mo_fs b (va_up sc 0 (nI 2)))) d_Mo_cell_33 fl_Mo_69 (fi_Mo_69 _) (ok_Mo_0 _) hM.o (Nat.le_of_ble_eq_true rfl) rfl (fun w1 hn1 hq1 => ?_)
        have h1 := hM.n0 hn1 hq1
        have hfr1 : mo_fr b w w1 := mo_fr.rf.at ⟨by omega, by omega⟩ hq1
        have hth : (va_up sc 0 (nI 2)) 0 = nI 2 := rfl
        refine v_aload_n (pc := 36) d_Mo_cell_36 rfl rfl ?_
        refine v_get (pc := 37) d_Mo_cell_37 fl_Mo_69 h1.o rfl ?_
        refine v_re hth ?_
        refine v_if_le (pc := 40) (tgt := 47) d_Mo_cell_40 rfl (fun hc => ?_) (fun hc => ?_)
        · skip
          exact absurd hc (by decide)
        · skip
          refine v_iconst (pc := 43) (v := nI 0) d_Mo_cell_43 rfl ?_
          refine v_goto (pc := 44) (tgt := 54) d_Mo_cell_44 rfl ?_
          exact v_iret (pc := 54) d_Mo_cell_54 rfl (Nat.le_of_ble_eq_true rfl) (Nat.le_of_ble_eq_true rfl) ⟨by rw [if_pos hv, if_neg hi], rfl, hfr1, by rw [if_pos hv, if_neg hi]; exact ⟨_, _, _, h1, rfl, hR⟩⟩
  · skip
    rw [zf] at hc
    have hv := hc
    refine v_iconst (pc := 10) (v := nI 1) d_Mo_cell_10 rfl ?_
    refine v_goto (pc := 11) (tgt := 33) d_Mo_cell_11 rfl ?_
    refine v_putW (pc := 33) (fs' := (mo_fs b (va_up sc 0 (nI 1)))) d_Mo_cell_33 fl_Mo_69 (fi_Mo_69 _) (ok_Mo_0 _) hM.o (Nat.le_of_ble_eq_true rfl) rfl (fun w1 hn1 hq1 => ?_)
    have h1 := hM.n0 hn1 hq1
    have hfr1 : mo_fr b w w1 := mo_fr.rf.at ⟨by omega, by omega⟩ hq1
    have hth : (va_up sc 0 (nI 1)) 0 = nI 1 := rfl
    refine v_aload_n (pc := 36) d_Mo_cell_36 rfl rfl ?_
    refine v_get (pc := 37) d_Mo_cell_37 fl_Mo_69 h1.o rfl ?_
    refine v_re hth ?_
    refine v_if_le (pc := 40) (tgt := 47) d_Mo_cell_40 rfl (fun hc => ?_) (fun hc => ?_)
    · skip
      exact absurd hc (by decide)
    · skip
      refine v_iconst (pc := 43) (v := nI 0) d_Mo_cell_43 rfl ?_
      refine v_goto (pc := 44) (tgt := 54) d_Mo_cell_44 rfl ?_
      exact v_iret (pc := 54) d_Mo_cell_54 rfl (Nat.le_of_ble_eq_true rfl) (Nat.le_of_ble_eq_true rfl) ⟨by rw [if_neg hv], rfl, hfr1, by rw [if_neg hv]; exact ⟨_, _, _, h1, rfl, hR⟩⟩
set_option maxRecDepth 100000 in
set_option maxHeartbeats 4000000 in
theorem c_Mo_times (g : Gl) {w : Wd} {b sz : Nat} {sc : Nat → Int32} {ia : Nat → Nat → Int32} {la : Nat → Nat → Int64} (hM : MAt w b sc ia la) {a : As} (hA : AWa a) (hR : RAa sc ia la a) (e i : Int32) : CT g 2 0 0 mi_Mo_times [.ref b, .int e, .int i] w sz (RE w b sz (if isV a e then if isR a e i then 0 else 2 else 1) (.long (if isV a e then if isR a e i then timeA a e i else 0 else 0)) a) := by
  refine CT.of (by decide) (Nat.le_of_ble_eq_true rfl) ?_
  refine v_aload_n (pc := 0) d_Mo_times_0 rfl rfl ?_
  refine v_aload_n (pc := 1) d_Mo_times_1 rfl rfl ?_
  refine v_iload_n (pc := 2) d_Mo_times_2 rfl rfl ?_
  refine v_cvR (pc := 3) (A := [.int e]) (rest := [.ref b]) (x := .int (if isV a e then 1 else 0)) d_Mo_times_3 lk_Mo_145 me_Mo_isView im_Mo_isView se_Mo_isView rfl hM.o rfl rfl (c_Mo_isViewA g hM hR e) (Nat.le_of_ble_eq_true rfl) (Nat.le_of_ble_eq_true rfl) (Nat.le_of_ble_eq_true rfl) (Nat.le_of_ble_eq_true rfl) ?_
  refine v_if_ne (pc := 6) (tgt := 13) d_Mo_times_6 rfl (fun hc => ?_) (fun hc => ?_)
  · skip
    rw [zt] at hc
    have hv := hc
    obtain ⟨k, hk1, hk2, hk3⟩ := isV_n hc hA.2.1
    subst hk1
    have hk12 := hA.2.1
    obtain ⟨hr0, hr7, hrB⟩ := hR.2.2.2.1 k hk2
    obtain ⟨hB1, hB2, hB3⟩ := id hrB
    refine v_iload_n (pc := 13) d_Mo_times_13 rfl rfl ?_
    refine v_if_lt (pc := 14) (tgt := 27) d_Mo_times_14 rfl (fun hc => ?_) (fun hc => ?_)
    · skip
      have hi : ¬ isR a (nI k) i := fun h => absurd hc (Int32.not_lt.mpr h.1)
      refine v_iconst (pc := 27) (v := nI 2) d_Mo_times_27 rfl ?_
      refine v_goto (pc := 28) (tgt := 32) d_Mo_times_28 rfl ?_
      refine v_putW (pc := 32) (fs' := (mo_fs b (va_up sc 0 (nI 2)))) d_Mo_times_32 fl_Mo_69 (fi_Mo_69 _) (ok_Mo_0 _) hM.o (Nat.le_of_ble_eq_true rfl) rfl (fun w1 hn1 hq1 => ?_)
      have h1 := hM.n0 hn1 hq1
      have hfr1 : mo_fr b w w1 := mo_fr.rf.at ⟨by omega, by omega⟩ hq1
      have hth : (va_up sc 0 (nI 2)) 0 = nI 2 := rfl
      refine v_aload_n (pc := 35) d_Mo_times_35 rfl rfl ?_
      refine v_get (pc := 36) d_Mo_times_36 fl_Mo_69 h1.o rfl ?_
      refine v_re hth ?_
      refine v_if_le (pc := 39) (tgt := 46) d_Mo_times_39 rfl (fun hc => ?_) (fun hc => ?_)
      · skip
        exact absurd hc (by decide)
      · skip
        refine v_lconst (pc := 42) (v := 0) d_Mo_times_42 rfl ?_
        refine v_goto (pc := 43) (tgt := 57) d_Mo_times_43 rfl ?_
        exact v_lret (pc := 57) d_Mo_times_57 rfl (Nat.le_of_ble_eq_true rfl) (Nat.le_of_ble_eq_true rfl) ⟨by rw [if_pos hv, if_neg hi], rfl, hfr1, by rw [if_pos hv, if_neg hi]; exact ⟨_, _, _, h1, rfl, hR⟩⟩
    · skip
      have hi0 := hc
      refine v_iload_n (pc := 17) d_Mo_times_17 rfl rfl ?_
      refine v_aload_n (pc := 18) d_Mo_times_18 rfl rfl ?_
      refine v_get (pc := 19) d_Mo_times_19 fl_Mo_38 hM.o rfl ?_
      refine v_iload_n (pc := 22) d_Mo_times_22 rfl rfl ?_
      refine v_ialdN (pc := 23) (k := k) (f := ia 8) d_Mo_times_23 hM.a8 rfl (by omega) (by decide) ?_
      refine v_re hB1 ?_
      refine v_icmp_lt (pc := 24) (tgt := 31) d_Mo_times_24 rfl (fun hc => ?_) (fun hc => ?_)
      · skip
        have hi : isR a (nI k) i := ⟨Int32.not_lt.mp hi0, by rw [hk3]; exact hc⟩
        obtain ⟨r, hi1, hi2, hi3⟩ := isR_n hi hk3 hB2
        subst hi1
        refine v_iconst (pc := 31) (v := nI 0) d_Mo_times_31 rfl ?_
        refine v_putW (pc := 32) (fs' := (mo_fs b (va_up sc 0 (nI 0)))) d_Mo_times_32 fl_Mo_69 (fi_Mo_69 _) (ok_Mo_0 _) hM.o (Nat.le_of_ble_eq_true rfl) rfl (fun w1 hn1 hq1 => ?_)
        have h1 := hM.n0 hn1 hq1
        have hfr1 : mo_fr b w w1 := mo_fr.rf.at ⟨by omega, by omega⟩ hq1
        have hth : (va_up sc 0 (nI 0)) 0 = nI 0 := rfl
        refine v_aload_n (pc := 35) d_Mo_times_35 rfl rfl ?_
        refine v_get (pc := 36) d_Mo_times_36 fl_Mo_69 h1.o rfl ?_
        refine v_re hth ?_
        refine v_if_le (pc := 39) (tgt := 46) d_Mo_times_39 rfl (fun hc => ?_) (fun hc => ?_)
        · skip
          refine v_aload_n (pc := 46) d_Mo_times_46 rfl rfl ?_
          refine v_get (pc := 47) d_Mo_times_47 fl_Mo_41 h1.o rfl ?_
          refine v_bipush (pc := 50) (v := nI 16) d_Mo_times_50 rfl ?_
          refine v_iload_n (pc := 52) d_Mo_times_52 rfl rfl ?_
          refine v_imul (pc := 53) d_Mo_times_53 ?_
          refine v_re (pk_mul 16 k) ?_
          refine v_iload_n (pc := 54) d_Mo_times_54 rfl rfl ?_
          refine v_iadd (pc := 55) d_Mo_times_55 ?_
          refine v_re (nI_add (16 * k) r) ?_
          refine v_laldN (pc := 56) (k := (16 * k) + r) (f := la 9) d_Mo_times_56 h1.a9 rfl (by omega) (by decide) ?_
          exact v_lret (pc := 57) d_Mo_times_57 rfl (Nat.le_of_ble_eq_true rfl) (Nat.le_of_ble_eq_true rfl) ⟨by rw [if_pos hv, if_pos hi]; unfold timeA; rw [hk3, hi3, hrB.time hi2], rfl, hfr1, by rw [if_pos hv, if_pos hi]; exact ⟨_, _, _, h1, rfl, hR⟩⟩
        · skip
          exact absurd hc (by decide)
      · skip
        have hi : ¬ isR a (nI k) i := fun h => by have h9 := h.2; rw [hk3] at h9; exact hc h9
        refine v_iconst (pc := 27) (v := nI 2) d_Mo_times_27 rfl ?_
        refine v_goto (pc := 28) (tgt := 32) d_Mo_times_28 rfl ?_
        refine v_putW (pc := 32) (fs' := (mo_fs b (va_up sc 0 (nI 2)))) d_Mo_times_32 fl_Mo_69 (fi_Mo_69 _) (ok_Mo_0 _) hM.o (Nat.le_of_ble_eq_true rfl) rfl (fun w1 hn1 hq1 => ?_)
        have h1 := hM.n0 hn1 hq1
        have hfr1 : mo_fr b w w1 := mo_fr.rf.at ⟨by omega, by omega⟩ hq1
        have hth : (va_up sc 0 (nI 2)) 0 = nI 2 := rfl
        refine v_aload_n (pc := 35) d_Mo_times_35 rfl rfl ?_
        refine v_get (pc := 36) d_Mo_times_36 fl_Mo_69 h1.o rfl ?_
        refine v_re hth ?_
        refine v_if_le (pc := 39) (tgt := 46) d_Mo_times_39 rfl (fun hc => ?_) (fun hc => ?_)
        · skip
          exact absurd hc (by decide)
        · skip
          refine v_lconst (pc := 42) (v := 0) d_Mo_times_42 rfl ?_
          refine v_goto (pc := 43) (tgt := 57) d_Mo_times_43 rfl ?_
          exact v_lret (pc := 57) d_Mo_times_57 rfl (Nat.le_of_ble_eq_true rfl) (Nat.le_of_ble_eq_true rfl) ⟨by rw [if_pos hv, if_neg hi], rfl, hfr1, by rw [if_pos hv, if_neg hi]; exact ⟨_, _, _, h1, rfl, hR⟩⟩
  · skip
    rw [zf] at hc
    have hv := hc
    refine v_iconst (pc := 9) (v := nI 1) d_Mo_times_9 rfl ?_
    refine v_goto (pc := 10) (tgt := 32) d_Mo_times_10 rfl ?_
    refine v_putW (pc := 32) (fs' := (mo_fs b (va_up sc 0 (nI 1)))) d_Mo_times_32 fl_Mo_69 (fi_Mo_69 _) (ok_Mo_0 _) hM.o (Nat.le_of_ble_eq_true rfl) rfl (fun w1 hn1 hq1 => ?_)
    have h1 := hM.n0 hn1 hq1
    have hfr1 : mo_fr b w w1 := mo_fr.rf.at ⟨by omega, by omega⟩ hq1
    have hth : (va_up sc 0 (nI 1)) 0 = nI 1 := rfl
    refine v_aload_n (pc := 35) d_Mo_times_35 rfl rfl ?_
    refine v_get (pc := 36) d_Mo_times_36 fl_Mo_69 h1.o rfl ?_
    refine v_re hth ?_
    refine v_if_le (pc := 39) (tgt := 46) d_Mo_times_39 rfl (fun hc => ?_) (fun hc => ?_)
    · skip
      exact absurd hc (by decide)
    · skip
      refine v_lconst (pc := 42) (v := 0) d_Mo_times_42 rfl ?_
      refine v_goto (pc := 43) (tgt := 57) d_Mo_times_43 rfl ?_
      exact v_lret (pc := 57) d_Mo_times_57 rfl (Nat.le_of_ble_eq_true rfl) (Nat.le_of_ble_eq_true rfl) ⟨by rw [if_neg hv], rfl, hfr1, by rw [if_neg hv]; exact ⟨_, _, _, h1, rfl, hR⟩⟩
