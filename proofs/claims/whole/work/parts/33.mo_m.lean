def RO (ia : Nat → Nat → Int32) (v : Nat) (o : VOp) : Prop := ia 1 v = nI o.1 ∧ ia 2 v = nI o.2.1 ∧ ia 3 v = nI o.2.2.1 ∧ (o.1 ≠ 4 → o.1 ≠ 8 → ia 4 v = o.2.2.2.1 ∧ ia 5 v = o.2.2.2.2.1 ∧ ia 6 v = o.2.2.2.2.2)
theorem mo_gs.tr {w w1 w2 : Wd} {b : Nat} {sc : Nat → Int32} {ia : Nat → Nat → Int32} {la : Nat → Nat → Int64} {wd : Nat} {G : MaB} {x : Int32} {f o : Nat → Int32} {m : Nat → Int64} (hfr : mo_fr b w w1) (h : mo_gs w1 b (va_up sc 2 x) (va_up (va_up ia 12 f) 13 o) (va_up la 11 m) wd G w2) : mo_gs w b sc ia la wd G w2 := by
  obtain ⟨f2, o2, m2, q1, q2, q3⟩ := h
  rw [bx_uu, bx_uu, va_cm (va_up ia 12 f) (by decide : (13 : Nat) ≠ 12), bx_uu, bx_uu] at q1
  exact ⟨f2, o2, m2, q1, hfr.tr q2, q3⟩
set_option maxRecDepth 100000 in
set_option maxHeartbeats 4000000 in
theorem c_Mo_work_sel (g : Gl) {w : Wd} {b sz : Nat} {sc : Nat → Int32} {ia : Nat → Nat → Int32} {la : Nat → Nat → Int64} (hM : MAt w b sc ia la) {v on : Nat} (hv : v < 12) (hon : on ≤ 12) {e p wd : Nat} {B : MaB} (hk : ia 1 v = nI 1) (he : ia 2 v = nI e) (he2 : e < 12) (hB : BK ia la (e + on) wd B) (hw : ia 0 v = nI wd) (hw1 : 1 ≤ wd) (hwd : wd ≤ 4) (hp : ia 4 v = nI p) (hpe : p < wd) (hA : ∀ x ∈ (op_sel p (ia 5 v) (ia 6 v) B), x.1.length = wd) : CT g 3 0 0 mi_Mo_work [.ref b, .int (nI v), .int (nI on)] w sz (wrE (some (.int (if (ma_fold [] (op_sel p (ia 5 v) (ia 6 v) B)).length ≤ 16 then 1 else 0))) sz (mo_wp w b sc ia la (v + on) wd 16 (ma_fold [] (op_sel p (ia 5 v) (ia 6 v) B)))) := by
  refine CT.of (by decide) (Nat.le_of_ble_eq_true rfl) ?_
  obtain ⟨hB1, hB2, hB3⟩ := hB
  have hlen : (ma_gf [] (op_sel p (ia 5 v) (ia 6 v) B)).length ≤ 256 := by have h1 := ma_gf_len (op_sel p (ia 5 v) (ia 6 v) B) []; have h2 : (op_sel p (ia 5 v) (ia 6 v) B).length ≤ B.length := List.length_filter_le _ _; have hl0 : ([] : MaB).length = 0 := rfl; omega
  refine v_aload_n (pc := 0) d_Mo_work_0 rfl rfl ?_
  refine v_get (pc := 1) d_Mo_work_1 fl_Mo_20 hM.o rfl ?_
  refine v_iload_n (pc := 4) d_Mo_work_4 rfl rfl ?_
  refine v_ialdN (pc := 5) (k := v) (f := ia 2) d_Mo_work_5 hM.a2 rfl (by omega) (by decide) ?_
  refine v_re he ?_
  refine v_iload_n (pc := 6) d_Mo_work_6 rfl rfl ?_
  refine v_iadd (pc := 7) d_Mo_work_7 ?_
  refine v_re (nI_add e on) ?_
  refine v_istore_n (pc := 8) (L' := [(3, .int (nI (e + on))), (0, .ref b), (1, .int (nI v)), (2, .int (nI on))]) d_Mo_work_8 rfl (by decide) rfl ?_
  refine v_aload_n (pc := 9) d_Mo_work_9 rfl rfl ?_
  refine v_get (pc := 10) d_Mo_work_10 fl_Mo_23 hM.o rfl ?_
  refine v_iload_n (pc := 13) d_Mo_work_13 rfl rfl ?_
  refine v_ialdN (pc := 14) (k := v) (f := ia 3) d_Mo_work_14 hM.a3 rfl (by omega) (by decide) ?_
  refine v_iload_n (pc := 15) d_Mo_work_15 rfl rfl ?_
  refine v_iadd (pc := 16) d_Mo_work_16 ?_
  refine v_istore (pc := 17) (L' := [(4, .int ((ia 3 v) + (nI on))), (3, .int (nI (e + on))), (0, .ref b), (1, .int (nI v)), (2, .int (nI on))]) d_Mo_work_17 (by decide) rfl ?_
  refine v_aload_n (pc := 19) d_Mo_work_19 rfl rfl ?_
  refine v_iconst (pc := 20) (v := nI 0) d_Mo_work_20 rfl ?_
  refine v_putW (pc := 21) (fs' := (mo_fs b (va_up sc 2 (nI 0)))) d_Mo_work_21 fl_Mo_72 (fi_Mo_72 _) (ok_Mo_13 _) hM.o (Nat.le_of_ble_eq_true rfl) rfl (fun w1 hn1 hq1 => ?_)
  have hM1 := hM.n2 hn1 hq1
  refine v_aload_n (pc := 24) d_Mo_work_24 rfl rfl ?_
  refine v_get (pc := 25) d_Mo_work_25 fl_Mo_17 hM1.o rfl ?_
  refine v_iload_n (pc := 28) d_Mo_work_28 rfl rfl ?_
  refine v_ialdN (pc := 29) (k := v) (f := ia 1) d_Mo_work_29 hM1.a1 rfl (by omega) (by decide) ?_
  refine v_re hk ?_
  refine v_iconst (pc := 30) (v := nI 1) d_Mo_work_30 rfl ?_
  refine v_icmp_ne (pc := 31) (tgt := 43) d_Mo_work_31 rfl (fun hc => ?_) (fun hc => ?_)
  · skip
    rw [nI_eq (by omega) (by omega)] at hc
    exact absurd hc (by omega)
  · skip
    rw [nI_eq (by omega) (by omega)] at hc
    refine v_aload_n (pc := 34) d_Mo_work_34 rfl rfl ?_
    refine v_iload_n (pc := 35) d_Mo_work_35 rfl rfl ?_
    refine v_iload_n (pc := 36) d_Mo_work_36 rfl rfl ?_
    refine v_cvV (pc := 37) (A := [.int (nI (e + on)), .int (nI v)]) (rest := []) d_Mo_work_37 lk_Mo_101 me_Mo_selects im_Mo_selects se_Mo_selects rfl hM1.o rfl rfl (c_Mo_selects g hM1 (e := e + on) (v := v) (ne := B.length) (wd := wd) (by omega) hv hB1 hB2 hw hwd (G0 := []) rfl rfl (p := p) hp hpe (by decide)) (Nat.le_of_ble_eq_true rfl) (Nat.le_of_ble_eq_true rfl) (Nat.le_of_ble_eq_true rfl) (Nat.le_of_ble_eq_true rfl) (fun w2 hgs => ?_)
    rw [hB3] at hgs
    obtain ⟨f1, o1, m1, h1, hfr, hGG⟩ := id hgs
    refine v_goto (pc := 40) (tgt := 138) d_Mo_work_40 rfl ?_
    refine v_aload_n (pc := 138) d_Mo_work_138 rfl rfl ?_
    refine v_iload_n (pc := 139) d_Mo_work_139 rfl rfl ?_
    refine v_iload_n (pc := 140) d_Mo_work_140 rfl rfl ?_
    refine v_iadd (pc := 141) d_Mo_work_141 ?_
    refine v_re (nI_add v on) ?_
    refine v_aload_n (pc := 142) d_Mo_work_142 rfl rfl ?_
    refine v_get (pc := 143) d_Mo_work_143 fl_Mo_13 h1.o rfl ?_
    refine v_iload_n (pc := 146) d_Mo_work_146 rfl rfl ?_
    refine v_ialdN (pc := 147) (k := v) (f := ia 0) d_Mo_work_147 h1.a0 rfl (by omega) (by decide) ?_
    refine v_re hw ?_
    refine v_bipush (pc := 148) (v := nI 16) d_Mo_work_148 rfl ?_
    refine v_cvX (pc := 150) (A := [.int (nI (v + on)), .int (nI wd), .int (nI 16)]) (rest := []) (x := .int (if (ma_fold [] (op_sel p (ia 5 v) (ia 6 v) B)).length ≤ 16 then 1 else 0)) d_Mo_work_150 lk_Mo_118 me_Mo_settle im_Mo_settle se_Mo_settle rfl h1.o rfl rfl (c_Mo_settle g (k := v + on) (wd := wd) (mo := 16) (A := (op_sel p (ia 5 v) (ia 6 v) B)) (by omega) hw1 hwd (by decide) hlen hA hgs) (Nat.le_of_ble_eq_true rfl) (Nat.le_of_ble_eq_true rfl) (Nat.le_of_ble_eq_true rfl) (Nat.le_of_ble_eq_true rfl) (fun w9 h9 => ?_)
    obtain ⟨sc', ia', la', q1, q2, q3, q4⟩ := h9
    exact v_zret (pc := 153) d_Mo_work_153 rfl zb (Nat.le_of_ble_eq_true rfl) (Nat.le_of_ble_eq_true rfl) ⟨rfl, rfl, sc', ia', la', q1, (mo_fr.rf.at ⟨by omega, by omega⟩ hq1).tr q2, ⟨fun j hj => (q3.1 j hj).trans (va_up_ne _ _ hj), q3.2⟩, q4⟩
set_option maxRecDepth 100000 in
set_option maxHeartbeats 4000000 in
theorem c_Mo_work_prj (g : Gl) {w : Wd} {b sz : Nat} {sc : Nat → Int32} {ia : Nat → Nat → Int32} {la : Nat → Nat → Int64} (hM : MAt w b sc ia la) {v on : Nat} (hv : v < 12) (hon : on ≤ 12) {e we wd : Nat} {cols : Nat → Nat} {B : MaB} (hk : ia 1 v = nI 2) (he : ia 2 v = nI e) (he2 : e < 12) (hB : BK ia la (e + on) we B) (hw : ia 0 v = nI wd) (hw1 : 1 ≤ wd) (hwd : wd ≤ 4) (hwe : we ≤ 4) (hcol : ∀ c, c < wd → (ia 4 v >>> (nI (4 * c) &&& 31)) &&& nI 15 = nI (cols c) ∧ cols c < we) (hA : ∀ x ∈ (op_prj wd cols B), x.1.length = wd) : CT g 3 0 0 mi_Mo_work [.ref b, .int (nI v), .int (nI on)] w sz (wrE (some (.int (if (ma_fold [] (op_prj wd cols B)).length ≤ 16 then 1 else 0))) sz (mo_wp w b sc ia la (v + on) wd 16 (ma_fold [] (op_prj wd cols B)))) := by
  refine CT.of (by decide) (Nat.le_of_ble_eq_true rfl) ?_
  obtain ⟨hB1, hB2, hB3⟩ := hB
  have hlen : (ma_gf [] (op_prj wd cols B)).length ≤ 256 := by have h1 := ma_gf_len (op_prj wd cols B) []; rw [op_prj_len] at h1; have hl0 : ([] : MaB).length = 0 := rfl; omega
  refine v_aload_n (pc := 0) d_Mo_work_0 rfl rfl ?_
  refine v_get (pc := 1) d_Mo_work_1 fl_Mo_20 hM.o rfl ?_
  refine v_iload_n (pc := 4) d_Mo_work_4 rfl rfl ?_
  refine v_ialdN (pc := 5) (k := v) (f := ia 2) d_Mo_work_5 hM.a2 rfl (by omega) (by decide) ?_
  refine v_re he ?_
  refine v_iload_n (pc := 6) d_Mo_work_6 rfl rfl ?_
  refine v_iadd (pc := 7) d_Mo_work_7 ?_
  refine v_re (nI_add e on) ?_
  refine v_istore_n (pc := 8) (L' := [(3, .int (nI (e + on))), (0, .ref b), (1, .int (nI v)), (2, .int (nI on))]) d_Mo_work_8 rfl (by decide) rfl ?_
  refine v_aload_n (pc := 9) d_Mo_work_9 rfl rfl ?_
  refine v_get (pc := 10) d_Mo_work_10 fl_Mo_23 hM.o rfl ?_
  refine v_iload_n (pc := 13) d_Mo_work_13 rfl rfl ?_
  refine v_ialdN (pc := 14) (k := v) (f := ia 3) d_Mo_work_14 hM.a3 rfl (by omega) (by decide) ?_
  refine v_iload_n (pc := 15) d_Mo_work_15 rfl rfl ?_
  refine v_iadd (pc := 16) d_Mo_work_16 ?_
  refine v_istore (pc := 17) (L' := [(4, .int ((ia 3 v) + (nI on))), (3, .int (nI (e + on))), (0, .ref b), (1, .int (nI v)), (2, .int (nI on))]) d_Mo_work_17 (by decide) rfl ?_
  refine v_aload_n (pc := 19) d_Mo_work_19 rfl rfl ?_
  refine v_iconst (pc := 20) (v := nI 0) d_Mo_work_20 rfl ?_
  refine v_putW (pc := 21) (fs' := (mo_fs b (va_up sc 2 (nI 0)))) d_Mo_work_21 fl_Mo_72 (fi_Mo_72 _) (ok_Mo_13 _) hM.o (Nat.le_of_ble_eq_true rfl) rfl (fun w1 hn1 hq1 => ?_)
  have hM1 := hM.n2 hn1 hq1
  refine v_aload_n (pc := 24) d_Mo_work_24 rfl rfl ?_
  refine v_get (pc := 25) d_Mo_work_25 fl_Mo_17 hM1.o rfl ?_
  refine v_iload_n (pc := 28) d_Mo_work_28 rfl rfl ?_
  refine v_ialdN (pc := 29) (k := v) (f := ia 1) d_Mo_work_29 hM1.a1 rfl (by omega) (by decide) ?_
  refine v_re hk ?_
  refine v_iconst (pc := 30) (v := nI 1) d_Mo_work_30 rfl ?_
  refine v_icmp_ne (pc := 31) (tgt := 43) d_Mo_work_31 rfl (fun hc => ?_) (fun hc => ?_)
  · skip
    rw [nI_eq (by omega) (by omega)] at hc
    refine v_aload_n (pc := 43) d_Mo_work_43 rfl rfl ?_
    refine v_get (pc := 44) d_Mo_work_44 fl_Mo_17 hM1.o rfl ?_
    refine v_iload_n (pc := 47) d_Mo_work_47 rfl rfl ?_
    refine v_ialdN (pc := 48) (k := v) (f := ia 1) d_Mo_work_48 hM1.a1 rfl (by omega) (by decide) ?_
    refine v_re hk ?_
    refine v_iconst (pc := 49) (v := nI 2) d_Mo_work_49 rfl ?_
    refine v_icmp_ne (pc := 50) (tgt := 62) d_Mo_work_50 rfl (fun hc => ?_) (fun hc => ?_)
    · skip
      rw [nI_eq (by omega) (by omega)] at hc
      exact absurd hc (by omega)
    · skip
      rw [nI_eq (by omega) (by omega)] at hc
      refine v_aload_n (pc := 53) d_Mo_work_53 rfl rfl ?_
      refine v_iload_n (pc := 54) d_Mo_work_54 rfl rfl ?_
      refine v_iload_n (pc := 55) d_Mo_work_55 rfl rfl ?_
      refine v_cvV (pc := 56) (A := [.int (nI (e + on)), .int (nI v)]) (rest := []) d_Mo_work_56 lk_Mo_104 me_Mo_projects im_Mo_projects se_Mo_projects rfl hM1.o rfl rfl (c_Mo_projects g hM1 (e := e + on) (v := v) (ne := B.length) (wd := wd) (by omega) hv hB1 hB2 hw hwd (G0 := []) rfl rfl (we := we) (cols := cols) hwe hcol (by decide)) (Nat.le_of_ble_eq_true rfl) (Nat.le_of_ble_eq_true rfl) (Nat.le_of_ble_eq_true rfl) (Nat.le_of_ble_eq_true rfl) (fun w2 hgs => ?_)
      rw [hB3] at hgs
      obtain ⟨f1, o1, m1, h1, hfr, hGG⟩ := id hgs
      refine v_goto (pc := 59) (tgt := 138) d_Mo_work_59 rfl ?_
      refine v_aload_n (pc := 138) d_Mo_work_138 rfl rfl ?_
      refine v_iload_n (pc := 139) d_Mo_work_139 rfl rfl ?_
      refine v_iload_n (pc := 140) d_Mo_work_140 rfl rfl ?_
      refine v_iadd (pc := 141) d_Mo_work_141 ?_
      refine v_re (nI_add v on) ?_
      refine v_aload_n (pc := 142) d_Mo_work_142 rfl rfl ?_
      refine v_get (pc := 143) d_Mo_work_143 fl_Mo_13 h1.o rfl ?_
      refine v_iload_n (pc := 146) d_Mo_work_146 rfl rfl ?_
      refine v_ialdN (pc := 147) (k := v) (f := ia 0) d_Mo_work_147 h1.a0 rfl (by omega) (by decide) ?_
      refine v_re hw ?_
      refine v_bipush (pc := 148) (v := nI 16) d_Mo_work_148 rfl ?_
      refine v_cvX (pc := 150) (A := [.int (nI (v + on)), .int (nI wd), .int (nI 16)]) (rest := []) (x := .int (if (ma_fold [] (op_prj wd cols B)).length ≤ 16 then 1 else 0)) d_Mo_work_150 lk_Mo_118 me_Mo_settle im_Mo_settle se_Mo_settle rfl h1.o rfl rfl (c_Mo_settle g (k := v + on) (wd := wd) (mo := 16) (A := (op_prj wd cols B)) (by omega) hw1 hwd (by decide) hlen hA hgs) (Nat.le_of_ble_eq_true rfl) (Nat.le_of_ble_eq_true rfl) (Nat.le_of_ble_eq_true rfl) (Nat.le_of_ble_eq_true rfl) (fun w9 h9 => ?_)
      obtain ⟨sc', ia', la', q1, q2, q3, q4⟩ := h9
      exact v_zret (pc := 153) d_Mo_work_153 rfl zb (Nat.le_of_ble_eq_true rfl) (Nat.le_of_ble_eq_true rfl) ⟨rfl, rfl, sc', ia', la', q1, (mo_fr.rf.at ⟨by omega, by omega⟩ hq1).tr q2, ⟨fun j hj => (q3.1 j hj).trans (va_up_ne _ _ hj), q3.2⟩, q4⟩
  · skip
    rw [nI_eq (by omega) (by omega)] at hc
    exact absurd hc (by omega)
set_option maxRecDepth 100000 in
set_option maxHeartbeats 4000000 in
theorem c_Mo_work_jn (g : Gl) {w : Wd} {b sz : Nat} {sc : Nat → Int32} {ia : Nat → Nat → Int32} {la : Nat → Nat → Int64} (hM : MAt w b sc ia la) {v on : Nat} (hv : v < 12) (hon : on ≤ 12) {e f wl wr p q : Nat} {B C : MaB} (hk : ia 1 v = nI 3) (he : ia 2 v = nI e) (he2 : e < 12) (hf : ia 3 v = nI f) (hf2 : f < 12) (hB : BK ia la (e + on) wl B) (hC : BK ia la (f + on) wr C) (hw : ia 0 v = nI (wl + wr)) (hw1 : 1 ≤ wl + wr) (hwd : wl + wr ≤ 4) (hp : ia 4 v = nI p) (hpl : p < wl) (hq : ia 5 v = nI q) (hqr : q < wr) (hwx : ia 0 e = nI wl) (hA : ∀ x ∈ (op_jn p q B C), x.1.length = (wl + wr)) : CT g 3 0 0 mi_Mo_work [.ref b, .int (nI v), .int (nI on)] w sz (wrE (some (.int (if (ma_fold [] (op_jn p q B C)).length ≤ 16 then 1 else 0))) sz (mo_wp w b sc ia la (v + on) (wl + wr) 16 (ma_fold [] (op_jn p q B C)))) := by
  refine CT.of (by decide) (Nat.le_of_ble_eq_true rfl) ?_
  obtain ⟨hB1, hB2, hB3⟩ := hB
  obtain ⟨hC1, hC2, hC3⟩ := hC
  have hlen : (ma_gf [] (op_jn p q B C)).length ≤ 256 := by have h1 := ma_gf_len (op_jn p q B C) []; have h2 := op_jn_len p q C B; have h3 := Nat.mul_le_mul hB2 hC2; have hl0 : ([] : MaB).length = 0 := rfl; omega
  refine v_aload_n (pc := 0) d_Mo_work_0 rfl rfl ?_
  refine v_get (pc := 1) d_Mo_work_1 fl_Mo_20 hM.o rfl ?_
  refine v_iload_n (pc := 4) d_Mo_work_4 rfl rfl ?_
  refine v_ialdN (pc := 5) (k := v) (f := ia 2) d_Mo_work_5 hM.a2 rfl (by omega) (by decide) ?_
  refine v_re he ?_
  refine v_iload_n (pc := 6) d_Mo_work_6 rfl rfl ?_
  refine v_iadd (pc := 7) d_Mo_work_7 ?_
  refine v_re (nI_add e on) ?_
  refine v_istore_n (pc := 8) (L' := [(3, .int (nI (e + on))), (0, .ref b), (1, .int (nI v)), (2, .int (nI on))]) d_Mo_work_8 rfl (by decide) rfl ?_
  refine v_aload_n (pc := 9) d_Mo_work_9 rfl rfl ?_
  refine v_get (pc := 10) d_Mo_work_10 fl_Mo_23 hM.o rfl ?_
  refine v_iload_n (pc := 13) d_Mo_work_13 rfl rfl ?_
  refine v_ialdN (pc := 14) (k := v) (f := ia 3) d_Mo_work_14 hM.a3 rfl (by omega) (by decide) ?_
  refine v_re hf ?_
  refine v_iload_n (pc := 15) d_Mo_work_15 rfl rfl ?_
  refine v_iadd (pc := 16) d_Mo_work_16 ?_
  refine v_re (nI_add f on) ?_
  refine v_istore (pc := 17) (L' := [(4, .int (nI (f + on))), (3, .int (nI (e + on))), (0, .ref b), (1, .int (nI v)), (2, .int (nI on))]) d_Mo_work_17 (by decide) rfl ?_
  refine v_aload_n (pc := 19) d_Mo_work_19 rfl rfl ?_
  refine v_iconst (pc := 20) (v := nI 0) d_Mo_work_20 rfl ?_
  refine v_putW (pc := 21) (fs' := (mo_fs b (va_up sc 2 (nI 0)))) d_Mo_work_21 fl_Mo_72 (fi_Mo_72 _) (ok_Mo_13 _) hM.o (Nat.le_of_ble_eq_true rfl) rfl (fun w1 hn1 hq1 => ?_)
  have hM1 := hM.n2 hn1 hq1
  refine v_aload_n (pc := 24) d_Mo_work_24 rfl rfl ?_
  refine v_get (pc := 25) d_Mo_work_25 fl_Mo_17 hM1.o rfl ?_
  refine v_iload_n (pc := 28) d_Mo_work_28 rfl rfl ?_
  refine v_ialdN (pc := 29) (k := v) (f := ia 1) d_Mo_work_29 hM1.a1 rfl (by omega) (by decide) ?_
  refine v_re hk ?_
  refine v_iconst (pc := 30) (v := nI 1) d_Mo_work_30 rfl ?_
  refine v_icmp_ne (pc := 31) (tgt := 43) d_Mo_work_31 rfl (fun hc => ?_) (fun hc => ?_)
  · skip
    rw [nI_eq (by omega) (by omega)] at hc
    refine v_aload_n (pc := 43) d_Mo_work_43 rfl rfl ?_
    refine v_get (pc := 44) d_Mo_work_44 fl_Mo_17 hM1.o rfl ?_
    refine v_iload_n (pc := 47) d_Mo_work_47 rfl rfl ?_
    refine v_ialdN (pc := 48) (k := v) (f := ia 1) d_Mo_work_48 hM1.a1 rfl (by omega) (by decide) ?_
    refine v_re hk ?_
    refine v_iconst (pc := 49) (v := nI 2) d_Mo_work_49 rfl ?_
    refine v_icmp_ne (pc := 50) (tgt := 62) d_Mo_work_50 rfl (fun hc => ?_) (fun hc => ?_)
    · skip
      rw [nI_eq (by omega) (by omega)] at hc
      refine v_aload_n (pc := 62) d_Mo_work_62 rfl rfl ?_
      refine v_get (pc := 63) d_Mo_work_63 fl_Mo_17 hM1.o rfl ?_
      refine v_iload_n (pc := 66) d_Mo_work_66 rfl rfl ?_
      refine v_ialdN (pc := 67) (k := v) (f := ia 1) d_Mo_work_67 hM1.a1 rfl (by omega) (by decide) ?_
      refine v_re hk ?_
      refine v_iconst (pc := 68) (v := nI 3) d_Mo_work_68 rfl ?_
      refine v_icmp_ne (pc := 69) (tgt := 83) d_Mo_work_69 rfl (fun hc => ?_) (fun hc => ?_)
      · skip
        rw [nI_eq (by omega) (by omega)] at hc
        exact absurd hc (by omega)
      · skip
        rw [nI_eq (by omega) (by omega)] at hc
        refine v_aload_n (pc := 72) d_Mo_work_72 rfl rfl ?_
        refine v_iload_n (pc := 73) d_Mo_work_73 rfl rfl ?_
        refine v_iload (pc := 74) d_Mo_work_74 rfl ?_
        refine v_iload_n (pc := 76) d_Mo_work_76 rfl rfl ?_
        refine v_cvV (pc := 77) (A := [.int (nI (e + on)), .int (nI (f + on)), .int (nI v)]) (rest := []) d_Mo_work_77 lk_Mo_107 me_Mo_joins im_Mo_joins se_Mo_joins rfl hM1.o rfl rfl (c_Mo_joins g hM1 (e := e + on) (f := f + on) (v := v) (ne := B.length) (nf := C.length) (wl := wl) (wr := wr) (p := p) (q := q) (x := e) (by omega) (by omega) hv hB1 hB2 hC1 hC2 hw hwd hp hpl hq hqr he he2 hwx rfl) (Nat.le_of_ble_eq_true rfl) (Nat.le_of_ble_eq_true rfl) (Nat.le_of_ble_eq_true rfl) (Nat.le_of_ble_eq_true rfl) (fun w2 hgs => ?_)
        rw [hB3, hC3] at hgs
        obtain ⟨f1, o1, m1, h1, hfr, hGG⟩ := id hgs
        refine v_goto (pc := 80) (tgt := 138) d_Mo_work_80 rfl ?_
        refine v_aload_n (pc := 138) d_Mo_work_138 rfl rfl ?_
        refine v_iload_n (pc := 139) d_Mo_work_139 rfl rfl ?_
        refine v_iload_n (pc := 140) d_Mo_work_140 rfl rfl ?_
        refine v_iadd (pc := 141) d_Mo_work_141 ?_
        refine v_re (nI_add v on) ?_
        refine v_aload_n (pc := 142) d_Mo_work_142 rfl rfl ?_
        refine v_get (pc := 143) d_Mo_work_143 fl_Mo_13 h1.o rfl ?_
        refine v_iload_n (pc := 146) d_Mo_work_146 rfl rfl ?_
        refine v_ialdN (pc := 147) (k := v) (f := ia 0) d_Mo_work_147 h1.a0 rfl (by omega) (by decide) ?_
        refine v_re hw ?_
        refine v_bipush (pc := 148) (v := nI 16) d_Mo_work_148 rfl ?_
        refine v_cvX (pc := 150) (A := [.int (nI (v + on)), .int (nI (wl + wr)), .int (nI 16)]) (rest := []) (x := .int (if (ma_fold [] (op_jn p q B C)).length ≤ 16 then 1 else 0)) d_Mo_work_150 lk_Mo_118 me_Mo_settle im_Mo_settle se_Mo_settle rfl h1.o rfl rfl (c_Mo_settle g (k := v + on) (wd := (wl + wr)) (mo := 16) (A := (op_jn p q B C)) (by omega) hw1 hwd (by decide) hlen hA hgs) (Nat.le_of_ble_eq_true rfl) (Nat.le_of_ble_eq_true rfl) (Nat.le_of_ble_eq_true rfl) (Nat.le_of_ble_eq_true rfl) (fun w9 h9 => ?_)
        obtain ⟨sc', ia', la', q1, q2, q3, q4⟩ := h9
        exact v_zret (pc := 153) d_Mo_work_153 rfl zb (Nat.le_of_ble_eq_true rfl) (Nat.le_of_ble_eq_true rfl) ⟨rfl, rfl, sc', ia', la', q1, (mo_fr.rf.at ⟨by omega, by omega⟩ hq1).tr q2, ⟨fun j hj => (q3.1 j hj).trans (va_up_ne _ _ hj), q3.2⟩, q4⟩
    · skip
      rw [nI_eq (by omega) (by omega)] at hc
      exact absurd hc (by omega)
  · skip
    rw [nI_eq (by omega) (by omega)] at hc
    exact absurd hc (by omega)
set_option maxRecDepth 100000 in
set_option maxHeartbeats 4000000 in
theorem c_Mo_work_un (g : Gl) {w : Wd} {b sz : Nat} {sc : Nat → Int32} {ia : Nat → Nat → Int32} {la : Nat → Nat → Int64} (hM : MAt w b sc ia la) {v on : Nat} (hv : v < 12) (hon : on ≤ 12) {e f wd : Nat} {B C : MaB} (hk : ia 1 v = nI 4) (he : ia 2 v = nI e) (he2 : e < 12) (hf : ia 3 v = nI f) (hf2 : f < 12) (hB : BK ia la (e + on) wd B) (hC : BK ia la (f + on) wd C) (hw : ia 0 v = nI wd) (hw1 : 1 ≤ wd) (hwd : wd ≤ 4) (hA : ∀ x ∈ (B ++ C), x.1.length = wd) : CT g 3 0 0 mi_Mo_work [.ref b, .int (nI v), .int (nI on)] w sz (wrE (some (.int (if (ma_fold [] (B ++ C)).length ≤ 16 then 1 else 0))) sz (mo_wp w b sc ia la (v + on) wd 16 (ma_fold [] (B ++ C)))) := by
  refine CT.of (by decide) (Nat.le_of_ble_eq_true rfl) ?_
  obtain ⟨hB1, hB2, hB3⟩ := hB
  obtain ⟨hC1, hC2, hC3⟩ := hC
  have hlen : (ma_gf [] (B ++ C)).length ≤ 256 := by have h1 := ma_gf_len (B ++ C) []; rw [List.length_append] at h1; have hl0 : ([] : MaB).length = 0 := rfl; omega
  refine v_aload_n (pc := 0) d_Mo_work_0 rfl rfl ?_
  refine v_get (pc := 1) d_Mo_work_1 fl_Mo_20 hM.o rfl ?_
  refine v_iload_n (pc := 4) d_Mo_work_4 rfl rfl ?_
  refine v_ialdN (pc := 5) (k := v) (f := ia 2) d_Mo_work_5 hM.a2 rfl (by omega) (by decide) ?_
  refine v_re he ?_
  refine v_iload_n (pc := 6) d_Mo_work_6 rfl rfl ?_
  refine v_iadd (pc := 7) d_Mo_work_7 ?_
  refine v_re (nI_add e on) ?_
  refine v_istore_n (pc := 8) (L' := [(3, .int (nI (e + on))), (0, .ref b), (1, .int (nI v)), (2, .int (nI on))]) d_Mo_work_8 rfl (by decide) rfl ?_
  refine v_aload_n (pc := 9) d_Mo_work_9 rfl rfl ?_
  refine v_get (pc := 10) d_Mo_work_10 fl_Mo_23 hM.o rfl ?_
  refine v_iload_n (pc := 13) d_Mo_work_13 rfl rfl ?_
  refine v_ialdN (pc := 14) (k := v) (f := ia 3) d_Mo_work_14 hM.a3 rfl (by omega) (by decide) ?_
  refine v_re hf ?_
  refine v_iload_n (pc := 15) d_Mo_work_15 rfl rfl ?_
  refine v_iadd (pc := 16) d_Mo_work_16 ?_
  refine v_re (nI_add f on) ?_
  refine v_istore (pc := 17) (L' := [(4, .int (nI (f + on))), (3, .int (nI (e + on))), (0, .ref b), (1, .int (nI v)), (2, .int (nI on))]) d_Mo_work_17 (by decide) rfl ?_
  refine v_aload_n (pc := 19) d_Mo_work_19 rfl rfl ?_
  refine v_iconst (pc := 20) (v := nI 0) d_Mo_work_20 rfl ?_
  refine v_putW (pc := 21) (fs' := (mo_fs b (va_up sc 2 (nI 0)))) d_Mo_work_21 fl_Mo_72 (fi_Mo_72 _) (ok_Mo_13 _) hM.o (Nat.le_of_ble_eq_true rfl) rfl (fun w1 hn1 hq1 => ?_)
  have hM1 := hM.n2 hn1 hq1
  refine v_aload_n (pc := 24) d_Mo_work_24 rfl rfl ?_
  refine v_get (pc := 25) d_Mo_work_25 fl_Mo_17 hM1.o rfl ?_
  refine v_iload_n (pc := 28) d_Mo_work_28 rfl rfl ?_
  refine v_ialdN (pc := 29) (k := v) (f := ia 1) d_Mo_work_29 hM1.a1 rfl (by omega) (by decide) ?_
  refine v_re hk ?_
  refine v_iconst (pc := 30) (v := nI 1) d_Mo_work_30 rfl ?_
  refine v_icmp_ne (pc := 31) (tgt := 43) d_Mo_work_31 rfl (fun hc => ?_) (fun hc => ?_)
  · skip
    rw [nI_eq (by omega) (by omega)] at hc
    refine v_aload_n (pc := 43) d_Mo_work_43 rfl rfl ?_
    refine v_get (pc := 44) d_Mo_work_44 fl_Mo_17 hM1.o rfl ?_
    refine v_iload_n (pc := 47) d_Mo_work_47 rfl rfl ?_
    refine v_ialdN (pc := 48) (k := v) (f := ia 1) d_Mo_work_48 hM1.a1 rfl (by omega) (by decide) ?_
    refine v_re hk ?_
    refine v_iconst (pc := 49) (v := nI 2) d_Mo_work_49 rfl ?_
    refine v_icmp_ne (pc := 50) (tgt := 62) d_Mo_work_50 rfl (fun hc => ?_) (fun hc => ?_)
    · skip
      rw [nI_eq (by omega) (by omega)] at hc
      refine v_aload_n (pc := 62) d_Mo_work_62 rfl rfl ?_
      refine v_get (pc := 63) d_Mo_work_63 fl_Mo_17 hM1.o rfl ?_
      refine v_iload_n (pc := 66) d_Mo_work_66 rfl rfl ?_
      refine v_ialdN (pc := 67) (k := v) (f := ia 1) d_Mo_work_67 hM1.a1 rfl (by omega) (by decide) ?_
      refine v_re hk ?_
      refine v_iconst (pc := 68) (v := nI 3) d_Mo_work_68 rfl ?_
      refine v_icmp_ne (pc := 69) (tgt := 83) d_Mo_work_69 rfl (fun hc => ?_) (fun hc => ?_)
      · skip
        rw [nI_eq (by omega) (by omega)] at hc
        refine v_aload_n (pc := 83) d_Mo_work_83 rfl rfl ?_
        refine v_get (pc := 84) d_Mo_work_84 fl_Mo_17 hM1.o rfl ?_
        refine v_iload_n (pc := 87) d_Mo_work_87 rfl rfl ?_
        refine v_ialdN (pc := 88) (k := v) (f := ia 1) d_Mo_work_88 hM1.a1 rfl (by omega) (by decide) ?_
        refine v_re hk ?_
        refine v_iconst (pc := 89) (v := nI 4) d_Mo_work_89 rfl ?_
        refine v_icmp_ne (pc := 90) (tgt := 111) d_Mo_work_90 rfl (fun hc => ?_) (fun hc => ?_)
        · skip
          rw [nI_eq (by omega) (by omega)] at hc
          exact absurd hc (by omega)
        · skip
          rw [nI_eq (by omega) (by omega)] at hc
          refine v_aload_n (pc := 93) d_Mo_work_93 rfl rfl ?_
          refine v_iload_n (pc := 94) d_Mo_work_94 rfl rfl ?_
          refine v_iload_n (pc := 95) d_Mo_work_95 rfl rfl ?_
          refine v_iconst (pc := 96) (v := nI 0) d_Mo_work_96 rfl ?_
          refine v_cvV (pc := 97) (A := [.int (nI (e + on)), .int (nI v), .int (nI 0)]) (rest := []) d_Mo_work_97 lk_Mo_111 me_Mo_all im_Mo_all se_Mo_all rfl hM1.o rfl rfl (c_Mo_all g hM1 (e := e + on) (v := v) (ne := B.length) (wd := wd) (by omega) hv hB1 hB2 hw hwd (G0 := []) rfl rfl (by decide)) (Nat.le_of_ble_eq_true rfl) (Nat.le_of_ble_eq_true rfl) (Nat.le_of_ble_eq_true rfl) (Nat.le_of_ble_eq_true rfl) (fun w2 hgs1 => ?_)
          rw [hB3] at hgs1
          have hlB := ma_gf_len B []
          have hl0 : ([] : MaB).length = 0 := rfl
          obtain ⟨f2, o2, m2, h2, hfr2, hGG2⟩ := id hgs1
          refine v_aload_n (pc := 100) d_Mo_work_100 rfl rfl ?_
          refine v_iload (pc := 101) d_Mo_work_101 rfl ?_
          refine v_iload_n (pc := 103) d_Mo_work_103 rfl rfl ?_
          refine v_iconst (pc := 104) (v := nI 0) d_Mo_work_104 rfl ?_
          refine v_cvV (pc := 105) (A := [.int (nI (f + on)), .int (nI v), .int (nI 0)]) (rest := []) d_Mo_work_105 lk_Mo_111 me_Mo_all im_Mo_all se_Mo_all rfl h2.o rfl rfl (c_Mo_all g h2 (e := f + on) (v := v) (ne := C.length) (wd := wd) (by omega) hv hC1 hC2 hw hwd (G0 := ma_gf [] B) rfl hGG2 (by omega)) (Nat.le_of_ble_eq_true rfl) (Nat.le_of_ble_eq_true rfl) (Nat.le_of_ble_eq_true rfl) (Nat.le_of_ble_eq_true rfl) (fun w3 hgs2 => ?_)
          have hgs : mo_gs w1 b (va_up sc 2 (nI 0)) ia la wd (ma_gf [] (B ++ C)) w3 := by
            rw [ma_gf_app, ← hC3]
            exact mo_gs.tr hfr2 hgs2
          obtain ⟨f1, o1, m1, h1, hfr, hGG⟩ := id hgs
          refine v_goto (pc := 108) (tgt := 138) d_Mo_work_108 rfl ?_
          refine v_aload_n (pc := 138) d_Mo_work_138 rfl rfl ?_
          refine v_iload_n (pc := 139) d_Mo_work_139 rfl rfl ?_
          refine v_iload_n (pc := 140) d_Mo_work_140 rfl rfl ?_
          refine v_iadd (pc := 141) d_Mo_work_141 ?_
          refine v_re (nI_add v on) ?_
          refine v_aload_n (pc := 142) d_Mo_work_142 rfl rfl ?_
          refine v_get (pc := 143) d_Mo_work_143 fl_Mo_13 h1.o rfl ?_
          refine v_iload_n (pc := 146) d_Mo_work_146 rfl rfl ?_
          refine v_ialdN (pc := 147) (k := v) (f := ia 0) d_Mo_work_147 h1.a0 rfl (by omega) (by decide) ?_
          refine v_re hw ?_
          refine v_bipush (pc := 148) (v := nI 16) d_Mo_work_148 rfl ?_
          refine v_cvX (pc := 150) (A := [.int (nI (v + on)), .int (nI wd), .int (nI 16)]) (rest := []) (x := .int (if (ma_fold [] (B ++ C)).length ≤ 16 then 1 else 0)) d_Mo_work_150 lk_Mo_118 me_Mo_settle im_Mo_settle se_Mo_settle rfl h1.o rfl rfl (c_Mo_settle g (k := v + on) (wd := wd) (mo := 16) (A := (B ++ C)) (by omega) hw1 hwd (by decide) hlen hA hgs) (Nat.le_of_ble_eq_true rfl) (Nat.le_of_ble_eq_true rfl) (Nat.le_of_ble_eq_true rfl) (Nat.le_of_ble_eq_true rfl) (fun w9 h9 => ?_)
          obtain ⟨sc', ia', la', q1, q2, q3, q4⟩ := h9
          exact v_zret (pc := 153) d_Mo_work_153 rfl zb (Nat.le_of_ble_eq_true rfl) (Nat.le_of_ble_eq_true rfl) ⟨rfl, rfl, sc', ia', la', q1, (mo_fr.rf.at ⟨by omega, by omega⟩ hq1).tr q2, ⟨fun j hj => (q3.1 j hj).trans (va_up_ne _ _ hj), q3.2⟩, q4⟩
      · skip
        rw [nI_eq (by omega) (by omega)] at hc
        exact absurd hc (by omega)
    · skip
      rw [nI_eq (by omega) (by omega)] at hc
      exact absurd hc (by omega)
  · skip
    rw [nI_eq (by omega) (by omega)] at hc
    exact absurd hc (by omega)
set_option maxRecDepth 100000 in
set_option maxHeartbeats 4000000 in
theorem c_Mo_work_dis (g : Gl) {w : Wd} {b sz : Nat} {sc : Nat → Int32} {ia : Nat → Nat → Int32} {la : Nat → Nat → Int64} (hM : MAt w b sc ia la) {v on : Nat} (hv : v < 12) (hon : on ≤ 12) {e wd : Nat} {B : MaB} (hk : ia 1 v = nI 8) (he : ia 2 v = nI e) (he2 : e < 12) (hB : BK ia la (e + on) wd B) (hw : ia 0 v = nI wd) (hw1 : 1 ≤ wd) (hwd : wd ≤ 4) (hA : ∀ x ∈ (op_dis B), x.1.length = wd) : CT g 3 0 0 mi_Mo_work [.ref b, .int (nI v), .int (nI on)] w sz (wrE (some (.int (if (ma_fold [] (op_dis B)).length ≤ 16 then 1 else 0))) sz (mo_wp w b sc ia la (v + on) wd 16 (ma_fold [] (op_dis B)))) := by
  refine CT.of (by decide) (Nat.le_of_ble_eq_true rfl) ?_
  obtain ⟨hB1, hB2, hB3⟩ := hB
  have hlen : (ma_gf [] (op_dis B)).length ≤ 256 := by have h1 := ma_gf_len (op_dis B) []; rw [op_dis_len] at h1; have hl0 : ([] : MaB).length = 0 := rfl; omega
  refine v_aload_n (pc := 0) d_Mo_work_0 rfl rfl ?_
  refine v_get (pc := 1) d_Mo_work_1 fl_Mo_20 hM.o rfl ?_
  refine v_iload_n (pc := 4) d_Mo_work_4 rfl rfl ?_
  refine v_ialdN (pc := 5) (k := v) (f := ia 2) d_Mo_work_5 hM.a2 rfl (by omega) (by decide) ?_
  refine v_re he ?_
  refine v_iload_n (pc := 6) d_Mo_work_6 rfl rfl ?_
  refine v_iadd (pc := 7) d_Mo_work_7 ?_
  refine v_re (nI_add e on) ?_
  refine v_istore_n (pc := 8) (L' := [(3, .int (nI (e + on))), (0, .ref b), (1, .int (nI v)), (2, .int (nI on))]) d_Mo_work_8 rfl (by decide) rfl ?_
  refine v_aload_n (pc := 9) d_Mo_work_9 rfl rfl ?_
  refine v_get (pc := 10) d_Mo_work_10 fl_Mo_23 hM.o rfl ?_
  refine v_iload_n (pc := 13) d_Mo_work_13 rfl rfl ?_
  refine v_ialdN (pc := 14) (k := v) (f := ia 3) d_Mo_work_14 hM.a3 rfl (by omega) (by decide) ?_
  refine v_iload_n (pc := 15) d_Mo_work_15 rfl rfl ?_
  refine v_iadd (pc := 16) d_Mo_work_16 ?_
  refine v_istore (pc := 17) (L' := [(4, .int ((ia 3 v) + (nI on))), (3, .int (nI (e + on))), (0, .ref b), (1, .int (nI v)), (2, .int (nI on))]) d_Mo_work_17 (by decide) rfl ?_
  refine v_aload_n (pc := 19) d_Mo_work_19 rfl rfl ?_
  refine v_iconst (pc := 20) (v := nI 0) d_Mo_work_20 rfl ?_
  refine v_putW (pc := 21) (fs' := (mo_fs b (va_up sc 2 (nI 0)))) d_Mo_work_21 fl_Mo_72 (fi_Mo_72 _) (ok_Mo_13 _) hM.o (Nat.le_of_ble_eq_true rfl) rfl (fun w1 hn1 hq1 => ?_)
  have hM1 := hM.n2 hn1 hq1
  refine v_aload_n (pc := 24) d_Mo_work_24 rfl rfl ?_
  refine v_get (pc := 25) d_Mo_work_25 fl_Mo_17 hM1.o rfl ?_
  refine v_iload_n (pc := 28) d_Mo_work_28 rfl rfl ?_
  refine v_ialdN (pc := 29) (k := v) (f := ia 1) d_Mo_work_29 hM1.a1 rfl (by omega) (by decide) ?_
  refine v_re hk ?_
  refine v_iconst (pc := 30) (v := nI 1) d_Mo_work_30 rfl ?_
  refine v_icmp_ne (pc := 31) (tgt := 43) d_Mo_work_31 rfl (fun hc => ?_) (fun hc => ?_)
  · skip
    rw [nI_eq (by omega) (by omega)] at hc
    refine v_aload_n (pc := 43) d_Mo_work_43 rfl rfl ?_
    refine v_get (pc := 44) d_Mo_work_44 fl_Mo_17 hM1.o rfl ?_
    refine v_iload_n (pc := 47) d_Mo_work_47 rfl rfl ?_
    refine v_ialdN (pc := 48) (k := v) (f := ia 1) d_Mo_work_48 hM1.a1 rfl (by omega) (by decide) ?_
    refine v_re hk ?_
    refine v_iconst (pc := 49) (v := nI 2) d_Mo_work_49 rfl ?_
    refine v_icmp_ne (pc := 50) (tgt := 62) d_Mo_work_50 rfl (fun hc => ?_) (fun hc => ?_)
    · skip
      rw [nI_eq (by omega) (by omega)] at hc
      refine v_aload_n (pc := 62) d_Mo_work_62 rfl rfl ?_
      refine v_get (pc := 63) d_Mo_work_63 fl_Mo_17 hM1.o rfl ?_
      refine v_iload_n (pc := 66) d_Mo_work_66 rfl rfl ?_
      refine v_ialdN (pc := 67) (k := v) (f := ia 1) d_Mo_work_67 hM1.a1 rfl (by omega) (by decide) ?_
      refine v_re hk ?_
      refine v_iconst (pc := 68) (v := nI 3) d_Mo_work_68 rfl ?_
      refine v_icmp_ne (pc := 69) (tgt := 83) d_Mo_work_69 rfl (fun hc => ?_) (fun hc => ?_)
      · skip
        rw [nI_eq (by omega) (by omega)] at hc
        refine v_aload_n (pc := 83) d_Mo_work_83 rfl rfl ?_
        refine v_get (pc := 84) d_Mo_work_84 fl_Mo_17 hM1.o rfl ?_
        refine v_iload_n (pc := 87) d_Mo_work_87 rfl rfl ?_
        refine v_ialdN (pc := 88) (k := v) (f := ia 1) d_Mo_work_88 hM1.a1 rfl (by omega) (by decide) ?_
        refine v_re hk ?_
        refine v_iconst (pc := 89) (v := nI 4) d_Mo_work_89 rfl ?_
        refine v_icmp_ne (pc := 90) (tgt := 111) d_Mo_work_90 rfl (fun hc => ?_) (fun hc => ?_)
        · skip
          rw [nI_eq (by omega) (by omega)] at hc
          refine v_aload_n (pc := 111) d_Mo_work_111 rfl rfl ?_
          refine v_get (pc := 112) d_Mo_work_112 fl_Mo_17 hM1.o rfl ?_
          refine v_iload_n (pc := 115) d_Mo_work_115 rfl rfl ?_
          refine v_ialdN (pc := 116) (k := v) (f := ia 1) d_Mo_work_116 hM1.a1 rfl (by omega) (by decide) ?_
          refine v_re hk ?_
          refine v_bipush (pc := 117) (v := nI 8) d_Mo_work_117 rfl ?_
          refine v_icmp_ne (pc := 119) (tgt := 132) d_Mo_work_119 rfl (fun hc => ?_) (fun hc => ?_)
          · skip
            rw [nI_eq (by omega) (by omega)] at hc
            exact absurd hc (by omega)
          · skip
            rw [nI_eq (by omega) (by omega)] at hc
            refine v_aload_n (pc := 122) d_Mo_work_122 rfl rfl ?_
            refine v_iload_n (pc := 123) d_Mo_work_123 rfl rfl ?_
            refine v_iload_n (pc := 124) d_Mo_work_124 rfl rfl ?_
            refine v_iconst (pc := 125) (v := nI 1) d_Mo_work_125 rfl ?_
            refine v_cvV (pc := 126) (A := [.int (nI (e + on)), .int (nI v), .int (nI 1)]) (rest := []) d_Mo_work_126 lk_Mo_111 me_Mo_all im_Mo_all se_Mo_all rfl hM1.o rfl rfl (c_Mo_dis g hM1 (e := e + on) (v := v) (ne := B.length) (wd := wd) (by omega) hv hB1 hB2 hw hwd (G0 := []) rfl rfl (by decide)) (Nat.le_of_ble_eq_true rfl) (Nat.le_of_ble_eq_true rfl) (Nat.le_of_ble_eq_true rfl) (Nat.le_of_ble_eq_true rfl) (fun w2 hgs => ?_)
            rw [hB3] at hgs
            obtain ⟨f1, o1, m1, h1, hfr, hGG⟩ := id hgs
            refine v_goto (pc := 129) (tgt := 138) d_Mo_work_129 rfl ?_
            refine v_aload_n (pc := 138) d_Mo_work_138 rfl rfl ?_
            refine v_iload_n (pc := 139) d_Mo_work_139 rfl rfl ?_
            refine v_iload_n (pc := 140) d_Mo_work_140 rfl rfl ?_
            refine v_iadd (pc := 141) d_Mo_work_141 ?_
            refine v_re (nI_add v on) ?_
            refine v_aload_n (pc := 142) d_Mo_work_142 rfl rfl ?_
            refine v_get (pc := 143) d_Mo_work_143 fl_Mo_13 h1.o rfl ?_
            refine v_iload_n (pc := 146) d_Mo_work_146 rfl rfl ?_
            refine v_ialdN (pc := 147) (k := v) (f := ia 0) d_Mo_work_147 h1.a0 rfl (by omega) (by decide) ?_
            refine v_re hw ?_
            refine v_bipush (pc := 148) (v := nI 16) d_Mo_work_148 rfl ?_
            refine v_cvX (pc := 150) (A := [.int (nI (v + on)), .int (nI wd), .int (nI 16)]) (rest := []) (x := .int (if (ma_fold [] (op_dis B)).length ≤ 16 then 1 else 0)) d_Mo_work_150 lk_Mo_118 me_Mo_settle im_Mo_settle se_Mo_settle rfl h1.o rfl rfl (c_Mo_settle g (k := v + on) (wd := wd) (mo := 16) (A := (op_dis B)) (by omega) hw1 hwd (by decide) hlen hA hgs) (Nat.le_of_ble_eq_true rfl) (Nat.le_of_ble_eq_true rfl) (Nat.le_of_ble_eq_true rfl) (Nat.le_of_ble_eq_true rfl) (fun w9 h9 => ?_)
            obtain ⟨sc', ia', la', q1, q2, q3, q4⟩ := h9
            exact v_zret (pc := 153) d_Mo_work_153 rfl zb (Nat.le_of_ble_eq_true rfl) (Nat.le_of_ble_eq_true rfl) ⟨rfl, rfl, sc', ia', la', q1, (mo_fr.rf.at ⟨by omega, by omega⟩ hq1).tr q2, ⟨fun j hj => (q3.1 j hj).trans (va_up_ne _ _ hj), q3.2⟩, q4⟩
        · skip
          rw [nI_eq (by omega) (by omega)] at hc
          exact absurd hc (by omega)
      · skip
        rw [nI_eq (by omega) (by omega)] at hc
        exact absurd hc (by omega)
    · skip
      rw [nI_eq (by omega) (by omega)] at hc
      exact absurd hc (by omega)
  · skip
    rw [nI_eq (by omega) (by omega)] at hc
    exact absurd hc (by omega)
set_option maxRecDepth 100000 in
set_option maxHeartbeats 4000000 in
theorem c_Mo_work_gr (g : Gl) {w : Wd} {b sz : Nat} {sc : Nat → Int32} {ia : Nat → Nat → Int32} {la : Nat → Nat → Int64} (hM : MAt w b sc ia la) {v on : Nat} (hv : v < 12) (hon : on ≤ 12) {e we kd p q : Nat} {B : MaB} (hkd : kd ≤ 2) (hk : ia 1 v = nI (5 + kd)) (he : ia 2 v = nI e) (he2 : e < 12) (hB : BK ia la (e + on) we B) (hwe : we ≤ 4) (hw : ia 0 v = nI 2) (hp : ia 4 v = nI p) (hpe : p < we) (hq : ia 5 v = nI q) (hqe : q < we) (hA : ∀ x ∈ (op_gr kd p q B B.length), x.1.length = 2) : CT g 3 0 0 mi_Mo_work [.ref b, .int (nI v), .int (nI on)] w sz (wrE (some (.int (if (ma_fold [] (op_gr kd p q B B.length)).length ≤ 16 then 1 else 0))) sz (mo_wp w b sc ia la (v + on) 2 16 (ma_fold [] (op_gr kd p q B B.length)))) := by
  refine CT.of (by decide) (Nat.le_of_ble_eq_true rfl) ?_
  obtain ⟨hB1, hB2, hB3⟩ := hB
  have hlen : (ma_gf [] (op_gr kd p q B B.length)).length ≤ 256 := by have h1 := ma_gf_len (op_gr kd p q B B.length) []; have h2 := op_gr_len kd p q B B.length; have hl0 : ([] : MaB).length = 0 := rfl; omega
  refine v_aload_n (pc := 0) d_Mo_work_0 rfl rfl ?_
  refine v_get (pc := 1) d_Mo_work_1 fl_Mo_20 hM.o rfl ?_
  refine v_iload_n (pc := 4) d_Mo_work_4 rfl rfl ?_
  refine v_ialdN (pc := 5) (k := v) (f := ia 2) d_Mo_work_5 hM.a2 rfl (by omega) (by decide) ?_
  refine v_re he ?_
  refine v_iload_n (pc := 6) d_Mo_work_6 rfl rfl ?_
  refine v_iadd (pc := 7) d_Mo_work_7 ?_
  refine v_re (nI_add e on) ?_
  refine v_istore_n (pc := 8) (L' := [(3, .int (nI (e + on))), (0, .ref b), (1, .int (nI v)), (2, .int (nI on))]) d_Mo_work_8 rfl (by decide) rfl ?_
  refine v_aload_n (pc := 9) d_Mo_work_9 rfl rfl ?_
  refine v_get (pc := 10) d_Mo_work_10 fl_Mo_23 hM.o rfl ?_
  refine v_iload_n (pc := 13) d_Mo_work_13 rfl rfl ?_
  refine v_ialdN (pc := 14) (k := v) (f := ia 3) d_Mo_work_14 hM.a3 rfl (by omega) (by decide) ?_
  refine v_iload_n (pc := 15) d_Mo_work_15 rfl rfl ?_
  refine v_iadd (pc := 16) d_Mo_work_16 ?_
  refine v_istore (pc := 17) (L' := [(4, .int ((ia 3 v) + (nI on))), (3, .int (nI (e + on))), (0, .ref b), (1, .int (nI v)), (2, .int (nI on))]) d_Mo_work_17 (by decide) rfl ?_
  refine v_aload_n (pc := 19) d_Mo_work_19 rfl rfl ?_
  refine v_iconst (pc := 20) (v := nI 0) d_Mo_work_20 rfl ?_
  refine v_putW (pc := 21) (fs' := (mo_fs b (va_up sc 2 (nI 0)))) d_Mo_work_21 fl_Mo_72 (fi_Mo_72 _) (ok_Mo_13 _) hM.o (Nat.le_of_ble_eq_true rfl) rfl (fun w1 hn1 hq1 => ?_)
  have hM1 := hM.n2 hn1 hq1
  refine v_aload_n (pc := 24) d_Mo_work_24 rfl rfl ?_
  refine v_get (pc := 25) d_Mo_work_25 fl_Mo_17 hM1.o rfl ?_
  refine v_iload_n (pc := 28) d_Mo_work_28 rfl rfl ?_
  refine v_ialdN (pc := 29) (k := v) (f := ia 1) d_Mo_work_29 hM1.a1 rfl (by omega) (by decide) ?_
  refine v_re hk ?_
  refine v_iconst (pc := 30) (v := nI 1) d_Mo_work_30 rfl ?_
  refine v_icmp_ne (pc := 31) (tgt := 43) d_Mo_work_31 rfl (fun hc => ?_) (fun hc => ?_)
  · skip
    rw [nI_eq (by omega) (by omega)] at hc
    refine v_aload_n (pc := 43) d_Mo_work_43 rfl rfl ?_
    refine v_get (pc := 44) d_Mo_work_44 fl_Mo_17 hM1.o rfl ?_
    refine v_iload_n (pc := 47) d_Mo_work_47 rfl rfl ?_
    refine v_ialdN (pc := 48) (k := v) (f := ia 1) d_Mo_work_48 hM1.a1 rfl (by omega) (by decide) ?_
    refine v_re hk ?_
    refine v_iconst (pc := 49) (v := nI 2) d_Mo_work_49 rfl ?_
    refine v_icmp_ne (pc := 50) (tgt := 62) d_Mo_work_50 rfl (fun hc => ?_) (fun hc => ?_)
    · skip
      rw [nI_eq (by omega) (by omega)] at hc
      refine v_aload_n (pc := 62) d_Mo_work_62 rfl rfl ?_
      refine v_get (pc := 63) d_Mo_work_63 fl_Mo_17 hM1.o rfl ?_
      refine v_iload_n (pc := 66) d_Mo_work_66 rfl rfl ?_
      refine v_ialdN (pc := 67) (k := v) (f := ia 1) d_Mo_work_67 hM1.a1 rfl (by omega) (by decide) ?_
      refine v_re hk ?_
      refine v_iconst (pc := 68) (v := nI 3) d_Mo_work_68 rfl ?_
      refine v_icmp_ne (pc := 69) (tgt := 83) d_Mo_work_69 rfl (fun hc => ?_) (fun hc => ?_)
      · skip
        rw [nI_eq (by omega) (by omega)] at hc
        refine v_aload_n (pc := 83) d_Mo_work_83 rfl rfl ?_
        refine v_get (pc := 84) d_Mo_work_84 fl_Mo_17 hM1.o rfl ?_
        refine v_iload_n (pc := 87) d_Mo_work_87 rfl rfl ?_
        refine v_ialdN (pc := 88) (k := v) (f := ia 1) d_Mo_work_88 hM1.a1 rfl (by omega) (by decide) ?_
        refine v_re hk ?_
        refine v_iconst (pc := 89) (v := nI 4) d_Mo_work_89 rfl ?_
        refine v_icmp_ne (pc := 90) (tgt := 111) d_Mo_work_90 rfl (fun hc => ?_) (fun hc => ?_)
        · skip
          rw [nI_eq (by omega) (by omega)] at hc
          refine v_aload_n (pc := 111) d_Mo_work_111 rfl rfl ?_
          refine v_get (pc := 112) d_Mo_work_112 fl_Mo_17 hM1.o rfl ?_
          refine v_iload_n (pc := 115) d_Mo_work_115 rfl rfl ?_
          refine v_ialdN (pc := 116) (k := v) (f := ia 1) d_Mo_work_116 hM1.a1 rfl (by omega) (by decide) ?_
          refine v_re hk ?_
          refine v_bipush (pc := 117) (v := nI 8) d_Mo_work_117 rfl ?_
          refine v_icmp_ne (pc := 119) (tgt := 132) d_Mo_work_119 rfl (fun hc => ?_) (fun hc => ?_)
          · skip
            rw [nI_eq (by omega) (by omega)] at hc
            refine v_aload_n (pc := 132) d_Mo_work_132 rfl rfl ?_
            refine v_iload_n (pc := 133) d_Mo_work_133 rfl rfl ?_
            refine v_iload_n (pc := 134) d_Mo_work_134 rfl rfl ?_
            refine v_cvV (pc := 135) (A := [.int (nI (e + on)), .int (nI v)]) (rest := []) d_Mo_work_135 lk_Mo_115 me_Mo_groups im_Mo_groups se_Mo_groups rfl hM1.o rfl rfl (c_Mo_groups g hM1 (e := e + on) (v := v) (ne := B.length) (we := we) (kd := kd) (p := p) (q := q) (by omega) hv hB1 hB2 hwe hkd hk hp hpe hq hqe rfl) (Nat.le_of_ble_eq_true rfl) (Nat.le_of_ble_eq_true rfl) (Nat.le_of_ble_eq_true rfl) (Nat.le_of_ble_eq_true rfl) (fun w2 hgs => ?_)
            rw [hB3] at hgs
            obtain ⟨f1, o1, m1, h1, hfr, hGG⟩ := id hgs
            refine v_aload_n (pc := 138) d_Mo_work_138 rfl rfl ?_
            refine v_iload_n (pc := 139) d_Mo_work_139 rfl rfl ?_
            refine v_iload_n (pc := 140) d_Mo_work_140 rfl rfl ?_
            refine v_iadd (pc := 141) d_Mo_work_141 ?_
            refine v_re (nI_add v on) ?_
            refine v_aload_n (pc := 142) d_Mo_work_142 rfl rfl ?_
            refine v_get (pc := 143) d_Mo_work_143 fl_Mo_13 h1.o rfl ?_
            refine v_iload_n (pc := 146) d_Mo_work_146 rfl rfl ?_
            refine v_ialdN (pc := 147) (k := v) (f := ia 0) d_Mo_work_147 h1.a0 rfl (by omega) (by decide) ?_
            refine v_re hw ?_
            refine v_bipush (pc := 148) (v := nI 16) d_Mo_work_148 rfl ?_
            refine v_cvX (pc := 150) (A := [.int (nI (v + on)), .int (nI 2), .int (nI 16)]) (rest := []) (x := .int (if (ma_fold [] (op_gr kd p q B B.length)).length ≤ 16 then 1 else 0)) d_Mo_work_150 lk_Mo_118 me_Mo_settle im_Mo_settle se_Mo_settle rfl h1.o rfl rfl (c_Mo_settle g (k := v + on) (wd := 2) (mo := 16) (A := (op_gr kd p q B B.length)) (by omega) (by decide) (by decide) (by decide) hlen hA hgs) (Nat.le_of_ble_eq_true rfl) (Nat.le_of_ble_eq_true rfl) (Nat.le_of_ble_eq_true rfl) (Nat.le_of_ble_eq_true rfl) (fun w9 h9 => ?_)
            obtain ⟨sc', ia', la', q1, q2, q3, q4⟩ := h9
            exact v_zret (pc := 153) d_Mo_work_153 rfl zb (Nat.le_of_ble_eq_true rfl) (Nat.le_of_ble_eq_true rfl) ⟨rfl, rfl, sc', ia', la', q1, (mo_fr.rf.at ⟨by omega, by omega⟩ hq1).tr q2, ⟨fun j hj => (q3.1 j hj).trans (va_up_ne _ _ hj), q3.2⟩, q4⟩
          · skip
            rw [nI_eq (by omega) (by omega)] at hc
            exact absurd hc (by omega)
        · skip
          rw [nI_eq (by omega) (by omega)] at hc
          exact absurd hc (by omega)
      · skip
        rw [nI_eq (by omega) (by omega)] at hc
        exact absurd hc (by omega)
    · skip
      rw [nI_eq (by omega) (by omega)] at hc
      exact absurd hc (by omega)
  · skip
    rw [nI_eq (by omega) (by omega)] at hc
    exact absurd hc (by omega)
section OA
variable {wv e f : Nat} {β : Nat → MaB} {P Q R : Int32}
theorem oa1 : op_adds wv β (1, e, f, P, Q, R) = op_sel (i2n P) Q R (β e) := rfl
theorem oa2 : op_adds wv β (2, e, f, P, Q, R) = op_prj wv (colN P) (β e) := rfl
theorem oa3 : op_adds wv β (3, e, f, P, Q, R) = op_jn (i2n P) (i2n Q) (β e) (β f) := rfl
theorem oa4 : op_adds wv β (4, e, f, P, Q, R) = β e ++ β f := rfl
theorem oa8 : op_adds wv β (8, e, f, P, Q, R) = op_dis (β e) := rfl
theorem oa5 {kd : Nat} (h : kd ≤ 2) : op_adds wv β (5 + kd, e, f, P, Q, R) = op_gr kd (i2n P) (i2n Q) (β e) (β e).length := by
  unfold op_adds
  dsimp only
  rw [if_neg (by omega), if_neg (by omega), if_neg (by omega), if_neg (by omega), if_neg (by omega), show 5 + kd - 5 = kd by omega]
end OA
theorem c_Mo_work (g : Gl) {w : Wd} {b sz : Nat} {sc : Nat → Int32} {ia : Nat → Nat → Int32} {la : Nat → Nat → Int64} (hM : MAt w b sc ia la) {v on : Nat} (hv : v < 12) (hon : on ≤ 12) {wd : Nat → Nat} {β : Nat → MaB} {o : VOp} (hR : RO ia v o) (hW : WO wd v o) (hw : ∀ u, u ≤ v → ia 0 u = nI (wd u)) (hw4 : ∀ u, u ≤ v → wd u ≤ 4) (hB : ∀ u, u < v → BK ia la (u + on) (wd u) (β u)) :
    CT g 3 0 0 mi_Mo_work [.ref b, .int (nI v), .int (nI on)] w sz (wrE (some (.int (if (ma_fold [] (op_adds (wd v) β o)).length ≤ 16 then 1 else 0))) sz (mo_wp w b sc ia la (v + on) (wd v) 16 (ma_fold [] (op_adds (wd v) β o)))) := by
  have hA := op_adds_row hW (fun u hu => (hB u hu).row)
  obtain ⟨k, e, f, P, Q, R⟩ := o
  obtain ⟨h1, h4, h⟩ := hW
  obtain ⟨r1, r2, r3, r4⟩ := hR
  dsimp only at h r1 r2 r3 r4
  rcases h with ⟨rfl, he, hww, pp, rfl, hp⟩ | ⟨rfl, he, hcc⟩ | ⟨rfl, he, hf, hww, pp, qq, rfl, rfl, hp, hq⟩ | ⟨rfl, he, hf, hww1, hww2⟩ | ⟨rfl, he, hww⟩ | ⟨kd, hkd, rfl, he, hww, pp, qq, rfl, rfl, hp, hq⟩
  · obtain ⟨a1, a2, a3⟩ := r4 (by decide) (by decide)
    have he4 := hw4 e (by omega)
    rw [oa1, i2n_nI (by omega), ← a2, ← a3] at hA ⊢
    exact c_Mo_work_sel g hM hv hon r1 r2 (by omega) (by rw [hww]; exact hB e he) (hw v (Nat.le_refl _)) h1 h4 a1 (by omega) hA
  · obtain ⟨a1, a2, a3⟩ := r4 (by decide) (by decide)
    rw [oa2] at hA ⊢
    exact c_Mo_work_prj g hM hv hon r1 r2 (by omega) (hB e he) (hw v (Nat.le_refl _)) h1 h4 (hw4 e (by omega)) (fun c hc => ⟨by rw [a1]; exact colN_eq P c, hcc c hc⟩) hA
  · obtain ⟨a1, a2, a3⟩ := r4 (by decide) (by decide)
    have he4 := hw4 e (by omega)
    have hf4 := hw4 f (by omega)
    rw [oa3, i2n_nI (by omega), i2n_nI (by omega), hww] at hA ⊢
    exact c_Mo_work_jn g hM hv hon r1 r2 (by omega) r3 (by omega) (hB e he) (hB f hf) (by rw [← hww]; exact hw v (Nat.le_refl _)) (by omega) (by omega) a1 hp a2 hq (hw e (by omega)) hA
  · rw [oa4] at hA ⊢
    exact c_Mo_work_un g hM hv hon r1 r2 (by omega) r3 (by omega) (by rw [← hww1]; exact hB e he) (by rw [← hww2]; exact hB f hf) (hw v (Nat.le_refl _)) h1 h4 hA
  · rw [oa8] at hA ⊢
    exact c_Mo_work_dis g hM hv hon r1 r2 (by omega) (by rw [← hww]; exact hB e he) (hw v (Nat.le_refl _)) h1 h4 hA
  · obtain ⟨a1, a2, a3⟩ := r4 (by omega) (by omega)
    have he4 := hw4 e (by omega)
    rw [oa5 hkd, i2n_nI (by omega), i2n_nI (by omega), hww] at hA ⊢
    exact c_Mo_work_gr g hM hv hon hkd r1 r2 (by omega) (hB e he) he4 (by rw [← hww]; exact hw v (Nat.le_refl _)) a1 hp a2 hq hA
