theorem mo_ms.no {w : Wd} {b : Nat} {sc : Nat → Int32} {ia : Nat → Nat → Int32} {la : Nat → Nat → Int64} {wd : Nat → Nat} {op : Nat → VOp} {bg : Nat → MaB} {l : Bt} {v n : Nat} {w1 : Wd} (h : mo_ms w b sc ia la wd op bg l v w1) (hn : ¬ okf wd op bg l n = true) : mo_ms w b sc ia la wd op bg l n w1 := by
  obtain ⟨s1, i1, l1, h1, h2, h3, _⟩ := h
  exact ⟨s1, i1, l1, h1, h2, h3, fun h => absurd h hn⟩
theorem okf_t {wd : Nat → Nat} {op : Nat → VOp} {bg : Nat → MaB} {l : Bt} {t : Nat} (ht : t < 3) (ho : okf wd op bg l t = true) : okf wd op bg l (t + 1) = true ↔ tb_ok (nb wd op bg l t) = true := by
  rw [okf_s, cmok, if_pos ht]
  exact ⟨fun h => h.2, fun h => ⟨ho, h⟩⟩
theorem mo_ms.try {w : Wd} {b : Nat} {sc : Nat → Int32} {ia : Nat → Nat → Int32} {la : Nat → Nat → Int64} {n : Nat} {wd : Nat → Nat} {op : Nat → VOp} {bg : Nat → MaB} {l : Bt} (hA : AW n wd op bg l) {t : Nat} (ht : t < 3) (ho : okf wd op bg l t = true) {w1 w2 : Wd} {s1 : Nat → Int32} {i1 : Nat → Nat → Int32} {l1 : Nat → Nat → Int64} (hfr : mo_fr b w w1) (hch : mo_c12 sc ia la s1 i1 l1) (hbk : okf wd op bg l t = true → ∀ u, u < t → BK i1 l1 (12 + u) (wd u) (nb wd op bg l u)) (h : mo_tq w1 b s1 i1 l1 (12 + t) (nb wd op bg l t) w2) : mo_ms w b sc ia la wd op bg l (t + 1) w2 := by
  obtain ⟨s2, i2, l2, q1, q2, q3, q4⟩ := h
  have hn3 := hA.1
  refine ⟨s2, i2, l2, q1, hfr.tr q2, hch.ch (by omega) q3, fun h9 u hu => ?_⟩
  by_cases e : u = t
  · subst e
    rw [(hA.2.2.2.2.1 u ht).1]
    exact q4 ((okf_t ht ho).mp h9)
  · exact (hbk ho u (by omega)).ch (hA.2.2.2.1 u (by omega)).2.1 q3 (by omega)
set_option maxRecDepth 100000 in
set_option maxHeartbeats 4000000 in
theorem lk_Mo_commit (g : Gl) {w0 w : Wd} {b sz : Nat} {sc : Nat → Int32} {ia : Nat → Nat → Int32} {la : Nat → Nat → Int64}  {n : Nat} {wd : Nat → Nat} {op : Nat → VOp} {bg : Nat → MaB} {mv : Nat → Nat} {l : Bt} (hA : AW n wd op bg l) (hR : RA sc ia la n wd op bg mv l) {w1 w5 : Wd} (hq1 : ∀ q, q ≠ b → w1 q = w q) (hms : mo_ms w1 b (va_up sc 0 (nI 0)) ia la wd op bg l n w5) : VV g 4 0 0 mi_Mo_commit w0 sz (wrE (some (.int (if okf wd op bg l n = true then nI (ma_mv2 (nb wd op bg l 0) (bg 0) + ma_mv2 (nb wd op bg l 1) (bg 1) + ma_mv2 (nb wd op bg l 2) (bg 2)) else nI 0))) sz (fun w' => mo_fr b w w' ∧ RR w' b n wd op (if okf wd op bg l n = true then nb wd op bg l else bg) (if okf wd op bg l n = true then (fun v => ma_mv2 (nb wd op bg l v) (bg v)) else mv) [] (if okf wd op bg l n = true then nI 0 else nI 1))) 63 [(1, .int (if okf wd op bg l n = true then 1 else 0)), (0, .ref b)] [] w5 sz 0 0 := by
  obtain ⟨s1, i1, l1, h1, hfr, hch, hbk⟩ := id hms
  have hn3 := hA.1
  have hs1 : s1 1 = nI n := (hch.1 1 (by decide)).trans hR.1
  have hs0 : s1 0 = nI 0 := hch.1 0 (by decide)
  have hvv : ∀ v, v < n → i1 0 v = nI (wd v) ∧ i1 7 v = nI (mv v) ∧ BK i1 l1 v (wd v) (bg v) := fun v hv => by
    have h9 := hR.2.2.2.1 v hv
    have h12 := hA.2.1
    rw [hch.2.1 0 (by decide) (by decide) (by decide) (by decide), hch.2.1 7 (by decide) (by decide) (by decide) (by decide)]
    exact ⟨h9.1, h9.2.1, h9.2.2.c12 (hA.2.2.2.1 v hv).2.1 (by omega) hch⟩
  have hro : ∀ v, 3 ≤ v → v < n → RO i1 v (op v) := fun v h3 hv => by
    have h9 := hR.2.2.2.2 v h3 hv
    unfold RO at h9 ⊢
    rw [hch.2.1 1 (by decide) (by decide) (by decide) (by decide), hch.2.1 2 (by decide) (by decide) (by decide) (by decide), hch.2.1 3 (by decide) (by decide) (by decide) (by decide), hch.2.1 4 (by decide) (by decide) (by decide) (by decide), hch.2.1 5 (by decide) (by decide) (by decide) (by decide), hch.2.1 6 (by decide) (by decide) (by decide) (by decide)]
    exact h9
  refine v_aload_n (pc := 63) d_Mo_commit_63 rfl rfl ?_
  refine v_iconst (pc := 64) (v := nI 0) d_Mo_commit_64 rfl ?_
  refine v_putW (pc := 65) (fs' := (mo_fs b (va_up s1 3 (nI 0)))) d_Mo_commit_65 fl_Mo_121 (fi_Mo_121 _) (ok_Mo_17 _) h1.o (Nat.le_of_ble_eq_true rfl) rfl (fun w6 hn6 hq6 => ?_)
  have h6 := h1.n3 hn6 hq6
  refine v_iload_n (pc := 68) d_Mo_commit_68 rfl rfl ?_
  refine v_if_ne (pc := 69) (tgt := 79) d_Mo_commit_69 rfl (fun hc => ?_) (fun hc => ?_)
  · skip
    rw [zt] at hc
    refine v_iconst (pc := 79) (v := nI 0) d_Mo_commit_79 rfl ?_
    refine v_istore_n (pc := 80) (L' := [(2, .int (nI 0)), (1, .int (if okf wd op bg l n = true then 1 else 0)), (0, .ref b)]) d_Mo_commit_80 rfl (by decide) rfl ?_
    refine v_sub (L' := [(2, .int (nI 0)), (0, .ref b)]) (by simp) ?_
    refine lp2_Mo_commit g (w := w6) (sc := va_up s1 3 (nI 0)) (ia := i1) (n := n) (wd := wd) (B := bg) (C := nb wd op bg l) hs1 hA.2.1 (fun v hv => ⟨(hvv v hv).1, (hA.2.2.2.1 v hv).2.1⟩) (fun w8 ht8 => ?_) n 0 w6 rfl (by omega) ⟨i1, l1, h6, mo_fr.rf, fun i _ _ _ => rfl, fun u hu => absurd hu (Nat.not_lt_zero _), fun u _ hu => (hvv u hu).2.2, fun u hu => hbk hc u hu⟩
    obtain ⟨i3, l3, h8, hfr8, hch8, hdone, _, _⟩ := ht8
    have hm0 := (hdone 0 (by omega)).1
    have hm1 := (hdone 1 (by omega)).1
    have hm2 := (hdone 2 (by omega)).1
    refine v_aload_n (pc := 100) d_Mo_commit_100 rfl rfl ?_
    refine v_get (pc := 101) d_Mo_commit_101 fl_Mo_35 h8.o rfl ?_
    refine v_iconst (pc := 104) (v := nI 0) d_Mo_commit_104 rfl ?_
    refine v_ialdN (pc := 105) (k := 0) (f := i3 7) d_Mo_commit_105 h8.a7 rfl (by omega) (by decide) ?_
    refine v_re hm0 ?_
    refine v_aload_n (pc := 106) d_Mo_commit_106 rfl rfl ?_
    refine v_get (pc := 107) d_Mo_commit_107 fl_Mo_35 h8.o rfl ?_
    refine v_iconst (pc := 110) (v := nI 1) d_Mo_commit_110 rfl ?_
    refine v_ialdN (pc := 111) (k := 1) (f := i3 7) d_Mo_commit_111 h8.a7 rfl (by omega) (by decide) ?_
    refine v_re hm1 ?_
    refine v_iadd (pc := 112) d_Mo_commit_112 ?_
    refine v_re (nI_add (ma_mv2 (nb wd op bg l 0) (bg 0)) (ma_mv2 (nb wd op bg l 1) (bg 1))) ?_
    refine v_aload_n (pc := 113) d_Mo_commit_113 rfl rfl ?_
    refine v_get (pc := 114) d_Mo_commit_114 fl_Mo_35 h8.o rfl ?_
    refine v_iconst (pc := 117) (v := nI 2) d_Mo_commit_117 rfl ?_
    refine v_ialdN (pc := 118) (k := 2) (f := i3 7) d_Mo_commit_118 h8.a7 rfl (by omega) (by decide) ?_
    refine v_re hm2 ?_
    refine v_iadd (pc := 119) d_Mo_commit_119 ?_
    refine v_re (nI_add ((ma_mv2 (nb wd op bg l 0) (bg 0)) + (ma_mv2 (nb wd op bg l 1) (bg 1))) (ma_mv2 (nb wd op bg l 2) (bg 2))) ?_
    have hro8 : ∀ v, 3 ≤ v → v < n → RO i3 v (op v) := fun v h3 hv => by
      have h9 := hro v h3 hv
      unfold RO at h9 ⊢
      rw [hch8 1 (by decide) (by decide) (by decide), hch8 2 (by decide) (by decide) (by decide), hch8 3 (by decide) (by decide) (by decide), hch8 4 (by decide) (by decide) (by decide), hch8 5 (by decide) (by decide) (by decide), hch8 6 (by decide) (by decide) (by decide)]
      exact h9
    exact v_iret (pc := 120) d_Mo_commit_120 rfl (Nat.le_of_ble_eq_true rfl) (Nat.le_of_ble_eq_true rfl) ⟨by rw [if_pos hc], rfl, (((mo_fr.rf.at ⟨by omega, by omega⟩ hq1).tr hfr).at ⟨by omega, by omega⟩ hq6).tr hfr8, by simp only [if_pos hc]; exact ⟨_, _, _, h8, hs0, hs1, rfl, rfl, fun v hv => ⟨by rw [hch8 0 (by decide) (by decide) (by decide)]; exact (hvv v hv).1, (hdone v hv).1, (hdone v hv).2⟩, hro8⟩⟩
  · skip
    rw [zf] at hc
    refine v_aload_n (pc := 72) d_Mo_commit_72 rfl rfl ?_
    refine v_iconst (pc := 73) (v := nI 1) d_Mo_commit_73 rfl ?_
    refine v_putW (pc := 74) (fs' := (mo_fs b (va_up (va_up s1 3 (nI 0)) 0 (nI 1)))) d_Mo_commit_74 fl_Mo_69 (fi_Mo_69 _) (ok_Mo_0 _) h6.o (Nat.le_of_ble_eq_true rfl) rfl (fun w7 hn7 hq7 => ?_)
    have h7 := h6.n0 hn7 hq7
    refine v_iconst (pc := 77) (v := nI 0) d_Mo_commit_77 rfl ?_
    exact v_iret (pc := 78) d_Mo_commit_78 rfl (Nat.le_of_ble_eq_true rfl) (Nat.le_of_ble_eq_true rfl) ⟨by rw [if_neg hc], rfl, (((mo_fr.rf.at ⟨by omega, by omega⟩ hq1).tr hfr).at ⟨by omega, by omega⟩ hq6).at ⟨by omega, by omega⟩ hq7, by simp only [if_neg hc]; exact ⟨_, _, _, h7, rfl, hs1, rfl, rfl, hvv, hro⟩⟩
set_option maxRecDepth 100000 in
set_option maxHeartbeats 4000000 in
theorem c_Mo_commit (g : Gl) {w : Wd} {b sz : Nat} {sc : Nat → Int32} {ia : Nat → Nat → Int32} {la : Nat → Nat → Int64} (hM : MAt w b sc ia la) {n : Nat} {wd : Nat → Nat} {op : Nat → VOp} {bg : Nat → MaB} {mv : Nat → Nat} {l : Bt} (hA : AW n wd op bg l) (hR : RA sc ia la n wd op bg mv l) : CT g 4 0 0 mi_Mo_commit [.ref b] w sz (wrE (some (.int (if okf wd op bg l n = true then nI (ma_mv2 (nb wd op bg l 0) (bg 0) + ma_mv2 (nb wd op bg l 1) (bg 1) + ma_mv2 (nb wd op bg l 2) (bg 2)) else nI 0))) sz (fun w' => mo_fr b w w' ∧ RR w' b n wd op (if okf wd op bg l n = true then nb wd op bg l else bg) (if okf wd op bg l n = true then (fun v => ma_mv2 (nb wd op bg l v) (bg v)) else mv) [] (if okf wd op bg l n = true then nI 0 else nI 1))) := by
  refine CT.of (by decide) (Nat.le_of_ble_eq_true rfl) ?_
  have hn3 := hA.1
  have hK : ∀ w1 w5, (∀ q, q ≠ b → w1 q = w q) → mo_ms w1 b (va_up sc 0 (nI 0)) ia la wd op bg l n w5 → VV g 4 0 0 mi_Mo_commit w sz (wrE (some (.int (if okf wd op bg l n = true then nI (ma_mv2 (nb wd op bg l 0) (bg 0) + ma_mv2 (nb wd op bg l 1) (bg 1) + ma_mv2 (nb wd op bg l 2) (bg 2)) else nI 0))) sz (fun w' => mo_fr b w w' ∧ RR w' b n wd op (if okf wd op bg l n = true then nb wd op bg l else bg) (if okf wd op bg l n = true then (fun v => ma_mv2 (nb wd op bg l v) (bg v)) else mv) [] (if okf wd op bg l n = true then nI 0 else nI 1))) 63 [(1, .int (if okf wd op bg l n = true then 1 else 0)), (0, .ref b)] [] w5 sz 0 0 := fun w1 w5 h1 h2 => lk_Mo_commit g hA hR h1 h2
  refine v_aload_n (pc := 0) d_Mo_commit_0 rfl rfl ?_
  refine v_iconst (pc := 1) (v := nI 0) d_Mo_commit_1 rfl ?_
  refine v_putW (pc := 2) (fs' := (mo_fs b (va_up sc 0 (nI 0)))) d_Mo_commit_2 fl_Mo_69 (fi_Mo_69 _) (ok_Mo_0 _) hM.o (Nat.le_of_ble_eq_true rfl) rfl (fun w1 hn1 hq1 => ?_)
  have hM1 := hM.n0 hn1 hq1
  have hR0 : RA (va_up sc 0 (nI 0)) ia la n wd op bg mv l := hR
  have hm0 : mo_ms w1 b (va_up sc 0 (nI 0)) ia la wd op bg l 0 w1 := ⟨_, _, _, hM1, mo_fr.rf, mo_c12.rf, fun _ u hu => absurd hu (Nat.not_lt_zero _)⟩
  have ok0 : okf wd op bg l 0 = true := rfl
  obtain ⟨s0, i0, l0, h0, hf0, hc0, hb0⟩ := id hm0
  refine v_aload_n (pc := 5) d_Mo_commit_5 rfl rfl ?_
  refine v_iconst (pc := 6) (v := nI 0) d_Mo_commit_6 rfl ?_
  have hB0 : BK i0 l0 0 2 (bg 0) := by have h9 := (hR0.2.2.2.1 0 (by omega)).2.2.c12 (hA.2.2.2.1 0 (by omega)).2.1 (by omega) hc0; rw [(hA.2.2.2.2.1 0 (by omega)).1] at h9; exact h9
  have hl0 : bt_of (i0 14) (i0 15) (i0 16) (i0 17) l.length = l := by rw [hc0.2.1 14 (by decide) (by decide) (by decide) (by decide), hc0.2.1 15 (by decide) (by decide) (by decide) (by decide), hc0.2.1 16 (by decide) (by decide) (by decide) (by decide), hc0.2.1 17 (by decide) (by decide) (by decide) (by decide)]; exact hR0.2.2.1
  refine v_cvX (pc := 7) (A := [.int (nI 0)]) (rest := []) (x := .int (if tb_ok (ma_fold [] (bg 0 ++ bt_adds 0 l)) = true then 1 else 0)) d_Mo_commit_7 lk_Mo_134 me_Mo_tryTable im_Mo_tryTable se_Mo_tryTable rfl h0.o rfl rfl (c_Mo_tryTable g h0 (t := 0) (B := bg 0) (l := l) (by omega) hB0 ((hc0.1 3 (by decide)).trans hR0.2.1) hA.2.2.1 hl0) (Nat.le_of_ble_eq_true rfl) (Nat.le_of_ble_eq_true rfl) (Nat.le_of_ble_eq_true rfl) (Nat.le_of_ble_eq_true rfl) (fun v1 ht1 => ?_)
  rw [← nb_tbl (wd := wd) (op := op) (bg := bg) (l := l) (show 0 < 3 by decide)] at ht1 ⊢
  have hm1 : mo_ms w1 b (va_up sc 0 (nI 0)) ia la wd op bg l 1 v1 := mo_ms.try hA (by omega) ok0 hf0 hc0 hb0 ht1
  obtain ⟨s1, i1, l1, h1, hf1, hc1, hb1⟩ := id hm1
  refine v_if_eq (pc := 10) (tgt := 33) d_Mo_commit_10 rfl (fun hc => ?_) (fun hc => ?_)
  · skip
    rw [zf] at hc
    have no3 : ¬ okf wd op bg l 3 = true := fun h => hc ((okf_t (by omega) ok0).mp (okf_le (by omega) h))
    have hm : mo_ms w1 b (va_up sc 0 (nI 0)) ia la wd op bg l 3 v1 := hm1.no no3
    refine v_iconst (pc := 33) (v := nI 0) d_Mo_commit_33 rfl ?_
    refine v_re (y := (if okf wd op bg l 3 = true then 1 else 0)) (zb0 no3) ?_
    refine v_istore_n (pc := 34) (L' := [(1, .int (if okf wd op bg l 3 = true then 1 else 0)), (0, .ref b)]) d_Mo_commit_34 rfl (by decide) rfl ?_
    refine v_iconst (pc := 35) (v := nI 3) d_Mo_commit_35 rfl ?_
    refine v_istore_n (pc := 36) (L' := [(2, .int (nI 3)), (1, .int (if okf wd op bg l 3 = true then 1 else 0)), (0, .ref b)]) d_Mo_commit_36 rfl (by decide) rfl ?_
    refine v_sub (L' := [(2, .int (nI 3)), (1, .int (if okf wd op bg l 3 = true then 1 else 0)), (0, .ref b)]) (by simp) ?_
    refine lp1_Mo_commit g hM1 hA hR0 (fun w5 hms => ?_) (n - 3) 3 _ rfl (by omega) hA.1 hm
    exact hK w1 w5 hq1 hms
  · skip
    rw [zt] at hc
    have ok1 : okf wd op bg l 1 = true := (okf_t (by omega) ok0).mpr hc
    refine v_aload_n (pc := 13) d_Mo_commit_13 rfl rfl ?_
    refine v_iconst (pc := 14) (v := nI 1) d_Mo_commit_14 rfl ?_
    have hB1 : BK i1 l1 1 2 (bg 1) := by have h9 := (hR0.2.2.2.1 1 (by omega)).2.2.c12 (hA.2.2.2.1 1 (by omega)).2.1 (by omega) hc1; rw [(hA.2.2.2.2.1 1 (by omega)).1] at h9; exact h9
    have hl1 : bt_of (i1 14) (i1 15) (i1 16) (i1 17) l.length = l := by rw [hc1.2.1 14 (by decide) (by decide) (by decide) (by decide), hc1.2.1 15 (by decide) (by decide) (by decide) (by decide), hc1.2.1 16 (by decide) (by decide) (by decide) (by decide), hc1.2.1 17 (by decide) (by decide) (by decide) (by decide)]; exact hR0.2.2.1
    refine v_cvX (pc := 15) (A := [.int (nI 1)]) (rest := []) (x := .int (if tb_ok (ma_fold [] (bg 1 ++ bt_adds 1 l)) = true then 1 else 0)) d_Mo_commit_15 lk_Mo_134 me_Mo_tryTable im_Mo_tryTable se_Mo_tryTable rfl h1.o rfl rfl (c_Mo_tryTable g h1 (t := 1) (B := bg 1) (l := l) (by omega) hB1 ((hc1.1 3 (by decide)).trans hR0.2.1) hA.2.2.1 hl1) (Nat.le_of_ble_eq_true rfl) (Nat.le_of_ble_eq_true rfl) (Nat.le_of_ble_eq_true rfl) (Nat.le_of_ble_eq_true rfl) (fun v2 ht2 => ?_)
    rw [← nb_tbl (wd := wd) (op := op) (bg := bg) (l := l) (show 1 < 3 by decide)] at ht2 ⊢
    have hm2 : mo_ms w1 b (va_up sc 0 (nI 0)) ia la wd op bg l 2 v2 := mo_ms.try hA (by omega) ok1 hf1 hc1 hb1 ht2
    obtain ⟨s2, i2, l2, h2, hf2, hc2, hb2⟩ := id hm2
    refine v_if_eq (pc := 18) (tgt := 33) d_Mo_commit_18 rfl (fun hc => ?_) (fun hc => ?_)
    · skip
      rw [zf] at hc
      have no3 : ¬ okf wd op bg l 3 = true := fun h => hc ((okf_t (by omega) ok1).mp (okf_le (by omega) h))
      have hm : mo_ms w1 b (va_up sc 0 (nI 0)) ia la wd op bg l 3 v2 := hm2.no no3
      refine v_iconst (pc := 33) (v := nI 0) d_Mo_commit_33 rfl ?_
      refine v_re (y := (if okf wd op bg l 3 = true then 1 else 0)) (zb0 no3) ?_
      refine v_istore_n (pc := 34) (L' := [(1, .int (if okf wd op bg l 3 = true then 1 else 0)), (0, .ref b)]) d_Mo_commit_34 rfl (by decide) rfl ?_
      refine v_iconst (pc := 35) (v := nI 3) d_Mo_commit_35 rfl ?_
      refine v_istore_n (pc := 36) (L' := [(2, .int (nI 3)), (1, .int (if okf wd op bg l 3 = true then 1 else 0)), (0, .ref b)]) d_Mo_commit_36 rfl (by decide) rfl ?_
      refine v_sub (L' := [(2, .int (nI 3)), (1, .int (if okf wd op bg l 3 = true then 1 else 0)), (0, .ref b)]) (by simp) ?_
      refine lp1_Mo_commit g hM1 hA hR0 (fun w5 hms => ?_) (n - 3) 3 _ rfl (by omega) hA.1 hm
      exact hK w1 w5 hq1 hms
    · skip
      rw [zt] at hc
      have ok2 : okf wd op bg l 2 = true := (okf_t (by omega) ok1).mpr hc
      refine v_aload_n (pc := 21) d_Mo_commit_21 rfl rfl ?_
      refine v_iconst (pc := 22) (v := nI 2) d_Mo_commit_22 rfl ?_
      have hB2 : BK i2 l2 2 2 (bg 2) := by have h9 := (hR0.2.2.2.1 2 (by omega)).2.2.c12 (hA.2.2.2.1 2 (by omega)).2.1 (by omega) hc2; rw [(hA.2.2.2.2.1 2 (by omega)).1] at h9; exact h9
      have hl2 : bt_of (i2 14) (i2 15) (i2 16) (i2 17) l.length = l := by rw [hc2.2.1 14 (by decide) (by decide) (by decide) (by decide), hc2.2.1 15 (by decide) (by decide) (by decide) (by decide), hc2.2.1 16 (by decide) (by decide) (by decide) (by decide), hc2.2.1 17 (by decide) (by decide) (by decide) (by decide)]; exact hR0.2.2.1
      refine v_cvX (pc := 23) (A := [.int (nI 2)]) (rest := []) (x := .int (if tb_ok (ma_fold [] (bg 2 ++ bt_adds 2 l)) = true then 1 else 0)) d_Mo_commit_23 lk_Mo_134 me_Mo_tryTable im_Mo_tryTable se_Mo_tryTable rfl h2.o rfl rfl (c_Mo_tryTable g h2 (t := 2) (B := bg 2) (l := l) (by omega) hB2 ((hc2.1 3 (by decide)).trans hR0.2.1) hA.2.2.1 hl2) (Nat.le_of_ble_eq_true rfl) (Nat.le_of_ble_eq_true rfl) (Nat.le_of_ble_eq_true rfl) (Nat.le_of_ble_eq_true rfl) (fun v3 ht3 => ?_)
      rw [← nb_tbl (wd := wd) (op := op) (bg := bg) (l := l) (show 2 < 3 by decide)] at ht3 ⊢
      have hm3 : mo_ms w1 b (va_up sc 0 (nI 0)) ia la wd op bg l 3 v3 := mo_ms.try hA (by omega) ok2 hf2 hc2 hb2 ht3
      obtain ⟨s3, i3, l3, h3, hf3, hc3, hb3⟩ := id hm3
      refine v_if_eq (pc := 26) (tgt := 33) d_Mo_commit_26 rfl (fun hc => ?_) (fun hc => ?_)
      · skip
        rw [zf] at hc
        have no3 : ¬ okf wd op bg l 3 = true := fun h => hc ((okf_t (by omega) ok2).mp (okf_le (by omega) h))
        have hm : mo_ms w1 b (va_up sc 0 (nI 0)) ia la wd op bg l 3 v3 := hm3.no no3
        refine v_iconst (pc := 33) (v := nI 0) d_Mo_commit_33 rfl ?_
        refine v_re (y := (if okf wd op bg l 3 = true then 1 else 0)) (zb0 no3) ?_
        refine v_istore_n (pc := 34) (L' := [(1, .int (if okf wd op bg l 3 = true then 1 else 0)), (0, .ref b)]) d_Mo_commit_34 rfl (by decide) rfl ?_
        refine v_iconst (pc := 35) (v := nI 3) d_Mo_commit_35 rfl ?_
        refine v_istore_n (pc := 36) (L' := [(2, .int (nI 3)), (1, .int (if okf wd op bg l 3 = true then 1 else 0)), (0, .ref b)]) d_Mo_commit_36 rfl (by decide) rfl ?_
        refine v_sub (L' := [(2, .int (nI 3)), (1, .int (if okf wd op bg l 3 = true then 1 else 0)), (0, .ref b)]) (by simp) ?_
        refine lp1_Mo_commit g hM1 hA hR0 (fun w5 hms => ?_) (n - 3) 3 _ rfl (by omega) hA.1 hm
        exact hK w1 w5 hq1 hms
      · skip
        rw [zt] at hc
        have ok3 : okf wd op bg l 3 = true := (okf_t (by omega) ok2).mpr hc
        have hm : mo_ms w1 b (va_up sc 0 (nI 0)) ia la wd op bg l 3 v3 := hm3
        refine v_iconst (pc := 29) (v := nI 1) d_Mo_commit_29 rfl ?_
        refine v_re (y := (if okf wd op bg l 3 = true then 1 else 0)) (zb1 ok3) ?_
        refine v_goto (pc := 30) (tgt := 34) d_Mo_commit_30 rfl ?_
        refine v_istore_n (pc := 34) (L' := [(1, .int (if okf wd op bg l 3 = true then 1 else 0)), (0, .ref b)]) d_Mo_commit_34 rfl (by decide) rfl ?_
        refine v_iconst (pc := 35) (v := nI 3) d_Mo_commit_35 rfl ?_
        refine v_istore_n (pc := 36) (L' := [(2, .int (nI 3)), (1, .int (if okf wd op bg l 3 = true then 1 else 0)), (0, .ref b)]) d_Mo_commit_36 rfl (by decide) rfl ?_
        refine v_sub (L' := [(2, .int (nI 3)), (1, .int (if okf wd op bg l 3 = true then 1 else 0)), (0, .ref b)]) (by simp) ?_
        refine lp1_Mo_commit g hM1 hA hR0 (fun w5 hms => ?_) (n - 3) 3 _ rfl (by omega) hA.1 hm
        exact hK w1 w5 hq1 hms
