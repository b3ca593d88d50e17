/-! project and many -/
def pcols (a : As) (e cols : Int32) (m : Nat) : Bool := (List.range m).all (fun c => decide (isC a e (nI (colN cols c))))
theorem pcols_s (a : As) (e cols : Int32) (m : Nat) : pcols a e cols (m + 1) = true ↔ pcols a e cols m = true ∧ isC a e (nI (colN cols m)) := by
  unfold pcols
  rw [List.range_succ, List.all_append, Bool.and_eq_true, List.all_cons, List.all_nil, Bool.and_true, decide_eq_true_eq]
theorem pcols_at {a : As} {e cols : Int32} {m : Nat} (h : pcols a e cols m = true) : ∀ c, c < m → isC a e (nI (colN cols c)) := by
  unfold pcols at h
  rw [List.all_eq_true] at h
  intro c hc
  have := h c (List.mem_range.mpr hc)
  rw [decide_eq_true_eq] at this
  exact this
theorem row4 {f : Nat → Int32} {w r : Nat} {x y z u : Int32} (h1 : 1 ≤ w) (h4 : w ≤ 4) : ar_row f w r = [x, y, z, u].take w ↔ f (r + 0) = x ∧ (w < 2 ∨ f (r + 1) = y) ∧ (w < 3 ∨ f (r + 2) = z) ∧ (w < 4 ∨ f (r + 3) = u) := by
  have h : w = 1 ∨ w = 2 ∨ w = 3 ∨ w = 4 := by omega
  rcases h with rfl | rfl | rfl | rfl <;> simp [ar_row, List.range_succ]
set_option maxRecDepth 100000 in
set_option maxHeartbeats 4000000 in
theorem lp_Mo_project (g : Gl) {w0 w : Wd} {b sz : Nat} {sc : Nat → Int32} {ia : Nat → Nat → Int32} {la : Nat → Nat → Int64} (hM : MAt w b sc ia la) {a : As} (hA : AWa a) (hR : RAa sc ia la a) {e cols : Int32} {m : Nat} (hm : m ≤ 4) {E : Rs → Wd → Nat → Prop} (K : VV g 5 0 0 mi_Mo_project w0 sz E 62 [(5, .int (nI m)), (4, .int (if (isV a e ∧ pcols a e cols m = true) then 1 else 0)), (0, .ref b), (1, .int e), (2, .int (nI m)), (3, .int cols)] [] w sz 0 0) : ∀ (zz : Nat) (k : Nat), m - k = zz → k ≤ m → VV g 5 0 0 mi_Mo_project w0 sz E 10 [(5, .int (nI k)), (4, .int (if (isV a e ∧ pcols a e cols k = true) then 1 else 0)), (0, .ref b), (1, .int e), (2, .int (nI m)), (3, .int cols)] [] w sz 0 0 := by
  intro zz
  induction zz using Nat.strongRecOn with | _ zz ih => _
  intro k hnn hkm
  refine v_iload (pc := 10) d_Mo_project_10 rfl ?_
  refine v_iload_n (pc := 12) d_Mo_project_12 rfl rfl ?_
  refine v_icmp_ge (pc := 13) (tgt := 62) d_Mo_project_13 rfl (fun hc => ?_) (fun hc => ?_)
  · skip
    rw [nI_leI (by omega) (by omega)] at hc
    obtain rfl : k = m := by omega
    exact K
  · skip
    rw [nI_leI (by omega) (by omega)] at hc
    refine v_iload (pc := 16) d_Mo_project_16 rfl ?_
    refine v_iconst (pc := 18) (v := nI 4) d_Mo_project_18 rfl ?_
    refine v_icmp_ge (pc := 19) (tgt := 62) d_Mo_project_19 rfl (fun hc => ?_) (fun hc => ?_)
    · skip
      rw [nI_leI (by omega) (by omega)] at hc
      exact absurd hc (by omega)
    · skip
      rw [nI_leI (by omega) (by omega)] at hc
      refine v_iload_n (pc := 22) d_Mo_project_22 rfl rfl ?_
      refine v_iconst (pc := 23) (v := nI 5) d_Mo_project_23 rfl ?_
      refine v_icmp_ge (pc := 24) (tgt := 62) d_Mo_project_24 rfl (fun hc => ?_) (fun hc => ?_)
      · skip
        rw [nI_leI (by omega) (by omega)] at hc
        exact absurd hc (by omega)
      · skip
        rw [nI_leI (by omega) (by omega)] at hc
        refine v_iload (pc := 27) d_Mo_project_27 rfl ?_
        refine v_if_eq (pc := 29) (tgt := 53) d_Mo_project_29 rfl (fun hc => ?_) (fun hc => ?_)
        · skip
          rw [zf] at hc
          have hv0 : ¬ (isV a e ∧ pcols a e cols (k + 1) = true) := fun h => hc ⟨h.1, ((pcols_s a e cols k).mp h.2).1⟩
          refine v_iconst (pc := 53) (v := nI 0) d_Mo_project_53 rfl ?_
          refine v_re (y := (if (isV a e ∧ pcols a e cols (k + 1) = true) then 1 else 0)) (zb0 hv0) ?_
          refine v_istore (pc := 54) (L' := [(4, .int (if (isV a e ∧ pcols a e cols (k + 1) = true) then 1 else 0)), (5, .int (nI k)), (0, .ref b), (1, .int e), (2, .int (nI m)), (3, .int cols)]) d_Mo_project_54 (by decide) rfl ?_
          refine v_iinc (pc := 56) (L' := [(5, .int (nI (k + 1))), (4, .int (if (isV a e ∧ pcols a e cols (k + 1) = true) then 1 else 0)), (0, .ref b), (1, .int e), (2, .int (nI m)), (3, .int cols)]) d_Mo_project_56 rfl (ix_inc _) (by decide) rfl ?_
          refine v_goto (pc := 59) (tgt := 10) d_Mo_project_59 rfl ?_
          refine v_sub (L' := [(5, .int (nI (k + 1))), (4, .int (if (isV a e ∧ pcols a e cols (k + 1) = true) then 1 else 0)), (0, .ref b), (1, .int e), (2, .int (nI m)), (3, .int cols)]) (by simp) ?_
          exact ih (m - (k + 1)) (by omega) (k + 1) rfl (by omega)
        · skip
          rw [zt] at hc
          have hb := hc
          refine v_aload_n (pc := 32) d_Mo_project_32 rfl rfl ?_
          refine v_iload_n (pc := 33) d_Mo_project_33 rfl rfl ?_
          refine v_iload_n (pc := 34) d_Mo_project_34 rfl rfl ?_
          refine v_iconst (pc := 35) (v := nI 4) d_Mo_project_35 rfl ?_
          refine v_iload (pc := 36) d_Mo_project_36 rfl ?_
          refine v_imul (pc := 38) d_Mo_project_38 ?_
          refine v_re (pk_mul 4 k) ?_
          refine v_ishr (pc := 39) d_Mo_project_39 ?_
          refine v_bipush (pc := 40) (v := nI 15) d_Mo_project_40 rfl ?_
          refine v_iand (pc := 42) d_Mo_project_42 ?_
          refine v_re (y := (nI (colN cols k))) (colN_eq cols k) ?_
          refine v_cvR (pc := 43) (A := [.int e, .int (nI (colN cols k))]) (rest := []) (x := .int (if isC a e (nI (colN cols k)) then 1 else 0)) d_Mo_project_43 lk_Mo_148 me_Mo_isColumn im_Mo_isColumn se_Mo_isColumn rfl hM.o rfl rfl (c_Mo_isColumn g hM hA hR e (nI (colN cols k))) (Nat.le_of_ble_eq_true rfl) (Nat.le_of_ble_eq_true rfl) (Nat.le_of_ble_eq_true rfl) (Nat.le_of_ble_eq_true rfl) ?_
          refine v_if_eq (pc := 46) (tgt := 53) d_Mo_project_46 rfl (fun hc => ?_) (fun hc => ?_)
          · skip
            rw [zf] at hc
            have hv0 : ¬ (isV a e ∧ pcols a e cols (k + 1) = true) := fun h => hc ((pcols_s a e cols k).mp h.2).2
            refine v_iconst (pc := 53) (v := nI 0) d_Mo_project_53 rfl ?_
            refine v_re (y := (if (isV a e ∧ pcols a e cols (k + 1) = true) then 1 else 0)) (zb0 hv0) ?_
            refine v_istore (pc := 54) (L' := [(4, .int (if (isV a e ∧ pcols a e cols (k + 1) = true) then 1 else 0)), (5, .int (nI k)), (0, .ref b), (1, .int e), (2, .int (nI m)), (3, .int cols)]) d_Mo_project_54 (by decide) rfl ?_
            refine v_iinc (pc := 56) (L' := [(5, .int (nI (k + 1))), (4, .int (if (isV a e ∧ pcols a e cols (k + 1) = true) then 1 else 0)), (0, .ref b), (1, .int e), (2, .int (nI m)), (3, .int cols)]) d_Mo_project_56 rfl (ix_inc _) (by decide) rfl ?_
            refine v_goto (pc := 59) (tgt := 10) d_Mo_project_59 rfl ?_
            refine v_sub (L' := [(5, .int (nI (k + 1))), (4, .int (if (isV a e ∧ pcols a e cols (k + 1) = true) then 1 else 0)), (0, .ref b), (1, .int e), (2, .int (nI m)), (3, .int cols)]) (by simp) ?_
            exact ih (m - (k + 1)) (by omega) (k + 1) rfl (by omega)
          · skip
            rw [zt] at hc
            have hv1 : (isV a e ∧ pcols a e cols (k + 1) = true) := ⟨hb.1, (pcols_s a e cols k).mpr ⟨hb.2, hc⟩⟩
            refine v_iconst (pc := 49) (v := nI 1) d_Mo_project_49 rfl ?_
            refine v_re (y := (if (isV a e ∧ pcols a e cols (k + 1) = true) then 1 else 0)) (zb1 hv1) ?_
            refine v_goto (pc := 50) (tgt := 54) d_Mo_project_50 rfl ?_
            refine v_istore (pc := 54) (L' := [(4, .int (if (isV a e ∧ pcols a e cols (k + 1) = true) then 1 else 0)), (5, .int (nI k)), (0, .ref b), (1, .int e), (2, .int (nI m)), (3, .int cols)]) d_Mo_project_54 (by decide) rfl ?_
            refine v_iinc (pc := 56) (L' := [(5, .int (nI (k + 1))), (4, .int (if (isV a e ∧ pcols a e cols (k + 1) = true) then 1 else 0)), (0, .ref b), (1, .int e), (2, .int (nI m)), (3, .int cols)]) d_Mo_project_56 rfl (ix_inc _) (by decide) rfl ?_
            refine v_goto (pc := 59) (tgt := 10) d_Mo_project_59 rfl ?_
            refine v_sub (L' := [(5, .int (nI (k + 1))), (4, .int (if (isV a e ∧ pcols a e cols (k + 1) = true) then 1 else 0)), (0, .ref b), (1, .int e), (2, .int (nI m)), (3, .int cols)]) (by simp) ?_
            exact ih (m - (k + 1)) (by omega) (k + 1) rfl (by omega)
set_option maxRecDepth 100000 in
set_option maxHeartbeats 4000000 in
theorem c_Mo_project_in (g : Gl) {w : Wd} {b sz : Nat} {sc : Nat → Int32} {ia : Nat → Nat → Int32} {la : Nat → Nat → Int64} (hM : MAt w b sc ia la) {a : As} (hA : AWa a) (hR : RAa sc ia la a) (e cols : Int32) {m : Nat} (hm1 : 1 ≤ m) (hm4 : m ≤ 4) (hin : nI 1 ≤ nI m ∧ nI m ≤ nI 4) : CT g 5 0 0 mi_Mo_project [.ref b, .int e, .int (nI m), .int cols] w sz (RE w b sz (if isV a e then if nI 1 ≤ (nI m) ∧ (nI m) ≤ nI 4 then if pcols a e cols m = true then if fits a (2, i2n e, 0, cols, 0, 0) m = true then 0 else 3 else 1 else 2 else 1) (.int (if isV a e then if nI 1 ≤ (nI m) ∧ (nI m) ≤ nI 4 then if pcols a e cols m = true then if fits a (2, i2n e, 0, cols, 0, 0) m = true then nI a.1 else nI 0 else nI 0 else nI 0 else nI 0)) (if isV a e then if nI 1 ≤ (nI m) ∧ (nI m) ≤ nI 4 then if pcols a e cols m = true then if fits a (2, i2n e, 0, cols, 0, 0) m = true then mkv a (2, i2n e, 0, cols, 0, 0) m else a else a else a else a)) := by
  refine CT.of (by decide) (Nat.le_of_ble_eq_true rfl) ?_
  refine v_aload_n (pc := 0) d_Mo_project_0 rfl rfl ?_
  refine v_iload_n (pc := 1) d_Mo_project_1 rfl rfl ?_
  refine v_cvR (pc := 2) (A := [.int e]) (rest := []) (x := .int (if isV a e then 1 else 0)) d_Mo_project_2 lk_Mo_145 me_Mo_isView im_Mo_isView se_Mo_isView rfl hM.o rfl rfl (c_Mo_isViewA g hM hR e) (Nat.le_of_ble_eq_true rfl) (Nat.le_of_ble_eq_true rfl) (Nat.le_of_ble_eq_true rfl) (Nat.le_of_ble_eq_true rfl) ?_
  refine v_re (y := (if (isV a e ∧ pcols a e cols 0 = true) then 1 else 0)) (by by_cases h9 : isV a e; (rw [if_pos h9, if_pos ⟨h9, rfl⟩]); (rw [if_neg h9, if_neg (fun h => h9 h.1)])) ?_
  refine v_istore (pc := 5) (L' := [(4, .int (if (isV a e ∧ pcols a e cols 0 = true) then 1 else 0)), (0, .ref b), (1, .int e), (2, .int (nI m)), (3, .int cols)]) d_Mo_project_5 (by decide) rfl ?_
  refine v_iconst (pc := 7) (v := nI 0) d_Mo_project_7 rfl ?_
  refine v_istore (pc := 8) (L' := [(5, .int (nI 0)), (4, .int (if (isV a e ∧ pcols a e cols 0 = true) then 1 else 0)), (0, .ref b), (1, .int e), (2, .int (nI m)), (3, .int cols)]) d_Mo_project_8 (by decide) rfl ?_
  refine v_sub (L' := [(5, .int (nI 0)), (4, .int (if (isV a e ∧ pcols a e cols 0 = true) then 1 else 0)), (0, .ref b), (1, .int e), (2, .int (nI m)), (3, .int cols)]) (by simp) ?_
  refine lp_Mo_project g hM hA hR hm4 ?_ m 0 rfl (by omega)
  refine v_aload_n (pc := 62) d_Mo_project_62 rfl rfl ?_
  refine v_iload (pc := 63) d_Mo_project_63 rfl ?_
  refine v_if_ne (pc := 65) (tgt := 72) d_Mo_project_65 rfl (fun hc => ?_) (fun hc => ?_)
  · skip
    rw [zt] at hc
    have hpt := hc
    refine v_iload_n (pc := 72) d_Mo_project_72 rfl rfl ?_
    refine v_iconst (pc := 73) (v := nI 1) d_Mo_project_73 rfl ?_
    refine v_icmp_lt (pc := 74) (tgt := 82) d_Mo_project_74 rfl (fun hc => ?_) (fun hc => ?_)
    · skip
      rw [nI_ltI (by omega) (by omega)] at hc
      exact absurd hc (by omega)
    · skip
      rw [nI_ltI (by omega) (by omega)] at hc
      refine v_iload_n (pc := 77) d_Mo_project_77 rfl rfl ?_
      refine v_iconst (pc := 78) (v := nI 4) d_Mo_project_78 rfl ?_
      refine v_icmp_le (pc := 79) (tgt := 86) d_Mo_project_79 rfl (fun hc => ?_) (fun hc => ?_)
      · skip
        rw [nI_leI (by omega) (by omega)] at hc
        refine v_iconst (pc := 86) (v := nI 0) d_Mo_project_86 rfl ?_
        refine v_putW (pc := 87) (fs' := (mo_fs b (va_up sc 0 (nI 0)))) d_Mo_project_87 fl_Mo_69 (fi_Mo_69 _) (ok_Mo_0 _) hM.o (Nat.le_of_ble_eq_true rfl) rfl (fun w1 hn1 hq1 => ?_)
        have h1 := hM.n0 hn1 hq1
        have hfr1 : mo_fr b w w1 := mo_fr.rf.at ⟨by omega, by omega⟩ hq1
        have hth : (va_up sc 0 (nI 0)) 0 = nI 0 := rfl
        refine v_aload_n (pc := 90) d_Mo_project_90 rfl rfl ?_
        refine v_get (pc := 91) d_Mo_project_91 fl_Mo_69 h1.o rfl ?_
        refine v_re hth ?_
        refine v_if_le (pc := 94) (tgt := 99) d_Mo_project_94 rfl (fun hc => ?_) (fun hc => ?_)
        · skip
          have hv := hpt.1
          have hp := hpt.2
          obtain ⟨k, hk1, hk2, hk3⟩ := isV_n hpt.1 hA.2.1
          have hk12 := hA.2.1
          subst hk1
          have hcl : ∀ c, c < m → colN cols c < a.2.1 k := fun c hcc => by have h9 := (pcols_at hp c hcc).2.2; rw [hk3, nI_ltI (by have := colN_lt cols c; omega) (by have := (hA.2.2.2.1 k hk2).2.1; omega)] at h9; exact h9
          refine v_aload_n (pc := 99) d_Mo_project_99 rfl rfl ?_
          refine v_iload_n (pc := 100) d_Mo_project_100 rfl rfl ?_
          refine v_iconst (pc := 101) (v := nI 0) d_Mo_project_101 rfl ?_
          refine v_iconst (pc := 102) (v := nI 0) d_Mo_project_102 rfl ?_
          have hs1 : (va_up sc 0 (nI 0)) 1 = nI a.1 := hR.1
          refine v_cvV (pc := 103) (A := [.int cols, .int (nI 0), .int (nI 0)]) (rest := []) d_Mo_project_103 lk_Mo_151 me_Mo_told im_Mo_told se_Mo_told rfl h1.o rfl rfl (c_Mo_told g h1 (n := a.1) hs1 hA.2.1 (cols) (nI 0) (nI 0)) (Nat.le_of_ble_eq_true rfl) (Nat.le_of_ble_eq_true rfl) (Nat.le_of_ble_eq_true rfl) (Nat.le_of_ble_eq_true rfl) (fun w2 htl => ?_)
          obtain ⟨f4, f5, f6, h2, hfr2, hnew, hold⟩ := htl
          have hR2 : RAa (va_up sc 0 (nI 0)) (va_up (va_up (va_up ia 4 f4) 5 f5) 6 f6) la a := RAa.told (show RAa (va_up sc 0 (nI 0)) ia la a from hR) hold
          refine v_aload_n (pc := 106) d_Mo_project_106 rfl rfl ?_
          refine v_iconst (pc := 107) (v := nI 2) d_Mo_project_107 rfl ?_
          refine v_iload_n (pc := 108) d_Mo_project_108 rfl rfl ?_
          refine v_iconst (pc := 109) (v := nI 0) d_Mo_project_109 rfl ?_
          refine v_iload_n (pc := 110) d_Mo_project_110 rfl rfl ?_
          refine v_iconst (pc := 111) (v := nI 3) d_Mo_project_111 rfl ?_
          refine v_cvX (pc := 112) (A := [.int (nI 2), .int (nI k), .int (nI 0), .int (nI m), .int (nI 3)]) (rest := []) (x := .int (if fits a (2, k, 0, cols, 0, 0) m = true then nI a.1 else nI 0)) d_Mo_project_112 lk_Mo_154 me_Mo_make im_Mo_make se_Mo_make rfl h2.o rfl rfl (c_Mo_make g h2 hA hR2 (kd := 2) (e := k) (f := 0) (wv := m) (cd := 3) (P := cols) (Q := 0) (R := 0) (fun h _ _ => hnew h) (fun _ => wo_prj hA hk2 hm1 hm4 hcl)) (Nat.le_of_ble_eq_true rfl) (Nat.le_of_ble_eq_true rfl) (Nat.le_of_ble_eq_true rfl) (Nat.le_of_ble_eq_true rfl) (fun w3 hmk => ?_)
          exact v_iret (pc := 115) d_Mo_project_115 rfl (Nat.le_of_ble_eq_true rfl) (Nat.le_of_ble_eq_true rfl) ⟨by rw [if_pos hv, if_pos hin, if_pos hp, hk3], rfl, (hfr1.tr hfr2).tr hmk.1, by simp only [if_pos hv, if_pos hin, if_pos hp, hk3]; exact mk_fin hmk.2⟩
        · skip
          exact absurd hc (by decide)
      · skip
        rw [nI_leI (by omega) (by omega)] at hc
        exact absurd hc (by omega)
  · skip
    rw [zf] at hc
    have hpt := hc
    refine v_iconst (pc := 68) (v := nI 1) d_Mo_project_68 rfl ?_
    refine v_goto (pc := 69) (tgt := 87) d_Mo_project_69 rfl ?_
    refine v_putW (pc := 87) (fs' := (mo_fs b (va_up sc 0 (nI 1)))) d_Mo_project_87 fl_Mo_69 (fi_Mo_69 _) (ok_Mo_0 _) hM.o (Nat.le_of_ble_eq_true rfl) rfl (fun w1 hn1 hq1 => ?_)
    have h1 := hM.n0 hn1 hq1
    have hfr1 : mo_fr b w w1 := mo_fr.rf.at ⟨by omega, by omega⟩ hq1
    have hth : (va_up sc 0 (nI 1)) 0 = nI 1 := rfl
    refine v_aload_n (pc := 90) d_Mo_project_90 rfl rfl ?_
    refine v_get (pc := 91) d_Mo_project_91 fl_Mo_69 h1.o rfl ?_
    refine v_re hth ?_
    refine v_if_le (pc := 94) (tgt := 99) d_Mo_project_94 rfl (fun hc => ?_) (fun hc => ?_)
    · skip
      exact absurd hc (by decide)
    · skip
      refine v_iconst (pc := 97) (v := nI 0) d_Mo_project_97 rfl ?_
      by_cases hv : isV a e
      · have hp : ¬ pcols a e cols m = true := fun h => hpt ⟨hv, h⟩
        exact v_iret (pc := 98) d_Mo_project_98 rfl (Nat.le_of_ble_eq_true rfl) (Nat.le_of_ble_eq_true rfl) ⟨by rw [if_pos hv, if_pos hin, if_neg hp], rfl, hfr1, by simp only [if_pos hv, if_pos hin, if_neg hp]; exact ⟨_, _, _, h1, rfl, hR⟩⟩
      · exact v_iret (pc := 98) d_Mo_project_98 rfl (Nat.le_of_ble_eq_true rfl) (Nat.le_of_ble_eq_true rfl) ⟨by rw [if_neg hv], rfl, hfr1, by simp only [if_neg hv]; exact ⟨_, _, _, h1, rfl, hR⟩⟩
set_option maxRecDepth 100000 in
set_option maxHeartbeats 4000000 in
theorem c_Mo_project_out (g : Gl) {w : Wd} {b sz : Nat} {sc : Nat → Int32} {ia : Nat → Nat → Int32} {la : Nat → Nat → Int64} (hM : MAt w b sc ia la) {a : As} (hA : AWa a) (hR : RAa sc ia la a) (e n cols : Int32) (hin : ¬ (nI 1 ≤ n ∧ n ≤ nI 4)) : CT g 5 0 0 mi_Mo_project [.ref b, .int e, .int n, .int cols] w sz (RE w b sz (if isV a e then if nI 1 ≤ n ∧ n ≤ nI 4 then if pcols a e cols (i2n n) = true then if fits a (2, i2n e, 0, cols, 0, 0) (i2n n) = true then 0 else 3 else 1 else 2 else 1) (.int (if isV a e then if nI 1 ≤ n ∧ n ≤ nI 4 then if pcols a e cols (i2n n) = true then if fits a (2, i2n e, 0, cols, 0, 0) (i2n n) = true then nI a.1 else nI 0 else nI 0 else nI 0 else nI 0)) (if isV a e then if nI 1 ≤ n ∧ n ≤ nI 4 then if pcols a e cols (i2n n) = true then if fits a (2, i2n e, 0, cols, 0, 0) (i2n n) = true then mkv a (2, i2n e, 0, cols, 0, 0) (i2n n) else a else a else a else a)) := by
  refine CT.of (by decide) (Nat.le_of_ble_eq_true rfl) ?_
  refine v_aload_n (pc := 0) d_Mo_project_0 rfl rfl ?_
  refine v_iload_n (pc := 1) d_Mo_project_1 rfl rfl ?_
  refine v_cvR (pc := 2) (A := [.int e]) (rest := []) (x := .int (if isV a e then 1 else 0)) d_Mo_project_2 lk_Mo_145 me_Mo_isView im_Mo_isView se_Mo_isView rfl hM.o rfl rfl (c_Mo_isViewA g hM hR e) (Nat.le_of_ble_eq_true rfl) (Nat.le_of_ble_eq_true rfl) (Nat.le_of_ble_eq_true rfl) (Nat.le_of_ble_eq_true rfl) ?_
  refine v_istore (pc := 5) (L' := [(4, .int (if isV a e then 1 else 0)), (0, .ref b), (1, .int e), (2, .int n), (3, .int cols)]) d_Mo_project_5 (by decide) rfl ?_
  refine v_iconst (pc := 7) (v := nI 0) d_Mo_project_7 rfl ?_
  refine v_istore (pc := 8) (L' := [(5, .int (nI 0)), (4, .int (if isV a e then 1 else 0)), (0, .ref b), (1, .int e), (2, .int n), (3, .int cols)]) d_Mo_project_8 (by decide) rfl ?_
  refine v_iload (pc := 10) d_Mo_project_10 rfl ?_
  refine v_iload_n (pc := 12) d_Mo_project_12 rfl rfl ?_
  refine v_icmp_ge (pc := 13) (tgt := 62) d_Mo_project_13 rfl (fun hc => ?_) (fun hc => ?_)
  · skip
    refine v_aload_n (pc := 62) d_Mo_project_62 rfl rfl ?_
    refine v_iload (pc := 63) d_Mo_project_63 rfl ?_
    refine v_if_ne (pc := 65) (tgt := 72) d_Mo_project_65 rfl (fun hc => ?_) (fun hc => ?_)
    · skip
      rw [zt] at hc
      have hv := hc
      refine v_iload_n (pc := 72) d_Mo_project_72 rfl rfl ?_
      refine v_iconst (pc := 73) (v := nI 1) d_Mo_project_73 rfl ?_
      refine v_icmp_lt (pc := 74) (tgt := 82) d_Mo_project_74 rfl (fun hc => ?_) (fun hc => ?_)
      · skip
        refine v_iconst (pc := 82) (v := nI 2) d_Mo_project_82 rfl ?_
        refine v_goto (pc := 83) (tgt := 87) d_Mo_project_83 rfl ?_
        refine v_putW (pc := 87) (fs' := (mo_fs b (va_up sc 0 (nI 2)))) d_Mo_project_87 fl_Mo_69 (fi_Mo_69 _) (ok_Mo_0 _) hM.o (Nat.le_of_ble_eq_true rfl) rfl (fun w1 hn1 hq1 => ?_)
        have h1 := hM.n0 hn1 hq1
        have hfr1 : mo_fr b w w1 := mo_fr.rf.at ⟨by omega, by omega⟩ hq1
        have hth : (va_up sc 0 (nI 2)) 0 = nI 2 := rfl
        refine v_aload_n (pc := 90) d_Mo_project_90 rfl rfl ?_
        refine v_get (pc := 91) d_Mo_project_91 fl_Mo_69 h1.o rfl ?_
        refine v_re hth ?_
        refine v_if_le (pc := 94) (tgt := 99) d_Mo_project_94 rfl (fun hc => ?_) (fun hc => ?_)
        · skip
          exact absurd hc (by decide)
        · skip
          refine v_iconst (pc := 97) (v := nI 0) d_Mo_project_97 rfl ?_
          exact v_iret (pc := 98) d_Mo_project_98 rfl (Nat.le_of_ble_eq_true rfl) (Nat.le_of_ble_eq_true rfl) ⟨by rw [if_pos hv, if_neg hin], rfl, hfr1, by simp only [if_pos hv, if_neg hin]; exact ⟨_, _, _, h1, rfl, hR⟩⟩
      · skip
        have h82 := hc
        refine v_iload_n (pc := 77) d_Mo_project_77 rfl rfl ?_
        refine v_iconst (pc := 78) (v := nI 4) d_Mo_project_78 rfl ?_
        refine v_icmp_le (pc := 79) (tgt := 86) d_Mo_project_79 rfl (fun hc => ?_) (fun hc => ?_)
        · skip
          exact absurd ⟨Int32.not_lt.mp h82, hc⟩ hin
        · skip
          refine v_iconst (pc := 82) (v := nI 2) d_Mo_project_82 rfl ?_
          refine v_goto (pc := 83) (tgt := 87) d_Mo_project_83 rfl ?_
          refine v_putW (pc := 87) (fs' := (mo_fs b (va_up sc 0 (nI 2)))) d_Mo_project_87 fl_Mo_69 (fi_Mo_69 _) (ok_Mo_0 _) hM.o (Nat.le_of_ble_eq_true rfl) rfl (fun w1 hn1 hq1 => ?_)
          have h1 := hM.n0 hn1 hq1
          have hfr1 : mo_fr b w w1 := mo_fr.rf.at ⟨by omega, by omega⟩ hq1
          have hth : (va_up sc 0 (nI 2)) 0 = nI 2 := rfl
          refine v_aload_n (pc := 90) d_Mo_project_90 rfl rfl ?_
          refine v_get (pc := 91) d_Mo_project_91 fl_Mo_69 h1.o rfl ?_
          refine v_re hth ?_
          refine v_if_le (pc := 94) (tgt := 99) d_Mo_project_94 rfl (fun hc => ?_) (fun hc => ?_)
          · skip
            exact absurd hc (by decide)
          · skip
            refine v_iconst (pc := 97) (v := nI 0) d_Mo_project_97 rfl ?_
            exact v_iret (pc := 98) d_Mo_project_98 rfl (Nat.le_of_ble_eq_true rfl) (Nat.le_of_ble_eq_true rfl) ⟨by rw [if_pos hv, if_neg hin], rfl, hfr1, by simp only [if_pos hv, if_neg hin]; exact ⟨_, _, _, h1, rfl, hR⟩⟩
    · skip
      rw [zf] at hc
      have hv := hc
      refine v_iconst (pc := 68) (v := nI 1) d_Mo_project_68 rfl ?_
      refine v_goto (pc := 69) (tgt := 87) d_Mo_project_69 rfl ?_
      refine v_putW (pc := 87) (fs' := (mo_fs b (va_up sc 0 (nI 1)))) d_Mo_project_87 fl_Mo_69 (fi_Mo_69 _) (ok_Mo_0 _) hM.o (Nat.le_of_ble_eq_true rfl) rfl (fun w1 hn1 hq1 => ?_)
      have h1 := hM.n0 hn1 hq1
      have hfr1 : mo_fr b w w1 := mo_fr.rf.at ⟨by omega, by omega⟩ hq1
      have hth : (va_up sc 0 (nI 1)) 0 = nI 1 := rfl
      refine v_aload_n (pc := 90) d_Mo_project_90 rfl rfl ?_
      refine v_get (pc := 91) d_Mo_project_91 fl_Mo_69 h1.o rfl ?_
      refine v_re hth ?_
      refine v_if_le (pc := 94) (tgt := 99) d_Mo_project_94 rfl (fun hc => ?_) (fun hc => ?_)
      · skip
        exact absurd hc (by decide)
      · skip
        refine v_iconst (pc := 97) (v := nI 0) d_Mo_project_97 rfl ?_
        exact v_iret (pc := 98) d_Mo_project_98 rfl (Nat.le_of_ble_eq_true rfl) (Nat.le_of_ble_eq_true rfl) ⟨by rw [if_neg hv], rfl, hfr1, by simp only [if_neg hv]; exact ⟨_, _, _, h1, rfl, hR⟩⟩
  · skip
    have h10 := hc
    refine v_iload (pc := 16) d_Mo_project_16 rfl ?_
    refine v_iconst (pc := 18) (v := nI 4) d_Mo_project_18 rfl ?_
    refine v_icmp_ge (pc := 19) (tgt := 62) d_Mo_project_19 rfl (fun hc => ?_) (fun hc => ?_)
    · skip
      rw [nI_leI (by omega) (by omega)] at hc
      exact absurd hc (by decide)
    · skip
      rw [nI_leI (by omega) (by omega)] at hc
      refine v_iload_n (pc := 22) d_Mo_project_22 rfl rfl ?_
      refine v_iconst (pc := 23) (v := nI 5) d_Mo_project_23 rfl ?_
      refine v_icmp_ge (pc := 24) (tgt := 62) d_Mo_project_24 rfl (fun hc => ?_) (fun hc => ?_)
      · skip
        refine v_aload_n (pc := 62) d_Mo_project_62 rfl rfl ?_
        refine v_iload (pc := 63) d_Mo_project_63 rfl ?_
        refine v_if_ne (pc := 65) (tgt := 72) d_Mo_project_65 rfl (fun hc => ?_) (fun hc => ?_)
        · skip
          rw [zt] at hc
          have hv := hc
          refine v_iload_n (pc := 72) d_Mo_project_72 rfl rfl ?_
          refine v_iconst (pc := 73) (v := nI 1) d_Mo_project_73 rfl ?_
          refine v_icmp_lt (pc := 74) (tgt := 82) d_Mo_project_74 rfl (fun hc => ?_) (fun hc => ?_)
          · skip
            refine v_iconst (pc := 82) (v := nI 2) d_Mo_project_82 rfl ?_
            refine v_goto (pc := 83) (tgt := 87) d_Mo_project_83 rfl ?_
            refine v_putW (pc := 87) (fs' := (mo_fs b (va_up sc 0 (nI 2)))) d_Mo_project_87 fl_Mo_69 (fi_Mo_69 _) (ok_Mo_0 _) hM.o (Nat.le_of_ble_eq_true rfl) rfl (fun w1 hn1 hq1 => ?_)
            have h1 := hM.n0 hn1 hq1
            have hfr1 : mo_fr b w w1 := mo_fr.rf.at ⟨by omega, by omega⟩ hq1
            have hth : (va_up sc 0 (nI 2)) 0 = nI 2 := rfl
            refine v_aload_n (pc := 90) d_Mo_project_90 rfl rfl ?_
            refine v_get (pc := 91) d_Mo_project_91 fl_Mo_69 h1.o rfl ?_
            refine v_re hth ?_
            refine v_if_le (pc := 94) (tgt := 99) d_Mo_project_94 rfl (fun hc => ?_) (fun hc => ?_)
            · skip
              exact absurd hc (by decide)
            · skip
              refine v_iconst (pc := 97) (v := nI 0) d_Mo_project_97 rfl ?_
              exact v_iret (pc := 98) d_Mo_project_98 rfl (Nat.le_of_ble_eq_true rfl) (Nat.le_of_ble_eq_true rfl) ⟨by rw [if_pos hv, if_neg hin], rfl, hfr1, by simp only [if_pos hv, if_neg hin]; exact ⟨_, _, _, h1, rfl, hR⟩⟩
          · skip
            have h82 := hc
            refine v_iload_n (pc := 77) d_Mo_project_77 rfl rfl ?_
            refine v_iconst (pc := 78) (v := nI 4) d_Mo_project_78 rfl ?_
            refine v_icmp_le (pc := 79) (tgt := 86) d_Mo_project_79 rfl (fun hc => ?_) (fun hc => ?_)
            · skip
              exact absurd ⟨Int32.not_lt.mp h82, hc⟩ hin
            · skip
              refine v_iconst (pc := 82) (v := nI 2) d_Mo_project_82 rfl ?_
              refine v_goto (pc := 83) (tgt := 87) d_Mo_project_83 rfl ?_
              refine v_putW (pc := 87) (fs' := (mo_fs b (va_up sc 0 (nI 2)))) d_Mo_project_87 fl_Mo_69 (fi_Mo_69 _) (ok_Mo_0 _) hM.o (Nat.le_of_ble_eq_true rfl) rfl (fun w1 hn1 hq1 => ?_)
              have h1 := hM.n0 hn1 hq1
              have hfr1 : mo_fr b w w1 := mo_fr.rf.at ⟨by omega, by omega⟩ hq1
              have hth : (va_up sc 0 (nI 2)) 0 = nI 2 := rfl
              refine v_aload_n (pc := 90) d_Mo_project_90 rfl rfl ?_
              refine v_get (pc := 91) d_Mo_project_91 fl_Mo_69 h1.o rfl ?_
              refine v_re hth ?_
              refine v_if_le (pc := 94) (tgt := 99) d_Mo_project_94 rfl (fun hc => ?_) (fun hc => ?_)
              · skip
                exact absurd hc (by decide)
              · skip
                refine v_iconst (pc := 97) (v := nI 0) d_Mo_project_97 rfl ?_
                exact v_iret (pc := 98) d_Mo_project_98 rfl (Nat.le_of_ble_eq_true rfl) (Nat.le_of_ble_eq_true rfl) ⟨by rw [if_pos hv, if_neg hin], rfl, hfr1, by simp only [if_pos hv, if_neg hin]; exact ⟨_, _, _, h1, rfl, hR⟩⟩
        · skip
          rw [zf] at hc
          have hv := hc
          refine v_iconst (pc := 68) (v := nI 1) d_Mo_project_68 rfl ?_
          refine v_goto (pc := 69) (tgt := 87) d_Mo_project_69 rfl ?_
          refine v_putW (pc := 87) (fs' := (mo_fs b (va_up sc 0 (nI 1)))) d_Mo_project_87 fl_Mo_69 (fi_Mo_69 _) (ok_Mo_0 _) hM.o (Nat.le_of_ble_eq_true rfl) rfl (fun w1 hn1 hq1 => ?_)
          have h1 := hM.n0 hn1 hq1
          have hfr1 : mo_fr b w w1 := mo_fr.rf.at ⟨by omega, by omega⟩ hq1
          have hth : (va_up sc 0 (nI 1)) 0 = nI 1 := rfl
          refine v_aload_n (pc := 90) d_Mo_project_90 rfl rfl ?_
          refine v_get (pc := 91) d_Mo_project_91 fl_Mo_69 h1.o rfl ?_
          refine v_re hth ?_
          refine v_if_le (pc := 94) (tgt := 99) d_Mo_project_94 rfl (fun hc => ?_) (fun hc => ?_)
          · skip
            exact absurd hc (by decide)
          · skip
            refine v_iconst (pc := 97) (v := nI 0) d_Mo_project_97 rfl ?_
            exact v_iret (pc := 98) d_Mo_project_98 rfl (Nat.le_of_ble_eq_true rfl) (Nat.le_of_ble_eq_true rfl) ⟨by rw [if_neg hv], rfl, hfr1, by simp only [if_neg hv]; exact ⟨_, _, _, h1, rfl, hR⟩⟩
      · skip
        exact absurd (show nI 1 ≤ n ∧ n ≤ nI 4 from by have e0 : (nI 0).toInt = 0 := rfl; have e1 : (nI 1).toInt = 1 := rfl; have e4 : (nI 4).toInt = 4 := rfl; have e5 : (nI 5).toInt = 5 := rfl; rw [Int32.le_iff_toInt_le] at *; rw [Int32.le_iff_toInt_le]; omega) hin
theorem c_Mo_project (g : Gl) {w : Wd} {b sz : Nat} {sc : Nat → Int32} {ia : Nat → Nat → Int32} {la : Nat → Nat → Int64} (hM : MAt w b sc ia la) {a : As} (hA : AWa a) (hR : RAa sc ia la a) (e n cols : Int32) : CT g 5 0 0 mi_Mo_project [.ref b, .int e, .int n, .int cols] w sz (RE w b sz (if isV a e then if nI 1 ≤ n ∧ n ≤ nI 4 then if pcols a e cols (i2n n) = true then if fits a (2, i2n e, 0, cols, 0, 0) (i2n n) = true then 0 else 3 else 1 else 2 else 1) (.int (if isV a e then if nI 1 ≤ n ∧ n ≤ nI 4 then if pcols a e cols (i2n n) = true then if fits a (2, i2n e, 0, cols, 0, 0) (i2n n) = true then nI a.1 else nI 0 else nI 0 else nI 0 else nI 0)) (if isV a e then if nI 1 ≤ n ∧ n ≤ nI 4 then if pcols a e cols (i2n n) = true then if fits a (2, i2n e, 0, cols, 0, 0) (i2n n) = true then mkv a (2, i2n e, 0, cols, 0, 0) (i2n n) else a else a else a else a)) := by
  by_cases hin : nI 1 ≤ n ∧ n ≤ nI 4
  · obtain ⟨h1, h2⟩ := i2n_of (Int32.le_trans (by decide : (0 : Int32) ≤ nI 1) hin.1)
    generalize hm : i2n n = m at h1 h2
    subst h1
    have h3 := hin.1
    have h4 := hin.2
    rw [nI_leI (by decide) h2] at h3
    rw [nI_leI h2 (by decide)] at h4
    exact c_Mo_project_in g hM hA hR e cols h3 h4 hin
  · exact c_Mo_project_out g hM hA hR e n cols hin
