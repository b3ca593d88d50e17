/-! makers -/
section WOS
theorem wo_sel {a : As} (hA : AWa a) {k j : Nat} {t x : Int32} (hk : k < a.1) (hj : j < a.2.1 k) : WO (va_up a.2.1 a.1 (a.2.1 k)) a.1 (1, k, 0, nI j, t, x) := by
  have h := hA.2.2.2.1 k hk
  have hn : k ≠ a.1 := Nat.ne_of_lt hk
  refine ⟨by rw [va_up_self]; exact h.1, by rw [va_up_self]; exact h.2.1, Or.inl ⟨rfl, hk, ?_, j, rfl, ?_⟩⟩
  · show va_up a.2.1 a.1 (a.2.1 k) a.1 = va_up a.2.1 a.1 (a.2.1 k) k
    rw [va_up_self, va_up_ne _ _ hn]
  · show j < va_up a.2.1 a.1 (a.2.1 k) k
    rw [va_up_ne _ _ hn]; exact hj
theorem wo_prj {a : As} (hA : AWa a) {k m : Nat} {cols : Int32} (hk : k < a.1) (h1 : 1 ≤ m) (h4 : m ≤ 4) (hc : ∀ c, c < m → colN cols c < a.2.1 k) : WO (va_up a.2.1 a.1 m) a.1 (2, k, 0, cols, 0, 0) := by
  have hn : k ≠ a.1 := Nat.ne_of_lt hk
  refine ⟨by rw [va_up_self]; exact h1, by rw [va_up_self]; exact h4, Or.inr (Or.inl ⟨rfl, hk, ?_⟩)⟩
  intro c hc2
  show colN cols c < va_up a.2.1 a.1 m k
  rw [va_up_self] at hc2
  rw [va_up_ne _ _ hn]; exact hc c hc2
theorem wo_jn {a : As} (hA : AWa a) {k f i j : Nat} (hk : k < a.1) (hf : f < a.1) (hi : i < a.2.1 k) (hj : j < a.2.1 f) (h4 : a.2.1 k + a.2.1 f ≤ 4) : WO (va_up a.2.1 a.1 (a.2.1 k + a.2.1 f)) a.1 (3, k, f, nI i, nI j, 0) := by
  have hn : k ≠ a.1 := Nat.ne_of_lt hk
  have hn2 : f ≠ a.1 := Nat.ne_of_lt hf
  refine ⟨by rw [va_up_self]; omega, by rw [va_up_self]; exact h4, Or.inr (Or.inr (Or.inl ⟨rfl, hk, hf, ?_, i, j, rfl, rfl, ?_, ?_⟩))⟩
  · show va_up a.2.1 a.1 _ a.1 = va_up a.2.1 a.1 _ k + va_up a.2.1 a.1 _ f
    rw [va_up_self, va_up_ne _ _ hn, va_up_ne _ _ hn2]
  · show i < va_up a.2.1 a.1 _ k
    rw [va_up_ne _ _ hn]; exact hi
  · show j < va_up a.2.1 a.1 _ f
    rw [va_up_ne _ _ hn2]; exact hj
theorem wo_un {a : As} (hA : AWa a) {k f : Nat} (hk : k < a.1) (hf : f < a.1) (h : a.2.1 k = a.2.1 f) : WO (va_up a.2.1 a.1 (a.2.1 k)) a.1 (4, k, f, 0, 0, 0) := by
  have h9 := hA.2.2.2.1 k hk
  have hn : k ≠ a.1 := Nat.ne_of_lt hk
  have hn2 : f ≠ a.1 := Nat.ne_of_lt hf
  refine ⟨by rw [va_up_self]; exact h9.1, by rw [va_up_self]; exact h9.2.1, Or.inr (Or.inr (Or.inr (Or.inl ⟨rfl, hk, hf, ?_, ?_⟩)))⟩
  · show va_up a.2.1 a.1 _ k = va_up a.2.1 a.1 _ a.1
    rw [va_up_self, va_up_ne _ _ hn]
  · show va_up a.2.1 a.1 _ f = va_up a.2.1 a.1 _ a.1
    rw [va_up_self, va_up_ne _ _ hn2, h]
theorem wo_dis {a : As} (hA : AWa a) {k : Nat} (hk : k < a.1) : WO (va_up a.2.1 a.1 (a.2.1 k)) a.1 (8, k, 0, 0, 0, 0) := by
  have h9 := hA.2.2.2.1 k hk
  have hn : k ≠ a.1 := Nat.ne_of_lt hk
  refine ⟨by rw [va_up_self]; exact h9.1, by rw [va_up_self]; exact h9.2.1, Or.inr (Or.inr (Or.inr (Or.inr (Or.inl ⟨rfl, hk, ?_⟩))))⟩
  show va_up a.2.1 a.1 _ k = va_up a.2.1 a.1 _ a.1
  rw [va_up_self, va_up_ne _ _ hn]
theorem wo_gr {a : As} (hA : AWa a) {k kd i j : Nat} (hk : k < a.1) (hd : kd ≤ 2) (hi : i < a.2.1 k) (hj : j < a.2.1 k) : WO (va_up a.2.1 a.1 2) a.1 (5 + kd, k, 0, nI i, nI j, 0) := by
  have hn : k ≠ a.1 := Nat.ne_of_lt hk
  refine ⟨by rw [va_up_self]; decide, by rw [va_up_self]; decide, Or.inr (Or.inr (Or.inr (Or.inr (Or.inr ⟨kd, hd, rfl, hk, ?_, i, j, rfl, rfl, ?_, ?_⟩))))⟩
  · rw [va_up_self]
  · show i < va_up a.2.1 a.1 2 k
    rw [va_up_ne _ _ hn]; exact hi
  · show j < va_up a.2.1 a.1 2 k
    rw [va_up_ne _ _ hn]; exact hj
theorem AWa.mk {a : As} (hA : AWa a) {o : VOp} {wv : Nat} (hW : WO (va_up a.2.1 a.1 wv) a.1 o) (hf : fits a o wv = true) : AWa (mkv a o wv) := by
  obtain ⟨f1, f2⟩ := fits_iff.mp hf
  obtain ⟨h3, h12, h8, hv, ht, ho, hl⟩ := hA
  have hwv : va_up a.2.1 a.1 wv a.1 = wv := va_up_self _ _ _
  refine ⟨show 3 ≤ a.1 + 1 by omega, show a.1 + 1 ≤ 12 by omega, h8, fun v hlt => ?_, fun v h => ?_, fun v hv3 hlt => ?_, hl⟩
  · have hlt : v < a.1 + 1 := hlt
    show 1 ≤ va_up a.2.1 a.1 wv v ∧ va_up a.2.1 a.1 wv v ≤ 4 ∧ ma_ok (va_up a.2.1 a.1 wv v) (va_up a.2.2.2.1 a.1 (vnew a o wv) v) ∧ (va_up a.2.2.2.1 a.1 (vnew a o wv) v).length ≤ 16
    by_cases e : v = a.1
    · subst e
      rw [va_up_self, va_up_self]
      have h1 := hW.1
      have h2 := hW.2.1
      rw [hwv] at h1 h2
      refine ⟨h1, h2, ?_, f2⟩
      have h9 := op_adds_row (β := a.2.2.2.1) hW (fun u hu x hx => by rw [va_up_ne _ _ (Nat.ne_of_lt hu)]; exact ((hv u hu).2.2.1.2 x hx).1)
      rw [hwv] at h9
      exact ma_fold_ok (ma_ok_nil wv) h9
    · rw [va_up_ne _ _ e, va_up_ne _ _ e]; exact hv v (by omega)
  · show va_up a.2.1 a.1 wv v = 2 ∧ tb_ok (va_up a.2.2.2.1 a.1 (vnew a o wv) v) = true
    rw [va_up_ne _ _ (by omega), va_up_ne _ _ (by omega)]; exact ht v h
  · have hlt : v < a.1 + 1 := hlt
    show WO (va_up a.2.1 a.1 wv) v (va_up a.2.2.1 a.1 o v)
    by_cases e : v = a.1
    · subst e; rw [va_up_self]; exact hW
    · rw [va_up_ne _ _ e]
      have hW9 := ho v hv3 (by omega)
      have hwu : ∀ u, u ≤ v → va_up a.2.1 a.1 wv u = a.2.1 u := fun u hu => va_up_ne _ _ (by omega)
      obtain ⟨b1, b2, b3⟩ := hW9
      refine ⟨by rw [hwu v (Nat.le_refl _)]; exact b1, by rw [hwu v (Nat.le_refl _)]; exact b2, ?_⟩
      rcases b3 with ⟨c1, c2, c3⟩ | ⟨c1, c2, c3⟩ | ⟨c1, c2, c3, c4⟩ | ⟨c1, c2, c3, c4⟩ | ⟨c1, c2, c3⟩ | ⟨kd, c0, c1, c2, c3⟩
      · left; rw [hwu v (Nat.le_refl _), hwu _ (Nat.le_of_lt c2)]; exact ⟨c1, c2, c3⟩
      · right; left; rw [hwu v (Nat.le_refl _), hwu _ (Nat.le_of_lt c2)]; exact ⟨c1, c2, c3⟩
      · right; right; left; rw [hwu v (Nat.le_refl _), hwu _ (Nat.le_of_lt c2), hwu _ (Nat.le_of_lt c3)]; exact ⟨c1, c2, c3, c4⟩
      · right; right; right; left; rw [hwu v (Nat.le_refl _), hwu _ (Nat.le_of_lt c2), hwu _ (Nat.le_of_lt c3)]; exact ⟨c1, c2, c3, c4⟩
      · right; right; right; right; left; rw [hwu v (Nat.le_refl _), hwu _ (Nat.le_of_lt c2)]; exact ⟨c1, c2, c3⟩
      · right; right; right; right; right; refine ⟨kd, c0, c1, c2, ?_⟩; rw [hwu v (Nat.le_refl _), hwu _ (Nat.le_of_lt c2)]; exact c3
end WOS
theorem RAa.told {sc : Nat → Int32} {ia : Nat → Nat → Int32} {la : Nat → Nat → Int64} {a : As} (hR : RAa sc ia la a) {f4 f5 f6 : Nat → Int32} (h : ∀ u, u ≠ a.1 → f4 u = ia 4 u ∧ f5 u = ia 5 u ∧ f6 u = ia 6 u) : RAa sc (va_up (va_up (va_up ia 4 f4) 5 f5) 6 f6) la a := by
  obtain ⟨r1, r2, r3, r4, r5⟩ := hR
  refine ⟨r1, r2, r3, r4, fun v h3 hv => ?_⟩
  obtain ⟨c1, c2, c3, c4⟩ := r5 v h3 hv
  obtain ⟨d1, d2, d3⟩ := h v (Nat.ne_of_lt hv)
  exact ⟨c1, c2, c3, fun x y => ⟨d1.trans (c4 x y).1, d2.trans (c4 x y).2.1, d3.trans (c4 x y).2.2⟩⟩
theorem mk_fin {w : Wd} {b : Nat} {s a : As} {cd : Nat} {F : Bool} (h : RRa w b (if F = true then s else a) (if F = true then nI 0 else nI cd)) : RRa w b (if F = true then s else a) (nI (if F = true then 0 else cd)) := by
  by_cases hf : F = true
  · simp only [if_pos hf] at h ⊢; exact h
  · simp only [if_neg hf] at h ⊢; exact h
set_option maxRecDepth 100000 in
set_option maxHeartbeats 4000000 in
theorem c_Mo_select (g : Gl) {w : Wd} {b sz : Nat} {sc : Nat → Int32} {ia : Nat → Nat → Int32} {la : Nat → Nat → Int64} (hM : MAt w b sc ia la) {a : As} (hA : AWa a) (hR : RAa sc ia la a) (e c t x : Int32) : CT g 5 0 0 mi_Mo_select [.ref b, .int e, .int c, .int t, .int x] w sz (RE w b sz (if isC a e c then if 0 ≤ t ∧ t ≤ nI 2 then if fits a (1, i2n e, 0, c, t, x) (a.2.1 (i2n e)) = true then 0 else 3 else 2 else 1) (.int (if isC a e c then if 0 ≤ t ∧ t ≤ nI 2 then if fits a (1, i2n e, 0, c, t, x) (a.2.1 (i2n e)) = true then nI a.1 else nI 0 else nI 0 else nI 0)) (if isC a e c then if 0 ≤ t ∧ t ≤ nI 2 then if fits a (1, i2n e, 0, c, t, x) (a.2.1 (i2n e)) = true then mkv a (1, i2n e, 0, c, t, x) (a.2.1 (i2n e)) else a else a else a)) := by
  refine CT.of (by decide) (Nat.le_of_ble_eq_true rfl) ?_
  refine v_aload_n (pc := 0) d_Mo_select_0 rfl rfl ?_
  refine v_aload_n (pc := 1) d_Mo_select_1 rfl rfl ?_
  refine v_iload_n (pc := 2) d_Mo_select_2 rfl rfl ?_
  refine v_iload_n (pc := 3) d_Mo_select_3 rfl rfl ?_
  refine v_cvR (pc := 4) (A := [.int e, .int c]) (rest := [.ref b]) (x := .int (if isC a e c then 1 else 0)) d_Mo_select_4 lk_Mo_148 me_Mo_isColumn im_Mo_isColumn se_Mo_isColumn rfl hM.o rfl rfl (c_Mo_isColumn g hM hA hR e c) (Nat.le_of_ble_eq_true rfl) (Nat.le_of_ble_eq_true rfl) (Nat.le_of_ble_eq_true rfl) (Nat.le_of_ble_eq_true rfl) ?_
  refine v_if_ne (pc := 7) (tgt := 14) d_Mo_select_7 rfl (fun hc => ?_) (fun hc => ?_)
  · skip
    rw [zt] at hc
    have hv := hc
    obtain ⟨k, j, hk1, hk2, hk3, hj1, hj2, hj3⟩ := isC_n hc hA
    have hk12 := hA.2.1
    subst hk1
    subst hj1
    obtain ⟨hr0, hr7, hrB⟩ := hR.2.2.2.1 k hk2
    refine v_iload_n (pc := 14) d_Mo_select_14 rfl rfl ?_
    refine v_if_lt (pc := 15) (tgt := 23) d_Mo_select_15 rfl (fun hc => ?_) (fun hc => ?_)
    · skip
      have ht : ¬ (0 ≤ t ∧ t ≤ nI 2) := fun h => absurd hc (Int32.not_lt.mpr h.1)
      refine v_iconst (pc := 23) (v := nI 2) d_Mo_select_23 rfl ?_
      refine v_goto (pc := 24) (tgt := 28) d_Mo_select_24 rfl ?_
      refine v_putW (pc := 28) (fs' := (mo_fs b (va_up sc 0 (nI 2)))) d_Mo_select_28 fl_Mo_69 (fi_Mo_69 _) (ok_Mo_0 _) hM.o (Nat.le_of_ble_eq_true rfl) rfl (fun w1 hn1 hq1 => ?_)
      have h1 := hM.n0 hn1 hq1
      have hfr1 : mo_fr b w w1 := mo_fr.rf.at ⟨by omega, by omega⟩ hq1
      have hth : (va_up sc 0 (nI 2)) 0 = nI 2 := rfl
      refine v_aload_n (pc := 31) d_Mo_select_31 rfl rfl ?_
      refine v_get (pc := 32) d_Mo_select_32 fl_Mo_69 h1.o rfl ?_
      refine v_re hth ?_
      refine v_if_le (pc := 35) (tgt := 40) d_Mo_select_35 rfl (fun hc => ?_) (fun hc => ?_)
      · skip
        exact absurd hc (by decide)
      · skip
        refine v_iconst (pc := 38) (v := nI 0) d_Mo_select_38 rfl ?_
        exact v_iret (pc := 39) d_Mo_select_39 rfl (Nat.le_of_ble_eq_true rfl) (Nat.le_of_ble_eq_true rfl) ⟨by rw [if_pos hv, if_neg ht], rfl, hfr1, by simp only [if_pos hv, if_neg ht]; exact ⟨_, _, _, h1, rfl, hR⟩⟩
    · skip
      have ht0 := hc
      refine v_iload_n (pc := 18) d_Mo_select_18 rfl rfl ?_
      refine v_iconst (pc := 19) (v := nI 2) d_Mo_select_19 rfl ?_
      refine v_icmp_le (pc := 20) (tgt := 27) d_Mo_select_20 rfl (fun hc => ?_) (fun hc => ?_)
      · skip
        have ht : 0 ≤ t ∧ t ≤ nI 2 := ⟨Int32.not_lt.mp ht0, hc⟩
        refine v_iconst (pc := 27) (v := nI 0) d_Mo_select_27 rfl ?_
        refine v_putW (pc := 28) (fs' := (mo_fs b (va_up sc 0 (nI 0)))) d_Mo_select_28 fl_Mo_69 (fi_Mo_69 _) (ok_Mo_0 _) hM.o (Nat.le_of_ble_eq_true rfl) rfl (fun w1 hn1 hq1 => ?_)
        have h1 := hM.n0 hn1 hq1
        have hfr1 : mo_fr b w w1 := mo_fr.rf.at ⟨by omega, by omega⟩ hq1
        have hth : (va_up sc 0 (nI 0)) 0 = nI 0 := rfl
        refine v_aload_n (pc := 31) d_Mo_select_31 rfl rfl ?_
        refine v_get (pc := 32) d_Mo_select_32 fl_Mo_69 h1.o rfl ?_
        refine v_re hth ?_
        refine v_if_le (pc := 35) (tgt := 40) d_Mo_select_35 rfl (fun hc => ?_) (fun hc => ?_)
        · skip
          refine v_aload_n (pc := 40) d_Mo_select_40 rfl rfl ?_
          refine v_iload_n (pc := 41) d_Mo_select_41 rfl rfl ?_
          refine v_iload_n (pc := 42) d_Mo_select_42 rfl rfl ?_
          refine v_iload (pc := 43) d_Mo_select_43 rfl ?_
          have hs1 : (va_up sc 0 (nI 0)) 1 = nI a.1 := hR.1
          refine v_cvV (pc := 45) (A := [.int (nI j), .int t, .int x]) (rest := []) d_Mo_select_45 lk_Mo_151 me_Mo_told im_Mo_told se_Mo_told rfl h1.o rfl rfl (c_Mo_told g h1 (n := a.1) hs1 hA.2.1 (nI j) (t) (x)) (Nat.le_of_ble_eq_true rfl) (Nat.le_of_ble_eq_true rfl) (Nat.le_of_ble_eq_true rfl) (Nat.le_of_ble_eq_true rfl) (fun w2 htl => ?_)
          obtain ⟨f4, f5, f6, h2, hfr2, hnew, hold⟩ := htl
          have hR2 : RAa (va_up sc 0 (nI 0)) (va_up (va_up (va_up ia 4 f4) 5 f5) 6 f6) la a := RAa.told (show RAa (va_up sc 0 (nI 0)) ia la a from hR) hold
          refine v_aload_n (pc := 48) d_Mo_select_48 rfl rfl ?_
          refine v_iconst (pc := 49) (v := nI 1) d_Mo_select_49 rfl ?_
          refine v_iload_n (pc := 50) d_Mo_select_50 rfl rfl ?_
          refine v_iconst (pc := 51) (v := nI 0) d_Mo_select_51 rfl ?_
          refine v_aload_n (pc := 52) d_Mo_select_52 rfl rfl ?_
          refine v_get (pc := 53) d_Mo_select_53 fl_Mo_13 h2.o rfl ?_
          refine v_iload_n (pc := 56) d_Mo_select_56 rfl rfl ?_
          refine v_ialdN (pc := 57) (k := k) (f := ia 0) d_Mo_select_57 h2.a0 rfl (by omega) (by decide) ?_
          refine v_re hr0 ?_
          refine v_iconst (pc := 58) (v := nI 3) d_Mo_select_58 rfl ?_
          refine v_cvX (pc := 59) (A := [.int (nI 1), .int (nI k), .int (nI 0), .int (nI (a.2.1 k)), .int (nI 3)]) (rest := []) (x := .int (if fits a (1, k, 0, nI j, t, x) (a.2.1 k) = true then nI a.1 else nI 0)) d_Mo_select_59 lk_Mo_154 me_Mo_make im_Mo_make se_Mo_make rfl h2.o rfl rfl (c_Mo_make g h2 hA hR2 (kd := 1) (e := k) (f := 0) (wv := a.2.1 k) (cd := 3) (P := nI j) (Q := t) (R := x) (fun h _ _ => hnew h) (fun _ => wo_sel hA hk2 hj2)) (Nat.le_of_ble_eq_true rfl) (Nat.le_of_ble_eq_true rfl) (Nat.le_of_ble_eq_true rfl) (Nat.le_of_ble_eq_true rfl) (fun w3 hmk => ?_)
          exact v_iret (pc := 62) d_Mo_select_62 rfl (Nat.le_of_ble_eq_true rfl) (Nat.le_of_ble_eq_true rfl) ⟨by rw [if_pos hv, if_pos ht, hk3], rfl, (hfr1.tr hfr2).tr hmk.1, by simp only [if_pos hv, if_pos ht, hk3]; exact mk_fin hmk.2⟩
        · skip
          exact absurd hc (by decide)
      · skip
        have ht : ¬ (0 ≤ t ∧ t ≤ nI 2) := fun h => hc h.2
        refine v_iconst (pc := 23) (v := nI 2) d_Mo_select_23 rfl ?_
        refine v_goto (pc := 24) (tgt := 28) d_Mo_select_24 rfl ?_
        refine v_putW (pc := 28) (fs' := (mo_fs b (va_up sc 0 (nI 2)))) d_Mo_select_28 fl_Mo_69 (fi_Mo_69 _) (ok_Mo_0 _) hM.o (Nat.le_of_ble_eq_true rfl) rfl (fun w1 hn1 hq1 => ?_)
        have h1 := hM.n0 hn1 hq1
        have hfr1 : mo_fr b w w1 := mo_fr.rf.at ⟨by omega, by omega⟩ hq1
        have hth : (va_up sc 0 (nI 2)) 0 = nI 2 := rfl
        refine v_aload_n (pc := 31) d_Mo_select_31 rfl rfl ?_
        refine v_get (pc := 32) d_Mo_select_32 fl_Mo_69 h1.o rfl ?_
        refine v_re hth ?_
        refine v_if_le (pc := 35) (tgt := 40) d_Mo_select_35 rfl (fun hc => ?_) (fun hc => ?_)
        · skip
          exact absurd hc (by decide)
        · skip
          refine v_iconst (pc := 38) (v := nI 0) d_Mo_select_38 rfl ?_
          exact v_iret (pc := 39) d_Mo_select_39 rfl (Nat.le_of_ble_eq_true rfl) (Nat.le_of_ble_eq_true rfl) ⟨by rw [if_pos hv, if_neg ht], rfl, hfr1, by simp only [if_pos hv, if_neg ht]; exact ⟨_, _, _, h1, rfl, hR⟩⟩
  · skip
    rw [zf] at hc
    have hv := hc
    refine v_iconst (pc := 10) (v := nI 1) d_Mo_select_10 rfl ?_
    refine v_goto (pc := 11) (tgt := 28) d_Mo_select_11 rfl ?_
    refine v_putW (pc := 28) (fs' := (mo_fs b (va_up sc 0 (nI 1)))) d_Mo_select_28 fl_Mo_69 (fi_Mo_69 _) (ok_Mo_0 _) hM.o (Nat.le_of_ble_eq_true rfl) rfl (fun w1 hn1 hq1 => ?_)
    have h1 := hM.n0 hn1 hq1
    have hfr1 : mo_fr b w w1 := mo_fr.rf.at ⟨by omega, by omega⟩ hq1
    have hth : (va_up sc 0 (nI 1)) 0 = nI 1 := rfl
    refine v_aload_n (pc := 31) d_Mo_select_31 rfl rfl ?_
    refine v_get (pc := 32) d_Mo_select_32 fl_Mo_69 h1.o rfl ?_
    refine v_re hth ?_
    refine v_if_le (pc := 35) (tgt := 40) d_Mo_select_35 rfl (fun hc => ?_) (fun hc => ?_)
    · skip
      exact absurd hc (by decide)
    · skip
      refine v_iconst (pc := 38) (v := nI 0) d_Mo_select_38 rfl ?_
      exact v_iret (pc := 39) d_Mo_select_39 rfl (Nat.le_of_ble_eq_true rfl) (Nat.le_of_ble_eq_true rfl) ⟨by rw [if_neg hv], rfl, hfr1, by simp only [if_neg hv]; exact ⟨_, _, _, h1, rfl, hR⟩⟩
set_option maxRecDepth 100000 in
set_option maxHeartbeats 4000000 in
theorem c_Mo_distinct (g : Gl) {w : Wd} {b sz : Nat} {sc : Nat → Int32} {ia : Nat → Nat → Int32} {la : Nat → Nat → Int64} (hM : MAt w b sc ia la) {a : As} (hA : AWa a) (hR : RAa sc ia la a) (e : Int32) : CT g 5 0 0 mi_Mo_distinct [.ref b, .int e] w sz (RE w b sz (if isV a e then if fits a (8, i2n e, 0, 0, 0, 0) (a.2.1 (i2n e)) = true then 0 else 2 else 1) (.int (if isV a e then if fits a (8, i2n e, 0, 0, 0, 0) (a.2.1 (i2n e)) = true then nI a.1 else nI 0 else nI 0)) (if isV a e then if fits a (8, i2n e, 0, 0, 0, 0) (a.2.1 (i2n e)) = true then mkv a (8, i2n e, 0, 0, 0, 0) (a.2.1 (i2n e)) else a else a)) := by
  refine CT.of (by decide) (Nat.le_of_ble_eq_true rfl) ?_
  refine v_aload_n (pc := 0) d_Mo_distinct_0 rfl rfl ?_
  refine v_aload_n (pc := 1) d_Mo_distinct_1 rfl rfl ?_
  refine v_iload_n (pc := 2) d_Mo_distinct_2 rfl rfl ?_
  refine v_cvR (pc := 3) (A := [.int e]) (rest := [.ref b]) (x := .int (if isV a e then 1 else 0)) d_Mo_distinct_3 lk_Mo_145 me_Mo_isView im_Mo_isView se_Mo_isView rfl hM.o rfl rfl (c_Mo_isViewA g hM hR e) (Nat.le_of_ble_eq_true rfl) (Nat.le_of_ble_eq_true rfl) (Nat.le_of_ble_eq_true rfl) (Nat.le_of_ble_eq_true rfl) ?_
  refine v_if_eq (pc := 6) (tgt := 13) d_Mo_distinct_6 rfl (fun hc => ?_) (fun hc => ?_)
  · skip
    rw [zf] at hc
    have hv := hc
    refine v_iconst (pc := 13) (v := nI 1) d_Mo_distinct_13 rfl ?_
    refine v_putW (pc := 14) (fs' := (mo_fs b (va_up sc 0 (nI 1)))) d_Mo_distinct_14 fl_Mo_69 (fi_Mo_69 _) (ok_Mo_0 _) hM.o (Nat.le_of_ble_eq_true rfl) rfl (fun w1 hn1 hq1 => ?_)
    have h1 := hM.n0 hn1 hq1
    have hfr1 : mo_fr b w w1 := mo_fr.rf.at ⟨by omega, by omega⟩ hq1
    have hth : (va_up sc 0 (nI 1)) 0 = nI 1 := rfl
    refine v_aload_n (pc := 17) d_Mo_distinct_17 rfl rfl ?_
    refine v_get (pc := 18) d_Mo_distinct_18 fl_Mo_69 h1.o rfl ?_
    refine v_re hth ?_
    refine v_if_le (pc := 21) (tgt := 26) d_Mo_distinct_21 rfl (fun hc => ?_) (fun hc => ?_)
    · skip
      exact absurd hc (by decide)
    · skip
      refine v_iconst (pc := 24) (v := nI 0) d_Mo_distinct_24 rfl ?_
      exact v_iret (pc := 25) d_Mo_distinct_25 rfl (Nat.le_of_ble_eq_true rfl) (Nat.le_of_ble_eq_true rfl) ⟨by rw [if_neg hv], rfl, hfr1, by simp only [if_neg hv]; exact ⟨_, _, _, h1, rfl, hR⟩⟩
  · skip
    rw [zt] at hc
    have hv := hc
    obtain ⟨k, hk1, hk2, hk3⟩ := isV_n hc hA.2.1
    subst hk1
    have hk12 := hA.2.1
    obtain ⟨hr0, hr7, hrB⟩ := hR.2.2.2.1 k hk2
    refine v_iconst (pc := 9) (v := nI 0) d_Mo_distinct_9 rfl ?_
    refine v_goto (pc := 10) (tgt := 14) d_Mo_distinct_10 rfl ?_
    refine v_putW (pc := 14) (fs' := (mo_fs b (va_up sc 0 (nI 0)))) d_Mo_distinct_14 fl_Mo_69 (fi_Mo_69 _) (ok_Mo_0 _) hM.o (Nat.le_of_ble_eq_true rfl) rfl (fun w1 hn1 hq1 => ?_)
    have h1 := hM.n0 hn1 hq1
    have hfr1 : mo_fr b w w1 := mo_fr.rf.at ⟨by omega, by omega⟩ hq1
    have hth : (va_up sc 0 (nI 0)) 0 = nI 0 := rfl
    refine v_aload_n (pc := 17) d_Mo_distinct_17 rfl rfl ?_
    refine v_get (pc := 18) d_Mo_distinct_18 fl_Mo_69 h1.o rfl ?_
    refine v_re hth ?_
    refine v_if_le (pc := 21) (tgt := 26) d_Mo_distinct_21 rfl (fun hc => ?_) (fun hc => ?_)
    · skip
      refine v_aload_n (pc := 26) d_Mo_distinct_26 rfl rfl ?_
      refine v_bipush (pc := 27) (v := nI 8) d_Mo_distinct_27 rfl ?_
      refine v_iload_n (pc := 29) d_Mo_distinct_29 rfl rfl ?_
      refine v_iconst (pc := 30) (v := nI 0) d_Mo_distinct_30 rfl ?_
      refine v_aload_n (pc := 31) d_Mo_distinct_31 rfl rfl ?_
      refine v_get (pc := 32) d_Mo_distinct_32 fl_Mo_13 h1.o rfl ?_
      refine v_iload_n (pc := 35) d_Mo_distinct_35 rfl rfl ?_
      refine v_ialdN (pc := 36) (k := k) (f := ia 0) d_Mo_distinct_36 h1.a0 rfl (by omega) (by decide) ?_
      refine v_re hr0 ?_
      refine v_iconst (pc := 37) (v := nI 2) d_Mo_distinct_37 rfl ?_
      refine v_cvX (pc := 38) (A := [.int (nI 8), .int (nI k), .int (nI 0), .int (nI (a.2.1 k)), .int (nI 2)]) (rest := []) (x := .int (if fits a (8, k, 0, 0, 0, 0) (a.2.1 k) = true then nI a.1 else nI 0)) d_Mo_distinct_38 lk_Mo_154 me_Mo_make im_Mo_make se_Mo_make rfl h1.o rfl rfl (c_Mo_make g h1 hA (show RAa (va_up sc 0 (nI 0)) ia la a from hR) (kd := 8) (e := k) (f := 0) (wv := a.2.1 k) (cd := 2) (P := 0) (Q := 0) (R := 0) (fun _ h1 h2 => absurd rfl h2) (fun _ => wo_dis hA hk2)) (Nat.le_of_ble_eq_true rfl) (Nat.le_of_ble_eq_true rfl) (Nat.le_of_ble_eq_true rfl) (Nat.le_of_ble_eq_true rfl) (fun w3 hmk => ?_)
      exact v_iret (pc := 41) d_Mo_distinct_41 rfl (Nat.le_of_ble_eq_true rfl) (Nat.le_of_ble_eq_true rfl) ⟨by rw [if_pos hv, hk3], rfl, hfr1.tr hmk.1, by simp only [if_pos hv, hk3]; exact mk_fin hmk.2⟩
    · skip
      exact absurd hc (by decide)
set_option maxRecDepth 100000 in
set_option maxHeartbeats 4000000 in
theorem c_Mo_union (g : Gl) {w : Wd} {b sz : Nat} {sc : Nat → Int32} {ia : Nat → Nat → Int32} {la : Nat → Nat → Int64} (hM : MAt w b sc ia la) {a : As} (hA : AWa a) (hR : RAa sc ia la a) (e f : Int32) : CT g 5 0 0 mi_Mo_union [.ref b, .int e, .int f] w sz (RE w b sz (if isV a e ∧ isV a f then if a.2.1 (i2n e) = a.2.1 (i2n f) then if fits a (4, i2n e, i2n f, 0, 0, 0) (a.2.1 (i2n e)) = true then 0 else 3 else 2 else 1) (.int (if isV a e ∧ isV a f then if a.2.1 (i2n e) = a.2.1 (i2n f) then if fits a (4, i2n e, i2n f, 0, 0, 0) (a.2.1 (i2n e)) = true then nI a.1 else nI 0 else nI 0 else nI 0)) (if isV a e ∧ isV a f then if a.2.1 (i2n e) = a.2.1 (i2n f) then if fits a (4, i2n e, i2n f, 0, 0, 0) (a.2.1 (i2n e)) = true then mkv a (4, i2n e, i2n f, 0, 0, 0) (a.2.1 (i2n e)) else a else a else a)) := by
  refine CT.of (by decide) (Nat.le_of_ble_eq_true rfl) ?_
  refine v_aload_n (pc := 0) d_Mo_union_0 rfl rfl ?_
  refine v_aload_n (pc := 1) d_Mo_union_1 rfl rfl ?_
  refine v_iload_n (pc := 2) d_Mo_union_2 rfl rfl ?_
  refine v_cvR (pc := 3) (A := [.int e]) (rest := [.ref b]) (x := .int (if isV a e then 1 else 0)) d_Mo_union_3 lk_Mo_145 me_Mo_isView im_Mo_isView se_Mo_isView rfl hM.o rfl rfl (c_Mo_isViewA g hM hR e) (Nat.le_of_ble_eq_true rfl) (Nat.le_of_ble_eq_true rfl) (Nat.le_of_ble_eq_true rfl) (Nat.le_of_ble_eq_true rfl) ?_
  refine v_if_eq (pc := 6) (tgt := 17) d_Mo_union_6 rfl (fun hc => ?_) (fun hc => ?_)
  · skip
    rw [zf] at hc
    have hv : ¬ (isV a e ∧ isV a f) := fun h => hc h.1
    refine v_iconst (pc := 17) (v := nI 1) d_Mo_union_17 rfl ?_
    refine v_goto (pc := 18) (tgt := 41) d_Mo_union_18 rfl ?_
    refine v_putW (pc := 41) (fs' := (mo_fs b (va_up sc 0 (nI 1)))) d_Mo_union_41 fl_Mo_69 (fi_Mo_69 _) (ok_Mo_0 _) hM.o (Nat.le_of_ble_eq_true rfl) rfl (fun w1 hn1 hq1 => ?_)
    have h1 := hM.n0 hn1 hq1
    have hfr1 : mo_fr b w w1 := mo_fr.rf.at ⟨by omega, by omega⟩ hq1
    have hth : (va_up sc 0 (nI 1)) 0 = nI 1 := rfl
    refine v_aload_n (pc := 44) d_Mo_union_44 rfl rfl ?_
    refine v_get (pc := 45) d_Mo_union_45 fl_Mo_69 h1.o rfl ?_
    refine v_re hth ?_
    refine v_if_le (pc := 48) (tgt := 53) d_Mo_union_48 rfl (fun hc => ?_) (fun hc => ?_)
    · skip
      exact absurd hc (by decide)
    · skip
      refine v_iconst (pc := 51) (v := nI 0) d_Mo_union_51 rfl ?_
      exact v_iret (pc := 52) d_Mo_union_52 rfl (Nat.le_of_ble_eq_true rfl) (Nat.le_of_ble_eq_true rfl) ⟨by rw [if_neg hv], rfl, hfr1, by simp only [if_neg hv]; exact ⟨_, _, _, h1, rfl, hR⟩⟩
  · skip
    rw [zt] at hc
    have hv1 := hc
    refine v_aload_n (pc := 9) d_Mo_union_9 rfl rfl ?_
    refine v_iload_n (pc := 10) d_Mo_union_10 rfl rfl ?_
    refine v_cvR (pc := 11) (A := [.int f]) (rest := [.ref b]) (x := .int (if isV a f then 1 else 0)) d_Mo_union_11 lk_Mo_145 me_Mo_isView im_Mo_isView se_Mo_isView rfl hM.o rfl rfl (c_Mo_isViewA g hM hR f) (Nat.le_of_ble_eq_true rfl) (Nat.le_of_ble_eq_true rfl) (Nat.le_of_ble_eq_true rfl) (Nat.le_of_ble_eq_true rfl) ?_
    refine v_if_ne (pc := 14) (tgt := 21) d_Mo_union_14 rfl (fun hc => ?_) (fun hc => ?_)
    · skip
      rw [zt] at hc
      have hv : isV a e ∧ isV a f := ⟨hv1, hc⟩
      obtain ⟨k, hk1, hk2, hk3⟩ := isV_n hv1 hA.2.1
      obtain ⟨q, hq1', hq2, hq3⟩ := isV_n hc hA.2.1
      have hk12 := hA.2.1
      subst hk1
      subst hq1'
      obtain ⟨hr0, hr7, hrB⟩ := hR.2.2.2.1 k hk2
      obtain ⟨hs0, hs7, hsB⟩ := hR.2.2.2.1 q hq2
      have hw4k := (hA.2.2.2.1 k hk2).2.1
      have hw4q := (hA.2.2.2.1 q hq2).2.1
      refine v_aload_n (pc := 21) d_Mo_union_21 rfl rfl ?_
      refine v_get (pc := 22) d_Mo_union_22 fl_Mo_13 hM.o rfl ?_
      refine v_iload_n (pc := 25) d_Mo_union_25 rfl rfl ?_
      refine v_ialdN (pc := 26) (k := k) (f := ia 0) d_Mo_union_26 hM.a0 rfl (by omega) (by decide) ?_
      refine v_re hr0 ?_
      refine v_aload_n (pc := 27) d_Mo_union_27 rfl rfl ?_
      refine v_get (pc := 28) d_Mo_union_28 fl_Mo_13 hM.o rfl ?_
      refine v_iload_n (pc := 31) d_Mo_union_31 rfl rfl ?_
      refine v_ialdN (pc := 32) (k := q) (f := ia 0) d_Mo_union_32 hM.a0 rfl (by omega) (by decide) ?_
      refine v_re hs0 ?_
      refine v_icmp_eq (pc := 33) (tgt := 40) d_Mo_union_33 rfl (fun hc => ?_) (fun hc => ?_)
      · skip
        rw [nI_eq (by omega) (by omega)] at hc
        have ht : a.2.1 (i2n (nI k)) = a.2.1 (i2n (nI q)) := by rw [hk3, hq3]; exact hc
        have hte := hc
        refine v_iconst (pc := 40) (v := nI 0) d_Mo_union_40 rfl ?_
        refine v_putW (pc := 41) (fs' := (mo_fs b (va_up sc 0 (nI 0)))) d_Mo_union_41 fl_Mo_69 (fi_Mo_69 _) (ok_Mo_0 _) hM.o (Nat.le_of_ble_eq_true rfl) rfl (fun w1 hn1 hq1 => ?_)
        have h1 := hM.n0 hn1 hq1
        have hfr1 : mo_fr b w w1 := mo_fr.rf.at ⟨by omega, by omega⟩ hq1
        have hth : (va_up sc 0 (nI 0)) 0 = nI 0 := rfl
        refine v_aload_n (pc := 44) d_Mo_union_44 rfl rfl ?_
        refine v_get (pc := 45) d_Mo_union_45 fl_Mo_69 h1.o rfl ?_
        refine v_re hth ?_
        refine v_if_le (pc := 48) (tgt := 53) d_Mo_union_48 rfl (fun hc => ?_) (fun hc => ?_)
        · skip
          refine v_aload_n (pc := 53) d_Mo_union_53 rfl rfl ?_
          refine v_iconst (pc := 54) (v := nI 4) d_Mo_union_54 rfl ?_
          refine v_iload_n (pc := 55) d_Mo_union_55 rfl rfl ?_
          refine v_iload_n (pc := 56) d_Mo_union_56 rfl rfl ?_
          refine v_aload_n (pc := 57) d_Mo_union_57 rfl rfl ?_
          refine v_get (pc := 58) d_Mo_union_58 fl_Mo_13 h1.o rfl ?_
          refine v_iload_n (pc := 61) d_Mo_union_61 rfl rfl ?_
          refine v_ialdN (pc := 62) (k := k) (f := ia 0) d_Mo_union_62 h1.a0 rfl (by omega) (by decide) ?_
          refine v_re hr0 ?_
          refine v_iconst (pc := 63) (v := nI 3) d_Mo_union_63 rfl ?_
          refine v_cvX (pc := 64) (A := [.int (nI 4), .int (nI k), .int (nI q), .int (nI (a.2.1 k)), .int (nI 3)]) (rest := []) (x := .int (if fits a (4, k, q, 0, 0, 0) (a.2.1 k) = true then nI a.1 else nI 0)) d_Mo_union_64 lk_Mo_154 me_Mo_make im_Mo_make se_Mo_make rfl h1.o rfl rfl (c_Mo_make g h1 hA (show RAa (va_up sc 0 (nI 0)) ia la a from hR) (kd := 4) (e := k) (f := q) (wv := a.2.1 k) (cd := 3) (P := 0) (Q := 0) (R := 0) (fun _ h1 h2 => absurd rfl h1) (fun _ => wo_un hA hk2 hq2 hte)) (Nat.le_of_ble_eq_true rfl) (Nat.le_of_ble_eq_true rfl) (Nat.le_of_ble_eq_true rfl) (Nat.le_of_ble_eq_true rfl) (fun w3 hmk => ?_)
          exact v_iret (pc := 67) d_Mo_union_67 rfl (Nat.le_of_ble_eq_true rfl) (Nat.le_of_ble_eq_true rfl) ⟨by rw [if_pos hv, if_pos ht, hk3, hq3], rfl, hfr1.tr hmk.1, by simp only [if_pos hv, if_pos ht, hk3, hq3, if_pos hte]; exact mk_fin hmk.2⟩
        · skip
          exact absurd hc (by decide)
      · skip
        rw [nI_eq (by omega) (by omega)] at hc
        have ht : ¬ a.2.1 (i2n (nI k)) = a.2.1 (i2n (nI q)) := by rw [hk3, hq3]; exact hc
        refine v_iconst (pc := 36) (v := nI 2) d_Mo_union_36 rfl ?_
        refine v_goto (pc := 37) (tgt := 41) d_Mo_union_37 rfl ?_
        refine v_putW (pc := 41) (fs' := (mo_fs b (va_up sc 0 (nI 2)))) d_Mo_union_41 fl_Mo_69 (fi_Mo_69 _) (ok_Mo_0 _) hM.o (Nat.le_of_ble_eq_true rfl) rfl (fun w1 hn1 hq1 => ?_)
        have h1 := hM.n0 hn1 hq1
        have hfr1 : mo_fr b w w1 := mo_fr.rf.at ⟨by omega, by omega⟩ hq1
        have hth : (va_up sc 0 (nI 2)) 0 = nI 2 := rfl
        refine v_aload_n (pc := 44) d_Mo_union_44 rfl rfl ?_
        refine v_get (pc := 45) d_Mo_union_45 fl_Mo_69 h1.o rfl ?_
        refine v_re hth ?_
        refine v_if_le (pc := 48) (tgt := 53) d_Mo_union_48 rfl (fun hc => ?_) (fun hc => ?_)
        · skip
          exact absurd hc (by decide)
        · skip
          refine v_iconst (pc := 51) (v := nI 0) d_Mo_union_51 rfl ?_
          exact v_iret (pc := 52) d_Mo_union_52 rfl (Nat.le_of_ble_eq_true rfl) (Nat.le_of_ble_eq_true rfl) ⟨by rw [if_pos hv, if_neg ht], rfl, hfr1, by simp only [if_pos hv, if_neg ht]; exact ⟨_, _, _, h1, rfl, hR⟩⟩
    · skip
      rw [zf] at hc
      have hv : ¬ (isV a e ∧ isV a f) := fun h => hc h.2
      refine v_iconst (pc := 17) (v := nI 1) d_Mo_union_17 rfl ?_
      refine v_goto (pc := 18) (tgt := 41) d_Mo_union_18 rfl ?_
      refine v_putW (pc := 41) (fs' := (mo_fs b (va_up sc 0 (nI 1)))) d_Mo_union_41 fl_Mo_69 (fi_Mo_69 _) (ok_Mo_0 _) hM.o (Nat.le_of_ble_eq_true rfl) rfl (fun w1 hn1 hq1 => ?_)
      have h1 := hM.n0 hn1 hq1
      have hfr1 : mo_fr b w w1 := mo_fr.rf.at ⟨by omega, by omega⟩ hq1
      have hth : (va_up sc 0 (nI 1)) 0 = nI 1 := rfl
      refine v_aload_n (pc := 44) d_Mo_union_44 rfl rfl ?_
      refine v_get (pc := 45) d_Mo_union_45 fl_Mo_69 h1.o rfl ?_
      refine v_re hth ?_
      refine v_if_le (pc := 48) (tgt := 53) d_Mo_union_48 rfl (fun hc => ?_) (fun hc => ?_)
      · skip
        exact absurd hc (by decide)
      · skip
        refine v_iconst (pc := 51) (v := nI 0) d_Mo_union_51 rfl ?_
        exact v_iret (pc := 52) d_Mo_union_52 rfl (Nat.le_of_ble_eq_true rfl) (Nat.le_of_ble_eq_true rfl) ⟨by rw [if_neg hv], rfl, hfr1, by simp only [if_neg hv]; exact ⟨_, _, _, h1, rfl, hR⟩⟩
set_option maxRecDepth 100000 in
set_option maxHeartbeats 4000000 in
theorem c_Mo_join (g : Gl) {w : Wd} {b sz : Nat} {sc : Nat → Int32} {ia : Nat → Nat → Int32} {la : Nat → Nat → Int64} (hM : MAt w b sc ia la) {a : As} (hA : AWa a) (hR : RAa sc ia la a) (e f i j : Int32) : CT g 5 0 0 mi_Mo_join [.ref b, .int e, .int f, .int i, .int j] w sz (RE w b sz (if isC a e i ∧ isC a f j then if a.2.1 (i2n e) + a.2.1 (i2n f) ≤ 4 then if fits a (3, i2n e, i2n f, i, j, 0) (a.2.1 (i2n e) + a.2.1 (i2n f)) = true then 0 else 3 else 2 else 1) (.int (if isC a e i ∧ isC a f j then if a.2.1 (i2n e) + a.2.1 (i2n f) ≤ 4 then if fits a (3, i2n e, i2n f, i, j, 0) (a.2.1 (i2n e) + a.2.1 (i2n f)) = true then nI a.1 else nI 0 else nI 0 else nI 0)) (if isC a e i ∧ isC a f j then if a.2.1 (i2n e) + a.2.1 (i2n f) ≤ 4 then if fits a (3, i2n e, i2n f, i, j, 0) (a.2.1 (i2n e) + a.2.1 (i2n f)) = true then mkv a (3, i2n e, i2n f, i, j, 0) (a.2.1 (i2n e) + a.2.1 (i2n f)) else a else a else a)) := by
  refine CT.of (by decide) (Nat.le_of_ble_eq_true rfl) ?_
  refine v_aload_n (pc := 0) d_Mo_join_0 rfl rfl ?_
  refine v_aload_n (pc := 1) d_Mo_join_1 rfl rfl ?_
  refine v_iload_n (pc := 2) d_Mo_join_2 rfl rfl ?_
  refine v_iload_n (pc := 3) d_Mo_join_3 rfl rfl ?_
  refine v_cvR (pc := 4) (A := [.int e, .int i]) (rest := [.ref b]) (x := .int (if isC a e i then 1 else 0)) d_Mo_join_4 lk_Mo_148 me_Mo_isColumn im_Mo_isColumn se_Mo_isColumn rfl hM.o rfl rfl (c_Mo_isColumn g hM hA hR e i) (Nat.le_of_ble_eq_true rfl) (Nat.le_of_ble_eq_true rfl) (Nat.le_of_ble_eq_true rfl) (Nat.le_of_ble_eq_true rfl) ?_
  refine v_if_eq (pc := 7) (tgt := 20) d_Mo_join_7 rfl (fun hc => ?_) (fun hc => ?_)
  · skip
    rw [zf] at hc
    have hv : ¬ (isC a e i ∧ isC a f j) := fun h => hc h.1
    refine v_iconst (pc := 20) (v := nI 1) d_Mo_join_20 rfl ?_
    refine v_goto (pc := 21) (tgt := 46) d_Mo_join_21 rfl ?_
    refine v_putW (pc := 46) (fs' := (mo_fs b (va_up sc 0 (nI 1)))) d_Mo_join_46 fl_Mo_69 (fi_Mo_69 _) (ok_Mo_0 _) hM.o (Nat.le_of_ble_eq_true rfl) rfl (fun w1 hn1 hq1 => ?_)
    have h1 := hM.n0 hn1 hq1
    have hfr1 : mo_fr b w w1 := mo_fr.rf.at ⟨by omega, by omega⟩ hq1
    have hth : (va_up sc 0 (nI 1)) 0 = nI 1 := rfl
    refine v_aload_n (pc := 49) d_Mo_join_49 rfl rfl ?_
    refine v_get (pc := 50) d_Mo_join_50 fl_Mo_69 h1.o rfl ?_
    refine v_re hth ?_
    refine v_if_le (pc := 53) (tgt := 58) d_Mo_join_53 rfl (fun hc => ?_) (fun hc => ?_)
    · skip
      exact absurd hc (by decide)
    · skip
      refine v_iconst (pc := 56) (v := nI 0) d_Mo_join_56 rfl ?_
      exact v_iret (pc := 57) d_Mo_join_57 rfl (Nat.le_of_ble_eq_true rfl) (Nat.le_of_ble_eq_true rfl) ⟨by rw [if_neg hv], rfl, hfr1, by simp only [if_neg hv]; exact ⟨_, _, _, h1, rfl, hR⟩⟩
  · skip
    rw [zt] at hc
    have hv1 := hc
    refine v_aload_n (pc := 10) d_Mo_join_10 rfl rfl ?_
    refine v_iload_n (pc := 11) d_Mo_join_11 rfl rfl ?_
    refine v_iload (pc := 12) d_Mo_join_12 rfl ?_
    refine v_cvR (pc := 14) (A := [.int f, .int j]) (rest := [.ref b]) (x := .int (if isC a f j then 1 else 0)) d_Mo_join_14 lk_Mo_148 me_Mo_isColumn im_Mo_isColumn se_Mo_isColumn rfl hM.o rfl rfl (c_Mo_isColumn g hM hA hR f j) (Nat.le_of_ble_eq_true rfl) (Nat.le_of_ble_eq_true rfl) (Nat.le_of_ble_eq_true rfl) (Nat.le_of_ble_eq_true rfl) ?_
    refine v_if_ne (pc := 17) (tgt := 24) d_Mo_join_17 rfl (fun hc => ?_) (fun hc => ?_)
    · skip
      rw [zt] at hc
      have hv : isC a e i ∧ isC a f j := ⟨hv1, hc⟩
      obtain ⟨k, x, hk1, hk2, hk3, hx1, hx2, hx3⟩ := isC_n hv1 hA
      obtain ⟨q, y, hq1', hq2, hq3, hy1, hy2, hy3⟩ := isC_n hc hA
      have hk12 := hA.2.1
      subst hk1
      subst hx1
      subst hq1'
      subst hy1
      obtain ⟨hr0, hr7, hrB⟩ := hR.2.2.2.1 k hk2
      obtain ⟨hs0, hs7, hsB⟩ := hR.2.2.2.1 q hq2
      have hw4k := (hA.2.2.2.1 k hk2).2.1
      have hw4q := (hA.2.2.2.1 q hq2).2.1
      refine v_aload_n (pc := 24) d_Mo_join_24 rfl rfl ?_
      refine v_get (pc := 25) d_Mo_join_25 fl_Mo_13 hM.o rfl ?_
      refine v_iload_n (pc := 28) d_Mo_join_28 rfl rfl ?_
      refine v_ialdN (pc := 29) (k := k) (f := ia 0) d_Mo_join_29 hM.a0 rfl (by omega) (by decide) ?_
      refine v_re hr0 ?_
      refine v_aload_n (pc := 30) d_Mo_join_30 rfl rfl ?_
      refine v_get (pc := 31) d_Mo_join_31 fl_Mo_13 hM.o rfl ?_
      refine v_iload_n (pc := 34) d_Mo_join_34 rfl rfl ?_
      refine v_ialdN (pc := 35) (k := q) (f := ia 0) d_Mo_join_35 hM.a0 rfl (by omega) (by decide) ?_
      refine v_re hs0 ?_
      refine v_iadd (pc := 36) d_Mo_join_36 ?_
      refine v_re (nI_add (a.2.1 k) (a.2.1 q)) ?_
      refine v_iconst (pc := 37) (v := nI 4) d_Mo_join_37 rfl ?_
      refine v_icmp_le (pc := 38) (tgt := 45) d_Mo_join_38 rfl (fun hc => ?_) (fun hc => ?_)
      · skip
        rw [nI_leI (by omega) (by omega)] at hc
        have ht : a.2.1 (i2n (nI k)) + a.2.1 (i2n (nI q)) ≤ 4 := by rw [hk3, hq3]; exact hc
        have hte := hc
        refine v_iconst (pc := 45) (v := nI 0) d_Mo_join_45 rfl ?_
        refine v_putW (pc := 46) (fs' := (mo_fs b (va_up sc 0 (nI 0)))) d_Mo_join_46 fl_Mo_69 (fi_Mo_69 _) (ok_Mo_0 _) hM.o (Nat.le_of_ble_eq_true rfl) rfl (fun w1 hn1 hq1 => ?_)
        have h1 := hM.n0 hn1 hq1
        have hfr1 : mo_fr b w w1 := mo_fr.rf.at ⟨by omega, by omega⟩ hq1
        have hth : (va_up sc 0 (nI 0)) 0 = nI 0 := rfl
        refine v_aload_n (pc := 49) d_Mo_join_49 rfl rfl ?_
        refine v_get (pc := 50) d_Mo_join_50 fl_Mo_69 h1.o rfl ?_
        refine v_re hth ?_
        refine v_if_le (pc := 53) (tgt := 58) d_Mo_join_53 rfl (fun hc => ?_) (fun hc => ?_)
        · skip
          refine v_aload_n (pc := 58) d_Mo_join_58 rfl rfl ?_
          refine v_iload_n (pc := 59) d_Mo_join_59 rfl rfl ?_
          refine v_iload (pc := 60) d_Mo_join_60 rfl ?_
          refine v_iconst (pc := 62) (v := nI 0) d_Mo_join_62 rfl ?_
          have hs1 : (va_up sc 0 (nI 0)) 1 = nI a.1 := hR.1
          refine v_cvV (pc := 63) (A := [.int (nI x), .int (nI y), .int (nI 0)]) (rest := []) d_Mo_join_63 lk_Mo_151 me_Mo_told im_Mo_told se_Mo_told rfl h1.o rfl rfl (c_Mo_told g h1 (n := a.1) hs1 hA.2.1 (nI x) (nI y) (nI 0)) (Nat.le_of_ble_eq_true rfl) (Nat.le_of_ble_eq_true rfl) (Nat.le_of_ble_eq_true rfl) (Nat.le_of_ble_eq_true rfl) (fun w2 htl => ?_)
          obtain ⟨f4, f5, f6, h2, hfr2, hnew, hold⟩ := htl
          have hR2 : RAa (va_up sc 0 (nI 0)) (va_up (va_up (va_up ia 4 f4) 5 f5) 6 f6) la a := RAa.told (show RAa (va_up sc 0 (nI 0)) ia la a from hR) hold
          refine v_aload_n (pc := 66) d_Mo_join_66 rfl rfl ?_
          refine v_iconst (pc := 67) (v := nI 3) d_Mo_join_67 rfl ?_
          refine v_iload_n (pc := 68) d_Mo_join_68 rfl rfl ?_
          refine v_iload_n (pc := 69) d_Mo_join_69 rfl rfl ?_
          refine v_aload_n (pc := 70) d_Mo_join_70 rfl rfl ?_
          refine v_get (pc := 71) d_Mo_join_71 fl_Mo_13 h2.o rfl ?_
          refine v_iload_n (pc := 74) d_Mo_join_74 rfl rfl ?_
          refine v_ialdN (pc := 75) (k := k) (f := ia 0) d_Mo_join_75 h2.a0 rfl (by omega) (by decide) ?_
          refine v_re hr0 ?_
          refine v_aload_n (pc := 76) d_Mo_join_76 rfl rfl ?_
          refine v_get (pc := 77) d_Mo_join_77 fl_Mo_13 h2.o rfl ?_
          refine v_iload_n (pc := 80) d_Mo_join_80 rfl rfl ?_
          refine v_ialdN (pc := 81) (k := q) (f := ia 0) d_Mo_join_81 h2.a0 rfl (by omega) (by decide) ?_
          refine v_re hs0 ?_
          refine v_iadd (pc := 82) d_Mo_join_82 ?_
          refine v_re (nI_add (a.2.1 k) (a.2.1 q)) ?_
          refine v_iconst (pc := 83) (v := nI 3) d_Mo_join_83 rfl ?_
          refine v_cvX (pc := 84) (A := [.int (nI 3), .int (nI k), .int (nI q), .int (nI ((a.2.1 k) + (a.2.1 q))), .int (nI 3)]) (rest := []) (x := .int (if fits a (3, k, q, nI x, nI y, 0) (a.2.1 k + a.2.1 q) = true then nI a.1 else nI 0)) d_Mo_join_84 lk_Mo_154 me_Mo_make im_Mo_make se_Mo_make rfl h2.o rfl rfl (c_Mo_make g h2 hA hR2 (kd := 3) (e := k) (f := q) (wv := a.2.1 k + a.2.1 q) (cd := 3) (P := nI x) (Q := nI y) (R := 0) (fun h _ _ => hnew h) (fun _ => wo_jn hA hk2 hq2 hx2 hy2 hte)) (Nat.le_of_ble_eq_true rfl) (Nat.le_of_ble_eq_true rfl) (Nat.le_of_ble_eq_true rfl) (Nat.le_of_ble_eq_true rfl) (fun w3 hmk => ?_)
          exact v_iret (pc := 87) d_Mo_join_87 rfl (Nat.le_of_ble_eq_true rfl) (Nat.le_of_ble_eq_true rfl) ⟨by rw [if_pos hv, if_pos ht, hk3, hq3], rfl, (hfr1.tr hfr2).tr hmk.1, by simp only [if_pos hv, if_pos ht, hk3, hq3, if_pos hte]; exact mk_fin hmk.2⟩
        · skip
          exact absurd hc (by decide)
      · skip
        rw [nI_leI (by omega) (by omega)] at hc
        have ht : ¬ a.2.1 (i2n (nI k)) + a.2.1 (i2n (nI q)) ≤ 4 := by rw [hk3, hq3]; exact hc
        refine v_iconst (pc := 41) (v := nI 2) d_Mo_join_41 rfl ?_
        refine v_goto (pc := 42) (tgt := 46) d_Mo_join_42 rfl ?_
        refine v_putW (pc := 46) (fs' := (mo_fs b (va_up sc 0 (nI 2)))) d_Mo_join_46 fl_Mo_69 (fi_Mo_69 _) (ok_Mo_0 _) hM.o (Nat.le_of_ble_eq_true rfl) rfl (fun w1 hn1 hq1 => ?_)
        have h1 := hM.n0 hn1 hq1
        have hfr1 : mo_fr b w w1 := mo_fr.rf.at ⟨by omega, by omega⟩ hq1
        have hth : (va_up sc 0 (nI 2)) 0 = nI 2 := rfl
        refine v_aload_n (pc := 49) d_Mo_join_49 rfl rfl ?_
        refine v_get (pc := 50) d_Mo_join_50 fl_Mo_69 h1.o rfl ?_
        refine v_re hth ?_
        refine v_if_le (pc := 53) (tgt := 58) d_Mo_join_53 rfl (fun hc => ?_) (fun hc => ?_)
        · skip
          exact absurd hc (by decide)
        · skip
          refine v_iconst (pc := 56) (v := nI 0) d_Mo_join_56 rfl ?_
          exact v_iret (pc := 57) d_Mo_join_57 rfl (Nat.le_of_ble_eq_true rfl) (Nat.le_of_ble_eq_true rfl) ⟨by rw [if_pos hv, if_neg ht], rfl, hfr1, by simp only [if_pos hv, if_neg ht]; exact ⟨_, _, _, h1, rfl, hR⟩⟩
    · skip
      rw [zf] at hc
      have hv : ¬ (isC a e i ∧ isC a f j) := fun h => hc h.2
      refine v_iconst (pc := 20) (v := nI 1) d_Mo_join_20 rfl ?_
      refine v_goto (pc := 21) (tgt := 46) d_Mo_join_21 rfl ?_
      refine v_putW (pc := 46) (fs' := (mo_fs b (va_up sc 0 (nI 1)))) d_Mo_join_46 fl_Mo_69 (fi_Mo_69 _) (ok_Mo_0 _) hM.o (Nat.le_of_ble_eq_true rfl) rfl (fun w1 hn1 hq1 => ?_)
      have h1 := hM.n0 hn1 hq1
      have hfr1 : mo_fr b w w1 := mo_fr.rf.at ⟨by omega, by omega⟩ hq1
      have hth : (va_up sc 0 (nI 1)) 0 = nI 1 := rfl
      refine v_aload_n (pc := 49) d_Mo_join_49 rfl rfl ?_
      refine v_get (pc := 50) d_Mo_join_50 fl_Mo_69 h1.o rfl ?_
      refine v_re hth ?_
      refine v_if_le (pc := 53) (tgt := 58) d_Mo_join_53 rfl (fun hc => ?_) (fun hc => ?_)
      · skip
        exact absurd hc (by decide)
      · skip
        refine v_iconst (pc := 56) (v := nI 0) d_Mo_join_56 rfl ?_
        exact v_iret (pc := 57) d_Mo_join_57 rfl (Nat.le_of_ble_eq_true rfl) (Nat.le_of_ble_eq_true rfl) ⟨by rw [if_neg hv], rfl, hfr1, by simp only [if_neg hv]; exact ⟨_, _, _, h1, rfl, hR⟩⟩
set_option maxRecDepth 100000 in
set_option maxHeartbeats 4000000 in
theorem c_Mo_group (g : Gl) {w : Wd} {b sz : Nat} {sc : Nat → Int32} {ia : Nat → Nat → Int32} {la : Nat → Nat → Int64} (hM : MAt w b sc ia la) {a : As} (hA : AWa a) (hR : RAa sc ia la a) (e t i j : Int32) : CT g 5 0 0 mi_Mo_group [.ref b, .int e, .int t, .int i, .int j] w sz (RE w b sz (if isC a e i ∧ isC a e j then if 0 ≤ t ∧ t ≤ nI 2 then if fits a (5 + i2n t, i2n e, 0, i, j, 0) 2 = true then 0 else 3 else 2 else 1) (.int (if isC a e i ∧ isC a e j then if 0 ≤ t ∧ t ≤ nI 2 then if fits a (5 + i2n t, i2n e, 0, i, j, 0) 2 = true then nI a.1 else nI 0 else nI 0 else nI 0)) (if isC a e i ∧ isC a e j then if 0 ≤ t ∧ t ≤ nI 2 then if fits a (5 + i2n t, i2n e, 0, i, j, 0) 2 = true then mkv a (5 + i2n t, i2n e, 0, i, j, 0) 2 else a else a else a)) := by
  refine CT.of (by decide) (Nat.le_of_ble_eq_true rfl) ?_
  refine v_aload_n (pc := 0) d_Mo_group_0 rfl rfl ?_
  refine v_aload_n (pc := 1) d_Mo_group_1 rfl rfl ?_
  refine v_iload_n (pc := 2) d_Mo_group_2 rfl rfl ?_
  refine v_iload_n (pc := 3) d_Mo_group_3 rfl rfl ?_
  refine v_cvR (pc := 4) (A := [.int e, .int i]) (rest := [.ref b]) (x := .int (if isC a e i then 1 else 0)) d_Mo_group_4 lk_Mo_148 me_Mo_isColumn im_Mo_isColumn se_Mo_isColumn rfl hM.o rfl rfl (c_Mo_isColumn g hM hA hR e i) (Nat.le_of_ble_eq_true rfl) (Nat.le_of_ble_eq_true rfl) (Nat.le_of_ble_eq_true rfl) (Nat.le_of_ble_eq_true rfl) ?_
  refine v_if_eq (pc := 7) (tgt := 20) d_Mo_group_7 rfl (fun hc => ?_) (fun hc => ?_)
  · skip
    rw [zf] at hc
    have hv : ¬ (isC a e i ∧ isC a e j) := fun h => hc h.1
    refine v_iconst (pc := 20) (v := nI 1) d_Mo_group_20 rfl ?_
    refine v_goto (pc := 21) (tgt := 38) d_Mo_group_21 rfl ?_
    refine v_putW (pc := 38) (fs' := (mo_fs b (va_up sc 0 (nI 1)))) d_Mo_group_38 fl_Mo_69 (fi_Mo_69 _) (ok_Mo_0 _) hM.o (Nat.le_of_ble_eq_true rfl) rfl (fun w1 hn1 hq1 => ?_)
    have h1 := hM.n0 hn1 hq1
    have hfr1 : mo_fr b w w1 := mo_fr.rf.at ⟨by omega, by omega⟩ hq1
    have hth : (va_up sc 0 (nI 1)) 0 = nI 1 := rfl
    refine v_aload_n (pc := 41) d_Mo_group_41 rfl rfl ?_
    refine v_get (pc := 42) d_Mo_group_42 fl_Mo_69 h1.o rfl ?_
    refine v_re hth ?_
    refine v_if_le (pc := 45) (tgt := 50) d_Mo_group_45 rfl (fun hc => ?_) (fun hc => ?_)
    · skip
      exact absurd hc (by decide)
    · skip
      refine v_iconst (pc := 48) (v := nI 0) d_Mo_group_48 rfl ?_
      exact v_iret (pc := 49) d_Mo_group_49 rfl (Nat.le_of_ble_eq_true rfl) (Nat.le_of_ble_eq_true rfl) ⟨by rw [if_neg hv], rfl, hfr1, by simp only [if_neg hv]; exact ⟨_, _, _, h1, rfl, hR⟩⟩
  · skip
    rw [zt] at hc
    have hv1 := hc
    refine v_aload_n (pc := 10) d_Mo_group_10 rfl rfl ?_
    refine v_iload_n (pc := 11) d_Mo_group_11 rfl rfl ?_
    refine v_iload (pc := 12) d_Mo_group_12 rfl ?_
    refine v_cvR (pc := 14) (A := [.int e, .int j]) (rest := [.ref b]) (x := .int (if isC a e j then 1 else 0)) d_Mo_group_14 lk_Mo_148 me_Mo_isColumn im_Mo_isColumn se_Mo_isColumn rfl hM.o rfl rfl (c_Mo_isColumn g hM hA hR e j) (Nat.le_of_ble_eq_true rfl) (Nat.le_of_ble_eq_true rfl) (Nat.le_of_ble_eq_true rfl) (Nat.le_of_ble_eq_true rfl) ?_
    refine v_if_ne (pc := 17) (tgt := 24) d_Mo_group_17 rfl (fun hc => ?_) (fun hc => ?_)
    · skip
      rw [zt] at hc
      have hcj := hc
      have hv : isC a e i ∧ isC a e j := ⟨hv1, hc⟩
      obtain ⟨k, x, hk1, hk2, hk3, hx1, hx2, hx3⟩ := isC_n hv1 hA
      have hk12 := hA.2.1
      subst hk1
      subst hx1
      obtain ⟨q, y, hq1', hq2, hq3, hy1, hy2, hy3⟩ := isC_n hcj hA
      obtain rfl : q = k := hq3.symm.trans hk3
      subst hy1
      refine v_iload_n (pc := 24) d_Mo_group_24 rfl rfl ?_
      refine v_if_lt (pc := 25) (tgt := 33) d_Mo_group_25 rfl (fun hc => ?_) (fun hc => ?_)
      · skip
        have ht : ¬ (0 ≤ t ∧ t ≤ nI 2) := fun h => absurd hc (Int32.not_lt.mpr h.1)
        refine v_iconst (pc := 33) (v := nI 2) d_Mo_group_33 rfl ?_
        refine v_goto (pc := 34) (tgt := 38) d_Mo_group_34 rfl ?_
        refine v_putW (pc := 38) (fs' := (mo_fs b (va_up sc 0 (nI 2)))) d_Mo_group_38 fl_Mo_69 (fi_Mo_69 _) (ok_Mo_0 _) hM.o (Nat.le_of_ble_eq_true rfl) rfl (fun w1 hn1 hq1 => ?_)
        have h1 := hM.n0 hn1 hq1
        have hfr1 : mo_fr b w w1 := mo_fr.rf.at ⟨by omega, by omega⟩ hq1
        have hth : (va_up sc 0 (nI 2)) 0 = nI 2 := rfl
        refine v_aload_n (pc := 41) d_Mo_group_41 rfl rfl ?_
        refine v_get (pc := 42) d_Mo_group_42 fl_Mo_69 h1.o rfl ?_
        refine v_re hth ?_
        refine v_if_le (pc := 45) (tgt := 50) d_Mo_group_45 rfl (fun hc => ?_) (fun hc => ?_)
        · skip
          exact absurd hc (by decide)
        · skip
          refine v_iconst (pc := 48) (v := nI 0) d_Mo_group_48 rfl ?_
          exact v_iret (pc := 49) d_Mo_group_49 rfl (Nat.le_of_ble_eq_true rfl) (Nat.le_of_ble_eq_true rfl) ⟨by rw [if_pos hv, if_neg ht], rfl, hfr1, by simp only [if_pos hv, if_neg ht]; exact ⟨_, _, _, h1, rfl, hR⟩⟩
      · skip
        have ht0 := hc
        refine v_iload_n (pc := 28) d_Mo_group_28 rfl rfl ?_
        refine v_iconst (pc := 29) (v := nI 2) d_Mo_group_29 rfl ?_
        refine v_icmp_le (pc := 30) (tgt := 37) d_Mo_group_30 rfl (fun hc => ?_) (fun hc => ?_)
        · skip
          have ht : 0 ≤ t ∧ t ≤ nI 2 := ⟨Int32.not_lt.mp ht0, hc⟩
          obtain ⟨ht1, ht2⟩ := i2n_of ht.1
          have htd : i2n t ≤ 2 := by have h9 := ht.2; rw [ht1, nI_leI (by omega) (by decide)] at h9; exact h9
          generalize hd : i2n t = d at ht1 ht2 htd
          subst ht1
          refine v_iconst (pc := 37) (v := nI 0) d_Mo_group_37 rfl ?_
          refine v_putW (pc := 38) (fs' := (mo_fs b (va_up sc 0 (nI 0)))) d_Mo_group_38 fl_Mo_69 (fi_Mo_69 _) (ok_Mo_0 _) hM.o (Nat.le_of_ble_eq_true rfl) rfl (fun w1 hn1 hq1 => ?_)
          have h1 := hM.n0 hn1 hq1
          have hfr1 : mo_fr b w w1 := mo_fr.rf.at ⟨by omega, by omega⟩ hq1
          have hth : (va_up sc 0 (nI 0)) 0 = nI 0 := rfl
          refine v_aload_n (pc := 41) d_Mo_group_41 rfl rfl ?_
          refine v_get (pc := 42) d_Mo_group_42 fl_Mo_69 h1.o rfl ?_
          refine v_re hth ?_
          refine v_if_le (pc := 45) (tgt := 50) d_Mo_group_45 rfl (fun hc => ?_) (fun hc => ?_)
          · skip
            refine v_aload_n (pc := 50) d_Mo_group_50 rfl rfl ?_
            refine v_iload_n (pc := 51) d_Mo_group_51 rfl rfl ?_
            refine v_iload (pc := 52) d_Mo_group_52 rfl ?_
            refine v_iconst (pc := 54) (v := nI 0) d_Mo_group_54 rfl ?_
            have hs1 : (va_up sc 0 (nI 0)) 1 = nI a.1 := hR.1
            refine v_cvV (pc := 55) (A := [.int (nI x), .int (nI y), .int (nI 0)]) (rest := []) d_Mo_group_55 lk_Mo_151 me_Mo_told im_Mo_told se_Mo_told rfl h1.o rfl rfl (c_Mo_told g h1 (n := a.1) hs1 hA.2.1 (nI x) (nI y) (nI 0)) (Nat.le_of_ble_eq_true rfl) (Nat.le_of_ble_eq_true rfl) (Nat.le_of_ble_eq_true rfl) (Nat.le_of_ble_eq_true rfl) (fun w2 htl => ?_)
            obtain ⟨f4, f5, f6, h2, hfr2, hnew, hold⟩ := htl
            have hR2 : RAa (va_up sc 0 (nI 0)) (va_up (va_up (va_up ia 4 f4) 5 f5) 6 f6) la a := RAa.told (show RAa (va_up sc 0 (nI 0)) ia la a from hR) hold
            refine v_aload_n (pc := 58) d_Mo_group_58 rfl rfl ?_
            refine v_iconst (pc := 59) (v := nI 5) d_Mo_group_59 rfl ?_
            refine v_iload_n (pc := 60) d_Mo_group_60 rfl rfl ?_
            refine v_iadd (pc := 61) d_Mo_group_61 ?_
            refine v_re (nI_add 5 d) ?_
            refine v_iload_n (pc := 62) d_Mo_group_62 rfl rfl ?_
            refine v_iconst (pc := 63) (v := nI 0) d_Mo_group_63 rfl ?_
            refine v_iconst (pc := 64) (v := nI 2) d_Mo_group_64 rfl ?_
            refine v_iconst (pc := 65) (v := nI 3) d_Mo_group_65 rfl ?_
            refine v_cvX (pc := 66) (A := [.int (nI (5 + d)), .int (nI q), .int (nI 0), .int (nI 2), .int (nI 3)]) (rest := []) (x := .int (if fits a (5 + d, q, 0, nI x, nI y, 0) 2 = true then nI a.1 else nI 0)) d_Mo_group_66 lk_Mo_154 me_Mo_make im_Mo_make se_Mo_make rfl h2.o rfl rfl (c_Mo_make g h2 hA hR2 (kd := 5 + d) (e := q) (f := 0) (wv := 2) (cd := 3) (P := nI x) (Q := nI y) (R := 0) (fun h _ _ => hnew h) (fun _ => wo_gr hA hk2 htd hx2 hy2)) (Nat.le_of_ble_eq_true rfl) (Nat.le_of_ble_eq_true rfl) (Nat.le_of_ble_eq_true rfl) (Nat.le_of_ble_eq_true rfl) (fun w3 hmk => ?_)
            exact v_iret (pc := 69) d_Mo_group_69 rfl (Nat.le_of_ble_eq_true rfl) (Nat.le_of_ble_eq_true rfl) ⟨by rw [if_pos hv, if_pos ht, hk3], rfl, (hfr1.tr hfr2).tr hmk.1, by simp only [if_pos hv, if_pos ht, hk3]; exact mk_fin hmk.2⟩
          · skip
            exact absurd hc (by decide)
        · skip
          have ht : ¬ (0 ≤ t ∧ t ≤ nI 2) := fun h => hc h.2
          refine v_iconst (pc := 33) (v := nI 2) d_Mo_group_33 rfl ?_
          refine v_goto (pc := 34) (tgt := 38) d_Mo_group_34 rfl ?_
          refine v_putW (pc := 38) (fs' := (mo_fs b (va_up sc 0 (nI 2)))) d_Mo_group_38 fl_Mo_69 (fi_Mo_69 _) (ok_Mo_0 _) hM.o (Nat.le_of_ble_eq_true rfl) rfl (fun w1 hn1 hq1 => ?_)
          have h1 := hM.n0 hn1 hq1
          have hfr1 : mo_fr b w w1 := mo_fr.rf.at ⟨by omega, by omega⟩ hq1
          have hth : (va_up sc 0 (nI 2)) 0 = nI 2 := rfl
          refine v_aload_n (pc := 41) d_Mo_group_41 rfl rfl ?_
          refine v_get (pc := 42) d_Mo_group_42 fl_Mo_69 h1.o rfl ?_
          refine v_re hth ?_
          refine v_if_le (pc := 45) (tgt := 50) d_Mo_group_45 rfl (fun hc => ?_) (fun hc => ?_)
          · skip
            exact absurd hc (by decide)
          · skip
            refine v_iconst (pc := 48) (v := nI 0) d_Mo_group_48 rfl ?_
            exact v_iret (pc := 49) d_Mo_group_49 rfl (Nat.le_of_ble_eq_true rfl) (Nat.le_of_ble_eq_true rfl) ⟨by rw [if_pos hv, if_neg ht], rfl, hfr1, by simp only [if_pos hv, if_neg ht]; exact ⟨_, _, _, h1, rfl, hR⟩⟩
    · skip
      rw [zf] at hc
      have hv : ¬ (isC a e i ∧ isC a e j) := fun h => hc h.2
      refine v_iconst (pc := 20) (v := nI 1) d_Mo_group_20 rfl ?_
      refine v_goto (pc := 21) (tgt := 38) d_Mo_group_21 rfl ?_
      refine v_putW (pc := 38) (fs' := (mo_fs b (va_up sc 0 (nI 1)))) d_Mo_group_38 fl_Mo_69 (fi_Mo_69 _) (ok_Mo_0 _) hM.o (Nat.le_of_ble_eq_true rfl) rfl (fun w1 hn1 hq1 => ?_)
      have h1 := hM.n0 hn1 hq1
      have hfr1 : mo_fr b w w1 := mo_fr.rf.at ⟨by omega, by omega⟩ hq1
      have hth : (va_up sc 0 (nI 1)) 0 = nI 1 := rfl
      refine v_aload_n (pc := 41) d_Mo_group_41 rfl rfl ?_
      refine v_get (pc := 42) d_Mo_group_42 fl_Mo_69 h1.o rfl ?_
      refine v_re hth ?_
      refine v_if_le (pc := 45) (tgt := 50) d_Mo_group_45 rfl (fun hc => ?_) (fun hc => ?_)
      · skip
        exact absurd hc (by decide)
      · skip
        refine v_iconst (pc := 48) (v := nI 0) d_Mo_group_48 rfl ?_
        exact v_iret (pc := 49) d_Mo_group_49 rfl (Nat.le_of_ble_eq_true rfl) (Nat.le_of_ble_eq_true rfl) ⟨by rw [if_neg hv], rfl, hfr1, by simp only [if_neg hv]; exact ⟨_, _, _, h1, rfl, hR⟩⟩
