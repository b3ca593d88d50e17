/-! Abstract states as one, and making a view. -/
abbrev As : Type := Nat × (Nat → Nat) × (Nat → VOp) × (Nat → MaB) × (Nat → Nat) × Bt
def AWa (a : As) : Prop := AW a.1 a.2.1 a.2.2.1 a.2.2.2.1 a.2.2.2.2.2
def RAa (sc : Nat → Int32) (ia : Nat → Nat → Int32) (la : Nat → Nat → Int64) (a : As) : Prop := RA sc ia la a.1 a.2.1 a.2.2.1 a.2.2.2.1 a.2.2.2.2.1 a.2.2.2.2.2
def RRa (w : Wd) (b : Nat) (a : As) (th : Int32) : Prop := ∃ sc ia la, MAt w b sc ia la ∧ sc 0 = th ∧ RAa sc ia la a
def RE (w : Wd) (b sz code : Nat) (v : Value) (a : As) : Rs → Wd → Nat → Prop := fun r w' sz' => r = .inl (some v) ∧ sz' = sz ∧ mo_fr b w w' ∧ RRa w' b a (nI code)
abbrev isV (a : As) (e : Int32) : Prop := 0 ≤ e ∧ e < nI a.1
abbrev isC (a : As) (e c : Int32) : Prop := isV a e ∧ 0 ≤ c ∧ c < nI (a.2.1 (i2n e))
def vnew (a : As) (o : VOp) (wv : Nat) : MaB := ma_fold [] (op_adds wv a.2.2.2.1 o)
def fits (a : As) (o : VOp) (wv : Nat) : Bool := decide (a.1 ≠ 12) && decide ((vnew a o wv).length ≤ 16)
def mkv (a : As) (o : VOp) (wv : Nat) : As := (a.1 + 1, va_up a.2.1 a.1 wv, va_up a.2.2.1 a.1 o, va_up a.2.2.2.1 a.1 (vnew a o wv), va_up a.2.2.2.2.1 a.1 0, a.2.2.2.2.2)
theorem fits_iff {a : As} {o : VOp} {wv : Nat} : fits a o wv = true ↔ a.1 ≠ 12 ∧ (vnew a o wv).length ≤ 16 := by
  unfold fits
  rw [Bool.and_eq_true, decide_eq_true_eq, decide_eq_true_eq]
theorem i2n_of {x : Int32} (h : 0 ≤ x) : x = nI (i2n x) ∧ i2n x < 2 ^ 31 := by
  have h1 : 0 ≤ x.toInt := by have h9 := Int32.le_iff_toInt_le.mp h; exact h9
  have h2 : x.toInt < 2 ^ 31 := by have := Int32.toInt_lt x; omega
  have h3 : (i2n x : Int) = x.toInt := by unfold i2n; omega
  refine ⟨Int32.toInt_inj.mp ?_, by omega⟩
  rw [nI_toInt (by omega), h3]
theorem isV_n {a : As} {e : Int32} (h : isV a e) (hn : a.1 ≤ 12) : ∃ k, e = nI k ∧ k < a.1 ∧ i2n e = k := by
  obtain ⟨h1, h2⟩ := i2n_of h.1
  refine ⟨i2n e, h1, ?_, rfl⟩
  have h3 := h.2
  rw [h1, nI_ltI (by omega) (by omega)] at h3
  exact h3
theorem isC_n {a : As} {e c : Int32} (h : isC a e c) (hA : AWa a) : ∃ k j, e = nI k ∧ k < a.1 ∧ i2n e = k ∧ c = nI j ∧ j < a.2.1 k ∧ j < 4 := by
  obtain ⟨k, h1, h2, h3⟩ := isV_n h.1 hA.2.1
  obtain ⟨h4, h5⟩ := i2n_of h.2.1
  have h6 := h.2.2
  have h7 := (hA.2.2.2.1 k h2).2.1
  rw [h3, h4, nI_ltI (by omega) (by omega)] at h6
  exact ⟨k, i2n c, h1, h2, h3, h4, h6, by omega⟩
set_option maxRecDepth 100000 in
set_option maxHeartbeats 4000000 in
theorem c_Mo_isColumn (g : Gl) {w : Wd} {b sz : Nat} {sc : Nat → Int32} {ia : Nat → Nat → Int32} {la : Nat → Nat → Int64} (hM : MAt w b sc ia la) {a : As} (hA : AWa a) (hR : RAa sc ia la a) (e c : Int32) : CT g 1 0 0 mi_Mo_isColumn [.ref b, .int e, .int c] w sz (rdE (some (.int (if isC a e c then 1 else 0))) w sz) := by
  refine CT.of (by decide) (Nat.le_of_ble_eq_true rfl) ?_
  refine v_aload_n (pc := 0) d_Mo_isColumn_0 rfl rfl ?_
  refine v_iload_n (pc := 1) d_Mo_isColumn_1 rfl rfl ?_
  refine v_cvR (pc := 2) (A := [.int e]) (rest := []) (x := .int (if 0 ≤ e ∧ e < sc 1 then 1 else 0)) d_Mo_isColumn_2 lk_Mo_145 me_Mo_isView im_Mo_isView se_Mo_isView rfl hM.o rfl rfl (c_Mo_isView g hM e) (Nat.le_of_ble_eq_true rfl) (Nat.le_of_ble_eq_true rfl) (Nat.le_of_ble_eq_true rfl) (Nat.le_of_ble_eq_true rfl) ?_
  refine v_if_eq (pc := 5) (tgt := 26) d_Mo_isColumn_5 rfl (fun hc => ?_) (fun hc => ?_)
  · skip
    rw [zf] at hc
    refine v_iconst (pc := 26) (v := nI 0) d_Mo_isColumn_26 rfl ?_
    exact v_zret (pc := 27) d_Mo_isColumn_27 rfl z01 (Nat.le_of_ble_eq_true rfl) (Nat.le_of_ble_eq_true rfl) ⟨zr0 (fun h => hc ⟨h.1.1, by rw [hR.1]; exact h.1.2⟩), rfl, rfl⟩
  · skip
    rw [zt] at hc
    have hv : isV a e := ⟨hc.1, by rw [← hR.1]; exact hc.2⟩
    obtain ⟨k, hk1, hk2, hk3⟩ := isV_n hv hA.2.1
    have hk12 := hA.2.1
    refine v_iload_n (pc := 8) d_Mo_isColumn_8 rfl rfl ?_
    refine v_if_lt (pc := 9) (tgt := 26) d_Mo_isColumn_9 rfl (fun hc => ?_) (fun hc => ?_)
    · skip
      refine v_iconst (pc := 26) (v := nI 0) d_Mo_isColumn_26 rfl ?_
      exact v_zret (pc := 27) d_Mo_isColumn_27 rfl z01 (Nat.le_of_ble_eq_true rfl) (Nat.le_of_ble_eq_true rfl) ⟨zr0 (fun h => absurd hc (Int32.not_lt.mpr h.2.1)), rfl, rfl⟩
    · skip
      have hg := hc
      refine v_iload_n (pc := 12) d_Mo_isColumn_12 rfl rfl ?_
      refine v_aload_n (pc := 13) d_Mo_isColumn_13 rfl rfl ?_
      refine v_get (pc := 14) d_Mo_isColumn_14 fl_Mo_13 hM.o rfl ?_
      refine v_iload_n (pc := 17) d_Mo_isColumn_17 rfl rfl ?_
      subst hk1
      refine v_ialdN (pc := 18) (k := k) (f := ia 0) d_Mo_isColumn_18 hM.a0 rfl (by omega) (by decide) ?_
      refine v_icmp_ge (pc := 19) (tgt := 26) d_Mo_isColumn_19 rfl (fun hc => ?_) (fun hc => ?_)
      · skip
        refine v_iconst (pc := 26) (v := nI 0) d_Mo_isColumn_26 rfl ?_
        exact v_zret (pc := 27) d_Mo_isColumn_27 rfl z01 (Nat.le_of_ble_eq_true rfl) (Nat.le_of_ble_eq_true rfl) ⟨zr0 (fun h => by have h9 := h.2.2; rw [hk3, ← (hR.2.2.2.1 k hk2).1] at h9; exact absurd h9 (Int32.not_lt.mpr hc)), rfl, rfl⟩
      · skip
        refine v_iconst (pc := 22) (v := nI 1) d_Mo_isColumn_22 rfl ?_
        refine v_goto (pc := 23) (tgt := 27) d_Mo_isColumn_23 rfl ?_
        exact v_zret (pc := 27) d_Mo_isColumn_27 rfl z11 (Nat.le_of_ble_eq_true rfl) (Nat.le_of_ble_eq_true rfl) ⟨zr1 ⟨hv, Int32.not_lt.mp hg, by rw [hk3, ← (hR.2.2.2.1 k hk2).1]; exact Int32.not_le.mp hc⟩, rfl, rfl⟩
theorem c_Mo_isViewA (g : Gl) {w : Wd} {b sz : Nat} {sc : Nat → Int32} {ia : Nat → Nat → Int32} {la : Nat → Nat → Int64} (hM : MAt w b sc ia la) {a : As} (hR : RAa sc ia la a) (e : Int32) : CT g 0 0 0 mi_Mo_isView [.ref b, .int e] w sz (rdE (some (.int (if isV a e then 1 else 0))) w sz) := by
  have h := c_Mo_isView g hM (sz := sz) e
  rw [hR.1] at h
  exact h
def mo_tl (w : Wd) (b : Nat) (sc : Nat → Int32) (ia : Nat → Nat → Int32) (la : Nat → Nat → Int64) (n : Nat) (P Q R : Int32) (w' : Wd) : Prop := ∃ f4 f5 f6, MAt w' b sc (va_up (va_up (va_up ia 4 f4) 5 f5) 6 f6) la ∧ mo_fr b w w' ∧ (n ≠ 12 → f4 n = P ∧ f5 n = Q ∧ f6 n = R) ∧ (∀ u, u ≠ n → f4 u = ia 4 u ∧ f5 u = ia 5 u ∧ f6 u = ia 6 u)
set_option maxRecDepth 100000 in
set_option maxHeartbeats 4000000 in
theorem c_Mo_told (g : Gl) {w : Wd} {b sz : Nat} {sc : Nat → Int32} {ia : Nat → Nat → Int32} {la : Nat → Nat → Int64} (hM : MAt w b sc ia la) {n : Nat} (hn : sc 1 = nI n) (hn12 : n ≤ 12) (P Q R : Int32) : CT g 0 0 0 mi_Mo_told [.ref b, .int P, .int Q, .int R] w sz (wrE none sz (mo_tl w b sc ia la n P Q R)) := by
  refine CT.of (by decide) (Nat.le_of_ble_eq_true rfl) ?_
  refine v_aload_n (pc := 0) d_Mo_told_0 rfl rfl ?_
  refine v_get (pc := 1) d_Mo_told_1 fl_Mo_7 hM.o rfl ?_
  refine v_re hn ?_
  refine v_bipush (pc := 4) (v := nI 12) d_Mo_told_4 rfl ?_
  refine v_icmp_ge (pc := 6) (tgt := 39) d_Mo_told_6 rfl (fun hc => ?_) (fun hc => ?_)
  · skip
    rw [nI_leI (by omega) (by omega)] at hc
    exact v_vret (pc := 39) d_Mo_told_39 rfl (Nat.le_of_ble_eq_true rfl) (Nat.le_of_ble_eq_true rfl) ⟨rfl, rfl, ia 4, ia 5, ia 6, by rw [va_id, va_id, va_id]; exact hM, mo_fr.rf, fun h => absurd h (by omega), fun u _ => ⟨rfl, rfl, rfl⟩⟩
  · skip
    rw [nI_leI (by omega) (by omega)] at hc
    refine v_aload_n (pc := 9) d_Mo_told_9 rfl rfl ?_
    refine v_get (pc := 10) d_Mo_told_10 fl_Mo_26 hM.o rfl ?_
    refine v_aload_n (pc := 13) d_Mo_told_13 rfl rfl ?_
    refine v_get (pc := 14) d_Mo_told_14 fl_Mo_7 hM.o rfl ?_
    refine v_re hn ?_
    refine v_iload_n (pc := 17) d_Mo_told_17 rfl rfl ?_
    refine v_iastW (pc := 18) (k := n) (f := ia 4) d_Mo_told_18 hM.a4 rfl (by omega) (by decide) (fun w1 hn1 hq1 => ?_)
    have h1 := hM.s4 hn1 hq1
    refine v_aload_n (pc := 19) d_Mo_told_19 rfl rfl ?_
    refine v_get (pc := 20) d_Mo_told_20 fl_Mo_29 h1.o rfl ?_
    refine v_aload_n (pc := 23) d_Mo_told_23 rfl rfl ?_
    refine v_get (pc := 24) d_Mo_told_24 fl_Mo_7 h1.o rfl ?_
    refine v_re hn ?_
    refine v_iload_n (pc := 27) d_Mo_told_27 rfl rfl ?_
    refine v_iastW (pc := 28) (k := n) (f := ia 5) d_Mo_told_28 h1.a5 rfl (by omega) (by decide) (fun w2 hn2 hq2 => ?_)
    have h2 := h1.s5 hn2 hq2
    refine v_aload_n (pc := 29) d_Mo_told_29 rfl rfl ?_
    refine v_get (pc := 30) d_Mo_told_30 fl_Mo_32 h2.o rfl ?_
    refine v_aload_n (pc := 33) d_Mo_told_33 rfl rfl ?_
    refine v_get (pc := 34) d_Mo_told_34 fl_Mo_7 h2.o rfl ?_
    refine v_re hn ?_
    refine v_iload_n (pc := 37) d_Mo_told_37 rfl rfl ?_
    refine v_iastW (pc := 38) (k := n) (f := ia 6) d_Mo_told_38 h2.a6 rfl (by omega) (by decide) (fun w3 hn3 hq3 => ?_)
    have h3 := h2.s6 hn3 hq3
    exact v_vret (pc := 39) d_Mo_told_39 rfl (Nat.le_of_ble_eq_true rfl) (Nat.le_of_ble_eq_true rfl) ⟨rfl, rfl, _, _, _, h3, ((mo_fr.rf.at ⟨by omega, by omega⟩ hq1).at ⟨by omega, by omega⟩ hq2).at ⟨by omega, by omega⟩ hq3, fun _ => ⟨pk_us, pk_us, pk_us⟩, fun u hu => ⟨pk_un hu, pk_un hu, pk_un hu⟩⟩
set_option maxRecDepth 100000 in
set_option maxHeartbeats 4000000 in
theorem c_Mo_make (g : Gl) {w : Wd} {b sz : Nat} {sc : Nat → Int32} {ia : Nat → Nat → Int32} {la : Nat → Nat → Int64} (hM : MAt w b sc ia la) {a : As} (hA : AWa a) (hR : RAa sc ia la a) {kd e f wv cd : Nat} {P Q R : Int32} (ht : a.1 ≠ 12 → kd ≠ 4 → kd ≠ 8 → ia 4 a.1 = P ∧ ia 5 a.1 = Q ∧ ia 6 a.1 = R) (hW : a.1 ≠ 12 → WO (va_up a.2.1 a.1 wv) a.1 (kd, e, f, P, Q, R)) : CT g 4 0 0 mi_Mo_make [.ref b, .int (nI kd), .int (nI e), .int (nI f), .int (nI wv), .int (nI cd)] w sz (wrE (some (.int (if fits a (kd, e, f, P, Q, R) wv = true then nI a.1 else nI 0))) sz (fun w' => mo_fr b w w' ∧ RRa w' b (if fits a (kd, e, f, P, Q, R) wv = true then mkv a (kd, e, f, P, Q, R) wv else a) (if fits a (kd, e, f, P, Q, R) wv = true then sc 0 else nI cd))) := by
  refine CT.of (by decide) (Nat.le_of_ble_eq_true rfl) ?_
  have hn := hR.1
  have hn12 := hA.2.1
  refine v_aload_n (pc := 0) d_Mo_make_0 rfl rfl ?_
  refine v_get (pc := 1) d_Mo_make_1 fl_Mo_7 hM.o rfl ?_
  refine v_re hn ?_
  refine v_bipush (pc := 4) (v := nI 12) d_Mo_make_4 rfl ?_
  refine v_icmp_ne (pc := 6) (tgt := 17) d_Mo_make_6 rfl (fun hc => ?_) (fun hc => ?_)
  · skip
    rw [nI_eq (by omega) (by omega)] at hc
    have hn0 := hc
    refine v_aload_n (pc := 17) d_Mo_make_17 rfl rfl ?_
    refine v_get (pc := 18) d_Mo_make_18 fl_Mo_17 hM.o rfl ?_
    refine v_aload_n (pc := 21) d_Mo_make_21 rfl rfl ?_
    refine v_get (pc := 22) d_Mo_make_22 fl_Mo_7 hM.o rfl ?_
    refine v_re hn ?_
    refine v_iload_n (pc := 25) d_Mo_make_25 rfl rfl ?_
    refine v_iastW (pc := 26) (k := a.1) (f := ia 1) d_Mo_make_26 hM.a1 rfl (by omega) (by decide) (fun w1 hn1 hq1 => ?_)
    have h1 := hM.s1 hn1 hq1
    refine v_aload_n (pc := 27) d_Mo_make_27 rfl rfl ?_
    refine v_get (pc := 28) d_Mo_make_28 fl_Mo_20 h1.o rfl ?_
    refine v_aload_n (pc := 31) d_Mo_make_31 rfl rfl ?_
    refine v_get (pc := 32) d_Mo_make_32 fl_Mo_7 h1.o rfl ?_
    refine v_re hn ?_
    refine v_iload_n (pc := 35) d_Mo_make_35 rfl rfl ?_
    refine v_iastW (pc := 36) (k := a.1) (f := ia 2) d_Mo_make_36 h1.a2 rfl (by omega) (by decide) (fun w2 hn2 hq2 => ?_)
    have h2 := h1.s2 hn2 hq2
    refine v_aload_n (pc := 37) d_Mo_make_37 rfl rfl ?_
    refine v_get (pc := 38) d_Mo_make_38 fl_Mo_23 h2.o rfl ?_
    refine v_aload_n (pc := 41) d_Mo_make_41 rfl rfl ?_
    refine v_get (pc := 42) d_Mo_make_42 fl_Mo_7 h2.o rfl ?_
    refine v_re hn ?_
    refine v_iload_n (pc := 45) d_Mo_make_45 rfl rfl ?_
    refine v_iastW (pc := 46) (k := a.1) (f := ia 3) d_Mo_make_46 h2.a3 rfl (by omega) (by decide) (fun w3 hn3 hq3 => ?_)
    have h3 := h2.s3 hn3 hq3
    refine v_aload_n (pc := 47) d_Mo_make_47 rfl rfl ?_
    refine v_get (pc := 48) d_Mo_make_48 fl_Mo_13 h3.o rfl ?_
    refine v_aload_n (pc := 51) d_Mo_make_51 rfl rfl ?_
    refine v_get (pc := 52) d_Mo_make_52 fl_Mo_7 h3.o rfl ?_
    refine v_re hn ?_
    refine v_iload (pc := 55) d_Mo_make_55 rfl ?_
    refine v_iastW (pc := 57) (k := a.1) (f := ia 0) d_Mo_make_57 h3.a0 rfl (by omega) (by decide) (fun w4 hn4 hq4 => ?_)
    have h4 := h3.s0 hn4 hq4
    refine v_aload_n (pc := 58) d_Mo_make_58 rfl rfl ?_
    refine v_get (pc := 59) d_Mo_make_59 fl_Mo_35 h4.o rfl ?_
    refine v_aload_n (pc := 62) d_Mo_make_62 rfl rfl ?_
    refine v_get (pc := 63) d_Mo_make_63 fl_Mo_7 h4.o rfl ?_
    refine v_re hn ?_
    refine v_iconst (pc := 66) (v := nI 0) d_Mo_make_66 rfl ?_
    refine v_iastW (pc := 67) (k := a.1) (f := ia 7) d_Mo_make_67 h4.a7 rfl (by omega) (by decide) (fun w5 hn5 hq5 => ?_)
    have h5 := h4.s7 hn5 hq5
    refine v_aload_n (pc := 68) d_Mo_make_68 rfl rfl ?_
    refine v_aload_n (pc := 69) d_Mo_make_69 rfl rfl ?_
    refine v_get (pc := 70) d_Mo_make_70 fl_Mo_7 h5.o rfl ?_
    refine v_re hn ?_
    refine v_iconst (pc := 73) (v := nI 0) d_Mo_make_73 rfl ?_
    have hWW := hW hn0
    have hT : kd ≠ 4 → kd ≠ 8 → ia 4 a.1 = P ∧ ia 5 a.1 = Q ∧ ia 6 a.1 = R := fun h1 h2 => ht hn0 h1 h2
    refine v_cvX (pc := 74) (A := [.int (nI (a.1)), .int (nI 0)]) (rest := []) (x := .int (if (ma_fold [] (op_adds (va_up a.2.1 a.1 wv a.1) a.2.2.2.1 (kd, e, f, P, Q, R))).length ≤ 16 then 1 else 0)) d_Mo_make_74 lk_Mo_138 me_Mo_work im_Mo_work se_Mo_work rfl h5.o rfl rfl (c_Mo_work g h5 (v := a.1) (on := 0) (by omega) (by decide) (wd := va_up a.2.1 a.1 wv) (β := a.2.2.2.1) (o := (kd, e, f, P, Q, R)) ⟨pk_us, pk_us, pk_us, hT⟩ hWW (fun u hu => by by_cases h9 : u = a.1; (subst h9; rw [va_up_self]; exact pk_us); (rw [va_up_ne _ _ h9]; exact (pk_un h9).trans (hR.2.2.2.1 u (by omega)).1)) (fun u hu => by by_cases h9 : u = a.1; (rw [h9]; exact hWW.2.1); (rw [va_up_ne _ _ h9]; exact (hA.2.2.2.1 u (by omega)).2.1)) (fun u hu => by rw [va_up_ne _ _ (by omega), Nat.add_zero]; exact (hR.2.2.2.1 u hu).2.2)) (Nat.le_of_ble_eq_true rfl) (Nat.le_of_ble_eq_true rfl) (Nat.le_of_ble_eq_true rfl) (Nat.le_of_ble_eq_true rfl) (fun w6 hwp => ?_)
    rw [va_up_self] at hwp ⊢
    obtain ⟨s6, i6, l6, h6, hf6, hc6, hb6⟩ := hwp
    rw [Nat.add_zero] at hc6 hb6
    have hs6 : s6 1 = nI a.1 := (hc6.1 1 (by decide)).trans hn
    have hfr5 : mo_fr b w w6 := (((((mo_fr.rf.at ⟨by omega, by omega⟩ hq1).at ⟨by omega, by omega⟩ hq2).at ⟨by omega, by omega⟩ hq3).at ⟨by omega, by omega⟩ hq4).at ⟨by omega, by omega⟩ hq5).tr hf6
    have e14 : ∀ i, i ≠ 8 → i ≠ 10 → i ≠ 12 → i ≠ 13 → i ≠ 1 → i ≠ 2 → i ≠ 3 → i ≠ 0 → i ≠ 7 → i6 i = ia i := fun i b1 b2 b3 b4 c1 c2 c3 c4 c5 => by rw [hc6.2.1 i b1 b2 b3 b4, va_up_ne _ _ c5, va_up_ne _ _ c4, va_up_ne _ _ c3, va_up_ne _ _ c2, va_up_ne _ _ c1]
    have hbt : bt_of (i6 14) (i6 15) (i6 16) (i6 17) a.2.2.2.2.2.length = a.2.2.2.2.2 := by rw [e14 14 (by decide) (by decide) (by decide) (by decide) (by decide) (by decide) (by decide) (by decide) (by decide), e14 15 (by decide) (by decide) (by decide) (by decide) (by decide) (by decide) (by decide) (by decide) (by decide), e14 16 (by decide) (by decide) (by decide) (by decide) (by decide) (by decide) (by decide) (by decide) (by decide), e14 17 (by decide) (by decide) (by decide) (by decide) (by decide) (by decide) (by decide) (by decide) (by decide)]; exact hR.2.2.1
    have k0 : i6 0 = upd (ia 0) a.1 (nI wv) := hc6.2.1 0 (by decide) (by decide) (by decide) (by decide)
    have k1 : i6 1 = upd (ia 1) a.1 (nI kd) := hc6.2.1 1 (by decide) (by decide) (by decide) (by decide)
    have k2 : i6 2 = upd (ia 2) a.1 (nI e) := hc6.2.1 2 (by decide) (by decide) (by decide) (by decide)
    have k3 : i6 3 = upd (ia 3) a.1 (nI f) := hc6.2.1 3 (by decide) (by decide) (by decide) (by decide)
    have k4 : i6 4 = ia 4 := hc6.2.1 4 (by decide) (by decide) (by decide) (by decide)
    have k5 : i6 5 = ia 5 := hc6.2.1 5 (by decide) (by decide) (by decide) (by decide)
    have k6 : i6 6 = ia 6 := hc6.2.1 6 (by decide) (by decide) (by decide) (by decide)
    have k7 : i6 7 = upd (ia 7) a.1 (nI 0) := hc6.2.1 7 (by decide) (by decide) (by decide) (by decide)
    have hvv : ∀ v, v < a.1 → i6 0 v = nI (a.2.1 v) ∧ i6 7 v = nI (a.2.2.2.2.1 v) ∧ BK i6 l6 v (a.2.1 v) (a.2.2.2.1 v) := fun v hv => by
      have h9 := hR.2.2.2.1 v hv
      rw [k0, k7, pk_un (by omega), pk_un (by omega)]
      exact ⟨h9.1, h9.2.1, by refine BK.ch ?_ (hA.2.2.2.1 v hv).2.1 hc6 (Nat.ne_of_lt hv); exact h9.2.2⟩
    have hro : ∀ v, 3 ≤ v → v < a.1 → RO i6 v (a.2.2.1 v) := fun v h3 hv => by
      have h9 := hR.2.2.2.2 v h3 hv
      unfold RO at h9 ⊢
      rw [k1, k2, k3, k4, k5, k6, pk_un (by omega), pk_un (by omega), pk_un (by omega)]
      exact h9
    refine v_if_ne (pc := 77) (tgt := 88) d_Mo_make_77 rfl (fun hc => ?_) (fun hc => ?_)
    · skip
      rw [zt] at hc
      refine v_aload_n (pc := 88) d_Mo_make_88 rfl rfl ?_
      refine v_dup (pc := 89) d_Mo_make_89 rfl ?_
      refine v_get (pc := 90) d_Mo_make_90 fl_Mo_7 h6.o rfl ?_
      refine v_re hs6 ?_
      refine v_iconst (pc := 93) (v := nI 1) d_Mo_make_93 rfl ?_
      refine v_iadd (pc := 94) d_Mo_make_94 ?_
      refine v_re (nI_add (a.1) 1) ?_
      refine v_putW (pc := 95) (fs' := (mo_fs b (va_up s6 1 (nI (a.1 + 1))))) d_Mo_make_95 fl_Mo_7 (fi_Mo_7 _) (ok_Mo_1 _) h6.o (Nat.le_of_ble_eq_true rfl) rfl (fun w7 hn7 hq7 => ?_)
      have h7 := h6.n1 hn7 hq7
      have hs7 : (va_up s6 1 (nI (a.1 + 1))) 1 = nI (a.1 + 1) := rfl
      refine v_aload_n (pc := 98) d_Mo_make_98 rfl rfl ?_
      refine v_get (pc := 99) d_Mo_make_99 fl_Mo_7 h7.o rfl ?_
      refine v_re hs7 ?_
      refine v_iconst (pc := 102) (v := nI 1) d_Mo_make_102 rfl ?_
      refine v_isub (pc := 103) d_Mo_make_103 ?_
      refine v_re (pk_sub (a := a.1 + 1) (b := 1) (by omega)) ?_
      have hf : fits a (kd, e, f, P, Q, R) wv = true := fits_iff.mpr ⟨hn0, hc⟩
      refine v_re (y := nI a.1) rfl ?_
      have hsc0 : s6 0 = sc 0 := hc6.1 0 (by decide)
      have hfin : RAa (va_up s6 1 (nI (a.1 + 1))) i6 l6 (mkv a (kd, e, f, P, Q, R) wv) := by
        refine ⟨rfl, (hc6.1 3 (by decide)).trans hR.2.1, hbt, fun v hv => ?_, fun v h3 hv => ?_⟩
        · show i6 0 v = nI (va_up a.2.1 a.1 wv v) ∧ i6 7 v = nI (va_up a.2.2.2.2.1 a.1 0 v) ∧ BK i6 l6 v (va_up a.2.1 a.1 wv v) (va_up a.2.2.2.1 a.1 (vnew a (kd, e, f, P, Q, R) wv) v)
          by_cases h9 : v = a.1
          · subst h9; rw [va_up_self, va_up_self, va_up_self, k0, k7]; exact ⟨pk_us, pk_us, hb6 hc⟩
          · rw [va_up_ne _ _ h9, va_up_ne _ _ h9, va_up_ne _ _ h9]; exact hvv v (by have : v < a.1 + 1 := hv; omega)
        · show RO i6 v (va_up a.2.2.1 a.1 (kd, e, f, P, Q, R) v)
          by_cases h9 : v = a.1
          · subst h9; rw [va_up_self]; unfold RO; rw [k1, k2, k3, k4, k5, k6]; exact ⟨pk_us, pk_us, pk_us, hT⟩
          · rw [va_up_ne _ _ h9]; exact hro v h3 (by have : v < a.1 + 1 := hv; omega)
      exact v_iret (pc := 104) d_Mo_make_104 rfl (Nat.le_of_ble_eq_true rfl) (Nat.le_of_ble_eq_true rfl) ⟨by rw [if_pos hf], rfl, hfr5.at ⟨by omega, by omega⟩ hq7, by rw [if_pos hf, if_pos hf]; exact ⟨_, _, _, h7, hsc0, hfin⟩⟩
    · skip
      rw [zf] at hc
      refine v_aload_n (pc := 80) d_Mo_make_80 rfl rfl ?_
      refine v_iload (pc := 81) d_Mo_make_81 rfl ?_
      refine v_putW (pc := 83) (fs' := (mo_fs b (va_up s6 0 (nI cd)))) d_Mo_make_83 fl_Mo_69 (fi_Mo_69 _) (ok_Mo_0 _) h6.o (Nat.le_of_ble_eq_true rfl) rfl (fun w7 hn7 hq7 => ?_)
      have h7 := h6.n0 hn7 hq7
      refine v_iconst (pc := 86) (v := nI 0) d_Mo_make_86 rfl ?_
      have hf : ¬ fits a (kd, e, f, P, Q, R) wv = true := fun h => hc (fits_iff.mp h).2
      exact v_iret (pc := 87) d_Mo_make_87 rfl (Nat.le_of_ble_eq_true rfl) (Nat.le_of_ble_eq_true rfl) ⟨by rw [if_neg hf], rfl, hfr5.at ⟨by omega, by omega⟩ hq7, by rw [if_neg hf, if_neg hf]; exact ⟨_, _, _, h7, rfl, hs6, (hc6.1 3 (by decide)).trans hR.2.1, hbt, hvv, hro⟩⟩
  · skip
    rw [nI_eq (by omega) (by omega)] at hc
    refine v_aload_n (pc := 9) d_Mo_make_9 rfl rfl ?_
    refine v_iload (pc := 10) d_Mo_make_10 rfl ?_
    refine v_putW (pc := 12) (fs' := (mo_fs b (va_up sc 0 (nI cd)))) d_Mo_make_12 fl_Mo_69 (fi_Mo_69 _) (ok_Mo_0 _) hM.o (Nat.le_of_ble_eq_true rfl) rfl (fun w1 hn1 hq1 => ?_)
    have h1 := hM.n0 hn1 hq1
    refine v_iconst (pc := 15) (v := nI 0) d_Mo_make_15 rfl ?_
    have hf : ¬ fits a (kd, e, f, P, Q, R) wv = true := fun h => (fits_iff.mp h).1 hc
    exact v_iret (pc := 16) d_Mo_make_16 rfl (Nat.le_of_ble_eq_true rfl) (Nat.le_of_ble_eq_true rfl) ⟨by rw [if_neg hf], rfl, mo_fr.rf.at ⟨by omega, by omega⟩ hq1, by rw [if_neg hf, if_neg hf]; exact ⟨_, _, _, h1, rfl, hR⟩⟩
