/-! what a commit makes different -/
theorem ma_look_hit {q : List Int32} {k0 : Int64} : ∀ {b : MaB} {i : Nat}, (∀ j x, j < i → b[j]? = some x → x.1 ≠ q) → b[i]? = some (q, k0) → ma_look b q = k0
  | [], i, _, h => by simp at h
  | (r, m) :: t, 0, _, h => by
    have h : (r, m) = (q, k0) := by simpa using h
    cases h
    simp [ma_look]
  | (r, m) :: t, i + 1, h1, h => by
    have hr : r ≠ q := h1 0 (r, m) (Nat.zero_lt_succ _) rfl
    have := ma_look_hit (b := t) (i := i) (fun j x hj hx => h1 (j + 1) x (by omega) hx) h
    simp [ma_look, hr, this]
theorem ma_look_miss {q : List Int32} {b : MaB} {n : Nat} (hn : b.length = n) (h : ∀ j x, j < n → b[j]? = some x → x.1 ≠ q) : ma_look b q = 0 := by
  refine ma_look_no (fun x hx => ?_)
  obtain ⟨j, hj⟩ := List.getElem?_of_mem hx
  exact h j x (by have := (List.getElem?_eq_some_iff.mp hj).1; omega) hj
set_option maxRecDepth 100000 in
set_option maxHeartbeats 4000000 in
theorem lp1_Mo_timesOf (g : Gl) {w0 w : Wd} {b sz : Nat} {sc : Nat → Int32} {ia : Nat → Nat → Int32} {la : Nat → Nat → Int64} (hM : MAt w b sc ia la) {k k2 r n wd : Nat} (hk : k < 24) (hk2 : k2 < 24) (hr : r < 16) (hwd : wd ≤ 4) (hce : ia 8 k = nI n) (hn : n ≤ 16) {s : Nat} (hs : s < n) {E : Rs → Wd → Nat → Prop} (K : VV g 1 0 0 mi_Mo_timesOf w0 sz E 65 [(7, .int (nI wd)), (6, .int (if ar_row (ia 10) wd (4 * (16 * k + s)) = ar_row (ia 10) wd (4 * (16 * k2 + r)) then 1 else 0)), (5, .int (nI s)), (0, .ref b), (1, .int (nI k)), (2, .int (nI wd)), (3, .int (nI k2)), (4, .int (nI r))] [] w sz 0 0) : ∀ (zz : Nat) (c : Nat), wd - c = zz → c ≤ wd → VV g 1 0 0 mi_Mo_timesOf w0 sz E 20 [(7, .int (nI c)), (6, .int (if ar_row (ia 10) c (4 * (16 * k + s)) = ar_row (ia 10) c (4 * (16 * k2 + r)) then 1 else 0)), (5, .int (nI s)), (0, .ref b), (1, .int (nI k)), (2, .int (nI wd)), (3, .int (nI k2)), (4, .int (nI r))] [] w sz 0 0 := by
  intro zz
  induction zz using Nat.strongRecOn with | _ zz ih => _
  intro c hnn hcw
  refine v_iload (pc := 20) d_Mo_timesOf_20 rfl ?_
  refine v_iload_n (pc := 22) d_Mo_timesOf_22 rfl rfl ?_
  refine v_icmp_ge (pc := 23) (tgt := 65) d_Mo_timesOf_23 rfl (fun hc => ?_) (fun hc => ?_)
  · skip
    rw [nI_leI (by omega) (by omega)] at hc
    obtain rfl : c = wd := by omega
    exact K
  · skip
    rw [nI_leI (by omega) (by omega)] at hc
    refine v_iload (pc := 26) d_Mo_timesOf_26 rfl ?_
    refine v_if_eq (pc := 28) (tgt := 56) d_Mo_timesOf_28 rfl (fun hc => ?_) (fun hc => ?_)
    · skip
      rw [zf] at hc
      have hv0 : ¬ ar_row (ia 10) (c + 1) (4 * (16 * k + s)) = ar_row (ia 10) (c + 1) (4 * (16 * k2 + r)) := fun h => hc (ar_row_congr (fun j hj => ar_row_inj h j (by omega)))
      refine v_iconst (pc := 56) (v := nI 0) d_Mo_timesOf_56 rfl ?_
      refine v_re (y := (if ar_row (ia 10) (c + 1) (4 * (16 * k + s)) = ar_row (ia 10) (c + 1) (4 * (16 * k2 + r)) then 1 else 0)) (zb0 hv0) ?_
      refine v_istore (pc := 57) (L' := [(6, .int (if ar_row (ia 10) (c + 1) (4 * (16 * k + s)) = ar_row (ia 10) (c + 1) (4 * (16 * k2 + r)) then 1 else 0)), (7, .int (nI c)), (5, .int (nI s)), (0, .ref b), (1, .int (nI k)), (2, .int (nI wd)), (3, .int (nI k2)), (4, .int (nI r))]) d_Mo_timesOf_57 (by decide) rfl ?_
      refine v_iinc (pc := 59) (L' := [(7, .int (nI (c + 1))), (6, .int (if ar_row (ia 10) (c + 1) (4 * (16 * k + s)) = ar_row (ia 10) (c + 1) (4 * (16 * k2 + r)) then 1 else 0)), (5, .int (nI s)), (0, .ref b), (1, .int (nI k)), (2, .int (nI wd)), (3, .int (nI k2)), (4, .int (nI r))]) d_Mo_timesOf_59 rfl (ix_inc _) (by decide) rfl ?_
      refine v_goto (pc := 62) (tgt := 20) d_Mo_timesOf_62 rfl ?_
      refine v_sub (L' := [(7, .int (nI (c + 1))), (6, .int (if ar_row (ia 10) (c + 1) (4 * (16 * k + s)) = ar_row (ia 10) (c + 1) (4 * (16 * k2 + r)) then 1 else 0)), (5, .int (nI s)), (0, .ref b), (1, .int (nI k)), (2, .int (nI wd)), (3, .int (nI k2)), (4, .int (nI r))]) (by simp) ?_
      exact ih (wd - (c + 1)) (by omega) (c + 1) rfl (by omega)
    · skip
      rw [zt] at hc
      have hb := hc
      refine v_aload_n (pc := 31) d_Mo_timesOf_31 rfl rfl ?_
      refine v_iload_n (pc := 32) d_Mo_timesOf_32 rfl rfl ?_
      refine v_iload (pc := 33) d_Mo_timesOf_33 rfl ?_
      refine v_iload (pc := 35) d_Mo_timesOf_35 rfl ?_
      refine v_cvR (pc := 37) (A := [.int (nI k), .int (nI s), .int (nI c)]) (rest := []) (x := .int (ia 10 (4 * (16 * k + s) + c))) d_Mo_timesOf_37 lk_Mo_83 me_Mo_cellOf im_Mo_cellOf se_Mo_cellOf rfl hM.o rfl rfl (c_Mo_cellOf g hM (k := k) (r := s) (c := c) (by omega)) (Nat.le_of_ble_eq_true rfl) (Nat.le_of_ble_eq_true rfl) (Nat.le_of_ble_eq_true rfl) (Nat.le_of_ble_eq_true rfl) ?_
      refine v_aload_n (pc := 40) d_Mo_timesOf_40 rfl rfl ?_
      refine v_iload_n (pc := 41) d_Mo_timesOf_41 rfl rfl ?_
      refine v_iload (pc := 42) d_Mo_timesOf_42 rfl ?_
      refine v_iload (pc := 44) d_Mo_timesOf_44 rfl ?_
      refine v_cvR (pc := 46) (A := [.int (nI k2), .int (nI r), .int (nI c)]) (rest := [.int (ia 10 (4 * (16 * k + s) + c))]) (x := .int (ia 10 (4 * (16 * k2 + r) + c))) d_Mo_timesOf_46 lk_Mo_83 me_Mo_cellOf im_Mo_cellOf se_Mo_cellOf rfl hM.o rfl rfl (c_Mo_cellOf g hM (k := k2) (r := r) (c := c) (by omega)) (Nat.le_of_ble_eq_true rfl) (Nat.le_of_ble_eq_true rfl) (Nat.le_of_ble_eq_true rfl) (Nat.le_of_ble_eq_true rfl) ?_
      refine v_icmp_ne (pc := 49) (tgt := 56) d_Mo_timesOf_49 rfl (fun hc => ?_) (fun hc => ?_)
      · skip
        have hv0 : ¬ ar_row (ia 10) (c + 1) (4 * (16 * k + s)) = ar_row (ia 10) (c + 1) (4 * (16 * k2 + r)) := fun h => hc (ar_row_inj h c (by omega))
        refine v_iconst (pc := 56) (v := nI 0) d_Mo_timesOf_56 rfl ?_
        refine v_re (y := (if ar_row (ia 10) (c + 1) (4 * (16 * k + s)) = ar_row (ia 10) (c + 1) (4 * (16 * k2 + r)) then 1 else 0)) (zb0 hv0) ?_
        refine v_istore (pc := 57) (L' := [(6, .int (if ar_row (ia 10) (c + 1) (4 * (16 * k + s)) = ar_row (ia 10) (c + 1) (4 * (16 * k2 + r)) then 1 else 0)), (7, .int (nI c)), (5, .int (nI s)), (0, .ref b), (1, .int (nI k)), (2, .int (nI wd)), (3, .int (nI k2)), (4, .int (nI r))]) d_Mo_timesOf_57 (by decide) rfl ?_
        refine v_iinc (pc := 59) (L' := [(7, .int (nI (c + 1))), (6, .int (if ar_row (ia 10) (c + 1) (4 * (16 * k + s)) = ar_row (ia 10) (c + 1) (4 * (16 * k2 + r)) then 1 else 0)), (5, .int (nI s)), (0, .ref b), (1, .int (nI k)), (2, .int (nI wd)), (3, .int (nI k2)), (4, .int (nI r))]) d_Mo_timesOf_59 rfl (ix_inc _) (by decide) rfl ?_
        refine v_goto (pc := 62) (tgt := 20) d_Mo_timesOf_62 rfl ?_
        refine v_sub (L' := [(7, .int (nI (c + 1))), (6, .int (if ar_row (ia 10) (c + 1) (4 * (16 * k + s)) = ar_row (ia 10) (c + 1) (4 * (16 * k2 + r)) then 1 else 0)), (5, .int (nI s)), (0, .ref b), (1, .int (nI k)), (2, .int (nI wd)), (3, .int (nI k2)), (4, .int (nI r))]) (by simp) ?_
        exact ih (wd - (c + 1)) (by omega) (c + 1) rfl (by omega)
      · skip
        have hv1 : ar_row (ia 10) (c + 1) (4 * (16 * k + s)) = ar_row (ia 10) (c + 1) (4 * (16 * k2 + r)) := by rw [ar_row_snoc, ar_row_snoc, hb, hc]
        refine v_iconst (pc := 52) (v := nI 1) d_Mo_timesOf_52 rfl ?_
        refine v_re (y := (if ar_row (ia 10) (c + 1) (4 * (16 * k + s)) = ar_row (ia 10) (c + 1) (4 * (16 * k2 + r)) then 1 else 0)) (zb1 hv1) ?_
        refine v_goto (pc := 53) (tgt := 57) d_Mo_timesOf_53 rfl ?_
        refine v_istore (pc := 57) (L' := [(6, .int (if ar_row (ia 10) (c + 1) (4 * (16 * k + s)) = ar_row (ia 10) (c + 1) (4 * (16 * k2 + r)) then 1 else 0)), (7, .int (nI c)), (5, .int (nI s)), (0, .ref b), (1, .int (nI k)), (2, .int (nI wd)), (3, .int (nI k2)), (4, .int (nI r))]) d_Mo_timesOf_57 (by decide) rfl ?_
        refine v_iinc (pc := 59) (L' := [(7, .int (nI (c + 1))), (6, .int (if ar_row (ia 10) (c + 1) (4 * (16 * k + s)) = ar_row (ia 10) (c + 1) (4 * (16 * k2 + r)) then 1 else 0)), (5, .int (nI s)), (0, .ref b), (1, .int (nI k)), (2, .int (nI wd)), (3, .int (nI k2)), (4, .int (nI r))]) d_Mo_timesOf_59 rfl (ix_inc _) (by decide) rfl ?_
        refine v_goto (pc := 62) (tgt := 20) d_Mo_timesOf_62 rfl ?_
        refine v_sub (L' := [(7, .int (nI (c + 1))), (6, .int (if ar_row (ia 10) (c + 1) (4 * (16 * k + s)) = ar_row (ia 10) (c + 1) (4 * (16 * k2 + r)) then 1 else 0)), (5, .int (nI s)), (0, .ref b), (1, .int (nI k)), (2, .int (nI wd)), (3, .int (nI k2)), (4, .int (nI r))]) (by simp) ?_
        exact ih (wd - (c + 1)) (by omega) (c + 1) rfl (by omega)
set_option maxRecDepth 100000 in
set_option maxHeartbeats 4000000 in
theorem lp_Mo_timesOf (g : Gl) {w : Wd} {b sz : Nat} {sc : Nat → Int32} {ia : Nat → Nat → Int32} {la : Nat → Nat → Int64} (hM : MAt w b sc ia la) {k k2 r n wd : Nat} (hk : k < 24) (hk2 : k2 < 24) (hr : r < 16) (hwd : wd ≤ 4) (hce : ia 8 k = nI n) (hn : n ≤ 16) : ∀ (zz : Nat) (s : Nat), n - s = zz → s ≤ n → (∀ j, j < s → ¬ ar_row (ia 10) wd (4 * (16 * k + j)) = ar_row (ia 10) wd (4 * (16 * k2 + r))) → VV g 1 0 0 mi_Mo_timesOf w sz (rdE (some (.long (ma_look (ar_bag (ia 10) (la 9) wd (16 * k) n) (ar_row (ia 10) wd (4 * (16 * k2 + r)))))) w sz) 3 [(5, .int (nI s)), (0, .ref b), (1, .int (nI k)), (2, .int (nI wd)), (3, .int (nI k2)), (4, .int (nI r))] [] w sz 0 0 := by
  intro zz
  induction zz using Nat.strongRecOn with | _ zz ih => _
  intro s hnn hsn hno
  refine v_iload (pc := 3) d_Mo_timesOf_3 rfl ?_
  refine v_aload_n (pc := 5) d_Mo_timesOf_5 rfl rfl ?_
  refine v_get (pc := 6) d_Mo_timesOf_6 fl_Mo_38 hM.o rfl ?_
  refine v_iload_n (pc := 9) d_Mo_timesOf_9 rfl rfl ?_
  refine v_ialdN (pc := 10) (k := k) (f := ia 8) d_Mo_timesOf_10 hM.a8 rfl (by omega) (by decide) ?_
  refine v_re hce ?_
  refine v_icmp_ge (pc := 11) (tgt := 89) d_Mo_timesOf_11 rfl (fun hc => ?_) (fun hc => ?_)
  · skip
    rw [nI_leI (by omega) (by omega)] at hc
    refine v_lconst (pc := 89) (v := 0) d_Mo_timesOf_89 rfl ?_
    obtain rfl : s = n := by omega
    exact v_lret (pc := 90) d_Mo_timesOf_90 rfl (Nat.le_of_ble_eq_true rfl) (Nat.le_of_ble_eq_true rfl) ⟨by rw [ma_look_miss (ar_bag_len _ _ _ _ _) (fun j x hj hx => by rw [ar_bag_get hj] at hx; have hx := Option.some.inj hx; subst hx; exact hno j hj)], rfl, rfl⟩
  · skip
    rw [nI_leI (by omega) (by omega)] at hc
    refine v_iconst (pc := 14) (v := nI 1) d_Mo_timesOf_14 rfl ?_
    refine v_re (y := (if ar_row (ia 10) 0 (4 * (16 * k + s)) = ar_row (ia 10) 0 (4 * (16 * k2 + r)) then 1 else 0)) rfl ?_
    refine v_istore (pc := 15) (L' := [(6, .int (if ar_row (ia 10) 0 (4 * (16 * k + s)) = ar_row (ia 10) 0 (4 * (16 * k2 + r)) then 1 else 0)), (5, .int (nI s)), (0, .ref b), (1, .int (nI k)), (2, .int (nI wd)), (3, .int (nI k2)), (4, .int (nI r))]) d_Mo_timesOf_15 (by decide) rfl ?_
    refine v_iconst (pc := 17) (v := nI 0) d_Mo_timesOf_17 rfl ?_
    refine v_istore (pc := 18) (L' := [(7, .int (nI 0)), (6, .int (if ar_row (ia 10) 0 (4 * (16 * k + s)) = ar_row (ia 10) 0 (4 * (16 * k2 + r)) then 1 else 0)), (5, .int (nI s)), (0, .ref b), (1, .int (nI k)), (2, .int (nI wd)), (3, .int (nI k2)), (4, .int (nI r))]) d_Mo_timesOf_18 (by decide) rfl ?_
    refine v_sub (L' := [(7, .int (nI 0)), (6, .int (if ar_row (ia 10) 0 (4 * (16 * k + s)) = ar_row (ia 10) 0 (4 * (16 * k2 + r)) then 1 else 0)), (5, .int (nI s)), (0, .ref b), (1, .int (nI k)), (2, .int (nI wd)), (3, .int (nI k2)), (4, .int (nI r))]) (by simp) ?_
    refine lp1_Mo_timesOf g hM hk hk2 hr hwd hce hn (s := s) (by omega) ?_ wd 0 rfl (by omega)
    refine v_iload (pc := 65) d_Mo_timesOf_65 rfl ?_
    refine v_if_eq (pc := 67) (tgt := 83) d_Mo_timesOf_67 rfl (fun hc => ?_) (fun hc => ?_)
    · skip
      rw [zf] at hc
      refine v_iinc (pc := 83) (L' := [(5, .int (nI (s + 1))), (7, .int (nI wd)), (6, .int (if ar_row (ia 10) wd (4 * (16 * k + s)) = ar_row (ia 10) wd (4 * (16 * k2 + r)) then 1 else 0)), (0, .ref b), (1, .int (nI k)), (2, .int (nI wd)), (3, .int (nI k2)), (4, .int (nI r))]) d_Mo_timesOf_83 rfl (ix_inc _) (by decide) rfl ?_
      refine v_goto (pc := 86) (tgt := 3) d_Mo_timesOf_86 rfl ?_
      refine v_sub (L' := [(5, .int (nI (s + 1))), (0, .ref b), (1, .int (nI k)), (2, .int (nI wd)), (3, .int (nI k2)), (4, .int (nI r))]) (by simp) ?_
      exact ih (n - (s + 1)) (by omega) (s + 1) rfl (by omega) (fun j hj => by by_cases h9 : j = s; (subst h9; exact hc); (exact hno j (by omega)))
    · skip
      rw [zt] at hc
      refine v_aload_n (pc := 70) d_Mo_timesOf_70 rfl rfl ?_
      refine v_get (pc := 71) d_Mo_timesOf_71 fl_Mo_41 hM.o rfl ?_
      refine v_bipush (pc := 74) (v := nI 16) d_Mo_timesOf_74 rfl ?_
      refine v_iload_n (pc := 76) d_Mo_timesOf_76 rfl rfl ?_
      refine v_imul (pc := 77) d_Mo_timesOf_77 ?_
      refine v_re (pk_mul 16 k) ?_
      refine v_iload (pc := 78) d_Mo_timesOf_78 rfl ?_
      refine v_iadd (pc := 80) d_Mo_timesOf_80 ?_
      refine v_re (nI_add (16 * k) s) ?_
      refine v_laldN (pc := 81) (k := (16 * k) + s) (f := la 9) d_Mo_timesOf_81 hM.a9 rfl (by omega) (by decide) ?_
      exact v_lret (pc := 82) d_Mo_timesOf_82 rfl (Nat.le_of_ble_eq_true rfl) (Nat.le_of_ble_eq_true rfl) ⟨by rw [ma_look_hit (i := s) (k0 := la 9 (16 * k + s)) (fun j x hj hx => by rw [ar_bag_get (by omega)] at hx; have hx := Option.some.inj hx; subst hx; exact hno j hj) (by rw [ar_bag_get (by omega), hc])], rfl, rfl⟩
set_option maxRecDepth 100000 in
set_option maxHeartbeats 4000000 in
theorem c_Mo_timesOf (g : Gl) {w : Wd} {b sz : Nat} {sc : Nat → Int32} {ia : Nat → Nat → Int32} {la : Nat → Nat → Int64} (hM : MAt w b sc ia la) {k k2 r n wd : Nat} (hk : k < 24) (hk2 : k2 < 24) (hr : r < 16) (hwd : wd ≤ 4) (hce : ia 8 k = nI n) (hn : n ≤ 16) : CT g 1 0 0 mi_Mo_timesOf [.ref b, .int (nI k), .int (nI wd), .int (nI k2), .int (nI r)] w sz (rdE (some (.long (ma_look (ar_bag (ia 10) (la 9) wd (16 * k) n) (ar_row (ia 10) wd (4 * (16 * k2 + r)))))) w sz) := by
  refine CT.of (by decide) (Nat.le_of_ble_eq_true rfl) ?_
  refine v_iconst (pc := 0) (v := nI 0) d_Mo_timesOf_0 rfl ?_
  refine v_istore (pc := 1) (L' := [(5, .int (nI 0)), (0, .ref b), (1, .int (nI k)), (2, .int (nI wd)), (3, .int (nI k2)), (4, .int (nI r))]) d_Mo_timesOf_1 (by decide) rfl ?_
  refine v_sub (L' := [(5, .int (nI 0)), (0, .ref b), (1, .int (nI k)), (2, .int (nI wd)), (3, .int (nI k2)), (4, .int (nI r))]) (by simp) ?_
  exact lp_Mo_timesOf g hM hk hk2 hr hwd hce hn n 0 rfl (by omega) (fun j hj => absurd hj (Nat.not_lt_zero _))
set_option maxRecDepth 100000 in
set_option maxHeartbeats 4000000 in
theorem lp1_Mo_differing (g : Gl) {w0 w : Wd} {b sz : Nat} {sc : Nat → Int32} {ia : Nat → Nat → Int32} {la : Nat → Nat → Int64} (hM : MAt w b sc ia la) {v wd : Nat} {B C : MaB} (hv : v < 12) (hw : ia 0 v = nI wd) (hwd : wd ≤ 4) (hB : BK ia la v wd B) (hC : BK ia la (12 + v) wd C) {E : Rs → Wd → Nat → Prop} (K : VV g 2 0 0 mi_Mo_differing w0 sz E 59 [(3, .int (nI (B.length))), (2, .int (nI (((ar_bag (ia 10) (la 9) wd (16 * v) B.length).countP (fun e => decide (ma_look C e.1 ≠ e.2)))))), (0, .ref b), (1, .int (nI v))] [] w sz 0 0) : ∀ (zz : Nat) (r : Nat), B.length - r = zz → r ≤ B.length → VV g 2 0 0 mi_Mo_differing w0 sz E 4 [(3, .int (nI r)), (2, .int (nI (((ar_bag (ia 10) (la 9) wd (16 * v) r).countP (fun e => decide (ma_look C e.1 ≠ e.2)))))), (0, .ref b), (1, .int (nI v))] [] w sz 0 0 := by
  intro zz
  induction zz using Nat.strongRecOn with | _ zz ih => _
  intro r hnn hrn
  obtain ⟨hB1, hB2, hB3⟩ := id hB
  obtain ⟨hC1, hC2, hC3⟩ := id hC
  refine v_iload_n (pc := 4) d_Mo_differing_4 rfl rfl ?_
  refine v_aload_n (pc := 5) d_Mo_differing_5 rfl rfl ?_
  refine v_get (pc := 6) d_Mo_differing_6 fl_Mo_38 hM.o rfl ?_
  refine v_iload_n (pc := 9) d_Mo_differing_9 rfl rfl ?_
  refine v_ialdN (pc := 10) (k := v) (f := ia 8) d_Mo_differing_10 hM.a8 rfl (by omega) (by decide) ?_
  refine v_re hB1 ?_
  refine v_icmp_ge (pc := 11) (tgt := 59) d_Mo_differing_11 rfl (fun hc => ?_) (fun hc => ?_)
  · skip
    rw [nI_leI (by omega) (by omega)] at hc
    obtain rfl : r = B.length := by omega
    skip
    exact K
  · skip
    rw [nI_leI (by omega) (by omega)] at hc
    refine v_aload_n (pc := 14) d_Mo_differing_14 rfl rfl ?_
    refine v_bipush (pc := 15) (v := nI 12) d_Mo_differing_15 rfl ?_
    refine v_iload_n (pc := 17) d_Mo_differing_17 rfl rfl ?_
    refine v_iadd (pc := 18) d_Mo_differing_18 ?_
    refine v_re (nI_add 12 v) ?_
    refine v_aload_n (pc := 19) d_Mo_differing_19 rfl rfl ?_
    refine v_get (pc := 20) d_Mo_differing_20 fl_Mo_13 hM.o rfl ?_
    refine v_iload_n (pc := 23) d_Mo_differing_23 rfl rfl ?_
    refine v_ialdN (pc := 24) (k := v) (f := ia 0) d_Mo_differing_24 hM.a0 rfl (by omega) (by decide) ?_
    refine v_re hw ?_
    refine v_iload_n (pc := 25) d_Mo_differing_25 rfl rfl ?_
    refine v_iload_n (pc := 26) d_Mo_differing_26 rfl rfl ?_
    refine v_cvR (pc := 27) (A := [.int (nI (12 + v)), .int (nI wd), .int (nI v), .int (nI r)]) (rest := []) (x := .long (ma_look (ar_bag (ia 10) (la 9) wd (16 * (12 + v)) C.length) (ar_row (ia 10) wd (4 * (16 * v + r))))) d_Mo_differing_27 lk_Mo_126 me_Mo_timesOf im_Mo_timesOf se_Mo_timesOf rfl hM.o rfl rfl (c_Mo_timesOf g hM (k := 12 + v) (k2 := v) (r := r) (n := C.length) (wd := wd) (by omega) (by omega) (by omega) hwd hC1 hC2) (Nat.le_of_ble_eq_true rfl) (Nat.le_of_ble_eq_true rfl) (Nat.le_of_ble_eq_true rfl) (Nat.le_of_ble_eq_true rfl) ?_
    rw [hC3]
    refine v_aload_n (pc := 30) d_Mo_differing_30 rfl rfl ?_
    refine v_get (pc := 31) d_Mo_differing_31 fl_Mo_41 hM.o rfl ?_
    refine v_bipush (pc := 34) (v := nI 16) d_Mo_differing_34 rfl ?_
    refine v_iload_n (pc := 36) d_Mo_differing_36 rfl rfl ?_
    refine v_imul (pc := 37) d_Mo_differing_37 ?_
    refine v_re (pk_mul 16 v) ?_
    refine v_iload_n (pc := 38) d_Mo_differing_38 rfl rfl ?_
    refine v_iadd (pc := 39) d_Mo_differing_39 ?_
    refine v_re (nI_add (16 * v) r) ?_
    refine v_laldN (pc := 40) (k := (16 * v) + r) (f := la 9) d_Mo_differing_40 hM.a9 rfl (by omega) (by decide) ?_
    refine v_lcmp (pc := 41) d_Mo_differing_41 ?_
    refine v_if_eq (pc := 42) (tgt := 51) d_Mo_differing_42 rfl (fun hc => ?_) (fun hc => ?_)
    · skip
      refine v_iload_n (pc := 51) d_Mo_differing_51 rfl rfl ?_
      refine v_re (y := nI ((ar_bag (ia 10) (la 9) wd (16 * v) (r + 1)).countP (fun e => decide (ma_look C e.1 ≠ e.2)))) (by rw [lg0] at hc; rw [ar_bag_snoc, List.countP_append, List.countP_cons_of_neg (by rw [decide_eq_true_eq]; exact fun h => h hc), List.countP_nil, Nat.add_zero]) ?_
      refine v_istore_n (pc := 52) (L' := [(2, .int (nI (((ar_bag (ia 10) (la 9) wd (16 * v) (r + 1)).countP (fun e => decide (ma_look C e.1 ≠ e.2)))))), (3, .int (nI r)), (0, .ref b), (1, .int (nI v))]) d_Mo_differing_52 rfl (by decide) rfl ?_
      refine v_iinc (pc := 53) (L' := [(3, .int (nI (r + 1))), (2, .int (nI (((ar_bag (ia 10) (la 9) wd (16 * v) (r + 1)).countP (fun e => decide (ma_look C e.1 ≠ e.2)))))), (0, .ref b), (1, .int (nI v))]) d_Mo_differing_53 rfl (ix_inc _) (by decide) rfl ?_
      refine v_goto (pc := 56) (tgt := 4) d_Mo_differing_56 rfl ?_
      refine v_sub (L' := [(3, .int (nI (r + 1))), (2, .int (nI (((ar_bag (ia 10) (la 9) wd (16 * v) (r + 1)).countP (fun e => decide (ma_look C e.1 ≠ e.2)))))), (0, .ref b), (1, .int (nI v))]) (by simp) ?_
      exact ih (B.length - (r + 1)) (by omega) (r + 1) rfl (by omega)
    · skip
      refine v_iload_n (pc := 45) d_Mo_differing_45 rfl rfl ?_
      refine v_iconst (pc := 46) (v := nI 1) d_Mo_differing_46 rfl ?_
      refine v_iadd (pc := 47) d_Mo_differing_47 ?_
      refine v_re (nI_add ((ar_bag (ia 10) (la 9) wd (16 * v) r).countP (fun e => decide (ma_look C e.1 ≠ e.2))) 1) ?_
      refine v_goto (pc := 48) (tgt := 52) d_Mo_differing_48 rfl ?_
      refine v_re (y := nI ((ar_bag (ia 10) (la 9) wd (16 * v) (r + 1)).countP (fun e => decide (ma_look C e.1 ≠ e.2)))) (by rw [lg0] at hc; rw [ar_bag_snoc, List.countP_append, List.countP_cons_of_pos (by rw [decide_eq_true_eq]; exact hc), List.countP_nil]) ?_
      refine v_istore_n (pc := 52) (L' := [(2, .int (nI (((ar_bag (ia 10) (la 9) wd (16 * v) (r + 1)).countP (fun e => decide (ma_look C e.1 ≠ e.2)))))), (3, .int (nI r)), (0, .ref b), (1, .int (nI v))]) d_Mo_differing_52 rfl (by decide) rfl ?_
      refine v_iinc (pc := 53) (L' := [(3, .int (nI (r + 1))), (2, .int (nI (((ar_bag (ia 10) (la 9) wd (16 * v) (r + 1)).countP (fun e => decide (ma_look C e.1 ≠ e.2)))))), (0, .ref b), (1, .int (nI v))]) d_Mo_differing_53 rfl (ix_inc _) (by decide) rfl ?_
      refine v_goto (pc := 56) (tgt := 4) d_Mo_differing_56 rfl ?_
      refine v_sub (L' := [(3, .int (nI (r + 1))), (2, .int (nI (((ar_bag (ia 10) (la 9) wd (16 * v) (r + 1)).countP (fun e => decide (ma_look C e.1 ≠ e.2)))))), (0, .ref b), (1, .int (nI v))]) (by simp) ?_
      exact ih (B.length - (r + 1)) (by omega) (r + 1) rfl (by omega)
set_option maxRecDepth 100000 in
set_option maxHeartbeats 4000000 in
theorem lp2_Mo_differing (g : Gl) {w : Wd} {b sz : Nat} {sc : Nat → Int32} {ia : Nat → Nat → Int32} {la : Nat → Nat → Int64} (hM : MAt w b sc ia la) {v wd : Nat} {B C : MaB} (hv : v < 12) (hw : ia 0 v = nI wd) (hwd : wd ≤ 4) (hB : BK ia la v wd B) (hC : BK ia la (12 + v) wd C) {n0 : Nat} {E : Rs → Wd → Nat → Prop} (hE : E (.inl (some (.int (nI (n0 + C.countP (fun e => decide (ma_look B e.1 = 0))))))) w sz) : ∀ (zz : Nat) (r : Nat), C.length - r = zz → r ≤ C.length → VV g 2 0 0 mi_Mo_differing w sz E 61 [(3, .int (nI r)), (2, .int (nI (n0 + ((ar_bag (ia 10) (la 9) wd (16 * (12 + v)) r).countP (fun e => decide (ma_look B e.1 = 0)))))), (0, .ref b), (1, .int (nI v))] [] w sz 0 0 := by
  intro zz
  induction zz using Nat.strongRecOn with | _ zz ih => _
  intro r hnn hrn
  obtain ⟨hB1, hB2, hB3⟩ := id hB
  obtain ⟨hC1, hC2, hC3⟩ := id hC
  refine v_iload_n (pc := 61) d_Mo_differing_61 rfl rfl ?_
  refine v_aload_n (pc := 62) d_Mo_differing_62 rfl rfl ?_
  refine v_get (pc := 63) d_Mo_differing_63 fl_Mo_38 hM.o rfl ?_
  refine v_bipush (pc := 66) (v := nI 12) d_Mo_differing_66 rfl ?_
  refine v_iload_n (pc := 68) d_Mo_differing_68 rfl rfl ?_
  refine v_iadd (pc := 69) d_Mo_differing_69 ?_
  refine v_re (nI_add 12 v) ?_
  refine v_ialdN (pc := 70) (k := 12 + v) (f := ia 8) d_Mo_differing_70 hM.a8 rfl (by omega) (by decide) ?_
  refine v_re hC1 ?_
  refine v_icmp_ge (pc := 71) (tgt := 109) d_Mo_differing_71 rfl (fun hc => ?_) (fun hc => ?_)
  · skip
    rw [nI_leI (by omega) (by omega)] at hc
    obtain rfl : r = C.length := by omega
    refine v_iload_n (pc := 109) d_Mo_differing_109 rfl rfl ?_
    exact v_iret (pc := 110) d_Mo_differing_110 rfl (Nat.le_of_ble_eq_true rfl) (Nat.le_of_ble_eq_true rfl) (by rw [hC3]; exact hE)
  · skip
    rw [nI_leI (by omega) (by omega)] at hc
    refine v_aload_n (pc := 74) d_Mo_differing_74 rfl rfl ?_
    refine v_iload_n (pc := 75) d_Mo_differing_75 rfl rfl ?_
    refine v_aload_n (pc := 76) d_Mo_differing_76 rfl rfl ?_
    refine v_get (pc := 77) d_Mo_differing_77 fl_Mo_13 hM.o rfl ?_
    refine v_iload_n (pc := 80) d_Mo_differing_80 rfl rfl ?_
    refine v_ialdN (pc := 81) (k := v) (f := ia 0) d_Mo_differing_81 hM.a0 rfl (by omega) (by decide) ?_
    refine v_re hw ?_
    refine v_bipush (pc := 82) (v := nI 12) d_Mo_differing_82 rfl ?_
    refine v_iload_n (pc := 84) d_Mo_differing_84 rfl rfl ?_
    refine v_iadd (pc := 85) d_Mo_differing_85 ?_
    refine v_re (nI_add 12 v) ?_
    refine v_iload_n (pc := 86) d_Mo_differing_86 rfl rfl ?_
    refine v_cvR (pc := 87) (A := [.int (nI v), .int (nI wd), .int (nI (12 + v)), .int (nI r)]) (rest := []) (x := .long (ma_look (ar_bag (ia 10) (la 9) wd (16 * v) B.length) (ar_row (ia 10) wd (4 * (16 * (12 + v) + r))))) d_Mo_differing_87 lk_Mo_126 me_Mo_timesOf im_Mo_timesOf se_Mo_timesOf rfl hM.o rfl rfl (c_Mo_timesOf g hM (k := v) (k2 := 12 + v) (r := r) (n := B.length) (wd := wd) (by omega) (by omega) (by omega) hwd hB1 hB2) (Nat.le_of_ble_eq_true rfl) (Nat.le_of_ble_eq_true rfl) (Nat.le_of_ble_eq_true rfl) (Nat.le_of_ble_eq_true rfl) ?_
    rw [hB3]
    refine v_lconst (pc := 90) (v := 0) d_Mo_differing_90 rfl ?_
    refine v_lcmp (pc := 91) d_Mo_differing_91 ?_
    refine v_if_ne (pc := 92) (tgt := 101) d_Mo_differing_92 rfl (fun hc => ?_) (fun hc => ?_)
    · skip
      refine v_iload_n (pc := 101) d_Mo_differing_101 rfl rfl ?_
      refine v_re (y := nI (n0 + ((ar_bag (ia 10) (la 9) wd (16 * (12 + v)) (r + 1)).countP (fun e => decide (ma_look B e.1 = 0))))) (by rw [lg0] at hc; rw [ar_bag_snoc, List.countP_append, List.countP_cons_of_neg (by rw [decide_eq_true_eq]; exact hc), List.countP_nil, Nat.add_zero]) ?_
      refine v_istore_n (pc := 102) (L' := [(2, .int (nI (n0 + ((ar_bag (ia 10) (la 9) wd (16 * (12 + v)) (r + 1)).countP (fun e => decide (ma_look B e.1 = 0)))))), (3, .int (nI r)), (0, .ref b), (1, .int (nI v))]) d_Mo_differing_102 rfl (by decide) rfl ?_
      refine v_iinc (pc := 103) (L' := [(3, .int (nI (r + 1))), (2, .int (nI (n0 + ((ar_bag (ia 10) (la 9) wd (16 * (12 + v)) (r + 1)).countP (fun e => decide (ma_look B e.1 = 0)))))), (0, .ref b), (1, .int (nI v))]) d_Mo_differing_103 rfl (ix_inc _) (by decide) rfl ?_
      refine v_goto (pc := 106) (tgt := 61) d_Mo_differing_106 rfl ?_
      refine v_sub (L' := [(3, .int (nI (r + 1))), (2, .int (nI (n0 + ((ar_bag (ia 10) (la 9) wd (16 * (12 + v)) (r + 1)).countP (fun e => decide (ma_look B e.1 = 0)))))), (0, .ref b), (1, .int (nI v))]) (by simp) ?_
      exact ih (C.length - (r + 1)) (by omega) (r + 1) rfl (by omega)
    · skip
      refine v_iload_n (pc := 95) d_Mo_differing_95 rfl rfl ?_
      refine v_iconst (pc := 96) (v := nI 1) d_Mo_differing_96 rfl ?_
      refine v_iadd (pc := 97) d_Mo_differing_97 ?_
      refine v_re (nI_add (n0 + ((ar_bag (ia 10) (la 9) wd (16 * (12 + v)) r).countP (fun e => decide (ma_look B e.1 = 0)))) 1) ?_
      refine v_goto (pc := 98) (tgt := 102) d_Mo_differing_98 rfl ?_
      refine v_re (y := nI (n0 + ((ar_bag (ia 10) (la 9) wd (16 * (12 + v)) (r + 1)).countP (fun e => decide (ma_look B e.1 = 0))))) (by rw [lg0] at hc; rw [ar_bag_snoc, List.countP_append, List.countP_cons_of_pos (by rw [decide_eq_true_eq]; exact hc), List.countP_nil]; rfl) ?_
      refine v_istore_n (pc := 102) (L' := [(2, .int (nI (n0 + ((ar_bag (ia 10) (la 9) wd (16 * (12 + v)) (r + 1)).countP (fun e => decide (ma_look B e.1 = 0)))))), (3, .int (nI r)), (0, .ref b), (1, .int (nI v))]) d_Mo_differing_102 rfl (by decide) rfl ?_
      refine v_iinc (pc := 103) (L' := [(3, .int (nI (r + 1))), (2, .int (nI (n0 + ((ar_bag (ia 10) (la 9) wd (16 * (12 + v)) (r + 1)).countP (fun e => decide (ma_look B e.1 = 0)))))), (0, .ref b), (1, .int (nI v))]) d_Mo_differing_103 rfl (ix_inc _) (by decide) rfl ?_
      refine v_goto (pc := 106) (tgt := 61) d_Mo_differing_106 rfl ?_
      refine v_sub (L' := [(3, .int (nI (r + 1))), (2, .int (nI (n0 + ((ar_bag (ia 10) (la 9) wd (16 * (12 + v)) (r + 1)).countP (fun e => decide (ma_look B e.1 = 0)))))), (0, .ref b), (1, .int (nI v))]) (by simp) ?_
      exact ih (C.length - (r + 1)) (by omega) (r + 1) rfl (by omega)
set_option maxRecDepth 100000 in
set_option maxHeartbeats 4000000 in
theorem c_Mo_differing (g : Gl) {w : Wd} {b sz : Nat} {sc : Nat → Int32} {ia : Nat → Nat → Int32} {la : Nat → Nat → Int64} (hM : MAt w b sc ia la) {v wd : Nat} {B C : MaB} (hv : v < 12) (hw : ia 0 v = nI wd) (hwd : wd ≤ 4) (hB : BK ia la v wd B) (hC : BK ia la (12 + v) wd C) : CT g 2 0 0 mi_Mo_differing [.ref b, .int (nI v)] w sz (rdE (some (.int (nI (ma_mv2 C B)))) w sz) := by
  refine CT.of (by decide) (Nat.le_of_ble_eq_true rfl) ?_
  obtain ⟨hB1, hB2, hB3⟩ := id hB
  obtain ⟨hC1, hC2, hC3⟩ := id hC
  refine v_iconst (pc := 0) (v := nI 0) d_Mo_differing_0 rfl ?_
  refine v_re (y := nI ((ar_bag (ia 10) (la 9) wd (16 * v) 0).countP (fun e => decide (ma_look C e.1 ≠ e.2)))) rfl ?_
  refine v_istore_n (pc := 1) (L' := [(2, .int (nI (((ar_bag (ia 10) (la 9) wd (16 * v) 0).countP (fun e => decide (ma_look C e.1 ≠ e.2)))))), (0, .ref b), (1, .int (nI v))]) d_Mo_differing_1 rfl (by decide) rfl ?_
  refine v_iconst (pc := 2) (v := nI 0) d_Mo_differing_2 rfl ?_
  refine v_istore_n (pc := 3) (L' := [(3, .int (nI 0)), (2, .int (nI (((ar_bag (ia 10) (la 9) wd (16 * v) 0).countP (fun e => decide (ma_look C e.1 ≠ e.2)))))), (0, .ref b), (1, .int (nI v))]) d_Mo_differing_3 rfl (by decide) rfl ?_
  refine v_sub (L' := [(3, .int (nI 0)), (2, .int (nI (((ar_bag (ia 10) (la 9) wd (16 * v) 0).countP (fun e => decide (ma_look C e.1 ≠ e.2)))))), (0, .ref b), (1, .int (nI v))]) (by simp) ?_
  refine lp1_Mo_differing g hM hv hw hwd hB hC ?_ B.length 0 rfl (by omega)
  rw [hB3]
  refine v_iconst (pc := 59) (v := nI 0) d_Mo_differing_59 rfl ?_
  refine v_istore_n (pc := 60) (L' := [(3, .int (nI 0)), (2, .int (nI (B.countP (fun e => decide (ma_look C e.1 ≠ e.2))))), (0, .ref b), (1, .int (nI v))]) d_Mo_differing_60 rfl (by decide) rfl ?_
  refine v_sub (L' := [(3, .int (nI 0)), (2, .int (nI (B.countP (fun e => decide (ma_look C e.1 ≠ e.2))))), (0, .ref b), (1, .int (nI v))]) (by simp) ?_
  exact lp2_Mo_differing g hM hv hw hwd hB hC (n0 := B.countP (fun e => decide (ma_look C e.1 ≠ e.2))) (E := rdE (some (.int (nI (ma_mv2 C B)))) w sz) ⟨rfl, rfl, rfl⟩ C.length 0 rfl (by omega)
