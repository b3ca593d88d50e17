/-! comparing, taking -/
theorem ar_row_cmp {f g : Nat → Int32} {n a b c : Nat} (hc : c < n) (he : ∀ j, j < c → f (a + j) = g (b + j)) (hs : c + 1 = n ∨ f (a + c) ≠ g (b + c)) : ma_lt (ar_row f n a) (ar_row g n b) = true ↔ f (a + c) < g (b + c) := by
  constructor
  · intro h
    rcases ma_i32_tri (f (a + c)) (g (b + c)) with h1 | h1 | h1
    · exact h1
    · rcases hs with hs | hs
      · have : ar_row f n a = ar_row g n b := ar_row_congr (fun j hj => by
          by_cases hjc : j = c
          · subst hjc; exact h1
          · exact he j (by omega))
        rw [this, ma_lt_irr] at h
        cases h
      · exact absurd h1 hs
    · have h2 := ar_row_lt (n := n) hc h1 (fun j hj => (he j hj).symm)
      rw [ma_lt_asym h2] at h
      cases h
  · intro h
    exact ar_row_lt hc h he
set_option maxRecDepth 100000 in
set_option maxHeartbeats 4000000 in
theorem lp_Mo_comesBefore (g : Gl) {w : Wd} {b sz : Nat} {sc : Nat → Int32} {ia : Nat → Nat → Int32} {la : Nat → Nat → Int64} (hM : MAt w b sc ia la) {r s wd : Nat} (hr : r < 256) (hs : s < 256) (hw1 : 1 ≤ wd) (hwd : wd ≤ 4) {E : Rs → Wd → Nat → Prop} (hE : E (.inl (some (.int (if ma_lt (ar_row (ia 12) wd (4 * r)) (ar_row (ia 12) wd (4 * s)) = true then 1 else 0)))) w sz) : ∀ (zz : Nat) (c : Nat), wd - 1 - c = zz → c ≤ wd - 1 → (∀ j, j < c → ia 12 (4 * r + j) = ia 12 (4 * s + j)) → VV g 0 0 0 mi_Mo_comesBefore w sz E 3 [(4, .int (nI c)), (0, .ref b), (1, .int (nI r)), (2, .int (nI s)), (3, .int (nI wd))] [] w sz 0 0 := by
  intro zz
  induction zz using Nat.strongRecOn with | _ zz ih => _
  intro c hn hcw heq
  refine v_iload (pc := 3) d_Mo_comesBefore_3 rfl ?_
  refine v_iload_n (pc := 5) d_Mo_comesBefore_5 rfl rfl ?_
  refine v_iconst (pc := 6) (v := nI 1) d_Mo_comesBefore_6 rfl ?_
  refine v_isub (pc := 7) d_Mo_comesBefore_7 ?_
  refine v_re (pk_sub (a := wd) (b := 1) (by omega)) ?_
  refine v_icmp_ge (pc := 8) (tgt := 42) d_Mo_comesBefore_8 rfl (fun hc => ?_) (fun hc => ?_)
  · skip
    rw [nI_leI (by omega) (by omega)] at hc
    have hst : c + 1 = wd ∨ ia 12 (4 * r + c) ≠ ia 12 (4 * s + c) := Or.inl (by omega)
    refine v_aload_n (pc := 42) d_Mo_comesBefore_42 rfl rfl ?_
    refine v_get (pc := 43) d_Mo_comesBefore_43 fl_Mo_51 hM.o rfl ?_
    refine v_iconst (pc := 46) (v := nI 4) d_Mo_comesBefore_46 rfl ?_
    refine v_iload_n (pc := 47) d_Mo_comesBefore_47 rfl rfl ?_
    refine v_imul (pc := 48) d_Mo_comesBefore_48 ?_
    refine v_re (pk_mul 4 r) ?_
    refine v_iload (pc := 49) d_Mo_comesBefore_49 rfl ?_
    refine v_iadd (pc := 51) d_Mo_comesBefore_51 ?_
    refine v_re (nI_add (4 * r) c) ?_
    refine v_ialdN (pc := 52) (k := (4 * r) + c) (f := ia 12) d_Mo_comesBefore_52 hM.a12 rfl (by omega) (by decide) ?_
    refine v_aload_n (pc := 53) d_Mo_comesBefore_53 rfl rfl ?_
    refine v_get (pc := 54) d_Mo_comesBefore_54 fl_Mo_51 hM.o rfl ?_
    refine v_iconst (pc := 57) (v := nI 4) d_Mo_comesBefore_57 rfl ?_
    refine v_iload_n (pc := 58) d_Mo_comesBefore_58 rfl rfl ?_
    refine v_imul (pc := 59) d_Mo_comesBefore_59 ?_
    refine v_re (pk_mul 4 s) ?_
    refine v_iload (pc := 60) d_Mo_comesBefore_60 rfl ?_
    refine v_iadd (pc := 62) d_Mo_comesBefore_62 ?_
    refine v_re (nI_add (4 * s) c) ?_
    refine v_ialdN (pc := 63) (k := (4 * s) + c) (f := ia 12) d_Mo_comesBefore_63 hM.a12 rfl (by omega) (by decide) ?_
    refine v_icmp_ge (pc := 64) (tgt := 71) d_Mo_comesBefore_64 rfl (fun hc => ?_) (fun hc => ?_)
    · skip
      refine v_iconst (pc := 71) (v := nI 0) d_Mo_comesBefore_71 rfl ?_
      refine v_re (y := (if ma_lt (ar_row (ia 12) wd (4 * r)) (ar_row (ia 12) wd (4 * s)) = true then 1 else 0)) (zb0 (fun h9 => Int32.not_le.mpr ((ar_row_cmp (c := c) (by omega) heq hst).mp h9) hc)) ?_
      exact v_zret (pc := 72) d_Mo_comesBefore_72 rfl zb (Nat.le_of_ble_eq_true rfl) (Nat.le_of_ble_eq_true rfl) hE
    · skip
      refine v_iconst (pc := 67) (v := nI 1) d_Mo_comesBefore_67 rfl ?_
      refine v_goto (pc := 68) (tgt := 72) d_Mo_comesBefore_68 rfl ?_
      refine v_re (y := (if ma_lt (ar_row (ia 12) wd (4 * r)) (ar_row (ia 12) wd (4 * s)) = true then 1 else 0)) (zb1 ((ar_row_cmp (c := c) (by omega) heq hst).mpr (Int32.not_le.mp hc))) ?_
      exact v_zret (pc := 72) d_Mo_comesBefore_72 rfl zb (Nat.le_of_ble_eq_true rfl) (Nat.le_of_ble_eq_true rfl) hE
  · skip
    rw [nI_leI (by omega) (by omega)] at hc
    refine v_aload_n (pc := 11) d_Mo_comesBefore_11 rfl rfl ?_
    refine v_get (pc := 12) d_Mo_comesBefore_12 fl_Mo_51 hM.o rfl ?_
    refine v_iconst (pc := 15) (v := nI 4) d_Mo_comesBefore_15 rfl ?_
    refine v_iload_n (pc := 16) d_Mo_comesBefore_16 rfl rfl ?_
    refine v_imul (pc := 17) d_Mo_comesBefore_17 ?_
    refine v_re (pk_mul 4 r) ?_
    refine v_iload (pc := 18) d_Mo_comesBefore_18 rfl ?_
    refine v_iadd (pc := 20) d_Mo_comesBefore_20 ?_
    refine v_re (nI_add (4 * r) c) ?_
    refine v_ialdN (pc := 21) (k := (4 * r) + c) (f := ia 12) d_Mo_comesBefore_21 hM.a12 rfl (by omega) (by decide) ?_
    refine v_aload_n (pc := 22) d_Mo_comesBefore_22 rfl rfl ?_
    refine v_get (pc := 23) d_Mo_comesBefore_23 fl_Mo_51 hM.o rfl ?_
    refine v_iconst (pc := 26) (v := nI 4) d_Mo_comesBefore_26 rfl ?_
    refine v_iload_n (pc := 27) d_Mo_comesBefore_27 rfl rfl ?_
    refine v_imul (pc := 28) d_Mo_comesBefore_28 ?_
    refine v_re (pk_mul 4 s) ?_
    refine v_iload (pc := 29) d_Mo_comesBefore_29 rfl ?_
    refine v_iadd (pc := 31) d_Mo_comesBefore_31 ?_
    refine v_re (nI_add (4 * s) c) ?_
    refine v_ialdN (pc := 32) (k := (4 * s) + c) (f := ia 12) d_Mo_comesBefore_32 hM.a12 rfl (by omega) (by decide) ?_
    refine v_icmp_ne (pc := 33) (tgt := 42) d_Mo_comesBefore_33 rfl (fun hc => ?_) (fun hc => ?_)
    · skip
      have hst : c + 1 = wd ∨ ia 12 (4 * r + c) ≠ ia 12 (4 * s + c) := Or.inr hc
      refine v_aload_n (pc := 42) d_Mo_comesBefore_42 rfl rfl ?_
      refine v_get (pc := 43) d_Mo_comesBefore_43 fl_Mo_51 hM.o rfl ?_
      refine v_iconst (pc := 46) (v := nI 4) d_Mo_comesBefore_46 rfl ?_
      refine v_iload_n (pc := 47) d_Mo_comesBefore_47 rfl rfl ?_
      refine v_imul (pc := 48) d_Mo_comesBefore_48 ?_
      refine v_re (pk_mul 4 r) ?_
      refine v_iload (pc := 49) d_Mo_comesBefore_49 rfl ?_
      refine v_iadd (pc := 51) d_Mo_comesBefore_51 ?_
      refine v_re (nI_add (4 * r) c) ?_
      refine v_ialdN (pc := 52) (k := (4 * r) + c) (f := ia 12) d_Mo_comesBefore_52 hM.a12 rfl (by omega) (by decide) ?_
      refine v_aload_n (pc := 53) d_Mo_comesBefore_53 rfl rfl ?_
      refine v_get (pc := 54) d_Mo_comesBefore_54 fl_Mo_51 hM.o rfl ?_
      refine v_iconst (pc := 57) (v := nI 4) d_Mo_comesBefore_57 rfl ?_
      refine v_iload_n (pc := 58) d_Mo_comesBefore_58 rfl rfl ?_
      refine v_imul (pc := 59) d_Mo_comesBefore_59 ?_
      refine v_re (pk_mul 4 s) ?_
      refine v_iload (pc := 60) d_Mo_comesBefore_60 rfl ?_
      refine v_iadd (pc := 62) d_Mo_comesBefore_62 ?_
      refine v_re (nI_add (4 * s) c) ?_
      refine v_ialdN (pc := 63) (k := (4 * s) + c) (f := ia 12) d_Mo_comesBefore_63 hM.a12 rfl (by omega) (by decide) ?_
      refine v_icmp_ge (pc := 64) (tgt := 71) d_Mo_comesBefore_64 rfl (fun hc => ?_) (fun hc => ?_)
      · skip
        refine v_iconst (pc := 71) (v := nI 0) d_Mo_comesBefore_71 rfl ?_
        refine v_re (y := (if ma_lt (ar_row (ia 12) wd (4 * r)) (ar_row (ia 12) wd (4 * s)) = true then 1 else 0)) (zb0 (fun h9 => Int32.not_le.mpr ((ar_row_cmp (c := c) (by omega) heq hst).mp h9) hc)) ?_
        exact v_zret (pc := 72) d_Mo_comesBefore_72 rfl zb (Nat.le_of_ble_eq_true rfl) (Nat.le_of_ble_eq_true rfl) hE
      · skip
        refine v_iconst (pc := 67) (v := nI 1) d_Mo_comesBefore_67 rfl ?_
        refine v_goto (pc := 68) (tgt := 72) d_Mo_comesBefore_68 rfl ?_
        refine v_re (y := (if ma_lt (ar_row (ia 12) wd (4 * r)) (ar_row (ia 12) wd (4 * s)) = true then 1 else 0)) (zb1 ((ar_row_cmp (c := c) (by omega) heq hst).mpr (Int32.not_le.mp hc))) ?_
        exact v_zret (pc := 72) d_Mo_comesBefore_72 rfl zb (Nat.le_of_ble_eq_true rfl) (Nat.le_of_ble_eq_true rfl) hE
    · skip
      have hc : ia 12 (4 * r + c) = ia 12 (4 * s + c) := by simpa using hc
      refine v_iinc (pc := 36) (L' := [(4, .int (nI (c + 1))), (0, .ref b), (1, .int (nI r)), (2, .int (nI s)), (3, .int (nI wd))]) d_Mo_comesBefore_36 rfl (ix_inc _) (by decide) rfl ?_
      refine v_goto (pc := 39) (tgt := 3) d_Mo_comesBefore_39 rfl ?_
      refine v_sub (L' := [(4, .int (nI (c + 1))), (0, .ref b), (1, .int (nI r)), (2, .int (nI s)), (3, .int (nI wd))]) (by simp) ?_
      exact ih (wd - 1 - (c + 1)) (by omega) (c + 1) rfl (by omega) (fun j hj => by by_cases hjc : j = c; (subst hjc; exact hc); exact heq j (by omega))
set_option maxRecDepth 100000 in
set_option maxHeartbeats 4000000 in
theorem c_Mo_comesBefore (g : Gl) {w : Wd} {b sz : Nat} {sc : Nat → Int32} {ia : Nat → Nat → Int32} {la : Nat → Nat → Int64} (hM : MAt w b sc ia la) {r s wd : Nat} (hr : r < 256) (hs : s < 256) (hw1 : 1 ≤ wd) (hwd : wd ≤ 4) : CT g 0 0 0 mi_Mo_comesBefore [.ref b, .int (nI r), .int (nI s), .int (nI wd)] w sz (rdE (some (.int (if ma_lt (ar_row (ia 12) wd (4 * r)) (ar_row (ia 12) wd (4 * s)) = true then 1 else 0))) w sz) := by
  refine CT.of (by decide) (Nat.le_of_ble_eq_true rfl) ?_
  refine v_iconst (pc := 0) (v := nI 0) d_Mo_comesBefore_0 rfl ?_
  refine v_istore (pc := 1) (L' := [(4, .int (nI 0)), (0, .ref b), (1, .int (nI r)), (2, .int (nI s)), (3, .int (nI wd))]) d_Mo_comesBefore_1 (by decide) rfl ?_
  refine v_sub (L' := [(4, .int (nI 0)), (0, .ref b), (1, .int (nI r)), (2, .int (nI s)), (3, .int (nI wd))]) (by simp) ?_
  exact lp_Mo_comesBefore g hM hr hs hw1 hwd ⟨rfl, rfl, rfl⟩ (wd - 1) 0 rfl (by omega) (fun j hj => absurd hj (Nat.not_lt_zero _))
