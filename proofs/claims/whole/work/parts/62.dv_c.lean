set_option maxRecDepth 100000 in
set_option maxHeartbeats 4000000 in
theorem c_DV_isTooFar (g : Gl) {w : Wd} {sz : Nat} (x y : Int32) : CT g 0 0 0 mi_DV_isTooFar [.int x, .int y] w sz (rdE (some (.int (if ¬ (-y ≤ x ∧ x ≤ y) then 1 else 0))) w sz) := by
  refine CT.of (by decide) (Nat.le_of_ble_eq_true rfl) ?_
  refine v_iload_n (pc := 0) d_DV_isTooFar_0 rfl rfl ?_
  refine v_iload_n (pc := 1) d_DV_isTooFar_1 rfl rfl ?_
  refine v_ineg (pc := 2) d_DV_isTooFar_2 ?_
  refine v_icmp_lt (pc := 3) (tgt := 11) d_DV_isTooFar_3 rfl (fun hc => ?_) (fun hc => ?_)
  · skip
    refine v_iconst (pc := 11) (v := nI 1) d_DV_isTooFar_11 rfl ?_
    refine v_goto (pc := 12) (tgt := 16) d_DV_isTooFar_12 rfl ?_
    exact v_zret (pc := 16) d_DV_isTooFar_16 rfl z11 (Nat.le_of_ble_eq_true rfl) (Nat.le_of_ble_eq_true rfl) ⟨zr1 (fun h => absurd hc (Int32.not_lt.mpr h.1)), rfl, rfl⟩
  · skip
    have hl := hc
    refine v_iload_n (pc := 6) d_DV_isTooFar_6 rfl rfl ?_
    refine v_iload_n (pc := 7) d_DV_isTooFar_7 rfl rfl ?_
    refine v_icmp_le (pc := 8) (tgt := 15) d_DV_isTooFar_8 rfl (fun hc => ?_) (fun hc => ?_)
    · skip
      refine v_iconst (pc := 15) (v := nI 0) d_DV_isTooFar_15 rfl ?_
      exact v_zret (pc := 16) d_DV_isTooFar_16 rfl z01 (Nat.le_of_ble_eq_true rfl) (Nat.le_of_ble_eq_true rfl) ⟨zr0 (fun h => h ⟨Int32.not_lt.mp hl, hc⟩), rfl, rfl⟩
    · skip
      refine v_iconst (pc := 11) (v := nI 1) d_DV_isTooFar_11 rfl ?_
      refine v_goto (pc := 12) (tgt := 16) d_DV_isTooFar_12 rfl ?_
      exact v_zret (pc := 16) d_DV_isTooFar_16 rfl z11 (Nat.le_of_ble_eq_true rfl) (Nat.le_of_ble_eq_true rfl) ⟨zr1 (fun h => hc h.2), rfl, rfl⟩
set_option maxRecDepth 100000 in
set_option maxHeartbeats 4000000 in
theorem c_DV_change (g : Gl) {w : Wd} {Z sz : Nat} {a : As} {sw : Nat → Bool} {od : Nat → Nat} (hC : CR w Z sz a sw od) (hA : AWa a) (t x y z : Int32) : CT g 6 1 6 mi_DV_change [.ref Z, .int t, .int x, .int y, .int z] w sz (CE w Z sz (if 0 ≤ t ∧ t ≤ nI 2 then if chOk x y z then if a.2.2.2.2.2.length = 8 then 3 else 0 else 2 else 1) (if 0 ≤ t ∧ t ≤ nI 2 then if chOk x y z then if a.2.2.2.2.2.length = 8 then 3 else 0 else 2 else 1) (.int (nI (a.2.2.2.2.2.length + 1))) (if 0 ≤ t ∧ t ≤ nI 2 then if chOk x y z then if a.2.2.2.2.2.length = 8 then a else (a.1, a.2.1, a.2.2.1, a.2.2.2.1, a.2.2.2.2.1, a.2.2.2.2.2 ++ [(t, x, y, z)]) else a else a)) := by
  refine CT.of (by decide) (Nat.le_of_ble_eq_true rfl) ?_
  obtain ⟨bx, by_, bz, bu, hT, hTT⟩ := hC.2.2.1
  refine v_iload_n (pc := 0) d_DV_change_0 rfl rfl ?_
  refine v_if_lt (pc := 1) (tgt := 9) d_DV_change_1 rfl (fun hc => ?_) (fun hc => ?_)
  · skip
    have ht : ¬ (0 ≤ t ∧ t ≤ nI 2) := fun h => absurd hc (Int32.not_lt.mpr h.1)
    exact v_throw (pc := 9) d_DV_change_9 d_DV_change_12 d_DV_change_13 d_DV_change_15 d_DV_change_18 tk_34 rfl (Nat.le_of_ble_eq_true rfl) (Nat.le_of_ble_eq_true rfl) (Nat.le_of_ble_eq_true rfl) (Nat.le_of_ble_eq_true rfl) ⟨Nat.le_succ _, cl_fr.rf, ⟨sw, od, by simp only [if_neg ht]; exact hC.up (Nat.le_succ _)⟩, by rw [if_neg ht, if_neg (by decide)]⟩
  · skip
    have hl := hc
    refine v_iload_n (pc := 4) d_DV_change_4 rfl rfl ?_
    refine v_iconst (pc := 5) (v := nI 3) d_DV_change_5 rfl ?_
    refine v_icmp_lt (pc := 6) (tgt := 19) d_DV_change_6 rfl (fun hc => ?_) (fun hc => ?_)
    · skip
      have ht : 0 ≤ t ∧ t ≤ nI 2 := ⟨Int32.not_lt.mp hl, by rw [Int32.le_iff_toInt_le]; have h9 := Int32.lt_iff_toInt_lt.mp hc; have e2 : (nI 2).toInt = 2 := rfl; have e3 : (nI 3).toInt = 3 := rfl; omega⟩
      refine v_iload_n (pc := 19) d_DV_change_19 rfl rfl ?_
      refine v_sipush (pc := 20) (v := nI 1000) d_DV_change_20 rfl ?_
      refine v_csR (pc := 23) (A := [.int x, .int (nI 1000)]) (rest := []) (x := .int (if ¬ (-(nI 1000) ≤ x ∧ x ≤ nI 1000) then 1 else 0)) d_DV_change_23 lk_DV_39 me_DV_isTooFar st_DV_isTooFar rfl rfl (c_DV_isTooFar g x (nI 1000)) (Nat.le_of_ble_eq_true rfl) (Nat.le_of_ble_eq_true rfl) (Nat.le_of_ble_eq_true rfl) (Nat.le_of_ble_eq_true rfl) ?_
      refine v_if_ne (pc := 26) (tgt := 49) d_DV_change_26 rfl (fun hc => ?_) (fun hc => ?_)
      · skip
        rw [zt] at hc
        have hk : ¬ chOk x y z := fun h => hc h.1
        exact v_throw (pc := 49) d_DV_change_49 d_DV_change_52 d_DV_change_53 d_DV_change_55 d_DV_change_58 tk_45 rfl (Nat.le_of_ble_eq_true rfl) (Nat.le_of_ble_eq_true rfl) (Nat.le_of_ble_eq_true rfl) (Nat.le_of_ble_eq_true rfl) ⟨Nat.le_succ _, cl_fr.rf, ⟨sw, od, by simp only [if_pos ht, if_neg hk]; exact hC.up (Nat.le_succ _)⟩, by rw [if_pos ht, if_neg hk, if_neg (by decide)]⟩
      · skip
        rw [zf] at hc
        have h1 := hc
        refine v_iload_n (pc := 29) d_DV_change_29 rfl rfl ?_
        refine v_sipush (pc := 30) (v := nI 1000) d_DV_change_30 rfl ?_
        refine v_csR (pc := 33) (A := [.int y, .int (nI 1000)]) (rest := []) (x := .int (if ¬ (-(nI 1000) ≤ y ∧ y ≤ nI 1000) then 1 else 0)) d_DV_change_33 lk_DV_39 me_DV_isTooFar st_DV_isTooFar rfl rfl (c_DV_isTooFar g y (nI 1000)) (Nat.le_of_ble_eq_true rfl) (Nat.le_of_ble_eq_true rfl) (Nat.le_of_ble_eq_true rfl) (Nat.le_of_ble_eq_true rfl) ?_
        refine v_if_ne (pc := 36) (tgt := 49) d_DV_change_36 rfl (fun hc => ?_) (fun hc => ?_)
        · skip
          rw [zt] at hc
          have hk : ¬ chOk x y z := fun h => hc h.2.1
          exact v_throw (pc := 49) d_DV_change_49 d_DV_change_52 d_DV_change_53 d_DV_change_55 d_DV_change_58 tk_45 rfl (Nat.le_of_ble_eq_true rfl) (Nat.le_of_ble_eq_true rfl) (Nat.le_of_ble_eq_true rfl) (Nat.le_of_ble_eq_true rfl) ⟨Nat.le_succ _, cl_fr.rf, ⟨sw, od, by simp only [if_pos ht, if_neg hk]; exact hC.up (Nat.le_succ _)⟩, by rw [if_pos ht, if_neg hk, if_neg (by decide)]⟩
        · skip
          rw [zf] at hc
          have h2 := hc
          refine v_iload (pc := 39) d_DV_change_39 rfl ?_
          refine v_bipush (pc := 41) (v := nI 99) d_DV_change_41 rfl ?_
          refine v_csR (pc := 43) (A := [.int z, .int (nI 99)]) (rest := []) (x := .int (if ¬ (-(nI 99) ≤ z ∧ z ≤ nI 99) then 1 else 0)) d_DV_change_43 lk_DV_39 me_DV_isTooFar st_DV_isTooFar rfl rfl (c_DV_isTooFar g z (nI 99)) (Nat.le_of_ble_eq_true rfl) (Nat.le_of_ble_eq_true rfl) (Nat.le_of_ble_eq_true rfl) (Nat.le_of_ble_eq_true rfl) ?_
          refine v_if_eq (pc := 46) (tgt := 59) d_DV_change_46 rfl (fun hc => ?_) (fun hc => ?_)
          · skip
            rw [zf] at hc
            have hk : chOk x y z := ⟨Classical.not_not.mp h1, Classical.not_not.mp h2, Classical.not_not.mp hc⟩
            refine v_aload_n (pc := 59) d_DV_change_59 rfl rfl ?_
            refine v_get (pc := 60) d_DV_change_60 fl_DV_22 hC.1 rfl ?_
            refine v_cvR (pc := 63) (A := []) (rest := []) (x := .int (if a.2.2.2.2.2.length = 8 then 1 else 0)) d_DV_change_63 lk_DV_48 me_Batch_isFull im_Batch_isFull se_Batch_isFull rfl hT.o rfl rfl (c_Batch_isFull g hT hA.2.2.1) (Nat.le_of_ble_eq_true rfl) (Nat.le_of_ble_eq_true rfl) (Nat.le_of_ble_eq_true rfl) (Nat.le_of_ble_eq_true rfl) ?_
            refine v_if_eq (pc := 66) (tgt := 79) d_DV_change_66 rfl (fun hc => ?_) (fun hc => ?_)
            · skip
              rw [zf] at hc
              have hf := hc
              refine v_aload_n (pc := 79) d_DV_change_79 rfl rfl ?_
              refine v_get (pc := 80) d_DV_change_80 fl_DV_22 hC.1 rfl ?_
              refine v_iload_n (pc := 83) d_DV_change_83 rfl rfl ?_
              refine v_iload_n (pc := 84) d_DV_change_84 rfl rfl ?_
              refine v_iload_n (pc := 85) d_DV_change_85 rfl rfl ?_
              refine v_iload (pc := 86) d_DV_change_86 rfl ?_
              refine v_cvX (pc := 88) (A := [.int t, .int x, .int y, .int z]) (rest := []) (x := .int (nI (a.2.2.2.2.2.length + 1))) d_DV_change_88 lk_DV_57 me_Batch_append im_Batch_append se_Batch_append rfl hT.o rfl rfl (c_Batch_append g hT (by have := hA.2.2.1; omega) t x y z) (Nat.le_of_ble_eq_true rfl) (Nat.le_of_ble_eq_true rfl) (Nat.le_of_ble_eq_true rfl) (Nat.le_of_ble_eq_true rfl) (fun w1 ht1 => ?_)
              obtain ⟨q1, hq1⟩ := ht1
              have hlen : (a.2.2.2.2.2 ++ [(t, x, y, z)]).length = a.2.2.2.2.2.length + 1 := by simp
              have hbt : bt_of (upd bx a.2.2.2.2.2.length t) (upd by_ a.2.2.2.2.2.length x) (upd bz a.2.2.2.2.2.length y) (upd bu a.2.2.2.2.2.length z) (a.2.2.2.2.2.length + 1) = a.2.2.2.2.2 ++ [(t, x, y, z)] := by
                rw [bt_of_snoc, pk_us, pk_us, pk_us, pk_us]
                refine congrArg (· ++ _) (Eq.trans (List.map_congr_left (fun k hk => ?_)) hTT)
                have hk := List.mem_range.mp hk
                rw [pk_un (by omega), pk_un (by omega), pk_un (by omega), pk_un (by omega)]
              exact v_iret (pc := 91) d_DV_change_91 rfl (Nat.le_of_ble_eq_true rfl) (Nat.le_of_ble_eq_true rfl) ⟨Nat.le_refl _, fun q hq => hq1 q (by omega), ⟨sw, od, by simp only [if_pos ht, if_pos hk, if_neg hf]; exact hC.bt (l := a.2.2.2.2.2 ++ [(t, x, y, z)]) hA.2.1 hq1 ⟨_, _, _, _, by rw [hlen]; exact q1, by rw [hlen]; exact hbt⟩⟩, by rw [if_pos ht, if_pos hk, if_neg hf, if_pos rfl]⟩
            · skip
              rw [zt] at hc
              have hf := hc
              exact v_throw (pc := 69) d_DV_change_69 d_DV_change_72 d_DV_change_73 d_DV_change_75 d_DV_change_78 tk_54 rfl (Nat.le_of_ble_eq_true rfl) (Nat.le_of_ble_eq_true rfl) (Nat.le_of_ble_eq_true rfl) (Nat.le_of_ble_eq_true rfl) ⟨Nat.le_succ _, cl_fr.rf, ⟨sw, od, by simp only [if_pos ht, if_pos hk, if_pos hf]; exact hC.up (Nat.le_succ _)⟩, by rw [if_pos ht, if_pos hk, if_pos hf, if_neg (by decide)]⟩
          · skip
            rw [zt] at hc
            have hk : ¬ chOk x y z := fun h => hc h.2.2
            exact v_throw (pc := 49) d_DV_change_49 d_DV_change_52 d_DV_change_53 d_DV_change_55 d_DV_change_58 tk_45 rfl (Nat.le_of_ble_eq_true rfl) (Nat.le_of_ble_eq_true rfl) (Nat.le_of_ble_eq_true rfl) (Nat.le_of_ble_eq_true rfl) ⟨Nat.le_succ _, cl_fr.rf, ⟨sw, od, by simp only [if_pos ht, if_neg hk]; exact hC.up (Nat.le_succ _)⟩, by rw [if_pos ht, if_neg hk, if_neg (by decide)]⟩
    · skip
      have ht : ¬ (0 ≤ t ∧ t ≤ nI 2) := fun h => hc (by rw [Int32.lt_iff_toInt_lt]; have h9 := Int32.le_iff_toInt_le.mp h.2; have e2 : (nI 2).toInt = 2 := rfl; have e3 : (nI 3).toInt = 3 := rfl; omega)
      exact v_throw (pc := 9) d_DV_change_9 d_DV_change_12 d_DV_change_13 d_DV_change_15 d_DV_change_18 tk_34 rfl (Nat.le_of_ble_eq_true rfl) (Nat.le_of_ble_eq_true rfl) (Nat.le_of_ble_eq_true rfl) (Nat.le_of_ble_eq_true rfl) ⟨Nat.le_succ _, cl_fr.rf, ⟨sw, od, by simp only [if_neg ht]; exact hC.up (Nat.le_succ _)⟩, by rw [if_neg ht, if_neg (by decide)]⟩
