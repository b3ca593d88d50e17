def op_ky (p : Nat) (y : List Int32 × Int64) : Int32 := y.1.getD p 0
def op_wo (kd q : Nat) (y : List Int32 × Int64) : Int32 := if kd = 0 then y.1.getD q 0 * y.2.toInt32 else if kd = 1 then y.2.toInt32 else y.1.getD q 0
def op_sv (kd : Nat) (a : Option Int32) (x : Int32) : Int32 := match a with | none => x | some s => if kd = 2 then (if s < x then x else s) else s + x
def op_rs (kd p q : Nat) (k : Int32) (B : MaB) : Option Int32 := B.foldl (fun a y => if op_ky p y = k then some (op_sv kd a (op_wo kd q y)) else a) none
def op_fst (p : Nat) (k : Int32) (B : MaB) : Bool := B.all (fun y => decide (op_ky p y ≠ k))
def op_gr (kd p q : Nat) (B : MaB) : Nat → MaB
  | 0 => []
  | r + 1 => op_gr kd p q B r ++ (match B[r]? with
    | some y => if op_fst p (op_ky p y) (B.take r) = true then [([op_ky p y, (op_rs kd p q (op_ky p y) B).getD 0], 1)] else []
    | none => [])
theorem op_gr_len (kd p q : Nat) (B : MaB) : ∀ r, (op_gr kd p q B r).length ≤ r
  | 0 => Nat.le_refl _
  | r + 1 => by
    have h := op_gr_len kd p q B r
    rw [op_gr, List.length_append]
    split
    · split
      · simp only [List.length_cons, List.length_nil]; omega
      · simp only [List.length_nil]; omega
    · simp only [List.length_nil]; omega
theorem ar_bag_take {f : Nat → Int32} {m : Nat → Int64} {w o n r : Nat} (h : r ≤ n) : (ar_bag f m w o n).take r = ar_bag f m w o r := by
  unfold ar_bag
  rw [← List.map_take, List.take_range, Nat.min_eq_left h]
theorem op_rs_snoc (kd p q : Nat) (k : Int32) (B : MaB) (y : List Int32 × Int64) : op_rs kd p q k (B ++ [y]) = if op_ky p y = k then some (op_sv kd (op_rs kd p q k B) (op_wo kd q y)) else op_rs kd p q k B := by
  unfold op_rs
  rw [List.foldl_append]
  rfl
theorem op_fst_snoc (p : Nat) (k : Int32) (B : MaB) (y : List Int32 × Int64) : op_fst p k (B ++ [y]) = true ↔ op_fst p k B = true ∧ op_ky p y ≠ k := by
  unfold op_fst
  rw [List.all_append, Bool.and_eq_true]
  simp
theorem op_ky_row {f : Nat → Int32} {m : Int64} {w a p : Nat} (h : p < w) : op_ky p (ar_row f w a, m) = f (a + p) := ar_row_getD h
theorem op_sv_n {a : Option Int32} {x : Int32} (h : ¬ a.isSome = true) : op_sv 2 a x = x := by
  cases a with
  | none => rfl
  | some s => exact absurd rfl h
theorem op_sv_g {a : Option Int32} {x : Int32} (h : a.getD 0 < x) : op_sv 2 a x = x := by
  cases a with
  | none => rfl
  | some s => exact if_pos h
theorem op_sv_l {a : Option Int32} {x : Int32} (h2 : a.isSome = true) (h : ¬ a.getD 0 < x) : op_sv 2 a x = a.getD 0 := by
  cases a with
  | none => cases h2
  | some s => exact if_neg h
theorem op_sv_s {kd : Nat} {a : Option Int32} {x : Int32} (h : kd ≠ 2) : op_sv kd a x = a.getD 0 + x := by
  cases a with
  | none => exact (Int32.zero_add x).symm
  | some s => exact if_neg h
set_option maxRecDepth 100000 in
set_option maxHeartbeats 4000000 in
theorem lp_Mo_result (g : Gl) {w : Wd} {b sz : Nat} {sc : Nat → Int32} {ia : Nat → Nat → Int32} {la : Nat → Nat → Int64} (hM : MAt w b sc ia la) {e v ne we kd p q : Nat} (he : e < 24) (hv : v < 12) (hce : ia 8 e = nI ne) (hne : ne ≤ 16) (hwe : we ≤ 4) (hkd : kd ≤ 2) (hk : ia 1 v = nI (5 + kd)) (hp : ia 4 v = nI p) (hpe : p < we) (hq : ia 5 v = nI q) (hqe : q < we) {k : Int32} : ∀ (zz : Nat) (r : Nat), ne - r = zz → r ≤ ne → VV g 1 0 0 mi_Mo_result w sz (rdE (some (.int ((op_rs kd p q k (ar_bag (ia 10) (la 9) we (16 * e) ne)).getD 0))) w sz) 9 [(6, .int (nI r)), (4, .int ((op_rs kd p q k (ar_bag (ia 10) (la 9) we (16 * e) r)).getD 0)), (5, .int (if (op_rs kd p q k (ar_bag (ia 10) (la 9) we (16 * e) r)).isSome = true then 1 else 0)), (0, .ref b), (1, .int (nI e)), (2, .int (nI v)), (3, .int k)] [] w sz 0 0 := by
  intro zz
  induction zz using Nat.strongRecOn with | _ zz ih => _
  intro r hnn hrn
  refine v_iload (pc := 9) d_Mo_result_9 rfl ?_
  refine v_aload_n (pc := 11) d_Mo_result_11 rfl rfl ?_
  refine v_get (pc := 12) d_Mo_result_12 fl_Mo_38 hM.o rfl ?_
  refine v_iload_n (pc := 15) d_Mo_result_15 rfl rfl ?_
  refine v_ialdN (pc := 16) (k := e) (f := ia 8) d_Mo_result_16 hM.a8 rfl (by omega) (by decide) ?_
  refine v_re hce ?_
  refine v_icmp_ge (pc := 17) (tgt := 139) d_Mo_result_17 rfl (fun hc => ?_) (fun hc => ?_)
  · skip
    rw [nI_leI (by omega) (by omega)] at hc
    obtain rfl : r = ne := by omega
    refine v_iload (pc := 139) d_Mo_result_139 rfl ?_
    exact v_iret (pc := 141) d_Mo_result_141 rfl (Nat.le_of_ble_eq_true rfl) (Nat.le_of_ble_eq_true rfl) ⟨rfl, rfl, rfl⟩
  · skip
    rw [nI_leI (by omega) (by omega)] at hc
    refine v_aload_n (pc := 20) d_Mo_result_20 rfl rfl ?_
    refine v_iload_n (pc := 21) d_Mo_result_21 rfl rfl ?_
    refine v_iload (pc := 22) d_Mo_result_22 rfl ?_
    refine v_aload_n (pc := 24) d_Mo_result_24 rfl rfl ?_
    refine v_get (pc := 25) d_Mo_result_25 fl_Mo_26 hM.o rfl ?_
    refine v_iload_n (pc := 28) d_Mo_result_28 rfl rfl ?_
    refine v_ialdN (pc := 29) (k := v) (f := ia 4) d_Mo_result_29 hM.a4 rfl (by omega) (by decide) ?_
    refine v_re hp ?_
    refine v_cvR (pc := 30) (A := [.int (nI e), .int (nI r), .int (nI p)]) (rest := []) (x := .int (ia 10 (4 * (16 * e + r) + p))) d_Mo_result_30 lk_Mo_83 me_Mo_cellOf im_Mo_cellOf se_Mo_cellOf rfl hM.o rfl rfl (c_Mo_cellOf g hM (k := e) (r := r) (c := p) (by omega)) (Nat.le_of_ble_eq_true rfl) (Nat.le_of_ble_eq_true rfl) (Nat.le_of_ble_eq_true rfl) (Nat.le_of_ble_eq_true rfl) ?_
    refine v_iload_n (pc := 33) d_Mo_result_33 rfl rfl ?_
    refine v_icmp_ne (pc := 34) (tgt := 133) d_Mo_result_34 rfl (fun hc => ?_) (fun hc => ?_)
    · skip
      have hst : (op_rs kd p q k (ar_bag (ia 10) (la 9) we (16 * e) (r + 1))) = (op_rs kd p q k (ar_bag (ia 10) (la 9) we (16 * e) r)) := by rw [ar_bag_snoc, op_rs_snoc, if_neg (by rw [op_ky_row hpe]; exact hc)]
      refine v_iinc (pc := 133) (L' := [(6, .int (nI (r + 1))), (4, .int ((op_rs kd p q k (ar_bag (ia 10) (la 9) we (16 * e) r)).getD 0)), (5, .int (if (op_rs kd p q k (ar_bag (ia 10) (la 9) we (16 * e) r)).isSome = true then 1 else 0)), (0, .ref b), (1, .int (nI e)), (2, .int (nI v)), (3, .int k)]) d_Mo_result_133 rfl (ix_inc _) (by decide) rfl ?_
      refine v_goto (pc := 136) (tgt := 9) d_Mo_result_136 rfl ?_
      rw [← hst]
      refine v_sub (L' := [(6, .int (nI (r + 1))), (4, .int ((op_rs kd p q k (ar_bag (ia 10) (la 9) we (16 * e) (r + 1))).getD 0)), (5, .int (if (op_rs kd p q k (ar_bag (ia 10) (la 9) we (16 * e) (r + 1))).isSome = true then 1 else 0)), (0, .ref b), (1, .int (nI e)), (2, .int (nI v)), (3, .int k)]) (by simp) ?_
      exact ih (ne - (r + 1)) (by omega) (r + 1) rfl (by omega)
    · skip
      have hst : (op_rs kd p q k (ar_bag (ia 10) (la 9) we (16 * e) (r + 1))) = some (op_sv kd (op_rs kd p q k (ar_bag (ia 10) (la 9) we (16 * e) r)) (op_wo kd q (ar_row (ia 10) we (4 * (16 * e + r)), la 9 (16 * e + r)))) := by rw [ar_bag_snoc, op_rs_snoc, if_pos (by rw [op_ky_row hpe]; exact hc)]
      refine v_aload_n (pc := 37) d_Mo_result_37 rfl rfl ?_
      refine v_iload_n (pc := 38) d_Mo_result_38 rfl rfl ?_
      refine v_iload (pc := 39) d_Mo_result_39 rfl ?_
      refine v_aload_n (pc := 41) d_Mo_result_41 rfl rfl ?_
      refine v_get (pc := 42) d_Mo_result_42 fl_Mo_29 hM.o rfl ?_
      refine v_iload_n (pc := 45) d_Mo_result_45 rfl rfl ?_
      refine v_ialdN (pc := 46) (k := v) (f := ia 5) d_Mo_result_46 hM.a5 rfl (by omega) (by decide) ?_
      refine v_re hq ?_
      refine v_cvR (pc := 47) (A := [.int (nI e), .int (nI r), .int (nI q)]) (rest := []) (x := .int (ia 10 (4 * (16 * e + r) + q))) d_Mo_result_47 lk_Mo_83 me_Mo_cellOf im_Mo_cellOf se_Mo_cellOf rfl hM.o rfl rfl (c_Mo_cellOf g hM (k := e) (r := r) (c := q) (by omega)) (Nat.le_of_ble_eq_true rfl) (Nat.le_of_ble_eq_true rfl) (Nat.le_of_ble_eq_true rfl) (Nat.le_of_ble_eq_true rfl) ?_
      refine v_istore (pc := 50) (L' := [(7, .int (ia 10 (4 * (16 * e + r) + q))), (6, .int (nI r)), (4, .int ((op_rs kd p q k (ar_bag (ia 10) (la 9) we (16 * e) r)).getD 0)), (5, .int (if (op_rs kd p q k (ar_bag (ia 10) (la 9) we (16 * e) r)).isSome = true then 1 else 0)), (0, .ref b), (1, .int (nI e)), (2, .int (nI v)), (3, .int k)]) d_Mo_result_50 (by decide) rfl ?_
      refine v_aload_n (pc := 52) d_Mo_result_52 rfl rfl ?_
      refine v_get (pc := 53) d_Mo_result_53 fl_Mo_41 hM.o rfl ?_
      refine v_bipush (pc := 56) (v := nI 16) d_Mo_result_56 rfl ?_
      refine v_iload_n (pc := 58) d_Mo_result_58 rfl rfl ?_
      refine v_imul (pc := 59) d_Mo_result_59 ?_
      refine v_re (pk_mul 16 e) ?_
      refine v_iload (pc := 60) d_Mo_result_60 rfl ?_
      refine v_iadd (pc := 62) d_Mo_result_62 ?_
      refine v_re (nI_add (16 * e) r) ?_
      refine v_laldN (pc := 63) (k := (16 * e) + r) (f := la 9) d_Mo_result_63 hM.a9 rfl (by omega) (by decide) ?_
      refine v_l2i (pc := 64) d_Mo_result_64 ?_
      refine v_istore (pc := 65) (L' := [(8, .int ((la 9 ((16 * e) + r)).toInt32)), (7, .int (ia 10 (4 * (16 * e + r) + q))), (6, .int (nI r)), (4, .int ((op_rs kd p q k (ar_bag (ia 10) (la 9) we (16 * e) r)).getD 0)), (5, .int (if (op_rs kd p q k (ar_bag (ia 10) (la 9) we (16 * e) r)).isSome = true then 1 else 0)), (0, .ref b), (1, .int (nI e)), (2, .int (nI v)), (3, .int k)]) d_Mo_result_65 (by decide) rfl ?_
      refine v_aload_n (pc := 67) d_Mo_result_67 rfl rfl ?_
      refine v_get (pc := 68) d_Mo_result_68 fl_Mo_17 hM.o rfl ?_
      refine v_iload_n (pc := 71) d_Mo_result_71 rfl rfl ?_
      refine v_ialdN (pc := 72) (k := v) (f := ia 1) d_Mo_result_72 hM.a1 rfl (by omega) (by decide) ?_
      refine v_re hk ?_
      refine v_bipush (pc := 73) (v := nI 7) d_Mo_result_73 rfl ?_
      refine v_icmp_ne (pc := 75) (tgt := 102) d_Mo_result_75 rfl (fun hc => ?_) (fun hc => ?_)
      · skip
        rw [nI_eq (by omega) (by omega)] at hc
        refine v_aload_n (pc := 102) d_Mo_result_102 rfl rfl ?_
        refine v_get (pc := 103) d_Mo_result_103 fl_Mo_17 hM.o rfl ?_
        refine v_iload_n (pc := 106) d_Mo_result_106 rfl rfl ?_
        refine v_ialdN (pc := 107) (k := v) (f := ia 1) d_Mo_result_107 hM.a1 rfl (by omega) (by decide) ?_
        refine v_re hk ?_
        refine v_iconst (pc := 108) (v := nI 5) d_Mo_result_108 rfl ?_
        refine v_icmp_ne (pc := 109) (tgt := 123) d_Mo_result_109 rfl (fun hc => ?_) (fun hc => ?_)
        · skip
          rw [nI_eq (by omega) (by omega)] at hc
          obtain rfl : kd = 1 := by omega
          have hval : op_wo 1 q (ar_row (ia 10) we (4 * (16 * e + r)), la 9 (16 * e + r)) = (la 9 (16 * e + r)).toInt32 := rfl
          refine v_iload (pc := 123) d_Mo_result_123 rfl ?_
          refine v_iload (pc := 125) d_Mo_result_125 rfl ?_
          refine v_iadd (pc := 127) d_Mo_result_127 ?_
          refine v_re (y := ((op_rs 1 p q k (ar_bag (ia 10) (la 9) we (16 * e) (r + 1))).getD 0)) (by rw [hst, op_sv_s (by omega), hval]; rfl) ?_
          refine v_istore (pc := 128) (L' := [(4, .int ((op_rs 1 p q k (ar_bag (ia 10) (la 9) we (16 * e) (r + 1))).getD 0)), (8, .int ((la 9 ((16 * e) + r)).toInt32)), (7, .int (ia 10 (4 * (16 * e + r) + q))), (6, .int (nI r)), (5, .int (if (op_rs 1 p q k (ar_bag (ia 10) (la 9) we (16 * e) r)).isSome = true then 1 else 0)), (0, .ref b), (1, .int (nI e)), (2, .int (nI v)), (3, .int k)]) d_Mo_result_128 (by decide) rfl ?_
          refine v_iconst (pc := 130) (v := nI 1) d_Mo_result_130 rfl ?_
          refine v_re (y := (if (op_rs 1 p q k (ar_bag (ia 10) (la 9) we (16 * e) (r + 1))).isSome = true then 1 else 0)) (zb1 (by rw [hst]; rfl)) ?_
          refine v_istore (pc := 131) (L' := [(5, .int (if (op_rs 1 p q k (ar_bag (ia 10) (la 9) we (16 * e) (r + 1))).isSome = true then 1 else 0)), (4, .int ((op_rs 1 p q k (ar_bag (ia 10) (la 9) we (16 * e) (r + 1))).getD 0)), (8, .int ((la 9 ((16 * e) + r)).toInt32)), (7, .int (ia 10 (4 * (16 * e + r) + q))), (6, .int (nI r)), (0, .ref b), (1, .int (nI e)), (2, .int (nI v)), (3, .int k)]) d_Mo_result_131 (by decide) rfl ?_
          refine v_iinc (pc := 133) (L' := [(6, .int (nI (r + 1))), (5, .int (if (op_rs 1 p q k (ar_bag (ia 10) (la 9) we (16 * e) (r + 1))).isSome = true then 1 else 0)), (4, .int ((op_rs 1 p q k (ar_bag (ia 10) (la 9) we (16 * e) (r + 1))).getD 0)), (8, .int ((la 9 ((16 * e) + r)).toInt32)), (7, .int (ia 10 (4 * (16 * e + r) + q))), (0, .ref b), (1, .int (nI e)), (2, .int (nI v)), (3, .int k)]) d_Mo_result_133 rfl (ix_inc _) (by decide) rfl ?_
          refine v_goto (pc := 136) (tgt := 9) d_Mo_result_136 rfl ?_
          refine v_sub (L' := [(6, .int (nI (r + 1))), (4, .int ((op_rs 1 p q k (ar_bag (ia 10) (la 9) we (16 * e) (r + 1))).getD 0)), (5, .int (if (op_rs 1 p q k (ar_bag (ia 10) (la 9) we (16 * e) (r + 1))).isSome = true then 1 else 0)), (0, .ref b), (1, .int (nI e)), (2, .int (nI v)), (3, .int k)]) (by simp) ?_
          exact ih (ne - (r + 1)) (by omega) (r + 1) rfl (by omega)
        · skip
          rw [nI_eq (by omega) (by omega)] at hc
          obtain rfl : kd = 0 := by omega
          have hval : op_wo 0 q (ar_row (ia 10) we (4 * (16 * e + r)), la 9 (16 * e + r)) = ia 10 (4 * (16 * e + r) + q) * (la 9 (16 * e + r)).toInt32 := by show (ar_row (ia 10) we (4 * (16 * e + r))).getD q 0 * _ = _; rw [ar_row_getD hqe]
          refine v_iload (pc := 112) d_Mo_result_112 rfl ?_
          refine v_iload (pc := 114) d_Mo_result_114 rfl ?_
          refine v_iload (pc := 116) d_Mo_result_116 rfl ?_
          refine v_imul (pc := 118) d_Mo_result_118 ?_
          refine v_iadd (pc := 119) d_Mo_result_119 ?_
          refine v_goto (pc := 120) (tgt := 128) d_Mo_result_120 rfl ?_
          refine v_re (y := ((op_rs 0 p q k (ar_bag (ia 10) (la 9) we (16 * e) (r + 1))).getD 0)) (by rw [hst, op_sv_s (by omega), hval]; rfl) ?_
          refine v_istore (pc := 128) (L' := [(4, .int ((op_rs 0 p q k (ar_bag (ia 10) (la 9) we (16 * e) (r + 1))).getD 0)), (8, .int ((la 9 ((16 * e) + r)).toInt32)), (7, .int (ia 10 (4 * (16 * e + r) + q))), (6, .int (nI r)), (5, .int (if (op_rs 0 p q k (ar_bag (ia 10) (la 9) we (16 * e) r)).isSome = true then 1 else 0)), (0, .ref b), (1, .int (nI e)), (2, .int (nI v)), (3, .int k)]) d_Mo_result_128 (by decide) rfl ?_
          refine v_iconst (pc := 130) (v := nI 1) d_Mo_result_130 rfl ?_
          refine v_re (y := (if (op_rs 0 p q k (ar_bag (ia 10) (la 9) we (16 * e) (r + 1))).isSome = true then 1 else 0)) (zb1 (by rw [hst]; rfl)) ?_
          refine v_istore (pc := 131) (L' := [(5, .int (if (op_rs 0 p q k (ar_bag (ia 10) (la 9) we (16 * e) (r + 1))).isSome = true then 1 else 0)), (4, .int ((op_rs 0 p q k (ar_bag (ia 10) (la 9) we (16 * e) (r + 1))).getD 0)), (8, .int ((la 9 ((16 * e) + r)).toInt32)), (7, .int (ia 10 (4 * (16 * e + r) + q))), (6, .int (nI r)), (0, .ref b), (1, .int (nI e)), (2, .int (nI v)), (3, .int k)]) d_Mo_result_131 (by decide) rfl ?_
          refine v_iinc (pc := 133) (L' := [(6, .int (nI (r + 1))), (5, .int (if (op_rs 0 p q k (ar_bag (ia 10) (la 9) we (16 * e) (r + 1))).isSome = true then 1 else 0)), (4, .int ((op_rs 0 p q k (ar_bag (ia 10) (la 9) we (16 * e) (r + 1))).getD 0)), (8, .int ((la 9 ((16 * e) + r)).toInt32)), (7, .int (ia 10 (4 * (16 * e + r) + q))), (0, .ref b), (1, .int (nI e)), (2, .int (nI v)), (3, .int k)]) d_Mo_result_133 rfl (ix_inc _) (by decide) rfl ?_
          refine v_goto (pc := 136) (tgt := 9) d_Mo_result_136 rfl ?_
          refine v_sub (L' := [(6, .int (nI (r + 1))), (4, .int ((op_rs 0 p q k (ar_bag (ia 10) (la 9) we (16 * e) (r + 1))).getD 0)), (5, .int (if (op_rs 0 p q k (ar_bag (ia 10) (la 9) we (16 * e) (r + 1))).isSome = true then 1 else 0)), (0, .ref b), (1, .int (nI e)), (2, .int (nI v)), (3, .int k)]) (by simp) ?_
          exact ih (ne - (r + 1)) (by omega) (r + 1) rfl (by omega)
      · skip
        rw [nI_eq (by omega) (by omega)] at hc
        obtain rfl : kd = 2 := by omega
        have hwo : op_wo 2 q (ar_row (ia 10) we (4 * (16 * e + r)), la 9 (16 * e + r)) = ia 10 (4 * (16 * e + r) + q) := (ar_row_getD hqe : (ar_row (ia 10) we (4 * (16 * e + r))).getD q 0 = _)
        refine v_iload (pc := 78) d_Mo_result_78 rfl ?_
        refine v_if_eq (pc := 80) (tgt := 90) d_Mo_result_80 rfl (fun hc => ?_) (fun hc => ?_)
        · skip
          rw [zf] at hc
          have hval : op_sv 2 (op_rs 2 p q k (ar_bag (ia 10) (la 9) we (16 * e) r)) (op_wo 2 q (ar_row (ia 10) we (4 * (16 * e + r)), la 9 (16 * e + r))) = ia 10 (4 * (16 * e + r) + q) := by rw [hwo]; exact op_sv_n hc
          refine v_iload (pc := 90) d_Mo_result_90 rfl ?_
          refine v_goto (pc := 92) (tgt := 97) d_Mo_result_92 rfl ?_
          refine v_re (y := ((op_rs 2 p q k (ar_bag (ia 10) (la 9) we (16 * e) (r + 1))).getD 0)) (by rw [hst]; exact hval.symm) ?_
          refine v_istore (pc := 97) (L' := [(4, .int ((op_rs 2 p q k (ar_bag (ia 10) (la 9) we (16 * e) (r + 1))).getD 0)), (8, .int ((la 9 ((16 * e) + r)).toInt32)), (7, .int (ia 10 (4 * (16 * e + r) + q))), (6, .int (nI r)), (5, .int (if (op_rs 2 p q k (ar_bag (ia 10) (la 9) we (16 * e) r)).isSome = true then 1 else 0)), (0, .ref b), (1, .int (nI e)), (2, .int (nI v)), (3, .int k)]) d_Mo_result_97 (by decide) rfl ?_
          refine v_goto (pc := 99) (tgt := 130) d_Mo_result_99 rfl ?_
          refine v_iconst (pc := 130) (v := nI 1) d_Mo_result_130 rfl ?_
          refine v_re (y := (if (op_rs 2 p q k (ar_bag (ia 10) (la 9) we (16 * e) (r + 1))).isSome = true then 1 else 0)) (zb1 (by rw [hst]; rfl)) ?_
          refine v_istore (pc := 131) (L' := [(5, .int (if (op_rs 2 p q k (ar_bag (ia 10) (la 9) we (16 * e) (r + 1))).isSome = true then 1 else 0)), (4, .int ((op_rs 2 p q k (ar_bag (ia 10) (la 9) we (16 * e) (r + 1))).getD 0)), (8, .int ((la 9 ((16 * e) + r)).toInt32)), (7, .int (ia 10 (4 * (16 * e + r) + q))), (6, .int (nI r)), (0, .ref b), (1, .int (nI e)), (2, .int (nI v)), (3, .int k)]) d_Mo_result_131 (by decide) rfl ?_
          refine v_iinc (pc := 133) (L' := [(6, .int (nI (r + 1))), (5, .int (if (op_rs 2 p q k (ar_bag (ia 10) (la 9) we (16 * e) (r + 1))).isSome = true then 1 else 0)), (4, .int ((op_rs 2 p q k (ar_bag (ia 10) (la 9) we (16 * e) (r + 1))).getD 0)), (8, .int ((la 9 ((16 * e) + r)).toInt32)), (7, .int (ia 10 (4 * (16 * e + r) + q))), (0, .ref b), (1, .int (nI e)), (2, .int (nI v)), (3, .int k)]) d_Mo_result_133 rfl (ix_inc _) (by decide) rfl ?_
          refine v_goto (pc := 136) (tgt := 9) d_Mo_result_136 rfl ?_
          refine v_sub (L' := [(6, .int (nI (r + 1))), (4, .int ((op_rs 2 p q k (ar_bag (ia 10) (la 9) we (16 * e) (r + 1))).getD 0)), (5, .int (if (op_rs 2 p q k (ar_bag (ia 10) (la 9) we (16 * e) (r + 1))).isSome = true then 1 else 0)), (0, .ref b), (1, .int (nI e)), (2, .int (nI v)), (3, .int k)]) (by simp) ?_
          exact ih (ne - (r + 1)) (by omega) (r + 1) rfl (by omega)
        · skip
          rw [zt] at hc
          have hany := hc
          refine v_iload (pc := 83) d_Mo_result_83 rfl ?_
          refine v_iload (pc := 85) d_Mo_result_85 rfl ?_
          refine v_icmp_le (pc := 87) (tgt := 95) d_Mo_result_87 rfl (fun hc => ?_) (fun hc => ?_)
          · skip
            have hval : op_sv 2 (op_rs 2 p q k (ar_bag (ia 10) (la 9) we (16 * e) r)) (op_wo 2 q (ar_row (ia 10) we (4 * (16 * e + r)), la 9 (16 * e + r))) = (op_rs 2 p q k (ar_bag (ia 10) (la 9) we (16 * e) r)).getD 0 := by rw [hwo]; exact op_sv_l hany (Int32.not_lt.mpr hc)
            refine v_iload (pc := 95) d_Mo_result_95 rfl ?_
            refine v_re (y := ((op_rs 2 p q k (ar_bag (ia 10) (la 9) we (16 * e) (r + 1))).getD 0)) (by rw [hst]; exact hval.symm) ?_
            refine v_istore (pc := 97) (L' := [(4, .int ((op_rs 2 p q k (ar_bag (ia 10) (la 9) we (16 * e) (r + 1))).getD 0)), (8, .int ((la 9 ((16 * e) + r)).toInt32)), (7, .int (ia 10 (4 * (16 * e + r) + q))), (6, .int (nI r)), (5, .int (if (op_rs 2 p q k (ar_bag (ia 10) (la 9) we (16 * e) r)).isSome = true then 1 else 0)), (0, .ref b), (1, .int (nI e)), (2, .int (nI v)), (3, .int k)]) d_Mo_result_97 (by decide) rfl ?_
            refine v_goto (pc := 99) (tgt := 130) d_Mo_result_99 rfl ?_
            refine v_iconst (pc := 130) (v := nI 1) d_Mo_result_130 rfl ?_
            refine v_re (y := (if (op_rs 2 p q k (ar_bag (ia 10) (la 9) we (16 * e) (r + 1))).isSome = true then 1 else 0)) (zb1 (by rw [hst]; rfl)) ?_
            refine v_istore (pc := 131) (L' := [(5, .int (if (op_rs 2 p q k (ar_bag (ia 10) (la 9) we (16 * e) (r + 1))).isSome = true then 1 else 0)), (4, .int ((op_rs 2 p q k (ar_bag (ia 10) (la 9) we (16 * e) (r + 1))).getD 0)), (8, .int ((la 9 ((16 * e) + r)).toInt32)), (7, .int (ia 10 (4 * (16 * e + r) + q))), (6, .int (nI r)), (0, .ref b), (1, .int (nI e)), (2, .int (nI v)), (3, .int k)]) d_Mo_result_131 (by decide) rfl ?_
            refine v_iinc (pc := 133) (L' := [(6, .int (nI (r + 1))), (5, .int (if (op_rs 2 p q k (ar_bag (ia 10) (la 9) we (16 * e) (r + 1))).isSome = true then 1 else 0)), (4, .int ((op_rs 2 p q k (ar_bag (ia 10) (la 9) we (16 * e) (r + 1))).getD 0)), (8, .int ((la 9 ((16 * e) + r)).toInt32)), (7, .int (ia 10 (4 * (16 * e + r) + q))), (0, .ref b), (1, .int (nI e)), (2, .int (nI v)), (3, .int k)]) d_Mo_result_133 rfl (ix_inc _) (by decide) rfl ?_
            refine v_goto (pc := 136) (tgt := 9) d_Mo_result_136 rfl ?_
            refine v_sub (L' := [(6, .int (nI (r + 1))), (4, .int ((op_rs 2 p q k (ar_bag (ia 10) (la 9) we (16 * e) (r + 1))).getD 0)), (5, .int (if (op_rs 2 p q k (ar_bag (ia 10) (la 9) we (16 * e) (r + 1))).isSome = true then 1 else 0)), (0, .ref b), (1, .int (nI e)), (2, .int (nI v)), (3, .int k)]) (by simp) ?_
            exact ih (ne - (r + 1)) (by omega) (r + 1) rfl (by omega)
          · skip
            have hval : op_sv 2 (op_rs 2 p q k (ar_bag (ia 10) (la 9) we (16 * e) r)) (op_wo 2 q (ar_row (ia 10) we (4 * (16 * e + r)), la 9 (16 * e + r))) = ia 10 (4 * (16 * e + r) + q) := by rw [hwo]; exact op_sv_g (Int32.not_le.mp hc)
            refine v_iload (pc := 90) d_Mo_result_90 rfl ?_
            refine v_goto (pc := 92) (tgt := 97) d_Mo_result_92 rfl ?_
            refine v_re (y := ((op_rs 2 p q k (ar_bag (ia 10) (la 9) we (16 * e) (r + 1))).getD 0)) (by rw [hst]; exact hval.symm) ?_
            refine v_istore (pc := 97) (L' := [(4, .int ((op_rs 2 p q k (ar_bag (ia 10) (la 9) we (16 * e) (r + 1))).getD 0)), (8, .int ((la 9 ((16 * e) + r)).toInt32)), (7, .int (ia 10 (4 * (16 * e + r) + q))), (6, .int (nI r)), (5, .int (if (op_rs 2 p q k (ar_bag (ia 10) (la 9) we (16 * e) r)).isSome = true then 1 else 0)), (0, .ref b), (1, .int (nI e)), (2, .int (nI v)), (3, .int k)]) d_Mo_result_97 (by decide) rfl ?_
            refine v_goto (pc := 99) (tgt := 130) d_Mo_result_99 rfl ?_
            refine v_iconst (pc := 130) (v := nI 1) d_Mo_result_130 rfl ?_
            refine v_re (y := (if (op_rs 2 p q k (ar_bag (ia 10) (la 9) we (16 * e) (r + 1))).isSome = true then 1 else 0)) (zb1 (by rw [hst]; rfl)) ?_
            refine v_istore (pc := 131) (L' := [(5, .int (if (op_rs 2 p q k (ar_bag (ia 10) (la 9) we (16 * e) (r + 1))).isSome = true then 1 else 0)), (4, .int ((op_rs 2 p q k (ar_bag (ia 10) (la 9) we (16 * e) (r + 1))).getD 0)), (8, .int ((la 9 ((16 * e) + r)).toInt32)), (7, .int (ia 10 (4 * (16 * e + r) + q))), (6, .int (nI r)), (0, .ref b), (1, .int (nI e)), (2, .int (nI v)), (3, .int k)]) d_Mo_result_131 (by decide) rfl ?_
            refine v_iinc (pc := 133) (L' := [(6, .int (nI (r + 1))), (5, .int (if (op_rs 2 p q k (ar_bag (ia 10) (la 9) we (16 * e) (r + 1))).isSome = true then 1 else 0)), (4, .int ((op_rs 2 p q k (ar_bag (ia 10) (la 9) we (16 * e) (r + 1))).getD 0)), (8, .int ((la 9 ((16 * e) + r)).toInt32)), (7, .int (ia 10 (4 * (16 * e + r) + q))), (0, .ref b), (1, .int (nI e)), (2, .int (nI v)), (3, .int k)]) d_Mo_result_133 rfl (ix_inc _) (by decide) rfl ?_
            refine v_goto (pc := 136) (tgt := 9) d_Mo_result_136 rfl ?_
            refine v_sub (L' := [(6, .int (nI (r + 1))), (4, .int ((op_rs 2 p q k (ar_bag (ia 10) (la 9) we (16 * e) (r + 1))).getD 0)), (5, .int (if (op_rs 2 p q k (ar_bag (ia 10) (la 9) we (16 * e) (r + 1))).isSome = true then 1 else 0)), (0, .ref b), (1, .int (nI e)), (2, .int (nI v)), (3, .int k)]) (by simp) ?_
            exact ih (ne - (r + 1)) (by omega) (r + 1) rfl (by omega)
set_option maxRecDepth 100000 in
set_option maxHeartbeats 4000000 in
theorem c_Mo_result (g : Gl) {w : Wd} {b sz : Nat} {sc : Nat → Int32} {ia : Nat → Nat → Int32} {la : Nat → Nat → Int64} (hM : MAt w b sc ia la) {e v ne we kd p q : Nat} (he : e < 24) (hv : v < 12) (hce : ia 8 e = nI ne) (hne : ne ≤ 16) (hwe : we ≤ 4) (hkd : kd ≤ 2) (hk : ia 1 v = nI (5 + kd)) (hp : ia 4 v = nI p) (hpe : p < we) (hq : ia 5 v = nI q) (hqe : q < we) {k : Int32} : CT g 1 0 0 mi_Mo_result [.ref b, .int (nI e), .int (nI v), .int k] w sz (rdE (some (.int ((op_rs kd p q k (ar_bag (ia 10) (la 9) we (16 * e) ne)).getD 0))) w sz) := by
  refine CT.of (by decide) (Nat.le_of_ble_eq_true rfl) ?_
  refine v_iconst (pc := 0) (v := nI 0) d_Mo_result_0 rfl ?_
  refine v_re (y := ((op_rs kd p q k (ar_bag (ia 10) (la 9) we (16 * e) 0)).getD 0)) rfl ?_
  refine v_istore (pc := 1) (L' := [(4, .int ((op_rs kd p q k (ar_bag (ia 10) (la 9) we (16 * e) 0)).getD 0)), (0, .ref b), (1, .int (nI e)), (2, .int (nI v)), (3, .int k)]) d_Mo_result_1 (by decide) rfl ?_
  refine v_iconst (pc := 3) (v := nI 0) d_Mo_result_3 rfl ?_
  refine v_re (y := (if (op_rs kd p q k (ar_bag (ia 10) (la 9) we (16 * e) 0)).isSome = true then 1 else 0)) rfl ?_
  refine v_istore (pc := 4) (L' := [(5, .int (if (op_rs kd p q k (ar_bag (ia 10) (la 9) we (16 * e) 0)).isSome = true then 1 else 0)), (4, .int ((op_rs kd p q k (ar_bag (ia 10) (la 9) we (16 * e) 0)).getD 0)), (0, .ref b), (1, .int (nI e)), (2, .int (nI v)), (3, .int k)]) d_Mo_result_4 (by decide) rfl ?_
  refine v_iconst (pc := 6) (v := nI 0) d_Mo_result_6 rfl ?_
  refine v_istore (pc := 7) (L' := [(6, .int (nI 0)), (5, .int (if (op_rs kd p q k (ar_bag (ia 10) (la 9) we (16 * e) 0)).isSome = true then 1 else 0)), (4, .int ((op_rs kd p q k (ar_bag (ia 10) (la 9) we (16 * e) 0)).getD 0)), (0, .ref b), (1, .int (nI e)), (2, .int (nI v)), (3, .int k)]) d_Mo_result_7 (by decide) rfl ?_
  refine v_sub (L' := [(6, .int (nI 0)), (4, .int ((op_rs kd p q k (ar_bag (ia 10) (la 9) we (16 * e) 0)).getD 0)), (5, .int (if (op_rs kd p q k (ar_bag (ia 10) (la 9) we (16 * e) 0)).isSome = true then 1 else 0)), (0, .ref b), (1, .int (nI e)), (2, .int (nI v)), (3, .int k)]) (by simp) ?_
  exact lp_Mo_result g hM he hv hce hne hwe hkd hk hp hpe hq hqe ne 0 rfl (by omega)
set_option maxRecDepth 100000 in
set_option maxHeartbeats 4000000 in
theorem lp1_Mo_groups (g : Gl) {w0 w : Wd} {b sz : Nat} {sc : Nat → Int32} {ia : Nat → Nat → Int32} {la : Nat → Nat → Int64} (hM : MAt w b sc ia la) {e v ne we kd p q : Nat} (he : e < 24) (hv : v < 12) (hce : ia 8 e = nI ne) (hne : ne ≤ 16) (hwe : we ≤ 4) (hkd : kd ≤ 2) (hk : ia 1 v = nI (5 + kd)) (hp : ia 4 v = nI p) (hpe : p < we) (hq : ia 5 v = nI q) (hqe : q < we) {r : Nat} (hr : r < ne) {k : Int32} {E : Rs → Wd → Nat → Prop} (K : VV g 2 0 0 mi_Mo_groups w0 sz E 74 [(6, .int (nI r)), (5, .int (if op_fst p k (ar_bag (ia 10) (la 9) we (16 * e) r) = true then 1 else 0)), (4, .int k), (3, .int (nI r)), (0, .ref b), (1, .int (nI e)), (2, .int (nI v))] [] w sz 0 0) : ∀ (zz : Nat) (s : Nat), r - s = zz → s ≤ r → VV g 2 0 0 mi_Mo_groups w0 sz E 32 [(6, .int (nI s)), (5, .int (if op_fst p k (ar_bag (ia 10) (la 9) we (16 * e) s) = true then 1 else 0)), (4, .int k), (3, .int (nI r)), (0, .ref b), (1, .int (nI e)), (2, .int (nI v))] [] w sz 0 0 := by
  intro zz
  induction zz using Nat.strongRecOn with | _ zz ih => _
  intro s hnn hsr
  refine v_iload (pc := 32) d_Mo_groups_32 rfl ?_
  refine v_iload_n (pc := 34) d_Mo_groups_34 rfl rfl ?_
  refine v_icmp_ge (pc := 35) (tgt := 74) d_Mo_groups_35 rfl (fun hc => ?_) (fun hc => ?_)
  · skip
    rw [nI_leI (by omega) (by omega)] at hc
    obtain rfl : s = r := by omega
    exact K
  · skip
    rw [nI_leI (by omega) (by omega)] at hc
    refine v_iload (pc := 38) d_Mo_groups_38 rfl ?_
    refine v_if_eq (pc := 40) (tgt := 65) d_Mo_groups_40 rfl (fun hc => ?_) (fun hc => ?_)
    · skip
      rw [zf] at hc
      have hv0 : ¬ op_fst p k (ar_bag (ia 10) (la 9) we (16 * e) (s + 1)) = true := by rw [ar_bag_snoc, op_fst_snoc, op_ky_row hpe]; exact fun h => hc h.1
      refine v_iconst (pc := 65) (v := nI 0) d_Mo_groups_65 rfl ?_
      refine v_re (y := (if op_fst p k (ar_bag (ia 10) (la 9) we (16 * e) (s + 1)) = true then 1 else 0)) (zb0 hv0) ?_
      refine v_istore (pc := 66) (L' := [(5, .int (if op_fst p k (ar_bag (ia 10) (la 9) we (16 * e) (s + 1)) = true then 1 else 0)), (6, .int (nI s)), (4, .int k), (3, .int (nI r)), (0, .ref b), (1, .int (nI e)), (2, .int (nI v))]) d_Mo_groups_66 (by decide) rfl ?_
      refine v_iinc (pc := 68) (L' := [(6, .int (nI (s + 1))), (5, .int (if op_fst p k (ar_bag (ia 10) (la 9) we (16 * e) (s + 1)) = true then 1 else 0)), (4, .int k), (3, .int (nI r)), (0, .ref b), (1, .int (nI e)), (2, .int (nI v))]) d_Mo_groups_68 rfl (ix_inc _) (by decide) rfl ?_
      refine v_goto (pc := 71) (tgt := 32) d_Mo_groups_71 rfl ?_
      refine v_sub (L' := [(6, .int (nI (s + 1))), (5, .int (if op_fst p k (ar_bag (ia 10) (la 9) we (16 * e) (s + 1)) = true then 1 else 0)), (4, .int k), (3, .int (nI r)), (0, .ref b), (1, .int (nI e)), (2, .int (nI v))]) (by simp) ?_
      exact ih (r - (s + 1)) (by omega) (s + 1) rfl (by omega)
    · skip
      rw [zt] at hc
      have hb := hc
      refine v_aload_n (pc := 43) d_Mo_groups_43 rfl rfl ?_
      refine v_iload_n (pc := 44) d_Mo_groups_44 rfl rfl ?_
      refine v_iload (pc := 45) d_Mo_groups_45 rfl ?_
      refine v_aload_n (pc := 47) d_Mo_groups_47 rfl rfl ?_
      refine v_get (pc := 48) d_Mo_groups_48 fl_Mo_26 hM.o rfl ?_
      refine v_iload_n (pc := 51) d_Mo_groups_51 rfl rfl ?_
      refine v_ialdN (pc := 52) (k := v) (f := ia 4) d_Mo_groups_52 hM.a4 rfl (by omega) (by decide) ?_
      refine v_re hp ?_
      refine v_cvR (pc := 53) (A := [.int (nI e), .int (nI s), .int (nI p)]) (rest := []) (x := .int (ia 10 (4 * (16 * e + s) + p))) d_Mo_groups_53 lk_Mo_83 me_Mo_cellOf im_Mo_cellOf se_Mo_cellOf rfl hM.o rfl rfl (c_Mo_cellOf g hM (k := e) (r := s) (c := p) (by omega)) (Nat.le_of_ble_eq_true rfl) (Nat.le_of_ble_eq_true rfl) (Nat.le_of_ble_eq_true rfl) (Nat.le_of_ble_eq_true rfl) ?_
      refine v_iload (pc := 56) d_Mo_groups_56 rfl ?_
      refine v_icmp_eq (pc := 58) (tgt := 65) d_Mo_groups_58 rfl (fun hc => ?_) (fun hc => ?_)
      · skip
        have hv0 : ¬ op_fst p k (ar_bag (ia 10) (la 9) we (16 * e) (s + 1)) = true := by rw [ar_bag_snoc, op_fst_snoc, op_ky_row hpe]; exact fun h => h.2 hc
        refine v_iconst (pc := 65) (v := nI 0) d_Mo_groups_65 rfl ?_
        refine v_re (y := (if op_fst p k (ar_bag (ia 10) (la 9) we (16 * e) (s + 1)) = true then 1 else 0)) (zb0 hv0) ?_
        refine v_istore (pc := 66) (L' := [(5, .int (if op_fst p k (ar_bag (ia 10) (la 9) we (16 * e) (s + 1)) = true then 1 else 0)), (6, .int (nI s)), (4, .int k), (3, .int (nI r)), (0, .ref b), (1, .int (nI e)), (2, .int (nI v))]) d_Mo_groups_66 (by decide) rfl ?_
        refine v_iinc (pc := 68) (L' := [(6, .int (nI (s + 1))), (5, .int (if op_fst p k (ar_bag (ia 10) (la 9) we (16 * e) (s + 1)) = true then 1 else 0)), (4, .int k), (3, .int (nI r)), (0, .ref b), (1, .int (nI e)), (2, .int (nI v))]) d_Mo_groups_68 rfl (ix_inc _) (by decide) rfl ?_
        refine v_goto (pc := 71) (tgt := 32) d_Mo_groups_71 rfl ?_
        refine v_sub (L' := [(6, .int (nI (s + 1))), (5, .int (if op_fst p k (ar_bag (ia 10) (la 9) we (16 * e) (s + 1)) = true then 1 else 0)), (4, .int k), (3, .int (nI r)), (0, .ref b), (1, .int (nI e)), (2, .int (nI v))]) (by simp) ?_
        exact ih (r - (s + 1)) (by omega) (s + 1) rfl (by omega)
      · skip
        have hv1 : op_fst p k (ar_bag (ia 10) (la 9) we (16 * e) (s + 1)) = true := by rw [ar_bag_snoc, op_fst_snoc, op_ky_row hpe]; exact ⟨hb, hc⟩
        refine v_iconst (pc := 61) (v := nI 1) d_Mo_groups_61 rfl ?_
        refine v_re (y := (if op_fst p k (ar_bag (ia 10) (la 9) we (16 * e) (s + 1)) = true then 1 else 0)) (zb1 hv1) ?_
        refine v_goto (pc := 62) (tgt := 66) d_Mo_groups_62 rfl ?_
        refine v_istore (pc := 66) (L' := [(5, .int (if op_fst p k (ar_bag (ia 10) (la 9) we (16 * e) (s + 1)) = true then 1 else 0)), (6, .int (nI s)), (4, .int k), (3, .int (nI r)), (0, .ref b), (1, .int (nI e)), (2, .int (nI v))]) d_Mo_groups_66 (by decide) rfl ?_
        refine v_iinc (pc := 68) (L' := [(6, .int (nI (s + 1))), (5, .int (if op_fst p k (ar_bag (ia 10) (la 9) we (16 * e) (s + 1)) = true then 1 else 0)), (4, .int k), (3, .int (nI r)), (0, .ref b), (1, .int (nI e)), (2, .int (nI v))]) d_Mo_groups_68 rfl (ix_inc _) (by decide) rfl ?_
        refine v_goto (pc := 71) (tgt := 32) d_Mo_groups_71 rfl ?_
        refine v_sub (L' := [(6, .int (nI (s + 1))), (5, .int (if op_fst p k (ar_bag (ia 10) (la 9) we (16 * e) (s + 1)) = true then 1 else 0)), (4, .int k), (3, .int (nI r)), (0, .ref b), (1, .int (nI e)), (2, .int (nI v))]) (by simp) ?_
        exact ih (r - (s + 1)) (by omega) (s + 1) rfl (by omega)
set_option maxRecDepth 100000 in
set_option maxHeartbeats 4000000 in
theorem lp_Mo_groups (g : Gl) {w : Wd} {b sz : Nat} {sc : Nat → Int32} {ia : Nat → Nat → Int32} {la : Nat → Nat → Int64} (hM : MAt w b sc ia la) {e v ne we kd p q : Nat} (he : e < 24) (hv : v < 12) (hce : ia 8 e = nI ne) (hne : ne ≤ 16) (hwe : we ≤ 4) (hkd : kd ≤ 2) (hk : ia 1 v = nI (5 + kd)) (hp : ia 4 v = nI p) (hpe : p < we) (hq : ia 5 v = nI q) (hqe : q < we) (hg : sc 2 = nI 0) {E : Rs → Wd → Nat → Prop} (hE : ∀ w', mo_gs w b sc ia la 2 (ma_gf [] (op_gr kd p q (ar_bag (ia 10) (la 9) we (16 * e) ne) ne)) w' → E (.inl none) w' sz) : ∀ (zz : Nat) (r : Nat) (w1 : Wd), ne - r = zz → r ≤ ne → mo_gs w b sc ia la 2 (ma_gf [] (op_gr kd p q (ar_bag (ia 10) (la 9) we (16 * e) ne) r)) w1 → VV g 2 0 0 mi_Mo_groups w sz E 2 [(3, .int (nI r)), (0, .ref b), (1, .int (nI e)), (2, .int (nI v))] [] w1 sz 0 0 := by
  intro zz
  induction zz using Nat.strongRecOn with | _ zz ih => _
  intro r w1 hnn hrn hgs
  obtain ⟨f1, o1, m1, h1, hfr, hGG⟩ := id hgs
  have hlen := ma_gf_len (op_gr kd p q (ar_bag (ia 10) (la 9) we (16 * e) ne) r) []
  have hl1 := op_gr_len kd p q (ar_bag (ia 10) (la 9) we (16 * e) ne) r
  have hl0 : ([] : MaB).length = 0 := rfl
  refine v_iload_n (pc := 2) d_Mo_groups_2 rfl rfl ?_
  refine v_aload_n (pc := 3) d_Mo_groups_3 rfl rfl ?_
  refine v_get (pc := 4) d_Mo_groups_4 fl_Mo_38 h1.o rfl ?_
  refine v_iload_n (pc := 7) d_Mo_groups_7 rfl rfl ?_
  refine v_ialdN (pc := 8) (k := e) (f := ia 8) d_Mo_groups_8 h1.a8 rfl (by omega) (by decide) ?_
  refine v_re hce ?_
  refine v_icmp_ge (pc := 9) (tgt := 113) d_Mo_groups_9 rfl (fun hc => ?_) (fun hc => ?_)
  · skip
    rw [nI_leI (by omega) (by omega)] at hc
    obtain rfl : r = ne := by omega
    exact v_vret (pc := 113) d_Mo_groups_113 rfl (Nat.le_of_ble_eq_true rfl) (Nat.le_of_ble_eq_true rfl) (hE w1 hgs)
  · skip
    rw [nI_leI (by omega) (by omega)] at hc
    refine v_aload_n (pc := 12) d_Mo_groups_12 rfl rfl ?_
    refine v_iload_n (pc := 13) d_Mo_groups_13 rfl rfl ?_
    refine v_iload_n (pc := 14) d_Mo_groups_14 rfl rfl ?_
    refine v_aload_n (pc := 15) d_Mo_groups_15 rfl rfl ?_
    refine v_get (pc := 16) d_Mo_groups_16 fl_Mo_26 h1.o rfl ?_
    refine v_iload_n (pc := 19) d_Mo_groups_19 rfl rfl ?_
    refine v_ialdN (pc := 20) (k := v) (f := ia 4) d_Mo_groups_20 h1.a4 rfl (by omega) (by decide) ?_
    refine v_re hp ?_
    refine v_cvR (pc := 21) (A := [.int (nI e), .int (nI r), .int (nI p)]) (rest := []) (x := .int (ia 10 (4 * (16 * e + r) + p))) d_Mo_groups_21 lk_Mo_83 me_Mo_cellOf im_Mo_cellOf se_Mo_cellOf rfl h1.o rfl rfl (c_Mo_cellOf g h1 (k := e) (r := r) (c := p) (by omega)) (Nat.le_of_ble_eq_true rfl) (Nat.le_of_ble_eq_true rfl) (Nat.le_of_ble_eq_true rfl) (Nat.le_of_ble_eq_true rfl) ?_
    refine v_istore (pc := 24) (L' := [(4, .int (ia 10 (4 * (16 * e + r) + p))), (3, .int (nI r)), (0, .ref b), (1, .int (nI e)), (2, .int (nI v))]) d_Mo_groups_24 (by decide) rfl ?_
    refine v_iconst (pc := 26) (v := nI 1) d_Mo_groups_26 rfl ?_
    refine v_re (y := (if op_fst p (ia 10 (4 * (16 * e + r) + p)) (ar_bag (ia 10) (la 9) we (16 * e) 0) = true then 1 else 0)) rfl ?_
    refine v_istore (pc := 27) (L' := [(5, .int (if op_fst p (ia 10 (4 * (16 * e + r) + p)) (ar_bag (ia 10) (la 9) we (16 * e) 0) = true then 1 else 0)), (4, .int (ia 10 (4 * (16 * e + r) + p))), (3, .int (nI r)), (0, .ref b), (1, .int (nI e)), (2, .int (nI v))]) d_Mo_groups_27 (by decide) rfl ?_
    refine v_iconst (pc := 29) (v := nI 0) d_Mo_groups_29 rfl ?_
    refine v_istore (pc := 30) (L' := [(6, .int (nI 0)), (5, .int (if op_fst p (ia 10 (4 * (16 * e + r) + p)) (ar_bag (ia 10) (la 9) we (16 * e) 0) = true then 1 else 0)), (4, .int (ia 10 (4 * (16 * e + r) + p))), (3, .int (nI r)), (0, .ref b), (1, .int (nI e)), (2, .int (nI v))]) d_Mo_groups_30 (by decide) rfl ?_
    refine v_sub (L' := [(6, .int (nI 0)), (5, .int (if op_fst p (ia 10 (4 * (16 * e + r) + p)) (ar_bag (ia 10) (la 9) we (16 * e) 0) = true then 1 else 0)), (4, .int (ia 10 (4 * (16 * e + r) + p))), (3, .int (nI r)), (0, .ref b), (1, .int (nI e)), (2, .int (nI v))]) (by simp) ?_
    refine lp1_Mo_groups g h1 (e := e) (v := v) (ne := ne) (we := we) (kd := kd) (p := p) (q := q) he hv hce hne hwe hkd hk hp hpe hq hqe (r := r) (by omega) (k := (ia 10 (4 * (16 * e + r) + p))) ?_ r 0 rfl (by omega)
    show VV g 2 0 0 mi_Mo_groups w sz E 74 [(6, .int (nI r)), (5, .int (if op_fst p (ia 10 (4 * (16 * e + r) + p)) (ar_bag (ia 10) (la 9) we (16 * e) r) = true then 1 else 0)), (4, .int (ia 10 (4 * (16 * e + r) + p))), (3, .int (nI r)), (0, .ref b), (1, .int (nI e)), (2, .int (nI v))] [] w1 sz 0 0
    refine v_iload (pc := 74) d_Mo_groups_74 rfl ?_
    refine v_if_eq (pc := 76) (tgt := 107) d_Mo_groups_76 rfl (fun hc => ?_) (fun hc => ?_)
    · skip
      rw [zf] at hc
      have hnext : mo_gs w b sc ia la 2 (ma_gf [] (op_gr kd p q (ar_bag (ia 10) (la 9) we (16 * e) ne) (r + 1))) w1 := by
        rw [op_gr, ar_bag_get (by omega), ar_bag_take (by omega)]
        dsimp only
        rw [op_ky_row hpe, if_neg hc, List.append_nil]
        exact hgs
      refine v_iinc (pc := 107) (L' := [(3, .int (nI (r + 1))), (6, .int (nI r)), (5, .int (if op_fst p (ia 10 (4 * (16 * e + r) + p)) (ar_bag (ia 10) (la 9) we (16 * e) r) = true then 1 else 0)), (4, .int (ia 10 (4 * (16 * e + r) + p))), (0, .ref b), (1, .int (nI e)), (2, .int (nI v))]) d_Mo_groups_107 rfl (ix_inc _) (by decide) rfl ?_
      refine v_goto (pc := 110) (tgt := 2) d_Mo_groups_110 rfl ?_
      refine v_sub (L' := [(3, .int (nI (r + 1))), (0, .ref b), (1, .int (nI e)), (2, .int (nI v))]) (by simp) ?_
      exact ih (ne - (r + 1)) (by omega) (r + 1) _ rfl (by omega) hnext
    · skip
      rw [zt] at hc
      refine v_aload_n (pc := 79) d_Mo_groups_79 rfl rfl ?_
      refine v_get (pc := 80) d_Mo_groups_80 fl_Mo_54 h1.o rfl ?_
      refine v_iconst (pc := 83) (v := nI 0) d_Mo_groups_83 rfl ?_
      refine v_iload (pc := 84) d_Mo_groups_84 rfl ?_
      refine v_iastW (pc := 86) (k := 0) (f := o1) d_Mo_groups_86 h1.a13 rfl (by omega) (by decide) (fun w2 hn2 hq2 => ?_)
      have h2 := h1.s13 hn2 hq2
      rw [bx_uu] at h2
      refine v_aload_n (pc := 87) d_Mo_groups_87 rfl rfl ?_
      refine v_get (pc := 88) d_Mo_groups_88 fl_Mo_54 h2.o rfl ?_
      refine v_iconst (pc := 91) (v := nI 1) d_Mo_groups_91 rfl ?_
      refine v_aload_n (pc := 92) d_Mo_groups_92 rfl rfl ?_
      refine v_iload_n (pc := 93) d_Mo_groups_93 rfl rfl ?_
      refine v_iload_n (pc := 94) d_Mo_groups_94 rfl rfl ?_
      refine v_iload (pc := 95) d_Mo_groups_95 rfl ?_
      have hh2 : MAt w2 b _ _ _ := h2
      refine v_cvR (pc := 97) (A := [.int (nI e), .int (nI v), .int (ia 10 (4 * (16 * e + r) + p))]) (rest := [.int (nI 1), .ref (b + 14)]) (x := .int ((op_rs kd p q (ia 10 (4 * (16 * e + r) + p)) (ar_bag (ia 10) (la 9) we (16 * e) ne)).getD 0)) d_Mo_groups_97 lk_Mo_98 me_Mo_result im_Mo_result se_Mo_result rfl h2.o rfl rfl (c_Mo_result g h2 (e := e) (v := v) (ne := ne) (we := we) (kd := kd) (p := p) (q := q) he hv hce hne hwe hkd hk hp hpe hq hqe (k := (ia 10 (4 * (16 * e + r) + p)))) (Nat.le_of_ble_eq_true rfl) (Nat.le_of_ble_eq_true rfl) (Nat.le_of_ble_eq_true rfl) (Nat.le_of_ble_eq_true rfl) ?_
      refine v_iastW (pc := 100) (k := 1) (f := (upd o1 0 (ia 10 (4 * (16 * e + r) + p)))) d_Mo_groups_100 h2.a13 rfl (by omega) (by decide) (fun w3 hn3 hq3 => ?_)
      have h3 := h2.s13 hn3 hq3
      rw [bx_uu] at h3
      refine v_aload_n (pc := 101) d_Mo_groups_101 rfl rfl ?_
      refine v_iconst (pc := 102) (v := nI 2) d_Mo_groups_102 rfl ?_
      refine v_lconst (pc := 103) (v := 1) d_Mo_groups_103 rfl ?_
      refine v_cvV (pc := 104) (A := [.int (nI 2), .long 1]) (rest := []) d_Mo_groups_104 lk_Mo_94 me_Mo_gather im_Mo_gather se_Mo_gather rfl h3.o rfl rfl (c_Mo_gather g h3 (n := (ma_gf [] (op_gr kd p q (ar_bag (ia 10) (la 9) we (16 * e) ne) r)).length) (wd := 2) (many := 1) rfl (by omega) (by decide)) (Nat.le_of_ble_eq_true rfl) (Nat.le_of_ble_eq_true rfl) (Nat.le_of_ble_eq_true rfl) (Nat.le_of_ble_eq_true rfl) (fun w4 ht4 => ?_)
      have hnext : mo_gs w b sc ia la 2 (ma_gf [] (op_gr kd p q (ar_bag (ia 10) (la 9) we (16 * e) ne) (r + 1))) w4 := by
        have e9 := mo_gs.add (w2 := w3) ((hfr.at ⟨by omega, by omega⟩ hq2).at ⟨by omega, by omega⟩ hq3) hGG ht4
        have e8 : ar_row (upd (upd o1 0 (ia 10 (4 * (16 * e + r) + p))) 1 ((op_rs kd p q (ia 10 (4 * (16 * e + r) + p)) (ar_bag (ia 10) (la 9) we (16 * e) ne)).getD 0)) 2 0 = [(ia 10 (4 * (16 * e + r) + p)), (op_rs kd p q (ia 10 (4 * (16 * e + r) + p)) (ar_bag (ia 10) (la 9) we (16 * e) ne)).getD 0] := by
          rw [ar_row_cons, ar_row_cons, ar_row_0, Nat.zero_add, pk_us, pk_un (by decide), pk_us]
        rw [e8] at e9
        rw [op_gr, ar_bag_get (by omega), ar_bag_take (by omega)]
        dsimp only
        rw [op_ky_row hpe, if_pos hc, ma_gf_snoc]
        exact e9
      refine v_iinc (pc := 107) (L' := [(3, .int (nI (r + 1))), (6, .int (nI r)), (5, .int (if op_fst p (ia 10 (4 * (16 * e + r) + p)) (ar_bag (ia 10) (la 9) we (16 * e) r) = true then 1 else 0)), (4, .int (ia 10 (4 * (16 * e + r) + p))), (0, .ref b), (1, .int (nI e)), (2, .int (nI v))]) d_Mo_groups_107 rfl (ix_inc _) (by decide) rfl ?_
      refine v_goto (pc := 110) (tgt := 2) d_Mo_groups_110 rfl ?_
      refine v_sub (L' := [(3, .int (nI (r + 1))), (0, .ref b), (1, .int (nI e)), (2, .int (nI v))]) (by simp) ?_
      exact ih (ne - (r + 1)) (by omega) (r + 1) _ rfl (by omega) hnext
set_option maxRecDepth 100000 in
set_option maxHeartbeats 4000000 in
theorem c_Mo_groups (g : Gl) {w : Wd} {b sz : Nat} {sc : Nat → Int32} {ia : Nat → Nat → Int32} {la : Nat → Nat → Int64} (hM : MAt w b sc ia la) {e v ne we kd p q : Nat} (he : e < 24) (hv : v < 12) (hce : ia 8 e = nI ne) (hne : ne ≤ 16) (hwe : we ≤ 4) (hkd : kd ≤ 2) (hk : ia 1 v = nI (5 + kd)) (hp : ia 4 v = nI p) (hpe : p < we) (hq : ia 5 v = nI q) (hqe : q < we) (hg : sc 2 = nI 0) : CT g 2 0 0 mi_Mo_groups [.ref b, .int (nI e), .int (nI v)] w sz (wrE none sz (mo_gs w b sc ia la 2 (ma_gf [] (op_gr kd p q (ar_bag (ia 10) (la 9) we (16 * e) ne) ne)) )) := by
  refine CT.of (by decide) (Nat.le_of_ble_eq_true rfl) ?_
  refine v_iconst (pc := 0) (v := nI 0) d_Mo_groups_0 rfl ?_
  refine v_istore_n (pc := 1) (L' := [(3, .int (nI 0)), (0, .ref b), (1, .int (nI e)), (2, .int (nI v))]) d_Mo_groups_1 rfl (by decide) rfl ?_
  refine v_sub (L' := [(3, .int (nI 0)), (0, .ref b), (1, .int (nI e)), (2, .int (nI v))]) (by simp) ?_
  exact lp_Mo_groups g hM he hv hce hne hwe hkd hk hp hpe hq hqe hg (fun w' h => ⟨rfl, rfl, h⟩) ne 0 w rfl (by omega) (mo_gs.start (G := []) hM hg rfl)
