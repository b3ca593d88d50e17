theorem ar_row_app (f : Nat → Int32) (m a : Nat) : ∀ n, ar_row f (m + n) a = ar_row f m a ++ ar_row f n (a + m)
  | 0 => by rw [Nat.add_zero, ar_row_0, List.append_nil]
  | n + 1 => by rw [← Nat.add_assoc, ar_row_snoc, ar_row_app f m a n, ar_row_snoc, List.append_assoc, Nat.add_assoc]
theorem op_jn1_len (p q : Nat) (y : List Int32 × Int64) (C : MaB) : (op_jn1 p q y C).length ≤ C.length := by
  unfold op_jn1
  rw [List.length_map]
  exact List.length_filter_le _ _
theorem op_jn_len (p q : Nat) (C : MaB) : ∀ B : MaB, (op_jn p q B C).length ≤ B.length * C.length
  | [] => by simp [op_jn]
  | y :: B => by
    have h1 := op_jn_len p q C B
    have h2 := op_jn1_len p q y C
    unfold op_jn at h1 ⊢
    rw [List.flatMap_cons, List.length_append, List.length_cons, Nat.succ_mul]
    omega
theorem op_jn_snoc (p q : Nat) (B C : MaB) (y : List Int32 × Int64) : op_jn p q (B ++ [y]) C = op_jn p q B C ++ op_jn1 p q y C := by
  unfold op_jn
  rw [List.flatMap_append, List.flatMap_cons, List.flatMap_nil, List.append_nil]
theorem op_jn1_snoc1 {p q : Nat} {y z : List Int32 × Int64} {C : MaB} (h : y.1.getD p 0 = z.1.getD q 0) : op_jn1 p q y (C ++ [z]) = op_jn1 p q y C ++ [(y.1 ++ z.1, y.2 * z.2)] := by
  unfold op_jn1
  rw [List.filter_append, List.filter_cons_of_pos (by rw [decide_eq_true_eq]; exact h), List.filter_nil, List.map_append, List.map_cons, List.map_nil]
theorem op_jn1_snoc0 {p q : Nat} {y z : List Int32 × Int64} {C : MaB} (h : ¬ y.1.getD p 0 = z.1.getD q 0) : op_jn1 p q y (C ++ [z]) = op_jn1 p q y C := by
  unfold op_jn1
  rw [List.filter_append, List.filter_cons_of_neg (by rw [decide_eq_true_eq]; exact h), List.filter_nil, List.append_nil]
set_option maxRecDepth 100000 in
set_option maxHeartbeats 4000000 in
theorem lp1_Mo_joins (g : Gl) {w0 w : Wd} {b sz : Nat} {sc : Nat → Int32} {ia : Nat → Nat → Int32} {la : Nat → Nat → Int64} (hM : MAt w b sc ia la) {e f v wl wr r s : Nat} (her : e < 24) (hfr' : f < 24) (hr : r < 16) (hs : s < 16) (hv : v < 12) (hw : ia 0 v = nI (wl + wr)) (hwd : wl + wr ≤ 4) {E : Rs → Wd → Nat → Prop} (K : ∀ w1 o1, MAt w1 b sc (va_up ia 13 o1) la → mo_fr b w w1 → (∀ j, j < wl + wr → o1 j = (if j < wl then ia 10 (4 * (16 * e + r) + j) else ia 10 (4 * (16 * f + s) + (j - wl)))) → VV g 2 0 0 mi_Mo_joins w0 sz E 128 [(7, .int (nI (wl + wr))), (6, .int (nI s)), (5, .int (nI r)), (4, .int (nI wl)), (0, .ref b), (1, .int (nI e)), (2, .int (nI f)), (3, .int (nI v))] [] w1 sz 0 0) : ∀ (zz : Nat) (c : Nat) (w1 : Wd) (o1 : Nat → Int32), wl + wr - c = zz → c ≤ wl + wr → MAt w1 b sc (va_up ia 13 o1) la → mo_fr b w w1 → (∀ j, j < c → o1 j = (if j < wl then ia 10 (4 * (16 * e + r) + j) else ia 10 (4 * (16 * f + s) + (j - wl)))) → VV g 2 0 0 mi_Mo_joins w0 sz E 73 [(7, .int (nI c)), (6, .int (nI s)), (5, .int (nI r)), (4, .int (nI wl)), (0, .ref b), (1, .int (nI e)), (2, .int (nI f)), (3, .int (nI v))] [] w1 sz 0 0 := by
  intro zz
  induction zz using Nat.strongRecOn with | _ zz ih => _
  intro c w1 o1 hnn hcw h1 h3 h4
  refine v_iload (pc := 73) d_Mo_joins_73 rfl ?_
  refine v_aload_n (pc := 75) d_Mo_joins_75 rfl rfl ?_
  refine v_get (pc := 76) d_Mo_joins_76 fl_Mo_13 h1.o rfl ?_
  refine v_iload_n (pc := 79) d_Mo_joins_79 rfl rfl ?_
  refine v_ialdN (pc := 80) (k := v) (f := ia 0) d_Mo_joins_80 h1.a0 rfl (by omega) (by decide) ?_
  refine v_re hw ?_
  refine v_icmp_ge (pc := 81) (tgt := 128) d_Mo_joins_81 rfl (fun hc => ?_) (fun hc => ?_)
  · skip
    rw [nI_leI (by omega) (by omega)] at hc
    obtain rfl : c = wl + wr := by omega
    exact K w1 o1 h1 h3 h4
  · skip
    rw [nI_leI (by omega) (by omega)] at hc
    refine v_aload_n (pc := 84) d_Mo_joins_84 rfl rfl ?_
    refine v_get (pc := 85) d_Mo_joins_85 fl_Mo_54 h1.o rfl ?_
    refine v_iload (pc := 88) d_Mo_joins_88 rfl ?_
    refine v_iload (pc := 90) d_Mo_joins_90 rfl ?_
    refine v_iload (pc := 92) d_Mo_joins_92 rfl ?_
    refine v_icmp_ge (pc := 94) (tgt := 109) d_Mo_joins_94 rfl (fun hc => ?_) (fun hc => ?_)
    · skip
      rw [nI_leI (by omega) (by omega)] at hc
      refine v_aload_n (pc := 109) d_Mo_joins_109 rfl rfl ?_
      refine v_iload_n (pc := 110) d_Mo_joins_110 rfl rfl ?_
      refine v_iload (pc := 111) d_Mo_joins_111 rfl ?_
      refine v_iload (pc := 113) d_Mo_joins_113 rfl ?_
      refine v_iload (pc := 115) d_Mo_joins_115 rfl ?_
      refine v_isub (pc := 117) d_Mo_joins_117 ?_
      refine v_re (pk_sub (a := c) (b := wl) (by omega)) ?_
      refine v_cvR (pc := 118) (A := [.int (nI f), .int (nI s), .int (nI (c - wl))]) (rest := [.int (nI c), .ref (b + 14)]) (x := .int (ia 10 (4 * (16 * f + s) + (c - wl)))) d_Mo_joins_118 lk_Mo_83 me_Mo_cellOf im_Mo_cellOf se_Mo_cellOf rfl h1.o rfl rfl (c_Mo_cellOf g h1 (k := f) (r := s) (c := c - wl) (by omega)) (Nat.le_of_ble_eq_true rfl) (Nat.le_of_ble_eq_true rfl) (Nat.le_of_ble_eq_true rfl) (Nat.le_of_ble_eq_true rfl) ?_
      refine v_re (y := (if c < wl then ia 10 (4 * (16 * e + r) + c) else ia 10 (4 * (16 * f + s) + (c - wl)))) (if_neg (by omega)).symm ?_
      refine v_iastW (pc := 121) (k := c) (f := o1) d_Mo_joins_121 h1.a13 rfl (by omega) (by decide) (fun w2 hn2 hq2 => ?_)
      have h2 := h1.s13 hn2 hq2
      rw [bx_uu] at h2
      refine v_iinc (pc := 122) (L' := [(7, .int (nI (c + 1))), (6, .int (nI s)), (5, .int (nI r)), (4, .int (nI wl)), (0, .ref b), (1, .int (nI e)), (2, .int (nI f)), (3, .int (nI v))]) d_Mo_joins_122 rfl (ix_inc _) (by decide) rfl ?_
      refine v_goto (pc := 125) (tgt := 73) d_Mo_joins_125 rfl ?_
      refine v_sub (L' := [(7, .int (nI (c + 1))), (6, .int (nI s)), (5, .int (nI r)), (4, .int (nI wl)), (0, .ref b), (1, .int (nI e)), (2, .int (nI f)), (3, .int (nI v))]) (by simp) ?_
      exact ih (wl + wr - (c + 1)) (by omega) (c + 1) w2 _ rfl (by omega) h2 (h3.at ⟨by omega, by omega⟩ hq2) (fun j hj => by by_cases hjc : j = c; (subst hjc; exact pk_us); (rw [pk_un (by omega)]; exact h4 j (by omega)))
    · skip
      rw [nI_leI (by omega) (by omega)] at hc
      refine v_aload_n (pc := 97) d_Mo_joins_97 rfl rfl ?_
      refine v_iload_n (pc := 98) d_Mo_joins_98 rfl rfl ?_
      refine v_iload (pc := 99) d_Mo_joins_99 rfl ?_
      refine v_iload (pc := 101) d_Mo_joins_101 rfl ?_
      refine v_cvR (pc := 103) (A := [.int (nI e), .int (nI r), .int (nI c)]) (rest := [.int (nI c), .ref (b + 14)]) (x := .int (ia 10 (4 * (16 * e + r) + c))) d_Mo_joins_103 lk_Mo_83 me_Mo_cellOf im_Mo_cellOf se_Mo_cellOf rfl h1.o rfl rfl (c_Mo_cellOf g h1 (k := e) (r := r) (c := c) (by omega)) (Nat.le_of_ble_eq_true rfl) (Nat.le_of_ble_eq_true rfl) (Nat.le_of_ble_eq_true rfl) (Nat.le_of_ble_eq_true rfl) ?_
      refine v_re (y := (if c < wl then ia 10 (4 * (16 * e + r) + c) else ia 10 (4 * (16 * f + s) + (c - wl)))) (if_pos (by omega)).symm ?_
      refine v_goto (pc := 106) (tgt := 121) d_Mo_joins_106 rfl ?_
      refine v_iastW (pc := 121) (k := c) (f := o1) d_Mo_joins_121 h1.a13 rfl (by omega) (by decide) (fun w2 hn2 hq2 => ?_)
      have h2 := h1.s13 hn2 hq2
      rw [bx_uu] at h2
      refine v_iinc (pc := 122) (L' := [(7, .int (nI (c + 1))), (6, .int (nI s)), (5, .int (nI r)), (4, .int (nI wl)), (0, .ref b), (1, .int (nI e)), (2, .int (nI f)), (3, .int (nI v))]) d_Mo_joins_122 rfl (ix_inc _) (by decide) rfl ?_
      refine v_goto (pc := 125) (tgt := 73) d_Mo_joins_125 rfl ?_
      refine v_sub (L' := [(7, .int (nI (c + 1))), (6, .int (nI s)), (5, .int (nI r)), (4, .int (nI wl)), (0, .ref b), (1, .int (nI e)), (2, .int (nI f)), (3, .int (nI v))]) (by simp) ?_
      exact ih (wl + wr - (c + 1)) (by omega) (c + 1) w2 _ rfl (by omega) h2 (h3.at ⟨by omega, by omega⟩ hq2) (fun j hj => by by_cases hjc : j = c; (subst hjc; exact pk_us); (rw [pk_un (by omega)]; exact h4 j (by omega)))
set_option maxRecDepth 100000 in
set_option maxHeartbeats 4000000 in
theorem lp2_Mo_joins (g : Gl) {w0 w : Wd} {b sz : Nat} {sc : Nat → Int32} {ia : Nat → Nat → Int32} {la : Nat → Nat → Int64} (hM : MAt w b sc ia la) {e f v ne nf wl wr p q x : Nat} (he : e < 24) (hf : f < 24) (hv : v < 12) (hce : ia 8 e = nI ne) (hne : ne ≤ 16) (hcf : ia 8 f = nI nf) (hnf : nf ≤ 16) (hw : ia 0 v = nI (wl + wr)) (hwd : wl + wr ≤ 4) (hp : ia 4 v = nI p) (hpl : p < wl) (hq : ia 5 v = nI q) (hqr : q < wr) (hx : ia 2 v = nI x) (hx12 : x < 12) (hwx : ia 0 x = nI wl) (hg : sc 2 = nI 0) {r : Nat} (hr : r < ne) {E : Rs → Wd → Nat → Prop} (K : ∀ w1, mo_gs w b sc ia la (wl + wr) (ma_gf [] ((op_jn p q (ar_bag (ia 10) (la 9) wl (16 * e) r) (ar_bag (ia 10) (la 9) wr (16 * f) nf)) ++ op_jn1 p q (ar_row (ia 10) wl (4 * (16 * e + r)), la 9 (16 * e + r)) (ar_bag (ia 10) (la 9) wr (16 * f) nf))) w1 → VV g 2 0 0 mi_Mo_joins w0 sz E 169 [(6, .int (nI nf)), (5, .int (nI r)), (4, .int (nI wl)), (0, .ref b), (1, .int (nI e)), (2, .int (nI f)), (3, .int (nI v))] [] w1 sz 0 0) : ∀ (zz : Nat) (s : Nat) (w1 : Wd), nf - s = zz → s ≤ nf → mo_gs w b sc ia la (wl + wr) (ma_gf [] ((op_jn p q (ar_bag (ia 10) (la 9) wl (16 * e) r) (ar_bag (ia 10) (la 9) wr (16 * f) nf)) ++ op_jn1 p q (ar_row (ia 10) wl (4 * (16 * e + r)), la 9 (16 * e + r)) (ar_bag (ia 10) (la 9) wr (16 * f) s))) w1 → VV g 2 0 0 mi_Mo_joins w0 sz E 30 [(6, .int (nI s)), (5, .int (nI r)), (4, .int (nI wl)), (0, .ref b), (1, .int (nI e)), (2, .int (nI f)), (3, .int (nI v))] [] w1 sz 0 0 := by
  intro zz
  induction zz using Nat.strongRecOn with | _ zz ih => _
  intro s w1 hnn hsn hgs
  obtain ⟨f1, o1, m1, h1, hfr, hGG⟩ := id hgs
  have hlen := ma_gf_len ((op_jn p q (ar_bag (ia 10) (la 9) wl (16 * e) r) (ar_bag (ia 10) (la 9) wr (16 * f) nf)) ++ op_jn1 p q (ar_row (ia 10) wl (4 * (16 * e + r)), la 9 (16 * e + r)) (ar_bag (ia 10) (la 9) wr (16 * f) s)) []
  have hl1 := op_jn1_len p q (ar_row (ia 10) wl (4 * (16 * e + r)), la 9 (16 * e + r)) (ar_bag (ia 10) (la 9) wr (16 * f) s)
  have hl2 := op_jn_len p q (ar_bag (ia 10) (la 9) wr (16 * f) nf) (ar_bag (ia 10) (la 9) wl (16 * e) r)
  rw [List.length_append] at hlen
  rw [ar_bag_len] at hl1
  rw [ar_bag_len, ar_bag_len] at hl2
  have hl3 : r * nf ≤ r * 16 := Nat.mul_le_mul_left r hnf
  have hl0 : ([] : MaB).length = 0 := rfl
  refine v_iload (pc := 30) d_Mo_joins_30 rfl ?_
  refine v_aload_n (pc := 32) d_Mo_joins_32 rfl rfl ?_
  refine v_get (pc := 33) d_Mo_joins_33 fl_Mo_38 h1.o rfl ?_
  refine v_iload_n (pc := 36) d_Mo_joins_36 rfl rfl ?_
  refine v_ialdN (pc := 37) (k := f) (f := ia 8) d_Mo_joins_37 h1.a8 rfl (by omega) (by decide) ?_
  refine v_re hcf ?_
  refine v_icmp_ge (pc := 38) (tgt := 169) d_Mo_joins_38 rfl (fun hc => ?_) (fun hc => ?_)
  · skip
    rw [nI_leI (by omega) (by omega)] at hc
    obtain rfl : s = nf := by omega
    exact K w1 hgs
  · skip
    rw [nI_leI (by omega) (by omega)] at hc
    refine v_aload_n (pc := 41) d_Mo_joins_41 rfl rfl ?_
    refine v_iload_n (pc := 42) d_Mo_joins_42 rfl rfl ?_
    refine v_iload (pc := 43) d_Mo_joins_43 rfl ?_
    refine v_aload_n (pc := 45) d_Mo_joins_45 rfl rfl ?_
    refine v_get (pc := 46) d_Mo_joins_46 fl_Mo_26 h1.o rfl ?_
    refine v_iload_n (pc := 49) d_Mo_joins_49 rfl rfl ?_
    refine v_ialdN (pc := 50) (k := v) (f := ia 4) d_Mo_joins_50 h1.a4 rfl (by omega) (by decide) ?_
    refine v_re hp ?_
    refine v_cvR (pc := 51) (A := [.int (nI e), .int (nI r), .int (nI p)]) (rest := []) (x := .int (ia 10 (4 * (16 * e + r) + p))) d_Mo_joins_51 lk_Mo_83 me_Mo_cellOf im_Mo_cellOf se_Mo_cellOf rfl h1.o rfl rfl (c_Mo_cellOf g h1 (k := e) (r := r) (c := p) (by omega)) (Nat.le_of_ble_eq_true rfl) (Nat.le_of_ble_eq_true rfl) (Nat.le_of_ble_eq_true rfl) (Nat.le_of_ble_eq_true rfl) ?_
    refine v_aload_n (pc := 54) d_Mo_joins_54 rfl rfl ?_
    refine v_iload_n (pc := 55) d_Mo_joins_55 rfl rfl ?_
    refine v_iload (pc := 56) d_Mo_joins_56 rfl ?_
    refine v_aload_n (pc := 58) d_Mo_joins_58 rfl rfl ?_
    refine v_get (pc := 59) d_Mo_joins_59 fl_Mo_29 h1.o rfl ?_
    refine v_iload_n (pc := 62) d_Mo_joins_62 rfl rfl ?_
    refine v_ialdN (pc := 63) (k := v) (f := ia 5) d_Mo_joins_63 h1.a5 rfl (by omega) (by decide) ?_
    refine v_re hq ?_
    refine v_cvR (pc := 64) (A := [.int (nI f), .int (nI s), .int (nI q)]) (rest := [.int (ia 10 (4 * (16 * e + r) + p))]) (x := .int (ia 10 (4 * (16 * f + s) + q))) d_Mo_joins_64 lk_Mo_83 me_Mo_cellOf im_Mo_cellOf se_Mo_cellOf rfl h1.o rfl rfl (c_Mo_cellOf g h1 (k := f) (r := s) (c := q) (by omega)) (Nat.le_of_ble_eq_true rfl) (Nat.le_of_ble_eq_true rfl) (Nat.le_of_ble_eq_true rfl) (Nat.le_of_ble_eq_true rfl) ?_
    refine v_icmp_ne (pc := 67) (tgt := 163) d_Mo_joins_67 rfl (fun hc => ?_) (fun hc => ?_)
    · skip
      have hnext : mo_gs w b sc ia la (wl + wr) (ma_gf [] ((op_jn p q (ar_bag (ia 10) (la 9) wl (16 * e) r) (ar_bag (ia 10) (la 9) wr (16 * f) nf)) ++ op_jn1 p q (ar_row (ia 10) wl (4 * (16 * e + r)), la 9 (16 * e + r)) (ar_bag (ia 10) (la 9) wr (16 * f) (s + 1)))) w1 := by
        rw [ar_bag_snoc, op_jn1_snoc0 (by show ¬ (ar_row (ia 10) wl (4 * (16 * e + r))).getD p 0 = (ar_row (ia 10) wr (4 * (16 * f + s))).getD q 0; rw [ar_row_getD hpl, ar_row_getD hqr]; exact hc)]
        exact hgs
      refine v_iinc (pc := 163) (L' := [(6, .int (nI (s + 1))), (5, .int (nI r)), (4, .int (nI wl)), (0, .ref b), (1, .int (nI e)), (2, .int (nI f)), (3, .int (nI v))]) d_Mo_joins_163 rfl (ix_inc _) (by decide) rfl ?_
      refine v_goto (pc := 166) (tgt := 30) d_Mo_joins_166 rfl ?_
      refine v_sub (L' := [(6, .int (nI (s + 1))), (5, .int (nI r)), (4, .int (nI wl)), (0, .ref b), (1, .int (nI e)), (2, .int (nI f)), (3, .int (nI v))]) (by simp) ?_
      exact ih (nf - (s + 1)) (by omega) (s + 1) _ rfl (by omega) hnext
    · skip
      refine v_iconst (pc := 70) (v := nI 0) d_Mo_joins_70 rfl ?_
      refine v_istore (pc := 71) (L' := [(7, .int (nI 0)), (6, .int (nI s)), (5, .int (nI r)), (4, .int (nI wl)), (0, .ref b), (1, .int (nI e)), (2, .int (nI f)), (3, .int (nI v))]) d_Mo_joins_71 (by decide) rfl ?_
      refine v_sub (L' := [(7, .int (nI 0)), (6, .int (nI s)), (5, .int (nI r)), (4, .int (nI wl)), (0, .ref b), (1, .int (nI e)), (2, .int (nI f)), (3, .int (nI v))]) (by simp) ?_
      refine lp1_Mo_joins g h1 (e := e) (f := f) (v := v) (wl := wl) (wr := wr) (r := r) (s := s) he hf (by omega) (by omega) hv hw hwd (fun w2 o2 h2 hf2 ho2 => ?_) (wl + wr) 0 w1 o1 rfl (by omega) (by rw [bx_uu]; exact h1) mo_fr.rf (fun j hj => absurd hj (Nat.not_lt_zero _))
      rw [bx_uu] at h2
      have ho2 : ∀ j, j < wl + wr → o2 j = (if j < wl then ia 10 (4 * (16 * e + r) + j) else ia 10 (4 * (16 * f + s) + (j - wl))) := ho2
      refine v_aload_n (pc := 128) d_Mo_joins_128 rfl rfl ?_
      refine v_aload_n (pc := 129) d_Mo_joins_129 rfl rfl ?_
      refine v_get (pc := 130) d_Mo_joins_130 fl_Mo_13 h2.o rfl ?_
      refine v_iload_n (pc := 133) d_Mo_joins_133 rfl rfl ?_
      refine v_ialdN (pc := 134) (k := v) (f := ia 0) d_Mo_joins_134 h2.a0 rfl (by omega) (by decide) ?_
      refine v_re hw ?_
      refine v_aload_n (pc := 135) d_Mo_joins_135 rfl rfl ?_
      refine v_get (pc := 136) d_Mo_joins_136 fl_Mo_41 h2.o rfl ?_
      refine v_bipush (pc := 139) (v := nI 16) d_Mo_joins_139 rfl ?_
      refine v_iload_n (pc := 141) d_Mo_joins_141 rfl rfl ?_
      refine v_imul (pc := 142) d_Mo_joins_142 ?_
      refine v_re (pk_mul 16 e) ?_
      refine v_iload (pc := 143) d_Mo_joins_143 rfl ?_
      refine v_iadd (pc := 145) d_Mo_joins_145 ?_
      refine v_re (nI_add (16 * e) r) ?_
      refine v_laldN (pc := 146) (k := (16 * e) + r) (f := la 9) d_Mo_joins_146 h2.a9 rfl (by omega) (by decide) ?_
      refine v_aload_n (pc := 147) d_Mo_joins_147 rfl rfl ?_
      refine v_get (pc := 148) d_Mo_joins_148 fl_Mo_41 h2.o rfl ?_
      refine v_bipush (pc := 151) (v := nI 16) d_Mo_joins_151 rfl ?_
      refine v_iload_n (pc := 153) d_Mo_joins_153 rfl rfl ?_
      refine v_imul (pc := 154) d_Mo_joins_154 ?_
      refine v_re (pk_mul 16 f) ?_
      refine v_iload (pc := 155) d_Mo_joins_155 rfl ?_
      refine v_iadd (pc := 157) d_Mo_joins_157 ?_
      refine v_re (nI_add (16 * f) s) ?_
      refine v_laldN (pc := 158) (k := (16 * f) + s) (f := la 9) d_Mo_joins_158 h2.a9 rfl (by omega) (by decide) ?_
      refine v_lmul (pc := 159) d_Mo_joins_159 ?_
      refine v_cvV (pc := 160) (A := [.int (nI (wl + wr)), .long (la 9 ((16 * e) + r) * la 9 ((16 * f) + s))]) (rest := []) d_Mo_joins_160 lk_Mo_94 me_Mo_gather im_Mo_gather se_Mo_gather rfl h2.o rfl rfl (c_Mo_gather g h2 (n := (ma_gf [] ((op_jn p q (ar_bag (ia 10) (la 9) wl (16 * e) r) (ar_bag (ia 10) (la 9) wr (16 * f) nf)) ++ op_jn1 p q (ar_row (ia 10) wl (4 * (16 * e + r)), la 9 (16 * e + r)) (ar_bag (ia 10) (la 9) wr (16 * f) s))).length) (wd := wl + wr) (many := la 9 (16 * e + r) * la 9 (16 * f + s)) rfl (by omega) hwd) (Nat.le_of_ble_eq_true rfl) (Nat.le_of_ble_eq_true rfl) (Nat.le_of_ble_eq_true rfl) (Nat.le_of_ble_eq_true rfl) (fun w3 ht3 => ?_)
      have hnext : mo_gs w b sc ia la (wl + wr) (ma_gf [] ((op_jn p q (ar_bag (ia 10) (la 9) wl (16 * e) r) (ar_bag (ia 10) (la 9) wr (16 * f) nf)) ++ op_jn1 p q (ar_row (ia 10) wl (4 * (16 * e + r)), la 9 (16 * e + r)) (ar_bag (ia 10) (la 9) wr (16 * f) (s + 1)))) w3 := by
        have e9 := mo_gs.add (hfr.tr hf2) hGG ht3
        have e8 : ar_row o2 (wl + wr) 0 = ar_row (ia 10) wl (4 * (16 * e + r)) ++ ar_row (ia 10) wr (4 * (16 * f + s)) := by
          rw [ar_row_app]
          have e7 : ar_row o2 wl 0 = ar_row (ia 10) wl (4 * (16 * e + r)) := ar_row_congr (fun c hc => by rw [Nat.zero_add, ho2 c (by omega), if_pos hc])
          have e6 : ar_row o2 wr (0 + wl) = ar_row (ia 10) wr (4 * (16 * f + s)) := ar_row_congr (fun c hc => by rw [ho2 _ (by omega), if_neg (by omega)]; congr 1; omega)
          rw [e7, e6]
        rw [e8] at e9
        rw [ar_bag_snoc, op_jn1_snoc1 (by show (ar_row (ia 10) wl (4 * (16 * e + r))).getD p 0 = (ar_row (ia 10) wr (4 * (16 * f + s))).getD q 0; rw [ar_row_getD hpl, ar_row_getD hqr]; exact hc), ← List.append_assoc, ma_gf_snoc]
        exact e9
      refine v_iinc (pc := 163) (L' := [(6, .int (nI (s + 1))), (7, .int (nI (wl + wr))), (5, .int (nI r)), (4, .int (nI wl)), (0, .ref b), (1, .int (nI e)), (2, .int (nI f)), (3, .int (nI v))]) d_Mo_joins_163 rfl (ix_inc _) (by decide) rfl ?_
      refine v_goto (pc := 166) (tgt := 30) d_Mo_joins_166 rfl ?_
      refine v_sub (L' := [(6, .int (nI (s + 1))), (5, .int (nI r)), (4, .int (nI wl)), (0, .ref b), (1, .int (nI e)), (2, .int (nI f)), (3, .int (nI v))]) (by simp) ?_
      exact ih (nf - (s + 1)) (by omega) (s + 1) _ rfl (by omega) hnext
set_option maxRecDepth 100000 in
set_option maxHeartbeats 4000000 in
theorem lp_Mo_joins (g : Gl) {w : Wd} {b sz : Nat} {sc : Nat → Int32} {ia : Nat → Nat → Int32} {la : Nat → Nat → Int64} (hM : MAt w b sc ia la) {e f v ne nf wl wr p q x : Nat} (he : e < 24) (hf : f < 24) (hv : v < 12) (hce : ia 8 e = nI ne) (hne : ne ≤ 16) (hcf : ia 8 f = nI nf) (hnf : nf ≤ 16) (hw : ia 0 v = nI (wl + wr)) (hwd : wl + wr ≤ 4) (hp : ia 4 v = nI p) (hpl : p < wl) (hq : ia 5 v = nI q) (hqr : q < wr) (hx : ia 2 v = nI x) (hx12 : x < 12) (hwx : ia 0 x = nI wl) (hg : sc 2 = nI 0) {E : Rs → Wd → Nat → Prop} (hE : ∀ w', mo_gs w b sc ia la (wl + wr) (ma_gf [] (op_jn p q (ar_bag (ia 10) (la 9) wl (16 * e) ne) (ar_bag (ia 10) (la 9) wr (16 * f) nf))) w' → E (.inl none) w' sz) : ∀ (zz : Nat) (r : Nat) (w1 : Wd), ne - r = zz → r ≤ ne → mo_gs w b sc ia la (wl + wr) (ma_gf [] (op_jn p q (ar_bag (ia 10) (la 9) wl (16 * e) r) (ar_bag (ia 10) (la 9) wr (16 * f) nf))) w1 → VV g 2 0 0 mi_Mo_joins w sz E 16 [(5, .int (nI r)), (4, .int (nI wl)), (0, .ref b), (1, .int (nI e)), (2, .int (nI f)), (3, .int (nI v))] [] w1 sz 0 0 := by
  intro zz
  induction zz using Nat.strongRecOn with | _ zz ih => _
  intro r w1 hnn hrn hgs
  obtain ⟨f1, o1, m1, h1, hfr, hGG⟩ := id hgs
  refine v_iload (pc := 16) d_Mo_joins_16 rfl ?_
  refine v_aload_n (pc := 18) d_Mo_joins_18 rfl rfl ?_
  refine v_get (pc := 19) d_Mo_joins_19 fl_Mo_38 h1.o rfl ?_
  refine v_iload_n (pc := 22) d_Mo_joins_22 rfl rfl ?_
  refine v_ialdN (pc := 23) (k := e) (f := ia 8) d_Mo_joins_23 h1.a8 rfl (by omega) (by decide) ?_
  refine v_re hce ?_
  refine v_icmp_ge (pc := 24) (tgt := 175) d_Mo_joins_24 rfl (fun hc => ?_) (fun hc => ?_)
  · skip
    rw [nI_leI (by omega) (by omega)] at hc
    obtain rfl : r = ne := by omega
    exact v_vret (pc := 175) d_Mo_joins_175 rfl (Nat.le_of_ble_eq_true rfl) (Nat.le_of_ble_eq_true rfl) (hE w1 hgs)
  · skip
    rw [nI_leI (by omega) (by omega)] at hc
    refine v_iconst (pc := 27) (v := nI 0) d_Mo_joins_27 rfl ?_
    refine v_istore (pc := 28) (L' := [(6, .int (nI 0)), (5, .int (nI r)), (4, .int (nI wl)), (0, .ref b), (1, .int (nI e)), (2, .int (nI f)), (3, .int (nI v))]) d_Mo_joins_28 (by decide) rfl ?_
    refine v_sub (L' := [(6, .int (nI 0)), (5, .int (nI r)), (4, .int (nI wl)), (0, .ref b), (1, .int (nI e)), (2, .int (nI f)), (3, .int (nI v))]) (by simp) ?_
    refine lp2_Mo_joins g hM he hf hv hce hne hcf hnf hw hwd hp hpl hq hqr hx hx12 hwx hg (r := r) (by omega) (fun w2 hgs2 => ?_) nf 0 w1 rfl (by omega) (by rw [show ar_bag (ia 10) (la 9) wr (16 * f) 0 = [] from rfl, show op_jn1 p q (ar_row (ia 10) wl (4 * (16 * e + r)), la 9 (16 * e + r)) [] = [] from rfl, List.append_nil]; exact hgs)
    have hnext : mo_gs w b sc ia la (wl + wr) (ma_gf [] (op_jn p q (ar_bag (ia 10) (la 9) wl (16 * e) (r + 1)) (ar_bag (ia 10) (la 9) wr (16 * f) nf))) w2 := by
      rw [ar_bag_snoc, op_jn_snoc]
      exact hgs2
    refine v_iinc (pc := 169) (L' := [(5, .int (nI (r + 1))), (6, .int (nI nf)), (4, .int (nI wl)), (0, .ref b), (1, .int (nI e)), (2, .int (nI f)), (3, .int (nI v))]) d_Mo_joins_169 rfl (ix_inc _) (by decide) rfl ?_
    refine v_goto (pc := 172) (tgt := 16) d_Mo_joins_172 rfl ?_
    refine v_sub (L' := [(5, .int (nI (r + 1))), (4, .int (nI wl)), (0, .ref b), (1, .int (nI e)), (2, .int (nI f)), (3, .int (nI v))]) (by simp) ?_
    exact ih (ne - (r + 1)) (by omega) (r + 1) _ rfl (by omega) hnext
set_option maxRecDepth 100000 in
set_option maxHeartbeats 4000000 in
theorem c_Mo_joins (g : Gl) {w : Wd} {b sz : Nat} {sc : Nat → Int32} {ia : Nat → Nat → Int32} {la : Nat → Nat → Int64} (hM : MAt w b sc ia la) {e f v ne nf wl wr p q x : Nat} (he : e < 24) (hf : f < 24) (hv : v < 12) (hce : ia 8 e = nI ne) (hne : ne ≤ 16) (hcf : ia 8 f = nI nf) (hnf : nf ≤ 16) (hw : ia 0 v = nI (wl + wr)) (hwd : wl + wr ≤ 4) (hp : ia 4 v = nI p) (hpl : p < wl) (hq : ia 5 v = nI q) (hqr : q < wr) (hx : ia 2 v = nI x) (hx12 : x < 12) (hwx : ia 0 x = nI wl) (hg : sc 2 = nI 0) : CT g 2 0 0 mi_Mo_joins [.ref b, .int (nI e), .int (nI f), .int (nI v)] w sz (wrE none sz (mo_gs w b sc ia la (wl + wr) (ma_gf [] (op_jn p q (ar_bag (ia 10) (la 9) wl (16 * e) ne) (ar_bag (ia 10) (la 9) wr (16 * f) nf))) )) := by
  refine CT.of (by decide) (Nat.le_of_ble_eq_true rfl) ?_
  refine v_aload_n (pc := 0) d_Mo_joins_0 rfl rfl ?_
  refine v_get (pc := 1) d_Mo_joins_1 fl_Mo_13 hM.o rfl ?_
  refine v_aload_n (pc := 4) d_Mo_joins_4 rfl rfl ?_
  refine v_get (pc := 5) d_Mo_joins_5 fl_Mo_20 hM.o rfl ?_
  refine v_iload_n (pc := 8) d_Mo_joins_8 rfl rfl ?_
  refine v_ialdN (pc := 9) (k := v) (f := ia 2) d_Mo_joins_9 hM.a2 rfl (by omega) (by decide) ?_
  refine v_re hx ?_
  refine v_ialdN (pc := 10) (k := x) (f := ia 0) d_Mo_joins_10 hM.a0 rfl (by omega) (by decide) ?_
  refine v_re hwx ?_
  refine v_istore (pc := 11) (L' := [(4, .int (nI wl)), (0, .ref b), (1, .int (nI e)), (2, .int (nI f)), (3, .int (nI v))]) d_Mo_joins_11 (by decide) rfl ?_
  refine v_iconst (pc := 13) (v := nI 0) d_Mo_joins_13 rfl ?_
  refine v_istore (pc := 14) (L' := [(5, .int (nI 0)), (4, .int (nI wl)), (0, .ref b), (1, .int (nI e)), (2, .int (nI f)), (3, .int (nI v))]) d_Mo_joins_14 (by decide) rfl ?_
  refine v_sub (L' := [(5, .int (nI 0)), (4, .int (nI wl)), (0, .ref b), (1, .int (nI e)), (2, .int (nI f)), (3, .int (nI v))]) (by simp) ?_
  exact lp_Mo_joins g hM he hf hv hce hne hcf hnf hw hwd hp hpl hq hqr hx hx12 hwx hg (fun w' h => ⟨rfl, rfl, h⟩) ne 0 w rfl (by omega) (mo_gs.start (G := []) hM hg rfl)
