/-! trying a table -/
theorem k_99 : Cond.constantLong mi_Mo_tryTable.1.cls 124 (99 : Int64) ∈ fw_big := fw_mem 846 (by decide +kernel) rfl
theorem lglt {x y : Int64} : lg_cmp x y < 0 ↔ x < y := by
  unfold lg_cmp
  by_cases h1 : y < x
  · have : ¬ x < y := by rw [Int64.lt_iff_toInt_lt] at *; omega
    simp [h1, this]
  · by_cases h2 : x = y
    · subst h2; simp
    · have : x < y := by
        rw [Int64.lt_iff_toInt_lt] at *
        have : x.toInt ≠ y.toInt := fun h => h2 (Int64.toInt_inj.mp h)
        omega
      simp [h1, h2, this]
theorem lggt {x y : Int64} : 0 < lg_cmp x y ↔ y < x := by
  unfold lg_cmp
  by_cases h1 : y < x
  · simp [h1]
  · by_cases h2 : x = y
    · subst h2; simp
    · simp [h1, h2]
abbrev Bt : Type := List (Int32 × Int32 × Int32 × Int32)
def bt_of (a b c d : Nat → Int32) (n : Nat) : Bt := (List.range n).map (fun k => (a k, b k, c k, d k))
theorem bt_of_len (a b c d : Nat → Int32) (n : Nat) : (bt_of a b c d n).length = n := by simp [bt_of]
theorem bt_of_snoc (a b c d : Nat → Int32) (n : Nat) : bt_of a b c d (n + 1) = bt_of a b c d n ++ [(a n, b n, c n, d n)] := by
  simp [bt_of, List.range_succ]
def bt_adds (t : Nat) (l : Bt) : MaB := (l.filter (fun x => decide (x.1 = nI t))).map (fun x => ([x.2.1, x.2.2.1], x.2.2.2.toInt64))
theorem bt_adds_1 {t : Nat} {l : Bt} {x : Int32 × Int32 × Int32 × Int32} (h : x.1 = nI t) : bt_adds t (l ++ [x]) = bt_adds t l ++ [([x.2.1, x.2.2.1], x.2.2.2.toInt64)] := by
  unfold bt_adds
  rw [List.filter_append, List.filter_cons_of_pos (by rw [decide_eq_true_eq]; exact h), List.filter_nil, List.map_append, List.map_cons, List.map_nil]
theorem bt_adds_0 {t : Nat} {l : Bt} {x : Int32 × Int32 × Int32 × Int32} (h : ¬ x.1 = nI t) : bt_adds t (l ++ [x]) = bt_adds t l := by
  unfold bt_adds
  rw [List.filter_append, List.filter_cons_of_neg (by rw [decide_eq_true_eq]; exact h), List.filter_nil, List.append_nil]
theorem bt_adds_len (t : Nat) (l : Bt) : (bt_adds t l).length ≤ l.length := by
  unfold bt_adds
  rw [List.length_map]
  exact List.length_filter_le _ _
theorem bt_adds_row (t : Nat) (l : Bt) : ∀ x ∈ bt_adds t l, x.1.length = 2 := by
  intro x hx
  obtain ⟨y, _, rfl⟩ := List.mem_map.mp hx
  rfl
def mo_can (m : Nat → Int64) (n : Nat) : Bool := (List.range n).all (fun s => decide (0 ≤ m s ∧ m s ≤ 99))
theorem mo_can_s (m : Nat → Int64) (n : Nat) : mo_can m (n + 1) = true ↔ mo_can m n = true ∧ 0 ≤ m n ∧ m n ≤ 99 := by
  unfold mo_can
  rw [List.range_succ, List.all_append, Bool.and_eq_true]
  simp
def tb_in (c : MaB) : Bool := c.all (fun x => decide (1 ≤ x.2 ∧ x.2 ≤ 99))
def tb_ok (c : MaB) : Bool := decide (c.length ≤ 8) && tb_in c
theorem tb_iff {c : MaB} : tb_ok c = true ↔ c.length ≤ 8 ∧ tb_in c = true := by
  unfold tb_ok
  rw [Bool.and_eq_true, decide_eq_true_eq]
theorem mo_can_in {A : MaB} {f : Nat → Int32} {m : Nat → Int64} (hA : ∀ x ∈ A, x.1.length = 2) (hG : ar_bag f m 2 0 (ma_gf [] A).length = ma_gf [] A) : mo_can m (ma_gf [] A).length = true ↔ tb_in (ma_fold [] A) = true := by
  have hp := ma_perm hA
  unfold tb_in mo_can
  rw [List.all_eq_true, List.all_eq_true]
  constructor
  · intro h x hx
    have hx := hp.mem_iff.mpr hx
    obtain ⟨hx1, hx2⟩ := List.mem_filter.mp hx
    rw [decide_eq_true_eq] at hx2
    rw [← hG] at hx1
    obtain ⟨s, hs, rfl⟩ := ar_bag_mem hx1
    have h9 := h s (List.mem_range.mpr hs)
    rw [decide_eq_true_eq] at h9 ⊢
    dsimp only at hx2 ⊢
    rw [Nat.zero_add] at hx2 ⊢
    refine ⟨?_, h9.2⟩
    have h0 : (m s).toInt ≠ (0 : Int64).toInt := fun h => hx2 (Int64.toInt_inj.mp h)
    have h1 := h9.1
    rw [Int64.le_iff_toInt_le] at h1 ⊢
    have e0 : (0 : Int64).toInt = 0 := rfl
    have e1 : (1 : Int64).toInt = 1 := rfl
    omega
  · intro h s hs
    have hs := List.mem_range.mp hs
    rw [decide_eq_true_eq]
    by_cases h0 : m s = 0
    · rw [h0]; decide
    · have hx : (ar_row f 2 (4 * (0 + s)), m (0 + s)) ∈ ma_gf [] A := by rw [← hG]; exact List.mem_of_getElem? (ar_bag_get hs)
      rw [Nat.zero_add] at hx
      have h9 := h _ (hp.mem_iff.mp (List.mem_filter.mpr ⟨hx, by rw [decide_eq_true_eq]; exact h0⟩))
      rw [decide_eq_true_eq] at h9
      refine ⟨?_, h9.2⟩
      have h1 := h9.1
      rw [Int64.le_iff_toInt_le] at h1 ⊢
      have e0 : (0 : Int64).toInt = 0 := rfl
      have e1 : (1 : Int64).toInt = 1 := rfl
      dsimp only at h1
      omega
set_option maxRecDepth 100000 in
set_option maxHeartbeats 4000000 in
theorem lp1_Mo_tryTable (g : Gl) {w0 w : Wd} {b sz : Nat} {sc : Nat → Int32} {ia : Nat → Nat → Int32} {la : Nat → Nat → Int64} (hM : MAt w b sc ia la) {t : Nat} {B : MaB} {l : Bt} (ht : t < 3) (hB1 : ia 8 t = nI B.length) (hB2 : B.length ≤ 16) (hB3 : ar_bag (ia 10) (la 9) 2 (16 * t) B.length = B) (hn : sc 3 = nI l.length) (hl8 : l.length ≤ 8) (hl : bt_of (ia 14) (ia 15) (ia 16) (ia 17) l.length = l) (hg : sc 2 = nI 0) {E : Rs → Wd → Nat → Prop} (K : ∀ w1, mo_gs w b sc ia la 2 (ma_gf [] B) w1 → VV g 2 0 0 mi_Mo_tryTable w0 sz E 45 [(2, .int (nI (B.length))), (0, .ref b), (1, .int (nI t))] [] w1 sz 0 0) : ∀ (zz : Nat) (r : Nat) (w1 : Wd), B.length - r = zz → r ≤ B.length → mo_gs w b sc ia la 2 (ma_gf [] (ar_bag (ia 10) (la 9) 2 (16 * t) r)) w1 → VV g 2 0 0 mi_Mo_tryTable w0 sz E 7 [(2, .int (nI r)), (0, .ref b), (1, .int (nI t))] [] w1 sz 0 0 := by
  intro zz
  induction zz using Nat.strongRecOn with | _ zz ih => _
  intro r w1 hnn hrn hgs
  obtain ⟨f1, o1, m1, h1, hfr, hGG⟩ := id hgs
  have hlen := ma_gf_len (ar_bag (ia 10) (la 9) 2 (16 * t) r) []
  rw [ar_bag_len] at hlen
  have hl0 : ([] : MaB).length = 0 := rfl
  refine v_iload_n (pc := 7) d_Mo_tryTable_7 rfl rfl ?_
  refine v_aload_n (pc := 8) d_Mo_tryTable_8 rfl rfl ?_
  refine v_get (pc := 9) d_Mo_tryTable_9 fl_Mo_38 h1.o rfl ?_
  refine v_iload_n (pc := 12) d_Mo_tryTable_12 rfl rfl ?_
  refine v_ialdN (pc := 13) (k := t) (f := ia 8) d_Mo_tryTable_13 h1.a8 rfl (by omega) (by decide) ?_
  refine v_re hB1 ?_
  refine v_icmp_ge (pc := 14) (tgt := 45) d_Mo_tryTable_14 rfl (fun hc => ?_) (fun hc => ?_)
  · skip
    rw [nI_leI (by omega) (by omega)] at hc
    obtain rfl : r = B.length := by omega
    rw [hB3] at hgs
    exact K w1 hgs
  · skip
    rw [nI_leI (by omega) (by omega)] at hc
    refine v_aload_n (pc := 17) d_Mo_tryTable_17 rfl rfl ?_
    refine v_iload_n (pc := 18) d_Mo_tryTable_18 rfl rfl ?_
    refine v_iload_n (pc := 19) d_Mo_tryTable_19 rfl rfl ?_
    refine v_cvV (pc := 20) (A := [.int (nI t), .int (nI r)]) (rest := []) d_Mo_tryTable_20 lk_Mo_90 me_Mo_take im_Mo_take se_Mo_take rfl h1.o rfl rfl (c_Mo_take g h1 (k := t) (r := r) (by omega)) (Nat.le_of_ble_eq_true rfl) (Nat.le_of_ble_eq_true rfl) (Nat.le_of_ble_eq_true rfl) (Nat.le_of_ble_eq_true rfl) (fun w2 ht2 => ?_)
    obtain ⟨o2, h2, hf2, ho2⟩ := ht2
    rw [bx_uu] at h2
    refine v_aload_n (pc := 23) d_Mo_tryTable_23 rfl rfl ?_
    refine v_iconst (pc := 24) (v := nI 2) d_Mo_tryTable_24 rfl ?_
    refine v_aload_n (pc := 25) d_Mo_tryTable_25 rfl rfl ?_
    refine v_get (pc := 26) d_Mo_tryTable_26 fl_Mo_41 h2.o rfl ?_
    refine v_bipush (pc := 29) (v := nI 16) d_Mo_tryTable_29 rfl ?_
    refine v_iload_n (pc := 31) d_Mo_tryTable_31 rfl rfl ?_
    refine v_imul (pc := 32) d_Mo_tryTable_32 ?_
    refine v_re (pk_mul 16 t) ?_
    refine v_iload_n (pc := 33) d_Mo_tryTable_33 rfl rfl ?_
    refine v_iadd (pc := 34) d_Mo_tryTable_34 ?_
    refine v_re (nI_add (16 * t) r) ?_
    refine v_laldN (pc := 35) (k := (16 * t) + r) (f := la 9) d_Mo_tryTable_35 h2.a9 rfl (by omega) (by decide) ?_
    refine v_cvV (pc := 36) (A := [.int (nI 2), .long (la 9 ((16 * t) + r))]) (rest := []) d_Mo_tryTable_36 lk_Mo_94 me_Mo_gather im_Mo_gather se_Mo_gather rfl h2.o rfl rfl (c_Mo_gather g h2 (n := (ma_gf [] (ar_bag (ia 10) (la 9) 2 (16 * t) r)).length) (wd := 2) (many := la 9 (16 * t + r)) rfl (by omega) (by decide)) (Nat.le_of_ble_eq_true rfl) (Nat.le_of_ble_eq_true rfl) (Nat.le_of_ble_eq_true rfl) (Nat.le_of_ble_eq_true rfl) (fun w3 ht3 => ?_)
    have hnext : mo_gs w b sc ia la 2 (ma_gf [] (ar_bag (ia 10) (la 9) 2 (16 * t) (r + 1))) w3 := by
      have e9 := mo_gs.add (hfr.tr hf2) hGG ht3
      have e8 : ar_row o2 2 0 = ar_row (ia 10) 2 (4 * (16 * t + r)) := ar_row_congr (fun c hc => by rw [Nat.zero_add]; exact ho2 c (by omega))
      rw [e8] at e9
      rw [ar_bag_snoc, ma_gf_snoc]
      exact e9
    refine v_iinc (pc := 39) (L' := [(2, .int (nI (r + 1))), (0, .ref b), (1, .int (nI t))]) d_Mo_tryTable_39 rfl (ix_inc _) (by decide) rfl ?_
    refine v_goto (pc := 42) (tgt := 7) d_Mo_tryTable_42 rfl ?_
    refine v_sub (L' := [(2, .int (nI (r + 1))), (0, .ref b), (1, .int (nI t))]) (by simp) ?_
    exact ih (B.length - (r + 1)) (by omega) (r + 1) _ rfl (by omega) hnext
set_option maxRecDepth 100000 in
set_option maxHeartbeats 4000000 in
theorem lp2_Mo_tryTable (g : Gl) {w0 w : Wd} {b sz : Nat} {sc : Nat → Int32} {ia : Nat → Nat → Int32} {la : Nat → Nat → Int64} (hM : MAt w b sc ia la) {t : Nat} {B : MaB} {l : Bt} (ht : t < 3) (hB1 : ia 8 t = nI B.length) (hB2 : B.length ≤ 16) (hB3 : ar_bag (ia 10) (la 9) 2 (16 * t) B.length = B) (hn : sc 3 = nI l.length) (hl8 : l.length ≤ 8) (hl : bt_of (ia 14) (ia 15) (ia 16) (ia 17) l.length = l) (hg : sc 2 = nI 0) {E : Rs → Wd → Nat → Prop} (K : ∀ w1, mo_gs w b sc ia la 2 (ma_gf [] (B ++ bt_adds t l)) w1 → VV g 2 0 0 mi_Mo_tryTable w0 sz E 107 [(2, .int (nI (l.length))), (0, .ref b), (1, .int (nI t))] [] w1 sz 0 0) : ∀ (zz : Nat) (k : Nat) (w1 : Wd), l.length - k = zz → k ≤ l.length → mo_gs w b sc ia la 2 (ma_gf [] (B ++ bt_adds t (bt_of (ia 14) (ia 15) (ia 16) (ia 17) k))) w1 → VV g 2 0 0 mi_Mo_tryTable w0 sz E 47 [(2, .int (nI k)), (0, .ref b), (1, .int (nI t))] [] w1 sz 0 0 := by
  intro zz
  induction zz using Nat.strongRecOn with | _ zz ih => _
  intro k w1 hnn hkn hgs
  obtain ⟨f1, o1, m1, h1, hfr, hGG⟩ := id hgs
  have hlen := ma_gf_len (B ++ bt_adds t (bt_of (ia 14) (ia 15) (ia 16) (ia 17) k)) []
  have hlb := bt_adds_len t (bt_of (ia 14) (ia 15) (ia 16) (ia 17) k)
  rw [bt_of_len] at hlb
  rw [List.length_append] at hlen
  have hl0 : ([] : MaB).length = 0 := rfl
  refine v_iload_n (pc := 47) d_Mo_tryTable_47 rfl rfl ?_
  refine v_aload_n (pc := 48) d_Mo_tryTable_48 rfl rfl ?_
  refine v_get (pc := 49) d_Mo_tryTable_49 fl_Mo_121 h1.o rfl ?_
  refine v_re hn ?_
  refine v_icmp_ge (pc := 52) (tgt := 107) d_Mo_tryTable_52 rfl (fun hc => ?_) (fun hc => ?_)
  · skip
    rw [nI_leI (by omega) (by omega)] at hc
    obtain rfl : k = l.length := by omega
    rw [hl] at hgs
    exact K w1 hgs
  · skip
    rw [nI_leI (by omega) (by omega)] at hc
    refine v_aload_n (pc := 55) d_Mo_tryTable_55 rfl rfl ?_
    refine v_get (pc := 56) d_Mo_tryTable_56 fl_Mo_57 h1.o rfl ?_
    refine v_iload_n (pc := 59) d_Mo_tryTable_59 rfl rfl ?_
    refine v_ialdN (pc := 60) (k := k) (f := ia 14) d_Mo_tryTable_60 h1.a14 rfl (by omega) (by decide) ?_
    refine v_iload_n (pc := 61) d_Mo_tryTable_61 rfl rfl ?_
    refine v_icmp_ne (pc := 62) (tgt := 101) d_Mo_tryTable_62 rfl (fun hc => ?_) (fun hc => ?_)
    · skip
      have hnext : mo_gs w b sc ia la 2 (ma_gf [] (B ++ bt_adds t (bt_of (ia 14) (ia 15) (ia 16) (ia 17) (k + 1)))) w1 := by
        rw [bt_of_snoc, bt_adds_0 hc]
        exact hgs
      refine v_iinc (pc := 101) (L' := [(2, .int (nI (k + 1))), (0, .ref b), (1, .int (nI t))]) d_Mo_tryTable_101 rfl (ix_inc _) (by decide) rfl ?_
      refine v_goto (pc := 104) (tgt := 47) d_Mo_tryTable_104 rfl ?_
      refine v_sub (L' := [(2, .int (nI (k + 1))), (0, .ref b), (1, .int (nI t))]) (by simp) ?_
      exact ih (l.length - (k + 1)) (by omega) (k + 1) _ rfl (by omega) hnext
    · skip
      refine v_aload_n (pc := 65) d_Mo_tryTable_65 rfl rfl ?_
      refine v_get (pc := 66) d_Mo_tryTable_66 fl_Mo_54 h1.o rfl ?_
      refine v_iconst (pc := 69) (v := nI 0) d_Mo_tryTable_69 rfl ?_
      refine v_aload_n (pc := 70) d_Mo_tryTable_70 rfl rfl ?_
      refine v_get (pc := 71) d_Mo_tryTable_71 fl_Mo_60 h1.o rfl ?_
      refine v_iload_n (pc := 74) d_Mo_tryTable_74 rfl rfl ?_
      refine v_ialdN (pc := 75) (k := k) (f := ia 15) d_Mo_tryTable_75 h1.a15 rfl (by omega) (by decide) ?_
      refine v_iastW (pc := 76) (k := 0) (f := o1) d_Mo_tryTable_76 h1.a13 rfl (by omega) (by decide) (fun w2 hn2 hq2 => ?_)
      have h2 := h1.s13 hn2 hq2
      rw [bx_uu] at h2
      refine v_aload_n (pc := 77) d_Mo_tryTable_77 rfl rfl ?_
      refine v_get (pc := 78) d_Mo_tryTable_78 fl_Mo_54 h2.o rfl ?_
      refine v_iconst (pc := 81) (v := nI 1) d_Mo_tryTable_81 rfl ?_
      refine v_aload_n (pc := 82) d_Mo_tryTable_82 rfl rfl ?_
      refine v_get (pc := 83) d_Mo_tryTable_83 fl_Mo_63 h2.o rfl ?_
      refine v_iload_n (pc := 86) d_Mo_tryTable_86 rfl rfl ?_
      refine v_ialdN (pc := 87) (k := k) (f := ia 16) d_Mo_tryTable_87 h2.a16 rfl (by omega) (by decide) ?_
      refine v_iastW (pc := 88) (k := 1) (f := (upd o1 0 (ia 15 k))) d_Mo_tryTable_88 h2.a13 rfl (by omega) (by decide) (fun w3 hn3 hq3 => ?_)
      have h3 := h2.s13 hn3 hq3
      rw [bx_uu] at h3
      refine v_aload_n (pc := 89) d_Mo_tryTable_89 rfl rfl ?_
      refine v_iconst (pc := 90) (v := nI 2) d_Mo_tryTable_90 rfl ?_
      refine v_aload_n (pc := 91) d_Mo_tryTable_91 rfl rfl ?_
      refine v_get (pc := 92) d_Mo_tryTable_92 fl_Mo_66 h3.o rfl ?_
      refine v_iload_n (pc := 95) d_Mo_tryTable_95 rfl rfl ?_
      refine v_ialdN (pc := 96) (k := k) (f := ia 17) d_Mo_tryTable_96 h3.a17 rfl (by omega) (by decide) ?_
      refine v_i2l (pc := 97) d_Mo_tryTable_97 ?_
      refine v_cvV (pc := 98) (A := [.int (nI 2), .long ((ia 17 k).toInt64)]) (rest := []) d_Mo_tryTable_98 lk_Mo_94 me_Mo_gather im_Mo_gather se_Mo_gather rfl h3.o rfl rfl (c_Mo_gather g h3 (n := (ma_gf [] (B ++ bt_adds t (bt_of (ia 14) (ia 15) (ia 16) (ia 17) k))).length) (wd := 2) (many := (ia 17 k).toInt64) rfl (by omega) (by decide)) (Nat.le_of_ble_eq_true rfl) (Nat.le_of_ble_eq_true rfl) (Nat.le_of_ble_eq_true rfl) (Nat.le_of_ble_eq_true rfl) (fun w4 ht4 => ?_)
      have hnext : mo_gs w b sc ia la 2 (ma_gf [] (B ++ bt_adds t (bt_of (ia 14) (ia 15) (ia 16) (ia 17) (k + 1)))) w4 := by
        have e9 := mo_gs.add (w2 := w3) ((hfr.at ⟨by omega, by omega⟩ hq2).at ⟨by omega, by omega⟩ hq3) hGG ht4
        have e8 : ar_row (upd (upd o1 0 (ia 15 k)) 1 (ia 16 k)) 2 0 = [ia 15 k, ia 16 k] := by
          rw [ar_row_cons, ar_row_cons, ar_row_0, Nat.zero_add, pk_us, pk_un (by decide), pk_us]
        rw [e8] at e9
        rw [bt_of_snoc, bt_adds_1 hc, ← List.append_assoc, ma_gf_snoc]
        exact e9
      refine v_iinc (pc := 101) (L' := [(2, .int (nI (k + 1))), (0, .ref b), (1, .int (nI t))]) d_Mo_tryTable_101 rfl (ix_inc _) (by decide) rfl ?_
      refine v_goto (pc := 104) (tgt := 47) d_Mo_tryTable_104 rfl ?_
      refine v_sub (L' := [(2, .int (nI (k + 1))), (0, .ref b), (1, .int (nI t))]) (by simp) ?_
      exact ih (l.length - (k + 1)) (by omega) (k + 1) _ rfl (by omega) hnext
set_option maxRecDepth 100000 in
set_option maxHeartbeats 4000000 in
theorem lp3_Mo_tryTable (g : Gl) {w0 w : Wd} {b sz : Nat} {sc : Nat → Int32} {ia : Nat → Nat → Int32} {la : Nat → Nat → Int64} (hM : MAt w b sc ia la) {t N : Nat} (hN : sc 2 = nI N) (hN2 : N ≤ 256) {E : Rs → Wd → Nat → Prop} (K : VV g 2 0 0 mi_Mo_tryTable w0 sz E 159 [(3, .int (nI N)), (2, .int (if mo_can (la 11) N = true then 1 else 0)), (0, .ref b), (1, .int (nI t))] [] w sz 0 0) : ∀ (zz : Nat) (r : Nat), N - r = zz → r ≤ N → VV g 2 0 0 mi_Mo_tryTable w0 sz E 111 [(3, .int (nI r)), (2, .int (if mo_can (la 11) r = true then 1 else 0)), (0, .ref b), (1, .int (nI t))] [] w sz 0 0 := by
  intro zz
  induction zz using Nat.strongRecOn with | _ zz ih => _
  intro r hnn hrn
  refine v_iload_n (pc := 111) d_Mo_tryTable_111 rfl rfl ?_
  refine v_aload_n (pc := 112) d_Mo_tryTable_112 rfl rfl ?_
  refine v_get (pc := 113) d_Mo_tryTable_113 fl_Mo_72 hM.o rfl ?_
  refine v_re hN ?_
  refine v_icmp_ge (pc := 116) (tgt := 159) d_Mo_tryTable_116 rfl (fun hc => ?_) (fun hc => ?_)
  · skip
    rw [nI_leI (by omega) (by omega)] at hc
    obtain rfl : r = N := by omega
    exact K
  · skip
    rw [nI_leI (by omega) (by omega)] at hc
    refine v_iload_n (pc := 119) d_Mo_tryTable_119 rfl rfl ?_
    refine v_if_eq (pc := 120) (tgt := 151) d_Mo_tryTable_120 rfl (fun hc => ?_) (fun hc => ?_)
    · skip
      rw [zf] at hc
      have hv0 : ¬ mo_can (la 11) (r + 1) = true := by rw [mo_can_s]; exact fun h => hc h.1
      refine v_iconst (pc := 151) (v := nI 0) d_Mo_tryTable_151 rfl ?_
      refine v_re (y := (if mo_can (la 11) (r + 1) = true then 1 else 0)) (zb0 hv0) ?_
      refine v_istore_n (pc := 152) (L' := [(2, .int (if mo_can (la 11) (r + 1) = true then 1 else 0)), (3, .int (nI r)), (0, .ref b), (1, .int (nI t))]) d_Mo_tryTable_152 rfl (by decide) rfl ?_
      refine v_iinc (pc := 153) (L' := [(3, .int (nI (r + 1))), (2, .int (if mo_can (la 11) (r + 1) = true then 1 else 0)), (0, .ref b), (1, .int (nI t))]) d_Mo_tryTable_153 rfl (ix_inc _) (by decide) rfl ?_
      refine v_goto (pc := 156) (tgt := 111) d_Mo_tryTable_156 rfl ?_
      refine v_sub (L' := [(3, .int (nI (r + 1))), (2, .int (if mo_can (la 11) (r + 1) = true then 1 else 0)), (0, .ref b), (1, .int (nI t))]) (by simp) ?_
      exact ih (N - (r + 1)) (by omega) (r + 1) rfl (by omega)
    · skip
      rw [zt] at hc
      have hb := hc
      refine v_aload_n (pc := 123) d_Mo_tryTable_123 rfl rfl ?_
      refine v_get (pc := 124) d_Mo_tryTable_124 fl_Mo_48 hM.o rfl ?_
      refine v_iload_n (pc := 127) d_Mo_tryTable_127 rfl rfl ?_
      refine v_laldN (pc := 128) (k := r) (f := la 11) d_Mo_tryTable_128 hM.a11 rfl (by omega) (by decide) ?_
      refine v_lconst (pc := 129) (v := 0) d_Mo_tryTable_129 rfl ?_
      refine v_lcmp (pc := 130) d_Mo_tryTable_130 ?_
      refine v_if_lt (pc := 131) (tgt := 151) d_Mo_tryTable_131 rfl (fun hc => ?_) (fun hc => ?_)
      · skip
        have hv0 : ¬ mo_can (la 11) (r + 1) = true := by rw [mo_can_s]; exact fun h => by rw [lglt] at hc; exact absurd h.2.1 (Int64.not_le.mpr hc)
        refine v_iconst (pc := 151) (v := nI 0) d_Mo_tryTable_151 rfl ?_
        refine v_re (y := (if mo_can (la 11) (r + 1) = true then 1 else 0)) (zb0 hv0) ?_
        refine v_istore_n (pc := 152) (L' := [(2, .int (if mo_can (la 11) (r + 1) = true then 1 else 0)), (3, .int (nI r)), (0, .ref b), (1, .int (nI t))]) d_Mo_tryTable_152 rfl (by decide) rfl ?_
        refine v_iinc (pc := 153) (L' := [(3, .int (nI (r + 1))), (2, .int (if mo_can (la 11) (r + 1) = true then 1 else 0)), (0, .ref b), (1, .int (nI t))]) d_Mo_tryTable_153 rfl (ix_inc _) (by decide) rfl ?_
        refine v_goto (pc := 156) (tgt := 111) d_Mo_tryTable_156 rfl ?_
        refine v_sub (L' := [(3, .int (nI (r + 1))), (2, .int (if mo_can (la 11) (r + 1) = true then 1 else 0)), (0, .ref b), (1, .int (nI t))]) (by simp) ?_
        exact ih (N - (r + 1)) (by omega) (r + 1) rfl (by omega)
      · skip
        have hlo : 0 ≤ la 11 r := by rw [lglt] at hc; exact Int64.not_lt.mp hc
        refine v_aload_n (pc := 134) d_Mo_tryTable_134 rfl rfl ?_
        refine v_get (pc := 135) d_Mo_tryTable_135 fl_Mo_48 hM.o rfl ?_
        refine v_iload_n (pc := 138) d_Mo_tryTable_138 rfl rfl ?_
        refine v_laldN (pc := 139) (k := r) (f := la 11) d_Mo_tryTable_139 hM.a11 rfl (by omega) (by decide) ?_
        refine v_ldc2 (pc := 140) (v := 99) d_Mo_tryTable_140 k_99 ?_
        refine v_lcmp (pc := 143) d_Mo_tryTable_143 ?_
        refine v_if_gt (pc := 144) (tgt := 151) d_Mo_tryTable_144 rfl (fun hc => ?_) (fun hc => ?_)
        · skip
          have hv0 : ¬ mo_can (la 11) (r + 1) = true := by rw [mo_can_s]; exact fun h => by rw [lggt] at hc; exact absurd h.2.2 (Int64.not_le.mpr hc)
          refine v_iconst (pc := 151) (v := nI 0) d_Mo_tryTable_151 rfl ?_
          refine v_re (y := (if mo_can (la 11) (r + 1) = true then 1 else 0)) (zb0 hv0) ?_
          refine v_istore_n (pc := 152) (L' := [(2, .int (if mo_can (la 11) (r + 1) = true then 1 else 0)), (3, .int (nI r)), (0, .ref b), (1, .int (nI t))]) d_Mo_tryTable_152 rfl (by decide) rfl ?_
          refine v_iinc (pc := 153) (L' := [(3, .int (nI (r + 1))), (2, .int (if mo_can (la 11) (r + 1) = true then 1 else 0)), (0, .ref b), (1, .int (nI t))]) d_Mo_tryTable_153 rfl (ix_inc _) (by decide) rfl ?_
          refine v_goto (pc := 156) (tgt := 111) d_Mo_tryTable_156 rfl ?_
          refine v_sub (L' := [(3, .int (nI (r + 1))), (2, .int (if mo_can (la 11) (r + 1) = true then 1 else 0)), (0, .ref b), (1, .int (nI t))]) (by simp) ?_
          exact ih (N - (r + 1)) (by omega) (r + 1) rfl (by omega)
        · skip
          have hv1 : mo_can (la 11) (r + 1) = true := by rw [lggt] at hc; rw [mo_can_s]; exact ⟨hb, hlo, Int64.not_lt.mp hc⟩
          refine v_iconst (pc := 147) (v := nI 1) d_Mo_tryTable_147 rfl ?_
          refine v_re (y := (if mo_can (la 11) (r + 1) = true then 1 else 0)) (zb1 hv1) ?_
          refine v_goto (pc := 148) (tgt := 152) d_Mo_tryTable_148 rfl ?_
          refine v_istore_n (pc := 152) (L' := [(2, .int (if mo_can (la 11) (r + 1) = true then 1 else 0)), (3, .int (nI r)), (0, .ref b), (1, .int (nI t))]) d_Mo_tryTable_152 rfl (by decide) rfl ?_
          refine v_iinc (pc := 153) (L' := [(3, .int (nI (r + 1))), (2, .int (if mo_can (la 11) (r + 1) = true then 1 else 0)), (0, .ref b), (1, .int (nI t))]) d_Mo_tryTable_153 rfl (ix_inc _) (by decide) rfl ?_
          refine v_goto (pc := 156) (tgt := 111) d_Mo_tryTable_156 rfl ?_
          refine v_sub (L' := [(3, .int (nI (r + 1))), (2, .int (if mo_can (la 11) (r + 1) = true then 1 else 0)), (0, .ref b), (1, .int (nI t))]) (by simp) ?_
          exact ih (N - (r + 1)) (by omega) (r + 1) rfl (by omega)
def mo_tq (w : Wd) (b : Nat) (sc : Nat → Int32) (ia : Nat → Nat → Int32) (la : Nat → Nat → Int64) (k : Nat) (c : MaB) (w' : Wd) : Prop :=
  ∃ sc' ia' la', MAt w' b sc' ia' la' ∧ mo_fr b w w' ∧ mo_ch k sc ia la sc' ia' la' ∧ (tb_ok c = true → BK ia' la' k 2 c)
set_option maxRecDepth 100000 in
set_option maxHeartbeats 4000000 in
theorem c_Mo_tryTable (g : Gl) {w : Wd} {b sz : Nat} {sc : Nat → Int32} {ia : Nat → Nat → Int32} {la : Nat → Nat → Int64} (hM : MAt w b sc ia la) {t : Nat} {B : MaB} {l : Bt} (ht : t < 3) (hB : BK ia la t 2 B) (hn : sc 3 = nI l.length) (hl8 : l.length ≤ 8) (hl : bt_of (ia 14) (ia 15) (ia 16) (ia 17) l.length = l) : CT g 2 0 0 mi_Mo_tryTable [.ref b, .int (nI t)] w sz (wrE (some (.int (if tb_ok (ma_fold [] (B ++ bt_adds t l)) = true then 1 else 0))) sz (mo_tq w b sc ia la (12 + t) (ma_fold [] (B ++ bt_adds t l)))) := by
  refine CT.of (by decide) (Nat.le_of_ble_eq_true rfl) ?_
  obtain ⟨hB1, hB2, hB3⟩ := id hB
  have hA : ∀ x ∈ B ++ bt_adds t l, x.1.length = 2 := fun x hx => by rcases List.mem_append.mp hx with h | h; (exact hB.row x h); (exact bt_adds_row t l x h)
  have hlen := ma_gf_len (B ++ bt_adds t l) []
  have hlb := bt_adds_len t l
  rw [List.length_append] at hlen
  have hl0 : ([] : MaB).length = 0 := rfl
  refine v_aload_n (pc := 0) d_Mo_tryTable_0 rfl rfl ?_
  refine v_iconst (pc := 1) (v := nI 0) d_Mo_tryTable_1 rfl ?_
  refine v_putW (pc := 2) (fs' := (mo_fs b (va_up sc 2 (nI 0)))) d_Mo_tryTable_2 fl_Mo_72 (fi_Mo_72 _) (ok_Mo_13 _) hM.o (Nat.le_of_ble_eq_true rfl) rfl (fun w1 hn1 hq1 => ?_)
  have hM1 := hM.n2 hn1 hq1
  refine v_iconst (pc := 5) (v := nI 0) d_Mo_tryTable_5 rfl ?_
  refine v_istore_n (pc := 6) (L' := [(2, .int (nI 0)), (0, .ref b), (1, .int (nI t))]) d_Mo_tryTable_6 rfl (by decide) rfl ?_
  refine v_sub (L' := [(2, .int (nI 0)), (0, .ref b), (1, .int (nI t))]) (by simp) ?_
  refine lp1_Mo_tryTable g hM1 (t := t) (B := B) (l := l) ht hB1 hB2 hB3 hn hl8 hl rfl (fun w2 hgs2 => ?_) B.length 0 w1 rfl (by omega) (mo_gs.start (G := []) hM1 rfl rfl)
  refine v_iconst (pc := 45) (v := nI 0) d_Mo_tryTable_45 rfl ?_
  refine v_istore_n (pc := 46) (L' := [(2, .int (nI 0)), (0, .ref b), (1, .int (nI t))]) d_Mo_tryTable_46 rfl (by decide) rfl ?_
  refine v_sub (L' := [(2, .int (nI 0)), (0, .ref b), (1, .int (nI t))]) (by simp) ?_
  refine lp2_Mo_tryTable g hM1 (t := t) (B := B) (l := l) ht hB1 hB2 hB3 hn hl8 hl rfl (fun w3 hgs => ?_) l.length 0 w2 rfl (by omega) (by rw [show bt_of (ia 14) (ia 15) (ia 16) (ia 17) 0 = [] from rfl, show bt_adds t [] = [] from rfl, List.append_nil]; exact hgs2)
  obtain ⟨f1, o1, m1, h1, hfr, hGG⟩ := id hgs
  refine v_iconst (pc := 107) (v := nI 1) d_Mo_tryTable_107 rfl ?_
  refine v_re (y := (if mo_can m1 0 = true then 1 else 0)) rfl ?_
  refine v_istore_n (pc := 108) (L' := [(2, .int (if mo_can m1 0 = true then 1 else 0)), (0, .ref b), (1, .int (nI t))]) d_Mo_tryTable_108 rfl (by decide) rfl ?_
  refine v_iconst (pc := 109) (v := nI 0) d_Mo_tryTable_109 rfl ?_
  refine v_istore_n (pc := 110) (L' := [(3, .int (nI 0)), (2, .int (if mo_can m1 0 = true then 1 else 0)), (0, .ref b), (1, .int (nI t))]) d_Mo_tryTable_110 rfl (by decide) rfl ?_
  refine v_sub (L' := [(3, .int (nI 0)), (2, .int (if mo_can m1 0 = true then 1 else 0)), (0, .ref b), (1, .int (nI t))]) (by simp) ?_
  refine lp3_Mo_tryTable g h1 (t := t) (N := (ma_gf [] (B ++ bt_adds t l)).length) rfl (by omega) ?_ (ma_gf [] (B ++ bt_adds t l)).length 0 rfl (by omega)
  show VV g 2 0 0 mi_Mo_tryTable w sz _ 159 [(3, .int (nI ((ma_gf [] (B ++ bt_adds t l)).length))), (2, .int (if mo_can m1 (ma_gf [] (B ++ bt_adds t l)).length = true then 1 else 0)), (0, .ref b), (1, .int (nI t))] [] w3 sz 0 0
  have hcan := mo_can_in hA hGG
  refine v_iload_n (pc := 159) d_Mo_tryTable_159 rfl rfl ?_
  refine v_if_eq (pc := 160) (tgt := 181) d_Mo_tryTable_160 rfl (fun hc => ?_) (fun hc => ?_)
  · skip
    rw [zf] at hc
    refine v_iconst (pc := 181) (v := nI 0) d_Mo_tryTable_181 rfl ?_
    exact v_zret (pc := 182) d_Mo_tryTable_182 rfl z01 (Nat.le_of_ble_eq_true rfl) (Nat.le_of_ble_eq_true rfl) ⟨zr0 (fun h => hc (hcan.mpr (tb_iff.mp h).2)), rfl, _, _, _, h1, (mo_fr.rf.at ⟨by omega, by omega⟩ hq1).tr hfr, ⟨fun j hj => by rw [va_up_ne _ _ hj, va_up_ne _ _ hj], fun i a1 a2 a3 a4 => by rw [va_up_ne _ _ a4, va_up_ne _ _ a3], fun i hi => rfl, fun i hi => rfl, fun i hi => rfl⟩, fun h => absurd (hcan.mpr (tb_iff.mp h).2) hc⟩
  · skip
    rw [zt] at hc
    have hb := hcan.mp hc
    refine v_aload_n (pc := 163) d_Mo_tryTable_163 rfl rfl ?_
    refine v_bipush (pc := 164) (v := nI 12) d_Mo_tryTable_164 rfl ?_
    refine v_iload_n (pc := 166) d_Mo_tryTable_166 rfl rfl ?_
    refine v_iadd (pc := 167) d_Mo_tryTable_167 ?_
    refine v_re (nI_add 12 t) ?_
    refine v_iconst (pc := 168) (v := nI 2) d_Mo_tryTable_168 rfl ?_
    refine v_bipush (pc := 169) (v := nI 8) d_Mo_tryTable_169 rfl ?_
    refine v_cvX (pc := 171) (A := [.int (nI (12 + t)), .int (nI 2), .int (nI 8)]) (rest := []) (x := .int (if (ma_fold [] (B ++ bt_adds t l)).length ≤ 8 then 1 else 0)) d_Mo_tryTable_171 lk_Mo_118 me_Mo_settle im_Mo_settle se_Mo_settle rfl h1.o rfl rfl (c_Mo_settle g (k := 12 + t) (wd := 2) (mo := 8) (A := B ++ bt_adds t l) (by omega) (by decide) (by decide) (by decide) (by omega) hA hgs) (Nat.le_of_ble_eq_true rfl) (Nat.le_of_ble_eq_true rfl) (Nat.le_of_ble_eq_true rfl) (Nat.le_of_ble_eq_true rfl) (fun w9 h9 => ?_)
    refine v_if_eq (pc := 174) (tgt := 181) d_Mo_tryTable_174 rfl (fun hc => ?_) (fun hc => ?_)
    · skip
      rw [zf] at hc
      refine v_iconst (pc := 181) (v := nI 0) d_Mo_tryTable_181 rfl ?_
      obtain ⟨sc', ia', la', q1, q2, q3, q4⟩ := h9
      exact v_zret (pc := 182) d_Mo_tryTable_182 rfl z01 (Nat.le_of_ble_eq_true rfl) (Nat.le_of_ble_eq_true rfl) ⟨zr0 (fun h => hc (tb_iff.mp h).1), rfl, sc', ia', la', q1, (mo_fr.rf.at ⟨by omega, by omega⟩ hq1).tr q2, ⟨fun j hj => (q3.1 j hj).trans (va_up_ne _ _ hj), q3.2⟩, fun h => absurd (tb_iff.mp h).1 hc⟩
    · skip
      rw [zt] at hc
      refine v_iconst (pc := 177) (v := nI 1) d_Mo_tryTable_177 rfl ?_
      refine v_goto (pc := 178) (tgt := 182) d_Mo_tryTable_178 rfl ?_
      obtain ⟨sc', ia', la', q1, q2, q3, q4⟩ := h9
      exact v_zret (pc := 182) d_Mo_tryTable_182 rfl z11 (Nat.le_of_ble_eq_true rfl) (Nat.le_of_ble_eq_true rfl) ⟨zr1 (tb_iff.mpr ⟨hc, hb⟩), rfl, sc', ia', la', q1, (mo_fr.rf.at ⟨by omega, by omega⟩ hq1).tr q2, ⟨fun j hj => (q3.1 j hj).trans (va_up_ne _ _ hj), q3.2⟩, fun h => q4 (tb_iff.mp h).1⟩
