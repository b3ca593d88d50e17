/-! settling: by ranks into the sorted order -/
def mo_nz (m : Nat → Int64) (s : Nat) : Nat := (List.range s).countP (fun i => decide (m i ≠ 0))
def mo_rk (f : Nat → Int32) (m : Nat → Int64) (wd : Nat) (q : List Int32) (s : Nat) : Nat := (List.range s).countP (fun i => decide (m i ≠ 0) && ma_lt (ar_row f wd (4 * i)) q)
theorem mo_nz_s (m : Nat → Int64) (s : Nat) : mo_nz m (s + 1) = mo_nz m s + if m s ≠ 0 then 1 else 0 := by
  unfold mo_nz
  rw [List.range_succ, List.countP_append, List.countP_singleton]
  by_cases h : m s = 0 <;> simp [h]
theorem mo_nz_le (m : Nat → Int64) (s : Nat) : mo_nz m s ≤ s := by
  have := List.countP_le_length (p := fun i => decide (m i ≠ 0)) (l := List.range s)
  rwa [List.length_range] at this
theorem mo_rk_1 {f : Nat → Int32} {m : Nat → Int64} {wd : Nat} {q : List Int32} {s : Nat} (h1 : ¬ m s = 0) (h2 : ma_lt (ar_row f wd (4 * s)) q = true) : mo_rk f m wd q (s + 1) = mo_rk f m wd q s + 1 := by
  unfold mo_rk
  rw [List.range_succ, List.countP_append, List.countP_singleton]
  simp [h1, h2]
theorem mo_rk_0 {f : Nat → Int32} {m : Nat → Int64} {wd : Nat} {q : List Int32} {s : Nat} (h : m s = 0 ∨ ¬ ma_lt (ar_row f wd (4 * s)) q = true) : mo_rk f m wd q (s + 1) = mo_rk f m wd q s := by
  unfold mo_rk
  rw [List.range_succ, List.countP_append, List.countP_singleton]
  rcases h with h | h
  · simp [h]
  · simp [Bool.eq_false_iff.mpr h]
theorem mo_rk_le (f : Nat → Int32) (m : Nat → Int64) (wd : Nat) (q : List Int32) (s : Nat) : mo_rk f m wd q s ≤ s := by
  have := List.countP_le_length (p := fun i => decide (m i ≠ 0) && ma_lt (ar_row f wd (4 * i)) q) (l := List.range s)
  rwa [List.length_range] at this
section ST
variable {f : Nat → Int32} {m : Nat → Int64} {wd n : Nat} {c : MaB}
theorem mo_len (hp : ((ar_bag f m wd 0 n).filter (fun x => decide (x.2 ≠ 0))).Perm c) : mo_nz m n = c.length := by
  rw [← hp.length_eq, ← List.countP_eq_length_filter]
  unfold ar_bag mo_nz
  rw [List.countP_map]
  congr 1
  funext i
  simp
theorem mo_at (hp : ((ar_bag f m wd 0 n).filter (fun x => decide (x.2 ≠ 0))).Perm c) {i : Nat} (hi : i < c.length) : ∃ s, s < n ∧ m s ≠ 0 ∧ c[i]? = some (ar_row f wd (4 * s), m s) := by
  have h := hp.symm.mem_iff.mp (List.getElem_mem hi)
  obtain ⟨h1, h2⟩ := List.mem_filter.mp h
  obtain ⟨s, hs, e⟩ := ar_bag_mem h1
  rw [Nat.zero_add] at e
  refine ⟨s, hs, ?_, ?_⟩
  · have := of_decide_eq_true h2
    rw [e] at this
    exact this
  · rw [List.getElem?_eq_getElem hi, e]
theorem mo_rank (hok : ma_ok wd c) (hp : ((ar_bag f m wd 0 n).filter (fun x => decide (x.2 ≠ 0))).Perm c) {s : Nat} (hs : s < n) (hm : m s ≠ 0) : mo_rk f m wd (ar_row f wd (4 * s)) n < c.length ∧ c[mo_rk f m wd (ar_row f wd (4 * s)) n]? = some (ar_row f wd (4 * s), m s) := by
  have hin : (ar_row f wd (4 * s), m s) ∈ c := by
    refine hp.mem_iff.mp (List.mem_filter.mpr ⟨?_, decide_eq_true hm⟩)
    have := List.mem_of_getElem? (ar_bag_get (f := f) (m := m) (w := wd) (o := 0) hs)
    rwa [Nat.zero_add] at this
  obtain ⟨i, hi, e⟩ := List.getElem_of_mem hin
  have hr := ma_rank hok hi
  rw [e] at hr
  have e2 : mo_rk f m wd (ar_row f wd (4 * s)) n = c.countP (fun x => ma_lt x.1 (ar_row f wd (4 * s))) := by
    rw [← hp.countP_eq, List.countP_filter]
    unfold ar_bag mo_rk
    rw [List.countP_map]
    congr 1
    funext i
    simp [Bool.and_comm]
  rw [e2]
  dsimp only at hr
  rw [hr]
  exact ⟨hi, by rw [List.getElem?_eq_getElem hi, e]⟩
end ST
set_option maxRecDepth 100000 in
set_option maxHeartbeats 4000000 in
theorem lp1_Mo_settle (g : Gl) {w0 w : Wd} {b sz : Nat} {sc : Nat → Int32} {ia : Nat → Nat → Int32} {la : Nat → Nat → Int64} (hM : MAt w b sc ia la) {n k wd mo : Nat} (hg : sc 2 = nI n) (hn : n ≤ 256) (hk : k < 24) (hw1 : 1 ≤ wd) (hwd : wd ≤ 4) (hmo : mo ≤ 16) {E : Rs → Wd → Nat → Prop} (K : VV g 1 0 0 mi_Mo_settle w0 sz E 44 [(5, .int (nI n)), (4, .int (nI (mo_nz (la 11) n))), (0, .ref b), (1, .int (nI k)), (2, .int (nI wd)), (3, .int (nI mo))] [] w sz 0 0) : ∀ (zz : Nat) (r : Nat), n - r = zz → r ≤ n → VV g 1 0 0 mi_Mo_settle w0 sz E 6 [(5, .int (nI r)), (4, .int (nI (mo_nz (la 11) r))), (0, .ref b), (1, .int (nI k)), (2, .int (nI wd)), (3, .int (nI mo))] [] w sz 0 0 := by
  intro zz
  induction zz using Nat.strongRecOn with | _ zz ih => _
  intro r hnn hrn
  have hle := mo_nz_le (la 11) r
  refine v_iload (pc := 6) d_Mo_settle_6 rfl ?_
  refine v_aload_n (pc := 8) d_Mo_settle_8 rfl rfl ?_
  refine v_get (pc := 9) d_Mo_settle_9 fl_Mo_72 hM.o rfl ?_
  refine v_re hg ?_
  refine v_icmp_ge (pc := 12) (tgt := 44) d_Mo_settle_12 rfl (fun hc => ?_) (fun hc => ?_)
  · skip
    rw [nI_leI (by omega) (by omega)] at hc
    obtain rfl : r = n := by omega
    exact K
  · skip
    rw [nI_leI (by omega) (by omega)] at hc
    refine v_aload_n (pc := 15) d_Mo_settle_15 rfl rfl ?_
    refine v_get (pc := 16) d_Mo_settle_16 fl_Mo_48 hM.o rfl ?_
    refine v_iload (pc := 19) d_Mo_settle_19 rfl ?_
    refine v_laldN (pc := 21) (k := r) (f := la 11) d_Mo_settle_21 hM.a11 rfl (by omega) (by decide) ?_
    refine v_lconst (pc := 22) (v := 0) d_Mo_settle_22 rfl ?_
    refine v_lcmp (pc := 23) d_Mo_settle_23 ?_
    refine v_if_eq (pc := 24) (tgt := 34) d_Mo_settle_24 rfl (fun hc => ?_) (fun hc => ?_)
    · skip
      rw [lg0] at hc
      refine v_iload (pc := 34) d_Mo_settle_34 rfl ?_
      refine v_re (y := nI (mo_nz (la 11) (r + 1))) (by rw [mo_nz_s, if_neg (fun h => h hc)]; rfl) ?_
      refine v_istore (pc := 36) (L' := [(4, .int (nI (mo_nz (la 11) (r + 1)))), (5, .int (nI r)), (0, .ref b), (1, .int (nI k)), (2, .int (nI wd)), (3, .int (nI mo))]) d_Mo_settle_36 (by decide) rfl ?_
      refine v_iinc (pc := 38) (L' := [(5, .int (nI (r + 1))), (4, .int (nI (mo_nz (la 11) (r + 1)))), (0, .ref b), (1, .int (nI k)), (2, .int (nI wd)), (3, .int (nI mo))]) d_Mo_settle_38 rfl (ix_inc _) (by decide) rfl ?_
      refine v_goto (pc := 41) (tgt := 6) d_Mo_settle_41 rfl ?_
      refine v_sub (L' := [(5, .int (nI (r + 1))), (4, .int (nI (mo_nz (la 11) (r + 1)))), (0, .ref b), (1, .int (nI k)), (2, .int (nI wd)), (3, .int (nI mo))]) (by simp) ?_
      exact ih (n - (r + 1)) (by omega) (r + 1) rfl (by omega)
    · skip
      rw [lg0] at hc
      refine v_iload (pc := 27) d_Mo_settle_27 rfl ?_
      refine v_iconst (pc := 29) (v := nI 1) d_Mo_settle_29 rfl ?_
      refine v_iadd (pc := 30) d_Mo_settle_30 ?_
      refine v_re (nI_add (mo_nz (la 11) r) 1) ?_
      refine v_goto (pc := 31) (tgt := 36) d_Mo_settle_31 rfl ?_
      refine v_re (y := nI (mo_nz (la 11) (r + 1))) (by rw [mo_nz_s, if_pos hc]) ?_
      refine v_istore (pc := 36) (L' := [(4, .int (nI (mo_nz (la 11) (r + 1)))), (5, .int (nI r)), (0, .ref b), (1, .int (nI k)), (2, .int (nI wd)), (3, .int (nI mo))]) d_Mo_settle_36 (by decide) rfl ?_
      refine v_iinc (pc := 38) (L' := [(5, .int (nI (r + 1))), (4, .int (nI (mo_nz (la 11) (r + 1)))), (0, .ref b), (1, .int (nI k)), (2, .int (nI wd)), (3, .int (nI mo))]) d_Mo_settle_38 rfl (ix_inc _) (by decide) rfl ?_
      refine v_goto (pc := 41) (tgt := 6) d_Mo_settle_41 rfl ?_
      refine v_sub (L' := [(5, .int (nI (r + 1))), (4, .int (nI (mo_nz (la 11) (r + 1)))), (0, .ref b), (1, .int (nI k)), (2, .int (nI wd)), (3, .int (nI mo))]) (by simp) ?_
      exact ih (n - (r + 1)) (by omega) (r + 1) rfl (by omega)
set_option maxRecDepth 100000 in
set_option maxHeartbeats 4000000 in
theorem lp3_Mo_settle (g : Gl) {w0 w : Wd} {b sz : Nat} {sc : Nat → Int32} {ia : Nat → Nat → Int32} {la : Nat → Nat → Int64} (hM : MAt w b sc ia la) {n k wd mo : Nat} (hg : sc 2 = nI n) (hn : n ≤ 256) (hk : k < 24) (hw1 : 1 ≤ wd) (hwd : wd ≤ 4) (hmo : mo ≤ 16) {r N0 : Nat} (hr : r < n) {E : Rs → Wd → Nat → Prop} (K : VV g 1 0 0 mi_Mo_settle w0 sz E 131 [(7, .int (nI n)), (6, .int (nI (16 * k + mo_rk (ia 12) (la 11) wd (ar_row (ia 12) wd (4 * r)) n))), (5, .int (nI r)), (4, .int (nI N0)), (0, .ref b), (1, .int (nI k)), (2, .int (nI wd)), (3, .int (nI mo))] [] w sz 0 0) : ∀ (zz : Nat) (s : Nat), n - s = zz → s ≤ n → VV g 1 0 0 mi_Mo_settle w0 sz E 81 [(7, .int (nI s)), (6, .int (nI (16 * k + mo_rk (ia 12) (la 11) wd (ar_row (ia 12) wd (4 * r)) s))), (5, .int (nI r)), (4, .int (nI N0)), (0, .ref b), (1, .int (nI k)), (2, .int (nI wd)), (3, .int (nI mo))] [] w sz 0 0 := by
  intro zz
  induction zz using Nat.strongRecOn with | _ zz ih => _
  intro s hnn hsn
  have hle := mo_rk_le (ia 12) (la 11) wd (ar_row (ia 12) wd (4 * r)) s
  refine v_iload (pc := 81) d_Mo_settle_81 rfl ?_
  refine v_aload_n (pc := 83) d_Mo_settle_83 rfl rfl ?_
  refine v_get (pc := 84) d_Mo_settle_84 fl_Mo_72 hM.o rfl ?_
  refine v_re hg ?_
  refine v_icmp_ge (pc := 87) (tgt := 131) d_Mo_settle_87 rfl (fun hc => ?_) (fun hc => ?_)
  · skip
    rw [nI_leI (by omega) (by omega)] at hc
    obtain rfl : s = n := by omega
    exact K
  · skip
    rw [nI_leI (by omega) (by omega)] at hc
    refine v_aload_n (pc := 90) d_Mo_settle_90 rfl rfl ?_
    refine v_get (pc := 91) d_Mo_settle_91 fl_Mo_48 hM.o rfl ?_
    refine v_iload (pc := 94) d_Mo_settle_94 rfl ?_
    refine v_laldN (pc := 96) (k := s) (f := la 11) d_Mo_settle_96 hM.a11 rfl (by omega) (by decide) ?_
    refine v_lconst (pc := 97) (v := 0) d_Mo_settle_97 rfl ?_
    refine v_lcmp (pc := 98) d_Mo_settle_98 ?_
    refine v_if_eq (pc := 99) (tgt := 121) d_Mo_settle_99 rfl (fun hc => ?_) (fun hc => ?_)
    · skip
      rw [lg0] at hc
      have hor : la 11 s = 0 ∨ ¬ ma_lt (ar_row (ia 12) wd (4 * s)) (ar_row (ia 12) wd (4 * r)) = true := Or.inl hc
      refine v_iload (pc := 121) d_Mo_settle_121 rfl ?_
      refine v_re (y := nI (16 * k + mo_rk (ia 12) (la 11) wd (ar_row (ia 12) wd (4 * r)) (s + 1))) (by rw [mo_rk_0 hor]) ?_
      refine v_istore (pc := 123) (L' := [(6, .int (nI (16 * k + mo_rk (ia 12) (la 11) wd (ar_row (ia 12) wd (4 * r)) (s + 1)))), (7, .int (nI s)), (5, .int (nI r)), (4, .int (nI N0)), (0, .ref b), (1, .int (nI k)), (2, .int (nI wd)), (3, .int (nI mo))]) d_Mo_settle_123 (by decide) rfl ?_
      refine v_iinc (pc := 125) (L' := [(7, .int (nI (s + 1))), (6, .int (nI (16 * k + mo_rk (ia 12) (la 11) wd (ar_row (ia 12) wd (4 * r)) (s + 1)))), (5, .int (nI r)), (4, .int (nI N0)), (0, .ref b), (1, .int (nI k)), (2, .int (nI wd)), (3, .int (nI mo))]) d_Mo_settle_125 rfl (ix_inc _) (by decide) rfl ?_
      refine v_goto (pc := 128) (tgt := 81) d_Mo_settle_128 rfl ?_
      refine v_sub (L' := [(7, .int (nI (s + 1))), (6, .int (nI (16 * k + mo_rk (ia 12) (la 11) wd (ar_row (ia 12) wd (4 * r)) (s + 1)))), (5, .int (nI r)), (4, .int (nI N0)), (0, .ref b), (1, .int (nI k)), (2, .int (nI wd)), (3, .int (nI mo))]) (by simp) ?_
      exact ih (n - (s + 1)) (by omega) (s + 1) rfl (by omega)
    · skip
      rw [lg0] at hc
      have hz := hc
      refine v_aload_n (pc := 102) d_Mo_settle_102 rfl rfl ?_
      refine v_iload (pc := 103) d_Mo_settle_103 rfl ?_
      refine v_iload (pc := 105) d_Mo_settle_105 rfl ?_
      refine v_iload_n (pc := 107) d_Mo_settle_107 rfl rfl ?_
      refine v_cvR (pc := 108) (A := [.int (nI s), .int (nI r), .int (nI wd)]) (rest := []) (x := .int (if ma_lt (ar_row (ia 12) wd (4 * s)) (ar_row (ia 12) wd (4 * r)) = true then 1 else 0)) d_Mo_settle_108 lk_Mo_79 me_Mo_comesBefore im_Mo_comesBefore se_Mo_comesBefore rfl hM.o rfl rfl (c_Mo_comesBefore g hM (r := s) (s := r) (wd := wd) (by omega) (by omega) hw1 hwd) (Nat.le_of_ble_eq_true rfl) (Nat.le_of_ble_eq_true rfl) (Nat.le_of_ble_eq_true rfl) (Nat.le_of_ble_eq_true rfl) ?_
      refine v_if_eq (pc := 111) (tgt := 121) d_Mo_settle_111 rfl (fun hc => ?_) (fun hc => ?_)
      · skip
        rw [zf] at hc
        have hor : la 11 s = 0 ∨ ¬ ma_lt (ar_row (ia 12) wd (4 * s)) (ar_row (ia 12) wd (4 * r)) = true := Or.inr hc
        refine v_iload (pc := 121) d_Mo_settle_121 rfl ?_
        refine v_re (y := nI (16 * k + mo_rk (ia 12) (la 11) wd (ar_row (ia 12) wd (4 * r)) (s + 1))) (by rw [mo_rk_0 hor]) ?_
        refine v_istore (pc := 123) (L' := [(6, .int (nI (16 * k + mo_rk (ia 12) (la 11) wd (ar_row (ia 12) wd (4 * r)) (s + 1)))), (7, .int (nI s)), (5, .int (nI r)), (4, .int (nI N0)), (0, .ref b), (1, .int (nI k)), (2, .int (nI wd)), (3, .int (nI mo))]) d_Mo_settle_123 (by decide) rfl ?_
        refine v_iinc (pc := 125) (L' := [(7, .int (nI (s + 1))), (6, .int (nI (16 * k + mo_rk (ia 12) (la 11) wd (ar_row (ia 12) wd (4 * r)) (s + 1)))), (5, .int (nI r)), (4, .int (nI N0)), (0, .ref b), (1, .int (nI k)), (2, .int (nI wd)), (3, .int (nI mo))]) d_Mo_settle_125 rfl (ix_inc _) (by decide) rfl ?_
        refine v_goto (pc := 128) (tgt := 81) d_Mo_settle_128 rfl ?_
        refine v_sub (L' := [(7, .int (nI (s + 1))), (6, .int (nI (16 * k + mo_rk (ia 12) (la 11) wd (ar_row (ia 12) wd (4 * r)) (s + 1)))), (5, .int (nI r)), (4, .int (nI N0)), (0, .ref b), (1, .int (nI k)), (2, .int (nI wd)), (3, .int (nI mo))]) (by simp) ?_
        exact ih (n - (s + 1)) (by omega) (s + 1) rfl (by omega)
      · skip
        rw [zt] at hc
        refine v_iload (pc := 114) d_Mo_settle_114 rfl ?_
        refine v_iconst (pc := 116) (v := nI 1) d_Mo_settle_116 rfl ?_
        refine v_iadd (pc := 117) d_Mo_settle_117 ?_
        refine v_re (nI_add (16 * k + mo_rk (ia 12) (la 11) wd (ar_row (ia 12) wd (4 * r)) s) 1) ?_
        refine v_goto (pc := 118) (tgt := 123) d_Mo_settle_118 rfl ?_
        refine v_re (y := nI (16 * k + mo_rk (ia 12) (la 11) wd (ar_row (ia 12) wd (4 * r)) (s + 1))) (by rw [mo_rk_1 hz hc]; rfl) ?_
        refine v_istore (pc := 123) (L' := [(6, .int (nI (16 * k + mo_rk (ia 12) (la 11) wd (ar_row (ia 12) wd (4 * r)) (s + 1)))), (7, .int (nI s)), (5, .int (nI r)), (4, .int (nI N0)), (0, .ref b), (1, .int (nI k)), (2, .int (nI wd)), (3, .int (nI mo))]) d_Mo_settle_123 (by decide) rfl ?_
        refine v_iinc (pc := 125) (L' := [(7, .int (nI (s + 1))), (6, .int (nI (16 * k + mo_rk (ia 12) (la 11) wd (ar_row (ia 12) wd (4 * r)) (s + 1)))), (5, .int (nI r)), (4, .int (nI N0)), (0, .ref b), (1, .int (nI k)), (2, .int (nI wd)), (3, .int (nI mo))]) d_Mo_settle_125 rfl (ix_inc _) (by decide) rfl ?_
        refine v_goto (pc := 128) (tgt := 81) d_Mo_settle_128 rfl ?_
        refine v_sub (L' := [(7, .int (nI (s + 1))), (6, .int (nI (16 * k + mo_rk (ia 12) (la 11) wd (ar_row (ia 12) wd (4 * r)) (s + 1)))), (5, .int (nI r)), (4, .int (nI N0)), (0, .ref b), (1, .int (nI k)), (2, .int (nI wd)), (3, .int (nI mo))]) (by simp) ?_
        exact ih (n - (s + 1)) (by omega) (s + 1) rfl (by omega)
set_option maxRecDepth 100000 in
set_option maxHeartbeats 4000000 in
theorem lp4_Mo_settle (g : Gl) {w0 w : Wd} {b sz : Nat} {sc : Nat → Int32} {ia : Nat → Nat → Int32} {la : Nat → Nat → Int64} (hM : MAt w b sc ia la) {n k wd mo : Nat} (hg : sc 2 = nI n) (hn : n ≤ 256) (hk : k < 24) (hw1 : 1 ≤ wd) (hwd : wd ≤ 4) (hmo : mo ≤ 16) {r N0 at_ : Nat} (hr : r < n) (hat : at_ < 384) {E : Rs → Wd → Nat → Prop} (K : ∀ w1 f1, MAt w1 b sc (va_up ia 10 f1) la → mo_fr b w w1 → (∀ j, j < 4 → f1 (4 * at_ + j) = ia 12 (4 * r + j)) → (∀ i, i < 4 * at_ ∨ 4 * at_ + 4 ≤ i → f1 i = ia 10 i) → VV g 1 0 0 mi_Mo_settle w0 sz E 196 [(7, .int (nI 4)), (6, .int (nI at_)), (5, .int (nI r)), (4, .int (nI N0)), (0, .ref b), (1, .int (nI k)), (2, .int (nI wd)), (3, .int (nI mo))] [] w1 sz 0 0) : ∀ (zz : Nat) (c : Nat) (w1 : Wd) (f1 : Nat → Int32), 4 - c = zz → c ≤ 4 → MAt w1 b sc (va_up ia 10 f1) la → mo_fr b w w1 → (∀ j, j < c → f1 (4 * at_ + j) = ia 12 (4 * r + j)) → (∀ i, i < 4 * at_ ∨ 4 * at_ + 4 ≤ i → f1 i = ia 10 i) → VV g 1 0 0 mi_Mo_settle w0 sz E 160 [(7, .int (nI c)), (6, .int (nI at_)), (5, .int (nI r)), (4, .int (nI N0)), (0, .ref b), (1, .int (nI k)), (2, .int (nI wd)), (3, .int (nI mo))] [] w1 sz 0 0 := by
  intro zz
  induction zz using Nat.strongRecOn with | _ zz ih => _
  intro c w1 f1 hnn hc4 h1 h3 h4 h5
  refine v_iload (pc := 160) d_Mo_settle_160 rfl ?_
  refine v_iconst (pc := 162) (v := nI 4) d_Mo_settle_162 rfl ?_
  refine v_icmp_ge (pc := 163) (tgt := 196) d_Mo_settle_163 rfl (fun hc => ?_) (fun hc => ?_)
  · skip
    rw [nI_leI (by omega) (by omega)] at hc
    obtain rfl : c = 4 := by omega
    exact K w1 f1 h1 h3 h4 h5
  · skip
    rw [nI_leI (by omega) (by omega)] at hc
    refine v_aload_n (pc := 166) d_Mo_settle_166 rfl rfl ?_
    refine v_get (pc := 167) d_Mo_settle_167 fl_Mo_45 h1.o rfl ?_
    refine v_iconst (pc := 170) (v := nI 4) d_Mo_settle_170 rfl ?_
    refine v_iload (pc := 171) d_Mo_settle_171 rfl ?_
    refine v_imul (pc := 173) d_Mo_settle_173 ?_
    refine v_re (pk_mul 4 at_) ?_
    refine v_iload (pc := 174) d_Mo_settle_174 rfl ?_
    refine v_iadd (pc := 176) d_Mo_settle_176 ?_
    refine v_re (nI_add (4 * at_) c) ?_
    refine v_aload_n (pc := 177) d_Mo_settle_177 rfl rfl ?_
    refine v_get (pc := 178) d_Mo_settle_178 fl_Mo_51 h1.o rfl ?_
    refine v_iconst (pc := 181) (v := nI 4) d_Mo_settle_181 rfl ?_
    refine v_iload (pc := 182) d_Mo_settle_182 rfl ?_
    refine v_imul (pc := 184) d_Mo_settle_184 ?_
    refine v_re (pk_mul 4 r) ?_
    refine v_iload (pc := 185) d_Mo_settle_185 rfl ?_
    refine v_iadd (pc := 187) d_Mo_settle_187 ?_
    refine v_re (nI_add (4 * r) c) ?_
    refine v_ialdN (pc := 188) (k := (4 * r) + c) (f := ia 12) d_Mo_settle_188 h1.a12 rfl (by omega) (by decide) ?_
    refine v_iastW (pc := 189) (k := (4 * at_) + c) (f := f1) d_Mo_settle_189 h1.a10 rfl (by omega) (by decide) (fun w2 hn2 hq2 => ?_)
    have h2 := h1.s10 hn2 hq2
    rw [bx_uu] at h2
    refine v_iinc (pc := 190) (L' := [(7, .int (nI (c + 1))), (6, .int (nI at_)), (5, .int (nI r)), (4, .int (nI N0)), (0, .ref b), (1, .int (nI k)), (2, .int (nI wd)), (3, .int (nI mo))]) d_Mo_settle_190 rfl (ix_inc _) (by decide) rfl ?_
    refine v_goto (pc := 193) (tgt := 160) d_Mo_settle_193 rfl ?_
    refine v_sub (L' := [(7, .int (nI (c + 1))), (6, .int (nI at_)), (5, .int (nI r)), (4, .int (nI N0)), (0, .ref b), (1, .int (nI k)), (2, .int (nI wd)), (3, .int (nI mo))]) (by simp) ?_
    exact ih (4 - (c + 1)) (by omega) (c + 1) w2 (upd f1 (4 * at_ + c) (ia 12 (4 * r + c))) rfl (by omega) h2 (h3.at ⟨by omega, by omega⟩ hq2) (fun j hj => by by_cases hjc : j = c; (subst hjc; exact pk_us); (rw [pk_un (by omega)]; exact h4 j (by omega))) (fun i hi => by rw [pk_un (by omega)]; exact h5 i hi)
