/-! A bag of the class. -/
def BGo (w : Wd) (h wd n : Nat) (f : Nat → Int32) (m : Nat → Int64) (pd : Nat → Int32) : Prop := w h = some (cO 2 [.int (nI wd), .int (nI n), .ref (h + 1), .ref (h + 2), .ref (h + 3)]) ∧ w (h + 1) = some (cI 128 f) ∧ w (h + 2) = some (cJ 32 m) ∧ w (h + 3) = some (cI 4 pd)
theorem BGo.o {w : Wd} {h wd n : Nat} {f : Nat → Int32} {m : Nat → Int64} {pd : Nat → Int32} (h9 : BGo w h wd n f m pd) : w h = some (cO 2 [.int (nI wd), .int (nI n), .ref (h + 1), .ref (h + 2), .ref (h + 3)]) := h9.1
theorem BGo.c {w : Wd} {h wd n : Nat} {f : Nat → Int32} {m : Nat → Int64} {pd : Nat → Int32} (h9 : BGo w h wd n f m pd) : w (h + 1) = some (cI 128 f) := h9.2.1
theorem BGo.m {w : Wd} {h wd n : Nat} {f : Nat → Int32} {m : Nat → Int64} {pd : Nat → Int32} (h9 : BGo w h wd n f m pd) : w (h + 2) = some (cJ 32 m) := h9.2.2.1
theorem BGo.p {w : Wd} {h wd n : Nat} {f : Nat → Int32} {m : Nat → Int64} {pd : Nat → Int32} (h9 : BGo w h wd n f m pd) : w (h + 3) = some (cI 4 pd) := h9.2.2.2
theorem BGo.mv {w : Wd} {h wd n : Nat} {f : Nat → Int32} {m : Nat → Int64} {pd : Nat → Int32} {w' : Wd} (h9 : BGo w h wd n f m pd) (hw : ∀ q, h ≤ q → q < h + 4 → w' q = w q) : BGo w' h wd n f m pd := ⟨(hw _ (by omega) (by omega)).trans h9.o, (hw _ (by omega) (by omega)).trans h9.c, (hw _ (by omega) (by omega)).trans h9.m, (hw _ (by omega) (by omega)).trans h9.p⟩
theorem BGo.so {w : Wd} {h wd n : Nat} {f : Nat → Int32} {m : Nat → Int64} {pd : Nat → Int32} {w' : Wd} {wd' n' : Nat} (h9 : BGo w h wd n f m pd) (hn : w' (h) = some (cO 2 [.int (nI wd'), .int (nI n'), .ref (h + 1), .ref (h + 2), .ref (h + 3)])) (hq : ∀ q, q ≠ h → w' q = w q) : BGo w' h wd' n' f m pd := ⟨hn, (hq _ (by omega)).trans h9.c, (hq _ (by omega)).trans h9.m, (hq _ (by omega)).trans h9.p⟩
theorem BGo.sc {w : Wd} {h wd n : Nat} {f : Nat → Int32} {m : Nat → Int64} {pd : Nat → Int32} {w' : Wd} {f' : Nat → Int32} (h9 : BGo w h wd n f m pd) (hn : w' (h + 1) = some (cI 128 f')) (hq : ∀ q, q ≠ h + 1 → w' q = w q) : BGo w' h wd n f' m pd := ⟨(hq _ (by omega)).trans h9.o, hn, (hq _ (by omega)).trans h9.m, (hq _ (by omega)).trans h9.p⟩
theorem BGo.sm {w : Wd} {h wd n : Nat} {f : Nat → Int32} {m : Nat → Int64} {pd : Nat → Int32} {w' : Wd} {m' : Nat → Int64} (h9 : BGo w h wd n f m pd) (hn : w' (h + 2) = some (cJ 32 m')) (hq : ∀ q, q ≠ h + 2 → w' q = w q) : BGo w' h wd n f m' pd := ⟨(hq _ (by omega)).trans h9.o, (hq _ (by omega)).trans h9.c, hn, (hq _ (by omega)).trans h9.p⟩
theorem BGo.sp {w : Wd} {h wd n : Nat} {f : Nat → Int32} {m : Nat → Int64} {pd : Nat → Int32} {w' : Wd} {pd' : Nat → Int32} (h9 : BGo w h wd n f m pd) (hn : w' (h + 3) = some (cI 4 pd')) (hq : ∀ q, q ≠ h + 3 → w' q = w q) : BGo w' h wd n f m pd' := ⟨(hq _ (by omega)).trans h9.o, (hq _ (by omega)).trans h9.c, (hq _ (by omega)).trans h9.m, hn⟩
def bg_fr (h : Nat) (w w' : Wd) : Prop := ∀ q, q < h ∨ h + 4 ≤ q → w' q = w q
theorem bg_fr.rf {h : Nat} {w : Wd} : bg_fr h w w := fun _ _ => rfl
theorem bg_fr.tr {h : Nat} {w w1 w2 : Wd} (a : bg_fr h w w1) (k : bg_fr h w1 w2) : bg_fr h w w2 := fun q hq => (k q hq).trans (a q hq)
theorem bg_fr.at {h a : Nat} {w w1 w2 : Wd} (x : bg_fr h w w1) (ha : h ≤ a ∧ a < h + 4) (k : ∀ q, q ≠ a → w2 q = w1 q) : bg_fr h w w2 := fun q hq => (k q (by omega)).trans (x q hq)
def ma_cmp (a b : List Int32) : Int32 := if ma_lt a b = true then (-1) else if a = b then 0 else 1
theorem ma_cmp_ge {a b : List Int32} : ma_cmp a b < 0 ↔ ma_lt a b = true := by
  unfold ma_cmp
  by_cases h1 : ma_lt a b = true
  · rw [if_pos h1]; exact ⟨fun _ => h1, fun _ => by decide⟩
  · rw [if_neg h1]
    by_cases h2 : a = b
    · rw [if_pos h2]; exact ⟨fun h => absurd h (by decide), fun h => absurd h h1⟩
    · rw [if_neg h2]; exact ⟨fun h => absurd h (by decide), fun h => absurd h h1⟩
theorem ma_cmp_0 {a b : List Int32} : ma_cmp a b = 0 ↔ a = b := by
  unfold ma_cmp
  by_cases h1 : ma_lt a b = true
  · rw [if_pos h1]; exact ⟨fun h => absurd h (by decide), fun h => absurd h (ma_lt_ne h1)⟩
  · rw [if_neg h1]
    by_cases h2 : a = b
    · rw [if_pos h2]; exact ⟨fun _ => h2, fun _ => rfl⟩
    · rw [if_neg h2]; exact ⟨fun h => absurd h (by decide), fun h => absurd h h2⟩
theorem ar_bag_split (f : Nat → Int32) (m : Nat → Int64) (w o p q : Nat) : ar_bag f m w o (p + q) = ar_bag f m w o p ++ ar_bag f m w (o + p) q := by
  unfold ar_bag
  rw [List.range_add, List.map_append, List.map_map]
  refine congrArg _ (List.map_congr_left (fun k _ => ?_))
  show (ar_row f w (4 * (o + (p + k))), m (o + (p + k))) = _
  rw [Nat.add_assoc]
def ma_pl (B : MaB) (q : List Int32) : Nat := (B.takeWhile (fun x => ma_lt x.1 q)).length
theorem ma_pl_eq {q : List Int32} : ∀ {B : MaB} {p : Nat}, p ≤ B.length → (∀ j x, j < p → B[j]? = some x → ma_lt x.1 q = true) → (∀ x, B[p]? = some x → ¬ ma_lt x.1 q = true) → ma_pl B q = p
  | [], p, h, _, _ => by
    have : p = 0 := Nat.le_zero.mp h
    subst this; rfl
  | y :: t, 0, _, _, h2 => by
    have h3 := h2 y rfl
    unfold ma_pl
    rw [List.takeWhile_cons_of_neg (p := fun x : List Int32 × Int64 => ma_lt x.1 q) h3]; rfl
  | y :: t, p + 1, h, h1, h2 => by
    have h3 := h1 0 y (Nat.zero_lt_succ _) rfl
    have h4 := ma_pl_eq (q := q) (B := t) (p := p) (by simpa using h) (fun j x hj hx => h1 (j + 1) x (by omega) hx) (fun x hx => h2 x hx)
    unfold ma_pl at h4 ⊢
    rw [List.takeWhile_cons_of_pos (p := fun x : List Int32 × Int64 => ma_lt x.1 q) h3, List.length_cons, h4]
theorem ma_add_app {q : List Int32} {k : Int64} : ∀ {B C : MaB}, (∀ x ∈ B, ma_lt x.1 q = true) → ma_add (B ++ C) q k = B ++ ma_add C q k
  | [], C, _ => rfl
  | (r, j) :: t, C, h => by
    have h1 := h (r, j) List.mem_cons_self
    have h2 := ma_add_app (q := q) (k := k) (B := t) (C := C) (fun x hx => h x (List.mem_cons_of_mem _ hx))
    show ma_add ((r, j) :: (t ++ C)) q k = _
    rw [ma_add, if_pos h1, h2]; rfl
set_option maxRecDepth 100000 in
set_option maxHeartbeats 4000000 in
theorem c_Bag_clear (g : Gl) {w : Wd} {h sz wd n : Nat} {f : Nat → Int32} {m : Nat → Int64} {pd : Nat → Int32} (hB : BGo w h wd n f m pd) (nw : Nat) : CT g 0 0 0 mi_Bag_clear [.ref h, .int (nI nw)] w sz (wrE none sz (fun w' => BGo w' h nw 0 f m pd ∧ bg_fr h w w')) := by
  refine CT.of (by decide) (Nat.le_of_ble_eq_true rfl) ?_
  refine v_aload_n (pc := 0) d_Bag_clear_0 rfl rfl ?_
  refine v_iload_n (pc := 1) d_Bag_clear_1 rfl rfl ?_
  refine v_putW (pc := 2) (fs' := [.int (nI nw), .int (nI n), .ref (h + 1), .ref (h + 2), .ref (h + 3)]) d_Bag_clear_2 fl_Bag_9 (fi_Bag_9 _) (ok_Bag_0 _) hB.o (Nat.le_of_ble_eq_true rfl) rfl (fun w1 hn1 hq1 => ?_)
  have h1 := hB.so hn1 hq1
  refine v_aload_n (pc := 5) d_Bag_clear_5 rfl rfl ?_
  refine v_iconst (pc := 6) (v := nI 0) d_Bag_clear_6 rfl ?_
  refine v_putW (pc := 7) (fs' := [.int (nI nw), .int (nI 0), .ref (h + 1), .ref (h + 2), .ref (h + 3)]) d_Bag_clear_7 fl_Bag_15 (fi_Bag_15 _) (ok_Bag_1 _) h1.o (Nat.le_of_ble_eq_true rfl) rfl (fun w2 hn2 hq2 => ?_)
  have h2 := h1.so hn2 hq2
  exact v_vret (pc := 10) d_Bag_clear_10 rfl (Nat.le_of_ble_eq_true rfl) (Nat.le_of_ble_eq_true rfl) ⟨rfl, rfl, h2, (bg_fr.rf.at ⟨by omega, by omega⟩ hq1).at ⟨by omega, by omega⟩ hq2⟩
set_option maxRecDepth 100000 in
set_option maxHeartbeats 4000000 in
theorem c_Bag_cellAt (g : Gl) {w : Wd} {h sz wd n : Nat} {f : Nat → Int32} {m : Nat → Int64} {pd : Nat → Int32} (hB : BGo w h wd n f m pd) {r c : Nat} (hrc : 4 * r + c < 128) : CT g 0 0 0 mi_Bag_cellAt [.ref h, .int (nI r), .int (nI c)] w sz (rdE (some (.int (f (4 * r + c)))) w sz) := by
  refine CT.of (by decide) (Nat.le_of_ble_eq_true rfl) ?_
  refine v_aload_n (pc := 0) d_Bag_cellAt_0 rfl rfl ?_
  refine v_get (pc := 1) d_Bag_cellAt_1 fl_Bag_18 hB.o rfl ?_
  refine v_iload_n (pc := 4) d_Bag_cellAt_4 rfl rfl ?_
  refine v_iconst (pc := 5) (v := nI 4) d_Bag_cellAt_5 rfl ?_
  refine v_imul (pc := 6) d_Bag_cellAt_6 ?_
  refine v_re (pk_mul r 4) ?_
  refine v_iload_n (pc := 7) d_Bag_cellAt_7 rfl rfl ?_
  refine v_iadd (pc := 8) d_Bag_cellAt_8 ?_
  refine v_re (nI_add (r * 4) c) ?_
  refine v_re (y := nI (4 * r + c)) (by rw [Nat.mul_comm]) ?_
  refine v_ialdN (pc := 9) (k := 4 * r + c) (f := f) d_Bag_cellAt_9 hB.c rfl (by omega) (by decide) ?_
  exact v_iret (pc := 10) d_Bag_cellAt_10 rfl (Nat.le_of_ble_eq_true rfl) (Nat.le_of_ble_eq_true rfl) ⟨rfl, rfl, rfl⟩
set_option maxRecDepth 100000 in
set_option maxHeartbeats 4000000 in
theorem c_Bag_timesAt (g : Gl) {w : Wd} {h sz wd n : Nat} {f : Nat → Int32} {m : Nat → Int64} {pd : Nat → Int32} (hB : BGo w h wd n f m pd) {r : Nat} (hr : r < 32) : CT g 0 0 0 mi_Bag_timesAt [.ref h, .int (nI r)] w sz (rdE (some (.long (m r))) w sz) := by
  refine CT.of (by decide) (Nat.le_of_ble_eq_true rfl) ?_
  refine v_aload_n (pc := 0) d_Bag_timesAt_0 rfl rfl ?_
  refine v_get (pc := 1) d_Bag_timesAt_1 fl_Bag_22 hB.o rfl ?_
  refine v_iload_n (pc := 4) d_Bag_timesAt_4 rfl rfl ?_
  refine v_laldN (pc := 5) (k := r) (f := m) d_Bag_timesAt_5 hB.m rfl (by omega) (by decide) ?_
  exact v_lret (pc := 6) d_Bag_timesAt_6 rfl (Nat.le_of_ble_eq_true rfl) (Nat.le_of_ble_eq_true rfl) ⟨rfl, rfl, rfl⟩
set_option maxRecDepth 100000 in
set_option maxHeartbeats 4000000 in
theorem c_Bag_put (g : Gl) {w : Wd} {h sz wd n : Nat} {f : Nat → Int32} {m : Nat → Int64} {pd : Nat → Int32} (hB : BGo w h wd n f m pd) {c : Nat} (hc4 : c < 4) (x : Int32) : CT g 0 0 0 mi_Bag_put [.ref h, .int (nI c), .int x] w sz (wrE none sz (fun w' => BGo w' h wd n f m (upd pd c x) ∧ bg_fr h w w')) := by
  refine CT.of (by decide) (Nat.le_of_ble_eq_true rfl) ?_
  refine v_aload_n (pc := 0) d_Bag_put_0 rfl rfl ?_
  refine v_get (pc := 1) d_Bag_put_1 fl_Bag_26 hB.o rfl ?_
  refine v_iload_n (pc := 4) d_Bag_put_4 rfl rfl ?_
  refine v_iload_n (pc := 5) d_Bag_put_5 rfl rfl ?_
  refine v_iastW (pc := 6) (k := c) (f := pd) d_Bag_put_6 hB.p rfl (by omega) (by decide) (fun w1 hn1 hq1 => ?_)
  have h1 := hB.sp hn1 hq1
  exact v_vret (pc := 7) d_Bag_put_7 rfl (Nat.le_of_ble_eq_true rfl) (Nat.le_of_ble_eq_true rfl) ⟨rfl, rfl, h1, bg_fr.rf.at ⟨by omega, by omega⟩ hq1⟩
set_option maxRecDepth 100000 in
set_option maxHeartbeats 4000000 in
theorem lp_Bag_orderOfCells (g : Gl) {w : Wd} {h sz wd n : Nat} {f : Nat → Int32} {m : Nat → Int64} {pd : Nat → Int32} (hB : BGo w h wd n f m pd) {r x N s : Nat} {q : Nat → Int32} (hr : r < 32) (hwd : wd ≤ 4) (hx : w x = some (cI N q)) (hN : N < 2 ^ 31) (hs : s + wd ≤ N) : ∀ (zz : Nat) (c : Nat), wd - c = zz → c ≤ wd → (∀ j, j < c → f (4 * r + j) = q (s + j)) → VV g 0 0 0 mi_Bag_orderOfCells w sz (rdE (some (.int (ma_cmp (ar_row f wd (4 * r)) (ar_row q wd s)))) w sz) 3 [(4, .int (nI c)), (0, .ref h), (1, .int (nI r)), (2, .ref x), (3, .int (nI s))] [] w sz 0 0 := by
  intro zz
  induction zz using Nat.strongRecOn with | _ zz ih => _
  intro c hnn hcw heq
  refine v_iload (pc := 3) d_Bag_orderOfCells_3 rfl ?_
  refine v_aload_n (pc := 5) d_Bag_orderOfCells_5 rfl rfl ?_
  refine v_get (pc := 6) d_Bag_orderOfCells_6 fl_Bag_9 hB.o rfl ?_
  refine v_icmp_ge (pc := 9) (tgt := 59) d_Bag_orderOfCells_9 rfl (fun hc => ?_) (fun hc => ?_)
  · skip
    rw [nI_leI (by omega) (by omega)] at hc
    refine v_iconst (pc := 59) (v := nI 0) d_Bag_orderOfCells_59 rfl ?_
    obtain rfl : c = wd := by omega
    exact v_iret (pc := 60) d_Bag_orderOfCells_60 rfl (Nat.le_of_ble_eq_true rfl) (Nat.le_of_ble_eq_true rfl) ⟨by rw [show nI 0 = ma_cmp (ar_row f c (4 * r)) (ar_row q c s) from (ma_cmp_0.mpr (ar_row_congr heq)).symm], rfl, rfl⟩
  · skip
    rw [nI_leI (by omega) (by omega)] at hc
    refine v_aload_n (pc := 12) d_Bag_orderOfCells_12 rfl rfl ?_
    refine v_get (pc := 13) d_Bag_orderOfCells_13 fl_Bag_18 hB.o rfl ?_
    refine v_iload_n (pc := 16) d_Bag_orderOfCells_16 rfl rfl ?_
    refine v_iconst (pc := 17) (v := nI 4) d_Bag_orderOfCells_17 rfl ?_
    refine v_imul (pc := 18) d_Bag_orderOfCells_18 ?_
    refine v_re (pk_mul r 4) ?_
    refine v_iload (pc := 19) d_Bag_orderOfCells_19 rfl ?_
    refine v_iadd (pc := 21) d_Bag_orderOfCells_21 ?_
    refine v_re (nI_add (r * 4) c) ?_
    refine v_re (y := nI (4 * r + c)) (by rw [Nat.mul_comm]) ?_
    refine v_ialdN (pc := 22) (k := 4 * r + c) (f := f) d_Bag_orderOfCells_22 hB.c rfl (by omega) (by decide) ?_
    refine v_istore (pc := 23) (L' := [(5, .int (f (4 * r + c))), (4, .int (nI c)), (0, .ref h), (1, .int (nI r)), (2, .ref x), (3, .int (nI s))]) d_Bag_orderOfCells_23 (by decide) rfl ?_
    refine v_aload_n (pc := 25) d_Bag_orderOfCells_25 rfl rfl ?_
    refine v_iload_n (pc := 26) d_Bag_orderOfCells_26 rfl rfl ?_
    refine v_iload (pc := 27) d_Bag_orderOfCells_27 rfl ?_
    refine v_iadd (pc := 29) d_Bag_orderOfCells_29 ?_
    refine v_re (nI_add s c) ?_
    refine v_ialdN (pc := 30) (k := s + c) (f := q) d_Bag_orderOfCells_30 hx rfl (by omega) hN ?_
    refine v_istore (pc := 31) (L' := [(6, .int (q (s + c))), (5, .int (f (4 * r + c))), (4, .int (nI c)), (0, .ref h), (1, .int (nI r)), (2, .ref x), (3, .int (nI s))]) d_Bag_orderOfCells_31 (by decide) rfl ?_
    refine v_iload (pc := 33) d_Bag_orderOfCells_33 rfl ?_
    refine v_iload (pc := 35) d_Bag_orderOfCells_35 rfl ?_
    refine v_icmp_eq (pc := 37) (tgt := 53) d_Bag_orderOfCells_37 rfl (fun hc => ?_) (fun hc => ?_)
    · skip
      refine v_iinc (pc := 53) (L' := [(4, .int (nI (c + 1))), (6, .int (q (s + c))), (5, .int (f (4 * r + c))), (0, .ref h), (1, .int (nI r)), (2, .ref x), (3, .int (nI s))]) d_Bag_orderOfCells_53 rfl (ix_inc _) (by decide) rfl ?_
      refine v_goto (pc := 56) (tgt := 3) d_Bag_orderOfCells_56 rfl ?_
      refine v_sub (L' := [(4, .int (nI (c + 1))), (0, .ref h), (1, .int (nI r)), (2, .ref x), (3, .int (nI s))]) (by simp) ?_
      exact ih (wd - (c + 1)) (by omega) (c + 1) rfl (by omega) (fun j hj => by by_cases h9 : j = c; (subst h9; exact hc); (exact heq j (by omega)))
    · skip
      have hne := hc
      refine v_iload (pc := 40) d_Bag_orderOfCells_40 rfl ?_
      refine v_iload (pc := 42) d_Bag_orderOfCells_42 rfl ?_
      refine v_icmp_ge (pc := 44) (tgt := 51) d_Bag_orderOfCells_44 rfl (fun hc => ?_) (fun hc => ?_)
      · skip
        have hgt := ar_row_lt (n := wd) (show c < wd by omega) (show q (s + c) < f (4 * r + c) from by rcases ma_i32_tri (f (4 * r + c)) (q (s + c)) with h | h | h; (exact absurd hc (Int32.not_le.mpr h)); (exact absurd h hne); (exact h)) (fun j hj => (heq j hj).symm)
        refine v_iconst (pc := 51) (v := nI 1) d_Bag_orderOfCells_51 rfl ?_
        exact v_iret (pc := 52) d_Bag_orderOfCells_52 rfl (Nat.le_of_ble_eq_true rfl) (Nat.le_of_ble_eq_true rfl) ⟨by unfold ma_cmp; rw [if_neg (by rw [ma_lt_asym hgt]; decide), if_neg (fun h => absurd h.symm (ma_lt_ne hgt))]; rfl, rfl, rfl⟩
      · skip
        have hlt := ar_row_lt (n := wd) (show c < wd by omega) (Int32.not_le.mp hc) heq
        refine v_iconst (pc := 47) (v := (-1)) d_Bag_orderOfCells_47 rfl ?_
        refine v_goto (pc := 48) (tgt := 52) d_Bag_orderOfCells_48 rfl ?_
        exact v_iret (pc := 52) d_Bag_orderOfCells_52 rfl (Nat.le_of_ble_eq_true rfl) (Nat.le_of_ble_eq_true rfl) ⟨by unfold ma_cmp; rw [if_pos hlt], rfl, rfl⟩
set_option maxRecDepth 100000 in
set_option maxHeartbeats 4000000 in
theorem c_Bag_orderOfCells (g : Gl) {w : Wd} {h sz wd n : Nat} {f : Nat → Int32} {m : Nat → Int64} {pd : Nat → Int32} (hB : BGo w h wd n f m pd) {r x N s : Nat} {q : Nat → Int32} (hr : r < 32) (hwd : wd ≤ 4) (hx : w x = some (cI N q)) (hN : N < 2 ^ 31) (hs : s + wd ≤ N) : CT g 0 0 0 mi_Bag_orderOfCells [.ref h, .int (nI r), .ref x, .int (nI s)] w sz (rdE (some (.int (ma_cmp (ar_row f wd (4 * r)) (ar_row q wd s)))) w sz) := by
  refine CT.of (by decide) (Nat.le_of_ble_eq_true rfl) ?_
  refine v_iconst (pc := 0) (v := nI 0) d_Bag_orderOfCells_0 rfl ?_
  refine v_istore (pc := 1) (L' := [(4, .int (nI 0)), (0, .ref h), (1, .int (nI r)), (2, .ref x), (3, .int (nI s))]) d_Bag_orderOfCells_1 (by decide) rfl ?_
  refine v_sub (L' := [(4, .int (nI 0)), (0, .ref h), (1, .int (nI r)), (2, .ref x), (3, .int (nI s))]) (by simp) ?_
  exact lp_Bag_orderOfCells g hB hr hwd hx hN hs wd 0 rfl (by omega) (fun j hj => absurd hj (Nat.not_lt_zero _))
