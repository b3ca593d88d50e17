theorem ma_add_in {r : List Int32} {k : Int64} : ∀ {b : MaB}, ma_srt b → (∃ x ∈ b, x.1 = r) → (ma_add b r k).length ≤ b.length
  | [], _, h => by obtain ⟨x, hx, _⟩ := h; cases hx
  | (q, j) :: t, hs, h => by
    have hs' := List.pairwise_cons.mp hs
    rw [ma_add]
    by_cases h1 : ma_lt q r = true
    · rw [if_pos h1, List.length_cons, List.length_cons]
      have h2 : ∃ x ∈ t, x.1 = r := by
        obtain ⟨x, hx, he⟩ := h
        rcases List.mem_cons.mp hx with rfl | hx
        · exact absurd he (ma_lt_ne h1)
        · exact ⟨x, hx, he⟩
      have := ma_add_in (k := k) hs'.2 h2
      omega
    · rw [if_neg h1]
      by_cases h2 : q = r
      · rw [if_pos h2]
        split
        · simp
        · simp
      · exfalso
        obtain ⟨x, hx, he⟩ := h
        rcases List.mem_cons.mp hx with rfl | hx
        · exact h2 he
        · have h3 := hs'.1 x hx
          rw [he] at h3
          exact h1 h3
theorem ma_addC_ok {n : Nat} {b : MaB} {r : List Int32} {k : Int64} (h : ma_ok n b) (hr : r.length = n) : ma_ok n (ma_addC b r k) := by
  unfold ma_addC
  split
  · exact h
  · exact ma_add_ok h hr
theorem ma_addC_len {b : MaB} {r : List Int32} {k : Int64} (h : ma_srt b) (hl : b.length ≤ 32) : (ma_addC b r k).length ≤ 32 := by
  unfold ma_addC
  by_cases hc : 32 ≤ b.length ∧ b.all (fun x => decide (x.1 ≠ r)) = true
  · rw [if_pos hc]; exact hl
  · rw [if_neg hc]
    by_cases h32 : 32 ≤ b.length
    · have h1 : ∃ x ∈ b, x.1 = r := by
        apply Classical.byContradiction
        intro h9
        refine hc ⟨h32, List.all_eq_true.mpr (fun x hx => ?_)⟩
        rw [decide_eq_true_eq]
        exact fun e => h9 ⟨x, hx, e⟩
      exact Nat.le_trans (ma_add_in h h1) hl
    · have := ma_add_len b r k
      omega
theorem ma_foldC_ok {n : Nat} {A : MaB} : ∀ {b : MaB}, ma_ok n b → b.length ≤ 32 → (∀ x ∈ A, x.1.length = n) → ma_ok n (ma_foldC b A) ∧ (ma_foldC b A).length ≤ 32 := by
  induction A with
  | nil => intro b h hl _; exact ⟨h, hl⟩
  | cons y t ih =>
    intro b h hl hA
    exact ih (ma_addC_ok h (hA y List.mem_cons_self)) (ma_addC_len h.1 hl) (fun x hx => hA x (List.mem_cons_of_mem _ hx))
theorem ma_foldC_snoc (b A : MaB) (x : List Int32 × Int64) : ma_foldC b (A ++ [x]) = ma_addC (ma_foldC b A) x.1 x.2 := by simp [ma_foldC]
theorem ma_foldC_app (b A C : MaB) : ma_foldC b (A ++ C) = ma_foldC (ma_foldC b A) C := by simp [ma_foldC]
/-- a bag's place holds a bag -/
def bg_st (w : Wd) (h wd : Nat) (B : MaB) (w' : Wd) : Prop := ∃ f m pd, BGo w' h wd B.length f m pd ∧ bg_fr h w w' ∧ ar_bag f m wd 0 B.length = B
theorem bg_ad.st {w w1 w' : Wd} {h wd : Nat} {pd : Nat → Int32} {B : MaB} (hf : bg_fr h w w1) (h9 : bg_ad w1 h wd pd B w') : bg_st w h wd B w' := by
  obtain ⟨f, m, h1, h2, h3⟩ := h9
  exact ⟨f, m, pd, h1, hf.tr h2, h3⟩
set_option maxRecDepth 100000 in
set_option maxHeartbeats 4000000 in
theorem lp_Bag_addAll (g : Gl) {w : Wd} {h sz wd : Nat} {B0 : MaB} {e ne : Nat} {fe : Nat → Int32} {me : Nat → Int64} {pe : Nat → Int32} (hd : e + 4 ≤ h ∨ h + 4 ≤ e) (hE : BGo w e wd ne fe me pe) (hne : ne ≤ 32) (hwd : wd ≤ 4) (hok0 : ma_ok wd B0) (hl0 : B0.length ≤ 32) {E : Rs → Wd → Nat → Prop} (hE' : ∀ w', bg_st w h wd (ma_foldC B0 (ar_bag fe me wd 0 ne)) w' → E (.inl none) w' sz) : ∀ (zz : Nat) (r : Nat) (w1 : Wd), ne - r = zz → r ≤ ne → bg_st w h wd (ma_foldC B0 (ar_bag fe me wd 0 r)) w1 → VV g 4 0 0 mi_Bag_addAll w sz E 2 [(2, .int (nI r)), (0, .ref h), (1, .ref e)] [] w1 sz 0 0 := by
  intro zz
  induction zz using Nat.strongRecOn with | _ zz ih => _
  intro r w1 hnn hrn hst
  obtain ⟨f1, m1, pd1, h1, hfr, hBB⟩ := id hst
  have k1 := hE.mv (w' := w1) (fun q h1 h2 => hfr q (by omega))
  obtain ⟨hok, hl⟩ := ma_foldC_ok hok0 hl0 (A := (ar_bag fe me wd 0 r)) (fun x hx => by obtain ⟨s, _, rfl⟩ := ar_bag_mem hx; exact ar_row_len _ _ _)
  refine v_iload_n (pc := 2) d_Bag_addAll_2 rfl rfl ?_
  refine v_aload_n (pc := 3) d_Bag_addAll_3 rfl rfl ?_
  refine v_get (pc := 4) d_Bag_addAll_4 fl_Bag_15 k1.o rfl ?_
  refine v_icmp_ge (pc := 7) (tgt := 32) d_Bag_addAll_7 rfl (fun hc => ?_) (fun hc => ?_)
  · skip
    rw [nI_leI (by omega) (by omega)] at hc
    obtain rfl : r = ne := by omega
    exact v_vret (pc := 32) d_Bag_addAll_32 rfl (Nat.le_of_ble_eq_true rfl) (Nat.le_of_ble_eq_true rfl) (hE' w1 hst)
  · skip
    rw [nI_leI (by omega) (by omega)] at hc
    refine v_aload_n (pc := 10) d_Bag_addAll_10 rfl rfl ?_
    refine v_aload_n (pc := 11) d_Bag_addAll_11 rfl rfl ?_
    refine v_iload_n (pc := 12) d_Bag_addAll_12 rfl rfl ?_
    refine v_iconst (pc := 13) (v := nI 0) d_Bag_addAll_13 rfl ?_
    refine v_cvV (pc := 14) (A := [.ref e, .int (nI r), .int (nI 0)]) (rest := []) d_Bag_addAll_14 lk_Bag_59 me_Bag_putRow im_Bag_putRow se_Bag_putRow rfl h1.o rfl rfl (c_Bag_putRow g h1 k1 hd (r := r) (s := 0) (by omega) hwd (by omega)) (Nat.le_of_ble_eq_true rfl) (Nat.le_of_ble_eq_true rfl) (Nat.le_of_ble_eq_true rfl) (Nat.le_of_ble_eq_true rfl) (fun w2 ht2 => ?_)
    obtain ⟨pd2, h2, hf2, hp2, _⟩ := ht2
    have k2 := k1.mv (w' := w2) (fun q h1 h2 => hf2 q (by omega))
    refine v_aload_n (pc := 17) d_Bag_addAll_17 rfl rfl ?_
    refine v_aload_n (pc := 18) d_Bag_addAll_18 rfl rfl ?_
    refine v_iload_n (pc := 19) d_Bag_addAll_19 rfl rfl ?_
    refine v_cvR (pc := 20) (A := [.int (nI r)]) (rest := [.ref h]) (x := .long (me r)) d_Bag_addAll_20 lk_Bag_63 me_Bag_timesAt im_Bag_timesAt se_Bag_timesAt rfl k2.o rfl rfl (c_Bag_timesAt g k2 (r := r) (by omega)) (Nat.le_of_ble_eq_true rfl) (Nat.le_of_ble_eq_true rfl) (Nat.le_of_ble_eq_true rfl) (Nat.le_of_ble_eq_true rfl) ?_
    refine v_cvV (pc := 23) (A := [.long (me r)]) (rest := []) d_Bag_addAll_23 lk_Bag_67 me_Bag_add im_Bag_add se_Bag_add rfl h2.o rfl rfl (c_Bag_add g h2 hl hwd (by rw [hBB]; exact hok.1) (me r)) (Nat.le_of_ble_eq_true rfl) (Nat.le_of_ble_eq_true rfl) (Nat.le_of_ble_eq_true rfl) (Nat.le_of_ble_eq_true rfl) (fun w3 ht3 => ?_)
    have hnext : bg_st w h wd (ma_foldC B0 (ar_bag fe me wd 0 (r + 1))) w3 := by
      rw [ar_bag_snoc, ma_foldC_snoc]
      have e8 : ar_row pd2 wd 0 = ar_row fe wd (4 * (0 + r)) := ar_row_congr (fun c hc => by have h9 := hp2 c hc; rw [Nat.zero_add] at h9; rw [Nat.zero_add, Nat.zero_add]; exact h9)
      rw [hBB, e8] at ht3
      have e9 := bg_ad.st (hfr.tr hf2) ht3
      rw [show me r = me (0 + r) from by rw [Nat.zero_add]] at e9
      exact e9
    refine v_iinc (pc := 26) (L' := [(2, .int (nI (r + 1))), (0, .ref h), (1, .ref e)]) d_Bag_addAll_26 rfl (ix_inc _) (by decide) rfl ?_
    refine v_goto (pc := 29) (tgt := 2) d_Bag_addAll_29 rfl ?_
    refine v_sub (L' := [(2, .int (nI (r + 1))), (0, .ref h), (1, .ref e)]) (by simp) ?_
    exact ih (ne - (r + 1)) (by omega) (r + 1) _ rfl (by omega) hnext
set_option maxRecDepth 100000 in
set_option maxHeartbeats 4000000 in
theorem c_Bag_addAll (g : Gl) {w : Wd} {h sz wd : Nat} {B0 : MaB} {e ne : Nat} {fe : Nat → Int32} {me : Nat → Int64} {pe : Nat → Int32} (hd : e + 4 ≤ h ∨ h + 4 ≤ e) (hE : BGo w e wd ne fe me pe) (hne : ne ≤ 32) (hwd : wd ≤ 4) (hok0 : ma_ok wd B0) (hl0 : B0.length ≤ 32) (hst : bg_st w h wd B0 w) : CT g 4 0 0 mi_Bag_addAll [.ref h, .ref e] w sz (wrE none sz (bg_st w h wd (ma_foldC B0 (ar_bag fe me wd 0 ne)))) := by
  refine CT.of (by decide) (Nat.le_of_ble_eq_true rfl) ?_
  refine v_iconst (pc := 0) (v := nI 0) d_Bag_addAll_0 rfl ?_
  refine v_istore_n (pc := 1) (L' := [(2, .int (nI 0)), (0, .ref h), (1, .ref e)]) d_Bag_addAll_1 rfl (by decide) rfl ?_
  refine v_sub (L' := [(2, .int (nI 0)), (0, .ref h), (1, .ref e)]) (by simp) ?_
  exact lp_Bag_addAll g hd hE hne hwd hok0 hl0 (fun w' h => ⟨rfl, rfl, h⟩) ne 0 w rfl (by omega) hst
set_option maxRecDepth 100000 in
set_option maxHeartbeats 4000000 in
theorem c_Bag_orderOfRows (g : Gl) {w : Wd} {h sz wd n : Nat} {f : Nat → Int32} {m : Nat → Int64} {pd : Nat → Int32} (hB : BGo w h wd n f m pd) {e ne : Nat} {fe : Nat → Int32} {me : Nat → Int64} {pe : Nat → Int32} (hE : BGo w e wd ne fe me pe) (hwd : wd ≤ 4) (hn : n ≤ 32) (hne : ne ≤ 32) {i j : Nat} (hi9 : i ≤ 32) (hj9 : j ≤ 32) : CT g 1 0 0 mi_Bag_orderOfRows [.ref h, .int (nI i), .ref e, .int (nI j)] w sz (rdE (some (.int (if i < n ∧ j < ne then ma_cmp (ar_row f wd (4 * i)) (ar_row fe wd (4 * j)) else if i < n then (-1) else 1))) w sz) := by
  refine CT.of (by decide) (Nat.le_of_ble_eq_true rfl) ?_
  refine v_iload_n (pc := 0) d_Bag_orderOfRows_0 rfl rfl ?_
  refine v_aload_n (pc := 1) d_Bag_orderOfRows_1 rfl rfl ?_
  refine v_get (pc := 2) d_Bag_orderOfRows_2 fl_Bag_15 hB.o rfl ?_
  refine v_icmp_ge (pc := 5) (tgt := 16) d_Bag_orderOfRows_5 rfl (fun hc => ?_) (fun hc => ?_)
  · skip
    rw [nI_leI (by omega) (by omega)] at hc
    have hno : ¬ (i < n ∧ j < ne) := by omega
    refine v_iload_n (pc := 16) d_Bag_orderOfRows_16 rfl rfl ?_
    refine v_aload_n (pc := 17) d_Bag_orderOfRows_17 rfl rfl ?_
    refine v_get (pc := 18) d_Bag_orderOfRows_18 fl_Bag_15 hB.o rfl ?_
    refine v_icmp_ge (pc := 21) (tgt := 28) d_Bag_orderOfRows_21 rfl (fun hc => ?_) (fun hc => ?_)
    · skip
      rw [nI_leI (by omega) (by omega)] at hc
      have hi : ¬ i < n := by omega
      refine v_iconst (pc := 28) (v := nI 1) d_Bag_orderOfRows_28 rfl ?_
      exact v_iret (pc := 29) d_Bag_orderOfRows_29 rfl (Nat.le_of_ble_eq_true rfl) (Nat.le_of_ble_eq_true rfl) ⟨by rw [if_neg hno, if_neg hi]; rfl, rfl, rfl⟩
    · skip
      rw [nI_leI (by omega) (by omega)] at hc
      have hi : i < n := by omega
      refine v_iconst (pc := 24) (v := (-1)) d_Bag_orderOfRows_24 rfl ?_
      refine v_goto (pc := 25) (tgt := 29) d_Bag_orderOfRows_25 rfl ?_
      exact v_iret (pc := 29) d_Bag_orderOfRows_29 rfl (Nat.le_of_ble_eq_true rfl) (Nat.le_of_ble_eq_true rfl) ⟨by rw [if_neg hno, if_pos hi], rfl, rfl⟩
  · skip
    rw [nI_leI (by omega) (by omega)] at hc
    have hin := hc
    refine v_iload_n (pc := 8) d_Bag_orderOfRows_8 rfl rfl ?_
    refine v_aload_n (pc := 9) d_Bag_orderOfRows_9 rfl rfl ?_
    refine v_get (pc := 10) d_Bag_orderOfRows_10 fl_Bag_15 hE.o rfl ?_
    refine v_icmp_lt (pc := 13) (tgt := 30) d_Bag_orderOfRows_13 rfl (fun hc => ?_) (fun hc => ?_)
    · skip
      rw [nI_ltI (by omega) (by omega)] at hc
      have hin2 : i < n ∧ j < ne := by omega
      refine v_aload_n (pc := 30) d_Bag_orderOfRows_30 rfl rfl ?_
      refine v_iload_n (pc := 31) d_Bag_orderOfRows_31 rfl rfl ?_
      refine v_aload_n (pc := 32) d_Bag_orderOfRows_32 rfl rfl ?_
      refine v_get (pc := 33) d_Bag_orderOfRows_33 fl_Bag_18 hE.o rfl ?_
      refine v_iload_n (pc := 36) d_Bag_orderOfRows_36 rfl rfl ?_
      refine v_iconst (pc := 37) (v := nI 4) d_Bag_orderOfRows_37 rfl ?_
      refine v_imul (pc := 38) d_Bag_orderOfRows_38 ?_
      refine v_re (pk_mul j 4) ?_
      refine v_re (y := nI (4 * j)) (by rw [Nat.mul_comm]) ?_
      refine v_cvR (pc := 39) (A := [.int (nI i), .ref (e + 1), .int (nI (4 * j))]) (rest := []) (x := .int (ma_cmp (ar_row f wd (4 * i)) (ar_row fe wd (4 * j)))) d_Bag_orderOfRows_39 lk_Bag_75 me_Bag_orderOfCells im_Bag_orderOfCells se_Bag_orderOfCells rfl hB.o rfl rfl (c_Bag_orderOfCells g hB (r := i) (x := e + 1) (N := 128) (s := 4 * j) (q := fe) (by omega) hwd hE.c (by decide) (by omega)) (Nat.le_of_ble_eq_true rfl) (Nat.le_of_ble_eq_true rfl) (Nat.le_of_ble_eq_true rfl) (Nat.le_of_ble_eq_true rfl) ?_
      exact v_iret (pc := 42) d_Bag_orderOfRows_42 rfl (Nat.le_of_ble_eq_true rfl) (Nat.le_of_ble_eq_true rfl) ⟨by rw [if_pos hin2], rfl, rfl⟩
    · skip
      rw [nI_ltI (by omega) (by omega)] at hc
      have hno : ¬ (i < n ∧ j < ne) := by omega
      refine v_iload_n (pc := 16) d_Bag_orderOfRows_16 rfl rfl ?_
      refine v_aload_n (pc := 17) d_Bag_orderOfRows_17 rfl rfl ?_
      refine v_get (pc := 18) d_Bag_orderOfRows_18 fl_Bag_15 hB.o rfl ?_
      refine v_icmp_ge (pc := 21) (tgt := 28) d_Bag_orderOfRows_21 rfl (fun hc => ?_) (fun hc => ?_)
      · skip
        rw [nI_leI (by omega) (by omega)] at hc
        have hi : ¬ i < n := by omega
        refine v_iconst (pc := 28) (v := nI 1) d_Bag_orderOfRows_28 rfl ?_
        exact v_iret (pc := 29) d_Bag_orderOfRows_29 rfl (Nat.le_of_ble_eq_true rfl) (Nat.le_of_ble_eq_true rfl) ⟨by rw [if_neg hno, if_neg hi]; rfl, rfl, rfl⟩
      · skip
        rw [nI_leI (by omega) (by omega)] at hc
        have hi : i < n := by omega
        refine v_iconst (pc := 24) (v := (-1)) d_Bag_orderOfRows_24 rfl ?_
        refine v_goto (pc := 25) (tgt := 29) d_Bag_orderOfRows_25 rfl ?_
        exact v_iret (pc := 29) d_Bag_orderOfRows_29 rfl (Nat.le_of_ble_eq_true rfl) (Nat.le_of_ble_eq_true rfl) ⟨by rw [if_neg hno, if_pos hi], rfl, rfl⟩
theorem mv_nil (X : MaB) : ma_mv X [] = X.length := by
  cases X with
  | nil => unfold ma_mv; rfl
  | cons x t => unfold ma_mv; rfl
theorem mv_nil2 (X : MaB) : ma_mv [] X = X.length := by unfold ma_mv; rfl
section MV
variable {f fe : Nat → Int32} {m me : Nat → Int64} {wd n ne i j : Nat}
theorem ar_hd {f : Nat → Int32} {m : Nat → Int64} {n i : Nat} (h : i < n) : ar_bag f m wd i (n - i) = (ar_row f wd (4 * i), m i) :: ar_bag f m wd (i + 1) (n - (i + 1)) := by
  have h1 := ar_bag_split f m wd i 1 (n - (i + 1))
  rw [show 1 + (n - (i + 1)) = n - i by omega] at h1
  exact h1
theorem ar_tl {f : Nat → Int32} {m : Nat → Int64} {n i : Nat} (h : ¬ i < n) : ar_bag f m wd i (n - i) = [] := by
  rw [show n - i = 0 by omega]; rfl
theorem mvA (hi : i < n) (h : ¬ j < ne ∨ ma_lt (ar_row f wd (4 * i)) (ar_row fe wd (4 * j)) = true) : ma_mv (ar_bag f m wd i (n - i)) (ar_bag fe me wd j (ne - j)) = 1 + ma_mv (ar_bag f m wd (i + 1) (n - (i + 1))) (ar_bag fe me wd j (ne - j)) := by
  rw [ar_hd hi]
  by_cases hj : j < ne
  · rw [ar_hd hj, ma_mv, if_pos (by rcases h with h | h; (exact absurd hj h); (exact h))]
  · rw [ar_tl hj, mv_nil, mv_nil, List.length_cons, Nat.add_comm]
theorem mvC (hj : j < ne) (h : ¬ i < n ∨ (¬ ma_lt (ar_row f wd (4 * i)) (ar_row fe wd (4 * j)) = true ∧ ar_row f wd (4 * i) ≠ ar_row fe wd (4 * j))) : ma_mv (ar_bag f m wd i (n - i)) (ar_bag fe me wd j (ne - j)) = 1 + ma_mv (ar_bag f m wd i (n - i)) (ar_bag fe me wd (j + 1) (ne - (j + 1))) := by
  rw [ar_hd hj]
  by_cases hi : i < n
  · rcases h with h | ⟨h1, h2⟩
    · exact absurd hi h
    · rw [ar_hd hi, ma_mv, if_neg h1, if_neg h2]
  · rw [ar_tl hi, mv_nil2, mv_nil2, List.length_cons, Nat.add_comm]
theorem mvB (hi : i < n) (hj : j < ne) (h : ar_row f wd (4 * i) = ar_row fe wd (4 * j)) : ma_mv (ar_bag f m wd i (n - i)) (ar_bag fe me wd j (ne - j)) = (if m i = me j then 0 else 1) + ma_mv (ar_bag f m wd (i + 1) (n - (i + 1))) (ar_bag fe me wd (j + 1) (ne - (j + 1))) := by
  rw [ar_hd hi, ar_hd hj, ma_mv, if_neg (by rw [h, ma_lt_irr]; decide), if_pos h]
end MV
set_option maxRecDepth 100000 in
set_option maxHeartbeats 4000000 in
theorem lp_Bag_differencesFrom (g : Gl) {w : Wd} {h sz wd n : Nat} {f : Nat → Int32} {m : Nat → Int64} {pd : Nat → Int32} (hB : BGo w h wd n f m pd) {e ne : Nat} {fe : Nat → Int32} {me : Nat → Int64} {pe : Nat → Int32} (hE : BGo w e wd ne fe me pe) (hwd : wd ≤ 4) (hn : n ≤ 32) (hne : ne ≤ 32) : ∀ (zz : Nat) (d i j : Nat), n + ne - (i + j) = zz → i ≤ n → j ≤ ne → d + ma_mv (ar_bag f m wd i (n - i)) (ar_bag fe me wd j (ne - j)) = ma_mv (ar_bag f m wd 0 n) (ar_bag fe me wd 0 ne) → VV g 2 0 0 mi_Bag_differencesFrom w sz (rdE (some (.int (nI (ma_mv (ar_bag f m wd 0 n) (ar_bag fe me wd 0 ne))))) w sz) 7 [(2, .int (nI d)), (3, .int (nI i)), (4, .int (nI j)), (0, .ref h), (1, .ref e)] [] w sz 0 0 := by
  intro zz
  induction zz using Nat.strongRecOn with | _ zz ih => _
  intro d i j hnn hin hjn hinv
  refine v_iload_n (pc := 7) d_Bag_differencesFrom_7 rfl rfl ?_
  refine v_aload_n (pc := 8) d_Bag_differencesFrom_8 rfl rfl ?_
  refine v_get (pc := 9) d_Bag_differencesFrom_9 fl_Bag_15 hB.o rfl ?_
  refine v_icmp_lt (pc := 12) (tgt := 24) d_Bag_differencesFrom_12 rfl (fun hc => ?_) (fun hc => ?_)
  · skip
    rw [nI_ltI (by omega) (by omega)] at hc
    have hor : i < n ∨ j < ne := by omega
    refine v_aload_n (pc := 24) d_Bag_differencesFrom_24 rfl rfl ?_
    refine v_iload_n (pc := 25) d_Bag_differencesFrom_25 rfl rfl ?_
    refine v_aload_n (pc := 26) d_Bag_differencesFrom_26 rfl rfl ?_
    refine v_iload (pc := 27) d_Bag_differencesFrom_27 rfl ?_
    refine v_cvR (pc := 29) (A := [.int (nI i), .ref e, .int (nI j)]) (rest := []) (x := .int (if i < n ∧ j < ne then ma_cmp (ar_row f wd (4 * i)) (ar_row fe wd (4 * j)) else if i < n then (-1) else 1)) d_Bag_differencesFrom_29 lk_Bag_71 me_Bag_orderOfRows im_Bag_orderOfRows se_Bag_orderOfRows rfl hB.o rfl rfl (c_Bag_orderOfRows g hB hE hwd hn hne (i := i) (j := j) (by omega) (by omega)) (Nat.le_of_ble_eq_true rfl) (Nat.le_of_ble_eq_true rfl) (Nat.le_of_ble_eq_true rfl) (Nat.le_of_ble_eq_true rfl) ?_
    have hord : ((if i < n ∧ j < ne then ma_cmp (ar_row f wd (4 * i)) (ar_row fe wd (4 * j)) else if i < n then (-1) else 1) = (-1 : Int32) ∧ i < n ∧ (¬ j < ne ∨ ma_lt (ar_row f wd (4 * i)) (ar_row fe wd (4 * j)) = true)) ∨ ((if i < n ∧ j < ne then ma_cmp (ar_row f wd (4 * i)) (ar_row fe wd (4 * j)) else if i < n then (-1) else 1) = nI 0 ∧ i < n ∧ j < ne ∧ ar_row f wd (4 * i) = ar_row fe wd (4 * j)) ∨ ((if i < n ∧ j < ne then ma_cmp (ar_row f wd (4 * i)) (ar_row fe wd (4 * j)) else if i < n then (-1) else 1) = nI 1 ∧ j < ne ∧ (¬ i < n ∨ (¬ ma_lt (ar_row f wd (4 * i)) (ar_row fe wd (4 * j)) = true ∧ ar_row f wd (4 * i) ≠ ar_row fe wd (4 * j)))) := by
      by_cases hb : i < n ∧ j < ne
      · rw [if_pos hb]; unfold ma_cmp
        by_cases h1 : ma_lt (ar_row f wd (4 * i)) (ar_row fe wd (4 * j)) = true
        · rw [if_pos h1]; exact Or.inl ⟨rfl, hb.1, Or.inr h1⟩
        · rw [if_neg h1]
          by_cases h2 : ar_row f wd (4 * i) = ar_row fe wd (4 * j)
          · rw [if_pos h2]; exact Or.inr (Or.inl ⟨rfl, hb.1, hb.2, h2⟩)
          · rw [if_neg h2]; exact Or.inr (Or.inr ⟨rfl, hb.2, Or.inr ⟨h1, h2⟩⟩)
      · rw [if_neg hb]
        by_cases hi : i < n
        · rw [if_pos hi]; exact Or.inl ⟨rfl, hi, Or.inl (fun h => hb ⟨hi, h⟩)⟩
        · rw [if_neg hi]; exact Or.inr (Or.inr ⟨rfl, by omega, Or.inl hi⟩)
    rcases hord with ⟨ho, hP⟩ | ⟨ho, hP⟩ | ⟨ho, hP⟩
    · skip
      refine v_re ho ?_
      refine v_istore (pc := 32) (L' := [(5, .int (-1)), (2, .int (nI d)), (3, .int (nI i)), (4, .int (nI j)), (0, .ref h), (1, .ref e)]) d_Bag_differencesFrom_32 (by decide) rfl ?_
      refine v_iload (pc := 34) d_Bag_differencesFrom_34 rfl ?_
      refine v_if_ne (pc := 36) (tgt := 56) d_Bag_differencesFrom_36 rfl (fun hc => ?_) (fun hc => ?_)
      · skip
        refine v_iinc (pc := 56) (L' := [(2, .int (nI (d + 1))), (5, .int (-1)), (3, .int (nI i)), (4, .int (nI j)), (0, .ref h), (1, .ref e)]) d_Bag_differencesFrom_56 rfl (ix_inc _) (by decide) rfl ?_
        refine v_iload (pc := 59) d_Bag_differencesFrom_59 rfl ?_
        refine v_if_gt (pc := 61) (tgt := 67) d_Bag_differencesFrom_61 rfl (fun hc => ?_) (fun hc => ?_)
        · skip
          exact absurd hc (by decide)
        · skip
          refine v_iinc (pc := 64) (L' := [(3, .int (nI (i + 1))), (2, .int (nI (d + 1))), (5, .int (-1)), (4, .int (nI j)), (0, .ref h), (1, .ref e)]) d_Bag_differencesFrom_64 rfl (ix_inc _) (by decide) rfl ?_
          refine v_iload (pc := 67) d_Bag_differencesFrom_67 rfl ?_
          refine v_if_lt (pc := 69) (tgt := 75) d_Bag_differencesFrom_69 rfl (fun hc => ?_) (fun hc => ?_)
          · skip
            refine v_goto (pc := 75) (tgt := 7) d_Bag_differencesFrom_75 rfl ?_
            refine v_sub (L' := [(2, .int (nI (d + 1))), (3, .int (nI (i + 1))), (4, .int (nI j)), (0, .ref h), (1, .ref e)]) (by simp) ?_
            exact ih (n + ne - (i + 1 + (j))) (by omega) _ _ _ rfl (by omega) (by omega) (by rw [mvA hP.1 hP.2] at hinv; omega)
          · skip
            exact absurd hc (by decide)
      · skip
        exact absurd hc (by decide)
    · skip
      refine v_re ho ?_
      refine v_istore (pc := 32) (L' := [(5, .int (nI 0)), (2, .int (nI d)), (3, .int (nI i)), (4, .int (nI j)), (0, .ref h), (1, .ref e)]) d_Bag_differencesFrom_32 (by decide) rfl ?_
      refine v_iload (pc := 34) d_Bag_differencesFrom_34 rfl ?_
      refine v_if_ne (pc := 36) (tgt := 56) d_Bag_differencesFrom_36 rfl (fun hc => ?_) (fun hc => ?_)
      · skip
        exact absurd hc (by decide)
      · skip
        refine v_aload_n (pc := 39) d_Bag_differencesFrom_39 rfl rfl ?_
        refine v_get (pc := 40) d_Bag_differencesFrom_40 fl_Bag_22 hB.o rfl ?_
        refine v_iload_n (pc := 43) d_Bag_differencesFrom_43 rfl rfl ?_
        refine v_laldN (pc := 44) (k := i) (f := m) d_Bag_differencesFrom_44 hB.m rfl (by omega) (by decide) ?_
        refine v_aload_n (pc := 45) d_Bag_differencesFrom_45 rfl rfl ?_
        refine v_get (pc := 46) d_Bag_differencesFrom_46 fl_Bag_22 hE.o rfl ?_
        refine v_iload (pc := 49) d_Bag_differencesFrom_49 rfl ?_
        refine v_laldN (pc := 51) (k := j) (f := me) d_Bag_differencesFrom_51 hE.m rfl (by omega) (by decide) ?_
        refine v_lcmp (pc := 52) d_Bag_differencesFrom_52 ?_
        refine v_if_eq (pc := 53) (tgt := 59) d_Bag_differencesFrom_53 rfl (fun hc => ?_) (fun hc => ?_)
        · skip
          have hm := hc
          refine v_iload (pc := 59) d_Bag_differencesFrom_59 rfl ?_
          refine v_if_gt (pc := 61) (tgt := 67) d_Bag_differencesFrom_61 rfl (fun hc => ?_) (fun hc => ?_)
          · skip
            exact absurd hc (by decide)
          · skip
            refine v_iinc (pc := 64) (L' := [(3, .int (nI (i + 1))), (5, .int (nI 0)), (2, .int (nI d)), (4, .int (nI j)), (0, .ref h), (1, .ref e)]) d_Bag_differencesFrom_64 rfl (ix_inc _) (by decide) rfl ?_
            refine v_iload (pc := 67) d_Bag_differencesFrom_67 rfl ?_
            refine v_if_lt (pc := 69) (tgt := 75) d_Bag_differencesFrom_69 rfl (fun hc => ?_) (fun hc => ?_)
            · skip
              exact absurd hc (by decide)
            · skip
              refine v_iinc (pc := 72) (L' := [(4, .int (nI (j + 1))), (3, .int (nI (i + 1))), (5, .int (nI 0)), (2, .int (nI d)), (0, .ref h), (1, .ref e)]) d_Bag_differencesFrom_72 rfl (ix_inc _) (by decide) rfl ?_
              refine v_goto (pc := 75) (tgt := 7) d_Bag_differencesFrom_75 rfl ?_
              refine v_sub (L' := [(2, .int (nI d)), (3, .int (nI (i + 1))), (4, .int (nI (j + 1))), (0, .ref h), (1, .ref e)]) (by simp) ?_
              exact ih (n + ne - (i + 1 + (j + 1))) (by omega) _ _ _ rfl (by omega) (by omega) (by rw [mvB hP.1 hP.2.1 hP.2.2, if_pos (lg0.mp hm)] at hinv; omega)
        · skip
          have hm := hc
          refine v_iinc (pc := 56) (L' := [(2, .int (nI (d + 1))), (5, .int (nI 0)), (3, .int (nI i)), (4, .int (nI j)), (0, .ref h), (1, .ref e)]) d_Bag_differencesFrom_56 rfl (ix_inc _) (by decide) rfl ?_
          have hm := hc
          refine v_iload (pc := 59) d_Bag_differencesFrom_59 rfl ?_
          refine v_if_gt (pc := 61) (tgt := 67) d_Bag_differencesFrom_61 rfl (fun hc => ?_) (fun hc => ?_)
          · skip
            exact absurd hc (by decide)
          · skip
            refine v_iinc (pc := 64) (L' := [(3, .int (nI (i + 1))), (2, .int (nI (d + 1))), (5, .int (nI 0)), (4, .int (nI j)), (0, .ref h), (1, .ref e)]) d_Bag_differencesFrom_64 rfl (ix_inc _) (by decide) rfl ?_
            refine v_iload (pc := 67) d_Bag_differencesFrom_67 rfl ?_
            refine v_if_lt (pc := 69) (tgt := 75) d_Bag_differencesFrom_69 rfl (fun hc => ?_) (fun hc => ?_)
            · skip
              exact absurd hc (by decide)
            · skip
              refine v_iinc (pc := 72) (L' := [(4, .int (nI (j + 1))), (3, .int (nI (i + 1))), (2, .int (nI (d + 1))), (5, .int (nI 0)), (0, .ref h), (1, .ref e)]) d_Bag_differencesFrom_72 rfl (ix_inc _) (by decide) rfl ?_
              refine v_goto (pc := 75) (tgt := 7) d_Bag_differencesFrom_75 rfl ?_
              refine v_sub (L' := [(2, .int (nI (d + 1))), (3, .int (nI (i + 1))), (4, .int (nI (j + 1))), (0, .ref h), (1, .ref e)]) (by simp) ?_
              exact ih (n + ne - (i + 1 + (j + 1))) (by omega) _ _ _ rfl (by omega) (by omega) (by rw [mvB hP.1 hP.2.1 hP.2.2, if_neg (fun h => hm (lg0.mpr h))] at hinv; omega)
    · skip
      refine v_re ho ?_
      refine v_istore (pc := 32) (L' := [(5, .int (nI 1)), (2, .int (nI d)), (3, .int (nI i)), (4, .int (nI j)), (0, .ref h), (1, .ref e)]) d_Bag_differencesFrom_32 (by decide) rfl ?_
      refine v_iload (pc := 34) d_Bag_differencesFrom_34 rfl ?_
      refine v_if_ne (pc := 36) (tgt := 56) d_Bag_differencesFrom_36 rfl (fun hc => ?_) (fun hc => ?_)
      · skip
        refine v_iinc (pc := 56) (L' := [(2, .int (nI (d + 1))), (5, .int (nI 1)), (3, .int (nI i)), (4, .int (nI j)), (0, .ref h), (1, .ref e)]) d_Bag_differencesFrom_56 rfl (ix_inc _) (by decide) rfl ?_
        refine v_iload (pc := 59) d_Bag_differencesFrom_59 rfl ?_
        refine v_if_gt (pc := 61) (tgt := 67) d_Bag_differencesFrom_61 rfl (fun hc => ?_) (fun hc => ?_)
        · skip
          refine v_iload (pc := 67) d_Bag_differencesFrom_67 rfl ?_
          refine v_if_lt (pc := 69) (tgt := 75) d_Bag_differencesFrom_69 rfl (fun hc => ?_) (fun hc => ?_)
          · skip
            exact absurd hc (by decide)
          · skip
            refine v_iinc (pc := 72) (L' := [(4, .int (nI (j + 1))), (2, .int (nI (d + 1))), (5, .int (nI 1)), (3, .int (nI i)), (0, .ref h), (1, .ref e)]) d_Bag_differencesFrom_72 rfl (ix_inc _) (by decide) rfl ?_
            refine v_goto (pc := 75) (tgt := 7) d_Bag_differencesFrom_75 rfl ?_
            refine v_sub (L' := [(2, .int (nI (d + 1))), (3, .int (nI i)), (4, .int (nI (j + 1))), (0, .ref h), (1, .ref e)]) (by simp) ?_
            exact ih (n + ne - (i + (j + 1))) (by omega) _ _ _ rfl (by omega) (by omega) (by rw [mvC hP.1 hP.2] at hinv; omega)
        · skip
          exact absurd hc (by decide)
      · skip
        exact absurd hc (by decide)
  · skip
    rw [nI_ltI (by omega) (by omega)] at hc
    refine v_iload (pc := 15) d_Bag_differencesFrom_15 rfl ?_
    refine v_aload_n (pc := 17) d_Bag_differencesFrom_17 rfl rfl ?_
    refine v_get (pc := 18) d_Bag_differencesFrom_18 fl_Bag_15 hE.o rfl ?_
    refine v_icmp_ge (pc := 21) (tgt := 78) d_Bag_differencesFrom_21 rfl (fun hc => ?_) (fun hc => ?_)
    · skip
      rw [nI_leI (by omega) (by omega)] at hc
      have hz : ma_mv (ar_bag f m wd i (n - i)) (ar_bag fe me wd j (ne - j)) = 0 := by rw [ar_tl (show ¬ i < n by omega), ar_tl (show ¬ j < ne by omega)]; exact mv_nil []
      refine v_iload_n (pc := 78) d_Bag_differencesFrom_78 rfl rfl ?_
      exact v_iret (pc := 79) d_Bag_differencesFrom_79 rfl (Nat.le_of_ble_eq_true rfl) (Nat.le_of_ble_eq_true rfl) ⟨by rw [← hinv, hz, Nat.add_zero], rfl, rfl⟩
    · skip
      rw [nI_leI (by omega) (by omega)] at hc
      have hor : i < n ∨ j < ne := by omega
      refine v_aload_n (pc := 24) d_Bag_differencesFrom_24 rfl rfl ?_
      refine v_iload_n (pc := 25) d_Bag_differencesFrom_25 rfl rfl ?_
      refine v_aload_n (pc := 26) d_Bag_differencesFrom_26 rfl rfl ?_
      refine v_iload (pc := 27) d_Bag_differencesFrom_27 rfl ?_
      refine v_cvR (pc := 29) (A := [.int (nI i), .ref e, .int (nI j)]) (rest := []) (x := .int (if i < n ∧ j < ne then ma_cmp (ar_row f wd (4 * i)) (ar_row fe wd (4 * j)) else if i < n then (-1) else 1)) d_Bag_differencesFrom_29 lk_Bag_71 me_Bag_orderOfRows im_Bag_orderOfRows se_Bag_orderOfRows rfl hB.o rfl rfl (c_Bag_orderOfRows g hB hE hwd hn hne (i := i) (j := j) (by omega) (by omega)) (Nat.le_of_ble_eq_true rfl) (Nat.le_of_ble_eq_true rfl) (Nat.le_of_ble_eq_true rfl) (Nat.le_of_ble_eq_true rfl) ?_
      have hord : ((if i < n ∧ j < ne then ma_cmp (ar_row f wd (4 * i)) (ar_row fe wd (4 * j)) else if i < n then (-1) else 1) = (-1 : Int32) ∧ i < n ∧ (¬ j < ne ∨ ma_lt (ar_row f wd (4 * i)) (ar_row fe wd (4 * j)) = true)) ∨ ((if i < n ∧ j < ne then ma_cmp (ar_row f wd (4 * i)) (ar_row fe wd (4 * j)) else if i < n then (-1) else 1) = nI 0 ∧ i < n ∧ j < ne ∧ ar_row f wd (4 * i) = ar_row fe wd (4 * j)) ∨ ((if i < n ∧ j < ne then ma_cmp (ar_row f wd (4 * i)) (ar_row fe wd (4 * j)) else if i < n then (-1) else 1) = nI 1 ∧ j < ne ∧ (¬ i < n ∨ (¬ ma_lt (ar_row f wd (4 * i)) (ar_row fe wd (4 * j)) = true ∧ ar_row f wd (4 * i) ≠ ar_row fe wd (4 * j)))) := by
        by_cases hb : i < n ∧ j < ne
        · rw [if_pos hb]; unfold ma_cmp
          by_cases h1 : ma_lt (ar_row f wd (4 * i)) (ar_row fe wd (4 * j)) = true
          · rw [if_pos h1]; exact Or.inl ⟨rfl, hb.1, Or.inr h1⟩
          · rw [if_neg h1]
            by_cases h2 : ar_row f wd (4 * i) = ar_row fe wd (4 * j)
            · rw [if_pos h2]; exact Or.inr (Or.inl ⟨rfl, hb.1, hb.2, h2⟩)
            · rw [if_neg h2]; exact Or.inr (Or.inr ⟨rfl, hb.2, Or.inr ⟨h1, h2⟩⟩)
        · rw [if_neg hb]
          by_cases hi : i < n
          · rw [if_pos hi]; exact Or.inl ⟨rfl, hi, Or.inl (fun h => hb ⟨hi, h⟩)⟩
          · rw [if_neg hi]; exact Or.inr (Or.inr ⟨rfl, by omega, Or.inl hi⟩)
      rcases hord with ⟨ho, hP⟩ | ⟨ho, hP⟩ | ⟨ho, hP⟩
      · skip
        refine v_re ho ?_
        refine v_istore (pc := 32) (L' := [(5, .int (-1)), (2, .int (nI d)), (3, .int (nI i)), (4, .int (nI j)), (0, .ref h), (1, .ref e)]) d_Bag_differencesFrom_32 (by decide) rfl ?_
        refine v_iload (pc := 34) d_Bag_differencesFrom_34 rfl ?_
        refine v_if_ne (pc := 36) (tgt := 56) d_Bag_differencesFrom_36 rfl (fun hc => ?_) (fun hc => ?_)
        · skip
          refine v_iinc (pc := 56) (L' := [(2, .int (nI (d + 1))), (5, .int (-1)), (3, .int (nI i)), (4, .int (nI j)), (0, .ref h), (1, .ref e)]) d_Bag_differencesFrom_56 rfl (ix_inc _) (by decide) rfl ?_
          refine v_iload (pc := 59) d_Bag_differencesFrom_59 rfl ?_
          refine v_if_gt (pc := 61) (tgt := 67) d_Bag_differencesFrom_61 rfl (fun hc => ?_) (fun hc => ?_)
          · skip
            exact absurd hc (by decide)
          · skip
            refine v_iinc (pc := 64) (L' := [(3, .int (nI (i + 1))), (2, .int (nI (d + 1))), (5, .int (-1)), (4, .int (nI j)), (0, .ref h), (1, .ref e)]) d_Bag_differencesFrom_64 rfl (ix_inc _) (by decide) rfl ?_
            refine v_iload (pc := 67) d_Bag_differencesFrom_67 rfl ?_
            refine v_if_lt (pc := 69) (tgt := 75) d_Bag_differencesFrom_69 rfl (fun hc => ?_) (fun hc => ?_)
            · skip
              refine v_goto (pc := 75) (tgt := 7) d_Bag_differencesFrom_75 rfl ?_
              refine v_sub (L' := [(2, .int (nI (d + 1))), (3, .int (nI (i + 1))), (4, .int (nI j)), (0, .ref h), (1, .ref e)]) (by simp) ?_
              exact ih (n + ne - (i + 1 + (j))) (by omega) _ _ _ rfl (by omega) (by omega) (by rw [mvA hP.1 hP.2] at hinv; omega)
            · skip
              exact absurd hc (by decide)
        · skip
          exact absurd hc (by decide)
      · skip
        refine v_re ho ?_
        refine v_istore (pc := 32) (L' := [(5, .int (nI 0)), (2, .int (nI d)), (3, .int (nI i)), (4, .int (nI j)), (0, .ref h), (1, .ref e)]) d_Bag_differencesFrom_32 (by decide) rfl ?_
        refine v_iload (pc := 34) d_Bag_differencesFrom_34 rfl ?_
        refine v_if_ne (pc := 36) (tgt := 56) d_Bag_differencesFrom_36 rfl (fun hc => ?_) (fun hc => ?_)
        · skip
          exact absurd hc (by decide)
        · skip
          refine v_aload_n (pc := 39) d_Bag_differencesFrom_39 rfl rfl ?_
          refine v_get (pc := 40) d_Bag_differencesFrom_40 fl_Bag_22 hB.o rfl ?_
          refine v_iload_n (pc := 43) d_Bag_differencesFrom_43 rfl rfl ?_
          refine v_laldN (pc := 44) (k := i) (f := m) d_Bag_differencesFrom_44 hB.m rfl (by omega) (by decide) ?_
          refine v_aload_n (pc := 45) d_Bag_differencesFrom_45 rfl rfl ?_
          refine v_get (pc := 46) d_Bag_differencesFrom_46 fl_Bag_22 hE.o rfl ?_
          refine v_iload (pc := 49) d_Bag_differencesFrom_49 rfl ?_
          refine v_laldN (pc := 51) (k := j) (f := me) d_Bag_differencesFrom_51 hE.m rfl (by omega) (by decide) ?_
          refine v_lcmp (pc := 52) d_Bag_differencesFrom_52 ?_
          refine v_if_eq (pc := 53) (tgt := 59) d_Bag_differencesFrom_53 rfl (fun hc => ?_) (fun hc => ?_)
          · skip
            have hm := hc
            refine v_iload (pc := 59) d_Bag_differencesFrom_59 rfl ?_
            refine v_if_gt (pc := 61) (tgt := 67) d_Bag_differencesFrom_61 rfl (fun hc => ?_) (fun hc => ?_)
            · skip
              exact absurd hc (by decide)
            · skip
              refine v_iinc (pc := 64) (L' := [(3, .int (nI (i + 1))), (5, .int (nI 0)), (2, .int (nI d)), (4, .int (nI j)), (0, .ref h), (1, .ref e)]) d_Bag_differencesFrom_64 rfl (ix_inc _) (by decide) rfl ?_
              refine v_iload (pc := 67) d_Bag_differencesFrom_67 rfl ?_
              refine v_if_lt (pc := 69) (tgt := 75) d_Bag_differencesFrom_69 rfl (fun hc => ?_) (fun hc => ?_)
              · skip
                exact absurd hc (by decide)
              · skip
                refine v_iinc (pc := 72) (L' := [(4, .int (nI (j + 1))), (3, .int (nI (i + 1))), (5, .int (nI 0)), (2, .int (nI d)), (0, .ref h), (1, .ref e)]) d_Bag_differencesFrom_72 rfl (ix_inc _) (by decide) rfl ?_
                refine v_goto (pc := 75) (tgt := 7) d_Bag_differencesFrom_75 rfl ?_
                refine v_sub (L' := [(2, .int (nI d)), (3, .int (nI (i + 1))), (4, .int (nI (j + 1))), (0, .ref h), (1, .ref e)]) (by simp) ?_
                exact ih (n + ne - (i + 1 + (j + 1))) (by omega) _ _ _ rfl (by omega) (by omega) (by rw [mvB hP.1 hP.2.1 hP.2.2, if_pos (lg0.mp hm)] at hinv; omega)
          · skip
            have hm := hc
            refine v_iinc (pc := 56) (L' := [(2, .int (nI (d + 1))), (5, .int (nI 0)), (3, .int (nI i)), (4, .int (nI j)), (0, .ref h), (1, .ref e)]) d_Bag_differencesFrom_56 rfl (ix_inc _) (by decide) rfl ?_
            have hm := hc
            refine v_iload (pc := 59) d_Bag_differencesFrom_59 rfl ?_
            refine v_if_gt (pc := 61) (tgt := 67) d_Bag_differencesFrom_61 rfl (fun hc => ?_) (fun hc => ?_)
            · skip
              exact absurd hc (by decide)
            · skip
              refine v_iinc (pc := 64) (L' := [(3, .int (nI (i + 1))), (2, .int (nI (d + 1))), (5, .int (nI 0)), (4, .int (nI j)), (0, .ref h), (1, .ref e)]) d_Bag_differencesFrom_64 rfl (ix_inc _) (by decide) rfl ?_
              refine v_iload (pc := 67) d_Bag_differencesFrom_67 rfl ?_
              refine v_if_lt (pc := 69) (tgt := 75) d_Bag_differencesFrom_69 rfl (fun hc => ?_) (fun hc => ?_)
              · skip
                exact absurd hc (by decide)
              · skip
                refine v_iinc (pc := 72) (L' := [(4, .int (nI (j + 1))), (3, .int (nI (i + 1))), (2, .int (nI (d + 1))), (5, .int (nI 0)), (0, .ref h), (1, .ref e)]) d_Bag_differencesFrom_72 rfl (ix_inc _) (by decide) rfl ?_
                refine v_goto (pc := 75) (tgt := 7) d_Bag_differencesFrom_75 rfl ?_
                refine v_sub (L' := [(2, .int (nI (d + 1))), (3, .int (nI (i + 1))), (4, .int (nI (j + 1))), (0, .ref h), (1, .ref e)]) (by simp) ?_
                exact ih (n + ne - (i + 1 + (j + 1))) (by omega) _ _ _ rfl (by omega) (by omega) (by rw [mvB hP.1 hP.2.1 hP.2.2, if_neg (fun h => hm (lg0.mpr h))] at hinv; omega)
      · skip
        refine v_re ho ?_
        refine v_istore (pc := 32) (L' := [(5, .int (nI 1)), (2, .int (nI d)), (3, .int (nI i)), (4, .int (nI j)), (0, .ref h), (1, .ref e)]) d_Bag_differencesFrom_32 (by decide) rfl ?_
        refine v_iload (pc := 34) d_Bag_differencesFrom_34 rfl ?_
        refine v_if_ne (pc := 36) (tgt := 56) d_Bag_differencesFrom_36 rfl (fun hc => ?_) (fun hc => ?_)
        · skip
          refine v_iinc (pc := 56) (L' := [(2, .int (nI (d + 1))), (5, .int (nI 1)), (3, .int (nI i)), (4, .int (nI j)), (0, .ref h), (1, .ref e)]) d_Bag_differencesFrom_56 rfl (ix_inc _) (by decide) rfl ?_
          refine v_iload (pc := 59) d_Bag_differencesFrom_59 rfl ?_
          refine v_if_gt (pc := 61) (tgt := 67) d_Bag_differencesFrom_61 rfl (fun hc => ?_) (fun hc => ?_)
          · skip
            refine v_iload (pc := 67) d_Bag_differencesFrom_67 rfl ?_
            refine v_if_lt (pc := 69) (tgt := 75) d_Bag_differencesFrom_69 rfl (fun hc => ?_) (fun hc => ?_)
            · skip
              exact absurd hc (by decide)
            · skip
              refine v_iinc (pc := 72) (L' := [(4, .int (nI (j + 1))), (2, .int (nI (d + 1))), (5, .int (nI 1)), (3, .int (nI i)), (0, .ref h), (1, .ref e)]) d_Bag_differencesFrom_72 rfl (ix_inc _) (by decide) rfl ?_
              refine v_goto (pc := 75) (tgt := 7) d_Bag_differencesFrom_75 rfl ?_
              refine v_sub (L' := [(2, .int (nI (d + 1))), (3, .int (nI i)), (4, .int (nI (j + 1))), (0, .ref h), (1, .ref e)]) (by simp) ?_
              exact ih (n + ne - (i + (j + 1))) (by omega) _ _ _ rfl (by omega) (by omega) (by rw [mvC hP.1 hP.2] at hinv; omega)
          · skip
            exact absurd hc (by decide)
        · skip
          exact absurd hc (by decide)
set_option maxRecDepth 100000 in
set_option maxHeartbeats 4000000 in
theorem c_Bag_differencesFrom (g : Gl) {w : Wd} {h sz wd n : Nat} {f : Nat → Int32} {m : Nat → Int64} {pd : Nat → Int32} (hB : BGo w h wd n f m pd) {e ne : Nat} {fe : Nat → Int32} {me : Nat → Int64} {pe : Nat → Int32} (hE : BGo w e wd ne fe me pe) (hwd : wd ≤ 4) (hn : n ≤ 32) (hne : ne ≤ 32) : CT g 2 0 0 mi_Bag_differencesFrom [.ref h, .ref e] w sz (rdE (some (.int (nI (ma_mv (ar_bag f m wd 0 n) (ar_bag fe me wd 0 ne))))) w sz) := by
  refine CT.of (by decide) (Nat.le_of_ble_eq_true rfl) ?_
  refine v_iconst (pc := 0) (v := nI 0) d_Bag_differencesFrom_0 rfl ?_
  refine v_istore_n (pc := 1) (L' := [(2, .int (nI 0)), (0, .ref h), (1, .ref e)]) d_Bag_differencesFrom_1 rfl (by decide) rfl ?_
  refine v_iconst (pc := 2) (v := nI 0) d_Bag_differencesFrom_2 rfl ?_
  refine v_istore_n (pc := 3) (L' := [(3, .int (nI 0)), (2, .int (nI 0)), (0, .ref h), (1, .ref e)]) d_Bag_differencesFrom_3 rfl (by decide) rfl ?_
  refine v_iconst (pc := 4) (v := nI 0) d_Bag_differencesFrom_4 rfl ?_
  refine v_istore (pc := 5) (L' := [(4, .int (nI 0)), (3, .int (nI 0)), (2, .int (nI 0)), (0, .ref h), (1, .ref e)]) d_Bag_differencesFrom_5 (by decide) rfl ?_
  refine v_sub (L' := [(2, .int (nI 0)), (3, .int (nI 0)), (4, .int (nI 0)), (0, .ref h), (1, .ref e)]) (by simp) ?_
  exact lp_Bag_differencesFrom g hB hE hwd hn hne _ 0 0 0 rfl (by omega) (by omega) (by rw [Nat.zero_add]; rfl)
