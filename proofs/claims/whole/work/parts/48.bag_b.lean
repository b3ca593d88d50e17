theorem dec1 {p : Nat} (h : 0 < p) : nI p + Int32.ofInt (-1) = nI (p - 1) := by
  obtain ⟨k, rfl⟩ : ∃ k, p = k + 1 := ⟨p - 1, by omega⟩
  have h1 := nI_pred k
  rw [Int32.sub_eq_add_neg] at h1
  exact h1
theorem ar_srt {f : Nat → Int32} {m : Nat → Int64} {wd n : Nat} (h : ma_srt (ar_bag f m wd 0 n)) : ∀ i j, i < j → j < n → ma_lt (ar_row f wd (4 * i)) (ar_row f wd (4 * j)) = true := by
  intro i j hij hj
  have h1 := List.pairwise_iff_getElem.mp h i j (by rw [ar_bag_len]; omega) (by rw [ar_bag_len]; exact hj) hij
  have e1 : (ar_bag f m wd 0 n)[i]'(by rw [ar_bag_len]; omega) = (ar_row f wd (4 * (0 + i)), m (0 + i)) := by
    have := ar_bag_get (f := f) (m := m) (w := wd) (o := 0) (show i < n by omega)
    exact (List.getElem?_eq_some_iff.mp this).2
  have e2 : (ar_bag f m wd 0 n)[j]'(by rw [ar_bag_len]; exact hj) = (ar_row f wd (4 * (0 + j)), m (0 + j)) := by
    have := ar_bag_get (f := f) (m := m) (w := wd) (o := 0) hj
    exact (List.getElem?_eq_some_iff.mp this).2
  rw [e1, e2, Nat.zero_add, Nat.zero_add] at h1
  exact h1
theorem ar_at0 {f : Nat → Int32} {m : Nat → Int64} {wd n j : Nat} {x : List Int32 × Int64} (hj : j < n) (h : (ar_bag f m wd 0 n)[j]? = some x) : x = (ar_row f wd (4 * j), m j) := by
  rw [ar_bag_get hj, Nat.zero_add] at h
  exact (Option.some.inj h).symm
set_option maxRecDepth 100000 in
set_option maxHeartbeats 4000000 in
theorem lp_Bag_placeOfPending (g : Gl) {w : Wd} {h sz wd n : Nat} {f : Nat → Int32} {m : Nat → Int64} {pd : Nat → Int32} (hB : BGo w h wd n f m pd) (hn : n ≤ 32) (hwd : wd ≤ 4) (hS : ∀ i j, i < j → j < n → ma_lt (ar_row f wd (4 * i)) (ar_row f wd (4 * j)) = true) : ∀ (zz : Nat) (p : Nat), p = zz → p ≤ n → (∀ j, p ≤ j → j < n → ¬ ma_lt (ar_row f wd (4 * j)) (ar_row pd wd 0) = true) → VV g 1 0 0 mi_Bag_placeOfPending w sz (rdE (some (.int (nI (ma_pl (ar_bag f m wd 0 n) (ar_row pd wd 0))))) w sz) 5 [(1, .int (nI p)), (0, .ref h)] [] w sz 0 0 := by
  intro zz
  induction zz using Nat.strongRecOn with | _ zz ih => _
  intro p hnn hpn hnl
  subst hnn
  refine v_iload_n (pc := 5) d_Bag_placeOfPending_5 rfl rfl ?_
  refine v_if_le (pc := 6) (tgt := 30) d_Bag_placeOfPending_6 rfl (fun hc => ?_) (fun hc => ?_)
  · skip
    obtain rfl : p = 0 := by rcases Nat.eq_zero_or_pos p with h | h; (exact h); (exact absurd hc (nI_nle h (by omega)))
    have hpl : ma_pl (ar_bag f m wd 0 n) (ar_row pd wd 0) = 0 := ma_pl_eq (Nat.zero_le _) (fun j x hj => absurd hj (Nat.not_lt_zero _)) (fun x hx => by have h1 : 0 < n := (by have h8 := (List.getElem?_eq_some_iff.mp hx).1; rw [ar_bag_len] at h8; exact h8); rw [ar_at0 h1 hx]; exact hnl 0 (Nat.le_refl _) h1)
    refine v_iload_n (pc := 30) d_Bag_placeOfPending_30 rfl rfl ?_
    exact v_iret (pc := 31) d_Bag_placeOfPending_31 rfl (Nat.le_of_ble_eq_true rfl) (Nat.le_of_ble_eq_true rfl) ⟨by rw [hpl], rfl, rfl⟩
  · skip
    have hp0 : 0 < p := by rcases Nat.eq_zero_or_pos p with h | h; (subst h; exact absurd (by decide) hc); (exact h)
    refine v_aload_n (pc := 9) d_Bag_placeOfPending_9 rfl rfl ?_
    refine v_iload_n (pc := 10) d_Bag_placeOfPending_10 rfl rfl ?_
    refine v_iconst (pc := 11) (v := nI 1) d_Bag_placeOfPending_11 rfl ?_
    refine v_isub (pc := 12) d_Bag_placeOfPending_12 ?_
    refine v_re (pk_sub (a := p) (b := 1) (by omega)) ?_
    refine v_aload_n (pc := 13) d_Bag_placeOfPending_13 rfl rfl ?_
    refine v_get (pc := 14) d_Bag_placeOfPending_14 fl_Bag_26 hB.o rfl ?_
    refine v_iconst (pc := 17) (v := nI 0) d_Bag_placeOfPending_17 rfl ?_
    refine v_cvR (pc := 18) (A := [.int (nI (p - 1)), .ref (h + 3), .int (nI 0)]) (rest := []) (x := .int (ma_cmp (ar_row f wd (4 * (p - 1))) (ar_row pd wd 0))) d_Bag_placeOfPending_18 lk_Bag_75 me_Bag_orderOfCells im_Bag_orderOfCells se_Bag_orderOfCells rfl hB.o rfl rfl (c_Bag_orderOfCells g hB (r := p - 1) (x := h + 3) (N := 4) (s := 0) (q := pd) (by omega) hwd hB.p (by decide) (by omega)) (Nat.le_of_ble_eq_true rfl) (Nat.le_of_ble_eq_true rfl) (Nat.le_of_ble_eq_true rfl) (Nat.le_of_ble_eq_true rfl) ?_
    refine v_if_lt (pc := 21) (tgt := 30) d_Bag_placeOfPending_21 rfl (fun hc => ?_) (fun hc => ?_)
    · skip
      rw [ma_cmp_ge] at hc
      have hpl : ma_pl (ar_bag f m wd 0 n) (ar_row pd wd 0) = p := ma_pl_eq (by rw [ar_bag_len]; omega) (fun j x hj hx => by rw [ar_at0 (by omega) hx]; by_cases h9 : j = p - 1; (subst h9; exact hc); (exact ma_lt_trans (hS j (p - 1) (by omega) (by omega)) hc)) (fun x hx => by have h1 : p < n := (by have h8 := (List.getElem?_eq_some_iff.mp hx).1; rw [ar_bag_len] at h8; exact h8); rw [ar_at0 h1 hx]; exact hnl p (Nat.le_refl _) h1)
      refine v_iload_n (pc := 30) d_Bag_placeOfPending_30 rfl rfl ?_
      exact v_iret (pc := 31) d_Bag_placeOfPending_31 rfl (Nat.le_of_ble_eq_true rfl) (Nat.le_of_ble_eq_true rfl) ⟨by rw [hpl], rfl, rfl⟩
    · skip
      rw [ma_cmp_ge] at hc
      refine v_iinc (pc := 24) (L' := [(1, .int (nI (p - 1))), (0, .ref h)]) d_Bag_placeOfPending_24 rfl (dec1 hp0) (by decide) rfl ?_
      refine v_goto (pc := 27) (tgt := 5) d_Bag_placeOfPending_27 rfl ?_
      refine v_sub (L' := [(1, .int (nI (p - 1))), (0, .ref h)]) (by simp) ?_
      exact ih (p - 1) (by omega) (p - 1) rfl (by omega) (fun j hj hjn => by by_cases h9 : j = p - 1; (subst h9; exact hc); (exact hnl j (by omega) hjn))
set_option maxRecDepth 100000 in
set_option maxHeartbeats 4000000 in
theorem c_Bag_placeOfPending (g : Gl) {w : Wd} {h sz wd n : Nat} {f : Nat → Int32} {m : Nat → Int64} {pd : Nat → Int32} (hB : BGo w h wd n f m pd) (hn : n ≤ 32) (hwd : wd ≤ 4) (hS : ∀ i j, i < j → j < n → ma_lt (ar_row f wd (4 * i)) (ar_row f wd (4 * j)) = true) : CT g 1 0 0 mi_Bag_placeOfPending [.ref h] w sz (rdE (some (.int (nI (ma_pl (ar_bag f m wd 0 n) (ar_row pd wd 0))))) w sz) := by
  refine CT.of (by decide) (Nat.le_of_ble_eq_true rfl) ?_
  refine v_aload_n (pc := 0) d_Bag_placeOfPending_0 rfl rfl ?_
  refine v_get (pc := 1) d_Bag_placeOfPending_1 fl_Bag_15 hB.o rfl ?_
  refine v_istore_n (pc := 4) (L' := [(1, .int (nI n)), (0, .ref h)]) d_Bag_placeOfPending_4 rfl (by decide) rfl ?_
  refine v_sub (L' := [(1, .int (nI n)), (0, .ref h)]) (by simp) ?_
  exact lp_Bag_placeOfPending g hB hn hwd hS n n rfl (by omega) (fun j h1 h2 => absurd h1 (by omega))
set_option maxRecDepth 100000 in
set_option maxHeartbeats 4000000 in
theorem c_Bag_isPending (g : Gl) {w : Wd} {h sz wd n : Nat} {f : Nat → Int32} {m : Nat → Int64} {pd : Nat → Int32} (hB : BGo w h wd n f m pd) (hn : n ≤ 32) (hwd : wd ≤ 4) {p : Nat} (hp : p ≤ 32) : CT g 1 0 0 mi_Bag_isPending [.ref h, .int (nI p)] w sz (rdE (some (.int (if p < n ∧ ar_row f wd (4 * p) = (ar_row pd wd 0) then 1 else 0))) w sz) := by
  refine CT.of (by decide) (Nat.le_of_ble_eq_true rfl) ?_
  refine v_iload_n (pc := 0) d_Bag_isPending_0 rfl rfl ?_
  refine v_aload_n (pc := 1) d_Bag_isPending_1 rfl rfl ?_
  refine v_get (pc := 2) d_Bag_isPending_2 fl_Bag_15 hB.o rfl ?_
  refine v_icmp_ge (pc := 5) (tgt := 25) d_Bag_isPending_5 rfl (fun hc => ?_) (fun hc => ?_)
  · skip
    rw [nI_leI (by omega) (by omega)] at hc
    refine v_iconst (pc := 25) (v := nI 0) d_Bag_isPending_25 rfl ?_
    exact v_zret (pc := 26) d_Bag_isPending_26 rfl z01 (Nat.le_of_ble_eq_true rfl) (Nat.le_of_ble_eq_true rfl) ⟨zr0 (fun h => absurd h.1 (by omega)), rfl, rfl⟩
  · skip
    rw [nI_leI (by omega) (by omega)] at hc
    have hpn : p < n := by omega
    refine v_aload_n (pc := 8) d_Bag_isPending_8 rfl rfl ?_
    refine v_iload_n (pc := 9) d_Bag_isPending_9 rfl rfl ?_
    refine v_aload_n (pc := 10) d_Bag_isPending_10 rfl rfl ?_
    refine v_get (pc := 11) d_Bag_isPending_11 fl_Bag_26 hB.o rfl ?_
    refine v_iconst (pc := 14) (v := nI 0) d_Bag_isPending_14 rfl ?_
    skip
    refine v_cvR (pc := 15) (A := [.int (nI p), .ref (h + 3), .int (nI 0)]) (rest := []) (x := .int (ma_cmp (ar_row f wd (4 * p)) (ar_row pd wd 0))) d_Bag_isPending_15 lk_Bag_75 me_Bag_orderOfCells im_Bag_orderOfCells se_Bag_orderOfCells rfl hB.o rfl rfl (c_Bag_orderOfCells g hB (r := p) (x := h + 3) (N := 4) (s := 0) (q := pd) (by omega) hwd hB.p (by decide) (by omega)) (Nat.le_of_ble_eq_true rfl) (Nat.le_of_ble_eq_true rfl) (Nat.le_of_ble_eq_true rfl) (Nat.le_of_ble_eq_true rfl) ?_
    refine v_if_ne (pc := 18) (tgt := 25) d_Bag_isPending_18 rfl (fun hc => ?_) (fun hc => ?_)
    · skip
      refine v_iconst (pc := 25) (v := nI 0) d_Bag_isPending_25 rfl ?_
      exact v_zret (pc := 26) d_Bag_isPending_26 rfl z01 (Nat.le_of_ble_eq_true rfl) (Nat.le_of_ble_eq_true rfl) ⟨zr0 (fun h => hc (ma_cmp_0.mpr h.2)), rfl, rfl⟩
    · skip
      refine v_iconst (pc := 21) (v := nI 1) d_Bag_isPending_21 rfl ?_
      refine v_goto (pc := 22) (tgt := 26) d_Bag_isPending_22 rfl ?_
      exact v_zret (pc := 26) d_Bag_isPending_26 rfl z11 (Nat.le_of_ble_eq_true rfl) (Nat.le_of_ble_eq_true rfl) ⟨zr1 ⟨hpn, ma_cmp_0.mp hc⟩, rfl, rfl⟩
theorem ins_eq {f pd : Nat → Int32} {m : Nat → Int64} {wd n p : Nat} {k : Int64} (hp : p ≤ n) (hwd : wd ≤ 4) : ar_bag (va_cpy pd (va_cpy f f (p * 4) (p * 4 + 4) (n * 4 - p * 4)) 0 (p * 4) wd) (vp_updL (va_cpy m m p (p + 1) (n - p)) p k) wd 0 (n + 1) = ar_bag f m wd 0 p ++ (ar_row pd wd 0, k) :: ar_bag f m wd p (n - p) := by
  rw [show n + 1 = p + (1 + (n - p)) by omega, ar_bag_split, ar_bag_split, Nat.zero_add]
  have e1 : ar_bag (va_cpy pd (va_cpy f f (p * 4) (p * 4 + 4) (n * 4 - p * 4)) 0 (p * 4) wd) (vp_updL (va_cpy m m p (p + 1) (n - p)) p k) wd 0 p = ar_bag f m wd 0 p := by
    refine ar_bag_congr (fun r hr c hc => ?_) (fun r hr => ?_)
    · unfold va_cpy; rw [if_neg (by omega), if_neg (by omega)]
    · rw [pk_uLn (by omega)]; unfold va_cpy; rw [if_neg (by omega)]
  have e3 : ar_bag (va_cpy pd (va_cpy f f (p * 4) (p * 4 + 4) (n * 4 - p * 4)) 0 (p * 4) wd) (vp_updL (va_cpy m m p (p + 1) (n - p)) p k) wd (p + 1) (n - p) = ar_bag f m wd p (n - p) := by
    refine ar_bag_congr (fun r hr c hc => ?_) (fun r hr => ?_)
    · unfold va_cpy; rw [if_neg (by omega), if_pos (by omega)]; congr 1; omega
    · rw [pk_uLn (by omega)]; unfold va_cpy; rw [if_pos (by omega)]; congr 1; omega
  have e2 : ar_bag (va_cpy pd (va_cpy f f (p * 4) (p * 4 + 4) (n * 4 - p * 4)) 0 (p * 4) wd) (vp_updL (va_cpy m m p (p + 1) (n - p)) p k) wd p 1 = [(ar_row pd wd 0, k)] := by
    show [(ar_row _ wd (4 * p), vp_updL (va_cpy m m p (p + 1) (n - p)) p k p)] = _
    rw [pk_uLs]
    refine congrArg (fun z => [(z, k)]) (ar_row_congr (fun c hc => ?_))
    unfold va_cpy; rw [if_pos (by omega)]; congr 1; omega
  rw [e1, e2, e3]
  rfl
theorem rem_eq {f : Nat → Int32} {m : Nat → Int64} {wd n p : Nat} (hp : p < n) (hwd : wd ≤ 4) : ar_bag (va_cpy f f (p * 4 + 4) (p * 4) ((n - 1) * 4 - p * 4)) (va_cpy m m (p + 1) p (n - 1 - p)) wd 0 (n - 1) = ar_bag f m wd 0 p ++ ar_bag f m wd (p + 1) (n - 1 - p) := by
  have hs : ∀ (f1 : Nat → Int32) (m1 : Nat → Int64), ar_bag f1 m1 wd 0 (n - 1) = ar_bag f1 m1 wd 0 p ++ ar_bag f1 m1 wd p (n - 1 - p) := fun f1 m1 => by
    have h9 := ar_bag_split f1 m1 wd 0 p (n - 1 - p)
    rw [Nat.zero_add, show p + (n - 1 - p) = n - 1 by omega] at h9
    exact h9
  rw [hs]
  congr 1
  · refine ar_bag_congr (fun r hr c hc => ?_) (fun r hr => ?_)
    · unfold va_cpy; rw [if_neg (by omega)]
    · unfold va_cpy; rw [if_neg (by omega)]
  · refine ar_bag_congr (fun r hr c hc => ?_) (fun r hr => ?_)
    · unfold va_cpy; rw [if_pos (by omega)]; congr 1; omega
    · unfold va_cpy; rw [if_pos (by omega)]; congr 1; omega
set_option maxRecDepth 100000 in
set_option maxHeartbeats 4000000 in
theorem c_Bag_insert (g : Gl) {w : Wd} {h sz wd n : Nat} {f : Nat → Int32} {m : Nat → Int64} {pd : Nat → Int32} (hB : BGo w h wd n f m pd) {p : Nat} (hp : p ≤ n) (hn : n < 32) (hwd : wd ≤ 4) (by_ : Int64) : CT g 2 0 0 mi_Bag_insert [.ref h, .int (nI p), .long by_] w sz (wrE none sz (fun w' => ∃ f' m', BGo w' h wd (n + 1) f' m' pd ∧ bg_fr h w w' ∧ ar_bag f' m' wd 0 (n + 1) = ar_bag f m wd 0 p ++ (ar_row pd wd 0, by_) :: ar_bag f m wd p (n - p))) := by
  refine CT.of (by decide) (Nat.le_of_ble_eq_true rfl) ?_
  refine v_iload_n (pc := 0) d_Bag_insert_0 rfl rfl ?_
  refine v_iconst (pc := 1) (v := nI 4) d_Bag_insert_1 rfl ?_
  refine v_imul (pc := 2) d_Bag_insert_2 ?_
  refine v_re (pk_mul p 4) ?_
  refine v_istore (pc := 3) (L' := [(4, .int (nI (p * 4))), (0, .ref h), (1, .int (nI p)), (2, .long by_)]) d_Bag_insert_3 (by decide) rfl ?_
  refine v_aload_n (pc := 5) d_Bag_insert_5 rfl rfl ?_
  refine v_get (pc := 6) d_Bag_insert_6 fl_Bag_15 hB.o rfl ?_
  refine v_iconst (pc := 9) (v := nI 4) d_Bag_insert_9 rfl ?_
  refine v_imul (pc := 10) d_Bag_insert_10 ?_
  refine v_re (pk_mul n 4) ?_
  refine v_istore (pc := 11) (L' := [(5, .int (nI (n * 4))), (4, .int (nI (p * 4))), (0, .ref h), (1, .int (nI p)), (2, .long by_)]) d_Bag_insert_11 (by decide) rfl ?_
  refine v_aload_n (pc := 13) d_Bag_insert_13 rfl rfl ?_
  refine v_get (pc := 14) d_Bag_insert_14 fl_Bag_18 hB.o rfl ?_
  refine v_iload (pc := 17) d_Bag_insert_17 rfl ?_
  refine v_aload_n (pc := 19) d_Bag_insert_19 rfl rfl ?_
  refine v_get (pc := 20) d_Bag_insert_20 fl_Bag_18 hB.o rfl ?_
  refine v_iload (pc := 23) d_Bag_insert_23 rfl ?_
  refine v_iconst (pc := 25) (v := nI 4) d_Bag_insert_25 rfl ?_
  refine v_iadd (pc := 26) d_Bag_insert_26 ?_
  refine v_re (nI_add (p * 4) 4) ?_
  refine v_iload (pc := 27) d_Bag_insert_27 rfl ?_
  refine v_iload (pc := 29) d_Bag_insert_29 rfl ?_
  refine v_isub (pc := 31) d_Bag_insert_31 ?_
  refine v_re (pk_sub (a := n * 4) (b := p * 4) (by omega)) ?_
  refine v_copyiW (pc := 32) (sp := p * 4) (dp := (p * 4) + 4) (n := (n * 4) - (p * 4)) d_Bag_insert_32 rfl hB.c hB.c (by omega) (by omega) (by decide) (by decide) (Nat.le_of_ble_eq_true rfl) (Nat.le_of_ble_eq_true rfl) (fun w1 hn1 hq1 => ?_)
  have h1 := hB.sc hn1 hq1
  refine v_aload_n (pc := 35) d_Bag_insert_35 rfl rfl ?_
  refine v_get (pc := 36) d_Bag_insert_36 fl_Bag_22 h1.o rfl ?_
  refine v_iload_n (pc := 39) d_Bag_insert_39 rfl rfl ?_
  refine v_aload_n (pc := 40) d_Bag_insert_40 rfl rfl ?_
  refine v_get (pc := 41) d_Bag_insert_41 fl_Bag_22 h1.o rfl ?_
  refine v_iload_n (pc := 44) d_Bag_insert_44 rfl rfl ?_
  refine v_iconst (pc := 45) (v := nI 1) d_Bag_insert_45 rfl ?_
  refine v_iadd (pc := 46) d_Bag_insert_46 ?_
  refine v_re (nI_add p 1) ?_
  refine v_aload_n (pc := 47) d_Bag_insert_47 rfl rfl ?_
  refine v_get (pc := 48) d_Bag_insert_48 fl_Bag_15 h1.o rfl ?_
  refine v_iload_n (pc := 51) d_Bag_insert_51 rfl rfl ?_
  refine v_isub (pc := 52) d_Bag_insert_52 ?_
  refine v_re (pk_sub (a := n) (b := p) (by omega)) ?_
  refine v_copylW (pc := 53) (sp := p) (dp := p + 1) (n := n - p) d_Bag_insert_53 rfl h1.m h1.m (by omega) (by omega) (by decide) (by decide) (Nat.le_of_ble_eq_true rfl) (Nat.le_of_ble_eq_true rfl) (fun w2 hn2 hq2 => ?_)
  have h2 := h1.sm hn2 hq2
  refine v_aload_n (pc := 56) d_Bag_insert_56 rfl rfl ?_
  refine v_get (pc := 57) d_Bag_insert_57 fl_Bag_26 h2.o rfl ?_
  refine v_iconst (pc := 60) (v := nI 0) d_Bag_insert_60 rfl ?_
  refine v_aload_n (pc := 61) d_Bag_insert_61 rfl rfl ?_
  refine v_get (pc := 62) d_Bag_insert_62 fl_Bag_18 h2.o rfl ?_
  refine v_iload (pc := 65) d_Bag_insert_65 rfl ?_
  refine v_aload_n (pc := 67) d_Bag_insert_67 rfl rfl ?_
  refine v_get (pc := 68) d_Bag_insert_68 fl_Bag_9 h2.o rfl ?_
  refine v_copyiW (pc := 71) (sp := 0) (dp := p * 4) (n := wd) d_Bag_insert_71 rfl h2.p h2.c (by omega) (by omega) (by decide) (by decide) (Nat.le_of_ble_eq_true rfl) (Nat.le_of_ble_eq_true rfl) (fun w3 hn3 hq3 => ?_)
  have h3 := h2.sc hn3 hq3
  refine v_aload_n (pc := 74) d_Bag_insert_74 rfl rfl ?_
  refine v_get (pc := 75) d_Bag_insert_75 fl_Bag_22 h3.o rfl ?_
  refine v_iload_n (pc := 78) d_Bag_insert_78 rfl rfl ?_
  refine v_lload_n (pc := 79) d_Bag_insert_79 rfl rfl ?_
  refine v_lastW (pc := 80) (k := p) (f := (va_cpy m m p (p + 1) (n - p))) d_Bag_insert_80 h3.m rfl (by omega) (by decide) (fun w4 hn4 hq4 => ?_)
  have h4 := h3.sm hn4 hq4
  refine v_aload_n (pc := 81) d_Bag_insert_81 rfl rfl ?_
  refine v_dup (pc := 82) d_Bag_insert_82 rfl ?_
  refine v_get (pc := 83) d_Bag_insert_83 fl_Bag_15 h4.o rfl ?_
  refine v_iconst (pc := 86) (v := nI 1) d_Bag_insert_86 rfl ?_
  refine v_iadd (pc := 87) d_Bag_insert_87 ?_
  refine v_re (nI_add n 1) ?_
  refine v_putW (pc := 88) (fs' := [.int (nI wd), .int (nI (n + 1)), .ref (h + 1), .ref (h + 2), .ref (h + 3)]) d_Bag_insert_88 fl_Bag_15 (fi_Bag_15 _) (ok_Bag_1 _) h4.o (Nat.le_of_ble_eq_true rfl) rfl (fun w5 hn5 hq5 => ?_)
  have h5 := h4.so hn5 hq5
  exact v_vret (pc := 91) d_Bag_insert_91 rfl (Nat.le_of_ble_eq_true rfl) (Nat.le_of_ble_eq_true rfl) ⟨rfl, rfl, _, _, h5, ((((bg_fr.rf.at ⟨by omega, by omega⟩ hq1).at ⟨by omega, by omega⟩ hq2).at ⟨by omega, by omega⟩ hq3).at ⟨by omega, by omega⟩ hq4).at ⟨by omega, by omega⟩ hq5, ins_eq hp hwd⟩
set_option maxRecDepth 100000 in
set_option maxHeartbeats 4000000 in
theorem c_Bag_remove (g : Gl) {w : Wd} {h sz wd n : Nat} {f : Nat → Int32} {m : Nat → Int64} {pd : Nat → Int32} (hB : BGo w h wd n f m pd) {p : Nat} (hp : p < n) (hn : n ≤ 32) (hwd : wd ≤ 4) : CT g 2 0 0 mi_Bag_remove [.ref h, .int (nI p)] w sz (wrE none sz (fun w' => ∃ f' m', BGo w' h wd (n - 1) f' m' pd ∧ bg_fr h w w' ∧ ar_bag f' m' wd 0 (n - 1) = ar_bag f m wd 0 p ++ ar_bag f m wd (p + 1) (n - 1 - p))) := by
  refine CT.of (by decide) (Nat.le_of_ble_eq_true rfl) ?_
  refine v_aload_n (pc := 0) d_Bag_remove_0 rfl rfl ?_
  refine v_dup (pc := 1) d_Bag_remove_1 rfl ?_
  refine v_get (pc := 2) d_Bag_remove_2 fl_Bag_15 hB.o rfl ?_
  refine v_iconst (pc := 5) (v := nI 1) d_Bag_remove_5 rfl ?_
  refine v_isub (pc := 6) d_Bag_remove_6 ?_
  refine v_re (pk_sub (a := n) (b := 1) (by omega)) ?_
  refine v_putW (pc := 7) (fs' := [.int (nI wd), .int (nI (n - 1)), .ref (h + 1), .ref (h + 2), .ref (h + 3)]) d_Bag_remove_7 fl_Bag_15 (fi_Bag_15 _) (ok_Bag_1 _) hB.o (Nat.le_of_ble_eq_true rfl) rfl (fun w1 hn1 hq1 => ?_)
  have h1 := hB.so hn1 hq1
  refine v_iload_n (pc := 10) d_Bag_remove_10 rfl rfl ?_
  refine v_iconst (pc := 11) (v := nI 4) d_Bag_remove_11 rfl ?_
  refine v_imul (pc := 12) d_Bag_remove_12 ?_
  refine v_re (pk_mul p 4) ?_
  refine v_istore_n (pc := 13) (L' := [(2, .int (nI (p * 4))), (0, .ref h), (1, .int (nI p))]) d_Bag_remove_13 rfl (by decide) rfl ?_
  refine v_aload_n (pc := 14) d_Bag_remove_14 rfl rfl ?_
  refine v_get (pc := 15) d_Bag_remove_15 fl_Bag_15 h1.o rfl ?_
  refine v_iconst (pc := 18) (v := nI 4) d_Bag_remove_18 rfl ?_
  refine v_imul (pc := 19) d_Bag_remove_19 ?_
  refine v_re (pk_mul (n - 1) 4) ?_
  refine v_istore_n (pc := 20) (L' := [(3, .int (nI ((n - 1) * 4))), (2, .int (nI (p * 4))), (0, .ref h), (1, .int (nI p))]) d_Bag_remove_20 rfl (by decide) rfl ?_
  refine v_aload_n (pc := 21) d_Bag_remove_21 rfl rfl ?_
  refine v_get (pc := 22) d_Bag_remove_22 fl_Bag_18 h1.o rfl ?_
  refine v_iload_n (pc := 25) d_Bag_remove_25 rfl rfl ?_
  refine v_iconst (pc := 26) (v := nI 4) d_Bag_remove_26 rfl ?_
  refine v_iadd (pc := 27) d_Bag_remove_27 ?_
  refine v_re (nI_add (p * 4) 4) ?_
  refine v_aload_n (pc := 28) d_Bag_remove_28 rfl rfl ?_
  refine v_get (pc := 29) d_Bag_remove_29 fl_Bag_18 h1.o rfl ?_
  refine v_iload_n (pc := 32) d_Bag_remove_32 rfl rfl ?_
  refine v_iload_n (pc := 33) d_Bag_remove_33 rfl rfl ?_
  refine v_iload_n (pc := 34) d_Bag_remove_34 rfl rfl ?_
  refine v_isub (pc := 35) d_Bag_remove_35 ?_
  refine v_re (pk_sub (a := (n - 1) * 4) (b := p * 4) (by omega)) ?_
  refine v_copyiW (pc := 36) (sp := (p * 4) + 4) (dp := p * 4) (n := ((n - 1) * 4) - (p * 4)) d_Bag_remove_36 rfl h1.c h1.c (by omega) (by omega) (by decide) (by decide) (Nat.le_of_ble_eq_true rfl) (Nat.le_of_ble_eq_true rfl) (fun w2 hn2 hq2 => ?_)
  have h2 := h1.sc hn2 hq2
  refine v_aload_n (pc := 39) d_Bag_remove_39 rfl rfl ?_
  refine v_get (pc := 40) d_Bag_remove_40 fl_Bag_22 h2.o rfl ?_
  refine v_iload_n (pc := 43) d_Bag_remove_43 rfl rfl ?_
  refine v_iconst (pc := 44) (v := nI 1) d_Bag_remove_44 rfl ?_
  refine v_iadd (pc := 45) d_Bag_remove_45 ?_
  refine v_re (nI_add p 1) ?_
  refine v_aload_n (pc := 46) d_Bag_remove_46 rfl rfl ?_
  refine v_get (pc := 47) d_Bag_remove_47 fl_Bag_22 h2.o rfl ?_
  refine v_iload_n (pc := 50) d_Bag_remove_50 rfl rfl ?_
  refine v_aload_n (pc := 51) d_Bag_remove_51 rfl rfl ?_
  refine v_get (pc := 52) d_Bag_remove_52 fl_Bag_15 h2.o rfl ?_
  refine v_iload_n (pc := 55) d_Bag_remove_55 rfl rfl ?_
  refine v_isub (pc := 56) d_Bag_remove_56 ?_
  refine v_re (pk_sub (a := n - 1) (b := p) (by omega)) ?_
  refine v_copylW (pc := 57) (sp := p + 1) (dp := p) (n := (n - 1) - p) d_Bag_remove_57 rfl h2.m h2.m (by omega) (by omega) (by decide) (by decide) (Nat.le_of_ble_eq_true rfl) (Nat.le_of_ble_eq_true rfl) (fun w3 hn3 hq3 => ?_)
  have h3 := h2.sm hn3 hq3
  exact v_vret (pc := 60) d_Bag_remove_60 rfl (Nat.le_of_ble_eq_true rfl) (Nat.le_of_ble_eq_true rfl) ⟨rfl, rfl, _, _, h3, ((bg_fr.rf.at ⟨by omega, by omega⟩ hq1).at ⟨by omega, by omega⟩ hq2).at ⟨by omega, by omega⟩ hq3, rem_eq hp hwd⟩
