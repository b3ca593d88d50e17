def bg_pr (w : Wd) (h wd n : Nat) (f : Nat → Int32) (m : Nat → Int64) (pd fe : Nat → Int32) (we r s c : Nat) (w' : Wd) : Prop := ∃ pd', BGo w' h wd n f m pd' ∧ bg_fr h w w' ∧ (∀ j, j < c → pd' (s + j) = fe (4 * r + j)) ∧ (∀ j, j < s ∨ s + c ≤ j → pd' j = pd j)
set_option maxRecDepth 100000 in
set_option maxHeartbeats 4000000 in
theorem lp_Bag_putRow (g : Gl) {w : Wd} {h sz wd n : Nat} {f : Nat → Int32} {m : Nat → Int64} {pd : Nat → Int32} (hB : BGo w h wd n f m pd) {e we ne : Nat} {fe : Nat → Int32} {me : Nat → Int64} {pe : Nat → Int32} (hE : BGo w e we ne fe me pe) (hd : e + 4 ≤ h ∨ h + 4 ≤ e) {r s : Nat} (hr : r < 32) (hwe : we ≤ 4) (hs : s + we ≤ 4) {E : Rs → Wd → Nat → Prop} (hE' : ∀ w', bg_pr w h wd n f m pd fe we r s we w' → E (.inl none) w' sz) : ∀ (zz : Nat) (c : Nat) (w1 : Wd), we - c = zz → c ≤ we → bg_pr w h wd n f m pd fe we r s c w1 → VV g 1 0 0 mi_Bag_putRow w sz E 3 [(4, .int (nI c)), (0, .ref h), (1, .ref e), (2, .int (nI r)), (3, .int (nI s))] [] w1 sz 0 0 := by
  intro zz
  induction zz using Nat.strongRecOn with | _ zz ih => _
  intro c w1 hnn hcw hpr
  obtain ⟨pd1, h1, hfr, hpd, hpo⟩ := id hpr
  have k1 := hE.mv (w' := w1) (fun q h1 h2 => hfr q (by omega))
  refine v_iload (pc := 3) d_Bag_putRow_3 rfl ?_
  refine v_aload_n (pc := 5) d_Bag_putRow_5 rfl rfl ?_
  refine v_get (pc := 6) d_Bag_putRow_6 fl_Bag_9 k1.o rfl ?_
  refine v_icmp_ge (pc := 9) (tgt := 33) d_Bag_putRow_9 rfl (fun hc => ?_) (fun hc => ?_)
  · skip
    rw [nI_leI (by omega) (by omega)] at hc
    obtain rfl : c = we := by omega
    exact v_vret (pc := 33) d_Bag_putRow_33 rfl (Nat.le_of_ble_eq_true rfl) (Nat.le_of_ble_eq_true rfl) (hE' w1 hpr)
  · skip
    rw [nI_leI (by omega) (by omega)] at hc
    refine v_aload_n (pc := 12) d_Bag_putRow_12 rfl rfl ?_
    refine v_iload_n (pc := 13) d_Bag_putRow_13 rfl rfl ?_
    refine v_iload (pc := 14) d_Bag_putRow_14 rfl ?_
    refine v_iadd (pc := 16) d_Bag_putRow_16 ?_
    refine v_re (nI_add s c) ?_
    refine v_aload_n (pc := 17) d_Bag_putRow_17 rfl rfl ?_
    refine v_iload_n (pc := 18) d_Bag_putRow_18 rfl rfl ?_
    refine v_iload (pc := 19) d_Bag_putRow_19 rfl ?_
    refine v_cvR (pc := 21) (A := [.int (nI r), .int (nI c)]) (rest := [.int (nI (s + c)), .ref h]) (x := .int (fe (4 * r + c))) d_Bag_putRow_21 lk_Bag_35 me_Bag_cellAt im_Bag_cellAt se_Bag_cellAt rfl k1.o rfl rfl (c_Bag_cellAt g k1 (r := r) (c := c) (by omega)) (Nat.le_of_ble_eq_true rfl) (Nat.le_of_ble_eq_true rfl) (Nat.le_of_ble_eq_true rfl) (Nat.le_of_ble_eq_true rfl) ?_
    refine v_cvV (pc := 24) (A := [.int (nI (s + c)), .int (fe (4 * r + c))]) (rest := []) d_Bag_putRow_24 lk_Bag_39 me_Bag_put im_Bag_put se_Bag_put rfl h1.o rfl rfl (c_Bag_put g h1 (c := s + c) (by omega) (fe (4 * r + c))) (Nat.le_of_ble_eq_true rfl) (Nat.le_of_ble_eq_true rfl) (Nat.le_of_ble_eq_true rfl) (Nat.le_of_ble_eq_true rfl) (fun w2 ht2 => ?_)
    obtain ⟨h2, hf2⟩ := ht2
    refine v_iinc (pc := 27) (L' := [(4, .int (nI (c + 1))), (0, .ref h), (1, .ref e), (2, .int (nI r)), (3, .int (nI s))]) d_Bag_putRow_27 rfl (ix_inc _) (by decide) rfl ?_
    refine v_goto (pc := 30) (tgt := 3) d_Bag_putRow_30 rfl ?_
    refine v_sub (L' := [(4, .int (nI (c + 1))), (0, .ref h), (1, .ref e), (2, .int (nI r)), (3, .int (nI s))]) (by simp) ?_
    exact ih (we - (c + 1)) (by omega) (c + 1) w2 rfl (by omega) ⟨_, h2, hfr.tr hf2, fun j hj => by by_cases h9 : j = c; (subst h9; exact pk_us); (rw [pk_un (by omega)]; exact hpd j (by omega)), fun j hj => by rw [pk_un (by omega)]; exact hpo j (by omega)⟩
set_option maxRecDepth 100000 in
set_option maxHeartbeats 4000000 in
theorem c_Bag_putRow (g : Gl) {w : Wd} {h sz wd n : Nat} {f : Nat → Int32} {m : Nat → Int64} {pd : Nat → Int32} (hB : BGo w h wd n f m pd) {e we ne : Nat} {fe : Nat → Int32} {me : Nat → Int64} {pe : Nat → Int32} (hE : BGo w e we ne fe me pe) (hd : e + 4 ≤ h ∨ h + 4 ≤ e) {r s : Nat} (hr : r < 32) (hwe : we ≤ 4) (hs : s + we ≤ 4) : CT g 1 0 0 mi_Bag_putRow [.ref h, .ref e, .int (nI r), .int (nI s)] w sz (wrE none sz (bg_pr w h wd n f m pd fe we r s we )) := by
  refine CT.of (by decide) (Nat.le_of_ble_eq_true rfl) ?_
  refine v_iconst (pc := 0) (v := nI 0) d_Bag_putRow_0 rfl ?_
  refine v_istore (pc := 1) (L' := [(4, .int (nI 0)), (0, .ref h), (1, .ref e), (2, .int (nI r)), (3, .int (nI s))]) d_Bag_putRow_1 (by decide) rfl ?_
  refine v_sub (L' := [(4, .int (nI 0)), (0, .ref h), (1, .ref e), (2, .int (nI r)), (3, .int (nI s))]) (by simp) ?_
  exact lp_Bag_putRow g hB hE hd hr hwe hs (fun w' h => ⟨rfl, rfl, h⟩) we 0 w rfl (by omega) ⟨pd, hB, bg_fr.rf, fun j hj => absurd hj (Nat.not_lt_zero _), fun j _ => rfl⟩
section LK
variable {f : Nat → Int32} {m : Nat → Int64} {wd n p : Nat} {q : List Int32}
theorem look_hit (hp : p < n) (hlo : ∀ j, j < p → ma_lt (ar_row f wd (4 * j)) q = true) (he : ar_row f wd (4 * p) = q) : ma_look (ar_bag f m wd 0 n) q = m p := by
  refine ma_look_hit (i := p) (fun j x hj hx => ?_) (by rw [ar_bag_get hp, Nat.zero_add, he])
  rw [ar_at0 (by omega) hx]
  exact ma_lt_ne (hlo j hj)
theorem look_miss (hlo : ∀ j, j < p → ma_lt (ar_row f wd (4 * j)) q = true) (hhi : ∀ j, p ≤ j → j < n → ma_lt q (ar_row f wd (4 * j)) = true) : ma_look (ar_bag f m wd 0 n) q = 0 := by
  refine ma_look_miss (ar_bag_len _ _ _ _ _) (fun j x hj hx => ?_)
  rw [ar_at0 hj hx]
  by_cases h : j < p
  · exact ma_lt_ne (hlo j h)
  · exact fun e => ma_lt_ne (hhi j (by omega) hj) e.symm
end LK
set_option maxRecDepth 100000 in
set_option maxHeartbeats 4000000 in
theorem c_Bag_timesOfPending (g : Gl) {w : Wd} {h sz wd n : Nat} {f : Nat → Int32} {m : Nat → Int64} {pd : Nat → Int32} (hB : BGo w h wd n f m pd) (hn : n ≤ 32) (hwd : wd ≤ 4) (hok : ma_srt (ar_bag f m wd 0 n)) : CT g 2 0 0 mi_Bag_timesOfPending [.ref h] w sz (rdE (some (.long (ma_look (ar_bag f m wd 0 n) (ar_row pd wd 0)))) w sz) := by
  refine CT.of (by decide) (Nat.le_of_ble_eq_true rfl) ?_
  have hS := ar_srt hok
  refine v_aload_n (pc := 0) d_Bag_timesOfPending_0 rfl rfl ?_
  refine v_cvR (pc := 1) (A := []) (rest := []) (x := .int (nI ((ma_pl (ar_bag f m wd 0 n) (ar_row pd wd 0))))) d_Bag_timesOfPending_1 lk_Bag_43 me_Bag_placeOfPending im_Bag_placeOfPending se_Bag_placeOfPending rfl hB.o rfl rfl (c_Bag_placeOfPending g hB hn hwd hS) (Nat.le_of_ble_eq_true rfl) (Nat.le_of_ble_eq_true rfl) (Nat.le_of_ble_eq_true rfl) (Nat.le_of_ble_eq_true rfl) ?_
  obtain ⟨hp1, hp2, hp3⟩ := ma_pl_facts (q := (ar_row pd wd 0)) (B := (ar_bag f m wd 0 n))
  rw [ar_bag_len] at hp1
  generalize (ma_pl (ar_bag f m wd 0 n) (ar_row pd wd 0)) = p at hp1 hp2 hp3 ⊢
  have hlo : ∀ j, j < p → ma_lt (ar_row f wd (4 * j)) (ar_row pd wd 0) = true := fun j hj => by have h9 := hp2 j _ hj (ar_bag_get (by omega)); rw [Nat.zero_add] at h9; exact h9
  refine v_istore_n (pc := 4) (L' := [(1, .int (nI p)), (0, .ref h)]) d_Bag_timesOfPending_4 rfl (by decide) rfl ?_
  refine v_aload_n (pc := 5) d_Bag_timesOfPending_5 rfl rfl ?_
  refine v_iload_n (pc := 6) d_Bag_timesOfPending_6 rfl rfl ?_
  refine v_cvR (pc := 7) (A := [.int (nI p)]) (rest := []) (x := .int (if p < n ∧ ar_row f wd (4 * p) = (ar_row pd wd 0) then 1 else 0)) d_Bag_timesOfPending_7 lk_Bag_47 me_Bag_isPending im_Bag_isPending se_Bag_isPending rfl hB.o rfl rfl (c_Bag_isPending g hB hn hwd (p := p) (by omega)) (Nat.le_of_ble_eq_true rfl) (Nat.le_of_ble_eq_true rfl) (Nat.le_of_ble_eq_true rfl) (Nat.le_of_ble_eq_true rfl) ?_
  refine v_if_eq (pc := 10) (tgt := 22) d_Bag_timesOfPending_10 rfl (fun hc => ?_) (fun hc => ?_)
  · skip
    rw [zf] at hc
    have hhi : ∀ j, p ≤ j → j < n → ma_lt (ar_row pd wd 0) (ar_row f wd (4 * j)) = true := fun j hj hjn => by
      have h5 : ma_lt (ar_row pd wd 0) (ar_row f wd (4 * p)) = true := by
        have hpn : p < n := by omega
        have h6 := hp3 _ (ar_bag_get hpn)
        rw [Nat.zero_add] at h6
        rcases ma_lt_tri (a := ar_row f wd (4 * p)) (b := (ar_row pd wd 0)) (by rw [ar_row_len, ar_row_len]) with h | h | h
        · exact absurd h h6
        · exact absurd ⟨hpn, h⟩ hc
        · exact h
      by_cases e : j = p
      · subst e; exact h5
      · exact ma_lt_trans h5 (hS p j (by omega) hjn)
    have hL := look_miss (m := m) hlo hhi
    refine v_lconst (pc := 22) (v := 0) d_Bag_timesOfPending_22 rfl ?_
    exact v_lret (pc := 23) d_Bag_timesOfPending_23 rfl (Nat.le_of_ble_eq_true rfl) (Nat.le_of_ble_eq_true rfl) ⟨by rw [hL], rfl, rfl⟩
  · skip
    rw [zt] at hc
    obtain ⟨hpn, hpe⟩ := hc
    have hL := look_hit (m := m) hpn hlo hpe
    refine v_aload_n (pc := 13) d_Bag_timesOfPending_13 rfl rfl ?_
    refine v_get (pc := 14) d_Bag_timesOfPending_14 fl_Bag_22 hB.o rfl ?_
    refine v_iload_n (pc := 17) d_Bag_timesOfPending_17 rfl rfl ?_
    refine v_laldN (pc := 18) (k := p) (f := m) d_Bag_timesOfPending_18 hB.m rfl (by omega) (by decide) ?_
    refine v_goto (pc := 19) (tgt := 23) d_Bag_timesOfPending_19 rfl ?_
    exact v_lret (pc := 23) d_Bag_timesOfPending_23 rfl (Nat.le_of_ble_eq_true rfl) (Nat.le_of_ble_eq_true rfl) ⟨by rw [hL], rfl, rfl⟩
theorem lgle {x y : Int64} : lg_cmp x y ≤ 0 ↔ x ≤ y := by
  rw [← Int32.not_lt, lggt, Int64.not_lt]
set_option maxRecDepth 100000 in
set_option maxHeartbeats 4000000 in
theorem lp_Bag_hasTimesOutside (g : Gl) {w : Wd} {h sz wd n : Nat} {f : Nat → Int32} {m : Nat → Int64} {pd : Nat → Int32} (hB : BGo w h wd n f m pd) (hn : n ≤ 32) : ∀ (zz : Nat) (r : Nat), n - r = zz → r ≤ n → (∀ j, j < r → 1 ≤ m j ∧ m j ≤ 99) → VV g 0 0 0 mi_Bag_hasTimesOutside w sz (rdE (some (.int (if ¬ (tb_in (ar_bag f m wd 0 n) = true) then 1 else 0))) w sz) 2 [(3, .int (nI r)), (0, .ref h), (1, .int (nI 1)), (2, .int (nI 99))] [] w sz 0 0 := by
  intro zz
  induction zz using Nat.strongRecOn with | _ zz ih => _
  intro r hnn hrn hall
  refine v_iload_n (pc := 2) d_Bag_hasTimesOutside_2 rfl rfl ?_
  refine v_aload_n (pc := 3) d_Bag_hasTimesOutside_3 rfl rfl ?_
  refine v_get (pc := 4) d_Bag_hasTimesOutside_4 fl_Bag_15 hB.o rfl ?_
  refine v_icmp_ge (pc := 7) (tgt := 42) d_Bag_hasTimesOutside_7 rfl (fun hc => ?_) (fun hc => ?_)
  · skip
    rw [nI_leI (by omega) (by omega)] at hc
    refine v_iconst (pc := 42) (v := nI 0) d_Bag_hasTimesOutside_42 rfl ?_
    obtain rfl : r = n := by omega
    exact v_zret (pc := 43) d_Bag_hasTimesOutside_43 rfl z01 (Nat.le_of_ble_eq_true rfl) (Nat.le_of_ble_eq_true rfl) ⟨zr0 (fun h => h (List.all_eq_true.mpr (fun x hx => by obtain ⟨s, hs, rfl⟩ := ar_bag_mem hx; rw [decide_eq_true_eq]; dsimp only; rw [Nat.zero_add]; exact hall s hs))), rfl, rfl⟩
  · skip
    rw [nI_leI (by omega) (by omega)] at hc
    refine v_aload_n (pc := 10) d_Bag_hasTimesOutside_10 rfl rfl ?_
    refine v_get (pc := 11) d_Bag_hasTimesOutside_11 fl_Bag_22 hB.o rfl ?_
    refine v_iload_n (pc := 14) d_Bag_hasTimesOutside_14 rfl rfl ?_
    refine v_laldN (pc := 15) (k := r) (f := m) d_Bag_hasTimesOutside_15 hB.m rfl (by omega) (by decide) ?_
    refine v_iload_n (pc := 16) d_Bag_hasTimesOutside_16 rfl rfl ?_
    refine v_i2l (pc := 17) d_Bag_hasTimesOutside_17 ?_
    refine v_lcmp (pc := 18) d_Bag_hasTimesOutside_18 ?_
    refine v_if_lt (pc := 19) (tgt := 34) d_Bag_hasTimesOutside_19 rfl (fun hc => ?_) (fun hc => ?_)
    · skip
      refine v_iconst (pc := 34) (v := nI 1) d_Bag_hasTimesOutside_34 rfl ?_
      exact v_zret (pc := 35) d_Bag_hasTimesOutside_35 rfl z11 (Nat.le_of_ble_eq_true rfl) (Nat.le_of_ble_eq_true rfl) ⟨zr1 (fun h => by have h9 := List.all_eq_true.mp h _ (List.mem_of_getElem? (ar_bag_get (show r < n by omega))); rw [decide_eq_true_eq, Nat.zero_add] at h9; rw [lglt] at hc; exact absurd h9.1 (Int64.not_le.mpr hc)), rfl, rfl⟩
    · skip
      have hlo : 1 ≤ m r := by rw [lglt] at hc; exact Int64.not_lt.mp hc
      refine v_aload_n (pc := 22) d_Bag_hasTimesOutside_22 rfl rfl ?_
      refine v_get (pc := 23) d_Bag_hasTimesOutside_23 fl_Bag_22 hB.o rfl ?_
      refine v_iload_n (pc := 26) d_Bag_hasTimesOutside_26 rfl rfl ?_
      refine v_laldN (pc := 27) (k := r) (f := m) d_Bag_hasTimesOutside_27 hB.m rfl (by omega) (by decide) ?_
      refine v_iload_n (pc := 28) d_Bag_hasTimesOutside_28 rfl rfl ?_
      refine v_i2l (pc := 29) d_Bag_hasTimesOutside_29 ?_
      refine v_lcmp (pc := 30) d_Bag_hasTimesOutside_30 ?_
      refine v_if_le (pc := 31) (tgt := 36) d_Bag_hasTimesOutside_31 rfl (fun hc => ?_) (fun hc => ?_)
      · skip
        have hhi : m r ≤ 99 := by rw [lgle] at hc; exact hc
        refine v_iinc (pc := 36) (L' := [(3, .int (nI (r + 1))), (0, .ref h), (1, .int (nI 1)), (2, .int (nI 99))]) d_Bag_hasTimesOutside_36 rfl (ix_inc _) (by decide) rfl ?_
        refine v_goto (pc := 39) (tgt := 2) d_Bag_hasTimesOutside_39 rfl ?_
        refine v_sub (L' := [(3, .int (nI (r + 1))), (0, .ref h), (1, .int (nI 1)), (2, .int (nI 99))]) (by simp) ?_
        exact ih (n - (r + 1)) (by omega) (r + 1) rfl (by omega) (fun j hj => by by_cases h9 : j = r; (subst h9; exact ⟨hlo, hhi⟩); (exact hall j (by omega)))
      · skip
        refine v_iconst (pc := 34) (v := nI 1) d_Bag_hasTimesOutside_34 rfl ?_
        exact v_zret (pc := 35) d_Bag_hasTimesOutside_35 rfl z11 (Nat.le_of_ble_eq_true rfl) (Nat.le_of_ble_eq_true rfl) ⟨zr1 (fun h => by have h9 := List.all_eq_true.mp h _ (List.mem_of_getElem? (ar_bag_get (show r < n by omega))); rw [decide_eq_true_eq, Nat.zero_add] at h9; exact hc (by rw [lgle]; exact h9.2)), rfl, rfl⟩
set_option maxRecDepth 100000 in
set_option maxHeartbeats 4000000 in
theorem c_Bag_hasTimesOutside (g : Gl) {w : Wd} {h sz wd n : Nat} {f : Nat → Int32} {m : Nat → Int64} {pd : Nat → Int32} (hB : BGo w h wd n f m pd) (hn : n ≤ 32) : CT g 0 0 0 mi_Bag_hasTimesOutside [.ref h, .int (nI 1), .int (nI 99)] w sz (rdE (some (.int (if ¬ (tb_in (ar_bag f m wd 0 n) = true) then 1 else 0))) w sz) := by
  refine CT.of (by decide) (Nat.le_of_ble_eq_true rfl) ?_
  refine v_iconst (pc := 0) (v := nI 0) d_Bag_hasTimesOutside_0 rfl ?_
  refine v_istore_n (pc := 1) (L' := [(3, .int (nI 0)), (0, .ref h), (1, .int (nI 1)), (2, .int (nI 99))]) d_Bag_hasTimesOutside_1 rfl (by decide) rfl ?_
  refine v_sub (L' := [(3, .int (nI 0)), (0, .ref h), (1, .int (nI 1)), (2, .int (nI 99))]) (by simp) ?_
  exact lp_Bag_hasTimesOutside g hB hn n 0 rfl (by omega) (fun j hj => absurd hj (Nat.not_lt_zero _))
set_option maxRecDepth 100000 in
set_option maxHeartbeats 4000000 in
theorem c_Bag_copy (g : Gl) {w : Wd} {h sz wd n : Nat} {f : Nat → Int32} {m : Nat → Int64} {pd : Nat → Int32} (hB : BGo w h wd n f m pd) {e we ne : Nat} {fe : Nat → Int32} {me : Nat → Int64} {pe : Nat → Int32} (hE : BGo w e we ne fe me pe) (hd : e + 4 ≤ h ∨ h + 4 ≤ e) (hne : ne ≤ 32) (hwe : we ≤ 4) : CT g 2 0 0 mi_Bag_copy [.ref h, .ref e] w sz (wrE none sz (fun w' => ∃ f' m', BGo w' h we ne f' m' pd ∧ bg_fr h w w' ∧ ar_bag f' m' we 0 ne = ar_bag fe me we 0 ne)) := by
  refine CT.of (by decide) (Nat.le_of_ble_eq_true rfl) ?_
  refine v_aload_n (pc := 0) d_Bag_copy_0 rfl rfl ?_
  refine v_aload_n (pc := 1) d_Bag_copy_1 rfl rfl ?_
  refine v_get (pc := 2) d_Bag_copy_2 fl_Bag_9 hE.o rfl ?_
  refine v_putW (pc := 5) (fs' := [.int (nI we), .int (nI n), .ref (h + 1), .ref (h + 2), .ref (h + 3)]) d_Bag_copy_5 fl_Bag_9 (fi_Bag_9 _) (ok_Bag_0 _) hB.o (Nat.le_of_ble_eq_true rfl) rfl (fun w1 hn1 hq1 => ?_)
  have h1 := hB.so hn1 hq1
  have k1 := hE.mv (w' := w1) (fun q h1 h2 => hq1 q (by omega))
  refine v_aload_n (pc := 8) d_Bag_copy_8 rfl rfl ?_
  refine v_aload_n (pc := 9) d_Bag_copy_9 rfl rfl ?_
  refine v_get (pc := 10) d_Bag_copy_10 fl_Bag_15 k1.o rfl ?_
  refine v_putW (pc := 13) (fs' := [.int (nI we), .int (nI ne), .ref (h + 1), .ref (h + 2), .ref (h + 3)]) d_Bag_copy_13 fl_Bag_15 (fi_Bag_15 _) (ok_Bag_1 _) h1.o (Nat.le_of_ble_eq_true rfl) rfl (fun w2 hn2 hq2 => ?_)
  have h2 := h1.so hn2 hq2
  have k2 := k1.mv (w' := w2) (fun q h1 h2 => hq2 q (by omega))
  refine v_aload_n (pc := 16) d_Bag_copy_16 rfl rfl ?_
  refine v_get (pc := 17) d_Bag_copy_17 fl_Bag_18 k2.o rfl ?_
  refine v_iconst (pc := 20) (v := nI 0) d_Bag_copy_20 rfl ?_
  refine v_aload_n (pc := 21) d_Bag_copy_21 rfl rfl ?_
  refine v_get (pc := 22) d_Bag_copy_22 fl_Bag_18 h2.o rfl ?_
  refine v_iconst (pc := 25) (v := nI 0) d_Bag_copy_25 rfl ?_
  refine v_aload_n (pc := 26) d_Bag_copy_26 rfl rfl ?_
  refine v_get (pc := 27) d_Bag_copy_27 fl_Bag_15 h2.o rfl ?_
  refine v_iconst (pc := 30) (v := nI 4) d_Bag_copy_30 rfl ?_
  refine v_imul (pc := 31) d_Bag_copy_31 ?_
  refine v_re (pk_mul ne 4) ?_
  refine v_copyiW (pc := 32) (sp := 0) (dp := 0) (n := ne * 4) d_Bag_copy_32 rfl k2.c h2.c (by omega) (by omega) (by decide) (by decide) (Nat.le_of_ble_eq_true rfl) (Nat.le_of_ble_eq_true rfl) (fun w3 hn3 hq3 => ?_)
  have h3 := h2.sc hn3 hq3
  have k3 := k2.mv (w' := w3) (fun q h1 h2 => hq3 q (by omega))
  refine v_aload_n (pc := 35) d_Bag_copy_35 rfl rfl ?_
  refine v_get (pc := 36) d_Bag_copy_36 fl_Bag_22 k3.o rfl ?_
  refine v_iconst (pc := 39) (v := nI 0) d_Bag_copy_39 rfl ?_
  refine v_aload_n (pc := 40) d_Bag_copy_40 rfl rfl ?_
  refine v_get (pc := 41) d_Bag_copy_41 fl_Bag_22 h3.o rfl ?_
  refine v_iconst (pc := 44) (v := nI 0) d_Bag_copy_44 rfl ?_
  refine v_aload_n (pc := 45) d_Bag_copy_45 rfl rfl ?_
  refine v_get (pc := 46) d_Bag_copy_46 fl_Bag_15 h3.o rfl ?_
  refine v_copylW (pc := 49) (sp := 0) (dp := 0) (n := ne) d_Bag_copy_49 rfl k3.m h3.m (by omega) (by omega) (by decide) (by decide) (Nat.le_of_ble_eq_true rfl) (Nat.le_of_ble_eq_true rfl) (fun w4 hn4 hq4 => ?_)
  have h4 := h3.sm hn4 hq4
  exact v_vret (pc := 52) d_Bag_copy_52 rfl (Nat.le_of_ble_eq_true rfl) (Nat.le_of_ble_eq_true rfl) ⟨rfl, rfl, _, _, h4, (((bg_fr.rf.at ⟨by omega, by omega⟩ hq1).at ⟨by omega, by omega⟩ hq2).at ⟨by omega, by omega⟩ hq3).at ⟨by omega, by omega⟩ hq4, ar_bag_congr (fun r hr c hc => by unfold va_cpy; rw [if_pos (by omega)]; congr 1; omega) (fun r hr => by unfold va_cpy; rw [if_pos (by omega)]; congr 1; omega)⟩
