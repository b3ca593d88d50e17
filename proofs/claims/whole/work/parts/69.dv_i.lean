set_option maxRecDepth 100000 in
set_option maxHeartbeats 4000000 in
theorem lp_DV_takeBack (g : Gl) {w : Wd} {Z sz i : Nat} {c : Value} {fV : Nat → Option Nat} {od pp qq : Nat → Nat} {mx : Nat → Int32} (hZ : w Z = some (cO 0 [.ref (Z + 1), c, .ref (Z + 2)])) (hfw : w (Z + 1) = some (cR 12 fV)) (hfi : ∀ i, i < 12 → fV i = some (VA Z i)) (hi : i < 12) : ∀ (zz : Nat) (j : Nat) (w1 : Wd), i + 1 - j = zz → j ≤ i + 1 → (∀ u, u < j → w1 (VA Z u) = some (cO 1 [.ref (od u), .ref (qq u), .ref (pp u), .int (mx u)])) → (∀ u, j ≤ u → u ≤ i → w1 (VA Z u) = some (cO 1 [.ref (od u), .ref (pp u), .ref (qq u), .int (mx u)])) → (∀ x, (∀ u, u ≤ i → x ≠ VA Z u) → w1 x = w x) → VV g 1 0 0 mi_DV_takeBack w sz (wrE none sz (fun w' => (∀ u, u ≤ i → w' (VA Z u) = some (cO 1 [.ref (od u), .ref (qq u), .ref (pp u), .int (mx u)])) ∧ ∀ x, (∀ u, u ≤ i → x ≠ VA Z u) → w' x = w x)) 2 [(2, .int (nI j)), (0, .ref Z), (1, .int (nI i))] [] w1 sz 0 0 := by
  intro zz
  induction zz using Nat.strongRecOn with | _ zz ih => _
  intro j w1 hnn hj hnew hold hfr
  have hZ1 := (hfr Z (fun u _ => by unfold VA; omega)).trans hZ
  have hfw1 := (hfr (Z + 1) (fun u _ => by unfold VA; omega)).trans hfw
  refine v_iload_n (pc := 2) d_DV_takeBack_2 rfl rfl ?_
  refine v_iload_n (pc := 3) d_DV_takeBack_3 rfl rfl ?_
  refine v_icmp_gt (pc := 4) (tgt := 22) d_DV_takeBack_4 rfl (fun hc => ?_) (fun hc => ?_)
  · skip
    rw [nI_ltI (by omega) (by omega)] at hc
    exact v_vret (pc := 22) d_DV_takeBack_22 rfl (Nat.le_of_ble_eq_true rfl) (Nat.le_of_ble_eq_true rfl) ⟨rfl, rfl, fun u hu => hnew u (by omega), hfr⟩
  · skip
    rw [nI_ltI (by omega) (by omega)] at hc
    refine v_aload_n (pc := 7) d_DV_takeBack_7 rfl rfl ?_
    refine v_get (pc := 8) d_DV_takeBack_8 fl_DV_11 hZ1 rfl ?_
    refine v_iload_n (pc := 11) d_DV_takeBack_11 rfl rfl ?_
    refine v_aaldN (pc := 12) (k := j) d_DV_takeBack_12 hfw1 rfl (by omega) (by decide) (hfi j (by omega)) ?_
    refine v_cvV (pc := 13) (A := []) (rest := []) d_DV_takeBack_13 lk_DV_192 me_View_exchangeBags im_View_exchangeBags se_View_exchangeBags rfl (hold j (Nat.le_refl _) (by omega)) rfl rfl (c_View_exchangeBags g (hold j (Nat.le_refl _) (by omega))) (Nat.le_of_ble_eq_true rfl) (Nat.le_of_ble_eq_true rfl) (Nat.le_of_ble_eq_true rfl) (Nat.le_of_ble_eq_true rfl) (fun w2 ht2 => ?_)
    obtain ⟨h2, hq2⟩ := ht2
    refine v_iinc (pc := 16) (L' := [(2, .int (nI (j + 1))), (0, .ref Z), (1, .int (nI i))]) d_DV_takeBack_16 rfl (ix_inc _) (by decide) rfl ?_
    refine v_goto (pc := 19) (tgt := 2) d_DV_takeBack_19 rfl ?_
    refine v_sub (L' := [(2, .int (nI (j + 1))), (0, .ref Z), (1, .int (nI i))]) (by simp) ?_
    exact ih (i + 1 - (j + 1)) (by omega) (j + 1) w2 rfl (by omega) (fun u hu => by by_cases e : u = j; (subst e; exact h2); (exact (hq2 _ (by unfold VA; omega)).trans (hnew u (by omega)))) (fun u hu hu2 => (hq2 _ (by unfold VA; omega)).trans (hold u (by omega) hu2)) (fun x hx => (hq2 x (hx j (by omega))).trans (hfr x hx))
set_option maxRecDepth 100000 in
set_option maxHeartbeats 4000000 in
theorem c_DV_takeBack (g : Gl) {w : Wd} {Z sz i : Nat} {c : Value} {fV : Nat → Option Nat} {od pp qq : Nat → Nat} {mx : Nat → Int32} (hZ : w Z = some (cO 0 [.ref (Z + 1), c, .ref (Z + 2)])) (hfw : w (Z + 1) = some (cR 12 fV)) (hfi : ∀ i, i < 12 → fV i = some (VA Z i)) (hi : i < 12) (hv : ∀ u, u ≤ i → w (VA Z u) = some (cO 1 [.ref (od u), .ref (pp u), .ref (qq u), .int (mx u)])) : CT g 1 0 0 mi_DV_takeBack [.ref Z, .int (nI i)] w sz (wrE none sz (fun w' => (∀ u, u ≤ i → w' (VA Z u) = some (cO 1 [.ref (od u), .ref (qq u), .ref (pp u), .int (mx u)])) ∧ ∀ x, (∀ u, u ≤ i → x ≠ VA Z u) → w' x = w x)) := by
  refine CT.of (by decide) (Nat.le_of_ble_eq_true rfl) ?_
  refine v_iconst (pc := 0) (v := nI 0) d_DV_takeBack_0 rfl ?_
  refine v_istore_n (pc := 1) (L' := [(2, .int (nI 0)), (0, .ref Z), (1, .int (nI i))]) d_DV_takeBack_1 rfl (by decide) rfl ?_
  refine v_sub (L' := [(2, .int (nI 0)), (0, .ref Z), (1, .int (nI i))]) (by simp) ?_
  exact lp_DV_takeBack g hZ hfw hfi hi (i + 1 - 0) 0 w rfl (Nat.zero_le _) (fun u hu => absurd hu (Nat.not_lt_zero _)) (fun u _ hu => hv u hu) (fun _ _ => rfl)
set_option maxRecDepth 100000 in
set_option maxHeartbeats 4000000 in
theorem lp_DV_renewViews (g : Gl) {w : Wd} {Z sz : Nat} {a : As} {sw : Nat → Bool} {od : Nat → Nat} (hC : CR w Z sz a sw od) (hA : AWa a) {fV : Nat → Option Nat} (hfw : w (Z + 1) = some (cR 12 fV)) (hfi : ∀ i, i < 12 → fV i = some (VA Z i)) {x y z u : Nat → Int32} (hT : BTo w (Z + 2) a.2.2.2.2.2.length x y z u) (hTT : bt_of x y z u a.2.2.2.2.2.length = a.2.2.2.2.2) : ∀ (zz : Nat) (i : Nat) (W : Wd), a.1 - i = zz → i ≤ a.1 → oka a i = true → RN w Z a sw od i W → VV g 7 0 0 mi_DV_renewViews w sz (wrE (some (.int (if oka a a.1 = true then 1 else 0))) sz (fun w' => (∀ q, q < Z + 7 ∨ Z + 127 ≤ q → w' q = w q) ∧ (oka a a.1 = true → RN w Z a sw od a.1 w') ∧ (¬ oka a a.1 = true → CR w' Z sz a sw od))) 2 [(1, .int (nI i)), (0, .ref Z)] [] W sz 0 0 := by
  intro zz
  induction zz using Nat.strongRecOn with | _ zz ih => _
  intro i W hnn hin hok hR
  have hn12 := hA.2.1
  have hsz := hC.2.2.2.2.2.2
  have hZ1 := (hR.1 Z (Or.inl (by omega))).trans hC.1
  have hfw1 := (hR.1 (Z + 1) (Or.inl (by omega))).trans hfw
  refine v_iload_n (pc := 2) d_DV_renewViews_2 rfl rfl ?_
  refine v_aload_n (pc := 3) d_DV_renewViews_3 rfl rfl ?_
  refine v_get (pc := 4) d_DV_renewViews_4 fl_DV_15 hZ1 rfl ?_
  refine v_icmp_ge (pc := 7) (tgt := 61) d_DV_renewViews_7 rfl (fun hc => ?_) (fun hc => ?_)
  · skip
    rw [nI_leI (by omega) (by omega)] at hc
    refine v_iconst (pc := 61) (v := nI 1) d_DV_renewViews_61 rfl ?_
    have hia : i = a.1 := by omega
    rw [hia] at hok hR
    exact v_zret (pc := 62) d_DV_renewViews_62 rfl z11 (Nat.le_of_ble_eq_true rfl) (Nat.le_of_ble_eq_true rfl) ⟨zr1 hok, rfl, fun q hq => hR.1 q (by omega), fun _ => hR, fun h => absurd hok h⟩
  · skip
    rw [nI_leI (by omega) (by omega)] at hc
    have hlt : i < a.1 := by omega
    obtain ⟨⟨mx, hv0, hmx⟩, -⟩ := hC.2.2.2.1 i (by omega)
    rw [hmx hlt] at hv0
    have hVi := (hR.1 (VA Z i) (Or.inr (Nat.le_refl _))).trans hv0
    refine v_aload_n (pc := 10) d_DV_renewViews_10 rfl rfl ?_
    refine v_get (pc := 11) d_DV_renewViews_11 fl_DV_11 hZ1 rfl ?_
    refine v_iload_n (pc := 14) d_DV_renewViews_14 rfl rfl ?_
    refine v_aaldN (pc := 15) (k := i) d_DV_renewViews_15 hfw1 rfl (by omega) (by decide) (hfi i (by omega)) ?_
    refine v_cvV (pc := 16) (A := []) (rest := []) d_DV_renewViews_16 lk_DV_181 me_View_renew im_View_renew se_View_renew rfl hVi rfl rfl (c_View_renew g hVi (hR.fc g hC hA hlt hok)) (Nat.le_of_ble_eq_true rfl) (Nat.le_of_ble_eq_true rfl) (Nat.le_of_ble_eq_true rfl) (Nat.le_of_ble_eq_true rfl) (fun w2 ht2 => ?_)
    obtain ⟨w1, h1, hq1, hP⟩ := ht2
    have hci := nwA_c Z sw i
    have hvi : VA Z i = Z + 7 + 10 * i := rfl
    have hb2 : bg_fr (bfA Z sw i) w1 w2 := by obtain ⟨f, m, pd, b1, b2, b3⟩ := hP; exact b2
    have hlo : ∀ q, q < Z + 7 → w2 q = w q := fun q hq => (hb2 q (by omega)).trans ((hq1 q (by omega)).trans (hR.1 q (Or.inl hq)))
    have hZ2 := (hlo Z (by omega)).trans hC.1
    have hfw2 := (hlo (Z + 1) (by omega)).trans hfw
    have hT2 := hT.mv (w' := w2) (fun q h h' => hlo q (by omega))
    have hV2 := (hb2 (VA Z i) (by omega)).trans h1
    refine v_aload_n (pc := 19) d_DV_renewViews_19 rfl rfl ?_
    refine v_get (pc := 20) d_DV_renewViews_20 fl_DV_22 hZ2 rfl ?_
    refine v_iload_n (pc := 23) d_DV_renewViews_23 rfl rfl ?_
    refine v_aload_n (pc := 24) d_DV_renewViews_24 rfl rfl ?_
    refine v_get (pc := 25) d_DV_renewViews_25 fl_DV_11 hZ2 rfl ?_
    refine v_iload_n (pc := 28) d_DV_renewViews_28 rfl rfl ?_
    refine v_aaldN (pc := 29) (k := i) d_DV_renewViews_29 hfw2 rfl (by omega) (by decide) (hfi i (by omega)) ?_
    refine v_get (pc := 30) d_DV_renewViews_30 fl_DV_106 hV2 rfl ?_
    refine v_cvV (pc := 33) (A := [.int (nI i), .ref (bfA Z sw i)]) (rest := []) d_DV_renewViews_33 lk_DV_184 me_Batch_addTo im_Batch_addTo se_Batch_addTo rfl hT2.o rfl rfl (RN.add g hA hlt hR hq1 hP hT2 hTT) (Nat.le_of_ble_eq_true rfl) (Nat.le_of_ble_eq_true rfl) (Nat.le_of_ble_eq_true rfl) (Nat.le_of_ble_eq_true rfl) (fun w3 hP3 => ?_)
    have hb3 : bg_fr (bfA Z sw i) w1 w3 := by obtain ⟨f, m, pd, b1, b2, b3⟩ := hP3; exact b2
    have hN3 : bgN w3 (bfA Z sw i) (a.2.1 i) (B3 a i) := by obtain ⟨f, m, pd, b1, b2, b3⟩ := hP3; exact ⟨f, m, pd, b1, b3⟩
    have hlo3 : ∀ q, q < Z + 7 → w3 q = w q := fun q hq => (hb3 q (by omega)).trans ((hq1 q (by omega)).trans (hR.1 q (Or.inl hq)))
    have hZ3 := (hlo3 Z (by omega)).trans hC.1
    have hfw3 := (hlo3 (Z + 1) (by omega)).trans hfw
    have hV3 := (hb3 (VA Z i) (by omega)).trans h1
    have hod := (hC.2.2.2.1 i (by omega)).2.2.2.1
    have hO3 : OPo w3 Z (od i) (a.2.1 i) (a.2.2.1 i) := (hC.2.2.2.2.1 i hlt).2.mv ((hb3 _ (by omega)).trans ((hq1 _ (by omega)).trans (hR.1 _ (by omega))))
    refine v_aload_n (pc := 36) d_DV_renewViews_36 rfl rfl ?_
    refine v_get (pc := 37) d_DV_renewViews_37 fl_DV_11 hZ3 rfl ?_
    refine v_iload_n (pc := 40) d_DV_renewViews_40 rfl rfl ?_
    refine v_aaldN (pc := 41) (k := i) d_DV_renewViews_41 hfw3 rfl (by omega) (by decide) (hfi i (by omega)) ?_
    refine v_cvR (pc := 42) (A := []) (rest := []) (x := .int (if cma a i = true then 1 else 0)) d_DV_renewViews_42 lk_DV_176 me_View_keepsLimits im_View_keepsLimits se_View_keepsLimits rfl hV3 rfl rfl (c_View_keepsLimits g hV3 (RN.ac g hC hA hlt hok hO3 hN3)) (Nat.le_of_ble_eq_true rfl) (Nat.le_of_ble_eq_true rfl) (Nat.le_of_ble_eq_true rfl) (Nat.le_of_ble_eq_true rfl) ?_
    refine v_if_ne (pc := 45) (tgt := 55) d_DV_renewViews_45 rfl (fun hc => ?_) (fun hc => ?_)
    · skip
      rw [zt] at hc
      have hok1 : oka a (i + 1) = true := (okf_s _ _ _ _ _).mpr ⟨hok, hc⟩
      rw [(B3_tie hA hlt hok).2.1 hc] at hP3
      have hR3 := hR.next hC hA hlt h1 hq1 hP3
      refine v_iinc (pc := 55) (L' := [(1, .int (nI (i + 1))), (0, .ref Z)]) d_DV_renewViews_55 rfl (ix_inc _) (by decide) rfl ?_
      refine v_goto (pc := 58) (tgt := 2) d_DV_renewViews_58 rfl ?_
      refine v_sub (L' := [(1, .int (nI (i + 1))), (0, .ref Z)]) (by simp) ?_
      exact ih (a.1 - (i + 1)) (by omega) (i + 1) w3 rfl (by omega) hok1 hR3
    · skip
      rw [zf] at hc
      have hbad : ¬ oka a a.1 = true := fun h => hc ((okf_s _ _ _ _ _).mp (okf_le (v := i + 1) hlt h)).2
      refine v_aload_n (pc := 48) d_DV_renewViews_48 rfl rfl ?_
      refine v_iload_n (pc := 49) d_DV_renewViews_49 rfl rfl ?_
      refine v_cvV (pc := 50) (A := [.int (nI i)]) (rest := []) d_DV_renewViews_50 lk_DV_188 me_DV_takeBack im_DV_takeBack se_DV_takeBack rfl hZ3 rfl rfl (c_DV_takeBack g (i := i) (od := od) (pp := bfA Z sw) (qq := nwA Z sw) (mx := fun u => nI (a.2.2.2.2.1 u)) hZ3 hfw3 hfi (by omega) (fun u hu => by by_cases e : u = i; (subst e; exact hV3); (have hvu : VA Z u = Z + 7 + 10 * u := rfl; exact (hb3 _ (by omega)).trans ((hq1 _ (by omega)).trans (hR.2 u (by omega)).1)))) (Nat.le_of_ble_eq_true rfl) (Nat.le_of_ble_eq_true rfl) (Nat.le_of_ble_eq_true rfl) (Nat.le_of_ble_eq_true rfl) (fun w4 ht4 => ?_)
      obtain ⟨hv4, hq4⟩ := ht4
      obtain ⟨hC4, hfr4⟩ := hR.fail hC hA hlt hok hq1 hP3 hv4 hq4
      refine v_iconst (pc := 53) (v := nI 0) d_DV_renewViews_53 rfl ?_
      exact v_zret (pc := 54) d_DV_renewViews_54 rfl z01 (Nat.le_of_ble_eq_true rfl) (Nat.le_of_ble_eq_true rfl) ⟨zr0 hbad, rfl, hfr4, fun h => absurd h hbad, fun _ => hC4⟩
set_option maxRecDepth 100000 in
set_option maxHeartbeats 4000000 in
theorem c_DV_renewViews (g : Gl) {w : Wd} {Z sz : Nat} {a : As} {sw : Nat → Bool} {od : Nat → Nat} (hC : CR w Z sz a sw od) (hA : AWa a) : CT g 7 0 0 mi_DV_renewViews [.ref Z] w sz ((wrE (some (.int (if oka a a.1 = true then 1 else 0))) sz (fun w' => (∀ q, q < Z + 7 ∨ Z + 127 ≤ q → w' q = w q) ∧ (oka a a.1 = true → RN w Z a sw od a.1 w') ∧ (¬ oka a a.1 = true → CR w' Z sz a sw od)))) := by
  refine CT.of (by decide) (Nat.le_of_ble_eq_true rfl) ?_
  obtain ⟨fV, hfw, hfi⟩ := hC.2.1
  obtain ⟨x, y, z, u, hT, hTT⟩ := hC.2.2.1
  refine v_iconst (pc := 0) (v := nI 0) d_DV_renewViews_0 rfl ?_
  refine v_istore_n (pc := 1) (L' := [(1, .int (nI 0)), (0, .ref Z)]) d_DV_renewViews_1 rfl (by decide) rfl ?_
  refine v_sub (L' := [(1, .int (nI 0)), (0, .ref Z)]) (by simp) ?_
  exact lp_DV_renewViews g hC hA hfw hfi hT hTT (a.1 - 0) 0 w rfl (Nat.zero_le _) rfl ⟨fun _ _ => rfl, fun u hu => absurd hu (Nat.not_lt_zero _)⟩
