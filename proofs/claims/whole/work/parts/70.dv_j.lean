/-! commit -/
theorem nwA_e {Z u : Nat} {s t : Nat → Bool} (h : s u = t u) : nwA Z s u = nwA Z t u ∧ bfA Z s u = bfA Z t u := by
  unfold nwA bfA
  rw [h]
  exact ⟨rfl, rfl⟩
theorem RN.done {w w1 : Wd} {Z sz : Nat} {a : As} {sw : Nat → Bool} {od : Nat → Nat} (hC : CR w Z sz a sw od) (hA : AWa a) (hok : oka a a.1 = true) (hR : RN w Z a sw od a.1 w1) :
    ∃ sw', CR w1 Z sz (a.1, a.2.1, a.2.2.1, nba a, a.2.2.2.2.1, a.2.2.2.2.2) sw' od ∧ ∀ u, u < a.1 → bgN w1 (bfA Z sw' u) (a.2.1 u) (a.2.2.2.1 u) := by
  have hn12 := hA.2.1
  obtain ⟨r1, r2⟩ := hR
  obtain ⟨h1, ⟨fV, h2, h2'⟩, ⟨x, y, z, t, h3, h3'⟩, h4, h5, h6, h7⟩ := hC
  have e1 : ∀ u, u < a.1 → nwA Z (fun u => if u < a.1 then !(sw u) else sw u) u = bfA Z sw u ∧ bfA Z (fun u => if u < a.1 then !(sw u) else sw u) u = nwA Z sw u := fun u hu => by
    have h9 := nwA_e (Z := Z) (s := fun u => if u < a.1 then !(sw u) else sw u) (t := fun u => !(sw u)) (u := u) (if_pos hu)
    exact ⟨h9.1.trans (nwA_f Z sw u), h9.2.trans (bfA_f Z sw u)⟩
  have e2 : ∀ u, ¬ u < a.1 → nwA Z (fun u => if u < a.1 then !(sw u) else sw u) u = nwA Z sw u ∧ bfA Z (fun u => if u < a.1 then !(sw u) else sw u) u = bfA Z sw u := fun u hu => nwA_e (if_neg hu)
  refine ⟨fun u => if u < a.1 then !(sw u) else sw u, ⟨(r1 _ (by omega)).trans h1, ⟨fV, (r1 _ (by omega)).trans h2, h2'⟩, ⟨x, y, z, t, h3.mv (fun q h h' => r1 q (by omega)), h3'⟩, fun u hu => ?_, fun u hu => ?_, h6, h7⟩, fun u hu => ?_⟩
  · obtain ⟨⟨mx, c1, c2⟩, c3, c4, c5, c6⟩ := h4 u hu
    have hvu : VA Z u = Z + 7 + 10 * u := rfl
    have hcu := nwA_c Z sw u
    by_cases hua : u < a.1
    · obtain ⟨d1, d2, d3, d4⟩ := r2 u hua
      rw [(e1 u hua).1, (e1 u hua).2]
      exact ⟨⟨_, d1, fun _ => rfl⟩, d3.x (by have := (ok_len hok hua).1; omega) (hA.2.2.2.1 u hua).2.1, d4.x (by have := (hA.2.2.2.1 u hua).2.2.2; omega) (hA.2.2.2.1 u hua).2.1, c5, c6⟩
    · rw [(e2 u hua).1, (e2 u hua).2]
      exact ⟨⟨mx, (r1 _ (by omega)).trans c1, fun h => absurd h hua⟩, c3.mv (fun q h h' => r1 q (by omega)), c4.mv (fun q h h' => r1 q (by omega)), c5, c6⟩
  · have hu : u < a.1 := hu
    obtain ⟨d1, d2, d3, d4⟩ := r2 u hu
    have hou := (h4 u (by omega)).2.2.2.1
    rw [(e1 u hu).1]
    refine ⟨d3, (h5 u hu).2.mv ?_⟩
    rcases hou with ho | ho
    · rw [ho]; exact d2
    · exact r1 _ (by omega)
  · rw [(e1 u hu).2]
    exact (r2 u hu).2.2.2
theorem CR.mx {w w' : Wd} {Z sz k x : Nat} {a : As} {sw : Nat → Bool} {od : Nat → Nat} (h : CR w Z sz a sw od) (hA : a.1 ≤ 12) (hk : k < a.1) (hv : w' (VA Z k) = some (cO 1 [.ref (od k), .ref (nwA Z sw k), .ref (bfA Z sw k), .int (nI x)])) (hq : ∀ q, q ≠ VA Z k → w' q = w q) : CR w' Z sz (a.1, a.2.1, a.2.2.1, a.2.2.2.1, va_up a.2.2.2.2.1 k x, a.2.2.2.2.2) sw od := by
  obtain ⟨h1, ⟨fV, h2, h2'⟩, ⟨x1, y, z, t, h3, h3'⟩, h4, h5, h6, h7⟩ := h
  have hvk : VA Z k = Z + 7 + 10 * k := rfl
  refine ⟨(hq _ (by omega)).trans h1, ⟨fV, (hq _ (by omega)).trans h2, h2'⟩, ⟨x1, y, z, t, h3.mv (fun q h h' => hq q (by omega)), h3'⟩, fun u hu => ?_, fun u hu => ?_, h6, h7⟩
  · obtain ⟨⟨mx, c1, c2⟩, c3, c4, c5, c6⟩ := h4 u hu
    have hvu : VA Z u = Z + 7 + 10 * u := rfl
    have hcu := nwA_c Z sw u
    refine ⟨?_, c3.mv (fun q h h' => hq q (by omega)), c4.mv (fun q h h' => hq q (by omega)), c5, c6⟩
    by_cases e : u = k
    · subst e
      refine ⟨_, hv, fun _ => ?_⟩
      show nI x = nI (va_up a.2.2.2.2.1 u x u)
      rw [va_up_self]
    · refine ⟨mx, (hq _ (by omega)).trans c1, fun h9 => ?_⟩
      show mx = nI (va_up a.2.2.2.2.1 k x u)
      rw [va_up_ne _ _ e]
      exact c2 h9
  · have hu : u < a.1 := hu
    obtain ⟨c1, c2⟩ := h5 u hu
    have hvu : VA Z u = Z + 7 + 10 * u := rfl
    have hcu := nwA_c Z sw u
    have hou := (h4 u (by omega)).2.2.2.1
    exact ⟨c1.mv (fun q h h' => hq q (by omega)), c2.mv (hq _ (by omega))⟩
theorem CR.mvc {w : Wd} {Z sz : Nat} {a : As} {mv : Nat → Nat} {sw : Nat → Bool} {od : Nat → Nat} (h : CR w Z sz a sw od) (hm : ∀ u, u < a.1 → mv u = a.2.2.2.2.1 u) : CR w Z sz (a.1, a.2.1, a.2.2.1, a.2.2.2.1, mv, a.2.2.2.2.2) sw od := by
  obtain ⟨h1, h2, h3, h4, h5, h6, h7⟩ := h
  refine ⟨h1, h2, h3, fun u hu => ?_, h5, h6, h7⟩
  obtain ⟨⟨mx, c1, c2⟩, c3⟩ := h4 u hu
  exact ⟨⟨mx, c1, fun h => (c2 h).trans (by show _ = nI (mv u); rw [hm u h])⟩, c3⟩
set_option maxRecDepth 100000 in
set_option maxHeartbeats 4000000 in
theorem lp_DV_commit (g : Gl) {w : Wd} {Z sz : Nat} {a : As} {sw : Nat → Bool} {od : Nat → Nat} (hA : AWa a) (hok : oka a a.1 = true) {E : Rs → Wd → Nat → Prop} (K : ∀ (W : Wd) (mv9 : Nat → Nat), CR W Z sz (a.1, a.2.1, a.2.2.1, nba a, mv9, []) sw od → cl_fr Z w W → (∀ u, u < a.1 → mv9 u = ma_mv2 (nba a u) (a.2.2.2.1 u)) → VV g 8 1 6 mi_DV_commit w sz E 52 [(0, .ref Z)] [] W sz 0 0) : ∀ (zz : Nat) (i : Nat) (W : Wd) (mv9 : Nat → Nat), a.1 - i = zz → i ≤ a.1 → CR W Z sz (a.1, a.2.1, a.2.2.1, nba a, mv9, []) sw od → (∀ u, u < a.1 → bgN W (bfA Z sw u) (a.2.1 u) (a.2.2.2.1 u)) → (∀ u, u < i → mv9 u = ma_mv2 (nba a u) (a.2.2.2.1 u)) → cl_fr Z w W → VV g 8 1 6 mi_DV_commit w sz E 29 [(2, .int (nI i)), (0, .ref Z)] [] W sz 0 0 := by
  intro zz
  induction zz using Nat.strongRecOn with | _ zz ih => _
  intro i W mv9 hnn hin hC hb hm hfr
  have hn12 := hA.2.1
  obtain ⟨fV, hfw, hfi⟩ := hC.2.1
  refine v_iload_n (pc := 29) d_DV_commit_29 rfl rfl ?_
  refine v_aload_n (pc := 30) d_DV_commit_30 rfl rfl ?_
  refine v_get (pc := 31) d_DV_commit_31 fl_DV_15 hC.1 rfl ?_
  refine v_icmp_ge (pc := 34) (tgt := 52) d_DV_commit_34 rfl (fun hc => ?_) (fun hc => ?_)
  · skip
    rw [nI_leI (by omega) (by omega)] at hc
    refine v_sub (L' := [(0, .ref Z)]) (by simp) ?_
    have hia : i = a.1 := by omega
    rw [hia] at hm
    exact K W mv9 hC hfr hm
  · skip
    rw [nI_leI (by omega) (by omega)] at hc
    have hlt : i < a.1 := by omega
    obtain ⟨⟨mx, hV, hmx⟩, -⟩ := hC.2.2.2.1 i (by omega)
    obtain ⟨⟨f, m, pd, hB, hBB⟩, -⟩ := hC.2.2.2.2.1 i hlt
    obtain ⟨fe, me, pe, hE, hEB⟩ := hb i hlt
    have hl1 := (ok_len hok hlt).1
    have hl2 := (hA.2.2.2.1 i hlt).2.2.2
    have hvi : VA Z i = Z + 7 + 10 * i := rfl
    refine v_aload_n (pc := 37) d_DV_commit_37 rfl rfl ?_
    refine v_get (pc := 38) d_DV_commit_38 fl_DV_11 hC.1 rfl ?_
    refine v_iload_n (pc := 41) d_DV_commit_41 rfl rfl ?_
    refine v_aaldN (pc := 42) (k := i) d_DV_commit_42 hfw rfl (by omega) (by decide) (hfi i (by omega)) ?_
    refine v_cvV (pc := 43) (A := []) (rest := []) d_DV_commit_43 lk_DV_70 me_View_countMoved im_View_countMoved se_View_countMoved rfl hV rfl rfl (c_View_countMoved g hV hB hE (hA.2.2.2.1 i hlt).2.1 (by show (nba a i).length ≤ 32; omega) (by omega)) (Nat.le_of_ble_eq_true rfl) (Nat.le_of_ble_eq_true rfl) (Nat.le_of_ble_eq_true rfl) (Nat.le_of_ble_eq_true rfl) (fun w2 ht2 => ?_)
    obtain ⟨h2, hq2⟩ := ht2
    rw [hBB, hEB, ma_mv_eq _ _ _ (Nat.le_refl _) (nb_ok hA i hlt) (hA.2.2.2.1 i hlt).2.2.1] at h2
    have hC2 := hC.mx hA.2.1 hlt h2 hq2
    refine v_iinc (pc := 46) (L' := [(2, .int (nI (i + 1))), (0, .ref Z)]) d_DV_commit_46 rfl (ix_inc _) (by decide) rfl ?_
    refine v_goto (pc := 49) (tgt := 29) d_DV_commit_49 rfl ?_
    refine v_sub (L' := [(2, .int (nI (i + 1))), (0, .ref Z)]) (by simp) ?_
    exact ih (a.1 - (i + 1)) (by omega) (i + 1) w2 _ rfl (by omega) hC2 (fun u hu => (hb u hu).mv (fun q h h' => hq2 q (by have hcu := nwA_c Z sw u; omega))) (fun u hu => by by_cases e : u = i; (subst e; exact va_up_self _ _ _); (rw [va_up_ne _ _ e]; exact hm u (by omega))) (fun q hq => (hq2 q (by omega)).trans (hfr q hq))
set_option maxRecDepth 100000 in
set_option maxHeartbeats 4000000 in
theorem c_DV_commit (g : Gl) {w : Wd} {Z sz : Nat} {a : As} {sw : Nat → Bool} {od : Nat → Nat} (hC : CR w Z sz a sw od) (hA : AWa a) : CT g 8 1 6 mi_DV_commit [.ref Z] w sz (CE w Z sz (if oka a a.1 = true then 0 else 1) 3 (.int (nI (ma_mv2 (nba a 0) (a.2.2.2.1 0) + ma_mv2 (nba a 1) (a.2.2.2.1 1) + ma_mv2 (nba a 2) (a.2.2.2.1 2)))) (if oka a a.1 = true then (a.1, a.2.1, a.2.2.1, nba a, (fun v => ma_mv2 (nba a v) (a.2.2.2.1 v)), []) else (a.1, a.2.1, a.2.2.1, a.2.2.2.1, a.2.2.2.2.1, []))) := by
  refine CT.of (by decide) (Nat.le_of_ble_eq_true rfl) ?_
  obtain ⟨x, y, z, u, hT, hTT⟩ := hC.2.2.1
  have hn12 := hA.2.1
  refine v_aload_n (pc := 0) d_DV_commit_0 rfl rfl ?_
  refine v_cvX (pc := 1) (A := []) (rest := []) (x := .int (if oka a a.1 = true then 1 else 0)) d_DV_commit_1 lk_DV_65 me_DV_renewViews im_DV_renewViews se_DV_renewViews rfl hC.1 rfl rfl (c_DV_renewViews g hC hA) (Nat.le_of_ble_eq_true rfl) (Nat.le_of_ble_eq_true rfl) (Nat.le_of_ble_eq_true rfl) (Nat.le_of_ble_eq_true rfl) (fun w1 ht1 => ?_)
  obtain ⟨hf1, hyes, hno⟩ := ht1
  have hZ1 := (hf1 Z (by omega)).trans hC.1
  have hT1 := hT.mv (w' := w1) (fun q h h' => hf1 q (by omega))
  refine v_istore_n (pc := 4) (L' := [(1, .int (if oka a a.1 = true then 1 else 0)), (0, .ref Z)]) d_DV_commit_4 rfl (by decide) rfl ?_
  refine v_aload_n (pc := 5) d_DV_commit_5 rfl rfl ?_
  refine v_get (pc := 6) d_DV_commit_6 fl_DV_22 hZ1 rfl ?_
  refine v_cvX (pc := 9) (A := []) (rest := []) (x := .int (nI (a.2.2.2.2.2.length))) d_DV_commit_9 lk_DV_61 me_Batch_empty im_Batch_empty se_Batch_empty rfl hT1.o rfl rfl (c_Batch_empty g hT1) (Nat.le_of_ble_eq_true rfl) (Nat.le_of_ble_eq_true rfl) (Nat.le_of_ble_eq_true rfl) (Nat.le_of_ble_eq_true rfl) (fun w2 ht2 => ?_)
  obtain ⟨h2, hq2⟩ := ht2
  have hfr2 : cl_fr Z w w2 := fun q hq => (hq2 q (by omega)).trans (hf1 q (by omega))
  refine v_pop (pc := 12) d_DV_commit_12 rfl ?_
  refine v_iload_n (pc := 13) d_DV_commit_13 rfl rfl ?_
  refine v_if_ne (pc := 14) (tgt := 27) d_DV_commit_14 rfl (fun hc => ?_) (fun hc => ?_)
  · skip
    rw [zt] at hc
    have hok := hc
    obtain ⟨s9, hC1, hb1⟩ := (hyes hok).done hC hA hok
    have hC2 := hC1.bt (l := []) hA.2.1 hq2 ⟨x, y, z, u, h2, rfl⟩
    refine v_iconst (pc := 27) (v := nI 0) d_DV_commit_27 rfl ?_
    refine v_istore_n (pc := 28) (L' := [(2, .int (nI 0)), (1, .int (if oka a a.1 = true then 1 else 0)), (0, .ref Z)]) d_DV_commit_28 rfl (by decide) rfl ?_
    refine v_sub (L' := [(2, .int (nI 0)), (0, .ref Z)]) (by simp) ?_
    refine lp_DV_commit g hA hok (fun W mv9 hCW hfr hm => ?_) (a.1 - 0) 0 w2 _ rfl (Nat.zero_le _) hC2 (fun u hu => (hb1 u hu).mv (fun q h h' => hq2 q (by have hcu := nwA_c Z s9 u; omega))) (fun u hu => absurd hu (Nat.not_lt_zero _)) hfr2
    have hn3 := hA.1
    obtain ⟨fV, hfw, hfi⟩ := hCW.2.1
    obtain ⟨⟨mx0, hV0, hmx0⟩, -⟩ := hCW.2.2.2.1 0 (by decide)
    rw [hmx0 (show 0 < a.1 by omega)] at hV0
    obtain ⟨⟨mx1, hV1, hmx1⟩, -⟩ := hCW.2.2.2.1 1 (by decide)
    rw [hmx1 (show 1 < a.1 by omega)] at hV1
    obtain ⟨⟨mx2, hV2, hmx2⟩, -⟩ := hCW.2.2.2.1 2 (by decide)
    rw [hmx2 (show 2 < a.1 by omega)] at hV2
    refine v_iconst (pc := 52) (v := nI 0) d_DV_commit_52 rfl ?_
    refine v_istore_n (pc := 53) (L' := [(2, .int (nI 0)), (0, .ref Z)]) d_DV_commit_53 rfl (by decide) rfl ?_
    refine v_iconst (pc := 54) (v := nI 0) d_DV_commit_54 rfl ?_
    refine v_istore_n (pc := 55) (L' := [(3, .int (nI 0)), (2, .int (nI 0)), (0, .ref Z)]) d_DV_commit_55 rfl (by decide) rfl ?_
    refine v_iload_n (pc := 56) d_DV_commit_56 rfl rfl ?_
    refine v_iconst (pc := 57) (v := nI 3) d_DV_commit_57 rfl ?_
    refine v_icmp_ge (pc := 58) (tgt := 79) d_DV_commit_58 rfl (fun hc => ?_) (fun hc => ?_)
    · skip
      rw [nI_leI (by omega) (by omega)] at hc
      exact absurd hc (by omega)
    · skip
      rw [nI_leI (by omega) (by omega)] at hc
      refine v_iload_n (pc := 61) d_DV_commit_61 rfl rfl ?_
      refine v_aload_n (pc := 62) d_DV_commit_62 rfl rfl ?_
      refine v_get (pc := 63) d_DV_commit_63 fl_DV_11 hCW.1 rfl ?_
      refine v_iload_n (pc := 66) d_DV_commit_66 rfl rfl ?_
      refine v_aaldN (pc := 67) (k := 0) d_DV_commit_67 hfw rfl (by omega) (by decide) (hfi 0 (by omega)) ?_
      refine v_get (pc := 68) d_DV_commit_68 fl_DV_73 hV0 rfl ?_
      refine v_iadd (pc := 71) d_DV_commit_71 ?_
      refine v_re (nI_add 0 (mv9 0)) ?_
      refine v_istore_n (pc := 72) (L' := [(2, .int (nI (0 + (mv9 0)))), (3, .int (nI 0)), (0, .ref Z)]) d_DV_commit_72 rfl (by decide) rfl ?_
      refine v_iinc (pc := 73) (L' := [(3, .int (nI (0 + 1))), (2, .int (nI (0 + (mv9 0)))), (0, .ref Z)]) d_DV_commit_73 rfl (ix_inc _) (by decide) rfl ?_
      refine v_goto (pc := 76) (tgt := 56) d_DV_commit_76 rfl ?_
      refine v_iload_n (pc := 56) d_DV_commit_56 rfl rfl ?_
      refine v_iconst (pc := 57) (v := nI 3) d_DV_commit_57 rfl ?_
      refine v_icmp_ge (pc := 58) (tgt := 79) d_DV_commit_58 rfl (fun hc => ?_) (fun hc => ?_)
      · skip
        rw [nI_leI (by omega) (by omega)] at hc
        exact absurd hc (by omega)
      · skip
        rw [nI_leI (by omega) (by omega)] at hc
        refine v_iload_n (pc := 61) d_DV_commit_61 rfl rfl ?_
        refine v_aload_n (pc := 62) d_DV_commit_62 rfl rfl ?_
        refine v_get (pc := 63) d_DV_commit_63 fl_DV_11 hCW.1 rfl ?_
        refine v_iload_n (pc := 66) d_DV_commit_66 rfl rfl ?_
        refine v_aaldN (pc := 67) (k := 1) d_DV_commit_67 hfw rfl (by omega) (by decide) (hfi 1 (by omega)) ?_
        refine v_get (pc := 68) d_DV_commit_68 fl_DV_73 hV1 rfl ?_
        refine v_iadd (pc := 71) d_DV_commit_71 ?_
        refine v_re (nI_add (0 + (mv9 0)) (mv9 1)) ?_
        refine v_istore_n (pc := 72) (L' := [(2, .int (nI ((0 + (mv9 0)) + (mv9 1)))), (3, .int (nI (0 + 1))), (0, .ref Z)]) d_DV_commit_72 rfl (by decide) rfl ?_
        refine v_iinc (pc := 73) (L' := [(3, .int (nI (0 + 1 + 1))), (2, .int (nI ((0 + (mv9 0)) + (mv9 1)))), (0, .ref Z)]) d_DV_commit_73 rfl (ix_inc _) (by decide) rfl ?_
        refine v_goto (pc := 76) (tgt := 56) d_DV_commit_76 rfl ?_
        refine v_iload_n (pc := 56) d_DV_commit_56 rfl rfl ?_
        refine v_iconst (pc := 57) (v := nI 3) d_DV_commit_57 rfl ?_
        refine v_icmp_ge (pc := 58) (tgt := 79) d_DV_commit_58 rfl (fun hc => ?_) (fun hc => ?_)
        · skip
          rw [nI_leI (by omega) (by omega)] at hc
          exact absurd hc (by omega)
        · skip
          rw [nI_leI (by omega) (by omega)] at hc
          refine v_iload_n (pc := 61) d_DV_commit_61 rfl rfl ?_
          refine v_aload_n (pc := 62) d_DV_commit_62 rfl rfl ?_
          refine v_get (pc := 63) d_DV_commit_63 fl_DV_11 hCW.1 rfl ?_
          refine v_iload_n (pc := 66) d_DV_commit_66 rfl rfl ?_
          refine v_aaldN (pc := 67) (k := 2) d_DV_commit_67 hfw rfl (by omega) (by decide) (hfi 2 (by omega)) ?_
          refine v_get (pc := 68) d_DV_commit_68 fl_DV_73 hV2 rfl ?_
          refine v_iadd (pc := 71) d_DV_commit_71 ?_
          refine v_re (nI_add ((0 + (mv9 0)) + (mv9 1)) (mv9 2)) ?_
          refine v_istore_n (pc := 72) (L' := [(2, .int (nI (((0 + (mv9 0)) + (mv9 1)) + (mv9 2)))), (3, .int (nI (0 + 1 + 1))), (0, .ref Z)]) d_DV_commit_72 rfl (by decide) rfl ?_
          refine v_iinc (pc := 73) (L' := [(3, .int (nI (0 + 1 + 1 + 1))), (2, .int (nI (((0 + (mv9 0)) + (mv9 1)) + (mv9 2)))), (0, .ref Z)]) d_DV_commit_73 rfl (ix_inc _) (by decide) rfl ?_
          refine v_goto (pc := 76) (tgt := 56) d_DV_commit_76 rfl ?_
          refine v_iload_n (pc := 56) d_DV_commit_56 rfl rfl ?_
          refine v_iconst (pc := 57) (v := nI 3) d_DV_commit_57 rfl ?_
          refine v_icmp_ge (pc := 58) (tgt := 79) d_DV_commit_58 rfl (fun hc => ?_) (fun hc => ?_)
          · skip
            rw [nI_leI (by omega) (by omega)] at hc
            refine v_iload_n (pc := 79) d_DV_commit_79 rfl rfl ?_
            refine v_re (y := nI (ma_mv2 (nba a 0) (a.2.2.2.1 0) + ma_mv2 (nba a 1) (a.2.2.2.1 1) + ma_mv2 (nba a 2) (a.2.2.2.1 2))) (by rw [hm 0 (by omega), hm 1 (by omega), hm 2 (by omega), Nat.zero_add]) ?_
            exact v_iret (pc := 80) d_DV_commit_80 rfl (Nat.le_of_ble_eq_true rfl) (Nat.le_of_ble_eq_true rfl) ⟨Nat.le_refl _, hfr, ⟨s9, od, by rw [if_pos hok]; exact hCW.mvc (fun u hu => (hm u hu).symm)⟩, by rw [if_pos hok, if_pos rfl]⟩
          · skip
            rw [nI_leI (by omega) (by omega)] at hc
            exact absurd hc (by omega)
  · skip
    rw [zf] at hc
    have hC2 := (hno hc).bt (l := []) hA.2.1 hq2 ⟨x, y, z, u, h2, rfl⟩
    exact v_throw (pc := 17) d_DV_commit_17 d_DV_commit_20 d_DV_commit_21 d_DV_commit_23 d_DV_commit_26 tk_68 rfl (Nat.le_of_ble_eq_true rfl) (Nat.le_of_ble_eq_true rfl) (Nat.le_of_ble_eq_true rfl) (Nat.le_of_ble_eq_true rfl) (CE.thr (hC2.up (Nat.le_succ _)) (Nat.le_succ _) hfr2 (by rw [if_neg hc]; decide) rfl (by rw [if_neg hc]))
