/-! The law from its entry. -/
theorem DI.mv {w w' : Wd} {Z i : Nat} (h : DI w Z i) (hi : i ≤ 12) (hq : ∀ q, Z ≤ q → q < Z + 127 → w' q = w q) : DI w' Z i := by
  obtain ⟨h1, ⟨fV, h2, h3⟩, h4, h5⟩ := h
  refine ⟨(hq _ (by omega) (by omega)).trans h1, ⟨fV, (hq _ (by omega) (by omega)).trans h2, h3⟩, h4.mv (fun q h h' => hq q (by omega) (by omega)), fun u hu => (h5 u hu).mv (fun q h h' => hq q ?_ ?_)⟩
  · have hvu : VA Z u = Z + 7 + 10 * u := rfl
    omega
  · have hvu : VA Z u = Z + 7 + 10 * u := rfl
    omega
set_option maxRecDepth 100000 in
set_option maxHeartbeats 4000000 in
theorem lw_small (g : Gl) {w0 W : Wd} {sz0 scr N Z sz nc ns mc ms : Nat} {c : Cell} {sf : Nat → Int32} {E : Rs → Wd → Nat → Prop} (hSC : SC g c N sf) (h6 : ¬ 6 ≤ N) (hsc : W scr = some (cX c)) (r1 : nc ≤ mc) (r2 : ns ≤ ms) (hE : ∀ w' sz', E (.inl (some (.int 1))) w' sz') : VV g 10 mc ms mi_Law_law w0 sz0 E 23 [(4, .int (nI 0)), (3, .ref (Z + 146)), (2, .ref (Z + 127)), (1, .ref Z), (0, .ref scr)] [] W sz nc ns := by
  refine v_iload (pc := 23) d_Law_law_23 rfl ?_
  refine v_aload_n (pc := 25) d_Law_law_25 rfl rfl ?_
  refine v_slen (pc := 26) d_Law_law_26 hsc hSC ?_
  refine v_bipush (pc := 27) (v := nI 6) d_Law_law_27 rfl ?_
  refine v_isub (pc := 29) d_Law_law_29 ?_
  refine v_icmp_gt (pc := 30) (tgt := 1217) d_Law_law_30 rfl (fun hc => ?_) (fun hc => ?_)
  · skip
    refine v_iconst (pc := 1217) (v := nI 1) d_Law_law_1217 rfl ?_
    exact v_zret (pc := 1218) d_Law_law_1218 rfl z11 r1 r2 (hE _ _)
  · skip
    have hN5 : N = 0 ∨ N = 1 ∨ N = 2 ∨ N = 3 ∨ N = 4 ∨ N = 5 := by omega
    rcases hN5 with rfl | rfl | rfl | rfl | rfl | rfl <;> exact absurd hc (by decide)
set_option maxRecDepth 100000 in
set_option maxHeartbeats 4000000 in
theorem c_Law_law (g : Gl) {w : Wd} {b N Z : Nat} {c : Cell} {sf : Nat → Int32} (hSC : SC g c N sf) (hN : N ≤ 3072) (hb : w b = some (cX c)) (hbz : b < Z) : CT g 10 2000 20000 mi_Law_law [.ref b] w Z (fun r _ _ => r = .inl (some (.int 1))) := by
  refine CT.of (by decide) (Nat.le_of_ble_eq_true rfl) ?_
  refine v_newW (pc := 0) (sz' := Z + 1) (nc' := 1) (ns' := 3) d_Law_law_0 nw_Law_8 (Nat.le_of_ble_eq_true rfl) (Nat.le_of_ble_eq_true rfl) rfl rfl rfl (fun w1 hn1 hq1 => ?_)
  refine v_dup (pc := 3) d_Law_law_3 rfl ?_
  refine v_ciN (pc := 4) (A := []) (rest := [.ref Z]) (szN := Z + 127) (nc' := 127) (ns' := 4156) d_Law_law_4 lk_Law_69 me_DV_init im_DV_init rfl rfl rfl rfl rfl (c_DV_init g hn1) (Nat.le_of_ble_eq_true rfl) (by omega) (by omega) (by omega) (by omega) (Nat.le_of_ble_eq_true rfl) (fun w2 ht2 => ?_)
  obtain ⟨hD2, hq2⟩ := ht2
  refine v_astore_n (pc := 7) (L' := [(1, .ref Z), (0, .ref b)]) d_Law_law_7 rfl (by decide) rfl ?_
  refine v_newW (pc := 8) (sz' := Z + 127 + 1) (nc' := 128) (ns' := 4178) d_Law_law_8 nw_Law_70 (Nat.le_of_ble_eq_true rfl) (Nat.le_of_ble_eq_true rfl) rfl rfl rfl (fun w3 hn3 hq3 => ?_)
  refine v_dup (pc := 11) d_Law_law_11 rfl ?_
  refine v_ciN (pc := 12) (A := []) (rest := [.ref (Z + 127)]) (szN := Z + 127 + 19) (nc' := 146) (ns' := 7534) d_Law_law_12 lk_Law_72 me_Mo_init im_Mo_init rfl rfl rfl rfl rfl (c_Mo_init g hn3) (Nat.le_of_ble_eq_true rfl) (by omega) (by omega) (by omega) (by omega) (Nat.le_of_ble_eq_true rfl) (fun w4 ht4 => ?_)
  obtain ⟨hM4, hq4⟩ := ht4
  refine v_astore_n (pc := 15) (L' := [(2, .ref (Z + 127)), (1, .ref Z), (0, .ref b)]) d_Law_law_15 rfl (by decide) rfl ?_
  refine v_iconst (pc := 16) (v := nI 1) d_Law_law_16 rfl ?_
  refine v_newjW (pc := 17) (N := 1) (sz' := Z + 147) (nc' := 147) (ns' := 7535) d_Law_law_17 rfl (Nat.le_of_ble_eq_true rfl) (Nat.le_of_ble_eq_true rfl) (Nat.le_of_ble_eq_true rfl) rfl rfl rfl (fun w5 hn5 hq5 => ?_)
  refine v_astore_n (pc := 19) (L' := [(3, .ref (Z + 146)), (2, .ref (Z + 127)), (1, .ref Z), (0, .ref b)]) d_Law_law_19 rfl (by decide) rfl ?_
  refine v_iconst (pc := 20) (v := nI 0) d_Law_law_20 rfl ?_
  refine v_istore (pc := 21) (L' := [(4, .int (nI 0)), (3, .ref (Z + 146)), (2, .ref (Z + 127)), (1, .ref Z), (0, .ref b)]) d_Law_law_21 (by decide) rfl ?_
  refine v_sub (L' := [(4, .int (nI 0)), (3, .ref (Z + 146)), (2, .ref (Z + 127)), (1, .ref Z), (0, .ref b)]) (by simp) ?_
  have hs5 : w5 b = some (cX c) := (hq5 b (by omega)).trans ((hq4 b (by omega)).trans ((hq3 b (by omega)).trans ((hq2 b (by omega)).trans ((hq1 b (by omega)).trans hb))))
  have hD5 : DI w5 Z 12 := hD2.mv (by decide) (fun q h h' => (hq5 q (by omega)).trans ((hq4 q (by omega)).trans (hq3 q (by omega))))
  have hM5 := hM4.mv (w' := w5) (fun q h h' => hq5 q (by omega))
  by_cases h6 : 6 ≤ N
  · exact lw_loop g hSC hN h6 hbz (fun _ _ => rfl) (N - 6 * 0) 0 w5 (Z + 147) 147 7535 as0 (nI 0) rfl (Nat.zero_le _) hs5 ⟨_, _, hD5.cr (Nat.le_refl _)⟩ (ra0 hM5) as0_AW ⟨_, hn5⟩ (Nat.le_refl _) (Nat.le_refl _)
  · exact lw_small g hSC h6 hs5 (Nat.le_of_ble_eq_true rfl) (Nat.le_of_ble_eq_true rfl) (fun _ _ => rfl)
