/-! The law: every call keeps the state well-formed; the loop. -/
theorem aw_ch {a : As} (hA : AWa a) {t x y z : Int32} (ht : 0 ≤ t ∧ t ≤ nI 2) (h8 : ¬ a.2.2.2.2.2.length = 8) : AWa (a.1, a.2.1, a.2.2.1, a.2.2.2.1, a.2.2.2.2.1, a.2.2.2.2.2 ++ [(t, x, y, z)]) := by
  obtain ⟨b1, b2, b3, b4, b5, b6, b7⟩ := hA
  refine ⟨b1, b2, ?_, b4, b5, b6, fun e he => ?_⟩
  · show (a.2.2.2.2.2 ++ [(t, x, y, z)]).length ≤ 8
    rw [List.length_append]
    show a.2.2.2.2.2.length + 1 ≤ 8
    omega
  · rcases List.mem_append.mp he with h | h
    · exact b7 e h
    · rw [List.mem_singleton] at h
      subst h
      obtain ⟨t1, t2⟩ := i2n_of ht.1
      have h9 := ht.2
      rw [t1, nI_leI (by omega) (by decide)] at h9
      exact ⟨i2n t, by omega, t1⟩
theorem aw_nil {a : As} (hA : AWa a) : AWa (a.1, a.2.1, a.2.2.1, a.2.2.2.1, a.2.2.2.2.1, []) := by
  obtain ⟨b1, b2, b3, b4, b5, b6, b7⟩ := hA
  exact ⟨b1, b2, show 0 ≤ 8 by decide, b4, b5, b6, fun e he => by cases he⟩
theorem aw_drop {a : As} (hA : AWa a) (h : ¬ a.1 = 3) : AWa (a.1 - 1, a.2) := by
  obtain ⟨b1, b2, b3, b4, b5, b6, b7⟩ := hA
  exact ⟨by show 3 ≤ a.1 - 1; omega, by show a.1 - 1 ≤ 12; omega, b3, fun v hv => b4 v (by have hv : v < a.1 - 1 := hv; omega), b5, fun v h3 hv => b6 v h3 (by have hv : v < a.1 - 1 := hv; omega), b7⟩
theorem aw_com {a : As} (hA : AWa a) (h : oka a a.1 = true) : AWa (a.1, a.2.1, a.2.2.1, nba a, (fun v => ma_mv2 (nba a v) (a.2.2.2.1 v)), []) := by
  have hA' := hA
  obtain ⟨b1, b2, b3, b4, b5, b6, b7⟩ := hA
  exact ⟨b1, b2, show 0 ≤ 8 by decide, fun v hv => ⟨(b4 v hv).1, (b4 v hv).2.1, nb_ok hA' v hv, (ok_len h hv).1⟩, fun v hv => ⟨(b5 v hv).1, (ok_len h (show v < a.1 by omega)).2 hv⟩, b6, fun e he => by cases he⟩
theorem c_Mo_commitA (g : Gl) {w : Wd} {b sz : Nat} {sc : Nat → Int32} {ia : Nat → Nat → Int32} {la : Nat → Nat → Int64} (hM : MAt w b sc ia la) {a : As} (hA : AWa a) (hR : RAa sc ia la a) : CT g 4 0 0 mi_Mo_commit [.ref b] w sz (RE w b sz (if oka a a.1 = true then 0 else 1) (.int (if oka a a.1 = true then nI (ma_mv2 (nba a 0) (a.2.2.2.1 0) + ma_mv2 (nba a 1) (a.2.2.2.1 1) + ma_mv2 (nba a 2) (a.2.2.2.1 2)) else nI 0)) (if oka a a.1 = true then (a.1, a.2.1, a.2.2.1, nba a, (fun v => ma_mv2 (nba a v) (a.2.2.2.1 v)), []) else (a.1, a.2.1, a.2.2.1, a.2.2.2.1, a.2.2.2.2.1, []))) := by
  refine (c_Mo_commit g hM (sz := sz) hA hR).mono (fun r w' sz' h => ?_)
  obtain ⟨h1, h2, h3, h4⟩ := h
  refine ⟨h1, h2, h3, ?_⟩
  by_cases ho : oka a a.1 = true
  · simp only [if_pos ho] at h4 ⊢
    exact h4
  · simp only [if_neg ho] at h4 ⊢
    exact h4
theorem ix6 (j : Nat) : nI (6 * j) + Int32.ofInt 6 = nI (6 * (j + 1)) := nI_add (6 * j) 6
theorem kp_change {a : As} (hA : AWa a) (t x y z : Int32) : AWa (if 0 ≤ t ∧ t ≤ nI 2 then if chOk x y z then if a.2.2.2.2.2.length = 8 then a else (a.1, a.2.1, a.2.2.1, a.2.2.2.1, a.2.2.2.2.1, a.2.2.2.2.2 ++ [(t, x, y, z)]) else a else a) := by
  split
  · rename_i h1
    split
    · rename_i h2
      split
      · exact hA
      · rename_i h3; exact aw_ch hA h1 h3
    · exact hA
  · exact hA
theorem kp_commit {a : As} (hA : AWa a) : AWa (if oka a a.1 = true then (a.1, a.2.1, a.2.2.1, nba a, (fun v => ma_mv2 (nba a v) (a.2.2.2.1 v)), []) else (a.1, a.2.1, a.2.2.1, a.2.2.2.1, a.2.2.2.2.1, [])) := by
  split
  · rename_i h1; exact aw_com hA h1
  · exact aw_nil hA
theorem kp_select {a : As} (hA : AWa a) (e c t x : Int32) : AWa (if isC a e c then if 0 ≤ t ∧ t ≤ nI 2 then if fits a (1, i2n e, 0, c, t, x) (a.2.1 (i2n e)) = true then mkv a (1, i2n e, 0, c, t, x) (a.2.1 (i2n e)) else a else a else a) := by
  split
  · rename_i h1
    split
    · rename_i h2
      split
      · rename_i h3
        obtain ⟨k, c9, e1, hk2, hk3, e2, hj2, hj3⟩ := isC_n h1 hA; rw [e2] at h3 ⊢
        rw [hk3] at h3 ⊢
        exact hA.mk (wo_sel hA hk2 hj2) h3
      · exact hA
    · exact hA
  · exact hA
theorem kp_project {a : As} (hA : AWa a) (e n cols : Int32) : AWa (if isV a e then if nI 1 ≤ n ∧ n ≤ nI 4 then if pcols a e cols (i2n n) = true then if fits a (2, i2n e, 0, cols, 0, 0) (i2n n) = true then mkv a (2, i2n e, 0, cols, 0, 0) (i2n n) else a else a else a else a) := by
  split
  · rename_i h1
    split
    · rename_i h2
      split
      · rename_i h3
        split
        · rename_i h4
          obtain ⟨k, e1, hk2, hk3⟩ := isV_n h1 hA.2.1; obtain ⟨t1, t2⟩ := i2n_of (Int32.le_trans (show (0 : Int32) ≤ nI 1 by decide) h2.1); have htd : 1 ≤ i2n n ∧ i2n n ≤ 4 := by have h9 := h2; rw [t1, nI_leI (by decide) (by omega), nI_leI (by omega) (by decide)] at h9; exact h9
          have hcc : ∀ c, c < i2n n → colN cols c < a.2.1 k := fun c hc => by have h9 := (pcols_at h3 c hc).2.2; have h8 := colN_lt cols c; have h7 := (hA.2.2.2.1 k hk2).2.1; rw [hk3, nI_ltI (by omega) (by omega)] at h9; exact h9
          rw [hk3] at h4 ⊢
          exact hA.mk (wo_prj hA hk2 htd.1 htd.2 hcc) h4
        · exact hA
      · exact hA
    · exact hA
  · exact hA
theorem kp_join {a : As} (hA : AWa a) (e f i j : Int32) : AWa (if isC a e i ∧ isC a f j then if a.2.1 (i2n e) + a.2.1 (i2n f) ≤ 4 then if fits a (3, i2n e, i2n f, i, j, 0) (a.2.1 (i2n e) + a.2.1 (i2n f)) = true then mkv a (3, i2n e, i2n f, i, j, 0) (a.2.1 (i2n e) + a.2.1 (i2n f)) else a else a else a) := by
  split
  · rename_i h1
    split
    · rename_i h2
      split
      · rename_i h3
        obtain ⟨k, x9, e1, hk2, hk3, e3, hx2, hx3⟩ := isC_n h1.1 hA; obtain ⟨q, y9, e2, hq2, hq3, e4, hy2, hy3⟩ := isC_n h1.2 hA; rw [hk3, hq3] at h2; rw [e3, e4] at h3 ⊢
        rw [hk3, hq3] at h3 ⊢
        exact hA.mk (wo_jn hA hk2 hq2 hx2 hy2 h2) h3
      · exact hA
    · exact hA
  · exact hA
theorem kp_union {a : As} (hA : AWa a) (e f : Int32) : AWa (if isV a e ∧ isV a f then if a.2.1 (i2n e) = a.2.1 (i2n f) then if fits a (4, i2n e, i2n f, 0, 0, 0) (a.2.1 (i2n e)) = true then mkv a (4, i2n e, i2n f, 0, 0, 0) (a.2.1 (i2n e)) else a else a else a) := by
  split
  · rename_i h1
    split
    · rename_i h2
      split
      · rename_i h3
        obtain ⟨k, e1, hk2, hk3⟩ := isV_n h1.1 hA.2.1; obtain ⟨q, e2, hq2, hq3⟩ := isV_n h1.2 hA.2.1; rw [hk3, hq3] at h2
        rw [hk3, hq3] at h3 ⊢
        exact hA.mk (wo_un hA hk2 hq2 h2) h3
      · exact hA
    · exact hA
  · exact hA
theorem kp_group {a : As} (hA : AWa a) (e t i j : Int32) : AWa (if isC a e i ∧ isC a e j then if 0 ≤ t ∧ t ≤ nI 2 then if fits a (5 + i2n t, i2n e, 0, i, j, 0) 2 = true then mkv a (5 + i2n t, i2n e, 0, i, j, 0) 2 else a else a else a) := by
  split
  · rename_i h1
    split
    · rename_i h2
      split
      · rename_i h3
        obtain ⟨k, x9, e1, hk2, hk3, e3, hx2, hx3⟩ := isC_n h1.1 hA; obtain ⟨q, y9, e2, hq2, hq3, e4, hy2, hy3⟩ := isC_n h1.2 hA; obtain rfl : k = q := hk3.symm.trans hq3; obtain ⟨t1, t2⟩ := i2n_of h2.1; have htd : i2n t ≤ 2 := by have h9 := h2.2; rw [t1, nI_leI (by omega) (by decide)] at h9; exact h9
        rw [e3, e4] at h3 ⊢
        rw [hk3] at h3 ⊢
        exact hA.mk (wo_gr hA hk2 htd hx2 hy2) h3
      · exact hA
    · exact hA
  · exact hA
theorem kp_distinct {a : As} (hA : AWa a) (e : Int32) : AWa (if isV a e then if fits a (8, i2n e, 0, 0, 0, 0) (a.2.1 (i2n e)) = true then mkv a (8, i2n e, 0, 0, 0, 0) (a.2.1 (i2n e)) else a else a) := by
  split
  · rename_i h1
    split
    · rename_i h2
      obtain ⟨k, e1, hk2, hk3⟩ := isV_n h1 hA.2.1
      rw [hk3] at h2 ⊢
      exact hA.mk (wo_dis hA hk2) h2
    · exact hA
  · exact hA
theorem kp_drop {a : As} (hA : AWa a) : AWa (if a.1 = 3 then a else (a.1 - 1, a.2)) := by
  split
  · exact hA
  · rename_i h1; exact aw_drop hA h1
set_option maxRecDepth 100000 in
set_option maxHeartbeats 8000000 in
theorem lw_loop (g : Gl) {w0 : Wd} {sz0 scr N Z : Nat} {c : Cell} {sf : Nat → Int32} {E : Rs → Wd → Nat → Prop} (hSC : SC g c N sf) (hN : N ≤ 3072) (h6 : 6 ≤ N) (hs0 : scr < Z) (hE : ∀ w' sz', E (.inl (some (.int 1))) w' sz') : ∀ (zz j : Nat) (W : Wd) (sz nc ns : Nat) (a : As) (th : Int32), N - 6 * j = zz → 6 * j ≤ N → W scr = some (cX c) → CRe W Z sz a → RRa W (Z + 127) a th → AWa a → (∃ f, W (Z + 146) = some (cJ 1 f)) → nc ≤ 147 + 2 * j → ns ≤ 7535 + 10 * j → VV g 10 2000 20000 mi_Law_law w0 sz0 E 23 [(4, .int (nI (6 * j))), (3, .ref (Z + 146)), (2, .ref (Z + 127)), (1, .ref Z), (0, .ref scr)] [] W sz nc ns := by
  intro zz
  induction zz using Nat.strongRecOn with | _ zz ih => _
  intro j W sz nc ns a th hnn hjb hsc hCR hRR hA hout hnc hns
  refine v_iload (pc := 23) d_Law_law_23 rfl ?_
  refine v_aload_n (pc := 25) d_Law_law_25 rfl rfl ?_
  refine v_slen (pc := 26) d_Law_law_26 hsc hSC ?_
  refine v_bipush (pc := 27) (v := nI 6) d_Law_law_27 rfl ?_
  refine v_isub (pc := 29) d_Law_law_29 ?_
  refine v_re (pk_sub (a := N) (b := 6) (by omega)) ?_
  refine v_icmp_gt (pc := 30) (tgt := 1217) d_Law_law_30 rfl (fun hc => ?_) (fun hc => ?_)
  · skip
    rw [nI_ltI (by omega) (by omega)] at hc
    refine v_iconst (pc := 1217) (v := nI 1) d_Law_law_1217 rfl ?_
    exact v_zret (pc := 1218) d_Law_law_1218 rfl z11 (by omega) (by omega) (hE _ _)
  · skip
    rw [nI_ltI (by omega) (by omega)] at hc
    refine v_aload_n (pc := 33) d_Law_law_33 rfl rfl ?_
    refine v_iload (pc := 34) d_Law_law_34 rfl ?_
    have hj6 : 6 * j + 6 ≤ N := by omega
    refine v_sld (pc := 36) (k := 6 * j) d_Law_law_36 hsc hSC rfl (by omega) (by omega) ?_
    refine v_bipush (pc := 37) (v := nI 15) d_Law_law_37 rfl ?_
    refine v_iand (pc := 39) d_Law_law_39 ?_
    obtain ⟨q1, q2⟩ := and15 (sf (6 * j))
    rw [q1]
    obtain ⟨sw, od, hC⟩ := id hCR
    obtain ⟨fo, hout⟩ := hout
    have hMo : ∃ fs, W (Z + 127) = some (cO 11 fs) := by obtain ⟨sc, ia, la, hM, -, -⟩ := hRR; exact ⟨_, hM.o⟩
    obtain ⟨fs, hMo⟩ := hMo
    have hnx : ∀ (a' : As) (th' : Int32) (w2 : Wd) (sz2 nc2 ns2 : Nat), (∀ q, q < Z → w2 q = W q) → CRe w2 Z sz2 a' → RRa w2 (Z + 127) a' th' → AWa a' → (∃ f, w2 (Z + 146) = some (cJ 1 f)) → nc2 ≤ nc + 2 → ns2 ≤ ns + 10 → VV g 10 2000 20000 mi_Law_law w0 sz0 E 1211 [(4, .int (nI (6 * j))), (3, .ref (Z + 146)), (2, .ref (Z + 127)), (1, .ref Z), (0, .ref scr)] [] w2 sz2 nc2 ns2 := by
      intro a' th' w2 sz2 nc2 ns2 hf hC' hR' hA' ho' hn1 hn2
      refine v_iinc (pc := 1211) (L' := [(4, .int (nI (6 * (j + 1)))), (3, .ref (Z + 146)), (2, .ref (Z + 127)), (1, .ref Z), (0, .ref scr)]) d_Law_law_1211 rfl (ix6 j) (by decide) rfl ?_
      refine v_goto (pc := 1214) (tgt := 23) d_Law_law_1214 rfl ?_
      exact ih (N - 6 * (j + 1)) (by omega) (j + 1) w2 sz2 nc2 ns2 a' th' rfl (by omega) ((hf scr hs0).trans hsc) hC' hR' hA' ho' (by omega) (by omega)
    generalize hcc : i2n (sf (6 * j) &&& nI 15) = cc at q1 q2 ⊢
    have hcs : cc = 0 ∨ cc = 1 ∨ cc = 2 ∨ cc = 3 ∨ cc = 4 ∨ cc = 5 ∨ cc = 6 ∨ cc = 7 ∨ cc = 8 ∨ cc = 9 ∨ cc = 10 ∨ cc = 11 ∨ cc = 12 ∨ cc = 13 ∨ cc = 14 ∨ cc = 15 := by omega
    clear hcc q1 q2
    rcases hcs with rfl | rfl | rfl | rfl | rfl | rfl | rfl | rfl | rfl | rfl | rfl | rfl | rfl | rfl | rfl | rfl
    · skip
      refine v_tin (pc := 40) (tgt := 120) (off := 80) d_Law_law_40 (by decide) (by decide) (by decide +kernel) rfl ?_
      exact lw_change g hsc hSC hj6 hN hs0 hMo (kp_change hA (sf (6 * j + 1)) (sf (6 * j + 2)) (sf (6 * j + 3)) (sf (6 * j + 4))).2.1 (by omega) (by omega) (c_Law_change g (sf (6 * j + 1)) (sf (6 * j + 2)) (sf (6 * j + 3)) (sf (6 * j + 4)) hC.1 hout (kp_change hA (sf (6 * j + 1)) (sf (6 * j + 2)) (sf (6 * j + 3)) (sf (6 * j + 4))).2.1 (c_DV_change g hC hA (sf (6 * j + 1)) (sf (6 * j + 2)) (sf (6 * j + 3)) (sf (6 * j + 4))) (by (repeat' split) <;> decide)) (fun w1 sz1 hq => by obtain ⟨sc, ia, la, hM, hth, hR⟩ := hRR.mv (w' := w1) (fun q h h' => hq q h (by omega)); exact c_Mo_change g hM hA hR (sf (6 * j + 1)) (sf (6 * j + 2)) (sf (6 * j + 3)) (sf (6 * j + 4))) (by (repeat' split) <;> (intro h; first | rfl | exact absurd h (by decide))) (by (repeat' split) <;> decide) (fun w2 sz2 hs2 hf2 hC2 hR2 ho2 => hnx _ _ w2 sz2 _ _ hf2 hC2 hR2 (kp_change hA (sf (6 * j + 1)) (sf (6 * j + 2)) (sf (6 * j + 3)) (sf (6 * j + 4))) ho2 (Nat.le_refl _) (Nat.le_refl _))
    · skip
      refine v_tin (pc := 40) (tgt := 212) (off := 172) d_Law_law_40 (by decide) (by decide) (by decide +kernel) rfl ?_
      exact lw_cancel g hsc hSC hj6 hN hs0 hMo (aw_nil hA).2.1 (by omega) (by omega) hC.1 hout (c_DV_cancel g hC hA) (fun w1 sz1 hq => by obtain ⟨sc, ia, la, hM, hth, hR⟩ := hRR.mv (w' := w1) (fun q h h' => hq q h (by omega)); exact c_Mo_cancel g hM hA hR) (fun w2 sz2 hs2 hf2 hC2 hR2 ho2 => hnx _ _ w2 sz2 _ _ hf2 hC2 hR2 (aw_nil hA) ho2 (by omega) (by omega))
    · skip
      refine v_tin (pc := 40) (tgt := 225) (off := 185) d_Law_law_40 (by decide) (by decide) (by decide +kernel) rfl ?_
      exact lw_commit g hsc hSC hj6 hN hs0 hMo (kp_commit hA).2.1 (by omega) (by omega) (c_Law_commit g hC.1 hout (kp_commit hA).2.1 (c_DV_commit g hC hA) (by (repeat' split) <;> decide)) (fun w1 sz1 hq => by obtain ⟨sc, ia, la, hM, hth, hR⟩ := hRR.mv (w' := w1) (fun q h h' => hq q h (by omega)); exact c_Mo_commitA g hM hA hR) (by (repeat' split) <;> (intro h; first | rfl | exact absurd h (by decide))) (by (repeat' split) <;> decide) (fun w2 sz2 hs2 hf2 hC2 hR2 ho2 => hnx _ _ w2 sz2 _ _ hf2 hC2 hR2 (kp_commit hA) ho2 (Nat.le_refl _) (Nat.le_refl _))
    · skip
      refine v_tin (pc := 40) (tgt := 269) (off := 229) d_Law_law_40 (by decide) (by decide) (by decide +kernel) rfl ?_
      exact lw_select g hsc hSC hj6 hN hs0 hMo (kp_select hA (sf (6 * j + 1)) (sf (6 * j + 2)) (sf (6 * j + 3)) (sf (6 * j + 4))).2.1 (by omega) (by omega) (c_Law_select g (sf (6 * j + 1)) (sf (6 * j + 2)) (sf (6 * j + 3)) (sf (6 * j + 4)) hC.1 hout (kp_select hA (sf (6 * j + 1)) (sf (6 * j + 2)) (sf (6 * j + 3)) (sf (6 * j + 4))).2.1 (c_DV_select g hC hA (sf (6 * j + 1)) (sf (6 * j + 2)) (sf (6 * j + 3)) (sf (6 * j + 4))) (by (repeat' split) <;> decide)) (fun w1 sz1 hq => by obtain ⟨sc, ia, la, hM, hth, hR⟩ := hRR.mv (w' := w1) (fun q h h' => hq q h (by omega)); exact c_Mo_select g hM hA hR (sf (6 * j + 1)) (sf (6 * j + 2)) (sf (6 * j + 3)) (sf (6 * j + 4))) (by (repeat' split) <;> (intro h; first | rfl | exact absurd h (by decide))) (by (repeat' split) <;> decide) (fun w2 sz2 hs2 hf2 hC2 hR2 ho2 => hnx _ _ w2 sz2 _ _ hf2 hC2 hR2 (kp_select hA (sf (6 * j + 1)) (sf (6 * j + 2)) (sf (6 * j + 3)) (sf (6 * j + 4))) ho2 (Nat.le_refl _) (Nat.le_refl _))
    · skip
      refine v_tin (pc := 40) (tgt := 361) (off := 321) d_Law_law_40 (by decide) (by decide) (by decide +kernel) rfl ?_
      exact lw_project g hsc hSC hj6 hN hs0 hMo (kp_project hA (sf (6 * j + 1)) (sf (6 * j + 2)) (sf (6 * j + 3))).2.1 (by omega) (by omega) (c_Law_project g (sf (6 * j + 1)) (sf (6 * j + 2)) (sf (6 * j + 3)) hC.1 hout (kp_project hA (sf (6 * j + 1)) (sf (6 * j + 2)) (sf (6 * j + 3))).2.1 (c_DV_project g hC hA (sf (6 * j + 1)) (sf (6 * j + 2)) (sf (6 * j + 3))) (by (repeat' split) <;> decide)) (fun w1 sz1 hq => by obtain ⟨sc, ia, la, hM, hth, hR⟩ := hRR.mv (w' := w1) (fun q h h' => hq q h (by omega)); exact c_Mo_project g hM hA hR (sf (6 * j + 1)) (sf (6 * j + 2)) (sf (6 * j + 3))) (by (repeat' split) <;> (intro h; first | rfl | exact absurd h (by decide))) (by (repeat' split) <;> decide) (fun w2 sz2 hs2 hf2 hC2 hR2 ho2 => hnx _ _ w2 sz2 _ _ hf2 hC2 hR2 (kp_project hA (sf (6 * j + 1)) (sf (6 * j + 2)) (sf (6 * j + 3))) ho2 (Nat.le_refl _) (Nat.le_refl _))
    · skip
      refine v_tin (pc := 40) (tgt := 441) (off := 401) d_Law_law_40 (by decide) (by decide) (by decide +kernel) rfl ?_
      exact lw_join g hsc hSC hj6 hN hs0 hMo (kp_join hA (sf (6 * j + 1)) (sf (6 * j + 2)) (sf (6 * j + 3)) (sf (6 * j + 4))).2.1 (by omega) (by omega) (c_Law_join g (sf (6 * j + 1)) (sf (6 * j + 2)) (sf (6 * j + 3)) (sf (6 * j + 4)) hC.1 hout (kp_join hA (sf (6 * j + 1)) (sf (6 * j + 2)) (sf (6 * j + 3)) (sf (6 * j + 4))).2.1 (c_DV_join g hC hA (sf (6 * j + 1)) (sf (6 * j + 2)) (sf (6 * j + 3)) (sf (6 * j + 4))) (by (repeat' split) <;> decide)) (fun w1 sz1 hq => by obtain ⟨sc, ia, la, hM, hth, hR⟩ := hRR.mv (w' := w1) (fun q h h' => hq q h (by omega)); exact c_Mo_join g hM hA hR (sf (6 * j + 1)) (sf (6 * j + 2)) (sf (6 * j + 3)) (sf (6 * j + 4))) (by (repeat' split) <;> (intro h; first | rfl | exact absurd h (by decide))) (by (repeat' split) <;> decide) (fun w2 sz2 hs2 hf2 hC2 hR2 ho2 => hnx _ _ w2 sz2 _ _ hf2 hC2 hR2 (kp_join hA (sf (6 * j + 1)) (sf (6 * j + 2)) (sf (6 * j + 3)) (sf (6 * j + 4))) ho2 (Nat.le_refl _) (Nat.le_refl _))
    · skip
      refine v_tin (pc := 40) (tgt := 533) (off := 493) d_Law_law_40 (by decide) (by decide) (by decide +kernel) rfl ?_
      exact lw_union g hsc hSC hj6 hN hs0 hMo (kp_union hA (sf (6 * j + 1)) (sf (6 * j + 2))).2.1 (by omega) (by omega) (c_Law_union g (sf (6 * j + 1)) (sf (6 * j + 2)) hC.1 hout (kp_union hA (sf (6 * j + 1)) (sf (6 * j + 2))).2.1 (c_DV_union g hC hA (sf (6 * j + 1)) (sf (6 * j + 2))) (by (repeat' split) <;> decide)) (fun w1 sz1 hq => by obtain ⟨sc, ia, la, hM, hth, hR⟩ := hRR.mv (w' := w1) (fun q h h' => hq q h (by omega)); exact c_Mo_union g hM hA hR (sf (6 * j + 1)) (sf (6 * j + 2))) (by (repeat' split) <;> (intro h; first | rfl | exact absurd h (by decide))) (by (repeat' split) <;> decide) (fun w2 sz2 hs2 hf2 hC2 hR2 ho2 => hnx _ _ w2 sz2 _ _ hf2 hC2 hR2 (kp_union hA (sf (6 * j + 1)) (sf (6 * j + 2))) ho2 (Nat.le_refl _) (Nat.le_refl _))
    · skip
      refine v_tin (pc := 40) (tgt := 601) (off := 561) d_Law_law_40 (by decide) (by decide) (by decide +kernel) rfl ?_
      exact lw_group g hsc hSC hj6 hN hs0 hMo (kp_group hA (sf (6 * j + 1)) (sf (6 * j + 2)) (sf (6 * j + 3)) (sf (6 * j + 4))).2.1 (by omega) (by omega) (c_Law_group g (sf (6 * j + 1)) (sf (6 * j + 2)) (sf (6 * j + 3)) (sf (6 * j + 4)) hC.1 hout (kp_group hA (sf (6 * j + 1)) (sf (6 * j + 2)) (sf (6 * j + 3)) (sf (6 * j + 4))).2.1 (c_DV_group g hC hA (sf (6 * j + 1)) (sf (6 * j + 2)) (sf (6 * j + 3)) (sf (6 * j + 4))) (by (repeat' split) <;> decide)) (fun w1 sz1 hq => by obtain ⟨sc, ia, la, hM, hth, hR⟩ := hRR.mv (w' := w1) (fun q h h' => hq q h (by omega)); exact c_Mo_group g hM hA hR (sf (6 * j + 1)) (sf (6 * j + 2)) (sf (6 * j + 3)) (sf (6 * j + 4))) (by (repeat' split) <;> (intro h; first | rfl | exact absurd h (by decide))) (by (repeat' split) <;> decide) (fun w2 sz2 hs2 hf2 hC2 hR2 ho2 => hnx _ _ w2 sz2 _ _ hf2 hC2 hR2 (kp_group hA (sf (6 * j + 1)) (sf (6 * j + 2)) (sf (6 * j + 3)) (sf (6 * j + 4))) ho2 (Nat.le_refl _) (Nat.le_refl _))
    · skip
      refine v_tin (pc := 40) (tgt := 693) (off := 653) d_Law_law_40 (by decide) (by decide) (by decide +kernel) rfl ?_
      exact lw_distinct g hsc hSC hj6 hN hs0 hMo (kp_distinct hA (sf (6 * j + 1))).2.1 (by omega) (by omega) (c_Law_distinct g (sf (6 * j + 1)) hC.1 hout (kp_distinct hA (sf (6 * j + 1))).2.1 (c_DV_distinct g hC hA (sf (6 * j + 1))) (by (repeat' split) <;> decide)) (fun w1 sz1 hq => by obtain ⟨sc, ia, la, hM, hth, hR⟩ := hRR.mv (w' := w1) (fun q h h' => hq q h (by omega)); exact c_Mo_distinct g hM hA hR (sf (6 * j + 1))) (by (repeat' split) <;> (intro h; first | rfl | exact absurd h (by decide))) (by (repeat' split) <;> decide) (fun w2 sz2 hs2 hf2 hC2 hR2 ho2 => hnx _ _ w2 sz2 _ _ hf2 hC2 hR2 (kp_distinct hA (sf (6 * j + 1))) ho2 (Nat.le_refl _) (Nat.le_refl _))
    · skip
      refine v_tin (pc := 40) (tgt := 749) (off := 709) d_Law_law_40 (by decide) (by decide) (by decide +kernel) rfl ?_
      exact lw_drop g hsc hSC hj6 hN hs0 hMo (kp_drop hA).2.1 (by omega) (by omega) (c_Law_drop g hC.1 hout (kp_drop hA).2.1 (c_DV_drop g hC hA) (by (repeat' split) <;> decide)) (fun w1 sz1 hq => by obtain ⟨sc, ia, la, hM, hth, hR⟩ := hRR.mv (w' := w1) (fun q h h' => hq q h (by omega)); exact c_Mo_drop g hM hA hR) (by (repeat' split) <;> (intro h; first | rfl | exact absurd h (by decide))) (by (repeat' split) <;> decide) (fun w2 sz2 hs2 hf2 hC2 hR2 ho2 => hnx _ _ w2 sz2 _ _ hf2 hC2 hR2 (kp_drop hA) ho2 (Nat.le_refl _) (Nat.le_refl _))
    · skip
      refine v_tin (pc := 40) (tgt := 793) (off := 753) d_Law_law_40 (by decide) (by decide) (by decide +kernel) rfl ?_
      exact lw_width g hsc hSC hj6 hN hs0 hMo hA.2.1 (by omega) (by omega) (c_Law_width g (sf (6 * j + 1)) hC.1 hout hA.2.1 (c_DV_width g hC hA (sf (6 * j + 1))) (by (repeat' split) <;> decide)) (fun w1 sz1 hq => by obtain ⟨sc, ia, la, hM, hth, hR⟩ := hRR.mv (w' := w1) (fun q h h' => hq q h (by omega)); exact c_Mo_width g hM hA hR (sf (6 * j + 1))) (by (repeat' split) <;> (intro h; first | rfl | exact absurd h (by decide))) (by (repeat' split) <;> decide) (fun w2 sz2 hs2 hf2 hC2 hR2 ho2 => hnx _ _ w2 sz2 _ _ hf2 hC2 hR2 hA ho2 (Nat.le_refl _) (Nat.le_refl _))
    · skip
      refine v_tin (pc := 40) (tgt := 849) (off := 809) d_Law_law_40 (by decide) (by decide) (by decide +kernel) rfl ?_
      exact lw_rows g hsc hSC hj6 hN hs0 hMo hA.2.1 (by omega) (by omega) (c_Law_rows g (sf (6 * j + 1)) hC.1 hout hA.2.1 (c_DV_rows g hC hA (sf (6 * j + 1))) (by (repeat' split) <;> decide)) (fun w1 sz1 hq => by obtain ⟨sc, ia, la, hM, hth, hR⟩ := hRR.mv (w' := w1) (fun q h h' => hq q h (by omega)); exact c_Mo_rows g hM hA hR (sf (6 * j + 1))) (by (repeat' split) <;> (intro h; first | rfl | exact absurd h (by decide))) (by (repeat' split) <;> decide) (fun w2 sz2 hs2 hf2 hC2 hR2 ho2 => hnx _ _ w2 sz2 _ _ hf2 hC2 hR2 hA ho2 (Nat.le_refl _) (Nat.le_refl _))
    · skip
      refine v_tin (pc := 40) (tgt := 905) (off := 865) d_Law_law_40 (by decide) (by decide) (by decide +kernel) rfl ?_
      exact lw_cell g hsc hSC hj6 hN hs0 hMo hA.2.1 (by omega) (by omega) (c_Law_cell g (sf (6 * j + 1)) (sf (6 * j + 2)) (sf (6 * j + 3)) hC.1 hout hA.2.1 (c_DV_cell g hC hA (sf (6 * j + 1)) (sf (6 * j + 2)) (sf (6 * j + 3))) (by (repeat' split) <;> decide)) (fun w1 sz1 hq => by obtain ⟨sc, ia, la, hM, hth, hR⟩ := hRR.mv (w' := w1) (fun q h h' => hq q h (by omega)); exact c_Mo_cell g hM hA hR (sf (6 * j + 1)) (sf (6 * j + 2)) (sf (6 * j + 3))) (by (repeat' split) <;> (intro h; first | rfl | exact absurd h (by decide))) (by (repeat' split) <;> decide) (fun w2 sz2 hs2 hf2 hC2 hR2 ho2 => hnx _ _ w2 sz2 _ _ hf2 hC2 hR2 hA ho2 (Nat.le_refl _) (Nat.le_refl _))
    · skip
      refine v_tin (pc := 40) (tgt := 985) (off := 945) d_Law_law_40 (by decide) (by decide) (by decide +kernel) rfl ?_
      exact lw_times g hsc hSC hj6 hN hs0 hMo hA.2.1 (by omega) (by omega) (c_Law_times g (sf (6 * j + 1)) (sf (6 * j + 2)) hC.1 hout hA.2.1 (c_DV_times g hC hA (sf (6 * j + 1)) (sf (6 * j + 2))) (by (repeat' split) <;> decide)) (fun w1 sz1 hq => by obtain ⟨sc, ia, la, hM, hth, hR⟩ := hRR.mv (w' := w1) (fun q h h' => hq q h (by omega)); exact c_Mo_times g hM hA hR (sf (6 * j + 1)) (sf (6 * j + 2))) (by (repeat' split) <;> (intro h; first | rfl | exact absurd h (by decide))) (by (repeat' split) <;> decide) (fun w2 sz2 hs2 hf2 hC2 hR2 ho2 => hnx _ _ w2 sz2 _ _ hf2 hC2 hR2 hA ho2 (Nat.le_refl _) (Nat.le_refl _))
    · skip
      refine v_tin (pc := 40) (tgt := 1052) (off := 1012) d_Law_law_40 (by decide) (by decide) (by decide +kernel) rfl ?_
      exact lw_many g hsc hSC hj6 hN hs0 hMo hA.2.1 (by omega) (by omega) (c_Law_many g (sf (6 * j + 1)) (sf (6 * j + 2)) (sf (6 * j + 3)) (sf (6 * j + 4)) (sf (6 * j + 5)) hC.1 hout hA.2.1 (c_DV_many g hC hA (sf (6 * j + 1)) (sf (6 * j + 2)) (sf (6 * j + 3)) (sf (6 * j + 4)) (sf (6 * j + 5))) (by (repeat' split) <;> decide)) (fun w1 sz1 hq => by obtain ⟨sc, ia, la, hM, hth, hR⟩ := hRR.mv (w' := w1) (fun q h h' => hq q h (by omega)); exact c_Mo_many g hM hA hR (sf (6 * j + 1)) (sf (6 * j + 2)) (sf (6 * j + 3)) (sf (6 * j + 4)) (sf (6 * j + 5))) (by (repeat' split) <;> (intro h; first | rfl | exact absurd h (by decide))) (by (repeat' split) <;> decide) (fun w2 sz2 hs2 hf2 hC2 hR2 ho2 => hnx _ _ w2 sz2 _ _ hf2 hC2 hR2 hA ho2 (Nat.le_refl _) (Nat.le_refl _))
    · skip
      refine v_tin (pc := 40) (tgt := 1155) (off := 1115) d_Law_law_40 (by decide) (by decide) (by decide +kernel) rfl ?_
      exact lw_moved g hsc hSC hj6 hN hs0 hMo hA.2.1 (by omega) (by omega) (c_Law_moved g (sf (6 * j + 1)) hC.1 hout hA.2.1 (c_DV_moved g hC hA (sf (6 * j + 1))) (by (repeat' split) <;> decide)) (fun w1 sz1 hq => by obtain ⟨sc, ia, la, hM, hth, hR⟩ := hRR.mv (w' := w1) (fun q h h' => hq q h (by omega)); exact c_Mo_moved g hM hA hR (sf (6 * j + 1))) (by (repeat' split) <;> (intro h; first | rfl | exact absurd h (by decide))) (by (repeat' split) <;> decide) (fun w2 sz2 hs2 hf2 hC2 hR2 ho2 => hnx _ _ w2 sz2 _ _ hf2 hC2 hR2 hA ho2 (Nat.le_refl _) (Nat.le_refl _))
