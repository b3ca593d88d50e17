/-! the makers -/
theorem CE.thr {w w' : Wd} {Z sz sz' code kind k : Nat} {v : Value} {st a : As} {sw : Nat → Bool} {od : Nat → Nat} (hC : CR w' Z sz' a sw od) (hs : sz ≤ sz') (hf : cl_fr Z w w') (h1 : code ≠ 0) (h2 : kind = k) (h3 : st = a) : CE w Z sz code kind v st (.inr k) w' sz' := by
  subst h2 h3
  exact ⟨hs, hf, ⟨sw, od, hC⟩, by rw [if_neg h1]⟩
theorem CE.via {w w2 w' : Wd} {Z sz sz2 code kind sz' : Nat} {v : Value} {st : As} {r : Rs} (hs : sz ≤ sz2) (hf : cl_fr Z w w2) (h : CE w2 Z sz2 code kind v st r w' sz') : CE w Z sz code kind v st r w' sz' := ⟨Nat.le_trans hs h.1, hf.tr h.2.1, h.2.2⟩
section MKR
variable {g : Gl} {d mc ms : Nat} {M : Mi} {w0 : Wd} {sz0 : Nat} {E : Rs → Wd → Nat → Prop} {pc : Nat} {L : List (Nat × Value)} {S : List Value} {w : Wd} {sz nc ns : Nat}
variable {rest A : List Value} {M' : Mi} {d' mc' ms' n idx : Nat}
theorem v_csV0 (hd : decode M.2.1 pc = .ok (.invokestatic idx, 3)) (hl : fw_lnk M.1.cls idx M'.1) (hm : fw_me M' n) (hs : Cond.static M'.1 ∈ fw_big) (hA : A.length = n) (hS : S = A.reverse ++ rest) (hc : CT g d' 0 0 M' A w sz (rdE none w sz)) (r1 : d' + 1 ≤ d) (r3 : nc ≤ mc) (r4 : ns ≤ ms) (hst : (rest.map fun v => v.category).sum ≤ 8)
    (kr : VV g d mc ms M w0 sz0 E (pc + 3) L rest w sz nc ns) : VV g d mc ms M w0 sz0 E pc L S w sz nc ns := v_cs hd hl hm hs hA hS hc r1 r3 r4 hst (rdE.k kr) rdE.t
/-- the last call of a public method, its answer handed on -/
theorem v_cvCE {a ci N Z code kind : Nat} {fs : List Value} {T : u_T} {x : Int32} {st : As} (hd : decode M.2.1 pc = .ok (.invokevirtual idx, 3)) (hl : fw_lnk M.1.cls idx M'.1) (hm : fw_me M' n) (hi : Cond.instanceMethod M'.1 ∈ fw_big) (hse : Cond.selects M'.1.cls M'.1 M'.1 ∈ fw_big) (hcl : vwCl[ci]? = some (M'.1.cls, T, N)) (ha : w a = some (cO ci fs)) (hA : A.length = n) (hS : S = A.reverse ++ [.ref a]) (hc : CT g d' mc' ms' M' (.ref a :: A) w sz (CE w Z sz code kind (.int x) st)) (r1 : d' + 1 ≤ d) (r3 : nc + mc' ≤ mc) (r4 : ns + ms' ≤ ms) (hh : M.2.2.2.2 = []) (hd2 : decode M.2.1 (pc + 3) = .ok (.ireturn, 1)) (hr : M.2.2.2.1 = some .int)
    (hE : ∀ r w' sz', CE w Z sz code kind (.int x) st r w' sz' → E r w' sz') : VV g d mc ms M w0 sz0 E pc L S w sz nc ns := by
  refine v_cv (rest := []) hd hl hm hi hse hcl ha hA hS hc r1 r3 r4 (by decide) (fun v w' sz' h => ?_) (fun k w' sz' h => vt_out hh r3 r4 (hE _ _ _ h))
  have h2 := hE _ _ _ h
  have h3 := h.2.2.2
  by_cases h0 : code = 0
  · rw [if_pos h0] at h3
    cases h3
    exact v_iret hd2 hr r3 r4 h2
  · rw [if_neg h0] at h3
    cases h3
end MKR
set_option maxRecDepth 100000 in
set_option maxHeartbeats 4000000 in
theorem c_DV_select (g : Gl) {w : Wd} {Z sz : Nat} {a : As} {sw : Nat → Bool} {od : Nat → Nat} (hC : CR w Z sz a sw od) (hA : AWa a) (e c t x : Int32) : CT g 8 2 10 mi_DV_select [.ref Z, .int e, .int c, .int t, .int x] w sz (CE w Z sz (if isC a e c then if 0 ≤ t ∧ t ≤ nI 2 then if fits a (1, i2n e, 0, c, t, x) (a.2.1 (i2n e)) = true then 0 else 3 else 2 else 1) (if isC a e c then if 0 ≤ t ∧ t ≤ nI 2 then 3 else 2 else 1) (.int (nI a.1)) (if isC a e c then if 0 ≤ t ∧ t ≤ nI 2 then if fits a (1, i2n e, 0, c, t, x) (a.2.1 (i2n e)) = true then mkv a (1, i2n e, 0, c, t, x) (a.2.1 (i2n e)) else a else a else a)) := by
  refine CT.of (by decide) (Nat.le_of_ble_eq_true rfl) ?_
  have hn12 := hA.2.1
  have hsz := hC.2.2.2.2.2.2
  refine v_aload_n (pc := 0) d_DV_select_0 rfl rfl ?_
  refine v_iload_n (pc := 1) d_DV_select_1 rfl rfl ?_
  refine Classical.byCases (p := isV a e) (fun hvk => ?_) (fun hvk => v_cvT (pc := 2) (A := [.int e]) (rest := []) d_DV_select_2 lk_DV_76 me_DV_viewAt im_DV_viewAt se_DV_viewAt rfl hC.1 rfl rfl (c_DV_viewAt_no g hC hA hvk) (Nat.le_of_ble_eq_true rfl) (Nat.le_of_ble_eq_true rfl) (Nat.le_of_ble_eq_true rfl) (Nat.le_of_ble_eq_true rfl) rfl (CE.thr (hC.up (Nat.le_succ _)) (Nat.le_succ _) cl_fr.rf (by rw [if_neg (show ¬ (isC a e c) from fun h => hvk h.1)]; decide) (by first | rw [if_neg (show ¬ (isC a e c) from fun h => hvk h.1)] | rfl) (by first | rw [if_neg (show ¬ (isC a e c) from fun h => hvk h.1)] | rfl)))
  obtain ⟨k, hk1, hk2, hk3⟩ := isV_n hvk hA.2.1
  subst hk1
  obtain ⟨⟨mxk, hVk, hmxk⟩, -⟩ := hC.2.2.2.1 k (by omega)
  obtain ⟨⟨fk, mk, pdk, hBk, hBBk⟩, hOPk⟩ := hC.2.2.2.2.1 k hk2
  obtain ⟨hw1k, hw4k, hokk, hlnk⟩ := hA.2.2.2.1 k hk2
  refine v_cvR (pc := 2) (A := [.int (nI k)]) (rest := []) (x := .ref (VA Z k)) d_DV_select_2 lk_DV_76 me_DV_viewAt im_DV_viewAt se_DV_viewAt rfl hC.1 rfl rfl (c_DV_viewAt g hC hA (k := k) hk2) (Nat.le_of_ble_eq_true rfl) (Nat.le_of_ble_eq_true rfl) (Nat.le_of_ble_eq_true rfl) (Nat.le_of_ble_eq_true rfl) ?_
  refine v_astore (pc := 5) (L' := [(5, .ref (VA Z k)), (0, .ref Z), (1, .int (nI k)), (2, .int c), (3, .int t), (4, .int x)]) d_DV_select_5 (by decide) rfl ?_
  refine v_aload (pc := 7) d_DV_select_7 rfl ?_
  refine v_iload_n (pc := 9) d_DV_select_9 rfl rfl ?_
  refine Classical.byCases (p := 0 ≤ c ∧ c < nI (a.2.1 k)) (fun hcj => ?_) (fun hcj => v_csT (pc := 10) (A := [.ref (VA Z k), .int c]) (rest := []) d_DV_select_10 lk_DV_80 me_DV_needColumn st_DV_needColumn rfl rfl (c_DV_needColumn_no g hVk hBk hcj) (Nat.le_of_ble_eq_true rfl) (Nat.le_of_ble_eq_true rfl) (Nat.le_of_ble_eq_true rfl) (Nat.le_of_ble_eq_true rfl) rfl (CE.thr (hC.up (Nat.le_succ _)) (Nat.le_succ _) cl_fr.rf (by rw [if_neg (show ¬ (isC a (nI k) c) from fun h => hcj (by have h9 := h.2; rw [hk3] at h9; exact h9))]; decide) (by first | rw [if_neg (show ¬ (isC a (nI k) c) from fun h => hcj (by have h9 := h.2; rw [hk3] at h9; exact h9))] | rfl) (by first | rw [if_neg (show ¬ (isC a (nI k) c) from fun h => hcj (by have h9 := h.2; rw [hk3] at h9; exact h9))] | rfl)))
  refine v_csV0 (pc := 10) (A := [.ref (VA Z k), .int c]) (rest := []) d_DV_select_10 lk_DV_80 me_DV_needColumn st_DV_needColumn rfl rfl (c_DV_needColumn g hVk hBk hcj) (Nat.le_of_ble_eq_true rfl) (Nat.le_of_ble_eq_true rfl) (Nat.le_of_ble_eq_true rfl) (Nat.le_of_ble_eq_true rfl) ?_
  have hCj : isC a (nI k) c := ⟨hvk, by rw [hk3]; exact hcj⟩
  refine v_iload_n (pc := 13) d_DV_select_13 rfl rfl ?_
  refine v_if_lt (pc := 14) (tgt := 22) d_DV_select_14 rfl (fun hc => ?_) (fun hc => ?_)
  · skip
    have ht : ¬ (0 ≤ t ∧ t ≤ nI 2) := fun h => absurd hc (Int32.not_lt.mpr h.1)
    exact v_throw (pc := 22) d_DV_select_22 d_DV_select_25 d_DV_select_26 d_DV_select_28 d_DV_select_31 tk_84 rfl (Nat.le_of_ble_eq_true rfl) (Nat.le_of_ble_eq_true rfl) (Nat.le_of_ble_eq_true rfl) (Nat.le_of_ble_eq_true rfl) (CE.thr (hC.up (Nat.le_succ _)) (Nat.le_succ _) cl_fr.rf (by rw [if_pos hCj, if_neg ht]; decide) (by first | rw [if_pos hCj, if_neg ht] | rfl) (by first | rw [if_pos hCj, if_neg ht] | rfl))
  · skip
    have ht0 := hc
    refine v_iload_n (pc := 17) d_DV_select_17 rfl rfl ?_
    refine v_iconst (pc := 18) (v := nI 2) d_DV_select_18 rfl ?_
    refine v_icmp_le (pc := 19) (tgt := 32) d_DV_select_19 rfl (fun hc => ?_) (fun hc => ?_)
    · skip
      have ht : 0 ≤ t ∧ t ≤ nI 2 := ⟨Int32.not_lt.mp ht0, hc⟩
      have hv := hCj
      obtain ⟨k9, j, e1, e2, e3, hj1, hj2, hj3⟩ := isC_n hCj hA
      obtain rfl : k = k9 := hk3.symm.trans e3
      subst hj1
      refine v_aload_n (pc := 32) d_DV_select_32 rfl rfl ?_
      refine v_newW (pc := 33) (sz' := sz + 1) (nc' := 1) (ns' := 4) d_DV_select_33 nw_DV_86 (Nat.le_of_ble_eq_true rfl) (Nat.le_of_ble_eq_true rfl) rfl rfl rfl (fun w1 hn1 hq1 => ?_)
      have hC1 : CR w1 Z (sz + 1) a sw od := (hC.ext hA.2.1 (fun q h => hq1 q (by omega))).up (Nat.le_succ _)
      have hf1 : cl_fr Z w w1 := fun q hq => hq1 q (by omega)
      refine v_dup (pc := 36) d_DV_select_36 rfl ?_
      refine v_aload (pc := 37) d_DV_select_37 rfl ?_
      refine v_iload_n (pc := 39) d_DV_select_39 rfl rfl ?_
      refine v_iload_n (pc := 40) d_DV_select_40 rfl rfl ?_
      refine v_iload (pc := 41) d_DV_select_41 rfl ?_
      refine v_ciV (pc := 43) (A := [.ref (VA Z k), .int (nI j), .int t, .int x]) (rest := [.ref sz, .ref Z]) d_DV_select_43 lk_DV_88 me_Select_init im_Select_init rfl rfl rfl rfl rfl (c_Select_init g hn1) (Nat.le_of_ble_eq_true rfl) (Nat.le_of_ble_eq_true rfl) (Nat.le_of_ble_eq_true rfl) (Nat.le_of_ble_eq_true rfl) (fun w2 ht2 => ?_)
      obtain ⟨hn2, hq2⟩ := ht2
      have hC2 : CR w2 Z (sz + 1) a sw od := (hC.ext hA.2.1 (fun q h => (hq2 q (by omega)).trans (hq1 q (by omega)))).up (Nat.le_succ _)
      have hf2 : cl_fr Z w w2 := fun q hq => (hq2 q (by omega)).trans (hq1 q (by omega))
      exact v_cvCE (pc := 46) (A := [.ref sz]) d_DV_select_46 lk_DV_91 me_DV_makeView im_DV_makeView se_DV_makeView rfl hC2.1 rfl rfl (c_DV_makeView g hC2 hA (o := (1, k, 0, nI j, t, x)) (o2 := sz) (wv := a.2.1 k) (Or.inr (Or.inl ⟨rfl, hn2⟩)) hsz (wo_sel hA hk2 hj2) (Nat.lt_succ_self _) (show (1 : Nat) ≠ 0 by decide) (cd := 3) (by decide)) (Nat.le_of_ble_eq_true rfl) (Nat.le_of_ble_eq_true rfl) (Nat.le_of_ble_eq_true rfl) rfl d_DV_select_49 rfl (fun r w' sz' h => by rw [if_pos hv, if_pos hv, if_pos hv, if_pos ht, if_pos ht, if_pos ht, hk3]; exact CE.via (Nat.le_succ _) hf2 h)
    · skip
      have ht : ¬ (0 ≤ t ∧ t ≤ nI 2) := fun h => hc h.2
      exact v_throw (pc := 22) d_DV_select_22 d_DV_select_25 d_DV_select_26 d_DV_select_28 d_DV_select_31 tk_84 rfl (Nat.le_of_ble_eq_true rfl) (Nat.le_of_ble_eq_true rfl) (Nat.le_of_ble_eq_true rfl) (Nat.le_of_ble_eq_true rfl) (CE.thr (hC.up (Nat.le_succ _)) (Nat.le_succ _) cl_fr.rf (by rw [if_pos hCj, if_neg ht]; decide) (by first | rw [if_pos hCj, if_neg ht] | rfl) (by first | rw [if_pos hCj, if_neg ht] | rfl))
set_option maxRecDepth 100000 in
set_option maxHeartbeats 4000000 in
theorem c_DV_distinct (g : Gl) {w : Wd} {Z sz : Nat} {a : As} {sw : Nat → Bool} {od : Nat → Nat} (hC : CR w Z sz a sw od) (hA : AWa a) (e : Int32) : CT g 8 2 10 mi_DV_distinct [.ref Z, .int e] w sz (CE w Z sz (if isV a e then if fits a (8, i2n e, 0, 0, 0, 0) (a.2.1 (i2n e)) = true then 0 else 2 else 1) (if isV a e then 3 else 1) (.int (nI a.1)) (if isV a e then if fits a (8, i2n e, 0, 0, 0, 0) (a.2.1 (i2n e)) = true then mkv a (8, i2n e, 0, 0, 0, 0) (a.2.1 (i2n e)) else a else a)) := by
  refine CT.of (by decide) (Nat.le_of_ble_eq_true rfl) ?_
  have hn12 := hA.2.1
  have hsz := hC.2.2.2.2.2.2
  refine v_aload_n (pc := 0) d_DV_distinct_0 rfl rfl ?_
  refine v_newW (pc := 1) (sz' := sz + 1) (nc' := 1) (ns' := 1) d_DV_distinct_1 nw_DV_134 (Nat.le_of_ble_eq_true rfl) (Nat.le_of_ble_eq_true rfl) rfl rfl rfl (fun w1 hn1 hq1 => ?_)
  have hC1 : CR w1 Z (sz + 1) a sw od := (hC.ext hA.2.1 (fun q h => hq1 q (by omega))).up (Nat.le_succ _)
  have hf1 : cl_fr Z w w1 := fun q hq => hq1 q (by omega)
  refine v_dup (pc := 4) d_DV_distinct_4 rfl ?_
  refine v_aload_n (pc := 5) d_DV_distinct_5 rfl rfl ?_
  refine v_iload_n (pc := 6) d_DV_distinct_6 rfl rfl ?_
  refine Classical.byCases (p := isV a e) (fun hvk => ?_) (fun hvk => v_cvT (pc := 7) (A := [.int e]) (rest := [.ref sz, .ref sz, .ref Z]) d_DV_distinct_7 lk_DV_76 me_DV_viewAt im_DV_viewAt se_DV_viewAt rfl hC1.1 rfl rfl (c_DV_viewAt_no g hC1 hA hvk) (Nat.le_of_ble_eq_true rfl) (Nat.le_of_ble_eq_true rfl) (Nat.le_of_ble_eq_true rfl) (Nat.le_of_ble_eq_true rfl) rfl (CE.thr (hC1.up (Nat.le_succ _)) (by omega) hf1 (by rw [if_neg hvk]; decide) (by first | rw [if_neg hvk] | rfl) (by first | rw [if_neg hvk] | rfl)))
  obtain ⟨k, hk1, hk2, hk3⟩ := isV_n hvk hA.2.1
  subst hk1
  obtain ⟨⟨mxk, hVk, hmxk⟩, -⟩ := hC1.2.2.2.1 k (by omega)
  obtain ⟨⟨fk, mk, pdk, hBk, hBBk⟩, hOPk⟩ := hC1.2.2.2.2.1 k hk2
  obtain ⟨hw1k, hw4k, hokk, hlnk⟩ := hA.2.2.2.1 k hk2
  refine v_cvR (pc := 7) (A := [.int (nI k)]) (rest := [.ref sz, .ref sz, .ref Z]) (x := .ref (VA Z k)) d_DV_distinct_7 lk_DV_76 me_DV_viewAt im_DV_viewAt se_DV_viewAt rfl hC1.1 rfl rfl (c_DV_viewAt g hC1 hA (k := k) hk2) (Nat.le_of_ble_eq_true rfl) (Nat.le_of_ble_eq_true rfl) (Nat.le_of_ble_eq_true rfl) (Nat.le_of_ble_eq_true rfl) ?_
  refine v_ciV (pc := 10) (A := [.ref (VA Z k)]) (rest := [.ref sz, .ref Z]) d_DV_distinct_10 lk_DV_136 me_Distinct_init im_Distinct_init rfl rfl rfl rfl rfl (c_Distinct_init g hn1) (Nat.le_of_ble_eq_true rfl) (Nat.le_of_ble_eq_true rfl) (Nat.le_of_ble_eq_true rfl) (Nat.le_of_ble_eq_true rfl) (fun w2 ht2 => ?_)
  obtain ⟨hn2, hq2⟩ := ht2
  have hC2 : CR w2 Z (sz + 1) a sw od := (hC.ext hA.2.1 (fun q h => (hq2 q (by omega)).trans (hq1 q (by omega)))).up (Nat.le_succ _)
  have hf2 : cl_fr Z w w2 := fun q hq => (hq2 q (by omega)).trans (hq1 q (by omega))
  exact v_cvCE (pc := 13) (A := [.ref sz]) d_DV_distinct_13 lk_DV_91 me_DV_makeView im_DV_makeView se_DV_makeView rfl hC2.1 rfl rfl (c_DV_makeView g hC2 hA (o := (8, k, 0, 0, 0, 0)) (o2 := sz) (wv := a.2.1 k) (Or.inr (Or.inr (Or.inr (Or.inr (Or.inr (Or.inl ⟨rfl, hn2⟩)))))) hsz (wo_dis hA hk2) (Nat.lt_succ_self _) (show (8 : Nat) ≠ 0 by decide) (cd := 2) (by decide)) (Nat.le_of_ble_eq_true rfl) (Nat.le_of_ble_eq_true rfl) (Nat.le_of_ble_eq_true rfl) rfl d_DV_distinct_16 rfl (fun r w' sz' h => by rw [if_pos hvk, if_pos hvk, if_pos hvk, hk3]; exact CE.via (Nat.le_succ _) hf2 h)
set_option maxRecDepth 100000 in
set_option maxHeartbeats 4000000 in
theorem c_DV_union (g : Gl) {w : Wd} {Z sz : Nat} {a : As} {sw : Nat → Bool} {od : Nat → Nat} (hC : CR w Z sz a sw od) (hA : AWa a) (e f : Int32) : CT g 8 2 10 mi_DV_union [.ref Z, .int e, .int f] w sz (CE w Z sz (if isV a e ∧ isV a f then if a.2.1 (i2n e) = a.2.1 (i2n f) then if fits a (4, i2n e, i2n f, 0, 0, 0) (a.2.1 (i2n e)) = true then 0 else 3 else 2 else 1) (if isV a e ∧ isV a f then if a.2.1 (i2n e) = a.2.1 (i2n f) then 3 else 2 else 1) (.int (nI a.1)) (if isV a e ∧ isV a f then if a.2.1 (i2n e) = a.2.1 (i2n f) then if fits a (4, i2n e, i2n f, 0, 0, 0) (a.2.1 (i2n e)) = true then mkv a (4, i2n e, i2n f, 0, 0, 0) (a.2.1 (i2n e)) else a else a else a)) := by
  refine CT.of (by decide) (Nat.le_of_ble_eq_true rfl) ?_
  have hn12 := hA.2.1
  have hsz := hC.2.2.2.2.2.2
  refine v_aload_n (pc := 0) d_DV_union_0 rfl rfl ?_
  refine v_iload_n (pc := 1) d_DV_union_1 rfl rfl ?_
  refine Classical.byCases (p := isV a e) (fun hvk => ?_) (fun hvk => v_cvT (pc := 2) (A := [.int e]) (rest := []) d_DV_union_2 lk_DV_76 me_DV_viewAt im_DV_viewAt se_DV_viewAt rfl hC.1 rfl rfl (c_DV_viewAt_no g hC hA hvk) (Nat.le_of_ble_eq_true rfl) (Nat.le_of_ble_eq_true rfl) (Nat.le_of_ble_eq_true rfl) (Nat.le_of_ble_eq_true rfl) rfl (CE.thr (hC.up (Nat.le_succ _)) (Nat.le_succ _) cl_fr.rf (by rw [if_neg (show ¬ (isV a e ∧ isV a f) from fun h => hvk h.1)]; decide) (by first | rw [if_neg (show ¬ (isV a e ∧ isV a f) from fun h => hvk h.1)] | rfl) (by first | rw [if_neg (show ¬ (isV a e ∧ isV a f) from fun h => hvk h.1)] | rfl)))
  obtain ⟨k, hk1, hk2, hk3⟩ := isV_n hvk hA.2.1
  subst hk1
  obtain ⟨⟨mxk, hVk, hmxk⟩, -⟩ := hC.2.2.2.1 k (by omega)
  obtain ⟨⟨fk, mk, pdk, hBk, hBBk⟩, hOPk⟩ := hC.2.2.2.2.1 k hk2
  obtain ⟨hw1k, hw4k, hokk, hlnk⟩ := hA.2.2.2.1 k hk2
  refine v_cvR (pc := 2) (A := [.int (nI k)]) (rest := []) (x := .ref (VA Z k)) d_DV_union_2 lk_DV_76 me_DV_viewAt im_DV_viewAt se_DV_viewAt rfl hC.1 rfl rfl (c_DV_viewAt g hC hA (k := k) hk2) (Nat.le_of_ble_eq_true rfl) (Nat.le_of_ble_eq_true rfl) (Nat.le_of_ble_eq_true rfl) (Nat.le_of_ble_eq_true rfl) ?_
  refine v_astore_n (pc := 5) (L' := [(3, .ref (VA Z k)), (0, .ref Z), (1, .int (nI k)), (2, .int f)]) d_DV_union_5 rfl (by decide) rfl ?_
  refine v_aload_n (pc := 6) d_DV_union_6 rfl rfl ?_
  refine v_iload_n (pc := 7) d_DV_union_7 rfl rfl ?_
  refine Classical.byCases (p := isV a f) (fun hvu => ?_) (fun hvu => v_cvT (pc := 8) (A := [.int f]) (rest := []) d_DV_union_8 lk_DV_76 me_DV_viewAt im_DV_viewAt se_DV_viewAt rfl hC.1 rfl rfl (c_DV_viewAt_no g hC hA hvu) (Nat.le_of_ble_eq_true rfl) (Nat.le_of_ble_eq_true rfl) (Nat.le_of_ble_eq_true rfl) (Nat.le_of_ble_eq_true rfl) rfl (CE.thr (hC.up (Nat.le_succ _)) (Nat.le_succ _) cl_fr.rf (by rw [if_neg (show ¬ (isV a (nI k) ∧ isV a f) from fun h => hvu h.2)]; decide) (by first | rw [if_neg (show ¬ (isV a (nI k) ∧ isV a f) from fun h => hvu h.2)] | rfl) (by first | rw [if_neg (show ¬ (isV a (nI k) ∧ isV a f) from fun h => hvu h.2)] | rfl)))
  obtain ⟨u, hu1, hu2, hu3⟩ := isV_n hvu hA.2.1
  subst hu1
  obtain ⟨⟨mxu, hVu, hmxu⟩, -⟩ := hC.2.2.2.1 u (by omega)
  obtain ⟨⟨fu, mu, pdu, hBu, hBBu⟩, hOPu⟩ := hC.2.2.2.2.1 u hu2
  obtain ⟨hw1u, hw4u, hoku, hlnu⟩ := hA.2.2.2.1 u hu2
  refine v_cvR (pc := 8) (A := [.int (nI u)]) (rest := []) (x := .ref (VA Z u)) d_DV_union_8 lk_DV_76 me_DV_viewAt im_DV_viewAt se_DV_viewAt rfl hC.1 rfl rfl (c_DV_viewAt g hC hA (k := u) hu2) (Nat.le_of_ble_eq_true rfl) (Nat.le_of_ble_eq_true rfl) (Nat.le_of_ble_eq_true rfl) (Nat.le_of_ble_eq_true rfl) ?_
  refine v_astore (pc := 11) (L' := [(4, .ref (VA Z u)), (3, .ref (VA Z k)), (0, .ref Z), (1, .int (nI k)), (2, .int (nI u))]) d_DV_union_11 (by decide) rfl ?_
  have hv : isV a (nI k) ∧ isV a (nI u) := ⟨hvk, hvu⟩
  refine v_aload_n (pc := 13) d_DV_union_13 rfl rfl ?_
  refine v_get (pc := 14) d_DV_union_14 fl_DV_106 hVk rfl ?_
  refine v_get (pc := 17) d_DV_union_17 fl_DV_110 hBk.o rfl ?_
  refine v_aload (pc := 20) d_DV_union_20 rfl ?_
  refine v_get (pc := 22) d_DV_union_22 fl_DV_106 hVu rfl ?_
  refine v_get (pc := 25) d_DV_union_25 fl_DV_110 hBu.o rfl ?_
  refine v_icmp_eq (pc := 28) (tgt := 41) d_DV_union_28 rfl (fun hc => ?_) (fun hc => ?_)
  · skip
    rw [nI_eq (by omega) (by omega)] at hc
    have ht : a.2.1 (i2n (nI k)) = a.2.1 (i2n (nI u)) := by rw [hk3, hu3]; exact hc
    have hte := hc
    refine v_aload_n (pc := 41) d_DV_union_41 rfl rfl ?_
    refine v_newW (pc := 42) (sz' := sz + 1) (nc' := 1) (ns' := 2) d_DV_union_42 nw_DV_124 (Nat.le_of_ble_eq_true rfl) (Nat.le_of_ble_eq_true rfl) rfl rfl rfl (fun w1 hn1 hq1 => ?_)
    have hC1 : CR w1 Z (sz + 1) a sw od := (hC.ext hA.2.1 (fun q h => hq1 q (by omega))).up (Nat.le_succ _)
    have hf1 : cl_fr Z w w1 := fun q hq => hq1 q (by omega)
    refine v_dup (pc := 45) d_DV_union_45 rfl ?_
    refine v_aload_n (pc := 46) d_DV_union_46 rfl rfl ?_
    refine v_aload (pc := 47) d_DV_union_47 rfl ?_
    refine v_ciV (pc := 49) (A := [.ref (VA Z k), .ref (VA Z u)]) (rest := [.ref sz, .ref Z]) d_DV_union_49 lk_DV_126 me_Union_init im_Union_init rfl rfl rfl rfl rfl (c_Union_init g hn1) (Nat.le_of_ble_eq_true rfl) (Nat.le_of_ble_eq_true rfl) (Nat.le_of_ble_eq_true rfl) (Nat.le_of_ble_eq_true rfl) (fun w2 ht2 => ?_)
    obtain ⟨hn2, hq2⟩ := ht2
    have hC2 : CR w2 Z (sz + 1) a sw od := (hC.ext hA.2.1 (fun q h => (hq2 q (by omega)).trans (hq1 q (by omega)))).up (Nat.le_succ _)
    have hf2 : cl_fr Z w w2 := fun q hq => (hq2 q (by omega)).trans (hq1 q (by omega))
    exact v_cvCE (pc := 52) (A := [.ref sz]) d_DV_union_52 lk_DV_91 me_DV_makeView im_DV_makeView se_DV_makeView rfl hC2.1 rfl rfl (c_DV_makeView g hC2 hA (o := (4, k, u, 0, 0, 0)) (o2 := sz) (wv := a.2.1 k) (Or.inr (Or.inr (Or.inr (Or.inr (Or.inl ⟨rfl, hn2⟩))))) hsz (wo_un hA hk2 hu2 hte) (Nat.lt_succ_self _) (show (4 : Nat) ≠ 0 by decide) (cd := 3) (by decide)) (Nat.le_of_ble_eq_true rfl) (Nat.le_of_ble_eq_true rfl) (Nat.le_of_ble_eq_true rfl) rfl d_DV_union_55 rfl (fun r w' sz' h => by rw [if_pos hv, if_pos hv, if_pos hv, if_pos ht, if_pos ht, if_pos ht, hk3, hu3]; exact CE.via (Nat.le_succ _) hf2 h)
  · skip
    rw [nI_eq (by omega) (by omega)] at hc
    have ht : ¬ a.2.1 (i2n (nI k)) = a.2.1 (i2n (nI u)) := by rw [hk3, hu3]; exact hc
    exact v_throw (pc := 31) d_DV_union_31 d_DV_union_34 d_DV_union_35 d_DV_union_37 d_DV_union_40 tk_122 rfl (Nat.le_of_ble_eq_true rfl) (Nat.le_of_ble_eq_true rfl) (Nat.le_of_ble_eq_true rfl) (Nat.le_of_ble_eq_true rfl) (CE.thr (hC.up (Nat.le_succ _)) (Nat.le_succ _) cl_fr.rf (by rw [if_pos hv, if_neg ht]; decide) (by first | rw [if_pos hv, if_neg ht] | rfl) (by first | rw [if_pos hv, if_neg ht] | rfl))
set_option maxRecDepth 100000 in
set_option maxHeartbeats 4000000 in
theorem c_DV_join (g : Gl) {w : Wd} {Z sz : Nat} {a : As} {sw : Nat → Bool} {od : Nat → Nat} (hC : CR w Z sz a sw od) (hA : AWa a) (e f i j : Int32) : CT g 8 2 10 mi_DV_join [.ref Z, .int e, .int f, .int i, .int j] w sz (CE w Z sz (if isC a e i ∧ isC a f j then if a.2.1 (i2n e) + a.2.1 (i2n f) ≤ 4 then if fits a (3, i2n e, i2n f, i, j, 0) (a.2.1 (i2n e) + a.2.1 (i2n f)) = true then 0 else 3 else 2 else 1) (if isC a e i ∧ isC a f j then if a.2.1 (i2n e) + a.2.1 (i2n f) ≤ 4 then 3 else 2 else 1) (.int (nI a.1)) (if isC a e i ∧ isC a f j then if a.2.1 (i2n e) + a.2.1 (i2n f) ≤ 4 then if fits a (3, i2n e, i2n f, i, j, 0) (a.2.1 (i2n e) + a.2.1 (i2n f)) = true then mkv a (3, i2n e, i2n f, i, j, 0) (a.2.1 (i2n e) + a.2.1 (i2n f)) else a else a else a)) := by
  refine CT.of (by decide) (Nat.le_of_ble_eq_true rfl) ?_
  have hn12 := hA.2.1
  have hsz := hC.2.2.2.2.2.2
  refine v_aload_n (pc := 0) d_DV_join_0 rfl rfl ?_
  refine v_iload_n (pc := 1) d_DV_join_1 rfl rfl ?_
  refine Classical.byCases (p := isV a e) (fun hvk => ?_) (fun hvk => v_cvT (pc := 2) (A := [.int e]) (rest := []) d_DV_join_2 lk_DV_76 me_DV_viewAt im_DV_viewAt se_DV_viewAt rfl hC.1 rfl rfl (c_DV_viewAt_no g hC hA hvk) (Nat.le_of_ble_eq_true rfl) (Nat.le_of_ble_eq_true rfl) (Nat.le_of_ble_eq_true rfl) (Nat.le_of_ble_eq_true rfl) rfl (CE.thr (hC.up (Nat.le_succ _)) (Nat.le_succ _) cl_fr.rf (by rw [if_neg (show ¬ (isC a e i ∧ isC a f j) from fun h => hvk h.1.1)]; decide) (by first | rw [if_neg (show ¬ (isC a e i ∧ isC a f j) from fun h => hvk h.1.1)] | rfl) (by first | rw [if_neg (show ¬ (isC a e i ∧ isC a f j) from fun h => hvk h.1.1)] | rfl)))
  obtain ⟨k, hk1, hk2, hk3⟩ := isV_n hvk hA.2.1
  subst hk1
  obtain ⟨⟨mxk, hVk, hmxk⟩, -⟩ := hC.2.2.2.1 k (by omega)
  obtain ⟨⟨fk, mk, pdk, hBk, hBBk⟩, hOPk⟩ := hC.2.2.2.2.1 k hk2
  obtain ⟨hw1k, hw4k, hokk, hlnk⟩ := hA.2.2.2.1 k hk2
  refine v_cvR (pc := 2) (A := [.int (nI k)]) (rest := []) (x := .ref (VA Z k)) d_DV_join_2 lk_DV_76 me_DV_viewAt im_DV_viewAt se_DV_viewAt rfl hC.1 rfl rfl (c_DV_viewAt g hC hA (k := k) hk2) (Nat.le_of_ble_eq_true rfl) (Nat.le_of_ble_eq_true rfl) (Nat.le_of_ble_eq_true rfl) (Nat.le_of_ble_eq_true rfl) ?_
  refine v_astore (pc := 5) (L' := [(5, .ref (VA Z k)), (0, .ref Z), (1, .int (nI k)), (2, .int f), (3, .int i), (4, .int j)]) d_DV_join_5 (by decide) rfl ?_
  refine v_aload_n (pc := 7) d_DV_join_7 rfl rfl ?_
  refine v_iload_n (pc := 8) d_DV_join_8 rfl rfl ?_
  refine Classical.byCases (p := isV a f) (fun hvu => ?_) (fun hvu => v_cvT (pc := 9) (A := [.int f]) (rest := []) d_DV_join_9 lk_DV_76 me_DV_viewAt im_DV_viewAt se_DV_viewAt rfl hC.1 rfl rfl (c_DV_viewAt_no g hC hA hvu) (Nat.le_of_ble_eq_true rfl) (Nat.le_of_ble_eq_true rfl) (Nat.le_of_ble_eq_true rfl) (Nat.le_of_ble_eq_true rfl) rfl (CE.thr (hC.up (Nat.le_succ _)) (Nat.le_succ _) cl_fr.rf (by rw [if_neg (show ¬ (isC a (nI k) i ∧ isC a f j) from fun h => hvu h.2.1)]; decide) (by first | rw [if_neg (show ¬ (isC a (nI k) i ∧ isC a f j) from fun h => hvu h.2.1)] | rfl) (by first | rw [if_neg (show ¬ (isC a (nI k) i ∧ isC a f j) from fun h => hvu h.2.1)] | rfl)))
  obtain ⟨u, hu1, hu2, hu3⟩ := isV_n hvu hA.2.1
  subst hu1
  obtain ⟨⟨mxu, hVu, hmxu⟩, -⟩ := hC.2.2.2.1 u (by omega)
  obtain ⟨⟨fu, mu, pdu, hBu, hBBu⟩, hOPu⟩ := hC.2.2.2.2.1 u hu2
  obtain ⟨hw1u, hw4u, hoku, hlnu⟩ := hA.2.2.2.1 u hu2
  refine v_cvR (pc := 9) (A := [.int (nI u)]) (rest := []) (x := .ref (VA Z u)) d_DV_join_9 lk_DV_76 me_DV_viewAt im_DV_viewAt se_DV_viewAt rfl hC.1 rfl rfl (c_DV_viewAt g hC hA (k := u) hu2) (Nat.le_of_ble_eq_true rfl) (Nat.le_of_ble_eq_true rfl) (Nat.le_of_ble_eq_true rfl) (Nat.le_of_ble_eq_true rfl) ?_
  refine v_astore (pc := 12) (L' := [(6, .ref (VA Z u)), (5, .ref (VA Z k)), (0, .ref Z), (1, .int (nI k)), (2, .int (nI u)), (3, .int i), (4, .int j)]) d_DV_join_12 (by decide) rfl ?_
  refine v_aload (pc := 14) d_DV_join_14 rfl ?_
  refine v_iload_n (pc := 16) d_DV_join_16 rfl rfl ?_
  refine Classical.byCases (p := 0 ≤ i ∧ i < nI (a.2.1 k)) (fun hcx => ?_) (fun hcx => v_csT (pc := 17) (A := [.ref (VA Z k), .int i]) (rest := []) d_DV_join_17 lk_DV_80 me_DV_needColumn st_DV_needColumn rfl rfl (c_DV_needColumn_no g hVk hBk hcx) (Nat.le_of_ble_eq_true rfl) (Nat.le_of_ble_eq_true rfl) (Nat.le_of_ble_eq_true rfl) (Nat.le_of_ble_eq_true rfl) rfl (CE.thr (hC.up (Nat.le_succ _)) (Nat.le_succ _) cl_fr.rf (by rw [if_neg (show ¬ (isC a (nI k) i ∧ isC a (nI u) j) from fun h => hcx (by have h9 := h.1.2; rw [hk3] at h9; exact h9))]; decide) (by first | rw [if_neg (show ¬ (isC a (nI k) i ∧ isC a (nI u) j) from fun h => hcx (by have h9 := h.1.2; rw [hk3] at h9; exact h9))] | rfl) (by first | rw [if_neg (show ¬ (isC a (nI k) i ∧ isC a (nI u) j) from fun h => hcx (by have h9 := h.1.2; rw [hk3] at h9; exact h9))] | rfl)))
  refine v_csV0 (pc := 17) (A := [.ref (VA Z k), .int i]) (rest := []) d_DV_join_17 lk_DV_80 me_DV_needColumn st_DV_needColumn rfl rfl (c_DV_needColumn g hVk hBk hcx) (Nat.le_of_ble_eq_true rfl) (Nat.le_of_ble_eq_true rfl) (Nat.le_of_ble_eq_true rfl) (Nat.le_of_ble_eq_true rfl) ?_
  have hCx : isC a (nI k) i := ⟨hvk, by rw [hk3]; exact hcx⟩
  refine v_aload (pc := 20) d_DV_join_20 rfl ?_
  refine v_iload (pc := 22) d_DV_join_22 rfl ?_
  refine Classical.byCases (p := 0 ≤ j ∧ j < nI (a.2.1 u)) (fun hcy => ?_) (fun hcy => v_csT (pc := 24) (A := [.ref (VA Z u), .int j]) (rest := []) d_DV_join_24 lk_DV_80 me_DV_needColumn st_DV_needColumn rfl rfl (c_DV_needColumn_no g hVu hBu hcy) (Nat.le_of_ble_eq_true rfl) (Nat.le_of_ble_eq_true rfl) (Nat.le_of_ble_eq_true rfl) (Nat.le_of_ble_eq_true rfl) rfl (CE.thr (hC.up (Nat.le_succ _)) (Nat.le_succ _) cl_fr.rf (by rw [if_neg (show ¬ (isC a (nI k) i ∧ isC a (nI u) j) from fun h => hcy (by have h9 := h.2.2; rw [hu3] at h9; exact h9))]; decide) (by first | rw [if_neg (show ¬ (isC a (nI k) i ∧ isC a (nI u) j) from fun h => hcy (by have h9 := h.2.2; rw [hu3] at h9; exact h9))] | rfl) (by first | rw [if_neg (show ¬ (isC a (nI k) i ∧ isC a (nI u) j) from fun h => hcy (by have h9 := h.2.2; rw [hu3] at h9; exact h9))] | rfl)))
  refine v_csV0 (pc := 24) (A := [.ref (VA Z u), .int j]) (rest := []) d_DV_join_24 lk_DV_80 me_DV_needColumn st_DV_needColumn rfl rfl (c_DV_needColumn g hVu hBu hcy) (Nat.le_of_ble_eq_true rfl) (Nat.le_of_ble_eq_true rfl) (Nat.le_of_ble_eq_true rfl) (Nat.le_of_ble_eq_true rfl) ?_
  have hCy : isC a (nI u) j := ⟨hvu, by rw [hu3]; exact hcy⟩
  have hv : isC a (nI k) i ∧ isC a (nI u) j := ⟨hCx, hCy⟩
  refine v_aload (pc := 27) d_DV_join_27 rfl ?_
  refine v_get (pc := 29) d_DV_join_29 fl_DV_106 hVk rfl ?_
  refine v_get (pc := 32) d_DV_join_32 fl_DV_110 hBk.o rfl ?_
  refine v_aload (pc := 35) d_DV_join_35 rfl ?_
  refine v_get (pc := 37) d_DV_join_37 fl_DV_106 hVu rfl ?_
  refine v_get (pc := 40) d_DV_join_40 fl_DV_110 hBu.o rfl ?_
  refine v_iadd (pc := 43) d_DV_join_43 ?_
  refine v_re (nI_add (a.2.1 k) (a.2.1 u)) ?_
  refine v_iconst (pc := 44) (v := nI 4) d_DV_join_44 rfl ?_
  refine v_icmp_le (pc := 45) (tgt := 58) d_DV_join_45 rfl (fun hc => ?_) (fun hc => ?_)
  · skip
    rw [nI_leI (by omega) (by omega)] at hc
    have ht : a.2.1 (i2n (nI k)) + a.2.1 (i2n (nI u)) ≤ 4 := by rw [hk3, hu3]; exact hc
    have hte := hc
    obtain ⟨k9, x, e1, e2, e3, hx1, hx2, hx3⟩ := isC_n hCx hA
    obtain rfl : k = k9 := hk3.symm.trans e3
    subst hx1
    obtain ⟨k9, y, e1, e2, e3, hy1, hy2, hy3⟩ := isC_n hCy hA
    obtain rfl : u = k9 := hu3.symm.trans e3
    subst hy1
    refine v_aload_n (pc := 58) d_DV_join_58 rfl rfl ?_
    refine v_newW (pc := 59) (sz' := sz + 1) (nc' := 1) (ns' := 4) d_DV_join_59 nw_DV_117 (Nat.le_of_ble_eq_true rfl) (Nat.le_of_ble_eq_true rfl) rfl rfl rfl (fun w1 hn1 hq1 => ?_)
    have hC1 : CR w1 Z (sz + 1) a sw od := (hC.ext hA.2.1 (fun q h => hq1 q (by omega))).up (Nat.le_succ _)
    have hf1 : cl_fr Z w w1 := fun q hq => hq1 q (by omega)
    refine v_dup (pc := 62) d_DV_join_62 rfl ?_
    refine v_aload (pc := 63) d_DV_join_63 rfl ?_
    refine v_aload (pc := 65) d_DV_join_65 rfl ?_
    refine v_iload_n (pc := 67) d_DV_join_67 rfl rfl ?_
    refine v_iload (pc := 68) d_DV_join_68 rfl ?_
    refine v_ciV (pc := 70) (A := [.ref (VA Z k), .ref (VA Z u), .int (nI x), .int (nI y)]) (rest := [.ref sz, .ref Z]) d_DV_join_70 lk_DV_119 me_Join_init im_Join_init rfl rfl rfl rfl rfl (c_Join_init g hn1) (Nat.le_of_ble_eq_true rfl) (Nat.le_of_ble_eq_true rfl) (Nat.le_of_ble_eq_true rfl) (Nat.le_of_ble_eq_true rfl) (fun w2 ht2 => ?_)
    obtain ⟨hn2, hq2⟩ := ht2
    have hC2 : CR w2 Z (sz + 1) a sw od := (hC.ext hA.2.1 (fun q h => (hq2 q (by omega)).trans (hq1 q (by omega)))).up (Nat.le_succ _)
    have hf2 : cl_fr Z w w2 := fun q hq => (hq2 q (by omega)).trans (hq1 q (by omega))
    exact v_cvCE (pc := 73) (A := [.ref sz]) d_DV_join_73 lk_DV_91 me_DV_makeView im_DV_makeView se_DV_makeView rfl hC2.1 rfl rfl (c_DV_makeView g hC2 hA (o := (3, k, u, nI x, nI y, 0)) (o2 := sz) (wv := a.2.1 k + a.2.1 u) (Or.inr (Or.inr (Or.inr (Or.inl ⟨rfl, hn2⟩)))) hsz (wo_jn hA hk2 hu2 hx2 hy2 hte) (Nat.lt_succ_self _) (show (3 : Nat) ≠ 0 by decide) (cd := 3) (by decide)) (Nat.le_of_ble_eq_true rfl) (Nat.le_of_ble_eq_true rfl) (Nat.le_of_ble_eq_true rfl) rfl d_DV_join_76 rfl (fun r w' sz' h => by rw [if_pos hv, if_pos hv, if_pos hv, if_pos ht, if_pos ht, if_pos ht, hk3, hu3]; exact CE.via (Nat.le_succ _) hf2 h)
  · skip
    rw [nI_leI (by omega) (by omega)] at hc
    have ht : ¬ a.2.1 (i2n (nI k)) + a.2.1 (i2n (nI u)) ≤ 4 := by rw [hk3, hu3]; exact hc
    exact v_throw (pc := 48) d_DV_join_48 d_DV_join_51 d_DV_join_52 d_DV_join_54 d_DV_join_57 tk_115 rfl (Nat.le_of_ble_eq_true rfl) (Nat.le_of_ble_eq_true rfl) (Nat.le_of_ble_eq_true rfl) (Nat.le_of_ble_eq_true rfl) (CE.thr (hC.up (Nat.le_succ _)) (Nat.le_succ _) cl_fr.rf (by rw [if_pos hv, if_neg ht]; decide) (by first | rw [if_pos hv, if_neg ht] | rfl) (by first | rw [if_pos hv, if_neg ht] | rfl))
set_option maxRecDepth 100000 in
set_option maxHeartbeats 4000000 in
theorem c_DV_group (g : Gl) {w : Wd} {Z sz : Nat} {a : As} {sw : Nat → Bool} {od : Nat → Nat} (hC : CR w Z sz a sw od) (hA : AWa a) (e t i j : Int32) : CT g 8 2 10 mi_DV_group [.ref Z, .int e, .int t, .int i, .int j] w sz (CE w Z sz (if isC a e i ∧ isC a e j then if 0 ≤ t ∧ t ≤ nI 2 then if fits a (5 + i2n t, i2n e, 0, i, j, 0) 2 = true then 0 else 3 else 2 else 1) (if isC a e i ∧ isC a e j then if 0 ≤ t ∧ t ≤ nI 2 then 3 else 2 else 1) (.int (nI a.1)) (if isC a e i ∧ isC a e j then if 0 ≤ t ∧ t ≤ nI 2 then if fits a (5 + i2n t, i2n e, 0, i, j, 0) 2 = true then mkv a (5 + i2n t, i2n e, 0, i, j, 0) 2 else a else a else a)) := by
  refine CT.of (by decide) (Nat.le_of_ble_eq_true rfl) ?_
  have hn12 := hA.2.1
  have hsz := hC.2.2.2.2.2.2
  refine v_aload_n (pc := 0) d_DV_group_0 rfl rfl ?_
  refine v_iload_n (pc := 1) d_DV_group_1 rfl rfl ?_
  refine Classical.byCases (p := isV a e) (fun hvk => ?_) (fun hvk => v_cvT (pc := 2) (A := [.int e]) (rest := []) d_DV_group_2 lk_DV_76 me_DV_viewAt im_DV_viewAt se_DV_viewAt rfl hC.1 rfl rfl (c_DV_viewAt_no g hC hA hvk) (Nat.le_of_ble_eq_true rfl) (Nat.le_of_ble_eq_true rfl) (Nat.le_of_ble_eq_true rfl) (Nat.le_of_ble_eq_true rfl) rfl (CE.thr (hC.up (Nat.le_succ _)) (Nat.le_succ _) cl_fr.rf (by rw [if_neg (show ¬ (isC a e i ∧ isC a e j) from fun h => hvk h.1.1)]; decide) (by first | rw [if_neg (show ¬ (isC a e i ∧ isC a e j) from fun h => hvk h.1.1)] | rfl) (by first | rw [if_neg (show ¬ (isC a e i ∧ isC a e j) from fun h => hvk h.1.1)] | rfl)))
  obtain ⟨k, hk1, hk2, hk3⟩ := isV_n hvk hA.2.1
  subst hk1
  obtain ⟨⟨mxk, hVk, hmxk⟩, -⟩ := hC.2.2.2.1 k (by omega)
  obtain ⟨⟨fk, mk, pdk, hBk, hBBk⟩, hOPk⟩ := hC.2.2.2.2.1 k hk2
  obtain ⟨hw1k, hw4k, hokk, hlnk⟩ := hA.2.2.2.1 k hk2
  refine v_cvR (pc := 2) (A := [.int (nI k)]) (rest := []) (x := .ref (VA Z k)) d_DV_group_2 lk_DV_76 me_DV_viewAt im_DV_viewAt se_DV_viewAt rfl hC.1 rfl rfl (c_DV_viewAt g hC hA (k := k) hk2) (Nat.le_of_ble_eq_true rfl) (Nat.le_of_ble_eq_true rfl) (Nat.le_of_ble_eq_true rfl) (Nat.le_of_ble_eq_true rfl) ?_
  refine v_astore (pc := 5) (L' := [(5, .ref (VA Z k)), (0, .ref Z), (1, .int (nI k)), (2, .int t), (3, .int i), (4, .int j)]) d_DV_group_5 (by decide) rfl ?_
  refine v_aload (pc := 7) d_DV_group_7 rfl ?_
  refine v_iload_n (pc := 9) d_DV_group_9 rfl rfl ?_
  refine Classical.byCases (p := 0 ≤ i ∧ i < nI (a.2.1 k)) (fun hcx => ?_) (fun hcx => v_csT (pc := 10) (A := [.ref (VA Z k), .int i]) (rest := []) d_DV_group_10 lk_DV_80 me_DV_needColumn st_DV_needColumn rfl rfl (c_DV_needColumn_no g hVk hBk hcx) (Nat.le_of_ble_eq_true rfl) (Nat.le_of_ble_eq_true rfl) (Nat.le_of_ble_eq_true rfl) (Nat.le_of_ble_eq_true rfl) rfl (CE.thr (hC.up (Nat.le_succ _)) (Nat.le_succ _) cl_fr.rf (by rw [if_neg (show ¬ (isC a (nI k) i ∧ isC a (nI k) j) from fun h => hcx (by have h9 := h.1.2; rw [hk3] at h9; exact h9))]; decide) (by first | rw [if_neg (show ¬ (isC a (nI k) i ∧ isC a (nI k) j) from fun h => hcx (by have h9 := h.1.2; rw [hk3] at h9; exact h9))] | rfl) (by first | rw [if_neg (show ¬ (isC a (nI k) i ∧ isC a (nI k) j) from fun h => hcx (by have h9 := h.1.2; rw [hk3] at h9; exact h9))] | rfl)))
  refine v_csV0 (pc := 10) (A := [.ref (VA Z k), .int i]) (rest := []) d_DV_group_10 lk_DV_80 me_DV_needColumn st_DV_needColumn rfl rfl (c_DV_needColumn g hVk hBk hcx) (Nat.le_of_ble_eq_true rfl) (Nat.le_of_ble_eq_true rfl) (Nat.le_of_ble_eq_true rfl) (Nat.le_of_ble_eq_true rfl) ?_
  have hCx : isC a (nI k) i := ⟨hvk, by rw [hk3]; exact hcx⟩
  refine v_aload (pc := 13) d_DV_group_13 rfl ?_
  refine v_iload (pc := 15) d_DV_group_15 rfl ?_
  refine Classical.byCases (p := 0 ≤ j ∧ j < nI (a.2.1 k)) (fun hcy => ?_) (fun hcy => v_csT (pc := 17) (A := [.ref (VA Z k), .int j]) (rest := []) d_DV_group_17 lk_DV_80 me_DV_needColumn st_DV_needColumn rfl rfl (c_DV_needColumn_no g hVk hBk hcy) (Nat.le_of_ble_eq_true rfl) (Nat.le_of_ble_eq_true rfl) (Nat.le_of_ble_eq_true rfl) (Nat.le_of_ble_eq_true rfl) rfl (CE.thr (hC.up (Nat.le_succ _)) (Nat.le_succ _) cl_fr.rf (by rw [if_neg (show ¬ (isC a (nI k) i ∧ isC a (nI k) j) from fun h => hcy (by have h9 := h.2.2; rw [hk3] at h9; exact h9))]; decide) (by first | rw [if_neg (show ¬ (isC a (nI k) i ∧ isC a (nI k) j) from fun h => hcy (by have h9 := h.2.2; rw [hk3] at h9; exact h9))] | rfl) (by first | rw [if_neg (show ¬ (isC a (nI k) i ∧ isC a (nI k) j) from fun h => hcy (by have h9 := h.2.2; rw [hk3] at h9; exact h9))] | rfl)))
  refine v_csV0 (pc := 17) (A := [.ref (VA Z k), .int j]) (rest := []) d_DV_group_17 lk_DV_80 me_DV_needColumn st_DV_needColumn rfl rfl (c_DV_needColumn g hVk hBk hcy) (Nat.le_of_ble_eq_true rfl) (Nat.le_of_ble_eq_true rfl) (Nat.le_of_ble_eq_true rfl) (Nat.le_of_ble_eq_true rfl) ?_
  have hCy : isC a (nI k) j := ⟨hvk, by rw [hk3]; exact hcy⟩
  have hv : isC a (nI k) i ∧ isC a (nI k) j := ⟨hCx, hCy⟩
  refine v_iload_n (pc := 20) d_DV_group_20 rfl rfl ?_
  refine v_if_lt (pc := 21) (tgt := 29) d_DV_group_21 rfl (fun hc => ?_) (fun hc => ?_)
  · skip
    have ht : ¬ (0 ≤ t ∧ t ≤ nI 2) := fun h => absurd hc (Int32.not_lt.mpr h.1)
    exact v_throw (pc := 29) d_DV_group_29 d_DV_group_32 d_DV_group_33 d_DV_group_35 d_DV_group_38 tk_129 rfl (Nat.le_of_ble_eq_true rfl) (Nat.le_of_ble_eq_true rfl) (Nat.le_of_ble_eq_true rfl) (Nat.le_of_ble_eq_true rfl) (CE.thr (hC.up (Nat.le_succ _)) (Nat.le_succ _) cl_fr.rf (by rw [if_pos hv, if_neg ht]; decide) (by first | rw [if_pos hv, if_neg ht] | rfl) (by first | rw [if_pos hv, if_neg ht] | rfl))
  · skip
    have ht0 := hc
    refine v_iload_n (pc := 24) d_DV_group_24 rfl rfl ?_
    refine v_iconst (pc := 25) (v := nI 2) d_DV_group_25 rfl ?_
    refine v_icmp_le (pc := 26) (tgt := 39) d_DV_group_26 rfl (fun hc => ?_) (fun hc => ?_)
    · skip
      have ht : 0 ≤ t ∧ t ≤ nI 2 := ⟨Int32.not_lt.mp ht0, hc⟩
      obtain ⟨k9, x, e1, e2, e3, hx1, hx2, hx3⟩ := isC_n hCx hA
      obtain rfl : k = k9 := hk3.symm.trans e3
      subst hx1
      obtain ⟨k9, y, e1, e2, e3, hy1, hy2, hy3⟩ := isC_n hCy hA
      obtain rfl : k = k9 := hk3.symm.trans e3
      subst hy1
      obtain ⟨ht1, ht2⟩ := i2n_of ht.1
      have htd : i2n t ≤ 2 := by have h9 := ht.2; rw [ht1, nI_leI (by omega) (by decide)] at h9; exact h9
      generalize hd : i2n t = d at ht1 ht2 htd
      subst ht1
      refine v_aload_n (pc := 39) d_DV_group_39 rfl rfl ?_
      refine v_newW (pc := 40) (sz' := sz + 1) (nc' := 1) (ns' := 4) d_DV_group_40 nw_DV_131 (Nat.le_of_ble_eq_true rfl) (Nat.le_of_ble_eq_true rfl) rfl rfl rfl (fun w1 hn1 hq1 => ?_)
      have hC1 : CR w1 Z (sz + 1) a sw od := (hC.ext hA.2.1 (fun q h => hq1 q (by omega))).up (Nat.le_succ _)
      have hf1 : cl_fr Z w w1 := fun q hq => hq1 q (by omega)
      refine v_dup (pc := 43) d_DV_group_43 rfl ?_
      refine v_aload (pc := 44) d_DV_group_44 rfl ?_
      refine v_iload_n (pc := 46) d_DV_group_46 rfl rfl ?_
      refine v_iload_n (pc := 47) d_DV_group_47 rfl rfl ?_
      refine v_iload (pc := 48) d_DV_group_48 rfl ?_
      refine v_ciV (pc := 50) (A := [.ref (VA Z k), .int (nI d), .int (nI x), .int (nI y)]) (rest := [.ref sz, .ref Z]) d_DV_group_50 lk_DV_133 me_Group_init im_Group_init rfl rfl rfl rfl rfl (c_Group_init g hn1) (Nat.le_of_ble_eq_true rfl) (Nat.le_of_ble_eq_true rfl) (Nat.le_of_ble_eq_true rfl) (Nat.le_of_ble_eq_true rfl) (fun w2 ht2 => ?_)
      obtain ⟨hn2, hq2⟩ := ht2
      have hC2 : CR w2 Z (sz + 1) a sw od := (hC.ext hA.2.1 (fun q h => (hq2 q (by omega)).trans (hq1 q (by omega)))).up (Nat.le_succ _)
      have hf2 : cl_fr Z w w2 := fun q hq => (hq2 q (by omega)).trans (hq1 q (by omega))
      exact v_cvCE (pc := 53) (A := [.ref sz]) d_DV_group_53 lk_DV_91 me_DV_makeView im_DV_makeView se_DV_makeView rfl hC2.1 rfl rfl (c_DV_makeView g hC2 hA (o := (5 + d, k, 0, nI x, nI y, 0)) (o2 := sz) (wv := 2) (Or.inr (Or.inr (Or.inr (Or.inr (Or.inr (Or.inr ⟨d, htd, rfl, hn2⟩)))))) hsz (wo_gr hA hk2 htd hx2 hy2) (Nat.lt_succ_self _) (show 5 + d ≠ 0 by omega) (cd := 3) (by decide)) (Nat.le_of_ble_eq_true rfl) (Nat.le_of_ble_eq_true rfl) (Nat.le_of_ble_eq_true rfl) rfl d_DV_group_56 rfl (fun r w' sz' h => by rw [if_pos hv, if_pos hv, if_pos hv, if_pos ht, if_pos ht, if_pos ht, hk3]; exact CE.via (Nat.le_succ _) hf2 h)
    · skip
      have ht : ¬ (0 ≤ t ∧ t ≤ nI 2) := fun h => hc h.2
      exact v_throw (pc := 29) d_DV_group_29 d_DV_group_32 d_DV_group_33 d_DV_group_35 d_DV_group_38 tk_129 rfl (Nat.le_of_ble_eq_true rfl) (Nat.le_of_ble_eq_true rfl) (Nat.le_of_ble_eq_true rfl) (Nat.le_of_ble_eq_true rfl) (CE.thr (hC.up (Nat.le_succ _)) (Nat.le_succ _) cl_fr.rf (by rw [if_pos hv, if_neg ht]; decide) (by first | rw [if_pos hv, if_neg ht] | rfl) (by first | rw [if_pos hv, if_neg ht] | rfl))
