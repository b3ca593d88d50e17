/-! making objects and arrays, the new world named -/
section NEW
variable {g : Gl} {d mc ms : Nat} {M : Mi} {w0 : Wd} {sz0 : Nat} {E : Rs → Wd → Nat → Prop} {pc : Nat} {L : List (Nat × Value)} {S : List Value} {w : Wd} {sz nc ns : Nat}
theorem v_newiW {n : Int32} {N sz' nc' ns' : Nat} (hd : decode M.2.1 pc = .ok (.newarray .int, 2)) (hn : n = nI N) (hN : N ≤ 100000) (h1 : nc' ≤ mc) (h2 : ns' ≤ ms) (e1 : sz + 1 = sz') (e2 : nc + 1 = nc') (e3 : ns + N = ns') (kk : ∀ w', w' sz = some (cI N (fun _ => 0)) → (∀ q, q ≠ sz → w' q = w q) → VV g d mc ms M w0 sz0 E (pc + 2) L (.ref sz :: S) w' sz' nc' ns') : VV g d mc ms M w0 sz0 E pc L (.int n :: S) w sz nc ns := by
  subst e1 e2 e3
  exact v_newi hd (fw_mem 92 (by decide +kernel) rfl) hn hN h1 h2 (kk _ (fw_up_s _ _ _) (fun q hq => fw_up_n _ _ hq))
theorem v_newjW {n : Int32} {N sz' nc' ns' : Nat} (hd : decode M.2.1 pc = .ok (.newarray .long, 2)) (hn : n = nI N) (hN : N ≤ 100000) (h1 : nc' ≤ mc) (h2 : ns' ≤ ms) (e1 : sz + 1 = sz') (e2 : nc + 1 = nc') (e3 : ns + N = ns') (kk : ∀ w', w' sz = some (cJ N (fun _ => 0)) → (∀ q, q ≠ sz → w' q = w q) → VV g d mc ms M w0 sz0 E (pc + 2) L (.ref sz :: S) w' sz' nc' ns') : VV g d mc ms M w0 sz0 E pc L (.int n :: S) w sz nc ns := by
  subst e1 e2 e3
  exact v_newj hd (fw_mem 143 (by decide +kernel) rfl) hn hN h1 h2 (kk _ (fw_up_s _ _ _) (fun q hq => fw_up_n _ _ hq))
theorem v_newW {ci idx N sz' nc' ns' : Nat} {fs : List Value} (hd : decode M.2.1 pc = .ok (.new idx, 3)) (hn : fw_nw M.1.cls idx ci fs N) (h1 : nc' ≤ mc) (h2 : ns' ≤ ms) (e1 : sz + 1 = sz') (e2 : nc + 1 = nc') (e3 : ns + N = ns') (kk : ∀ w', w' sz = some (cO ci fs) → (∀ q, q ≠ sz → w' q = w q) → VV g d mc ms M w0 sz0 E (pc + 3) L (.ref sz :: S) w' sz' nc' ns') : VV g d mc ms M w0 sz0 E pc L S w sz nc ns := by
  subst e1 e2 e3
  exact v_new hd hn h1 h2 (kk _ (fw_up_s _ _ _) (fun q hq => fw_up_n _ _ hq))
theorem v_newrW {idx N sz' nc' ns' : Nat} {n : Int32} (hd : decode M.2.1 pc = .ok (.anewarray idx, 3)) (hw : Cond.classLink M.1.cls idx "DeltaViews$View" ∈ fw_big) (hov : ∀ U : State, fw_T U → va_AO "DeltaViews$View" U) (hn : n = nI N) (hN : N ≤ 100000) (h1 : nc' ≤ mc) (h2 : ns' ≤ ms) (e1 : sz + 1 = sz') (e2 : nc + 1 = nc') (e3 : ns + N = ns') (kk : ∀ w', w' sz = some (cR N (fun _ => none)) → (∀ q, q ≠ sz → w' q = w q) → VV g d mc ms M w0 sz0 E (pc + 3) L (.ref sz :: S) w' sz' nc' ns') : VV g d mc ms M w0 sz0 E pc L (.int n :: S) w sz nc ns := by
  subst e1 e2 e3
  exact v_newr hd hw hov hn hN h1 h2 (kk _ (fw_up_s _ _ _) (fun q hq => fw_up_n _ _ hq))
end NEW
theorem oi_im : Cond.instanceMethod objectInit ∈ fw_big := fw_mem 66 (by decide +kernel) rfl
theorem oi_co : Cond.code objectInit ⟨#[0xb1]⟩ 1 none ∈ fw_big := fw_mem 67 (by decide +kernel) rfl
theorem oi_DV : Cond.methodLink "DeltaViews" 1 objectInit ∈ fw_big := fw_mem 65 (by decide +kernel) rfl
theorem oi_Batch : Cond.methodLink "DeltaViews$Batch" 3 objectInit ∈ fw_big := fw_mem 75 (by decide +kernel) rfl
theorem oi_Op : Cond.methodLink "DeltaViews$Operation" 3 objectInit ∈ fw_big := fw_mem 102 (by decide +kernel) rfl
theorem oi_View : Cond.methodLink "DeltaViews$View" 1 objectInit ∈ fw_big := fw_mem 107 (by decide +kernel) rfl
theorem oi_Bag : Cond.methodLink "DeltaViews$Bag" 3 objectInit ∈ fw_big := fw_mem 113 (by decide +kernel) rfl
theorem oi_Mo : Cond.methodLink "DeltaViewsModel" 1 objectInit ∈ fw_big := fw_mem 742 (by decide +kernel) rfl
set_option maxRecDepth 100000 in
set_option maxHeartbeats 4000000 in
theorem c_Mo_init (g : Gl) {w : Wd} {b : Nat} (hO : w b = some (cO 11 [.int 0, .int 0, .null, .null, .null, .null, .null, .null, .null, .null, .null, .null, .null, .int 0, .null, .null, .null, .int 0, .null, .null, .null, .null])) : CT g 1 18 3356 mi_Mo_init [.ref b] w (b + 1) (fun r w' sz' => r = .inl none ∧ sz' = b + 19 ∧ MAt w' b (fun j => if j = 1 then nI 3 else 0) (fun k i => if k = 0 then (if i < 3 then nI 2 else 0) else 0) (fun _ _ => 0) ∧ (∀ q, q < b ∨ b + 19 ≤ q → w' q = w q)) := by
  refine CT.of (by decide) (Nat.le_of_ble_eq_true rfl) ?_
  -- the start
  refine v_aload_n (pc := 0) d_Mo_init_0 rfl rfl ?_
  refine v_oinit (pc := 1) d_Mo_init_1 oi_Mo oi_im oi_co (Nat.le_of_ble_eq_true rfl) (Nat.le_of_ble_eq_true rfl) ?_
  refine v_aload_n (pc := 4) d_Mo_init_4 rfl rfl ?_
  refine v_iconst (pc := 5) (v := nI 3) d_Mo_init_5 rfl ?_
  refine v_putW (pc := 6) (fs' := [.int 0, .int (nI 3), .null, .null, .null, .null, .null, .null, .null, .null, .null, .null, .null, .int 0, .null, .null, .null, .int 0, .null, .null, .null, .null]) d_Mo_init_6 fl_Mo_7 (fi_Mo_7 _) (ok_Mo_1 _) hO (Nat.le_of_ble_eq_true rfl) rfl (fun w1 hn1 hq1 => ?_)
  skip
  refine v_aload_n (pc := 9) d_Mo_init_9 rfl rfl ?_
  refine v_bipush (pc := 10) (v := nI 12) d_Mo_init_10 rfl ?_
  refine v_newiW (pc := 12) (N := 12) (sz' := b + 2) (nc' := 1) (ns' := 12) d_Mo_init_12 rfl (Nat.le_of_ble_eq_true rfl) (Nat.le_of_ble_eq_true rfl) (Nat.le_of_ble_eq_true rfl) rfl rfl rfl (fun w2 hn2 hq2 => ?_)
  have hO2 := (hq2 b (by omega)).trans hn1
  refine v_putW (pc := 14) (fs' := [.int 0, .int (nI 3), .ref (b + 1), .null, .null, .null, .null, .null, .null, .null, .null, .null, .null, .int 0, .null, .null, .null, .int 0, .null, .null, .null, .null]) d_Mo_init_14 fl_Mo_13 fi_Mo_13 (ok_Mo_2 _) hO2 (Nat.le_of_ble_eq_true rfl) rfl (fun w3 hn3 hq3 => ?_)
  have A0_3 := (hq3 (b + 1) (by omega)).trans hn2
  skip
  refine v_aload_n (pc := 17) d_Mo_init_17 rfl rfl ?_
  refine v_bipush (pc := 18) (v := nI 12) d_Mo_init_18 rfl ?_
  refine v_newiW (pc := 20) (N := 12) (sz' := b + 3) (nc' := 2) (ns' := 24) d_Mo_init_20 rfl (Nat.le_of_ble_eq_true rfl) (Nat.le_of_ble_eq_true rfl) (Nat.le_of_ble_eq_true rfl) rfl rfl rfl (fun w4 hn4 hq4 => ?_)
  have hO4 := (hq4 b (by omega)).trans hn3
  have A0_4 := (hq4 (b + 1) (by omega)).trans A0_3
  refine v_putW (pc := 22) (fs' := [.int 0, .int (nI 3), .ref (b + 1), .ref (b + 2), .null, .null, .null, .null, .null, .null, .null, .null, .null, .int 0, .null, .null, .null, .int 0, .null, .null, .null, .null]) d_Mo_init_22 fl_Mo_17 fi_Mo_17 (ok_Mo_3 _) hO4 (Nat.le_of_ble_eq_true rfl) rfl (fun w5 hn5 hq5 => ?_)
  have A0_5 := (hq5 (b + 1) (by omega)).trans A0_4
  have A1_5 := (hq5 (b + 2) (by omega)).trans hn4
  skip
  refine v_aload_n (pc := 25) d_Mo_init_25 rfl rfl ?_
  refine v_bipush (pc := 26) (v := nI 12) d_Mo_init_26 rfl ?_
  refine v_newiW (pc := 28) (N := 12) (sz' := b + 4) (nc' := 3) (ns' := 36) d_Mo_init_28 rfl (Nat.le_of_ble_eq_true rfl) (Nat.le_of_ble_eq_true rfl) (Nat.le_of_ble_eq_true rfl) rfl rfl rfl (fun w6 hn6 hq6 => ?_)
  have hO6 := (hq6 b (by omega)).trans hn5
  have A0_6 := (hq6 (b + 1) (by omega)).trans A0_5
  have A1_6 := (hq6 (b + 2) (by omega)).trans A1_5
  refine v_putW (pc := 30) (fs' := [.int 0, .int (nI 3), .ref (b + 1), .ref (b + 2), .ref (b + 3), .null, .null, .null, .null, .null, .null, .null, .null, .int 0, .null, .null, .null, .int 0, .null, .null, .null, .null]) d_Mo_init_30 fl_Mo_20 fi_Mo_20 (ok_Mo_4 _) hO6 (Nat.le_of_ble_eq_true rfl) rfl (fun w7 hn7 hq7 => ?_)
  have A0_7 := (hq7 (b + 1) (by omega)).trans A0_6
  have A1_7 := (hq7 (b + 2) (by omega)).trans A1_6
  have A2_7 := (hq7 (b + 3) (by omega)).trans hn6
  skip
  refine v_aload_n (pc := 33) d_Mo_init_33 rfl rfl ?_
  refine v_bipush (pc := 34) (v := nI 12) d_Mo_init_34 rfl ?_
  refine v_newiW (pc := 36) (N := 12) (sz' := b + 5) (nc' := 4) (ns' := 48) d_Mo_init_36 rfl (Nat.le_of_ble_eq_true rfl) (Nat.le_of_ble_eq_true rfl) (Nat.le_of_ble_eq_true rfl) rfl rfl rfl (fun w8 hn8 hq8 => ?_)
  have hO8 := (hq8 b (by omega)).trans hn7
  have A0_8 := (hq8 (b + 1) (by omega)).trans A0_7
  have A1_8 := (hq8 (b + 2) (by omega)).trans A1_7
  have A2_8 := (hq8 (b + 3) (by omega)).trans A2_7
  refine v_putW (pc := 38) (fs' := [.int 0, .int (nI 3), .ref (b + 1), .ref (b + 2), .ref (b + 3), .ref (b + 4), .null, .null, .null, .null, .null, .null, .null, .int 0, .null, .null, .null, .int 0, .null, .null, .null, .null]) d_Mo_init_38 fl_Mo_23 fi_Mo_23 (ok_Mo_5 _) hO8 (Nat.le_of_ble_eq_true rfl) rfl (fun w9 hn9 hq9 => ?_)
  have A0_9 := (hq9 (b + 1) (by omega)).trans A0_8
  have A1_9 := (hq9 (b + 2) (by omega)).trans A1_8
  have A2_9 := (hq9 (b + 3) (by omega)).trans A2_8
  have A3_9 := (hq9 (b + 4) (by omega)).trans hn8
  skip
  refine v_aload_n (pc := 41) d_Mo_init_41 rfl rfl ?_
  refine v_bipush (pc := 42) (v := nI 12) d_Mo_init_42 rfl ?_
  refine v_newiW (pc := 44) (N := 12) (sz' := b + 6) (nc' := 5) (ns' := 60) d_Mo_init_44 rfl (Nat.le_of_ble_eq_true rfl) (Nat.le_of_ble_eq_true rfl) (Nat.le_of_ble_eq_true rfl) rfl rfl rfl (fun w10 hn10 hq10 => ?_)
  have hO10 := (hq10 b (by omega)).trans hn9
  have A0_10 := (hq10 (b + 1) (by omega)).trans A0_9
  have A1_10 := (hq10 (b + 2) (by omega)).trans A1_9
  have A2_10 := (hq10 (b + 3) (by omega)).trans A2_9
  have A3_10 := (hq10 (b + 4) (by omega)).trans A3_9
  refine v_putW (pc := 46) (fs' := [.int 0, .int (nI 3), .ref (b + 1), .ref (b + 2), .ref (b + 3), .ref (b + 4), .ref (b + 5), .null, .null, .null, .null, .null, .null, .int 0, .null, .null, .null, .int 0, .null, .null, .null, .null]) d_Mo_init_46 fl_Mo_26 fi_Mo_26 (ok_Mo_6 _) hO10 (Nat.le_of_ble_eq_true rfl) rfl (fun w11 hn11 hq11 => ?_)
  have A0_11 := (hq11 (b + 1) (by omega)).trans A0_10
  have A1_11 := (hq11 (b + 2) (by omega)).trans A1_10
  have A2_11 := (hq11 (b + 3) (by omega)).trans A2_10
  have A3_11 := (hq11 (b + 4) (by omega)).trans A3_10
  have A4_11 := (hq11 (b + 5) (by omega)).trans hn10
  skip
  refine v_aload_n (pc := 49) d_Mo_init_49 rfl rfl ?_
  refine v_bipush (pc := 50) (v := nI 12) d_Mo_init_50 rfl ?_
  refine v_newiW (pc := 52) (N := 12) (sz' := b + 7) (nc' := 6) (ns' := 72) d_Mo_init_52 rfl (Nat.le_of_ble_eq_true rfl) (Nat.le_of_ble_eq_true rfl) (Nat.le_of_ble_eq_true rfl) rfl rfl rfl (fun w12 hn12 hq12 => ?_)
  have hO12 := (hq12 b (by omega)).trans hn11
  have A0_12 := (hq12 (b + 1) (by omega)).trans A0_11
  have A1_12 := (hq12 (b + 2) (by omega)).trans A1_11
  have A2_12 := (hq12 (b + 3) (by omega)).trans A2_11
  have A3_12 := (hq12 (b + 4) (by omega)).trans A3_11
  have A4_12 := (hq12 (b + 5) (by omega)).trans A4_11
  refine v_putW (pc := 54) (fs' := [.int 0, .int (nI 3), .ref (b + 1), .ref (b + 2), .ref (b + 3), .ref (b + 4), .ref (b + 5), .ref (b + 6), .null, .null, .null, .null, .null, .int 0, .null, .null, .null, .int 0, .null, .null, .null, .null]) d_Mo_init_54 fl_Mo_29 fi_Mo_29 (ok_Mo_7 _) hO12 (Nat.le_of_ble_eq_true rfl) rfl (fun w13 hn13 hq13 => ?_)
  have A0_13 := (hq13 (b + 1) (by omega)).trans A0_12
  have A1_13 := (hq13 (b + 2) (by omega)).trans A1_12
  have A2_13 := (hq13 (b + 3) (by omega)).trans A2_12
  have A3_13 := (hq13 (b + 4) (by omega)).trans A3_12
  have A4_13 := (hq13 (b + 5) (by omega)).trans A4_12
  have A5_13 := (hq13 (b + 6) (by omega)).trans hn12
  skip
  refine v_aload_n (pc := 57) d_Mo_init_57 rfl rfl ?_
  refine v_bipush (pc := 58) (v := nI 12) d_Mo_init_58 rfl ?_
  refine v_newiW (pc := 60) (N := 12) (sz' := b + 8) (nc' := 7) (ns' := 84) d_Mo_init_60 rfl (Nat.le_of_ble_eq_true rfl) (Nat.le_of_ble_eq_true rfl) (Nat.le_of_ble_eq_true rfl) rfl rfl rfl (fun w14 hn14 hq14 => ?_)
  have hO14 := (hq14 b (by omega)).trans hn13
  have A0_14 := (hq14 (b + 1) (by omega)).trans A0_13
  have A1_14 := (hq14 (b + 2) (by omega)).trans A1_13
  have A2_14 := (hq14 (b + 3) (by omega)).trans A2_13
  have A3_14 := (hq14 (b + 4) (by omega)).trans A3_13
  have A4_14 := (hq14 (b + 5) (by omega)).trans A4_13
  have A5_14 := (hq14 (b + 6) (by omega)).trans A5_13
  refine v_putW (pc := 62) (fs' := [.int 0, .int (nI 3), .ref (b + 1), .ref (b + 2), .ref (b + 3), .ref (b + 4), .ref (b + 5), .ref (b + 6), .ref (b + 7), .null, .null, .null, .null, .int 0, .null, .null, .null, .int 0, .null, .null, .null, .null]) d_Mo_init_62 fl_Mo_32 fi_Mo_32 (ok_Mo_8 _) hO14 (Nat.le_of_ble_eq_true rfl) rfl (fun w15 hn15 hq15 => ?_)
  have A0_15 := (hq15 (b + 1) (by omega)).trans A0_14
  have A1_15 := (hq15 (b + 2) (by omega)).trans A1_14
  have A2_15 := (hq15 (b + 3) (by omega)).trans A2_14
  have A3_15 := (hq15 (b + 4) (by omega)).trans A3_14
  have A4_15 := (hq15 (b + 5) (by omega)).trans A4_14
  have A5_15 := (hq15 (b + 6) (by omega)).trans A5_14
  have A6_15 := (hq15 (b + 7) (by omega)).trans hn14
  skip
  refine v_aload_n (pc := 65) d_Mo_init_65 rfl rfl ?_
  refine v_bipush (pc := 66) (v := nI 12) d_Mo_init_66 rfl ?_
  refine v_newiW (pc := 68) (N := 12) (sz' := b + 9) (nc' := 8) (ns' := 96) d_Mo_init_68 rfl (Nat.le_of_ble_eq_true rfl) (Nat.le_of_ble_eq_true rfl) (Nat.le_of_ble_eq_true rfl) rfl rfl rfl (fun w16 hn16 hq16 => ?_)
  have hO16 := (hq16 b (by omega)).trans hn15
  have A0_16 := (hq16 (b + 1) (by omega)).trans A0_15
  have A1_16 := (hq16 (b + 2) (by omega)).trans A1_15
  have A2_16 := (hq16 (b + 3) (by omega)).trans A2_15
  have A3_16 := (hq16 (b + 4) (by omega)).trans A3_15
  have A4_16 := (hq16 (b + 5) (by omega)).trans A4_15
  have A5_16 := (hq16 (b + 6) (by omega)).trans A5_15
  have A6_16 := (hq16 (b + 7) (by omega)).trans A6_15
  refine v_putW (pc := 70) (fs' := [.int 0, .int (nI 3), .ref (b + 1), .ref (b + 2), .ref (b + 3), .ref (b + 4), .ref (b + 5), .ref (b + 6), .ref (b + 7), .ref (b + 8), .null, .null, .null, .int 0, .null, .null, .null, .int 0, .null, .null, .null, .null]) d_Mo_init_70 fl_Mo_35 fi_Mo_35 (ok_Mo_9 _) hO16 (Nat.le_of_ble_eq_true rfl) rfl (fun w17 hn17 hq17 => ?_)
  have A0_17 := (hq17 (b + 1) (by omega)).trans A0_16
  have A1_17 := (hq17 (b + 2) (by omega)).trans A1_16
  have A2_17 := (hq17 (b + 3) (by omega)).trans A2_16
  have A3_17 := (hq17 (b + 4) (by omega)).trans A3_16
  have A4_17 := (hq17 (b + 5) (by omega)).trans A4_16
  have A5_17 := (hq17 (b + 6) (by omega)).trans A5_16
  have A6_17 := (hq17 (b + 7) (by omega)).trans A6_16
  have A7_17 := (hq17 (b + 8) (by omega)).trans hn16
  skip
  refine v_aload_n (pc := 73) d_Mo_init_73 rfl rfl ?_
  refine v_bipush (pc := 74) (v := nI 24) d_Mo_init_74 rfl ?_
  refine v_newiW (pc := 76) (N := 24) (sz' := b + 10) (nc' := 9) (ns' := 120) d_Mo_init_76 rfl (Nat.le_of_ble_eq_true rfl) (Nat.le_of_ble_eq_true rfl) (Nat.le_of_ble_eq_true rfl) rfl rfl rfl (fun w18 hn18 hq18 => ?_)
  have hO18 := (hq18 b (by omega)).trans hn17
  have A0_18 := (hq18 (b + 1) (by omega)).trans A0_17
  have A1_18 := (hq18 (b + 2) (by omega)).trans A1_17
  have A2_18 := (hq18 (b + 3) (by omega)).trans A2_17
  have A3_18 := (hq18 (b + 4) (by omega)).trans A3_17
  have A4_18 := (hq18 (b + 5) (by omega)).trans A4_17
  have A5_18 := (hq18 (b + 6) (by omega)).trans A5_17
  have A6_18 := (hq18 (b + 7) (by omega)).trans A6_17
  have A7_18 := (hq18 (b + 8) (by omega)).trans A7_17
  refine v_putW (pc := 78) (fs' := [.int 0, .int (nI 3), .ref (b + 1), .ref (b + 2), .ref (b + 3), .ref (b + 4), .ref (b + 5), .ref (b + 6), .ref (b + 7), .ref (b + 8), .ref (b + 9), .null, .null, .int 0, .null, .null, .null, .int 0, .null, .null, .null, .null]) d_Mo_init_78 fl_Mo_38 fi_Mo_38 (ok_Mo_10 _) hO18 (Nat.le_of_ble_eq_true rfl) rfl (fun w19 hn19 hq19 => ?_)
  have A0_19 := (hq19 (b + 1) (by omega)).trans A0_18
  have A1_19 := (hq19 (b + 2) (by omega)).trans A1_18
  have A2_19 := (hq19 (b + 3) (by omega)).trans A2_18
  have A3_19 := (hq19 (b + 4) (by omega)).trans A3_18
  have A4_19 := (hq19 (b + 5) (by omega)).trans A4_18
  have A5_19 := (hq19 (b + 6) (by omega)).trans A5_18
  have A6_19 := (hq19 (b + 7) (by omega)).trans A6_18
  have A7_19 := (hq19 (b + 8) (by omega)).trans A7_18
  have A8_19 := (hq19 (b + 9) (by omega)).trans hn18
  skip
  refine v_aload_n (pc := 81) d_Mo_init_81 rfl rfl ?_
  refine v_sipush (pc := 82) (v := nI 384) d_Mo_init_82 rfl ?_
  refine v_newjW (pc := 85) (N := 384) (sz' := b + 11) (nc' := 10) (ns' := 504) d_Mo_init_85 rfl (Nat.le_of_ble_eq_true rfl) (Nat.le_of_ble_eq_true rfl) (Nat.le_of_ble_eq_true rfl) rfl rfl rfl (fun w20 hn20 hq20 => ?_)
  have hO20 := (hq20 b (by omega)).trans hn19
  have A0_20 := (hq20 (b + 1) (by omega)).trans A0_19
  have A1_20 := (hq20 (b + 2) (by omega)).trans A1_19
  have A2_20 := (hq20 (b + 3) (by omega)).trans A2_19
  have A3_20 := (hq20 (b + 4) (by omega)).trans A3_19
  have A4_20 := (hq20 (b + 5) (by omega)).trans A4_19
  have A5_20 := (hq20 (b + 6) (by omega)).trans A5_19
  have A6_20 := (hq20 (b + 7) (by omega)).trans A6_19
  have A7_20 := (hq20 (b + 8) (by omega)).trans A7_19
  have A8_20 := (hq20 (b + 9) (by omega)).trans A8_19
  refine v_putW (pc := 87) (fs' := [.int 0, .int (nI 3), .ref (b + 1), .ref (b + 2), .ref (b + 3), .ref (b + 4), .ref (b + 5), .ref (b + 6), .ref (b + 7), .ref (b + 8), .ref (b + 9), .ref (b + 10), .null, .int 0, .null, .null, .null, .int 0, .null, .null, .null, .null]) d_Mo_init_87 fl_Mo_41 fi_Mo_41 (ok_Mo_11 _) hO20 (Nat.le_of_ble_eq_true rfl) rfl (fun w21 hn21 hq21 => ?_)
  have A0_21 := (hq21 (b + 1) (by omega)).trans A0_20
  have A1_21 := (hq21 (b + 2) (by omega)).trans A1_20
  have A2_21 := (hq21 (b + 3) (by omega)).trans A2_20
  have A3_21 := (hq21 (b + 4) (by omega)).trans A3_20
  have A4_21 := (hq21 (b + 5) (by omega)).trans A4_20
  have A5_21 := (hq21 (b + 6) (by omega)).trans A5_20
  have A6_21 := (hq21 (b + 7) (by omega)).trans A6_20
  have A7_21 := (hq21 (b + 8) (by omega)).trans A7_20
  have A8_21 := (hq21 (b + 9) (by omega)).trans A8_20
  have A9_21 := (hq21 (b + 10) (by omega)).trans hn20
  skip
  refine v_aload_n (pc := 90) d_Mo_init_90 rfl rfl ?_
  refine v_sipush (pc := 91) (v := nI 1536) d_Mo_init_91 rfl ?_
  refine v_newiW (pc := 94) (N := 1536) (sz' := b + 12) (nc' := 11) (ns' := 2040) d_Mo_init_94 rfl (Nat.le_of_ble_eq_true rfl) (Nat.le_of_ble_eq_true rfl) (Nat.le_of_ble_eq_true rfl) rfl rfl rfl (fun w22 hn22 hq22 => ?_)
  have hO22 := (hq22 b (by omega)).trans hn21
  have A0_22 := (hq22 (b + 1) (by omega)).trans A0_21
  have A1_22 := (hq22 (b + 2) (by omega)).trans A1_21
  have A2_22 := (hq22 (b + 3) (by omega)).trans A2_21
  have A3_22 := (hq22 (b + 4) (by omega)).trans A3_21
  have A4_22 := (hq22 (b + 5) (by omega)).trans A4_21
  have A5_22 := (hq22 (b + 6) (by omega)).trans A5_21
  have A6_22 := (hq22 (b + 7) (by omega)).trans A6_21
  have A7_22 := (hq22 (b + 8) (by omega)).trans A7_21
  have A8_22 := (hq22 (b + 9) (by omega)).trans A8_21
  have A9_22 := (hq22 (b + 10) (by omega)).trans A9_21
  refine v_putW (pc := 96) (fs' := [.int 0, .int (nI 3), .ref (b + 1), .ref (b + 2), .ref (b + 3), .ref (b + 4), .ref (b + 5), .ref (b + 6), .ref (b + 7), .ref (b + 8), .ref (b + 9), .ref (b + 10), .ref (b + 11), .int 0, .null, .null, .null, .int 0, .null, .null, .null, .null]) d_Mo_init_96 fl_Mo_45 fi_Mo_45 (ok_Mo_12 _) hO22 (Nat.le_of_ble_eq_true rfl) rfl (fun w23 hn23 hq23 => ?_)
  have A0_23 := (hq23 (b + 1) (by omega)).trans A0_22
  have A1_23 := (hq23 (b + 2) (by omega)).trans A1_22
  have A2_23 := (hq23 (b + 3) (by omega)).trans A2_22
  have A3_23 := (hq23 (b + 4) (by omega)).trans A3_22
  have A4_23 := (hq23 (b + 5) (by omega)).trans A4_22
  have A5_23 := (hq23 (b + 6) (by omega)).trans A5_22
  have A6_23 := (hq23 (b + 7) (by omega)).trans A6_22
  have A7_23 := (hq23 (b + 8) (by omega)).trans A7_22
  have A8_23 := (hq23 (b + 9) (by omega)).trans A8_22
  have A9_23 := (hq23 (b + 10) (by omega)).trans A9_22
  have A10_23 := (hq23 (b + 11) (by omega)).trans hn22
  skip
  refine v_aload_n (pc := 99) d_Mo_init_99 rfl rfl ?_
  refine v_sipush (pc := 100) (v := nI 256) d_Mo_init_100 rfl ?_
  refine v_newjW (pc := 103) (N := 256) (sz' := b + 13) (nc' := 12) (ns' := 2296) d_Mo_init_103 rfl (Nat.le_of_ble_eq_true rfl) (Nat.le_of_ble_eq_true rfl) (Nat.le_of_ble_eq_true rfl) rfl rfl rfl (fun w24 hn24 hq24 => ?_)
  have hO24 := (hq24 b (by omega)).trans hn23
  have A0_24 := (hq24 (b + 1) (by omega)).trans A0_23
  have A1_24 := (hq24 (b + 2) (by omega)).trans A1_23
  have A2_24 := (hq24 (b + 3) (by omega)).trans A2_23
  have A3_24 := (hq24 (b + 4) (by omega)).trans A3_23
  have A4_24 := (hq24 (b + 5) (by omega)).trans A4_23
  have A5_24 := (hq24 (b + 6) (by omega)).trans A5_23
  have A6_24 := (hq24 (b + 7) (by omega)).trans A6_23
  have A7_24 := (hq24 (b + 8) (by omega)).trans A7_23
  have A8_24 := (hq24 (b + 9) (by omega)).trans A8_23
  have A9_24 := (hq24 (b + 10) (by omega)).trans A9_23
  have A10_24 := (hq24 (b + 11) (by omega)).trans A10_23
  refine v_putW (pc := 105) (fs' := [.int 0, .int (nI 3), .ref (b + 1), .ref (b + 2), .ref (b + 3), .ref (b + 4), .ref (b + 5), .ref (b + 6), .ref (b + 7), .ref (b + 8), .ref (b + 9), .ref (b + 10), .ref (b + 11), .int 0, .ref (b + 12), .null, .null, .int 0, .null, .null, .null, .null]) d_Mo_init_105 fl_Mo_48 fi_Mo_48 (ok_Mo_14 _) hO24 (Nat.le_of_ble_eq_true rfl) rfl (fun w25 hn25 hq25 => ?_)
  have A0_25 := (hq25 (b + 1) (by omega)).trans A0_24
  have A1_25 := (hq25 (b + 2) (by omega)).trans A1_24
  have A2_25 := (hq25 (b + 3) (by omega)).trans A2_24
  have A3_25 := (hq25 (b + 4) (by omega)).trans A3_24
  have A4_25 := (hq25 (b + 5) (by omega)).trans A4_24
  have A5_25 := (hq25 (b + 6) (by omega)).trans A5_24
  have A6_25 := (hq25 (b + 7) (by omega)).trans A6_24
  have A7_25 := (hq25 (b + 8) (by omega)).trans A7_24
  have A8_25 := (hq25 (b + 9) (by omega)).trans A8_24
  have A9_25 := (hq25 (b + 10) (by omega)).trans A9_24
  have A10_25 := (hq25 (b + 11) (by omega)).trans A10_24
  have A11_25 := (hq25 (b + 12) (by omega)).trans hn24
  skip
  refine v_aload_n (pc := 108) d_Mo_init_108 rfl rfl ?_
  refine v_sipush (pc := 109) (v := nI 1024) d_Mo_init_109 rfl ?_
  refine v_newiW (pc := 112) (N := 1024) (sz' := b + 14) (nc' := 13) (ns' := 3320) d_Mo_init_112 rfl (Nat.le_of_ble_eq_true rfl) (Nat.le_of_ble_eq_true rfl) (Nat.le_of_ble_eq_true rfl) rfl rfl rfl (fun w26 hn26 hq26 => ?_)
  have hO26 := (hq26 b (by omega)).trans hn25
  have A0_26 := (hq26 (b + 1) (by omega)).trans A0_25
  have A1_26 := (hq26 (b + 2) (by omega)).trans A1_25
  have A2_26 := (hq26 (b + 3) (by omega)).trans A2_25
  have A3_26 := (hq26 (b + 4) (by omega)).trans A3_25
  have A4_26 := (hq26 (b + 5) (by omega)).trans A4_25
  have A5_26 := (hq26 (b + 6) (by omega)).trans A5_25
  have A6_26 := (hq26 (b + 7) (by omega)).trans A6_25
  have A7_26 := (hq26 (b + 8) (by omega)).trans A7_25
  have A8_26 := (hq26 (b + 9) (by omega)).trans A8_25
  have A9_26 := (hq26 (b + 10) (by omega)).trans A9_25
  have A10_26 := (hq26 (b + 11) (by omega)).trans A10_25
  have A11_26 := (hq26 (b + 12) (by omega)).trans A11_25
  refine v_putW (pc := 114) (fs' := [.int 0, .int (nI 3), .ref (b + 1), .ref (b + 2), .ref (b + 3), .ref (b + 4), .ref (b + 5), .ref (b + 6), .ref (b + 7), .ref (b + 8), .ref (b + 9), .ref (b + 10), .ref (b + 11), .int 0, .ref (b + 12), .ref (b + 13), .null, .int 0, .null, .null, .null, .null]) d_Mo_init_114 fl_Mo_51 fi_Mo_51 (ok_Mo_15 _) hO26 (Nat.le_of_ble_eq_true rfl) rfl (fun w27 hn27 hq27 => ?_)
  have A0_27 := (hq27 (b + 1) (by omega)).trans A0_26
  have A1_27 := (hq27 (b + 2) (by omega)).trans A1_26
  have A2_27 := (hq27 (b + 3) (by omega)).trans A2_26
  have A3_27 := (hq27 (b + 4) (by omega)).trans A3_26
  have A4_27 := (hq27 (b + 5) (by omega)).trans A4_26
  have A5_27 := (hq27 (b + 6) (by omega)).trans A5_26
  have A6_27 := (hq27 (b + 7) (by omega)).trans A6_26
  have A7_27 := (hq27 (b + 8) (by omega)).trans A7_26
  have A8_27 := (hq27 (b + 9) (by omega)).trans A8_26
  have A9_27 := (hq27 (b + 10) (by omega)).trans A9_26
  have A10_27 := (hq27 (b + 11) (by omega)).trans A10_26
  have A11_27 := (hq27 (b + 12) (by omega)).trans A11_26
  have A12_27 := (hq27 (b + 13) (by omega)).trans hn26
  skip
  refine v_aload_n (pc := 117) d_Mo_init_117 rfl rfl ?_
  refine v_iconst (pc := 118) (v := nI 4) d_Mo_init_118 rfl ?_
  refine v_newiW (pc := 119) (N := 4) (sz' := b + 15) (nc' := 14) (ns' := 3324) d_Mo_init_119 rfl (Nat.le_of_ble_eq_true rfl) (Nat.le_of_ble_eq_true rfl) (Nat.le_of_ble_eq_true rfl) rfl rfl rfl (fun w28 hn28 hq28 => ?_)
  have hO28 := (hq28 b (by omega)).trans hn27
  have A0_28 := (hq28 (b + 1) (by omega)).trans A0_27
  have A1_28 := (hq28 (b + 2) (by omega)).trans A1_27
  have A2_28 := (hq28 (b + 3) (by omega)).trans A2_27
  have A3_28 := (hq28 (b + 4) (by omega)).trans A3_27
  have A4_28 := (hq28 (b + 5) (by omega)).trans A4_27
  have A5_28 := (hq28 (b + 6) (by omega)).trans A5_27
  have A6_28 := (hq28 (b + 7) (by omega)).trans A6_27
  have A7_28 := (hq28 (b + 8) (by omega)).trans A7_27
  have A8_28 := (hq28 (b + 9) (by omega)).trans A8_27
  have A9_28 := (hq28 (b + 10) (by omega)).trans A9_27
  have A10_28 := (hq28 (b + 11) (by omega)).trans A10_27
  have A11_28 := (hq28 (b + 12) (by omega)).trans A11_27
  have A12_28 := (hq28 (b + 13) (by omega)).trans A12_27
  refine v_putW (pc := 121) (fs' := [.int 0, .int (nI 3), .ref (b + 1), .ref (b + 2), .ref (b + 3), .ref (b + 4), .ref (b + 5), .ref (b + 6), .ref (b + 7), .ref (b + 8), .ref (b + 9), .ref (b + 10), .ref (b + 11), .int 0, .ref (b + 12), .ref (b + 13), .ref (b + 14), .int 0, .null, .null, .null, .null]) d_Mo_init_121 fl_Mo_54 fi_Mo_54 (ok_Mo_16 _) hO28 (Nat.le_of_ble_eq_true rfl) rfl (fun w29 hn29 hq29 => ?_)
  have A0_29 := (hq29 (b + 1) (by omega)).trans A0_28
  have A1_29 := (hq29 (b + 2) (by omega)).trans A1_28
  have A2_29 := (hq29 (b + 3) (by omega)).trans A2_28
  have A3_29 := (hq29 (b + 4) (by omega)).trans A3_28
  have A4_29 := (hq29 (b + 5) (by omega)).trans A4_28
  have A5_29 := (hq29 (b + 6) (by omega)).trans A5_28
  have A6_29 := (hq29 (b + 7) (by omega)).trans A6_28
  have A7_29 := (hq29 (b + 8) (by omega)).trans A7_28
  have A8_29 := (hq29 (b + 9) (by omega)).trans A8_28
  have A9_29 := (hq29 (b + 10) (by omega)).trans A9_28
  have A10_29 := (hq29 (b + 11) (by omega)).trans A10_28
  have A11_29 := (hq29 (b + 12) (by omega)).trans A11_28
  have A12_29 := (hq29 (b + 13) (by omega)).trans A12_28
  have A13_29 := (hq29 (b + 14) (by omega)).trans hn28
  skip
  refine v_aload_n (pc := 124) d_Mo_init_124 rfl rfl ?_
  refine v_bipush (pc := 125) (v := nI 8) d_Mo_init_125 rfl ?_
  refine v_newiW (pc := 127) (N := 8) (sz' := b + 16) (nc' := 15) (ns' := 3332) d_Mo_init_127 rfl (Nat.le_of_ble_eq_true rfl) (Nat.le_of_ble_eq_true rfl) (Nat.le_of_ble_eq_true rfl) rfl rfl rfl (fun w30 hn30 hq30 => ?_)
  have hO30 := (hq30 b (by omega)).trans hn29
  have A0_30 := (hq30 (b + 1) (by omega)).trans A0_29
  have A1_30 := (hq30 (b + 2) (by omega)).trans A1_29
  have A2_30 := (hq30 (b + 3) (by omega)).trans A2_29
  have A3_30 := (hq30 (b + 4) (by omega)).trans A3_29
  have A4_30 := (hq30 (b + 5) (by omega)).trans A4_29
  have A5_30 := (hq30 (b + 6) (by omega)).trans A5_29
  have A6_30 := (hq30 (b + 7) (by omega)).trans A6_29
  have A7_30 := (hq30 (b + 8) (by omega)).trans A7_29
  have A8_30 := (hq30 (b + 9) (by omega)).trans A8_29
  have A9_30 := (hq30 (b + 10) (by omega)).trans A9_29
  have A10_30 := (hq30 (b + 11) (by omega)).trans A10_29
  have A11_30 := (hq30 (b + 12) (by omega)).trans A11_29
  have A12_30 := (hq30 (b + 13) (by omega)).trans A12_29
  have A13_30 := (hq30 (b + 14) (by omega)).trans A13_29
  refine v_putW (pc := 129) (fs' := [.int 0, .int (nI 3), .ref (b + 1), .ref (b + 2), .ref (b + 3), .ref (b + 4), .ref (b + 5), .ref (b + 6), .ref (b + 7), .ref (b + 8), .ref (b + 9), .ref (b + 10), .ref (b + 11), .int 0, .ref (b + 12), .ref (b + 13), .ref (b + 14), .int 0, .ref (b + 15), .null, .null, .null]) d_Mo_init_129 fl_Mo_57 fi_Mo_57 (ok_Mo_18 _) hO30 (Nat.le_of_ble_eq_true rfl) rfl (fun w31 hn31 hq31 => ?_)
  have A0_31 := (hq31 (b + 1) (by omega)).trans A0_30
  have A1_31 := (hq31 (b + 2) (by omega)).trans A1_30
  have A2_31 := (hq31 (b + 3) (by omega)).trans A2_30
  have A3_31 := (hq31 (b + 4) (by omega)).trans A3_30
  have A4_31 := (hq31 (b + 5) (by omega)).trans A4_30
  have A5_31 := (hq31 (b + 6) (by omega)).trans A5_30
  have A6_31 := (hq31 (b + 7) (by omega)).trans A6_30
  have A7_31 := (hq31 (b + 8) (by omega)).trans A7_30
  have A8_31 := (hq31 (b + 9) (by omega)).trans A8_30
  have A9_31 := (hq31 (b + 10) (by omega)).trans A9_30
  have A10_31 := (hq31 (b + 11) (by omega)).trans A10_30
  have A11_31 := (hq31 (b + 12) (by omega)).trans A11_30
  have A12_31 := (hq31 (b + 13) (by omega)).trans A12_30
  have A13_31 := (hq31 (b + 14) (by omega)).trans A13_30
  have A14_31 := (hq31 (b + 15) (by omega)).trans hn30
  skip
  refine v_aload_n (pc := 132) d_Mo_init_132 rfl rfl ?_
  refine v_bipush (pc := 133) (v := nI 8) d_Mo_init_133 rfl ?_
  refine v_newiW (pc := 135) (N := 8) (sz' := b + 17) (nc' := 16) (ns' := 3340) d_Mo_init_135 rfl (Nat.le_of_ble_eq_true rfl) (Nat.le_of_ble_eq_true rfl) (Nat.le_of_ble_eq_true rfl) rfl rfl rfl (fun w32 hn32 hq32 => ?_)
  have hO32 := (hq32 b (by omega)).trans hn31
  have A0_32 := (hq32 (b + 1) (by omega)).trans A0_31
  have A1_32 := (hq32 (b + 2) (by omega)).trans A1_31
  have A2_32 := (hq32 (b + 3) (by omega)).trans A2_31
  have A3_32 := (hq32 (b + 4) (by omega)).trans A3_31
  have A4_32 := (hq32 (b + 5) (by omega)).trans A4_31
  have A5_32 := (hq32 (b + 6) (by omega)).trans A5_31
  have A6_32 := (hq32 (b + 7) (by omega)).trans A6_31
  have A7_32 := (hq32 (b + 8) (by omega)).trans A7_31
  have A8_32 := (hq32 (b + 9) (by omega)).trans A8_31
  have A9_32 := (hq32 (b + 10) (by omega)).trans A9_31
  have A10_32 := (hq32 (b + 11) (by omega)).trans A10_31
  have A11_32 := (hq32 (b + 12) (by omega)).trans A11_31
  have A12_32 := (hq32 (b + 13) (by omega)).trans A12_31
  have A13_32 := (hq32 (b + 14) (by omega)).trans A13_31
  have A14_32 := (hq32 (b + 15) (by omega)).trans A14_31
  refine v_putW (pc := 137) (fs' := [.int 0, .int (nI 3), .ref (b + 1), .ref (b + 2), .ref (b + 3), .ref (b + 4), .ref (b + 5), .ref (b + 6), .ref (b + 7), .ref (b + 8), .ref (b + 9), .ref (b + 10), .ref (b + 11), .int 0, .ref (b + 12), .ref (b + 13), .ref (b + 14), .int 0, .ref (b + 15), .ref (b + 16), .null, .null]) d_Mo_init_137 fl_Mo_60 fi_Mo_60 (ok_Mo_19 _) hO32 (Nat.le_of_ble_eq_true rfl) rfl (fun w33 hn33 hq33 => ?_)
  have A0_33 := (hq33 (b + 1) (by omega)).trans A0_32
  have A1_33 := (hq33 (b + 2) (by omega)).trans A1_32
  have A2_33 := (hq33 (b + 3) (by omega)).trans A2_32
  have A3_33 := (hq33 (b + 4) (by omega)).trans A3_32
  have A4_33 := (hq33 (b + 5) (by omega)).trans A4_32
  have A5_33 := (hq33 (b + 6) (by omega)).trans A5_32
  have A6_33 := (hq33 (b + 7) (by omega)).trans A6_32
  have A7_33 := (hq33 (b + 8) (by omega)).trans A7_32
  have A8_33 := (hq33 (b + 9) (by omega)).trans A8_32
  have A9_33 := (hq33 (b + 10) (by omega)).trans A9_32
  have A10_33 := (hq33 (b + 11) (by omega)).trans A10_32
  have A11_33 := (hq33 (b + 12) (by omega)).trans A11_32
  have A12_33 := (hq33 (b + 13) (by omega)).trans A12_32
  have A13_33 := (hq33 (b + 14) (by omega)).trans A13_32
  have A14_33 := (hq33 (b + 15) (by omega)).trans A14_32
  have A15_33 := (hq33 (b + 16) (by omega)).trans hn32
  skip
  refine v_aload_n (pc := 140) d_Mo_init_140 rfl rfl ?_
  refine v_bipush (pc := 141) (v := nI 8) d_Mo_init_141 rfl ?_
  refine v_newiW (pc := 143) (N := 8) (sz' := b + 18) (nc' := 17) (ns' := 3348) d_Mo_init_143 rfl (Nat.le_of_ble_eq_true rfl) (Nat.le_of_ble_eq_true rfl) (Nat.le_of_ble_eq_true rfl) rfl rfl rfl (fun w34 hn34 hq34 => ?_)
  have hO34 := (hq34 b (by omega)).trans hn33
  have A0_34 := (hq34 (b + 1) (by omega)).trans A0_33
  have A1_34 := (hq34 (b + 2) (by omega)).trans A1_33
  have A2_34 := (hq34 (b + 3) (by omega)).trans A2_33
  have A3_34 := (hq34 (b + 4) (by omega)).trans A3_33
  have A4_34 := (hq34 (b + 5) (by omega)).trans A4_33
  have A5_34 := (hq34 (b + 6) (by omega)).trans A5_33
  have A6_34 := (hq34 (b + 7) (by omega)).trans A6_33
  have A7_34 := (hq34 (b + 8) (by omega)).trans A7_33
  have A8_34 := (hq34 (b + 9) (by omega)).trans A8_33
  have A9_34 := (hq34 (b + 10) (by omega)).trans A9_33
  have A10_34 := (hq34 (b + 11) (by omega)).trans A10_33
  have A11_34 := (hq34 (b + 12) (by omega)).trans A11_33
  have A12_34 := (hq34 (b + 13) (by omega)).trans A12_33
  have A13_34 := (hq34 (b + 14) (by omega)).trans A13_33
  have A14_34 := (hq34 (b + 15) (by omega)).trans A14_33
  have A15_34 := (hq34 (b + 16) (by omega)).trans A15_33
  refine v_putW (pc := 145) (fs' := [.int 0, .int (nI 3), .ref (b + 1), .ref (b + 2), .ref (b + 3), .ref (b + 4), .ref (b + 5), .ref (b + 6), .ref (b + 7), .ref (b + 8), .ref (b + 9), .ref (b + 10), .ref (b + 11), .int 0, .ref (b + 12), .ref (b + 13), .ref (b + 14), .int 0, .ref (b + 15), .ref (b + 16), .ref (b + 17), .null]) d_Mo_init_145 fl_Mo_63 fi_Mo_63 (ok_Mo_20 _) hO34 (Nat.le_of_ble_eq_true rfl) rfl (fun w35 hn35 hq35 => ?_)
  have A0_35 := (hq35 (b + 1) (by omega)).trans A0_34
  have A1_35 := (hq35 (b + 2) (by omega)).trans A1_34
  have A2_35 := (hq35 (b + 3) (by omega)).trans A2_34
  have A3_35 := (hq35 (b + 4) (by omega)).trans A3_34
  have A4_35 := (hq35 (b + 5) (by omega)).trans A4_34
  have A5_35 := (hq35 (b + 6) (by omega)).trans A5_34
  have A6_35 := (hq35 (b + 7) (by omega)).trans A6_34
  have A7_35 := (hq35 (b + 8) (by omega)).trans A7_34
  have A8_35 := (hq35 (b + 9) (by omega)).trans A8_34
  have A9_35 := (hq35 (b + 10) (by omega)).trans A9_34
  have A10_35 := (hq35 (b + 11) (by omega)).trans A10_34
  have A11_35 := (hq35 (b + 12) (by omega)).trans A11_34
  have A12_35 := (hq35 (b + 13) (by omega)).trans A12_34
  have A13_35 := (hq35 (b + 14) (by omega)).trans A13_34
  have A14_35 := (hq35 (b + 15) (by omega)).trans A14_34
  have A15_35 := (hq35 (b + 16) (by omega)).trans A15_34
  have A16_35 := (hq35 (b + 17) (by omega)).trans hn34
  skip
  refine v_aload_n (pc := 148) d_Mo_init_148 rfl rfl ?_
  refine v_bipush (pc := 149) (v := nI 8) d_Mo_init_149 rfl ?_
  refine v_newiW (pc := 151) (N := 8) (sz' := b + 19) (nc' := 18) (ns' := 3356) d_Mo_init_151 rfl (Nat.le_of_ble_eq_true rfl) (Nat.le_of_ble_eq_true rfl) (Nat.le_of_ble_eq_true rfl) rfl rfl rfl (fun w36 hn36 hq36 => ?_)
  have hO36 := (hq36 b (by omega)).trans hn35
  have A0_36 := (hq36 (b + 1) (by omega)).trans A0_35
  have A1_36 := (hq36 (b + 2) (by omega)).trans A1_35
  have A2_36 := (hq36 (b + 3) (by omega)).trans A2_35
  have A3_36 := (hq36 (b + 4) (by omega)).trans A3_35
  have A4_36 := (hq36 (b + 5) (by omega)).trans A4_35
  have A5_36 := (hq36 (b + 6) (by omega)).trans A5_35
  have A6_36 := (hq36 (b + 7) (by omega)).trans A6_35
  have A7_36 := (hq36 (b + 8) (by omega)).trans A7_35
  have A8_36 := (hq36 (b + 9) (by omega)).trans A8_35
  have A9_36 := (hq36 (b + 10) (by omega)).trans A9_35
  have A10_36 := (hq36 (b + 11) (by omega)).trans A10_35
  have A11_36 := (hq36 (b + 12) (by omega)).trans A11_35
  have A12_36 := (hq36 (b + 13) (by omega)).trans A12_35
  have A13_36 := (hq36 (b + 14) (by omega)).trans A13_35
  have A14_36 := (hq36 (b + 15) (by omega)).trans A14_35
  have A15_36 := (hq36 (b + 16) (by omega)).trans A15_35
  have A16_36 := (hq36 (b + 17) (by omega)).trans A16_35
  refine v_putW (pc := 153) (fs' := [.int 0, .int (nI 3), .ref (b + 1), .ref (b + 2), .ref (b + 3), .ref (b + 4), .ref (b + 5), .ref (b + 6), .ref (b + 7), .ref (b + 8), .ref (b + 9), .ref (b + 10), .ref (b + 11), .int 0, .ref (b + 12), .ref (b + 13), .ref (b + 14), .int 0, .ref (b + 15), .ref (b + 16), .ref (b + 17), .ref (b + 18)]) d_Mo_init_153 fl_Mo_66 fi_Mo_66 (ok_Mo_21 _) hO36 (Nat.le_of_ble_eq_true rfl) rfl (fun w37 hn37 hq37 => ?_)
  have A0_37 := (hq37 (b + 1) (by omega)).trans A0_36
  have A1_37 := (hq37 (b + 2) (by omega)).trans A1_36
  have A2_37 := (hq37 (b + 3) (by omega)).trans A2_36
  have A3_37 := (hq37 (b + 4) (by omega)).trans A3_36
  have A4_37 := (hq37 (b + 5) (by omega)).trans A4_36
  have A5_37 := (hq37 (b + 6) (by omega)).trans A5_36
  have A6_37 := (hq37 (b + 7) (by omega)).trans A6_36
  have A7_37 := (hq37 (b + 8) (by omega)).trans A7_36
  have A8_37 := (hq37 (b + 9) (by omega)).trans A8_36
  have A9_37 := (hq37 (b + 10) (by omega)).trans A9_36
  have A10_37 := (hq37 (b + 11) (by omega)).trans A10_36
  have A11_37 := (hq37 (b + 12) (by omega)).trans A11_36
  have A12_37 := (hq37 (b + 13) (by omega)).trans A12_36
  have A13_37 := (hq37 (b + 14) (by omega)).trans A13_36
  have A14_37 := (hq37 (b + 15) (by omega)).trans A14_36
  have A15_37 := (hq37 (b + 16) (by omega)).trans A15_36
  have A16_37 := (hq37 (b + 17) (by omega)).trans A16_36
  have A17_37 := (hq37 (b + 18) (by omega)).trans hn36
  skip
  have hM0 : MAt w37 b (fun j => if j = 1 then nI 3 else 0) (fun _ _ => 0) (fun _ _ => 0) := ⟨hn37, A0_37, A1_37, A2_37, A3_37, A4_37, A5_37, A6_37, A7_37, A8_37, A9_37, A10_37, A11_37, A12_37, A13_37, A14_37, A15_37, A16_37, A17_37⟩
  have hfr0 : ∀ q, q < b ∨ b + 19 ≤ q → w37 q = w q := fun q hq => by
    rw [hq37 q (by omega), hq36 q (by omega), hq35 q (by omega), hq34 q (by omega), hq33 q (by omega), hq32 q (by omega), hq31 q (by omega), hq30 q (by omega), hq29 q (by omega), hq28 q (by omega), hq27 q (by omega), hq26 q (by omega), hq25 q (by omega), hq24 q (by omega), hq23 q (by omega), hq22 q (by omega), hq21 q (by omega), hq20 q (by omega), hq19 q (by omega), hq18 q (by omega), hq17 q (by omega), hq16 q (by omega), hq15 q (by omega), hq14 q (by omega), hq13 q (by omega), hq12 q (by omega), hq11 q (by omega), hq10 q (by omega), hq9 q (by omega), hq8 q (by omega), hq7 q (by omega), hq6 q (by omega), hq5 q (by omega), hq4 q (by omega), hq3 q (by omega), hq2 q (by omega), hq1 q (by omega)]
  skip
  refine v_iconst (pc := 156) (v := nI 0) d_Mo_init_156 rfl ?_
  refine v_istore_n (pc := 157) (L' := [(1, .int (nI 0)), (0, .ref b)]) d_Mo_init_157 rfl (by decide) rfl ?_
  refine v_iload_n (pc := 158) d_Mo_init_158 rfl rfl ?_
  refine v_iconst (pc := 159) (v := nI 3) d_Mo_init_159 rfl ?_
  refine v_icmp_ge (pc := 160) (tgt := 176) d_Mo_init_160 rfl (fun hc => ?_) (fun hc => ?_)
  · skip
    rw [nI_leI (by omega) (by omega)] at hc
    exact absurd hc (by decide)
  · skip
    rw [nI_leI (by omega) (by omega)] at hc
    refine v_aload_n (pc := 163) d_Mo_init_163 rfl rfl ?_
    refine v_get (pc := 164) d_Mo_init_164 fl_Mo_13 hM0.o rfl ?_
    refine v_iload_n (pc := 167) d_Mo_init_167 rfl rfl ?_
    refine v_iconst (pc := 168) (v := nI 2) d_Mo_init_168 rfl ?_
    refine v_iastW (pc := 169) (k := 0) (f := (fun _ => (0 : Int32))) d_Mo_init_169 hM0.a0 rfl (by omega) (by decide) (fun w38 hn38 hq38 => ?_)
    have hM1 := hM0.s0 hn38 hq38
    refine v_iinc (pc := 170) (L' := [(1, .int (nI (0 + 1))), (0, .ref b)]) d_Mo_init_170 rfl (ix_inc _) (by decide) rfl ?_
    refine v_goto (pc := 173) (tgt := 158) d_Mo_init_173 rfl ?_
    refine v_iload_n (pc := 158) d_Mo_init_158 rfl rfl ?_
    refine v_iconst (pc := 159) (v := nI 3) d_Mo_init_159 rfl ?_
    refine v_icmp_ge (pc := 160) (tgt := 176) d_Mo_init_160 rfl (fun hc => ?_) (fun hc => ?_)
    · skip
      rw [nI_leI (by omega) (by omega)] at hc
      exact absurd hc (by decide)
    · skip
      rw [nI_leI (by omega) (by omega)] at hc
      refine v_aload_n (pc := 163) d_Mo_init_163 rfl rfl ?_
      refine v_get (pc := 164) d_Mo_init_164 fl_Mo_13 hM1.o rfl ?_
      refine v_iload_n (pc := 167) d_Mo_init_167 rfl rfl ?_
      refine v_iconst (pc := 168) (v := nI 2) d_Mo_init_168 rfl ?_
      refine v_iastW (pc := 169) (k := 0 + 1) (f := (upd (fun _ => (0 : Int32)) 0 (nI 2))) d_Mo_init_169 hM1.a0 rfl (by omega) (by decide) (fun w39 hn39 hq39 => ?_)
      have hM2 := hM1.s0 hn39 hq39
      rw [bx_uu] at hM2
      refine v_iinc (pc := 170) (L' := [(1, .int (nI (0 + 1 + 1))), (0, .ref b)]) d_Mo_init_170 rfl (ix_inc _) (by decide) rfl ?_
      refine v_goto (pc := 173) (tgt := 158) d_Mo_init_173 rfl ?_
      refine v_iload_n (pc := 158) d_Mo_init_158 rfl rfl ?_
      refine v_iconst (pc := 159) (v := nI 3) d_Mo_init_159 rfl ?_
      refine v_icmp_ge (pc := 160) (tgt := 176) d_Mo_init_160 rfl (fun hc => ?_) (fun hc => ?_)
      · skip
        rw [nI_leI (by omega) (by omega)] at hc
        exact absurd hc (by decide)
      · skip
        rw [nI_leI (by omega) (by omega)] at hc
        refine v_aload_n (pc := 163) d_Mo_init_163 rfl rfl ?_
        refine v_get (pc := 164) d_Mo_init_164 fl_Mo_13 hM2.o rfl ?_
        refine v_iload_n (pc := 167) d_Mo_init_167 rfl rfl ?_
        refine v_iconst (pc := 168) (v := nI 2) d_Mo_init_168 rfl ?_
        refine v_iastW (pc := 169) (k := 0 + 1 + 1) (f := (upd (upd (fun _ => (0 : Int32)) 0 (nI 2)) (0 + 1) (nI 2))) d_Mo_init_169 hM2.a0 rfl (by omega) (by decide) (fun w40 hn40 hq40 => ?_)
        have hM3 := hM2.s0 hn40 hq40
        rw [bx_uu] at hM3
        refine v_iinc (pc := 170) (L' := [(1, .int (nI (0 + 1 + 1 + 1))), (0, .ref b)]) d_Mo_init_170 rfl (ix_inc _) (by decide) rfl ?_
        refine v_goto (pc := 173) (tgt := 158) d_Mo_init_173 rfl ?_
        refine v_iload_n (pc := 158) d_Mo_init_158 rfl rfl ?_
        refine v_iconst (pc := 159) (v := nI 3) d_Mo_init_159 rfl ?_
        refine v_icmp_ge (pc := 160) (tgt := 176) d_Mo_init_160 rfl (fun hc => ?_) (fun hc => ?_)
        · skip
          rw [nI_leI (by omega) (by omega)] at hc
          have hMf : MAt w40 b (fun j => if j = 1 then nI 3 else 0) (fun k i => if k = 0 then (if i < 3 then nI 2 else 0) else 0) (fun _ _ => 0) := by
            have e : va_up (fun _ _ => (0 : Int32)) 0 (upd (upd (upd (fun _ => (0 : Int32)) 0 (nI 2)) (0 + 1) (nI 2)) (0 + 1 + 1) (nI 2)) = (fun k i => if k = 0 then (if i < 3 then nI 2 else 0) else 0) := by
              funext k i
              by_cases hk : k = 0
              · subst hk; rw [va_up_self, if_pos rfl]
                unfold upd
                by_cases h0 : i = 0 <;> by_cases h1 : i = 0 + 1 <;> by_cases h2 : i = 0 + 1 + 1 <;> simp [h0, h1, h2] <;> omega
              · rw [va_up_ne _ _ hk, if_neg hk]
            rw [← e]; exact hM3
          exact v_vret (pc := 176) d_Mo_init_176 rfl (Nat.le_of_ble_eq_true rfl) (Nat.le_of_ble_eq_true rfl) ⟨rfl, rfl, hMf, fun q hq => by rw [hq40 q (by omega), hq39 q (by omega), hq38 q (by omega)]; exact hfr0 q hq⟩
        · skip
          rw [nI_leI (by omega) (by omega)] at hc
          exact absurd hc (by decide)
