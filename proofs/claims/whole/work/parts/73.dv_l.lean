/-! the first state: constructors -/
section INI
variable {g : Gl} {d mc ms : Nat} {M : Mi} {w0 : Wd} {sz0 : Nat} {E : Rs → Wd → Nat → Prop} {pc : Nat} {L : List (Nat × Value)} {S : List Value} {w : Wd} {sz nc ns : Nat}
variable {rest A : List Value} {M' : Mi} {d' mc' ms' n idx szN nc' ns' : Nat} {P : Wd → Prop}
theorem v_ciN {a : Nat} (hd : decode M.2.1 pc = .ok (.invokespecial idx, 3)) (hl : fw_lnk M.1.cls idx M'.1) (hm : fw_me M' n) (hi : Cond.instanceMethod M'.1 ∈ fw_big) (hnm : M'.1.name = "<init>") (hr : M'.2.2.2.1 = none) (hh : M'.2.2.2.2 = []) (hA : A.length = n) (hS : S = A.reverse ++ .ref a :: rest) (hc : CT g d' mc' ms' M' (.ref a :: A) w sz (fun r w' sz' => r = .inl none ∧ sz' = szN ∧ P w')) (r1 : d' + 1 ≤ d) (r3 : nc' ≤ mc) (r4 : ns' ≤ ms) (e2 : nc + mc' = nc') (e3 : ns + ms' = ns') (hst : (rest.map fun v => v.category).sum ≤ 8)
    (kr : ∀ w', P w' → VV g d mc ms M w0 sz0 E (pc + 3) L rest w' szN nc' ns') : VV g d mc ms M w0 sz0 E pc L S w sz nc ns := by
  subst e2 e3
  refine v_ci hd hl hm hi hnm hr hh hA hS hc r1 r3 r4 hst (fun v w' sz' h => ?_) (fun k w' sz' h => by cases h.1)
  obtain ⟨h1, h2, h3⟩ := h
  cases h1
  subst h2
  exact kr w' h3
theorem v_aastW {a n v k : Nat} {f : Nat → Option Nat} {fs : List Value} {i : Int32} (hd : decode M.2.1 pc = .ok (.aastore, 1)) (ha : w a = some (cR n f)) (hv : w v = some (cO 1 fs)) (hi : i = nI k) (hk : k < n) (hn : n < 2 ^ 31)
    (kk : ∀ w', w' a = some (cR n (va_up f k (some v))) → (∀ q, q ≠ a → w' q = w q) → VV g d mc ms M w0 sz0 E (pc + 1) L S w' sz nc ns) : VV g d mc ms M w0 sz0 E pc L (.ref v :: .int i :: .ref a :: S) w sz nc ns := by
  subst hi
  refine v_aast (ci := 1) hd ha hv (vp_in_nI hk hn) ?_
  rw [nI_clamp (by omega)]
  exact kk _ (fw_up_s _ _ _) (fun _ h => fw_up_n _ _ h)
end INI
theorem ao_View : ∀ U : State, fw_T U → va_AO "DeltaViews$View" U := fun U h => h _ (fw_mem 69 (by decide +kernel) rfl)
set_option maxRecDepth 100000 in
set_option maxHeartbeats 4000000 in
theorem c_Bag_init (g : Gl) {w : Wd} {h : Nat} (hO : w h = some (cO 2 [.int 0, .int 0, .null, .null, .null])) : CT g 1 3 164 mi_Bag_init [.ref h] w (h + 1) (fun r w' sz' => r = .inl none ∧ sz' = h + 4 ∧ BGo w' h 2 0 (fun _ => 0) (fun _ => 0) (fun _ => 0) ∧ ∀ q, q < h ∨ h + 4 ≤ q → w' q = w q) := by
  refine CT.of (by decide) (Nat.le_of_ble_eq_true rfl) ?_
  refine v_aload_n (pc := 0) d_Bag_init_0 rfl rfl ?_
  refine v_oinit (pc := 1) d_Bag_init_1 oi_Bag oi_im oi_co (Nat.le_of_ble_eq_true rfl) (Nat.le_of_ble_eq_true rfl) ?_
  refine v_aload_n (pc := 4) d_Bag_init_4 rfl rfl ?_
  refine v_iconst (pc := 5) (v := nI 2) d_Bag_init_5 rfl ?_
  refine v_putW (pc := 6) (fs' := [.int (nI 2), .int 0, .null, .null, .null]) d_Bag_init_6 fl_Bag_9 (fi_Bag_9 _) (ok_Bag_0 _) hO (Nat.le_of_ble_eq_true rfl) rfl (fun w1 hn1 hq1 => ?_)
  refine v_aload_n (pc := 9) d_Bag_init_9 rfl rfl ?_
  refine v_iconst (pc := 10) (v := nI 0) d_Bag_init_10 rfl ?_
  refine v_putW (pc := 11) (fs' := [.int (nI 2), .int (nI 0), .null, .null, .null]) d_Bag_init_11 fl_Bag_15 (fi_Bag_15 _) (ok_Bag_1 _) hn1 (Nat.le_of_ble_eq_true rfl) rfl (fun w2 hn2 hq2 => ?_)
  refine v_aload_n (pc := 14) d_Bag_init_14 rfl rfl ?_
  refine v_sipush (pc := 15) (v := nI 128) d_Bag_init_15 rfl ?_
  refine v_newiW (pc := 18) (N := 128) (sz' := h + 2) (nc' := 1) (ns' := 128) d_Bag_init_18 rfl (Nat.le_of_ble_eq_true rfl) (Nat.le_of_ble_eq_true rfl) (Nat.le_of_ble_eq_true rfl) rfl rfl rfl (fun w3 hn3 hq3 => ?_)
  have hO3 := (hq3 h (by omega)).trans hn2
  refine v_putW (pc := 20) (fs' := [.int (nI 2), .int (nI 0), .ref (h + 1), .null, .null]) d_Bag_init_20 fl_Bag_18 fi_Bag_18 (ok_Bag_2 _) hO3 (Nat.le_of_ble_eq_true rfl) rfl (fun w4 hn4 hq4 => ?_)
  have A0_4 := (hq4 (h + 1) (by omega)).trans hn3
  refine v_aload_n (pc := 23) d_Bag_init_23 rfl rfl ?_
  refine v_bipush (pc := 24) (v := nI 32) d_Bag_init_24 rfl ?_
  refine v_newjW (pc := 26) (N := 32) (sz' := h + 3) (nc' := 2) (ns' := 160) d_Bag_init_26 rfl (Nat.le_of_ble_eq_true rfl) (Nat.le_of_ble_eq_true rfl) (Nat.le_of_ble_eq_true rfl) rfl rfl rfl (fun w5 hn5 hq5 => ?_)
  have hO5 := (hq5 h (by omega)).trans hn4
  have A0_5 := (hq5 (h + 1) (by omega)).trans A0_4
  refine v_putW (pc := 28) (fs' := [.int (nI 2), .int (nI 0), .ref (h + 1), .ref (h + 2), .null]) d_Bag_init_28 fl_Bag_22 fi_Bag_22 (ok_Bag_3 _) hO5 (Nat.le_of_ble_eq_true rfl) rfl (fun w6 hn6 hq6 => ?_)
  have A0_6 := (hq6 (h + 1) (by omega)).trans A0_5
  have A1_6 := (hq6 (h + 2) (by omega)).trans hn5
  refine v_aload_n (pc := 31) d_Bag_init_31 rfl rfl ?_
  refine v_iconst (pc := 32) (v := nI 4) d_Bag_init_32 rfl ?_
  refine v_newiW (pc := 33) (N := 4) (sz' := h + 4) (nc' := 3) (ns' := 164) d_Bag_init_33 rfl (Nat.le_of_ble_eq_true rfl) (Nat.le_of_ble_eq_true rfl) (Nat.le_of_ble_eq_true rfl) rfl rfl rfl (fun w7 hn7 hq7 => ?_)
  have hO7 := (hq7 h (by omega)).trans hn6
  have A0_7 := (hq7 (h + 1) (by omega)).trans A0_6
  have A1_7 := (hq7 (h + 2) (by omega)).trans A1_6
  refine v_putW (pc := 35) (fs' := [.int (nI 2), .int (nI 0), .ref (h + 1), .ref (h + 2), .ref (h + 3)]) d_Bag_init_35 fl_Bag_26 fi_Bag_26 (ok_Bag_4 _) hO7 (Nat.le_of_ble_eq_true rfl) rfl (fun w8 hn8 hq8 => ?_)
  have A0_8 := (hq8 (h + 1) (by omega)).trans A0_7
  have A1_8 := (hq8 (h + 2) (by omega)).trans A1_7
  have A2_8 := (hq8 (h + 3) (by omega)).trans hn7
  exact v_vret (pc := 38) d_Bag_init_38 rfl (Nat.le_of_ble_eq_true rfl) (Nat.le_of_ble_eq_true rfl) ⟨rfl, rfl, ⟨hn8, A0_8, A1_8, A2_8⟩, fun q hq => by rw [hq8 q (by omega), hq7 q (by omega), hq6 q (by omega), hq5 q (by omega), hq4 q (by omega), hq3 q (by omega), hq2 q (by omega), hq1 q (by omega)]⟩
set_option maxRecDepth 100000 in
set_option maxHeartbeats 4000000 in
theorem c_Batch_init (g : Gl) {w : Wd} {z : Nat} (hO : w z = some (cO 3 [.null, .null, .null, .null, .int 0])) : CT g 1 4 32 mi_Batch_init [.ref z] w (z + 1) (fun r w' sz' => r = .inl none ∧ sz' = z + 5 ∧ BTo w' z 0 (fun _ => 0) (fun _ => 0) (fun _ => 0) (fun _ => 0) ∧ ∀ q, q < z ∨ z + 5 ≤ q → w' q = w q) := by
  refine CT.of (by decide) (Nat.le_of_ble_eq_true rfl) ?_
  refine v_aload_n (pc := 0) d_Batch_init_0 rfl rfl ?_
  refine v_oinit (pc := 1) d_Batch_init_1 oi_Batch oi_im oi_co (Nat.le_of_ble_eq_true rfl) (Nat.le_of_ble_eq_true rfl) ?_
  refine v_aload_n (pc := 4) d_Batch_init_4 rfl rfl ?_
  refine v_bipush (pc := 5) (v := nI 8) d_Batch_init_5 rfl ?_
  refine v_newiW (pc := 7) (N := 8) (sz' := z + 2) (nc' := 1) (ns' := 8) d_Batch_init_7 rfl (Nat.le_of_ble_eq_true rfl) (Nat.le_of_ble_eq_true rfl) (Nat.le_of_ble_eq_true rfl) rfl rfl rfl (fun w1 hn1 hq1 => ?_)
  have hO1 := (hq1 z (by omega)).trans hO
  refine v_putW (pc := 9) (fs' := [.ref (z + 1), .null, .null, .null, .int 0]) d_Batch_init_9 fl_Batch_9 fi_Batch_9 (ok_Batch_0 _) hO1 (Nat.le_of_ble_eq_true rfl) rfl (fun w2 hn2 hq2 => ?_)
  have A0_2 := (hq2 (z + 1) (by omega)).trans hn1
  refine v_aload_n (pc := 12) d_Batch_init_12 rfl rfl ?_
  refine v_bipush (pc := 13) (v := nI 8) d_Batch_init_13 rfl ?_
  refine v_newiW (pc := 15) (N := 8) (sz' := z + 3) (nc' := 2) (ns' := 16) d_Batch_init_15 rfl (Nat.le_of_ble_eq_true rfl) (Nat.le_of_ble_eq_true rfl) (Nat.le_of_ble_eq_true rfl) rfl rfl rfl (fun w3 hn3 hq3 => ?_)
  have hO3 := (hq3 z (by omega)).trans hn2
  have A0_3 := (hq3 (z + 1) (by omega)).trans A0_2
  refine v_putW (pc := 17) (fs' := [.ref (z + 1), .ref (z + 2), .null, .null, .int 0]) d_Batch_init_17 fl_Batch_15 fi_Batch_15 (ok_Batch_1 _) hO3 (Nat.le_of_ble_eq_true rfl) rfl (fun w4 hn4 hq4 => ?_)
  have A0_4 := (hq4 (z + 1) (by omega)).trans A0_3
  have A1_4 := (hq4 (z + 2) (by omega)).trans hn3
  refine v_aload_n (pc := 20) d_Batch_init_20 rfl rfl ?_
  refine v_bipush (pc := 21) (v := nI 8) d_Batch_init_21 rfl ?_
  refine v_newiW (pc := 23) (N := 8) (sz' := z + 4) (nc' := 3) (ns' := 24) d_Batch_init_23 rfl (Nat.le_of_ble_eq_true rfl) (Nat.le_of_ble_eq_true rfl) (Nat.le_of_ble_eq_true rfl) rfl rfl rfl (fun w5 hn5 hq5 => ?_)
  have hO5 := (hq5 z (by omega)).trans hn4
  have A0_5 := (hq5 (z + 1) (by omega)).trans A0_4
  have A1_5 := (hq5 (z + 2) (by omega)).trans A1_4
  refine v_putW (pc := 25) (fs' := [.ref (z + 1), .ref (z + 2), .ref (z + 3), .null, .int 0]) d_Batch_init_25 fl_Batch_18 fi_Batch_18 (ok_Batch_2 _) hO5 (Nat.le_of_ble_eq_true rfl) rfl (fun w6 hn6 hq6 => ?_)
  have A0_6 := (hq6 (z + 1) (by omega)).trans A0_5
  have A1_6 := (hq6 (z + 2) (by omega)).trans A1_5
  have A2_6 := (hq6 (z + 3) (by omega)).trans hn5
  refine v_aload_n (pc := 28) d_Batch_init_28 rfl rfl ?_
  refine v_bipush (pc := 29) (v := nI 8) d_Batch_init_29 rfl ?_
  refine v_newiW (pc := 31) (N := 8) (sz' := z + 5) (nc' := 4) (ns' := 32) d_Batch_init_31 rfl (Nat.le_of_ble_eq_true rfl) (Nat.le_of_ble_eq_true rfl) (Nat.le_of_ble_eq_true rfl) rfl rfl rfl (fun w7 hn7 hq7 => ?_)
  have hO7 := (hq7 z (by omega)).trans hn6
  have A0_7 := (hq7 (z + 1) (by omega)).trans A0_6
  have A1_7 := (hq7 (z + 2) (by omega)).trans A1_6
  have A2_7 := (hq7 (z + 3) (by omega)).trans A2_6
  refine v_putW (pc := 33) (fs' := [.ref (z + 1), .ref (z + 2), .ref (z + 3), .ref (z + 4), .int 0]) d_Batch_init_33 fl_Batch_21 fi_Batch_21 (ok_Batch_3 _) hO7 (Nat.le_of_ble_eq_true rfl) rfl (fun w8 hn8 hq8 => ?_)
  have A0_8 := (hq8 (z + 1) (by omega)).trans A0_7
  have A1_8 := (hq8 (z + 2) (by omega)).trans A1_7
  have A2_8 := (hq8 (z + 3) (by omega)).trans A2_7
  have A3_8 := (hq8 (z + 4) (by omega)).trans hn7
  refine v_aload_n (pc := 36) d_Batch_init_36 rfl rfl ?_
  refine v_iconst (pc := 37) (v := nI 0) d_Batch_init_37 rfl ?_
  refine v_putW (pc := 38) (fs' := [.ref (z + 1), .ref (z + 2), .ref (z + 3), .ref (z + 4), .int (nI 0)]) d_Batch_init_38 fl_Batch_24 (fi_Batch_24 _) (ok_Batch_4 _) hn8 (Nat.le_of_ble_eq_true rfl) rfl (fun w9 hn9 hq9 => ?_)
  have A0_9 := (hq9 (z + 1) (by omega)).trans A0_8
  have A1_9 := (hq9 (z + 2) (by omega)).trans A1_8
  have A2_9 := (hq9 (z + 3) (by omega)).trans A2_8
  have A3_9 := (hq9 (z + 4) (by omega)).trans A3_8
  exact v_vret (pc := 41) d_Batch_init_41 rfl (Nat.le_of_ble_eq_true rfl) (Nat.le_of_ble_eq_true rfl) ⟨rfl, rfl, ⟨hn9, A0_9, A1_9, A2_9, A3_9⟩, fun q hq => by rw [hq9 q (by omega), hq8 q (by omega), hq7 q (by omega), hq6 q (by omega), hq5 q (by omega), hq4 q (by omega), hq3 q (by omega), hq2 q (by omega), hq1 q (by omega)]⟩
set_option maxRecDepth 100000 in
set_option maxHeartbeats 4000000 in
theorem c_Table_init (g : Gl) {w : Wd} {o sz : Nat} : CT g 2 0 0 mi_Table_init [.ref o] w sz (rdE none w sz) := by
  refine CT.of (by decide) (Nat.le_of_ble_eq_true rfl) ?_
  refine v_aload_n (pc := 0) d_Table_init_0 rfl rfl ?_
  refine v_ciR (pc := 1) (A := []) (rest := []) d_Table_init_1 lk_Table_3 me_Oper_init im_Oper_init rfl rfl rfl rfl rfl (c_Oper_init g) (Nat.le_of_ble_eq_true rfl) (Nat.le_of_ble_eq_true rfl) (Nat.le_of_ble_eq_true rfl) (Nat.le_of_ble_eq_true rfl) ?_
  exact v_vret (pc := 4) d_Table_init_4 rfl (Nat.le_of_ble_eq_true rfl) (Nat.le_of_ble_eq_true rfl) ⟨rfl, rfl, rfl⟩
set_option maxRecDepth 100000 in
set_option maxHeartbeats 4000000 in
theorem c_View_init (g : Gl) {w : Wd} {v o : Nat} (hO : w v = some (cO 1 [.null, .null, .null, .int 0])) : CT g 2 8 338 mi_View_init [.ref v, .ref o] w (v + 2) (fun r w' sz' => r = .inl none ∧ sz' = v + 10 ∧ w' v = some (cO 1 [.ref o, .ref (v + 2), .ref (v + 6), .int (nI 0)]) ∧ BGo w' (v + 2) 2 0 (fun _ => 0) (fun _ => 0) (fun _ => 0) ∧ BGo w' (v + 6) 2 0 (fun _ => 0) (fun _ => 0) (fun _ => 0) ∧ ∀ q, q ≠ v → (q < v + 2 ∨ v + 10 ≤ q) → w' q = w q) := by
  refine CT.of (by decide) (Nat.le_of_ble_eq_true rfl) ?_
  refine v_aload_n (pc := 0) d_View_init_0 rfl rfl ?_
  refine v_oinit (pc := 1) d_View_init_1 oi_View oi_im oi_co (Nat.le_of_ble_eq_true rfl) (Nat.le_of_ble_eq_true rfl) ?_
  refine v_aload_n (pc := 4) d_View_init_4 rfl rfl ?_
  refine v_newW (pc := 5) (sz' := v + 3) (nc' := 1) (ns' := 5) d_View_init_5 nw_View_7 (Nat.le_of_ble_eq_true rfl) (Nat.le_of_ble_eq_true rfl) rfl rfl rfl (fun w1 hn1 hq1 => ?_)
  have hO1 := (hq1 v (by omega)).trans hO
  refine v_dup (pc := 8) d_View_init_8 rfl ?_
  refine v_ciN (pc := 9) (A := []) (rest := [.ref (v + 2), .ref v]) (szN := v + 2 + 4) (nc' := 4) (ns' := 169) d_View_init_9 lk_View_9 me_Bag_init im_Bag_init rfl rfl rfl rfl rfl (c_Bag_init g hn1) (Nat.le_of_ble_eq_true rfl) (by omega) (by omega) (by omega) (by omega) (Nat.le_of_ble_eq_true rfl) (fun w2 ht2 => ?_)
  obtain ⟨hb2, hq2⟩ := ht2
  have hO2 := (hq2 v (by omega)).trans hO1
  refine v_putW (pc := 12) (fs' := [.null, .ref (v + 2), .null, .int 0]) d_View_init_12 fl_View_10 (fi_View_10 _) (ok_View_1 _) hO2 (Nat.le_of_ble_eq_true rfl) rfl (fun w3 hn3 hq3 => ?_)
  have B0_3 := hb2.mv (w' := w3) (fun q h h' => hq3 q (by omega))
  refine v_aload_n (pc := 15) d_View_init_15 rfl rfl ?_
  refine v_newW (pc := 16) (sz' := v + 7) (nc' := 5) (ns' := 174) d_View_init_16 nw_View_7 (Nat.le_of_ble_eq_true rfl) (Nat.le_of_ble_eq_true rfl) rfl rfl rfl (fun w4 hn4 hq4 => ?_)
  have hO4 := (hq4 v (by omega)).trans hn3
  have B0_4 := B0_3.mv (w' := w4) (fun q h h' => hq4 q (by omega))
  refine v_dup (pc := 19) d_View_init_19 rfl ?_
  refine v_ciN (pc := 20) (A := []) (rest := [.ref (v + 6), .ref v]) (szN := v + 6 + 4) (nc' := 8) (ns' := 338) d_View_init_20 lk_View_9 me_Bag_init im_Bag_init rfl rfl rfl rfl rfl (c_Bag_init g hn4) (Nat.le_of_ble_eq_true rfl) (by omega) (by omega) (by omega) (by omega) (Nat.le_of_ble_eq_true rfl) (fun w5 ht5 => ?_)
  obtain ⟨hb5, hq5⟩ := ht5
  have hO5 := (hq5 v (by omega)).trans hO4
  have B0_5 := B0_4.mv (w' := w5) (fun q h h' => hq5 q (by omega))
  refine v_putW (pc := 23) (fs' := [.null, .ref (v + 2), .ref (v + 6), .int 0]) d_View_init_23 fl_View_16 (fi_View_16 _) (ok_View_2 _) hO5 (Nat.le_of_ble_eq_true rfl) rfl (fun w6 hn6 hq6 => ?_)
  have B0_6 := B0_5.mv (w' := w6) (fun q h h' => hq6 q (by omega))
  have B1_6 := hb5.mv (w' := w6) (fun q h h' => hq6 q (by omega))
  refine v_aload_n (pc := 26) d_View_init_26 rfl rfl ?_
  refine v_iconst (pc := 27) (v := nI 0) d_View_init_27 rfl ?_
  refine v_putW (pc := 28) (fs' := [.null, .ref (v + 2), .ref (v + 6), .int (nI 0)]) d_View_init_28 fl_View_19 (fi_View_19 _) (ok_View_3 _) hn6 (Nat.le_of_ble_eq_true rfl) rfl (fun w7 hn7 hq7 => ?_)
  have B0_7 := B0_6.mv (w' := w7) (fun q h h' => hq7 q (by omega))
  have B1_7 := B1_6.mv (w' := w7) (fun q h h' => hq7 q (by omega))
  refine v_aload_n (pc := 31) d_View_init_31 rfl rfl ?_
  refine v_aload_n (pc := 32) d_View_init_32 rfl rfl ?_
  refine v_putW (pc := 33) (fs' := [.ref o, .ref (v + 2), .ref (v + 6), .int (nI 0)]) d_View_init_33 fl_View_23 (fi_View_23 _) (ok_View_0 _) hn7 (Nat.le_of_ble_eq_true rfl) rfl (fun w8 hn8 hq8 => ?_)
  have B0_8 := B0_7.mv (w' := w8) (fun q h h' => hq8 q (by omega))
  have B1_8 := B1_7.mv (w' := w8) (fun q h h' => hq8 q (by omega))
  exact v_vret (pc := 36) d_View_init_36 rfl (Nat.le_of_ble_eq_true rfl) (Nat.le_of_ble_eq_true rfl) ⟨rfl, rfl, hn8, B0_8, B1_8, fun q hq hq' => by rw [hq8 q (by omega), hq7 q (by omega), hq6 q (by omega), hq5 q (by omega), hq4 q (by omega), hq3 q (by omega), hq2 q (by omega), hq1 q (by omega)]⟩
def VI (W : Wd) (Z u : Nat) : Prop := W (VA Z u) = some (cO 1 [.ref (VA Z u + 1), .ref (VA Z u + 2), .ref (VA Z u + 6), .int (nI 0)]) ∧ W (VA Z u + 1) = some (cO 4 []) ∧ BGo W (VA Z u + 2) 2 0 (fun _ => 0) (fun _ => 0) (fun _ => 0) ∧ BGo W (VA Z u + 6) 2 0 (fun _ => 0) (fun _ => 0) (fun _ => 0)
theorem VI.mv {W W' : Wd} {Z u : Nat} (h : VI W Z u) (hq : ∀ q, VA Z u ≤ q → q < VA Z u + 10 → W' q = W q) : VI W' Z u := ⟨(hq _ (by omega) (by omega)).trans h.1, (hq _ (by omega) (by omega)).trans h.2.1, h.2.2.1.mv (fun q h h' => hq q (by omega) (by omega)), h.2.2.2.mv (fun q h h' => hq q (by omega) (by omega))⟩
def DI (W : Wd) (Z i : Nat) : Prop := W Z = some (cO 0 [.ref (Z + 1), .int (nI 3), .ref (Z + 2)]) ∧ (∃ fV, W (Z + 1) = some (cR 12 fV) ∧ ∀ u, u < i → fV u = some (VA Z u)) ∧ BTo W (Z + 2) 0 (fun _ => 0) (fun _ => 0) (fun _ => 0) (fun _ => 0) ∧ ∀ u, u < i → VI W Z u
set_option maxRecDepth 100000 in
set_option maxHeartbeats 4000000 in
theorem lp_DV_init (g : Gl) {w : Wd} {Z : Nat} : ∀ (zz : Nat) (i : Nat) (W : Wd), 12 - i = zz → i ≤ 12 → DI W Z i → (∀ q, q < Z ∨ Z + 127 ≤ q → W q = w q) → VV g 3 126 4153 mi_DV_init w (Z + 1) (fun r w' sz' => r = .inl none ∧ sz' = Z + 127 ∧ DI w' Z 12 ∧ ∀ q, q < Z ∨ Z + 127 ≤ q → w' q = w q) 31 [(1, .int (nI i)), (0, .ref Z)] [] W (VA Z i) (6 + 10 * i) (49 + 342 * i) := by
  intro zz
  induction zz using Nat.strongRecOn with | _ zz ih => _
  intro i W hnn hi hD hf
  have hvi : VA Z i = Z + 7 + 10 * i := rfl
  obtain ⟨fV, hfw, hfi⟩ := hD.2.1
  refine v_iload_n (pc := 31) d_DV_init_31 rfl rfl ?_
  refine v_bipush (pc := 32) (v := nI 12) d_DV_init_32 rfl ?_
  refine v_icmp_ge (pc := 34) (tgt := 63) d_DV_init_34 rfl (fun hc => ?_) (fun hc => ?_)
  · skip
    rw [nI_leI (by omega) (by omega)] at hc
    have hi12 : i = 12 := by omega
    subst hi12
    exact v_vret (pc := 63) d_DV_init_63 rfl (by omega) (by omega) ⟨rfl, rfl, hD, hf⟩
  · skip
    rw [nI_leI (by omega) (by omega)] at hc
    refine v_aload_n (pc := 37) d_DV_init_37 rfl rfl ?_
    refine v_get (pc := 38) d_DV_init_38 fl_DV_11 hD.1 rfl ?_
    refine v_iload_n (pc := 41) d_DV_init_41 rfl rfl ?_
    refine v_newW (pc := 42) (sz' := VA Z i + 1) (nc' := 6 + 10 * i + 1) (ns' := 49 + 342 * i + 4) d_DV_init_42 nw_DV_9 (by omega) (by omega) rfl rfl rfl (fun w1 hn1 hq1 => ?_)
    refine v_dup (pc := 45) d_DV_init_45 rfl ?_
    refine v_newW (pc := 46) (sz' := VA Z i + 2) (nc' := 6 + 10 * i + 2) (ns' := 49 + 342 * i + 4) d_DV_init_46 nw_DV_26 (by omega) (by omega) rfl rfl rfl (fun w2 hn2 hq2 => ?_)
    refine v_dup (pc := 49) d_DV_init_49 rfl ?_
    refine v_ciR (pc := 50) (A := []) (rest := [.ref (VA Z i + 1), .ref (VA Z i), .ref (VA Z i), .int (nI i), .ref (Z + 1)]) d_DV_init_50 lk_DV_28 me_Table_init im_Table_init rfl rfl rfl rfl rfl (c_Table_init g) (Nat.le_of_ble_eq_true rfl) (by omega) (by omega) (Nat.le_of_ble_eq_true rfl) ?_
    refine v_ciN (pc := 53) (A := [.ref (VA Z i + 1)]) (rest := [.ref (VA Z i), .int (nI i), .ref (Z + 1)]) (szN := VA Z i + 10) (nc' := 6 + 10 * i + 10) (ns' := 49 + 342 * i + 342) d_DV_init_53 lk_DV_29 me_View_init im_View_init rfl rfl rfl rfl rfl (c_View_init g (o := VA Z i + 1) ((hq2 _ (by omega)).trans hn1)) (Nat.le_of_ble_eq_true rfl) (by omega) (by omega) (by omega) (by omega) (Nat.le_of_ble_eq_true rfl) (fun w3 ht3 => ?_)
    obtain ⟨hv3, hb3, hc3, hq3⟩ := ht3
    have hfw3 := (hq3 (Z + 1) (by omega) (by omega)).trans ((hq2 _ (by omega)).trans ((hq1 _ (by omega)).trans hfw))
    refine v_aastW (pc := 56) (k := i) d_DV_init_56 hfw3 hv3 rfl (by omega) (by decide) (fun w5 hn5 hq5 => ?_)
    have hlo : ∀ q, q < VA Z i → q ≠ Z + 1 → w5 q = W q := fun q h h' => (hq5 q h').trans ((hq3 q (by omega) (by omega)).trans ((hq2 q (by omega)).trans (hq1 q (by omega))))
    have hD5 : DI w5 Z (i + 1) := by
      refine ⟨(hlo _ (by omega) (by omega)).trans hD.1, ⟨_, hn5, fun u hu => ?_⟩, hD.2.2.1.mv (fun q h h' => hlo q (by omega) (by omega)), fun u hu => ?_⟩
      · by_cases e : u = i
        · subst e; exact va_up_self _ _ _
        · rw [va_up_ne _ _ e]; exact hfi u (by omega)
      · by_cases e : u = i
        · subst e; exact ⟨(hq5 _ (by omega)).trans hv3, (hq5 _ (by omega)).trans ((hq3 _ (by omega) (by omega)).trans hn2), hb3.mv (fun q h h' => hq5 q (by omega)), hc3.mv (fun q h h' => hq5 q (by omega))⟩
        · have hvu : VA Z u = Z + 7 + 10 * u := rfl
          exact (hD.2.2.2 u (by omega)).mv (fun q h h' => hlo q (by omega) (by omega))
    have hf5 : ∀ q, q < Z ∨ Z + 127 ≤ q → w5 q = w q := fun q hq => (hq5 q (by omega)).trans ((hq3 q (by omega) (by omega)).trans ((hq2 q (by omega)).trans ((hq1 q (by omega)).trans (hf q hq))))
    refine v_iinc (pc := 57) (L' := [(1, .int (nI (i + 1))), (0, .ref Z)]) d_DV_init_57 rfl (ix_inc _) (by decide) rfl ?_
    refine v_goto (pc := 60) (tgt := 31) d_DV_init_60 rfl ?_
    refine v_sub (L' := [(1, .int (nI (i + 1))), (0, .ref Z)]) (by simp) ?_
    exact ih (12 - (i + 1)) (by omega) (i + 1) w5 rfl (by omega) hD5 hf5
set_option maxRecDepth 100000 in
set_option maxHeartbeats 4000000 in
theorem c_DV_init (g : Gl) {w : Wd} {Z : Nat} (hO : w Z = some (cO 0 [.null, .int 0, .null])) : CT g 3 126 4153 mi_DV_init [.ref Z] w (Z + 1) (fun r w' sz' => r = .inl none ∧ sz' = Z + 127 ∧ DI w' Z 12 ∧ ∀ q, q < Z ∨ Z + 127 ≤ q → w' q = w q) := by
  refine CT.of (by decide) (Nat.le_of_ble_eq_true rfl) ?_
  refine v_aload_n (pc := 0) d_DV_init_0 rfl rfl ?_
  refine v_oinit (pc := 1) d_DV_init_1 oi_DV oi_im oi_co (Nat.le_of_ble_eq_true rfl) (Nat.le_of_ble_eq_true rfl) ?_
  refine v_aload_n (pc := 4) d_DV_init_4 rfl rfl ?_
  refine v_bipush (pc := 5) (v := nI 12) d_DV_init_5 rfl ?_
  refine v_newrW (pc := 7) (N := 12) (sz' := Z + 2) (nc' := 1) (ns' := 12) d_DV_init_7 (fw_mem 68 (by decide +kernel) rfl) ao_View rfl (Nat.le_of_ble_eq_true rfl) (Nat.le_of_ble_eq_true rfl) (Nat.le_of_ble_eq_true rfl) rfl rfl rfl (fun w1 hn1 hq1 => ?_)
  have hO1 := (hq1 Z (by omega)).trans hO
  refine v_putW (pc := 10) (fs' := [.ref (Z + 1), .int 0, .null]) d_DV_init_10 fl_DV_11 fi_DV_11 (ok_DV_0 _) hO1 (Nat.le_of_ble_eq_true rfl) rfl (fun w2 hn2 hq2 => ?_)
  refine v_aload_n (pc := 13) d_DV_init_13 rfl rfl ?_
  refine v_iconst (pc := 14) (v := nI 3) d_DV_init_14 rfl ?_
  refine v_putW (pc := 15) (fs' := [.ref (Z + 1), .int (nI 3), .null]) d_DV_init_15 fl_DV_15 (fi_DV_15 _) (ok_DV_1 _) hn2 (Nat.le_of_ble_eq_true rfl) rfl (fun w3 hn3 hq3 => ?_)
  refine v_aload_n (pc := 18) d_DV_init_18 rfl rfl ?_
  refine v_newW (pc := 19) (sz' := Z + 3) (nc' := 2) (ns' := 17) d_DV_init_19 nw_DV_19 (Nat.le_of_ble_eq_true rfl) (Nat.le_of_ble_eq_true rfl) rfl rfl rfl (fun w4 hn4 hq4 => ?_)
  refine v_dup (pc := 22) d_DV_init_22 rfl ?_
  refine v_ciN (pc := 23) (A := []) (rest := [.ref (Z + 2), .ref Z]) (szN := Z + 2 + 5) (nc' := 6) (ns' := 49) d_DV_init_23 lk_DV_21 me_Batch_init im_Batch_init rfl rfl rfl rfl rfl (c_Batch_init g hn4) (Nat.le_of_ble_eq_true rfl) (by omega) (by omega) (by omega) (by omega) (Nat.le_of_ble_eq_true rfl) (fun w5 ht5 => ?_)
  obtain ⟨hb5, hq5⟩ := ht5
  have hO5 := (hq5 Z (by omega)).trans ((hq4 _ (by omega)).trans hn3)
  refine v_putW (pc := 26) (fs' := [.ref (Z + 1), .int (nI 3), .ref (Z + 2)]) d_DV_init_26 fl_DV_22 fi_DV_22 (ok_DV_2 _) hO5 (Nat.le_of_ble_eq_true rfl) rfl (fun w6 hn6 hq6 => ?_)
  refine v_iconst (pc := 29) (v := nI 0) d_DV_init_29 rfl ?_
  refine v_istore_n (pc := 30) (L' := [(1, .int (nI 0)), (0, .ref Z)]) d_DV_init_30 rfl (by decide) rfl ?_
  refine v_sub (L' := [(1, .int (nI 0)), (0, .ref Z)]) (by simp) ?_
  exact lp_DV_init g (12 - 0) 0 w6 rfl (Nat.zero_le _) ⟨hn6, ⟨_, (hq6 _ (by omega)).trans ((hq5 _ (by omega)).trans ((hq4 _ (by omega)).trans ((hq3 _ (by omega)).trans ((hq2 _ (by omega)).trans hn1)))), fun u hu => absurd hu (Nat.not_lt_zero _)⟩, hb5.mv (fun q h h' => hq6 q (by omega)), fun u hu => absurd hu (Nat.not_lt_zero _)⟩ (fun q hq => by rw [hq6 q (by omega), hq5 q (by omega), hq4 q (by omega), hq3 q (by omega), hq2 q (by omega), hq1 q (by omega)])
/-- the first state -/
def as0 : As := (3, fun _ => 2, fun _ => (0, 0, 0, 0, 0, 0), fun _ => [], fun _ => 0, [])
theorem as0_AW : AWa as0 := ⟨by decide, by decide, by decide, fun v _ => ⟨show 1 ≤ 2 by decide, show 2 ≤ 4 by decide, ma_ok_nil _, show 0 ≤ 16 by decide⟩, fun v _ => ⟨rfl, rfl⟩, fun v h h' => absurd h' (by show ¬ v < 3; omega), fun x hx => by cases hx⟩
theorem DI.cr {w : Wd} {Z sz : Nat} (h : DI w Z 12) (hs : Z + 147 ≤ sz) : CR w Z sz as0 (fun _ => false) (fun i => VA Z i + 1) := by
  obtain ⟨h1, h2, h3, h4⟩ := h
  have e1 : ∀ i, nwA Z (fun _ => false) i = VA Z i + 2 := fun i => rfl
  have e2 : ∀ i, bfA Z (fun _ => false) i = VA Z i + 6 := fun i => rfl
  refine ⟨h1, h2, ⟨_, _, _, _, h3, rfl⟩, fun i hi => ?_, fun i hi => ?_, fun i hi => rfl, hs⟩
  · obtain ⟨c1, c2, c3, c4⟩ := h4 i hi
    have hvi : VA Z i = Z + 7 + 10 * i := rfl
    rw [e1, e2]
    exact ⟨⟨_, c1, fun _ => rfl⟩, ⟨_, _, _, _, _, c3, by decide, by decide⟩, ⟨_, _, _, _, _, c4, by decide, by decide⟩, Or.inl rfl, by show VA Z i + 1 < sz; omega⟩
  · have hi : i < 3 := hi
    obtain ⟨c1, c2, c3, c4⟩ := h4 i (by omega)
    rw [e1]
    exact ⟨⟨_, _, _, c3, rfl⟩, Or.inl ⟨rfl, c2⟩⟩
theorem ra0 {w : Wd} {b : Nat} (h : MAt w b (fun j => if j = 1 then nI 3 else 0) (fun k i => if k = 0 then (if i < 3 then nI 2 else 0) else 0) (fun _ _ => 0)) : RRa w b as0 (nI 0) := by
  refine ⟨_, _, _, h, rfl, rfl, rfl, rfl, fun v hv => ⟨?_, rfl, rfl, show 0 ≤ 16 by decide, rfl⟩, fun v h3 hv => absurd hv (by show ¬ v < 3; omega)⟩
  show (if (0 : Nat) = 0 then (if v < 3 then nI 2 else 0) else 0) = nI 2
  rw [if_pos rfl, if_pos (show v < 3 from hv)]
