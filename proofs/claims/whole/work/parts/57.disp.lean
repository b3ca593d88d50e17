/-! Calls through Operation; a view's methods. -/
def fillN : MethodName := { cls := "DeltaViews$Operation", name := "fill", desc := "(LDeltaViews$Bag;LDeltaViews$Bag;)V" }
def alloN : MethodName := { cls := "DeltaViews$Operation", name := "allows", desc := "(LDeltaViews$Bag;)Z" }
theorem df_l : Cond.methodLink "DeltaViews$View" 27 fillN ∈ fw_big := fw_mem 324 (by decide +kernel) rfl
theorem df_d : Cond.declares fillN ∈ fw_big := fw_mem 325 (by decide +kernel) rfl
theorem df_s : Cond.sameMethod fillN.cls fillN.cls fillN.name fillN.desc ∈ fw_big := fw_mem 326 (by decide +kernel) rfl
theorem da_l : Cond.methodLink "DeltaViews$View" 36 alloN ∈ fw_big := fw_mem 465 (by decide +kernel) rfl
theorem da_s : Cond.sameMethod alloN.cls alloN.cls alloN.name alloN.desc ∈ fw_big := fw_mem 467 (by decide +kernel) rfl
theorem da_d : Cond.declares alloN ∈ fw_big ∨ ∃ b n r, Cond.instanceMethod alloN ∈ fw_big ∧ Cond.code alloN b n r ∈ fw_big := Or.inr ⟨_, _, _, im_Oper_allows, me_Oper_allows.1⟩
theorem df_Distinct : Cond.selects "DeltaViews$Distinct" fillN mi_Distinct_fill.1 ∈ fw_big := fw_mem 327 (by decide +kernel) rfl
theorem da_Distinct : Cond.selects "DeltaViews$Distinct" alloN mi_Oper_allows.1 ∈ fw_big := fw_mem 468 (by decide +kernel) rfl
theorem df_Group : Cond.selects "DeltaViews$Group" fillN mi_Group_fill.1 ∈ fw_big := fw_mem 373 (by decide +kernel) rfl
theorem da_Group : Cond.selects "DeltaViews$Group" alloN mi_Oper_allows.1 ∈ fw_big := fw_mem 469 (by decide +kernel) rfl
theorem df_Join : Cond.selects "DeltaViews$Join" fillN mi_Join_fill.1 ∈ fw_big := fw_mem 400 (by decide +kernel) rfl
theorem da_Join : Cond.selects "DeltaViews$Join" alloN mi_Oper_allows.1 ∈ fw_big := fw_mem 470 (by decide +kernel) rfl
theorem df_Project : Cond.selects "DeltaViews$Project" fillN mi_Project_fill.1 ∈ fw_big := fw_mem 413 (by decide +kernel) rfl
theorem da_Project : Cond.selects "DeltaViews$Project" alloN mi_Oper_allows.1 ∈ fw_big := fw_mem 471 (by decide +kernel) rfl
theorem df_Select : Cond.selects "DeltaViews$Select" fillN mi_Select_fill.1 ∈ fw_big := fw_mem 424 (by decide +kernel) rfl
theorem da_Select : Cond.selects "DeltaViews$Select" alloN mi_Oper_allows.1 ∈ fw_big := fw_mem 472 (by decide +kernel) rfl
theorem df_Table : Cond.selects "DeltaViews$Table" fillN mi_Table_fill.1 ∈ fw_big := fw_mem 437 (by decide +kernel) rfl
theorem da_Table : Cond.selects "DeltaViews$Table" alloN mi_Table_allows.1 ∈ fw_big := fw_mem 473 (by decide +kernel) rfl
theorem df_Union : Cond.selects "DeltaViews$Union" fillN mi_Union_fill.1 ∈ fw_big := fw_mem 444 (by decide +kernel) rfl
theorem da_Union : Cond.selects "DeltaViews$Union" alloN mi_Oper_allows.1 ∈ fw_big := fw_mem 480 (by decide +kernel) rfl
/-- what fill does, whichever it is -/
def FC (g : Gl) (w : Wd) (od hb h sz : Nat) (P : Wd → Prop) : Prop := ∃ (ci : Nat) (C : String) (T : u_T) (N : Nat) (fs : List Value) (M' : Mi) (d' : Nat), vwCl[ci]? = some (C, T, N) ∧ w od = some (cO ci fs) ∧ Cond.selects C fillN M'.1 ∈ fw_big ∧ fw_me M' 2 ∧ Cond.instanceMethod M'.1 ∈ fw_big ∧ d' ≤ 5 ∧ CT g d' 0 0 M' [.ref od, .ref hb, .ref h] w sz (wrE none sz P)
def AC (g : Gl) (w : Wd) (od h sz : Nat) (b : Bool) : Prop := ∃ (ci : Nat) (C : String) (T : u_T) (N : Nat) (fs : List Value) (M' : Mi) (d' : Nat), vwCl[ci]? = some (C, T, N) ∧ w od = some (cO ci fs) ∧ Cond.selects C alloN M'.1 ∈ fw_big ∧ fw_me M' 1 ∧ Cond.instanceMethod M'.1 ∈ fw_big ∧ d' ≤ 5 ∧ CT g d' 0 0 M' [.ref od, .ref h] w sz (rdE (some (.int (if b = true then 1 else 0))) w sz)
section DI
variable {g : Gl} {d mc ms : Nat} {M : Mi} {w0 : Wd} {sz0 : Nat} {E : Rs → Wd → Nat → Prop} {pc : Nat} {L : List (Nat × Value)} {rest : List Value} {w : Wd} {sz nc ns : Nat}
theorem v_fill {od hb h : Nat} {P : Wd → Prop} (hd : decode M.2.1 pc = .ok (.invokevirtual 27, 3)) (hcl : M.1.cls = "DeltaViews$View") (hf : FC g w od hb h sz P) (hdd : 6 ≤ d) (h1 : nc ≤ mc) (h2 : ns ≤ ms) (hst : (rest.map fun v => v.category).sum ≤ 8) (k : ∀ w', P w' → VV g d mc ms M w0 sz0 E (pc + 3) L rest w' sz nc ns) : VV g d mc ms M w0 sz0 E pc L (.ref h :: .ref hb :: .ref od :: rest) w sz nc ns := by
  obtain ⟨ci, C, T, N, fs, M', d', e1, e2, e3, e4, e5, e6, e7⟩ := hf
  exact v_call (en_u hd (by rw [hcl]; exact df_l) df_s (Or.inl df_d) e4.1 e4.2.1 e5 e3 e1 e2 (by decide) (A := [.ref hb, .ref h]) (by show _ = some 2; decide +kernel) rfl) e7 e4.1 e4.2.1 e4.2.2.1 (by omega) e4.2.2.2.2.2 h1 h2 hst (wrE.k k) wrE.t
theorem v_allows {od h : Nat} {b : Bool} (hd : decode M.2.1 pc = .ok (.invokevirtual 36, 3)) (hcl : M.1.cls = "DeltaViews$View") (hf : AC g w od h sz b) (hdd : 6 ≤ d) (h1 : nc ≤ mc) (h2 : ns ≤ ms) (hst : (rest.map fun v => v.category).sum ≤ 8) (k : VV g d mc ms M w0 sz0 E (pc + 3) L (.int (if b = true then 1 else 0) :: rest) w sz nc ns) : VV g d mc ms M w0 sz0 E pc L (.ref h :: .ref od :: rest) w sz nc ns := by
  obtain ⟨ci, C, T, N, fs, M', d', e1, e2, e3, e4, e5, e6, e7⟩ := hf
  exact v_call (en_u hd (by rw [hcl]; exact da_l) da_s da_d e4.1 e4.2.1 e5 e3 e1 e2 (by decide) (A := [.ref h]) (by show _ = some 1; decide +kernel) rfl) e7 e4.1 e4.2.1 e4.2.2.1 (by omega) e4.2.2.2.2.2 h1 h2 hst (rdE.k k) rdE.t
end DI
set_option maxRecDepth 100000 in
set_option maxHeartbeats 4000000 in
theorem c_View_exchangeBags (g : Gl) {w : Wd} {v od a b sz : Nat} {x : Int32} (hV : w v = some (cO 1 [.ref od, .ref a, .ref b, .int x])) : CT g 0 0 0 mi_View_exchangeBags [.ref v] w sz (wrE none sz (fun w' => w' v = some (cO 1 [.ref od, .ref b, .ref a, .int x]) ∧ ∀ q, q ≠ v → w' q = w q)) := by
  refine CT.of (by decide) (Nat.le_of_ble_eq_true rfl) ?_
  refine v_aload_n (pc := 0) d_View_exchangeBags_0 rfl rfl ?_
  refine v_get (pc := 1) d_View_exchangeBags_1 fl_View_10 hV rfl ?_
  refine v_astore_n (pc := 4) (L' := [(1, .ref a), (0, .ref v)]) d_View_exchangeBags_4 rfl (by decide) rfl ?_
  refine v_aload_n (pc := 5) d_View_exchangeBags_5 rfl rfl ?_
  refine v_aload_n (pc := 6) d_View_exchangeBags_6 rfl rfl ?_
  refine v_get (pc := 7) d_View_exchangeBags_7 fl_View_16 hV rfl ?_
  refine v_putW (pc := 10) (fs' := [.ref od, .ref b, .ref b, .int x]) d_View_exchangeBags_10 fl_View_10 (fi_View_10 _) (ok_View_1 _) hV (Nat.le_of_ble_eq_true rfl) rfl (fun w1 hn1 hq1 => ?_)
  refine v_aload_n (pc := 13) d_View_exchangeBags_13 rfl rfl ?_
  refine v_aload_n (pc := 14) d_View_exchangeBags_14 rfl rfl ?_
  refine v_putW (pc := 15) (fs' := [.ref od, .ref b, .ref a, .int x]) d_View_exchangeBags_15 fl_View_16 (fi_View_16 _) (ok_View_2 _) hn1 (Nat.le_of_ble_eq_true rfl) rfl (fun w2 hn2 hq2 => ?_)
  exact v_vret (pc := 18) d_View_exchangeBags_18 rfl (Nat.le_of_ble_eq_true rfl) (Nat.le_of_ble_eq_true rfl) ⟨rfl, rfl, hn2, fun q hq => (hq2 q hq).trans (hq1 q hq)⟩
set_option maxRecDepth 100000 in
set_option maxHeartbeats 4000000 in
theorem c_View_renew (g : Gl) {w : Wd} {v od a b sz : Nat} {x : Int32} (hV : w v = some (cO 1 [.ref od, .ref a, .ref b, .int x])) {P : Wd → Wd → Prop} (hfc : ∀ w1, w1 v = some (cO 1 [.ref od, .ref b, .ref a, .int x]) → (∀ q, q ≠ v → w1 q = w q) → FC g w1 od a b sz (P w1)) : CT g 6 0 0 mi_View_renew [.ref v] w sz (wrE none sz (fun w' => ∃ w1, w1 v = some (cO 1 [.ref od, .ref b, .ref a, .int x]) ∧ (∀ q, q ≠ v → w1 q = w q) ∧ P w1 w')) := by
  refine CT.of (by decide) (Nat.le_of_ble_eq_true rfl) ?_
  refine v_aload_n (pc := 0) d_View_renew_0 rfl rfl ?_
  refine v_cvV (pc := 1) (A := []) (rest := []) d_View_renew_1 lk_View_33 me_View_exchangeBags im_View_exchangeBags se_View_exchangeBags rfl hV rfl rfl (c_View_exchangeBags g hV) (Nat.le_of_ble_eq_true rfl) (Nat.le_of_ble_eq_true rfl) (Nat.le_of_ble_eq_true rfl) (Nat.le_of_ble_eq_true rfl) (fun w1 ht1 => ?_)
  obtain ⟨h1, hq1⟩ := ht1
  refine v_aload_n (pc := 4) d_View_renew_4 rfl rfl ?_
  refine v_get (pc := 5) d_View_renew_5 fl_View_23 h1 rfl ?_
  refine v_aload_n (pc := 8) d_View_renew_8 rfl rfl ?_
  refine v_get (pc := 9) d_View_renew_9 fl_View_16 h1 rfl ?_
  refine v_aload_n (pc := 12) d_View_renew_12 rfl rfl ?_
  refine v_get (pc := 13) d_View_renew_13 fl_View_10 h1 rfl ?_
  refine v_fill (pc := 16) d_View_renew_16 rfl (hfc w1 h1 hq1) (Nat.le_of_ble_eq_true rfl) (Nat.le_of_ble_eq_true rfl) (Nat.le_of_ble_eq_true rfl) (Nat.le_of_ble_eq_true rfl) (fun w2 hP => ?_)
  exact v_vret (pc := 19) d_View_renew_19 rfl (Nat.le_of_ble_eq_true rfl) (Nat.le_of_ble_eq_true rfl) ⟨rfl, rfl, w1, h1, hq1, hP⟩
set_option maxRecDepth 100000 in
set_option maxHeartbeats 4000000 in
theorem c_View_begin (g : Gl) {w : Wd} {v od a b sz : Nat} {x : Int32} (hV : w v = some (cO 1 [.ref od, .ref a, .ref b, .int x])) {o2 : Nat} {P : Wd → Wd → Prop} (hfc : ∀ w1, w1 v = some (cO 1 [.ref o2, .ref a, .ref b, .int (nI 0)]) → (∀ q, q ≠ v → w1 q = w q) → FC g w1 o2 b a sz (P w1)) : CT g 6 0 0 mi_View_begin [.ref v, .ref o2] w sz (wrE none sz (fun w' => ∃ w1, w1 v = some (cO 1 [.ref o2, .ref a, .ref b, .int (nI 0)]) ∧ (∀ q, q ≠ v → w1 q = w q) ∧ P w1 w')) := by
  refine CT.of (by decide) (Nat.le_of_ble_eq_true rfl) ?_
  refine v_aload_n (pc := 0) d_View_begin_0 rfl rfl ?_
  refine v_aload_n (pc := 1) d_View_begin_1 rfl rfl ?_
  refine v_putW (pc := 2) (fs' := [.ref o2, .ref a, .ref b, .int x]) d_View_begin_2 fl_View_23 (fi_View_23 _) (ok_View_0 _) hV (Nat.le_of_ble_eq_true rfl) rfl (fun w1 hn1 hq1 => ?_)
  refine v_aload_n (pc := 5) d_View_begin_5 rfl rfl ?_
  refine v_iconst (pc := 6) (v := nI 0) d_View_begin_6 rfl ?_
  refine v_putW (pc := 7) (fs' := [.ref o2, .ref a, .ref b, .int (nI 0)]) d_View_begin_7 fl_View_19 (fi_View_19 _) (ok_View_3 _) hn1 (Nat.le_of_ble_eq_true rfl) rfl (fun w2 hn2 hq2 => ?_)
  have hqq : ∀ q, q ≠ v → w2 q = w q := fun q hq => (hq2 q hq).trans (hq1 q hq)
  refine v_aload_n (pc := 10) d_View_begin_10 rfl rfl ?_
  refine v_get (pc := 11) d_View_begin_11 fl_View_23 hn2 rfl ?_
  refine v_aload_n (pc := 14) d_View_begin_14 rfl rfl ?_
  refine v_get (pc := 15) d_View_begin_15 fl_View_16 hn2 rfl ?_
  refine v_aload_n (pc := 18) d_View_begin_18 rfl rfl ?_
  refine v_get (pc := 19) d_View_begin_19 fl_View_10 hn2 rfl ?_
  refine v_fill (pc := 22) d_View_begin_22 rfl (hfc w2 hn2 hqq) (Nat.le_of_ble_eq_true rfl) (Nat.le_of_ble_eq_true rfl) (Nat.le_of_ble_eq_true rfl) (Nat.le_of_ble_eq_true rfl) (fun w3 hP => ?_)
  exact v_vret (pc := 25) d_View_begin_25 rfl (Nat.le_of_ble_eq_true rfl) (Nat.le_of_ble_eq_true rfl) ⟨rfl, rfl, w2, hn2, hqq, hP⟩
set_option maxRecDepth 100000 in
set_option maxHeartbeats 4000000 in
theorem c_View_keepsLimits (g : Gl) {w : Wd} {v od a b sz : Nat} {x : Int32} (hV : w v = some (cO 1 [.ref od, .ref a, .ref b, .int x])) {bo : Bool} (hac : AC g w od a sz bo) : CT g 6 0 0 mi_View_keepsLimits [.ref v] w sz (rdE (some (.int (if bo = true then 1 else 0))) w sz) := by
  refine CT.of (by decide) (Nat.le_of_ble_eq_true rfl) ?_
  refine v_aload_n (pc := 0) d_View_keepsLimits_0 rfl rfl ?_
  refine v_get (pc := 1) d_View_keepsLimits_1 fl_View_23 hV rfl ?_
  refine v_aload_n (pc := 4) d_View_keepsLimits_4 rfl rfl ?_
  refine v_get (pc := 5) d_View_keepsLimits_5 fl_View_10 hV rfl ?_
  refine v_allows (pc := 8) d_View_keepsLimits_8 rfl hac (Nat.le_of_ble_eq_true rfl) (Nat.le_of_ble_eq_true rfl) (Nat.le_of_ble_eq_true rfl) (Nat.le_of_ble_eq_true rfl) ?_
  exact v_zret (pc := 11) d_View_keepsLimits_11 rfl zb (Nat.le_of_ble_eq_true rfl) (Nat.le_of_ble_eq_true rfl) ⟨rfl, rfl, rfl⟩
set_option maxRecDepth 100000 in
set_option maxHeartbeats 4000000 in
theorem c_View_countMoved (g : Gl) {w : Wd} {v od a b sz : Nat} {x : Int32} (hV : w v = some (cO 1 [.ref od, .ref a, .ref b, .int x])) {wd n ne : Nat} {f fe pd pe : Nat → Int32} {m me : Nat → Int64} (hB : BGo w a wd n f m pd) (hE : BGo w b wd ne fe me pe) (hwd : wd ≤ 4) (hn : n ≤ 32) (hne : ne ≤ 32) : CT g 3 0 0 mi_View_countMoved [.ref v] w sz (wrE none sz (fun w' => w' v = some (cO 1 [.ref od, .ref a, .ref b, .int (nI (ma_mv (ar_bag f m wd 0 n) (ar_bag fe me wd 0 ne)))]) ∧ ∀ q, q ≠ v → w' q = w q)) := by
  refine CT.of (by decide) (Nat.le_of_ble_eq_true rfl) ?_
  refine v_aload_n (pc := 0) d_View_countMoved_0 rfl rfl ?_
  refine v_aload_n (pc := 1) d_View_countMoved_1 rfl rfl ?_
  refine v_get (pc := 2) d_View_countMoved_2 fl_View_10 hV rfl ?_
  refine v_aload_n (pc := 5) d_View_countMoved_5 rfl rfl ?_
  refine v_get (pc := 6) d_View_countMoved_6 fl_View_16 hV rfl ?_
  refine v_cvR (pc := 9) (A := [.ref b]) (rest := [.ref v]) (x := .int (nI (ma_mv (ar_bag f m wd 0 n) (ar_bag fe me wd 0 ne)))) d_View_countMoved_9 lk_View_40 me_Bag_differencesFrom im_Bag_differencesFrom se_Bag_differencesFrom rfl hB.o rfl rfl (c_Bag_differencesFrom g hB hE hwd hn hne) (Nat.le_of_ble_eq_true rfl) (Nat.le_of_ble_eq_true rfl) (Nat.le_of_ble_eq_true rfl) (Nat.le_of_ble_eq_true rfl) ?_
  refine v_putW (pc := 12) (fs' := [.ref od, .ref a, .ref b, .int (nI (ma_mv (ar_bag f m wd 0 n) (ar_bag fe me wd 0 ne)))]) d_View_countMoved_12 fl_View_19 (fi_View_19 _) (ok_View_3 _) hV (Nat.le_of_ble_eq_true rfl) rfl (fun w1 hn1 hq1 => ?_)
  exact v_vret (pc := 15) d_View_countMoved_15 rfl (Nat.le_of_ble_eq_true rfl) (Nat.le_of_ble_eq_true rfl) ⟨rfl, rfl, hn1, hq1⟩
