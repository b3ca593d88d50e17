/-! the view that is made -/
theorem CR.ext {w w' : Wd} {Z sz : Nat} {a : As} {sw : Nat → Bool} {od : Nat → Nat} (h : CR w Z sz a sw od) (hA : a.1 ≤ 12) (hq : ∀ q, q < sz → w' q = w q) : CR w' Z sz a sw od := by
  obtain ⟨h1, ⟨fV, h2, h2'⟩, ⟨x, y, z, u, h3, h3'⟩, h4, h5, h6, h7⟩ := h
  refine ⟨(hq _ (by omega)).trans h1, ⟨fV, (hq _ (by omega)).trans h2, h2'⟩, ⟨x, y, z, u, h3.mv (fun q h h' => hq q (by omega)), h3'⟩, fun i hi => ?_, fun i hi => ?_, h6, h7⟩
  · obtain ⟨⟨mx, c1, c2⟩, c3, c4, c5, c6⟩ := h4 i hi
    have hvi : VA Z i = Z + 7 + 10 * i := rfl
    have hci := nwA_c Z sw i
    exact ⟨⟨mx, (hq _ (by omega)).trans c1, c2⟩, c3.mv (fun q h h' => hq q (by omega)), c4.mv (fun q h h' => hq q (by omega)), c5, c6⟩
  · obtain ⟨c1, c2⟩ := h5 i hi
    have hci := nwA_c Z sw i
    have hoi := (h4 i (by omega)).2.2.2.2
    exact ⟨c1.mv (fun q h h' => hq q (by omega)), c2.mv (hq _ (by omega))⟩
theorem mv_fc (g : Gl) {w : Wd} {Z sz : Nat} {a : As} {sw : Nat → Bool} {od : Nat → Nat} (hC : CR w Z sz a sw od) (hA : AWa a) (hlt : a.1 < 12) {o : VOp} {o2 wv : Nat} (hO : OPo w Z o2 wv o) (ho : Z + 147 ≤ o2) (hW : WO (va_up a.2.1 a.1 wv) a.1 o) :
    ∀ w1 : Wd, w1 (VA Z a.1) = some (cO 1 [.ref o2, .ref (nwA Z sw a.1), .ref (bfA Z sw a.1), .int (nI 0)]) → (∀ q, q ≠ VA Z a.1 → w1 q = w q) → FC g w1 o2 (bfA Z sw a.1) (nwA Z sw a.1) sz (bg_st w1 (nwA Z sw a.1) wv (ma_foldC [] (op_adds wv a.2.2.2.1 o))) := by
  intro w1 h1 hq1
  obtain ⟨-, -, -, h4, h5, -, h7⟩ := hC
  have hva : VA Z a.1 = Z + 7 + 10 * a.1 := rfl
  have hc := nwA_c Z sw a.1
  have h9 := fc_op (g := g) (w := w1) (Z := Z) (od := o2) (hb := bfA Z sw a.1) (h := nwA Z sw a.1) (sz := sz) (v := a.1) (sw := sw) (wd := va_up a.2.1 a.1 wv) (β := a.2.2.2.1) (o := o) (by rw [va_up_self]; exact hO.mv (hq1 _ (by omega))) hW (by omega) ((h4 a.1 hlt).2.1.mv (fun q h h' => hq1 q (by omega))) (fun u hu => by
    have hvu : VA Z u = Z + 7 + 10 * u := rfl
    have hcu := nwA_c Z sw u
    obtain ⟨c1, c2⟩ := h5 u hu
    obtain ⟨w1a, w4a, hok, hl⟩ := hA.2.2.2.1 u hu
    obtain ⟨⟨mx, d1, -⟩, -⟩ := h4 u (by omega)
    rw [va_up_ne _ _ (Nat.ne_of_lt hu)]
    exact ⟨c1.mv (fun q h h' => hq1 q (by omega)), by omega, w4a, by omega, by omega, _, _, _, (hq1 _ (by omega)).trans d1⟩)
  rw [va_up_self] at h9
  exact h9
theorem mv_post {w : Wd} {Z sz : Nat} {a : As} {sw : Nat → Bool} {od : Nat → Nat} (hC : CR w Z sz a sw od) (hA : AWa a) (hlt : a.1 < 12) {o : VOp} {o2 wv : Nat} (hO : OPo w Z o2 wv o) (ho : Z + 147 ≤ o2) (hW : WO (va_up a.2.1 a.1 wv) a.1 o) (ho2 : o2 < sz) {w1 W : Wd} (h1 : w1 (VA Z a.1) = some (cO 1 [.ref o2, .ref (nwA Z sw a.1), .ref (bfA Z sw a.1), .int (nI 0)])) (hq1 : ∀ q, q ≠ VA Z a.1 → w1 q = w q) (hP : bg_st w1 (nwA Z sw a.1) wv (ma_foldC [] (op_adds wv a.2.2.2.1 o)) W) :
    CR W Z sz a sw (va_up od a.1 o2) ∧ cl_fr Z w W ∧ W Z = some (cO 0 [.ref (Z + 1), .int (nI a.1), .ref (Z + 2)]) ∧ W (VA Z a.1) = some (cO 1 [.ref o2, .ref (nwA Z sw a.1), .ref (bfA Z sw a.1), .int (nI 0)]) ∧ OPo W Z o2 wv o ∧ bgN W (nwA Z sw a.1) wv (ma_foldC [] (op_adds wv a.2.2.2.1 o)) ∧ (ma_foldC [] (op_adds wv a.2.2.2.1 o)).length ≤ 32 ∧ wv ≤ 4 ∧
    ((ma_foldC [] (op_adds wv a.2.2.2.1 o)).length ≤ 16 ↔ (vnew a o wv).length ≤ 16) ∧ ((vnew a o wv).length ≤ 16 → ma_foldC [] (op_adds wv a.2.2.2.1 o) = vnew a o wv) := by
  obtain ⟨f, m, pd, b1, b2, b3⟩ := hP
  have hva : VA Z a.1 = Z + 7 + 10 * a.1 := rfl
  have hc := nwA_c Z sw a.1
  have hw4 := hW.2.1
  rw [va_up_self] at hw4
  have hrow := op_adds_row (β := a.2.2.2.1) hW (fun u hu x hx => by rw [va_up_ne _ _ (Nat.ne_of_lt hu)]; exact ((hA.2.2.2.1 u hu).2.2.1.2 x hx).1)
  have htie := fold_tie (β := a.2.2.2.1) hW (fun u hu => by rw [va_up_ne _ _ (Nat.ne_of_lt hu)]; exact (hA.2.2.2.1 u hu).2.2)
  rw [va_up_self] at hrow htie
  have hl := (ma_foldC_ok (b := []) (ma_ok_nil wv) (by decide) hrow).2
  have hN : bgN W (nwA Z sw a.1) wv (ma_foldC [] (op_adds wv a.2.2.2.1 o)) := ⟨f, m, pd, b1, b3⟩
  have hq : ∀ q, q ≠ VA Z a.1 → (q < nwA Z sw a.1 ∨ nwA Z sw a.1 + 4 ≤ q) → W q = w q := fun q h h' => (b2 q h').trans (hq1 q h)
  have hv : W (VA Z a.1) = some (cO 1 [.ref o2, .ref (nwA Z sw a.1), .ref (bfA Z sw a.1), .int (nI 0)]) := (b2 _ (by omega)).trans h1
  refine ⟨hC.beg hlt hq hv (hN.x hl hw4) ho ho2, fun q h => hq q (by omega) (by omega), (hq _ (by omega) (by omega)).trans hC.1, hv, hO.mv (hq _ (by omega) (by omega)), hN, hl, hw4, htie⟩
set_option maxRecDepth 100000 in
set_option maxHeartbeats 4000000 in
theorem c_DV_makeView (g : Gl) {w : Wd} {Z sz : Nat} {a : As} {sw : Nat → Bool} {od : Nat → Nat} (hC : CR w Z sz a sw od) (hA : AWa a) {o : VOp} {o2 wv : Nat} (hO : OPo w Z o2 wv o) (ho : Z + 147 ≤ o2) (hW : WO (va_up a.2.1 a.1 wv) a.1 o) (ho2 : o2 < sz) (h0 : o.1 ≠ 0) {cd : Nat} (hcd : cd ≠ 0) : CT g 7 1 6 mi_DV_makeView [.ref Z, .ref o2] w sz (CE w Z sz (if fits a o wv = true then 0 else cd) 3 (.int (nI a.1)) (if fits a o wv = true then mkv a o wv else a)) := by
  refine CT.of (by decide) (Nat.le_of_ble_eq_true rfl) ?_
  have hn12 := hA.2.1
  obtain ⟨fV, hfw, hfi⟩ := hC.2.1
  refine v_aload_n (pc := 0) d_DV_makeView_0 rfl rfl ?_
  refine v_get (pc := 1) d_DV_makeView_1 fl_DV_15 hC.1 rfl ?_
  refine v_bipush (pc := 4) (v := nI 12) d_DV_makeView_4 rfl ?_
  refine v_icmp_ne (pc := 6) (tgt := 19) d_DV_makeView_6 rfl (fun hc => ?_) (fun hc => ?_)
  · skip
    rw [nI_eq (by omega) (by omega)] at hc
    have hn0 := hc
    have hlt : a.1 < 12 := by omega
    obtain ⟨⟨mx, hV, hmx⟩, -⟩ := hC.2.2.2.1 a.1 hlt
    refine v_aload_n (pc := 19) d_DV_makeView_19 rfl rfl ?_
    refine v_get (pc := 20) d_DV_makeView_20 fl_DV_11 hC.1 rfl ?_
    refine v_aload_n (pc := 23) d_DV_makeView_23 rfl rfl ?_
    refine v_get (pc := 24) d_DV_makeView_24 fl_DV_15 hC.1 rfl ?_
    refine v_aaldN (pc := 27) (k := a.1) d_DV_makeView_27 hfw rfl (by omega) (by decide) (hfi a.1 (by omega)) ?_
    refine v_astore_n (pc := 28) (L' := [(2, .ref (VA Z a.1)), (0, .ref Z), (1, .ref o2)]) d_DV_makeView_28 rfl (by decide) rfl ?_
    refine v_aload_n (pc := 29) d_DV_makeView_29 rfl rfl ?_
    refine v_aload_n (pc := 30) d_DV_makeView_30 rfl rfl ?_
    refine v_cvV (pc := 31) (A := [.ref o2]) (rest := []) d_DV_makeView_31 lk_DV_173 me_View_begin im_View_begin se_View_begin rfl hV rfl rfl (c_View_begin g hV (o2 := o2) (mv_fc g hC hA hlt hO ho hW)) (Nat.le_of_ble_eq_true rfl) (Nat.le_of_ble_eq_true rfl) (Nat.le_of_ble_eq_true rfl) (Nat.le_of_ble_eq_true rfl) (fun w2 ht2 => ?_)
    obtain ⟨w1, h1, hq1, hP⟩ := ht2
    obtain ⟨hC2, hfr2, hZ2, hV2, hO2, hN2, hl2, hw4, htie, htie2⟩ := mv_post hC hA hlt hO ho hW ho2 h1 hq1 hP
    refine v_aload_n (pc := 34) d_DV_makeView_34 rfl rfl ?_
    refine v_cvR (pc := 35) (A := []) (rest := []) (x := .int (if decide ((ma_foldC [] (op_adds wv a.2.2.2.1 o)).length ≤ 16) = true then 1 else 0)) d_DV_makeView_35 lk_DV_176 me_View_keepsLimits im_View_keepsLimits se_View_keepsLimits rfl hV2 rfl rfl (c_View_keepsLimits g hV2 (ac_op hO2 h0 hN2 hl2)) (Nat.le_of_ble_eq_true rfl) (Nat.le_of_ble_eq_true rfl) (Nat.le_of_ble_eq_true rfl) (Nat.le_of_ble_eq_true rfl) ?_
    refine v_if_ne (pc := 38) (tgt := 51) d_DV_makeView_38 rfl (fun hc => ?_) (fun hc => ?_)
    · skip
      rw [zt] at hc
      have hle := htie.mp (of_decide_eq_true hc)
      have hf : fits a o wv = true := fits_iff.mpr ⟨hn0, hle⟩
      rw [htie2 hle] at hN2
      refine v_aload_n (pc := 51) d_DV_makeView_51 rfl rfl ?_
      refine v_dup (pc := 52) d_DV_makeView_52 rfl ?_
      refine v_get (pc := 53) d_DV_makeView_53 fl_DV_15 hZ2 rfl ?_
      refine v_iconst (pc := 56) (v := nI 1) d_DV_makeView_56 rfl ?_
      refine v_iadd (pc := 57) d_DV_makeView_57 ?_
      refine v_re (nI_add (a.1) 1) ?_
      refine v_putW (pc := 58) (fs' := [.ref (Z + 1), .int (nI (a.1 + 1)), .ref (Z + 2)]) d_DV_makeView_58 fl_DV_15 (fi_DV_15 _) (ok_DV_1 _) hZ2 (Nat.le_of_ble_eq_true rfl) rfl (fun w3 hn3 hq3 => ?_)
      refine v_aload_n (pc := 61) d_DV_makeView_61 rfl rfl ?_
      refine v_get (pc := 62) d_DV_makeView_62 fl_DV_15 hn3 rfl ?_
      refine v_iconst (pc := 65) (v := nI 1) d_DV_makeView_65 rfl ?_
      refine v_isub (pc := 66) d_DV_makeView_66 ?_
      refine v_re (pk_sub (a := a.1 + 1) (b := 1) (by omega)) ?_
      refine v_re (y := nI (a.1)) (by rw [Nat.add_sub_cancel]) ?_
      exact v_iret (pc := 67) d_DV_makeView_67 rfl (Nat.le_of_ble_eq_true rfl) (Nat.le_of_ble_eq_true rfl) ⟨Nat.le_refl _, fun q hq => (hq3 q (by omega)).trans (hfr2 q hq), ⟨sw, _, by rw [if_pos hf]; exact hC2.inc hA.1 hlt hn3 hq3 (by rw [va_up_self]; exact hV2) hN2 (by rw [va_up_self]; exact hO2)⟩, by rw [if_pos hf, if_pos rfl]⟩
    · skip
      rw [zf] at hc
      have hf : ¬ fits a o wv = true := fun h => hc (decide_eq_true (htie.mpr (fits_iff.mp h).2))
      exact v_throw (pc := 41) d_DV_makeView_41 d_DV_makeView_44 d_DV_makeView_45 d_DV_makeView_47 d_DV_makeView_50 tk_179 rfl (Nat.le_of_ble_eq_true rfl) (Nat.le_of_ble_eq_true rfl) (Nat.le_of_ble_eq_true rfl) (Nat.le_of_ble_eq_true rfl) ⟨Nat.le_succ _, hfr2, ⟨sw, _, by rw [if_neg hf]; exact hC2.up (Nat.le_succ _)⟩, by rw [if_neg hf, if_neg hcd]⟩
  · skip
    rw [nI_eq (by omega) (by omega)] at hc
    have hf : ¬ fits a o wv = true := fun h => (fits_iff.mp h).1 hc
    exact v_throw (pc := 9) d_DV_makeView_9 d_DV_makeView_12 d_DV_makeView_13 d_DV_makeView_15 d_DV_makeView_18 tk_171 rfl (Nat.le_of_ble_eq_true rfl) (Nat.le_of_ble_eq_true rfl) (Nat.le_of_ble_eq_true rfl) (Nat.le_of_ble_eq_true rfl) ⟨Nat.le_succ _, cl_fr.rf, ⟨sw, od, by rw [if_neg hf]; exact hC.up (Nat.le_succ _)⟩, by rw [if_neg hf, if_neg hcd]⟩
set_option maxRecDepth 100000 in
set_option maxHeartbeats 4000000 in
theorem c_Oper_init (g : Gl) {w : Wd} {o sz : Nat} : CT g 1 0 0 mi_Oper_init [.ref o] w sz (rdE none w sz) := by
  refine CT.of (by decide) (Nat.le_of_ble_eq_true rfl) ?_
  refine v_aload_n (pc := 0) d_Oper_init_0 rfl rfl ?_
  refine v_oinit (pc := 1) d_Oper_init_1 oi_Op oi_im oi_co (Nat.le_of_ble_eq_true rfl) (Nat.le_of_ble_eq_true rfl) ?_
  exact v_vret (pc := 4) d_Oper_init_4 rfl (Nat.le_of_ble_eq_true rfl) (Nat.le_of_ble_eq_true rfl) ⟨rfl, rfl, rfl⟩
section CI
variable {g : Gl} {d mc ms : Nat} {M : Mi} {w0 : Wd} {sz0 : Nat} {E : Rs → Wd → Nat → Prop} {pc : Nat} {L : List (Nat × Value)} {S : List Value} {w : Wd} {sz nc ns : Nat}
variable {rest A : List Value} {M' : Mi} {d' n idx : Nat} {P : Wd → Prop}
theorem v_ciR {a : Nat} (hd : decode M.2.1 pc = .ok (.invokespecial idx, 3)) (hl : fw_lnk M.1.cls idx M'.1) (hm : fw_me M' n) (hi : Cond.instanceMethod M'.1 ∈ fw_big) (hnm : M'.1.name = "<init>") (hr : M'.2.2.2.1 = none) (hh : M'.2.2.2.2 = []) (hA : A.length = n) (hS : S = A.reverse ++ .ref a :: rest) (hc : CT g d' 0 0 M' (.ref a :: A) w sz (rdE none w sz)) (r1 : d' + 1 ≤ d) (r3 : nc ≤ mc) (r4 : ns ≤ ms) (hst : (rest.map fun v => v.category).sum ≤ 8)
    (kr : VV g d mc ms M w0 sz0 E (pc + 3) L rest w sz nc ns) : VV g d mc ms M w0 sz0 E pc L S w sz nc ns := v_ci hd hl hm hi hnm hr hh hA hS hc r1 r3 r4 hst (rdE.k kr) rdE.t
theorem v_ciV {a : Nat} (hd : decode M.2.1 pc = .ok (.invokespecial idx, 3)) (hl : fw_lnk M.1.cls idx M'.1) (hm : fw_me M' n) (hi : Cond.instanceMethod M'.1 ∈ fw_big) (hnm : M'.1.name = "<init>") (hr : M'.2.2.2.1 = none) (hh : M'.2.2.2.2 = []) (hA : A.length = n) (hS : S = A.reverse ++ .ref a :: rest) (hc : CT g d' 0 0 M' (.ref a :: A) w sz (wrE none sz P)) (r1 : d' + 1 ≤ d) (r3 : nc ≤ mc) (r4 : ns ≤ ms) (hst : (rest.map fun v => v.category).sum ≤ 8)
    (kr : ∀ w', P w' → VV g d mc ms M w0 sz0 E (pc + 3) L rest w' sz nc ns) : VV g d mc ms M w0 sz0 E pc L S w sz nc ns := v_ci hd hl hm hi hnm hr hh hA hS hc r1 r3 r4 hst (wrE.k kr) wrE.t
end CI
set_option maxRecDepth 100000 in
set_option maxHeartbeats 4000000 in
theorem c_Select_init (g : Gl) {w : Wd} {o sz : Nat} {v : Nat} {c t x : Int32} (hO : w o = some (cO 5 [.null, .int 0, .int 0, .int 0])) : CT g 2 0 0 mi_Select_init [.ref o, .ref v, .int c, .int t, .int x] w sz (wrE none sz (fun w' => w' o = some (cO 5 [.ref v, .int c, .int t, .int x]) ∧ ∀ q, q ≠ o → w' q = w q)) := by
  refine CT.of (by decide) (Nat.le_of_ble_eq_true rfl) ?_
  refine v_aload_n (pc := 0) d_Select_init_0 rfl rfl ?_
  refine v_ciR (pc := 1) (A := []) (rest := []) d_Select_init_1 lk_Select_3 me_Oper_init im_Oper_init rfl rfl rfl rfl rfl (c_Oper_init g) (Nat.le_of_ble_eq_true rfl) (Nat.le_of_ble_eq_true rfl) (Nat.le_of_ble_eq_true rfl) (Nat.le_of_ble_eq_true rfl) ?_
  refine v_aload_n (pc := 4) d_Select_init_4 rfl rfl ?_
  refine v_aload_n (pc := 5) d_Select_init_5 rfl rfl ?_
  refine v_putW (pc := 6) (fs' := [.ref v, .int 0, .int 0, .int 0]) d_Select_init_6 fl_Select_9 fi_Select_9 (ok_Select_0 _) hO (Nat.le_of_ble_eq_true rfl) rfl (fun w1 hn1 hq1 => ?_)
  refine v_aload_n (pc := 9) d_Select_init_9 rfl rfl ?_
  refine v_iload_n (pc := 10) d_Select_init_10 rfl rfl ?_
  refine v_putW (pc := 11) (fs' := [.ref v, .int c, .int 0, .int 0]) d_Select_init_11 fl_Select_15 fi_Select_15 (ok_Select_1 _) hn1 (Nat.le_of_ble_eq_true rfl) rfl (fun w2 hn2 hq2 => ?_)
  refine v_aload_n (pc := 14) d_Select_init_14 rfl rfl ?_
  refine v_iload_n (pc := 15) d_Select_init_15 rfl rfl ?_
  refine v_putW (pc := 16) (fs' := [.ref v, .int c, .int t, .int 0]) d_Select_init_16 fl_Select_19 fi_Select_19 (ok_Select_2 _) hn2 (Nat.le_of_ble_eq_true rfl) rfl (fun w3 hn3 hq3 => ?_)
  refine v_aload_n (pc := 19) d_Select_init_19 rfl rfl ?_
  refine v_iload (pc := 20) d_Select_init_20 rfl ?_
  refine v_putW (pc := 22) (fs' := [.ref v, .int c, .int t, .int x]) d_Select_init_22 fl_Select_22 fi_Select_22 (ok_Select_3 _) hn3 (Nat.le_of_ble_eq_true rfl) rfl (fun w4 hn4 hq4 => ?_)
  exact v_vret (pc := 25) d_Select_init_25 rfl (Nat.le_of_ble_eq_true rfl) (Nat.le_of_ble_eq_true rfl) ⟨rfl, rfl, hn4, fun q hq => (hq4 q hq).trans ((hq3 q hq).trans ((hq2 q hq).trans (hq1 q hq)))⟩
set_option maxRecDepth 100000 in
set_option maxHeartbeats 4000000 in
theorem c_Project_init (g : Gl) {w : Wd} {o sz : Nat} {v : Nat} {c t : Int32} (hO : w o = some (cO 6 [.null, .int 0, .int 0])) : CT g 2 0 0 mi_Project_init [.ref o, .ref v, .int c, .int t] w sz (wrE none sz (fun w' => w' o = some (cO 6 [.ref v, .int c, .int t]) ∧ ∀ q, q ≠ o → w' q = w q)) := by
  refine CT.of (by decide) (Nat.le_of_ble_eq_true rfl) ?_
  refine v_aload_n (pc := 0) d_Project_init_0 rfl rfl ?_
  refine v_ciR (pc := 1) (A := []) (rest := []) d_Project_init_1 lk_Project_1 me_Oper_init im_Oper_init rfl rfl rfl rfl rfl (c_Oper_init g) (Nat.le_of_ble_eq_true rfl) (Nat.le_of_ble_eq_true rfl) (Nat.le_of_ble_eq_true rfl) (Nat.le_of_ble_eq_true rfl) ?_
  refine v_aload_n (pc := 4) d_Project_init_4 rfl rfl ?_
  refine v_aload_n (pc := 5) d_Project_init_5 rfl rfl ?_
  refine v_putW (pc := 6) (fs' := [.ref v, .int 0, .int 0]) d_Project_init_6 fl_Project_7 fi_Project_7 (ok_Project_0 _) hO (Nat.le_of_ble_eq_true rfl) rfl (fun w1 hn1 hq1 => ?_)
  refine v_aload_n (pc := 9) d_Project_init_9 rfl rfl ?_
  refine v_iload_n (pc := 10) d_Project_init_10 rfl rfl ?_
  refine v_putW (pc := 11) (fs' := [.ref v, .int c, .int 0]) d_Project_init_11 fl_Project_13 fi_Project_13 (ok_Project_1 _) hn1 (Nat.le_of_ble_eq_true rfl) rfl (fun w2 hn2 hq2 => ?_)
  refine v_aload_n (pc := 14) d_Project_init_14 rfl rfl ?_
  refine v_iload_n (pc := 15) d_Project_init_15 rfl rfl ?_
  refine v_putW (pc := 16) (fs' := [.ref v, .int c, .int t]) d_Project_init_16 fl_Project_17 fi_Project_17 (ok_Project_2 _) hn2 (Nat.le_of_ble_eq_true rfl) rfl (fun w3 hn3 hq3 => ?_)
  exact v_vret (pc := 19) d_Project_init_19 rfl (Nat.le_of_ble_eq_true rfl) (Nat.le_of_ble_eq_true rfl) ⟨rfl, rfl, hn3, fun q hq => (hq3 q hq).trans ((hq2 q hq).trans (hq1 q hq))⟩
set_option maxRecDepth 100000 in
set_option maxHeartbeats 4000000 in
theorem c_Join_init (g : Gl) {w : Wd} {o sz : Nat} {v u : Nat} {c t : Int32} (hO : w o = some (cO 7 [.null, .null, .int 0, .int 0])) : CT g 2 0 0 mi_Join_init [.ref o, .ref v, .ref u, .int c, .int t] w sz (wrE none sz (fun w' => w' o = some (cO 7 [.ref v, .ref u, .int c, .int t]) ∧ ∀ q, q ≠ o → w' q = w q)) := by
  refine CT.of (by decide) (Nat.le_of_ble_eq_true rfl) ?_
  refine v_aload_n (pc := 0) d_Join_init_0 rfl rfl ?_
  refine v_ciR (pc := 1) (A := []) (rest := []) d_Join_init_1 lk_Join_1 me_Oper_init im_Oper_init rfl rfl rfl rfl rfl (c_Oper_init g) (Nat.le_of_ble_eq_true rfl) (Nat.le_of_ble_eq_true rfl) (Nat.le_of_ble_eq_true rfl) (Nat.le_of_ble_eq_true rfl) ?_
  refine v_aload_n (pc := 4) d_Join_init_4 rfl rfl ?_
  refine v_aload_n (pc := 5) d_Join_init_5 rfl rfl ?_
  refine v_putW (pc := 6) (fs' := [.ref v, .null, .int 0, .int 0]) d_Join_init_6 fl_Join_7 fi_Join_7 (ok_Join_0 _) hO (Nat.le_of_ble_eq_true rfl) rfl (fun w1 hn1 hq1 => ?_)
  refine v_aload_n (pc := 9) d_Join_init_9 rfl rfl ?_
  refine v_aload_n (pc := 10) d_Join_init_10 rfl rfl ?_
  refine v_putW (pc := 11) (fs' := [.ref v, .ref u, .int 0, .int 0]) d_Join_init_11 fl_Join_13 fi_Join_13 (ok_Join_1 _) hn1 (Nat.le_of_ble_eq_true rfl) rfl (fun w2 hn2 hq2 => ?_)
  refine v_aload_n (pc := 14) d_Join_init_14 rfl rfl ?_
  refine v_iload_n (pc := 15) d_Join_init_15 rfl rfl ?_
  refine v_putW (pc := 16) (fs' := [.ref v, .ref u, .int c, .int 0]) d_Join_init_16 fl_Join_16 fi_Join_16 (ok_Join_2 _) hn2 (Nat.le_of_ble_eq_true rfl) rfl (fun w3 hn3 hq3 => ?_)
  refine v_aload_n (pc := 19) d_Join_init_19 rfl rfl ?_
  refine v_iload (pc := 20) d_Join_init_20 rfl ?_
  refine v_putW (pc := 22) (fs' := [.ref v, .ref u, .int c, .int t]) d_Join_init_22 fl_Join_20 fi_Join_20 (ok_Join_3 _) hn3 (Nat.le_of_ble_eq_true rfl) rfl (fun w4 hn4 hq4 => ?_)
  exact v_vret (pc := 25) d_Join_init_25 rfl (Nat.le_of_ble_eq_true rfl) (Nat.le_of_ble_eq_true rfl) ⟨rfl, rfl, hn4, fun q hq => (hq4 q hq).trans ((hq3 q hq).trans ((hq2 q hq).trans (hq1 q hq)))⟩
set_option maxRecDepth 100000 in
set_option maxHeartbeats 4000000 in
theorem c_Union_init (g : Gl) {w : Wd} {o sz : Nat} {v u : Nat} (hO : w o = some (cO 8 [.null, .null])) : CT g 2 0 0 mi_Union_init [.ref o, .ref v, .ref u] w sz (wrE none sz (fun w' => w' o = some (cO 8 [.ref v, .ref u]) ∧ ∀ q, q ≠ o → w' q = w q)) := by
  refine CT.of (by decide) (Nat.le_of_ble_eq_true rfl) ?_
  refine v_aload_n (pc := 0) d_Union_init_0 rfl rfl ?_
  refine v_ciR (pc := 1) (A := []) (rest := []) d_Union_init_1 lk_Union_1 me_Oper_init im_Oper_init rfl rfl rfl rfl rfl (c_Oper_init g) (Nat.le_of_ble_eq_true rfl) (Nat.le_of_ble_eq_true rfl) (Nat.le_of_ble_eq_true rfl) (Nat.le_of_ble_eq_true rfl) ?_
  refine v_aload_n (pc := 4) d_Union_init_4 rfl rfl ?_
  refine v_aload_n (pc := 5) d_Union_init_5 rfl rfl ?_
  refine v_putW (pc := 6) (fs' := [.ref v, .null]) d_Union_init_6 fl_Union_7 fi_Union_7 (ok_Union_0 _) hO (Nat.le_of_ble_eq_true rfl) rfl (fun w1 hn1 hq1 => ?_)
  refine v_aload_n (pc := 9) d_Union_init_9 rfl rfl ?_
  refine v_aload_n (pc := 10) d_Union_init_10 rfl rfl ?_
  refine v_putW (pc := 11) (fs' := [.ref v, .ref u]) d_Union_init_11 fl_Union_13 fi_Union_13 (ok_Union_1 _) hn1 (Nat.le_of_ble_eq_true rfl) rfl (fun w2 hn2 hq2 => ?_)
  exact v_vret (pc := 14) d_Union_init_14 rfl (Nat.le_of_ble_eq_true rfl) (Nat.le_of_ble_eq_true rfl) ⟨rfl, rfl, hn2, fun q hq => (hq2 q hq).trans (hq1 q hq)⟩
set_option maxRecDepth 100000 in
set_option maxHeartbeats 4000000 in
theorem c_Group_init (g : Gl) {w : Wd} {o sz : Nat} {v : Nat} {c t x : Int32} (hO : w o = some (cO 9 [.null, .int 0, .int 0, .int 0])) : CT g 2 0 0 mi_Group_init [.ref o, .ref v, .int c, .int t, .int x] w sz (wrE none sz (fun w' => w' o = some (cO 9 [.ref v, .int c, .int t, .int x]) ∧ ∀ q, q ≠ o → w' q = w q)) := by
  refine CT.of (by decide) (Nat.le_of_ble_eq_true rfl) ?_
  refine v_aload_n (pc := 0) d_Group_init_0 rfl rfl ?_
  refine v_ciR (pc := 1) (A := []) (rest := []) d_Group_init_1 lk_Group_3 me_Oper_init im_Oper_init rfl rfl rfl rfl rfl (c_Oper_init g) (Nat.le_of_ble_eq_true rfl) (Nat.le_of_ble_eq_true rfl) (Nat.le_of_ble_eq_true rfl) (Nat.le_of_ble_eq_true rfl) ?_
  refine v_aload_n (pc := 4) d_Group_init_4 rfl rfl ?_
  refine v_aload_n (pc := 5) d_Group_init_5 rfl rfl ?_
  refine v_putW (pc := 6) (fs' := [.ref v, .int 0, .int 0, .int 0]) d_Group_init_6 fl_Group_9 fi_Group_9 (ok_Group_0 _) hO (Nat.le_of_ble_eq_true rfl) rfl (fun w1 hn1 hq1 => ?_)
  refine v_aload_n (pc := 9) d_Group_init_9 rfl rfl ?_
  refine v_iload_n (pc := 10) d_Group_init_10 rfl rfl ?_
  refine v_putW (pc := 11) (fs' := [.ref v, .int c, .int 0, .int 0]) d_Group_init_11 fl_Group_15 fi_Group_15 (ok_Group_1 _) hn1 (Nat.le_of_ble_eq_true rfl) rfl (fun w2 hn2 hq2 => ?_)
  refine v_aload_n (pc := 14) d_Group_init_14 rfl rfl ?_
  refine v_iload_n (pc := 15) d_Group_init_15 rfl rfl ?_
  refine v_putW (pc := 16) (fs' := [.ref v, .int c, .int t, .int 0]) d_Group_init_16 fl_Group_19 fi_Group_19 (ok_Group_2 _) hn2 (Nat.le_of_ble_eq_true rfl) rfl (fun w3 hn3 hq3 => ?_)
  refine v_aload_n (pc := 19) d_Group_init_19 rfl rfl ?_
  refine v_iload (pc := 20) d_Group_init_20 rfl ?_
  refine v_putW (pc := 22) (fs' := [.ref v, .int c, .int t, .int x]) d_Group_init_22 fl_Group_22 fi_Group_22 (ok_Group_3 _) hn3 (Nat.le_of_ble_eq_true rfl) rfl (fun w4 hn4 hq4 => ?_)
  exact v_vret (pc := 25) d_Group_init_25 rfl (Nat.le_of_ble_eq_true rfl) (Nat.le_of_ble_eq_true rfl) ⟨rfl, rfl, hn4, fun q hq => (hq4 q hq).trans ((hq3 q hq).trans ((hq2 q hq).trans (hq1 q hq)))⟩
set_option maxRecDepth 100000 in
set_option maxHeartbeats 4000000 in
theorem c_Distinct_init (g : Gl) {w : Wd} {o sz : Nat} {v : Nat} (hO : w o = some (cO 10 [.null])) : CT g 2 0 0 mi_Distinct_init [.ref o, .ref v] w sz (wrE none sz (fun w' => w' o = some (cO 10 [.ref v]) ∧ ∀ q, q ≠ o → w' q = w q)) := by
  refine CT.of (by decide) (Nat.le_of_ble_eq_true rfl) ?_
  refine v_aload_n (pc := 0) d_Distinct_init_0 rfl rfl ?_
  refine v_ciR (pc := 1) (A := []) (rest := []) d_Distinct_init_1 lk_Distinct_1 me_Oper_init im_Oper_init rfl rfl rfl rfl rfl (c_Oper_init g) (Nat.le_of_ble_eq_true rfl) (Nat.le_of_ble_eq_true rfl) (Nat.le_of_ble_eq_true rfl) (Nat.le_of_ble_eq_true rfl) ?_
  refine v_aload_n (pc := 4) d_Distinct_init_4 rfl rfl ?_
  refine v_aload_n (pc := 5) d_Distinct_init_5 rfl rfl ?_
  refine v_putW (pc := 6) (fs' := [.ref v]) d_Distinct_init_6 fl_Distinct_7 fi_Distinct_7 (ok_Distinct_0 _) hO (Nat.le_of_ble_eq_true rfl) rfl (fun w1 hn1 hq1 => ?_)
  exact v_vret (pc := 9) d_Distinct_init_9 rfl (Nat.le_of_ble_eq_true rfl) (Nat.le_of_ble_eq_true rfl) ⟨rfl, rfl, hn1, fun q hq => hq1 q hq⟩
