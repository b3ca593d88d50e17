/-! What a view's operation adds, row by row, and gathering it. -/
def op_sel (p : Nat) (t x : Int32) (B : MaB) : MaB := B.filter (fun y => ma_ps (y.1.getD p 0) t x)
def op_prj (n : Nat) (cols : Nat → Nat) (B : MaB) : MaB := B.map (fun y => ((List.range n).map (fun c => y.1.getD (cols c) 0), y.2))
def op_jn1 (p q : Nat) (y : List Int32 × Int64) (C : MaB) : MaB := (C.filter (fun z => decide (y.1.getD p 0 = z.1.getD q 0))).map (fun z => (y.1 ++ z.1, y.2 * z.2))
def op_jn (p q : Nat) (B C : MaB) : MaB := B.flatMap (fun y => op_jn1 p q y C)
def op_dis (B : MaB) : MaB := B.map (fun y => (y.1, 1))
theorem ar_row_getD {f : Nat → Int32} {n a c : Nat} (h : c < n) : (ar_row f n a).getD c 0 = f (a + c) := by
  rw [List.getD_eq_getElem?_getD, ar_row_get h]
  rfl
theorem ma_gf_snoc (G A : MaB) (x : List Int32 × Int64) : ma_gf G (A ++ [x]) = ma_g (ma_gf G A) x.1 x.2 := by
  simp [ma_gf]
theorem ma_gf_app (G A B : MaB) : ma_gf G (A ++ B) = ma_gf (ma_gf G A) B := by simp [ma_gf]
theorem ma_g_len (G : MaB) (r : List Int32) (m : Int64) : (ma_g G r m).length ≤ G.length + 1 := by
  induction G with
  | nil => simp [ma_g]
  | cons y t ih =>
    obtain ⟨q, k⟩ := y
    simp only [ma_g]
    split
    · simp
    · simp only [List.length_cons]; omega
theorem ma_gf_len (A : MaB) : ∀ G : MaB, (ma_gf G A).length ≤ G.length + A.length := by
  induction A with
  | nil => intro G; exact Nat.le_refl _
  | cons y t ih =>
    intro G
    have h1 := ih (ma_g G y.1 y.2)
    have h2 := ma_g_len G y.1 y.2
    show (ma_gf (ma_g G y.1 y.2) t).length ≤ _
    simp only [List.length_cons]
    omega
def mo_gs (w : Wd) (b : Nat) (sc : Nat → Int32) (ia : Nat → Nat → Int32) (la : Nat → Nat → Int64) (wd : Nat) (G : MaB) (w1 : Wd) : Prop :=
  ∃ f o m, MAt w1 b (va_up sc 2 (nI G.length)) (va_up (va_up ia 12 f) 13 o) (va_up la 11 m) ∧ mo_fr b w w1 ∧ ar_bag f m wd 0 G.length = G
theorem va_cm {α : Type} (f : Nat → α) {i j : Nat} (h : i ≠ j) (x y : α) : va_up (va_up f i x) j y = va_up (va_up f j y) i x := by
  funext k
  unfold va_up
  by_cases h1 : k = j <;> by_cases h2 : k = i <;> simp [h1, h2] <;> omega
theorem va_eq {α : Type} {f f' : Nat → α} {k : Nat} (h : ∀ j, j ≠ k → f' j = f j) : f' = va_up f k (f' k) := by
  funext j
  by_cases hj : j = k
  · subst hj; exact (va_up_self _ _ _).symm
  · rw [va_up_ne _ _ hj]; exact h j hj
theorem mo_gs.start {w : Wd} {b : Nat} {sc : Nat → Int32} {ia : Nat → Nat → Int32} {la : Nat → Nat → Int64} {wd : Nat} {G : MaB} (hM : MAt w b sc ia la) (hg : sc 2 = nI G.length) (hG : ar_bag (ia 12) (la 11) wd 0 G.length = G) : mo_gs w b sc ia la wd G w := by
  refine ⟨ia 12, ia 13, la 11, ?_, mo_fr.rf, hG⟩
  rw [← hg, va_id, va_id, va_id, va_id]
  exact hM
theorem mo_gs.add {w w2 w3 : Wd} {b : Nat} {sc : Nat → Int32} {ia : Nat → Nat → Int32} {la : Nat → Nat → Int64} {wd : Nat} {G : MaB} {f o : Nat → Int32} {m : Nat → Int64} {many : Int64} (hfr : mo_fr b w w2) (hG : ar_bag f m wd 0 G.length = G)
    (h : mo_gp w2 b (va_up sc 2 (nI G.length)) (va_up (va_up ia 12 f) 13 o) (va_up la 11 m) G.length wd many w3) : mo_gs w b sc ia la wd (ma_g G (ar_row o wd 0) many) w3 := by
  obtain ⟨sc', ia', la', q1, q2, q3, q4, q5, n', q6, q7, q8⟩ := h
  have q8 : ar_bag (ia' 12) (la' 11) wd 0 n' = ma_g (ar_bag f m wd 0 G.length) (ar_row o wd 0) many := q8
  rw [hG] at q8
  have hl : n' = (ma_g G (ar_row o wd 0) many).length := by rw [← q8, ar_bag_len]
  have e1 := va_eq q3
  have e2 := va_eq q4
  have e3 := va_eq q5
  rw [q6, bx_uu] at e1
  rw [bx_uu] at e3
  rw [va_cm _ (by decide : (13 : Nat) ≠ 12), bx_uu] at e2
  refine ⟨ia' 12, o, la' 11, ?_, hfr.tr q2, by rw [← hl]; exact q8⟩
  rw [← hl, ← e1, ← e2, ← e3]
  exact q1
set_option maxRecDepth 100000 in
set_option maxHeartbeats 4000000 in
theorem lp_Mo_selects (g : Gl) {w : Wd} {b sz : Nat} {sc : Nat → Int32} {ia : Nat → Nat → Int32} {la : Nat → Nat → Int64} (hM : MAt w b sc ia la) {e v ne wd : Nat} (he : e < 24) (hv : v < 12) (hce : ia 8 e = nI ne) (hne : ne ≤ 16) (hw : ia 0 v = nI wd) (hwd : wd ≤ 4) {G0 : MaB} (hg : sc 2 = nI G0.length) (hG : ar_bag (ia 12) (la 11) wd 0 G0.length = G0) {p : Nat} (hp : ia 4 v = nI p) (hpe : p < wd) (h0 : G0.length + 16 ≤ 256) {E : Rs → Wd → Nat → Prop} (hE : ∀ w', mo_gs w b sc ia la wd (ma_gf G0 (op_sel p (ia 5 v) (ia 6 v) (ar_bag (ia 10) (la 9) wd (16 * e) ne))) w' → E (.inl none) w' sz) : ∀ (zz : Nat) (r : Nat) (w1 : Wd), ne - r = zz → r ≤ ne → mo_gs w b sc ia la wd (ma_gf G0 (op_sel p (ia 5 v) (ia 6 v) (ar_bag (ia 10) (la 9) wd (16 * e) r))) w1 → VV g 2 0 0 mi_Mo_selects w sz E 2 [(3, .int (nI r)), (0, .ref b), (1, .int (nI e)), (2, .int (nI v))] [] w1 sz 0 0 := by
  intro zz
  induction zz using Nat.strongRecOn with | _ zz ih => _
  intro r w1 hnn hrn hgs
  obtain ⟨f1, o1, m1, h1, hfr, hGG⟩ := id hgs
  have hlen := ma_gf_len (op_sel p (ia 5 v) (ia 6 v) (ar_bag (ia 10) (la 9) wd (16 * e) r)) G0
  have hfl : (op_sel p (ia 5 v) (ia 6 v) (ar_bag (ia 10) (la 9) wd (16 * e) r)).length ≤ r := by have := List.length_filter_le (fun y => ma_ps (y.1.getD p 0) (ia 5 v) (ia 6 v)) (ar_bag (ia 10) (la 9) wd (16 * e) r); rw [ar_bag_len] at this; exact this
  refine v_iload_n (pc := 2) d_Mo_selects_2 rfl rfl ?_
  refine v_aload_n (pc := 3) d_Mo_selects_3 rfl rfl ?_
  refine v_get (pc := 4) d_Mo_selects_4 fl_Mo_38 h1.o rfl ?_
  refine v_iload_n (pc := 7) d_Mo_selects_7 rfl rfl ?_
  refine v_ialdN (pc := 8) (k := e) (f := ia 8) d_Mo_selects_8 h1.a8 rfl (by omega) (by decide) ?_
  refine v_re hce ?_
  refine v_icmp_ge (pc := 9) (tgt := 75) d_Mo_selects_9 rfl (fun hc => ?_) (fun hc => ?_)
  · skip
    rw [nI_leI (by omega) (by omega)] at hc
    obtain rfl : r = ne := by omega
    exact v_vret (pc := 75) d_Mo_selects_75 rfl (Nat.le_of_ble_eq_true rfl) (Nat.le_of_ble_eq_true rfl) (hE w1 hgs)
  · skip
    rw [nI_leI (by omega) (by omega)] at hc
    refine v_aload_n (pc := 12) d_Mo_selects_12 rfl rfl ?_
    refine v_iload_n (pc := 13) d_Mo_selects_13 rfl rfl ?_
    refine v_iload_n (pc := 14) d_Mo_selects_14 rfl rfl ?_
    refine v_aload_n (pc := 15) d_Mo_selects_15 rfl rfl ?_
    refine v_get (pc := 16) d_Mo_selects_16 fl_Mo_26 h1.o rfl ?_
    refine v_iload_n (pc := 19) d_Mo_selects_19 rfl rfl ?_
    refine v_ialdN (pc := 20) (k := v) (f := ia 4) d_Mo_selects_20 h1.a4 rfl (by omega) (by decide) ?_
    refine v_re hp ?_
    refine v_cvR (pc := 21) (A := [.int (nI e), .int (nI r), .int (nI p)]) (rest := []) (x := .int (ia 10 (4 * (16 * e + r) + p))) d_Mo_selects_21 lk_Mo_83 me_Mo_cellOf im_Mo_cellOf se_Mo_cellOf rfl h1.o rfl rfl (c_Mo_cellOf g h1 (k := e) (r := r) (c := p) (by omega)) (Nat.le_of_ble_eq_true rfl) (Nat.le_of_ble_eq_true rfl) (Nat.le_of_ble_eq_true rfl) (Nat.le_of_ble_eq_true rfl) ?_
    refine v_aload_n (pc := 24) d_Mo_selects_24 rfl rfl ?_
    refine v_get (pc := 25) d_Mo_selects_25 fl_Mo_29 h1.o rfl ?_
    refine v_iload_n (pc := 28) d_Mo_selects_28 rfl rfl ?_
    refine v_ialdN (pc := 29) (k := v) (f := ia 5) d_Mo_selects_29 h1.a5 rfl (by omega) (by decide) ?_
    refine v_aload_n (pc := 30) d_Mo_selects_30 rfl rfl ?_
    refine v_get (pc := 31) d_Mo_selects_31 fl_Mo_32 h1.o rfl ?_
    refine v_iload_n (pc := 34) d_Mo_selects_34 rfl rfl ?_
    refine v_ialdN (pc := 35) (k := v) (f := ia 6) d_Mo_selects_35 h1.a6 rfl (by omega) (by decide) ?_
    refine v_csR (pc := 36) (A := [.int (ia 10 (4 * (16 * e + r) + p)), .int (ia 5 v), .int (ia 6 v)]) (rest := []) (x := .int (if ma_ps (ia 10 (4 * (16 * e + r) + p)) (ia 5 v) (ia 6 v) = true then 1 else 0)) d_Mo_selects_36 lk_Mo_87 me_Mo_passes st_Mo_passes rfl rfl (c_Mo_passes g (ia 10 (4 * (16 * e + r) + p)) (ia 5 v) (ia 6 v)) (Nat.le_of_ble_eq_true rfl) (Nat.le_of_ble_eq_true rfl) (Nat.le_of_ble_eq_true rfl) (Nat.le_of_ble_eq_true rfl) ?_
    refine v_if_eq (pc := 39) (tgt := 69) d_Mo_selects_39 rfl (fun hc => ?_) (fun hc => ?_)
    · skip
      rw [zf] at hc
      have hnext : mo_gs w b sc ia la wd (ma_gf G0 (op_sel p (ia 5 v) (ia 6 v) (ar_bag (ia 10) (la 9) wd (16 * e) (r + 1)))) w1 := by
        unfold op_sel at hgs ⊢
        rw [ar_bag_snoc, List.filter_append, List.filter_cons_of_neg (by show ¬ ma_ps ((ar_row (ia 10) wd (4 * (16 * e + r))).getD p 0) _ _ = true; rw [ar_row_getD hpe]; exact hc), List.filter_nil, List.append_nil]
        exact hgs
      refine v_iinc (pc := 69) (L' := [(3, .int (nI (r + 1))), (0, .ref b), (1, .int (nI e)), (2, .int (nI v))]) d_Mo_selects_69 rfl (ix_inc _) (by decide) rfl ?_
      refine v_goto (pc := 72) (tgt := 2) d_Mo_selects_72 rfl ?_
      refine v_sub (L' := [(3, .int (nI (r + 1))), (0, .ref b), (1, .int (nI e)), (2, .int (nI v))]) (by simp) ?_
      exact ih (ne - (r + 1)) (by omega) (r + 1) _ rfl (by omega) hnext
    · skip
      rw [zt] at hc
      refine v_aload_n (pc := 42) d_Mo_selects_42 rfl rfl ?_
      refine v_iload_n (pc := 43) d_Mo_selects_43 rfl rfl ?_
      refine v_iload_n (pc := 44) d_Mo_selects_44 rfl rfl ?_
      refine v_cvV (pc := 45) (A := [.int (nI e), .int (nI r)]) (rest := []) d_Mo_selects_45 lk_Mo_90 me_Mo_take im_Mo_take se_Mo_take rfl h1.o rfl rfl (c_Mo_take g h1 (k := e) (r := r) (by omega)) (Nat.le_of_ble_eq_true rfl) (Nat.le_of_ble_eq_true rfl) (Nat.le_of_ble_eq_true rfl) (Nat.le_of_ble_eq_true rfl) (fun w2 ht2 => ?_)
      obtain ⟨o2, h2, hf2, ho2⟩ := ht2
      rw [bx_uu] at h2
      refine v_aload_n (pc := 48) d_Mo_selects_48 rfl rfl ?_
      refine v_aload_n (pc := 49) d_Mo_selects_49 rfl rfl ?_
      refine v_get (pc := 50) d_Mo_selects_50 fl_Mo_13 h2.o rfl ?_
      refine v_iload_n (pc := 53) d_Mo_selects_53 rfl rfl ?_
      refine v_ialdN (pc := 54) (k := v) (f := ia 0) d_Mo_selects_54 h2.a0 rfl (by omega) (by decide) ?_
      refine v_re hw ?_
      refine v_aload_n (pc := 55) d_Mo_selects_55 rfl rfl ?_
      refine v_get (pc := 56) d_Mo_selects_56 fl_Mo_41 h2.o rfl ?_
      refine v_bipush (pc := 59) (v := nI 16) d_Mo_selects_59 rfl ?_
      refine v_iload_n (pc := 61) d_Mo_selects_61 rfl rfl ?_
      refine v_imul (pc := 62) d_Mo_selects_62 ?_
      refine v_re (pk_mul 16 e) ?_
      refine v_iload_n (pc := 63) d_Mo_selects_63 rfl rfl ?_
      refine v_iadd (pc := 64) d_Mo_selects_64 ?_
      refine v_re (nI_add (16 * e) r) ?_
      refine v_laldN (pc := 65) (k := (16 * e) + r) (f := la 9) d_Mo_selects_65 h2.a9 rfl (by omega) (by decide) ?_
      refine v_cvV (pc := 66) (A := [.int (nI wd), .long (la 9 ((16 * e) + r))]) (rest := []) d_Mo_selects_66 lk_Mo_94 me_Mo_gather im_Mo_gather se_Mo_gather rfl h2.o rfl rfl (c_Mo_gather g h2 (n := (ma_gf G0 (op_sel p (ia 5 v) (ia 6 v) (ar_bag (ia 10) (la 9) wd (16 * e) r))).length) (wd := wd) (many := la 9 (16 * e + r)) rfl (by omega) hwd) (Nat.le_of_ble_eq_true rfl) (Nat.le_of_ble_eq_true rfl) (Nat.le_of_ble_eq_true rfl) (Nat.le_of_ble_eq_true rfl) (fun w3 ht3 => ?_)
      have hnext : mo_gs w b sc ia la wd (ma_gf G0 (op_sel p (ia 5 v) (ia 6 v) (ar_bag (ia 10) (la 9) wd (16 * e) (r + 1)))) w3 := by
        have e9 := mo_gs.add (hfr.tr hf2) hGG ht3
        have e8 : ar_row o2 wd 0 = ar_row (ia 10) wd (4 * (16 * e + r)) := ar_row_congr (fun c hc => by rw [Nat.zero_add]; exact ho2 c (by omega))
        rw [e8] at e9
        unfold op_sel at e9 ⊢
        rw [ar_bag_snoc, List.filter_append, List.filter_cons_of_pos (by show ma_ps ((ar_row (ia 10) wd (4 * (16 * e + r))).getD p 0) _ _ = true; rw [ar_row_getD hpe]; exact hc), List.filter_nil, ma_gf_snoc]
        exact e9
      refine v_iinc (pc := 69) (L' := [(3, .int (nI (r + 1))), (0, .ref b), (1, .int (nI e)), (2, .int (nI v))]) d_Mo_selects_69 rfl (ix_inc _) (by decide) rfl ?_
      refine v_goto (pc := 72) (tgt := 2) d_Mo_selects_72 rfl ?_
      refine v_sub (L' := [(3, .int (nI (r + 1))), (0, .ref b), (1, .int (nI e)), (2, .int (nI v))]) (by simp) ?_
      exact ih (ne - (r + 1)) (by omega) (r + 1) _ rfl (by omega) hnext
set_option maxRecDepth 100000 in
set_option maxHeartbeats 4000000 in
theorem c_Mo_selects (g : Gl) {w : Wd} {b sz : Nat} {sc : Nat → Int32} {ia : Nat → Nat → Int32} {la : Nat → Nat → Int64} (hM : MAt w b sc ia la) {e v ne wd : Nat} (he : e < 24) (hv : v < 12) (hce : ia 8 e = nI ne) (hne : ne ≤ 16) (hw : ia 0 v = nI wd) (hwd : wd ≤ 4) {G0 : MaB} (hg : sc 2 = nI G0.length) (hG : ar_bag (ia 12) (la 11) wd 0 G0.length = G0) {p : Nat} (hp : ia 4 v = nI p) (hpe : p < wd) (h0 : G0.length + 16 ≤ 256) : CT g 2 0 0 mi_Mo_selects [.ref b, .int (nI e), .int (nI v)] w sz (wrE none sz (mo_gs w b sc ia la wd (ma_gf G0 (op_sel p (ia 5 v) (ia 6 v) (ar_bag (ia 10) (la 9) wd (16 * e) ne))))) := by
  refine CT.of (by decide) (Nat.le_of_ble_eq_true rfl) ?_
  refine v_iconst (pc := 0) (v := nI 0) d_Mo_selects_0 rfl ?_
  refine v_istore_n (pc := 1) (L' := [(3, .int (nI 0)), (0, .ref b), (1, .int (nI e)), (2, .int (nI v))]) d_Mo_selects_1 rfl (by decide) rfl ?_
  refine v_sub (L' := [(3, .int (nI 0)), (0, .ref b), (1, .int (nI e)), (2, .int (nI v))]) (by simp) ?_
  exact lp_Mo_selects g hM he hv hce hne hw hwd hg hG hp hpe h0 (fun w' h => ⟨rfl, rfl, h⟩) ne 0 w rfl (by omega) (mo_gs.start hM hg hG)
