/-! gathering -/
theorem va_id {α : Type} (f : Nat → α) (k : Nat) : va_up f k (f k) = f := by
  funext j
  by_cases h : j = k
  · subst h; exact va_up_self _ _ _
  · exact va_up_ne _ _ h
theorem ma_g_hit {q : List Int32} {k k0 : Int64} : ∀ {b : MaB} {i : Nat}, (∀ j x, j < i → b[j]? = some x → x.1 ≠ q) → b[i]? = some (q, k0) → ma_g b q k = b.set i (q, k0 + k)
  | [], _, _, h => by simp at h
  | (r, m) :: t, 0, _, h => by
    have e : (r, m) = (q, k0) := by simpa using h
    cases e
    simp [ma_g]
  | (r, m) :: t, i + 1, h1, h => by
    have hr : r ≠ q := h1 0 (r, m) (by omega) rfl
    simp only [ma_g, if_neg hr, List.set_cons_succ]
    rw [ma_g_hit (i := i) (fun j x hj hx => h1 (j + 1) x (by omega) (by simpa using hx)) (by simpa using h)]
theorem ma_g_miss {q : List Int32} {k : Int64} : ∀ {b : MaB}, (∀ x ∈ b, x.1 ≠ q) → ma_g b q k = b ++ [(q, k)]
  | [], _ => rfl
  | (r, m) :: t, h => by
    have hr : r ≠ q := h (r, m) List.mem_cons_self
    simp only [ma_g, if_neg hr, List.cons_append]
    rw [ma_g_miss (fun x hx => h x (List.mem_cons_of_mem _ hx))]
theorem ar_bag_set {f : Nat → Int32} {m : Nat → Int64} {w o n i : Nat} {x : Int64} (hi : i < n) : (ar_bag f m w o n).set i (ar_row f w (4 * (o + i)), x) = ar_bag f (vp_updL m (o + i) x) w o n := by
  apply ar_ext (by rw [List.length_set, ar_bag_len])
  intro r hr
  rw [List.getElem?_set]
  by_cases h : i = r
  · subst h
    rw [if_pos rfl, if_pos (by rw [ar_bag_len]; exact hi), pk_uLs]
  · rw [if_neg h, ar_bag_get hr, pk_uLn (by omega)]
theorem ar_bag_new {f f1 : Nat → Int32} {m : Nat → Int64} {w o n : Nat} {x : Int64} {q : List Int32} (hw : w ≤ 4) (h1 : ∀ i, i < 4 * (o + n) → f1 i = f i) (h2 : ar_row f1 w (4 * (o + n)) = q) : ar_bag f1 (vp_updL m (o + n) x) w o (n + 1) = ar_bag f m w o n ++ [(q, x)] := by
  rw [ar_bag_snoc, h2, pk_uLs]
  congr 1
  refine ar_bag_congr (fun r hr c hc => h1 _ (by omega)) (fun r hr => pk_uLn (by omega))
def mo_gp (w : Wd) (b : Nat) (sc : Nat → Int32) (ia : Nat → Nat → Int32) (la : Nat → Nat → Int64) (n wd : Nat) (many : Int64) (w' : Wd) : Prop := ∃ sc' ia' la', MAt w' b sc' ia' la' ∧ mo_fr b w w' ∧ (∀ j, j ≠ 2 → sc' j = sc j) ∧ (∀ k, k ≠ 12 → ia' k = ia k) ∧ (∀ k, k ≠ 11 → la' k = la k) ∧ ∃ n', sc' 2 = nI n' ∧ n' ≤ n + 1 ∧ ar_bag (ia' 12) (la' 11) wd 0 n' = ma_g (ar_bag (ia 12) (la 11) wd 0 n) (ar_row (ia 13) wd 0) many
set_option maxRecDepth 100000 in
set_option maxHeartbeats 4000000 in
theorem lp2_Mo_gather (g : Gl) {w : Wd} {b sz : Nat} {sc : Nat → Int32} {ia : Nat → Nat → Int32} {la : Nat → Nat → Int64} (hM : MAt w b sc ia la) {n wd : Nat} {many : Int64} (hg : sc 2 = nI n) (hn : n < 256) (hwd : wd ≤ 4) (hno : ∀ x ∈ ar_bag (ia 12) (la 11) wd 0 n, x.1 ≠ ar_row (ia 13) wd 0) {E : Rs → Wd → Nat → Prop} (hE : ∀ w', mo_gp w b sc ia la n wd many w' → E (.inl none) w' sz) : ∀ (zz : Nat) (c : Nat) (w1 : Wd) (f1 : Nat → Int32), 4 - c = zz → c ≤ 4 → MAt w1 b sc (va_up ia 12 f1) la → mo_fr b w w1 → (∀ j, j < c → f1 (4 * n + j) = ia 13 j) → (∀ i, i < 4 * n → f1 i = ia 12 i) → VV g 1 0 0 mi_Mo_gather w sz E 43 [(4, .int (nI c)), (0, .ref b), (1, .int (nI wd)), (2, .long many)] [] w1 sz 0 0 := by
  intro zz
  induction zz using Nat.strongRecOn with | _ zz ih => _
  intro c w1 f1 hnn hc4 h1 h3 h4 h5
  refine v_iload (pc := 43) d_Mo_gather_43 rfl ?_
  refine v_iconst (pc := 45) (v := nI 4) d_Mo_gather_45 rfl ?_
  refine v_icmp_ge (pc := 46) (tgt := 76) d_Mo_gather_46 rfl (fun hc => ?_) (fun hc => ?_)
  · skip
    rw [nI_leI (by omega) (by omega)] at hc
    obtain rfl : c = 4 := by omega
    refine v_aload_n (pc := 76) d_Mo_gather_76 rfl rfl ?_
    refine v_get (pc := 77) d_Mo_gather_77 fl_Mo_48 h1.o rfl ?_
    refine v_aload_n (pc := 80) d_Mo_gather_80 rfl rfl ?_
    refine v_get (pc := 81) d_Mo_gather_81 fl_Mo_72 h1.o rfl ?_
    refine v_re hg ?_
    refine v_lload_n (pc := 84) d_Mo_gather_84 rfl rfl ?_
    refine v_lastW (pc := 85) (k := n) (f := la 11) d_Mo_gather_85 h1.a11 rfl (by omega) (by decide) (fun w2 hn2 hq2 => ?_)
    have h2 := h1.s11 hn2 hq2
    refine v_aload_n (pc := 86) d_Mo_gather_86 rfl rfl ?_
    refine v_dup (pc := 87) d_Mo_gather_87 rfl ?_
    refine v_get (pc := 88) d_Mo_gather_88 fl_Mo_72 h2.o rfl ?_
    refine v_re hg ?_
    refine v_iconst (pc := 91) (v := nI 1) d_Mo_gather_91 rfl ?_
    refine v_iadd (pc := 92) d_Mo_gather_92 ?_
    refine v_re (nI_add n 1) ?_
    refine v_putW (pc := 93) (fs' := mo_fs b (va_up sc 2 (nI (n + 1)))) d_Mo_gather_93 fl_Mo_72 (fi_Mo_72 _) (ok_Mo_13 _) h2.o (Nat.le_of_ble_eq_true rfl) rfl (fun w3 hn3 hq3 => ?_)
    have h6 := h2.n2 hn3 hq3
    exact v_vret (pc := 96) d_Mo_gather_96 rfl (Nat.le_of_ble_eq_true rfl) (Nat.le_of_ble_eq_true rfl) (hE w3 ⟨_, _, _, h6, (h3.at ⟨by omega, by omega⟩ hq2).at ⟨by omega, by omega⟩ hq3, fun j hj => va_up_ne _ _ hj, fun k hk => va_up_ne _ _ hk, fun k hk => va_up_ne _ _ hk, n + 1, rfl, Nat.le_refl _, by
      rw [ma_g_miss hno]
      have h9 := ar_bag_new (f := ia 12) (f1 := f1) (m := la 11) (w := wd) (o := 0) (n := n) (x := many) (q := ar_row (ia 13) wd 0) hwd (fun i hi => h5 i (by omega)) (ar_row_congr (fun j hj => by have h8 := h4 j (by omega); rw [Nat.zero_add, Nat.zero_add]; exact h8))
      rw [Nat.zero_add] at h9
      exact h9⟩)
  · skip
    rw [nI_leI (by omega) (by omega)] at hc
    refine v_aload_n (pc := 49) d_Mo_gather_49 rfl rfl ?_
    refine v_get (pc := 50) d_Mo_gather_50 fl_Mo_51 h1.o rfl ?_
    refine v_iconst (pc := 53) (v := nI 4) d_Mo_gather_53 rfl ?_
    refine v_aload_n (pc := 54) d_Mo_gather_54 rfl rfl ?_
    refine v_get (pc := 55) d_Mo_gather_55 fl_Mo_72 h1.o rfl ?_
    refine v_re hg ?_
    refine v_imul (pc := 58) d_Mo_gather_58 ?_
    refine v_re (pk_mul 4 n) ?_
    refine v_iload (pc := 59) d_Mo_gather_59 rfl ?_
    refine v_iadd (pc := 61) d_Mo_gather_61 ?_
    refine v_re (nI_add (4 * n) c) ?_
    refine v_aload_n (pc := 62) d_Mo_gather_62 rfl rfl ?_
    refine v_get (pc := 63) d_Mo_gather_63 fl_Mo_54 h1.o rfl ?_
    refine v_iload (pc := 66) d_Mo_gather_66 rfl ?_
    refine v_ialdN (pc := 68) (k := c) (f := ia 13) d_Mo_gather_68 h1.a13 rfl (by omega) (by decide) ?_
    refine v_iastW (pc := 69) (k := (4 * n) + c) (f := f1) d_Mo_gather_69 h1.a12 rfl (by omega) (by decide) (fun w2 hn2 hq2 => ?_)
    have h2 := h1.s12 hn2 hq2
    rw [bx_uu] at h2
    refine v_iinc (pc := 70) (L' := [(4, .int (nI (c + 1))), (0, .ref b), (1, .int (nI wd)), (2, .long many)]) d_Mo_gather_70 rfl (ix_inc _) (by decide) rfl ?_
    refine v_goto (pc := 73) (tgt := 43) d_Mo_gather_73 rfl ?_
    refine v_sub (L' := [(4, .int (nI (c + 1))), (0, .ref b), (1, .int (nI wd)), (2, .long many)]) (by simp) ?_
    exact ih (4 - (c + 1)) (by omega) (c + 1) w2 (upd f1 (4 * n + c) (ia 13 c)) rfl (by omega) h2 (h3.at ⟨by omega, by omega⟩ hq2) (fun j hj => by by_cases hjc : j = c; (subst hjc; exact pk_us); (rw [pk_un (by omega)]; exact h4 j (by omega))) (fun i hi => by rw [pk_un (by omega)]; exact h5 i hi)
set_option maxRecDepth 100000 in
set_option maxHeartbeats 4000000 in
theorem lp1_Mo_gather (g : Gl) {w : Wd} {b sz : Nat} {sc : Nat → Int32} {ia : Nat → Nat → Int32} {la : Nat → Nat → Int64} (hM : MAt w b sc ia la) {n wd : Nat} {many : Int64} (hg : sc 2 = nI n) (hn : n < 256) (hwd : wd ≤ 4) {E : Rs → Wd → Nat → Prop} (hE : ∀ w', mo_gp w b sc ia la n wd many w' → E (.inl none) w' sz) : ∀ (zz : Nat) (r : Nat), n - r = zz → r ≤ n → (∀ j, j < r → ¬ ar_row (ia 12) wd (4 * j) = ar_row (ia 13) wd 0) → VV g 1 0 0 mi_Mo_gather w sz E 3 [(4, .int (nI r)), (0, .ref b), (1, .int (nI wd)), (2, .long many)] [] w sz 0 0 := by
  intro zz
  induction zz using Nat.strongRecOn with | _ zz ih => _
  intro r hnn hrn hsk
  refine v_iload (pc := 3) d_Mo_gather_3 rfl ?_
  refine v_aload_n (pc := 5) d_Mo_gather_5 rfl rfl ?_
  refine v_get (pc := 6) d_Mo_gather_6 fl_Mo_72 hM.o rfl ?_
  refine v_re hg ?_
  refine v_icmp_ge (pc := 9) (tgt := 40) d_Mo_gather_9 rfl (fun hc => ?_) (fun hc => ?_)
  · skip
    rw [nI_leI (by omega) (by omega)] at hc
    refine v_iconst (pc := 40) (v := nI 0) d_Mo_gather_40 rfl ?_
    refine v_istore (pc := 41) (L' := [(4, .int (nI 0)), (0, .ref b), (1, .int (nI wd)), (2, .long many)]) d_Mo_gather_41 (by decide) rfl ?_
    refine v_sub (L' := [(4, .int (nI 0)), (0, .ref b), (1, .int (nI wd)), (2, .long many)]) (by simp) ?_
    exact lp2_Mo_gather g hM hg hn hwd (fun x hx => by obtain ⟨j, hj, rfl⟩ := ar_bag_mem hx; rw [Nat.zero_add]; exact hsk j (by omega)) hE 4 0 w (ia 12) rfl (by omega) (by rw [va_id]; exact hM) mo_fr.rf (fun j hj => absurd hj (Nat.not_lt_zero _)) (fun i _ => rfl)
  · skip
    rw [nI_leI (by omega) (by omega)] at hc
    refine v_aload_n (pc := 12) d_Mo_gather_12 rfl rfl ?_
    refine v_iload (pc := 13) d_Mo_gather_13 rfl ?_
    refine v_iload_n (pc := 15) d_Mo_gather_15 rfl rfl ?_
    refine v_cvR (pc := 16) (A := [.int (nI r), .int (nI wd)]) (rest := []) (x := .int (if ar_row (ia 12) wd (4 * r) = ar_row (ia 13) wd 0 then 1 else 0)) d_Mo_gather_16 lk_Mo_75 me_Mo_isRow im_Mo_isRow se_Mo_isRow rfl hM.o rfl rfl (c_Mo_isRow g hM (r := r) (wd := wd) (by omega) hwd) (Nat.le_of_ble_eq_true rfl) (Nat.le_of_ble_eq_true rfl) (Nat.le_of_ble_eq_true rfl) (Nat.le_of_ble_eq_true rfl) ?_
    refine v_if_eq (pc := 19) (tgt := 34) d_Mo_gather_19 rfl (fun hc => ?_) (fun hc => ?_)
    · skip
      rw [zf] at hc
      refine v_iinc (pc := 34) (L' := [(4, .int (nI (r + 1))), (0, .ref b), (1, .int (nI wd)), (2, .long many)]) d_Mo_gather_34 rfl (ix_inc _) (by decide) rfl ?_
      refine v_goto (pc := 37) (tgt := 3) d_Mo_gather_37 rfl ?_
      refine v_sub (L' := [(4, .int (nI (r + 1))), (0, .ref b), (1, .int (nI wd)), (2, .long many)]) (by simp) ?_
      exact ih (n - (r + 1)) (by omega) (r + 1) rfl (by omega) (fun j hj => by by_cases hjr : j = r; (subst hjr; exact hc); exact hsk j (by omega))
    · skip
      rw [zt] at hc
      refine v_aload_n (pc := 22) d_Mo_gather_22 rfl rfl ?_
      refine v_get (pc := 23) d_Mo_gather_23 fl_Mo_48 hM.o rfl ?_
      refine v_iload (pc := 26) d_Mo_gather_26 rfl ?_
      refine v_dup2 (pc := 28) d_Mo_gather_28 rfl rfl ?_
      refine v_laldN (pc := 29) (k := r) (f := la 11) d_Mo_gather_29 hM.a11 rfl (by omega) (by decide) ?_
      refine v_lload_n (pc := 30) d_Mo_gather_30 rfl rfl ?_
      refine v_ladd (pc := 31) d_Mo_gather_31 ?_
      refine v_lastW (pc := 32) (k := r) (f := la 11) d_Mo_gather_32 hM.a11 rfl (by omega) (by decide) (fun w2 hn2 hq2 => ?_)
      have h2 := hM.s11 hn2 hq2
      exact v_vret (pc := 33) d_Mo_gather_33 rfl (Nat.le_of_ble_eq_true rfl) (Nat.le_of_ble_eq_true rfl) (hE w2 ⟨_, _, _, h2, mo_fr.rf.at ⟨by omega, by omega⟩ hq2, fun j _ => rfl, fun k _ => rfl, fun k hk => va_up_ne _ _ hk, n, hg, by omega, by
      rw [ma_g_hit (i := r) (k0 := la 11 r) (fun j x hj hx => by rw [ar_bag_get (by omega)] at hx; cases hx; rw [Nat.zero_add]; exact hsk j hj) (by rw [ar_bag_get (by omega), Nat.zero_add, hc])]
      have h9 := ar_bag_set (f := ia 12) (m := la 11) (w := wd) (o := 0) (n := n) (i := r) (x := la 11 r + many) (by omega)
      rw [Nat.zero_add, hc] at h9
      exact h9.symm⟩)
set_option maxRecDepth 100000 in
set_option maxHeartbeats 4000000 in
theorem c_Mo_gather (g : Gl) {w : Wd} {b sz : Nat} {sc : Nat → Int32} {ia : Nat → Nat → Int32} {la : Nat → Nat → Int64} (hM : MAt w b sc ia la) {n wd : Nat} {many : Int64} (hg : sc 2 = nI n) (hn : n < 256) (hwd : wd ≤ 4) : CT g 1 0 0 mi_Mo_gather [.ref b, .int (nI wd), .long many] w sz (wrE none sz (mo_gp w b sc ia la n wd many)) := by
  refine CT.of (by decide) (Nat.le_of_ble_eq_true rfl) ?_
  refine v_iconst (pc := 0) (v := nI 0) d_Mo_gather_0 rfl ?_
  refine v_istore (pc := 1) (L' := [(4, .int (nI 0)), (0, .ref b), (1, .int (nI wd)), (2, .long many)]) d_Mo_gather_1 (by decide) rfl ?_
  refine v_sub (L' := [(4, .int (nI 0)), (0, .ref b), (1, .int (nI wd)), (2, .long many)]) (by simp) ?_
  exact lp1_Mo_gather g hM hg hn hwd (fun w' h => ⟨rfl, rfl, h⟩) n 0 rfl (by omega) (fun j hj => absurd hj (Nat.not_lt_zero _))
