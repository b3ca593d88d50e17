/-! taking, passing, settling -/
theorem lg0 {x y : Int64} : lg_cmp x y = 0 ↔ x = y := by
  unfold lg_cmp
  by_cases h1 : y < x
  · have : x ≠ y := fun h => by subst h; exact absurd h1 (by simp [Int64.lt_iff_toInt_lt])
    simp [h1, this]
  · by_cases h2 : x < y
    · have : x ≠ y := fun h => by subst h; exact absurd h2 (by simp [Int64.lt_iff_toInt_lt])
      simp [h1, h2, this]
    · have : x = y := by
        rw [Int64.lt_iff_toInt_lt] at h1 h2
        exact Int64.toInt_inj.mp (by omega)
      simp [h1, h2, this]
def ma_ps (c t n : Int32) : Bool := if t = 0 then decide (c < n) else if t = 1 then decide (c = n) else decide (n < c)
def mo_tp (w : Wd) (b : Nat) (sc : Nat → Int32) (ia : Nat → Nat → Int32) (la : Nat → Nat → Int64) (k r : Nat) (w' : Wd) : Prop := ∃ f, MAt w' b sc (va_up ia 13 f) la ∧ mo_fr b w w' ∧ ∀ c, c < 4 → f c = ia 10 (4 * (16 * k + r) + c)
set_option maxRecDepth 100000 in
set_option maxHeartbeats 4000000 in
theorem lp_Mo_take (g : Gl) {w : Wd} {b sz : Nat} {sc : Nat → Int32} {ia : Nat → Nat → Int32} {la : Nat → Nat → Int64} (hM : MAt w b sc ia la) {k r : Nat} (hk : 4 * (16 * k + r) + 3 < 1536) {E : Rs → Wd → Nat → Prop} (hE : ∀ w', mo_tp w b sc ia la k r w' → E (.inl none) w' sz) : ∀ (zz : Nat) (c : Nat) (w1 : Wd) (f1 : Nat → Int32), 4 - c = zz → c ≤ 4 → MAt w1 b sc (va_up ia 13 f1) la → mo_fr b w w1 → (∀ j, j < c → f1 j = ia 10 (4 * (16 * k + r) + j)) → VV g 1 0 0 mi_Mo_take w sz E 2 [(3, .int (nI c)), (0, .ref b), (1, .int (nI k)), (2, .int (nI r))] [] w1 sz 0 0 := by
  intro zz
  induction zz using Nat.strongRecOn with | _ zz ih => _
  intro c w1 f1 hnn hc4 h1 h3 h4
  refine v_iload_n (pc := 2) d_Mo_take_2 rfl rfl ?_
  refine v_iconst (pc := 3) (v := nI 4) d_Mo_take_3 rfl ?_
  refine v_icmp_ge (pc := 4) (tgt := 26) d_Mo_take_4 rfl (fun hc => ?_) (fun hc => ?_)
  · skip
    rw [nI_leI (by omega) (by omega)] at hc
    obtain rfl : c = 4 := by omega
    exact v_vret (pc := 26) d_Mo_take_26 rfl (Nat.le_of_ble_eq_true rfl) (Nat.le_of_ble_eq_true rfl) (hE w1 ⟨f1, h1, h3, h4⟩)
  · skip
    rw [nI_leI (by omega) (by omega)] at hc
    refine v_aload_n (pc := 7) d_Mo_take_7 rfl rfl ?_
    refine v_get (pc := 8) d_Mo_take_8 fl_Mo_54 h1.o rfl ?_
    refine v_iload_n (pc := 11) d_Mo_take_11 rfl rfl ?_
    refine v_aload_n (pc := 12) d_Mo_take_12 rfl rfl ?_
    refine v_iload_n (pc := 13) d_Mo_take_13 rfl rfl ?_
    refine v_iload_n (pc := 14) d_Mo_take_14 rfl rfl ?_
    refine v_iload_n (pc := 15) d_Mo_take_15 rfl rfl ?_
    refine v_cvR (pc := 16) (A := [.int (nI k), .int (nI r), .int (nI c)]) (rest := [.int (nI c), .ref (b + 14)]) (x := .int (ia 10 (4 * (16 * k + r) + c))) d_Mo_take_16 lk_Mo_83 me_Mo_cellOf im_Mo_cellOf se_Mo_cellOf rfl h1.o rfl rfl (c_Mo_cellOf g h1 (k := k) (r := r) (c := c) (by omega)) (Nat.le_of_ble_eq_true rfl) (Nat.le_of_ble_eq_true rfl) (Nat.le_of_ble_eq_true rfl) (Nat.le_of_ble_eq_true rfl) ?_
    refine v_iastW (pc := 19) (k := c) (f := f1) d_Mo_take_19 h1.a13 rfl (by omega) (by decide) (fun w2 hn2 hq2 => ?_)
    have h2 := h1.s13 hn2 hq2
    rw [bx_uu] at h2
    refine v_iinc (pc := 20) (L' := [(3, .int (nI (c + 1))), (0, .ref b), (1, .int (nI k)), (2, .int (nI r))]) d_Mo_take_20 rfl (ix_inc _) (by decide) rfl ?_
    refine v_goto (pc := 23) (tgt := 2) d_Mo_take_23 rfl ?_
    refine v_sub (L' := [(3, .int (nI (c + 1))), (0, .ref b), (1, .int (nI k)), (2, .int (nI r))]) (by simp) ?_
    exact ih (4 - (c + 1)) (by omega) (c + 1) w2 (upd f1 c (ia 10 (4 * (16 * k + r) + c))) rfl (by omega) h2 (h3.at ⟨by omega, by omega⟩ hq2) (fun j hj => by by_cases hjc : j = c; (subst hjc; exact pk_us); (rw [pk_un (by omega)]; exact h4 j (by omega)))
set_option maxRecDepth 100000 in
set_option maxHeartbeats 4000000 in
theorem c_Mo_take (g : Gl) {w : Wd} {b sz : Nat} {sc : Nat → Int32} {ia : Nat → Nat → Int32} {la : Nat → Nat → Int64} (hM : MAt w b sc ia la) {k r : Nat} (hk : 4 * (16 * k + r) + 3 < 1536) : CT g 1 0 0 mi_Mo_take [.ref b, .int (nI k), .int (nI r)] w sz (wrE none sz (mo_tp w b sc ia la k r)) := by
  refine CT.of (by decide) (Nat.le_of_ble_eq_true rfl) ?_
  refine v_iconst (pc := 0) (v := nI 0) d_Mo_take_0 rfl ?_
  refine v_istore_n (pc := 1) (L' := [(3, .int (nI 0)), (0, .ref b), (1, .int (nI k)), (2, .int (nI r))]) d_Mo_take_1 rfl (by decide) rfl ?_
  refine v_sub (L' := [(3, .int (nI 0)), (0, .ref b), (1, .int (nI k)), (2, .int (nI r))]) (by simp) ?_
  exact lp_Mo_take g hM hk (fun w' h => ⟨rfl, rfl, h⟩) 4 0 w (ia 13) rfl (by omega) (by rw [va_id]; exact hM) mo_fr.rf (fun j hj => absurd hj (Nat.not_lt_zero _))
set_option maxRecDepth 100000 in
set_option maxHeartbeats 4000000 in
theorem c_Mo_passes (g : Gl) {w : Wd} {sz : Nat} (c t x : Int32) : CT g 0 0 0 mi_Mo_passes [.int c, .int t, .int x] w sz (rdE (some (.int (if ma_ps c t x = true then 1 else 0))) w sz) := by
  refine CT.of (by decide) (Nat.le_of_ble_eq_true rfl) ?_
  refine v_iload_n (pc := 0) d_Mo_passes_0 rfl rfl ?_
  refine v_if_ne (pc := 1) (tgt := 17) d_Mo_passes_1 rfl (fun hc => ?_) (fun hc => ?_)
  · skip
    refine v_iload_n (pc := 17) d_Mo_passes_17 rfl rfl ?_
    refine v_iconst (pc := 18) (v := nI 1) d_Mo_passes_18 rfl ?_
    refine v_icmp_ne (pc := 19) (tgt := 35) d_Mo_passes_19 rfl (fun hc => ?_) (fun hc => ?_)
    · skip
      have hc : ¬ t = 1 := hc
      refine v_iload_n (pc := 35) d_Mo_passes_35 rfl rfl ?_
      refine v_iload_n (pc := 36) d_Mo_passes_36 rfl rfl ?_
      refine v_icmp_le (pc := 37) (tgt := 44) d_Mo_passes_37 rfl (fun hc => ?_) (fun hc => ?_)
      · skip
        refine v_iconst (pc := 44) (v := nI 0) d_Mo_passes_44 rfl ?_
        exact v_zret (pc := 45) d_Mo_passes_45 rfl z01 (Nat.le_of_ble_eq_true rfl) (Nat.le_of_ble_eq_true rfl) ⟨zr0 (by unfold ma_ps; simp_all [Int32.not_lt, Int32.not_le]), rfl, rfl⟩
      · skip
        refine v_iconst (pc := 40) (v := nI 1) d_Mo_passes_40 rfl ?_
        refine v_goto (pc := 41) (tgt := 45) d_Mo_passes_41 rfl ?_
        exact v_zret (pc := 45) d_Mo_passes_45 rfl z11 (Nat.le_of_ble_eq_true rfl) (Nat.le_of_ble_eq_true rfl) ⟨zr1 (by unfold ma_ps; simp_all [Int32.not_lt, Int32.not_le]), rfl, rfl⟩
    · skip
      have hc : t = 1 := hc
      refine v_iload_n (pc := 22) d_Mo_passes_22 rfl rfl ?_
      refine v_iload_n (pc := 23) d_Mo_passes_23 rfl rfl ?_
      refine v_icmp_ne (pc := 24) (tgt := 31) d_Mo_passes_24 rfl (fun hc => ?_) (fun hc => ?_)
      · skip
        refine v_iconst (pc := 31) (v := nI 0) d_Mo_passes_31 rfl ?_
        refine v_goto (pc := 32) (tgt := 45) d_Mo_passes_32 rfl ?_
        exact v_zret (pc := 45) d_Mo_passes_45 rfl z01 (Nat.le_of_ble_eq_true rfl) (Nat.le_of_ble_eq_true rfl) ⟨zr0 (by unfold ma_ps; simp_all [Int32.not_lt, Int32.not_le]), rfl, rfl⟩
      · skip
        refine v_iconst (pc := 27) (v := nI 1) d_Mo_passes_27 rfl ?_
        refine v_goto (pc := 28) (tgt := 45) d_Mo_passes_28 rfl ?_
        exact v_zret (pc := 45) d_Mo_passes_45 rfl z11 (Nat.le_of_ble_eq_true rfl) (Nat.le_of_ble_eq_true rfl) ⟨zr1 (by unfold ma_ps; simp_all [Int32.not_lt, Int32.not_le]), rfl, rfl⟩
  · skip
    refine v_iload_n (pc := 4) d_Mo_passes_4 rfl rfl ?_
    refine v_iload_n (pc := 5) d_Mo_passes_5 rfl rfl ?_
    refine v_icmp_ge (pc := 6) (tgt := 13) d_Mo_passes_6 rfl (fun hc => ?_) (fun hc => ?_)
    · skip
      refine v_iconst (pc := 13) (v := nI 0) d_Mo_passes_13 rfl ?_
      refine v_goto (pc := 14) (tgt := 45) d_Mo_passes_14 rfl ?_
      exact v_zret (pc := 45) d_Mo_passes_45 rfl z01 (Nat.le_of_ble_eq_true rfl) (Nat.le_of_ble_eq_true rfl) ⟨zr0 (by unfold ma_ps; simp_all [Int32.not_lt, Int32.not_le]), rfl, rfl⟩
    · skip
      refine v_iconst (pc := 9) (v := nI 1) d_Mo_passes_9 rfl ?_
      refine v_goto (pc := 10) (tgt := 45) d_Mo_passes_10 rfl ?_
      exact v_zret (pc := 45) d_Mo_passes_45 rfl z11 (Nat.le_of_ble_eq_true rfl) (Nat.le_of_ble_eq_true rfl) ⟨zr1 (by unfold ma_ps; simp_all [Int32.not_lt, Int32.not_le]), rfl, rfl⟩
