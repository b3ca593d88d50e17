set_option maxRecDepth 100000 in
set_option maxHeartbeats 4000000 in
theorem lp1_Mo_takeOver (g : Gl) {w0 w : Wd} {b sz : Nat} {sc : Nat → Int32} {ia : Nat → Nat → Int32} {la : Nat → Nat → Int64} (hM : MAt w b sc ia la) {v : Nat} (hv : v < 12) {E : Rs → Wd → Nat → Prop} (K : ∀ w1 m1, MAt w1 b sc ia (va_up la 9 m1) → mo_fr b w w1 → (∀ j, j < 16 → m1 (16 * v + j) = la 9 (16 * (12 + v) + j)) → (∀ i, i < 16 * v ∨ 16 * v + 16 ≤ i → m1 i = la 9 i) → VV g 3 0 0 mi_Mo_takeOver w0 sz E 65 [(2, .int (nI 16)), (0, .ref b), (1, .int (nI v))] [] w1 sz 0 0) : ∀ (zz : Nat) (k : Nat) (w1 : Wd) (m1 : Nat → Int64), 16 - k = zz → k ≤ 16 → MAt w1 b sc ia (va_up la 9 m1) → mo_fr b w w1 → (∀ j, j < k → m1 (16 * v + j) = la 9 (16 * (12 + v) + j)) → (∀ i, i < 16 * v ∨ 16 * v + 16 ≤ i → m1 i = la 9 i) → VV g 3 0 0 mi_Mo_takeOver w0 sz E 28 [(2, .int (nI k)), (0, .ref b), (1, .int (nI v))] [] w1 sz 0 0 := by
  intro zz
  induction zz using Nat.strongRecOn with | _ zz ih => _
  intro k w1 m1 hnn hk16 h1 h3 h4 h5
  refine v_iload_n (pc := 28) d_Mo_takeOver_28 rfl rfl ?_
  refine v_bipush (pc := 29) (v := nI 16) d_Mo_takeOver_29 rfl ?_
  refine v_icmp_ge (pc := 31) (tgt := 65) d_Mo_takeOver_31 rfl (fun hc => ?_) (fun hc => ?_)
  · skip
    rw [nI_leI (by omega) (by omega)] at hc
    obtain rfl : k = 16 := by omega
    exact K w1 m1 h1 h3 h4 h5
  · skip
    rw [nI_leI (by omega) (by omega)] at hc
    refine v_aload_n (pc := 34) d_Mo_takeOver_34 rfl rfl ?_
    refine v_get (pc := 35) d_Mo_takeOver_35 fl_Mo_41 h1.o rfl ?_
    refine v_bipush (pc := 38) (v := nI 16) d_Mo_takeOver_38 rfl ?_
    refine v_iload_n (pc := 40) d_Mo_takeOver_40 rfl rfl ?_
    refine v_imul (pc := 41) d_Mo_takeOver_41 ?_
    refine v_re (pk_mul 16 v) ?_
    refine v_iload_n (pc := 42) d_Mo_takeOver_42 rfl rfl ?_
    refine v_iadd (pc := 43) d_Mo_takeOver_43 ?_
    refine v_re (nI_add (16 * v) k) ?_
    refine v_aload_n (pc := 44) d_Mo_takeOver_44 rfl rfl ?_
    refine v_get (pc := 45) d_Mo_takeOver_45 fl_Mo_41 h1.o rfl ?_
    refine v_bipush (pc := 48) (v := nI 16) d_Mo_takeOver_48 rfl ?_
    refine v_bipush (pc := 50) (v := nI 12) d_Mo_takeOver_50 rfl ?_
    refine v_iload_n (pc := 52) d_Mo_takeOver_52 rfl rfl ?_
    refine v_iadd (pc := 53) d_Mo_takeOver_53 ?_
    refine v_re (nI_add 12 v) ?_
    refine v_imul (pc := 54) d_Mo_takeOver_54 ?_
    refine v_re (pk_mul 16 (12 + v)) ?_
    refine v_iload_n (pc := 55) d_Mo_takeOver_55 rfl rfl ?_
    refine v_iadd (pc := 56) d_Mo_takeOver_56 ?_
    refine v_re (nI_add (16 * (12 + v)) k) ?_
    refine v_laldN (pc := 57) (k := (16 * (12 + v)) + k) (f := m1) d_Mo_takeOver_57 h1.a9 rfl (by omega) (by decide) ?_
    refine v_lastW (pc := 58) (k := (16 * v) + k) (f := m1) d_Mo_takeOver_58 h1.a9 rfl (by omega) (by decide) (fun w2 hn2 hq2 => ?_)
    have h2 := h1.s9 hn2 hq2
    rw [bx_uu] at h2
    refine v_iinc (pc := 59) (L' := [(2, .int (nI (k + 1))), (0, .ref b), (1, .int (nI v))]) d_Mo_takeOver_59 rfl (ix_inc _) (by decide) rfl ?_
    refine v_goto (pc := 62) (tgt := 28) d_Mo_takeOver_62 rfl ?_
    refine v_sub (L' := [(2, .int (nI (k + 1))), (0, .ref b), (1, .int (nI v))]) (by simp) ?_
    exact ih (16 - (k + 1)) (by omega) (k + 1) w2 (vp_updL m1 (16 * v + k) (m1 (16 * (12 + v) + k))) rfl (by omega) h2 (h3.at ⟨by omega, by omega⟩ hq2) (fun j hj => by by_cases hjc : j = k; (subst hjc; rw [pk_uLs]; exact h5 _ (by omega)); (rw [pk_uLn (by omega)]; exact h4 j (by omega))) (fun i hi => by rw [pk_uLn (by omega)]; exact h5 i hi)
set_option maxRecDepth 100000 in
set_option maxHeartbeats 4000000 in
theorem lp2_Mo_takeOver (g : Gl) {w0 w : Wd} {b sz : Nat} {sc : Nat → Int32} {ia : Nat → Nat → Int32} {la : Nat → Nat → Int64} (hM : MAt w b sc ia la) {v : Nat} (hv : v < 12) {E : Rs → Wd → Nat → Prop} (hE : ∀ w1 f1, MAt w1 b sc (va_up ia 10 f1) la → mo_fr b w w1 → (∀ j, j < 64 → f1 (64 * v + j) = ia 10 (64 * (12 + v) + j)) → (∀ i, i < 64 * v ∨ 64 * v + 64 ≤ i → f1 i = ia 10 i) → E (.inl none) w1 sz) : ∀ (zz : Nat) (k : Nat) (w1 : Wd) (f1 : Nat → Int32), 64 - k = zz → k ≤ 64 → MAt w1 b sc (va_up ia 10 f1) la → mo_fr b w w1 → (∀ j, j < k → f1 (64 * v + j) = ia 10 (64 * (12 + v) + j)) → (∀ i, i < 64 * v ∨ 64 * v + 64 ≤ i → f1 i = ia 10 i) → VV g 3 0 0 mi_Mo_takeOver w0 sz E 67 [(2, .int (nI k)), (0, .ref b), (1, .int (nI v))] [] w1 sz 0 0 := by
  intro zz
  induction zz using Nat.strongRecOn with | _ zz ih => _
  intro k w1 f1 hnn hk64 h1 h3 h4 h5
  refine v_iload_n (pc := 67) d_Mo_takeOver_67 rfl rfl ?_
  refine v_bipush (pc := 68) (v := nI 64) d_Mo_takeOver_68 rfl ?_
  refine v_icmp_ge (pc := 70) (tgt := 104) d_Mo_takeOver_70 rfl (fun hc => ?_) (fun hc => ?_)
  · skip
    rw [nI_leI (by omega) (by omega)] at hc
    obtain rfl : k = 64 := by omega
    exact v_vret (pc := 104) d_Mo_takeOver_104 rfl (Nat.le_of_ble_eq_true rfl) (Nat.le_of_ble_eq_true rfl) (hE w1 f1 h1 h3 h4 h5)
  · skip
    rw [nI_leI (by omega) (by omega)] at hc
    refine v_aload_n (pc := 73) d_Mo_takeOver_73 rfl rfl ?_
    refine v_get (pc := 74) d_Mo_takeOver_74 fl_Mo_45 h1.o rfl ?_
    refine v_bipush (pc := 77) (v := nI 64) d_Mo_takeOver_77 rfl ?_
    refine v_iload_n (pc := 79) d_Mo_takeOver_79 rfl rfl ?_
    refine v_imul (pc := 80) d_Mo_takeOver_80 ?_
    refine v_re (pk_mul 64 v) ?_
    refine v_iload_n (pc := 81) d_Mo_takeOver_81 rfl rfl ?_
    refine v_iadd (pc := 82) d_Mo_takeOver_82 ?_
    refine v_re (nI_add (64 * v) k) ?_
    refine v_aload_n (pc := 83) d_Mo_takeOver_83 rfl rfl ?_
    refine v_get (pc := 84) d_Mo_takeOver_84 fl_Mo_45 h1.o rfl ?_
    refine v_bipush (pc := 87) (v := nI 64) d_Mo_takeOver_87 rfl ?_
    refine v_bipush (pc := 89) (v := nI 12) d_Mo_takeOver_89 rfl ?_
    refine v_iload_n (pc := 91) d_Mo_takeOver_91 rfl rfl ?_
    refine v_iadd (pc := 92) d_Mo_takeOver_92 ?_
    refine v_re (nI_add 12 v) ?_
    refine v_imul (pc := 93) d_Mo_takeOver_93 ?_
    refine v_re (pk_mul 64 (12 + v)) ?_
    refine v_iload_n (pc := 94) d_Mo_takeOver_94 rfl rfl ?_
    refine v_iadd (pc := 95) d_Mo_takeOver_95 ?_
    refine v_re (nI_add (64 * (12 + v)) k) ?_
    refine v_ialdN (pc := 96) (k := (64 * (12 + v)) + k) (f := f1) d_Mo_takeOver_96 h1.a10 rfl (by omega) (by decide) ?_
    refine v_iastW (pc := 97) (k := (64 * v) + k) (f := f1) d_Mo_takeOver_97 h1.a10 rfl (by omega) (by decide) (fun w2 hn2 hq2 => ?_)
    have h2 := h1.s10 hn2 hq2
    rw [bx_uu] at h2
    refine v_iinc (pc := 98) (L' := [(2, .int (nI (k + 1))), (0, .ref b), (1, .int (nI v))]) d_Mo_takeOver_98 rfl (ix_inc _) (by decide) rfl ?_
    refine v_goto (pc := 101) (tgt := 67) d_Mo_takeOver_101 rfl ?_
    refine v_sub (L' := [(2, .int (nI (k + 1))), (0, .ref b), (1, .int (nI v))]) (by simp) ?_
    exact ih (64 - (k + 1)) (by omega) (k + 1) w2 (upd f1 (64 * v + k) (f1 (64 * (12 + v) + k))) rfl (by omega) h2 (h3.at ⟨by omega, by omega⟩ hq2) (fun j hj => by by_cases hjc : j = k; (subst hjc; rw [pk_us]; exact h5 _ (by omega)); (rw [pk_un (by omega)]; exact h4 j (by omega))) (fun i hi => by rw [pk_un (by omega)]; exact h5 i hi)
def mo_to (w : Wd) (b : Nat) (sc : Nat → Int32) (ia : Nat → Nat → Int32) (la : Nat → Nat → Int64) (v wd : Nat) (B C : MaB) (w' : Wd) : Prop :=
  ∃ ia' la', MAt w' b sc ia' la' ∧ mo_fr b w w' ∧ (∀ i, i ≠ 7 → i ≠ 8 → i ≠ 10 → ia' i = ia i) ∧ (∀ u, u ≠ v → ia' 7 u = ia 7 u) ∧ ia' 7 v = nI (ma_mv2 C B) ∧ (∀ u, u ≠ v → ia' 8 u = ia 8 u) ∧ (∀ i, i < 64 * v ∨ 64 * v + 64 ≤ i → ia' 10 i = ia 10 i) ∧ (∀ i, i < 16 * v ∨ 16 * v + 16 ≤ i → la' 9 i = la 9 i) ∧ BK ia' la' v wd C
set_option maxRecDepth 100000 in
set_option maxHeartbeats 4000000 in
theorem c_Mo_takeOver (g : Gl) {w : Wd} {b sz : Nat} {sc : Nat → Int32} {ia : Nat → Nat → Int32} {la : Nat → Nat → Int64} (hM : MAt w b sc ia la) {v wd : Nat} {B C : MaB} (hv : v < 12) (hw : ia 0 v = nI wd) (hwd : wd ≤ 4) (hB : BK ia la v wd B) (hC : BK ia la (12 + v) wd C) : CT g 3 0 0 mi_Mo_takeOver [.ref b, .int (nI v)] w sz (wrE none sz (mo_to w b sc ia la v wd B C)) := by
  refine CT.of (by decide) (Nat.le_of_ble_eq_true rfl) ?_
  obtain ⟨hC1, hC2, hC3⟩ := id hC
  refine v_aload_n (pc := 0) d_Mo_takeOver_0 rfl rfl ?_
  refine v_get (pc := 1) d_Mo_takeOver_1 fl_Mo_35 hM.o rfl ?_
  refine v_iload_n (pc := 4) d_Mo_takeOver_4 rfl rfl ?_
  refine v_aload_n (pc := 5) d_Mo_takeOver_5 rfl rfl ?_
  refine v_iload_n (pc := 6) d_Mo_takeOver_6 rfl rfl ?_
  refine v_cvR (pc := 7) (A := [.int (nI v)]) (rest := [.int (nI v), .ref (b + 8)]) (x := .int (nI (ma_mv2 C B))) d_Mo_takeOver_7 lk_Mo_130 me_Mo_differing im_Mo_differing se_Mo_differing rfl hM.o rfl rfl (c_Mo_differing g hM hv hw hwd hB hC) (Nat.le_of_ble_eq_true rfl) (Nat.le_of_ble_eq_true rfl) (Nat.le_of_ble_eq_true rfl) (Nat.le_of_ble_eq_true rfl) ?_
  refine v_iastW (pc := 10) (k := v) (f := ia 7) d_Mo_takeOver_10 hM.a7 rfl (by omega) (by decide) (fun w1 hn1 hq1 => ?_)
  have h1 := hM.s7 hn1 hq1
  refine v_aload_n (pc := 11) d_Mo_takeOver_11 rfl rfl ?_
  refine v_get (pc := 12) d_Mo_takeOver_12 fl_Mo_38 h1.o rfl ?_
  refine v_iload_n (pc := 15) d_Mo_takeOver_15 rfl rfl ?_
  refine v_aload_n (pc := 16) d_Mo_takeOver_16 rfl rfl ?_
  refine v_get (pc := 17) d_Mo_takeOver_17 fl_Mo_38 h1.o rfl ?_
  refine v_bipush (pc := 20) (v := nI 12) d_Mo_takeOver_20 rfl ?_
  refine v_iload_n (pc := 22) d_Mo_takeOver_22 rfl rfl ?_
  refine v_iadd (pc := 23) d_Mo_takeOver_23 ?_
  refine v_re (nI_add 12 v) ?_
  refine v_ialdN (pc := 24) (k := 12 + v) (f := ia 8) d_Mo_takeOver_24 h1.a8 rfl (by omega) (by decide) ?_
  refine v_re hC1 ?_
  refine v_iastW (pc := 25) (k := v) (f := ia 8) d_Mo_takeOver_25 h1.a8 rfl (by omega) (by decide) (fun w2 hn2 hq2 => ?_)
  have h2 := h1.s8 hn2 hq2
  refine v_iconst (pc := 26) (v := nI 0) d_Mo_takeOver_26 rfl ?_
  refine v_istore_n (pc := 27) (L' := [(2, .int (nI 0)), (0, .ref b), (1, .int (nI v))]) d_Mo_takeOver_27 rfl (by decide) rfl ?_
  refine v_sub (L' := [(2, .int (nI 0)), (0, .ref b), (1, .int (nI v))]) (by simp) ?_
  refine lp1_Mo_takeOver g h2 (v := v) hv (fun w3 m3 h3 f3 a3 b3 => ?_) 16 0 w2 (la 9) rfl (by omega) (by rw [va_id]; exact h2) mo_fr.rf (fun j hj => absurd hj (Nat.not_lt_zero _)) (fun i _ => rfl)
  refine v_iconst (pc := 65) (v := nI 0) d_Mo_takeOver_65 rfl ?_
  refine v_istore_n (pc := 66) (L' := [(2, .int (nI 0)), (0, .ref b), (1, .int (nI v))]) d_Mo_takeOver_66 rfl (by decide) rfl ?_
  refine v_sub (L' := [(2, .int (nI 0)), (0, .ref b), (1, .int (nI v))]) (by simp) ?_
  refine lp2_Mo_takeOver g h3 (v := v) hv (fun w4 f4 h4 q4 a4 b4 => ?_) 64 0 w3 (ia 10) rfl (by omega) (by rw [show va_up (va_up (va_up ia 7 (upd (ia 7) v (nI (ma_mv2 C B)))) 8 (upd (ia 8) v (nI C.length))) 10 (ia 10) = (va_up (va_up ia 7 (upd (ia 7) v (nI (ma_mv2 C B)))) 8 (upd (ia 8) v (nI C.length))) from va_id (va_up (va_up ia 7 (upd (ia 7) v (nI (ma_mv2 C B)))) 8 (upd (ia 8) v (nI C.length))) 10]; exact h3) mo_fr.rf (fun j hj => absurd hj (Nat.not_lt_zero _)) (fun i _ => rfl)
  have a4 : ∀ j, j < 64 → f4 (64 * v + j) = ia 10 (64 * (12 + v) + j) := a4
  have b4 : ∀ i, i < 64 * v ∨ 64 * v + 64 ≤ i → f4 i = ia 10 i := b4
  refine ⟨rfl, rfl, _, _, h4, (((mo_fr.rf.at ⟨by omega, by omega⟩ hq1).at ⟨by omega, by omega⟩ hq2).tr f3).tr q4, ?_, ?_, ?_, ?_, ?_, ?_, ?_⟩
  · intro i c1 c2 c3; rw [va_up_ne _ _ c3, va_up_ne _ _ c2, va_up_ne _ _ c1]
  · intro u hu; exact pk_un hu
  · exact pk_us
  · intro u hu; exact pk_un hu
  · exact b4
  · exact b3
  · refine ⟨pk_us, hC2, Eq.trans (ar_bag_congr (fun r hr c hc => ?_) (fun r hr => ?_)) hC3⟩
    · show f4 _ = ia 10 _
      rw [show 4 * (16 * v + r) + c = 64 * v + (4 * r + c) by omega, a4 _ (by omega)]
      congr 1; omega
    · exact a3 r (by omega)
