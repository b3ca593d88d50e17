def mo_sp (w : Wd) (b : Nat) (sc : Nat → Int32) (ia : Nat → Nat → Int32) (la : Nat → Nat → Int64) (k wd : Nat) (c : MaB) (w' : Wd) : Prop := ∃ f1 m1, MAt w' b sc (va_up ia 10 f1) (va_up la 9 m1) ∧ mo_fr b w w' ∧ ar_bag f1 m1 wd (16 * k) c.length = c ∧ (∀ i, i < 16 * k ∨ 16 * k + 16 ≤ i → m1 i = la 9 i) ∧ (∀ i, i < 64 * k ∨ 64 * k + 64 ≤ i → f1 i = ia 10 i)
theorem mo_uni {n i j : Nat} {c : MaB} {x : List Int32 × Int64} (h : ma_ok n c) (hi : c[i]? = some x) (hj : c[j]? = some x) : i = j := by
  obtain ⟨h1, e1⟩ := List.getElem?_eq_some_iff.mp hi
  obtain ⟨h2, e2⟩ := List.getElem?_eq_some_iff.mp hj
  have r1 := ma_rank h h1
  have r2 := ma_rank h h2
  rw [e1] at r1
  rw [e2] at r2
  exact r1.symm.trans r2
set_option maxRecDepth 100000 in
set_option maxHeartbeats 4000000 in
theorem lp2_Mo_settle (g : Gl) {w0 w : Wd} {b sz : Nat} {sc : Nat → Int32} {ia : Nat → Nat → Int32} {la : Nat → Nat → Int64} (hM : MAt w b sc ia la) {n k wd mo : Nat} (hg : sc 2 = nI n) (hn : n ≤ 256) (hk : k < 24) (hw1 : 1 ≤ wd) (hwd : wd ≤ 4) (hmo : mo ≤ 16) {c : MaB} (hok : ma_ok wd c) (hp : ((ar_bag (ia 12) (la 11) wd 0 n).filter (fun x => decide (x.2 ≠ 0))).Perm c) (hcl : c.length ≤ 16) {E : Rs → Wd → Nat → Prop} (hE : ∀ w', mo_sp w b sc ia la k wd c w' → E (.inl (some (.int (nI 1)))) w' sz) : ∀ (zz : Nat) (r : Nat) (w1 : Wd) (f1 : Nat → Int32) (m1 : Nat → Int64), n - r = zz → r ≤ n → MAt w1 b sc (va_up ia 10 f1) (va_up la 9 m1) → mo_fr b w w1 → (∀ s, s < r → la 11 s ≠ 0 → ∀ i, c[i]? = some (ar_row (ia 12) wd (4 * s), la 11 s) → m1 (16 * k + i) = la 11 s ∧ ar_row f1 wd (4 * (16 * k + i)) = ar_row (ia 12) wd (4 * s)) → (∀ i, i < 16 * k ∨ 16 * k + 16 ≤ i → m1 i = la 9 i) → (∀ i, i < 64 * k ∨ 64 * k + 64 ≤ i → f1 i = ia 10 i) → VV g 1 0 0 mi_Mo_settle w0 sz E 63 [(5, .int (nI r)), (4, .int (nI (c.length))), (0, .ref b), (1, .int (nI k)), (2, .int (nI wd)), (3, .int (nI mo))] [] w1 sz 0 0 := by
  intro zz
  induction zz using Nat.strongRecOn with | _ zz ih => _
  intro r w1 f1 m1 hnn hrn h1 hfr hwr hm9 hf10
  refine v_iload (pc := 63) d_Mo_settle_63 rfl ?_
  refine v_aload_n (pc := 65) d_Mo_settle_65 rfl rfl ?_
  refine v_get (pc := 66) d_Mo_settle_66 fl_Mo_72 h1.o rfl ?_
  refine v_re hg ?_
  refine v_icmp_ge (pc := 69) (tgt := 202) d_Mo_settle_69 rfl (fun hc => ?_) (fun hc => ?_)
  · skip
    rw [nI_leI (by omega) (by omega)] at hc
    obtain rfl : r = n := by omega
    refine v_iconst (pc := 202) (v := nI 1) d_Mo_settle_202 rfl ?_
    exact v_zret (pc := 203) d_Mo_settle_203 rfl z11 (Nat.le_of_ble_eq_true rfl) (Nat.le_of_ble_eq_true rfl) (hE w1 ⟨f1, m1, h1, hfr, (ar_ext rfl (fun i hi => by obtain ⟨s, q1, q2, q3⟩ := mo_at hp hi; obtain ⟨y1, y2⟩ := hwr s q1 q2 i q3; rw [q3, y1, y2])).symm, hm9, hf10⟩)
  · skip
    rw [nI_leI (by omega) (by omega)] at hc
    refine v_bipush (pc := 72) (v := nI 16) d_Mo_settle_72 rfl ?_
    refine v_iload_n (pc := 74) d_Mo_settle_74 rfl rfl ?_
    refine v_imul (pc := 75) d_Mo_settle_75 ?_
    refine v_re (pk_mul 16 k) ?_
    refine v_re (y := nI (16 * k + mo_rk (ia 12) (la 11) wd (ar_row (ia 12) wd (4 * r)) 0)) rfl ?_
    refine v_istore (pc := 76) (L' := [(6, .int (nI (16 * k + mo_rk (ia 12) (la 11) wd (ar_row (ia 12) wd (4 * r)) 0))), (5, .int (nI r)), (4, .int (nI (c.length))), (0, .ref b), (1, .int (nI k)), (2, .int (nI wd)), (3, .int (nI mo))]) d_Mo_settle_76 (by decide) rfl ?_
    refine v_iconst (pc := 78) (v := nI 0) d_Mo_settle_78 rfl ?_
    refine v_istore (pc := 79) (L' := [(7, .int (nI 0)), (6, .int (nI (16 * k + mo_rk (ia 12) (la 11) wd (ar_row (ia 12) wd (4 * r)) 0))), (5, .int (nI r)), (4, .int (nI (c.length))), (0, .ref b), (1, .int (nI k)), (2, .int (nI wd)), (3, .int (nI mo))]) d_Mo_settle_79 (by decide) rfl ?_
    refine v_sub (L' := [(7, .int (nI 0)), (6, .int (nI (16 * k + mo_rk (ia 12) (la 11) wd (ar_row (ia 12) wd (4 * r)) 0))), (5, .int (nI r)), (4, .int (nI (c.length))), (0, .ref b), (1, .int (nI k)), (2, .int (nI wd)), (3, .int (nI mo))]) (by simp) ?_
    refine lp3_Mo_settle g h1 hg hn hk hw1 hwd hmo (r := r) (N0 := c.length) (by omega) ?_ n 0 rfl (by omega)
    show VV g 1 0 0 mi_Mo_settle w0 sz E 131 [(7, .int (nI n)), (6, .int (nI (16 * k + mo_rk (ia 12) (la 11) wd (ar_row (ia 12) wd (4 * r)) n))), (5, .int (nI r)), (4, .int (nI (c.length))), (0, .ref b), (1, .int (nI k)), (2, .int (nI wd)), (3, .int (nI mo))] [] w1 sz 0 0
    refine v_aload_n (pc := 131) d_Mo_settle_131 rfl rfl ?_
    refine v_get (pc := 132) d_Mo_settle_132 fl_Mo_48 h1.o rfl ?_
    refine v_iload (pc := 135) d_Mo_settle_135 rfl ?_
    refine v_laldN (pc := 137) (k := r) (f := la 11) d_Mo_settle_137 h1.a11 rfl (by omega) (by decide) ?_
    refine v_lconst (pc := 138) (v := 0) d_Mo_settle_138 rfl ?_
    refine v_lcmp (pc := 139) d_Mo_settle_139 ?_
    refine v_if_eq (pc := 140) (tgt := 196) d_Mo_settle_140 rfl (fun hc => ?_) (fun hc => ?_)
    · skip
      rw [lg0] at hc
      refine v_iinc (pc := 196) (L' := [(5, .int (nI (r + 1))), (7, .int (nI n)), (6, .int (nI (16 * k + mo_rk (ia 12) (la 11) wd (ar_row (ia 12) wd (4 * r)) n))), (4, .int (nI (c.length))), (0, .ref b), (1, .int (nI k)), (2, .int (nI wd)), (3, .int (nI mo))]) d_Mo_settle_196 rfl (ix_inc _) (by decide) rfl ?_
      refine v_goto (pc := 199) (tgt := 63) d_Mo_settle_199 rfl ?_
      refine v_sub (L' := [(5, .int (nI (r + 1))), (4, .int (nI (c.length))), (0, .ref b), (1, .int (nI k)), (2, .int (nI wd)), (3, .int (nI mo))]) (by simp) ?_
      exact ih (n - (r + 1)) (by omega) (r + 1) w1 f1 m1 rfl (by omega) h1 hfr (fun s hs hms => hwr s (by by_cases h9 : s = r; (subst h9; exact absurd hc hms); omega) hms) hm9 hf10
    · skip
      rw [lg0] at hc
      obtain ⟨hrk, hci⟩ := mo_rank hok hp (show r < n by omega) hc
      generalize hat : mo_rk (ia 12) (la 11) wd (ar_row (ia 12) wd (4 * r)) n = i0 at hrk hci ⊢
      refine v_aload_n (pc := 143) d_Mo_settle_143 rfl rfl ?_
      refine v_get (pc := 144) d_Mo_settle_144 fl_Mo_41 h1.o rfl ?_
      refine v_iload (pc := 147) d_Mo_settle_147 rfl ?_
      refine v_aload_n (pc := 149) d_Mo_settle_149 rfl rfl ?_
      refine v_get (pc := 150) d_Mo_settle_150 fl_Mo_48 h1.o rfl ?_
      refine v_iload (pc := 153) d_Mo_settle_153 rfl ?_
      refine v_laldN (pc := 155) (k := r) (f := la 11) d_Mo_settle_155 h1.a11 rfl (by omega) (by decide) ?_
      refine v_lastW (pc := 156) (k := 16 * k + i0) (f := m1) d_Mo_settle_156 h1.a9 rfl (by omega) (by decide) (fun w2 hn2 hq2 => ?_)
      have h2 := h1.s9 hn2 hq2
      rw [bx_uu] at h2
      refine v_iconst (pc := 157) (v := nI 0) d_Mo_settle_157 rfl ?_
      refine v_istore (pc := 158) (L' := [(7, .int (nI 0)), (6, .int (nI (16 * k + i0))), (5, .int (nI r)), (4, .int (nI (c.length))), (0, .ref b), (1, .int (nI k)), (2, .int (nI wd)), (3, .int (nI mo))]) d_Mo_settle_158 (by decide) rfl ?_
      refine v_sub (L' := [(7, .int (nI 0)), (6, .int (nI (16 * k + i0))), (5, .int (nI r)), (4, .int (nI (c.length))), (0, .ref b), (1, .int (nI k)), (2, .int (nI wd)), (3, .int (nI mo))]) (by simp) ?_
      refine lp4_Mo_settle g h2 hg hn hk hw1 hwd hmo (r := r) (N0 := c.length) (at_ := 16 * k + i0) (by omega) (by omega) (fun w3 f3 h3 g1 g2 g3 => ?_) 4 0 w2 f1 rfl (by omega) (by rw [bx_uu]; exact h2) mo_fr.rf (fun j hj => absurd hj (Nat.not_lt_zero _)) (fun i _ => rfl)
      rw [bx_uu] at h3
      have g2 : ∀ j, j < 4 → f3 (4 * (16 * k + i0) + j) = ia 12 (4 * r + j) := g2
      have g3 : ∀ i, i < 4 * (16 * k + i0) ∨ 4 * (16 * k + i0) + 4 ≤ i → f3 i = f1 i := g3
      refine v_iinc (pc := 196) (L' := [(5, .int (nI (r + 1))), (7, .int (nI 4)), (6, .int (nI (16 * k + i0))), (4, .int (nI (c.length))), (0, .ref b), (1, .int (nI k)), (2, .int (nI wd)), (3, .int (nI mo))]) d_Mo_settle_196 rfl (ix_inc _) (by decide) rfl ?_
      refine v_goto (pc := 199) (tgt := 63) d_Mo_settle_199 rfl ?_
      refine v_sub (L' := [(5, .int (nI (r + 1))), (4, .int (nI (c.length))), (0, .ref b), (1, .int (nI k)), (2, .int (nI wd)), (3, .int (nI mo))]) (by simp) ?_
      refine ih (n - (r + 1)) (by omega) (r + 1) w3 f3 (vp_updL m1 (16 * k + i0) (la 11 r)) rfl (by omega) h3 ((hfr.at ⟨by omega, by omega⟩ hq2).tr g1) ?_ (fun i hi => by rw [pk_uLn (by omega)]; exact hm9 i hi) (fun i hi => by rw [g3 i (by omega)]; exact hf10 i hi)
      intro s hs hms i hci2
      have hil : i < c.length := (List.getElem?_eq_some_iff.mp hci2).1
      by_cases hii : i = i0
      · subst hii
        rw [hci] at hci2
        have e9 := Option.some.inj hci2
        have e8 : ar_row (ia 12) wd (4 * r) = ar_row (ia 12) wd (4 * s) := congrArg Prod.fst e9
        have e7 : la 11 r = la 11 s := congrArg Prod.snd e9
        rw [pk_uLs, e7, ← e8]
        exact ⟨rfl, ar_row_congr (fun j hj => g2 j (by omega))⟩
      · have hsr : s ≠ r := fun h => by
          subst h
          have := ma_srt_nd hok.1
          exact hii (mo_uni hok hci2 hci)
        obtain ⟨y1, y2⟩ := hwr s (by omega) hms i hci2
        rw [pk_uLn (by omega)]
        refine ⟨y1, Eq.trans ?_ y2⟩
        exact ar_row_congr (fun j hj => g3 _ (by omega))
set_option maxRecDepth 100000 in
set_option maxHeartbeats 4000000 in
theorem c_Mo_settle_no (g : Gl) {w : Wd} {b sz : Nat} {sc : Nat → Int32} {ia : Nat → Nat → Int32} {la : Nat → Nat → Int64} (hM : MAt w b sc ia la) {n k wd mo : Nat} (hg : sc 2 = nI n) (hn : n ≤ 256) (hk : k < 24) (hw1 : 1 ≤ wd) (hwd : wd ≤ 4) (hmo : mo ≤ 16) {c : MaB} (hok : ma_ok wd c) (hp : ((ar_bag (ia 12) (la 11) wd 0 n).filter (fun x => decide (x.2 ≠ 0))).Perm c) (hcl : mo < c.length) (hcl2 : c.length ≤ 256) : CT g 1 0 0 mi_Mo_settle [.ref b, .int (nI k), .int (nI wd), .int (nI mo)] w sz (rdE (some (.int (nI 0))) w sz) := by
  refine CT.of (by decide) (Nat.le_of_ble_eq_true rfl) ?_
  refine v_iconst (pc := 0) (v := nI 0) d_Mo_settle_0 rfl ?_
  refine v_istore (pc := 1) (L' := [(4, .int (nI 0)), (0, .ref b), (1, .int (nI k)), (2, .int (nI wd)), (3, .int (nI mo))]) d_Mo_settle_1 (by decide) rfl ?_
  refine v_iconst (pc := 3) (v := nI 0) d_Mo_settle_3 rfl ?_
  refine v_istore (pc := 4) (L' := [(5, .int (nI 0)), (4, .int (nI 0)), (0, .ref b), (1, .int (nI k)), (2, .int (nI wd)), (3, .int (nI mo))]) d_Mo_settle_4 (by decide) rfl ?_
  refine v_sub (L' := [(5, .int (nI 0)), (4, .int (nI 0)), (0, .ref b), (1, .int (nI k)), (2, .int (nI wd)), (3, .int (nI mo))]) (by simp) ?_
  refine lp1_Mo_settle g hM hg hn hk hw1 hwd hmo ?_ n 0 rfl (by omega)
  rw [mo_len hp]
  refine v_iload (pc := 44) d_Mo_settle_44 rfl ?_
  refine v_iload_n (pc := 46) d_Mo_settle_46 rfl rfl ?_
  refine v_icmp_le (pc := 47) (tgt := 52) d_Mo_settle_47 rfl (fun hc => ?_) (fun hc => ?_)
  · skip
    rw [nI_leI (by omega) (by omega)] at hc
    exact absurd hc (by omega)
  · skip
    rw [nI_leI (by omega) (by omega)] at hc
    refine v_iconst (pc := 50) (v := nI 0) d_Mo_settle_50 rfl ?_
    exact v_zret (pc := 51) d_Mo_settle_51 rfl z01 (Nat.le_of_ble_eq_true rfl) (Nat.le_of_ble_eq_true rfl) ⟨rfl, rfl, rfl⟩
set_option maxRecDepth 100000 in
set_option maxHeartbeats 4000000 in
theorem c_Mo_settle_ok (g : Gl) {w : Wd} {b sz : Nat} {sc : Nat → Int32} {ia : Nat → Nat → Int32} {la : Nat → Nat → Int64} (hM : MAt w b sc ia la) {n k wd mo : Nat} (hg : sc 2 = nI n) (hn : n ≤ 256) (hk : k < 24) (hw1 : 1 ≤ wd) (hwd : wd ≤ 4) (hmo : mo ≤ 16) {c : MaB} (hok : ma_ok wd c) (hp : ((ar_bag (ia 12) (la 11) wd 0 n).filter (fun x => decide (x.2 ≠ 0))).Perm c) (hcl : c.length ≤ mo) : CT g 1 0 0 mi_Mo_settle [.ref b, .int (nI k), .int (nI wd), .int (nI mo)] w sz (wrE (some (.int (nI 1))) sz (mo_sp w b sc (va_up ia 8 (upd (ia 8) k (nI c.length))) la k wd c)) := by
  refine CT.of (by decide) (Nat.le_of_ble_eq_true rfl) ?_
  refine v_iconst (pc := 0) (v := nI 0) d_Mo_settle_0 rfl ?_
  refine v_istore (pc := 1) (L' := [(4, .int (nI 0)), (0, .ref b), (1, .int (nI k)), (2, .int (nI wd)), (3, .int (nI mo))]) d_Mo_settle_1 (by decide) rfl ?_
  refine v_iconst (pc := 3) (v := nI 0) d_Mo_settle_3 rfl ?_
  refine v_istore (pc := 4) (L' := [(5, .int (nI 0)), (4, .int (nI 0)), (0, .ref b), (1, .int (nI k)), (2, .int (nI wd)), (3, .int (nI mo))]) d_Mo_settle_4 (by decide) rfl ?_
  refine v_sub (L' := [(5, .int (nI 0)), (4, .int (nI 0)), (0, .ref b), (1, .int (nI k)), (2, .int (nI wd)), (3, .int (nI mo))]) (by simp) ?_
  refine lp1_Mo_settle g hM hg hn hk hw1 hwd hmo ?_ n 0 rfl (by omega)
  rw [mo_len hp]
  refine v_iload (pc := 44) d_Mo_settle_44 rfl ?_
  refine v_iload_n (pc := 46) d_Mo_settle_46 rfl rfl ?_
  refine v_icmp_le (pc := 47) (tgt := 52) d_Mo_settle_47 rfl (fun hc => ?_) (fun hc => ?_)
  · skip
    rw [nI_leI (by omega) (by omega)] at hc
    refine v_aload_n (pc := 52) d_Mo_settle_52 rfl rfl ?_
    refine v_get (pc := 53) d_Mo_settle_53 fl_Mo_38 hM.o rfl ?_
    refine v_iload_n (pc := 56) d_Mo_settle_56 rfl rfl ?_
    refine v_iload (pc := 57) d_Mo_settle_57 rfl ?_
    refine v_iastW (pc := 59) (k := k) (f := ia 8) d_Mo_settle_59 hM.a8 rfl (by omega) (by decide) (fun w2 hn2 hq2 => ?_)
    have h2 := hM.s8 hn2 hq2
    refine v_iconst (pc := 60) (v := nI 0) d_Mo_settle_60 rfl ?_
    refine v_istore (pc := 61) (L' := [(5, .int (nI 0)), (4, .int (nI (c.length))), (0, .ref b), (1, .int (nI k)), (2, .int (nI wd)), (3, .int (nI mo))]) d_Mo_settle_61 (by decide) rfl ?_
    refine v_sub (L' := [(5, .int (nI 0)), (4, .int (nI (c.length))), (0, .ref b), (1, .int (nI k)), (2, .int (nI wd)), (3, .int (nI mo))]) (by simp) ?_
    refine lp2_Mo_settle g h2 hg hn hk hw1 hwd hmo hok hp (by omega) (fun w' h => ⟨rfl, rfl, ?_⟩) n 0 w2 (ia 10) (la 9) rfl (by omega) (by rw [show va_up (va_up ia 8 (upd (ia 8) k (nI c.length))) 10 (ia 10) = va_up ia 8 (upd (ia 8) k (nI c.length)) from va_id (va_up ia 8 (upd (ia 8) k (nI c.length))) 10, va_id]; exact h2) mo_fr.rf (fun s hs => absurd hs (Nat.not_lt_zero _)) (fun i _ => rfl) (fun i _ => rfl)
    obtain ⟨f1, m1, q1, q2, q3, q4, q5⟩ := h
    exact ⟨f1, m1, q1, (mo_fr.rf.at ⟨by omega, by omega⟩ hq2).tr q2, q3, q4, q5⟩
  · skip
    rw [nI_leI (by omega) (by omega)] at hc
    exact absurd hc (by omega)
