def manyA (a : As) (e x y z u : Int32) : Int64 := ma_look (a.2.2.2.1 (i2n e)) ([x, y, z, u].take (a.2.1 (i2n e)))
set_option maxRecDepth 100000 in
set_option maxHeartbeats 4000000 in
theorem lp_Mo_many (g : Gl) {w0 w : Wd} {b sz : Nat} {sc : Nat → Int32} {ia : Nat → Nat → Int32} {la : Nat → Nat → Int64} (hM : MAt w b sc ia la) {k wd : Nat} {B : MaB} {x y z u : Int32} (hk : k < 12) (hw1 : 1 ≤ wd) (hwd : wd ≤ 4) (hB1 : ia 8 k = nI B.length) (hB2 : B.length ≤ 16) (hB3 : ar_bag (ia 10) (la 9) wd (16 * k) B.length = B) {E : Rs → Wd → Nat → Prop} (hE : E (.inl (some (.long (ma_look B ([x, y, z, u].take wd))))) w sz) : ∀ (zz : Nat) (r : Nat), B.length - r = zz → r ≤ B.length → (∀ j, j < r → ¬ ar_row (ia 10) wd (4 * (16 * k + j)) = [x, y, z, u].take wd) → VV g 1 0 0 mi_Mo_many w0 sz E 37 [(7, .int (nI r)), (0, .ref b), (1, .int (nI k)), (2, .int x), (3, .int y), (4, .int z), (5, .int u), (6, .int (nI wd))] [] w sz 0 0 := by
  intro zz
  induction zz using Nat.strongRecOn with | _ zz ih => _
  intro r hnn hrn hno
  refine v_iload (pc := 37) d_Mo_many_37 rfl ?_
  refine v_aload_n (pc := 39) d_Mo_many_39 rfl rfl ?_
  refine v_get (pc := 40) d_Mo_many_40 fl_Mo_38 hM.o rfl ?_
  refine v_iload_n (pc := 43) d_Mo_many_43 rfl rfl ?_
  refine v_ialdN (pc := 44) (k := k) (f := ia 8) d_Mo_many_44 hM.a8 rfl (by omega) (by decide) ?_
  refine v_re hB1 ?_
  refine v_icmp_ge (pc := 45) (tgt := 147) d_Mo_many_45 rfl (fun hc => ?_) (fun hc => ?_)
  · skip
    rw [nI_leI (by omega) (by omega)] at hc
    refine v_lconst (pc := 147) (v := 0) d_Mo_many_147 rfl ?_
    obtain rfl : r = B.length := by omega
    exact v_lret (pc := 148) d_Mo_many_148 rfl (Nat.le_of_ble_eq_true rfl) (Nat.le_of_ble_eq_true rfl) (by rw [show (0 : Int64) = ma_look B ([x, y, z, u].take wd) from (ma_look_miss rfl (fun j x' hj hx => by rw [← hB3, ar_bag_get hj] at hx; have hx := Option.some.inj hx; subst hx; exact hno j hj)).symm]; exact hE)
  · skip
    rw [nI_leI (by omega) (by omega)] at hc
    refine v_aload_n (pc := 48) d_Mo_many_48 rfl rfl ?_
    refine v_iload_n (pc := 49) d_Mo_many_49 rfl rfl ?_
    refine v_iload (pc := 50) d_Mo_many_50 rfl ?_
    refine v_iconst (pc := 52) (v := nI 0) d_Mo_many_52 rfl ?_
    refine v_cvR (pc := 53) (A := [.int (nI k), .int (nI r), .int (nI 0)]) (rest := []) (x := .int (ia 10 (4 * (16 * k + r) + 0))) d_Mo_many_53 lk_Mo_83 me_Mo_cellOf im_Mo_cellOf se_Mo_cellOf rfl hM.o rfl rfl (c_Mo_cellOf g hM (k := k) (r := r) (c := 0) (by omega)) (Nat.le_of_ble_eq_true rfl) (Nat.le_of_ble_eq_true rfl) (Nat.le_of_ble_eq_true rfl) (Nat.le_of_ble_eq_true rfl) ?_
    refine v_iload_n (pc := 56) d_Mo_many_56 rfl rfl ?_
    refine v_icmp_ne (pc := 57) (tgt := 120) d_Mo_many_57 rfl (fun hc => ?_) (fun hc => ?_)
    · skip
      have hne : ¬ ar_row (ia 10) wd (4 * (16 * k + r)) = [x, y, z, u].take wd := fun h => hc ((row4 hw1 hwd).mp h).1
      refine v_iconst (pc := 120) (v := nI 0) d_Mo_many_120 rfl ?_
      refine v_istore (pc := 121) (L' := [(8, .int (nI 0)), (7, .int (nI r)), (0, .ref b), (1, .int (nI k)), (2, .int x), (3, .int y), (4, .int z), (5, .int u), (6, .int (nI wd))]) d_Mo_many_121 (by decide) rfl ?_
      refine v_iload (pc := 123) d_Mo_many_123 rfl ?_
      refine v_if_eq (pc := 125) (tgt := 141) d_Mo_many_125 rfl (fun hc => ?_) (fun hc => ?_)
      · skip
        refine v_iinc (pc := 141) (L' := [(7, .int (nI (r + 1))), (8, .int (nI 0)), (0, .ref b), (1, .int (nI k)), (2, .int x), (3, .int y), (4, .int z), (5, .int u), (6, .int (nI wd))]) d_Mo_many_141 rfl (ix_inc _) (by decide) rfl ?_
        refine v_goto (pc := 144) (tgt := 37) d_Mo_many_144 rfl ?_
        refine v_sub (L' := [(7, .int (nI (r + 1))), (0, .ref b), (1, .int (nI k)), (2, .int x), (3, .int y), (4, .int z), (5, .int u), (6, .int (nI wd))]) (by simp) ?_
        exact ih (B.length - (r + 1)) (by omega) (r + 1) rfl (by omega) (fun j hj => by by_cases h9 : j = r; (subst h9; exact hne); (exact hno j (by omega)))
      · skip
        exact absurd rfl hc
    · skip
      have q0 := hc
      refine v_iload (pc := 60) d_Mo_many_60 rfl ?_
      refine v_iconst (pc := 62) (v := nI 2) d_Mo_many_62 rfl ?_
      refine v_icmp_lt (pc := 63) (tgt := 78) d_Mo_many_63 rfl (fun hc => ?_) (fun hc => ?_)
      · skip
        rw [nI_ltI (by omega) (by omega)] at hc
        have q1 : wd < 2 ∨ ia 10 (4 * (16 * k + r) + 1) = y := Or.inl hc
        refine v_iload (pc := 78) d_Mo_many_78 rfl ?_
        refine v_iconst (pc := 80) (v := nI 3) d_Mo_many_80 rfl ?_
        refine v_icmp_lt (pc := 81) (tgt := 97) d_Mo_many_81 rfl (fun hc => ?_) (fun hc => ?_)
        · skip
          rw [nI_ltI (by omega) (by omega)] at hc
          have q2 : wd < 3 ∨ ia 10 (4 * (16 * k + r) + 2) = z := Or.inl hc
          refine v_iload (pc := 97) d_Mo_many_97 rfl ?_
          refine v_iconst (pc := 99) (v := nI 4) d_Mo_many_99 rfl ?_
          refine v_icmp_lt (pc := 100) (tgt := 116) d_Mo_many_100 rfl (fun hc => ?_) (fun hc => ?_)
          · skip
            rw [nI_ltI (by omega) (by omega)] at hc
            have q3 : wd < 4 ∨ ia 10 (4 * (16 * k + r) + 3) = u := Or.inl hc
            have hrow : ar_row (ia 10) wd (4 * (16 * k + r)) = [x, y, z, u].take wd := (row4 hw1 hwd).mpr ⟨q0, q1, q2, q3⟩
            refine v_iconst (pc := 116) (v := nI 1) d_Mo_many_116 rfl ?_
            refine v_goto (pc := 117) (tgt := 121) d_Mo_many_117 rfl ?_
            refine v_istore (pc := 121) (L' := [(8, .int (nI 1)), (7, .int (nI r)), (0, .ref b), (1, .int (nI k)), (2, .int x), (3, .int y), (4, .int z), (5, .int u), (6, .int (nI wd))]) d_Mo_many_121 (by decide) rfl ?_
            refine v_iload (pc := 123) d_Mo_many_123 rfl ?_
            refine v_if_eq (pc := 125) (tgt := 141) d_Mo_many_125 rfl (fun hc => ?_) (fun hc => ?_)
            · skip
              exact absurd hc (by decide)
            · skip
              refine v_aload_n (pc := 128) d_Mo_many_128 rfl rfl ?_
              refine v_get (pc := 129) d_Mo_many_129 fl_Mo_41 hM.o rfl ?_
              refine v_bipush (pc := 132) (v := nI 16) d_Mo_many_132 rfl ?_
              refine v_iload_n (pc := 134) d_Mo_many_134 rfl rfl ?_
              refine v_imul (pc := 135) d_Mo_many_135 ?_
              refine v_re (pk_mul 16 k) ?_
              refine v_iload (pc := 136) d_Mo_many_136 rfl ?_
              refine v_iadd (pc := 138) d_Mo_many_138 ?_
              refine v_re (nI_add (16 * k) r) ?_
              refine v_laldN (pc := 139) (k := (16 * k) + r) (f := la 9) d_Mo_many_139 hM.a9 rfl (by omega) (by decide) ?_
              exact v_lret (pc := 140) d_Mo_many_140 rfl (Nat.le_of_ble_eq_true rfl) (Nat.le_of_ble_eq_true rfl) (by rw [show la 9 (16 * k + r) = ma_look B ([x, y, z, u].take wd) from by rw [← hB3]; exact (ma_look_hit (i := r) (fun j x' hj hx => by rw [ar_bag_get (by omega)] at hx; have hx := Option.some.inj hx; subst hx; exact hno j hj) (by rw [ar_bag_get (by omega), hrow])).symm]; exact hE)
          · skip
            rw [nI_ltI (by omega) (by omega)] at hc
            have hw4 := hc
            refine v_aload_n (pc := 103) d_Mo_many_103 rfl rfl ?_
            refine v_iload_n (pc := 104) d_Mo_many_104 rfl rfl ?_
            refine v_iload (pc := 105) d_Mo_many_105 rfl ?_
            refine v_iconst (pc := 107) (v := nI 3) d_Mo_many_107 rfl ?_
            refine v_cvR (pc := 108) (A := [.int (nI k), .int (nI r), .int (nI 3)]) (rest := []) (x := .int (ia 10 (4 * (16 * k + r) + 3))) d_Mo_many_108 lk_Mo_83 me_Mo_cellOf im_Mo_cellOf se_Mo_cellOf rfl hM.o rfl rfl (c_Mo_cellOf g hM (k := k) (r := r) (c := 3) (by omega)) (Nat.le_of_ble_eq_true rfl) (Nat.le_of_ble_eq_true rfl) (Nat.le_of_ble_eq_true rfl) (Nat.le_of_ble_eq_true rfl) ?_
            refine v_iload (pc := 111) d_Mo_many_111 rfl ?_
            refine v_icmp_ne (pc := 113) (tgt := 120) d_Mo_many_113 rfl (fun hc => ?_) (fun hc => ?_)
            · skip
              have hne : ¬ ar_row (ia 10) wd (4 * (16 * k + r)) = [x, y, z, u].take wd := fun h => by rcases ((row4 hw1 hwd).mp h).2.2.2 with h9 | h9; (omega); (exact hc h9)
              refine v_iconst (pc := 120) (v := nI 0) d_Mo_many_120 rfl ?_
              refine v_istore (pc := 121) (L' := [(8, .int (nI 0)), (7, .int (nI r)), (0, .ref b), (1, .int (nI k)), (2, .int x), (3, .int y), (4, .int z), (5, .int u), (6, .int (nI wd))]) d_Mo_many_121 (by decide) rfl ?_
              refine v_iload (pc := 123) d_Mo_many_123 rfl ?_
              refine v_if_eq (pc := 125) (tgt := 141) d_Mo_many_125 rfl (fun hc => ?_) (fun hc => ?_)
              · skip
                refine v_iinc (pc := 141) (L' := [(7, .int (nI (r + 1))), (8, .int (nI 0)), (0, .ref b), (1, .int (nI k)), (2, .int x), (3, .int y), (4, .int z), (5, .int u), (6, .int (nI wd))]) d_Mo_many_141 rfl (ix_inc _) (by decide) rfl ?_
                refine v_goto (pc := 144) (tgt := 37) d_Mo_many_144 rfl ?_
                refine v_sub (L' := [(7, .int (nI (r + 1))), (0, .ref b), (1, .int (nI k)), (2, .int x), (3, .int y), (4, .int z), (5, .int u), (6, .int (nI wd))]) (by simp) ?_
                exact ih (B.length - (r + 1)) (by omega) (r + 1) rfl (by omega) (fun j hj => by by_cases h9 : j = r; (subst h9; exact hne); (exact hno j (by omega)))
              · skip
                exact absurd rfl hc
            · skip
              have q3 : wd < 4 ∨ ia 10 (4 * (16 * k + r) + 3) = u := Or.inr hc
              have hrow : ar_row (ia 10) wd (4 * (16 * k + r)) = [x, y, z, u].take wd := (row4 hw1 hwd).mpr ⟨q0, q1, q2, q3⟩
              refine v_iconst (pc := 116) (v := nI 1) d_Mo_many_116 rfl ?_
              refine v_goto (pc := 117) (tgt := 121) d_Mo_many_117 rfl ?_
              refine v_istore (pc := 121) (L' := [(8, .int (nI 1)), (7, .int (nI r)), (0, .ref b), (1, .int (nI k)), (2, .int x), (3, .int y), (4, .int z), (5, .int u), (6, .int (nI wd))]) d_Mo_many_121 (by decide) rfl ?_
              refine v_iload (pc := 123) d_Mo_many_123 rfl ?_
              refine v_if_eq (pc := 125) (tgt := 141) d_Mo_many_125 rfl (fun hc => ?_) (fun hc => ?_)
              · skip
                exact absurd hc (by decide)
              · skip
                refine v_aload_n (pc := 128) d_Mo_many_128 rfl rfl ?_
                refine v_get (pc := 129) d_Mo_many_129 fl_Mo_41 hM.o rfl ?_
                refine v_bipush (pc := 132) (v := nI 16) d_Mo_many_132 rfl ?_
                refine v_iload_n (pc := 134) d_Mo_many_134 rfl rfl ?_
                refine v_imul (pc := 135) d_Mo_many_135 ?_
                refine v_re (pk_mul 16 k) ?_
                refine v_iload (pc := 136) d_Mo_many_136 rfl ?_
                refine v_iadd (pc := 138) d_Mo_many_138 ?_
                refine v_re (nI_add (16 * k) r) ?_
                refine v_laldN (pc := 139) (k := (16 * k) + r) (f := la 9) d_Mo_many_139 hM.a9 rfl (by omega) (by decide) ?_
                exact v_lret (pc := 140) d_Mo_many_140 rfl (Nat.le_of_ble_eq_true rfl) (Nat.le_of_ble_eq_true rfl) (by rw [show la 9 (16 * k + r) = ma_look B ([x, y, z, u].take wd) from by rw [← hB3]; exact (ma_look_hit (i := r) (fun j x' hj hx => by rw [ar_bag_get (by omega)] at hx; have hx := Option.some.inj hx; subst hx; exact hno j hj) (by rw [ar_bag_get (by omega), hrow])).symm]; exact hE)
        · skip
          rw [nI_ltI (by omega) (by omega)] at hc
          have hw3 := hc
          refine v_aload_n (pc := 84) d_Mo_many_84 rfl rfl ?_
          refine v_iload_n (pc := 85) d_Mo_many_85 rfl rfl ?_
          refine v_iload (pc := 86) d_Mo_many_86 rfl ?_
          refine v_iconst (pc := 88) (v := nI 2) d_Mo_many_88 rfl ?_
          refine v_cvR (pc := 89) (A := [.int (nI k), .int (nI r), .int (nI 2)]) (rest := []) (x := .int (ia 10 (4 * (16 * k + r) + 2))) d_Mo_many_89 lk_Mo_83 me_Mo_cellOf im_Mo_cellOf se_Mo_cellOf rfl hM.o rfl rfl (c_Mo_cellOf g hM (k := k) (r := r) (c := 2) (by omega)) (Nat.le_of_ble_eq_true rfl) (Nat.le_of_ble_eq_true rfl) (Nat.le_of_ble_eq_true rfl) (Nat.le_of_ble_eq_true rfl) ?_
          refine v_iload (pc := 92) d_Mo_many_92 rfl ?_
          refine v_icmp_ne (pc := 94) (tgt := 120) d_Mo_many_94 rfl (fun hc => ?_) (fun hc => ?_)
          · skip
            have hne : ¬ ar_row (ia 10) wd (4 * (16 * k + r)) = [x, y, z, u].take wd := fun h => by rcases ((row4 hw1 hwd).mp h).2.2.1 with h9 | h9; (omega); (exact hc h9)
            refine v_iconst (pc := 120) (v := nI 0) d_Mo_many_120 rfl ?_
            refine v_istore (pc := 121) (L' := [(8, .int (nI 0)), (7, .int (nI r)), (0, .ref b), (1, .int (nI k)), (2, .int x), (3, .int y), (4, .int z), (5, .int u), (6, .int (nI wd))]) d_Mo_many_121 (by decide) rfl ?_
            refine v_iload (pc := 123) d_Mo_many_123 rfl ?_
            refine v_if_eq (pc := 125) (tgt := 141) d_Mo_many_125 rfl (fun hc => ?_) (fun hc => ?_)
            · skip
              refine v_iinc (pc := 141) (L' := [(7, .int (nI (r + 1))), (8, .int (nI 0)), (0, .ref b), (1, .int (nI k)), (2, .int x), (3, .int y), (4, .int z), (5, .int u), (6, .int (nI wd))]) d_Mo_many_141 rfl (ix_inc _) (by decide) rfl ?_
              refine v_goto (pc := 144) (tgt := 37) d_Mo_many_144 rfl ?_
              refine v_sub (L' := [(7, .int (nI (r + 1))), (0, .ref b), (1, .int (nI k)), (2, .int x), (3, .int y), (4, .int z), (5, .int u), (6, .int (nI wd))]) (by simp) ?_
              exact ih (B.length - (r + 1)) (by omega) (r + 1) rfl (by omega) (fun j hj => by by_cases h9 : j = r; (subst h9; exact hne); (exact hno j (by omega)))
            · skip
              exact absurd rfl hc
          · skip
            have q2 : wd < 3 ∨ ia 10 (4 * (16 * k + r) + 2) = z := Or.inr hc
            refine v_iload (pc := 97) d_Mo_many_97 rfl ?_
            refine v_iconst (pc := 99) (v := nI 4) d_Mo_many_99 rfl ?_
            refine v_icmp_lt (pc := 100) (tgt := 116) d_Mo_many_100 rfl (fun hc => ?_) (fun hc => ?_)
            · skip
              rw [nI_ltI (by omega) (by omega)] at hc
              have q3 : wd < 4 ∨ ia 10 (4 * (16 * k + r) + 3) = u := Or.inl hc
              have hrow : ar_row (ia 10) wd (4 * (16 * k + r)) = [x, y, z, u].take wd := (row4 hw1 hwd).mpr ⟨q0, q1, q2, q3⟩
              refine v_iconst (pc := 116) (v := nI 1) d_Mo_many_116 rfl ?_
              refine v_goto (pc := 117) (tgt := 121) d_Mo_many_117 rfl ?_
              refine v_istore (pc := 121) (L' := [(8, .int (nI 1)), (7, .int (nI r)), (0, .ref b), (1, .int (nI k)), (2, .int x), (3, .int y), (4, .int z), (5, .int u), (6, .int (nI wd))]) d_Mo_many_121 (by decide) rfl ?_
              refine v_iload (pc := 123) d_Mo_many_123 rfl ?_
              refine v_if_eq (pc := 125) (tgt := 141) d_Mo_many_125 rfl (fun hc => ?_) (fun hc => ?_)
              · skip
                exact absurd hc (by decide)
              · skip
                refine v_aload_n (pc := 128) d_Mo_many_128 rfl rfl ?_
                refine v_get (pc := 129) d_Mo_many_129 fl_Mo_41 hM.o rfl ?_
                refine v_bipush (pc := 132) (v := nI 16) d_Mo_many_132 rfl ?_
                refine v_iload_n (pc := 134) d_Mo_many_134 rfl rfl ?_
                refine v_imul (pc := 135) d_Mo_many_135 ?_
                refine v_re (pk_mul 16 k) ?_
                refine v_iload (pc := 136) d_Mo_many_136 rfl ?_
                refine v_iadd (pc := 138) d_Mo_many_138 ?_
                refine v_re (nI_add (16 * k) r) ?_
                refine v_laldN (pc := 139) (k := (16 * k) + r) (f := la 9) d_Mo_many_139 hM.a9 rfl (by omega) (by decide) ?_
                exact v_lret (pc := 140) d_Mo_many_140 rfl (Nat.le_of_ble_eq_true rfl) (Nat.le_of_ble_eq_true rfl) (by rw [show la 9 (16 * k + r) = ma_look B ([x, y, z, u].take wd) from by rw [← hB3]; exact (ma_look_hit (i := r) (fun j x' hj hx => by rw [ar_bag_get (by omega)] at hx; have hx := Option.some.inj hx; subst hx; exact hno j hj) (by rw [ar_bag_get (by omega), hrow])).symm]; exact hE)
            · skip
              rw [nI_ltI (by omega) (by omega)] at hc
              have hw4 := hc
              refine v_aload_n (pc := 103) d_Mo_many_103 rfl rfl ?_
              refine v_iload_n (pc := 104) d_Mo_many_104 rfl rfl ?_
              refine v_iload (pc := 105) d_Mo_many_105 rfl ?_
              refine v_iconst (pc := 107) (v := nI 3) d_Mo_many_107 rfl ?_
              refine v_cvR (pc := 108) (A := [.int (nI k), .int (nI r), .int (nI 3)]) (rest := []) (x := .int (ia 10 (4 * (16 * k + r) + 3))) d_Mo_many_108 lk_Mo_83 me_Mo_cellOf im_Mo_cellOf se_Mo_cellOf rfl hM.o rfl rfl (c_Mo_cellOf g hM (k := k) (r := r) (c := 3) (by omega)) (Nat.le_of_ble_eq_true rfl) (Nat.le_of_ble_eq_true rfl) (Nat.le_of_ble_eq_true rfl) (Nat.le_of_ble_eq_true rfl) ?_
              refine v_iload (pc := 111) d_Mo_many_111 rfl ?_
              refine v_icmp_ne (pc := 113) (tgt := 120) d_Mo_many_113 rfl (fun hc => ?_) (fun hc => ?_)
              · skip
                have hne : ¬ ar_row (ia 10) wd (4 * (16 * k + r)) = [x, y, z, u].take wd := fun h => by rcases ((row4 hw1 hwd).mp h).2.2.2 with h9 | h9; (omega); (exact hc h9)
                refine v_iconst (pc := 120) (v := nI 0) d_Mo_many_120 rfl ?_
                refine v_istore (pc := 121) (L' := [(8, .int (nI 0)), (7, .int (nI r)), (0, .ref b), (1, .int (nI k)), (2, .int x), (3, .int y), (4, .int z), (5, .int u), (6, .int (nI wd))]) d_Mo_many_121 (by decide) rfl ?_
                refine v_iload (pc := 123) d_Mo_many_123 rfl ?_
                refine v_if_eq (pc := 125) (tgt := 141) d_Mo_many_125 rfl (fun hc => ?_) (fun hc => ?_)
                · skip
                  refine v_iinc (pc := 141) (L' := [(7, .int (nI (r + 1))), (8, .int (nI 0)), (0, .ref b), (1, .int (nI k)), (2, .int x), (3, .int y), (4, .int z), (5, .int u), (6, .int (nI wd))]) d_Mo_many_141 rfl (ix_inc _) (by decide) rfl ?_
                  refine v_goto (pc := 144) (tgt := 37) d_Mo_many_144 rfl ?_
                  refine v_sub (L' := [(7, .int (nI (r + 1))), (0, .ref b), (1, .int (nI k)), (2, .int x), (3, .int y), (4, .int z), (5, .int u), (6, .int (nI wd))]) (by simp) ?_
                  exact ih (B.length - (r + 1)) (by omega) (r + 1) rfl (by omega) (fun j hj => by by_cases h9 : j = r; (subst h9; exact hne); (exact hno j (by omega)))
                · skip
                  exact absurd rfl hc
              · skip
                have q3 : wd < 4 ∨ ia 10 (4 * (16 * k + r) + 3) = u := Or.inr hc
                have hrow : ar_row (ia 10) wd (4 * (16 * k + r)) = [x, y, z, u].take wd := (row4 hw1 hwd).mpr ⟨q0, q1, q2, q3⟩
                refine v_iconst (pc := 116) (v := nI 1) d_Mo_many_116 rfl ?_
                refine v_goto (pc := 117) (tgt := 121) d_Mo_many_117 rfl ?_
                refine v_istore (pc := 121) (L' := [(8, .int (nI 1)), (7, .int (nI r)), (0, .ref b), (1, .int (nI k)), (2, .int x), (3, .int y), (4, .int z), (5, .int u), (6, .int (nI wd))]) d_Mo_many_121 (by decide) rfl ?_
                refine v_iload (pc := 123) d_Mo_many_123 rfl ?_
                refine v_if_eq (pc := 125) (tgt := 141) d_Mo_many_125 rfl (fun hc => ?_) (fun hc => ?_)
                · skip
                  exact absurd hc (by decide)
                · skip
                  refine v_aload_n (pc := 128) d_Mo_many_128 rfl rfl ?_
                  refine v_get (pc := 129) d_Mo_many_129 fl_Mo_41 hM.o rfl ?_
                  refine v_bipush (pc := 132) (v := nI 16) d_Mo_many_132 rfl ?_
                  refine v_iload_n (pc := 134) d_Mo_many_134 rfl rfl ?_
                  refine v_imul (pc := 135) d_Mo_many_135 ?_
                  refine v_re (pk_mul 16 k) ?_
                  refine v_iload (pc := 136) d_Mo_many_136 rfl ?_
                  refine v_iadd (pc := 138) d_Mo_many_138 ?_
                  refine v_re (nI_add (16 * k) r) ?_
                  refine v_laldN (pc := 139) (k := (16 * k) + r) (f := la 9) d_Mo_many_139 hM.a9 rfl (by omega) (by decide) ?_
                  exact v_lret (pc := 140) d_Mo_many_140 rfl (Nat.le_of_ble_eq_true rfl) (Nat.le_of_ble_eq_true rfl) (by rw [show la 9 (16 * k + r) = ma_look B ([x, y, z, u].take wd) from by rw [← hB3]; exact (ma_look_hit (i := r) (fun j x' hj hx => by rw [ar_bag_get (by omega)] at hx; have hx := Option.some.inj hx; subst hx; exact hno j hj) (by rw [ar_bag_get (by omega), hrow])).symm]; exact hE)
      · skip
        rw [nI_ltI (by omega) (by omega)] at hc
        have hw2 := hc
        refine v_aload_n (pc := 66) d_Mo_many_66 rfl rfl ?_
        refine v_iload_n (pc := 67) d_Mo_many_67 rfl rfl ?_
        refine v_iload (pc := 68) d_Mo_many_68 rfl ?_
        refine v_iconst (pc := 70) (v := nI 1) d_Mo_many_70 rfl ?_
        refine v_cvR (pc := 71) (A := [.int (nI k), .int (nI r), .int (nI 1)]) (rest := []) (x := .int (ia 10 (4 * (16 * k + r) + 1))) d_Mo_many_71 lk_Mo_83 me_Mo_cellOf im_Mo_cellOf se_Mo_cellOf rfl hM.o rfl rfl (c_Mo_cellOf g hM (k := k) (r := r) (c := 1) (by omega)) (Nat.le_of_ble_eq_true rfl) (Nat.le_of_ble_eq_true rfl) (Nat.le_of_ble_eq_true rfl) (Nat.le_of_ble_eq_true rfl) ?_
        refine v_iload_n (pc := 74) d_Mo_many_74 rfl rfl ?_
        refine v_icmp_ne (pc := 75) (tgt := 120) d_Mo_many_75 rfl (fun hc => ?_) (fun hc => ?_)
        · skip
          have hne : ¬ ar_row (ia 10) wd (4 * (16 * k + r)) = [x, y, z, u].take wd := fun h => by rcases ((row4 hw1 hwd).mp h).2.1 with h9 | h9; (omega); (exact hc h9)
          refine v_iconst (pc := 120) (v := nI 0) d_Mo_many_120 rfl ?_
          refine v_istore (pc := 121) (L' := [(8, .int (nI 0)), (7, .int (nI r)), (0, .ref b), (1, .int (nI k)), (2, .int x), (3, .int y), (4, .int z), (5, .int u), (6, .int (nI wd))]) d_Mo_many_121 (by decide) rfl ?_
          refine v_iload (pc := 123) d_Mo_many_123 rfl ?_
          refine v_if_eq (pc := 125) (tgt := 141) d_Mo_many_125 rfl (fun hc => ?_) (fun hc => ?_)
          · skip
            refine v_iinc (pc := 141) (L' := [(7, .int (nI (r + 1))), (8, .int (nI 0)), (0, .ref b), (1, .int (nI k)), (2, .int x), (3, .int y), (4, .int z), (5, .int u), (6, .int (nI wd))]) d_Mo_many_141 rfl (ix_inc _) (by decide) rfl ?_
            refine v_goto (pc := 144) (tgt := 37) d_Mo_many_144 rfl ?_
            refine v_sub (L' := [(7, .int (nI (r + 1))), (0, .ref b), (1, .int (nI k)), (2, .int x), (3, .int y), (4, .int z), (5, .int u), (6, .int (nI wd))]) (by simp) ?_
            exact ih (B.length - (r + 1)) (by omega) (r + 1) rfl (by omega) (fun j hj => by by_cases h9 : j = r; (subst h9; exact hne); (exact hno j (by omega)))
          · skip
            exact absurd rfl hc
        · skip
          have q1 : wd < 2 ∨ ia 10 (4 * (16 * k + r) + 1) = y := Or.inr hc
          refine v_iload (pc := 78) d_Mo_many_78 rfl ?_
          refine v_iconst (pc := 80) (v := nI 3) d_Mo_many_80 rfl ?_
          refine v_icmp_lt (pc := 81) (tgt := 97) d_Mo_many_81 rfl (fun hc => ?_) (fun hc => ?_)
          · skip
            rw [nI_ltI (by omega) (by omega)] at hc
            have q2 : wd < 3 ∨ ia 10 (4 * (16 * k + r) + 2) = z := Or.inl hc
            refine v_iload (pc := 97) d_Mo_many_97 rfl ?_
            refine v_iconst (pc := 99) (v := nI 4) d_Mo_many_99 rfl ?_
            refine v_icmp_lt (pc := 100) (tgt := 116) d_Mo_many_100 rfl (fun hc => ?_) (fun hc => ?_)
            · skip
              rw [nI_ltI (by omega) (by omega)] at hc
              have q3 : wd < 4 ∨ ia 10 (4 * (16 * k + r) + 3) = u := Or.inl hc
              have hrow : ar_row (ia 10) wd (4 * (16 * k + r)) = [x, y, z, u].take wd := (row4 hw1 hwd).mpr ⟨q0, q1, q2, q3⟩
              refine v_iconst (pc := 116) (v := nI 1) d_Mo_many_116 rfl ?_
              refine v_goto (pc := 117) (tgt := 121) d_Mo_many_117 rfl ?_
              refine v_istore (pc := 121) (L' := [(8, .int (nI 1)), (7, .int (nI r)), (0, .ref b), (1, .int (nI k)), (2, .int x), (3, .int y), (4, .int z), (5, .int u), (6, .int (nI wd))]) d_Mo_many_121 (by decide) rfl ?_
              refine v_iload (pc := 123) d_Mo_many_123 rfl ?_
              refine v_if_eq (pc := 125) (tgt := 141) d_Mo_many_125 rfl (fun hc => ?_) (fun hc => ?_)
              · skip
                exact absurd hc (by decide)
              · skip
                refine v_aload_n (pc := 128) d_Mo_many_128 rfl rfl ?_
                refine v_get (pc := 129) d_Mo_many_129 fl_Mo_41 hM.o rfl ?_
                refine v_bipush (pc := 132) (v := nI 16) d_Mo_many_132 rfl ?_
                refine v_iload_n (pc := 134) d_Mo_many_134 rfl rfl ?_
                refine v_imul (pc := 135) d_Mo_many_135 ?_
                refine v_re (pk_mul 16 k) ?_
                refine v_iload (pc := 136) d_Mo_many_136 rfl ?_
                refine v_iadd (pc := 138) d_Mo_many_138 ?_
                refine v_re (nI_add (16 * k) r) ?_
                refine v_laldN (pc := 139) (k := (16 * k) + r) (f := la 9) d_Mo_many_139 hM.a9 rfl (by omega) (by decide) ?_
                exact v_lret (pc := 140) d_Mo_many_140 rfl (Nat.le_of_ble_eq_true rfl) (Nat.le_of_ble_eq_true rfl) (by rw [show la 9 (16 * k + r) = ma_look B ([x, y, z, u].take wd) from by rw [← hB3]; exact (ma_look_hit (i := r) (fun j x' hj hx => by rw [ar_bag_get (by omega)] at hx; have hx := Option.some.inj hx; subst hx; exact hno j hj) (by rw [ar_bag_get (by omega), hrow])).symm]; exact hE)
            · skip
              rw [nI_ltI (by omega) (by omega)] at hc
              have hw4 := hc
              refine v_aload_n (pc := 103) d_Mo_many_103 rfl rfl ?_
              refine v_iload_n (pc := 104) d_Mo_many_104 rfl rfl ?_
              refine v_iload (pc := 105) d_Mo_many_105 rfl ?_
              refine v_iconst (pc := 107) (v := nI 3) d_Mo_many_107 rfl ?_
              refine v_cvR (pc := 108) (A := [.int (nI k), .int (nI r), .int (nI 3)]) (rest := []) (x := .int (ia 10 (4 * (16 * k + r) + 3))) d_Mo_many_108 lk_Mo_83 me_Mo_cellOf im_Mo_cellOf se_Mo_cellOf rfl hM.o rfl rfl (c_Mo_cellOf g hM (k := k) (r := r) (c := 3) (by omega)) (Nat.le_of_ble_eq_true rfl) (Nat.le_of_ble_eq_true rfl) (Nat.le_of_ble_eq_true rfl) (Nat.le_of_ble_eq_true rfl) ?_
              refine v_iload (pc := 111) d_Mo_many_111 rfl ?_
              refine v_icmp_ne (pc := 113) (tgt := 120) d_Mo_many_113 rfl (fun hc => ?_) (fun hc => ?_)
              · skip
                have hne : ¬ ar_row (ia 10) wd (4 * (16 * k + r)) = [x, y, z, u].take wd := fun h => by rcases ((row4 hw1 hwd).mp h).2.2.2 with h9 | h9; (omega); (exact hc h9)
                refine v_iconst (pc := 120) (v := nI 0) d_Mo_many_120 rfl ?_
                refine v_istore (pc := 121) (L' := [(8, .int (nI 0)), (7, .int (nI r)), (0, .ref b), (1, .int (nI k)), (2, .int x), (3, .int y), (4, .int z), (5, .int u), (6, .int (nI wd))]) d_Mo_many_121 (by decide) rfl ?_
                refine v_iload (pc := 123) d_Mo_many_123 rfl ?_
                refine v_if_eq (pc := 125) (tgt := 141) d_Mo_many_125 rfl (fun hc => ?_) (fun hc => ?_)
                · skip
                  refine v_iinc (pc := 141) (L' := [(7, .int (nI (r + 1))), (8, .int (nI 0)), (0, .ref b), (1, .int (nI k)), (2, .int x), (3, .int y), (4, .int z), (5, .int u), (6, .int (nI wd))]) d_Mo_many_141 rfl (ix_inc _) (by decide) rfl ?_
                  refine v_goto (pc := 144) (tgt := 37) d_Mo_many_144 rfl ?_
                  refine v_sub (L' := [(7, .int (nI (r + 1))), (0, .ref b), (1, .int (nI k)), (2, .int x), (3, .int y), (4, .int z), (5, .int u), (6, .int (nI wd))]) (by simp) ?_
                  exact ih (B.length - (r + 1)) (by omega) (r + 1) rfl (by omega) (fun j hj => by by_cases h9 : j = r; (subst h9; exact hne); (exact hno j (by omega)))
                · skip
                  exact absurd rfl hc
              · skip
                have q3 : wd < 4 ∨ ia 10 (4 * (16 * k + r) + 3) = u := Or.inr hc
                have hrow : ar_row (ia 10) wd (4 * (16 * k + r)) = [x, y, z, u].take wd := (row4 hw1 hwd).mpr ⟨q0, q1, q2, q3⟩
                refine v_iconst (pc := 116) (v := nI 1) d_Mo_many_116 rfl ?_
                refine v_goto (pc := 117) (tgt := 121) d_Mo_many_117 rfl ?_
                refine v_istore (pc := 121) (L' := [(8, .int (nI 1)), (7, .int (nI r)), (0, .ref b), (1, .int (nI k)), (2, .int x), (3, .int y), (4, .int z), (5, .int u), (6, .int (nI wd))]) d_Mo_many_121 (by decide) rfl ?_
                refine v_iload (pc := 123) d_Mo_many_123 rfl ?_
                refine v_if_eq (pc := 125) (tgt := 141) d_Mo_many_125 rfl (fun hc => ?_) (fun hc => ?_)
                · skip
                  exact absurd hc (by decide)
                · skip
                  refine v_aload_n (pc := 128) d_Mo_many_128 rfl rfl ?_
                  refine v_get (pc := 129) d_Mo_many_129 fl_Mo_41 hM.o rfl ?_
                  refine v_bipush (pc := 132) (v := nI 16) d_Mo_many_132 rfl ?_
                  refine v_iload_n (pc := 134) d_Mo_many_134 rfl rfl ?_
                  refine v_imul (pc := 135) d_Mo_many_135 ?_
                  refine v_re (pk_mul 16 k) ?_
                  refine v_iload (pc := 136) d_Mo_many_136 rfl ?_
                  refine v_iadd (pc := 138) d_Mo_many_138 ?_
                  refine v_re (nI_add (16 * k) r) ?_
                  refine v_laldN (pc := 139) (k := (16 * k) + r) (f := la 9) d_Mo_many_139 hM.a9 rfl (by omega) (by decide) ?_
                  exact v_lret (pc := 140) d_Mo_many_140 rfl (Nat.le_of_ble_eq_true rfl) (Nat.le_of_ble_eq_true rfl) (by rw [show la 9 (16 * k + r) = ma_look B ([x, y, z, u].take wd) from by rw [← hB3]; exact (ma_look_hit (i := r) (fun j x' hj hx => by rw [ar_bag_get (by omega)] at hx; have hx := Option.some.inj hx; subst hx; exact hno j hj) (by rw [ar_bag_get (by omega), hrow])).symm]; exact hE)
          · skip
            rw [nI_ltI (by omega) (by omega)] at hc
            have hw3 := hc
            refine v_aload_n (pc := 84) d_Mo_many_84 rfl rfl ?_
            refine v_iload_n (pc := 85) d_Mo_many_85 rfl rfl ?_
            refine v_iload (pc := 86) d_Mo_many_86 rfl ?_
            refine v_iconst (pc := 88) (v := nI 2) d_Mo_many_88 rfl ?_
            refine v_cvR (pc := 89) (A := [.int (nI k), .int (nI r), .int (nI 2)]) (rest := []) (x := .int (ia 10 (4 * (16 * k + r) + 2))) d_Mo_many_89 lk_Mo_83 me_Mo_cellOf im_Mo_cellOf se_Mo_cellOf rfl hM.o rfl rfl (c_Mo_cellOf g hM (k := k) (r := r) (c := 2) (by omega)) (Nat.le_of_ble_eq_true rfl) (Nat.le_of_ble_eq_true rfl) (Nat.le_of_ble_eq_true rfl) (Nat.le_of_ble_eq_true rfl) ?_
            refine v_iload (pc := 92) d_Mo_many_92 rfl ?_
            refine v_icmp_ne (pc := 94) (tgt := 120) d_Mo_many_94 rfl (fun hc => ?_) (fun hc => ?_)
            · skip
              have hne : ¬ ar_row (ia 10) wd (4 * (16 * k + r)) = [x, y, z, u].take wd := fun h => by rcases ((row4 hw1 hwd).mp h).2.2.1 with h9 | h9; (omega); (exact hc h9)
              refine v_iconst (pc := 120) (v := nI 0) d_Mo_many_120 rfl ?_
              refine v_istore (pc := 121) (L' := [(8, .int (nI 0)), (7, .int (nI r)), (0, .ref b), (1, .int (nI k)), (2, .int x), (3, .int y), (4, .int z), (5, .int u), (6, .int (nI wd))]) d_Mo_many_121 (by decide) rfl ?_
              refine v_iload (pc := 123) d_Mo_many_123 rfl ?_
              refine v_if_eq (pc := 125) (tgt := 141) d_Mo_many_125 rfl (fun hc => ?_) (fun hc => ?_)
              · skip
                refine v_iinc (pc := 141) (L' := [(7, .int (nI (r + 1))), (8, .int (nI 0)), (0, .ref b), (1, .int (nI k)), (2, .int x), (3, .int y), (4, .int z), (5, .int u), (6, .int (nI wd))]) d_Mo_many_141 rfl (ix_inc _) (by decide) rfl ?_
                refine v_goto (pc := 144) (tgt := 37) d_Mo_many_144 rfl ?_
                refine v_sub (L' := [(7, .int (nI (r + 1))), (0, .ref b), (1, .int (nI k)), (2, .int x), (3, .int y), (4, .int z), (5, .int u), (6, .int (nI wd))]) (by simp) ?_
                exact ih (B.length - (r + 1)) (by omega) (r + 1) rfl (by omega) (fun j hj => by by_cases h9 : j = r; (subst h9; exact hne); (exact hno j (by omega)))
              · skip
                exact absurd rfl hc
            · skip
              have q2 : wd < 3 ∨ ia 10 (4 * (16 * k + r) + 2) = z := Or.inr hc
              refine v_iload (pc := 97) d_Mo_many_97 rfl ?_
              refine v_iconst (pc := 99) (v := nI 4) d_Mo_many_99 rfl ?_
              refine v_icmp_lt (pc := 100) (tgt := 116) d_Mo_many_100 rfl (fun hc => ?_) (fun hc => ?_)
              · skip
                rw [nI_ltI (by omega) (by omega)] at hc
                have q3 : wd < 4 ∨ ia 10 (4 * (16 * k + r) + 3) = u := Or.inl hc
                have hrow : ar_row (ia 10) wd (4 * (16 * k + r)) = [x, y, z, u].take wd := (row4 hw1 hwd).mpr ⟨q0, q1, q2, q3⟩
                refine v_iconst (pc := 116) (v := nI 1) d_Mo_many_116 rfl ?_
                refine v_goto (pc := 117) (tgt := 121) d_Mo_many_117 rfl ?_
                refine v_istore (pc := 121) (L' := [(8, .int (nI 1)), (7, .int (nI r)), (0, .ref b), (1, .int (nI k)), (2, .int x), (3, .int y), (4, .int z), (5, .int u), (6, .int (nI wd))]) d_Mo_many_121 (by decide) rfl ?_
                refine v_iload (pc := 123) d_Mo_many_123 rfl ?_
                refine v_if_eq (pc := 125) (tgt := 141) d_Mo_many_125 rfl (fun hc => ?_) (fun hc => ?_)
                · skip
                  exact absurd hc (by decide)
                · skip
                  refine v_aload_n (pc := 128) d_Mo_many_128 rfl rfl ?_
                  refine v_get (pc := 129) d_Mo_many_129 fl_Mo_41 hM.o rfl ?_
                  refine v_bipush (pc := 132) (v := nI 16) d_Mo_many_132 rfl ?_
                  refine v_iload_n (pc := 134) d_Mo_many_134 rfl rfl ?_
                  refine v_imul (pc := 135) d_Mo_many_135 ?_
                  refine v_re (pk_mul 16 k) ?_
                  refine v_iload (pc := 136) d_Mo_many_136 rfl ?_
                  refine v_iadd (pc := 138) d_Mo_many_138 ?_
                  refine v_re (nI_add (16 * k) r) ?_
                  refine v_laldN (pc := 139) (k := (16 * k) + r) (f := la 9) d_Mo_many_139 hM.a9 rfl (by omega) (by decide) ?_
                  exact v_lret (pc := 140) d_Mo_many_140 rfl (Nat.le_of_ble_eq_true rfl) (Nat.le_of_ble_eq_true rfl) (by rw [show la 9 (16 * k + r) = ma_look B ([x, y, z, u].take wd) from by rw [← hB3]; exact (ma_look_hit (i := r) (fun j x' hj hx => by rw [ar_bag_get (by omega)] at hx; have hx := Option.some.inj hx; subst hx; exact hno j hj) (by rw [ar_bag_get (by omega), hrow])).symm]; exact hE)
              · skip
                rw [nI_ltI (by omega) (by omega)] at hc
                have hw4 := hc
                refine v_aload_n (pc := 103) d_Mo_many_103 rfl rfl ?_
                refine v_iload_n (pc := 104) d_Mo_many_104 rfl rfl ?_
                refine v_iload (pc := 105) d_Mo_many_105 rfl ?_
                refine v_iconst (pc := 107) (v := nI 3) d_Mo_many_107 rfl ?_
                refine v_cvR (pc := 108) (A := [.int (nI k), .int (nI r), .int (nI 3)]) (rest := []) (x := .int (ia 10 (4 * (16 * k + r) + 3))) d_Mo_many_108 lk_Mo_83 me_Mo_cellOf im_Mo_cellOf se_Mo_cellOf rfl hM.o rfl rfl (c_Mo_cellOf g hM (k := k) (r := r) (c := 3) (by omega)) (Nat.le_of_ble_eq_true rfl) (Nat.le_of_ble_eq_true rfl) (Nat.le_of_ble_eq_true rfl) (Nat.le_of_ble_eq_true rfl) ?_
                refine v_iload (pc := 111) d_Mo_many_111 rfl ?_
                refine v_icmp_ne (pc := 113) (tgt := 120) d_Mo_many_113 rfl (fun hc => ?_) (fun hc => ?_)
                · skip
                  have hne : ¬ ar_row (ia 10) wd (4 * (16 * k + r)) = [x, y, z, u].take wd := fun h => by rcases ((row4 hw1 hwd).mp h).2.2.2 with h9 | h9; (omega); (exact hc h9)
                  refine v_iconst (pc := 120) (v := nI 0) d_Mo_many_120 rfl ?_
                  refine v_istore (pc := 121) (L' := [(8, .int (nI 0)), (7, .int (nI r)), (0, .ref b), (1, .int (nI k)), (2, .int x), (3, .int y), (4, .int z), (5, .int u), (6, .int (nI wd))]) d_Mo_many_121 (by decide) rfl ?_
                  refine v_iload (pc := 123) d_Mo_many_123 rfl ?_
                  refine v_if_eq (pc := 125) (tgt := 141) d_Mo_many_125 rfl (fun hc => ?_) (fun hc => ?_)
                  · skip
                    refine v_iinc (pc := 141) (L' := [(7, .int (nI (r + 1))), (8, .int (nI 0)), (0, .ref b), (1, .int (nI k)), (2, .int x), (3, .int y), (4, .int z), (5, .int u), (6, .int (nI wd))]) d_Mo_many_141 rfl (ix_inc _) (by decide) rfl ?_
                    refine v_goto (pc := 144) (tgt := 37) d_Mo_many_144 rfl ?_
                    refine v_sub (L' := [(7, .int (nI (r + 1))), (0, .ref b), (1, .int (nI k)), (2, .int x), (3, .int y), (4, .int z), (5, .int u), (6, .int (nI wd))]) (by simp) ?_
                    exact ih (B.length - (r + 1)) (by omega) (r + 1) rfl (by omega) (fun j hj => by by_cases h9 : j = r; (subst h9; exact hne); (exact hno j (by omega)))
                  · skip
                    exact absurd rfl hc
                · skip
                  have q3 : wd < 4 ∨ ia 10 (4 * (16 * k + r) + 3) = u := Or.inr hc
                  have hrow : ar_row (ia 10) wd (4 * (16 * k + r)) = [x, y, z, u].take wd := (row4 hw1 hwd).mpr ⟨q0, q1, q2, q3⟩
                  refine v_iconst (pc := 116) (v := nI 1) d_Mo_many_116 rfl ?_
                  refine v_goto (pc := 117) (tgt := 121) d_Mo_many_117 rfl ?_
                  refine v_istore (pc := 121) (L' := [(8, .int (nI 1)), (7, .int (nI r)), (0, .ref b), (1, .int (nI k)), (2, .int x), (3, .int y), (4, .int z), (5, .int u), (6, .int (nI wd))]) d_Mo_many_121 (by decide) rfl ?_
                  refine v_iload (pc := 123) d_Mo_many_123 rfl ?_
                  refine v_if_eq (pc := 125) (tgt := 141) d_Mo_many_125 rfl (fun hc => ?_) (fun hc => ?_)
                  · skip
                    exact absurd hc (by decide)
                  · skip
                    refine v_aload_n (pc := 128) d_Mo_many_128 rfl rfl ?_
                    refine v_get (pc := 129) d_Mo_many_129 fl_Mo_41 hM.o rfl ?_
                    refine v_bipush (pc := 132) (v := nI 16) d_Mo_many_132 rfl ?_
                    refine v_iload_n (pc := 134) d_Mo_many_134 rfl rfl ?_
                    refine v_imul (pc := 135) d_Mo_many_135 ?_
                    refine v_re (pk_mul 16 k) ?_
                    refine v_iload (pc := 136) d_Mo_many_136 rfl ?_
                    refine v_iadd (pc := 138) d_Mo_many_138 ?_
                    refine v_re (nI_add (16 * k) r) ?_
                    refine v_laldN (pc := 139) (k := (16 * k) + r) (f := la 9) d_Mo_many_139 hM.a9 rfl (by omega) (by decide) ?_
                    exact v_lret (pc := 140) d_Mo_many_140 rfl (Nat.le_of_ble_eq_true rfl) (Nat.le_of_ble_eq_true rfl) (by rw [show la 9 (16 * k + r) = ma_look B ([x, y, z, u].take wd) from by rw [← hB3]; exact (ma_look_hit (i := r) (fun j x' hj hx => by rw [ar_bag_get (by omega)] at hx; have hx := Option.some.inj hx; subst hx; exact hno j hj) (by rw [ar_bag_get (by omega), hrow])).symm]; exact hE)
set_option maxRecDepth 100000 in
set_option maxHeartbeats 4000000 in
theorem c_Mo_many (g : Gl) {w : Wd} {b sz : Nat} {sc : Nat → Int32} {ia : Nat → Nat → Int32} {la : Nat → Nat → Int64} (hM : MAt w b sc ia la) {a : As} (hA : AWa a) (hR : RAa sc ia la a) (e x y z u : Int32) : CT g 1 0 0 mi_Mo_many [.ref b, .int e, .int x, .int y, .int z, .int u] w sz (RE w b sz (if isV a e then 0 else 1) (.long (if isV a e then manyA a e x y z u else 0)) a) := by
  refine CT.of (by decide) (Nat.le_of_ble_eq_true rfl) ?_
  refine v_aload_n (pc := 0) d_Mo_many_0 rfl rfl ?_
  refine v_aload_n (pc := 1) d_Mo_many_1 rfl rfl ?_
  refine v_iload_n (pc := 2) d_Mo_many_2 rfl rfl ?_
  refine v_cvR (pc := 3) (A := [.int e]) (rest := [.ref b]) (x := .int (if isV a e then 1 else 0)) d_Mo_many_3 lk_Mo_145 me_Mo_isView im_Mo_isView se_Mo_isView rfl hM.o rfl rfl (c_Mo_isViewA g hM hR e) (Nat.le_of_ble_eq_true rfl) (Nat.le_of_ble_eq_true rfl) (Nat.le_of_ble_eq_true rfl) (Nat.le_of_ble_eq_true rfl) ?_
  refine v_if_eq (pc := 6) (tgt := 13) d_Mo_many_6 rfl (fun hc => ?_) (fun hc => ?_)
  · skip
    rw [zf] at hc
    have hv := hc
    refine v_iconst (pc := 13) (v := nI 1) d_Mo_many_13 rfl ?_
    refine v_putW (pc := 14) (fs' := (mo_fs b (va_up sc 0 (nI 1)))) d_Mo_many_14 fl_Mo_69 (fi_Mo_69 _) (ok_Mo_0 _) hM.o (Nat.le_of_ble_eq_true rfl) rfl (fun w1 hn1 hq1 => ?_)
    have h1 := hM.n0 hn1 hq1
    have hfr1 : mo_fr b w w1 := mo_fr.rf.at ⟨by omega, by omega⟩ hq1
    have hth : (va_up sc 0 (nI 1)) 0 = nI 1 := rfl
    refine v_aload_n (pc := 17) d_Mo_many_17 rfl rfl ?_
    refine v_get (pc := 18) d_Mo_many_18 fl_Mo_69 h1.o rfl ?_
    refine v_re hth ?_
    refine v_if_le (pc := 21) (tgt := 26) d_Mo_many_21 rfl (fun hc => ?_) (fun hc => ?_)
    · skip
      exact absurd hc (by decide)
    · skip
      refine v_lconst (pc := 24) (v := 0) d_Mo_many_24 rfl ?_
      exact v_lret (pc := 25) d_Mo_many_25 rfl (Nat.le_of_ble_eq_true rfl) (Nat.le_of_ble_eq_true rfl) ⟨by rw [if_neg hv], rfl, hfr1, by rw [if_neg hv]; exact ⟨_, _, _, h1, rfl, hR⟩⟩
  · skip
    rw [zt] at hc
    have hv := hc
    obtain ⟨k, hk1, hk2, hk3⟩ := isV_n hc hA.2.1
    subst hk1
    have hk12 := hA.2.1
    obtain ⟨hr0, hr7, hrB⟩ := hR.2.2.2.1 k hk2
    obtain ⟨hB1, hB2, hB3⟩ := id hrB
    have hwk := hA.2.2.2.1 k hk2
    refine v_iconst (pc := 9) (v := nI 0) d_Mo_many_9 rfl ?_
    refine v_goto (pc := 10) (tgt := 14) d_Mo_many_10 rfl ?_
    refine v_putW (pc := 14) (fs' := (mo_fs b (va_up sc 0 (nI 0)))) d_Mo_many_14 fl_Mo_69 (fi_Mo_69 _) (ok_Mo_0 _) hM.o (Nat.le_of_ble_eq_true rfl) rfl (fun w1 hn1 hq1 => ?_)
    have h1 := hM.n0 hn1 hq1
    have hfr1 : mo_fr b w w1 := mo_fr.rf.at ⟨by omega, by omega⟩ hq1
    have hth : (va_up sc 0 (nI 0)) 0 = nI 0 := rfl
    refine v_aload_n (pc := 17) d_Mo_many_17 rfl rfl ?_
    refine v_get (pc := 18) d_Mo_many_18 fl_Mo_69 h1.o rfl ?_
    refine v_re hth ?_
    refine v_if_le (pc := 21) (tgt := 26) d_Mo_many_21 rfl (fun hc => ?_) (fun hc => ?_)
    · skip
      refine v_aload_n (pc := 26) d_Mo_many_26 rfl rfl ?_
      refine v_get (pc := 27) d_Mo_many_27 fl_Mo_13 h1.o rfl ?_
      refine v_iload_n (pc := 30) d_Mo_many_30 rfl rfl ?_
      refine v_ialdN (pc := 31) (k := k) (f := ia 0) d_Mo_many_31 h1.a0 rfl (by omega) (by decide) ?_
      refine v_re hr0 ?_
      refine v_istore (pc := 32) (L' := [(6, .int (nI (a.2.1 k))), (0, .ref b), (1, .int (nI k)), (2, .int x), (3, .int y), (4, .int z), (5, .int u)]) d_Mo_many_32 (by decide) rfl ?_
      refine v_iconst (pc := 34) (v := nI 0) d_Mo_many_34 rfl ?_
      refine v_istore (pc := 35) (L' := [(7, .int (nI 0)), (6, .int (nI (a.2.1 k))), (0, .ref b), (1, .int (nI k)), (2, .int x), (3, .int y), (4, .int z), (5, .int u)]) d_Mo_many_35 (by decide) rfl ?_
      refine v_sub (L' := [(7, .int (nI 0)), (0, .ref b), (1, .int (nI k)), (2, .int x), (3, .int y), (4, .int z), (5, .int u), (6, .int (nI (a.2.1 k)))]) (by simp) ?_
      refine lp_Mo_many g h1 (k := k) (wd := a.2.1 k) (B := a.2.2.2.1 k) (by omega) hwk.1 hwk.2.1 hB1 hB2 hB3 ?_ _ 0 rfl (by omega) (fun j hj => absurd hj (Nat.not_lt_zero _))
      exact ⟨by rw [if_pos hv]; unfold manyA; rw [hk3], rfl, hfr1, by rw [if_pos hv]; exact ⟨_, _, _, h1, rfl, hR⟩⟩
    · skip
      exact absurd hc (by decide)
