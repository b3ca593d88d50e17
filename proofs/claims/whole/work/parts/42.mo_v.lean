abbrev chOk (x y z : Int32) : Prop := ((-1000) ≤ x ∧ x ≤ nI 1000) ∧ ((-1000) ≤ y ∧ y ≤ nI 1000) ∧ ((-99) ≤ z ∧ z ≤ nI 99)
set_option maxRecDepth 100000 in
set_option maxHeartbeats 4000000 in
theorem c_Mo_change (g : Gl) {w : Wd} {b sz : Nat} {sc : Nat → Int32} {ia : Nat → Nat → Int32} {la : Nat → Nat → Int64} (hM : MAt w b sc ia la) {a : As} (hA : AWa a) (hR : RAa sc ia la a) (t x y z : Int32) : CT g 0 0 0 mi_Mo_change [.ref b, .int t, .int x, .int y, .int z] w sz (RE w b sz (if 0 ≤ t ∧ t ≤ nI 2 then if chOk x y z then if a.2.2.2.2.2.length = 8 then 3 else 0 else 2 else 1) (.int (if 0 ≤ t ∧ t ≤ nI 2 then if chOk x y z then if a.2.2.2.2.2.length = 8 then nI 0 else nI (a.2.2.2.2.2.length + 1) else nI 0 else nI 0)) (if 0 ≤ t ∧ t ≤ nI 2 then if chOk x y z then if a.2.2.2.2.2.length = 8 then a else (a.1, a.2.1, a.2.2.1, a.2.2.2.1, a.2.2.2.2.1, a.2.2.2.2.2 ++ [(t, x, y, z)]) else a else a)) := by
  refine CT.of (by decide) (Nat.le_of_ble_eq_true rfl) ?_
  have hl8 : a.2.2.2.2.2.length ≤ 8 := hA.2.2.1
  refine v_aload_n (pc := 0) d_Mo_change_0 rfl rfl ?_
  refine v_iconst (pc := 1) (v := nI 0) d_Mo_change_1 rfl ?_
  refine v_putW (pc := 2) (fs' := (mo_fs b (va_up sc 0 (nI 0)))) d_Mo_change_2 fl_Mo_69 (fi_Mo_69 _) (ok_Mo_0 _) hM.o (Nat.le_of_ble_eq_true rfl) rfl (fun w1 hn1 hq1 => ?_)
  have h1 := hM.n0 hn1 hq1
  have hfr1 : mo_fr b w w1 := mo_fr.rf.at ⟨by omega, by omega⟩ hq1
  have hth : (va_up sc 0 (nI 0)) 0 = nI 0 := rfl
  have hs3 : (va_up sc 0 (nI 0)) 3 = nI a.2.2.2.2.2.length := hR.2.1
  refine v_iload_n (pc := 5) d_Mo_change_5 rfl rfl ?_
  refine v_if_lt (pc := 6) (tgt := 14) d_Mo_change_6 rfl (fun hc => ?_) (fun hc => ?_)
  · skip
    have ht : ¬ (0 ≤ t ∧ t ≤ nI 2) := fun h => absurd hc (Int32.not_lt.mpr h.1)
    refine v_aload_n (pc := 14) d_Mo_change_14 rfl rfl ?_
    refine v_iconst (pc := 15) (v := nI 1) d_Mo_change_15 rfl ?_
    refine v_putW (pc := 16) (fs' := (mo_fs b (va_up (va_up sc 0 (nI 0)) 0 (nI 1)))) d_Mo_change_16 fl_Mo_69 (fi_Mo_69 _) (ok_Mo_0 _) h1.o (Nat.le_of_ble_eq_true rfl) rfl (fun w2 hn2 hq2 => ?_)
    have h2 := h1.n0 hn2 hq2
    rw [bx_uu] at h2
    have hth2 : (va_up sc 0 (nI 1)) 0 = nI 1 := rfl
    refine v_goto (pc := 19) (tgt := 86) d_Mo_change_19 rfl ?_
    refine v_aload_n (pc := 86) d_Mo_change_86 rfl rfl ?_
    refine v_get (pc := 87) d_Mo_change_87 fl_Mo_69 h2.o rfl ?_
    refine v_re hth2 ?_
    refine v_if_le (pc := 90) (tgt := 95) d_Mo_change_90 rfl (fun hc => ?_) (fun hc => ?_)
    · skip
      exact absurd hc (by decide)
    · skip
      refine v_iconst (pc := 93) (v := nI 0) d_Mo_change_93 rfl ?_
      exact v_iret (pc := 94) d_Mo_change_94 rfl (Nat.le_of_ble_eq_true rfl) (Nat.le_of_ble_eq_true rfl) ⟨by rw [if_neg ht], rfl, hfr1.at ⟨by omega, by omega⟩ hq2, by simp only [if_neg ht]; exact ⟨_, _, _, h2, rfl, hR⟩⟩
  · skip
    have ht0 := hc
    refine v_iload_n (pc := 9) d_Mo_change_9 rfl rfl ?_
    refine v_iconst (pc := 10) (v := nI 2) d_Mo_change_10 rfl ?_
    refine v_icmp_le (pc := 11) (tgt := 22) d_Mo_change_11 rfl (fun hc => ?_) (fun hc => ?_)
    · skip
      have ht : 0 ≤ t ∧ t ≤ nI 2 := ⟨Int32.not_lt.mp ht0, hc⟩
      refine v_iload_n (pc := 22) d_Mo_change_22 rfl rfl ?_
      refine v_sipush (pc := 23) (v := (-1000)) d_Mo_change_23 rfl ?_
      refine v_icmp_lt (pc := 26) (tgt := 64) d_Mo_change_26 rfl (fun hc => ?_) (fun hc => ?_)
      · skip
        have hk : ¬ chOk x y z := fun h => absurd hc (Int32.not_lt.mpr h.1.1)
        refine v_aload_n (pc := 64) d_Mo_change_64 rfl rfl ?_
        refine v_iconst (pc := 65) (v := nI 2) d_Mo_change_65 rfl ?_
        refine v_putW (pc := 66) (fs' := (mo_fs b (va_up (va_up sc 0 (nI 0)) 0 (nI 2)))) d_Mo_change_66 fl_Mo_69 (fi_Mo_69 _) (ok_Mo_0 _) h1.o (Nat.le_of_ble_eq_true rfl) rfl (fun w2 hn2 hq2 => ?_)
        have h2 := h1.n0 hn2 hq2
        rw [bx_uu] at h2
        have hth2 : (va_up sc 0 (nI 2)) 0 = nI 2 := rfl
        refine v_goto (pc := 69) (tgt := 86) d_Mo_change_69 rfl ?_
        refine v_aload_n (pc := 86) d_Mo_change_86 rfl rfl ?_
        refine v_get (pc := 87) d_Mo_change_87 fl_Mo_69 h2.o rfl ?_
        refine v_re hth2 ?_
        refine v_if_le (pc := 90) (tgt := 95) d_Mo_change_90 rfl (fun hc => ?_) (fun hc => ?_)
        · skip
          exact absurd hc (by decide)
        · skip
          refine v_iconst (pc := 93) (v := nI 0) d_Mo_change_93 rfl ?_
          exact v_iret (pc := 94) d_Mo_change_94 rfl (Nat.le_of_ble_eq_true rfl) (Nat.le_of_ble_eq_true rfl) ⟨by rw [if_pos ht, if_neg hk], rfl, hfr1.at ⟨by omega, by omega⟩ hq2, by simp only [if_pos ht, if_neg hk]; exact ⟨_, _, _, h2, rfl, hR⟩⟩
      · skip
        have c1 := hc
        refine v_iload_n (pc := 29) d_Mo_change_29 rfl rfl ?_
        refine v_sipush (pc := 30) (v := nI 1000) d_Mo_change_30 rfl ?_
        refine v_icmp_gt (pc := 33) (tgt := 64) d_Mo_change_33 rfl (fun hc => ?_) (fun hc => ?_)
        · skip
          have hk : ¬ chOk x y z := fun h => absurd hc (Int32.not_lt.mpr h.1.2)
          refine v_aload_n (pc := 64) d_Mo_change_64 rfl rfl ?_
          refine v_iconst (pc := 65) (v := nI 2) d_Mo_change_65 rfl ?_
          refine v_putW (pc := 66) (fs' := (mo_fs b (va_up (va_up sc 0 (nI 0)) 0 (nI 2)))) d_Mo_change_66 fl_Mo_69 (fi_Mo_69 _) (ok_Mo_0 _) h1.o (Nat.le_of_ble_eq_true rfl) rfl (fun w2 hn2 hq2 => ?_)
          have h2 := h1.n0 hn2 hq2
          rw [bx_uu] at h2
          have hth2 : (va_up sc 0 (nI 2)) 0 = nI 2 := rfl
          refine v_goto (pc := 69) (tgt := 86) d_Mo_change_69 rfl ?_
          refine v_aload_n (pc := 86) d_Mo_change_86 rfl rfl ?_
          refine v_get (pc := 87) d_Mo_change_87 fl_Mo_69 h2.o rfl ?_
          refine v_re hth2 ?_
          refine v_if_le (pc := 90) (tgt := 95) d_Mo_change_90 rfl (fun hc => ?_) (fun hc => ?_)
          · skip
            exact absurd hc (by decide)
          · skip
            refine v_iconst (pc := 93) (v := nI 0) d_Mo_change_93 rfl ?_
            exact v_iret (pc := 94) d_Mo_change_94 rfl (Nat.le_of_ble_eq_true rfl) (Nat.le_of_ble_eq_true rfl) ⟨by rw [if_pos ht, if_neg hk], rfl, hfr1.at ⟨by omega, by omega⟩ hq2, by simp only [if_pos ht, if_neg hk]; exact ⟨_, _, _, h2, rfl, hR⟩⟩
        · skip
          have c2 := hc
          refine v_iload_n (pc := 36) d_Mo_change_36 rfl rfl ?_
          refine v_sipush (pc := 37) (v := (-1000)) d_Mo_change_37 rfl ?_
          refine v_icmp_lt (pc := 40) (tgt := 64) d_Mo_change_40 rfl (fun hc => ?_) (fun hc => ?_)
          · skip
            have hk : ¬ chOk x y z := fun h => absurd hc (Int32.not_lt.mpr h.2.1.1)
            refine v_aload_n (pc := 64) d_Mo_change_64 rfl rfl ?_
            refine v_iconst (pc := 65) (v := nI 2) d_Mo_change_65 rfl ?_
            refine v_putW (pc := 66) (fs' := (mo_fs b (va_up (va_up sc 0 (nI 0)) 0 (nI 2)))) d_Mo_change_66 fl_Mo_69 (fi_Mo_69 _) (ok_Mo_0 _) h1.o (Nat.le_of_ble_eq_true rfl) rfl (fun w2 hn2 hq2 => ?_)
            have h2 := h1.n0 hn2 hq2
            rw [bx_uu] at h2
            have hth2 : (va_up sc 0 (nI 2)) 0 = nI 2 := rfl
            refine v_goto (pc := 69) (tgt := 86) d_Mo_change_69 rfl ?_
            refine v_aload_n (pc := 86) d_Mo_change_86 rfl rfl ?_
            refine v_get (pc := 87) d_Mo_change_87 fl_Mo_69 h2.o rfl ?_
            refine v_re hth2 ?_
            refine v_if_le (pc := 90) (tgt := 95) d_Mo_change_90 rfl (fun hc => ?_) (fun hc => ?_)
            · skip
              exact absurd hc (by decide)
            · skip
              refine v_iconst (pc := 93) (v := nI 0) d_Mo_change_93 rfl ?_
              exact v_iret (pc := 94) d_Mo_change_94 rfl (Nat.le_of_ble_eq_true rfl) (Nat.le_of_ble_eq_true rfl) ⟨by rw [if_pos ht, if_neg hk], rfl, hfr1.at ⟨by omega, by omega⟩ hq2, by simp only [if_pos ht, if_neg hk]; exact ⟨_, _, _, h2, rfl, hR⟩⟩
          · skip
            have c3 := hc
            refine v_iload_n (pc := 43) d_Mo_change_43 rfl rfl ?_
            refine v_sipush (pc := 44) (v := nI 1000) d_Mo_change_44 rfl ?_
            refine v_icmp_gt (pc := 47) (tgt := 64) d_Mo_change_47 rfl (fun hc => ?_) (fun hc => ?_)
            · skip
              have hk : ¬ chOk x y z := fun h => absurd hc (Int32.not_lt.mpr h.2.1.2)
              refine v_aload_n (pc := 64) d_Mo_change_64 rfl rfl ?_
              refine v_iconst (pc := 65) (v := nI 2) d_Mo_change_65 rfl ?_
              refine v_putW (pc := 66) (fs' := (mo_fs b (va_up (va_up sc 0 (nI 0)) 0 (nI 2)))) d_Mo_change_66 fl_Mo_69 (fi_Mo_69 _) (ok_Mo_0 _) h1.o (Nat.le_of_ble_eq_true rfl) rfl (fun w2 hn2 hq2 => ?_)
              have h2 := h1.n0 hn2 hq2
              rw [bx_uu] at h2
              have hth2 : (va_up sc 0 (nI 2)) 0 = nI 2 := rfl
              refine v_goto (pc := 69) (tgt := 86) d_Mo_change_69 rfl ?_
              refine v_aload_n (pc := 86) d_Mo_change_86 rfl rfl ?_
              refine v_get (pc := 87) d_Mo_change_87 fl_Mo_69 h2.o rfl ?_
              refine v_re hth2 ?_
              refine v_if_le (pc := 90) (tgt := 95) d_Mo_change_90 rfl (fun hc => ?_) (fun hc => ?_)
              · skip
                exact absurd hc (by decide)
              · skip
                refine v_iconst (pc := 93) (v := nI 0) d_Mo_change_93 rfl ?_
                exact v_iret (pc := 94) d_Mo_change_94 rfl (Nat.le_of_ble_eq_true rfl) (Nat.le_of_ble_eq_true rfl) ⟨by rw [if_pos ht, if_neg hk], rfl, hfr1.at ⟨by omega, by omega⟩ hq2, by simp only [if_pos ht, if_neg hk]; exact ⟨_, _, _, h2, rfl, hR⟩⟩
            · skip
              have c4 := hc
              refine v_iload (pc := 50) d_Mo_change_50 rfl ?_
              refine v_bipush (pc := 52) (v := (-99)) d_Mo_change_52 rfl ?_
              refine v_icmp_lt (pc := 54) (tgt := 64) d_Mo_change_54 rfl (fun hc => ?_) (fun hc => ?_)
              · skip
                have hk : ¬ chOk x y z := fun h => absurd hc (Int32.not_lt.mpr h.2.2.1)
                refine v_aload_n (pc := 64) d_Mo_change_64 rfl rfl ?_
                refine v_iconst (pc := 65) (v := nI 2) d_Mo_change_65 rfl ?_
                refine v_putW (pc := 66) (fs' := (mo_fs b (va_up (va_up sc 0 (nI 0)) 0 (nI 2)))) d_Mo_change_66 fl_Mo_69 (fi_Mo_69 _) (ok_Mo_0 _) h1.o (Nat.le_of_ble_eq_true rfl) rfl (fun w2 hn2 hq2 => ?_)
                have h2 := h1.n0 hn2 hq2
                rw [bx_uu] at h2
                have hth2 : (va_up sc 0 (nI 2)) 0 = nI 2 := rfl
                refine v_goto (pc := 69) (tgt := 86) d_Mo_change_69 rfl ?_
                refine v_aload_n (pc := 86) d_Mo_change_86 rfl rfl ?_
                refine v_get (pc := 87) d_Mo_change_87 fl_Mo_69 h2.o rfl ?_
                refine v_re hth2 ?_
                refine v_if_le (pc := 90) (tgt := 95) d_Mo_change_90 rfl (fun hc => ?_) (fun hc => ?_)
                · skip
                  exact absurd hc (by decide)
                · skip
                  refine v_iconst (pc := 93) (v := nI 0) d_Mo_change_93 rfl ?_
                  exact v_iret (pc := 94) d_Mo_change_94 rfl (Nat.le_of_ble_eq_true rfl) (Nat.le_of_ble_eq_true rfl) ⟨by rw [if_pos ht, if_neg hk], rfl, hfr1.at ⟨by omega, by omega⟩ hq2, by simp only [if_pos ht, if_neg hk]; exact ⟨_, _, _, h2, rfl, hR⟩⟩
              · skip
                have c5 := hc
                refine v_iload (pc := 57) d_Mo_change_57 rfl ?_
                refine v_bipush (pc := 59) (v := nI 99) d_Mo_change_59 rfl ?_
                refine v_icmp_le (pc := 61) (tgt := 72) d_Mo_change_61 rfl (fun hc => ?_) (fun hc => ?_)
                · skip
                  have hk : chOk x y z := ⟨⟨Int32.not_lt.mp c1, Int32.not_lt.mp c2⟩, ⟨Int32.not_lt.mp c3, Int32.not_lt.mp c4⟩, Int32.not_lt.mp c5, hc⟩
                  refine v_aload_n (pc := 72) d_Mo_change_72 rfl rfl ?_
                  refine v_get (pc := 73) d_Mo_change_73 fl_Mo_121 h1.o rfl ?_
                  refine v_re hs3 ?_
                  refine v_bipush (pc := 76) (v := nI 8) d_Mo_change_76 rfl ?_
                  refine v_icmp_ne (pc := 78) (tgt := 86) d_Mo_change_78 rfl (fun hc => ?_) (fun hc => ?_)
                  · skip
                    rw [nI_eq (by omega) (by omega)] at hc
                    have hl := hc
                    refine v_aload_n (pc := 86) d_Mo_change_86 rfl rfl ?_
                    refine v_get (pc := 87) d_Mo_change_87 fl_Mo_69 h1.o rfl ?_
                    refine v_re hth ?_
                    refine v_if_le (pc := 90) (tgt := 95) d_Mo_change_90 rfl (fun hc => ?_) (fun hc => ?_)
                    · skip
                      refine v_aload_n (pc := 95) d_Mo_change_95 rfl rfl ?_
                      refine v_get (pc := 96) d_Mo_change_96 fl_Mo_57 h1.o rfl ?_
                      refine v_aload_n (pc := 99) d_Mo_change_99 rfl rfl ?_
                      refine v_get (pc := 100) d_Mo_change_100 fl_Mo_121 h1.o rfl ?_
                      refine v_re hs3 ?_
                      refine v_iload_n (pc := 103) d_Mo_change_103 rfl rfl ?_
                      refine v_iastW (pc := 104) (k := a.2.2.2.2.2.length) (f := ia 14) d_Mo_change_104 h1.a14 rfl (by omega) (by decide) (fun v1 hm1 hp1 => ?_)
                      have g1 := h1.s14 hm1 hp1
                      refine v_aload_n (pc := 105) d_Mo_change_105 rfl rfl ?_
                      refine v_get (pc := 106) d_Mo_change_106 fl_Mo_60 g1.o rfl ?_
                      refine v_aload_n (pc := 109) d_Mo_change_109 rfl rfl ?_
                      refine v_get (pc := 110) d_Mo_change_110 fl_Mo_121 g1.o rfl ?_
                      refine v_re hs3 ?_
                      refine v_iload_n (pc := 113) d_Mo_change_113 rfl rfl ?_
                      refine v_iastW (pc := 114) (k := a.2.2.2.2.2.length) (f := ia 15) d_Mo_change_114 g1.a15 rfl (by omega) (by decide) (fun v2 hm2 hp2 => ?_)
                      have g2 := g1.s15 hm2 hp2
                      refine v_aload_n (pc := 115) d_Mo_change_115 rfl rfl ?_
                      refine v_get (pc := 116) d_Mo_change_116 fl_Mo_63 g2.o rfl ?_
                      refine v_aload_n (pc := 119) d_Mo_change_119 rfl rfl ?_
                      refine v_get (pc := 120) d_Mo_change_120 fl_Mo_121 g2.o rfl ?_
                      refine v_re hs3 ?_
                      refine v_iload_n (pc := 123) d_Mo_change_123 rfl rfl ?_
                      refine v_iastW (pc := 124) (k := a.2.2.2.2.2.length) (f := ia 16) d_Mo_change_124 g2.a16 rfl (by omega) (by decide) (fun v3 hm3 hp3 => ?_)
                      have g3 := g2.s16 hm3 hp3
                      refine v_aload_n (pc := 125) d_Mo_change_125 rfl rfl ?_
                      refine v_get (pc := 126) d_Mo_change_126 fl_Mo_66 g3.o rfl ?_
                      refine v_aload_n (pc := 129) d_Mo_change_129 rfl rfl ?_
                      refine v_get (pc := 130) d_Mo_change_130 fl_Mo_121 g3.o rfl ?_
                      refine v_re hs3 ?_
                      refine v_iload (pc := 133) d_Mo_change_133 rfl ?_
                      refine v_iastW (pc := 135) (k := a.2.2.2.2.2.length) (f := ia 17) d_Mo_change_135 g3.a17 rfl (by omega) (by decide) (fun v4 hm4 hp4 => ?_)
                      have g4 := g3.s17 hm4 hp4
                      refine v_aload_n (pc := 136) d_Mo_change_136 rfl rfl ?_
                      refine v_dup (pc := 137) d_Mo_change_137 rfl ?_
                      refine v_get (pc := 138) d_Mo_change_138 fl_Mo_121 g4.o rfl ?_
                      refine v_re hs3 ?_
                      refine v_iconst (pc := 141) (v := nI 1) d_Mo_change_141 rfl ?_
                      refine v_iadd (pc := 142) d_Mo_change_142 ?_
                      refine v_re (nI_add (a.2.2.2.2.2.length) 1) ?_
                      refine v_putW (pc := 143) (fs' := (mo_fs b (va_up (va_up sc 0 (nI 0)) 3 (nI (a.2.2.2.2.2.length + 1))))) d_Mo_change_143 fl_Mo_121 (fi_Mo_121 _) (ok_Mo_17 _) g4.o (Nat.le_of_ble_eq_true rfl) rfl (fun v5 hm5 hp5 => ?_)
                      have g5 := g4.n3 hm5 hp5
                      have hs5 : (va_up (va_up sc 0 (nI 0)) 3 (nI (a.2.2.2.2.2.length + 1))) 3 = nI (a.2.2.2.2.2.length + 1) := rfl
                      refine v_aload_n (pc := 146) d_Mo_change_146 rfl rfl ?_
                      refine v_get (pc := 147) d_Mo_change_147 fl_Mo_121 g5.o rfl ?_
                      refine v_re hs5 ?_
                      have hbt : bt_of (upd (ia 14) a.2.2.2.2.2.length t) (upd (ia 15) a.2.2.2.2.2.length x) (upd (ia 16) a.2.2.2.2.2.length y) (upd (ia 17) a.2.2.2.2.2.length z) (a.2.2.2.2.2.length + 1) = a.2.2.2.2.2 ++ [(t, x, y, z)] := by
                        rw [bt_of_snoc, pk_us, pk_us, pk_us, pk_us]
                        refine congrArg (· ++ _) (Eq.trans (List.map_congr_left (fun k hk => ?_)) hR.2.2.1)
                        have hk := List.mem_range.mp hk
                        rw [pk_un (by omega), pk_un (by omega), pk_un (by omega), pk_un (by omega)]
                      have hlen : (a.2.2.2.2.2 ++ [(t, x, y, z)]).length = a.2.2.2.2.2.length + 1 := by simp
                      exact v_iret (pc := 150) d_Mo_change_150 rfl (Nat.le_of_ble_eq_true rfl) (Nat.le_of_ble_eq_true rfl) ⟨by rw [if_pos ht, if_pos hk, if_neg hl], rfl, ((((hfr1.at ⟨by omega, by omega⟩ hp1).at ⟨by omega, by omega⟩ hp2).at ⟨by omega, by omega⟩ hp3).at ⟨by omega, by omega⟩ hp4).at ⟨by omega, by omega⟩ hp5, by simp only [if_pos ht, if_pos hk, if_neg hl]; exact ⟨_, _, _, g5, rfl, hR.1, (by rw [hlen]; rfl), (by rw [hlen]; exact hbt), hR.2.2.2⟩⟩
                    · skip
                      exact absurd hc (by decide)
                  · skip
                    rw [nI_eq (by omega) (by omega)] at hc
                    have hl := hc
                    refine v_aload_n (pc := 81) d_Mo_change_81 rfl rfl ?_
                    refine v_iconst (pc := 82) (v := nI 3) d_Mo_change_82 rfl ?_
                    refine v_putW (pc := 83) (fs' := (mo_fs b (va_up (va_up sc 0 (nI 0)) 0 (nI 3)))) d_Mo_change_83 fl_Mo_69 (fi_Mo_69 _) (ok_Mo_0 _) h1.o (Nat.le_of_ble_eq_true rfl) rfl (fun w2 hn2 hq2 => ?_)
                    have h2 := h1.n0 hn2 hq2
                    rw [bx_uu] at h2
                    have hth2 : (va_up sc 0 (nI 3)) 0 = nI 3 := rfl
                    refine v_aload_n (pc := 86) d_Mo_change_86 rfl rfl ?_
                    refine v_get (pc := 87) d_Mo_change_87 fl_Mo_69 h2.o rfl ?_
                    refine v_re hth2 ?_
                    refine v_if_le (pc := 90) (tgt := 95) d_Mo_change_90 rfl (fun hc => ?_) (fun hc => ?_)
                    · skip
                      exact absurd hc (by decide)
                    · skip
                      refine v_iconst (pc := 93) (v := nI 0) d_Mo_change_93 rfl ?_
                      exact v_iret (pc := 94) d_Mo_change_94 rfl (Nat.le_of_ble_eq_true rfl) (Nat.le_of_ble_eq_true rfl) ⟨by rw [if_pos ht, if_pos hk, if_pos hl], rfl, hfr1.at ⟨by omega, by omega⟩ hq2, by simp only [if_pos ht, if_pos hk, if_pos hl]; exact ⟨_, _, _, h2, rfl, hR⟩⟩
                · skip
                  have hk : ¬ chOk x y z := fun h => hc h.2.2.2
                  refine v_aload_n (pc := 64) d_Mo_change_64 rfl rfl ?_
                  refine v_iconst (pc := 65) (v := nI 2) d_Mo_change_65 rfl ?_
                  refine v_putW (pc := 66) (fs' := (mo_fs b (va_up (va_up sc 0 (nI 0)) 0 (nI 2)))) d_Mo_change_66 fl_Mo_69 (fi_Mo_69 _) (ok_Mo_0 _) h1.o (Nat.le_of_ble_eq_true rfl) rfl (fun w2 hn2 hq2 => ?_)
                  have h2 := h1.n0 hn2 hq2
                  rw [bx_uu] at h2
                  have hth2 : (va_up sc 0 (nI 2)) 0 = nI 2 := rfl
                  refine v_goto (pc := 69) (tgt := 86) d_Mo_change_69 rfl ?_
                  refine v_aload_n (pc := 86) d_Mo_change_86 rfl rfl ?_
                  refine v_get (pc := 87) d_Mo_change_87 fl_Mo_69 h2.o rfl ?_
                  refine v_re hth2 ?_
                  refine v_if_le (pc := 90) (tgt := 95) d_Mo_change_90 rfl (fun hc => ?_) (fun hc => ?_)
                  · skip
                    exact absurd hc (by decide)
                  · skip
                    refine v_iconst (pc := 93) (v := nI 0) d_Mo_change_93 rfl ?_
                    exact v_iret (pc := 94) d_Mo_change_94 rfl (Nat.le_of_ble_eq_true rfl) (Nat.le_of_ble_eq_true rfl) ⟨by rw [if_pos ht, if_neg hk], rfl, hfr1.at ⟨by omega, by omega⟩ hq2, by simp only [if_pos ht, if_neg hk]; exact ⟨_, _, _, h2, rfl, hR⟩⟩
    · skip
      have ht : ¬ (0 ≤ t ∧ t ≤ nI 2) := fun h => hc h.2
      refine v_aload_n (pc := 14) d_Mo_change_14 rfl rfl ?_
      refine v_iconst (pc := 15) (v := nI 1) d_Mo_change_15 rfl ?_
      refine v_putW (pc := 16) (fs' := (mo_fs b (va_up (va_up sc 0 (nI 0)) 0 (nI 1)))) d_Mo_change_16 fl_Mo_69 (fi_Mo_69 _) (ok_Mo_0 _) h1.o (Nat.le_of_ble_eq_true rfl) rfl (fun w2 hn2 hq2 => ?_)
      have h2 := h1.n0 hn2 hq2
      rw [bx_uu] at h2
      have hth2 : (va_up sc 0 (nI 1)) 0 = nI 1 := rfl
      refine v_goto (pc := 19) (tgt := 86) d_Mo_change_19 rfl ?_
      refine v_aload_n (pc := 86) d_Mo_change_86 rfl rfl ?_
      refine v_get (pc := 87) d_Mo_change_87 fl_Mo_69 h2.o rfl ?_
      refine v_re hth2 ?_
      refine v_if_le (pc := 90) (tgt := 95) d_Mo_change_90 rfl (fun hc => ?_) (fun hc => ?_)
      · skip
        exact absurd hc (by decide)
      · skip
        refine v_iconst (pc := 93) (v := nI 0) d_Mo_change_93 rfl ?_
        exact v_iret (pc := 94) d_Mo_change_94 rfl (Nat.le_of_ble_eq_true rfl) (Nat.le_of_ble_eq_true rfl) ⟨by rw [if_neg ht], rfl, hfr1.at ⟨by omega, by omega⟩ hq2, by simp only [if_neg ht]; exact ⟨_, _, _, h2, rfl, hR⟩⟩
