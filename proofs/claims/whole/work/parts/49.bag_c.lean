theorem v_rel {g : Gl} {d mc ms : Nat} {M : Mi} {w0 : Wd} {sz0 : Nat} {E : Rs → Wd → Nat → Prop} {pc : Nat} {L : List (Nat × Value)} {S : List Value} {w : Wd} {sz nc ns : Nat} {x y : Int64} (h : x = y) (k : VV g d mc ms M w0 sz0 E pc L (.long y :: S) w sz nc ns) : VV g d mc ms M w0 sz0 E pc L (.long x :: S) w sz nc ns := h ▸ k
theorem ma_pl_facts {q : List Int32} : ∀ {B : MaB}, ma_pl B q ≤ B.length ∧ (∀ j x, j < ma_pl B q → B[j]? = some x → ma_lt x.1 q = true) ∧ (∀ x, B[ma_pl B q]? = some x → ¬ ma_lt x.1 q = true)
  | [] => ⟨Nat.le_refl _, fun j x hj => absurd hj (Nat.not_lt_zero _), fun x hx => by cases hx⟩
  | y :: t => by
    by_cases h : ma_lt y.1 q = true
    · have e : ma_pl (y :: t) q = ma_pl t q + 1 := by
        unfold ma_pl
        rw [List.takeWhile_cons_of_pos (p := fun x : List Int32 × Int64 => ma_lt x.1 q) h, List.length_cons]
      obtain ⟨h1, h2, h3⟩ := ma_pl_facts (q := q) (B := t)
      rw [e]
      refine ⟨by rw [List.length_cons]; omega, fun j x hj hx => ?_, fun x hx => h3 x hx⟩
      cases j with
      | zero => cases hx; exact h
      | succ j => exact h2 j x (by omega) hx
    · have e : ma_pl (y :: t) q = 0 := by
        unfold ma_pl
        rw [List.takeWhile_cons_of_neg (p := fun x : List Int32 × Int64 => ma_lt x.1 q) h]
        rfl
      rw [e]
      exact ⟨Nat.zero_le _, fun j x hj => absurd hj (Nat.not_lt_zero _), fun x hx => by cases hx; exact h⟩
section AD
variable {f : Nat → Int32} {m : Nat → Int64} {wd n p : Nat} {q : List Int32} {k : Int64}
theorem ar_cut (hp : p < n) : ar_bag f m wd 0 n = ar_bag f m wd 0 p ++ (ar_row f wd (4 * p), m p) :: ar_bag f m wd (p + 1) (n - 1 - p) := by
  have h1 := ar_bag_split f m wd 0 p (1 + (n - 1 - p))
  have h2 := ar_bag_split f m wd p 1 (n - 1 - p)
  rw [Nat.zero_add, h2, show p + (1 + (n - 1 - p)) = n by omega] at h1
  exact h1
theorem ar_cut2 (hp : p ≤ n) : ar_bag f m wd 0 n = ar_bag f m wd 0 p ++ ar_bag f m wd p (n - p) := by
  have h1 := ar_bag_split f m wd 0 p (n - p)
  rw [Nat.zero_add, show p + (n - p) = n by omega] at h1
  exact h1
theorem ar_low (h : ∀ j, j < p → ma_lt (ar_row f wd (4 * j)) q = true) : ∀ x ∈ ar_bag f m wd 0 p, ma_lt x.1 q = true := by
  intro x hx
  obtain ⟨r, hr, rfl⟩ := ar_bag_mem hx
  dsimp only
  rw [Nat.zero_add]
  exact h r hr
theorem add_hit (hp : p < n) (hlo : ∀ j, j < p → ma_lt (ar_row f wd (4 * j)) q = true) (he : ar_row f wd (4 * p) = q) : ma_addC (ar_bag f m wd 0 n) q k = ar_bag f m wd 0 p ++ (if m p + k = 0 then ar_bag f m wd (p + 1) (n - 1 - p) else (q, m p + k) :: ar_bag f m wd (p + 1) (n - 1 - p)) := by
  have hin : (q, m p) ∈ ar_bag f m wd 0 n := by rw [ar_cut hp, he]; exact List.mem_append_right _ List.mem_cons_self
  unfold ma_addC
  rw [if_neg (fun h => by have h9 := List.all_eq_true.mp h.2 _ hin; simp at h9), ar_cut hp, he, ma_add_app (ar_low hlo), ma_add, if_neg (by rw [ma_lt_irr]; decide), if_pos rfl]
theorem add_miss (hpn : p ≤ n) (hlo : ∀ j, j < p → ma_lt (ar_row f wd (4 * j)) q = true) (hhi : ∀ j, p ≤ j → j < n → ma_lt q (ar_row f wd (4 * j)) = true) : ma_addC (ar_bag f m wd 0 n) q k = if k = 0 then ar_bag f m wd 0 n else if 32 ≤ n then ar_bag f m wd 0 n else ar_bag f m wd 0 p ++ (q, k) :: ar_bag f m wd p (n - p) := by
  have hall : (ar_bag f m wd 0 n).all (fun x => decide (x.1 ≠ q)) = true := by
    rw [List.all_eq_true]
    intro x hx
    obtain ⟨r, hr, rfl⟩ := ar_bag_mem hx
    rw [decide_eq_true_eq]
    dsimp only
    rw [Nat.zero_add]
    by_cases h : r < p
    · exact ma_lt_ne (hlo r h)
    · exact fun e => ma_lt_ne (hhi r (by omega) hr) e.symm
  have hadd : ma_add (ar_bag f m wd 0 n) q k = if k = 0 then ar_bag f m wd 0 n else ar_bag f m wd 0 p ++ (q, k) :: ar_bag f m wd p (n - p) := by
    rw [ar_cut2 hpn, ma_add_app (ar_low hlo)]
    by_cases hlt : p < n
    · have e2 : ar_bag f m wd p (n - p) = (ar_row f wd (4 * p), m p) :: ar_bag f m wd (p + 1) (n - 1 - p) := by
        have h1 := ar_bag_split f m wd p 1 (n - 1 - p)
        rw [show 1 + (n - 1 - p) = n - p by omega] at h1
        exact h1
      have h3 := hhi p (Nat.le_refl _) hlt
      rw [e2, ma_add, if_neg (by rw [ma_lt_asym h3]; decide), if_neg (fun e => ma_lt_ne h3 e.symm)]
      by_cases hk : k = 0
      · rw [if_pos hk, if_pos hk]
      · rw [if_neg hk, if_neg hk]
    · rw [show n - p = 0 by omega]
      show _ ++ (if k = 0 then [] else [(q, k)]) = _
      by_cases hk : k = 0
      · rw [if_pos hk, if_pos hk]; rfl
      · rw [if_neg hk, if_neg hk]; rfl
  unfold ma_addC
  rw [ar_bag_len]
  by_cases h32 : 32 ≤ n
  · rw [if_pos ⟨h32, hall⟩]
    by_cases hk : k = 0
    · rw [if_pos hk]
    · rw [if_neg hk, if_pos h32]
  · rw [if_neg (fun h => h32 h.1), hadd]
    by_cases hk : k = 0
    · rw [if_pos hk, if_pos hk]
    · rw [if_neg hk, if_neg hk, if_neg h32]
theorem set_eq {x : Int64} (hp : p < n) : ar_bag f (vp_updL m p x) wd 0 n = ar_bag f m wd 0 p ++ (ar_row f wd (4 * p), x) :: ar_bag f m wd (p + 1) (n - 1 - p) := by
  rw [ar_cut hp, pk_uLs]
  congr 1
  · exact ar_bag_congr (fun r hr c hc => rfl) (fun r hr => pk_uLn (by omega))
  · congr 1
    exact ar_bag_congr (fun r hr c hc => rfl) (fun r hr => pk_uLn (by omega))
theorem set_cut {x : Int64} : ar_bag f (vp_updL m p x) wd 0 p ++ ar_bag f (vp_updL m p x) wd (p + 1) (n - 1 - p) = ar_bag f m wd 0 p ++ ar_bag f m wd (p + 1) (n - 1 - p) := by
  congr 1
  · exact ar_bag_congr (fun r hr c hc => rfl) (fun r hr => pk_uLn (by omega))
  · exact ar_bag_congr (fun r hr c hc => rfl) (fun r hr => pk_uLn (by omega))
end AD
def bg_ad (w : Wd) (h wd : Nat) (pd : Nat → Int32) (B : MaB) (w' : Wd) : Prop := ∃ f' m', BGo w' h wd B.length f' m' pd ∧ bg_fr h w w' ∧ ar_bag f' m' wd 0 B.length = B
theorem bg_ad.mk {w w' : Wd} {h wd n : Nat} {pd : Nat → Int32} {B : MaB} {f' : Nat → Int32} {m' : Nat → Int64} (h1 : BGo w' h wd n f' m' pd) (h2 : bg_fr h w w') (h3 : ar_bag f' m' wd 0 n = B) : bg_ad w h wd pd B w' := by
  have hl : B.length = n := by rw [← h3, ar_bag_len]
  exact ⟨f', m', by rw [hl]; exact h1, h2, by rw [hl]; exact h3⟩
set_option maxRecDepth 100000 in
set_option maxHeartbeats 4000000 in
theorem c_Bag_add (g : Gl) {w : Wd} {h sz wd n : Nat} {f : Nat → Int32} {m : Nat → Int64} {pd : Nat → Int32} (hB : BGo w h wd n f m pd) (hn : n ≤ 32) (hwd : wd ≤ 4) (hok : ma_srt (ar_bag f m wd 0 n)) (by_ : Int64) : CT g 3 0 0 mi_Bag_add [.ref h, .long by_] w sz (wrE none sz (bg_ad w h wd pd (ma_addC (ar_bag f m wd 0 n) (ar_row pd wd 0) by_))) := by
  refine CT.of (by decide) (Nat.le_of_ble_eq_true rfl) ?_
  have hS := ar_srt hok
  refine v_aload_n (pc := 0) d_Bag_add_0 rfl rfl ?_
  refine v_cvR (pc := 1) (A := []) (rest := []) (x := .int (nI ((ma_pl (ar_bag f m wd 0 n) (ar_row pd wd 0))))) d_Bag_add_1 lk_Bag_43 me_Bag_placeOfPending im_Bag_placeOfPending se_Bag_placeOfPending rfl hB.o rfl rfl (c_Bag_placeOfPending g hB hn hwd hS) (Nat.le_of_ble_eq_true rfl) (Nat.le_of_ble_eq_true rfl) (Nat.le_of_ble_eq_true rfl) (Nat.le_of_ble_eq_true rfl) ?_
  obtain ⟨hp1, hp2, hp3⟩ := ma_pl_facts (q := (ar_row pd wd 0)) (B := (ar_bag f m wd 0 n))
  rw [ar_bag_len] at hp1
  generalize (ma_pl (ar_bag f m wd 0 n) (ar_row pd wd 0)) = p at hp1 hp2 hp3 ⊢
  have hlo : ∀ j, j < p → ma_lt (ar_row f wd (4 * j)) (ar_row pd wd 0) = true := fun j hj => by have h9 := hp2 j _ hj (ar_bag_get (by omega)); rw [Nat.zero_add] at h9; exact h9
  refine v_istore_n (pc := 4) (L' := [(3, .int (nI p)), (0, .ref h), (1, .long by_)]) d_Bag_add_4 rfl (by decide) rfl ?_
  refine v_aload_n (pc := 5) d_Bag_add_5 rfl rfl ?_
  refine v_iload_n (pc := 6) d_Bag_add_6 rfl rfl ?_
  refine v_cvR (pc := 7) (A := [.int (nI p)]) (rest := []) (x := .int (if p < n ∧ ar_row f wd (4 * p) = (ar_row pd wd 0) then 1 else 0)) d_Bag_add_7 lk_Bag_47 me_Bag_isPending im_Bag_isPending se_Bag_isPending rfl hB.o rfl rfl (c_Bag_isPending g hB hn hwd (p := p) (by omega)) (Nat.le_of_ble_eq_true rfl) (Nat.le_of_ble_eq_true rfl) (Nat.le_of_ble_eq_true rfl) (Nat.le_of_ble_eq_true rfl) ?_
  refine v_if_eq (pc := 10) (tgt := 42) d_Bag_add_10 rfl (fun hc => ?_) (fun hc => ?_)
  · skip
    rw [zf] at hc
    have hhi : ∀ j, p ≤ j → j < n → ma_lt (ar_row pd wd 0) (ar_row f wd (4 * j)) = true := fun j hj hjn => by
      have h5 : ma_lt (ar_row pd wd 0) (ar_row f wd (4 * p)) = true := by
        have hpn : p < n := by omega
        have h6 := hp3 _ (ar_bag_get hpn)
        rw [Nat.zero_add] at h6
        rcases ma_lt_tri (a := ar_row f wd (4 * p)) (b := (ar_row pd wd 0)) (by rw [ar_row_len, ar_row_len]) with h | h | h
        · exact absurd h h6
        · exact absurd ⟨hpn, h⟩ hc
        · exact h
      by_cases e : j = p
      · subst e; exact h5
      · exact ma_lt_trans h5 (hS p j (by omega) hjn)
    have hX := add_miss (k := by_) (m := m) hp1 hlo hhi
    refine v_lload_n (pc := 42) d_Bag_add_42 rfl rfl ?_
    refine v_lconst (pc := 43) (v := 0) d_Bag_add_43 rfl ?_
    refine v_lcmp (pc := 44) d_Bag_add_44 ?_
    refine v_if_eq (pc := 45) (tgt := 63) d_Bag_add_45 rfl (fun hc => ?_) (fun hc => ?_)
    · skip
      exact v_vret (pc := 63) d_Bag_add_63 rfl (Nat.le_of_ble_eq_true rfl) (Nat.le_of_ble_eq_true rfl) ⟨rfl, rfl, bg_ad.mk hB bg_fr.rf (by rw [hX, if_pos (lg0.mp hc)])⟩
    · skip
      have hk0 : ¬ by_ = 0 := fun h => hc (lg0.mpr h)
      refine v_aload_n (pc := 48) d_Bag_add_48 rfl rfl ?_
      refine v_get (pc := 49) d_Bag_add_49 fl_Bag_15 hB.o rfl ?_
      refine v_bipush (pc := 52) (v := nI 32) d_Bag_add_52 rfl ?_
      refine v_icmp_ge (pc := 54) (tgt := 63) d_Bag_add_54 rfl (fun hc => ?_) (fun hc => ?_)
      · skip
        rw [nI_leI (by omega) (by omega)] at hc
        exact v_vret (pc := 63) d_Bag_add_63 rfl (Nat.le_of_ble_eq_true rfl) (Nat.le_of_ble_eq_true rfl) ⟨rfl, rfl, bg_ad.mk hB bg_fr.rf (by rw [hX, if_neg hk0, if_pos (by omega)])⟩
      · skip
        rw [nI_leI (by omega) (by omega)] at hc
        refine v_aload_n (pc := 57) d_Bag_add_57 rfl rfl ?_
        refine v_iload_n (pc := 58) d_Bag_add_58 rfl rfl ?_
        refine v_lload_n (pc := 59) d_Bag_add_59 rfl rfl ?_
        have h32 : ¬ 32 ≤ n := by omega
        refine v_cvV (pc := 60) (A := [.int (nI p), .long by_]) (rest := []) d_Bag_add_60 lk_Bag_55 me_Bag_insert im_Bag_insert se_Bag_insert rfl hB.o rfl rfl (c_Bag_insert g hB (p := p) hp1 (by omega) hwd by_) (Nat.le_of_ble_eq_true rfl) (Nat.le_of_ble_eq_true rfl) (Nat.le_of_ble_eq_true rfl) (Nat.le_of_ble_eq_true rfl) (fun w2 ht2 => ?_)
        obtain ⟨f2, m2, h2, hf2, he2⟩ := ht2
        exact v_vret (pc := 63) d_Bag_add_63 rfl (Nat.le_of_ble_eq_true rfl) (Nat.le_of_ble_eq_true rfl) ⟨rfl, rfl, bg_ad.mk h2 hf2 (by rw [hX, if_neg hk0, if_neg h32, he2])⟩
  · skip
    rw [zt] at hc
    obtain ⟨hpn, hpe⟩ := hc
    have hH := add_hit (k := by_) hpn hlo hpe (m := m)
    refine v_aload_n (pc := 13) d_Bag_add_13 rfl rfl ?_
    refine v_get (pc := 14) d_Bag_add_14 fl_Bag_22 hB.o rfl ?_
    refine v_iload_n (pc := 17) d_Bag_add_17 rfl rfl ?_
    refine v_dup2 (pc := 18) d_Bag_add_18 rfl rfl ?_
    refine v_laldN (pc := 19) (k := p) (f := m) d_Bag_add_19 hB.m rfl (by omega) (by decide) ?_
    refine v_lload_n (pc := 20) d_Bag_add_20 rfl rfl ?_
    refine v_ladd (pc := 21) d_Bag_add_21 ?_
    refine v_lastW (pc := 22) (k := p) (f := m) d_Bag_add_22 hB.m rfl (by omega) (by decide) (fun w1 hn1 hq1 => ?_)
    have h1 := hB.sm hn1 hq1
    refine v_aload_n (pc := 23) d_Bag_add_23 rfl rfl ?_
    refine v_get (pc := 24) d_Bag_add_24 fl_Bag_22 h1.o rfl ?_
    refine v_iload_n (pc := 27) d_Bag_add_27 rfl rfl ?_
    refine v_laldN (pc := 28) (k := p) (f := (vp_updL m p (m p + by_))) d_Bag_add_28 h1.m rfl (by omega) (by decide) ?_
    refine v_rel pk_uLs ?_
    refine v_lconst (pc := 29) (v := 0) d_Bag_add_29 rfl ?_
    refine v_lcmp (pc := 30) d_Bag_add_30 ?_
    refine v_if_ne (pc := 31) (tgt := 63) d_Bag_add_31 rfl (fun hc => ?_) (fun hc => ?_)
    · skip
      exact v_vret (pc := 63) d_Bag_add_63 rfl (Nat.le_of_ble_eq_true rfl) (Nat.le_of_ble_eq_true rfl) ⟨rfl, rfl, bg_ad.mk h1 (bg_fr.rf.at ⟨by omega, by omega⟩ hq1) (by rw [hH, if_neg (fun h => hc (lg0.mpr h)), set_eq hpn, hpe])⟩
    · skip
      refine v_aload_n (pc := 34) d_Bag_add_34 rfl rfl ?_
      refine v_iload_n (pc := 35) d_Bag_add_35 rfl rfl ?_
      have hz := lg0.mp hc
      refine v_cvV (pc := 36) (A := [.int (nI p)]) (rest := []) d_Bag_add_36 lk_Bag_51 me_Bag_remove im_Bag_remove se_Bag_remove rfl h1.o rfl rfl (c_Bag_remove g h1 (p := p) hpn hn hwd) (Nat.le_of_ble_eq_true rfl) (Nat.le_of_ble_eq_true rfl) (Nat.le_of_ble_eq_true rfl) (Nat.le_of_ble_eq_true rfl) (fun w2 ht2 => ?_)
      obtain ⟨f2, m2, h2, hf2, he2⟩ := ht2
      refine v_goto (pc := 39) (tgt := 63) d_Bag_add_39 rfl ?_
      exact v_vret (pc := 63) d_Bag_add_63 rfl (Nat.le_of_ble_eq_true rfl) (Nat.le_of_ble_eq_true rfl) ⟨rfl, rfl, bg_ad.mk h2 ((bg_fr.rf.at ⟨by omega, by omega⟩ hq1).tr hf2) (by rw [hH, if_pos hz, he2, set_cut])⟩
