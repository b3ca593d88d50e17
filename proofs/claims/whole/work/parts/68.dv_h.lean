/-! commit: what is made anew -/
abbrev nba (a : As) : Nat → MaB := nb a.2.1 a.2.2.1 a.2.2.2.1 a.2.2.2.2.2
abbrev oka (a : As) (n : Nat) : Bool := okf a.2.1 a.2.2.1 a.2.2.2.1 a.2.2.2.2.2 n
abbrev cma (a : As) (v : Nat) : Bool := cmok a.2.1 a.2.2.1 a.2.2.2.1 a.2.2.2.2.2 v
theorem ma_add_end {r : List Int32} {m : Int64} (hm : m ≠ 0) : ∀ {b : MaB}, (∀ x ∈ b, ma_lt x.1 r = true) → ma_add b r m = b ++ [(r, m)]
  | [], _ => by rw [ma_add, if_neg hm]; rfl
  | (q, k) :: t, h => by
    rw [ma_add, if_pos (h (q, k) List.mem_cons_self), ma_add_end hm (fun x hx => h x (List.mem_cons_of_mem _ hx))]
    rfl
theorem ma_fold_join {n : Nat} : ∀ (t b : MaB), ma_ok n (b ++ t) → ma_fold b t = b ++ t
  | [], b, _ => (List.append_nil b).symm
  | (r, m) :: t, b, h => by
    have h1 := List.pairwise_append.mp h.1
    have h2 : ma_add b r m = b ++ [(r, m)] := ma_add_end (h.2 (r, m) (by simp)).2 (fun x hx => h1.2.2 x hx (r, m) List.mem_cons_self)
    have h3 := ma_fold_join t (b ++ [(r, m)]) (by rw [List.append_assoc]; exact h)
    exact (congrArg (fun z => ma_fold z t) h2).trans (h3.trans (by simp))
theorem ma_fold_self {n : Nat} {b : MaB} (h : ma_ok n b) : ma_fold [] b = b := ma_fold_join b [] h
theorem nb_ok {a : As} (hA : AWa a) : ∀ v, v < a.1 → ma_ok (a.2.1 v) (nba a v) := by
  intro v
  induction v using Nat.strongRecOn with
  | _ v ih =>
    intro hv
    by_cases h3 : v < 3
    · show ma_ok (a.2.1 v) (nb a.2.1 a.2.2.1 a.2.2.2.1 a.2.2.2.2.2 v)
      rw [nb_tbl h3]
      refine ma_fold_ok (ma_ok_nil _) (fun x hx => ?_)
      rcases List.mem_append.mp hx with h | h
      · exact ((hA.2.2.2.1 v hv).2.2.1.2 x h).1
      · unfold bt_adds at h
        obtain ⟨y, -, rfl⟩ := List.mem_map.mp h
        rw [(hA.2.2.2.2.1 v h3).1]
        rfl
    · have hW := hA.2.2.2.2.2.1 v (by omega) hv
      show ma_ok (a.2.1 v) (nb a.2.1 a.2.2.1 a.2.2.2.1 a.2.2.2.2.2 v)
      rw [nb_op h3 hW]
      exact ma_fold_ok (ma_ok_nil _) (op_adds_row hW (fun u hu x hx => ((ih u hu (by omega)).2 x hx).1))
theorem ok_len {a : As} {i u : Nat} (ho : oka a i = true) (hu : u < i) : (nba a u).length ≤ 16 ∧ (u < 3 → tb_ok (nba a u) = true) := by
  have hc : cma a u = true := ((okf_s _ _ _ _ _).mp (okf_le (v := u + 1) hu ho)).2
  unfold cma cmok at hc
  by_cases h3 : u < 3
  · rw [if_pos h3] at hc
    exact ⟨by have h9 : (nba a u).length ≤ 8 := (tb_iff.mp hc).1; omega, fun _ => hc⟩
  · rw [if_neg h3] at hc
    exact ⟨of_decide_eq_true hc, fun h => absurd h h3⟩
theorem tb_C {a : As} (hA : AWa a) {v : Nat} (h3 : v < 3) : ma_foldC (a.2.2.2.1 v) (bt_adds v a.2.2.2.2.2) = nba a v := by
  have hv : v < a.1 := by have := hA.1; omega
  have hl : (a.2.2.2.1 v).length + (bt_adds v a.2.2.2.2.2).length ≤ 32 := by
    have h1 := (hA.2.2.2.1 v hv).2.2.2
    have h2 : (bt_adds v a.2.2.2.2.2).length ≤ a.2.2.2.2.2.length := by
      unfold bt_adds
      rw [List.length_map]
      exact List.length_filter_le _ _
    have h3 := hA.2.2.1
    omega
  have e := ma_fold_self (hA.2.2.2.1 v hv).2.2.1
  rw [ma_foldC_small hl]
  show _ = nb a.2.1 a.2.2.1 a.2.2.2.1 a.2.2.2.2.2 v
  rw [nb_tbl h3]
  unfold ma_fold at e ⊢
  rw [List.foldl_append, e]
def B3 (a : As) (i : Nat) : MaB := if i < 3 then nba a i else ma_foldC [] (op_adds (a.2.1 i) (nba a) (a.2.2.1 i))
theorem B3_tie {a : As} (hA : AWa a) {i : Nat} (hi : i < a.1) (hok : oka a i = true) : (B3 a i).length ≤ 32 ∧ (cma a i = true → B3 a i = nba a i) ∧ (¬ i < 3 → ((B3 a i).length ≤ 16 ↔ (nba a i).length ≤ 16)) := by
  unfold B3
  by_cases h3 : i < 3
  · rw [if_pos h3]
    refine ⟨?_, fun _ => rfl, fun h => absurd h3 h⟩
    rw [← tb_C hA h3]
    refine (ma_foldC_ok (hA.2.2.2.1 i hi).2.2.1 (by have := (hA.2.2.2.1 i hi).2.2.2; omega) (fun x hx => ?_)).2
    unfold bt_adds at hx
    obtain ⟨y, -, rfl⟩ := List.mem_map.mp hx
    rw [(hA.2.2.2.2.1 i h3).1]
    rfl
  · rw [if_neg h3]
    have hW := hA.2.2.2.2.2.1 i (by omega) hi
    have hnb : nba a i = ma_fold [] (op_adds (a.2.1 i) (nba a) (a.2.2.1 i)) := nb_op h3 hW
    have hrow := op_adds_row (β := nba a) hW (fun u hu x hx => ((nb_ok hA u (by omega)).2 x hx).1)
    obtain ⟨t1, t2⟩ := fold_tie (β := nba a) hW (fun u hu => ⟨nb_ok hA u (by omega), (ok_len hok hu).1⟩)
    rw [← hnb] at t1 t2
    refine ⟨(ma_foldC_ok (b := []) (ma_ok_nil _) (by decide) hrow).2, fun hc => t2 ?_, fun _ => t1⟩
    unfold cma cmok at hc
    rw [if_neg h3] at hc
    exact of_decide_eq_true hc
theorem nwA_f (Z : Nat) (sw : Nat → Bool) (u : Nat) : nwA Z (fun u => !(sw u)) u = bfA Z sw u := by
  show VA Z u + (if (!(sw u)) = true then 6 else 2) = VA Z u + (if sw u = true then 2 else 6)
  cases sw u <;> rfl
theorem bfA_f (Z : Nat) (sw : Nat → Bool) (u : Nat) : bfA Z (fun u => !(sw u)) u = nwA Z sw u := by
  show VA Z u + (if (!(sw u)) = true then 2 else 6) = VA Z u + (if sw u = true then 6 else 2)
  cases sw u <;> rfl
/-- the views below i are made anew, their two bags exchanged -/
def RN (w : Wd) (Z : Nat) (a : As) (sw : Nat → Bool) (od : Nat → Nat) (i : Nat) (W : Wd) : Prop :=
  (∀ q, q < Z + 7 ∨ Z + 7 + 10 * i ≤ q → W q = w q) ∧ ∀ u, u < i → W (VA Z u) = some (cO 1 [.ref (od u), .ref (bfA Z sw u), .ref (nwA Z sw u), .int (nI (a.2.2.2.2.1 u))]) ∧ W (VA Z u + 1) = w (VA Z u + 1) ∧ bgN W (bfA Z sw u) (a.2.1 u) (nba a u) ∧ bgN W (nwA Z sw u) (a.2.1 u) (a.2.2.2.1 u)
section RNS
variable {g : Gl} {w : Wd} {Z sz : Nat} {a : As} {sw : Nat → Bool} {od : Nat → Nat} {i : Nat} {W : Wd}
theorem RN.fc (g : Gl) (hC : CR w Z sz a sw od) (hA : AWa a) (hi : i < a.1) (hok : oka a i = true) (hR : RN w Z a sw od i W) : ∀ w1 : Wd, w1 (VA Z i) = some (cO 1 [.ref (od i), .ref (bfA Z sw i), .ref (nwA Z sw i), .int (nI (a.2.2.2.2.1 i))]) → (∀ q, q ≠ VA Z i → w1 q = W q) → FC g w1 (od i) (nwA Z sw i) (bfA Z sw i) sz (bg_st w1 (bfA Z sw i) (a.2.1 i) (if i < 3 then a.2.2.2.1 i else ma_foldC [] (op_adds (a.2.1 i) (nba a) (a.2.2.1 i)))) := by
  intro w1 h1 hq1
  have hn12 := hA.2.1
  obtain ⟨r1, r2⟩ := hR
  have hvi : VA Z i = Z + 7 + 10 * i := rfl
  have hci := nwA_c Z sw i
  obtain ⟨-, -, -, h4, h5, h6, h7⟩ := hC
  obtain ⟨c1, c2⟩ := h5 i hi
  have hoi := (h4 i (by omega)).2.2.2.1
  have hOP : OPo w1 Z (od i) (a.2.1 i) (a.2.2.1 i) := c2.mv ((hq1 _ (by omega)).trans (r1 _ (by omega)))
  have hX : bgX w1 (bfA Z sw i) := (h4 i (by omega)).2.2.1.mv (fun q h h' => (hq1 q (by omega)).trans (r1 q (by omega)))
  by_cases h3 : i < 3
  · rw [if_pos h3]
    have h0 := h6 i h3
    have hO : w1 (od i) = some (cO 4 []) := by
      rcases hOP with ⟨_, e⟩ | ⟨e, _⟩ | ⟨e, _⟩ | ⟨e, _⟩ | ⟨e, _⟩ | ⟨e, _⟩ | ⟨kd, _, e, _⟩
      · exact e
      all_goals omega
    exact fc_tbl hO (by omega) hX (c1.mv (fun q h h' => (hq1 q (by omega)).trans (r1 q (by omega)))) (by omega) (by have := (hA.2.2.2.1 i hi).2.2.2; omega) (hA.2.2.2.1 i hi).2.1
  · rw [if_neg h3]
    have hW := hA.2.2.2.2.2.1 i (by omega) hi
    exact fc_op (sw := fun u => !(sw u)) (v := i) (wd := a.2.1) (β := nba a) (o := a.2.2.1 i) hOP hW (by omega) hX (fun u hu => by
      obtain ⟨d1, d2, d3, d4⟩ := r2 u hu
      have hvu : VA Z u = Z + 7 + 10 * u := rfl
      have hcu := nwA_c Z sw u
      have hl := (ok_len hok hu).1
      rw [nwA_f]
      exact ⟨d3.mv (fun q h h' => hq1 q (by omega)), by omega, (hA.2.2.2.1 u (by omega)).2.1, by omega, by omega, _, _, _, (hq1 _ (by omega)).trans d1⟩)
theorem RN.add (g : Gl) (hA : AWa a) (hi : i < a.1) (hR : RN w Z a sw od i W) {w1 w2 : Wd} (hq1 : ∀ q, q ≠ VA Z i → w1 q = W q) (hP : bg_st w1 (bfA Z sw i) (a.2.1 i) (if i < 3 then a.2.2.2.1 i else ma_foldC [] (op_adds (a.2.1 i) (nba a) (a.2.2.1 i))) w2) {x y z u : Nat → Int32} (hT2 : BTo w2 (Z + 2) a.2.2.2.2.2.length x y z u) (hTT : bt_of x y z u a.2.2.2.2.2.length = a.2.2.2.2.2) :
    CT g 4 0 0 mi_Batch_addTo [.ref (Z + 2), .int (nI i), .ref (bfA Z sw i)] w2 sz (wrE none sz (bg_st w1 (bfA Z sw i) (a.2.1 i) (B3 a i))) := by
  have hn12 := hA.2.1
  obtain ⟨f, m, pd, b1, b2, b3⟩ := hP
  have hvi : VA Z i = Z + 7 + 10 * i := rfl
  have hci := nwA_c Z sw i
  by_cases h3 : i < 3
  · rw [if_pos h3] at b1 b3
    have hw2 := (hA.2.2.2.2.1 i h3).1
    have hok := (hA.2.2.2.1 i hi).2.2.1
    have hl := (hA.2.2.2.1 i hi).2.2.2
    have hB : B3 a i = ma_foldC (a.2.2.2.1 i) (bt_adds i a.2.2.2.2.2) := by
      unfold B3
      rw [if_pos h3]
      exact (tb_C hA h3).symm
    rw [hw2] at b1 b3 hok ⊢
    rw [hB]
    have h9 := c_Batch_addTo g (v := i) (sz := sz) hT2 (by omega) hA.2.2.1 hok (by omega) ⟨f, m, pd, b1, fun _ _ => rfl, b3⟩
    rw [hTT] at h9
    refine h9.mono (fun r w' sz' h => ⟨h.1, h.2.1, ?_⟩)
    obtain ⟨f', m', pd', e1, e2, e3⟩ := h.2.2
    exact ⟨f', m', pd', e1, fun q hq => (e2 q hq).trans (b2 q hq), e3⟩
  · rw [if_neg h3] at b1 b3
    have h9 := c_Batch_addTo_no g (h := bfA Z sw i) (v := i) (sz := sz) hT2 hA.2.2.1 (fun k hk e => by
      obtain ⟨t, ht, e9⟩ := hA.2.2.2.2.2.2 (x k, y k, z k, u k) (by rw [← hTT]; exact List.mem_map.mpr ⟨k, List.mem_range.mpr hk, rfl⟩)
      have e8 : nI i = nI t := e.symm.trans e9
      have := (nI_eq (by omega) (by omega)).mp e8
      omega)
    refine h9.mono (fun r w' sz' h => ⟨h.1, h.2.2, ?_⟩)
    rw [h.2.1]
    unfold B3
    rw [if_neg h3]
    exact ⟨f, m, pd, b1, b2, b3⟩
theorem RN.ac (g : Gl) (hC : CR w Z sz a sw od) (hA : AWa a) (hi : i < a.1) (hok : oka a i = true) {w3 : Wd} (hO : OPo w3 Z (od i) (a.2.1 i) (a.2.2.1 i)) (hN : bgN w3 (bfA Z sw i) (a.2.1 i) (B3 a i)) : AC g w3 (od i) (bfA Z sw i) sz (cma a i) := by
  obtain ⟨t1, t2, t3⟩ := B3_tie hA hi hok
  by_cases h3 : i < 3
  · have h0 := hC.2.2.2.2.2.1 i h3
    have hO : w3 (od i) = some (cO 4 []) := by
      rcases hO with ⟨_, e⟩ | ⟨e, _⟩ | ⟨e, _⟩ | ⟨e, _⟩ | ⟨e, _⟩ | ⟨e, _⟩ | ⟨kd, _, e, _⟩
      · exact e
      all_goals omega
    have h9 := ac_tbl (g := g) (sz := sz) hO hN t1
    have e : cma a i = tb_ok (B3 a i) := by
      unfold cma cmok B3
      rw [if_pos h3, if_pos h3]
    rw [e]
    exact h9
  · have hW := hA.2.2.2.2.2.1 i (by omega) hi
    have h0 : (a.2.2.1 i).1 ≠ 0 := by
      rcases hW.2.2 with ⟨e, _⟩ | ⟨e, _⟩ | ⟨e, _⟩ | ⟨e, _⟩ | ⟨e, _⟩ | ⟨kd, _, e, _⟩ <;> omega
    have h9 := ac_op (g := g) (sz := sz) hO h0 hN t1
    have e : cma a i = decide ((B3 a i).length ≤ 16) := by
      unfold cma cmok
      rw [if_neg h3]
      exact decide_eq_decide.mpr (t3 h3).symm
    rw [e]
    exact h9
theorem RN.next (hC : CR w Z sz a sw od) (hA : AWa a) (hi : i < a.1) (hR : RN w Z a sw od i W) {w1 w3 : Wd} (h1 : w1 (VA Z i) = some (cO 1 [.ref (od i), .ref (bfA Z sw i), .ref (nwA Z sw i), .int (nI (a.2.2.2.2.1 i))])) (hq1 : ∀ q, q ≠ VA Z i → w1 q = W q) (hP : bg_st w1 (bfA Z sw i) (a.2.1 i) (nba a i) w3) : RN w Z a sw od (i + 1) w3 := by
  have hn12 := hA.2.1
  obtain ⟨f, m, pd, b1, b2, b3⟩ := hP
  obtain ⟨r1, r2⟩ := hR
  have hvi : VA Z i = Z + 7 + 10 * i := rfl
  have hci := nwA_c Z sw i
  have hc1 := (hC.2.2.2.2.1 i hi).1
  refine ⟨fun q hq => (b2 q (by omega)).trans ((hq1 q (by omega)).trans (r1 q (by omega))), fun u hu => ?_⟩
  by_cases e : u = i
  · obtain rfl := e
    exact ⟨(b2 _ (by omega)).trans h1, (b2 _ (by omega)).trans ((hq1 _ (by omega)).trans (r1 _ (by omega))), ⟨f, m, pd, b1, b3⟩, hc1.mv (fun q h h' => (b2 q (by omega)).trans ((hq1 q (by omega)).trans (r1 q (by omega))))⟩
  · obtain ⟨d1, d2, d3, d4⟩ := r2 u (by omega)
    have hvu : VA Z u = Z + 7 + 10 * u := rfl
    have hcu := nwA_c Z sw u
    have hlt : u < i := by omega
    exact ⟨(b2 _ (by omega)).trans ((hq1 _ (by omega)).trans d1), (b2 _ (by omega)).trans ((hq1 _ (by omega)).trans d2), d3.mv (fun q h h' => (b2 q (by omega)).trans (hq1 q (by omega))), d4.mv (fun q h h' => (b2 q (by omega)).trans (hq1 q (by omega)))⟩
theorem RN.fail (hC : CR w Z sz a sw od) (hA : AWa a) (hi : i < a.1) (hok : oka a i = true) (hR : RN w Z a sw od i W) {w1 w3 w4 : Wd} (hq1 : ∀ q, q ≠ VA Z i → w1 q = W q) (hP : bg_st w1 (bfA Z sw i) (a.2.1 i) (B3 a i) w3)
    (hv4 : ∀ u, u ≤ i → w4 (VA Z u) = some (cO 1 [.ref (od u), .ref (nwA Z sw u), .ref (bfA Z sw u), .int (nI (a.2.2.2.2.1 u))])) (hq4 : ∀ q, (∀ u, u ≤ i → q ≠ VA Z u) → w4 q = w3 q) : CR w4 Z sz a sw od ∧ ∀ q, q < Z + 7 ∨ Z + 127 ≤ q → w4 q = w q := by
  have hn12 := hA.2.1
  obtain ⟨f, m, pd, b1, b2, b3⟩ := hP
  have hB3 := (B3_tie hA hi hok).1
  obtain ⟨r1, r2⟩ := hR
  have hvi : VA Z i = Z + 7 + 10 * i := rfl
  have hci := nwA_c Z sw i
  have hlow : ∀ q, (q < Z + 7 ∨ Z + 7 + 10 * (i + 1) ≤ q) → w4 q = w q := fun q hq => (hq4 q (fun u hu e => by have hvu : VA Z u = Z + 7 + 10 * u := rfl; omega)).trans ((b2 q (by omega)).trans ((hq1 q (by omega)).trans (r1 q (by omega))))
  have hin : ∀ u q, u ≤ i → VA Z u < q → q < VA Z u + 10 → w4 q = w3 q := fun u q hu h h' => hq4 q (fun u' hu' e => by
    have hvu : VA Z u = Z + 7 + 10 * u := rfl
    have hvu' : VA Z u' = Z + 7 + 10 * u' := rfl
    omega)
  obtain ⟨h1, ⟨fV, h2, h2'⟩, ⟨x, y, z, t, h3, h3'⟩, h4, h5, h6, h7⟩ := hC
  refine ⟨⟨(hlow _ (by omega)).trans h1, ⟨fV, (hlow _ (by omega)).trans h2, h2'⟩, ⟨x, y, z, t, h3.mv (fun q h h' => hlow q (by omega)), h3'⟩, fun u hu => ?_, fun u hu => ?_, h6, h7⟩, fun q hq => hlow q (by omega)⟩
  · obtain ⟨⟨mx, c1, c2⟩, c3, c4, c5, c6⟩ := h4 u hu
    have hvu : VA Z u = Z + 7 + 10 * u := rfl
    have hcu := nwA_c Z sw u
    by_cases hui : u ≤ i
    · refine ⟨⟨_, hv4 u hui, fun _ => rfl⟩, ?_, ?_, c5, c6⟩
      · by_cases e : u = i
        · subst e
          exact c3.mv (fun q h h' => (hin u q (Nat.le_refl _) (by omega) (by omega)).trans ((b2 q (by omega)).trans ((hq1 q (by omega)).trans (r1 q (by omega)))))
        · obtain ⟨d1, d2, d3, d4⟩ := r2 u (by omega)
          exact (d4.x (by have := (hA.2.2.2.1 u (by omega)).2.2.2; omega) (hA.2.2.2.1 u (by omega)).2.1).mv (fun q h h' => (hin u q hui (by omega) (by omega)).trans ((b2 q (by omega)).trans (hq1 q (by omega))))
      · by_cases e : u = i
        · subst e
          exact bgX.mv ⟨_, _, f, m, pd, b1, hB3, (hA.2.2.2.1 u hi).2.1⟩ (fun q h h' => hin u q (Nat.le_refl _) (by omega) (by omega))
        · obtain ⟨d1, d2, d3, d4⟩ := r2 u (by omega)
          exact (d3.x (by have := (ok_len hok (show u < i by omega)).1; omega) (hA.2.2.2.1 u (by omega)).2.1).mv (fun q h h' => (hin u q hui (by omega) (by omega)).trans ((b2 q (by omega)).trans (hq1 q (by omega))))
    · exact ⟨⟨mx, (hlow _ (by omega)).trans c1, c2⟩, c3.mv (fun q h h' => hlow q (by omega)), c4.mv (fun q h h' => hlow q (by omega)), c5, c6⟩
  · obtain ⟨c1, c2⟩ := h5 u hu
    have hvu : VA Z u = Z + 7 + 10 * u := rfl
    have hcu := nwA_c Z sw u
    have hou := (h4 u (by omega)).2.2.2.1
    by_cases hui : u ≤ i
    · by_cases e : u = i
      · subst e
        refine ⟨c1.mv (fun q h h' => (hin u q (Nat.le_refl _) (by omega) (by omega)).trans ((b2 q (by omega)).trans ((hq1 q (by omega)).trans (r1 q (by omega))))), c2.mv ?_⟩
        rcases hou with ho | ho
        · exact (hin u _ (Nat.le_refl _) (by omega) (by omega)).trans ((b2 _ (by omega)).trans ((hq1 _ (by omega)).trans (r1 _ (by omega))))
        · exact hlow _ (by omega)
      · obtain ⟨d1, d2, d3, d4⟩ := r2 u (by omega)
        refine ⟨d4.mv (fun q h h' => (hin u q hui (by omega) (by omega)).trans ((b2 q (by omega)).trans (hq1 q (by omega)))), c2.mv ?_⟩
        rcases hou with ho | ho
        · rw [ho]
          exact (hin u _ hui (by omega) (by omega)).trans ((b2 _ (by omega)).trans ((hq1 _ (by omega)).trans d2))
        · exact hlow _ (by omega)
    · exact ⟨c1.mv (fun q h h' => hlow q (by omega)), c2.mv (hlow _ (by omega))⟩
end RNS
