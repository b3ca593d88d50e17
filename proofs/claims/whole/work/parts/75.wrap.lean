/-! The law's wrappers. -/
theorem cl_Law_13 : Cond.classLink "DeltaViewsLaw" 13 (fw_ex 1) ∈ fw_big := fw_mem 186 (by decide +kernel) rfl
theorem ca_1 : Cond.castable (fw_ex 1) (fw_ex 1) ∈ fw_big := fw_mem 195 (by decide +kernel) rfl
theorem cl_Law_15 : Cond.classLink "DeltaViewsLaw" 15 (fw_ex 2) ∈ fw_big := fw_mem 187 (by decide +kernel) rfl
theorem ca_2 : Cond.castable (fw_ex 2) (fw_ex 2) ∈ fw_big := fw_mem 267 (by decide +kernel) rfl
theorem cl_Law_17 : Cond.classLink "DeltaViewsLaw" 17 (fw_ex 3) ∈ fw_big := fw_mem 188 (by decide +kernel) rfl
theorem ca_3 : Cond.castable (fw_ex 3) (fw_ex 3) ∈ fw_big := fw_mem 287 (by decide +kernel) rfl
theorem cl_Law_56 : Cond.classLink "DeltaViewsLaw" 56 (fw_ex 4) ∈ fw_big := fw_mem 685 (by decide +kernel) rfl
theorem ca_4 : Cond.castable (fw_ex 4) (fw_ex 4) ∈ fw_big := fw_mem 695 (by decide +kernel) rfl
theorem CR.off {w w' : Wd} {Z sz : Nat} {a : As} {sw : Nat → Bool} {od : Nat → Nat} (h : CR w Z sz a sw od) (hA : a.1 ≤ 12) (hq : ∀ q, (Z ≤ q ∧ q < Z + 127) ∨ Z + 147 ≤ q → w' q = w q) : CR w' Z sz a sw od := by
  obtain ⟨h1, ⟨fV, h2, h2'⟩, ⟨x, y, z, u, h3, h3'⟩, h4, h5, h6, h7⟩ := h
  refine ⟨(hq _ (by omega)).trans h1, ⟨fV, (hq _ (by omega)).trans h2, h2'⟩, ⟨x, y, z, u, h3.mv (fun q h h' => hq q (by omega)), h3'⟩, fun i hi => ?_, fun i hi => ?_, h6, h7⟩
  · obtain ⟨⟨mx, c1, c2⟩, c3, c4, c5, c6⟩ := h4 i hi
    have hvi : VA Z i = Z + 7 + 10 * i := rfl
    have hci := nwA_c Z sw i
    exact ⟨⟨mx, (hq _ (by omega)).trans c1, c2⟩, c3.mv (fun q h h' => hq q (by omega)), c4.mv (fun q h h' => hq q (by omega)), c5, c6⟩
  · obtain ⟨c1, c2⟩ := h5 i hi
    have hvi : VA Z i = Z + 7 + 10 * i := rfl
    have hci := nwA_c Z sw i
    have hoi := (h4 i (by omega)).2.2.2.1
    exact ⟨c1.mv (fun q h h' => hq q (by omega)), c2.mv (hq _ (by omega))⟩
theorem CRe.off {w w' : Wd} {Z sz : Nat} {a : As} (h : CRe w Z sz a) (hA : a.1 ≤ 12) (hq : ∀ q, (Z ≤ q ∧ q < Z + 127) ∨ Z + 147 ≤ q → w' q = w q) : CRe w' Z sz a := by
  obtain ⟨sw, od, h⟩ := h
  exact ⟨sw, od, h.off hA hq⟩
/-- the end of a wrapper: the code, what the class holds, and the answer in out -/
def WE (w : Wd) (Z sz code : Nat) (v : Int64) (a : As) : Rs → Wd → Nat → Prop := fun r w' sz' => r = .inl (some (.int (nI code))) ∧ sz ≤ sz' ∧ (∀ q, q < Z ∨ (Z + 127 ≤ q ∧ q < Z + 146) → w' q = w q) ∧ CRe w' Z sz' a ∧ ∃ f, w' (Z + 146) = some (cJ 1 f) ∧ (code = 0 → f 0 = v)
section WRR
variable {g : Gl} {d mc ms : Nat} {M : Mi} {w0 : Wd} {sz0 : Nat} {E : Rs → Wd → Nat → Prop} {pc : Nat} {L : List (Nat × Value)} {S : List Value} {w : Wd} {sz nc ns : Nat}
variable {rest A : List Value} {M' : Mi} {d' mc' ms' n idx : Nat}
theorem v_wr {a ci N Z code kind : Nat} {fs : List Value} {T : u_T} {x : Value} {st : As} (hd : decode M.2.1 pc = .ok (.invokevirtual idx, 3)) (hl : fw_lnk M.1.cls idx M'.1) (hm : fw_me M' n) (hi : Cond.instanceMethod M'.1 ∈ fw_big) (hse : Cond.selects M'.1.cls M'.1 M'.1 ∈ fw_big) (hcl : vwCl[ci]? = some (M'.1.cls, T, N)) (ha : w a = some (cO ci fs)) (hA : A.length = n) (hS : S = A.reverse ++ .ref a :: rest) (hc : CT g d' mc' ms' M' (.ref a :: A) w sz (CE w Z sz code kind x st)) (r1 : d' + 1 ≤ d) (r3 : nc + mc' ≤ mc) (r4 : ns + ms' ≤ ms) (hst : (rest.map fun v => v.category).sum ≤ 8)
    (kr : ∀ w' sz', code = 0 → sz ≤ sz' → cl_fr Z w w' → CRe w' Z sz' st → VV g d mc ms M w0 sz0 E (pc + 3) L (x :: rest) w' sz' (nc + mc') (ns + ms'))
    (kt : ∀ w' sz', code ≠ 0 → sz ≤ sz' → cl_fr Z w w' → CRe w' Z sz' st → VT g d mc ms M w0 sz0 E pc L rest w' sz' (nc + mc') (ns + ms') kind) : VV g d mc ms M w0 sz0 E pc L S w sz nc ns := by
  refine v_cv hd hl hm hi hse hcl ha hA hS hc r1 r3 r4 hst (fun v w' sz' h => ?_) (fun k w' sz' h => ?_)
  · obtain ⟨h1, h2, h3, h4⟩ := h
    by_cases h0 : code = 0
    · rw [if_pos h0] at h4
      cases h4
      exact kr w' sz' h0 h1 h2 h3
    · rw [if_neg h0] at h4
      cases h4
  · obtain ⟨h1, h2, h3, h4⟩ := h
    by_cases h0 : code = 0
    · rw [if_pos h0] at h4
      cases h4
    · rw [if_neg h0] at h4
      cases h4
      exact kt w' sz' h0 h1 h2 h3
end WRR
set_option maxRecDepth 100000 in
set_option maxHeartbeats 4000000 in
theorem c_Law_change (g : Gl) {w : Wd} {Z sz code kind : Nat} {x : Int32} {st : As} {f : Nat → Int64} {fs : List Value} (p0 p1 p2 p3 : Int32) (hO : w Z = some (cO 0 fs)) (hout : w (Z + 146) = some (cJ 1 f)) (hst12 : st.1 ≤ 12) (hc : CT g 6 1 6 mi_DV_change [.ref Z, .int p0, .int p1, .int p2, .int p3] w sz (CE w Z sz code kind (.int x) st)) (hm : code ≠ 0 → (kind, code) ∈ ([(1, 1), (2, 2), (3, 3)] : List (Nat × Nat))) : CT g 9 2 10 mi_Law_change [.ref Z, .int p0, .int p1, .int p2, .int p3, .ref (Z + 146)] w sz (WE w Z sz code (x.toInt64) st) := by
  refine CT.of (by decide) (Nat.le_of_ble_eq_true rfl) ?_
  refine v_aload (pc := 0) d_Law_change_0 rfl ?_
  refine v_iconst (pc := 2) (v := nI 0) d_Law_change_2 rfl ?_
  refine v_aload_n (pc := 3) d_Law_change_3 rfl rfl ?_
  refine v_iload_n (pc := 4) d_Law_change_4 rfl rfl ?_
  refine v_iload_n (pc := 5) d_Law_change_5 rfl rfl ?_
  refine v_iload_n (pc := 6) d_Law_change_6 rfl rfl ?_
  refine v_iload (pc := 7) d_Law_change_7 rfl ?_
  refine v_wr (pc := 9) (A := [.int p0, .int p1, .int p2, .int p3]) (rest := [.int (nI 0), .ref (Z + 146)]) d_Law_change_9 lk_Law_7 me_DV_change im_DV_change se_DV_change rfl hO rfl rfl hc (Nat.le_of_ble_eq_true rfl) (Nat.le_of_ble_eq_true rfl) (Nat.le_of_ble_eq_true rfl) (Nat.le_of_ble_eq_true rfl) (fun w1 sz1 h0 hs hf hC1 => ?_) (fun w1 sz1 h0 hs hf hC1 => ?_)
  · skip
    subst h0
    have ho1 := (hf (Z + 146) (by omega)).trans hout
    refine v_i2l (pc := 12) d_Law_change_12 ?_
    refine v_lastW (pc := 13) (k := 0) (f := f) d_Law_change_13 ho1 rfl (by omega) (by decide) (fun w2 hn2 hq2 => ?_)
    refine v_goto (pc := 14) (tgt := 29) d_Law_change_14 rfl ?_
    refine v_iconst (pc := 29) (v := nI 0) d_Law_change_29 rfl ?_
    exact v_iret (pc := 30) d_Law_change_30 rfl (Nat.le_of_ble_eq_true rfl) (Nat.le_of_ble_eq_true rfl) ⟨rfl, hs, fun q hq => (hq2 q (by omega)).trans (hf q (by omega)), hC1.off hst12 (fun q hq => hq2 q (by omega)), ⟨_, hn2, fun _ => by simp [vp_updL]⟩⟩
  · skip
    have ho1 := (hf (Z + 146) (by omega)).trans hout
    have hm9 := hm h0
    simp only [List.mem_cons, Prod.mk.injEq, List.not_mem_nil, or_false] at hm9
    rcases hm9 with ⟨e1, e2⟩ | ⟨e1, e2⟩ | ⟨e1, e2⟩
    · skip
      subst e1
      subst e2
      refine vt_catch (a := 0) (b := 14) (h := 17) (ct := 13) [] [(0, 14, 21, 15), (0, 14, 25, 17)] rfl (fun y hy => by cases hy) ⟨by decide, by decide⟩ (by decide) cl_Law_13 ca_1 (fun x9 => ?_)
      refine v_astore (pc := 17) (L' := [(6, .ref x9), (0, .ref Z), (1, .int p0), (2, .int p1), (3, .int p2), (4, .int p3), (5, .ref (Z + 146))]) d_Law_change_17 (by decide) rfl ?_
      refine v_iconst (pc := 19) (v := nI 1) d_Law_change_19 rfl ?_
      exact v_iret (pc := 20) d_Law_change_20 rfl (Nat.le_of_ble_eq_true rfl) (Nat.le_of_ble_eq_true rfl) ⟨rfl, hs, fun q hq => hf q (by omega), hC1, ⟨f, ho1, fun h => absurd h (by decide)⟩⟩
    · skip
      subst e1
      subst e2
      refine vt_catch (a := 0) (b := 14) (h := 21) (ct := 15) [(0, 14, 17, 13)] [(0, 14, 25, 17)] rfl (fun y hy => by rw [List.mem_singleton] at hy; subst hy; exact ⟨⟨by decide, by decide⟩, by decide, 1, by decide, cl_Law_13⟩) ⟨by decide, by decide⟩ (by decide) cl_Law_15 ca_2 (fun x9 => ?_)
      refine v_astore (pc := 21) (L' := [(6, .ref x9), (0, .ref Z), (1, .int p0), (2, .int p1), (3, .int p2), (4, .int p3), (5, .ref (Z + 146))]) d_Law_change_21 (by decide) rfl ?_
      refine v_iconst (pc := 23) (v := nI 2) d_Law_change_23 rfl ?_
      exact v_iret (pc := 24) d_Law_change_24 rfl (Nat.le_of_ble_eq_true rfl) (Nat.le_of_ble_eq_true rfl) ⟨rfl, hs, fun q hq => hf q (by omega), hC1, ⟨f, ho1, fun h => absurd h (by decide)⟩⟩
    · skip
      subst e1
      subst e2
      refine vt_catch (a := 0) (b := 14) (h := 25) (ct := 17) [(0, 14, 17, 13), (0, 14, 21, 15)] [] rfl (fun y hy => by simp only [List.mem_cons, List.not_mem_nil, or_false] at hy; rcases hy with rfl | rfl; (exact ⟨⟨by decide, by decide⟩, by decide, 1, by decide, cl_Law_13⟩); (exact ⟨⟨by decide, by decide⟩, by decide, 2, by decide, cl_Law_15⟩)) ⟨by decide, by decide⟩ (by decide) cl_Law_17 ca_3 (fun x9 => ?_)
      refine v_astore (pc := 25) (L' := [(6, .ref x9), (0, .ref Z), (1, .int p0), (2, .int p1), (3, .int p2), (4, .int p3), (5, .ref (Z + 146))]) d_Law_change_25 (by decide) rfl ?_
      refine v_iconst (pc := 27) (v := nI 3) d_Law_change_27 rfl ?_
      exact v_iret (pc := 28) d_Law_change_28 rfl (Nat.le_of_ble_eq_true rfl) (Nat.le_of_ble_eq_true rfl) ⟨rfl, hs, fun q hq => hf q (by omega), hC1, ⟨f, ho1, fun h => absurd h (by decide)⟩⟩
set_option maxRecDepth 100000 in
set_option maxHeartbeats 4000000 in
theorem c_Law_commit (g : Gl) {w : Wd} {Z sz code kind : Nat} {x : Int32} {st : As} {f : Nat → Int64} {fs : List Value} (hO : w Z = some (cO 0 fs)) (hout : w (Z + 146) = some (cJ 1 f)) (hst12 : st.1 ≤ 12) (hc : CT g 8 1 6 mi_DV_commit [.ref Z] w sz (CE w Z sz code kind (.int x) st)) (hm : code ≠ 0 → (kind, code) ∈ ([(3, 1)] : List (Nat × Nat))) : CT g 9 2 10 mi_Law_commit [.ref Z, .ref (Z + 146)] w sz (WE w Z sz code (x.toInt64) st) := by
  refine CT.of (by decide) (Nat.le_of_ble_eq_true rfl) ?_
  refine v_aload_n (pc := 0) d_Law_commit_0 rfl rfl ?_
  refine v_iconst (pc := 1) (v := nI 0) d_Law_commit_1 rfl ?_
  refine v_aload_n (pc := 2) d_Law_commit_2 rfl rfl ?_
  refine v_wr (pc := 3) (A := []) (rest := [.int (nI 0), .ref (Z + 146)]) d_Law_commit_3 lk_Law_19 me_DV_commit im_DV_commit se_DV_commit rfl hO rfl rfl hc (Nat.le_of_ble_eq_true rfl) (Nat.le_of_ble_eq_true rfl) (Nat.le_of_ble_eq_true rfl) (Nat.le_of_ble_eq_true rfl) (fun w1 sz1 h0 hs hf hC1 => ?_) (fun w1 sz1 h0 hs hf hC1 => ?_)
  · skip
    subst h0
    have ho1 := (hf (Z + 146) (by omega)).trans hout
    refine v_i2l (pc := 6) d_Law_commit_6 ?_
    refine v_lastW (pc := 7) (k := 0) (f := f) d_Law_commit_7 ho1 rfl (by omega) (by decide) (fun w2 hn2 hq2 => ?_)
    refine v_goto (pc := 8) (tgt := 14) d_Law_commit_8 rfl ?_
    refine v_iconst (pc := 14) (v := nI 0) d_Law_commit_14 rfl ?_
    exact v_iret (pc := 15) d_Law_commit_15 rfl (Nat.le_of_ble_eq_true rfl) (Nat.le_of_ble_eq_true rfl) ⟨rfl, hs, fun q hq => (hq2 q (by omega)).trans (hf q (by omega)), hC1.off hst12 (fun q hq => hq2 q (by omega)), ⟨_, hn2, fun _ => by simp [vp_updL]⟩⟩
  · skip
    have ho1 := (hf (Z + 146) (by omega)).trans hout
    have hm9 := hm h0
    simp only [List.mem_cons, Prod.mk.injEq, List.not_mem_nil, or_false] at hm9
    obtain ⟨e1, e2⟩ := hm9
    subst e1
    subst e2
    refine vt_catch (a := 0) (b := 8) (h := 11) (ct := 17) [] [] rfl (fun y hy => by cases hy) ⟨by decide, by decide⟩ (by decide) cl_Law_17 ca_3 (fun x9 => ?_)
    refine v_astore_n (pc := 11) (L' := [(2, .ref x9), (0, .ref Z), (1, .ref (Z + 146))]) d_Law_commit_11 rfl (by decide) rfl ?_
    refine v_iconst (pc := 12) (v := nI 1) d_Law_commit_12 rfl ?_
    exact v_iret (pc := 13) d_Law_commit_13 rfl (Nat.le_of_ble_eq_true rfl) (Nat.le_of_ble_eq_true rfl) ⟨rfl, hs, fun q hq => hf q (by omega), hC1, ⟨f, ho1, fun h => absurd h (by decide)⟩⟩
set_option maxRecDepth 100000 in
set_option maxHeartbeats 4000000 in
theorem c_Law_select (g : Gl) {w : Wd} {Z sz code kind : Nat} {x : Int32} {st : As} {f : Nat → Int64} {fs : List Value} (p0 p1 p2 p3 : Int32) (hO : w Z = some (cO 0 fs)) (hout : w (Z + 146) = some (cJ 1 f)) (hst12 : st.1 ≤ 12) (hc : CT g 8 2 10 mi_DV_select [.ref Z, .int p0, .int p1, .int p2, .int p3] w sz (CE w Z sz code kind (.int x) st)) (hm : code ≠ 0 → (kind, code) ∈ ([(1, 1), (2, 2), (3, 3)] : List (Nat × Nat))) : CT g 9 2 10 mi_Law_select [.ref Z, .int p0, .int p1, .int p2, .int p3, .ref (Z + 146)] w sz (WE w Z sz code (x.toInt64) st) := by
  refine CT.of (by decide) (Nat.le_of_ble_eq_true rfl) ?_
  refine v_aload (pc := 0) d_Law_select_0 rfl ?_
  refine v_iconst (pc := 2) (v := nI 0) d_Law_select_2 rfl ?_
  refine v_aload_n (pc := 3) d_Law_select_3 rfl rfl ?_
  refine v_iload_n (pc := 4) d_Law_select_4 rfl rfl ?_
  refine v_iload_n (pc := 5) d_Law_select_5 rfl rfl ?_
  refine v_iload_n (pc := 6) d_Law_select_6 rfl rfl ?_
  refine v_iload (pc := 7) d_Law_select_7 rfl ?_
  refine v_wr (pc := 9) (A := [.int p0, .int p1, .int p2, .int p3]) (rest := [.int (nI 0), .ref (Z + 146)]) d_Law_select_9 lk_Law_23 me_DV_select im_DV_select se_DV_select rfl hO rfl rfl hc (Nat.le_of_ble_eq_true rfl) (Nat.le_of_ble_eq_true rfl) (Nat.le_of_ble_eq_true rfl) (Nat.le_of_ble_eq_true rfl) (fun w1 sz1 h0 hs hf hC1 => ?_) (fun w1 sz1 h0 hs hf hC1 => ?_)
  · skip
    subst h0
    have ho1 := (hf (Z + 146) (by omega)).trans hout
    refine v_i2l (pc := 12) d_Law_select_12 ?_
    refine v_lastW (pc := 13) (k := 0) (f := f) d_Law_select_13 ho1 rfl (by omega) (by decide) (fun w2 hn2 hq2 => ?_)
    refine v_goto (pc := 14) (tgt := 29) d_Law_select_14 rfl ?_
    refine v_iconst (pc := 29) (v := nI 0) d_Law_select_29 rfl ?_
    exact v_iret (pc := 30) d_Law_select_30 rfl (Nat.le_of_ble_eq_true rfl) (Nat.le_of_ble_eq_true rfl) ⟨rfl, hs, fun q hq => (hq2 q (by omega)).trans (hf q (by omega)), hC1.off hst12 (fun q hq => hq2 q (by omega)), ⟨_, hn2, fun _ => by simp [vp_updL]⟩⟩
  · skip
    have ho1 := (hf (Z + 146) (by omega)).trans hout
    have hm9 := hm h0
    simp only [List.mem_cons, Prod.mk.injEq, List.not_mem_nil, or_false] at hm9
    rcases hm9 with ⟨e1, e2⟩ | ⟨e1, e2⟩ | ⟨e1, e2⟩
    · skip
      subst e1
      subst e2
      refine vt_catch (a := 0) (b := 14) (h := 17) (ct := 13) [] [(0, 14, 21, 15), (0, 14, 25, 17)] rfl (fun y hy => by cases hy) ⟨by decide, by decide⟩ (by decide) cl_Law_13 ca_1 (fun x9 => ?_)
      refine v_astore (pc := 17) (L' := [(6, .ref x9), (0, .ref Z), (1, .int p0), (2, .int p1), (3, .int p2), (4, .int p3), (5, .ref (Z + 146))]) d_Law_select_17 (by decide) rfl ?_
      refine v_iconst (pc := 19) (v := nI 1) d_Law_select_19 rfl ?_
      exact v_iret (pc := 20) d_Law_select_20 rfl (Nat.le_of_ble_eq_true rfl) (Nat.le_of_ble_eq_true rfl) ⟨rfl, hs, fun q hq => hf q (by omega), hC1, ⟨f, ho1, fun h => absurd h (by decide)⟩⟩
    · skip
      subst e1
      subst e2
      refine vt_catch (a := 0) (b := 14) (h := 21) (ct := 15) [(0, 14, 17, 13)] [(0, 14, 25, 17)] rfl (fun y hy => by rw [List.mem_singleton] at hy; subst hy; exact ⟨⟨by decide, by decide⟩, by decide, 1, by decide, cl_Law_13⟩) ⟨by decide, by decide⟩ (by decide) cl_Law_15 ca_2 (fun x9 => ?_)
      refine v_astore (pc := 21) (L' := [(6, .ref x9), (0, .ref Z), (1, .int p0), (2, .int p1), (3, .int p2), (4, .int p3), (5, .ref (Z + 146))]) d_Law_select_21 (by decide) rfl ?_
      refine v_iconst (pc := 23) (v := nI 2) d_Law_select_23 rfl ?_
      exact v_iret (pc := 24) d_Law_select_24 rfl (Nat.le_of_ble_eq_true rfl) (Nat.le_of_ble_eq_true rfl) ⟨rfl, hs, fun q hq => hf q (by omega), hC1, ⟨f, ho1, fun h => absurd h (by decide)⟩⟩
    · skip
      subst e1
      subst e2
      refine vt_catch (a := 0) (b := 14) (h := 25) (ct := 17) [(0, 14, 17, 13), (0, 14, 21, 15)] [] rfl (fun y hy => by simp only [List.mem_cons, List.not_mem_nil, or_false] at hy; rcases hy with rfl | rfl; (exact ⟨⟨by decide, by decide⟩, by decide, 1, by decide, cl_Law_13⟩); (exact ⟨⟨by decide, by decide⟩, by decide, 2, by decide, cl_Law_15⟩)) ⟨by decide, by decide⟩ (by decide) cl_Law_17 ca_3 (fun x9 => ?_)
      refine v_astore (pc := 25) (L' := [(6, .ref x9), (0, .ref Z), (1, .int p0), (2, .int p1), (3, .int p2), (4, .int p3), (5, .ref (Z + 146))]) d_Law_select_25 (by decide) rfl ?_
      refine v_iconst (pc := 27) (v := nI 3) d_Law_select_27 rfl ?_
      exact v_iret (pc := 28) d_Law_select_28 rfl (Nat.le_of_ble_eq_true rfl) (Nat.le_of_ble_eq_true rfl) ⟨rfl, hs, fun q hq => hf q (by omega), hC1, ⟨f, ho1, fun h => absurd h (by decide)⟩⟩
set_option maxRecDepth 100000 in
set_option maxHeartbeats 4000000 in
theorem c_Law_project (g : Gl) {w : Wd} {Z sz code kind : Nat} {x : Int32} {st : As} {f : Nat → Int64} {fs : List Value} (p0 p1 p2 : Int32) (hO : w Z = some (cO 0 fs)) (hout : w (Z + 146) = some (cJ 1 f)) (hst12 : st.1 ≤ 12) (hc : CT g 8 2 10 mi_DV_project [.ref Z, .int p0, .int p1, .int p2] w sz (CE w Z sz code kind (.int x) st)) (hm : code ≠ 0 → (kind, code) ∈ ([(1, 1), (2, 2), (3, 3)] : List (Nat × Nat))) : CT g 9 2 10 mi_Law_project [.ref Z, .int p0, .int p1, .int p2, .ref (Z + 146)] w sz (WE w Z sz code (x.toInt64) st) := by
  refine CT.of (by decide) (Nat.le_of_ble_eq_true rfl) ?_
  refine v_aload (pc := 0) d_Law_project_0 rfl ?_
  refine v_iconst (pc := 2) (v := nI 0) d_Law_project_2 rfl ?_
  refine v_aload_n (pc := 3) d_Law_project_3 rfl rfl ?_
  refine v_iload_n (pc := 4) d_Law_project_4 rfl rfl ?_
  refine v_iload_n (pc := 5) d_Law_project_5 rfl rfl ?_
  refine v_iload_n (pc := 6) d_Law_project_6 rfl rfl ?_
  refine v_wr (pc := 7) (A := [.int p0, .int p1, .int p2]) (rest := [.int (nI 0), .ref (Z + 146)]) d_Law_project_7 lk_Law_26 me_DV_project im_DV_project se_DV_project rfl hO rfl rfl hc (Nat.le_of_ble_eq_true rfl) (Nat.le_of_ble_eq_true rfl) (Nat.le_of_ble_eq_true rfl) (Nat.le_of_ble_eq_true rfl) (fun w1 sz1 h0 hs hf hC1 => ?_) (fun w1 sz1 h0 hs hf hC1 => ?_)
  · skip
    subst h0
    have ho1 := (hf (Z + 146) (by omega)).trans hout
    refine v_i2l (pc := 10) d_Law_project_10 ?_
    refine v_lastW (pc := 11) (k := 0) (f := f) d_Law_project_11 ho1 rfl (by omega) (by decide) (fun w2 hn2 hq2 => ?_)
    refine v_goto (pc := 12) (tgt := 27) d_Law_project_12 rfl ?_
    refine v_iconst (pc := 27) (v := nI 0) d_Law_project_27 rfl ?_
    exact v_iret (pc := 28) d_Law_project_28 rfl (Nat.le_of_ble_eq_true rfl) (Nat.le_of_ble_eq_true rfl) ⟨rfl, hs, fun q hq => (hq2 q (by omega)).trans (hf q (by omega)), hC1.off hst12 (fun q hq => hq2 q (by omega)), ⟨_, hn2, fun _ => by simp [vp_updL]⟩⟩
  · skip
    have ho1 := (hf (Z + 146) (by omega)).trans hout
    have hm9 := hm h0
    simp only [List.mem_cons, Prod.mk.injEq, List.not_mem_nil, or_false] at hm9
    rcases hm9 with ⟨e1, e2⟩ | ⟨e1, e2⟩ | ⟨e1, e2⟩
    · skip
      subst e1
      subst e2
      refine vt_catch (a := 0) (b := 12) (h := 15) (ct := 13) [] [(0, 12, 19, 15), (0, 12, 23, 17)] rfl (fun y hy => by cases hy) ⟨by decide, by decide⟩ (by decide) cl_Law_13 ca_1 (fun x9 => ?_)
      refine v_astore (pc := 15) (L' := [(5, .ref x9), (0, .ref Z), (1, .int p0), (2, .int p1), (3, .int p2), (4, .ref (Z + 146))]) d_Law_project_15 (by decide) rfl ?_
      refine v_iconst (pc := 17) (v := nI 1) d_Law_project_17 rfl ?_
      exact v_iret (pc := 18) d_Law_project_18 rfl (Nat.le_of_ble_eq_true rfl) (Nat.le_of_ble_eq_true rfl) ⟨rfl, hs, fun q hq => hf q (by omega), hC1, ⟨f, ho1, fun h => absurd h (by decide)⟩⟩
    · skip
      subst e1
      subst e2
      refine vt_catch (a := 0) (b := 12) (h := 19) (ct := 15) [(0, 12, 15, 13)] [(0, 12, 23, 17)] rfl (fun y hy => by rw [List.mem_singleton] at hy; subst hy; exact ⟨⟨by decide, by decide⟩, by decide, 1, by decide, cl_Law_13⟩) ⟨by decide, by decide⟩ (by decide) cl_Law_15 ca_2 (fun x9 => ?_)
      refine v_astore (pc := 19) (L' := [(5, .ref x9), (0, .ref Z), (1, .int p0), (2, .int p1), (3, .int p2), (4, .ref (Z + 146))]) d_Law_project_19 (by decide) rfl ?_
      refine v_iconst (pc := 21) (v := nI 2) d_Law_project_21 rfl ?_
      exact v_iret (pc := 22) d_Law_project_22 rfl (Nat.le_of_ble_eq_true rfl) (Nat.le_of_ble_eq_true rfl) ⟨rfl, hs, fun q hq => hf q (by omega), hC1, ⟨f, ho1, fun h => absurd h (by decide)⟩⟩
    · skip
      subst e1
      subst e2
      refine vt_catch (a := 0) (b := 12) (h := 23) (ct := 17) [(0, 12, 15, 13), (0, 12, 19, 15)] [] rfl (fun y hy => by simp only [List.mem_cons, List.not_mem_nil, or_false] at hy; rcases hy with rfl | rfl; (exact ⟨⟨by decide, by decide⟩, by decide, 1, by decide, cl_Law_13⟩); (exact ⟨⟨by decide, by decide⟩, by decide, 2, by decide, cl_Law_15⟩)) ⟨by decide, by decide⟩ (by decide) cl_Law_17 ca_3 (fun x9 => ?_)
      refine v_astore (pc := 23) (L' := [(5, .ref x9), (0, .ref Z), (1, .int p0), (2, .int p1), (3, .int p2), (4, .ref (Z + 146))]) d_Law_project_23 (by decide) rfl ?_
      refine v_iconst (pc := 25) (v := nI 3) d_Law_project_25 rfl ?_
      exact v_iret (pc := 26) d_Law_project_26 rfl (Nat.le_of_ble_eq_true rfl) (Nat.le_of_ble_eq_true rfl) ⟨rfl, hs, fun q hq => hf q (by omega), hC1, ⟨f, ho1, fun h => absurd h (by decide)⟩⟩
set_option maxRecDepth 100000 in
set_option maxHeartbeats 4000000 in
theorem c_Law_join (g : Gl) {w : Wd} {Z sz code kind : Nat} {x : Int32} {st : As} {f : Nat → Int64} {fs : List Value} (p0 p1 p2 p3 : Int32) (hO : w Z = some (cO 0 fs)) (hout : w (Z + 146) = some (cJ 1 f)) (hst12 : st.1 ≤ 12) (hc : CT g 8 2 10 mi_DV_join [.ref Z, .int p0, .int p1, .int p2, .int p3] w sz (CE w Z sz code kind (.int x) st)) (hm : code ≠ 0 → (kind, code) ∈ ([(1, 1), (2, 2), (3, 3)] : List (Nat × Nat))) : CT g 9 2 10 mi_Law_join [.ref Z, .int p0, .int p1, .int p2, .int p3, .ref (Z + 146)] w sz (WE w Z sz code (x.toInt64) st) := by
  refine CT.of (by decide) (Nat.le_of_ble_eq_true rfl) ?_
  refine v_aload (pc := 0) d_Law_join_0 rfl ?_
  refine v_iconst (pc := 2) (v := nI 0) d_Law_join_2 rfl ?_
  refine v_aload_n (pc := 3) d_Law_join_3 rfl rfl ?_
  refine v_iload_n (pc := 4) d_Law_join_4 rfl rfl ?_
  refine v_iload_n (pc := 5) d_Law_join_5 rfl rfl ?_
  refine v_iload_n (pc := 6) d_Law_join_6 rfl rfl ?_
  refine v_iload (pc := 7) d_Law_join_7 rfl ?_
  refine v_wr (pc := 9) (A := [.int p0, .int p1, .int p2, .int p3]) (rest := [.int (nI 0), .ref (Z + 146)]) d_Law_join_9 lk_Law_30 me_DV_join im_DV_join se_DV_join rfl hO rfl rfl hc (Nat.le_of_ble_eq_true rfl) (Nat.le_of_ble_eq_true rfl) (Nat.le_of_ble_eq_true rfl) (Nat.le_of_ble_eq_true rfl) (fun w1 sz1 h0 hs hf hC1 => ?_) (fun w1 sz1 h0 hs hf hC1 => ?_)
  · skip
    subst h0
    have ho1 := (hf (Z + 146) (by omega)).trans hout
    refine v_i2l (pc := 12) d_Law_join_12 ?_
    refine v_lastW (pc := 13) (k := 0) (f := f) d_Law_join_13 ho1 rfl (by omega) (by decide) (fun w2 hn2 hq2 => ?_)
    refine v_goto (pc := 14) (tgt := 29) d_Law_join_14 rfl ?_
    refine v_iconst (pc := 29) (v := nI 0) d_Law_join_29 rfl ?_
    exact v_iret (pc := 30) d_Law_join_30 rfl (Nat.le_of_ble_eq_true rfl) (Nat.le_of_ble_eq_true rfl) ⟨rfl, hs, fun q hq => (hq2 q (by omega)).trans (hf q (by omega)), hC1.off hst12 (fun q hq => hq2 q (by omega)), ⟨_, hn2, fun _ => by simp [vp_updL]⟩⟩
  · skip
    have ho1 := (hf (Z + 146) (by omega)).trans hout
    have hm9 := hm h0
    simp only [List.mem_cons, Prod.mk.injEq, List.not_mem_nil, or_false] at hm9
    rcases hm9 with ⟨e1, e2⟩ | ⟨e1, e2⟩ | ⟨e1, e2⟩
    · skip
      subst e1
      subst e2
      refine vt_catch (a := 0) (b := 14) (h := 17) (ct := 13) [] [(0, 14, 21, 15), (0, 14, 25, 17)] rfl (fun y hy => by cases hy) ⟨by decide, by decide⟩ (by decide) cl_Law_13 ca_1 (fun x9 => ?_)
      refine v_astore (pc := 17) (L' := [(6, .ref x9), (0, .ref Z), (1, .int p0), (2, .int p1), (3, .int p2), (4, .int p3), (5, .ref (Z + 146))]) d_Law_join_17 (by decide) rfl ?_
      refine v_iconst (pc := 19) (v := nI 1) d_Law_join_19 rfl ?_
      exact v_iret (pc := 20) d_Law_join_20 rfl (Nat.le_of_ble_eq_true rfl) (Nat.le_of_ble_eq_true rfl) ⟨rfl, hs, fun q hq => hf q (by omega), hC1, ⟨f, ho1, fun h => absurd h (by decide)⟩⟩
    · skip
      subst e1
      subst e2
      refine vt_catch (a := 0) (b := 14) (h := 21) (ct := 15) [(0, 14, 17, 13)] [(0, 14, 25, 17)] rfl (fun y hy => by rw [List.mem_singleton] at hy; subst hy; exact ⟨⟨by decide, by decide⟩, by decide, 1, by decide, cl_Law_13⟩) ⟨by decide, by decide⟩ (by decide) cl_Law_15 ca_2 (fun x9 => ?_)
      refine v_astore (pc := 21) (L' := [(6, .ref x9), (0, .ref Z), (1, .int p0), (2, .int p1), (3, .int p2), (4, .int p3), (5, .ref (Z + 146))]) d_Law_join_21 (by decide) rfl ?_
      refine v_iconst (pc := 23) (v := nI 2) d_Law_join_23 rfl ?_
      exact v_iret (pc := 24) d_Law_join_24 rfl (Nat.le_of_ble_eq_true rfl) (Nat.le_of_ble_eq_true rfl) ⟨rfl, hs, fun q hq => hf q (by omega), hC1, ⟨f, ho1, fun h => absurd h (by decide)⟩⟩
    · skip
      subst e1
      subst e2
      refine vt_catch (a := 0) (b := 14) (h := 25) (ct := 17) [(0, 14, 17, 13), (0, 14, 21, 15)] [] rfl (fun y hy => by simp only [List.mem_cons, List.not_mem_nil, or_false] at hy; rcases hy with rfl | rfl; (exact ⟨⟨by decide, by decide⟩, by decide, 1, by decide, cl_Law_13⟩); (exact ⟨⟨by decide, by decide⟩, by decide, 2, by decide, cl_Law_15⟩)) ⟨by decide, by decide⟩ (by decide) cl_Law_17 ca_3 (fun x9 => ?_)
      refine v_astore (pc := 25) (L' := [(6, .ref x9), (0, .ref Z), (1, .int p0), (2, .int p1), (3, .int p2), (4, .int p3), (5, .ref (Z + 146))]) d_Law_join_25 (by decide) rfl ?_
      refine v_iconst (pc := 27) (v := nI 3) d_Law_join_27 rfl ?_
      exact v_iret (pc := 28) d_Law_join_28 rfl (Nat.le_of_ble_eq_true rfl) (Nat.le_of_ble_eq_true rfl) ⟨rfl, hs, fun q hq => hf q (by omega), hC1, ⟨f, ho1, fun h => absurd h (by decide)⟩⟩
set_option maxRecDepth 100000 in
set_option maxHeartbeats 4000000 in
theorem c_Law_union (g : Gl) {w : Wd} {Z sz code kind : Nat} {x : Int32} {st : As} {f : Nat → Int64} {fs : List Value} (p0 p1 : Int32) (hO : w Z = some (cO 0 fs)) (hout : w (Z + 146) = some (cJ 1 f)) (hst12 : st.1 ≤ 12) (hc : CT g 8 2 10 mi_DV_union [.ref Z, .int p0, .int p1] w sz (CE w Z sz code kind (.int x) st)) (hm : code ≠ 0 → (kind, code) ∈ ([(1, 1), (2, 2), (3, 3)] : List (Nat × Nat))) : CT g 9 2 10 mi_Law_union [.ref Z, .int p0, .int p1, .ref (Z + 146)] w sz (WE w Z sz code (x.toInt64) st) := by
  refine CT.of (by decide) (Nat.le_of_ble_eq_true rfl) ?_
  refine v_aload_n (pc := 0) d_Law_union_0 rfl rfl ?_
  refine v_iconst (pc := 1) (v := nI 0) d_Law_union_1 rfl ?_
  refine v_aload_n (pc := 2) d_Law_union_2 rfl rfl ?_
  refine v_iload_n (pc := 3) d_Law_union_3 rfl rfl ?_
  refine v_iload_n (pc := 4) d_Law_union_4 rfl rfl ?_
  refine v_wr (pc := 5) (A := [.int p0, .int p1]) (rest := [.int (nI 0), .ref (Z + 146)]) d_Law_union_5 lk_Law_33 me_DV_union im_DV_union se_DV_union rfl hO rfl rfl hc (Nat.le_of_ble_eq_true rfl) (Nat.le_of_ble_eq_true rfl) (Nat.le_of_ble_eq_true rfl) (Nat.le_of_ble_eq_true rfl) (fun w1 sz1 h0 hs hf hC1 => ?_) (fun w1 sz1 h0 hs hf hC1 => ?_)
  · skip
    subst h0
    have ho1 := (hf (Z + 146) (by omega)).trans hout
    refine v_i2l (pc := 8) d_Law_union_8 ?_
    refine v_lastW (pc := 9) (k := 0) (f := f) d_Law_union_9 ho1 rfl (by omega) (by decide) (fun w2 hn2 hq2 => ?_)
    refine v_goto (pc := 10) (tgt := 25) d_Law_union_10 rfl ?_
    refine v_iconst (pc := 25) (v := nI 0) d_Law_union_25 rfl ?_
    exact v_iret (pc := 26) d_Law_union_26 rfl (Nat.le_of_ble_eq_true rfl) (Nat.le_of_ble_eq_true rfl) ⟨rfl, hs, fun q hq => (hq2 q (by omega)).trans (hf q (by omega)), hC1.off hst12 (fun q hq => hq2 q (by omega)), ⟨_, hn2, fun _ => by simp [vp_updL]⟩⟩
  · skip
    have ho1 := (hf (Z + 146) (by omega)).trans hout
    have hm9 := hm h0
    simp only [List.mem_cons, Prod.mk.injEq, List.not_mem_nil, or_false] at hm9
    rcases hm9 with ⟨e1, e2⟩ | ⟨e1, e2⟩ | ⟨e1, e2⟩
    · skip
      subst e1
      subst e2
      refine vt_catch (a := 0) (b := 10) (h := 13) (ct := 13) [] [(0, 10, 17, 15), (0, 10, 21, 17)] rfl (fun y hy => by cases hy) ⟨by decide, by decide⟩ (by decide) cl_Law_13 ca_1 (fun x9 => ?_)
      refine v_astore (pc := 13) (L' := [(4, .ref x9), (0, .ref Z), (1, .int p0), (2, .int p1), (3, .ref (Z + 146))]) d_Law_union_13 (by decide) rfl ?_
      refine v_iconst (pc := 15) (v := nI 1) d_Law_union_15 rfl ?_
      exact v_iret (pc := 16) d_Law_union_16 rfl (Nat.le_of_ble_eq_true rfl) (Nat.le_of_ble_eq_true rfl) ⟨rfl, hs, fun q hq => hf q (by omega), hC1, ⟨f, ho1, fun h => absurd h (by decide)⟩⟩
    · skip
      subst e1
      subst e2
      refine vt_catch (a := 0) (b := 10) (h := 17) (ct := 15) [(0, 10, 13, 13)] [(0, 10, 21, 17)] rfl (fun y hy => by rw [List.mem_singleton] at hy; subst hy; exact ⟨⟨by decide, by decide⟩, by decide, 1, by decide, cl_Law_13⟩) ⟨by decide, by decide⟩ (by decide) cl_Law_15 ca_2 (fun x9 => ?_)
      refine v_astore (pc := 17) (L' := [(4, .ref x9), (0, .ref Z), (1, .int p0), (2, .int p1), (3, .ref (Z + 146))]) d_Law_union_17 (by decide) rfl ?_
      refine v_iconst (pc := 19) (v := nI 2) d_Law_union_19 rfl ?_
      exact v_iret (pc := 20) d_Law_union_20 rfl (Nat.le_of_ble_eq_true rfl) (Nat.le_of_ble_eq_true rfl) ⟨rfl, hs, fun q hq => hf q (by omega), hC1, ⟨f, ho1, fun h => absurd h (by decide)⟩⟩
    · skip
      subst e1
      subst e2
      refine vt_catch (a := 0) (b := 10) (h := 21) (ct := 17) [(0, 10, 13, 13), (0, 10, 17, 15)] [] rfl (fun y hy => by simp only [List.mem_cons, List.not_mem_nil, or_false] at hy; rcases hy with rfl | rfl; (exact ⟨⟨by decide, by decide⟩, by decide, 1, by decide, cl_Law_13⟩); (exact ⟨⟨by decide, by decide⟩, by decide, 2, by decide, cl_Law_15⟩)) ⟨by decide, by decide⟩ (by decide) cl_Law_17 ca_3 (fun x9 => ?_)
      refine v_astore (pc := 21) (L' := [(4, .ref x9), (0, .ref Z), (1, .int p0), (2, .int p1), (3, .ref (Z + 146))]) d_Law_union_21 (by decide) rfl ?_
      refine v_iconst (pc := 23) (v := nI 3) d_Law_union_23 rfl ?_
      exact v_iret (pc := 24) d_Law_union_24 rfl (Nat.le_of_ble_eq_true rfl) (Nat.le_of_ble_eq_true rfl) ⟨rfl, hs, fun q hq => hf q (by omega), hC1, ⟨f, ho1, fun h => absurd h (by decide)⟩⟩
set_option maxRecDepth 100000 in
set_option maxHeartbeats 4000000 in
theorem c_Law_group (g : Gl) {w : Wd} {Z sz code kind : Nat} {x : Int32} {st : As} {f : Nat → Int64} {fs : List Value} (p0 p1 p2 p3 : Int32) (hO : w Z = some (cO 0 fs)) (hout : w (Z + 146) = some (cJ 1 f)) (hst12 : st.1 ≤ 12) (hc : CT g 8 2 10 mi_DV_group [.ref Z, .int p0, .int p1, .int p2, .int p3] w sz (CE w Z sz code kind (.int x) st)) (hm : code ≠ 0 → (kind, code) ∈ ([(1, 1), (2, 2), (3, 3)] : List (Nat × Nat))) : CT g 9 2 10 mi_Law_group [.ref Z, .int p0, .int p1, .int p2, .int p3, .ref (Z + 146)] w sz (WE w Z sz code (x.toInt64) st) := by
  refine CT.of (by decide) (Nat.le_of_ble_eq_true rfl) ?_
  refine v_aload (pc := 0) d_Law_group_0 rfl ?_
  refine v_iconst (pc := 2) (v := nI 0) d_Law_group_2 rfl ?_
  refine v_aload_n (pc := 3) d_Law_group_3 rfl rfl ?_
  refine v_iload_n (pc := 4) d_Law_group_4 rfl rfl ?_
  refine v_iload_n (pc := 5) d_Law_group_5 rfl rfl ?_
  refine v_iload_n (pc := 6) d_Law_group_6 rfl rfl ?_
  refine v_iload (pc := 7) d_Law_group_7 rfl ?_
  refine v_wr (pc := 9) (A := [.int p0, .int p1, .int p2, .int p3]) (rest := [.int (nI 0), .ref (Z + 146)]) d_Law_group_9 lk_Law_37 me_DV_group im_DV_group se_DV_group rfl hO rfl rfl hc (Nat.le_of_ble_eq_true rfl) (Nat.le_of_ble_eq_true rfl) (Nat.le_of_ble_eq_true rfl) (Nat.le_of_ble_eq_true rfl) (fun w1 sz1 h0 hs hf hC1 => ?_) (fun w1 sz1 h0 hs hf hC1 => ?_)
  · skip
    subst h0
    have ho1 := (hf (Z + 146) (by omega)).trans hout
    refine v_i2l (pc := 12) d_Law_group_12 ?_
    refine v_lastW (pc := 13) (k := 0) (f := f) d_Law_group_13 ho1 rfl (by omega) (by decide) (fun w2 hn2 hq2 => ?_)
    refine v_goto (pc := 14) (tgt := 29) d_Law_group_14 rfl ?_
    refine v_iconst (pc := 29) (v := nI 0) d_Law_group_29 rfl ?_
    exact v_iret (pc := 30) d_Law_group_30 rfl (Nat.le_of_ble_eq_true rfl) (Nat.le_of_ble_eq_true rfl) ⟨rfl, hs, fun q hq => (hq2 q (by omega)).trans (hf q (by omega)), hC1.off hst12 (fun q hq => hq2 q (by omega)), ⟨_, hn2, fun _ => by simp [vp_updL]⟩⟩
  · skip
    have ho1 := (hf (Z + 146) (by omega)).trans hout
    have hm9 := hm h0
    simp only [List.mem_cons, Prod.mk.injEq, List.not_mem_nil, or_false] at hm9
    rcases hm9 with ⟨e1, e2⟩ | ⟨e1, e2⟩ | ⟨e1, e2⟩
    · skip
      subst e1
      subst e2
      refine vt_catch (a := 0) (b := 14) (h := 17) (ct := 13) [] [(0, 14, 21, 15), (0, 14, 25, 17)] rfl (fun y hy => by cases hy) ⟨by decide, by decide⟩ (by decide) cl_Law_13 ca_1 (fun x9 => ?_)
      refine v_astore (pc := 17) (L' := [(6, .ref x9), (0, .ref Z), (1, .int p0), (2, .int p1), (3, .int p2), (4, .int p3), (5, .ref (Z + 146))]) d_Law_group_17 (by decide) rfl ?_
      refine v_iconst (pc := 19) (v := nI 1) d_Law_group_19 rfl ?_
      exact v_iret (pc := 20) d_Law_group_20 rfl (Nat.le_of_ble_eq_true rfl) (Nat.le_of_ble_eq_true rfl) ⟨rfl, hs, fun q hq => hf q (by omega), hC1, ⟨f, ho1, fun h => absurd h (by decide)⟩⟩
    · skip
      subst e1
      subst e2
      refine vt_catch (a := 0) (b := 14) (h := 21) (ct := 15) [(0, 14, 17, 13)] [(0, 14, 25, 17)] rfl (fun y hy => by rw [List.mem_singleton] at hy; subst hy; exact ⟨⟨by decide, by decide⟩, by decide, 1, by decide, cl_Law_13⟩) ⟨by decide, by decide⟩ (by decide) cl_Law_15 ca_2 (fun x9 => ?_)
      refine v_astore (pc := 21) (L' := [(6, .ref x9), (0, .ref Z), (1, .int p0), (2, .int p1), (3, .int p2), (4, .int p3), (5, .ref (Z + 146))]) d_Law_group_21 (by decide) rfl ?_
      refine v_iconst (pc := 23) (v := nI 2) d_Law_group_23 rfl ?_
      exact v_iret (pc := 24) d_Law_group_24 rfl (Nat.le_of_ble_eq_true rfl) (Nat.le_of_ble_eq_true rfl) ⟨rfl, hs, fun q hq => hf q (by omega), hC1, ⟨f, ho1, fun h => absurd h (by decide)⟩⟩
    · skip
      subst e1
      subst e2
      refine vt_catch (a := 0) (b := 14) (h := 25) (ct := 17) [(0, 14, 17, 13), (0, 14, 21, 15)] [] rfl (fun y hy => by simp only [List.mem_cons, List.not_mem_nil, or_false] at hy; rcases hy with rfl | rfl; (exact ⟨⟨by decide, by decide⟩, by decide, 1, by decide, cl_Law_13⟩); (exact ⟨⟨by decide, by decide⟩, by decide, 2, by decide, cl_Law_15⟩)) ⟨by decide, by decide⟩ (by decide) cl_Law_17 ca_3 (fun x9 => ?_)
      refine v_astore (pc := 25) (L' := [(6, .ref x9), (0, .ref Z), (1, .int p0), (2, .int p1), (3, .int p2), (4, .int p3), (5, .ref (Z + 146))]) d_Law_group_25 (by decide) rfl ?_
      refine v_iconst (pc := 27) (v := nI 3) d_Law_group_27 rfl ?_
      exact v_iret (pc := 28) d_Law_group_28 rfl (Nat.le_of_ble_eq_true rfl) (Nat.le_of_ble_eq_true rfl) ⟨rfl, hs, fun q hq => hf q (by omega), hC1, ⟨f, ho1, fun h => absurd h (by decide)⟩⟩
set_option maxRecDepth 100000 in
set_option maxHeartbeats 4000000 in
theorem c_Law_distinct (g : Gl) {w : Wd} {Z sz code kind : Nat} {x : Int32} {st : As} {f : Nat → Int64} {fs : List Value} (p0 : Int32) (hO : w Z = some (cO 0 fs)) (hout : w (Z + 146) = some (cJ 1 f)) (hst12 : st.1 ≤ 12) (hc : CT g 8 2 10 mi_DV_distinct [.ref Z, .int p0] w sz (CE w Z sz code kind (.int x) st)) (hm : code ≠ 0 → (kind, code) ∈ ([(1, 1), (3, 2)] : List (Nat × Nat))) : CT g 9 2 10 mi_Law_distinct [.ref Z, .int p0, .ref (Z + 146)] w sz (WE w Z sz code (x.toInt64) st) := by
  refine CT.of (by decide) (Nat.le_of_ble_eq_true rfl) ?_
  refine v_aload_n (pc := 0) d_Law_distinct_0 rfl rfl ?_
  refine v_iconst (pc := 1) (v := nI 0) d_Law_distinct_1 rfl ?_
  refine v_aload_n (pc := 2) d_Law_distinct_2 rfl rfl ?_
  refine v_iload_n (pc := 3) d_Law_distinct_3 rfl rfl ?_
  refine v_wr (pc := 4) (A := [.int p0]) (rest := [.int (nI 0), .ref (Z + 146)]) d_Law_distinct_4 lk_Law_40 me_DV_distinct im_DV_distinct se_DV_distinct rfl hO rfl rfl hc (Nat.le_of_ble_eq_true rfl) (Nat.le_of_ble_eq_true rfl) (Nat.le_of_ble_eq_true rfl) (Nat.le_of_ble_eq_true rfl) (fun w1 sz1 h0 hs hf hC1 => ?_) (fun w1 sz1 h0 hs hf hC1 => ?_)
  · skip
    subst h0
    have ho1 := (hf (Z + 146) (by omega)).trans hout
    refine v_i2l (pc := 7) d_Law_distinct_7 ?_
    refine v_lastW (pc := 8) (k := 0) (f := f) d_Law_distinct_8 ho1 rfl (by omega) (by decide) (fun w2 hn2 hq2 => ?_)
    refine v_goto (pc := 9) (tgt := 18) d_Law_distinct_9 rfl ?_
    refine v_iconst (pc := 18) (v := nI 0) d_Law_distinct_18 rfl ?_
    exact v_iret (pc := 19) d_Law_distinct_19 rfl (Nat.le_of_ble_eq_true rfl) (Nat.le_of_ble_eq_true rfl) ⟨rfl, hs, fun q hq => (hq2 q (by omega)).trans (hf q (by omega)), hC1.off hst12 (fun q hq => hq2 q (by omega)), ⟨_, hn2, fun _ => by simp [vp_updL]⟩⟩
  · skip
    have ho1 := (hf (Z + 146) (by omega)).trans hout
    have hm9 := hm h0
    simp only [List.mem_cons, Prod.mk.injEq, List.not_mem_nil, or_false] at hm9
    rcases hm9 with ⟨e1, e2⟩ | ⟨e1, e2⟩
    · skip
      subst e1
      subst e2
      refine vt_catch (a := 0) (b := 9) (h := 12) (ct := 13) [] [(0, 9, 15, 17)] rfl (fun y hy => by cases hy) ⟨by decide, by decide⟩ (by decide) cl_Law_13 ca_1 (fun x9 => ?_)
      refine v_astore_n (pc := 12) (L' := [(3, .ref x9), (0, .ref Z), (1, .int p0), (2, .ref (Z + 146))]) d_Law_distinct_12 rfl (by decide) rfl ?_
      refine v_iconst (pc := 13) (v := nI 1) d_Law_distinct_13 rfl ?_
      exact v_iret (pc := 14) d_Law_distinct_14 rfl (Nat.le_of_ble_eq_true rfl) (Nat.le_of_ble_eq_true rfl) ⟨rfl, hs, fun q hq => hf q (by omega), hC1, ⟨f, ho1, fun h => absurd h (by decide)⟩⟩
    · skip
      subst e1
      subst e2
      refine vt_catch (a := 0) (b := 9) (h := 15) (ct := 17) [(0, 9, 12, 13)] [] rfl (fun y hy => by rw [List.mem_singleton] at hy; subst hy; exact ⟨⟨by decide, by decide⟩, by decide, 1, by decide, cl_Law_13⟩) ⟨by decide, by decide⟩ (by decide) cl_Law_17 ca_3 (fun x9 => ?_)
      refine v_astore_n (pc := 15) (L' := [(3, .ref x9), (0, .ref Z), (1, .int p0), (2, .ref (Z + 146))]) d_Law_distinct_15 rfl (by decide) rfl ?_
      refine v_iconst (pc := 16) (v := nI 2) d_Law_distinct_16 rfl ?_
      exact v_iret (pc := 17) d_Law_distinct_17 rfl (Nat.le_of_ble_eq_true rfl) (Nat.le_of_ble_eq_true rfl) ⟨rfl, hs, fun q hq => hf q (by omega), hC1, ⟨f, ho1, fun h => absurd h (by decide)⟩⟩
set_option maxRecDepth 100000 in
set_option maxHeartbeats 4000000 in
theorem c_Law_drop (g : Gl) {w : Wd} {Z sz code kind : Nat} {x : Int32} {st : As} {f : Nat → Int64} {fs : List Value} (hO : w Z = some (cO 0 fs)) (hout : w (Z + 146) = some (cJ 1 f)) (hst12 : st.1 ≤ 12) (hc : CT g 6 1 6 mi_DV_drop [.ref Z] w sz (CE w Z sz code kind (.int x) st)) (hm : code ≠ 0 → (kind, code) ∈ ([(3, 1)] : List (Nat × Nat))) : CT g 9 2 10 mi_Law_drop [.ref Z, .ref (Z + 146)] w sz (WE w Z sz code (x.toInt64) st) := by
  refine CT.of (by decide) (Nat.le_of_ble_eq_true rfl) ?_
  refine v_aload_n (pc := 0) d_Law_drop_0 rfl rfl ?_
  refine v_iconst (pc := 1) (v := nI 0) d_Law_drop_1 rfl ?_
  refine v_aload_n (pc := 2) d_Law_drop_2 rfl rfl ?_
  refine v_wr (pc := 3) (A := []) (rest := [.int (nI 0), .ref (Z + 146)]) d_Law_drop_3 lk_Law_44 me_DV_drop im_DV_drop se_DV_drop rfl hO rfl rfl hc (Nat.le_of_ble_eq_true rfl) (Nat.le_of_ble_eq_true rfl) (Nat.le_of_ble_eq_true rfl) (Nat.le_of_ble_eq_true rfl) (fun w1 sz1 h0 hs hf hC1 => ?_) (fun w1 sz1 h0 hs hf hC1 => ?_)
  · skip
    subst h0
    have ho1 := (hf (Z + 146) (by omega)).trans hout
    refine v_i2l (pc := 6) d_Law_drop_6 ?_
    refine v_lastW (pc := 7) (k := 0) (f := f) d_Law_drop_7 ho1 rfl (by omega) (by decide) (fun w2 hn2 hq2 => ?_)
    refine v_goto (pc := 8) (tgt := 14) d_Law_drop_8 rfl ?_
    refine v_iconst (pc := 14) (v := nI 0) d_Law_drop_14 rfl ?_
    exact v_iret (pc := 15) d_Law_drop_15 rfl (Nat.le_of_ble_eq_true rfl) (Nat.le_of_ble_eq_true rfl) ⟨rfl, hs, fun q hq => (hq2 q (by omega)).trans (hf q (by omega)), hC1.off hst12 (fun q hq => hq2 q (by omega)), ⟨_, hn2, fun _ => by simp [vp_updL]⟩⟩
  · skip
    have ho1 := (hf (Z + 146) (by omega)).trans hout
    have hm9 := hm h0
    simp only [List.mem_cons, Prod.mk.injEq, List.not_mem_nil, or_false] at hm9
    obtain ⟨e1, e2⟩ := hm9
    subst e1
    subst e2
    refine vt_catch (a := 0) (b := 8) (h := 11) (ct := 17) [] [] rfl (fun y hy => by cases hy) ⟨by decide, by decide⟩ (by decide) cl_Law_17 ca_3 (fun x9 => ?_)
    refine v_astore_n (pc := 11) (L' := [(2, .ref x9), (0, .ref Z), (1, .ref (Z + 146))]) d_Law_drop_11 rfl (by decide) rfl ?_
    refine v_iconst (pc := 12) (v := nI 1) d_Law_drop_12 rfl ?_
    exact v_iret (pc := 13) d_Law_drop_13 rfl (Nat.le_of_ble_eq_true rfl) (Nat.le_of_ble_eq_true rfl) ⟨rfl, hs, fun q hq => hf q (by omega), hC1, ⟨f, ho1, fun h => absurd h (by decide)⟩⟩
set_option maxRecDepth 100000 in
set_option maxHeartbeats 4000000 in
theorem c_Law_width (g : Gl) {w : Wd} {Z sz code kind : Nat} {x : Int32} {st : As} {f : Nat → Int64} {fs : List Value} (p0 : Int32) (hO : w Z = some (cO 0 fs)) (hout : w (Z + 146) = some (cJ 1 f)) (hst12 : st.1 ≤ 12) (hc : CT g 7 1 6 mi_DV_width [.ref Z, .int p0] w sz (CE w Z sz code kind (.int x) st)) (hm : code ≠ 0 → (kind, code) ∈ ([(1, 1)] : List (Nat × Nat))) : CT g 9 2 10 mi_Law_width [.ref Z, .int p0, .ref (Z + 146)] w sz (WE w Z sz code (x.toInt64) st) := by
  refine CT.of (by decide) (Nat.le_of_ble_eq_true rfl) ?_
  refine v_aload_n (pc := 0) d_Law_width_0 rfl rfl ?_
  refine v_iconst (pc := 1) (v := nI 0) d_Law_width_1 rfl ?_
  refine v_aload_n (pc := 2) d_Law_width_2 rfl rfl ?_
  refine v_iload_n (pc := 3) d_Law_width_3 rfl rfl ?_
  refine v_wr (pc := 4) (A := [.int p0]) (rest := [.int (nI 0), .ref (Z + 146)]) d_Law_width_4 lk_Law_47 me_DV_width im_DV_width se_DV_width rfl hO rfl rfl hc (Nat.le_of_ble_eq_true rfl) (Nat.le_of_ble_eq_true rfl) (Nat.le_of_ble_eq_true rfl) (Nat.le_of_ble_eq_true rfl) (fun w1 sz1 h0 hs hf hC1 => ?_) (fun w1 sz1 h0 hs hf hC1 => ?_)
  · skip
    subst h0
    have ho1 := (hf (Z + 146) (by omega)).trans hout
    refine v_i2l (pc := 7) d_Law_width_7 ?_
    refine v_lastW (pc := 8) (k := 0) (f := f) d_Law_width_8 ho1 rfl (by omega) (by decide) (fun w2 hn2 hq2 => ?_)
    refine v_goto (pc := 9) (tgt := 15) d_Law_width_9 rfl ?_
    refine v_iconst (pc := 15) (v := nI 0) d_Law_width_15 rfl ?_
    exact v_iret (pc := 16) d_Law_width_16 rfl (Nat.le_of_ble_eq_true rfl) (Nat.le_of_ble_eq_true rfl) ⟨rfl, hs, fun q hq => (hq2 q (by omega)).trans (hf q (by omega)), hC1.off hst12 (fun q hq => hq2 q (by omega)), ⟨_, hn2, fun _ => by simp [vp_updL]⟩⟩
  · skip
    have ho1 := (hf (Z + 146) (by omega)).trans hout
    have hm9 := hm h0
    simp only [List.mem_cons, Prod.mk.injEq, List.not_mem_nil, or_false] at hm9
    obtain ⟨e1, e2⟩ := hm9
    subst e1
    subst e2
    refine vt_catch (a := 0) (b := 9) (h := 12) (ct := 13) [] [] rfl (fun y hy => by cases hy) ⟨by decide, by decide⟩ (by decide) cl_Law_13 ca_1 (fun x9 => ?_)
    refine v_astore_n (pc := 12) (L' := [(3, .ref x9), (0, .ref Z), (1, .int p0), (2, .ref (Z + 146))]) d_Law_width_12 rfl (by decide) rfl ?_
    refine v_iconst (pc := 13) (v := nI 1) d_Law_width_13 rfl ?_
    exact v_iret (pc := 14) d_Law_width_14 rfl (Nat.le_of_ble_eq_true rfl) (Nat.le_of_ble_eq_true rfl) ⟨rfl, hs, fun q hq => hf q (by omega), hC1, ⟨f, ho1, fun h => absurd h (by decide)⟩⟩
set_option maxRecDepth 100000 in
set_option maxHeartbeats 4000000 in
theorem c_Law_rows (g : Gl) {w : Wd} {Z sz code kind : Nat} {x : Int32} {st : As} {f : Nat → Int64} {fs : List Value} (p0 : Int32) (hO : w Z = some (cO 0 fs)) (hout : w (Z + 146) = some (cJ 1 f)) (hst12 : st.1 ≤ 12) (hc : CT g 7 1 6 mi_DV_rows [.ref Z, .int p0] w sz (CE w Z sz code kind (.int x) st)) (hm : code ≠ 0 → (kind, code) ∈ ([(1, 1)] : List (Nat × Nat))) : CT g 9 2 10 mi_Law_rows [.ref Z, .int p0, .ref (Z + 146)] w sz (WE w Z sz code (x.toInt64) st) := by
  refine CT.of (by decide) (Nat.le_of_ble_eq_true rfl) ?_
  refine v_aload_n (pc := 0) d_Law_rows_0 rfl rfl ?_
  refine v_iconst (pc := 1) (v := nI 0) d_Law_rows_1 rfl ?_
  refine v_aload_n (pc := 2) d_Law_rows_2 rfl rfl ?_
  refine v_iload_n (pc := 3) d_Law_rows_3 rfl rfl ?_
  refine v_wr (pc := 4) (A := [.int p0]) (rest := [.int (nI 0), .ref (Z + 146)]) d_Law_rows_4 lk_Law_50 me_DV_rows im_DV_rows se_DV_rows rfl hO rfl rfl hc (Nat.le_of_ble_eq_true rfl) (Nat.le_of_ble_eq_true rfl) (Nat.le_of_ble_eq_true rfl) (Nat.le_of_ble_eq_true rfl) (fun w1 sz1 h0 hs hf hC1 => ?_) (fun w1 sz1 h0 hs hf hC1 => ?_)
  · skip
    subst h0
    have ho1 := (hf (Z + 146) (by omega)).trans hout
    refine v_i2l (pc := 7) d_Law_rows_7 ?_
    refine v_lastW (pc := 8) (k := 0) (f := f) d_Law_rows_8 ho1 rfl (by omega) (by decide) (fun w2 hn2 hq2 => ?_)
    refine v_goto (pc := 9) (tgt := 15) d_Law_rows_9 rfl ?_
    refine v_iconst (pc := 15) (v := nI 0) d_Law_rows_15 rfl ?_
    exact v_iret (pc := 16) d_Law_rows_16 rfl (Nat.le_of_ble_eq_true rfl) (Nat.le_of_ble_eq_true rfl) ⟨rfl, hs, fun q hq => (hq2 q (by omega)).trans (hf q (by omega)), hC1.off hst12 (fun q hq => hq2 q (by omega)), ⟨_, hn2, fun _ => by simp [vp_updL]⟩⟩
  · skip
    have ho1 := (hf (Z + 146) (by omega)).trans hout
    have hm9 := hm h0
    simp only [List.mem_cons, Prod.mk.injEq, List.not_mem_nil, or_false] at hm9
    obtain ⟨e1, e2⟩ := hm9
    subst e1
    subst e2
    refine vt_catch (a := 0) (b := 9) (h := 12) (ct := 13) [] [] rfl (fun y hy => by cases hy) ⟨by decide, by decide⟩ (by decide) cl_Law_13 ca_1 (fun x9 => ?_)
    refine v_astore_n (pc := 12) (L' := [(3, .ref x9), (0, .ref Z), (1, .int p0), (2, .ref (Z + 146))]) d_Law_rows_12 rfl (by decide) rfl ?_
    refine v_iconst (pc := 13) (v := nI 1) d_Law_rows_13 rfl ?_
    exact v_iret (pc := 14) d_Law_rows_14 rfl (Nat.le_of_ble_eq_true rfl) (Nat.le_of_ble_eq_true rfl) ⟨rfl, hs, fun q hq => hf q (by omega), hC1, ⟨f, ho1, fun h => absurd h (by decide)⟩⟩
set_option maxRecDepth 100000 in
set_option maxHeartbeats 4000000 in
theorem c_Law_cell (g : Gl) {w : Wd} {Z sz code kind : Nat} {x : Int32} {st : As} {f : Nat → Int64} {fs : List Value} (p0 p1 p2 : Int32) (hO : w Z = some (cO 0 fs)) (hout : w (Z + 146) = some (cJ 1 f)) (hst12 : st.1 ≤ 12) (hc : CT g 8 1 6 mi_DV_cell [.ref Z, .int p0, .int p1, .int p2] w sz (CE w Z sz code kind (.int x) st)) (hm : code ≠ 0 → (kind, code) ∈ ([(1, 1), (4, 2)] : List (Nat × Nat))) : CT g 9 2 10 mi_Law_cell [.ref Z, .int p0, .int p1, .int p2, .ref (Z + 146)] w sz (WE w Z sz code (x.toInt64) st) := by
  refine CT.of (by decide) (Nat.le_of_ble_eq_true rfl) ?_
  refine v_aload (pc := 0) d_Law_cell_0 rfl ?_
  refine v_iconst (pc := 2) (v := nI 0) d_Law_cell_2 rfl ?_
  refine v_aload_n (pc := 3) d_Law_cell_3 rfl rfl ?_
  refine v_iload_n (pc := 4) d_Law_cell_4 rfl rfl ?_
  refine v_iload_n (pc := 5) d_Law_cell_5 rfl rfl ?_
  refine v_iload_n (pc := 6) d_Law_cell_6 rfl rfl ?_
  refine v_wr (pc := 7) (A := [.int p0, .int p1, .int p2]) (rest := [.int (nI 0), .ref (Z + 146)]) d_Law_cell_7 lk_Law_53 me_DV_cell im_DV_cell se_DV_cell rfl hO rfl rfl hc (Nat.le_of_ble_eq_true rfl) (Nat.le_of_ble_eq_true rfl) (Nat.le_of_ble_eq_true rfl) (Nat.le_of_ble_eq_true rfl) (fun w1 sz1 h0 hs hf hC1 => ?_) (fun w1 sz1 h0 hs hf hC1 => ?_)
  · skip
    subst h0
    have ho1 := (hf (Z + 146) (by omega)).trans hout
    refine v_i2l (pc := 10) d_Law_cell_10 ?_
    refine v_lastW (pc := 11) (k := 0) (f := f) d_Law_cell_11 ho1 rfl (by omega) (by decide) (fun w2 hn2 hq2 => ?_)
    refine v_goto (pc := 12) (tgt := 23) d_Law_cell_12 rfl ?_
    refine v_iconst (pc := 23) (v := nI 0) d_Law_cell_23 rfl ?_
    exact v_iret (pc := 24) d_Law_cell_24 rfl (Nat.le_of_ble_eq_true rfl) (Nat.le_of_ble_eq_true rfl) ⟨rfl, hs, fun q hq => (hq2 q (by omega)).trans (hf q (by omega)), hC1.off hst12 (fun q hq => hq2 q (by omega)), ⟨_, hn2, fun _ => by simp [vp_updL]⟩⟩
  · skip
    have ho1 := (hf (Z + 146) (by omega)).trans hout
    have hm9 := hm h0
    simp only [List.mem_cons, Prod.mk.injEq, List.not_mem_nil, or_false] at hm9
    rcases hm9 with ⟨e1, e2⟩ | ⟨e1, e2⟩
    · skip
      subst e1
      subst e2
      refine vt_catch (a := 0) (b := 12) (h := 15) (ct := 13) [] [(0, 12, 19, 56)] rfl (fun y hy => by cases hy) ⟨by decide, by decide⟩ (by decide) cl_Law_13 ca_1 (fun x9 => ?_)
      refine v_astore (pc := 15) (L' := [(5, .ref x9), (0, .ref Z), (1, .int p0), (2, .int p1), (3, .int p2), (4, .ref (Z + 146))]) d_Law_cell_15 (by decide) rfl ?_
      refine v_iconst (pc := 17) (v := nI 1) d_Law_cell_17 rfl ?_
      exact v_iret (pc := 18) d_Law_cell_18 rfl (Nat.le_of_ble_eq_true rfl) (Nat.le_of_ble_eq_true rfl) ⟨rfl, hs, fun q hq => hf q (by omega), hC1, ⟨f, ho1, fun h => absurd h (by decide)⟩⟩
    · skip
      subst e1
      subst e2
      refine vt_catch (a := 0) (b := 12) (h := 19) (ct := 56) [(0, 12, 15, 13)] [] rfl (fun y hy => by rw [List.mem_singleton] at hy; subst hy; exact ⟨⟨by decide, by decide⟩, by decide, 1, by decide, cl_Law_13⟩) ⟨by decide, by decide⟩ (by decide) cl_Law_56 ca_4 (fun x9 => ?_)
      refine v_astore (pc := 19) (L' := [(5, .ref x9), (0, .ref Z), (1, .int p0), (2, .int p1), (3, .int p2), (4, .ref (Z + 146))]) d_Law_cell_19 (by decide) rfl ?_
      refine v_iconst (pc := 21) (v := nI 2) d_Law_cell_21 rfl ?_
      exact v_iret (pc := 22) d_Law_cell_22 rfl (Nat.le_of_ble_eq_true rfl) (Nat.le_of_ble_eq_true rfl) ⟨rfl, hs, fun q hq => hf q (by omega), hC1, ⟨f, ho1, fun h => absurd h (by decide)⟩⟩
set_option maxRecDepth 100000 in
set_option maxHeartbeats 4000000 in
theorem c_Law_times (g : Gl) {w : Wd} {Z sz code kind : Nat} {x : Int64} {st : As} {f : Nat → Int64} {fs : List Value} (p0 p1 : Int32) (hO : w Z = some (cO 0 fs)) (hout : w (Z + 146) = some (cJ 1 f)) (hst12 : st.1 ≤ 12) (hc : CT g 8 1 6 mi_DV_times [.ref Z, .int p0, .int p1] w sz (CE w Z sz code kind (.long x) st)) (hm : code ≠ 0 → (kind, code) ∈ ([(1, 1), (4, 2)] : List (Nat × Nat))) : CT g 9 2 10 mi_Law_times [.ref Z, .int p0, .int p1, .ref (Z + 146)] w sz (WE w Z sz code x st) := by
  refine CT.of (by decide) (Nat.le_of_ble_eq_true rfl) ?_
  refine v_aload_n (pc := 0) d_Law_times_0 rfl rfl ?_
  refine v_iconst (pc := 1) (v := nI 0) d_Law_times_1 rfl ?_
  refine v_aload_n (pc := 2) d_Law_times_2 rfl rfl ?_
  refine v_iload_n (pc := 3) d_Law_times_3 rfl rfl ?_
  refine v_iload_n (pc := 4) d_Law_times_4 rfl rfl ?_
  refine v_wr (pc := 5) (A := [.int p0, .int p1]) (rest := [.int (nI 0), .ref (Z + 146)]) d_Law_times_5 lk_Law_58 me_DV_times im_DV_times se_DV_times rfl hO rfl rfl hc (Nat.le_of_ble_eq_true rfl) (Nat.le_of_ble_eq_true rfl) (Nat.le_of_ble_eq_true rfl) (Nat.le_of_ble_eq_true rfl) (fun w1 sz1 h0 hs hf hC1 => ?_) (fun w1 sz1 h0 hs hf hC1 => ?_)
  · skip
    subst h0
    have ho1 := (hf (Z + 146) (by omega)).trans hout
    refine v_lastW (pc := 8) (k := 0) (f := f) d_Law_times_8 ho1 rfl (by omega) (by decide) (fun w2 hn2 hq2 => ?_)
    refine v_goto (pc := 9) (tgt := 20) d_Law_times_9 rfl ?_
    refine v_iconst (pc := 20) (v := nI 0) d_Law_times_20 rfl ?_
    exact v_iret (pc := 21) d_Law_times_21 rfl (Nat.le_of_ble_eq_true rfl) (Nat.le_of_ble_eq_true rfl) ⟨rfl, hs, fun q hq => (hq2 q (by omega)).trans (hf q (by omega)), hC1.off hst12 (fun q hq => hq2 q (by omega)), ⟨_, hn2, fun _ => by simp [vp_updL]⟩⟩
  · skip
    have ho1 := (hf (Z + 146) (by omega)).trans hout
    have hm9 := hm h0
    simp only [List.mem_cons, Prod.mk.injEq, List.not_mem_nil, or_false] at hm9
    rcases hm9 with ⟨e1, e2⟩ | ⟨e1, e2⟩
    · skip
      subst e1
      subst e2
      refine vt_catch (a := 0) (b := 9) (h := 12) (ct := 13) [] [(0, 9, 16, 56)] rfl (fun y hy => by cases hy) ⟨by decide, by decide⟩ (by decide) cl_Law_13 ca_1 (fun x9 => ?_)
      refine v_astore (pc := 12) (L' := [(4, .ref x9), (0, .ref Z), (1, .int p0), (2, .int p1), (3, .ref (Z + 146))]) d_Law_times_12 (by decide) rfl ?_
      refine v_iconst (pc := 14) (v := nI 1) d_Law_times_14 rfl ?_
      exact v_iret (pc := 15) d_Law_times_15 rfl (Nat.le_of_ble_eq_true rfl) (Nat.le_of_ble_eq_true rfl) ⟨rfl, hs, fun q hq => hf q (by omega), hC1, ⟨f, ho1, fun h => absurd h (by decide)⟩⟩
    · skip
      subst e1
      subst e2
      refine vt_catch (a := 0) (b := 9) (h := 16) (ct := 56) [(0, 9, 12, 13)] [] rfl (fun y hy => by rw [List.mem_singleton] at hy; subst hy; exact ⟨⟨by decide, by decide⟩, by decide, 1, by decide, cl_Law_13⟩) ⟨by decide, by decide⟩ (by decide) cl_Law_56 ca_4 (fun x9 => ?_)
      refine v_astore (pc := 16) (L' := [(4, .ref x9), (0, .ref Z), (1, .int p0), (2, .int p1), (3, .ref (Z + 146))]) d_Law_times_16 (by decide) rfl ?_
      refine v_iconst (pc := 18) (v := nI 2) d_Law_times_18 rfl ?_
      exact v_iret (pc := 19) d_Law_times_19 rfl (Nat.le_of_ble_eq_true rfl) (Nat.le_of_ble_eq_true rfl) ⟨rfl, hs, fun q hq => hf q (by omega), hC1, ⟨f, ho1, fun h => absurd h (by decide)⟩⟩
set_option maxRecDepth 100000 in
set_option maxHeartbeats 4000000 in
theorem c_Law_many (g : Gl) {w : Wd} {Z sz code kind : Nat} {x : Int64} {st : As} {f : Nat → Int64} {fs : List Value} (p0 p1 p2 p3 p4 : Int32) (hO : w Z = some (cO 0 fs)) (hout : w (Z + 146) = some (cJ 1 f)) (hst12 : st.1 ≤ 12) (hc : CT g 8 1 6 mi_DV_many [.ref Z, .int p0, .int p1, .int p2, .int p3, .int p4] w sz (CE w Z sz code kind (.long x) st)) (hm : code ≠ 0 → (kind, code) ∈ ([(1, 1)] : List (Nat × Nat))) : CT g 9 2 10 mi_Law_many [.ref Z, .int p0, .int p1, .int p2, .int p3, .int p4, .ref (Z + 146)] w sz (WE w Z sz code x st) := by
  refine CT.of (by decide) (Nat.le_of_ble_eq_true rfl) ?_
  refine v_aload (pc := 0) d_Law_many_0 rfl ?_
  refine v_iconst (pc := 2) (v := nI 0) d_Law_many_2 rfl ?_
  refine v_aload_n (pc := 3) d_Law_many_3 rfl rfl ?_
  refine v_iload_n (pc := 4) d_Law_many_4 rfl rfl ?_
  refine v_iload_n (pc := 5) d_Law_many_5 rfl rfl ?_
  refine v_iload_n (pc := 6) d_Law_many_6 rfl rfl ?_
  refine v_iload (pc := 7) d_Law_many_7 rfl ?_
  refine v_iload (pc := 9) d_Law_many_9 rfl ?_
  refine v_wr (pc := 11) (A := [.int p0, .int p1, .int p2, .int p3, .int p4]) (rest := [.int (nI 0), .ref (Z + 146)]) d_Law_many_11 lk_Law_62 me_DV_many im_DV_many se_DV_many rfl hO rfl rfl hc (Nat.le_of_ble_eq_true rfl) (Nat.le_of_ble_eq_true rfl) (Nat.le_of_ble_eq_true rfl) (Nat.le_of_ble_eq_true rfl) (fun w1 sz1 h0 hs hf hC1 => ?_) (fun w1 sz1 h0 hs hf hC1 => ?_)
  · skip
    subst h0
    have ho1 := (hf (Z + 146) (by omega)).trans hout
    refine v_lastW (pc := 14) (k := 0) (f := f) d_Law_many_14 ho1 rfl (by omega) (by decide) (fun w2 hn2 hq2 => ?_)
    refine v_goto (pc := 15) (tgt := 22) d_Law_many_15 rfl ?_
    refine v_iconst (pc := 22) (v := nI 0) d_Law_many_22 rfl ?_
    exact v_iret (pc := 23) d_Law_many_23 rfl (Nat.le_of_ble_eq_true rfl) (Nat.le_of_ble_eq_true rfl) ⟨rfl, hs, fun q hq => (hq2 q (by omega)).trans (hf q (by omega)), hC1.off hst12 (fun q hq => hq2 q (by omega)), ⟨_, hn2, fun _ => by simp [vp_updL]⟩⟩
  · skip
    have ho1 := (hf (Z + 146) (by omega)).trans hout
    have hm9 := hm h0
    simp only [List.mem_cons, Prod.mk.injEq, List.not_mem_nil, or_false] at hm9
    obtain ⟨e1, e2⟩ := hm9
    subst e1
    subst e2
    refine vt_catch (a := 0) (b := 15) (h := 18) (ct := 13) [] [] rfl (fun y hy => by cases hy) ⟨by decide, by decide⟩ (by decide) cl_Law_13 ca_1 (fun x9 => ?_)
    refine v_astore (pc := 18) (L' := [(7, .ref x9), (0, .ref Z), (1, .int p0), (2, .int p1), (3, .int p2), (4, .int p3), (5, .int p4), (6, .ref (Z + 146))]) d_Law_many_18 (by decide) rfl ?_
    refine v_iconst (pc := 20) (v := nI 1) d_Law_many_20 rfl ?_
    exact v_iret (pc := 21) d_Law_many_21 rfl (Nat.le_of_ble_eq_true rfl) (Nat.le_of_ble_eq_true rfl) ⟨rfl, hs, fun q hq => hf q (by omega), hC1, ⟨f, ho1, fun h => absurd h (by decide)⟩⟩
set_option maxRecDepth 100000 in
set_option maxHeartbeats 4000000 in
theorem c_Law_moved (g : Gl) {w : Wd} {Z sz code kind : Nat} {x : Int32} {st : As} {f : Nat → Int64} {fs : List Value} (p0 : Int32) (hO : w Z = some (cO 0 fs)) (hout : w (Z + 146) = some (cJ 1 f)) (hst12 : st.1 ≤ 12) (hc : CT g 7 1 6 mi_DV_moved [.ref Z, .int p0] w sz (CE w Z sz code kind (.int x) st)) (hm : code ≠ 0 → (kind, code) ∈ ([(1, 1)] : List (Nat × Nat))) : CT g 9 2 10 mi_Law_moved [.ref Z, .int p0, .ref (Z + 146)] w sz (WE w Z sz code (x.toInt64) st) := by
  refine CT.of (by decide) (Nat.le_of_ble_eq_true rfl) ?_
  refine v_aload_n (pc := 0) d_Law_moved_0 rfl rfl ?_
  refine v_iconst (pc := 1) (v := nI 0) d_Law_moved_1 rfl ?_
  refine v_aload_n (pc := 2) d_Law_moved_2 rfl rfl ?_
  refine v_iload_n (pc := 3) d_Law_moved_3 rfl rfl ?_
  refine v_wr (pc := 4) (A := [.int p0]) (rest := [.int (nI 0), .ref (Z + 146)]) d_Law_moved_4 lk_Law_66 me_DV_moved im_DV_moved se_DV_moved rfl hO rfl rfl hc (Nat.le_of_ble_eq_true rfl) (Nat.le_of_ble_eq_true rfl) (Nat.le_of_ble_eq_true rfl) (Nat.le_of_ble_eq_true rfl) (fun w1 sz1 h0 hs hf hC1 => ?_) (fun w1 sz1 h0 hs hf hC1 => ?_)
  · skip
    subst h0
    have ho1 := (hf (Z + 146) (by omega)).trans hout
    refine v_i2l (pc := 7) d_Law_moved_7 ?_
    refine v_lastW (pc := 8) (k := 0) (f := f) d_Law_moved_8 ho1 rfl (by omega) (by decide) (fun w2 hn2 hq2 => ?_)
    refine v_goto (pc := 9) (tgt := 15) d_Law_moved_9 rfl ?_
    refine v_iconst (pc := 15) (v := nI 0) d_Law_moved_15 rfl ?_
    exact v_iret (pc := 16) d_Law_moved_16 rfl (Nat.le_of_ble_eq_true rfl) (Nat.le_of_ble_eq_true rfl) ⟨rfl, hs, fun q hq => (hq2 q (by omega)).trans (hf q (by omega)), hC1.off hst12 (fun q hq => hq2 q (by omega)), ⟨_, hn2, fun _ => by simp [vp_updL]⟩⟩
  · skip
    have ho1 := (hf (Z + 146) (by omega)).trans hout
    have hm9 := hm h0
    simp only [List.mem_cons, Prod.mk.injEq, List.not_mem_nil, or_false] at hm9
    obtain ⟨e1, e2⟩ := hm9
    subst e1
    subst e2
    refine vt_catch (a := 0) (b := 9) (h := 12) (ct := 13) [] [] rfl (fun y hy => by cases hy) ⟨by decide, by decide⟩ (by decide) cl_Law_13 ca_1 (fun x9 => ?_)
    refine v_astore_n (pc := 12) (L' := [(3, .ref x9), (0, .ref Z), (1, .int p0), (2, .ref (Z + 146))]) d_Law_moved_12 rfl (by decide) rfl ?_
    refine v_iconst (pc := 13) (v := nI 1) d_Law_moved_13 rfl ?_
    exact v_iret (pc := 14) d_Law_moved_14 rfl (Nat.le_of_ble_eq_true rfl) (Nat.le_of_ble_eq_true rfl) ⟨rfl, hs, fun q hq => hf q (by omega), hC1, ⟨f, ho1, fun h => absurd h (by decide)⟩⟩
