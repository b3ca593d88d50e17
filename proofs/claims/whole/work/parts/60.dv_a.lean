/-! The class's object. -/
def CR (w : Wd) (Z sz : Nat) (a : As) (sw : Nat → Bool) (od : Nat → Nat) : Prop :=
  w Z = some (cO 0 [.ref (Z + 1), .int (nI a.1), .ref (Z + 2)]) ∧ (∃ fV, w (Z + 1) = some (cR 12 fV) ∧ ∀ i, i < 12 → fV i = some (VA Z i)) ∧ (∃ x y z u, BTo w (Z + 2) a.2.2.2.2.2.length x y z u ∧ bt_of x y z u a.2.2.2.2.2.length = a.2.2.2.2.2) ∧
  (∀ i, i < 12 → (∃ mx, w (VA Z i) = some (cO 1 [.ref (od i), .ref (nwA Z sw i), .ref (bfA Z sw i), .int mx]) ∧ (i < a.1 → mx = nI (a.2.2.2.2.1 i))) ∧ bgX w (nwA Z sw i) ∧ bgX w (bfA Z sw i) ∧ (od i = VA Z i + 1 ∨ Z + 147 ≤ od i) ∧ od i < sz) ∧
  (∀ i, i < a.1 → bgN w (nwA Z sw i) (a.2.1 i) (a.2.2.2.1 i) ∧ OPo w Z (od i) (a.2.1 i) (a.2.2.1 i)) ∧ (∀ i, i < 3 → (a.2.2.1 i).1 = 0) ∧ Z + 147 ≤ sz
def cl_fr (Z : Nat) (w w' : Wd) : Prop := ∀ q, q < Z ∨ (Z + 127 ≤ q ∧ q < Z + 147) → w' q = w q
theorem cl_fr.rf {Z : Nat} {w : Wd} : cl_fr Z w w := fun _ _ => rfl
theorem cl_fr.tr {Z : Nat} {w w1 w2 : Wd} (h : cl_fr Z w w1) (k : cl_fr Z w1 w2) : cl_fr Z w w2 := fun q hq => (k q hq).trans (h q hq)
def CRe (w : Wd) (Z sz : Nat) (a : As) : Prop := ∃ sw od, CR w Z sz a sw od
/-- which exception a code is: the kinds stand in the order of the law's catches -/
def CE (w : Wd) (Z sz code kind : Nat) (v : Value) (a : As) : Rs → Wd → Nat → Prop := fun r w' sz' => sz ≤ sz' ∧ cl_fr Z w w' ∧ CRe w' Z sz' a ∧ r = (if code = 0 then .inl (some v) else .inr kind)
def thE (k : Nat) (w : Wd) (sz : Nat) : Rs → Wd → Nat → Prop := fun r w' sz' => r = .inr k ∧ w' = w ∧ sz' = sz + 1
theorem CR.up {w : Wd} {Z sz sz' : Nat} {a : As} {sw : Nat → Bool} {od : Nat → Nat} (h : CR w Z sz a sw od) (hs : sz ≤ sz') : CR w Z sz' a sw od := by
  obtain ⟨h1, h2, h3, h4, h5, h6, h7⟩ := h
  exact ⟨h1, h2, h3, fun i hi => ⟨(h4 i hi).1, (h4 i hi).2.1, (h4 i hi).2.2.1, (h4 i hi).2.2.2.1, Nat.lt_of_lt_of_le (h4 i hi).2.2.2.2 hs⟩, h5, h6, Nat.le_trans h7 hs⟩
section CTH
variable {g : Gl} {d mc ms : Nat} {M : Mi} {w0 : Wd} {sz0 : Nat} {E : Rs → Wd → Nat → Prop} {pc : Nat} {L : List (Nat × Value)} {S : List Value} {w : Wd} {sz nc ns : Nat}
variable {rest A : List Value} {M' : Mi} {d' mc' ms' n idx k : Nat}
theorem v_csT (hd : decode M.2.1 pc = .ok (.invokestatic idx, 3)) (hl : fw_lnk M.1.cls idx M'.1) (hm : fw_me M' n) (hs : Cond.static M'.1 ∈ fw_big) (hA : A.length = n) (hS : S = A.reverse ++ rest) (hc : CT g d' mc' ms' M' A w sz (thE k w sz)) (r1 : d' + 1 ≤ d) (r3 : nc + mc' ≤ mc) (r4 : ns + ms' ≤ ms) (hst : (rest.map fun v => v.category).sum ≤ 8) (hh : M.2.2.2.2 = []) (hE : E (.inr k) w (sz + 1)) : VV g d mc ms M w0 sz0 E pc L S w sz nc ns :=
  v_cs hd hl hm hs hA hS hc r1 r3 r4 hst (fun v w' sz' h => by cases h.1) (fun k' w' sz' h => by obtain ⟨h1, h2, h3⟩ := h; cases h1; subst h2 h3; exact vt_out hh r3 r4 hE)
theorem v_cvT {a ci N : Nat} {fs : List Value} {T : u_T} (hd : decode M.2.1 pc = .ok (.invokevirtual idx, 3)) (hl : fw_lnk M.1.cls idx M'.1) (hm : fw_me M' n) (hi : Cond.instanceMethod M'.1 ∈ fw_big) (hse : Cond.selects M'.1.cls M'.1 M'.1 ∈ fw_big) (hcl : vwCl[ci]? = some (M'.1.cls, T, N)) (ha : w a = some (cO ci fs)) (hA : A.length = n) (hS : S = A.reverse ++ .ref a :: rest) (hc : CT g d' mc' ms' M' (.ref a :: A) w sz (thE k w sz)) (r1 : d' + 1 ≤ d) (r3 : nc + mc' ≤ mc) (r4 : ns + ms' ≤ ms) (hst : (rest.map fun v => v.category).sum ≤ 8) (hh : M.2.2.2.2 = []) (hE : E (.inr k) w (sz + 1)) : VV g d mc ms M w0 sz0 E pc L S w sz nc ns :=
  v_cv hd hl hm hi hse hcl ha hA hS hc r1 r3 r4 hst (fun v w' sz' h => by cases h.1) (fun k' w' sz' h => by obtain ⟨h1, h2, h3⟩ := h; cases h1; subst h2 h3; exact vt_out hh r3 r4 hE)
end CTH
set_option maxRecDepth 100000 in
set_option maxHeartbeats 4000000 in
theorem c_DV_viewAt_no (g : Gl) {w : Wd} {Z sz : Nat} {a : As} {sw : Nat → Bool} {od : Nat → Nat} (hC : CR w Z sz a sw od) (hA : AWa a) {e : Int32} (hv : ¬ isV a e) : CT g 6 1 6 mi_DV_viewAt [.ref Z, .int e] w sz (thE 1 w sz) := by
  refine CT.of (by decide) (Nat.le_of_ble_eq_true rfl) ?_
  refine v_iload_n (pc := 0) d_DV_viewAt_0 rfl rfl ?_
  refine v_if_lt (pc := 1) (tgt := 12) d_DV_viewAt_1 rfl (fun hc => ?_) (fun hc => ?_)
  · skip
    exact v_throw (pc := 12) d_DV_viewAt_12 d_DV_viewAt_15 d_DV_viewAt_16 d_DV_viewAt_18 d_DV_viewAt_21 tk_162 rfl (Nat.le_of_ble_eq_true rfl) (Nat.le_of_ble_eq_true rfl) (Nat.le_of_ble_eq_true rfl) (Nat.le_of_ble_eq_true rfl) ⟨rfl, rfl, rfl⟩
  · skip
    have hl := hc
    refine v_iload_n (pc := 4) d_DV_viewAt_4 rfl rfl ?_
    refine v_aload_n (pc := 5) d_DV_viewAt_5 rfl rfl ?_
    refine v_get (pc := 6) d_DV_viewAt_6 fl_DV_15 hC.1 rfl ?_
    refine v_icmp_lt (pc := 9) (tgt := 22) d_DV_viewAt_9 rfl (fun hc => ?_) (fun hc => ?_)
    · skip
      exact absurd (show isV a e from ⟨Int32.not_lt.mp hl, hc⟩) hv
    · skip
      exact v_throw (pc := 12) d_DV_viewAt_12 d_DV_viewAt_15 d_DV_viewAt_16 d_DV_viewAt_18 d_DV_viewAt_21 tk_162 rfl (Nat.le_of_ble_eq_true rfl) (Nat.le_of_ble_eq_true rfl) (Nat.le_of_ble_eq_true rfl) (Nat.le_of_ble_eq_true rfl) ⟨rfl, rfl, rfl⟩
set_option maxRecDepth 100000 in
set_option maxHeartbeats 4000000 in
theorem c_DV_viewAt (g : Gl) {w : Wd} {Z sz : Nat} {a : As} {sw : Nat → Bool} {od : Nat → Nat} (hC : CR w Z sz a sw od) (hA : AWa a) {k : Nat} (hk : k < a.1) : CT g 0 0 0 mi_DV_viewAt [.ref Z, .int (nI k)] w sz (rdE (some (.ref (VA Z k))) w sz) := by
  refine CT.of (by decide) (Nat.le_of_ble_eq_true rfl) ?_
  have hn12 := hA.2.1
  obtain ⟨fV, hfw, hfi⟩ := hC.2.1
  refine v_iload_n (pc := 0) d_DV_viewAt_0 rfl rfl ?_
  refine v_if_lt (pc := 1) (tgt := 12) d_DV_viewAt_1 rfl (fun hc => ?_) (fun hc => ?_)
  · skip
    exact absurd hc (nI_pos (by omega))
  · skip
    refine v_iload_n (pc := 4) d_DV_viewAt_4 rfl rfl ?_
    refine v_aload_n (pc := 5) d_DV_viewAt_5 rfl rfl ?_
    refine v_get (pc := 6) d_DV_viewAt_6 fl_DV_15 hC.1 rfl ?_
    refine v_icmp_lt (pc := 9) (tgt := 22) d_DV_viewAt_9 rfl (fun hc => ?_) (fun hc => ?_)
    · skip
      rw [nI_ltI (by omega) (by omega)] at hc
      refine v_aload_n (pc := 22) d_DV_viewAt_22 rfl rfl ?_
      refine v_get (pc := 23) d_DV_viewAt_23 fl_DV_11 hC.1 rfl ?_
      refine v_iload_n (pc := 26) d_DV_viewAt_26 rfl rfl ?_
      refine v_aaldN (pc := 27) (k := k) d_DV_viewAt_27 hfw rfl (by omega) (by decide) (hfi k (by omega)) ?_
      exact v_aret (pc := 28) d_DV_viewAt_28 rfl (Nat.le_of_ble_eq_true rfl) (Nat.le_of_ble_eq_true rfl) ⟨rfl, rfl, rfl⟩
    · skip
      rw [nI_ltI (by omega) (by omega)] at hc
      exact absurd hc (by omega)
set_option maxRecDepth 100000 in
set_option maxHeartbeats 4000000 in
theorem c_DV_needColumn_no (g : Gl) {w : Wd} {v b sz wd n : Nat} {q1 q2 q3 : Value} {f : Nat → Int32} {m : Nat → Int64} {pd : Nat → Int32} (hV : w v = some (cO 1 [q1, .ref b, q2, q3])) (hB : BGo w b wd n f m pd) {c : Int32} (hno : ¬ (0 ≤ c ∧ c < nI wd)) : CT g 6 1 6 mi_DV_needColumn [.ref v, .int c] w sz (thE 1 w sz) := by
  refine CT.of (by decide) (Nat.le_of_ble_eq_true rfl) ?_
  refine v_iload_n (pc := 0) d_DV_needColumn_0 rfl rfl ?_
  refine v_if_lt (pc := 1) (tgt := 15) d_DV_needColumn_1 rfl (fun hc => ?_) (fun hc => ?_)
  · skip
    exact v_throw (pc := 15) d_DV_needColumn_15 d_DV_needColumn_18 d_DV_needColumn_19 d_DV_needColumn_21 d_DV_needColumn_24 tk_164 rfl (Nat.le_of_ble_eq_true rfl) (Nat.le_of_ble_eq_true rfl) (Nat.le_of_ble_eq_true rfl) (Nat.le_of_ble_eq_true rfl) ⟨rfl, rfl, rfl⟩
  · skip
    have hl := hc
    refine v_iload_n (pc := 4) d_DV_needColumn_4 rfl rfl ?_
    refine v_aload_n (pc := 5) d_DV_needColumn_5 rfl rfl ?_
    refine v_get (pc := 6) d_DV_needColumn_6 fl_DV_106 hV rfl ?_
    refine v_get (pc := 9) d_DV_needColumn_9 fl_DV_110 hB.o rfl ?_
    refine v_icmp_lt (pc := 12) (tgt := 25) d_DV_needColumn_12 rfl (fun hc => ?_) (fun hc => ?_)
    · skip
      exact absurd ⟨Int32.not_lt.mp hl, hc⟩ hno
    · skip
      exact v_throw (pc := 15) d_DV_needColumn_15 d_DV_needColumn_18 d_DV_needColumn_19 d_DV_needColumn_21 d_DV_needColumn_24 tk_164 rfl (Nat.le_of_ble_eq_true rfl) (Nat.le_of_ble_eq_true rfl) (Nat.le_of_ble_eq_true rfl) (Nat.le_of_ble_eq_true rfl) ⟨rfl, rfl, rfl⟩
set_option maxRecDepth 100000 in
set_option maxHeartbeats 4000000 in
theorem c_DV_needColumn (g : Gl) {w : Wd} {v b sz wd n : Nat} {q1 q2 q3 : Value} {f : Nat → Int32} {m : Nat → Int64} {pd : Nat → Int32} (hV : w v = some (cO 1 [q1, .ref b, q2, q3])) (hB : BGo w b wd n f m pd) {c : Int32} (hyes : 0 ≤ c ∧ c < nI wd) : CT g 0 0 0 mi_DV_needColumn [.ref v, .int c] w sz (rdE none w sz) := by
  refine CT.of (by decide) (Nat.le_of_ble_eq_true rfl) ?_
  refine v_iload_n (pc := 0) d_DV_needColumn_0 rfl rfl ?_
  refine v_if_lt (pc := 1) (tgt := 15) d_DV_needColumn_1 rfl (fun hc => ?_) (fun hc => ?_)
  · skip
    exact absurd hc (Int32.not_lt.mpr hyes.1)
  · skip
    refine v_iload_n (pc := 4) d_DV_needColumn_4 rfl rfl ?_
    refine v_aload_n (pc := 5) d_DV_needColumn_5 rfl rfl ?_
    refine v_get (pc := 6) d_DV_needColumn_6 fl_DV_106 hV rfl ?_
    refine v_get (pc := 9) d_DV_needColumn_9 fl_DV_110 hB.o rfl ?_
    refine v_icmp_lt (pc := 12) (tgt := 25) d_DV_needColumn_12 rfl (fun hc => ?_) (fun hc => ?_)
    · skip
      exact v_vret (pc := 25) d_DV_needColumn_25 rfl (Nat.le_of_ble_eq_true rfl) (Nat.le_of_ble_eq_true rfl) ⟨rfl, rfl, rfl⟩
    · skip
      exact absurd hyes.2 hc
