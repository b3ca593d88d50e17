/-! The abstract state and a commit of it. -/
theorem op_adds_congr {wd : Nat → Nat} {v wv : Nat} {o : VOp} {β γ : Nat → MaB} (hW : WO wd v o) (h : ∀ u, u < v → β u = γ u) : op_adds wv β o = op_adds wv γ o := by
  obtain ⟨k, e, f, P, Q, R⟩ := o
  obtain ⟨_, _, hh⟩ := hW
  dsimp only at hh
  rcases hh with ⟨rfl, he, _⟩ | ⟨rfl, he, _⟩ | ⟨rfl, he, hf, _⟩ | ⟨rfl, he, hf, _⟩ | ⟨rfl, he, _⟩ | ⟨kd, hkd, rfl, he, _⟩
  · rw [oa1, oa1, h e he]
  · rw [oa2, oa2, h e he]
  · rw [oa3, oa3, h e he, h f hf]
  · rw [oa4, oa4, h e he, h f hf]
  · rw [oa8, oa8, h e he]
  · rw [oa5 hkd, oa5 hkd, h e he]
def nbf (wd : Nat → Nat) (op : Nat → VOp) (bg : Nat → MaB) (l : Bt) : Nat → Nat → MaB
  | 0 => fun _ => []
  | v + 1 => va_up (nbf wd op bg l v) v (if v < 3 then ma_fold [] (bg v ++ bt_adds v l) else ma_fold [] (op_adds (wd v) (nbf wd op bg l v) (op v)))
def nb (wd : Nat → Nat) (op : Nat → VOp) (bg : Nat → MaB) (l : Bt) (v : Nat) : MaB := nbf wd op bg l (v + 1) v
section NB
variable {wd : Nat → Nat} {op : Nat → VOp} {bg : Nat → MaB} {l : Bt}
theorem nbf_eq {u : Nat} : ∀ {v : Nat}, u < v → nbf wd op bg l v u = nb wd op bg l u
  | 0, h => absurd h (Nat.not_lt_zero _)
  | v + 1, h => by
    by_cases e : u = v
    · subst e; rfl
    · rw [nbf, va_up_ne _ _ e]; exact nbf_eq (by omega)
theorem nb_tbl {v : Nat} (h : v < 3) : nb wd op bg l v = ma_fold [] (bg v ++ bt_adds v l) := by
  rw [nb, nbf, va_up_self, if_pos h]
theorem nb_op {v : Nat} (h : ¬ v < 3) (hW : WO wd v (op v)) : nb wd op bg l v = ma_fold [] (op_adds (wd v) (nb wd op bg l) (op v)) := by
  rw [nb, nbf, va_up_self, if_neg h, op_adds_congr hW (fun u hu => nbf_eq hu)]
end NB
def cmok (wd : Nat → Nat) (op : Nat → VOp) (bg : Nat → MaB) (l : Bt) (v : Nat) : Bool := if v < 3 then tb_ok (nb wd op bg l v) else decide ((nb wd op bg l v).length ≤ 16)
def okf (wd : Nat → Nat) (op : Nat → VOp) (bg : Nat → MaB) (l : Bt) (n : Nat) : Bool := (List.range n).all (cmok wd op bg l)
theorem okf_s (wd : Nat → Nat) (op : Nat → VOp) (bg : Nat → MaB) (l : Bt) (n : Nat) : okf wd op bg l (n + 1) = true ↔ okf wd op bg l n = true ∧ cmok wd op bg l n = true := by
  unfold okf
  rw [List.range_succ, List.all_append, Bool.and_eq_true]
  simp
theorem okf_le {wd : Nat → Nat} {op : Nat → VOp} {bg : Nat → MaB} {l : Bt} {v n : Nat} (h : v ≤ n) (hn : okf wd op bg l n = true) : okf wd op bg l v = true := by
  unfold okf at *
  rw [List.all_eq_true] at *
  exact fun x hx => hn x (List.mem_range.mpr (Nat.lt_of_lt_of_le (List.mem_range.mp hx) h))
def AW (n : Nat) (wd : Nat → Nat) (op : Nat → VOp) (bg : Nat → MaB) (l : Bt) : Prop := 3 ≤ n ∧ n ≤ 12 ∧ l.length ≤ 8 ∧ (∀ v, v < n → 1 ≤ wd v ∧ wd v ≤ 4 ∧ ma_ok (wd v) (bg v) ∧ (bg v).length ≤ 16) ∧ (∀ v, v < 3 → wd v = 2 ∧ tb_ok (bg v) = true) ∧ (∀ v, 3 ≤ v → v < n → WO wd v (op v)) ∧ (∀ x ∈ l, ∃ t, t < 3 ∧ x.1 = nI t)
def RA (sc : Nat → Int32) (ia : Nat → Nat → Int32) (la : Nat → Nat → Int64) (n : Nat) (wd : Nat → Nat) (op : Nat → VOp) (bg : Nat → MaB) (mv : Nat → Nat) (l : Bt) : Prop := sc 1 = nI n ∧ sc 3 = nI l.length ∧ bt_of (ia 14) (ia 15) (ia 16) (ia 17) l.length = l ∧ (∀ v, v < n → ia 0 v = nI (wd v) ∧ ia 7 v = nI (mv v) ∧ BK ia la v (wd v) (bg v)) ∧ (∀ v, 3 ≤ v → v < n → RO ia v (op v))
def RR (w : Wd) (b n : Nat) (wd : Nat → Nat) (op : Nat → VOp) (bg : Nat → MaB) (mv : Nat → Nat) (l : Bt) (th : Int32) : Prop := ∃ sc ia la, MAt w b sc ia la ∧ sc 0 = th ∧ RA sc ia la n wd op bg mv l
def mo_c12 (sc : Nat → Int32) (ia : Nat → Nat → Int32) (la : Nat → Nat → Int64) (sc' : Nat → Int32) (ia' : Nat → Nat → Int32) (la' : Nat → Nat → Int64) : Prop :=
  (∀ j, j ≠ 2 → sc' j = sc j) ∧ (∀ i, i ≠ 8 → i ≠ 10 → i ≠ 12 → i ≠ 13 → ia' i = ia i) ∧ (∀ i, i < 12 → ia' 8 i = ia 8 i) ∧ (∀ i, i < 768 → ia' 10 i = ia 10 i) ∧ (∀ i, i < 192 → la' 9 i = la 9 i)
theorem mo_c12.rf {sc : Nat → Int32} {ia : Nat → Nat → Int32} {la : Nat → Nat → Int64} : mo_c12 sc ia la sc ia la := ⟨fun _ _ => rfl, fun _ _ _ _ _ => rfl, fun _ _ => rfl, fun _ _ => rfl, fun _ _ => rfl⟩
theorem mo_c12.ch {k : Nat} {sc s1 s2 : Nat → Int32} {ia i1 i2 : Nat → Nat → Int32} {la l1 l2 : Nat → Nat → Int64} (h : mo_c12 sc ia la s1 i1 l1) (hk : 12 ≤ k) (g : mo_ch k s1 i1 l1 s2 i2 l2) : mo_c12 sc ia la s2 i2 l2 :=
  ⟨fun j hj => (g.1 j hj).trans (h.1 j hj), fun i a b c d => (g.2.1 i a b c d).trans (h.2.1 i a b c d), fun i hi => (g.2.2.1 i (by omega)).trans (h.2.2.1 i hi), fun i hi => (g.2.2.2.1 i (by omega)).trans (h.2.2.2.1 i hi), fun i hi => (g.2.2.2.2 i (by omega)).trans (h.2.2.2.2 i hi)⟩
theorem BK.c12 {sc s1 : Nat → Int32} {ia i1 : Nat → Nat → Int32} {la l1 : Nat → Nat → Int64} {u wd : Nat} {c : MaB} (h : BK ia la u wd c) (hw : wd ≤ 4) (hu : u < 12) (g : mo_c12 sc ia la s1 i1 l1) : BK i1 l1 u wd c := by
  obtain ⟨h1, h2, h3⟩ := h
  refine ⟨by rw [g.2.2.1 u hu]; exact h1, h2, Eq.trans (ar_bag_congr (fun r hr c hc => g.2.2.2.1 _ ?_) (fun r hr => g.2.2.2.2 _ ?_)) h3⟩
  · omega
  · omega
def mo_ms (w : Wd) (b : Nat) (sc : Nat → Int32) (ia : Nat → Nat → Int32) (la : Nat → Nat → Int64) (wd : Nat → Nat) (op : Nat → VOp) (bg : Nat → MaB) (l : Bt) (v : Nat) (w1 : Wd) : Prop :=
  ∃ s1 i1 l1, MAt w1 b s1 i1 l1 ∧ mo_fr b w w1 ∧ mo_c12 sc ia la s1 i1 l1 ∧ (okf wd op bg l v = true → ∀ u, u < v → BK i1 l1 (12 + u) (wd u) (nb wd op bg l u))
set_option maxRecDepth 100000 in
set_option maxHeartbeats 4000000 in
theorem lp1_Mo_commit (g : Gl) {w0 w : Wd} {b sz : Nat} {sc : Nat → Int32} {ia : Nat → Nat → Int32} {la : Nat → Nat → Int64} (hM : MAt w b sc ia la) {n : Nat} {wd : Nat → Nat} {op : Nat → VOp} {bg : Nat → MaB} {mv : Nat → Nat} {l : Bt} (hA : AW n wd op bg l) (hR : RA sc ia la n wd op bg mv l) {E : Rs → Wd → Nat → Prop} (K : ∀ w1, mo_ms w b sc ia la wd op bg l n w1 → VV g 4 0 0 mi_Mo_commit w0 sz E 63 [(1, .int (if okf wd op bg l n = true then 1 else 0)), (0, .ref b)] [] w1 sz 0 0) : ∀ (zz : Nat) (v : Nat) (w1 : Wd), n - v = zz → 3 ≤ v → v ≤ n → mo_ms w b sc ia la wd op bg l v w1 → VV g 4 0 0 mi_Mo_commit w0 sz E 37 [(2, .int (nI v)), (1, .int (if okf wd op bg l v = true then 1 else 0)), (0, .ref b)] [] w1 sz 0 0 := by
  intro zz
  induction zz using Nat.strongRecOn with | _ zz ih => _
  intro v w1 hnn hv3 hvn hms
  obtain ⟨s1, i1, l1, h1, hfr, hch, hbk⟩ := id hms
  have hs1 : s1 1 = nI n := (hch.1 1 (by decide)).trans hR.1
  have hn12 := hA.2.1
  refine v_iload_n (pc := 37) d_Mo_commit_37 rfl rfl ?_
  refine v_aload_n (pc := 38) d_Mo_commit_38 rfl rfl ?_
  refine v_get (pc := 39) d_Mo_commit_39 fl_Mo_7 h1.o rfl ?_
  refine v_re hs1 ?_
  refine v_icmp_ge (pc := 42) (tgt := 63) d_Mo_commit_42 rfl (fun hc => ?_) (fun hc => ?_)
  · skip
    rw [nI_leI (by omega) (by omega)] at hc
    obtain rfl : v = n := by omega
    refine v_sub (L' := [(1, .int (if okf wd op bg l v = true then 1 else 0)), (0, .ref b)]) (by simp) ?_
    exact K w1 hms
  · skip
    rw [nI_leI (by omega) (by omega)] at hc
    refine v_iload_n (pc := 45) d_Mo_commit_45 rfl rfl ?_
    refine v_if_eq (pc := 46) (tgt := 63) d_Mo_commit_46 rfl (fun hc => ?_) (fun hc => ?_)
    · skip
      rw [zf] at hc
      have e9 : okf wd op bg l v = okf wd op bg l n := by
        have a1 : okf wd op bg l v = false := Bool.eq_false_iff.mpr hc
        have a2 : okf wd op bg l n = false := Bool.eq_false_iff.mpr (fun h => hc (okf_le hvn h))
        rw [a1, a2]
      refine v_sub (L' := [(1, .int (if okf wd op bg l v = true then 1 else 0)), (0, .ref b)]) (by simp) ?_
      rw [e9]
      rw [e9] at hc
      exact K w1 ⟨s1, i1, l1, h1, hfr, hch, fun h => absurd h hc⟩
    · skip
      rw [zt] at hc
      have hok := hc
      refine v_aload_n (pc := 49) d_Mo_commit_49 rfl rfl ?_
      refine v_iload_n (pc := 50) d_Mo_commit_50 rfl rfl ?_
      refine v_bipush (pc := 51) (v := nI 12) d_Mo_commit_51 rfl ?_
      have hW := hA.2.2.2.2.2.1 v hv3 (by omega)
      have hnb : nb wd op bg l v = ma_fold [] (op_adds (wd v) (nb wd op bg l) (op v)) := nb_op (by omega) hW
      have hww : ∀ u, u ≤ v → i1 0 u = nI (wd u) := fun u hu => by rw [hch.2.1 0 (by decide) (by decide) (by decide) (by decide)]; exact (hR.2.2.2.1 u (by omega)).1
      have hRO : RO i1 v (op v) := by
        have h9 := hR.2.2.2.2 v hv3 (by omega)
        unfold RO at h9 ⊢
        rw [hch.2.1 1 (by decide) (by decide) (by decide) (by decide), hch.2.1 2 (by decide) (by decide) (by decide) (by decide), hch.2.1 3 (by decide) (by decide) (by decide) (by decide), hch.2.1 4 (by decide) (by decide) (by decide) (by decide), hch.2.1 5 (by decide) (by decide) (by decide) (by decide), hch.2.1 6 (by decide) (by decide) (by decide) (by decide)]
        exact h9
      refine v_cvX (pc := 53) (A := [.int (nI v), .int (nI 12)]) (rest := []) (x := .int (if (ma_fold [] (op_adds (wd v) (nb wd op bg l) (op v))).length ≤ 16 then 1 else 0)) d_Mo_commit_53 lk_Mo_138 me_Mo_work im_Mo_work se_Mo_work rfl h1.o rfl rfl (c_Mo_work g h1 (v := v) (on := 12) (by omega) (by decide) (wd := wd) (β := nb wd op bg l) (o := op v) hRO hW hww (fun u hu => (hA.2.2.2.1 u (by omega)).2.1) (fun u hu => by rw [Nat.add_comm u 12]; exact hbk hok u hu)) (Nat.le_of_ble_eq_true rfl) (Nat.le_of_ble_eq_true rfl) (Nat.le_of_ble_eq_true rfl) (Nat.le_of_ble_eq_true rfl) (fun w2 hwp => ?_)
      rw [← hnb] at hwp ⊢
      obtain ⟨s2, i2, l2, q1, q2, q3, q4⟩ := hwp
      rw [Nat.add_comm v 12] at q3 q4
      have hcm : okf wd op bg l (v + 1) = true ↔ (nb wd op bg l v).length ≤ 16 := by rw [okf_s, cmok, if_neg (by omega), decide_eq_true_eq]; exact ⟨fun h => h.2, fun h => ⟨hok, h⟩⟩
      have hnext : mo_ms w b sc ia la wd op bg l (v + 1) w2 := ⟨s2, i2, l2, q1, hfr.tr q2, hch.ch (by omega) q3, fun ho u hu => by
        by_cases e : u = v
        · subst e; exact q4 (hcm.mp ho)
        · exact (hbk hok u (by omega)).ch (hA.2.2.2.1 u (by omega)).2.1 q3 (by omega)⟩
      refine v_re (y := (if okf wd op bg l (v + 1) = true then 1 else 0)) (by by_cases h9 : (nb wd op bg l v).length ≤ 16; (rw [if_pos h9, if_pos (hcm.mpr h9)]); (rw [if_neg h9, if_neg (fun h => h9 (hcm.mp h))])) ?_
      refine v_istore_n (pc := 56) (L' := [(1, .int (if okf wd op bg l (v + 1) = true then 1 else 0)), (2, .int (nI v)), (0, .ref b)]) d_Mo_commit_56 rfl (by decide) rfl ?_
      refine v_iinc (pc := 57) (L' := [(2, .int (nI (v + 1))), (1, .int (if okf wd op bg l (v + 1) = true then 1 else 0)), (0, .ref b)]) d_Mo_commit_57 rfl (ix_inc _) (by decide) rfl ?_
      refine v_goto (pc := 60) (tgt := 37) d_Mo_commit_60 rfl ?_
      refine v_sub (L' := [(2, .int (nI (v + 1))), (1, .int (if okf wd op bg l (v + 1) = true then 1 else 0)), (0, .ref b)]) (by simp) ?_
      exact ih (n - (v + 1)) (by omega) (v + 1) _ rfl (by omega) (by omega) hnext
def mo_t2 (w : Wd) (b : Nat) (sc : Nat → Int32) (ia : Nat → Nat → Int32) (n : Nat) (wd : Nat → Nat) (B C : Nat → MaB) (v : Nat) (w1 : Wd) : Prop :=
  ∃ i1 l1, MAt w1 b sc i1 l1 ∧ mo_fr b w w1 ∧ (∀ i, i ≠ 7 → i ≠ 8 → i ≠ 10 → i1 i = ia i) ∧ (∀ u, u < v → i1 7 u = nI (ma_mv2 (C u) (B u)) ∧ BK i1 l1 u (wd u) (C u)) ∧ (∀ u, v ≤ u → u < n → BK i1 l1 u (wd u) (B u)) ∧ (∀ u, u < n → BK i1 l1 (12 + u) (wd u) (C u))
set_option maxRecDepth 100000 in
set_option maxHeartbeats 4000000 in
theorem lp2_Mo_commit (g : Gl) {w0 w : Wd} {b sz : Nat} {sc : Nat → Int32} {ia : Nat → Nat → Int32} {n : Nat} {wd : Nat → Nat} {B C : Nat → MaB} (hn : sc 1 = nI n) (hn12 : n ≤ 12) (hw : ∀ v, v < n → ia 0 v = nI (wd v) ∧ wd v ≤ 4) {E : Rs → Wd → Nat → Prop} (K : ∀ w1, mo_t2 w b sc ia n wd B C n w1 → VV g 4 0 0 mi_Mo_commit w0 sz E 100 [(0, .ref b)] [] w1 sz 0 0) : ∀ (zz : Nat) (v : Nat) (w1 : Wd), n - v = zz → v ≤ n → mo_t2 w b sc ia n wd B C v w1 → VV g 4 0 0 mi_Mo_commit w0 sz E 81 [(2, .int (nI v)), (0, .ref b)] [] w1 sz 0 0 := by
  intro zz
  induction zz using Nat.strongRecOn with | _ zz ih => _
  intro v w1 hnn hvn ht2
  obtain ⟨i1, l1, h1, hfr, hch, hdone, hold, hnew⟩ := id ht2
  refine v_iload_n (pc := 81) d_Mo_commit_81 rfl rfl ?_
  refine v_aload_n (pc := 82) d_Mo_commit_82 rfl rfl ?_
  refine v_get (pc := 83) d_Mo_commit_83 fl_Mo_7 h1.o rfl ?_
  refine v_re hn ?_
  refine v_icmp_ge (pc := 86) (tgt := 100) d_Mo_commit_86 rfl (fun hc => ?_) (fun hc => ?_)
  · skip
    rw [nI_leI (by omega) (by omega)] at hc
    obtain rfl : v = n := by omega
    refine v_sub (L' := [(0, .ref b)]) (by simp) ?_
    exact K w1 ht2
  · skip
    rw [nI_leI (by omega) (by omega)] at hc
    refine v_aload_n (pc := 89) d_Mo_commit_89 rfl rfl ?_
    refine v_iload_n (pc := 90) d_Mo_commit_90 rfl rfl ?_
    refine v_cvV (pc := 91) (A := [.int (nI v)]) (rest := []) d_Mo_commit_91 lk_Mo_141 me_Mo_takeOver im_Mo_takeOver se_Mo_takeOver rfl h1.o rfl rfl (c_Mo_takeOver g h1 (v := v) (wd := wd v) (B := B v) (C := C v) (by omega) (by rw [hch 0 (by decide) (by decide) (by decide)]; exact (hw v (by omega)).1) (hw v (by omega)).2 (hold v (Nat.le_refl _) (by omega)) (hnew v (by omega))) (Nat.le_of_ble_eq_true rfl) (Nat.le_of_ble_eq_true rfl) (Nat.le_of_ble_eq_true rfl) (Nat.le_of_ble_eq_true rfl) (fun w2 hto => ?_)
    obtain ⟨i2, l2, q1, q2, q3, q4, q5, q6, q7, q8, q9⟩ := hto
    have hmv : ∀ u k (c : MaB), k ≤ 4 → u ≠ v → BK i1 l1 u k c → BK i2 l2 u k c := fun u k c hk hu h => by
      obtain ⟨a1, a2, a3⟩ := h
      refine ⟨by rw [q6 u hu]; exact a1, a2, Eq.trans (ar_bag_congr (fun r hr c hc => q7 _ ?_) (fun r hr => q8 _ ?_)) a3⟩
      · rcases Nat.lt_or_gt_of_ne hu with h | h
        · left; omega
        · right; omega
      · rcases Nat.lt_or_gt_of_ne hu with h | h
        · left; omega
        · right; omega
    have hnext : mo_t2 w b sc ia n wd B C (v + 1) w2 := ⟨i2, l2, q1, hfr.tr q2, fun i a1 a2 a3 => (q3 i a1 a2 a3).trans (hch i a1 a2 a3), fun u hu => by
      by_cases e : u = v
      · subst e; exact ⟨q5, q9⟩
      · exact ⟨(q4 u e).trans (hdone u (by omega)).1, hmv u _ _ (hw u (by omega)).2 e (hdone u (by omega)).2⟩,
      fun u hu hun => hmv u _ _ (hw u hun).2 (by omega) (hold u (by omega) hun), fun u hun => hmv _ _ _ (hw u hun).2 (by omega) (hnew u hun)⟩
    refine v_iinc (pc := 94) (L' := [(2, .int (nI (v + 1))), (0, .ref b)]) d_Mo_commit_94 rfl (ix_inc _) (by decide) rfl ?_
    refine v_goto (pc := 97) (tgt := 81) d_Mo_commit_97 rfl ?_
    refine v_sub (L' := [(2, .int (nI (v + 1))), (0, .ref b)]) (by simp) ?_
    exact ih (n - (v + 1)) (by omega) (v + 1) _ rfl (by omega) hnext
