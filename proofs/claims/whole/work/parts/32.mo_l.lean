/-! What a view is made by: kind (0 a table; 1 select, 2 project, 3 join, 4 union, 5 to 7 group, 8 distinct), two views, three numbers. -/
abbrev VOp : Type := Nat × Nat × Nat × Int32 × Int32 × Int32
def i2n (x : Int32) : Nat := x.toInt.toNat
theorem i2n_nI {n : Nat} (h : n < 2 ^ 31) : i2n (nI n) = n := by unfold i2n; rw [nI_toInt h]; rfl
def colN (cols : Int32) (c : Nat) : Nat := i2n ((cols >>> (nI (4 * c) &&& 31)) &&& nI 15)
theorem and15 (x : Int32) : x &&& nI 15 = nI (i2n (x &&& nI 15)) ∧ i2n (x &&& nI 15) < 16 := by
  have h1 : (x &&& nI 15).toBitVec.toNat ≤ 15 := by
    show (x.toBitVec &&& 15#32).toNat ≤ 15
    rw [BitVec.toNat_and]
    exact Nat.and_le_right
  have h2 : (x &&& nI 15).toInt = ((x &&& nI 15).toBitVec.toNat : Int) := by
    show (x &&& nI 15).toBitVec.toInt = _
    rw [BitVec.toInt_eq_toNat_of_lt (by omega)]
  have h3 : i2n (x &&& nI 15) = (x &&& nI 15).toBitVec.toNat := by unfold i2n; rw [h2]; rfl
  refine ⟨Int32.toInt_inj.mp ?_, by omega⟩
  rw [nI_toInt (by omega), h3, h2]
theorem colN_eq (cols : Int32) (c : Nat) : (cols >>> (nI (4 * c) &&& 31)) &&& nI 15 = nI (colN cols c) := (and15 _).1
theorem colN_lt (cols : Int32) (c : Nat) : colN cols c < 16 := (and15 _).2
def op_adds (wv : Nat) (β : Nat → MaB) (o : VOp) : MaB :=
  if o.1 = 1 then op_sel (i2n o.2.2.2.1) o.2.2.2.2.1 o.2.2.2.2.2 (β o.2.1)
  else if o.1 = 2 then op_prj wv (colN o.2.2.2.1) (β o.2.1)
  else if o.1 = 3 then op_jn (i2n o.2.2.2.1) (i2n o.2.2.2.2.1) (β o.2.1) (β o.2.2.1)
  else if o.1 = 4 then β o.2.1 ++ β o.2.2.1
  else if o.1 = 8 then op_dis (β o.2.1)
  else op_gr (o.1 - 5) (i2n o.2.2.2.1) (i2n o.2.2.2.2.1) (β o.2.1) (β o.2.1).length
def WO (wd : Nat → Nat) (v : Nat) (o : VOp) : Prop := 1 ≤ wd v ∧ wd v ≤ 4 ∧
  ((o.1 = 1 ∧ o.2.1 < v ∧ wd v = wd o.2.1 ∧ ∃ p, o.2.2.2.1 = nI p ∧ p < wd o.2.1) ∨
   (o.1 = 2 ∧ o.2.1 < v ∧ ∀ c, c < wd v → colN o.2.2.2.1 c < wd o.2.1) ∨
   (o.1 = 3 ∧ o.2.1 < v ∧ o.2.2.1 < v ∧ wd v = wd o.2.1 + wd o.2.2.1 ∧ ∃ p q, o.2.2.2.1 = nI p ∧ o.2.2.2.2.1 = nI q ∧ p < wd o.2.1 ∧ q < wd o.2.2.1) ∨
   (o.1 = 4 ∧ o.2.1 < v ∧ o.2.2.1 < v ∧ wd o.2.1 = wd v ∧ wd o.2.2.1 = wd v) ∨
   (o.1 = 8 ∧ o.2.1 < v ∧ wd o.2.1 = wd v) ∨
   (∃ kd, kd ≤ 2 ∧ o.1 = 5 + kd ∧ o.2.1 < v ∧ wd v = 2 ∧ ∃ p q, o.2.2.2.1 = nI p ∧ o.2.2.2.2.1 = nI q ∧ p < wd o.2.1 ∧ q < wd o.2.1))
theorem op_gr_row (kd p q : Nat) (B : MaB) : ∀ r, ∀ x ∈ op_gr kd p q B r, x.1.length = 2
  | 0 => fun x hx => by cases hx
  | r + 1 => fun x hx => by
    rw [op_gr] at hx
    rcases List.mem_append.mp hx with h | h
    · exact op_gr_row kd p q B r x h
    · split at h
      · split at h
        · rw [List.mem_singleton] at h; subst h; rfl
        · cases h
      · cases h
theorem op_adds_row {wd : Nat → Nat} {β : Nat → MaB} {v : Nat} {o : VOp} (hW : WO wd v o) (hB : ∀ u, u < v → ∀ x ∈ β u, x.1.length = wd u) : ∀ x ∈ op_adds (wd v) β o, x.1.length = wd v := by
  obtain ⟨k, e, f, P, Q, R⟩ := o
  obtain ⟨h1, h4, h⟩ := hW
  dsimp only at h
  unfold op_adds
  dsimp only
  intro x hx
  rcases h with ⟨rfl, he, hw, _⟩ | ⟨rfl, he, hw⟩ | ⟨rfl, he, hf, hw, _⟩ | ⟨rfl, he, hf, hw1, hw2⟩ | ⟨rfl, he, hw⟩ | ⟨kd, hkd, rfl, he, hw, _⟩
  · rw [if_pos rfl] at hx
    rw [hw]; exact hB e he x (List.mem_filter.mp hx).1
  · rw [if_neg (by decide), if_pos rfl] at hx
    obtain ⟨y, hy, rfl⟩ := List.mem_map.mp hx
    simp
  · rw [if_neg (by decide), if_neg (by decide), if_pos rfl] at hx
    obtain ⟨y, hy, hx⟩ := List.mem_flatMap.mp hx
    obtain ⟨z, hz, rfl⟩ := List.mem_map.mp hx
    rw [List.length_append, hB e he y hy, hB f hf z (List.mem_filter.mp hz).1, hw]
  · rw [if_neg (by decide), if_neg (by decide), if_neg (by decide), if_pos rfl] at hx
    rcases List.mem_append.mp hx with h | h
    · rw [hB e he x h, hw1]
    · rw [hB f hf x h, hw2]
  · rw [if_neg (by decide), if_neg (by decide), if_neg (by decide), if_neg (by decide), if_pos rfl] at hx
    obtain ⟨y, hy, rfl⟩ := List.mem_map.mp hx
    rw [← hw]; exact hB e he y hy
  · rw [if_neg (by omega), if_neg (by omega), if_neg (by omega), if_neg (by omega), if_neg (by omega)] at hx
    rw [hw]; exact op_gr_row _ _ _ _ _ x hx
/-! The reference's blocks. -/
def BK (ia : Nat → Nat → Int32) (la : Nat → Nat → Int64) (k wd : Nat) (c : MaB) : Prop := ia 8 k = nI c.length ∧ c.length ≤ 16 ∧ ar_bag (ia 10) (la 9) wd (16 * k) c.length = c
theorem BK.row {ia : Nat → Nat → Int32} {la : Nat → Nat → Int64} {k wd : Nat} {c : MaB} (h : BK ia la k wd c) : ∀ x ∈ c, x.1.length = wd := by
  intro x hx
  rw [← h.2.2] at hx
  obtain ⟨r, _, rfl⟩ := ar_bag_mem hx
  exact ar_row_len _ _ _
def mo_ch (k : Nat) (sc : Nat → Int32) (ia : Nat → Nat → Int32) (la : Nat → Nat → Int64) (sc' : Nat → Int32) (ia' : Nat → Nat → Int32) (la' : Nat → Nat → Int64) : Prop :=
  (∀ j, j ≠ 2 → sc' j = sc j) ∧ (∀ i, i ≠ 8 → i ≠ 10 → i ≠ 12 → i ≠ 13 → ia' i = ia i) ∧ (∀ i, i ≠ k → ia' 8 i = ia 8 i) ∧ (∀ i, i < 64 * k ∨ 64 * k + 64 ≤ i → ia' 10 i = ia 10 i) ∧ (∀ i, i < 16 * k ∨ 16 * k + 16 ≤ i → la' 9 i = la 9 i)
theorem BK.ch {sc sc' : Nat → Int32} {ia ia' : Nat → Nat → Int32} {la la' : Nat → Nat → Int64} {k u wd : Nat} {c : MaB} (h : BK ia la u wd c) (hw : wd ≤ 4) (hc : mo_ch k sc ia la sc' ia' la') (hu : u ≠ k) : BK ia' la' u wd c := by
  obtain ⟨h1, h2, h3⟩ := h
  obtain ⟨c1, c2, c3, c4, c5⟩ := hc
  refine ⟨by rw [c3 u hu]; exact h1, h2, Eq.trans (ar_bag_congr (fun r hr c hc => c4 _ ?_) (fun r hr => c5 _ ?_)) h3⟩
  · rcases Nat.lt_or_gt_of_ne hu with h | h
    · left; omega
    · right; omega
  · rcases Nat.lt_or_gt_of_ne hu with h | h
    · left; omega
    · right; omega
theorem mo_ch.tr2 {k : Nat} {sc s1 s2 : Nat → Int32} {ia i1 i2 : Nat → Nat → Int32} {la l1 l2 : Nat → Nat → Int64} (h : mo_ch k sc ia la s1 i1 l1) (g : mo_ch k s1 i1 l1 s2 i2 l2) : mo_ch k sc ia la s2 i2 l2 :=
  ⟨fun j hj => (g.1 j hj).trans (h.1 j hj), fun i a b c d => (g.2.1 i a b c d).trans (h.2.1 i a b c d), fun i hi => (g.2.2.1 i hi).trans (h.2.2.1 i hi), fun i hi => (g.2.2.2.1 i hi).trans (h.2.2.2.1 i hi), fun i hi => (g.2.2.2.2 i hi).trans (h.2.2.2.2 i hi)⟩
def mo_wp (w : Wd) (b : Nat) (sc : Nat → Int32) (ia : Nat → Nat → Int32) (la : Nat → Nat → Int64) (k wd mo : Nat) (c : MaB) (w' : Wd) : Prop :=
  ∃ sc' ia' la', MAt w' b sc' ia' la' ∧ mo_fr b w w' ∧ mo_ch k sc ia la sc' ia' la' ∧ (c.length ≤ mo → BK ia' la' k wd c)
theorem c_Mo_settle (g : Gl) {w w1 : Wd} {b sz : Nat} {sc : Nat → Int32} {ia : Nat → Nat → Int32} {la : Nat → Nat → Int64} {k wd mo : Nat} {A : MaB} (hk : k < 24) (hw1 : 1 ≤ wd) (hwd : wd ≤ 4) (hmo : mo ≤ 16) (hG : (ma_gf [] A).length ≤ 256) (hA : ∀ x ∈ A, x.1.length = wd) (h : mo_gs w b sc ia la wd (ma_gf [] A) w1) :
    CT g 1 0 0 mi_Mo_settle [.ref b, .int (nI k), .int (nI wd), .int (nI mo)] w1 sz (wrE (some (.int (if (ma_fold [] A).length ≤ mo then 1 else 0))) sz (mo_wp w b sc ia la k wd mo (ma_fold [] A))) := by
  obtain ⟨f1, o1, m1, h1, hfr, hGG⟩ := h
  have hok : ma_ok wd (ma_fold [] A) := ma_fold_ok (ma_ok_nil wd) hA
  have hp : ((ar_bag f1 m1 wd 0 (ma_gf [] A).length).filter (fun x => decide (x.2 ≠ 0))).Perm (ma_fold [] A) := by rw [hGG]; exact ma_perm hA
  have hl : (ma_fold [] A).length ≤ 256 := by
    rw [← hp.length_eq]
    refine Nat.le_trans (List.length_filter_le _ _) ?_
    rw [ar_bag_len]; exact hG
  by_cases hc : (ma_fold [] A).length ≤ mo
  · refine CT.mono (c_Mo_settle_ok g h1 (n := (ma_gf [] A).length) (k := k) (wd := wd) (mo := mo) rfl hG hk hw1 hwd hmo hok hp hc) ?_
    rintro r w' sz' ⟨rfl, rfl, f2, m2, q1, q2, q3, q4, q5⟩
    refine ⟨by rw [if_pos hc]; rfl, rfl, _, _, _, q1, hfr.tr q2, ⟨?_, ?_, ?_, ?_, ?_⟩, fun _ => ⟨pk_us, by omega, q3⟩⟩
    · intro j hj; exact va_up_ne _ _ hj
    · intro i a1 a2 a3 a4; rw [va_up_ne _ _ a2, va_up_ne _ _ a1, va_up_ne _ _ a4, va_up_ne _ _ a3]
    · intro i hi; exact pk_un hi
    · intro i hi; exact q5 i hi
    · intro i hi; exact q4 i hi
  · refine CT.mono (c_Mo_settle_no g h1 (n := (ma_gf [] A).length) (k := k) (wd := wd) (mo := mo) rfl hG hk hw1 hwd hmo hok hp (by omega) hl) ?_
    rintro r w' sz' ⟨rfl, rfl, rfl⟩
    refine ⟨by rw [if_neg hc]; rfl, rfl, _, _, _, h1, hfr, ⟨?_, ?_, ?_, ?_, ?_⟩, fun h => absurd h hc⟩
    · intro j hj; exact va_up_ne _ _ hj
    · intro i a1 a2 a3 a4; rw [va_up_ne _ _ a4, va_up_ne _ _ a3]
    · intro i hi; rfl
    · intro i hi; rfl
    · intro i hi; rfl
