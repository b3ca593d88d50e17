/-! The room of 32 rows is enough. -/
theorem op_jn_nd {p q a : Nat} {B C : MaB} (hB : ma_nd B) (hC : ma_nd C) (hl : ∀ x ∈ B, x.1.length = a) : ma_nd (op_jn p q B C) := by
  unfold ma_nd op_jn
  rw [List.pairwise_flatMap]
  refine ⟨fun y hy => ?_, ?_⟩
  · unfold op_jn1
    rw [List.pairwise_map]
    refine List.Pairwise.imp (fun {z z'} h e => h ?_) (List.Pairwise.filter _ hC)
    exact List.append_cancel_left e
  · refine List.Pairwise.imp_of_mem (fun {y y'} hy hy' h => ?_) hB
    intro x hx x' hx' e
    unfold op_jn1 at hx hx'
    obtain ⟨z, _, rfl⟩ := List.mem_map.mp hx
    obtain ⟨z', _, rfl⟩ := List.mem_map.mp hx'
    exact h (List.append_inj e (by rw [hl y hy, hl y' hy'])).1
theorem tie_small {A : MaB} (h : A.length ≤ 32) : ma_foldC [] A = ma_fold [] A := ma_foldC_small (by simpa using h)
theorem fold_tie {wd : Nat → Nat} {β : Nat → MaB} {v : Nat} {o : VOp} (hW : WO wd v o) (hB : ∀ u, u < v → ma_ok (wd u) (β u) ∧ (β u).length ≤ 16) :
    ((ma_foldC [] (op_adds (wd v) β o)).length ≤ 16 ↔ (ma_fold [] (op_adds (wd v) β o)).length ≤ 16) ∧ ((ma_fold [] (op_adds (wd v) β o)).length ≤ 16 → ma_foldC [] (op_adds (wd v) β o) = ma_fold [] (op_adds (wd v) β o)) := by
  have hrow := op_adds_row hW (fun u hu x hx => ((hB u hu).1.2 x hx).1)
  obtain ⟨k, e, f, P, Q, R⟩ := o
  obtain ⟨_, _, hh⟩ := hW
  dsimp only at hh
  have hsm : (op_adds (wd v) β (k, e, f, P, Q, R)).length ≤ 32 → ((ma_foldC [] (op_adds (wd v) β (k, e, f, P, Q, R))).length ≤ 16 ↔ (ma_fold [] (op_adds (wd v) β (k, e, f, P, Q, R))).length ≤ 16) ∧ ((ma_fold [] (op_adds (wd v) β (k, e, f, P, Q, R))).length ≤ 16 → ma_foldC [] (op_adds (wd v) β (k, e, f, P, Q, R)) = ma_fold [] (op_adds (wd v) β (k, e, f, P, Q, R))) := fun h => by
    rw [tie_small h]; exact ⟨Iff.rfl, fun _ => rfl⟩
  rcases hh with ⟨rfl, he, _⟩ | ⟨rfl, he, _⟩ | ⟨rfl, he, hf, hww, _⟩ | ⟨rfl, he, hf, _⟩ | ⟨rfl, he, _⟩ | ⟨kd, hkd, rfl, he, _⟩
  · refine hsm ?_
    rw [oa1]
    have h1 : (op_sel (i2n P) Q R (β e)).length ≤ (β e).length := List.length_filter_le _ _
    have := (hB e he).2
    omega
  · refine hsm ?_
    rw [oa2, op_prj_len]
    have := (hB e he).2
    omega
  · rw [oa3] at hrow ⊢
    have hnd : ma_nd (op_jn (i2n P) (i2n Q) (β e) (β f)) := op_jn_nd (ma_srt_nd (hB e he).1.1) (ma_srt_nd (hB f hf).1.1) (fun x hx => ((hB e he).1.2 x hx).1)
    have h1 := ma_fold_new (b := []) (ma_ok_nil (wd v)) hrow hnd (fun x _ y hy => by cases hy)
    obtain ⟨h2, h3⟩ := ma_foldC_new (b := []) (ma_ok_nil (wd v)) (by decide) hrow hnd (fun x _ y hy => by cases hy)
    rw [← h1] at h2 h3
    by_cases h : (ma_fold [] (op_jn (i2n P) (i2n Q) (β e) (β f))).length ≤ 32
    · rw [h2 h]; exact ⟨Iff.rfl, fun _ => rfl⟩
    · have h4 := h3 (by omega)
      exact ⟨⟨fun h => by omega, fun h => by omega⟩, fun h => by omega⟩
  · refine hsm ?_
    rw [oa4, List.length_append]
    have h1 := (hB e he).2
    have h2 := (hB f hf).2
    omega
  · refine hsm ?_
    rw [oa8, op_dis_len]
    have := (hB e he).2
    omega
  · refine hsm ?_
    rw [oa5 hkd]
    have h1 := op_gr_len kd (i2n P) (i2n Q) (β e) (β e).length
    have := (hB e he).2
    omega
