/-! The claim out of the law's contract. -/
theorem st_T {A : Array Value} {s : State} (h : ∀ w ∈ lw_tbl, w.before A s = true) : fw_T s := by
  have h4 : ∀ c : Cond, fw_keep c = true → c.before A s = true → c.before #[] s = true := by
    intro c h2 h3
    cases c <;> first | exact h3 | (simp [fw_keep, Cond.onTables, Cond.keeps] at h2)
  intro c hc
  obtain ⟨h1, h2⟩ := List.mem_filter.mp hc
  exact h4 c h2 (h c h1)
theorem st_st {n dd : String} {A : Array Value} {s : State} (h1 : (Cond.laysStatic Bundle.tN n dd).before A s = true) (h2 : (Cond.isRef (.static Bundle.tN n dd)).before A s = true) : fw_st n dd s s.heap := by
  obtain ⟨c, k, i, f, a, cell, q1, q2, q3, q4, q5, q6, q7, q8, q9⟩ := Cond.laysStatic_spec (args := A) h1
  obtain ⟨⟨v, hv⟩, hu⟩ := Cond.staticRefV (args := A) q2 q3 q4 q5 q6 h2
  exact ⟨c, k, i, f, a, cell, v, q1, q2, q3, q4, q5, q6, q7, q8, q9, hu, hv⟩
theorem st_kn {own : String} {idx ci N : Nat} {fs : List Value} {s : State} (h : fw_nw own idx ci fs N) (hT : fw_T s) : ∃ (cC : ClassId) (iS : Nat → Nat), ∀ q, vwCl[ci]? = some q → u_Kn s q.1 q.2.1 q.2.2 cC iS := by
  obtain ⟨C, T, h1, h2, -, h3, -⟩ := h
  obtain ⟨cC, iS, h9⟩ := u_known (ws := fw_big) (args := #[]) (n := N) hT h2 (hT _ h3)
  refine ⟨cC, iS, fun q hq => ?_⟩
  cases h1.symm.trans hq
  exact h9
theorem st_all {s : State} (hT : fw_T s) : ∀ i : Nat, ∃ x : ClassId × (Nat → Nat), ∀ q, vwCl[i]? = some q → u_Kn s q.1 q.2.1 q.2.2 x.1 x.2 := by
  intro i
  have key : ∀ {own : String} {idx ci N : Nat} {fs : List Value}, fw_nw own idx ci fs N → ∃ x : ClassId × (Nat → Nat), ∀ q, vwCl[ci]? = some q → u_Kn s q.1 q.2.1 q.2.2 x.1 x.2 := fun h => by
    obtain ⟨a, b, h9⟩ := st_kn h hT
    exact ⟨(a, b), h9⟩
  by_cases hi : i < 12
  · have hc : i = 0 ∨ i = 1 ∨ i = 2 ∨ i = 3 ∨ i = 4 ∨ i = 5 ∨ i = 6 ∨ i = 7 ∨ i = 8 ∨ i = 9 ∨ i = 10 ∨ i = 11 := by omega
    rcases hc with rfl | rfl | rfl | rfl | rfl | rfl | rfl | rfl | rfl | rfl | rfl | rfl
    · exact key nw_Law_8
    · exact key nw_DV_9
    · exact key nw_View_7
    · exact key nw_DV_19
    · exact key nw_DV_26
    · exact key nw_DV_86
    · exact key nw_DV_101
    · exact key nw_DV_117
    · exact key nw_DV_124
    · exact key nw_DV_131
    · exact key nw_DV_134
    · exact key nw_Law_70
  · refine ⟨(0, fun _ => 0), fun q hq => ?_⟩
    have h9 : vwCl[i]? = none := List.getElem?_eq_none (by show 12 ≤ i; omega)
    rw [h9] at hq
    cases hq
theorem st_K {s : State} (l : Launch) (sc : ClassId) (hT : fw_T s) : ∃ g : Gl, g.1 = l ∧ g.2.1.1 99 = sc ∧ fw_K g s := by
  obtain ⟨f, hf⟩ := Classical.axiomOfChoice (st_all hT)
  obtain ⟨ci, ki, pi, i1, i2, i3⟩ := Cond.arrayClass_spec (args := #[]) (type := .int) (hT (Cond.arrayClass .int) (fw_mem 92 (by decide +kernel) rfl))
  obtain ⟨cj, kj, pj, j1, j2, j3⟩ := Cond.arrayClass_spec (args := #[]) (type := .long) (hT (Cond.arrayClass .long) (fw_mem 143 (by decide +kernel) rfl))
  obtain ⟨po, co, ko, o1, -, o2, o3, o4⟩ := Cond.arrayOver_spec (args := #[]) (ao_View s hT)
  refine ⟨(l, (fun i => if i = 99 then sc else (f i).1, fun i => (f i).2), ci, cj, co), rfl, (show (if (99 : Nat) = 99 then sc else (f 99).1) = sc from if_pos rfl), ⟨fun c q hq => ?_, fun k q hk => ?_⟩, hT⟩
  · have hc : ¬ c = 99 := fun e => by
      rw [e] at hq
      cases hq
    show u_Kn s q.1 q.2.1 q.2.2 (if c = 99 then sc else (f c).1) (f c).2
    rw [if_neg hc]
    exact hf c q hq
  · match k, hk with
    | 0, hk =>
      cases hk
      exact ⟨fun n z => ⟨fun k h => (by cases h), ki, i2, pi, i3⟩, i1⟩
    | 1, hk =>
      cases hk
      exact ⟨fun n z => ⟨fun k h => (by cases h), kj, j2, pj, j3⟩, j1⟩
    | 2, hk =>
      cases hk
      exact ⟨fun n z => ⟨fun k h => (by cases h), ko, o2, po, o3⟩, ko, po, o2, o3, o1, o4⟩
    | k + 3, hk => cases hk
theorem st_na {A : Array Value} {s : State} (h : (Jvm.Cond.and given_1 narrow_1).before A s = true) : fw_na s := by
  have hs := flat_of_before _ h
  have key : ∀ (X Y : String), (Cond.not (.castable X Y)).before A s = true → ∀ c c' : ClassId, s.vm.findClass X = some c → s.vm.findClass Y = some c' → s.vm.assignable c c' = false := by
    intro X Y hn c c' h1 h2
    have hv := Cond.holds_not_iff.mp hn
    simp only [Cond.value, h1, h2] at hv
    exact Option.some.inj hv
  intro i j hij
  simp only [List.mem_cons, Prod.mk.injEq, List.not_mem_nil, or_false] at hij
  rcases hij with ⟨rfl, rfl⟩ | ⟨rfl, rfl⟩ | ⟨rfl, rfl⟩ | ⟨rfl, rfl⟩
  · exact key _ _ (hs _ (by decide +kernel))
  · exact key _ _ (hs _ (by decide +kernel))
  · exact key _ _ (hs _ (by decide +kernel))
  · exact key _ _ (hs _ (by decide +kernel))
theorem st_str {A : Array Value} {s : State} (h : ∀ w ∈ lw_tbl, w.before A s = true) (i : Nat) (tx : String) (hi : Cond.stringRef "DeltaViews" i tx ∈ tables_1) : ∃ a, vk_R "DeltaViews" i tx a s := by
  obtain ⟨cur, kc, hcur, -⟩ := Cond.instantiable_spec (args := #[]) (st_T h (Cond.instantiable "DeltaViews" 3) (fw_mem 61 (by decide +kernel) rfl))
  have h1 := h _ (List.mem_append.mpr (Or.inr hi))
  obtain ⟨k, cf, i', a, -, -, -, -, -, he⟩ := Cond.stringRef_spec (args := A) hcur h1
  exact ⟨a, vk_R.of (A := A) h1 he⟩
