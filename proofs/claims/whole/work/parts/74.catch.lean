/-! What is thrown is caught: the law's wrappers. -/
theorem ct_go {e : Env} {f : JFrame} {a : Addr} {s : State} {x : ClassFile.ExceptionTableEntry} {t : List ClassFile.ExceptionTableEntry} {c : ClassId} {cell : Cell} (hx : covers x f.pc = true) (h0 : x.catchType ≠ 0)
    (hl : s.vm.ClassLinks e.platform f.method.cls x.catchType c) (hcell : s.heap[a]? = some cell) (hobj : ∀ k, cell.vm ≠ .statics k) (hk : ∃ k, s.vm.classes[cell.cls]? = some k) (hc : ∃ k, s.vm.classes[c]? = some k) :
    (s.vm.assignable cell.cls c = true → ∀ Q E d acts, Sem.wp (findHandler.go f a (x :: t)) Q E e d acts s ↔ Q (.found x.handlerPc) d acts (s.setVm (s.vm.noted f.method.cls x.catchType (.cls c)))) ∧
    (s.vm.assignable cell.cls c = false → ∀ Q E d acts, Sem.wp (findHandler.go f a (x :: t)) Q E e d acts s ↔ Sem.wp (findHandler.go f a t) Q E e d acts (s.setVm (s.vm.noted f.method.cls x.catchType (.cls c)))) := by
  simp only [covers] at hx
  obtain ⟨ha, ht⟩ := (resolveClass_links e.toSetting hl).op (op := VmOp.resolveClass f.method.cls x.catchType) rfl
  have hal : s.vm.Alike (s.vm.noted f.method.cls x.catchType (.cls c)) := (Vm.Alike.refl s.vm).noted _ _ _
  obtain ⟨k1, hk1⟩ := hk
  obtain ⟨k2, hk2⟩ := hc
  obtain ⟨k1', hk1', -⟩ := hal.2.2 _ _ hk1
  obtain ⟨k2', hk2', -⟩ := hal.2.2 _ _ hk2
  have e9 := hal.assignable cell.cls c
  refine ⟨fun h Q E d acts => ?_, fun h Q E d acts => ?_⟩
  · rw [h] at e9
    simp [findHandler.go, hx, h0, ha, ht, hcell, hobj, hk1', hk2', e9, VmOp.dirties, VmOp.acts]
  · rw [h] at e9
    simp [findHandler.go, hx, h0, ha, ht, hcell, hobj, hk1', hk2', e9, VmOp.dirties, VmOp.acts]
theorem ct_all {e : Env} {s₀ : State} {f : JFrame} {a : Addr} {cell : Cell} (hobj : ∀ k, cell.vm ≠ .statics k) (hk0 : ∃ k, s₀.vm.classes[cell.cls]? = some k) (x : ClassFile.ExceptionTableEntry) (rest : List ClassFile.ExceptionTableEntry) (hx : covers x f.pc = true) (h0 : x.catchType ≠ 0) {c : ClassId} (hl : s₀.vm.ClassLinks e.platform f.method.cls x.catchType c) (hfit : s₀.vm.assignable cell.cls c = true) :
    ∀ (pre : List ClassFile.ExceptionTableEntry) (S : State), s₀.WarmedH S.vm → S.heap[a]? = some cell → (∀ y ∈ pre, covers y f.pc = true ∧ y.catchType ≠ 0 ∧ ∃ c, s₀.vm.ClassLinks e.platform f.method.cls y.catchType c ∧ s₀.vm.assignable cell.cls c = false) →
      ∃ vm', s₀.WarmedH vm' ∧ ∀ Q E d acts, Sem.wp (findHandler.go f a (pre ++ x :: rest)) Q E e d acts S ↔ Q (.found x.handlerPc) d acts (S.setVm vm') := by
  intro pre
  induction pre with
  | nil =>
    intro S hW hcell _
    obtain ⟨dk, _, _, kt, hd, _, _, _, _, hkt, _, ho⟩ := hl.here
    obtain ⟨k0, hk0⟩ := hk0
    obtain ⟨k0', hk0', -⟩ := hW.alike.2.2 _ _ hk0
    obtain ⟨kt', hkt', -⟩ := hW.alike.2.2 _ _ hkt
    exact ⟨_, hW.noted hd ho (State.rightAt_cls hl), (ct_go hx h0 (hW.classLinks hl) hcell hobj ⟨k0', hk0'⟩ ⟨kt', hkt'⟩).1 (by rw [hW.alike.assignable]; exact hfit)⟩
  | cons y ys ih =>
    intro S hW hcell hp
    obtain ⟨hy, hy0, c9, hl9, hno⟩ := hp y List.mem_cons_self
    obtain ⟨dk, _, _, kt, hd, _, _, _, _, hkt, _, ho⟩ := hl9.here
    obtain ⟨k0, hk0⟩ := hk0
    obtain ⟨k0', hk0', -⟩ := hW.alike.2.2 _ _ hk0
    obtain ⟨kt', hkt', -⟩ := hW.alike.2.2 _ _ hkt
    obtain ⟨vm', hW', hq⟩ := ih (S.setVm (S.vm.noted f.method.cls y.catchType (.cls c9))) (hW.noted hd ho (State.rightAt_cls hl9)) hcell (fun z hz => hp z (List.mem_cons_of_mem _ hz))
    refine ⟨vm', hW', fun Q E d acts => ?_⟩
    exact ((ct_go (t := ys ++ x :: rest) hy hy0 (hW.classLinks hl9) hcell hobj ⟨k0', hk0'⟩ ⟨kt', hkt'⟩).2 (by rw [hW.alike.assignable]; exact hno) Q E d acts).trans (hq Q E d acts)
theorem ct_step {tb : Tables} {e : Env} {s target : State} {g : JFrame} {c : ClassFile.Code} {below : List Frame} {a : Addr} (h : At s g.method c below) {pc : Nat} {vm' : Vm}
    (hfind : ∀ Q E d acts, Sem.wp (findHandler g a) Q E e d acts ((s.setTop g).pushFrame (.throwing a)) ↔ Q (.found pc) d acts (((s.setTop g).pushFrame (.throwing a)).setVm vm')) (hrest : Steps tb e below ((s.setVm vm').setTop { g with pc := pc, stack := [.ref a] }) target) :
    Steps tb e below ((s.setTop g).pushFrame (.throwing a)) target := by
  obtain ⟨hgo, hw⟩ := h.throwing a
  refine Steps.head hgo hw ?_
  have hone : ∀ r : List Frame, (stepThrowing e ((s.setTop g).pushFrame (.throwing a)) a (.java g :: r)).Is ((((s.setTop g).pushFrame (.throwing a)).setVm vm').setFrames (.java { g with pc := pc, stack := [.ref a] } :: r)) [] := by
    intro r
    simp only [stepThrowing, searchFrame, vmDo]
    generalize hr : Sem.go _ e false [] ((s.setTop g).pushFrame (.throwing a)) = res
    obtain ⟨as, rfl, ha⟩ := Sem.eq_ok_of hr (a := Handler.found pc) (s' := ((s.setTop g).pushFrame (.throwing a)).setVm vm') (acts' := []) (by simp [hfind _ _ _ _])
    exact ⟨rfl, ha⟩
  rw [stepThread_throwing (frames_entered h.top _), (hone _).1]
  obtain ⟨g₀, hg⟩ := Option.isSome_iff_exists.mp h.top
  obtain ⟨r, hr⟩ := State.topJava?_eq_some.mp hg
  have hr' : (s.setVm vm').frames = .java g₀ :: r := hr
  have hsf : ∀ (u : State) (F G : List Frame), ((u.setFrames F).setVm vm').setFrames G = (u.setVm vm').setFrames G := fun u F G => by
    have h1 : (u.setFrames F).setVm vm' = (u.setVm vm').setFrames F := rfl
    rw [h1, State.setFrames_setFrames]
  rw [State.setTop_of_frames _ hr'] at hrest
  rw [hr, List.tail_cons, State.pushFrame, hsf, State.setTop_of_frames _ hr, hsf]
  exact hrest
section VCT
variable {g : Gl} {d mc ms : Nat} {M : Mi} {w0 : Wd} {sz0 : Nat} {E : Rs → Wd → Nat → Prop} {pc : Nat} {L : List (Nat × Value)} {S : List Value} {w : Wd} {sz nc ns : Nat}
theorem vt_catch {k a b h ct : Nat} (pre : List (Nat × Nat × Nat × Nat)) (rest : List (Nat × Nat × Nat × Nat)) (hM : M.2.2.2.2 = pre ++ (a, b, h, ct) :: rest) (hpre : ∀ y ∈ pre, (y.1 ≤ pc ∧ pc < y.2.1) ∧ y.2.2.2 ≠ 0 ∧ ∃ j, (k, j) ∈ [(2, 1), (3, 1), (3, 2), (4, 1)] ∧ Cond.classLink M.1.cls y.2.2.2 (fw_ex j) ∈ fw_big) (hx : a ≤ pc ∧ pc < b) (h0 : ct ≠ 0) (hl : Cond.classLink M.1.cls ct (fw_ex k) ∈ fw_big) (hca : Cond.castable (fw_ex k) (fw_ex k) ∈ fw_big)
    (kk : ∀ x : Nat, VV g d mc ms M w0 sz0 E h L [.ref x] w sz nc ns) : VT g d mc ms M w0 sz0 E pc L S w sz nc ns k := by
  intro p e s m args below meth c T locs ls x cell hC hH hz hxt hlc hL X hx0 hc1 hc2 hc3
  have hT := hC.2.2.2.2.1.2
  have hX := hC.2.2.2.2.2.2.2
  have hown := fw_K.own hC
  have hpl : e.platform.magicAccessors = ({} : Platform).magicAccessors := by rw [X.admits.platform]
  obtain ⟨c', hc', hcl⟩ := Cond.classLink_spec (args := args) hown (fw_use hT hl rfl) e.platform hpl
  have hc4 : s.vm.findClass (fw_ex k) = some cell.cls := by rw [← X.warmed.alike.findClass]; exact hc3
  cases Option.some.inj (hc'.symm.trans hc4)
  obtain ⟨c3, c5, q1, q2, hfit⟩ := Cond.castable_spec (fw_use (A := args) hT hca rfl)
  cases Option.some.inj (q1.symm.trans hc4)
  cases Option.some.inj (q2.symm.trans hc4)
  have htb := hC.2.1.2.2.1
  rw [hM] at htb
  obtain ⟨l1, l2, t1, t2, t3⟩ := List.map_eq_append_iff.mp htb
  obtain ⟨y, l3, t4, t5, t6⟩ := List.map_eq_cons_iff.mp t3
  simp only [Prod.mk.injEq] at t5
  obtain ⟨y1, y2, y3, y4⟩ := t5
  rw [t4] at t1
  obtain ⟨vm', hW', hq⟩ := ct_all (e := e) (f := F0 m pc ls S) (a := x) (cell := cell) (s₀ := s) (fun k9 h9 => by rw [hc2] at h9; cases h9) (Vm.classAt_of_findClass hc4) y l3 (by simp only [covers]; simp [F0, y1, y2, hx.1, hx.2]) (by rw [y4]; exact h0) (by rw [y4]; exact hcl) hfit l1 ((T.setTop (F0 m pc ls S)).pushFrame (.throwing x)) X.warmed hc1 (fun z hz9 => by
    obtain ⟨⟨z1, z2⟩, z3, j, z4, z5⟩ := hpre (z.startPc, z.endPc, z.handlerPc, z.catchType) (by rw [← t2]; exact List.mem_map.mpr ⟨z, hz9, rfl⟩)
    obtain ⟨c9, hc9, hcl9⟩ := Cond.classLink_spec (args := args) hown (fw_use hT z5 rfl) e.platform hpl
    exact ⟨by simp only [covers]; simp [F0, z1, z2], z3, c9, hcl9, hX.2.2.2.2.1 k j z4 _ _ hc4 hc9⟩)
  obtain ⟨t, a1, b1⟩ := kk x p e s m args below meth c T.heap locs ls hC hH hz hxt hlc hL (T.setVm vm') rfl (X.noted hW')
  refine ⟨t, ct_step (pc := y.handlerPc) (vm' := vm') (g := F0 m pc ls S) X.here (fun Q E d acts => ?_) (by rw [y3]; exact a1), b1⟩
  rw [W.findHandler_eq (meth := meth) (code := c) X.method' X.code, t1]
  exact hq Q E d acts
end VCT
