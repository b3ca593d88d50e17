/-! Making, ending, entering, calling. -/
section CL
variable {g : Gl} {d mc ms : Nat} {M : Mi} {w0 : Wd} {sz0 : Nat} {E : Rs → Wd → Nat → Prop} {pc : Nat} {L : List (Nat × Value)} {S : List Value} {w : Wd} {sz nc ns : Nat}
/-- what 'new' asks of the tables -/
def fw_nw (own : String) (idx ci : Nat) (fs : List Value) (N : Nat) : Prop := ∃ (C : String) (T : u_T), vwCl[ci]? = some (C, T, N) ∧ (∀ x ∈ u_ws C T N, x ∈ fw_big) ∧ Cond.classLink own idx C ∈ fw_big ∧ Cond.instantiable C N ∈ fw_big ∧ Cond.initialized C ∈ fw_big ∧ ∃ ty : Nat → FieldType, (∀ k, k < N → parseFieldDescriptor (T k).2.2.1 = some (ty k)) ∧ ∀ j, j < N → defaultValue (ty j) = vp_V fs j
theorem v_new {ci idx N : Nat} {fs : List Value} (hd : decode M.2.1 pc = .ok (.new idx, 3)) (hn : fw_nw M.1.cls idx ci fs N) (h1 : nc + 1 ≤ mc) (h2 : ns + N ≤ ms) (kk : VV g d mc ms M w0 sz0 E (pc + 3) L (.ref sz :: S) (fw_up w sz (cO ci fs)) (sz + 1) (nc + 1) (ns + N)) :
    VV g d mc ms M w0 sz0 E pc L S w sz nc ns := by
  intro p e s m args below meth c H locs ls hC hH hz hx hl hL
  obtain ⟨C, T, hc, hws, k1, k2, k3, ty, hty, hfs⟩ := hn
  have hT := hC.2.2.2.2.1.2
  have hKn := hC.2.2.2.2.1.1.1 ci _ hc
  have hts : ∀ x ∈ u_ws C T N, x.before args s = true := fun x hx => fw_use hT (hws x hx) (fw_lays_on x hx)
  refine W.newcK hC.1 hC.2.1.1 (fw_K.own hC) (fw_use hT k1 rfl) (fw_use hT k2 rfl) (fw_use hT k3 rfl) rfl hd h1 h2 hKn.2.1 rfl fun H1 kC hkC e1 z1 o1 => ?_
  subst hz
  refine kk p e s m args below meth c H1 locs ls hC (hH.born ?_ o1) z1 (hx.tr fw_ext.new) hl hL
  exact ⟨_, hc, (u_born ty hts (fun _ h => h) hKn hkC e1 hty).to hfs⟩
set_option maxHeartbeats 200000 in
theorem v_newi {n : Int32} {N : Nat} (hd : decode M.2.1 pc = .ok (.newarray .int, 2)) (hw : Cond.arrayClass .int ∈ fw_big) (hn : n = nI N) (hN : N ≤ 100000) (h1 : nc + 1 ≤ mc) (h2 : ns + N ≤ ms) (kk : VV g d mc ms M w0 sz0 E (pc + 2) L (.ref sz :: S) (fw_up w sz (cI N (fun _ => 0))) (sz + 1) (nc + 1) (ns + N)) :
    VV g d mc ms M w0 sz0 E pc L (.int n :: S) w sz nc ns := by
  intro p e s m args below meth c H locs ls hC hH hz hx hl hL
  have hwd : (Cond.arrayClass .int).before args s = true := word_at (State.WarmedH.refl s) (Or.inr ⟨_, rfl⟩) (hC.2.2.2.2.1.2 _ hw)
  subst hn
  have hb4 : N * componentBytes (newarray.typeOf .int) ≤ 536870912 := by
    have h9 : componentBytes (newarray.typeOf .int) = 4 := rfl
    rw [h9]; omega
  refine va_newaK (atype := .int) (N := N) hC.1 hC.2.1.1 hwd rfl hd rfl (nI_pos (by omega)) (nI_clamp (by omega)) hb4 h1 h2 rfl fun H1 cA e1 z1 o1 hAr hNm => ?_
  subst hz
  have h8 : newarray.typeOf .int = FieldType.int := rfl
  have h9 : s.vm.findClass ("[" ++ (FieldType.int).toString) = some g.2.2.1 := (fw_ti hC.2.2.2.2.1).2
  rw [h8] at hNm e1
  have hcA : cA = g.2.2.1 := Option.some.inj (hNm.symm.trans h9)
  subst hcA
  have e2 : fw_at g H.size (cI N (fun _ => 0)) H1 := by
    show H1[H.size]? = some (vp_cell _ _)
    rw [vp_cell_i]
    exact e1
  exact kk p e s m args below meth c H1 locs ls hC (hH.born e2 o1) z1 (hx.tr fw_ext.new) hl hL
set_option maxHeartbeats 200000 in
theorem v_newj {n : Int32} {N : Nat} (hd : decode M.2.1 pc = .ok (.newarray .long, 2)) (hw : Cond.arrayClass .long ∈ fw_big) (hn : n = nI N) (hN : N ≤ 100000) (h1 : nc + 1 ≤ mc) (h2 : ns + N ≤ ms) (kk : VV g d mc ms M w0 sz0 E (pc + 2) L (.ref sz :: S) (fw_up w sz (cJ N (fun _ => 0))) (sz + 1) (nc + 1) (ns + N)) :
    VV g d mc ms M w0 sz0 E pc L (.int n :: S) w sz nc ns := by
  intro p e s m args below meth c H locs ls hC hH hz hx hl hL
  have hwd : (Cond.arrayClass .long).before args s = true := word_at (State.WarmedH.refl s) (Or.inr ⟨_, rfl⟩) (hC.2.2.2.2.1.2 _ hw)
  subst hn
  have hb4 : N * componentBytes (newarray.typeOf .long) ≤ 536870912 := by
    have h9 : componentBytes (newarray.typeOf .long) = 8 := rfl
    rw [h9]; omega
  refine va_newaK (atype := .long) (N := N) hC.1 hC.2.1.1 hwd rfl hd rfl (nI_pos (by omega)) (nI_clamp (by omega)) hb4 h1 h2 rfl fun H1 cA e1 z1 o1 hAr hNm => ?_
  subst hz
  have h8 : newarray.typeOf .long = FieldType.long := rfl
  have h9 : s.vm.findClass ("[" ++ (FieldType.long).toString) = some g.2.2.2.1 := (fw_tj hC.2.2.2.2.1).2
  rw [h8] at hNm e1
  have hcA : cA = g.2.2.2.1 := Option.some.inj (hNm.symm.trans h9)
  subst hcA
  have e2 : fw_at g H.size (cJ N (fun _ => 0)) H1 := by
    show H1[H.size]? = some (vp_cell _ _)
    rw [vp_cell_l]
    exact e1
  exact kk p e s m args below meth c H1 locs ls hC (hH.born e2 o1) z1 (hx.tr fw_ext.new) hl hL
/-! ends -/
theorem fw_widen {nc' ns' : Nat} (h1 : nc ≤ nc') (h2 : ns ≤ ns') (k : VV g d mc ms M w0 sz0 E pc L S w sz nc' ns') : VV g d mc ms M w0 sz0 E pc L S w sz nc ns :=
  fun p e s m args below meth c H locs ls hC hH hz hx hl hL => W.widen h1 h2 (k p e s m args below meth c H locs ls hC hH hz hx hl hL)
theorem fw_end {below : List Frame} {args : Array Value} {s : State} {H : Heap} {v : Option Value} (hH : fw_H g w H) (hz : H.size = sz) (hx : fw_ext w0 sz0 w sz) (hE : E (.inl v) w sz) :
    ∀ t, MQ below (fun _ _ o t => o = .returned v ∧ t.heap = H) args s mc ms (fw_fr w0 sz0) t → fw_E g w0 sz0 mc ms E below s t := by
  rintro t ⟨o, h1, h2, ⟨h3, h4⟩, L, ⟨-, h5, h6⟩, h7⟩
  subst h4
  subst hz
  exact ⟨o, h1, h2, ⟨.inl v, w, h3, hH, hx, hE⟩, L, h5, h6, h7⟩
theorem v_iret {v : Int32} (hd : decode M.2.1 pc = .ok (.ireturn, 1)) (hr : M.2.2.2.1 = some .int) (h1 : nc ≤ mc) (h2 : ns ≤ ms) (hE : E (.inl (some (.int v))) w sz) : VV g d mc ms M w0 sz0 E pc L [.int v] w sz nc ns :=
  fw_widen h1 h2 fun p e s m args below meth c H locs ls hC hH hz hx hl hL =>
    fw_mono (fw_end hH hz hx hE) (W.iret hC.1 hC.2.1.1 (hC.2.1.2.2.2.1.trans hr) (fun t ht _ => ⟨rfl, ht⟩) hl hd hC.2.1.2.2.2.2)
theorem v_zret {v : Int32} (hd : decode M.2.1 pc = .ok (.ireturn, 1)) (hr : M.2.2.2.1 = some .boolean) (hv : v = 0 ∨ v = 1) (h1 : nc ≤ mc) (h2 : ns ≤ ms) (hE : E (.inl (some (.int v))) w sz) : VV g d mc ms M w0 sz0 E pc L [.int v] w sz nc ns :=
  fw_widen h1 h2 fun p e s m args below meth c H locs ls hC hH hz hx hl hL =>
    fw_mono (fw_end hH hz hx hE) (W.zret hC.1 hC.2.1.1 (hC.2.1.2.2.2.1.trans hr) (by rcases hv with rfl | rfl <;> rfl) (fun t ht _ => ⟨rfl, ht⟩) hl hd hC.2.1.2.2.2.2)
theorem v_lret {v : Int64} (hd : decode M.2.1 pc = .ok (.lreturn, 1)) (hr : M.2.2.2.1 = some .long) (h1 : nc ≤ mc) (h2 : ns ≤ ms) (hE : E (.inl (some (.long v))) w sz) : VV g d mc ms M w0 sz0 E pc L [.long v] w sz nc ns :=
  fw_widen h1 h2 fun p e s m args below meth c H locs ls hC hH hz hx hl hL =>
    fw_mono (fw_end hH hz hx hE) (W.lret hC.1 hC.2.1.1 (hC.2.1.2.2.2.1.trans hr) (fun t ht _ => ⟨rfl, ht⟩) hl hd hC.2.1.2.2.2.2)
theorem v_vret (hd : decode M.2.1 pc = .ok (.return_, 1)) (hr : M.2.2.2.1 = none) (h1 : nc ≤ mc) (h2 : ns ≤ ms) (hE : E (.inl none) w sz) : VV g d mc ms M w0 sz0 E pc L [] w sz nc ns :=
  fw_widen h1 h2 fun p e s m args below meth c H locs ls hC hH hz hx hl hL =>
    fw_mono (fw_end hH hz hx hE) (W.vret hC.1 hC.2.1.1 (hC.2.1.2.2.2.1.trans hr) (fun t ht _ => ⟨rfl, ht⟩) hl hd hC.2.1.2.2.2.2)
theorem v_aret {a : Nat} {n : String} (hd : decode M.2.1 pc = .ok (.areturn, 1)) (hr : M.2.2.2.1 = some (.object n)) (h1 : nc ≤ mc) (h2 : ns ≤ ms) (hE : E (.inl (some (.ref a))) w sz) : VV g d mc ms M w0 sz0 E pc L [.ref a] w sz nc ns :=
  fw_widen h1 h2 fun p e s m args below meth c H locs ls hC hH hz hx hl hL =>
    fw_mono (fw_end hH hz hx hE) (W.aret hC.1 hC.2.1.1 (hC.2.1.2.2.2.1.trans hr) (Or.inl ⟨n, rfl⟩) (Or.inr ⟨a, rfl⟩) (fun t ht _ => ⟨rfl, ht⟩) hl hd hC.2.1.2.2.2.2)
/-! a contract out of a body -/
theorem CT.of {as : List Value} {w : Wd} {sz : Nat} (hy : plainName M.1.cls = true) (hn : (lg_sl as).length ≤ M.2.2.1) (k : VV g d mc ms M w sz E 0 (lv_args 0 as) [] w sz 0 0) : CT g d mc ms M as w sz E := by
  refine MetFree.of_bodyS (code := M.2.1) (maxLocals := M.2.2.1) (ret := M.2.2.2.1) hy ?_ ?_
  · intro args s m h hn
    obtain ⟨meth, c, h1, h2, h3, -⟩ := fw_word_spec hn (atoms_spec (ws := [fw_word M]) h _ List.mem_cons_self)
    exact ⟨meth, c, h1, h2, h3.1, h3.2.1, h3.2.2.2.1, h3.2.2.2.2⟩
  · intro p e s m args below meth c s₁ B hml hP _
    obtain ⟨rfl, hz, hH, hK, hX⟩ := hP
    have hh0 : s₁.heap = s.heap := by rw [B.state]; rfl
    have X₀ := Stand.of_body B
    obtain ⟨meth', c', h1, h2, h3, -⟩ := fw_word_spec B.named (atoms_spec (ws := [fw_word M]) B.pre _ List.mem_cons_self)
    cases B.method.symm.trans h1
    cases X₀.code.symm.trans h2
    have hl := lv_entry as (n := M.2.2.1) hn
    have K := k p e s m as.toArray below meth c s.heap [] _ ⟨B.exec, h3, B.named, B.method, hK, hz, hH, hX⟩ hH hz fw_ext.rf (fun q h => by cases h) hl
    rw [← lg_entry_eq] at K
    obtain ⟨t, a1, o, b1, b2, b3⟩ := K s₁ hh0 X₀
    exact ⟨t, o, a1, b1, b2, b3⟩
theorem CT.mono {as : List Value} {E' : Rs → Wd → Nat → Prop} (h : CT g d mc ms M as w sz E) (hE : ∀ r w' sz', E r w' sz' → E' r w' sz') : CT g d mc ms M as w sz E' := by
  intro p e ha hc hk s m args below hf happ hP hK
  obtain ⟨n, o, h1, h2, h3, ⟨r, w', q1, q2, q3, q4⟩, h5⟩ := h p e ha hc hk s m args below hf happ hP hK
  exact ⟨n, o, h1, h2, h3, ⟨r, w', q1, q2, q3, hE _ _ _ q4⟩, h5⟩
/-! calls -/
theorem fw_T.warm {s U : State} (hW : s.WarmedH U.vm) (h : fw_T s) : fw_T U := by
  intro c hc
  have hk := fw_big_ok c hc
  have h1 := h c hc
  unfold fw_keep at hk
  split at hk
  · exact va_Nw.warmF hW h1
  · exact va_Nw.warmM hW h1
  · exact va_Nw.warmD hW h1
  · exact va_Nw.warmC hW h1
  · exact word_at hW (Or.inr ⟨_, rfl⟩) h1
  · exact va_AO.moved hW.alike h1
  · exact word_at hW (Or.inl hk) h1
theorem fw_K.warm {s U : State} (hW : s.WarmedH U.vm) (h : fw_K g s) : fw_K g U := ⟨va_K.moved hW.alike h.1, h.2.warm hW⟩
theorem fw_st.kept {n d : String} {u U : State} {H H1 : Heap} (h : fw_st n d u H) (hvm : u.vm.Alike U.vm) (hq : ∀ (a : Nat) (cell : Cell), H[a]? = some cell → cell.vm.isStatics = true → H1[a]? = some cell) : fw_st n d U H1 := by
  obtain ⟨c, k, i, f, a, cell, v, h1, h2, h3, h4, h5, h6, h7, h8, h9, h10, h11⟩ := h
  obtain ⟨k', hi', he⟩ := State.fieldFound?_setVm hvm h2
  exact ⟨c, k', i, f, a, cell, v, by rw [hvm.findClass]; exact h1, hi', h3, by rw [he]; exact h4, hq a cell h5 h6, h6, h7, h8, by rw [he]; exact h9, h10, h11⟩
theorem fw_X.kept {u U : State} (h : fw_X g u) (hvm : u.vm.Alike U.vm) (hW : u.WarmedH U.vm) (hq : ∀ (a : Nat) (cell : Cell), u.heap[a]? = some cell → cell.vm.isStatics = true → U.heap[a]? = some cell) : fw_X g U :=
  ⟨h.1, h.2.1.kept hvm hq, h.2.2.1.kept hvm hq, fun i tx hi => by
    obtain ⟨a, ha⟩ := h.2.2.2.1 i tx hi
    exact ⟨a, ha.warm hW⟩, fun i j hij c c' h1 h2 => by
    rw [hvm.findClass] at h1 h2
    rw [hvm.assignable]
    exact h.2.2.2.2.1 i j hij c c' h1 h2, fun c h1 h2 => State.isArrayOf_alike hvm (h.2.2.2.2.2 c h1 h2)⟩
theorem fw_at.vm {a : Nat} {e : Ct} {H : Heap} (h : fw_at g a e H) (hr : fw_raw e = false) : ∃ c : Cell, H[a]? = some c ∧ c.vm = .none := by
  match e, h, hr with
  | .inl x, h, _ => exact ⟨_, h, rfl⟩
  | .inr (.inl x), h, _ => exact ⟨_, h, rfl⟩
  | .inr (.inr (.inl x)), h, _ => exact ⟨_, h, rfl⟩
  | .inr (.inr (.inr (.inl o))), h, _ =>
    obtain ⟨r, h1, cell, h2, h3, h4, -⟩ := h
    exact ⟨_, h2, h4⟩
  | .inr (.inr (.inr (.inr c))), _, hr => cases hr
theorem fw_nost {s : State} {locs : List Loc} (hH : fw_H g w0 s.heap) (hz : s.heap.size = sz0) (hl : ∀ q ∈ locs, fw_fr w0 sz0 q.base) : ∀ x ∈ locs, ∀ cell, s.heap[x.base]? = some cell → cell.vm.isStatics = false := by
  intro x hx cell hc
  rcases hl x hx with ⟨e, he, hr⟩ | h
  · obtain ⟨c, h1, h2⟩ := (hH _ _ he).vm hr
    cases Option.some.inj (hc.symm.trans h1)
    rw [h2]; rfl
  · have := (Array.getElem?_eq_some_iff.mp hc).1
    omega
theorem fw_X.stand {p : Program} {e : Env} {R : Room} {s : State} {m : MethodId} {args : Array Value} {below : List Frame} {meth : Method} {c : Code} {T : State} {locs : List Loc} {c0 s0 : Nat} (h : fw_X g s) (hH : fw_H g w0 s.heap) (hz : s.heap.size = sz0) (hl : ∀ q ∈ locs, fw_fr w0 sz0 q.base)
    (X : Stand p g.1 e R s m args below meth c T locs c0 s0) : fw_X g T := by
  refine h.kept X.warmed.alike X.warmed (fun a cell hc hs => ?_)
  obtain ⟨-, -, -, -, -, h6⟩ := X.same
  obtain ⟨c9, e1, e2, e3, e4⟩ := h6 a cell hc
  have hsl : c9.slots = cell.slots := Array.ext_getElem? fun i => e4 i fun hm => by
    have := fw_nost hH hz hl _ hm cell hc
    rw [hs] at this
    cases this
  have h9 : c9 = cell := by
    rw [hsl] at e2
    exact e2
  rw [← h9]
  exact e1
/-- the way into a callee: what the invoking instruction does -/
def fw_en (g : Gl) (M : Mi) (w : Wd) (pc : Nat) (S rest A : List Value) (y : MethodName) : Prop :=
  ∀ (p : Program) (e : Env) (R : Room) (s : State) (m : MethodId) (args : Array Value) (below : List Frame) (meth : Method) (c : Code) (T : State) (locs : List Loc) (cells slots : Nat) (ls : Array Slot),
    p.tables.exec = Jvm.exec → c.code = M.2.1 → s.vm.findClass M.1.cls = some m.cls → fw_K g s → fw_H g w T.heap → Stand p g.1 e R s m args below meth c T locs cells slots →
    ∃ (vm' : Vm) (mk : MethodId), Stand p g.1 e R s m args below meth c (T.setVm vm') locs cells slots ∧ s.methodNamed? y = some mk ∧ (∃ ig, decode c.code pc = .ok (ig, 3)) ∧
      ∀ target, (∀ acts, Steps p.tables e below (doInvoke e ((T.setVm vm').setTop (F0 m pc ls rest)) acts mk A.toArray).1 target) → Steps p.tables e below (T.setTop (F0 m pc ls S)) target
/-- a call by its contract, whatever its end -/
theorem fw_call {p : Program} {e : Env} {R : Room} {s : State} {m : MethodId} {args : Array Value} {below : List Frame} {meth : Method} {c : Code} {U : State} {Ls : List Loc} {c0 s0 : Nat} {f : JFrame} {ig : Instr} {len : Nat} {mk : MethodId} {A : List Value} {M' : Mi} {d' mc' ms' : Nat} {E' : Rs → Wd → Nat → Prop}
    (X : Stand p g.1 e R s m args below meth c U Ls c0 s0) (hM : CT g d' mc' ms' M' A w sz E') (hf : f.method = m) (hsize : f.locals.size = c.maxLocals) (hdg : decode c.code f.pc = .ok (ig, len)) (hW : 2 * f.monitorRoom + (f.stack.map fun v => v.category).sum ≤ 8)
    (hn : U.methodNamed? M'.1 = some mk) (hwd : (fw_word M').before A.toArray U = true) (hini : (Cond.initialized M'.1.cls).before A.toArray U = true) (hz : U.heap.size = sz) (hH : fw_H g w U.heap) (hK : fw_K g U) (hX : fw_X g U)
    (r1 : d' + 1 ≤ R.frames) (r2 : 8 + (M'.2.2.1 + 11) + 39 * d' ≤ R.locals) (r3 : c0 + mc' ≤ R.cells) (r4 : s0 + ms' ≤ R.slots) :
    ∃ (r : Rs) (w' : Wd) (T' : State) (L' : List Loc), Stand p g.1 e R s m args below meth c T' (Ls ++ L') (c0 + mc') (s0 + ms') ∧ (∀ q ∈ L', fw_fr w sz q.base) ∧ fw_H g w' T'.heap ∧ fw_ext w sz w' T'.heap.size ∧ E' r w' T'.heap.size ∧
      match r with
      | .inl v => Steps p.tables e below (doInvoke e (U.setTop f) [] mk A.toArray).1 (T'.setTop { f with pc := f.pc + len, stack := v.toList ++ f.stack })
      | .inr k => ∃ (x : Addr) (cell : Cell), sz ≤ x ∧ T'.heap[x]? = some cell ∧ cell.vm = .none ∧ T'.vm.findClass (fw_ex k) = some cell.cls ∧ Steps p.tables e below (doInvoke e (U.setTop f) [] mk A.toArray).1 ((T'.setTop f).pushFrame (.throwing x)) := by
  obtain ⟨methY, cY, hmY, hcY, hcd, -⟩ := fw_word_spec hn hwd
  obtain ⟨kY, hkY, -⟩ := className_of_methodNamed hn
  have hinitY : kY.init = .initialized := Cond.initialized_spec (findClass_of_methodNamed hn) hkY hini
  have h : At U f.method c below := by rw [hf]; exact X.here
  have hpre : (headSpec [fw_word M'] (fw_rm d' mc' ms')).pre.before A.toArray U = true := atoms_intro (fun w hw => by rw [List.mem_singleton.mp hw]; exact hwd)
  have happ : (headSpec [fw_word M'] (fw_rm d' mc' ms')).appliesLoose M'.1 e.platform (U.calling f mk A.toArray) = true :=
    Spec.appliesLoose_calling (g := f) h hdg hn hkY hinitY
      (X.room_calling (g := f) (R' := fw_rm d' mc' ms') hsize hmY hcY r1 (by rw [hcd.2.1]; show _ + (39 * d') ≤ _; omega) r3 r4) hpre
  obtain ⟨mid, hmid⟩ := h.above
  have hfr : (U.setTop f).frames = (.java f :: mid) ++ below := by rw [State.frames_setTop' f h.top, hmid]; rfl
  have hKc : fw_K g (U.calling f mk A.toArray) := ⟨va_K.moved (u := U) (U := U.calling f mk A.toArray) (Vm.Alike.refl U.vm) hK.1, hK.2.warm (U := U.calling f mk A.toArray) (State.WarmedH.refl U)⟩
  have hXc : fw_X g (U.calling f mk A.toArray) := hX.kept (Vm.Alike.refl U.vm) (State.WarmedH.refl U) (fun _ _ h _ => h)
  obtain ⟨o, s₂, hsteps, -, hend, hq⟩ := Steps.callFree hM p X.admits X.cas X.clock (acts := []) hfr happ ⟨rfl, hz, hH, hKc, hXc⟩ trivial
  rw [State.frames_setTop' f h.top] at hend
  have hq' : fw_Q g w sz mc' ms' E' (U.calling f mk A.toArray) o s₂ := hq
  obtain ⟨⟨r, w', q1, q2, q3, q4⟩, L', hW₂, hsame₂, hL'⟩ := hq'
  obtain ⟨e2, z2, z3, z4, z5, z6⟩ := hsame₂
  have e3 : s₂ = ({ (U.calling f mk A.toArray).setFrames s₂.frames with heap := s₂.heap, slotsUsed := s₂.slotsUsed } : State).setVm s₂.vm := by
    have : s₂ = ({ s₂ with vm := (U.calling f mk A.toArray).vm } : State).setVm s₂.vm := rfl
    rw [e2] at this
    exact this
  have hW' : U.WarmedH s₂.vm := hW₂
  obtain ⟨g₀, hg0⟩ := Option.isSome_iff_exists.mp h.top
  obtain ⟨r0, hr⟩ := State.topJava?_eq_some.mp hg0
  have hsame : U.sameButNew ({ U with heap := s₂.heap, slotsUsed := s₂.slotsUsed } : State) L' mc' ms' := by
    refine ⟨?_, z2, z3, z4, z5, z6⟩
    obtain ⟨t, ht, -⟩ := State.frames_cons hr
    show ({ U with heap := s₂.heap, slotsUsed := s₂.slotsUsed } : State) = { U.setFrames U.frames with heap := s₂.heap, slotsUsed := s₂.slotsUsed }
    rw [State.setFrames_self ht]
  subst hf
  refine ⟨r, w', (({ U with heap := s₂.heap, slotsUsed := s₂.slotsUsed } : State).setVm s₂.vm), L',
    ⟨X.admits, X.cas, X.clock, X.frames, X.room, X.hears, X.method, X.code, (X.here.setHeapUsed s₂.heap s₂.slotsUsed).setVm hW'.alike, X.tail, State.WarmedH.trans X.warmed hW', X.limits, X.bytes, X.same.trans (hsame.setVm s.vm)⟩, hL', q2, q3, q4, ?_⟩
  match r, q1 with
  | .inl v, q1 =>
    have q1 : o = .returned v := q1
    subst q1
    obtain ⟨c₂, i₂, len₂, hc₂, hd₂, hf₂⟩ := hend
    have hcc : c₂ = c := by
      have h1 : s₂.code? f.method = U.code? f.method := by
        rw [State.code?_eq, State.code?_eq, hW'.alike.method?]
      exact Option.some.inj (hc₂.symm.trans (h1.trans h.code))
    subst hcc
    have hlen : len₂ = len := by rw [hdg] at hd₂; cases hd₂; rfl
    subst hlen
    have hs₂ : s₂ = (({ U with heap := s₂.heap, slotsUsed := s₂.slotsUsed } : State).setVm s₂.vm).setTop { f with pc := f.pc + len₂, stack := v.toList ++ f.stack } := by
      have hr' : (({ U with heap := s₂.heap, slotsUsed := s₂.slotsUsed } : State).setVm s₂.vm).frames = .java g₀ :: r0 := hr
      refine e3.trans ?_
      rw [hf₂, State.calling_eq h.top, State.setFrames_setFrames, State.setTop_of_frames _ hr', hr]
      rfl
    show Steps p.tables e below _ ((({ U with heap := s₂.heap, slotsUsed := s₂.slotsUsed } : State).setVm s₂.vm).setTop { f with pc := f.pc + len₂, stack := v.toList ++ f.stack })
    rw [← hs₂]
    exact hsteps
  | .inr k, q1 =>
    obtain ⟨x, cell, q1, y1, y2, y3, y4⟩ := q1
    subst q1
    have hf₂ : s₂.frames = .throwing x :: .java f :: U.frames.tail := hend
    have hs₂ : s₂ = ((({ U with heap := s₂.heap, slotsUsed := s₂.slotsUsed } : State).setVm s₂.vm).setTop f).pushFrame (.throwing x) := by
      have hr' : (({ U with heap := s₂.heap, slotsUsed := s₂.slotsUsed } : State).setVm s₂.vm).frames = .java g₀ :: r0 := hr
      refine e3.trans ?_
      rw [hf₂, State.calling_eq h.top, State.setFrames_setFrames, State.pushFrame, State.frames_setTop _ hr', State.setTop_of_frames _ hr', State.setFrames_setFrames, hr]
      rfl
    refine ⟨x, cell, y1, y2, y3, y4, ?_⟩
    rw [← hs₂]
    exact hsteps
end CL
