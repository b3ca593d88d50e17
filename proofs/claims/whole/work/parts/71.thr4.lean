/-! throw new NoSuchElementException(text): its constructor hands the text on by an index of its own -/
def fw_oa (own : String) (ic : Nat) (X Y : String) (ix : Nat) (bytes : ByteArray) (names : List String) : List Cond :=
  Bundle.throwableAtoms ++ (Bundle.throwableSAtoms ++ (Bundle.passSAtoms X Y ix bytes ++ (Bundle.chainSAtoms Y names ++
  [.methodLink own ic (Bundle.initS X), .instantiable X 6, .selects X Bundle.tFill0 Bundle.tFill0, .selects X Bundle.tFill Bundle.tFill,
   .lays X Bundle.tN "cause" "Ljava/lang/Throwable;", .lays X Bundle.tN "stackTrace" Bundle.steD, .lays X Bundle.tN "suppressedExceptions" Bundle.listD, .lays X Bundle.tN "detailMessage" "Ljava/lang/String;",
   .isRef (.static Bundle.tN "UNASSIGNED_STACK" Bundle.steD), .isRef (.static Bundle.tN "SUPPRESSED_SENTINEL" Bundle.listD),
   .fieldLink Bundle.tN 198 Bundle.tN "backtrace" "Ljava/lang/Object;", .lays Bundle.tN Bundle.tN "backtrace" "Ljava/lang/Object;", .lays X Bundle.tN "backtrace" "Ljava/lang/Object;"])))
section FWN
set_option maxHeartbeats 4000000 in
theorem fw_ctorN {p : Program} {l : Launch} {e : Env} {R : Room} {s : State} {m₀ : MethodId} {args : Array Value} {below : List Frame} {meth : Method} {c : Code} {W : State} {locs : List Loc} {cells slots : Nat} (X : Stand p l e R s m₀ args below meth c W locs cells slots) (hexec : p.tables.exec = Jvm.exec) (htr : e.platform.stackTraces = false) {own cls up : String} {names : List String} {ic ix : Nat} {bytes : ByteArray}
    (b0 : decode bytes 0 = .ok (.aload_n 0, 1)) (b1 : decode bytes 1 = .ok (.aload_n 1, 1)) (b2 : decode bytes 2 = .ok (.invokespecial ix, 3)) (b5 : decode bytes 5 = .ok (.return_, 1))
    (hown : s.vm.findClass own = some m₀.cls) (hcls : Bundle.fit cls = true) (hup : Bundle.fit up = true) (hnames : ∀ n ∈ names, Bundle.fit n = true)
    (h : ∀ a ∈ fw_oa own ic cls up ix bytes names, a.before args s = true)
    (hlocs : ∀ x ∈ locs, ∀ cell, s.heap[x.base]? = some cell → cell.vm.isStatics = false)
    {a : Addr} {cX : ClassId} {kX : Class} (hfoundX : s.vm.findClass cls = some cX) (hkX : s.vm.classes[cX]? = some kX) (hcell : W.heap[a]? = some (freshCell cX kX)) (hnew : s.heap.size ≤ a)
    {msg : Value} (hmsg : msg.isRef = true)
    {g : JFrame} (hg : g.method = m₀) (hsize : g.locals.size = c.maxLocals) (hlocked : g.locked = none) (hentered : g.entered = []) {rest : List Value} (hstack : g.stack = msg :: .ref a :: .ref a :: rest)
    (hd6 : decode c.code g.pc = .ok (.invokespecial ic, 3)) (hd9 : decode c.code (g.pc + 3) = .ok (.athrow, 1)) (hout : ∀ x ∈ c.exceptionTable.toList, covers x (g.pc + 3) = false)
    (hRframes : names.length + 4 < R.frames) (hRlocals : 2 * g.monitorRoom + ((Value.ref a :: rest).map fun v => v.category).sum + (13 * (names.length + 2) + 42) ≤ R.locals) (hlocks : meth.locks = false) :
    ∃ U : State, Steps p.tables e below (W.setTop g) U ∧ U.status = .running ∧ Ended U below (.threw a) ∧ s.WarmedH U.vm ∧ s.sameButNew ({ U with vm := s.vm } : State) locs cells slots ∧
      ∃ ce, U.heap[a]? = some ce ∧ ce.vm = .none ∧ s.vm.findClass cls = some ce.cls := by
  have howns : e.platform.frameOwnsMonitors = true := by rw [X.admits.platform]
  have hfin : e.platform.finalization = false := by rw [X.admits.platform]
  have hpl : e.platform.magicAccessors = ({} : Platform).magicAccessors := by rw [X.admits.platform]
  have a' : ∀ x, x ∈ fw_oa own ic cls up ix bytes names → x.holds args s none s [] = true := fun x hx => h x hx
  obtain ⟨T, Z0, L, -, Y⟩ := ThrowableC.of_atoms (args := args) howns hfin hpl (fun x hx => h x (by simp [fw_oa, hx]))
  obtain ⟨Z, M, LZ, LM, hnZ⟩ := Init0T.ofS_atoms (args := args) hpl L Y (fun x hx => h x (by simp [fw_oa, hx]))
  obtain ⟨P0, L0, hP0m, hP0s⟩ := PassC.ofS_atoms (args := args) (s := s) hpl (X := cls) (Y := up) (Bundle.fit_spec hcls).1 (Bundle.fit_spec hup).2 b0 b1 b2 b5 (fun x hx => h x (by simp [fw_oa, hx]))
  obtain ⟨P1, Ps, hlen, L1, hL, hP1m, hlink1, hlink⟩ := Bundle.chainS (args := args) hpl hnZ names up hup hnames (fun x hx => h x (by simp [fw_oa, hx]))
  have hlink0 : P0.sup = P1.m := Option.some.inj (hP0s.symm.trans hP1m)
  have hfound : s.vm.findClass cls = some P0.m.cls := findClass_of_methodNamed hP0m
  cases Option.some.inj (hfoundX.symm.trans hfound)
  obtain ⟨c1, kX', hc1, hk, hord, -, -, hn6⟩ := Cond.instantiable_spec (a' (.instantiable cls 6) (by simp [fw_oa]))
  cases Option.some.inj (hc1.symm.trans hfound)
  cases Option.some.inj (hkX.symm.trans hk)
  have hsel0 : selectMethod e.platform s.vm P0.m.cls T.fill0 = .method T.fill0 := by
    obtain ⟨c2, r2, m2, q1, q2, q3, q4, -⟩ := Cond.selects_spec (a' (.selects cls Bundle.tFill0 Bundle.tFill0) (by simp [fw_oa]))
    cases Option.some.inj (q1.symm.trans hfound)
    cases Option.some.inj (q2.symm.trans (State.methodFound?_of_named Y.fill0 (by decide)))
    cases Option.some.inj (q3.symm.trans Y.fill0)
    rw [Launch.admits_selectMethod X.admits]; exact q4
  have hselF : selectMethod e.platform s.vm P0.m.cls T.fill = .method T.fill := by
    obtain ⟨c2, r2, m2, q1, q2, q3, q4, -⟩ := Cond.selects_spec (a' (.selects cls Bundle.tFill Bundle.tFill) (by simp [fw_oa]))
    cases Option.some.inj (q1.symm.trans hfound)
    cases Option.some.inj (q2.symm.trans (State.methodFound?_of_named Y.fill (by decide)))
    cases Option.some.inj (q3.symm.trans Y.fill)
    rw [Launch.admits_selectMethod X.admits]; exact q4
  obtain ⟨cellS0, hcS0, hiss⟩ := Y.statics
  obtain ⟨u0, hu0⟩ := Cond.staticRefV Y.unassigned L.unassignedStatic L.statics hcS0 hiss (a' (.isRef (.static Bundle.tN "UNASSIGNED_STACK" Bundle.steD)) (by simp [fw_oa]))
  obtain ⟨sen, hsen⟩ := Cond.staticRefV Y.sentinel L.sentinelStatic L.statics hcS0 hiss (a' (.isRef (.static Bundle.tN "SUPPRESSED_SENTINEL" Bundle.listD)) (by simp [fw_oa]))
  obtain ⟨ci198, i198, fB, hk198, hg198, ha198, hsB, -, hnB, htB, hffB⟩ := Cond.ownField (t := .object "java/lang/Object") Y.found L.cls (by decide +kernel) (a' (.fieldLink Bundle.tN 198 Bundle.tN "backtrace" "Ljava/lang/Object;") (by simp [fw_oa])) (a' (.lays Bundle.tN Bundle.tN "backtrace" "Ljava/lang/Object;") (by simp [fw_oa])) e.platform hpl
  obtain ⟨cellS, hcS', heS, -, hkeep⟩ := X.same.2.2.2.2.2 T.aS cellS0 hcS0
  have hcellS : W.heap[T.aS]? = some cellS := hcS'
  have hout' : ∀ i, (⟨T.aS, i⟩ : Loc) ∉ locs := fun i hmem => by
    have := hlocs _ hmem cellS0 hcS0
    rw [hiss] at this; cases this
  have hknownS : cellS.vm ≠ .unknown := by
    rw [heS]; intro hu
    rw [show cellS0.vm = .unknown from hu] at hiss
    cases hiss
  have hneS : T.aS ≠ a := Nat.ne_of_lt (Nat.lt_of_lt_of_le (Array.getElem?_eq_some_iff.mp hcS0).1 hnew)
  obtain ⟨iM, hffM⟩ := Y.msg
  obtain ⟨tyC, dC, hdC, hdnC⟩ := Cond.laysAt hfound hk Y.cause (a' (.lays cls Bundle.tN "cause" "Ljava/lang/Throwable;") (by simp [fw_oa]))
  obtain ⟨tyS, dS, hdS, hdnS⟩ := Cond.laysAt hfound hk Y.stack (a' (.lays cls Bundle.tN "stackTrace" Bundle.steD) (by simp [fw_oa]))
  obtain ⟨tyP, dP, hdP, hdnP⟩ := Cond.laysAt hfound hk Y.supp (a' (.lays cls Bundle.tN "suppressedExceptions" Bundle.listD) (by simp [fw_oa]))
  obtain ⟨tyM, dM, hdM, hdnM⟩ := Cond.laysAt hfound hk hffM (a' (.lays cls Bundle.tN "detailMessage" "Ljava/lang/String;") (by simp [fw_oa]))
  obtain ⟨tyB, dB, hdB, hdnB⟩ := Cond.laysAt hfound hk hffB (a' (.lays cls Bundle.tN "backtrace" "Ljava/lang/Object;") (by simp [fw_oa]))
  have bC := Cond.laysApart hdB hdC hdnB hdnC (by rw [hnB, Y.causeName]; decide)
  have bS := Cond.laysApart hdB hdS hdnB hdnS (by rw [hnB, Y.stackName]; decide)
  have bP := Cond.laysApart hdB hdP hdnB hdnP (by rw [hnB, Y.suppName]; decide)
  have hskip : SkipFacts T e.platform s (fun u => u) u0 ((preparedCellV T.toThrowableT (freshCell P0.m.cls kX) a u0 sen).withEntry W.cur) :=
    ⟨{ ci198 := ci198, i198 := i198, fBack := fB }, ⟨hk198, hg198, ha198, hsB⟩, by
      have := fresh_default (c := P0.m.cls) tyB
      rw [htB] at this
      simpa [preparedCellV, Cell.setSlot, Cell.withEntry, Array.getElem?_setIfInBounds, bC, bS, bP, bC.symm, bS.symm, bP.symm, defaultValue] using this, fun _ _ => rfl⟩
  obtain ⟨tm, methC, cdC, kC, vm₁, hnC, -, -, -, -, -, -, -, hW₁, st1⟩ := Steps.initColdS (tb := p.tables) (e := e) (below := below) (s := s) (U := W) X.here hexec X.warmed hpl hown (t := Bundle.initS cls) rfl rfl (Bundle.fit_spec hcls).2
    (a' (.methodLink own ic (Bundle.initS cls)) (by simp [fw_oa])) (h (.instanceMethod (Bundle.initS cls)) (by simp [fw_oa, Bundle.passSAtoms])) (bytes := bytes) (maxL := 2) (h (.code (Bundle.initS cls) bytes 2 none) (by simp [fw_oa, Bundle.passSAtoms]))
    (f := g) hg (a := a) (msg := msg) (rest := .ref a :: rest) hstack hd6
  cases Option.some.inj (hnC.symm.trans hP0m)
  have X₁ := X.noted hW₁
  obtain ⟨vm₂, X₂, st2⟩ := X₁.ctorMessageOffV hexec (g := { g with stack := .ref a :: rest }) hg hsize T L Z LZ M LM (P0 :: P1 :: Ps)
    (fun P hP => by
      rcases List.mem_cons.mp hP with rfl | hP
      · exact L0
      · rcases List.mem_cons.mp hP with rfl | hP
        · exact L1
        · exact hL P hP) ⟨hlink0, hlink1, hlink⟩ (u0 := u0) (sen := sen) (self := a) hmsg (cell := freshCell P0.m.cls kX) (cellS := cellS)
    hcell (fun _ => by simp) (by simp) rfl rfl hsel0 hselF hcellS hneS hknownS (by rw [hkeep _ (hout' _)]; exact hu0) (by rw [hkeep _ (hout' _)]; exact hsen)
    (Takes.of_laid hk hord tyC (by rw [Y.causeType]; rfl)) (Takes.of_laid hk hord tyS (by rw [Y.stackType]; exact fits_refV_array _ u0)) (Takes.of_laid hk hord tyP (by rw [Y.suppType]; exact fits_refV_object _ sen))
    (Takes.of_laid hk hord tyM (by rw [Y.msgType]; exact fits_refV_object _ ⟨msg, hmsg⟩)) Y.objLocals hskip htr [] hd6
    (by simp only [List.length_cons, hlen]; omega) (by simp only [List.length_cons, hlen]; exact hRlocals)
  obtain ⟨hwalk, hrun, hended, hWU, hsame⟩ := X₂.athrowLeaves hexec (g := { g with stack := .ref a :: rest, pc := g.pc + 3 }) hg hlocked hentered hout (a := a) (rest := rest) rfl hd9
  have hlt : a < ((W.setVm vm₁).setVm vm₂).heap.size := (Array.getElem?_eq_some_iff.mp hcell).1
  have hU := heapAt_setCell_self (s := (W.setVm vm₁).setVm vm₂) (plainBareV T.toThrowableT (freshCell P0.m.cls kX) a u0 sen msg) hlt
  refine ⟨_, st1 _ (fun acts => ?_), hrun, hended, hWU, hsame.weaken (fun y hy hlt' => ?_) (Nat.le_refl _) (Nat.le_refl _), _, hU, rfl, hfound⟩
  · rw [doInvoke_state]
    exact st2 _ hwalk
  · rcases List.mem_append.mp hy with h1 | h1
    · exact h1
    · exfalso
      have hb : y.base = a := by
        simp only [List.mem_cons, List.not_mem_nil, or_false] at h1
        rcases h1 with rfl | rfl | rfl | rfl | rfl <;> rfl
      rw [hb] at hlt'
      exact Nat.not_lt.mpr hnew hlt'
end FWN
section TWN
variable {g : Gl} {d mc ms : Nat} {M : Mi} {w0 : Wd} {sz0 : Nat} {E : Rs → Wd → Nat → Prop} {pc : Nat} {L : List (Nat × Value)} {S : List Value} {w : Wd} {sz nc ns : Nat}
abbrev nBy : ByteArray := prog_24_method_4_code
theorem nb_0 : decode nBy 0 = .ok (.aload_n 0, 1) := by decide +kernel
theorem nb_1 : decode nBy 1 = .ok (.aload_n 1, 1) := by decide +kernel
theorem nb_2 : decode nBy 2 = .ok (.invokespecial 13, 3) := by decide +kernel
theorem nb_5 : decode nBy 5 = .ok (.return_, 1) := by decide +kernel
abbrev fw_oN (own : String) (ic : Nat) : List Cond := fw_oa own ic (fw_ex 4) "java/lang/RuntimeException" 13 nBy ["java/lang/Exception"]
def fw_taN (own : String) (ic : Nat) : List Cond := (fw_oN own ic).filter (fun w => decide (w ≠ .isRef (.static Bundle.tN "UNASSIGNED_STACK" Bundle.steD)) && decide (w ≠ .isRef (.static Bundle.tN "SUPPRESSED_SENTINEL" Bundle.listD)) && decide (w ≠ .laysStatic Bundle.tN "UNASSIGNED_STACK" Bundle.steD) && decide (w ≠ .laysStatic Bundle.tN "SUPPRESSED_SENTINEL" Bundle.listD))
theorem fw_atomsN {own : String} {ic : Nat} {s : State} {args : Array Value} (hX : fw_X g s) (h : ∀ c ∈ fw_taN own ic, c.before args s = true) : ∀ c ∈ fw_oN own ic, c.before args s = true := by
  intro c hc
  by_cases e1 : c = .isRef (.static Bundle.tN "UNASSIGNED_STACK" Bundle.steD)
  · rw [e1]; exact hX.2.1.isref
  · by_cases e2 : c = .isRef (.static Bundle.tN "SUPPRESSED_SENTINEL" Bundle.listD)
    · rw [e2]; exact hX.2.2.1.isref
    · by_cases e3 : c = .laysStatic Bundle.tN "UNASSIGNED_STACK" Bundle.steD
      · rw [e3]; exact hX.2.1.lays
      · by_cases e4 : c = .laysStatic Bundle.tN "SUPPRESSED_SENTINEL" Bundle.listD
        · rw [e4]; exact hX.2.2.1.lays
        · exact h c (List.mem_filter.mpr ⟨hc, by simp [e1, e2, e3, e4]⟩)
def fw_tkN (own : String) (ik is ic : Nat) (tx : String) : Prop := (∀ c ∈ fw_taN own ic, c ∈ fw_big ∧ c.onTables = true) ∧ Cond.classLink own ik (fw_ex 4) ∈ fw_big ∧ Cond.instantiable (fw_ex 4) 6 ∈ fw_big ∧ Cond.initialized (fw_ex 4) ∈ fw_big ∧ Cond.stringRef own is tx ∈ tables_1 ∧ own = "DeltaViews" ∧ Bundle.fit (fw_ex 4) = true
theorem v_throwN {ik is ic : Nat} {tx : String} (d0 : decode M.2.1 pc = .ok (.new ik, 3)) (d3 : decode M.2.1 (pc + 3) = .ok (.dup, 1)) (d4 : decode M.2.1 (pc + 4) = .ok (.ldc is, 2)) (d6 : decode M.2.1 (pc + 6) = .ok (.invokespecial ic, 3)) (d9 : decode M.2.1 (pc + 9) = .ok (.athrow, 1))
    (ht : fw_tkN M.1.cls ik is ic tx) (hh : M.2.2.2.2 = []) (hdd : 6 ≤ d) (h1 : nc + 1 ≤ mc) (h2 : ns + 6 ≤ ms) (hst : (S.map fun v => v.category).sum ≤ 8) (hE : E (.inr 4) w (sz + 1)) : VV g d mc ms M w0 sz0 E pc L S w sz nc ns := by
  intro p e s m args below meth c H locs ls hC hH hz hx hl hL
  obtain ⟨t1, t2, t3, t4, t5, t6, t7⟩ := ht
  intro T hT X
  have hX := hC.2.2.2.2.2.2.2
  have htr : e.platform.stackTraces = false := Launch.traces_off hX.1 X.admits
  have Y := fw_rebase X (R' := { frames := d, locals := 39 * d, cells := 1, slots := 6 }) (Nat.le_refl _) (Nat.le_refl _) h1 h2
  obtain ⟨s', hA⟩ : ∃ z, z = (T.setVm s.vm).setFrames (.invoking m args :: below) := ⟨_, rfl⟩
  rw [← hA] at Y
  have hvm : s'.vm = s.vm := by rw [hA]; rfl
  have hhp : s'.heap = H := by rw [hA]; exact hT
  have hW0 : s.WarmedH s'.vm := by rw [hvm]; exact State.WarmedH.refl s
  have hT' : fw_T s' := hC.2.2.2.2.1.2.warm hW0
  have hXT : fw_X g T := hX.stand hC.2.2.2.2.2.2.1 hC.2.2.2.2.2.1 hl X
  have hX' : fw_X g s' := by
    refine ⟨hX.1, ?_, ?_, fun i tx hi => ?_, fun i j hij c c' h1 h2 => ?_, fun c h1 h2 => State.isArrayOf_alike (by rw [hvm]; exact Vm.Alike.refl _) (hX.2.2.2.2.2 c h1 h2)⟩
    · rw [hhp, ← hT]
      exact hXT.2.1.kept (by rw [hvm]; exact X.warmed.alike.symm) (fun _ _ h _ => h)
    · rw [hhp, ← hT]
      exact hXT.2.2.1.kept (by rw [hvm]; exact X.warmed.alike.symm) (fun _ _ h _ => h)
    · obtain ⟨a, ha⟩ := hX.2.2.2.1 i tx hi
      exact ⟨a, ha.warm hW0⟩
    · rw [hvm] at h1 h2 ⊢
      exact hX.2.2.2.2.1 i j hij c c' h1 h2
  have hown' : s'.vm.findClass M.1.cls = some m.cls := by rw [hvm]; exact fw_K.own hC
  obtain ⟨cX, kX', f1, f2, f3, -⟩ := Cond.instantiable_spec (fw_use (A := args) hT' t3 rfl)
  obtain ⟨sa, hsa⟩ := hX'.2.2.2.1 is tx (by rw [← t6]; exact t5)
  have hout : ∀ y ∈ c.exceptionTable.toList, covers y (pc + 6 + 3) = false := by
    have h9 := hC.2.1.2.2.1
    rw [hh] at h9
    have : c.exceptionTable.toList = [] := List.map_eq_nil_iff.mp h9
    rw [this]
    intro y hy
    cases hy
  have hlk : meth.locks = false := hC.2.1.2.2.2.2
  have key : W p g.1 e { frames := d, locals := 39 * d, cells := 1, slots := 6 } s' m args below meth c H [] 0 0 (fw_E g w0 sz0 mc ms E below s) (F0 m pc ls S) := by
    refine W.newcK hC.1 hC.2.1.1 hown' (fw_use hT' t2 rfl) (fw_use hT' t3 rfl) (fw_use hT' t4 rfl) rfl d0 (Nat.le_refl _) (Nat.le_refl _) f1 rfl fun H1 kX hkX e1 z1 o1 => ?_
    refine lv_dup hC.1 hC.2.1.1 d3 rfl ?_
    refine va_ldcS hC.1 hC.2.1.1 hown' (by rw [t6]; exact hsa) d4 ?_
    intro T1 hT1 X1
    obtain ⟨U, u1, u2, u3, u4, u5, ce, u6, u7, u8⟩ := fw_ctorN X1 hC.1 htr nb_0 nb_1 nb_2 nb_5 hown' t7 (by decide +kernel) (by decide +kernel) (fw_atomsN hX' (fun c hc => fw_use hT' (t1 c hc).1 (t1 c hc).2)) (fun x hx => nomatch hx) f1 hkX (a := H.size) (by rw [hT1]; exact e1) (by rw [hhp]; exact Nat.le_refl _) (msg := .ref sa) rfl
      (g := F0 m (pc + 6) ls (.ref sa :: .ref H.size :: .ref H.size :: S)) rfl (hL.1.trans hC.2.1.2.1.symm) rfl rfl (rest := S) rfl (by rw [hC.2.1.1]; exact d6) (by rw [hC.2.1.1]; exact d9) hout (by show 1 + 4 < d; omega)
      (by show 2 * 0 + (1 + (S.map fun v => v.category).sum) + (13 * (1 + 2) + 42) ≤ 39 * d; omega) hlk
    have hall : s.sameButNew ({ U with vm := s.vm } : State) locs (nc + 1) (ns + 6) := by
      subst hA
      obtain ⟨e1, e2⟩ := u5
      rw [State.setFrames_setFrames] at e1
      have h2 : (T.setVm s.vm).sameButNew ({ U with vm := s.vm } : State) [] (0 + 1) (0 + 6) := ⟨e1, e2⟩
      have h3 := X.same.trans h2
      rw [List.append_nil] at h3
      exact h3.mono (by omega) (by omega)
    obtain ⟨-, z2, z3, -, -, z6⟩ := u5
    have hkeep : ∀ q : Nat, q < H.size → U.heap[q]? = H[q]? := by
      intro q hq
      rw [← hhp] at hq ⊢
      obtain ⟨c9, e1, e2, e3, e4⟩ := z6 q _ (Array.getElem?_eq_getElem hq)
      have hs : c9.slots = (s'.heap[q]).slots := Array.ext_getElem? fun i => e4 i fun hm => nomatch hm
      have h9 : c9 = s'.heap[q] := by
        rw [hs] at e2
        exact e2
      have e5 : U.heap[q]? = some c9 := e1
      rw [e5, h9, Array.getElem?_eq_getElem hq]
    have hUz : U.heap.size = sz + 1 := by
      have y1 : U.heap.size ≤ s'.heap.size + (0 + 1) := z3
      have y2 : H.size < U.heap.size := (Array.getElem?_eq_some_iff.mp u6).1
      rw [hhp] at y1
      omega
    have hWs : s.WarmedH U.vm := State.WarmedH.trans hW0 u4
    refine ⟨U, u1, .threw H.size, u2, u3, ⟨.inr 4, w, ⟨H.size, ce, rfl, by rw [hz]; exact hx.1, u6, u7, ?_⟩, fun a e' he => (hH a e' he).kept (hkeep a (hH a e' he).lt), ?_, ?_⟩, locs, hWs, hall.mono h1 h2, hl⟩
    · have h9 := u8
      rw [hvm] at h9
      rw [hWs.alike.findClass]
      exact h9
    · rw [hUz]
      exact ⟨by have := hx.1; omega, fun q hq => hx.2 q (by
        rcases hq with h | h
        · exact Or.inl h
        · exact Or.inr (by omega))⟩
    · rw [hUz]; exact hE
  exact key T hT Y
end TWN
theorem tqN : ((fw_taN "DeltaViews" 170).all (fun c => fw_keep c && c.onTables && lw_tbl.any (fun x => decide (x = c)))) = true := by decide +kernel
theorem tk_168 : fw_tkN "DeltaViews" 166 168 170 "no such row" := ⟨fun c hc => by
  have h1 := List.all_eq_true.mp tqN c hc
  rw [Bool.and_eq_true, Bool.and_eq_true] at h1
  obtain ⟨x, hx, he⟩ := List.any_eq_true.mp h1.2
  have he := of_decide_eq_true he
  subst he
  exact ⟨List.mem_filter.mpr ⟨hx, h1.1.1⟩, h1.1.2⟩, fw_mem 693 (by decide +kernel) rfl, fw_mem 694 (by decide +kernel) rfl, fw_mem 59 (by decide +kernel) rfl, List.mem_of_getElem? (i := 665) (by decide +kernel), rfl, by decide +kernel⟩
