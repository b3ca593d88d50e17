/-! What is thrown, and the call as a rule. -/
section TW
variable {g : Gl} {d mc ms : Nat} {M : Mi} {w0 : Wd} {sz0 : Nat} {E : Rs → Wd → Nat → Prop} {pc : Nat} {L : List (Nat × Value)} {S : List Value} {w : Wd} {sz nc ns : Nat}
/-- a body at pc where an object of the kind k is thrown -/
def VT (g : Gl) (d mc ms : Nat) (M : Mi) (w0 : Wd) (sz0 : Nat) (E : Rs → Wd → Nat → Prop) (pc : Nat) (L : List (Nat × Value)) (S : List Value) (w : Wd) (sz nc ns k : Nat) : Prop :=
  ∀ (p : Program) (e : Env) (s : State) (m : MethodId) (args : Array Value) (below : List Frame) (meth : Method) (c : Code) (T : State) (locs : List Loc) (ls : Array Slot) (x : Addr) (cell : Cell),
    fw_Cx g M w0 sz0 p s m meth c → fw_H g w T.heap → T.heap.size = sz → fw_ext w0 sz0 w sz → (∀ q ∈ locs, fw_fr w0 sz0 q.base) → lv_has ls M.2.2.1 L →
    Stand p g.1 e (fw_rm d mc ms) s m args below meth c T locs nc ns → sz0 ≤ x → T.heap[x]? = some cell → cell.vm = .none → T.vm.findClass (fw_ex k) = some cell.cls →
    ∃ t, Steps p.tables e below ((T.setTop (F0 m pc ls S)).pushFrame (.throwing x)) t ∧ fw_E g w0 sz0 mc ms E below s t
theorem vt_out {k : Nat} (hh : M.2.2.2.2 = []) (h1 : nc ≤ mc) (h2 : ns ≤ ms) (hE : E (.inr k) w sz) : VT g d mc ms M w0 sz0 E pc L S w sz nc ns k := by
  intro p e s m args below meth c T locs ls x cell hC hH hz hx hl hL X0 hx0 hc1 hc2 hc3
  have X := stand_widen X0 h1 h2
  have hout : ∀ y ∈ c.exceptionTable.toList, covers y pc = false := by
    have h9 := hC.2.1.2.2.1
    rw [hh] at h9
    have : c.exceptionTable.toList = [] := List.map_eq_nil_iff.mp h9
    rw [this]
    intro y hy
    cases hy
  have hlk : meth.locks = false := hC.2.1.2.2.2.2
  obtain ⟨hst, hrun, hend, hW, hsame⟩ := X.leaveThrown x (g := F0 m pc ls S) rfl rfl rfl hout hlk
  refine ⟨_, hst, .threw x, hrun, hend, ⟨.inr k, w, ⟨x, cell, rfl, hx0, hc1, hc2, hc3⟩, hH, ?_, ?_⟩, locs, hW, hsame, hl⟩
  · show fw_ext w0 sz0 w T.heap.size
    rw [hz]; exact hx
  · show E (.inr k) w T.heap.size
    rw [hz]; exact hE
theorem v_call {rest A : List Value} {M' : Mi} {d' mc' ms' : Nat} {E' : Rs → Wd → Nat → Prop} (hen : fw_en g M w pc S rest A M'.1) (hc : CT g d' mc' ms' M' A w sz E') (hw : fw_word M' ∈ fw_big) (hwo : (fw_word M').onTables = true) (hi : Cond.initialized M'.1.cls ∈ fw_big)
    (r1 : d' + 1 ≤ d) (r2 : M'.2.2.1 ≤ 20) (r3 : nc + mc' ≤ mc) (r4 : ns + ms' ≤ ms) (hst : (rest.map fun v => v.category).sum ≤ 8)
    (kr : ∀ v w' sz', E' (.inl v) w' sz' → VV g d mc ms M w0 sz0 E (pc + 3) L (v.toList ++ rest) w' sz' (nc + mc') (ns + ms'))
    (kt : ∀ k w' sz', E' (.inr k) w' sz' → VT g d mc ms M w0 sz0 E pc L rest w' sz' (nc + mc') (ns + ms') k) : VV g d mc ms M w0 sz0 E pc L S w sz nc ns := by
  intro p e s m args below meth c H locs ls hC hH hz hx hl hL
  intro T hT X
  subst hT
  obtain ⟨vm', mk, X₁, hn, ⟨ig, hdg⟩, hgo⟩ := hen p e _ s m args below meth c T locs nc ns ls hC.1 hC.2.1.1 (fw_K.own hC) hC.2.2.2.2.1 hH X
  have hK₁ : fw_K g (T.setVm vm') := hC.2.2.2.2.1.warm X₁.warmed
  have hn₁ : (T.setVm vm').methodNamed? M'.1 = some mk := X₁.named hn
  obtain ⟨r, w', T', L', X', hL', hH', hx', hE', hm⟩ := fw_call (f := F0 m pc ls rest) X₁ hc rfl (hL.1.trans hC.2.1.2.1.symm) hdg (by show 2 * 0 + (rest.map fun v => v.category).sum ≤ 8; omega) hn₁ (fw_use hK₁.2 hw hwo) (fw_use hK₁.2 hi rfl) hz hH hK₁ (hC.2.2.2.2.2.2.2.stand hC.2.2.2.2.2.2.1 hC.2.2.2.2.2.1 hl X₁) (by show d' + 1 ≤ d; exact r1) (by show _ ≤ 39 * d; omega) r3 r4
  have hl' : ∀ q ∈ locs ++ L', fw_fr w0 sz0 q.base := by
    intro q hq
    rcases List.mem_append.mp hq with h | h
    · exact hl q h
    · exact hx.2 _ (hL' q h)
  match r, hm, hE' with
  | .inl v, hm, hE' =>
    obtain ⟨t, a1, b1⟩ := kr v w' _ hE' p e s m args below meth c T'.heap _ ls hC hH' rfl (hx.tr hx') hl' hL T' rfl X'
    exact ⟨t, hgo t (fun acts => by rw [doInvoke_state]; exact Steps.trans hm a1), b1⟩
  | .inr k, hm, hE' =>
    obtain ⟨x, ce, y1, y2, y3, y4, hm⟩ := hm
    obtain ⟨t, a1, b1⟩ := kt k w' _ hE' p e s m args below meth c T' _ ls x ce hC hH' rfl (hx.tr hx') hl' hL X' (Nat.le_trans hx.1 y1) y2 y3 y4
    exact ⟨t, hgo t (fun acts => by rw [doInvoke_state]; exact Steps.trans hm a1), b1⟩
/-! the ways in -/
theorem fw_named {M' : Mi} {s : State} {args : Array Value} (h : (fw_word M').before args s = true) : ∃ mk, s.methodNamed? M'.1 = some mk := by
  obtain ⟨y, b, n, r, hh⟩ := M'
  cases hh with
  | nil => exact Cond.code_named h
  | cons x t =>
    obtain ⟨m9, meth, c, hn9, -⟩ := Cond.codeWith_spec h
    exact ⟨m9, hn9⟩
theorem en_s {idx : Nat} {A rest : List Value} {M' : Mi} (hd : decode M.2.1 pc = .ok (.invokestatic idx, 3)) (hl : Cond.methodLink M.1.cls idx M'.1 ∈ fw_big ∨ ∃ host, Cond.methodLinkNest M.1.cls idx M'.1 host ∈ fw_big) (hw : fw_word M' ∈ fw_big) (hwo : (fw_word M').onTables = true) (hst : Cond.static M'.1 ∈ fw_big) (hi : Cond.initialized M'.1.cls ∈ fw_big)
    (hy : M'.1.cls ≠ "java/lang/invoke/MethodHandle" ∧ M'.1.cls ≠ "java/lang/invoke/VarHandle") (hlen : (parseMethodDescriptor M'.1.desc).map (fun d => d.parameters.length) = some A.length) (hS : S = A.reverse ++ rest) : fw_en g M w pc S rest A M'.1 := by
  intro p e R s m args below meth c T locs cells slots ls hx hb hown hK hH X
  subst hS
  obtain ⟨mk, methM, hnamed, hmethM, hcodeM, hsigM⟩ : ∃ mk methM, s.methodNamed? M'.1 = some mk ∧ s.vm.method? mk = some methM ∧ True ∧ parseMethodDescriptor M'.1.desc = some methM.sig := by
    have hwd : (fw_word M').before args s = true := fw_use hK.2 hw hwo
    obtain ⟨mk, hn⟩ := fw_named hwd
    obtain ⟨meth', c', h1, -, -, h4⟩ := fw_word_spec hn hwd
    exact ⟨mk, meth', hn, h1, trivial, h4⟩
  have hstatic : methM.isStatic = true := Cond.static_spec hnamed hmethM (fw_use (A := args) hK.2 hst rfl)
  obtain ⟨kP, hkP, -⟩ := className_of_methodNamed hnamed
  have hinitP : kP.init = .initialized := Cond.initialized_spec (findClass_of_methodNamed hnamed) hkP (fw_use (A := args) hK.2 hi rfl)
  have hl2 : A.length = methM.sig.parameters.length := by
    rw [hsigM] at hlen
    exact (Option.some.inj hlen).symm
  have hdg : decode c.code pc = .ok (.invokestatic idx, 3) := by rw [hb]; exact hd
  rcases hl with hl | ⟨host, hl⟩
  · obtain ⟨vm₁, X₁, hstep₁⟩ := X.invokestatic hx hown (fw_use hK.2 hl rfl) hnamed hmethM hstatic hkP hinitP hy (g := F0 m pc ls (A.reverse ++ rest)) rfl (argsL := A) (rest := rest) hl2 rfl hdg
    exact ⟨vm₁, mk, X₁, hnamed, ⟨_, hdg⟩, hstep₁⟩
  · obtain ⟨vm₁, X₁, hstep₁⟩ := X.invokestaticNest hx hown (fw_use hK.2 hl rfl) hnamed hmethM hstatic hkP hinitP hy (g := F0 m pc ls (A.reverse ++ rest)) rfl (argsL := A) (rest := rest) hl2 rfl hdg
    exact ⟨vm₁, mk, X₁, hnamed, ⟨_, hdg⟩, hstep₁⟩
theorem fw_recv {g : Gl} {w : Wd} {H : Heap} {s : State} {a ci : Nat} {fs : List Value} {C : String} {T : u_T} {N : Nat} (hK : fw_K g s) (hH : fw_H g w H) (ha : w a = some (cO ci fs)) (hc : vwCl[ci]? = some (C, T, N)) : ∃ cell : Cell, H[a]? = some cell ∧ cell.vm = .none ∧ s.vm.findClass C = some cell.cls := by
  obtain ⟨q', h1, cell, g1, g2, g3, -⟩ := hH a _ ha
  exact ⟨cell, g1, g3, by rw [g2]; exact (hK.1.1 ci _ hc).2.1⟩
/-- a method of the receiver's own class -/
theorem en_v {idx a ci N : Nat} {fs : List Value} {T : u_T} {A rest : List Value} {M' : Mi} (hd : decode M.2.1 pc = .ok (.invokevirtual idx, 3)) (hl : Cond.methodLink M.1.cls idx M'.1 ∈ fw_big ∨ ∃ host, Cond.methodLinkNest M.1.cls idx M'.1 host ∈ fw_big) (hw : fw_word M' ∈ fw_big) (hwo : (fw_word M').onTables = true) (him : Cond.instanceMethod M'.1 ∈ fw_big) (hse : Cond.selects M'.1.cls M'.1 M'.1 ∈ fw_big)
    (hc : vwCl[ci]? = some (M'.1.cls, T, N)) (ha : w a = some (cO ci fs)) (hy : M'.1.cls ≠ "java/lang/invoke/MethodHandle" ∧ M'.1.cls ≠ "java/lang/invoke/VarHandle") (hlen : (parseMethodDescriptor M'.1.desc).map (fun d => d.parameters.length) = some A.length) (hS : S = A.reverse ++ .ref a :: rest) : fw_en g M w pc S rest (.ref a :: A) M'.1 := by
  intro p e R s m args below meth c T locs cells slots ls hx hb hown hK hH X
  subst hS
  obtain ⟨cellB, hcell, hvm, hcls⟩ := fw_recv hK hH ha hc
  have hwd : (fw_word M').before args s = true := fw_use hK.2 hw hwo
  obtain ⟨mk, methM, hnamed, hmethM, hstM, habM⟩ := Cond.instanceMethod_spec (fw_use (A := args) hK.2 him rfl)
  obtain ⟨methM', c', hmethM', -, -, hsigM⟩ := fw_word_spec hnamed hwd
  cases hmethM.symm.trans hmethM'
  obtain ⟨c2, r2, m2, q1, q2, q3, q4, kP, hkP, hkPi⟩ := Cond.selects_spec (fw_use (A := args) hK.2 hse rfl)
  cases hcls.symm.trans q1
  cases (State.methodFound?_of_named hnamed hy).symm.trans q2
  cases hnamed.symm.trans q3
  have hselP : selectMethod e.platform s.vm cellB.cls mk = .method mk := by rw [Launch.admits_selectMethod X.admits]; exact q4
  have hl2 : A.length = methM.sig.parameters.length := by
    rw [hsigM] at hlen
    exact (Option.some.inj hlen).symm
  have hdg : decode c.code pc = .ok (.invokevirtual idx, 3) := by rw [hb]; exact hd
  rcases hl with hl | ⟨host, hl⟩
  · obtain ⟨vm₁, X₁, hstep₁⟩ := X.invokevirtual hx hown (fw_use hK.2 hl rfl) hnamed hmethM hstM hkP hkPi hy (a := a) (cell := cellB) hcell (fun z h => by rw [hvm] at h; cases h) hselP hmethM habM hkP hkPi (g := F0 m pc ls (A.reverse ++ .ref a :: rest)) rfl (argsL := A) (rest := rest) hl2 rfl hdg
    exact ⟨vm₁, mk, X₁, hnamed, ⟨_, hdg⟩, hstep₁⟩
  · obtain ⟨vm₁, X₁, hstep₁⟩ := X.invokevirtualNest hx hown (fw_use hK.2 hl rfl) hnamed hmethM hstM hkP hkPi hy (a := a) (cell := cellB) hcell (fun z h => by rw [hvm] at h; cases h) hselP hmethM habM hkP hkPi (g := F0 m pc ls (A.reverse ++ .ref a :: rest)) rfl (argsL := A) (rest := rest) hl2 rfl hdg
    exact ⟨vm₁, mk, X₁, hnamed, ⟨_, hdg⟩, hstep₁⟩
/-- a method by the receiver's kind: named x, chosen M' -/
theorem en_u {idx a ci N : Nat} {fs : List Value} {C : String} {T : u_T} {A rest : List Value} {x : MethodName} {M' : Mi} (hd : decode M.2.1 pc = .ok (.invokevirtual idx, 3)) (hl : Cond.methodLink M.1.cls idx x ∈ fw_big) (hsm : Cond.sameMethod x.cls x.cls x.name x.desc ∈ fw_big) (hde : Cond.declares x ∈ fw_big ∨ ∃ b n r, Cond.instanceMethod x ∈ fw_big ∧ Cond.code x b n r ∈ fw_big) (hw : fw_word M' ∈ fw_big) (hwo : (fw_word M').onTables = true) (him : Cond.instanceMethod M'.1 ∈ fw_big) (hse : Cond.selects C x M'.1 ∈ fw_big)
    (hc : vwCl[ci]? = some (C, T, N)) (ha : w a = some (cO ci fs)) (hy : x.cls ≠ "java/lang/invoke/MethodHandle" ∧ x.cls ≠ "java/lang/invoke/VarHandle") (hlen : (parseMethodDescriptor x.desc).map (fun d => d.parameters.length) = some A.length) (hS : S = A.reverse ++ .ref a :: rest) : fw_en g M w pc S rest (.ref a :: A) M'.1 := by
  intro p e R s m args below meth c T locs cells slots ls hx hb hown hK hH X
  subst hS
  obtain ⟨cellB, hcell, hvm, hcls⟩ := fw_recv hK hH ha hc
  have hd0 : va_Decl s x := by
    rcases hde with h | ⟨b, n, r, h, h'⟩
    · exact va_Decl.abs (hK.2 _ h)
    · exact va_Decl.of (fw_use (A := args) hK.2 h rfl) (fw_use (A := args) hK.2 h' rfl)
  obtain ⟨r0, r, hn, hrm, hstR, hsigR⟩ := hd0
  have hsame := fw_use (A := args) hK.2 hsm rfl
  obtain ⟨cn, ck, r1, hcn, hck, hni, hf, hn1⟩ := Cond.sameMethod_found hsame
  cases hn.symm.trans hn1
  obtain ⟨mk, methM, hnamed, hmethM, -, habM⟩ := Cond.instanceMethod_spec (fw_use (A := args) hK.2 him rfl)
  obtain ⟨c2, r2, m2, q1, q2, q3, q4, kP, hkP, hkPi⟩ := Cond.selects_spec (fw_use (A := args) hK.2 hse rfl)
  cases hcls.symm.trans q1
  cases hf.symm.trans q2
  cases hnamed.symm.trans q3
  have hselP : selectMethod e.platform s.vm cellB.cls r0 = .method mk := by rw [Launch.admits_selectMethod X.admits]; exact q4
  have hl2 : A.length = r.sig.parameters.length := by
    rw [hsigR] at hlen
    exact (Option.some.inj hlen).symm
  have hdg : decode c.code pc = .ok (.invokevirtual idx, 3) := by rw [hb]; exact hd
  obtain ⟨vm₁, X₁, hstep₁⟩ := X.invokevirtualUp hx hown (fw_use hK.2 hl rfl) hsame hy hn hrm hstR (a := a) (cell := cellB) hcell (fun z h => by rw [hvm] at h; cases h) hselP hmethM habM hkP hkPi (g := F0 m pc ls (A.reverse ++ .ref a :: rest)) rfl (argsL := A) (rest := rest) hl2 rfl hdg
  exact ⟨vm₁, mk, X₁, hnamed, ⟨_, hdg⟩, hstep₁⟩
/-- a constructor -/
theorem en_i {idx a : Nat} {A rest : List Value} {M' : Mi} (hd : decode M.2.1 pc = .ok (.invokespecial idx, 3)) (hl : Cond.methodLink M.1.cls idx M'.1 ∈ fw_big ∨ ∃ host, Cond.methodLinkNest M.1.cls idx M'.1 host ∈ fw_big) (hw : Cond.code M'.1 M'.2.1 M'.2.2.1 none ∈ fw_big) (him : Cond.instanceMethod M'.1 ∈ fw_big) (hnm : M'.1.name = "<init>")
    (hy : M'.1.cls ≠ "java/lang/invoke/MethodHandle" ∧ M'.1.cls ≠ "java/lang/invoke/VarHandle") (hlen : (parseMethodDescriptor M'.1.desc).map (fun d => d.parameters.length) = some A.length) (hS : S = A.reverse ++ .ref a :: rest) : fw_en g M w pc S rest (.ref a :: A) M'.1 := by
  intro p e R s m args below meth c T locs cells slots ls hx hb hown hK hH X
  subst hS
  have hpl : e.platform.magicAccessors = ({} : Platform).magicAccessors := by rw [X.admits.platform]
  have hl2 : ∀ sig, parseMethodDescriptor M'.1.desc = some sig → A.length = sig.parameters.length := by
    intro sig h
    rw [h] at hlen
    exact (Option.some.inj hlen).symm
  have hdg : decode c.code pc = .ok (.invokespecial idx, 3) := by rw [hb]; exact hd
  rcases hl with hl | ⟨host, hl⟩
  · obtain ⟨mk, methM, cM, kP, vm₁, hnamed, hmethM, hcodeM, -, hlocalsM, -, hkP, -, hW₁, hstep₁⟩ := Steps.initColdArgs (e := e) X.here hx X.warmed hpl hown hnm hy (fw_use (A := args) hK.2 hl rfl) (fw_use (A := args) hK.2 him rfl) (fw_use (A := args) hK.2 hw rfl) (f := F0 m pc ls (A.reverse ++ .ref a :: rest)) rfl hl2 rfl hdg
    exact ⟨vm₁, mk, X.noted hW₁, hnamed, ⟨_, hdg⟩, hstep₁⟩
  · obtain ⟨mk, methM, cM, kP, vm₁, hnamed, hmethM, hcodeM, -, hlocalsM, -, hkP, -, hW₁, hstep₁⟩ := Steps.initColdArgsNest (e := e) X.here hx X.warmed hpl hown hnm hy (fw_use (A := args) hK.2 hl rfl) (fw_use (A := args) hK.2 him rfl) (fw_use (A := args) hK.2 hw rfl) (f := F0 m pc ls (A.reverse ++ .ref a :: rest)) rfl hl2 rfl hdg
    exact ⟨vm₁, mk, X.noted hW₁, hnamed, ⟨_, hdg⟩, hstep₁⟩
/-! throw new X(text) -/
/-- the same frame, as if the method were called anew in this heap -/
theorem fw_rebase {p : Program} {l : Launch} {e : Env} {R : Room} {s : State} {m : MethodId} {args : Array Value} {below : List Frame} {meth : Method} {c : Code} {locs : List Loc} {cells slots : Nat} {T : State} (X : Stand p l e R s m args below meth c T locs cells slots) {R' : Room} (hf : R'.frames ≤ R.frames) (hl : R'.locals ≤ R.locals) (hc : cells + R'.cells ≤ R.cells) (hs : slots + R'.slots ≤ R.slots) :
    Stand p l e R' ((T.setVm s.vm).setFrames (.invoking m args :: below)) m args below meth c T [] 0 0 := by
  have htop : (T.setVm s.vm).topJava?.isSome := X.here.top
  have hF : ((T.setVm s.vm).setFrames (.invoking m args :: below)).frames = .invoking m args :: below := State.frames_setFrames _ (State.cur_lt_of_top htop)
  obtain ⟨g₀, hg0⟩ := Option.isSome_iff_exists.mp htop
  obtain ⟨r, hr⟩ := State.topJava?_eq_some.mp hg0
  have hl9 : e.platform.stackLimits (T.setVm s.vm).me = e.platform.stackLimits s.me := X.limits
  have hb9 : (T.setVm s.vm).me.stackBytes = s.me.stackBytes := X.bytes
  refine ⟨X.admits, X.cas, X.clock, hF, ?_, X.hears, X.method, X.code, X.here, X.tail, X.warmed, ?_, ?_, ?_⟩
  · have h := X.room
    have hU : ((T.setVm s.vm).setFrames (.invoking m args :: below)).localsInUse = s.localsInUse := by
      rw [State.localsInUse_invoking hF (meth := meth) (c := c) X.method X.code, State.localsInUse_invoking X.frames X.method X.code]
    simp only [State.hasRoom, Bool.and_eq_true, decide_eq_true_eq] at h ⊢
    obtain ⟨⟨⟨⟨h1, h2, h3, h4, h5, h6⟩, h7⟩, h8⟩, h9⟩ := h
    rw [X.frames, List.length_cons] at h2 h3
    have q1 := X.heapSize
    have q2 := X.used
    simp only [hF, hU, List.length_cons, State.stackLimits_setFrames, State.stackBytes_setFrames, hl9, hb9]
    refine ⟨⟨⟨⟨by omega, by omega, by omega, by omega, by omega, h6⟩, ?_⟩, ?_⟩, X.book⟩
    · show T.heap.size + R'.cells ≤ e.platform.maxCells
      omega
    · show T.slotsUsed + R'.slots ≤ e.platform.maxSlots
      omega
  · rw [State.stackLimits_setFrames]; rfl
  · rw [State.stackBytes_setFrames]; rfl
  · refine ⟨?_, Nat.le_refl _, Nat.le_refl _, ?_, ?_, fun a c9 h9 => ⟨c9, h9, rfl, rfl, fun _ _ => rfl⟩⟩
    · obtain ⟨t, ht, -⟩ := State.frames_cons hr
      show T.setVm s.vm = { ((T.setVm s.vm).setFrames (.invoking m args :: below)).setFrames (T.setVm s.vm).frames with heap := T.heap, slotsUsed := T.slotsUsed }
      rw [State.setFrames_setFrames, State.setFrames_self ht]
      rfl
    · show T.slotsUsed = T.slotsUsed + ((T.heap.toList.drop T.heap.size).map (·.slots.size)).sum
      rw [List.drop_eq_nil_of_le (Nat.le_of_eq Array.length_toList)]
      rfl
    · show ((T.heap.toList.drop T.heap.size).map (·.slots.size)).sum ≤ 0
      rw [List.drop_eq_nil_of_le (Nat.le_of_eq Array.length_toList)]
      exact Nat.le_refl _
/-- the words of the throw that the tables decide -/
def fw_ta (own : String) (ic k : Nat) : List Cond := (Bundle.ownAtoms own ic (fw_ex k) ["java/lang/RuntimeException", "java/lang/Exception"]).filter (fun w => decide (w ≠ .isRef (.static Bundle.tN "UNASSIGNED_STACK" Bundle.steD)) && decide (w ≠ .isRef (.static Bundle.tN "SUPPRESSED_SENTINEL" Bundle.listD)) && decide (w ≠ .laysStatic Bundle.tN "UNASSIGNED_STACK" Bundle.steD) && decide (w ≠ .laysStatic Bundle.tN "SUPPRESSED_SENTINEL" Bundle.listD))
theorem fw_st.lays {n dd : String} {s : State} {args : Array Value} (h : fw_st n dd s s.heap) : (Cond.laysStatic Bundle.tN n dd).before args s = true := by
  obtain ⟨c, k, i, f, a, cell, v, h1, h2, h3, h4, h5, h6, h7, h8, h9, -⟩ := h
  show (Cond.laysStatic Bundle.tN n dd).holds args s none s [] = true
  exact Cond.laysStatic_of h1 h2 h3 h4 h5 h6 h7 h8 h9
theorem fw_st.isref {n dd : String} {s : State} {args : Array Value} (h : fw_st n dd s s.heap) : (Cond.isRef (.static Bundle.tN n dd)).before args s = true := by
  obtain ⟨c, k, i, f, a, cell, v, h1, h2, h3, h4, h5, h6, h7, h8, h9, h10, h11⟩ := h
  have he : (Term.static Bundle.tN n dd).eval args s none [] s = some v := by
    simp [Term.eval, State.fieldNamed?, h2, h3, h4, h5, h6, h10]
  simp only [Cond.before, Cond.holds, Cond.value, he]
  cases v <;> simp_all [Value.isRef]
theorem fw_atoms {own : String} {ic k : Nat} {s : State} {args : Array Value} (hX : fw_X g s) (h : ∀ c ∈ fw_ta own ic k, c.before args s = true) : ∀ c ∈ Bundle.ownAtoms own ic (fw_ex k) ["java/lang/RuntimeException", "java/lang/Exception"], c.before args s = true := by
  intro c hc
  by_cases e1 : c = .isRef (.static Bundle.tN "UNASSIGNED_STACK" Bundle.steD)
  · rw [e1]; exact hX.2.1.isref
  · by_cases e2 : c = .isRef (.static Bundle.tN "SUPPRESSED_SENTINEL" Bundle.listD)
    · rw [e2]; exact hX.2.2.1.isref
    · by_cases e3 : c = .laysStatic Bundle.tN "UNASSIGNED_STACK" Bundle.steD
      · rw [e3]; exact hX.2.1.lays
      · by_cases e4 : c = .laysStatic Bundle.tN "SUPPRESSED_SENTINEL" Bundle.listD
        · rw [e4]; exact hX.2.2.1.lays
        · exact h c (List.mem_filter.mpr ⟨hc, by simp [e1, e2, e3, e4]⟩)
/-- what the tables must hold for this throw -/
def fw_tk (own : String) (ik is ic k : Nat) (tx : String) : Prop := (∀ c ∈ fw_ta own ic k, c ∈ fw_big ∧ c.onTables = true) ∧ Cond.classLink own ik (fw_ex k) ∈ fw_big ∧ Cond.instantiable (fw_ex k) 6 ∈ fw_big ∧ Cond.initialized (fw_ex k) ∈ fw_big ∧ Cond.stringRef own is tx ∈ tables_1 ∧ own = "DeltaViews" ∧ Bundle.fit (fw_ex k) = true
theorem v_throw {ik is ic k : Nat} {tx : String} (d0 : decode M.2.1 pc = .ok (.new ik, 3)) (d3 : decode M.2.1 (pc + 3) = .ok (.dup, 1)) (d4 : decode M.2.1 (pc + 4) = .ok (.ldc is, 2)) (d6 : decode M.2.1 (pc + 6) = .ok (.invokespecial ic, 3)) (d9 : decode M.2.1 (pc + 9) = .ok (.athrow, 1))
    (ht : fw_tk M.1.cls ik is ic k tx) (hh : M.2.2.2.2 = []) (hdd : 6 ≤ d) (h1 : nc + 1 ≤ mc) (h2 : ns + 6 ≤ ms) (hst : (S.map fun v => v.category).sum ≤ 8) (hE : E (.inr k) w (sz + 1)) : VV g d mc ms M w0 sz0 E pc L S w sz nc ns := by
  intro p e s m args below meth c H locs ls hC hH hz hx hl hL
  obtain ⟨t1, t2, t3, t4, t5, t6, t7⟩ := ht
  intro T hT X
  have hX := hC.2.2.2.2.2.2.2
  have htr : e.platform.stackTraces = false := Launch.traces_off hX.1 X.admits
  have Y := fw_rebase X (R' := { frames := d, locals := 39 * d, cells := 1, slots := 6 }) (Nat.le_refl _) (Nat.le_refl _) h1 h2
  obtain ⟨s', hA⟩ : ∃ z, z = (T.setVm s.vm).setFrames (.invoking m args :: below) := ⟨_, rfl⟩
  rw [← hA] at Y
  have hvm : s'.vm = s.vm := by rw [hA]; rfl
  have hhp : s'.heap = H := by rw [hA]; exact hT
  have hW0 : s.WarmedH s'.vm := by rw [hvm]; exact State.WarmedH.refl s
  have hT' : fw_T s' := hC.2.2.2.2.1.2.warm hW0
  have hXT : fw_X g T := hX.stand hC.2.2.2.2.2.2.1 hC.2.2.2.2.2.1 hl X
  have hX' : fw_X g s' := by
    refine ⟨hX.1, ?_, ?_, fun i tx hi => ?_, fun i j hij c c' h1 h2 => ?_, fun c h1 h2 => State.isArrayOf_alike (by rw [hvm]; exact Vm.Alike.refl _) (hX.2.2.2.2.2 c h1 h2)⟩
    · rw [hhp, ← hT]
      exact hXT.2.1.kept (by rw [hvm]; exact X.warmed.alike.symm) (fun _ _ h _ => h)
    · rw [hhp, ← hT]
      exact hXT.2.2.1.kept (by rw [hvm]; exact X.warmed.alike.symm) (fun _ _ h _ => h)
    · obtain ⟨a, ha⟩ := hX.2.2.2.1 i tx hi
      exact ⟨a, ha.warm hW0⟩
    · rw [hvm] at h1 h2 ⊢
      exact hX.2.2.2.2.1 i j hij c c' h1 h2
  have hown' : s'.vm.findClass M.1.cls = some m.cls := by rw [hvm]; exact fw_K.own hC
  obtain ⟨cX, kX', f1, f2, f3, -⟩ := Cond.instantiable_spec (fw_use (A := args) hT' t3 rfl)
  obtain ⟨sa, hsa⟩ := hX'.2.2.2.1 is tx (by rw [← t6]; exact t5)
  have hout : ∀ y ∈ c.exceptionTable.toList, covers y (pc + 6 + 3) = false := by
    have h9 := hC.2.1.2.2.1
    rw [hh] at h9
    have : c.exceptionTable.toList = [] := List.map_eq_nil_iff.mp h9
    rw [this]
    intro y hy
    cases hy
  have hlk : meth.locks = false := hC.2.1.2.2.2.2
  have key : W p g.1 e { frames := d, locals := 39 * d, cells := 1, slots := 6 } s' m args below meth c H [] 0 0 (fw_E g w0 sz0 mc ms E below s) (F0 m pc ls S) := by
    refine W.newcK hC.1 hC.2.1.1 hown' (fw_use hT' t2 rfl) (fw_use hT' t3 rfl) (fw_use hT' t4 rfl) rfl d0 (Nat.le_refl _) (Nat.le_refl _) f1 rfl fun H1 kX hkX e1 z1 o1 => ?_
    refine lv_dup hC.1 hC.2.1.1 d3 rfl ?_
    refine va_ldcS hC.1 hC.2.1.1 hown' (by rw [t6]; exact hsa) d4 ?_
    intro T1 hT1 X1
    obtain ⟨U, u1, u2, u3, u4, u5, ce, u6, u7⟩ := X1.ctorThrowS hC.1 htr hown' t7 (by decide) (fw_atoms hX' (fun c hc => fw_use hT' (t1 c hc).1 (t1 c hc).2)) (fun x hx => nomatch hx) f1 hkX (a := H.size) (by rw [hT1]; exact e1) (by rw [hhp]; exact Nat.le_refl _) (msg := .ref sa) rfl
      (g := F0 m (pc + 6) ls (.ref sa :: .ref H.size :: .ref H.size :: S)) rfl (hL.1.trans hC.2.1.2.1.symm) rfl rfl (rest := S) rfl (by rw [hC.2.1.1]; exact d6) (by rw [hC.2.1.1]; exact d9) hout (by show 2 + 3 < d; omega)
      (by show 2 * 0 + (1 + (S.map fun v => v.category).sum) + (13 * (2 + 1) + 42) ≤ 39 * d; omega) hlk
    have hall : s.sameButNew ({ U with vm := s.vm } : State) locs (nc + 1) (ns + 6) := by
      subst hA
      obtain ⟨e1, e2⟩ := u5
      rw [State.setFrames_setFrames] at e1
      have h2 : (T.setVm s.vm).sameButNew ({ U with vm := s.vm } : State) [] (0 + 1) (0 + 6) := ⟨e1, e2⟩
      have h3 := X.same.trans h2
      rw [List.append_nil] at h3
      exact h3.mono (by omega) (by omega)
    obtain ⟨-, z2, z3, -, -, z6⟩ := u5
    have hkeep : ∀ q : Nat, q < H.size → U.heap[q]? = H[q]? := by
      intro q hq
      rw [← hhp] at hq ⊢
      obtain ⟨c9, e1, e2, e3, e4⟩ := z6 q _ (Array.getElem?_eq_getElem hq)
      have hs : c9.slots = (s'.heap[q]).slots := Array.ext_getElem? fun i => e4 i fun hm => nomatch hm
      have h9 : c9 = s'.heap[q] := by
        rw [hs] at e2
        exact e2
      have e5 : U.heap[q]? = some c9 := e1
      rw [e5, h9, Array.getElem?_eq_getElem hq]
    have hUz : U.heap.size = sz + 1 := by
      have y1 : U.heap.size ≤ s'.heap.size + (0 + 1) := z3
      have y2 : H.size < U.heap.size := (Array.getElem?_eq_some_iff.mp u6).1
      rw [hhp] at y1
      omega
    have hWs : s.WarmedH U.vm := State.WarmedH.trans hW0 u4
    refine ⟨U, u1, .threw H.size, u2, u3, ⟨.inr k, w, ⟨H.size, ce, rfl, by rw [hz]; exact hx.1, u6, u7.vm, ?_⟩, fun a e' he => (hH a e' he).kept (hkeep a (hH a e' he).lt), ?_, ?_⟩, locs, hWs, hall.mono h1 h2, hl⟩
    · have h9 := u7.cls
      rw [hvm] at h9
      rw [hWs.alike.findClass]
      exact h9
    · rw [hUz]
      exact ⟨by have := hx.1; omega, fun q hq => hx.2 q (by
        rcases hq with h | h
        · exact Or.inl h
        · exact Or.inr (by omega))⟩
    · rw [hUz]; exact hE
  exact key T hT Y
end TW
