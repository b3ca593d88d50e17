/-! What is thrown, and the call as a rule. -/
section TW
variable {g : Gl} {d mc ms : Nat} {M : Mi} {w0 : Wd} {sz0 : Nat} {E : Rs → Wd → Nat → Prop} {pc : Nat} {L : List (Nat × Value)} {S : List Value} {w : Wd} {sz nc ns : Nat}
/-- a body at pc where an object of the kind k is thrown -/
def VT (g : Gl) (d mc ms : Nat) (M : Mi) (w0 : Wd) (sz0 : Nat) (E : Rs → Wd → Nat → Prop) (pc : Nat) (L : List (Nat × Value)) (S : List Value) (w : Wd) (sz nc ns k : Nat) : Prop :=
  ∀ (p : Program) (e : Env) (s : State) (m : MethodId) (args : Array Value) (below : List Frame) (meth : Method) (c : Code) (T : State) (locs : List Loc) (ls : Array Slot) (x : Addr) (cell : Cell),
    fw_Cx g M w0 sz0 p s m meth c → fw_H g w T.heap → T.heap.size = sz → fw_ext w0 sz0 w sz → (∀ q ∈ locs, fw_fr w0 sz0 q.base) → lv_has ls M.2.2.1 L →
    Stand p g.1 e (fw_rm d mc ms) s m args below meth c T locs nc ns → sz0 ≤ x → T.heap[x]? = some cell → cell.vm = .none → T.vm.findClass (fw_ex k) = some cell.cls →
    ∃ t, Steps p.tables e below ((T.setTop (F0 m pc ls S)).pushFrame (.throwing x)) t ∧ fw_E g w0 sz0 mc ms E below s t
theorem vt_out {k : Nat} (hh : M.2.2.2.2 = []) (h1 : nc ≤ mc) (h2 : ns ≤ ms) (hE : E (.inr k) w sz) : VT g d mc ms M w0 sz0 E pc L S w sz nc ns k := by
  intro p e s m args below meth c T locs ls x cell hC hH hz hx hl hL X0 hx0 hc1 hc2 hc3
  have X := stand_widen X0 h1 h2
  have hout : ∀ y ∈ c.exceptionTable.toList, covers y pc = false := by
    have h9 := hC.2.1.2.2.1
    rw [hh] at h9
    have : c.exceptionTable.toList = [] := List.map_eq_nil_iff.mp h9
    rw [this]
    intro y hy
    cases hy
  have hlk : meth.locks = false := hC.2.1.2.2.2.2
  obtain ⟨hst, hrun, hend, hW, hsame⟩ := X.leaveThrown x (g := F0 m pc ls S) rfl rfl rfl hout hlk
  refine ⟨_, hst, .threw x, hrun, hend, ⟨.inr k, w, ⟨x, cell, rfl, hx0, hc1, hc2, hc3⟩, hH, ?_, ?_⟩, locs, hW, hsame, hl⟩
  · show fw_ext w0 sz0 w T.heap.size
    rw [hz]; exact hx
  · show E (.inr k) w T.heap.size
    rw [hz]; exact hE
theorem v_call {rest A : List Value} {M' : Mi} {d' mc' ms' : Nat} {E' : Rs → Wd → Nat → Prop} (hen : fw_en g M w pc S rest A M'.1) (hc : CT g d' mc' ms' M' A w sz E') (hw : fw_word M' ∈ fw_big) (hwo : (fw_word M').onTables = true) (hi : Cond.initialized M'.1.cls ∈ fw_big)
    (r1 : d' + 1 ≤ d) (r2 : M'.2.2.1 ≤ 20) (r3 : nc + mc' ≤ mc) (r4 : ns + ms' ≤ ms) (hst : (rest.map fun v => v.category).sum ≤ 8)
    (kr : ∀ v w' sz', E' (.inl v) w' sz' → VV g d mc ms M w0 sz0 E (pc + 3) L (v.toList ++ rest) w' sz' (nc + mc') (ns + ms'))
    (kt : ∀ k w' sz', E' (.inr k) w' sz' → VT g d mc ms M w0 sz0 E pc L rest w' sz' (nc + mc') (ns + ms') k) : VV g d mc ms M w0 sz0 E pc L S w sz nc ns := by
  intro p e s m args below meth c H locs ls hC hH hz hx hl hL
  intro T hT X
  subst hT
  obtain ⟨vm', mk, X₁, hn, ⟨ig, hdg⟩, hgo⟩ := hen p e _ s m args below meth c T locs nc ns ls hC.1 hC.2.1.1 (fw_K.own hC) hC.2.2.2.2.1 hH X
  have hK₁ : fw_K g (T.setVm vm') := hC.2.2.2.2.1.warm X₁.warmed
  have hn₁ : (T.setVm vm').methodNamed? M'.1 = some mk := X₁.named hn
  obtain ⟨r, w', T', L', X', hL', hH', hx', hE', hm⟩ := fw_call (f := F0 m pc ls rest) X₁ hc rfl (hL.1.trans hC.2.1.2.1.symm) hdg (by show 2 * 0 + (rest.map fun v => v.category).sum ≤ 8; omega) hn₁ (fw_use hK₁.2 hw hwo) (fw_use hK₁.2 hi rfl) hz hH hK₁ (by show d' + 1 ≤ d; exact r1) (by show _ ≤ 39 * d; omega) r3 r4
  have hl' : ∀ q ∈ locs ++ L', fw_fr w0 sz0 q.base := by
    intro q hq
    rcases List.mem_append.mp hq with h | h
    · exact hl q h
    · exact hx.2 _ (hL' q h)
  match r, hm, hE' with
  | .inl v, hm, hE' =>
    obtain ⟨t, a1, b1⟩ := kr v w' _ hE' p e s m args below meth c T'.heap _ ls hC hH' rfl (hx.tr hx') hl' hL T' rfl X'
    exact ⟨t, hgo t (fun acts => by rw [doInvoke_state]; exact Steps.trans hm a1), b1⟩
  | .inr k, hm, hE' =>
    obtain ⟨x, ce, y1, y2, y3, y4, hm⟩ := hm
    obtain ⟨t, a1, b1⟩ := kt k w' _ hE' p e s m args below meth c T' _ ls x ce hC hH' rfl (hx.tr hx') hl' hL X' (Nat.le_trans hx.1 y1) y2 y3 y4
    exact ⟨t, hgo t (fun acts => by rw [doInvoke_state]; exact Steps.trans hm a1), b1⟩
/-! the ways in -/
theorem fw_named {M' : Mi} {s : State} {args : Array Value} (h : (fw_word M').before args s = true) : ∃ mk, s.methodNamed? M'.1 = some mk := by
  obtain ⟨y, b, n, r, hh⟩ := M'
  cases hh with
  | nil => exact Cond.code_named h
  | cons x t =>
    obtain ⟨m9, meth, c, hn9, -⟩ := Cond.codeWith_spec h
    exact ⟨m9, hn9⟩
theorem en_s {idx : Nat} {A rest : List Value} {M' : Mi} (hd : decode M.2.1 pc = .ok (.invokestatic idx, 3)) (hl : Cond.methodLink M.1.cls idx M'.1 ∈ fw_big ∨ ∃ host, Cond.methodLinkNest M.1.cls idx M'.1 host ∈ fw_big) (hw : fw_word M' ∈ fw_big) (hwo : (fw_word M').onTables = true) (hst : Cond.static M'.1 ∈ fw_big) (hi : Cond.initialized M'.1.cls ∈ fw_big)
    (hy : M'.1.cls ≠ "java/lang/invoke/MethodHandle" ∧ M'.1.cls ≠ "java/lang/invoke/VarHandle") (hlen : (parseMethodDescriptor M'.1.desc).map (fun d => d.parameters.length) = some A.length) (hS : S = A.reverse ++ rest) : fw_en g M w pc S rest A M'.1 := by
  intro p e R s m args below meth c T locs cells slots ls hx hb hown hK hH X
  subst hS
  obtain ⟨mk, methM, hnamed, hmethM, hcodeM, hsigM⟩ : ∃ mk methM, s.methodNamed? M'.1 = some mk ∧ s.vm.method? mk = some methM ∧ True ∧ parseMethodDescriptor M'.1.desc = some methM.sig := by
    have hwd : (fw_word M').before args s = true := fw_use hK.2 hw hwo
    obtain ⟨mk, hn⟩ := fw_named hwd
    obtain ⟨meth', c', h1, -, -, h4⟩ := fw_word_spec hn hwd
    exact ⟨mk, meth', hn, h1, trivial, h4⟩
  have hstatic : methM.isStatic = true := Cond.static_spec hnamed hmethM (fw_use (A := args) hK.2 hst rfl)
  obtain ⟨kP, hkP, -⟩ := className_of_methodNamed hnamed
  have hinitP : kP.init = .initialized := Cond.initialized_spec (findClass_of_methodNamed hnamed) hkP (fw_use (A := args) hK.2 hi rfl)
  have hl2 : A.length = methM.sig.parameters.length := by
    rw [hsigM] at hlen
    exact (Option.some.inj hlen).symm
  have hdg : decode c.code pc = .ok (.invokestatic idx, 3) := by rw [hb]; exact hd
  rcases hl with hl | ⟨host, hl⟩
  · obtain ⟨vm₁, X₁, hstep₁⟩ := X.invokestatic hx hown (fw_use hK.2 hl rfl) hnamed hmethM hstatic hkP hinitP hy (g := F0 m pc ls (A.reverse ++ rest)) rfl (argsL := A) (rest := rest) hl2 rfl hdg
    exact ⟨vm₁, mk, X₁, hnamed, ⟨_, hdg⟩, hstep₁⟩
  · obtain ⟨vm₁, X₁, hstep₁⟩ := X.invokestaticNest hx hown (fw_use hK.2 hl rfl) hnamed hmethM hstatic hkP hinitP hy (g := F0 m pc ls (A.reverse ++ rest)) rfl (argsL := A) (rest := rest) hl2 rfl hdg
    exact ⟨vm₁, mk, X₁, hnamed, ⟨_, hdg⟩, hstep₁⟩
theorem fw_recv {g : Gl} {w : Wd} {H : Heap} {s : State} {a ci : Nat} {fs : List Value} {C : String} {T : u_T} {N : Nat} (hK : fw_K g s) (hH : fw_H g w H) (ha : w a = some (cO ci fs)) (hc : vwCl[ci]? = some (C, T, N)) : ∃ cell : Cell, H[a]? = some cell ∧ cell.vm = .none ∧ s.vm.findClass C = some cell.cls := by
  obtain ⟨q', h1, cell, g1, g2, g3, -⟩ := hH a _ ha
  exact ⟨cell, g1, g3, by rw [g2]; exact (hK.1.1 ci _ hc).2.1⟩
/-- a method of the receiver's own class -/
theorem en_v {idx a ci N : Nat} {fs : List Value} {T : u_T} {A rest : List Value} {M' : Mi} (hd : decode M.2.1 pc = .ok (.invokevirtual idx, 3)) (hl : Cond.methodLink M.1.cls idx M'.1 ∈ fw_big ∨ ∃ host, Cond.methodLinkNest M.1.cls idx M'.1 host ∈ fw_big) (hw : fw_word M' ∈ fw_big) (hwo : (fw_word M').onTables = true) (him : Cond.instanceMethod M'.1 ∈ fw_big) (hse : Cond.selects M'.1.cls M'.1 M'.1 ∈ fw_big)
    (hc : vwCl[ci]? = some (M'.1.cls, T, N)) (ha : w a = some (cO ci fs)) (hy : M'.1.cls ≠ "java/lang/invoke/MethodHandle" ∧ M'.1.cls ≠ "java/lang/invoke/VarHandle") (hlen : (parseMethodDescriptor M'.1.desc).map (fun d => d.parameters.length) = some A.length) (hS : S = A.reverse ++ .ref a :: rest) : fw_en g M w pc S rest (.ref a :: A) M'.1 := by
  intro p e R s m args below meth c T locs cells slots ls hx hb hown hK hH X
  subst hS
  obtain ⟨cellB, hcell, hvm, hcls⟩ := fw_recv hK hH ha hc
  have hwd : (fw_word M').before args s = true := fw_use hK.2 hw hwo
  obtain ⟨mk, methM, hnamed, hmethM, hstM, habM⟩ := Cond.instanceMethod_spec (fw_use (A := args) hK.2 him rfl)
  obtain ⟨methM', c', hmethM', -, -, hsigM⟩ := fw_word_spec hnamed hwd
  cases hmethM.symm.trans hmethM'
  obtain ⟨c2, r2, m2, q1, q2, q3, q4, kP, hkP, hkPi⟩ := Cond.selects_spec (fw_use (A := args) hK.2 hse rfl)
  cases hcls.symm.trans q1
  cases (State.methodFound?_of_named hnamed hy).symm.trans q2
  cases hnamed.symm.trans q3
  have hselP : selectMethod e.platform s.vm cellB.cls mk = .method mk := by rw [Launch.admits_selectMethod X.admits]; exact q4
  have hl2 : A.length = methM.sig.parameters.length := by
    rw [hsigM] at hlen
    exact (Option.some.inj hlen).symm
  have hdg : decode c.code pc = .ok (.invokevirtual idx, 3) := by rw [hb]; exact hd
  rcases hl with hl | ⟨host, hl⟩
  · obtain ⟨vm₁, X₁, hstep₁⟩ := X.invokevirtual hx hown (fw_use hK.2 hl rfl) hnamed hmethM hstM hkP hkPi hy (a := a) (cell := cellB) hcell (fun z h => by rw [hvm] at h; cases h) hselP hmethM habM hkP hkPi (g := F0 m pc ls (A.reverse ++ .ref a :: rest)) rfl (argsL := A) (rest := rest) hl2 rfl hdg
    exact ⟨vm₁, mk, X₁, hnamed, ⟨_, hdg⟩, hstep₁⟩
  · obtain ⟨vm₁, X₁, hstep₁⟩ := X.invokevirtualNest hx hown (fw_use hK.2 hl rfl) hnamed hmethM hstM hkP hkPi hy (a := a) (cell := cellB) hcell (fun z h => by rw [hvm] at h; cases h) hselP hmethM habM hkP hkPi (g := F0 m pc ls (A.reverse ++ .ref a :: rest)) rfl (argsL := A) (rest := rest) hl2 rfl hdg
    exact ⟨vm₁, mk, X₁, hnamed, ⟨_, hdg⟩, hstep₁⟩
/-- a method by the receiver's kind: named x, chosen M' -/
theorem en_u {idx a ci N : Nat} {fs : List Value} {C : String} {T : u_T} {A rest : List Value} {x : MethodName} {M' : Mi} (hd : decode M.2.1 pc = .ok (.invokevirtual idx, 3)) (hl : Cond.methodLink M.1.cls idx x ∈ fw_big) (hsm : Cond.sameMethod x.cls x.cls x.name x.desc ∈ fw_big) (hde : Cond.declares x ∈ fw_big ∨ ∃ b n r, Cond.instanceMethod x ∈ fw_big ∧ Cond.code x b n r ∈ fw_big) (hw : fw_word M' ∈ fw_big) (hwo : (fw_word M').onTables = true) (him : Cond.instanceMethod M'.1 ∈ fw_big) (hse : Cond.selects C x M'.1 ∈ fw_big)
    (hc : vwCl[ci]? = some (C, T, N)) (ha : w a = some (cO ci fs)) (hy : x.cls ≠ "java/lang/invoke/MethodHandle" ∧ x.cls ≠ "java/lang/invoke/VarHandle") (hlen : (parseMethodDescriptor x.desc).map (fun d => d.parameters.length) = some A.length) (hS : S = A.reverse ++ .ref a :: rest) : fw_en g M w pc S rest (.ref a :: A) M'.1 := by
  intro p e R s m args below meth c T locs cells slots ls hx hb hown hK hH X
  subst hS
  obtain ⟨cellB, hcell, hvm, hcls⟩ := fw_recv hK hH ha hc
  have hd0 : va_Decl s x := by
    rcases hde with h | ⟨b, n, r, h, h'⟩
    · exact va_Decl.abs (hK.2 _ h)
    · exact va_Decl.of (fw_use (A := args) hK.2 h rfl) (fw_use (A := args) hK.2 h' rfl)
  obtain ⟨r0, r, hn, hrm, hstR, hsigR⟩ := hd0
  have hsame := fw_use (A := args) hK.2 hsm rfl
  obtain ⟨cn, ck, r1, hcn, hck, hni, hf, hn1⟩ := Cond.sameMethod_found hsame
  cases hn.symm.trans hn1
  obtain ⟨mk, methM, hnamed, hmethM, -, habM⟩ := Cond.instanceMethod_spec (fw_use (A := args) hK.2 him rfl)
  obtain ⟨c2, r2, m2, q1, q2, q3, q4, kP, hkP, hkPi⟩ := Cond.selects_spec (fw_use (A := args) hK.2 hse rfl)
  cases hcls.symm.trans q1
  cases hf.symm.trans q2
  cases hnamed.symm.trans q3
  have hselP : selectMethod e.platform s.vm cellB.cls r0 = .method mk := by rw [Launch.admits_selectMethod X.admits]; exact q4
  have hl2 : A.length = r.sig.parameters.length := by
    rw [hsigR] at hlen
    exact (Option.some.inj hlen).symm
  have hdg : decode c.code pc = .ok (.invokevirtual idx, 3) := by rw [hb]; exact hd
  obtain ⟨vm₁, X₁, hstep₁⟩ := X.invokevirtualUp hx hown (fw_use hK.2 hl rfl) hsame hy hn hrm hstR (a := a) (cell := cellB) hcell (fun z h => by rw [hvm] at h; cases h) hselP hmethM habM hkP hkPi (g := F0 m pc ls (A.reverse ++ .ref a :: rest)) rfl (argsL := A) (rest := rest) hl2 rfl hdg
  exact ⟨vm₁, mk, X₁, hnamed, ⟨_, hdg⟩, hstep₁⟩
/-- a constructor -/
theorem en_i {idx a : Nat} {A rest : List Value} {M' : Mi} (hd : decode M.2.1 pc = .ok (.invokespecial idx, 3)) (hl : Cond.methodLink M.1.cls idx M'.1 ∈ fw_big ∨ ∃ host, Cond.methodLinkNest M.1.cls idx M'.1 host ∈ fw_big) (hw : Cond.code M'.1 M'.2.1 M'.2.2.1 none ∈ fw_big) (him : Cond.instanceMethod M'.1 ∈ fw_big) (hnm : M'.1.name = "<init>")
    (hy : M'.1.cls ≠ "java/lang/invoke/MethodHandle" ∧ M'.1.cls ≠ "java/lang/invoke/VarHandle") (hlen : (parseMethodDescriptor M'.1.desc).map (fun d => d.parameters.length) = some A.length) (hS : S = A.reverse ++ .ref a :: rest) : fw_en g M w pc S rest (.ref a :: A) M'.1 := by
  intro p e R s m args below meth c T locs cells slots ls hx hb hown hK hH X
  subst hS
  have hpl : e.platform.magicAccessors = ({} : Platform).magicAccessors := by rw [X.admits.platform]
  have hl2 : ∀ sig, parseMethodDescriptor M'.1.desc = some sig → A.length = sig.parameters.length := by
    intro sig h
    rw [h] at hlen
    exact (Option.some.inj hlen).symm
  have hdg : decode c.code pc = .ok (.invokespecial idx, 3) := by rw [hb]; exact hd
  rcases hl with hl | ⟨host, hl⟩
  · obtain ⟨mk, methM, cM, kP, vm₁, hnamed, hmethM, hcodeM, -, hlocalsM, -, hkP, -, hW₁, hstep₁⟩ := Steps.initColdArgs (e := e) X.here hx X.warmed hpl hown hnm hy (fw_use (A := args) hK.2 hl rfl) (fw_use (A := args) hK.2 him rfl) (fw_use (A := args) hK.2 hw rfl) (f := F0 m pc ls (A.reverse ++ .ref a :: rest)) rfl hl2 rfl hdg
    exact ⟨vm₁, mk, X.noted hW₁, hnamed, ⟨_, hdg⟩, hstep₁⟩
  · obtain ⟨mk, methM, cM, kP, vm₁, hnamed, hmethM, hcodeM, -, hlocalsM, -, hkP, -, hW₁, hstep₁⟩ := Steps.initColdArgsNest (e := e) X.here hx X.warmed hpl hown hnm hy (fw_use (A := args) hK.2 hl rfl) (fw_use (A := args) hK.2 him rfl) (fw_use (A := args) hK.2 hw rfl) (f := F0 m pc ls (A.reverse ++ .ref a :: rest)) rfl hl2 rfl hdg
    exact ⟨vm₁, mk, X.noted hW₁, hnamed, ⟨_, hdg⟩, hstep₁⟩
end TW
