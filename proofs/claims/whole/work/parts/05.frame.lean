/-! Worlds as partial maps, one judgement for a body, one form of contract. -/
abbrev Ct : Type := (Nat × (Nat → Int32)) ⊕ (Nat × (Nat → Int64)) ⊕ (Nat × (Nat → Option Nat)) ⊕ (Nat × List Value) ⊕ Cell
abbrev Wd : Type := Nat → Option Ct
abbrev cI (n : Nat) (f : Nat → Int32) : Ct := .inl (n, f)
abbrev cJ (n : Nat) (f : Nat → Int64) : Ct := .inr (.inl (n, f))
abbrev cR (n : Nat) (f : Nat → Option Nat) : Ct := .inr (.inr (.inl (n, f)))
abbrev cO (k : Nat) (fs : List Value) : Ct := .inr (.inr (.inr (.inl (k, fs))))
abbrev cX (c : Cell) : Ct := .inr (.inr (.inr (.inr c)))
/-- the launch; the numbers of the tables' classes and slots; the three kinds of arrays -/
abbrev Gl : Type := Launch × va_G × ClassId × ClassId × ClassId
def fw_tys (g : Gl) : List (ClassId × FieldType) := [(g.2.2.1, .int), (g.2.2.2.1, .long), (g.2.2.2.2, .object "DeltaViews$View")]
def fw_at (g : Gl) (a : Nat) (e : Ct) (H : Heap) : Prop := match e with
  | .inl x => H[a]? = some (vp_cell g.2.2.1 (x.1, .inl x.2))
  | .inr (.inl x) => H[a]? = some (vp_cell g.2.2.2.1 (x.1, .inr (.inl x.2)))
  | .inr (.inr (.inl x)) => H[a]? = some (vp_cell g.2.2.2.2 (x.1, .inr (.inr (.inr (.inr x.2)))))
  | .inr (.inr (.inr (.inl o))) => ∃ r : vw_C, vwCl[o.1]? = some r ∧ t_OB a (g.2.1.1 o.1) r.2.2 (g.2.1.2 o.1) H (vp_V o.2)
  | .inr (.inr (.inr (.inr c))) => H[a]? = some c
theorem fw_at.kept {g : Gl} {a : Nat} {e : Ct} {H H1 : Heap} (h : fw_at g a e H) (hq : H1[a]? = H[a]?) : fw_at g a e H1 := by
  match e, h with
  | .inl x, h => exact hq.trans h
  | .inr (.inl x), h => exact hq.trans h
  | .inr (.inr (.inl x)), h => exact hq.trans h
  | .inr (.inr (.inr (.inl o))), h =>
    obtain ⟨r, h1, h2⟩ := h
    exact ⟨r, h1, h2.kept hq⟩
  | .inr (.inr (.inr (.inr c))), h => exact hq.trans h
theorem fw_at.cell {g : Gl} {a : Nat} {e : Ct} {H : Heap} (h : fw_at g a e H) : ∃ c : Cell, H[a]? = some c := by
  match e, h with
  | .inl x, h => exact ⟨_, h⟩
  | .inr (.inl x), h => exact ⟨_, h⟩
  | .inr (.inr (.inl x)), h => exact ⟨_, h⟩
  | .inr (.inr (.inr (.inl o))), h =>
    obtain ⟨r, h1, cell, h2, -⟩ := h
    exact ⟨_, h2⟩
  | .inr (.inr (.inr (.inr c))), h => exact ⟨_, h⟩
theorem fw_at.lt {g : Gl} {a : Nat} {e : Ct} {H : Heap} (h : fw_at g a e H) : a < H.size := by
  obtain ⟨c, hc⟩ := h.cell
  exact (Array.getElem?_eq_some_iff.mp hc).1
def fw_H (g : Gl) (w : Wd) (H : Heap) : Prop := ∀ a e, w a = some e → fw_at g a e H
def fw_up (w : Wd) (a : Nat) (e : Ct) : Wd := fun q => if q = a then some e else w q
theorem fw_up_s (w : Wd) (a : Nat) (e : Ct) : fw_up w a e a = some e := by simp [fw_up]
theorem fw_up_n (w : Wd) {a q : Nat} (e : Ct) (h : q ≠ a) : fw_up w a e q = w q := by simp [fw_up, h]
theorem fw_H.set {g : Gl} {w : Wd} {H H1 : Heap} {a : Nat} {e : Ct} (h : fw_H g w H) (ha : fw_at g a e H1) (hq : ∀ q : Nat, q ≠ a → H1[q]? = H[q]?) : fw_H g (fw_up w a e) H1 := by
  intro q e' he
  by_cases hqa : q = a
  · subst hqa
    rw [fw_up_s] at he
    rw [← Option.some.inj he]
    exact ha
  · rw [fw_up_n _ _ hqa] at he
    exact (h q e' he).kept (hq q hqa)
theorem fw_H.born {g : Gl} {w : Wd} {H H1 : Heap} {e : Ct} (h : fw_H g w H) (ha : fw_at g H.size e H1) (hq : ∀ q : Nat, q < H.size → H1[q]? = H[q]?) : fw_H g (fw_up w H.size e) H1 := by
  intro q e' he
  by_cases hqa : q = H.size
  · subst hqa
    rw [fw_up_s] at he
    rw [← Option.some.inj he]
    exact ha
  · rw [fw_up_n _ _ hqa] at he
    have := h q e' he
    exact this.kept (hq q this.lt)
def fw_raw : Ct → Bool
  | .inr (.inr (.inr (.inr _))) => true
  | _ => false
/-- what a body may write: what its world holds and isn't raw, and what is made later -/
def fw_fr (w : Wd) (sz q : Nat) : Prop := (∃ e, w q = some e ∧ fw_raw e = false) ∨ sz ≤ q
def fw_ext (w : Wd) (sz : Nat) (w' : Wd) (sz' : Nat) : Prop := sz ≤ sz' ∧ ∀ q, fw_fr w' sz' q → fw_fr w sz q
theorem fw_ext.rf {w : Wd} {sz : Nat} : fw_ext w sz w sz := ⟨Nat.le_refl _, fun _ h => h⟩
theorem fw_ext.tr {w w' w2 : Wd} {sz sz' sz2 : Nat} (h : fw_ext w sz w' sz') (k : fw_ext w' sz' w2 sz2) : fw_ext w sz w2 sz2 := ⟨Nat.le_trans h.1 k.1, fun q z => h.2 q (k.2 q z)⟩
theorem fw_ext.up {w : Wd} {sz a : Nat} {e0 e : Ct} (ha : w a = some e0) (hr : fw_raw e0 = false) : fw_ext w sz (fw_up w a e) sz := by
  refine ⟨Nat.le_refl _, fun q h => ?_⟩
  rcases h with ⟨e1, h1, h2⟩ | h
  · by_cases hqa : q = a
    · subst hqa
      exact Or.inl ⟨e0, ha, hr⟩
    · rw [fw_up_n _ _ hqa] at h1
      exact Or.inl ⟨e1, h1, h2⟩
  · exact Or.inr h
theorem fw_ext.new {w : Wd} {sz : Nat} {e : Ct} : fw_ext w sz (fw_up w sz e) (sz + 1) := by
  refine ⟨Nat.le_succ _, fun q h => ?_⟩
  rcases h with ⟨e1, h1, h2⟩ | h
  · by_cases hqa : q = sz
    · subst hqa
      exact Or.inr (Nat.le_refl _)
    · rw [fw_up_n _ _ hqa] at h1
      exact Or.inl ⟨e1, h1, h2⟩
  · exact Or.inr (by omega)
/-! The tables' words, all at once; a method; a body's context. -/
/-- a method: its name, bytes, locals, answer, handlers -/
abbrev Mi : Type := MethodName × ByteArray × Nat × Option FieldType × List (Nat × Nat × Nat × Nat)
def fw_word (M : Mi) : Cond := match M.2.2.2.2 with
  | [] => .code M.1 M.2.1 M.2.2.1 M.2.2.2.1
  | h :: t => .codeWith M.1 M.2.1 M.2.2.1 M.2.2.2.1 (h :: t)
def fw_code (M : Mi) (meth : Method) (c : Code) : Prop := c.code = M.2.1 ∧ c.maxLocals = M.2.2.1 ∧ c.exceptionTable.toList.map (fun h => (h.startPc, h.endPc, h.handlerPc, h.catchType)) = M.2.2.2.2 ∧ meth.sig.returnType = M.2.2.2.1 ∧ meth.locks = false
theorem fw_word_spec {M : Mi} {s : State} {args : Array Value} {m : MethodId} (hn : s.methodNamed? M.1 = some m) (h : (fw_word M).before args s = true) :
    ∃ meth c, s.vm.method? m = some meth ∧ meth.code = some c ∧ fw_code M meth c ∧ parseMethodDescriptor M.1.desc = some meth.sig := by
  obtain ⟨y, b, n, r, hh⟩ := M
  cases hh with
  | nil =>
    obtain ⟨meth, c, h1, h2, h3, h4, h5, h6, h7, h8⟩ := Cond.code_spec hn h
    refine ⟨meth, c, h1, h2, ⟨h3, h4, ?_, h5, h6⟩, h8⟩
    have e : c.exceptionTable = #[] := by simpa using h7
    rw [e]; rfl
  | cons x t =>
    obtain ⟨m9, meth, c, hn9, h1, h2, h3, h4, h5, h6, h7, h8⟩ := Cond.codeWith_spec h
    cases hn.symm.trans hn9
    exact ⟨meth, c, h1, h2, ⟨h3, h4, h5, h6, h7⟩, h8⟩
def fw_T (U : State) : Prop := ∀ c ∈ fw_big, c.before #[] U = true
def fw_K (g : Gl) (U : State) : Prop := va_K g.2.1 vwCl (fw_tys g) U ∧ fw_T U
/-- where a static of Throwable lies, and that it holds null or some reference -/
def fw_st (n d : String) (U : State) (H : Heap) : Prop := ∃ (c : ClassId) (k : Class) (i : Nat) (f : Field) (a : Nat) (cell : Cell) (v : Value), U.vm.findClass Bundle.tN = some c ∧ U.fieldFound? Bundle.tN n d = some (c, k, i, f) ∧ f.isStatic = true ∧ k.statics = some a ∧ H[a]? = some cell ∧ cell.vm.isStatics = true ∧ cell.cls = c ∧ f.slot < cell.slots.size ∧ k.staticTypes[f.slot]? = some f.type ∧ cell.slots[f.slot]? = some v ∧ v.isRef = true
/-- which kinds are no kinds of others -/
def fw_na (U : State) : Prop := ∀ i j : Nat, (i, j) ∈ [(2, 1), (3, 1), (3, 2), (4, 1)] → ∀ c c' : ClassId, U.vm.findClass (fw_ex i) = some c → U.vm.findClass (fw_ex j) = some c' → U.vm.assignable c c' = false
/-- the class that g numbers 99, the script's, is one of int arrays -/
def fw_si (g : Gl) (U : State) : Prop := ∀ c : Cell, c.cls = g.2.1.1 99 → (∀ k, c.vm ≠ .statics k) → U.isArrayOf c .int
/-- what throwing asks of a state -/
def fw_X (g : Gl) (U : State) : Prop := g.1.flags = Jvm.pinnedFlags ++ [Jvm.noTraceFlag] ∧ fw_st "UNASSIGNED_STACK" Bundle.steD U U.heap ∧ fw_st "SUPPRESSED_SENTINEL" Bundle.listD U U.heap ∧ (∀ (i : Nat) (tx : String), Cond.stringRef "DeltaViews" i tx ∈ tables_1 → ∃ a, vk_R "DeltaViews" i tx a U) ∧ fw_na U ∧ fw_si g U
def fw_rm (d mc ms : Nat) : Room := { frames := d, cells := mc, slots := ms, locals := 39 * d }
/-- how a method ends: with an answer, or with an object thrown, of the kind that a number names -/
abbrev Rs : Type := Option Value ⊕ Nat
def fw_out (r : Rs) (o : Outcome) (sz : Nat) (t : State) : Prop := match r with
  | .inl v => o = .returned v
  | .inr k => ∃ (x : Addr) (cell : Cell), o = .threw x ∧ sz ≤ x ∧ t.heap[x]? = some cell ∧ cell.vm = .none ∧ t.vm.findClass (fw_ex k) = some cell.cls
def fw_Q (g : Gl) (w : Wd) (sz mc ms : Nat) (E : Rs → Wd → Nat → Prop) (st : State) (o : Outcome) (t : State) : Prop :=
  (∃ (r : Rs) (w' : Wd), fw_out r o sz t ∧ fw_H g w' t.heap ∧ fw_ext w sz w' t.heap.size ∧ E r w' t.heap.size) ∧
    ∃ L : List Loc, st.WarmedH t.vm ∧ st.sameButNew ({ t with vm := st.vm } : State) L mc ms ∧ ∀ q ∈ L, fw_fr w sz q.base
/-- the contract of a method at these arguments, from this world, at depth d, with so many cells and slots -/
def CT (g : Gl) (d mc ms : Nat) (M : Mi) (as : List Value) (w : Wd) (sz : Nat) (E : Rs → Wd → Nat → Prop) : Prop :=
  MetFree g.1 M.1 (headSpec [fw_word M] (fw_rm d mc ms)) (fun v U => v = as.toArray ∧ U.heap.size = sz ∧ fw_H g w U.heap ∧ fw_K g U ∧ fw_X g U) (fun _ _ _ _ _ => True) (fun _ st o t => fw_Q g w sz mc ms E st o t)
def fw_Cx (g : Gl) (M : Mi) (w0 : Wd) (sz0 : Nat) (p : Program) (s : State) (m : MethodId) (meth : Method) (c : Code) : Prop :=
  p.tables.exec = Jvm.exec ∧ fw_code M meth c ∧ s.methodNamed? M.1 = some m ∧ s.vm.method? m = some meth ∧ fw_K g s ∧ s.heap.size = sz0 ∧ fw_H g w0 s.heap ∧ fw_X g s
def fw_E (g : Gl) (w0 : Wd) (sz0 mc ms : Nat) (E : Rs → Wd → Nat → Prop) (below : List Frame) (s t : State) : Prop := ∃ o, t.status = .running ∧ Ended t below o ∧ fw_Q g w0 sz0 mc ms E s o t
/-- a body at pc, with these locals, this stack and this world, comes to an end of E -/
def VV (g : Gl) (d mc ms : Nat) (M : Mi) (w0 : Wd) (sz0 : Nat) (E : Rs → Wd → Nat → Prop) (pc : Nat) (L : List (Nat × Value)) (S : List Value) (w : Wd) (sz nc ns : Nat) : Prop :=
  ∀ (p : Program) (e : Env) (s : State) (m : MethodId) (args : Array Value) (below : List Frame) (meth : Method) (c : Code) (H : Heap) (locs : List Loc) (ls : Array Slot),
    fw_Cx g M w0 sz0 p s m meth c → fw_H g w H → H.size = sz → fw_ext w0 sz0 w sz → (∀ q ∈ locs, fw_fr w0 sz0 q.base) → lv_has ls M.2.2.1 L →
    W p g.1 e (fw_rm d mc ms) s m args below meth c H locs nc ns (fw_E g w0 sz0 mc ms E below s) (F0 m pc ls S)
section FW
variable {g : Gl} {d mc ms : Nat} {M : Mi} {w0 : Wd} {sz0 : Nat} {E : Rs → Wd → Nat → Prop} {pc : Nat} {L : List (Nat × Value)} {S : List Value} {w : Wd} {sz nc ns : Nat}
theorem fw_mono {p : Program} {l : Launch} {e : Env} {R : Room} {s : State} {m : MethodId} {args : Array Value} {below : List Frame} {meth : Method} {c : Code} {H : Heap} {locs : List Loc} {cells slots : Nat} {Q Q' : State → Prop} {f : JFrame} (h : ∀ t, Q t → Q' t)
    (k : W p l e R s m args below meth c H locs cells slots Q f) : W p l e R s m args below meth c H locs cells slots Q' f := by
  intro T hT X
  obtain ⟨t, a, b⟩ := k T hT X
  exact ⟨t, a, h t b⟩
/-- a step that leaves locals and world alone -/
theorem vv_s {pc' : Nat} {S' : List Value}
    (h : ∀ {p : Program} {e : Env} {s : State} {m : MethodId} {args : Array Value} {below : List Frame} {meth : Method} {c : Code} {H : Heap} {locs : List Loc} {ls : Array Slot} {Q : State → Prop}, p.tables.exec = Jvm.exec → c.code = M.2.1 →
      W p g.1 e (fw_rm d mc ms) s m args below meth c H locs nc ns Q (F0 m pc' ls S') → W p g.1 e (fw_rm d mc ms) s m args below meth c H locs nc ns Q (F0 m pc ls S))
    (k : VV g d mc ms M w0 sz0 E pc' L S' w sz nc ns) : VV g d mc ms M w0 sz0 E pc L S w sz nc ns :=
  fun p e s m args below meth c H locs ls hC hH hz hx hl hL => h hC.1 hC.2.1.1 (k p e s m args below meth c H locs ls hC hH hz hx hl hL)
/-- a step that reads locals -/
theorem vv_l {pc' : Nat} {S' : List Value}
    (h : ∀ {p : Program} {e : Env} {s : State} {m : MethodId} {args : Array Value} {below : List Frame} {meth : Method} {c : Code} {H : Heap} {locs : List Loc} {ls : Array Slot} {Q : State → Prop}, lv_has ls M.2.2.1 L → p.tables.exec = Jvm.exec → c.code = M.2.1 →
      W p g.1 e (fw_rm d mc ms) s m args below meth c H locs nc ns Q (F0 m pc' ls S') → W p g.1 e (fw_rm d mc ms) s m args below meth c H locs nc ns Q (F0 m pc ls S))
    (k : VV g d mc ms M w0 sz0 E pc' L S' w sz nc ns) : VV g d mc ms M w0 sz0 E pc L S w sz nc ns :=
  fun p e s m args below meth c H locs ls hC hH hz hx hl hL => h hL hC.1 hC.2.1.1 (k p e s m args below meth c H locs ls hC hH hz hx hl hL)
/-- a step that writes locals -/
theorem vv_t {pc' : Nat} {L' : List (Nat × Value)} {S' : List Value}
    (h : ∀ {p : Program} {e : Env} {s : State} {m : MethodId} {args : Array Value} {below : List Frame} {meth : Method} {c : Code} {H : Heap} {locs : List Loc} {ls : Array Slot} {Q : State → Prop}, lv_has ls M.2.2.1 L → p.tables.exec = Jvm.exec → c.code = M.2.1 →
      (∀ ls', lv_has ls' M.2.2.1 L' → W p g.1 e (fw_rm d mc ms) s m args below meth c H locs nc ns Q (F0 m pc' ls' S')) → W p g.1 e (fw_rm d mc ms) s m args below meth c H locs nc ns Q (F0 m pc ls S))
    (k : VV g d mc ms M w0 sz0 E pc' L' S' w sz nc ns) : VV g d mc ms M w0 sz0 E pc L S w sz nc ns :=
  fun p e s m args below meth c H locs ls hC hH hz hx hl hL => h hL hC.1 hC.2.1.1 (fun ls' hL' => k p e s m args below meth c H locs ls' hC hH hz hx hl hL')
end FW
