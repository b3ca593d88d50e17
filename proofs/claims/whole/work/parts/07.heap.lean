/-! Rules that read and write the world. -/
section HP
variable {g : Gl} {d mc ms : Nat} {M : Mi} {w0 : Wd} {sz0 : Nat} {E : Rs → Wd → Nat → Prop} {pc : Nat} {L : List (Nat × Value)} {S : List Value} {w : Wd} {sz nc ns : Nat}
theorem fw_K.own {g : Gl} {M : Mi} {w0 : Wd} {sz0 : Nat} {p : Program} {s : State} {m : MethodId} {meth : Method} {c : Code} (h : fw_Cx g M w0 sz0 p s m meth c) : s.vm.findClass M.1.cls = some m.cls := findClass_of_methodNamed h.2.2.1
theorem fw_use {U : State} (h : fw_T U) {c : Cond} (hc : c ∈ fw_big) (ho : c.onTables = true) {A : Array Value} : c.before A U = true := va_tabs ho rfl (h c hc)
/-- a field's link in a method's own tables: the object's table number, the field's place -/
def fw_fl (own : String) (idx ci k : Nat) : Prop := ∃ (C : String) (T : u_T) (N : Nat), vwCl[ci]? = some (C, T, N) ∧ k < N ∧ (∀ x ∈ u_ws C T N, x ∈ fw_big) ∧ (Cond.fieldLink own idx (T k).1 (T k).2.1 (T k).2.2.1 ∈ fw_big ∨ ∃ host, Cond.fieldLinkNest own idx (T k).1 (T k).2.1 (T k).2.2.1 host ∈ fw_big)
theorem fw_lays_on {C : String} {T : u_T} {N : Nat} : ∀ x ∈ u_ws C T N, x.onTables = true := by
  intro x hx
  obtain ⟨k, -, rfl⟩ := List.mem_map.mp hx
  unfold u_lay
  split <;> rfl
theorem v_get {a ci k idx : Nat} {fs : List Value} {v : Value} (hd : decode M.2.1 pc = .ok (.getfield idx, 3)) (hf : fw_fl M.1.cls idx ci k) (ha : w a = some (cO ci fs)) (hv : fs[k]? = some v) (kk : VV g d mc ms M w0 sz0 E (pc + 3) L (v :: S) w sz nc ns) :
    VV g d mc ms M w0 sz0 E pc L (.ref a :: S) w sz nc ns := by
  intro p e s m args below meth c H locs ls hC hH hz hx hl hL
  have k1 := kk p e s m args below meth c H locs ls hC hH hz hx hl hL
  obtain ⟨C, T, N, hc, hk, hws, hlink⟩ := hf
  obtain ⟨r, h1, cell, q1, q2, q3, q4⟩ := hH a _ ha
  have hr : r = (C, T, N) := Option.some.inj (h1.symm.trans hc)
  subst hr
  obtain ⟨hS, hfc, kC, hkC, hkind⟩ := hC.2.2.2.2.1.1.1 ci _ hc
  obtain ⟨cf, kf, fi, f, hi, hsl⟩ := hS k hk
  have hT : ∀ x ∈ u_ws C T N, x.before args s = true := fun x hx => fw_use hC.2.2.2.2.1.2 (hws x hx) (fw_lays_on x hx)
  have hst := (u_facts hfc hkC (u_lays hT (fun _ h => h) hk) hi).1
  have hsv : cell.slots[f.slot]? = some v := by
    rw [hsl, q4 k hk]
    simp [vp_V, hv]
  have hkn : cell.vm ≠ .unknown := by rw [q3]; exact fun h => by cases h
  rcases hlink with hlink | ⟨host, hlink⟩
  · exact W.getf hC.1 hC.2.1.1 (fw_K.own hC) (fw_use hC.2.2.2.2.1.2 hlink rfl) hi hst q1 hkn hsv rfl rfl hd k1
  · exact va_Wgetf hC.1 hC.2.1.1 (fw_K.own hC) (fw_use hC.2.2.2.2.1.2 hlink rfl) hi hst q1 hkn hsv rfl rfl hd k1
/-- what a store of this value into this field asks -/
def fw_ok (ci k : Nat) (v : Value) : Prop := ∃ (C : String) (T : u_T) (N : Nat), vwCl[ci]? = some (C, T, N) ∧ (∀ a, a < N → (parseFieldDescriptor (T a).2.2.1).isSome = true) ∧ (∀ a, a < N → ∀ b, b < N → a ≠ b → (T a).2.1 ≠ (T b).2.1) ∧ ∃ ty, parseFieldDescriptor (T k).2.2.1 = some ty ∧ narrow ty v = v ∧ fits ty v = true
theorem fw_put {g : Gl} {w : Wd} {H H1 : Heap} {a ci k N : Nat} {C : String} {T : u_T} {fs : List Value} {v : Value} {cell : Cell} {slot : Nat} (hH : fw_H g w H) (hc : vwCl[ci]? = some (C, T, N)) (hap : ∀ x y, x < N → y < N → x ≠ y → g.2.1.2 ci x ≠ g.2.1.2 ci y) (hk : k < N) (q2 : cell.cls = g.2.1.1 ci) (q3 : cell.vm = .none) (q4 : ∀ j, j < N → cell.slots[g.2.1.2 ci j]? = some (vp_V fs j)) (hsl : slot = g.2.1.2 ci k) (hl : k < fs.length)
    (e1 : H1[a]? = some (cell.setSlot slot v)) (e3 : ∀ q : Nat, q ≠ a → H1[q]? = H[q]?) : fw_H g (fw_up w a (cO ci (fs.set k v))) H1 := by
  refine hH.set ?_ e3
  rw [hsl] at e1
  exact ⟨_, hc, t_OB.to (V := updV (vp_V fs) k v) ⟨_, e1, q2, q3, t_set q4 hap hk v⟩ (fun j _ => vp_updV_set hl v j)⟩
theorem v_put {a ci k idx : Nat} {fs fs' : List Value} {v : Value} (hd : decode M.2.1 pc = .ok (.putfield idx, 3)) (hf : fw_fl M.1.cls idx ci k) (hfin : ∀ C T N, vwCl[ci]? = some (C, T, N) → (T k).2.2.2 = false ∨ (M.1.name = "<init>" ∧ (T k).1 = M.1.cls ∧ Cond.fieldLink M.1.cls idx (T k).1 (T k).2.1 (T k).2.2.1 ∈ fw_big)) (hok : fw_ok ci k v) (ha : w a = some (cO ci fs)) (hl : k < fs.length) (hfs : fs.set k v = fs')
    (kk : VV g d mc ms M w0 sz0 E (pc + 3) L S (fw_up w a (cO ci fs')) sz nc ns) :
    VV g d mc ms M w0 sz0 E pc L (v :: .ref a :: S) w sz nc ns := by
  subst hfs
  intro p e s m args below meth c H locs ls hC hH hz hx hlc hL
  obtain ⟨C, T, N, hc, hk, hws, hlink⟩ := hf
  obtain ⟨C', T', N', hc', hty, hnm, ty, hd', hn, hfit⟩ := hok
  cases Option.some.inj (hc.symm.trans hc')
  obtain ⟨r, h1, cell, q1, q2, q3, q4⟩ := hH a _ ha
  have hr : r = (C, T, N) := Option.some.inj (h1.symm.trans hc)
  subst hr
  have hK := hC.2.2.2.2.1.1
  obtain ⟨hS, hfc, kC, hkC, hkind⟩ := hK.1 ci _ hc
  obtain ⟨cf, kf, fi, f, hi, hsl⟩ := hS k hk
  have hT : ∀ x ∈ u_ws C T N, x.before args s = true := fun x hx => fw_use hC.2.2.2.2.1.2 (hws x hx) (fw_lays_on x hx)
  have hst := (u_facts hfc hkC (u_lays hT (fun _ h => h) hk) hi).1
  have hap : ∀ x y, x < N → y < N → x ≠ y → g.2.1.2 ci x ≠ g.2.1.2 ci y := by
    have hty' : ∀ a, a < N → parseFieldDescriptor (T a).2.2.1 = some ((parseFieldDescriptor (T a).2.2.1).getD .int) := by
      intro a ha
      have := hty a ha
      cases h9 : parseFieldDescriptor (T a).2.2.1 with
      | none => rw [h9] at this; cases this
      | some z => rfl
    exact va_apart (own := C) hT (fun _ h => h) _ hty' hnm hK hc
  have hlt : f.slot < cell.slots.size := by rw [hsl]; exact k2_hasslot (q4 k hk)
  have go : ∀ H' : Heap, H'[a]? = some (cell.setSlot f.slot v) → H'.size = H.size → (∀ q, q ≠ a → H'[q]? = H[q]?) → W p g.1 e (fw_rm d mc ms) s m args below meth c H' (locs ++ [⟨a, f.slot⟩]) nc ns (fw_E g w0 sz0 mc ms E below s) (F0 m (pc + 3) ls S) := by
    intro H' e1 e2 e3
    refine kk p e s m args below meth c H' _ ls hC (fw_put hH hc hap hk q2 q3 q4 hsl hl e1 e3) (e2.trans hz) (hx.tr (fw_ext.up ha rfl)) ?_ hL
    intro q hq
    rcases List.mem_append.mp hq with h | h
    · exact hlc q h
    · rw [List.mem_singleton.mp h]
      exact hx.2 a (Or.inl ⟨_, ha, rfl⟩)
  have hkn : cell.vm ≠ .unknown := by rw [q3]; exact fun h => by cases h
  have hlay := hT _ (u_in_lay hk)
  rcases hfin C T N hc with hfin | ⟨hin, hdecl, hlk⟩
  · unfold u_lay at hlay
    rw [if_neg (by rw [hfin]; decide)] at hlay
    have h6 := u_store hfc hkC hkind hlay hi hd' hn hfit
    rcases hlink with hlink | ⟨host, hlink⟩
    · exact W.putK hC.1 hC.2.1.1 (f := f) ⟨fw_K.own hC, fw_use hC.2.2.2.2.1.2 hlink rfl, ⟨_, _, _, hi⟩, hst⟩ (by rw [q2]; exact h6) q1 q3 hlt rfl rfl hd go
    · exact va_WputK hC.1 hC.2.1.1 (f := f) (fw_K.own hC) (fw_use hC.2.2.2.2.1.2 hlink rfl) hi hst (by rw [q2]; exact h6) q1 q3 hlt rfl rfl hd go
  · by_cases hfin : (T k).2.2.2 = true
    · unfold u_lay at hlay
      rw [if_pos hfin] at hlay
      have hcf : m.cls = cf := by
        obtain ⟨_, _, c', _, _, _, -, -, hf', -, -, -, hown2, -⟩ := Cond.laysFinal_spec hlay
        have e1 : c' = cf := by have := hi.symm.trans hf'; simp at this; exact this.1.symm
        rw [hdecl] at hown2
        rw [← e1]; exact Option.some.inj ((fw_K.own hC).symm.trans hown2)
      have h6 := u_fits hfc hkC hkind (Or.inr hlay) hi hd' hn hfit
      have hnm2 : meth.name = "<init>" := by rw [← hin]; exact (name_of_methodNamed hC.2.2.1 hC.2.2.2.1).1
      exact W.putFinK hC.1 hC.2.1.1 (fw_K.own hC) (fw_use hC.2.2.2.2.1.2 hlk rfl) hi hst hcf hnm2 (by rw [q2]; exact h6) q1 q3 hlt rfl rfl hd go
    · have hfin : (T k).2.2.2 = false := by simpa using hfin
      unfold u_lay at hlay
      rw [if_neg (by rw [hfin]; decide)] at hlay
      have h6 := u_store hfc hkC hkind hlay hi hd' hn hfit
      exact W.putK hC.1 hC.2.1.1 (f := f) ⟨fw_K.own hC, fw_use hC.2.2.2.2.1.2 hlk rfl, ⟨_, _, _, hi⟩, hst⟩ (by rw [q2]; exact h6) q1 q3 hlt rfl rfl hd go
/-! arrays -/
theorem fw_ti {g : Gl} {s : State} (h : fw_K g s) : ArrOfT s g.2.2.1 .int ∧ va_RA s g.2.2.1 .int := h.1.2 0 _ rfl
theorem fw_tj {g : Gl} {s : State} (h : fw_K g s) : ArrOfT s g.2.2.2.1 .long ∧ va_RA s g.2.2.2.1 .long := h.1.2 1 _ rfl
theorem fw_tr {g : Gl} {s : State} (h : fw_K g s) : ArrOfT s g.2.2.2.2 (.object "DeltaViews$View") ∧ va_RA s g.2.2.2.2 (.object "DeltaViews$View") := h.1.2 2 _ rfl
theorem v_iald {a n : Nat} {f : Nat → Int32} {i : Int32} (hd : decode M.2.1 pc = .ok (.iaload, 1)) (ha : w a = some (cI n f)) (hin : vp_in i n) (kk : VV g d mc ms M w0 sz0 E (pc + 1) L (.int (f i.toNatClampNeg) :: S) w sz nc ns) : VV g d mc ms M w0 sz0 E pc L (.int i :: .ref a :: S) w sz nc ns := by
  intro p e s m args below meth c H locs ls hC hH hz hx hl hL
  have hlt : i.toNatClampNeg < n := Nat.not_le.mp fun q => hin (Or.inr q)
  exact W.iald (v := .int (f i.toNatClampNeg)) hC.1 hC.2.1.1 (hH a _ ha) ((fw_ti hC.2.2.2.2.1).1 n (fun j => .int (f j))) (fun q => by cases q) (by show ¬ (i < 0 ∨ (arrV _ _ _).slots.size ≤ _); rw [arrV_size]; exact hin) (by show (arrV _ _ _).slots[_]? = _; rw [arrV_read _ _ hlt]) rfl rfl hd (kk p e s m args below meth c H locs ls hC hH hz hx hl hL)
theorem v_lald {a n : Nat} {f : Nat → Int64} {i : Int32} (hd : decode M.2.1 pc = .ok (.laload, 1)) (ha : w a = some (cJ n f)) (hin : vp_in i n) (kk : VV g d mc ms M w0 sz0 E (pc + 1) L (.long (f i.toNatClampNeg) :: S) w sz nc ns) : VV g d mc ms M w0 sz0 E pc L (.int i :: .ref a :: S) w sz nc ns := by
  intro p e s m args below meth c H locs ls hC hH hz hx hl hL
  have hlt : i.toNatClampNeg < n := Nat.not_le.mp fun q => hin (Or.inr q)
  exact W.lald (v := .long (f i.toNatClampNeg)) hC.1 hC.2.1.1 (hH a _ ha) ((fw_tj hC.2.2.2.2.1).1 n (fun j => .long (f j))) (fun q => by cases q) (by show ¬ (i < 0 ∨ (arrV _ _ _).slots.size ≤ _); rw [arrV_size]; exact hin) (by show (arrV _ _ _).slots[_]? = _; rw [arrV_read _ _ hlt]) rfl rfl hd (kk p e s m args below meth c H locs ls hC hH hz hx hl hL)
theorem v_aald {a n q : Nat} {f : Nat → Option Nat} {i : Int32} (hd : decode M.2.1 pc = .ok (.aaload, 1)) (ha : w a = some (cR n f)) (hin : vp_in i n) (hq : f i.toNatClampNeg = some q) (kk : VV g d mc ms M w0 sz0 E (pc + 1) L (.ref q :: S) w sz nc ns) : VV g d mc ms M w0 sz0 E pc L (.int i :: .ref a :: S) w sz nc ns := by
  intro p e s m args below meth c H locs ls hC hH hz hx hl hL
  have hlt : i.toNatClampNeg < n := Nat.not_le.mp fun q => hin (Or.inr q)
  exact W.aald (v := .ref q) (ty := .object "DeltaViews$View") hC.1 hC.2.1.1 (hH a _ ha) ((fw_tr hC.2.2.2.2.1).1 n (fun j => va_rf (f j))) rfl (fun q => by cases q) (by show ¬ (i < 0 ∨ (arrV _ _ _).slots.size ≤ _); rw [arrV_size]; exact hin) (by show (arrV _ _ _).slots[_]? = _; rw [arrV_read _ _ hlt]; show some (va_rf (f i.toNatClampNeg)) = _; rw [hq]; rfl) rfl rfl hd (kk p e s m args below meth c H locs ls hC hH hz hx hl hL)
theorem fw_locs {w0 : Wd} {sz0 : Nat} {locs : List Loc} {a i : Nat} (h : ∀ q ∈ locs, fw_fr w0 sz0 q.base) (ha : fw_fr w0 sz0 a) : ∀ q ∈ locs ++ [(⟨a, i⟩ : Loc)], fw_fr w0 sz0 q.base := by
  intro q hq
  rcases List.mem_append.mp hq with h1 | h1
  · exact h q h1
  · rw [List.mem_singleton.mp h1]; exact ha
theorem v_iast {a n : Nat} {f : Nat → Int32} {i x : Int32} (hd : decode M.2.1 pc = .ok (.iastore, 1)) (ha : w a = some (cI n f)) (hin : vp_in i n) (kk : VV g d mc ms M w0 sz0 E (pc + 1) L S (fw_up w a (cI n (upd f i.toNatClampNeg x))) sz nc ns) : VV g d mc ms M w0 sz0 E pc L (.int x :: .int i :: .ref a :: S) w sz nc ns := by
  intro p e s m args below meth c H locs ls hC hH hz hx hl hL
  refine W.iast hC.1 hC.2.1.1 (hH a _ ha) ((fw_ti hC.2.2.2.2.1).1 n (fun j => .int (f j))) (fun q => by cases q) (by show ¬ (i < 0 ∨ (arrV _ _ _).slots.size ≤ _); rw [arrV_size]; exact hin) rfl rfl hd fun H1 e1 z oq => ?_
  refine kk p e s m args below meth c H1 _ ls hC (hH.set ?_ oq) (z.trans hz) (hx.tr (fw_ext.up ha rfl)) (fw_locs hl (hx.2 a (Or.inl ⟨_, ha, rfl⟩))) hL
  show H1[a]? = some (vp_cell _ _)
  rw [e1]
  show some ((vp_cell g.2.2.1 (n, .inl f)).setSlot _ _) = _
  rw [vp_cell_i, vp_cell_i, arrV_store]
  congr 2
  funext q
  by_cases hq : q = i.toNatClampNeg
  · subst hq
    simp [updV, upd]
  · simp [updV, upd, hq]
theorem v_last {a n : Nat} {f : Nat → Int64} {i : Int32} {x : Int64} (hd : decode M.2.1 pc = .ok (.lastore, 1)) (ha : w a = some (cJ n f)) (hin : vp_in i n) (kk : VV g d mc ms M w0 sz0 E (pc + 1) L S (fw_up w a (cJ n (vp_updL f i.toNatClampNeg x))) sz nc ns) : VV g d mc ms M w0 sz0 E pc L (.long x :: .int i :: .ref a :: S) w sz nc ns := by
  intro p e s m args below meth c H locs ls hC hH hz hx hl hL
  refine W.last hC.1 hC.2.1.1 (hH a _ ha) ((fw_tj hC.2.2.2.2.1).1 n (fun j => .long (f j))) (fun q => by cases q) (by show ¬ (i < 0 ∨ (arrV _ _ _).slots.size ≤ _); rw [arrV_size]; exact hin) rfl rfl hd fun H1 e1 z oq => ?_
  refine kk p e s m args below meth c H1 _ ls hC (hH.set ?_ oq) (z.trans hz) (hx.tr (fw_ext.up ha rfl)) (fw_locs hl (hx.2 a (Or.inl ⟨_, ha, rfl⟩))) hL
  show H1[a]? = some (vp_cell _ _)
  rw [e1]
  show some ((vp_cell g.2.2.2.1 (n, .inr (.inl f))).setSlot _ _) = _
  rw [vp_cell_l, vp_cell_l, arrV_store]
  congr 2
  funext q
  by_cases hq : q = i.toNatClampNeg
  · subst hq
    simp [updV, vp_updL]
  · simp [updV, vp_updL, hq]
end HP
