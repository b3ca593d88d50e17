/-! Calls by their links; writing with a new name for the world; indices as numbers. -/
section CR
variable {g : Gl} {d mc ms : Nat} {M : Mi} {w0 : Wd} {sz0 : Nat} {E : Rs → Wd → Nat → Prop} {pc : Nat} {L : List (Nat × Value)} {S : List Value} {w : Wd} {sz nc ns : Nat}
variable {rest A : List Value} {M' : Mi} {d' mc' ms' n idx : Nat} {E' : Rs → Wd → Nat → Prop}
theorem v_cs (hd : decode M.2.1 pc = .ok (.invokestatic idx, 3)) (hl : fw_lnk M.1.cls idx M'.1) (hm : fw_me M' n) (hs : Cond.static M'.1 ∈ fw_big) (hA : A.length = n) (hS : S = A.reverse ++ rest) (hc : CT g d' mc' ms' M' A w sz E') (r1 : d' + 1 ≤ d) (r3 : nc + mc' ≤ mc) (r4 : ns + ms' ≤ ms) (hst : (rest.map fun v => v.category).sum ≤ 8)
    (kr : ∀ v w' sz', E' (.inl v) w' sz' → VV g d mc ms M w0 sz0 E (pc + 3) L (v.toList ++ rest) w' sz' (nc + mc') (ns + ms'))
    (kt : ∀ k w' sz', E' (.inr k) w' sz' → VT g d mc ms M w0 sz0 E pc L rest w' sz' (nc + mc') (ns + ms') k) : VV g d mc ms M w0 sz0 E pc L S w sz nc ns :=
  v_call (en_s hd hl hm.1 hm.2.1 hs hm.2.2.1 hm.2.2.2.1 (by rw [hA]; exact hm.2.2.2.2.1) hS) hc hm.1 hm.2.1 hm.2.2.1 r1 hm.2.2.2.2.2 r3 r4 hst kr kt
theorem v_cv {a ci N : Nat} {fs : List Value} {T : u_T} (hd : decode M.2.1 pc = .ok (.invokevirtual idx, 3)) (hl : fw_lnk M.1.cls idx M'.1) (hm : fw_me M' n) (hi : Cond.instanceMethod M'.1 ∈ fw_big) (hse : Cond.selects M'.1.cls M'.1 M'.1 ∈ fw_big) (hcl : vwCl[ci]? = some (M'.1.cls, T, N)) (ha : w a = some (cO ci fs)) (hA : A.length = n) (hS : S = A.reverse ++ .ref a :: rest) (hc : CT g d' mc' ms' M' (.ref a :: A) w sz E') (r1 : d' + 1 ≤ d) (r3 : nc + mc' ≤ mc) (r4 : ns + ms' ≤ ms) (hst : (rest.map fun v => v.category).sum ≤ 8)
    (kr : ∀ v w' sz', E' (.inl v) w' sz' → VV g d mc ms M w0 sz0 E (pc + 3) L (v.toList ++ rest) w' sz' (nc + mc') (ns + ms'))
    (kt : ∀ k w' sz', E' (.inr k) w' sz' → VT g d mc ms M w0 sz0 E pc L rest w' sz' (nc + mc') (ns + ms') k) : VV g d mc ms M w0 sz0 E pc L S w sz nc ns :=
  v_call (en_v hd hl hm.1 hm.2.1 hi hse hcl ha hm.2.2.2.1 (by rw [hA]; exact hm.2.2.2.2.1) hS) hc hm.1 hm.2.1 hm.2.2.1 r1 hm.2.2.2.2.2 r3 r4 hst kr kt
theorem v_ci {a : Nat} (hd : decode M.2.1 pc = .ok (.invokespecial idx, 3)) (hl : fw_lnk M.1.cls idx M'.1) (hm : fw_me M' n) (hi : Cond.instanceMethod M'.1 ∈ fw_big) (hnm : M'.1.name = "<init>") (hr : M'.2.2.2.1 = none) (hh : M'.2.2.2.2 = []) (hA : A.length = n) (hS : S = A.reverse ++ .ref a :: rest) (hc : CT g d' mc' ms' M' (.ref a :: A) w sz E') (r1 : d' + 1 ≤ d) (r3 : nc + mc' ≤ mc) (r4 : ns + ms' ≤ ms) (hst : (rest.map fun v => v.category).sum ≤ 8)
    (kr : ∀ v w' sz', E' (.inl v) w' sz' → VV g d mc ms M w0 sz0 E (pc + 3) L (v.toList ++ rest) w' sz' (nc + mc') (ns + ms'))
    (kt : ∀ k w' sz', E' (.inr k) w' sz' → VT g d mc ms M w0 sz0 E pc L rest w' sz' (nc + mc') (ns + ms') k) : VV g d mc ms M w0 sz0 E pc L S w sz nc ns := by
  have hw : Cond.code M'.1 M'.2.1 M'.2.2.1 none ∈ fw_big := by
    have h := hm.1
    obtain ⟨y, b, nn, r, hh'⟩ := M'
    dsimp only at hr hh
    subst hr
    subst hh
    exact h
  exact v_call (en_i hd hl hw hi hnm hm.2.2.2.1 (by rw [hA]; exact hm.2.2.2.2.1) hS) hc hm.1 hm.2.1 hm.2.2.1 r1 hm.2.2.2.2.2 r3 r4 hst kr kt
/-- an end that answers v and leaves the world alone -/
def rdE (v : Option Value) (w : Wd) (sz : Nat) : Rs → Wd → Nat → Prop := fun r w' sz' => r = .inl v ∧ w' = w ∧ sz' = sz
/-- an end that answers v, with a world that meets P; nothing is made -/
def wrE (v : Option Value) (sz : Nat) (P : Wd → Prop) : Rs → Wd → Nat → Prop := fun r w' sz' => r = .inl v ∧ sz' = sz ∧ P w'
theorem rdE.k {v0 : Option Value} {w : Wd} {sz : Nat} {X : Option Value → Wd → Nat → Prop} (h : X v0 w sz) : ∀ v w' sz', rdE v0 w sz (.inl v) w' sz' → X v w' sz' := by
  rintro v w' sz' ⟨h1, rfl, rfl⟩
  cases h1
  exact h
theorem rdE.t {v0 : Option Value} {w : Wd} {sz : Nat} {X : Nat → Wd → Nat → Prop} : ∀ k w' sz', rdE v0 w sz (.inr k) w' sz' → X k w' sz' := by
  rintro k w' sz' ⟨h1, -⟩
  cases h1
theorem wrE.k {v0 : Option Value} {sz : Nat} {P : Wd → Prop} {X : Option Value → Wd → Nat → Prop} (h : ∀ w', P w' → X v0 w' sz) : ∀ v w' sz', wrE v0 sz P (.inl v) w' sz' → X v w' sz' := by
  rintro v w' sz' ⟨h1, rfl, h3⟩
  cases h1
  exact h w' h3
theorem wrE.t {v0 : Option Value} {sz : Nat} {P : Wd → Prop} {X : Nat → Wd → Nat → Prop} : ∀ k w' sz', wrE v0 sz P (.inr k) w' sz' → X k w' sz' := by
  rintro k w' sz' ⟨h1, -⟩
  cases h1
/-- writing, with a new name for the world -/
theorem v_putW {a ci k idx : Nat} {fs fs' : List Value} {v : Value} (hd : decode M.2.1 pc = .ok (.putfield idx, 3)) (hf : fw_fl M.1.cls idx ci k) (hfin : ∀ C T N, vwCl[ci]? = some (C, T, N) → (T k).2.2.2 = false ∨ (M.1.name = "<init>" ∧ (T k).1 = M.1.cls ∧ Cond.fieldLink M.1.cls idx (T k).1 (T k).2.1 (T k).2.2.1 ∈ fw_big)) (hok : fw_ok ci k v) (ha : w a = some (cO ci fs)) (hl : k < fs.length) (hfs : fs.set k v = fs')
    (kk : ∀ w', w' a = some (cO ci fs') → (∀ q, q ≠ a → w' q = w q) → VV g d mc ms M w0 sz0 E (pc + 3) L S w' sz nc ns) : VV g d mc ms M w0 sz0 E pc L (v :: .ref a :: S) w sz nc ns :=
  v_put hd hf hfin hok ha hl hfs (kk _ (fw_up_s _ _ _) (fun _ h => fw_up_n _ _ h))
theorem v_iastW {a n k : Nat} {f : Nat → Int32} {i x : Int32} (hd : decode M.2.1 pc = .ok (.iastore, 1)) (ha : w a = some (cI n f)) (hi : i = nI k) (hk : k < n) (hn : n < 2 ^ 31)
    (kk : ∀ w', w' a = some (cI n (upd f k x)) → (∀ q, q ≠ a → w' q = w q) → VV g d mc ms M w0 sz0 E (pc + 1) L S w' sz nc ns) : VV g d mc ms M w0 sz0 E pc L (.int x :: .int i :: .ref a :: S) w sz nc ns := by
  subst hi
  refine v_iast hd ha (vp_in_nI hk hn) ?_
  rw [nI_clamp (by omega)]
  exact kk _ (fw_up_s _ _ _) (fun _ h => fw_up_n _ _ h)
theorem v_lastW {a n k : Nat} {f : Nat → Int64} {i : Int32} {x : Int64} (hd : decode M.2.1 pc = .ok (.lastore, 1)) (ha : w a = some (cJ n f)) (hi : i = nI k) (hk : k < n) (hn : n < 2 ^ 31)
    (kk : ∀ w', w' a = some (cJ n (vp_updL f k x)) → (∀ q, q ≠ a → w' q = w q) → VV g d mc ms M w0 sz0 E (pc + 1) L S w' sz nc ns) : VV g d mc ms M w0 sz0 E pc L (.long x :: .int i :: .ref a :: S) w sz nc ns := by
  subst hi
  refine v_last hd ha (vp_in_nI hk hn) ?_
  rw [nI_clamp (by omega)]
  exact kk _ (fw_up_s _ _ _) (fun _ h => fw_up_n _ _ h)
theorem v_ialdN {a n k : Nat} {f : Nat → Int32} {i : Int32} (hd : decode M.2.1 pc = .ok (.iaload, 1)) (ha : w a = some (cI n f)) (hi : i = nI k) (hk : k < n) (hn : n < 2 ^ 31) (kk : VV g d mc ms M w0 sz0 E (pc + 1) L (.int (f k) :: S) w sz nc ns) : VV g d mc ms M w0 sz0 E pc L (.int i :: .ref a :: S) w sz nc ns := by
  subst hi
  refine v_iald hd ha (vp_in_nI hk hn) ?_
  rw [nI_clamp (by omega)]
  exact kk
theorem v_laldN {a n k : Nat} {f : Nat → Int64} {i : Int32} (hd : decode M.2.1 pc = .ok (.laload, 1)) (ha : w a = some (cJ n f)) (hi : i = nI k) (hk : k < n) (hn : n < 2 ^ 31) (kk : VV g d mc ms M w0 sz0 E (pc + 1) L (.long (f k) :: S) w sz nc ns) : VV g d mc ms M w0 sz0 E pc L (.int i :: .ref a :: S) w sz nc ns := by
  subst hi
  refine v_lald hd ha (vp_in_nI hk hn) ?_
  rw [nI_clamp (by omega)]
  exact kk
theorem v_aaldN {a n k q : Nat} {f : Nat → Option Nat} {i : Int32} (hd : decode M.2.1 pc = .ok (.aaload, 1)) (ha : w a = some (cR n f)) (hi : i = nI k) (hk : k < n) (hn : n < 2 ^ 31) (hq : f k = some q) (kk : VV g d mc ms M w0 sz0 E (pc + 1) L (.ref q :: S) w sz nc ns) : VV g d mc ms M w0 sz0 E pc L (.int i :: .ref a :: S) w sz nc ns := by
  subst hi
  exact v_aald hd ha (vp_in_nI hk hn) (by rw [nI_clamp (by omega)]; exact hq) kk
/-- the top of the stack in another form -/
theorem v_re {x y : Int32} (h : x = y) (k : VV g d mc ms M w0 sz0 E pc L (.int y :: S) w sz nc ns) : VV g d mc ms M w0 sz0 E pc L (.int x :: S) w sz nc ns := h ▸ k
/-- locals in another order, or fewer -/
theorem v_ls {L' : List (Nat × Value)} (h : L'.all (fun q => L.any (fun r => decide (r.1 = q.1))) = true) (h2 : ∀ q ∈ L', q ∈ L) (k : VV g d mc ms M w0 sz0 E pc L' S w sz nc ns) : VV g d mc ms M w0 sz0 E pc L S w sz nc ns := v_sub h2 k
end CR
