/-! More instructions. -/
section MO
variable {g : Gl} {d mc ms : Nat} {M : Mi} {w0 : Wd} {sz0 : Nat} {E : Rs → Wd → Nat → Prop} {pc : Nat} {L : List (Nat × Value)} {S : List Value} {w : Wd} {sz nc ns : Nat}
/-- Object's own constructor -/
theorem v_oinit {a idx : Nat} (hd : decode M.2.1 pc = .ok (.invokespecial idx, 3)) (k1 : Cond.methodLink M.1.cls idx objectInit ∈ fw_big) (k2 : Cond.instanceMethod objectInit ∈ fw_big) (k3 : Cond.code objectInit ⟨#[0xb1]⟩ 1 none ∈ fw_big) (hdd : 1 ≤ d) (hst : (S.map fun v => v.category).sum ≤ 8)
    (k : VV g d mc ms M w0 sz0 E (pc + 3) L S w sz nc ns) : VV g d mc ms M w0 sz0 E pc L (.ref a :: S) w sz nc ns := by
  intro p e s m args below meth c H locs ls hC hH hz hx hl hL
  have hT := hC.2.2.2.2.1.2
  exact W.objInit hC.1 hC.2.1.1 (fw_K.own hC) (fw_use hT k1 rfl) (fw_use hT k2 rfl) (fw_use hT k3 rfl) rfl (hL.1.trans hC.2.1.2.1.symm) rfl hd (by show 1 ≤ d; exact hdd) (by show 2 * 0 + (S.map fun v => v.category).sum + 12 ≤ 39 * d; omega) (k p e s m args below meth c H locs ls hC hH hz hx hl hL)
theorem v_ldc2 {idx : Nat} {v : Int64} (hd : decode M.2.1 pc = .ok (.ldc2_w idx, 3)) (hw : Cond.constantLong M.1.cls idx v ∈ fw_big) (k : VV g d mc ms M w0 sz0 E (pc + 3) L (.long v :: S) w sz nc ns) : VV g d mc ms M w0 sz0 E pc L S w sz nc ns := by
  intro p e s m args below meth c H locs ls hC hH hz hx hl hL
  exact lv_ldc2 hC.1 hC.2.1.1 (fw_K.own hC) (fw_use hC.2.2.2.2.1.2 hw rfl) hd (k p e s m args below meth c H locs ls hC hH hz hx hl hL)
theorem v_tin {dflt lo hi : Int} {offs : Array Int} {len : Nat} {x : Int32} {off : Int} {tgt : Nat} (hd : decode M.2.1 pc = .ok (.tableswitch dflt lo hi offs, len)) (h1 : ¬ x.toInt < lo) (h2 : ¬ hi < x.toInt) (ho : offs[(x.toInt - lo).toNat]? = some off) (ht : (pc : Int) + off = (tgt : Int)) (k : VV g d mc ms M w0 sz0 E tgt L S w sz nc ns) : VV g d mc ms M w0 sz0 E pc L (.int x :: S) w sz nc ns := vv_s (fun hx hb k => lv_tableIn hx hb hd h1 h2 ho ht k) k
theorem v_look {dflt : Int} {ps : Array (Int × Int)} {len : Nat} {x : Int32} {off : Int} {tgt : Nat} (hd : decode M.2.1 pc = .ok (.lookupswitch dflt ps, len)) (hp : (ps.toList.zip (ps.toList.drop 1)).all (fun (a, next) => a.1 < next.1) = true) (ho : Op.lookupswitch.offset ps.toList dflt x.toInt = off) (ht : (pc : Int) + off = (tgt : Int)) (k : VV g d mc ms M w0 sz0 E tgt L S w sz nc ns) : VV g d mc ms M w0 sz0 E pc L (.int x :: S) w sz nc ns := vv_s (fun hx hb k => lv_lookup hx hb hd hp ho ht k) k
theorem v_max {idx : Nat} {x y : Int32} (hd : decode M.2.1 pc = .ok (.invokestatic idx, 3)) (k1 : Cond.methodLink M.1.cls idx Lib.Math.max.name ∈ fw_big) (k2 : Cond.static Lib.Math.max.name ∈ fw_big) (k3 : Cond.initialized "java/lang/Math" ∈ fw_big) (k4 : Cond.code Lib.Math.max.name Lib.Math.max.code 2 (some .int) ∈ fw_big) (hdd : 1 ≤ d) (hst : (S.map fun v => v.category).sum ≤ 8) (h1 : nc ≤ mc) (h2 : ns ≤ ms)
    (k : VV g d mc ms M w0 sz0 E (pc + 3) L (.int (if x < y then y else x) :: S) w sz nc ns) : VV g d mc ms M w0 sz0 E pc L (.int y :: .int x :: S) w sz nc ns := by
  intro p e s m args below meth c H locs ls hC hH hz hx hl hL
  have hT := hC.2.2.2.2.1.2
  exact va_mmax hC.1 hC.2.1.1 (hC.2.1.2.1.trans hL.1.symm) (fw_K.own hC) (fw_use hT k1 rfl) (fw_use hT k2 rfl) (fw_use hT k3 rfl) (fw_use hT k4 rfl) hdd (by show (S.map fun v => v.category).sum + 13 ≤ 39 * d; omega) h1 h2 hd (k p e s m args below meth c H locs ls hC hH hz hx hl hL)
/-- lengths -/
theorem v_aleni {a n : Nat} {f : Nat → Int32} (hd : decode M.2.1 pc = .ok (.arraylength, 1)) (ha : w a = some (cI n f)) (k : VV g d mc ms M w0 sz0 E (pc + 1) L (.int (nI n) :: S) w sz nc ns) : VV g d mc ms M w0 sz0 E pc L (.ref a :: S) w sz nc ns := by
  intro p e s m args below meth c H locs ls hC hH hz hx hl hL
  exact W.alen (n := nI n) hC.1 hC.2.1.1 (hH a _ ha) ((fw_ti hC.2.2.2.2.1).1 n (fun j => .int (f j))) (by rw [vp_cell_i, arrV_size] <;> rfl) rfl rfl hd (k p e s m args below meth c H locs ls hC hH hz hx hl hL)
/-- references into an array of views -/
theorem v_aast {a n v ci : Nat} {f : Nat → Option Nat} {fs : List Value} {i : Int32} (hd : decode M.2.1 pc = .ok (.aastore, 1)) (ha : w a = some (cR n f)) (hv : w v = some (cO 1 fs)) (hin : vp_in i n) (k : VV g d mc ms M w0 sz0 E (pc + 1) L S (fw_up w a (cR n (va_up f i.toNatClampNeg (some v)))) sz nc ns) : VV g d mc ms M w0 sz0 E pc L (.ref v :: .int i :: .ref a :: S) w sz nc ns := by
  intro p e s m args below meth c H locs ls hC hH hz hx hl hL
  have hlt : i.toNatClampNeg < n := Nat.not_le.mp fun q => hin (Or.inr q)
  have h0 : ¬ i < 0 := fun q => hin (Or.inl q)
  obtain ⟨r', hr', cellV, g1, g2, g3, -⟩ := hH v _ hv
  have hcls := (hC.2.2.2.2.1.1.1 1 _ rfl).2
  obtain ⟨kA, comp, k1, k2, k3, -⟩ := (fw_tr hC.2.2.2.2.1).2
  have hcomp : comp = g.2.1.1 1 := Option.some.inj (k3.symm.trans hcls.1)
  subst hcomp
  obtain ⟨kC, hkC, -⟩ := hcls.2
  refine W.aast hC.1 hC.2.1.1 (hH a _ ha) (fun q h => by cases h) (fun h => by cases h) k1 k2 rfl hkC ⟨h0, by show _ < (arrV _ _ _).slots.size; rw [arrV_size]; exact hlt⟩ g1 (fun q h => by rw [g3] at h; cases h) (by rw [g2]; exact hkC) (by rw [g2]; exact va_assign hcls) rfl rfl hd fun H1 e1 z oq => ?_
  refine k p e s m args below meth c H1 _ ls hC (hH.set ?_ oq) (z.trans hz) (hx.tr (fw_ext.up ha rfl)) (fw_locs hl (hx.2 a (Or.inl ⟨_, ha, rfl⟩))) hL
  show H1[a]? = some (vp_cell _ _)
  rw [e1]
  show some ((vp_cell g.2.2.2.2 (n, .inr (.inr (.inr (.inr f))))).setSlot _ _) = _
  rw [vp_cell_q, vp_cell_q, arrV_store]
  congr 2
  funext q
  by_cases hq : q = i.toNatClampNeg
  · subst hq
    simp [updV, va_up, va_rf]
  · simp [updV, va_up, hq]
theorem v_newr {idx N : Nat} {n : Int32} (hd : decode M.2.1 pc = .ok (.anewarray idx, 3)) (hw : Cond.classLink M.1.cls idx "DeltaViews$View" ∈ fw_big) (hov : ∀ U : State, fw_T U → va_AO "DeltaViews$View" U) (hn : n = nI N) (hN : N ≤ 100000) (h1 : nc + 1 ≤ mc) (h2 : ns + N ≤ ms) (k : VV g d mc ms M w0 sz0 E (pc + 3) L (.ref sz :: S) (fw_up w sz (cR N (fun _ => none))) (sz + 1) (nc + 1) (ns + N)) :
    VV g d mc ms M w0 sz0 E pc L (.int n :: S) w sz nc ns := by
  intro p e s m args below meth c H locs ls hC hH hz hx hl hL
  subst hn
  have hcl : (nI N).toNatClampNeg = N := nI_clamp (by omega)
  have h2' : ns + (nI N).toNatClampNeg ≤ (fw_rm d mc ms).slots := by rw [hcl]; exact h2
  refine W.anew hC.1 hC.2.1.1 (fw_K.own hC) (fw_use hC.2.2.2.2.1.2 hw rfl) (va_AO.use (hov s hC.2.2.2.2.1.2)) rfl hd rfl (nI_pos (by omega)) (by rw [hcl]; omega) h1 h2' fun cA kA comp f1 f2 f3 f4 => ?_
  rw [hcl]
  obtain ⟨kA', comp', k1, k2, k3, k4⟩ := (fw_tr hC.2.2.2.2.1).2
  have hcA : cA = g.2.2.2.2 := Option.some.inj (f1.symm.trans k4)
  subst hcA
  subst hz
  refine k p e s m args below meth c _ locs ls hC (hH.born ?_ (fun q hq => ?_)) (by rw [Array.size_push]) (hx.tr fw_ext.new) hl hL
  · show (H.push _)[H.size]? = some (arrV g.2.2.2.2 N (fun _ => .null))
    rw [Array.getElem?_push_size, ← arrV_new]
  · rw [Array.getElem?_push, if_neg (Nat.ne_of_lt hq)]
/-- copying -/
theorem v_copyi {idx a0 a n0 n1 sp dp n : Nat} {f f1 : Nat → Int32} (hd : decode M.2.1 pc = .ok (.invokestatic idx, 3)) (k1 : Cond.methodLink M.1.cls idx arraycopyName ∈ fw_big) (k2 : Cond.native arraycopyName ∈ fw_big) (k3 : Cond.static arraycopyName ∈ fw_big) (k4 : Cond.initialized "java/lang/System" ∈ fw_big)
    (ha0 : w a0 = some (cI n0 f)) (ha : w a = some (cI n1 f1)) (h4 : sp + n ≤ n0) (h5 : dp + n ≤ n1) (hb0 : n0 < 2 ^ 31) (hb1 : n1 < 2 ^ 31) (hdd : 2 ≤ d) (hst : (S.map fun v => v.category).sum ≤ 8)
    (k : VV g d mc ms M w0 sz0 E (pc + 3) L S (fw_up w a (cI n1 (va_cpy f f1 sp dp n))) sz nc ns) : VV g d mc ms M w0 sz0 E pc L (.int (nI n) :: .int (nI dp) :: .ref a :: .int (nI sp) :: .ref a0 :: S) w sz nc ns := by
  intro p e s m args below meth c H locs ls hC hH hz hx hl hL
  have hT := hC.2.2.2.2.1.2
  intro T hT0 X
  have hc0 : H[a0]? = some (vp_cell g.2.2.1 (n0, .inl f)) := hH a0 _ ha0
  have hc1 : H[a]? = some (vp_cell g.2.2.1 (n1, .inl f1)) := hH a _ ha
  obtain ⟨-, q0, hk0, cm0, hkk0⟩ := (fw_ti hC.2.2.2.2.1).1 n0 (fun j => .int (f j))
  have h8 : nativeFrameWords "java/lang/System" "arraycopy" 5 + 11 ≤ 40 := by decide
  have e1' : (nI sp).toNatClampNeg = sp := nI_clamp (by omega)
  have e2' : (nI dp).toNatClampNeg = dp := nI_clamp (by omega)
  have e3' : (nI n).toNatClampNeg = n := nI_clamp (by omega)
  obtain ⟨vm', X', step⟩ := X.arraycopy hC.1 (fw_K.own hC) (fw_use hT k1 rfl) (fw_use hT k2 rfl) (fw_use hT k3 rfl) (fw_use hT k4 rfl) (src := a0) (dst := a) (cs := vp_cell g.2.2.1 (n0, .inl f)) (cd := vp_cell g.2.2.1 (n1, .inl f1)) (srcPos := nI sp) (destPos := nI dp) (n := nI n) (by rw [hT0]; exact hc0) (by rw [hT0]; exact hc1)
    (fun _ h => by cases h) (fun _ h => by cases h) (fun h => by cases h) (fun h => by cases h) hk0 hk0 hkk0 hkk0 (by simp [refKind]) (nI_pos (by omega)) (nI_pos (by omega)) (nI_pos (by omega))
    (by rw [nI_toInt (by omega), nI_toInt (by omega)]; show ¬ _ > ((arrV g.2.2.1 n0 (fun j => .int (f j))).slots.size : Int); rw [arrV_size]; omega)
    (by rw [nI_toInt (by omega), nI_toInt (by omega)]; show ¬ _ > ((arrV g.2.2.1 n1 (fun j => .int (f1 j))).slots.size : Int); rw [arrV_size]; omega)
    (fun vm₁ _ i hi => by
      rw [e3'] at hi
      have e : (vp_cell g.2.2.1 (n0, .inl f)).slots.getD ((nI sp).toNatClampNeg + i) .null = .int (f ((nI sp).toNatClampNeg + i)) := by
        show (arrV g.2.2.1 n0 (fun j => .int (f j))).slots.getD _ _ = _
        rw [Array.getD_eq_getD_getElem?, arrV_read _ _ (by rw [e1']; omega)]
        rfl
      refine ⟨?_, ?_⟩
      · rw [e]; rfl
      · rw [e]; exact trivial)
    (g := F0 m pc ls (.int (nI n) :: .int (nI dp) :: .ref a :: .int (nI sp) :: .ref a0 :: S)) rfl (hL.1.trans hC.2.1.2.1.symm) (rest := S) rfl (by rw [hC.2.1.1]; exact hd) (by show 1 ≤ d; omega) (by show 2 * 0 + (S.map fun v => v.category).sum + (nativeFrameWords "java/lang/System" "arraycopy" 5 + 11) ≤ 39 * d; omega)
  have e1 : copied (vp_cell g.2.2.1 (n0, .inl f)) (vp_cell g.2.2.1 (n1, .inl f1)) (nI sp) (nI dp) (nI n) = vp_cell g.2.2.1 (n1, .inl (va_cpy f f1 sp dp n)) := by
    have h9 := va_copied (fun z : Int32 => Value.int z) g.2.2.1 g.2.2.1 (n1 := n1) (dp := (nI dp).toNatClampNeg) f f1 (sp := (nI sp).toNatClampNeg) (n := (nI n).toNatClampNeg) (n0 := n0) (by rw [e1', e3']; exact h4)
    rw [e1', e2', e3'] at h9
    have h10 : copied (vp_cell g.2.2.1 (n0, .inl f)) (vp_cell g.2.2.1 (n1, .inl f1)) (nI sp) (nI dp) (nI n) = (vp_cell g.2.2.1 (n1, .inl f1)).storeRun (nI dp).toNatClampNeg ((vp_cell g.2.2.1 (n0, .inl f)).stretch (nI sp).toNatClampNeg (nI n).toNatClampNeg) := rfl
    rw [h10, e1', e2', e3']
    exact h9
  rw [e1] at X' step
  have hlt : a < H.size := (Array.getElem?_eq_some_iff.mp hc1).1
  have hheap : ((T.setVm vm').setCell a (vp_cell g.2.2.1 (n1, .inl (va_cpy f f1 sp dp n)))).heap = H.setIfInBounds a (vp_cell g.2.2.1 (n1, .inl (va_cpy f f1 sp dp n))) := by rw [← hT0]; rfl
  have oq : ∀ q : Nat, q ≠ a → (H.setIfInBounds a (vp_cell g.2.2.1 (n1, .inl (va_cpy f f1 sp dp n))))[q]? = H[q]? := fun q hq => by simp [Array.getElem?_setIfInBounds, Ne.symm hq]
  obtain ⟨t, a1, b1⟩ := k p e s m args below meth c _ _ ls hC (hH.set (show (H.setIfInBounds a _)[a]? = some _ by simp [Array.getElem?_setIfInBounds, hlt]) oq) (by rw [Array.size_setIfInBounds]; exact hz) (hx.tr (fw_ext.up ha rfl)) (fun q hq => by
      rcases List.mem_append.mp hq with h | h
      · exact hl q h
      · obtain ⟨z, -, hz⟩ := List.mem_map.mp h
        rw [← hz]
        exact hx.2 a (Or.inl ⟨_, ha, rfl⟩)) hL _ hheap X'
  exact ⟨t, step t a1, b1⟩
end MO
