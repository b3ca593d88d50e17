/-! copying longs; the new world named -/
section CL
variable {g : Gl} {d mc ms : Nat} {M : Mi} {w0 : Wd} {sz0 : Nat} {E : Rs → Wd → Nat → Prop} {pc : Nat} {L : List (Nat × Value)} {S : List Value} {w : Wd} {sz nc ns : Nat}
theorem v_copyl {idx a0 a n0 n1 sp dp n : Nat} {f f1 : Nat → Int64} (hd : decode M.2.1 pc = .ok (.invokestatic idx, 3)) (k1 : Cond.methodLink M.1.cls idx arraycopyName ∈ fw_big) (k2 : Cond.native arraycopyName ∈ fw_big) (k3 : Cond.static arraycopyName ∈ fw_big) (k4 : Cond.initialized "java/lang/System" ∈ fw_big)
    (ha0 : w a0 = some (cJ n0 f)) (ha : w a = some (cJ n1 f1)) (h4 : sp + n ≤ n0) (h5 : dp + n ≤ n1) (hb0 : n0 < 2 ^ 31) (hb1 : n1 < 2 ^ 31) (hdd : 2 ≤ d) (hst : (S.map fun v => v.category).sum ≤ 8)
    (k : VV g d mc ms M w0 sz0 E (pc + 3) L S (fw_up w a (cJ n1 (va_cpy f f1 sp dp n))) sz nc ns) : VV g d mc ms M w0 sz0 E pc L (.int (nI n) :: .int (nI dp) :: .ref a :: .int (nI sp) :: .ref a0 :: S) w sz nc ns := by
  intro p e s m args below meth c H locs ls hC hH hz hx hl hL
  have hT := hC.2.2.2.2.1.2
  intro T hT0 X
  have hc0 : H[a0]? = some (vp_cell g.2.2.2.1 (n0, .inr (.inl f))) := hH a0 _ ha0
  have hc1 : H[a]? = some (vp_cell g.2.2.2.1 (n1, .inr (.inl f1))) := hH a _ ha
  obtain ⟨-, q0, hk0, cm0, hkk0⟩ := (fw_tj hC.2.2.2.2.1).1 n0 (fun j => .long (f j))
  have h8 : nativeFrameWords "java/lang/System" "arraycopy" 5 + 11 ≤ 40 := by decide
  have e1' : (nI sp).toNatClampNeg = sp := nI_clamp (by omega)
  have e2' : (nI dp).toNatClampNeg = dp := nI_clamp (by omega)
  have e3' : (nI n).toNatClampNeg = n := nI_clamp (by omega)
  obtain ⟨vm', X', step⟩ := X.arraycopy hC.1 (fw_K.own hC) (fw_use hT k1 rfl) (fw_use hT k2 rfl) (fw_use hT k3 rfl) (fw_use hT k4 rfl) (src := a0) (dst := a) (cs := vp_cell g.2.2.2.1 (n0, .inr (.inl f))) (cd := vp_cell g.2.2.2.1 (n1, .inr (.inl f1))) (srcPos := nI sp) (destPos := nI dp) (n := nI n) (by rw [hT0]; exact hc0) (by rw [hT0]; exact hc1)
    (fun _ h => by cases h) (fun _ h => by cases h) (fun h => by cases h) (fun h => by cases h) hk0 hk0 hkk0 hkk0 (by simp [refKind]) (nI_pos (by omega)) (nI_pos (by omega)) (nI_pos (by omega))
    (by rw [nI_toInt (by omega), nI_toInt (by omega)]; show ¬ _ > ((arrV g.2.2.2.1 n0 (fun j => .long (f j))).slots.size : Int); rw [arrV_size]; omega)
    (by rw [nI_toInt (by omega), nI_toInt (by omega)]; show ¬ _ > ((arrV g.2.2.2.1 n1 (fun j => .long (f1 j))).slots.size : Int); rw [arrV_size]; omega)
    (fun vm₁ _ i hi => by
      rw [e3'] at hi
      have e : (vp_cell g.2.2.2.1 (n0, .inr (.inl f))).slots.getD ((nI sp).toNatClampNeg + i) .null = .long (f ((nI sp).toNatClampNeg + i)) := by
        show (arrV g.2.2.2.1 n0 (fun j => .long (f j))).slots.getD _ _ = _
        rw [Array.getD_eq_getD_getElem?, arrV_read _ _ (by rw [e1']; omega)]
        rfl
      refine ⟨?_, ?_⟩
      · rw [e]; rfl
      · rw [e]; exact trivial)
    (g := F0 m pc ls (.int (nI n) :: .int (nI dp) :: .ref a :: .int (nI sp) :: .ref a0 :: S)) rfl (hL.1.trans hC.2.1.2.1.symm) (rest := S) rfl (by rw [hC.2.1.1]; exact hd) (by show 1 ≤ d; omega) (by show 2 * 0 + (S.map fun v => v.category).sum + (nativeFrameWords "java/lang/System" "arraycopy" 5 + 11) ≤ 39 * d; omega)
  have e1 : copied (vp_cell g.2.2.2.1 (n0, .inr (.inl f))) (vp_cell g.2.2.2.1 (n1, .inr (.inl f1))) (nI sp) (nI dp) (nI n) = vp_cell g.2.2.2.1 (n1, .inr (.inl (va_cpy f f1 sp dp n))) := by
    have h9 := va_copied (fun z : Int64 => Value.long z) g.2.2.2.1 g.2.2.2.1 (n1 := n1) (dp := (nI dp).toNatClampNeg) f f1 (sp := (nI sp).toNatClampNeg) (n := (nI n).toNatClampNeg) (n0 := n0) (by rw [e1', e3']; exact h4)
    rw [e1', e2', e3'] at h9
    have h10 : copied (vp_cell g.2.2.2.1 (n0, .inr (.inl f))) (vp_cell g.2.2.2.1 (n1, .inr (.inl f1))) (nI sp) (nI dp) (nI n) = (vp_cell g.2.2.2.1 (n1, .inr (.inl f1))).storeRun (nI dp).toNatClampNeg ((vp_cell g.2.2.2.1 (n0, .inr (.inl f))).stretch (nI sp).toNatClampNeg (nI n).toNatClampNeg) := rfl
    rw [h10, e1', e2', e3']
    exact h9
  rw [e1] at X' step
  have hlt : a < H.size := (Array.getElem?_eq_some_iff.mp hc1).1
  have hheap : ((T.setVm vm').setCell a (vp_cell g.2.2.2.1 (n1, .inr (.inl (va_cpy f f1 sp dp n))))).heap = H.setIfInBounds a (vp_cell g.2.2.2.1 (n1, .inr (.inl (va_cpy f f1 sp dp n)))) := by rw [← hT0]; rfl
  have oq : ∀ q : Nat, q ≠ a → (H.setIfInBounds a (vp_cell g.2.2.2.1 (n1, .inr (.inl (va_cpy f f1 sp dp n)))))[q]? = H[q]? := fun q hq => by simp [Array.getElem?_setIfInBounds, Ne.symm hq]
  obtain ⟨t, a1, b1⟩ := k p e s m args below meth c _ _ ls hC (hH.set (show (H.setIfInBounds a _)[a]? = some _ by simp [Array.getElem?_setIfInBounds, hlt]) oq) (by rw [Array.size_setIfInBounds]; exact hz) (hx.tr (fw_ext.up ha rfl)) (fun q hq => by
      rcases List.mem_append.mp hq with h | h
      · exact hl q h
      · obtain ⟨z, -, hz⟩ := List.mem_map.mp h
        rw [← hz]
        exact hx.2 a (Or.inl ⟨_, ha, rfl⟩)) hL _ hheap X'
  exact ⟨t, step t a1, b1⟩
theorem cp_1 : Cond.methodLink "DeltaViews$Bag" 29 arraycopyName ∈ fw_big := fw_mem 366 (by decide +kernel) rfl
theorem cp_2 : Cond.native arraycopyName ∈ fw_big := fw_mem 368 (by decide +kernel) rfl
theorem cp_3 : Cond.static arraycopyName ∈ fw_big := fw_mem 367 (by decide +kernel) rfl
theorem cp_4 : Cond.initialized "java/lang/System" ∈ fw_big := fw_mem 51 (by decide +kernel) rfl
theorem v_copyiW {a0 a n0 n1 sp dp n : Nat} {f f1 : Nat → Int32} (hd : decode M.2.1 pc = .ok (.invokestatic 29, 3)) (hcl : M.1.cls = "DeltaViews$Bag") (ha0 : w a0 = some (cI n0 f)) (ha : w a = some (cI n1 f1)) (h4 : sp + n ≤ n0) (h5 : dp + n ≤ n1) (hb0 : n0 < 2 ^ 31) (hb1 : n1 < 2 ^ 31) (hdd : 2 ≤ d) (hst : (S.map fun v => v.category).sum ≤ 8) (k : ∀ w', w' a = some (cI n1 (va_cpy f f1 sp dp n)) → (∀ q, q ≠ a → w' q = w q) → VV g d mc ms M w0 sz0 E (pc + 3) L S w' sz nc ns) : VV g d mc ms M w0 sz0 E pc L (.int (nI n) :: .int (nI dp) :: .ref a :: .int (nI sp) :: .ref a0 :: S) w sz nc ns :=
  v_copyi hd (by rw [hcl]; exact cp_1) cp_2 cp_3 cp_4 ha0 ha h4 h5 hb0 hb1 hdd hst (k _ (fw_up_s _ _ _) (fun q hq => fw_up_n _ _ hq))
theorem v_copylW {a0 a n0 n1 sp dp n : Nat} {f f1 : Nat → Int64} (hd : decode M.2.1 pc = .ok (.invokestatic 29, 3)) (hcl : M.1.cls = "DeltaViews$Bag") (ha0 : w a0 = some (cJ n0 f)) (ha : w a = some (cJ n1 f1)) (h4 : sp + n ≤ n0) (h5 : dp + n ≤ n1) (hb0 : n0 < 2 ^ 31) (hb1 : n1 < 2 ^ 31) (hdd : 2 ≤ d) (hst : (S.map fun v => v.category).sum ≤ 8) (k : ∀ w', w' a = some (cJ n1 (va_cpy f f1 sp dp n)) → (∀ q, q ≠ a → w' q = w q) → VV g d mc ms M w0 sz0 E (pc + 3) L S w' sz nc ns) : VV g d mc ms M w0 sz0 E pc L (.int (nI n) :: .int (nI dp) :: .ref a :: .int (nI sp) :: .ref a0 :: S) w sz nc ns :=
  v_copyl hd (by rw [hcl]; exact cp_1) cp_2 cp_3 cp_4 ha0 ha h4 h5 hb0 hb1 hdd hst (k _ (fw_up_s _ _ _) (fun q hq => fw_up_n _ _ hq))
end CL
