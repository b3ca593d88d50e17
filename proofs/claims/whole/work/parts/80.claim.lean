def lw_P (b : Addr) (xs : List Int32) (args : Array Value) (s : State) : Prop := args = #[.ref b] ∧ s.IntsAt b xs ∧ xs.length ≤ 3072 ∧ (Jvm.Cond.and given_1 narrow_1).before args s = true
def lw_Q (_ : Array Value) (s : State) (o : Outcome) (t : State) : Prop := o = .returned (some (.int 1)) ∧ Framed s o t [] 601024 7293034
theorem lw_pre_spec {args : Array Value} {s : State} (h : (Jvm.Cond.and given_1 narrow_1).before args s = true) (hr : rest_1_c.before args s = true) : ∃ (b : Addr) (xs : List Int32), lw_P b xs args s := by
  have hs := flat_of_before _ h
  have hq := flat_of_before _ hr
  have hc : (Cond.count 1).before args s = true := hs _ (by decide +kernel)
  have harr : (Cond.arrayOf (.arg 0) .int).before args s = true := hs _ (by decide +kernel)
  have hle : (Cond.le (.length (.arg 0)) (.int 3072)).before args s = true := hs _ (by decide +kernel)
  have hlen : (Cond.isInt (.length (.arg 0))).before args s = true := hq _ (by decide +kernel)
  have hall : (Cond.all (.arg 0) (.isInt (.elem (.arg 0) (.index 0)))).before args s = true := hq _ (by decide +kernel)
  obtain ⟨b, xs, hb, hx⟩ := State.ints_of_pre rfl harr hlen hall
  have hsm : xs.length < 2 ^ 31 := hx.choose_spec.2.2.2
  have hev : (Term.length (.arg 0)).eval args s none [] s = some (.int xs.length.toInt32) := hx.length_eval hb
  have hv := Cond.le_ints hev (show (Term.int 3072).eval args s none [] s = some (.int 3072) from rfl)
  have hd : xs.length.toInt32 ≤ 3072 := by
    simpa [Cond.before, Cond.holds, hv] using hle
  have hN : xs.length ≤ 3072 := (Int32.ofNat_le_ofNat hsm (by decide)).mp (show Int32.ofNat xs.length ≤ Int32.ofNat 3072 from hd)
  exact ⟨b, xs, Cond.one_arg hc (show args[0]? = some (.ref b) from hb), hx, hN, h⟩
set_option maxHeartbeats 4000000 in
theorem lw_comes (l : Launch) (hfl : l.flags = flags0) : Comes l x (Jvm.Cond.code x code maxLocals ret :: tables_1) room_1 (fun tb e args s => Calls_1 tb e args s ∧ rest_1 tb e args s ∧ Pre_1 tb e args s)
    (fun _ _ args s o t => lw_Q args s o t) := by
  intro p e ha hc hk s m args below hf hfit hheap happ hpre
  obtain ⟨b, xs, hP⟩ := lw_pre_spec hpre.2.2 hpre.2.1
  obtain ⟨rfl, hx, hbd, hgv⟩ := hP
  obtain ⟨scr, harrAt, hlist, hof, hsmall⟩ := hx
  obtain ⟨hcb, hkn, -, -⟩ := State.arrayAt?_spec harrAt
  obtain ⟨a1, a2, a3, a4, a5, a6, a7, a8⟩ := (Spec.appliesLoose_iff hf).mp ((Spec.applies_iff_loose hf).mp happ).1
  have hts0 : ∀ c ∈ (Jvm.Cond.code x code maxLocals ret :: tables_1), c.before #[Value.ref b] s = true := atoms_spec (ws := Jvm.Cond.code x code maxLocals ret :: tables_1) a8
  have hts : ∀ w ∈ lw_tbl, w.before #[Value.ref b] s = true := k2_hts_sels lw_privs (fun w hw => hts0 w (List.mem_cons_of_mem _ hw)) lw_privs_ok
  have hsz : scr.slots.size = xs.length := by rw [← Array.length_toList, hlist, List.length_map]
  have hval : ∀ j : Nat, j < xs.length → scr.slots[j]? = some (.int (xs.getD j 0)) := fun j hj => by
    rw [← Array.getElem?_toList, hlist]
    simp [hj]
  have hbl : b < s.heap.size := (Array.getElem?_eq_some_iff.mp hcb).1
  obtain ⟨g, hg1, hg2, hK⟩ := st_K l scr.cls (st_T hts)
  subst hg1
  have hs := flat_of_before _ hgv
  have hX : fw_X g s := ⟨hfl, st_st (hts _ (List.mem_append.mpr (Or.inr (List.mem_of_getElem? (i := 183) (by decide +kernel))))) (hs _ (by decide +kernel)), st_st (hts _ (List.mem_append.mpr (Or.inr (List.mem_of_getElem? (i := 185) (by decide +kernel))))) (hs _ (by decide +kernel)), fun i tx hi => st_str hts i tx hi, st_na hgv, fun c h1 h2 => ⟨h2, by rw [h1, hg2]; exact hof.2⟩⟩
  have hSC : SC g scr xs.length (fun j => xs.getD j 0) := ⟨hg2.symm, hof.1, hkn, hsz, hval⟩
  have hH : fw_H g (fun q => if q = b then some (cX scr) else none) s.heap := by
    intro q e9 he
    by_cases hq : q = b
    · simp only [if_pos hq] at he
      cases he
      rw [hq]
      exact hcb
    · simp only [if_neg hq] at he
      cases he
  have hroom : s.hasRoom e.platform (headSpec [fw_word mi_Law_law] (fw_rm 10 2000 20000)).room = true := by
    have h := a7
    simp only [State.hasRoom, Bool.and_eq_true, decide_eq_true_eq] at h ⊢
    have f1 : (headSpec (Jvm.Cond.code x code maxLocals ret :: tables_1) room_1).room = room_1 := rfl
    have f2 : (headSpec [fw_word mi_Law_law] (fw_rm 10 2000 20000)).room = { frames := 10, cells := 2000, slots := 20000, locals := 390 } := rfl
    rw [f1] at h
    rw [f2]
    dsimp only
    have q1 : room_1.frames = 11 := rfl
    have q2 : room_1.cells = 601024 := rfl
    have q3 : room_1.slots = 7293034 := rfl
    have q4 : room_1.locals = 430 := rfl
    rw [q1, q2, q3, q4] at h
    obtain ⟨⟨⟨⟨r1, r2, r3, r4, r5, r6⟩, r7⟩, r8⟩, r9⟩ := h
    exact ⟨⟨⟨⟨by omega, by omega, by omega, by omega, by omega, r6⟩, by omega⟩, by omega⟩, r9⟩
  have hpre9 : (headSpec [fw_word mi_Law_law] (fw_rm 10 2000 20000)).pre.before #[Value.ref b] s = true := atoms_intro (fun w hw => by rw [List.mem_singleton.mp hw]; exact hts0 _ List.mem_cons_self)
  have hct := c_Law_law g (w := fun q => if q = b then some (cX scr) else none) (Z := s.heap.size) hSC hbd (if_pos rfl) hbl
  obtain ⟨k, o, h1, h2, h3, hQ⟩ := hct p e ha hc hk s m #[Value.ref b] below hf ((Spec.appliesLoose_iff hf).mpr ⟨a1, a2, a3, a4, a5, a6, hroom, hpre9⟩) ⟨rfl, rfl, hH, hK, hX⟩ trivial
  obtain ⟨⟨r, w', hout, -, -, hE⟩, Lk, hW, hsame, hlk⟩ := hQ
  have hE : r = .inl (some (.int 1)) := hE
  subst hE
  have hout : o = .returned (some (.int 1)) := hout
  refine ⟨k, o, h1, h2, h3, hout, ⟨_, hout⟩, hW, hsame.weaken (fun y hy hlt => ?_) (by decide) (by decide)⟩
  rcases hlk y hy with ⟨e9, he, hr⟩ | h9
  · by_cases hq : y.base = b
    · simp only [if_pos hq] at he
      cases he
      cases hr
    · simp only [if_neg hq] at he
      cases he
  · exact absurd hlt (Nat.not_lt.mpr h9)
theorem lw_frame {s t : State} {o : Outcome} {args : Array Value} (h : Framed s o t [] 601024 7293034) :
    Framed s o t (fieldLocs frame_1_writes args s ++ arrayLocs frame_1_arrays args s ++ staticLocs frame_1_statics s) 601024 7293034 := h
theorem lw_limb (L : Cond) (hL : ∀ (args : Array Value) (s t : State), L.after args s (.returned (some (.int 1))) t = true) :
    ArmFor flags0 classFile x code maxLocals ret World_1 tables_1 room_1 Calls_1 rest_1 Pre_1
      (fun tb e a s o t => postC L tb e a s o t ∧ Framed s o t (fieldLocs frame_1_writes a s ++ arrayLocs frame_1_arrays a s ++ staticLocs frame_1_statics s) 601024 7293034) := by
  intro l hfl _ _ p e ha hc hk s m args below hf hfit hheap happ hpre
  obtain ⟨k, o, h1, h2, h3, rfl, hF⟩ := lw_comes l hfl p e ha hc hk s m args below hf hfit hheap happ hpre
  exact ⟨k, _, h1, h2, h3, hL args s _, lw_frame hF⟩
theorem i_vc : Claimed_1_1 ∧ Claimed_1_2 := ⟨lw_limb limb_1_1 (fun args s t => by simp [limb_1_1, Cond.after, Cond.holds, Cond.value]), lw_limb limb_1_2 (fun args s t => Cond.after_iff.mpr (by
  first | (rw [show limb_1_2 = Cond.eq .result (.int 1) from rfl, Cond.eq_ints (x := 1) (y := 1) rfl rfl]; simp; done) | (simp [limb_1_2, Cond.value, Term.eval]; done)))⟩
