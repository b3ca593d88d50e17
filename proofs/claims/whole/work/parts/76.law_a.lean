/-! The law: reading the script, one call. -/
/-- the script's cell -/
def SC (g : Gl) (c : Cell) (N : Nat) (sf : Nat → Int32) : Prop := c.cls = g.2.1.1 99 ∧ (∀ k, c.vm ≠ .statics k) ∧ c.vm ≠ .unknown ∧ c.slots.size = N ∧ ∀ j, j < N → c.slots[j]? = some (.int (sf j))
theorem RRa.mv {w w' : Wd} {b : Nat} {a : As} {th : Int32} (h : RRa w b a th) (hq : ∀ q, b ≤ q → q < b + 19 → w' q = w q) : RRa w' b a th := by
  obtain ⟨sc, ia, la, h1, h2, h3⟩ := h
  exact ⟨sc, ia, la, h1.mv hq, h2, h3⟩
section SCR
variable {g : Gl} {d mc ms : Nat} {M : Mi} {w0 : Wd} {sz0 : Nat} {E : Rs → Wd → Nat → Prop} {pc : Nat} {L : List (Nat × Value)} {S : List Value} {w : Wd} {sz nc ns : Nat}
variable {rest A : List Value} {M' : Mi} {d' mc' ms' n idx : Nat}
theorem v_sld {b N k : Nat} {c : Cell} {sf : Nat → Int32} {i : Int32} (hd : decode M.2.1 pc = .ok (.iaload, 1)) (ha : w b = some (cX c)) (hc : SC g c N sf) (hi : i = nI k) (hk : k < N) (hN : N < 2 ^ 31) (kk : VV g d mc ms M w0 sz0 E (pc + 1) L (.int (sf k) :: S) w sz nc ns) : VV g d mc ms M w0 sz0 E pc L (.int i :: .ref b :: S) w sz nc ns := by
  intro p e s m args below meth c9 H locs ls hC hH hz hx hl hL
  subst hi
  obtain ⟨s1, s2, s3, s4, s5⟩ := hc
  have e9 : (nI k).toNatClampNeg = k := nI_clamp (by omega)
  have hin : ¬ (nI k < 0 ∨ c.slots.size ≤ (nI k).toNatClampNeg) := by
    rw [s4]
    exact vp_in_nI hk hN
  exact W.iald (v := .int (sf k)) hC.1 hC.2.1.1 (hH b _ ha) (hC.2.2.2.2.2.2.2.2.2.2.2.2 c s1 s2) s3 hin (by rw [e9]; exact s5 k hk) rfl rfl hd (kk p e s m args below meth c9 H locs ls hC hH hz hx hl hL)
theorem v_slen {b N : Nat} {c : Cell} {sf : Nat → Int32} (hd : decode M.2.1 pc = .ok (.arraylength, 1)) (ha : w b = some (cX c)) (hc : SC g c N sf) (kk : VV g d mc ms M w0 sz0 E (pc + 1) L (.int (nI N) :: S) w sz nc ns) : VV g d mc ms M w0 sz0 E pc L (.ref b :: S) w sz nc ns := by
  intro p e s m args below meth c9 H locs ls hC hH hz hx hl hL
  obtain ⟨s1, s2, s3, s4, s5⟩ := hc
  exact W.alen (n := nI N) hC.1 hC.2.1.1 (hH b _ ha) (hC.2.2.2.2.2.2.2.2.2.2.2.2 c s1 s2) (by rw [s4] <;> rfl) rfl rfl hd (kk p e s m args below meth c9 H locs ls hC hH hz hx hl hL)
/-- a wrapper called -/
theorem v_csWE {Z code : Nat} {v : Int64} {st : As} (hd : decode M.2.1 pc = .ok (.invokestatic idx, 3)) (hl : fw_lnk M.1.cls idx M'.1) (hm : fw_me M' n) (hs : Cond.static M'.1 ∈ fw_big) (hA : A.length = n) (hS : S = A.reverse ++ rest) (hc : CT g d' mc' ms' M' A w sz (WE w Z sz code v st)) (r1 : d' + 1 ≤ d) (r3 : nc + mc' ≤ mc) (r4 : ns + ms' ≤ ms) (hst : (rest.map fun v => v.category).sum ≤ 8)
    (kr : ∀ w' sz', sz ≤ sz' → (∀ q, q < Z ∨ (Z + 127 ≤ q ∧ q < Z + 146) → w' q = w q) → CRe w' Z sz' st → (∃ f, w' (Z + 146) = some (cJ 1 f) ∧ (code = 0 → f 0 = v)) → VV g d mc ms M w0 sz0 E (pc + 3) L (.int (nI code) :: rest) w' sz' (nc + mc') (ns + ms')) : VV g d mc ms M w0 sz0 E pc L S w sz nc ns := by
  refine v_cs hd hl hm hs hA hS hc r1 r3 r4 hst (fun v w' sz' h => ?_) (fun k w' sz' h => by cases h.1)
  obtain ⟨h1, h2, h3, h4, h5⟩ := h
  cases h1
  exact kr w' sz' h2 h3 h4 h5
/-- the reference called -/
theorem v_cvRE {a ci N code : Nat} {fs : List Value} {T : u_T} {x : Value} {st : As} (hd : decode M.2.1 pc = .ok (.invokevirtual idx, 3)) (hl : fw_lnk M.1.cls idx M'.1) (hm : fw_me M' n) (hi : Cond.instanceMethod M'.1 ∈ fw_big) (hse : Cond.selects M'.1.cls M'.1 M'.1 ∈ fw_big) (hcl : vwCl[ci]? = some (M'.1.cls, T, N)) (ha : w a = some (cO ci fs)) (hA : A.length = n) (hS : S = A.reverse ++ .ref a :: rest) (hc : CT g d' 0 0 M' (.ref a :: A) w sz (RE w a sz code x st)) (r1 : d' + 1 ≤ d) (r3 : nc ≤ mc) (r4 : ns ≤ ms) (hst : (rest.map fun v => v.category).sum ≤ 8)
    (kr : ∀ w', mo_fr a w w' → RRa w' a st (nI code) → VV g d mc ms M w0 sz0 E (pc + 3) L (x :: rest) w' sz nc ns) : VV g d mc ms M w0 sz0 E pc L S w sz nc ns := by
  refine v_cv hd hl hm hi hse hcl ha hA hS hc r1 r3 r4 hst (fun v w' sz' h => ?_) (fun k w' sz' h => by cases h.1)
  obtain ⟨h1, h2, h3, h4⟩ := h
  cases h1
  subst h2
  exact kr w' h3 h4
end SCR
theorem lg_cmp_0 {x y : Int64} (h : x = y) : lg_cmp x y = 0 := by subst h; simp [lg_cmp]
set_option maxRecDepth 100000 in
set_option maxHeartbeats 4000000 in
theorem lw_change (g : Gl) {w0 W : Wd} {sz0 mc ms scr N Z sz nc ns j code : Nat} {c : Cell} {sf : Nat → Int32} {st : As} {E : Rs → Wd → Nat → Prop} (hsc : W scr = some (cX c)) (hSC : SC g c N sf) (hj : 6 * j + 6 ≤ N) (hN : N ≤ 3072) (hs0 : scr < Z) {fs : List Value} (hMo : W (Z + 127) = some (cO 11 fs)) (hst12 : st.1 ≤ 12) (r3 : nc + 2 ≤ mc) (r4 : ns + 10 ≤ ms) {x vM : Int32} (hw : CT g 9 2 10 mi_Law_change [.ref Z, .int (sf (6 * j + 1)), .int (sf (6 * j + 2)), .int (sf (6 * j + 3)), .int (sf (6 * j + 4)), .ref (Z + 146)] W sz (WE W Z sz code x.toInt64 st)) (hr : ∀ (w1 : Wd) (sz1 : Nat), (∀ q, Z + 127 ≤ q → q < Z + 146 → w1 q = W q) → CT g 0 0 0 mi_Mo_change [.ref (Z + 127), .int (sf (6 * j + 1)), .int (sf (6 * j + 2)), .int (sf (6 * j + 3)), .int (sf (6 * j + 4))] w1 sz1 (RE w1 (Z + 127) sz1 code (.int vM) st)) (hval : code = 0 → vM = x) (hc3 : code ≤ 3) (K : ∀ w2 sz2, sz ≤ sz2 → (∀ q, q < Z → w2 q = W q) → CRe w2 Z sz2 st → RRa w2 (Z + 127) st (nI code) → (∃ f, w2 (Z + 146) = some (cJ 1 f)) → VV g 10 mc ms mi_Law_law w0 sz0 E 1211 [(4, .int (nI (6 * j))), (3, .ref (Z + 146)), (2, .ref (Z + 127)), (1, .ref Z), (0, .ref scr)] [] w2 sz2 (nc + 2) (ns + 10)) : VV g 10 mc ms mi_Law_law w0 sz0 E 120 [(4, .int (nI (6 * j))), (3, .ref (Z + 146)), (2, .ref (Z + 127)), (1, .ref Z), (0, .ref scr)] [] W sz nc ns := by
  refine v_aload_n (pc := 120) d_Law_law_120 rfl rfl ?_
  refine v_aload_n (pc := 121) d_Law_law_121 rfl rfl ?_
  refine v_iload (pc := 122) d_Law_law_122 rfl ?_
  refine v_iconst (pc := 124) (v := nI 1) d_Law_law_124 rfl ?_
  refine v_iadd (pc := 125) d_Law_law_125 ?_
  refine v_re (nI_add (6 * j) 1) ?_
  refine v_sld (pc := 126) (k := (6 * j) + 1) d_Law_law_126 hsc hSC rfl (by omega) (by omega) ?_
  refine v_aload_n (pc := 127) d_Law_law_127 rfl rfl ?_
  refine v_iload (pc := 128) d_Law_law_128 rfl ?_
  refine v_iconst (pc := 130) (v := nI 2) d_Law_law_130 rfl ?_
  refine v_iadd (pc := 131) d_Law_law_131 ?_
  refine v_re (nI_add (6 * j) 2) ?_
  refine v_sld (pc := 132) (k := (6 * j) + 2) d_Law_law_132 hsc hSC rfl (by omega) (by omega) ?_
  refine v_aload_n (pc := 133) d_Law_law_133 rfl rfl ?_
  refine v_iload (pc := 134) d_Law_law_134 rfl ?_
  refine v_iconst (pc := 136) (v := nI 3) d_Law_law_136 rfl ?_
  refine v_iadd (pc := 137) d_Law_law_137 ?_
  refine v_re (nI_add (6 * j) 3) ?_
  refine v_sld (pc := 138) (k := (6 * j) + 3) d_Law_law_138 hsc hSC rfl (by omega) (by omega) ?_
  refine v_aload_n (pc := 139) d_Law_law_139 rfl rfl ?_
  refine v_iload (pc := 140) d_Law_law_140 rfl ?_
  refine v_iconst (pc := 142) (v := nI 4) d_Law_law_142 rfl ?_
  refine v_iadd (pc := 143) d_Law_law_143 ?_
  refine v_re (nI_add (6 * j) 4) ?_
  refine v_sld (pc := 144) (k := (6 * j) + 4) d_Law_law_144 hsc hSC rfl (by omega) (by omega) ?_
  refine v_aload_n (pc := 145) d_Law_law_145 rfl rfl ?_
  refine v_csWE (pc := 146) (A := [.ref Z, .int (sf (6 * j + 1)), .int (sf (6 * j + 2)), .int (sf (6 * j + 3)), .int (sf (6 * j + 4)), .ref (Z + 146)]) (rest := []) d_Law_law_146 lk_Law_73 me_Law_change st_Law_change rfl rfl hw (Nat.le_of_ble_eq_true rfl) r3 r4 (Nat.le_of_ble_eq_true rfl) (fun w1 sz1 hs1 hf1 hC1 ho1 => ?_)
  obtain ⟨fo, ho1, hov⟩ := ho1
  have hsc1 := (hf1 scr (by omega)).trans hsc
  have hMo1 := (hf1 (Z + 127) (by omega)).trans hMo
  refine v_istore (pc := 149) (L' := [(5, .int (nI code)), (4, .int (nI (6 * j))), (3, .ref (Z + 146)), (2, .ref (Z + 127)), (1, .ref Z), (0, .ref scr)]) d_Law_law_149 (by decide) rfl ?_
  refine v_aload_n (pc := 151) d_Law_law_151 rfl rfl ?_
  refine v_aload_n (pc := 152) d_Law_law_152 rfl rfl ?_
  refine v_iload (pc := 153) d_Law_law_153 rfl ?_
  refine v_iconst (pc := 155) (v := nI 1) d_Law_law_155 rfl ?_
  refine v_iadd (pc := 156) d_Law_law_156 ?_
  refine v_re (nI_add (6 * j) 1) ?_
  refine v_sld (pc := 157) (k := (6 * j) + 1) d_Law_law_157 hsc1 hSC rfl (by omega) (by omega) ?_
  refine v_aload_n (pc := 158) d_Law_law_158 rfl rfl ?_
  refine v_iload (pc := 159) d_Law_law_159 rfl ?_
  refine v_iconst (pc := 161) (v := nI 2) d_Law_law_161 rfl ?_
  refine v_iadd (pc := 162) d_Law_law_162 ?_
  refine v_re (nI_add (6 * j) 2) ?_
  refine v_sld (pc := 163) (k := (6 * j) + 2) d_Law_law_163 hsc1 hSC rfl (by omega) (by omega) ?_
  refine v_aload_n (pc := 164) d_Law_law_164 rfl rfl ?_
  refine v_iload (pc := 165) d_Law_law_165 rfl ?_
  refine v_iconst (pc := 167) (v := nI 3) d_Law_law_167 rfl ?_
  refine v_iadd (pc := 168) d_Law_law_168 ?_
  refine v_re (nI_add (6 * j) 3) ?_
  refine v_sld (pc := 169) (k := (6 * j) + 3) d_Law_law_169 hsc1 hSC rfl (by omega) (by omega) ?_
  refine v_aload_n (pc := 170) d_Law_law_170 rfl rfl ?_
  refine v_iload (pc := 171) d_Law_law_171 rfl ?_
  refine v_iconst (pc := 173) (v := nI 4) d_Law_law_173 rfl ?_
  refine v_iadd (pc := 174) d_Law_law_174 ?_
  refine v_re (nI_add (6 * j) 4) ?_
  refine v_sld (pc := 175) (k := (6 * j) + 4) d_Law_law_175 hsc1 hSC rfl (by omega) (by omega) ?_
  refine v_cvRE (pc := 176) (A := [.int (sf (6 * j + 1)), .int (sf (6 * j + 2)), .int (sf (6 * j + 3)), .int (sf (6 * j + 4))]) (rest := []) (x := .int vM) d_Law_law_176 lk_Law_78 me_Mo_change im_Mo_change se_Mo_change rfl hMo1 rfl rfl (hr w1 sz1 (fun q h h' => hf1 q (Or.inr ⟨h, h'⟩))) (Nat.le_of_ble_eq_true rfl) r3 r4 (Nat.le_of_ble_eq_true rfl) (fun w2 hf2 hR2 => ?_)
  have hRR2 := hR2
  obtain ⟨sc, ia, la, hM2, hth, hRA2⟩ := hR2
  have ho2 := (hf2 (Z + 146) (by omega)).trans ho1
  refine v_istore (pc := 179) (L' := [(6, .int vM), (5, .int (nI code)), (4, .int (nI (6 * j))), (3, .ref (Z + 146)), (2, .ref (Z + 127)), (1, .ref Z), (0, .ref scr)]) d_Law_law_179 (by decide) rfl ?_
  refine v_aload_n (pc := 181) d_Law_law_181 rfl rfl ?_
  refine v_cvR (pc := 182) (A := []) (rest := []) (x := .int (sc 0)) d_Law_law_182 lk_Law_79 me_Mo_thrown im_Mo_thrown se_Mo_thrown rfl hM2.o rfl rfl (c_Mo_thrown g hM2) (Nat.le_of_ble_eq_true rfl) r3 r4 (Nat.le_of_ble_eq_true rfl) ?_
  refine v_re hth ?_
  refine v_iload (pc := 185) d_Law_law_185 rfl ?_
  refine v_icmp_eq (pc := 187) (tgt := 192) d_Law_law_187 rfl (fun hc => ?_) (fun hc => ?_)
  · skip
    rw [nI_eq (by omega) (by omega)] at hc
    refine v_iload (pc := 192) d_Law_law_192 rfl ?_
    refine v_if_ne (pc := 194) (tgt := 209) d_Law_law_194 rfl (fun hc => ?_) (fun hc => ?_)
    · skip
      refine v_goto (pc := 209) (tgt := 1211) d_Law_law_209 rfl ?_
      refine v_sub (L' := [(4, .int (nI (6 * j))), (3, .ref (Z + 146)), (2, .ref (Z + 127)), (1, .ref Z), (0, .ref scr)]) (by simp) ?_
      exact K w2 sz1 hs1 (fun q hq => (hf2 q (by omega)).trans (hf1 q (Or.inl hq))) (hC1.off hst12 (fun q hq => hf2 q (by omega))) hRR2 ⟨fo, ho2⟩
    · skip
      have hc0 : code = 0 := by rw [show (0 : Int32) = nI 0 from rfl, nI_eq (by omega) (by decide)] at hc; exact hc
      refine v_aload_n (pc := 197) d_Law_law_197 rfl rfl ?_
      refine v_iconst (pc := 198) (v := nI 0) d_Law_law_198 rfl ?_
      have h0c : code = 0 := hc0
      have hlv : fo 0 = vM.toInt64 := (hov h0c).trans (by rw [hval h0c])
      refine v_laldN (pc := 199) (k := 0) (f := fo) d_Law_law_199 ho2 rfl (by omega) (by decide) ?_
      refine v_iload (pc := 200) d_Law_law_200 rfl ?_
      refine v_i2l (pc := 202) d_Law_law_202 ?_
      refine v_lcmp (pc := 203) d_Law_law_203 ?_
      refine v_if_eq (pc := 204) (tgt := 209) d_Law_law_204 rfl (fun hc => ?_) (fun hc => ?_)
      · skip
        refine v_goto (pc := 209) (tgt := 1211) d_Law_law_209 rfl ?_
        refine v_sub (L' := [(4, .int (nI (6 * j))), (3, .ref (Z + 146)), (2, .ref (Z + 127)), (1, .ref Z), (0, .ref scr)]) (by simp) ?_
        exact K w2 sz1 hs1 (fun q hq => (hf2 q (by omega)).trans (hf1 q (Or.inl hq))) (hC1.off hst12 (fun q hq => hf2 q (by omega))) hRR2 ⟨fo, ho2⟩
      · skip
        exact absurd (lg_cmp_0 hlv) hc
  · skip
    rw [nI_eq (by omega) (by omega)] at hc
    exact absurd rfl hc
set_option maxRecDepth 100000 in
set_option maxHeartbeats 4000000 in
theorem lw_commit (g : Gl) {w0 W : Wd} {sz0 mc ms scr N Z sz nc ns j code : Nat} {c : Cell} {sf : Nat → Int32} {st : As} {E : Rs → Wd → Nat → Prop} (hsc : W scr = some (cX c)) (hSC : SC g c N sf) (hj : 6 * j + 6 ≤ N) (hN : N ≤ 3072) (hs0 : scr < Z) {fs : List Value} (hMo : W (Z + 127) = some (cO 11 fs)) (hst12 : st.1 ≤ 12) (r3 : nc + 2 ≤ mc) (r4 : ns + 10 ≤ ms) {x vM : Int32} (hw : CT g 9 2 10 mi_Law_commit [.ref Z, .ref (Z + 146)] W sz (WE W Z sz code x.toInt64 st)) (hr : ∀ (w1 : Wd) (sz1 : Nat), (∀ q, Z + 127 ≤ q → q < Z + 146 → w1 q = W q) → CT g 4 0 0 mi_Mo_commit [.ref (Z + 127)] w1 sz1 (RE w1 (Z + 127) sz1 code (.int vM) st)) (hval : code = 0 → vM = x) (hc3 : code ≤ 3) (K : ∀ w2 sz2, sz ≤ sz2 → (∀ q, q < Z → w2 q = W q) → CRe w2 Z sz2 st → RRa w2 (Z + 127) st (nI code) → (∃ f, w2 (Z + 146) = some (cJ 1 f)) → VV g 10 mc ms mi_Law_law w0 sz0 E 1211 [(4, .int (nI (6 * j))), (3, .ref (Z + 146)), (2, .ref (Z + 127)), (1, .ref Z), (0, .ref scr)] [] w2 sz2 (nc + 2) (ns + 10)) : VV g 10 mc ms mi_Law_law w0 sz0 E 225 [(4, .int (nI (6 * j))), (3, .ref (Z + 146)), (2, .ref (Z + 127)), (1, .ref Z), (0, .ref scr)] [] W sz nc ns := by
  refine v_aload_n (pc := 225) d_Law_law_225 rfl rfl ?_
  refine v_aload_n (pc := 226) d_Law_law_226 rfl rfl ?_
  refine v_csWE (pc := 227) (A := [.ref Z, .ref (Z + 146)]) (rest := []) d_Law_law_227 lk_Law_86 me_Law_commit st_Law_commit rfl rfl hw (Nat.le_of_ble_eq_true rfl) r3 r4 (Nat.le_of_ble_eq_true rfl) (fun w1 sz1 hs1 hf1 hC1 ho1 => ?_)
  obtain ⟨fo, ho1, hov⟩ := ho1
  have hsc1 := (hf1 scr (by omega)).trans hsc
  have hMo1 := (hf1 (Z + 127) (by omega)).trans hMo
  refine v_istore (pc := 230) (L' := [(5, .int (nI code)), (4, .int (nI (6 * j))), (3, .ref (Z + 146)), (2, .ref (Z + 127)), (1, .ref Z), (0, .ref scr)]) d_Law_law_230 (by decide) rfl ?_
  refine v_aload_n (pc := 232) d_Law_law_232 rfl rfl ?_
  refine v_cvRE (pc := 233) (A := []) (rest := []) (x := .int vM) d_Law_law_233 lk_Law_89 me_Mo_commit im_Mo_commit se_Mo_commit rfl hMo1 rfl rfl (hr w1 sz1 (fun q h h' => hf1 q (Or.inr ⟨h, h'⟩))) (Nat.le_of_ble_eq_true rfl) r3 r4 (Nat.le_of_ble_eq_true rfl) (fun w2 hf2 hR2 => ?_)
  have hRR2 := hR2
  obtain ⟨sc, ia, la, hM2, hth, hRA2⟩ := hR2
  have ho2 := (hf2 (Z + 146) (by omega)).trans ho1
  refine v_istore (pc := 236) (L' := [(6, .int vM), (5, .int (nI code)), (4, .int (nI (6 * j))), (3, .ref (Z + 146)), (2, .ref (Z + 127)), (1, .ref Z), (0, .ref scr)]) d_Law_law_236 (by decide) rfl ?_
  refine v_aload_n (pc := 238) d_Law_law_238 rfl rfl ?_
  refine v_cvR (pc := 239) (A := []) (rest := []) (x := .int (sc 0)) d_Law_law_239 lk_Law_79 me_Mo_thrown im_Mo_thrown se_Mo_thrown rfl hM2.o rfl rfl (c_Mo_thrown g hM2) (Nat.le_of_ble_eq_true rfl) r3 r4 (Nat.le_of_ble_eq_true rfl) ?_
  refine v_re hth ?_
  refine v_iload (pc := 242) d_Law_law_242 rfl ?_
  refine v_icmp_eq (pc := 244) (tgt := 249) d_Law_law_244 rfl (fun hc => ?_) (fun hc => ?_)
  · skip
    rw [nI_eq (by omega) (by omega)] at hc
    refine v_iload (pc := 249) d_Law_law_249 rfl ?_
    refine v_if_ne (pc := 251) (tgt := 266) d_Law_law_251 rfl (fun hc => ?_) (fun hc => ?_)
    · skip
      refine v_goto (pc := 266) (tgt := 1211) d_Law_law_266 rfl ?_
      refine v_sub (L' := [(4, .int (nI (6 * j))), (3, .ref (Z + 146)), (2, .ref (Z + 127)), (1, .ref Z), (0, .ref scr)]) (by simp) ?_
      exact K w2 sz1 hs1 (fun q hq => (hf2 q (by omega)).trans (hf1 q (Or.inl hq))) (hC1.off hst12 (fun q hq => hf2 q (by omega))) hRR2 ⟨fo, ho2⟩
    · skip
      have hc0 : code = 0 := by rw [show (0 : Int32) = nI 0 from rfl, nI_eq (by omega) (by decide)] at hc; exact hc
      refine v_aload_n (pc := 254) d_Law_law_254 rfl rfl ?_
      refine v_iconst (pc := 255) (v := nI 0) d_Law_law_255 rfl ?_
      have h0c : code = 0 := hc0
      have hlv : fo 0 = vM.toInt64 := (hov h0c).trans (by rw [hval h0c])
      refine v_laldN (pc := 256) (k := 0) (f := fo) d_Law_law_256 ho2 rfl (by omega) (by decide) ?_
      refine v_iload (pc := 257) d_Law_law_257 rfl ?_
      refine v_i2l (pc := 259) d_Law_law_259 ?_
      refine v_lcmp (pc := 260) d_Law_law_260 ?_
      refine v_if_eq (pc := 261) (tgt := 266) d_Law_law_261 rfl (fun hc => ?_) (fun hc => ?_)
      · skip
        refine v_goto (pc := 266) (tgt := 1211) d_Law_law_266 rfl ?_
        refine v_sub (L' := [(4, .int (nI (6 * j))), (3, .ref (Z + 146)), (2, .ref (Z + 127)), (1, .ref Z), (0, .ref scr)]) (by simp) ?_
        exact K w2 sz1 hs1 (fun q hq => (hf2 q (by omega)).trans (hf1 q (Or.inl hq))) (hC1.off hst12 (fun q hq => hf2 q (by omega))) hRR2 ⟨fo, ho2⟩
      · skip
        exact absurd (lg_cmp_0 hlv) hc
  · skip
    rw [nI_eq (by omega) (by omega)] at hc
    exact absurd rfl hc
set_option maxRecDepth 100000 in
set_option maxHeartbeats 4000000 in
theorem lw_select (g : Gl) {w0 W : Wd} {sz0 mc ms scr N Z sz nc ns j code : Nat} {c : Cell} {sf : Nat → Int32} {st : As} {E : Rs → Wd → Nat → Prop} (hsc : W scr = some (cX c)) (hSC : SC g c N sf) (hj : 6 * j + 6 ≤ N) (hN : N ≤ 3072) (hs0 : scr < Z) {fs : List Value} (hMo : W (Z + 127) = some (cO 11 fs)) (hst12 : st.1 ≤ 12) (r3 : nc + 2 ≤ mc) (r4 : ns + 10 ≤ ms) {x vM : Int32} (hw : CT g 9 2 10 mi_Law_select [.ref Z, .int (sf (6 * j + 1)), .int (sf (6 * j + 2)), .int (sf (6 * j + 3)), .int (sf (6 * j + 4)), .ref (Z + 146)] W sz (WE W Z sz code x.toInt64 st)) (hr : ∀ (w1 : Wd) (sz1 : Nat), (∀ q, Z + 127 ≤ q → q < Z + 146 → w1 q = W q) → CT g 5 0 0 mi_Mo_select [.ref (Z + 127), .int (sf (6 * j + 1)), .int (sf (6 * j + 2)), .int (sf (6 * j + 3)), .int (sf (6 * j + 4))] w1 sz1 (RE w1 (Z + 127) sz1 code (.int vM) st)) (hval : code = 0 → vM = x) (hc3 : code ≤ 3) (K : ∀ w2 sz2, sz ≤ sz2 → (∀ q, q < Z → w2 q = W q) → CRe w2 Z sz2 st → RRa w2 (Z + 127) st (nI code) → (∃ f, w2 (Z + 146) = some (cJ 1 f)) → VV g 10 mc ms mi_Law_law w0 sz0 E 1211 [(4, .int (nI (6 * j))), (3, .ref (Z + 146)), (2, .ref (Z + 127)), (1, .ref Z), (0, .ref scr)] [] w2 sz2 (nc + 2) (ns + 10)) : VV g 10 mc ms mi_Law_law w0 sz0 E 269 [(4, .int (nI (6 * j))), (3, .ref (Z + 146)), (2, .ref (Z + 127)), (1, .ref Z), (0, .ref scr)] [] W sz nc ns := by
  refine v_aload_n (pc := 269) d_Law_law_269 rfl rfl ?_
  refine v_aload_n (pc := 270) d_Law_law_270 rfl rfl ?_
  refine v_iload (pc := 271) d_Law_law_271 rfl ?_
  refine v_iconst (pc := 273) (v := nI 1) d_Law_law_273 rfl ?_
  refine v_iadd (pc := 274) d_Law_law_274 ?_
  refine v_re (nI_add (6 * j) 1) ?_
  refine v_sld (pc := 275) (k := (6 * j) + 1) d_Law_law_275 hsc hSC rfl (by omega) (by omega) ?_
  refine v_aload_n (pc := 276) d_Law_law_276 rfl rfl ?_
  refine v_iload (pc := 277) d_Law_law_277 rfl ?_
  refine v_iconst (pc := 279) (v := nI 2) d_Law_law_279 rfl ?_
  refine v_iadd (pc := 280) d_Law_law_280 ?_
  refine v_re (nI_add (6 * j) 2) ?_
  refine v_sld (pc := 281) (k := (6 * j) + 2) d_Law_law_281 hsc hSC rfl (by omega) (by omega) ?_
  refine v_aload_n (pc := 282) d_Law_law_282 rfl rfl ?_
  refine v_iload (pc := 283) d_Law_law_283 rfl ?_
  refine v_iconst (pc := 285) (v := nI 3) d_Law_law_285 rfl ?_
  refine v_iadd (pc := 286) d_Law_law_286 ?_
  refine v_re (nI_add (6 * j) 3) ?_
  refine v_sld (pc := 287) (k := (6 * j) + 3) d_Law_law_287 hsc hSC rfl (by omega) (by omega) ?_
  refine v_aload_n (pc := 288) d_Law_law_288 rfl rfl ?_
  refine v_iload (pc := 289) d_Law_law_289 rfl ?_
  refine v_iconst (pc := 291) (v := nI 4) d_Law_law_291 rfl ?_
  refine v_iadd (pc := 292) d_Law_law_292 ?_
  refine v_re (nI_add (6 * j) 4) ?_
  refine v_sld (pc := 293) (k := (6 * j) + 4) d_Law_law_293 hsc hSC rfl (by omega) (by omega) ?_
  refine v_aload_n (pc := 294) d_Law_law_294 rfl rfl ?_
  refine v_csWE (pc := 295) (A := [.ref Z, .int (sf (6 * j + 1)), .int (sf (6 * j + 2)), .int (sf (6 * j + 3)), .int (sf (6 * j + 4)), .ref (Z + 146)]) (rest := []) d_Law_law_295 lk_Law_90 me_Law_select st_Law_select rfl rfl hw (Nat.le_of_ble_eq_true rfl) r3 r4 (Nat.le_of_ble_eq_true rfl) (fun w1 sz1 hs1 hf1 hC1 ho1 => ?_)
  obtain ⟨fo, ho1, hov⟩ := ho1
  have hsc1 := (hf1 scr (by omega)).trans hsc
  have hMo1 := (hf1 (Z + 127) (by omega)).trans hMo
  refine v_istore (pc := 298) (L' := [(5, .int (nI code)), (4, .int (nI (6 * j))), (3, .ref (Z + 146)), (2, .ref (Z + 127)), (1, .ref Z), (0, .ref scr)]) d_Law_law_298 (by decide) rfl ?_
  refine v_aload_n (pc := 300) d_Law_law_300 rfl rfl ?_
  refine v_aload_n (pc := 301) d_Law_law_301 rfl rfl ?_
  refine v_iload (pc := 302) d_Law_law_302 rfl ?_
  refine v_iconst (pc := 304) (v := nI 1) d_Law_law_304 rfl ?_
  refine v_iadd (pc := 305) d_Law_law_305 ?_
  refine v_re (nI_add (6 * j) 1) ?_
  refine v_sld (pc := 306) (k := (6 * j) + 1) d_Law_law_306 hsc1 hSC rfl (by omega) (by omega) ?_
  refine v_aload_n (pc := 307) d_Law_law_307 rfl rfl ?_
  refine v_iload (pc := 308) d_Law_law_308 rfl ?_
  refine v_iconst (pc := 310) (v := nI 2) d_Law_law_310 rfl ?_
  refine v_iadd (pc := 311) d_Law_law_311 ?_
  refine v_re (nI_add (6 * j) 2) ?_
  refine v_sld (pc := 312) (k := (6 * j) + 2) d_Law_law_312 hsc1 hSC rfl (by omega) (by omega) ?_
  refine v_aload_n (pc := 313) d_Law_law_313 rfl rfl ?_
  refine v_iload (pc := 314) d_Law_law_314 rfl ?_
  refine v_iconst (pc := 316) (v := nI 3) d_Law_law_316 rfl ?_
  refine v_iadd (pc := 317) d_Law_law_317 ?_
  refine v_re (nI_add (6 * j) 3) ?_
  refine v_sld (pc := 318) (k := (6 * j) + 3) d_Law_law_318 hsc1 hSC rfl (by omega) (by omega) ?_
  refine v_aload_n (pc := 319) d_Law_law_319 rfl rfl ?_
  refine v_iload (pc := 320) d_Law_law_320 rfl ?_
  refine v_iconst (pc := 322) (v := nI 4) d_Law_law_322 rfl ?_
  refine v_iadd (pc := 323) d_Law_law_323 ?_
  refine v_re (nI_add (6 * j) 4) ?_
  refine v_sld (pc := 324) (k := (6 * j) + 4) d_Law_law_324 hsc1 hSC rfl (by omega) (by omega) ?_
  refine v_cvRE (pc := 325) (A := [.int (sf (6 * j + 1)), .int (sf (6 * j + 2)), .int (sf (6 * j + 3)), .int (sf (6 * j + 4))]) (rest := []) (x := .int vM) d_Law_law_325 lk_Law_92 me_Mo_select im_Mo_select se_Mo_select rfl hMo1 rfl rfl (hr w1 sz1 (fun q h h' => hf1 q (Or.inr ⟨h, h'⟩))) (Nat.le_of_ble_eq_true rfl) r3 r4 (Nat.le_of_ble_eq_true rfl) (fun w2 hf2 hR2 => ?_)
  have hRR2 := hR2
  obtain ⟨sc, ia, la, hM2, hth, hRA2⟩ := hR2
  have ho2 := (hf2 (Z + 146) (by omega)).trans ho1
  refine v_istore (pc := 328) (L' := [(6, .int vM), (5, .int (nI code)), (4, .int (nI (6 * j))), (3, .ref (Z + 146)), (2, .ref (Z + 127)), (1, .ref Z), (0, .ref scr)]) d_Law_law_328 (by decide) rfl ?_
  refine v_aload_n (pc := 330) d_Law_law_330 rfl rfl ?_
  refine v_cvR (pc := 331) (A := []) (rest := []) (x := .int (sc 0)) d_Law_law_331 lk_Law_79 me_Mo_thrown im_Mo_thrown se_Mo_thrown rfl hM2.o rfl rfl (c_Mo_thrown g hM2) (Nat.le_of_ble_eq_true rfl) r3 r4 (Nat.le_of_ble_eq_true rfl) ?_
  refine v_re hth ?_
  refine v_iload (pc := 334) d_Law_law_334 rfl ?_
  refine v_icmp_eq (pc := 336) (tgt := 341) d_Law_law_336 rfl (fun hc => ?_) (fun hc => ?_)
  · skip
    rw [nI_eq (by omega) (by omega)] at hc
    refine v_iload (pc := 341) d_Law_law_341 rfl ?_
    refine v_if_ne (pc := 343) (tgt := 358) d_Law_law_343 rfl (fun hc => ?_) (fun hc => ?_)
    · skip
      refine v_goto (pc := 358) (tgt := 1211) d_Law_law_358 rfl ?_
      refine v_sub (L' := [(4, .int (nI (6 * j))), (3, .ref (Z + 146)), (2, .ref (Z + 127)), (1, .ref Z), (0, .ref scr)]) (by simp) ?_
      exact K w2 sz1 hs1 (fun q hq => (hf2 q (by omega)).trans (hf1 q (Or.inl hq))) (hC1.off hst12 (fun q hq => hf2 q (by omega))) hRR2 ⟨fo, ho2⟩
    · skip
      have hc0 : code = 0 := by rw [show (0 : Int32) = nI 0 from rfl, nI_eq (by omega) (by decide)] at hc; exact hc
      refine v_aload_n (pc := 346) d_Law_law_346 rfl rfl ?_
      refine v_iconst (pc := 347) (v := nI 0) d_Law_law_347 rfl ?_
      have h0c : code = 0 := hc0
      have hlv : fo 0 = vM.toInt64 := (hov h0c).trans (by rw [hval h0c])
      refine v_laldN (pc := 348) (k := 0) (f := fo) d_Law_law_348 ho2 rfl (by omega) (by decide) ?_
      refine v_iload (pc := 349) d_Law_law_349 rfl ?_
      refine v_i2l (pc := 351) d_Law_law_351 ?_
      refine v_lcmp (pc := 352) d_Law_law_352 ?_
      refine v_if_eq (pc := 353) (tgt := 358) d_Law_law_353 rfl (fun hc => ?_) (fun hc => ?_)
      · skip
        refine v_goto (pc := 358) (tgt := 1211) d_Law_law_358 rfl ?_
        refine v_sub (L' := [(4, .int (nI (6 * j))), (3, .ref (Z + 146)), (2, .ref (Z + 127)), (1, .ref Z), (0, .ref scr)]) (by simp) ?_
        exact K w2 sz1 hs1 (fun q hq => (hf2 q (by omega)).trans (hf1 q (Or.inl hq))) (hC1.off hst12 (fun q hq => hf2 q (by omega))) hRR2 ⟨fo, ho2⟩
      · skip
        exact absurd (lg_cmp_0 hlv) hc
  · skip
    rw [nI_eq (by omega) (by omega)] at hc
    exact absurd rfl hc
set_option maxRecDepth 100000 in
set_option maxHeartbeats 4000000 in
theorem lw_project (g : Gl) {w0 W : Wd} {sz0 mc ms scr N Z sz nc ns j code : Nat} {c : Cell} {sf : Nat → Int32} {st : As} {E : Rs → Wd → Nat → Prop} (hsc : W scr = some (cX c)) (hSC : SC g c N sf) (hj : 6 * j + 6 ≤ N) (hN : N ≤ 3072) (hs0 : scr < Z) {fs : List Value} (hMo : W (Z + 127) = some (cO 11 fs)) (hst12 : st.1 ≤ 12) (r3 : nc + 2 ≤ mc) (r4 : ns + 10 ≤ ms) {x vM : Int32} (hw : CT g 9 2 10 mi_Law_project [.ref Z, .int (sf (6 * j + 1)), .int (sf (6 * j + 2)), .int (sf (6 * j + 3)), .ref (Z + 146)] W sz (WE W Z sz code x.toInt64 st)) (hr : ∀ (w1 : Wd) (sz1 : Nat), (∀ q, Z + 127 ≤ q → q < Z + 146 → w1 q = W q) → CT g 5 0 0 mi_Mo_project [.ref (Z + 127), .int (sf (6 * j + 1)), .int (sf (6 * j + 2)), .int (sf (6 * j + 3))] w1 sz1 (RE w1 (Z + 127) sz1 code (.int vM) st)) (hval : code = 0 → vM = x) (hc3 : code ≤ 3) (K : ∀ w2 sz2, sz ≤ sz2 → (∀ q, q < Z → w2 q = W q) → CRe w2 Z sz2 st → RRa w2 (Z + 127) st (nI code) → (∃ f, w2 (Z + 146) = some (cJ 1 f)) → VV g 10 mc ms mi_Law_law w0 sz0 E 1211 [(4, .int (nI (6 * j))), (3, .ref (Z + 146)), (2, .ref (Z + 127)), (1, .ref Z), (0, .ref scr)] [] w2 sz2 (nc + 2) (ns + 10)) : VV g 10 mc ms mi_Law_law w0 sz0 E 361 [(4, .int (nI (6 * j))), (3, .ref (Z + 146)), (2, .ref (Z + 127)), (1, .ref Z), (0, .ref scr)] [] W sz nc ns := by
  refine v_aload_n (pc := 361) d_Law_law_361 rfl rfl ?_
  refine v_aload_n (pc := 362) d_Law_law_362 rfl rfl ?_
  refine v_iload (pc := 363) d_Law_law_363 rfl ?_
  refine v_iconst (pc := 365) (v := nI 1) d_Law_law_365 rfl ?_
  refine v_iadd (pc := 366) d_Law_law_366 ?_
  refine v_re (nI_add (6 * j) 1) ?_
  refine v_sld (pc := 367) (k := (6 * j) + 1) d_Law_law_367 hsc hSC rfl (by omega) (by omega) ?_
  refine v_aload_n (pc := 368) d_Law_law_368 rfl rfl ?_
  refine v_iload (pc := 369) d_Law_law_369 rfl ?_
  refine v_iconst (pc := 371) (v := nI 2) d_Law_law_371 rfl ?_
  refine v_iadd (pc := 372) d_Law_law_372 ?_
  refine v_re (nI_add (6 * j) 2) ?_
  refine v_sld (pc := 373) (k := (6 * j) + 2) d_Law_law_373 hsc hSC rfl (by omega) (by omega) ?_
  refine v_aload_n (pc := 374) d_Law_law_374 rfl rfl ?_
  refine v_iload (pc := 375) d_Law_law_375 rfl ?_
  refine v_iconst (pc := 377) (v := nI 3) d_Law_law_377 rfl ?_
  refine v_iadd (pc := 378) d_Law_law_378 ?_
  refine v_re (nI_add (6 * j) 3) ?_
  refine v_sld (pc := 379) (k := (6 * j) + 3) d_Law_law_379 hsc hSC rfl (by omega) (by omega) ?_
  refine v_aload_n (pc := 380) d_Law_law_380 rfl rfl ?_
  refine v_csWE (pc := 381) (A := [.ref Z, .int (sf (6 * j + 1)), .int (sf (6 * j + 2)), .int (sf (6 * j + 3)), .ref (Z + 146)]) (rest := []) d_Law_law_381 lk_Law_93 me_Law_project st_Law_project rfl rfl hw (Nat.le_of_ble_eq_true rfl) r3 r4 (Nat.le_of_ble_eq_true rfl) (fun w1 sz1 hs1 hf1 hC1 ho1 => ?_)
  obtain ⟨fo, ho1, hov⟩ := ho1
  have hsc1 := (hf1 scr (by omega)).trans hsc
  have hMo1 := (hf1 (Z + 127) (by omega)).trans hMo
  refine v_istore (pc := 384) (L' := [(5, .int (nI code)), (4, .int (nI (6 * j))), (3, .ref (Z + 146)), (2, .ref (Z + 127)), (1, .ref Z), (0, .ref scr)]) d_Law_law_384 (by decide) rfl ?_
  refine v_aload_n (pc := 386) d_Law_law_386 rfl rfl ?_
  refine v_aload_n (pc := 387) d_Law_law_387 rfl rfl ?_
  refine v_iload (pc := 388) d_Law_law_388 rfl ?_
  refine v_iconst (pc := 390) (v := nI 1) d_Law_law_390 rfl ?_
  refine v_iadd (pc := 391) d_Law_law_391 ?_
  refine v_re (nI_add (6 * j) 1) ?_
  refine v_sld (pc := 392) (k := (6 * j) + 1) d_Law_law_392 hsc1 hSC rfl (by omega) (by omega) ?_
  refine v_aload_n (pc := 393) d_Law_law_393 rfl rfl ?_
  refine v_iload (pc := 394) d_Law_law_394 rfl ?_
  refine v_iconst (pc := 396) (v := nI 2) d_Law_law_396 rfl ?_
  refine v_iadd (pc := 397) d_Law_law_397 ?_
  refine v_re (nI_add (6 * j) 2) ?_
  refine v_sld (pc := 398) (k := (6 * j) + 2) d_Law_law_398 hsc1 hSC rfl (by omega) (by omega) ?_
  refine v_aload_n (pc := 399) d_Law_law_399 rfl rfl ?_
  refine v_iload (pc := 400) d_Law_law_400 rfl ?_
  refine v_iconst (pc := 402) (v := nI 3) d_Law_law_402 rfl ?_
  refine v_iadd (pc := 403) d_Law_law_403 ?_
  refine v_re (nI_add (6 * j) 3) ?_
  refine v_sld (pc := 404) (k := (6 * j) + 3) d_Law_law_404 hsc1 hSC rfl (by omega) (by omega) ?_
  refine v_cvRE (pc := 405) (A := [.int (sf (6 * j + 1)), .int (sf (6 * j + 2)), .int (sf (6 * j + 3))]) (rest := []) (x := .int vM) d_Law_law_405 lk_Law_96 me_Mo_project im_Mo_project se_Mo_project rfl hMo1 rfl rfl (hr w1 sz1 (fun q h h' => hf1 q (Or.inr ⟨h, h'⟩))) (Nat.le_of_ble_eq_true rfl) r3 r4 (Nat.le_of_ble_eq_true rfl) (fun w2 hf2 hR2 => ?_)
  have hRR2 := hR2
  obtain ⟨sc, ia, la, hM2, hth, hRA2⟩ := hR2
  have ho2 := (hf2 (Z + 146) (by omega)).trans ho1
  refine v_istore (pc := 408) (L' := [(6, .int vM), (5, .int (nI code)), (4, .int (nI (6 * j))), (3, .ref (Z + 146)), (2, .ref (Z + 127)), (1, .ref Z), (0, .ref scr)]) d_Law_law_408 (by decide) rfl ?_
  refine v_aload_n (pc := 410) d_Law_law_410 rfl rfl ?_
  refine v_cvR (pc := 411) (A := []) (rest := []) (x := .int (sc 0)) d_Law_law_411 lk_Law_79 me_Mo_thrown im_Mo_thrown se_Mo_thrown rfl hM2.o rfl rfl (c_Mo_thrown g hM2) (Nat.le_of_ble_eq_true rfl) r3 r4 (Nat.le_of_ble_eq_true rfl) ?_
  refine v_re hth ?_
  refine v_iload (pc := 414) d_Law_law_414 rfl ?_
  refine v_icmp_eq (pc := 416) (tgt := 421) d_Law_law_416 rfl (fun hc => ?_) (fun hc => ?_)
  · skip
    rw [nI_eq (by omega) (by omega)] at hc
    refine v_iload (pc := 421) d_Law_law_421 rfl ?_
    refine v_if_ne (pc := 423) (tgt := 438) d_Law_law_423 rfl (fun hc => ?_) (fun hc => ?_)
    · skip
      refine v_goto (pc := 438) (tgt := 1211) d_Law_law_438 rfl ?_
      refine v_sub (L' := [(4, .int (nI (6 * j))), (3, .ref (Z + 146)), (2, .ref (Z + 127)), (1, .ref Z), (0, .ref scr)]) (by simp) ?_
      exact K w2 sz1 hs1 (fun q hq => (hf2 q (by omega)).trans (hf1 q (Or.inl hq))) (hC1.off hst12 (fun q hq => hf2 q (by omega))) hRR2 ⟨fo, ho2⟩
    · skip
      have hc0 : code = 0 := by rw [show (0 : Int32) = nI 0 from rfl, nI_eq (by omega) (by decide)] at hc; exact hc
      refine v_aload_n (pc := 426) d_Law_law_426 rfl rfl ?_
      refine v_iconst (pc := 427) (v := nI 0) d_Law_law_427 rfl ?_
      have h0c : code = 0 := hc0
      have hlv : fo 0 = vM.toInt64 := (hov h0c).trans (by rw [hval h0c])
      refine v_laldN (pc := 428) (k := 0) (f := fo) d_Law_law_428 ho2 rfl (by omega) (by decide) ?_
      refine v_iload (pc := 429) d_Law_law_429 rfl ?_
      refine v_i2l (pc := 431) d_Law_law_431 ?_
      refine v_lcmp (pc := 432) d_Law_law_432 ?_
      refine v_if_eq (pc := 433) (tgt := 438) d_Law_law_433 rfl (fun hc => ?_) (fun hc => ?_)
      · skip
        refine v_goto (pc := 438) (tgt := 1211) d_Law_law_438 rfl ?_
        refine v_sub (L' := [(4, .int (nI (6 * j))), (3, .ref (Z + 146)), (2, .ref (Z + 127)), (1, .ref Z), (0, .ref scr)]) (by simp) ?_
        exact K w2 sz1 hs1 (fun q hq => (hf2 q (by omega)).trans (hf1 q (Or.inl hq))) (hC1.off hst12 (fun q hq => hf2 q (by omega))) hRR2 ⟨fo, ho2⟩
      · skip
        exact absurd (lg_cmp_0 hlv) hc
  · skip
    rw [nI_eq (by omega) (by omega)] at hc
    exact absurd rfl hc
set_option maxRecDepth 100000 in
set_option maxHeartbeats 4000000 in
theorem lw_join (g : Gl) {w0 W : Wd} {sz0 mc ms scr N Z sz nc ns j code : Nat} {c : Cell} {sf : Nat → Int32} {st : As} {E : Rs → Wd → Nat → Prop} (hsc : W scr = some (cX c)) (hSC : SC g c N sf) (hj : 6 * j + 6 ≤ N) (hN : N ≤ 3072) (hs0 : scr < Z) {fs : List Value} (hMo : W (Z + 127) = some (cO 11 fs)) (hst12 : st.1 ≤ 12) (r3 : nc + 2 ≤ mc) (r4 : ns + 10 ≤ ms) {x vM : Int32} (hw : CT g 9 2 10 mi_Law_join [.ref Z, .int (sf (6 * j + 1)), .int (sf (6 * j + 2)), .int (sf (6 * j + 3)), .int (sf (6 * j + 4)), .ref (Z + 146)] W sz (WE W Z sz code x.toInt64 st)) (hr : ∀ (w1 : Wd) (sz1 : Nat), (∀ q, Z + 127 ≤ q → q < Z + 146 → w1 q = W q) → CT g 5 0 0 mi_Mo_join [.ref (Z + 127), .int (sf (6 * j + 1)), .int (sf (6 * j + 2)), .int (sf (6 * j + 3)), .int (sf (6 * j + 4))] w1 sz1 (RE w1 (Z + 127) sz1 code (.int vM) st)) (hval : code = 0 → vM = x) (hc3 : code ≤ 3) (K : ∀ w2 sz2, sz ≤ sz2 → (∀ q, q < Z → w2 q = W q) → CRe w2 Z sz2 st → RRa w2 (Z + 127) st (nI code) → (∃ f, w2 (Z + 146) = some (cJ 1 f)) → VV g 10 mc ms mi_Law_law w0 sz0 E 1211 [(4, .int (nI (6 * j))), (3, .ref (Z + 146)), (2, .ref (Z + 127)), (1, .ref Z), (0, .ref scr)] [] w2 sz2 (nc + 2) (ns + 10)) : VV g 10 mc ms mi_Law_law w0 sz0 E 441 [(4, .int (nI (6 * j))), (3, .ref (Z + 146)), (2, .ref (Z + 127)), (1, .ref Z), (0, .ref scr)] [] W sz nc ns := by
  refine v_aload_n (pc := 441) d_Law_law_441 rfl rfl ?_
  refine v_aload_n (pc := 442) d_Law_law_442 rfl rfl ?_
  refine v_iload (pc := 443) d_Law_law_443 rfl ?_
  refine v_iconst (pc := 445) (v := nI 1) d_Law_law_445 rfl ?_
  refine v_iadd (pc := 446) d_Law_law_446 ?_
  refine v_re (nI_add (6 * j) 1) ?_
  refine v_sld (pc := 447) (k := (6 * j) + 1) d_Law_law_447 hsc hSC rfl (by omega) (by omega) ?_
  refine v_aload_n (pc := 448) d_Law_law_448 rfl rfl ?_
  refine v_iload (pc := 449) d_Law_law_449 rfl ?_
  refine v_iconst (pc := 451) (v := nI 2) d_Law_law_451 rfl ?_
  refine v_iadd (pc := 452) d_Law_law_452 ?_
  refine v_re (nI_add (6 * j) 2) ?_
  refine v_sld (pc := 453) (k := (6 * j) + 2) d_Law_law_453 hsc hSC rfl (by omega) (by omega) ?_
  refine v_aload_n (pc := 454) d_Law_law_454 rfl rfl ?_
  refine v_iload (pc := 455) d_Law_law_455 rfl ?_
  refine v_iconst (pc := 457) (v := nI 3) d_Law_law_457 rfl ?_
  refine v_iadd (pc := 458) d_Law_law_458 ?_
  refine v_re (nI_add (6 * j) 3) ?_
  refine v_sld (pc := 459) (k := (6 * j) + 3) d_Law_law_459 hsc hSC rfl (by omega) (by omega) ?_
  refine v_aload_n (pc := 460) d_Law_law_460 rfl rfl ?_
  refine v_iload (pc := 461) d_Law_law_461 rfl ?_
  refine v_iconst (pc := 463) (v := nI 4) d_Law_law_463 rfl ?_
  refine v_iadd (pc := 464) d_Law_law_464 ?_
  refine v_re (nI_add (6 * j) 4) ?_
  refine v_sld (pc := 465) (k := (6 * j) + 4) d_Law_law_465 hsc hSC rfl (by omega) (by omega) ?_
  refine v_aload_n (pc := 466) d_Law_law_466 rfl rfl ?_
  refine v_csWE (pc := 467) (A := [.ref Z, .int (sf (6 * j + 1)), .int (sf (6 * j + 2)), .int (sf (6 * j + 3)), .int (sf (6 * j + 4)), .ref (Z + 146)]) (rest := []) d_Law_law_467 lk_Law_97 me_Law_join st_Law_join rfl rfl hw (Nat.le_of_ble_eq_true rfl) r3 r4 (Nat.le_of_ble_eq_true rfl) (fun w1 sz1 hs1 hf1 hC1 ho1 => ?_)
  obtain ⟨fo, ho1, hov⟩ := ho1
  have hsc1 := (hf1 scr (by omega)).trans hsc
  have hMo1 := (hf1 (Z + 127) (by omega)).trans hMo
  refine v_istore (pc := 470) (L' := [(5, .int (nI code)), (4, .int (nI (6 * j))), (3, .ref (Z + 146)), (2, .ref (Z + 127)), (1, .ref Z), (0, .ref scr)]) d_Law_law_470 (by decide) rfl ?_
  refine v_aload_n (pc := 472) d_Law_law_472 rfl rfl ?_
  refine v_aload_n (pc := 473) d_Law_law_473 rfl rfl ?_
  refine v_iload (pc := 474) d_Law_law_474 rfl ?_
  refine v_iconst (pc := 476) (v := nI 1) d_Law_law_476 rfl ?_
  refine v_iadd (pc := 477) d_Law_law_477 ?_
  refine v_re (nI_add (6 * j) 1) ?_
  refine v_sld (pc := 478) (k := (6 * j) + 1) d_Law_law_478 hsc1 hSC rfl (by omega) (by omega) ?_
  refine v_aload_n (pc := 479) d_Law_law_479 rfl rfl ?_
  refine v_iload (pc := 480) d_Law_law_480 rfl ?_
  refine v_iconst (pc := 482) (v := nI 2) d_Law_law_482 rfl ?_
  refine v_iadd (pc := 483) d_Law_law_483 ?_
  refine v_re (nI_add (6 * j) 2) ?_
  refine v_sld (pc := 484) (k := (6 * j) + 2) d_Law_law_484 hsc1 hSC rfl (by omega) (by omega) ?_
  refine v_aload_n (pc := 485) d_Law_law_485 rfl rfl ?_
  refine v_iload (pc := 486) d_Law_law_486 rfl ?_
  refine v_iconst (pc := 488) (v := nI 3) d_Law_law_488 rfl ?_
  refine v_iadd (pc := 489) d_Law_law_489 ?_
  refine v_re (nI_add (6 * j) 3) ?_
  refine v_sld (pc := 490) (k := (6 * j) + 3) d_Law_law_490 hsc1 hSC rfl (by omega) (by omega) ?_
  refine v_aload_n (pc := 491) d_Law_law_491 rfl rfl ?_
  refine v_iload (pc := 492) d_Law_law_492 rfl ?_
  refine v_iconst (pc := 494) (v := nI 4) d_Law_law_494 rfl ?_
  refine v_iadd (pc := 495) d_Law_law_495 ?_
  refine v_re (nI_add (6 * j) 4) ?_
  refine v_sld (pc := 496) (k := (6 * j) + 4) d_Law_law_496 hsc1 hSC rfl (by omega) (by omega) ?_
  refine v_cvRE (pc := 497) (A := [.int (sf (6 * j + 1)), .int (sf (6 * j + 2)), .int (sf (6 * j + 3)), .int (sf (6 * j + 4))]) (rest := []) (x := .int vM) d_Law_law_497 lk_Law_99 me_Mo_join im_Mo_join se_Mo_join rfl hMo1 rfl rfl (hr w1 sz1 (fun q h h' => hf1 q (Or.inr ⟨h, h'⟩))) (Nat.le_of_ble_eq_true rfl) r3 r4 (Nat.le_of_ble_eq_true rfl) (fun w2 hf2 hR2 => ?_)
  have hRR2 := hR2
  obtain ⟨sc, ia, la, hM2, hth, hRA2⟩ := hR2
  have ho2 := (hf2 (Z + 146) (by omega)).trans ho1
  refine v_istore (pc := 500) (L' := [(6, .int vM), (5, .int (nI code)), (4, .int (nI (6 * j))), (3, .ref (Z + 146)), (2, .ref (Z + 127)), (1, .ref Z), (0, .ref scr)]) d_Law_law_500 (by decide) rfl ?_
  refine v_aload_n (pc := 502) d_Law_law_502 rfl rfl ?_
  refine v_cvR (pc := 503) (A := []) (rest := []) (x := .int (sc 0)) d_Law_law_503 lk_Law_79 me_Mo_thrown im_Mo_thrown se_Mo_thrown rfl hM2.o rfl rfl (c_Mo_thrown g hM2) (Nat.le_of_ble_eq_true rfl) r3 r4 (Nat.le_of_ble_eq_true rfl) ?_
  refine v_re hth ?_
  refine v_iload (pc := 506) d_Law_law_506 rfl ?_
  refine v_icmp_eq (pc := 508) (tgt := 513) d_Law_law_508 rfl (fun hc => ?_) (fun hc => ?_)
  · skip
    rw [nI_eq (by omega) (by omega)] at hc
    refine v_iload (pc := 513) d_Law_law_513 rfl ?_
    refine v_if_ne (pc := 515) (tgt := 530) d_Law_law_515 rfl (fun hc => ?_) (fun hc => ?_)
    · skip
      refine v_goto (pc := 530) (tgt := 1211) d_Law_law_530 rfl ?_
      refine v_sub (L' := [(4, .int (nI (6 * j))), (3, .ref (Z + 146)), (2, .ref (Z + 127)), (1, .ref Z), (0, .ref scr)]) (by simp) ?_
      exact K w2 sz1 hs1 (fun q hq => (hf2 q (by omega)).trans (hf1 q (Or.inl hq))) (hC1.off hst12 (fun q hq => hf2 q (by omega))) hRR2 ⟨fo, ho2⟩
    · skip
      have hc0 : code = 0 := by rw [show (0 : Int32) = nI 0 from rfl, nI_eq (by omega) (by decide)] at hc; exact hc
      refine v_aload_n (pc := 518) d_Law_law_518 rfl rfl ?_
      refine v_iconst (pc := 519) (v := nI 0) d_Law_law_519 rfl ?_
      have h0c : code = 0 := hc0
      have hlv : fo 0 = vM.toInt64 := (hov h0c).trans (by rw [hval h0c])
      refine v_laldN (pc := 520) (k := 0) (f := fo) d_Law_law_520 ho2 rfl (by omega) (by decide) ?_
      refine v_iload (pc := 521) d_Law_law_521 rfl ?_
      refine v_i2l (pc := 523) d_Law_law_523 ?_
      refine v_lcmp (pc := 524) d_Law_law_524 ?_
      refine v_if_eq (pc := 525) (tgt := 530) d_Law_law_525 rfl (fun hc => ?_) (fun hc => ?_)
      · skip
        refine v_goto (pc := 530) (tgt := 1211) d_Law_law_530 rfl ?_
        refine v_sub (L' := [(4, .int (nI (6 * j))), (3, .ref (Z + 146)), (2, .ref (Z + 127)), (1, .ref Z), (0, .ref scr)]) (by simp) ?_
        exact K w2 sz1 hs1 (fun q hq => (hf2 q (by omega)).trans (hf1 q (Or.inl hq))) (hC1.off hst12 (fun q hq => hf2 q (by omega))) hRR2 ⟨fo, ho2⟩
      · skip
        exact absurd (lg_cmp_0 hlv) hc
  · skip
    rw [nI_eq (by omega) (by omega)] at hc
    exact absurd rfl hc
set_option maxRecDepth 100000 in
set_option maxHeartbeats 4000000 in
theorem lw_union (g : Gl) {w0 W : Wd} {sz0 mc ms scr N Z sz nc ns j code : Nat} {c : Cell} {sf : Nat → Int32} {st : As} {E : Rs → Wd → Nat → Prop} (hsc : W scr = some (cX c)) (hSC : SC g c N sf) (hj : 6 * j + 6 ≤ N) (hN : N ≤ 3072) (hs0 : scr < Z) {fs : List Value} (hMo : W (Z + 127) = some (cO 11 fs)) (hst12 : st.1 ≤ 12) (r3 : nc + 2 ≤ mc) (r4 : ns + 10 ≤ ms) {x vM : Int32} (hw : CT g 9 2 10 mi_Law_union [.ref Z, .int (sf (6 * j + 1)), .int (sf (6 * j + 2)), .ref (Z + 146)] W sz (WE W Z sz code x.toInt64 st)) (hr : ∀ (w1 : Wd) (sz1 : Nat), (∀ q, Z + 127 ≤ q → q < Z + 146 → w1 q = W q) → CT g 5 0 0 mi_Mo_union [.ref (Z + 127), .int (sf (6 * j + 1)), .int (sf (6 * j + 2))] w1 sz1 (RE w1 (Z + 127) sz1 code (.int vM) st)) (hval : code = 0 → vM = x) (hc3 : code ≤ 3) (K : ∀ w2 sz2, sz ≤ sz2 → (∀ q, q < Z → w2 q = W q) → CRe w2 Z sz2 st → RRa w2 (Z + 127) st (nI code) → (∃ f, w2 (Z + 146) = some (cJ 1 f)) → VV g 10 mc ms mi_Law_law w0 sz0 E 1211 [(4, .int (nI (6 * j))), (3, .ref (Z + 146)), (2, .ref (Z + 127)), (1, .ref Z), (0, .ref scr)] [] w2 sz2 (nc + 2) (ns + 10)) : VV g 10 mc ms mi_Law_law w0 sz0 E 533 [(4, .int (nI (6 * j))), (3, .ref (Z + 146)), (2, .ref (Z + 127)), (1, .ref Z), (0, .ref scr)] [] W sz nc ns := by
  refine v_aload_n (pc := 533) d_Law_law_533 rfl rfl ?_
  refine v_aload_n (pc := 534) d_Law_law_534 rfl rfl ?_
  refine v_iload (pc := 535) d_Law_law_535 rfl ?_
  refine v_iconst (pc := 537) (v := nI 1) d_Law_law_537 rfl ?_
  refine v_iadd (pc := 538) d_Law_law_538 ?_
  refine v_re (nI_add (6 * j) 1) ?_
  refine v_sld (pc := 539) (k := (6 * j) + 1) d_Law_law_539 hsc hSC rfl (by omega) (by omega) ?_
  refine v_aload_n (pc := 540) d_Law_law_540 rfl rfl ?_
  refine v_iload (pc := 541) d_Law_law_541 rfl ?_
  refine v_iconst (pc := 543) (v := nI 2) d_Law_law_543 rfl ?_
  refine v_iadd (pc := 544) d_Law_law_544 ?_
  refine v_re (nI_add (6 * j) 2) ?_
  refine v_sld (pc := 545) (k := (6 * j) + 2) d_Law_law_545 hsc hSC rfl (by omega) (by omega) ?_
  refine v_aload_n (pc := 546) d_Law_law_546 rfl rfl ?_
  refine v_csWE (pc := 547) (A := [.ref Z, .int (sf (6 * j + 1)), .int (sf (6 * j + 2)), .ref (Z + 146)]) (rest := []) d_Law_law_547 lk_Law_100 me_Law_union st_Law_union rfl rfl hw (Nat.le_of_ble_eq_true rfl) r3 r4 (Nat.le_of_ble_eq_true rfl) (fun w1 sz1 hs1 hf1 hC1 ho1 => ?_)
  obtain ⟨fo, ho1, hov⟩ := ho1
  have hsc1 := (hf1 scr (by omega)).trans hsc
  have hMo1 := (hf1 (Z + 127) (by omega)).trans hMo
  refine v_istore (pc := 550) (L' := [(5, .int (nI code)), (4, .int (nI (6 * j))), (3, .ref (Z + 146)), (2, .ref (Z + 127)), (1, .ref Z), (0, .ref scr)]) d_Law_law_550 (by decide) rfl ?_
  refine v_aload_n (pc := 552) d_Law_law_552 rfl rfl ?_
  refine v_aload_n (pc := 553) d_Law_law_553 rfl rfl ?_
  refine v_iload (pc := 554) d_Law_law_554 rfl ?_
  refine v_iconst (pc := 556) (v := nI 1) d_Law_law_556 rfl ?_
  refine v_iadd (pc := 557) d_Law_law_557 ?_
  refine v_re (nI_add (6 * j) 1) ?_
  refine v_sld (pc := 558) (k := (6 * j) + 1) d_Law_law_558 hsc1 hSC rfl (by omega) (by omega) ?_
  refine v_aload_n (pc := 559) d_Law_law_559 rfl rfl ?_
  refine v_iload (pc := 560) d_Law_law_560 rfl ?_
  refine v_iconst (pc := 562) (v := nI 2) d_Law_law_562 rfl ?_
  refine v_iadd (pc := 563) d_Law_law_563 ?_
  refine v_re (nI_add (6 * j) 2) ?_
  refine v_sld (pc := 564) (k := (6 * j) + 2) d_Law_law_564 hsc1 hSC rfl (by omega) (by omega) ?_
  refine v_cvRE (pc := 565) (A := [.int (sf (6 * j + 1)), .int (sf (6 * j + 2))]) (rest := []) (x := .int vM) d_Law_law_565 lk_Law_103 me_Mo_union im_Mo_union se_Mo_union rfl hMo1 rfl rfl (hr w1 sz1 (fun q h h' => hf1 q (Or.inr ⟨h, h'⟩))) (Nat.le_of_ble_eq_true rfl) r3 r4 (Nat.le_of_ble_eq_true rfl) (fun w2 hf2 hR2 => ?_)
  have hRR2 := hR2
  obtain ⟨sc, ia, la, hM2, hth, hRA2⟩ := hR2
  have ho2 := (hf2 (Z + 146) (by omega)).trans ho1
  refine v_istore (pc := 568) (L' := [(6, .int vM), (5, .int (nI code)), (4, .int (nI (6 * j))), (3, .ref (Z + 146)), (2, .ref (Z + 127)), (1, .ref Z), (0, .ref scr)]) d_Law_law_568 (by decide) rfl ?_
  refine v_aload_n (pc := 570) d_Law_law_570 rfl rfl ?_
  refine v_cvR (pc := 571) (A := []) (rest := []) (x := .int (sc 0)) d_Law_law_571 lk_Law_79 me_Mo_thrown im_Mo_thrown se_Mo_thrown rfl hM2.o rfl rfl (c_Mo_thrown g hM2) (Nat.le_of_ble_eq_true rfl) r3 r4 (Nat.le_of_ble_eq_true rfl) ?_
  refine v_re hth ?_
  refine v_iload (pc := 574) d_Law_law_574 rfl ?_
  refine v_icmp_eq (pc := 576) (tgt := 581) d_Law_law_576 rfl (fun hc => ?_) (fun hc => ?_)
  · skip
    rw [nI_eq (by omega) (by omega)] at hc
    refine v_iload (pc := 581) d_Law_law_581 rfl ?_
    refine v_if_ne (pc := 583) (tgt := 598) d_Law_law_583 rfl (fun hc => ?_) (fun hc => ?_)
    · skip
      refine v_goto (pc := 598) (tgt := 1211) d_Law_law_598 rfl ?_
      refine v_sub (L' := [(4, .int (nI (6 * j))), (3, .ref (Z + 146)), (2, .ref (Z + 127)), (1, .ref Z), (0, .ref scr)]) (by simp) ?_
      exact K w2 sz1 hs1 (fun q hq => (hf2 q (by omega)).trans (hf1 q (Or.inl hq))) (hC1.off hst12 (fun q hq => hf2 q (by omega))) hRR2 ⟨fo, ho2⟩
    · skip
      have hc0 : code = 0 := by rw [show (0 : Int32) = nI 0 from rfl, nI_eq (by omega) (by decide)] at hc; exact hc
      refine v_aload_n (pc := 586) d_Law_law_586 rfl rfl ?_
      refine v_iconst (pc := 587) (v := nI 0) d_Law_law_587 rfl ?_
      have h0c : code = 0 := hc0
      have hlv : fo 0 = vM.toInt64 := (hov h0c).trans (by rw [hval h0c])
      refine v_laldN (pc := 588) (k := 0) (f := fo) d_Law_law_588 ho2 rfl (by omega) (by decide) ?_
      refine v_iload (pc := 589) d_Law_law_589 rfl ?_
      refine v_i2l (pc := 591) d_Law_law_591 ?_
      refine v_lcmp (pc := 592) d_Law_law_592 ?_
      refine v_if_eq (pc := 593) (tgt := 598) d_Law_law_593 rfl (fun hc => ?_) (fun hc => ?_)
      · skip
        refine v_goto (pc := 598) (tgt := 1211) d_Law_law_598 rfl ?_
        refine v_sub (L' := [(4, .int (nI (6 * j))), (3, .ref (Z + 146)), (2, .ref (Z + 127)), (1, .ref Z), (0, .ref scr)]) (by simp) ?_
        exact K w2 sz1 hs1 (fun q hq => (hf2 q (by omega)).trans (hf1 q (Or.inl hq))) (hC1.off hst12 (fun q hq => hf2 q (by omega))) hRR2 ⟨fo, ho2⟩
      · skip
        exact absurd (lg_cmp_0 hlv) hc
  · skip
    rw [nI_eq (by omega) (by omega)] at hc
    exact absurd rfl hc
set_option maxRecDepth 100000 in
set_option maxHeartbeats 4000000 in
theorem lw_group (g : Gl) {w0 W : Wd} {sz0 mc ms scr N Z sz nc ns j code : Nat} {c : Cell} {sf : Nat → Int32} {st : As} {E : Rs → Wd → Nat → Prop} (hsc : W scr = some (cX c)) (hSC : SC g c N sf) (hj : 6 * j + 6 ≤ N) (hN : N ≤ 3072) (hs0 : scr < Z) {fs : List Value} (hMo : W (Z + 127) = some (cO 11 fs)) (hst12 : st.1 ≤ 12) (r3 : nc + 2 ≤ mc) (r4 : ns + 10 ≤ ms) {x vM : Int32} (hw : CT g 9 2 10 mi_Law_group [.ref Z, .int (sf (6 * j + 1)), .int (sf (6 * j + 2)), .int (sf (6 * j + 3)), .int (sf (6 * j + 4)), .ref (Z + 146)] W sz (WE W Z sz code x.toInt64 st)) (hr : ∀ (w1 : Wd) (sz1 : Nat), (∀ q, Z + 127 ≤ q → q < Z + 146 → w1 q = W q) → CT g 5 0 0 mi_Mo_group [.ref (Z + 127), .int (sf (6 * j + 1)), .int (sf (6 * j + 2)), .int (sf (6 * j + 3)), .int (sf (6 * j + 4))] w1 sz1 (RE w1 (Z + 127) sz1 code (.int vM) st)) (hval : code = 0 → vM = x) (hc3 : code ≤ 3) (K : ∀ w2 sz2, sz ≤ sz2 → (∀ q, q < Z → w2 q = W q) → CRe w2 Z sz2 st → RRa w2 (Z + 127) st (nI code) → (∃ f, w2 (Z + 146) = some (cJ 1 f)) → VV g 10 mc ms mi_Law_law w0 sz0 E 1211 [(4, .int (nI (6 * j))), (3, .ref (Z + 146)), (2, .ref (Z + 127)), (1, .ref Z), (0, .ref scr)] [] w2 sz2 (nc + 2) (ns + 10)) : VV g 10 mc ms mi_Law_law w0 sz0 E 601 [(4, .int (nI (6 * j))), (3, .ref (Z + 146)), (2, .ref (Z + 127)), (1, .ref Z), (0, .ref scr)] [] W sz nc ns := by
  refine v_aload_n (pc := 601) d_Law_law_601 rfl rfl ?_
  refine v_aload_n (pc := 602) d_Law_law_602 rfl rfl ?_
  refine v_iload (pc := 603) d_Law_law_603 rfl ?_
  refine v_iconst (pc := 605) (v := nI 1) d_Law_law_605 rfl ?_
  refine v_iadd (pc := 606) d_Law_law_606 ?_
  refine v_re (nI_add (6 * j) 1) ?_
  refine v_sld (pc := 607) (k := (6 * j) + 1) d_Law_law_607 hsc hSC rfl (by omega) (by omega) ?_
  refine v_aload_n (pc := 608) d_Law_law_608 rfl rfl ?_
  refine v_iload (pc := 609) d_Law_law_609 rfl ?_
  refine v_iconst (pc := 611) (v := nI 2) d_Law_law_611 rfl ?_
  refine v_iadd (pc := 612) d_Law_law_612 ?_
  refine v_re (nI_add (6 * j) 2) ?_
  refine v_sld (pc := 613) (k := (6 * j) + 2) d_Law_law_613 hsc hSC rfl (by omega) (by omega) ?_
  refine v_aload_n (pc := 614) d_Law_law_614 rfl rfl ?_
  refine v_iload (pc := 615) d_Law_law_615 rfl ?_
  refine v_iconst (pc := 617) (v := nI 3) d_Law_law_617 rfl ?_
  refine v_iadd (pc := 618) d_Law_law_618 ?_
  refine v_re (nI_add (6 * j) 3) ?_
  refine v_sld (pc := 619) (k := (6 * j) + 3) d_Law_law_619 hsc hSC rfl (by omega) (by omega) ?_
  refine v_aload_n (pc := 620) d_Law_law_620 rfl rfl ?_
  refine v_iload (pc := 621) d_Law_law_621 rfl ?_
  refine v_iconst (pc := 623) (v := nI 4) d_Law_law_623 rfl ?_
  refine v_iadd (pc := 624) d_Law_law_624 ?_
  refine v_re (nI_add (6 * j) 4) ?_
  refine v_sld (pc := 625) (k := (6 * j) + 4) d_Law_law_625 hsc hSC rfl (by omega) (by omega) ?_
  refine v_aload_n (pc := 626) d_Law_law_626 rfl rfl ?_
  refine v_csWE (pc := 627) (A := [.ref Z, .int (sf (6 * j + 1)), .int (sf (6 * j + 2)), .int (sf (6 * j + 3)), .int (sf (6 * j + 4)), .ref (Z + 146)]) (rest := []) d_Law_law_627 lk_Law_104 me_Law_group st_Law_group rfl rfl hw (Nat.le_of_ble_eq_true rfl) r3 r4 (Nat.le_of_ble_eq_true rfl) (fun w1 sz1 hs1 hf1 hC1 ho1 => ?_)
  obtain ⟨fo, ho1, hov⟩ := ho1
  have hsc1 := (hf1 scr (by omega)).trans hsc
  have hMo1 := (hf1 (Z + 127) (by omega)).trans hMo
  refine v_istore (pc := 630) (L' := [(5, .int (nI code)), (4, .int (nI (6 * j))), (3, .ref (Z + 146)), (2, .ref (Z + 127)), (1, .ref Z), (0, .ref scr)]) d_Law_law_630 (by decide) rfl ?_
  refine v_aload_n (pc := 632) d_Law_law_632 rfl rfl ?_
  refine v_aload_n (pc := 633) d_Law_law_633 rfl rfl ?_
  refine v_iload (pc := 634) d_Law_law_634 rfl ?_
  refine v_iconst (pc := 636) (v := nI 1) d_Law_law_636 rfl ?_
  refine v_iadd (pc := 637) d_Law_law_637 ?_
  refine v_re (nI_add (6 * j) 1) ?_
  refine v_sld (pc := 638) (k := (6 * j) + 1) d_Law_law_638 hsc1 hSC rfl (by omega) (by omega) ?_
  refine v_aload_n (pc := 639) d_Law_law_639 rfl rfl ?_
  refine v_iload (pc := 640) d_Law_law_640 rfl ?_
  refine v_iconst (pc := 642) (v := nI 2) d_Law_law_642 rfl ?_
  refine v_iadd (pc := 643) d_Law_law_643 ?_
  refine v_re (nI_add (6 * j) 2) ?_
  refine v_sld (pc := 644) (k := (6 * j) + 2) d_Law_law_644 hsc1 hSC rfl (by omega) (by omega) ?_
  refine v_aload_n (pc := 645) d_Law_law_645 rfl rfl ?_
  refine v_iload (pc := 646) d_Law_law_646 rfl ?_
  refine v_iconst (pc := 648) (v := nI 3) d_Law_law_648 rfl ?_
  refine v_iadd (pc := 649) d_Law_law_649 ?_
  refine v_re (nI_add (6 * j) 3) ?_
  refine v_sld (pc := 650) (k := (6 * j) + 3) d_Law_law_650 hsc1 hSC rfl (by omega) (by omega) ?_
  refine v_aload_n (pc := 651) d_Law_law_651 rfl rfl ?_
  refine v_iload (pc := 652) d_Law_law_652 rfl ?_
  refine v_iconst (pc := 654) (v := nI 4) d_Law_law_654 rfl ?_
  refine v_iadd (pc := 655) d_Law_law_655 ?_
  refine v_re (nI_add (6 * j) 4) ?_
  refine v_sld (pc := 656) (k := (6 * j) + 4) d_Law_law_656 hsc1 hSC rfl (by omega) (by omega) ?_
  refine v_cvRE (pc := 657) (A := [.int (sf (6 * j + 1)), .int (sf (6 * j + 2)), .int (sf (6 * j + 3)), .int (sf (6 * j + 4))]) (rest := []) (x := .int vM) d_Law_law_657 lk_Law_106 me_Mo_group im_Mo_group se_Mo_group rfl hMo1 rfl rfl (hr w1 sz1 (fun q h h' => hf1 q (Or.inr ⟨h, h'⟩))) (Nat.le_of_ble_eq_true rfl) r3 r4 (Nat.le_of_ble_eq_true rfl) (fun w2 hf2 hR2 => ?_)
  have hRR2 := hR2
  obtain ⟨sc, ia, la, hM2, hth, hRA2⟩ := hR2
  have ho2 := (hf2 (Z + 146) (by omega)).trans ho1
  refine v_istore (pc := 660) (L' := [(6, .int vM), (5, .int (nI code)), (4, .int (nI (6 * j))), (3, .ref (Z + 146)), (2, .ref (Z + 127)), (1, .ref Z), (0, .ref scr)]) d_Law_law_660 (by decide) rfl ?_
  refine v_aload_n (pc := 662) d_Law_law_662 rfl rfl ?_
  refine v_cvR (pc := 663) (A := []) (rest := []) (x := .int (sc 0)) d_Law_law_663 lk_Law_79 me_Mo_thrown im_Mo_thrown se_Mo_thrown rfl hM2.o rfl rfl (c_Mo_thrown g hM2) (Nat.le_of_ble_eq_true rfl) r3 r4 (Nat.le_of_ble_eq_true rfl) ?_
  refine v_re hth ?_
  refine v_iload (pc := 666) d_Law_law_666 rfl ?_
  refine v_icmp_eq (pc := 668) (tgt := 673) d_Law_law_668 rfl (fun hc => ?_) (fun hc => ?_)
  · skip
    rw [nI_eq (by omega) (by omega)] at hc
    refine v_iload (pc := 673) d_Law_law_673 rfl ?_
    refine v_if_ne (pc := 675) (tgt := 690) d_Law_law_675 rfl (fun hc => ?_) (fun hc => ?_)
    · skip
      refine v_goto (pc := 690) (tgt := 1211) d_Law_law_690 rfl ?_
      refine v_sub (L' := [(4, .int (nI (6 * j))), (3, .ref (Z + 146)), (2, .ref (Z + 127)), (1, .ref Z), (0, .ref scr)]) (by simp) ?_
      exact K w2 sz1 hs1 (fun q hq => (hf2 q (by omega)).trans (hf1 q (Or.inl hq))) (hC1.off hst12 (fun q hq => hf2 q (by omega))) hRR2 ⟨fo, ho2⟩
    · skip
      have hc0 : code = 0 := by rw [show (0 : Int32) = nI 0 from rfl, nI_eq (by omega) (by decide)] at hc; exact hc
      refine v_aload_n (pc := 678) d_Law_law_678 rfl rfl ?_
      refine v_iconst (pc := 679) (v := nI 0) d_Law_law_679 rfl ?_
      have h0c : code = 0 := hc0
      have hlv : fo 0 = vM.toInt64 := (hov h0c).trans (by rw [hval h0c])
      refine v_laldN (pc := 680) (k := 0) (f := fo) d_Law_law_680 ho2 rfl (by omega) (by decide) ?_
      refine v_iload (pc := 681) d_Law_law_681 rfl ?_
      refine v_i2l (pc := 683) d_Law_law_683 ?_
      refine v_lcmp (pc := 684) d_Law_law_684 ?_
      refine v_if_eq (pc := 685) (tgt := 690) d_Law_law_685 rfl (fun hc => ?_) (fun hc => ?_)
      · skip
        refine v_goto (pc := 690) (tgt := 1211) d_Law_law_690 rfl ?_
        refine v_sub (L' := [(4, .int (nI (6 * j))), (3, .ref (Z + 146)), (2, .ref (Z + 127)), (1, .ref Z), (0, .ref scr)]) (by simp) ?_
        exact K w2 sz1 hs1 (fun q hq => (hf2 q (by omega)).trans (hf1 q (Or.inl hq))) (hC1.off hst12 (fun q hq => hf2 q (by omega))) hRR2 ⟨fo, ho2⟩
      · skip
        exact absurd (lg_cmp_0 hlv) hc
  · skip
    rw [nI_eq (by omega) (by omega)] at hc
    exact absurd rfl hc
set_option maxRecDepth 100000 in
set_option maxHeartbeats 4000000 in
theorem lw_distinct (g : Gl) {w0 W : Wd} {sz0 mc ms scr N Z sz nc ns j code : Nat} {c : Cell} {sf : Nat → Int32} {st : As} {E : Rs → Wd → Nat → Prop} (hsc : W scr = some (cX c)) (hSC : SC g c N sf) (hj : 6 * j + 6 ≤ N) (hN : N ≤ 3072) (hs0 : scr < Z) {fs : List Value} (hMo : W (Z + 127) = some (cO 11 fs)) (hst12 : st.1 ≤ 12) (r3 : nc + 2 ≤ mc) (r4 : ns + 10 ≤ ms) {x vM : Int32} (hw : CT g 9 2 10 mi_Law_distinct [.ref Z, .int (sf (6 * j + 1)), .ref (Z + 146)] W sz (WE W Z sz code x.toInt64 st)) (hr : ∀ (w1 : Wd) (sz1 : Nat), (∀ q, Z + 127 ≤ q → q < Z + 146 → w1 q = W q) → CT g 5 0 0 mi_Mo_distinct [.ref (Z + 127), .int (sf (6 * j + 1))] w1 sz1 (RE w1 (Z + 127) sz1 code (.int vM) st)) (hval : code = 0 → vM = x) (hc3 : code ≤ 3) (K : ∀ w2 sz2, sz ≤ sz2 → (∀ q, q < Z → w2 q = W q) → CRe w2 Z sz2 st → RRa w2 (Z + 127) st (nI code) → (∃ f, w2 (Z + 146) = some (cJ 1 f)) → VV g 10 mc ms mi_Law_law w0 sz0 E 1211 [(4, .int (nI (6 * j))), (3, .ref (Z + 146)), (2, .ref (Z + 127)), (1, .ref Z), (0, .ref scr)] [] w2 sz2 (nc + 2) (ns + 10)) : VV g 10 mc ms mi_Law_law w0 sz0 E 693 [(4, .int (nI (6 * j))), (3, .ref (Z + 146)), (2, .ref (Z + 127)), (1, .ref Z), (0, .ref scr)] [] W sz nc ns := by
  refine v_aload_n (pc := 693) d_Law_law_693 rfl rfl ?_
  refine v_aload_n (pc := 694) d_Law_law_694 rfl rfl ?_
  refine v_iload (pc := 695) d_Law_law_695 rfl ?_
  refine v_iconst (pc := 697) (v := nI 1) d_Law_law_697 rfl ?_
  refine v_iadd (pc := 698) d_Law_law_698 ?_
  refine v_re (nI_add (6 * j) 1) ?_
  refine v_sld (pc := 699) (k := (6 * j) + 1) d_Law_law_699 hsc hSC rfl (by omega) (by omega) ?_
  refine v_aload_n (pc := 700) d_Law_law_700 rfl rfl ?_
  refine v_csWE (pc := 701) (A := [.ref Z, .int (sf (6 * j + 1)), .ref (Z + 146)]) (rest := []) d_Law_law_701 lk_Law_107 me_Law_distinct st_Law_distinct rfl rfl hw (Nat.le_of_ble_eq_true rfl) r3 r4 (Nat.le_of_ble_eq_true rfl) (fun w1 sz1 hs1 hf1 hC1 ho1 => ?_)
  obtain ⟨fo, ho1, hov⟩ := ho1
  have hsc1 := (hf1 scr (by omega)).trans hsc
  have hMo1 := (hf1 (Z + 127) (by omega)).trans hMo
  refine v_istore (pc := 704) (L' := [(5, .int (nI code)), (4, .int (nI (6 * j))), (3, .ref (Z + 146)), (2, .ref (Z + 127)), (1, .ref Z), (0, .ref scr)]) d_Law_law_704 (by decide) rfl ?_
  refine v_aload_n (pc := 706) d_Law_law_706 rfl rfl ?_
  refine v_aload_n (pc := 707) d_Law_law_707 rfl rfl ?_
  refine v_iload (pc := 708) d_Law_law_708 rfl ?_
  refine v_iconst (pc := 710) (v := nI 1) d_Law_law_710 rfl ?_
  refine v_iadd (pc := 711) d_Law_law_711 ?_
  refine v_re (nI_add (6 * j) 1) ?_
  refine v_sld (pc := 712) (k := (6 * j) + 1) d_Law_law_712 hsc1 hSC rfl (by omega) (by omega) ?_
  refine v_cvRE (pc := 713) (A := [.int (sf (6 * j + 1))]) (rest := []) (x := .int vM) d_Law_law_713 lk_Law_110 me_Mo_distinct im_Mo_distinct se_Mo_distinct rfl hMo1 rfl rfl (hr w1 sz1 (fun q h h' => hf1 q (Or.inr ⟨h, h'⟩))) (Nat.le_of_ble_eq_true rfl) r3 r4 (Nat.le_of_ble_eq_true rfl) (fun w2 hf2 hR2 => ?_)
  have hRR2 := hR2
  obtain ⟨sc, ia, la, hM2, hth, hRA2⟩ := hR2
  have ho2 := (hf2 (Z + 146) (by omega)).trans ho1
  refine v_istore (pc := 716) (L' := [(6, .int vM), (5, .int (nI code)), (4, .int (nI (6 * j))), (3, .ref (Z + 146)), (2, .ref (Z + 127)), (1, .ref Z), (0, .ref scr)]) d_Law_law_716 (by decide) rfl ?_
  refine v_aload_n (pc := 718) d_Law_law_718 rfl rfl ?_
  refine v_cvR (pc := 719) (A := []) (rest := []) (x := .int (sc 0)) d_Law_law_719 lk_Law_79 me_Mo_thrown im_Mo_thrown se_Mo_thrown rfl hM2.o rfl rfl (c_Mo_thrown g hM2) (Nat.le_of_ble_eq_true rfl) r3 r4 (Nat.le_of_ble_eq_true rfl) ?_
  refine v_re hth ?_
  refine v_iload (pc := 722) d_Law_law_722 rfl ?_
  refine v_icmp_eq (pc := 724) (tgt := 729) d_Law_law_724 rfl (fun hc => ?_) (fun hc => ?_)
  · skip
    rw [nI_eq (by omega) (by omega)] at hc
    refine v_iload (pc := 729) d_Law_law_729 rfl ?_
    refine v_if_ne (pc := 731) (tgt := 746) d_Law_law_731 rfl (fun hc => ?_) (fun hc => ?_)
    · skip
      refine v_goto (pc := 746) (tgt := 1211) d_Law_law_746 rfl ?_
      refine v_sub (L' := [(4, .int (nI (6 * j))), (3, .ref (Z + 146)), (2, .ref (Z + 127)), (1, .ref Z), (0, .ref scr)]) (by simp) ?_
      exact K w2 sz1 hs1 (fun q hq => (hf2 q (by omega)).trans (hf1 q (Or.inl hq))) (hC1.off hst12 (fun q hq => hf2 q (by omega))) hRR2 ⟨fo, ho2⟩
    · skip
      have hc0 : code = 0 := by rw [show (0 : Int32) = nI 0 from rfl, nI_eq (by omega) (by decide)] at hc; exact hc
      refine v_aload_n (pc := 734) d_Law_law_734 rfl rfl ?_
      refine v_iconst (pc := 735) (v := nI 0) d_Law_law_735 rfl ?_
      have h0c : code = 0 := hc0
      have hlv : fo 0 = vM.toInt64 := (hov h0c).trans (by rw [hval h0c])
      refine v_laldN (pc := 736) (k := 0) (f := fo) d_Law_law_736 ho2 rfl (by omega) (by decide) ?_
      refine v_iload (pc := 737) d_Law_law_737 rfl ?_
      refine v_i2l (pc := 739) d_Law_law_739 ?_
      refine v_lcmp (pc := 740) d_Law_law_740 ?_
      refine v_if_eq (pc := 741) (tgt := 746) d_Law_law_741 rfl (fun hc => ?_) (fun hc => ?_)
      · skip
        refine v_goto (pc := 746) (tgt := 1211) d_Law_law_746 rfl ?_
        refine v_sub (L' := [(4, .int (nI (6 * j))), (3, .ref (Z + 146)), (2, .ref (Z + 127)), (1, .ref Z), (0, .ref scr)]) (by simp) ?_
        exact K w2 sz1 hs1 (fun q hq => (hf2 q (by omega)).trans (hf1 q (Or.inl hq))) (hC1.off hst12 (fun q hq => hf2 q (by omega))) hRR2 ⟨fo, ho2⟩
      · skip
        exact absurd (lg_cmp_0 hlv) hc
  · skip
    rw [nI_eq (by omega) (by omega)] at hc
    exact absurd rfl hc
set_option maxRecDepth 100000 in
set_option maxHeartbeats 4000000 in
theorem lw_drop (g : Gl) {w0 W : Wd} {sz0 mc ms scr N Z sz nc ns j code : Nat} {c : Cell} {sf : Nat → Int32} {st : As} {E : Rs → Wd → Nat → Prop} (hsc : W scr = some (cX c)) (hSC : SC g c N sf) (hj : 6 * j + 6 ≤ N) (hN : N ≤ 3072) (hs0 : scr < Z) {fs : List Value} (hMo : W (Z + 127) = some (cO 11 fs)) (hst12 : st.1 ≤ 12) (r3 : nc + 2 ≤ mc) (r4 : ns + 10 ≤ ms) {x vM : Int32} (hw : CT g 9 2 10 mi_Law_drop [.ref Z, .ref (Z + 146)] W sz (WE W Z sz code x.toInt64 st)) (hr : ∀ (w1 : Wd) (sz1 : Nat), (∀ q, Z + 127 ≤ q → q < Z + 146 → w1 q = W q) → CT g 0 0 0 mi_Mo_drop [.ref (Z + 127)] w1 sz1 (RE w1 (Z + 127) sz1 code (.int vM) st)) (hval : code = 0 → vM = x) (hc3 : code ≤ 3) (K : ∀ w2 sz2, sz ≤ sz2 → (∀ q, q < Z → w2 q = W q) → CRe w2 Z sz2 st → RRa w2 (Z + 127) st (nI code) → (∃ f, w2 (Z + 146) = some (cJ 1 f)) → VV g 10 mc ms mi_Law_law w0 sz0 E 1211 [(4, .int (nI (6 * j))), (3, .ref (Z + 146)), (2, .ref (Z + 127)), (1, .ref Z), (0, .ref scr)] [] w2 sz2 (nc + 2) (ns + 10)) : VV g 10 mc ms mi_Law_law w0 sz0 E 749 [(4, .int (nI (6 * j))), (3, .ref (Z + 146)), (2, .ref (Z + 127)), (1, .ref Z), (0, .ref scr)] [] W sz nc ns := by
  refine v_aload_n (pc := 749) d_Law_law_749 rfl rfl ?_
  refine v_aload_n (pc := 750) d_Law_law_750 rfl rfl ?_
  refine v_csWE (pc := 751) (A := [.ref Z, .ref (Z + 146)]) (rest := []) d_Law_law_751 lk_Law_111 me_Law_drop st_Law_drop rfl rfl hw (Nat.le_of_ble_eq_true rfl) r3 r4 (Nat.le_of_ble_eq_true rfl) (fun w1 sz1 hs1 hf1 hC1 ho1 => ?_)
  obtain ⟨fo, ho1, hov⟩ := ho1
  have hsc1 := (hf1 scr (by omega)).trans hsc
  have hMo1 := (hf1 (Z + 127) (by omega)).trans hMo
  refine v_istore (pc := 754) (L' := [(5, .int (nI code)), (4, .int (nI (6 * j))), (3, .ref (Z + 146)), (2, .ref (Z + 127)), (1, .ref Z), (0, .ref scr)]) d_Law_law_754 (by decide) rfl ?_
  refine v_aload_n (pc := 756) d_Law_law_756 rfl rfl ?_
  refine v_cvRE (pc := 757) (A := []) (rest := []) (x := .int vM) d_Law_law_757 lk_Law_113 me_Mo_drop im_Mo_drop se_Mo_drop rfl hMo1 rfl rfl (hr w1 sz1 (fun q h h' => hf1 q (Or.inr ⟨h, h'⟩))) (Nat.le_of_ble_eq_true rfl) r3 r4 (Nat.le_of_ble_eq_true rfl) (fun w2 hf2 hR2 => ?_)
  have hRR2 := hR2
  obtain ⟨sc, ia, la, hM2, hth, hRA2⟩ := hR2
  have ho2 := (hf2 (Z + 146) (by omega)).trans ho1
  refine v_istore (pc := 760) (L' := [(6, .int vM), (5, .int (nI code)), (4, .int (nI (6 * j))), (3, .ref (Z + 146)), (2, .ref (Z + 127)), (1, .ref Z), (0, .ref scr)]) d_Law_law_760 (by decide) rfl ?_
  refine v_aload_n (pc := 762) d_Law_law_762 rfl rfl ?_
  refine v_cvR (pc := 763) (A := []) (rest := []) (x := .int (sc 0)) d_Law_law_763 lk_Law_79 me_Mo_thrown im_Mo_thrown se_Mo_thrown rfl hM2.o rfl rfl (c_Mo_thrown g hM2) (Nat.le_of_ble_eq_true rfl) r3 r4 (Nat.le_of_ble_eq_true rfl) ?_
  refine v_re hth ?_
  refine v_iload (pc := 766) d_Law_law_766 rfl ?_
  refine v_icmp_eq (pc := 768) (tgt := 773) d_Law_law_768 rfl (fun hc => ?_) (fun hc => ?_)
  · skip
    rw [nI_eq (by omega) (by omega)] at hc
    refine v_iload (pc := 773) d_Law_law_773 rfl ?_
    refine v_if_ne (pc := 775) (tgt := 790) d_Law_law_775 rfl (fun hc => ?_) (fun hc => ?_)
    · skip
      refine v_goto (pc := 790) (tgt := 1211) d_Law_law_790 rfl ?_
      refine v_sub (L' := [(4, .int (nI (6 * j))), (3, .ref (Z + 146)), (2, .ref (Z + 127)), (1, .ref Z), (0, .ref scr)]) (by simp) ?_
      exact K w2 sz1 hs1 (fun q hq => (hf2 q (by omega)).trans (hf1 q (Or.inl hq))) (hC1.off hst12 (fun q hq => hf2 q (by omega))) hRR2 ⟨fo, ho2⟩
    · skip
      have hc0 : code = 0 := by rw [show (0 : Int32) = nI 0 from rfl, nI_eq (by omega) (by decide)] at hc; exact hc
      refine v_aload_n (pc := 778) d_Law_law_778 rfl rfl ?_
      refine v_iconst (pc := 779) (v := nI 0) d_Law_law_779 rfl ?_
      have h0c : code = 0 := hc0
      have hlv : fo 0 = vM.toInt64 := (hov h0c).trans (by rw [hval h0c])
      refine v_laldN (pc := 780) (k := 0) (f := fo) d_Law_law_780 ho2 rfl (by omega) (by decide) ?_
      refine v_iload (pc := 781) d_Law_law_781 rfl ?_
      refine v_i2l (pc := 783) d_Law_law_783 ?_
      refine v_lcmp (pc := 784) d_Law_law_784 ?_
      refine v_if_eq (pc := 785) (tgt := 790) d_Law_law_785 rfl (fun hc => ?_) (fun hc => ?_)
      · skip
        refine v_goto (pc := 790) (tgt := 1211) d_Law_law_790 rfl ?_
        refine v_sub (L' := [(4, .int (nI (6 * j))), (3, .ref (Z + 146)), (2, .ref (Z + 127)), (1, .ref Z), (0, .ref scr)]) (by simp) ?_
        exact K w2 sz1 hs1 (fun q hq => (hf2 q (by omega)).trans (hf1 q (Or.inl hq))) (hC1.off hst12 (fun q hq => hf2 q (by omega))) hRR2 ⟨fo, ho2⟩
      · skip
        exact absurd (lg_cmp_0 hlv) hc
  · skip
    rw [nI_eq (by omega) (by omega)] at hc
    exact absurd rfl hc
set_option maxRecDepth 100000 in
set_option maxHeartbeats 4000000 in
theorem lw_width (g : Gl) {w0 W : Wd} {sz0 mc ms scr N Z sz nc ns j code : Nat} {c : Cell} {sf : Nat → Int32} {st : As} {E : Rs → Wd → Nat → Prop} (hsc : W scr = some (cX c)) (hSC : SC g c N sf) (hj : 6 * j + 6 ≤ N) (hN : N ≤ 3072) (hs0 : scr < Z) {fs : List Value} (hMo : W (Z + 127) = some (cO 11 fs)) (hst12 : st.1 ≤ 12) (r3 : nc + 2 ≤ mc) (r4 : ns + 10 ≤ ms) {x vM : Int32} (hw : CT g 9 2 10 mi_Law_width [.ref Z, .int (sf (6 * j + 1)), .ref (Z + 146)] W sz (WE W Z sz code x.toInt64 st)) (hr : ∀ (w1 : Wd) (sz1 : Nat), (∀ q, Z + 127 ≤ q → q < Z + 146 → w1 q = W q) → CT g 1 0 0 mi_Mo_width [.ref (Z + 127), .int (sf (6 * j + 1))] w1 sz1 (RE w1 (Z + 127) sz1 code (.int vM) st)) (hval : code = 0 → vM = x) (hc3 : code ≤ 3) (K : ∀ w2 sz2, sz ≤ sz2 → (∀ q, q < Z → w2 q = W q) → CRe w2 Z sz2 st → RRa w2 (Z + 127) st (nI code) → (∃ f, w2 (Z + 146) = some (cJ 1 f)) → VV g 10 mc ms mi_Law_law w0 sz0 E 1211 [(4, .int (nI (6 * j))), (3, .ref (Z + 146)), (2, .ref (Z + 127)), (1, .ref Z), (0, .ref scr)] [] w2 sz2 (nc + 2) (ns + 10)) : VV g 10 mc ms mi_Law_law w0 sz0 E 793 [(4, .int (nI (6 * j))), (3, .ref (Z + 146)), (2, .ref (Z + 127)), (1, .ref Z), (0, .ref scr)] [] W sz nc ns := by
  refine v_aload_n (pc := 793) d_Law_law_793 rfl rfl ?_
  refine v_aload_n (pc := 794) d_Law_law_794 rfl rfl ?_
  refine v_iload (pc := 795) d_Law_law_795 rfl ?_
  refine v_iconst (pc := 797) (v := nI 1) d_Law_law_797 rfl ?_
  refine v_iadd (pc := 798) d_Law_law_798 ?_
  refine v_re (nI_add (6 * j) 1) ?_
  refine v_sld (pc := 799) (k := (6 * j) + 1) d_Law_law_799 hsc hSC rfl (by omega) (by omega) ?_
  refine v_aload_n (pc := 800) d_Law_law_800 rfl rfl ?_
  refine v_csWE (pc := 801) (A := [.ref Z, .int (sf (6 * j + 1)), .ref (Z + 146)]) (rest := []) d_Law_law_801 lk_Law_114 me_Law_width st_Law_width rfl rfl hw (Nat.le_of_ble_eq_true rfl) r3 r4 (Nat.le_of_ble_eq_true rfl) (fun w1 sz1 hs1 hf1 hC1 ho1 => ?_)
  obtain ⟨fo, ho1, hov⟩ := ho1
  have hsc1 := (hf1 scr (by omega)).trans hsc
  have hMo1 := (hf1 (Z + 127) (by omega)).trans hMo
  refine v_istore (pc := 804) (L' := [(5, .int (nI code)), (4, .int (nI (6 * j))), (3, .ref (Z + 146)), (2, .ref (Z + 127)), (1, .ref Z), (0, .ref scr)]) d_Law_law_804 (by decide) rfl ?_
  refine v_aload_n (pc := 806) d_Law_law_806 rfl rfl ?_
  refine v_aload_n (pc := 807) d_Law_law_807 rfl rfl ?_
  refine v_iload (pc := 808) d_Law_law_808 rfl ?_
  refine v_iconst (pc := 810) (v := nI 1) d_Law_law_810 rfl ?_
  refine v_iadd (pc := 811) d_Law_law_811 ?_
  refine v_re (nI_add (6 * j) 1) ?_
  refine v_sld (pc := 812) (k := (6 * j) + 1) d_Law_law_812 hsc1 hSC rfl (by omega) (by omega) ?_
  refine v_cvRE (pc := 813) (A := [.int (sf (6 * j + 1))]) (rest := []) (x := .int vM) d_Law_law_813 lk_Law_116 me_Mo_width im_Mo_width se_Mo_width rfl hMo1 rfl rfl (hr w1 sz1 (fun q h h' => hf1 q (Or.inr ⟨h, h'⟩))) (Nat.le_of_ble_eq_true rfl) r3 r4 (Nat.le_of_ble_eq_true rfl) (fun w2 hf2 hR2 => ?_)
  have hRR2 := hR2
  obtain ⟨sc, ia, la, hM2, hth, hRA2⟩ := hR2
  have ho2 := (hf2 (Z + 146) (by omega)).trans ho1
  refine v_istore (pc := 816) (L' := [(6, .int vM), (5, .int (nI code)), (4, .int (nI (6 * j))), (3, .ref (Z + 146)), (2, .ref (Z + 127)), (1, .ref Z), (0, .ref scr)]) d_Law_law_816 (by decide) rfl ?_
  refine v_aload_n (pc := 818) d_Law_law_818 rfl rfl ?_
  refine v_cvR (pc := 819) (A := []) (rest := []) (x := .int (sc 0)) d_Law_law_819 lk_Law_79 me_Mo_thrown im_Mo_thrown se_Mo_thrown rfl hM2.o rfl rfl (c_Mo_thrown g hM2) (Nat.le_of_ble_eq_true rfl) r3 r4 (Nat.le_of_ble_eq_true rfl) ?_
  refine v_re hth ?_
  refine v_iload (pc := 822) d_Law_law_822 rfl ?_
  refine v_icmp_eq (pc := 824) (tgt := 829) d_Law_law_824 rfl (fun hc => ?_) (fun hc => ?_)
  · skip
    rw [nI_eq (by omega) (by omega)] at hc
    refine v_iload (pc := 829) d_Law_law_829 rfl ?_
    refine v_if_ne (pc := 831) (tgt := 846) d_Law_law_831 rfl (fun hc => ?_) (fun hc => ?_)
    · skip
      refine v_goto (pc := 846) (tgt := 1211) d_Law_law_846 rfl ?_
      refine v_sub (L' := [(4, .int (nI (6 * j))), (3, .ref (Z + 146)), (2, .ref (Z + 127)), (1, .ref Z), (0, .ref scr)]) (by simp) ?_
      exact K w2 sz1 hs1 (fun q hq => (hf2 q (by omega)).trans (hf1 q (Or.inl hq))) (hC1.off hst12 (fun q hq => hf2 q (by omega))) hRR2 ⟨fo, ho2⟩
    · skip
      have hc0 : code = 0 := by rw [show (0 : Int32) = nI 0 from rfl, nI_eq (by omega) (by decide)] at hc; exact hc
      refine v_aload_n (pc := 834) d_Law_law_834 rfl rfl ?_
      refine v_iconst (pc := 835) (v := nI 0) d_Law_law_835 rfl ?_
      have h0c : code = 0 := hc0
      have hlv : fo 0 = vM.toInt64 := (hov h0c).trans (by rw [hval h0c])
      refine v_laldN (pc := 836) (k := 0) (f := fo) d_Law_law_836 ho2 rfl (by omega) (by decide) ?_
      refine v_iload (pc := 837) d_Law_law_837 rfl ?_
      refine v_i2l (pc := 839) d_Law_law_839 ?_
      refine v_lcmp (pc := 840) d_Law_law_840 ?_
      refine v_if_eq (pc := 841) (tgt := 846) d_Law_law_841 rfl (fun hc => ?_) (fun hc => ?_)
      · skip
        refine v_goto (pc := 846) (tgt := 1211) d_Law_law_846 rfl ?_
        refine v_sub (L' := [(4, .int (nI (6 * j))), (3, .ref (Z + 146)), (2, .ref (Z + 127)), (1, .ref Z), (0, .ref scr)]) (by simp) ?_
        exact K w2 sz1 hs1 (fun q hq => (hf2 q (by omega)).trans (hf1 q (Or.inl hq))) (hC1.off hst12 (fun q hq => hf2 q (by omega))) hRR2 ⟨fo, ho2⟩
      · skip
        exact absurd (lg_cmp_0 hlv) hc
  · skip
    rw [nI_eq (by omega) (by omega)] at hc
    exact absurd rfl hc
set_option maxRecDepth 100000 in
set_option maxHeartbeats 4000000 in
theorem lw_rows (g : Gl) {w0 W : Wd} {sz0 mc ms scr N Z sz nc ns j code : Nat} {c : Cell} {sf : Nat → Int32} {st : As} {E : Rs → Wd → Nat → Prop} (hsc : W scr = some (cX c)) (hSC : SC g c N sf) (hj : 6 * j + 6 ≤ N) (hN : N ≤ 3072) (hs0 : scr < Z) {fs : List Value} (hMo : W (Z + 127) = some (cO 11 fs)) (hst12 : st.1 ≤ 12) (r3 : nc + 2 ≤ mc) (r4 : ns + 10 ≤ ms) {x vM : Int32} (hw : CT g 9 2 10 mi_Law_rows [.ref Z, .int (sf (6 * j + 1)), .ref (Z + 146)] W sz (WE W Z sz code x.toInt64 st)) (hr : ∀ (w1 : Wd) (sz1 : Nat), (∀ q, Z + 127 ≤ q → q < Z + 146 → w1 q = W q) → CT g 1 0 0 mi_Mo_rows [.ref (Z + 127), .int (sf (6 * j + 1))] w1 sz1 (RE w1 (Z + 127) sz1 code (.int vM) st)) (hval : code = 0 → vM = x) (hc3 : code ≤ 3) (K : ∀ w2 sz2, sz ≤ sz2 → (∀ q, q < Z → w2 q = W q) → CRe w2 Z sz2 st → RRa w2 (Z + 127) st (nI code) → (∃ f, w2 (Z + 146) = some (cJ 1 f)) → VV g 10 mc ms mi_Law_law w0 sz0 E 1211 [(4, .int (nI (6 * j))), (3, .ref (Z + 146)), (2, .ref (Z + 127)), (1, .ref Z), (0, .ref scr)] [] w2 sz2 (nc + 2) (ns + 10)) : VV g 10 mc ms mi_Law_law w0 sz0 E 849 [(4, .int (nI (6 * j))), (3, .ref (Z + 146)), (2, .ref (Z + 127)), (1, .ref Z), (0, .ref scr)] [] W sz nc ns := by
  refine v_aload_n (pc := 849) d_Law_law_849 rfl rfl ?_
  refine v_aload_n (pc := 850) d_Law_law_850 rfl rfl ?_
  refine v_iload (pc := 851) d_Law_law_851 rfl ?_
  refine v_iconst (pc := 853) (v := nI 1) d_Law_law_853 rfl ?_
  refine v_iadd (pc := 854) d_Law_law_854 ?_
  refine v_re (nI_add (6 * j) 1) ?_
  refine v_sld (pc := 855) (k := (6 * j) + 1) d_Law_law_855 hsc hSC rfl (by omega) (by omega) ?_
  refine v_aload_n (pc := 856) d_Law_law_856 rfl rfl ?_
  refine v_csWE (pc := 857) (A := [.ref Z, .int (sf (6 * j + 1)), .ref (Z + 146)]) (rest := []) d_Law_law_857 lk_Law_117 me_Law_rows st_Law_rows rfl rfl hw (Nat.le_of_ble_eq_true rfl) r3 r4 (Nat.le_of_ble_eq_true rfl) (fun w1 sz1 hs1 hf1 hC1 ho1 => ?_)
  obtain ⟨fo, ho1, hov⟩ := ho1
  have hsc1 := (hf1 scr (by omega)).trans hsc
  have hMo1 := (hf1 (Z + 127) (by omega)).trans hMo
  refine v_istore (pc := 860) (L' := [(5, .int (nI code)), (4, .int (nI (6 * j))), (3, .ref (Z + 146)), (2, .ref (Z + 127)), (1, .ref Z), (0, .ref scr)]) d_Law_law_860 (by decide) rfl ?_
  refine v_aload_n (pc := 862) d_Law_law_862 rfl rfl ?_
  refine v_aload_n (pc := 863) d_Law_law_863 rfl rfl ?_
  refine v_iload (pc := 864) d_Law_law_864 rfl ?_
  refine v_iconst (pc := 866) (v := nI 1) d_Law_law_866 rfl ?_
  refine v_iadd (pc := 867) d_Law_law_867 ?_
  refine v_re (nI_add (6 * j) 1) ?_
  refine v_sld (pc := 868) (k := (6 * j) + 1) d_Law_law_868 hsc1 hSC rfl (by omega) (by omega) ?_
  refine v_cvRE (pc := 869) (A := [.int (sf (6 * j + 1))]) (rest := []) (x := .int vM) d_Law_law_869 lk_Law_119 me_Mo_rows im_Mo_rows se_Mo_rows rfl hMo1 rfl rfl (hr w1 sz1 (fun q h h' => hf1 q (Or.inr ⟨h, h'⟩))) (Nat.le_of_ble_eq_true rfl) r3 r4 (Nat.le_of_ble_eq_true rfl) (fun w2 hf2 hR2 => ?_)
  have hRR2 := hR2
  obtain ⟨sc, ia, la, hM2, hth, hRA2⟩ := hR2
  have ho2 := (hf2 (Z + 146) (by omega)).trans ho1
  refine v_istore (pc := 872) (L' := [(6, .int vM), (5, .int (nI code)), (4, .int (nI (6 * j))), (3, .ref (Z + 146)), (2, .ref (Z + 127)), (1, .ref Z), (0, .ref scr)]) d_Law_law_872 (by decide) rfl ?_
  refine v_aload_n (pc := 874) d_Law_law_874 rfl rfl ?_
  refine v_cvR (pc := 875) (A := []) (rest := []) (x := .int (sc 0)) d_Law_law_875 lk_Law_79 me_Mo_thrown im_Mo_thrown se_Mo_thrown rfl hM2.o rfl rfl (c_Mo_thrown g hM2) (Nat.le_of_ble_eq_true rfl) r3 r4 (Nat.le_of_ble_eq_true rfl) ?_
  refine v_re hth ?_
  refine v_iload (pc := 878) d_Law_law_878 rfl ?_
  refine v_icmp_eq (pc := 880) (tgt := 885) d_Law_law_880 rfl (fun hc => ?_) (fun hc => ?_)
  · skip
    rw [nI_eq (by omega) (by omega)] at hc
    refine v_iload (pc := 885) d_Law_law_885 rfl ?_
    refine v_if_ne (pc := 887) (tgt := 902) d_Law_law_887 rfl (fun hc => ?_) (fun hc => ?_)
    · skip
      refine v_goto (pc := 902) (tgt := 1211) d_Law_law_902 rfl ?_
      refine v_sub (L' := [(4, .int (nI (6 * j))), (3, .ref (Z + 146)), (2, .ref (Z + 127)), (1, .ref Z), (0, .ref scr)]) (by simp) ?_
      exact K w2 sz1 hs1 (fun q hq => (hf2 q (by omega)).trans (hf1 q (Or.inl hq))) (hC1.off hst12 (fun q hq => hf2 q (by omega))) hRR2 ⟨fo, ho2⟩
    · skip
      have hc0 : code = 0 := by rw [show (0 : Int32) = nI 0 from rfl, nI_eq (by omega) (by decide)] at hc; exact hc
      refine v_aload_n (pc := 890) d_Law_law_890 rfl rfl ?_
      refine v_iconst (pc := 891) (v := nI 0) d_Law_law_891 rfl ?_
      have h0c : code = 0 := hc0
      have hlv : fo 0 = vM.toInt64 := (hov h0c).trans (by rw [hval h0c])
      refine v_laldN (pc := 892) (k := 0) (f := fo) d_Law_law_892 ho2 rfl (by omega) (by decide) ?_
      refine v_iload (pc := 893) d_Law_law_893 rfl ?_
      refine v_i2l (pc := 895) d_Law_law_895 ?_
      refine v_lcmp (pc := 896) d_Law_law_896 ?_
      refine v_if_eq (pc := 897) (tgt := 902) d_Law_law_897 rfl (fun hc => ?_) (fun hc => ?_)
      · skip
        refine v_goto (pc := 902) (tgt := 1211) d_Law_law_902 rfl ?_
        refine v_sub (L' := [(4, .int (nI (6 * j))), (3, .ref (Z + 146)), (2, .ref (Z + 127)), (1, .ref Z), (0, .ref scr)]) (by simp) ?_
        exact K w2 sz1 hs1 (fun q hq => (hf2 q (by omega)).trans (hf1 q (Or.inl hq))) (hC1.off hst12 (fun q hq => hf2 q (by omega))) hRR2 ⟨fo, ho2⟩
      · skip
        exact absurd (lg_cmp_0 hlv) hc
  · skip
    rw [nI_eq (by omega) (by omega)] at hc
    exact absurd rfl hc
set_option maxRecDepth 100000 in
set_option maxHeartbeats 4000000 in
theorem lw_cell (g : Gl) {w0 W : Wd} {sz0 mc ms scr N Z sz nc ns j code : Nat} {c : Cell} {sf : Nat → Int32} {st : As} {E : Rs → Wd → Nat → Prop} (hsc : W scr = some (cX c)) (hSC : SC g c N sf) (hj : 6 * j + 6 ≤ N) (hN : N ≤ 3072) (hs0 : scr < Z) {fs : List Value} (hMo : W (Z + 127) = some (cO 11 fs)) (hst12 : st.1 ≤ 12) (r3 : nc + 2 ≤ mc) (r4 : ns + 10 ≤ ms) {x vM : Int32} (hw : CT g 9 2 10 mi_Law_cell [.ref Z, .int (sf (6 * j + 1)), .int (sf (6 * j + 2)), .int (sf (6 * j + 3)), .ref (Z + 146)] W sz (WE W Z sz code x.toInt64 st)) (hr : ∀ (w1 : Wd) (sz1 : Nat), (∀ q, Z + 127 ≤ q → q < Z + 146 → w1 q = W q) → CT g 2 0 0 mi_Mo_cell [.ref (Z + 127), .int (sf (6 * j + 1)), .int (sf (6 * j + 2)), .int (sf (6 * j + 3))] w1 sz1 (RE w1 (Z + 127) sz1 code (.int vM) st)) (hval : code = 0 → vM = x) (hc3 : code ≤ 3) (K : ∀ w2 sz2, sz ≤ sz2 → (∀ q, q < Z → w2 q = W q) → CRe w2 Z sz2 st → RRa w2 (Z + 127) st (nI code) → (∃ f, w2 (Z + 146) = some (cJ 1 f)) → VV g 10 mc ms mi_Law_law w0 sz0 E 1211 [(4, .int (nI (6 * j))), (3, .ref (Z + 146)), (2, .ref (Z + 127)), (1, .ref Z), (0, .ref scr)] [] w2 sz2 (nc + 2) (ns + 10)) : VV g 10 mc ms mi_Law_law w0 sz0 E 905 [(4, .int (nI (6 * j))), (3, .ref (Z + 146)), (2, .ref (Z + 127)), (1, .ref Z), (0, .ref scr)] [] W sz nc ns := by
  refine v_aload_n (pc := 905) d_Law_law_905 rfl rfl ?_
  refine v_aload_n (pc := 906) d_Law_law_906 rfl rfl ?_
  refine v_iload (pc := 907) d_Law_law_907 rfl ?_
  refine v_iconst (pc := 909) (v := nI 1) d_Law_law_909 rfl ?_
  refine v_iadd (pc := 910) d_Law_law_910 ?_
  refine v_re (nI_add (6 * j) 1) ?_
  refine v_sld (pc := 911) (k := (6 * j) + 1) d_Law_law_911 hsc hSC rfl (by omega) (by omega) ?_
  refine v_aload_n (pc := 912) d_Law_law_912 rfl rfl ?_
  refine v_iload (pc := 913) d_Law_law_913 rfl ?_
  refine v_iconst (pc := 915) (v := nI 2) d_Law_law_915 rfl ?_
  refine v_iadd (pc := 916) d_Law_law_916 ?_
  refine v_re (nI_add (6 * j) 2) ?_
  refine v_sld (pc := 917) (k := (6 * j) + 2) d_Law_law_917 hsc hSC rfl (by omega) (by omega) ?_
  refine v_aload_n (pc := 918) d_Law_law_918 rfl rfl ?_
  refine v_iload (pc := 919) d_Law_law_919 rfl ?_
  refine v_iconst (pc := 921) (v := nI 3) d_Law_law_921 rfl ?_
  refine v_iadd (pc := 922) d_Law_law_922 ?_
  refine v_re (nI_add (6 * j) 3) ?_
  refine v_sld (pc := 923) (k := (6 * j) + 3) d_Law_law_923 hsc hSC rfl (by omega) (by omega) ?_
  refine v_aload_n (pc := 924) d_Law_law_924 rfl rfl ?_
  refine v_csWE (pc := 925) (A := [.ref Z, .int (sf (6 * j + 1)), .int (sf (6 * j + 2)), .int (sf (6 * j + 3)), .ref (Z + 146)]) (rest := []) d_Law_law_925 lk_Law_120 me_Law_cell st_Law_cell rfl rfl hw (Nat.le_of_ble_eq_true rfl) r3 r4 (Nat.le_of_ble_eq_true rfl) (fun w1 sz1 hs1 hf1 hC1 ho1 => ?_)
  obtain ⟨fo, ho1, hov⟩ := ho1
  have hsc1 := (hf1 scr (by omega)).trans hsc
  have hMo1 := (hf1 (Z + 127) (by omega)).trans hMo
  refine v_istore (pc := 928) (L' := [(5, .int (nI code)), (4, .int (nI (6 * j))), (3, .ref (Z + 146)), (2, .ref (Z + 127)), (1, .ref Z), (0, .ref scr)]) d_Law_law_928 (by decide) rfl ?_
  refine v_aload_n (pc := 930) d_Law_law_930 rfl rfl ?_
  refine v_aload_n (pc := 931) d_Law_law_931 rfl rfl ?_
  refine v_iload (pc := 932) d_Law_law_932 rfl ?_
  refine v_iconst (pc := 934) (v := nI 1) d_Law_law_934 rfl ?_
  refine v_iadd (pc := 935) d_Law_law_935 ?_
  refine v_re (nI_add (6 * j) 1) ?_
  refine v_sld (pc := 936) (k := (6 * j) + 1) d_Law_law_936 hsc1 hSC rfl (by omega) (by omega) ?_
  refine v_aload_n (pc := 937) d_Law_law_937 rfl rfl ?_
  refine v_iload (pc := 938) d_Law_law_938 rfl ?_
  refine v_iconst (pc := 940) (v := nI 2) d_Law_law_940 rfl ?_
  refine v_iadd (pc := 941) d_Law_law_941 ?_
  refine v_re (nI_add (6 * j) 2) ?_
  refine v_sld (pc := 942) (k := (6 * j) + 2) d_Law_law_942 hsc1 hSC rfl (by omega) (by omega) ?_
  refine v_aload_n (pc := 943) d_Law_law_943 rfl rfl ?_
  refine v_iload (pc := 944) d_Law_law_944 rfl ?_
  refine v_iconst (pc := 946) (v := nI 3) d_Law_law_946 rfl ?_
  refine v_iadd (pc := 947) d_Law_law_947 ?_
  refine v_re (nI_add (6 * j) 3) ?_
  refine v_sld (pc := 948) (k := (6 * j) + 3) d_Law_law_948 hsc1 hSC rfl (by omega) (by omega) ?_
  refine v_cvRE (pc := 949) (A := [.int (sf (6 * j + 1)), .int (sf (6 * j + 2)), .int (sf (6 * j + 3))]) (rest := []) (x := .int vM) d_Law_law_949 lk_Law_122 me_Mo_cell im_Mo_cell se_Mo_cell rfl hMo1 rfl rfl (hr w1 sz1 (fun q h h' => hf1 q (Or.inr ⟨h, h'⟩))) (Nat.le_of_ble_eq_true rfl) r3 r4 (Nat.le_of_ble_eq_true rfl) (fun w2 hf2 hR2 => ?_)
  have hRR2 := hR2
  obtain ⟨sc, ia, la, hM2, hth, hRA2⟩ := hR2
  have ho2 := (hf2 (Z + 146) (by omega)).trans ho1
  refine v_istore (pc := 952) (L' := [(6, .int vM), (5, .int (nI code)), (4, .int (nI (6 * j))), (3, .ref (Z + 146)), (2, .ref (Z + 127)), (1, .ref Z), (0, .ref scr)]) d_Law_law_952 (by decide) rfl ?_
  refine v_aload_n (pc := 954) d_Law_law_954 rfl rfl ?_
  refine v_cvR (pc := 955) (A := []) (rest := []) (x := .int (sc 0)) d_Law_law_955 lk_Law_79 me_Mo_thrown im_Mo_thrown se_Mo_thrown rfl hM2.o rfl rfl (c_Mo_thrown g hM2) (Nat.le_of_ble_eq_true rfl) r3 r4 (Nat.le_of_ble_eq_true rfl) ?_
  refine v_re hth ?_
  refine v_iload (pc := 958) d_Law_law_958 rfl ?_
  refine v_icmp_eq (pc := 960) (tgt := 965) d_Law_law_960 rfl (fun hc => ?_) (fun hc => ?_)
  · skip
    rw [nI_eq (by omega) (by omega)] at hc
    refine v_iload (pc := 965) d_Law_law_965 rfl ?_
    refine v_if_ne (pc := 967) (tgt := 982) d_Law_law_967 rfl (fun hc => ?_) (fun hc => ?_)
    · skip
      refine v_goto (pc := 982) (tgt := 1211) d_Law_law_982 rfl ?_
      refine v_sub (L' := [(4, .int (nI (6 * j))), (3, .ref (Z + 146)), (2, .ref (Z + 127)), (1, .ref Z), (0, .ref scr)]) (by simp) ?_
      exact K w2 sz1 hs1 (fun q hq => (hf2 q (by omega)).trans (hf1 q (Or.inl hq))) (hC1.off hst12 (fun q hq => hf2 q (by omega))) hRR2 ⟨fo, ho2⟩
    · skip
      have hc0 : code = 0 := by rw [show (0 : Int32) = nI 0 from rfl, nI_eq (by omega) (by decide)] at hc; exact hc
      refine v_aload_n (pc := 970) d_Law_law_970 rfl rfl ?_
      refine v_iconst (pc := 971) (v := nI 0) d_Law_law_971 rfl ?_
      have h0c : code = 0 := hc0
      have hlv : fo 0 = vM.toInt64 := (hov h0c).trans (by rw [hval h0c])
      refine v_laldN (pc := 972) (k := 0) (f := fo) d_Law_law_972 ho2 rfl (by omega) (by decide) ?_
      refine v_iload (pc := 973) d_Law_law_973 rfl ?_
      refine v_i2l (pc := 975) d_Law_law_975 ?_
      refine v_lcmp (pc := 976) d_Law_law_976 ?_
      refine v_if_eq (pc := 977) (tgt := 982) d_Law_law_977 rfl (fun hc => ?_) (fun hc => ?_)
      · skip
        refine v_goto (pc := 982) (tgt := 1211) d_Law_law_982 rfl ?_
        refine v_sub (L' := [(4, .int (nI (6 * j))), (3, .ref (Z + 146)), (2, .ref (Z + 127)), (1, .ref Z), (0, .ref scr)]) (by simp) ?_
        exact K w2 sz1 hs1 (fun q hq => (hf2 q (by omega)).trans (hf1 q (Or.inl hq))) (hC1.off hst12 (fun q hq => hf2 q (by omega))) hRR2 ⟨fo, ho2⟩
      · skip
        exact absurd (lg_cmp_0 hlv) hc
  · skip
    rw [nI_eq (by omega) (by omega)] at hc
    exact absurd rfl hc
set_option maxRecDepth 100000 in
set_option maxHeartbeats 4000000 in
theorem lw_times (g : Gl) {w0 W : Wd} {sz0 mc ms scr N Z sz nc ns j code : Nat} {c : Cell} {sf : Nat → Int32} {st : As} {E : Rs → Wd → Nat → Prop} (hsc : W scr = some (cX c)) (hSC : SC g c N sf) (hj : 6 * j + 6 ≤ N) (hN : N ≤ 3072) (hs0 : scr < Z) {fs : List Value} (hMo : W (Z + 127) = some (cO 11 fs)) (hst12 : st.1 ≤ 12) (r3 : nc + 2 ≤ mc) (r4 : ns + 10 ≤ ms) {x vM : Int64} (hw : CT g 9 2 10 mi_Law_times [.ref Z, .int (sf (6 * j + 1)), .int (sf (6 * j + 2)), .ref (Z + 146)] W sz (WE W Z sz code x st)) (hr : ∀ (w1 : Wd) (sz1 : Nat), (∀ q, Z + 127 ≤ q → q < Z + 146 → w1 q = W q) → CT g 2 0 0 mi_Mo_times [.ref (Z + 127), .int (sf (6 * j + 1)), .int (sf (6 * j + 2))] w1 sz1 (RE w1 (Z + 127) sz1 code (.long vM) st)) (hval : code = 0 → vM = x) (hc3 : code ≤ 3) (K : ∀ w2 sz2, sz ≤ sz2 → (∀ q, q < Z → w2 q = W q) → CRe w2 Z sz2 st → RRa w2 (Z + 127) st (nI code) → (∃ f, w2 (Z + 146) = some (cJ 1 f)) → VV g 10 mc ms mi_Law_law w0 sz0 E 1211 [(4, .int (nI (6 * j))), (3, .ref (Z + 146)), (2, .ref (Z + 127)), (1, .ref Z), (0, .ref scr)] [] w2 sz2 (nc + 2) (ns + 10)) : VV g 10 mc ms mi_Law_law w0 sz0 E 985 [(4, .int (nI (6 * j))), (3, .ref (Z + 146)), (2, .ref (Z + 127)), (1, .ref Z), (0, .ref scr)] [] W sz nc ns := by
  refine v_aload_n (pc := 985) d_Law_law_985 rfl rfl ?_
  refine v_aload_n (pc := 986) d_Law_law_986 rfl rfl ?_
  refine v_iload (pc := 987) d_Law_law_987 rfl ?_
  refine v_iconst (pc := 989) (v := nI 1) d_Law_law_989 rfl ?_
  refine v_iadd (pc := 990) d_Law_law_990 ?_
  refine v_re (nI_add (6 * j) 1) ?_
  refine v_sld (pc := 991) (k := (6 * j) + 1) d_Law_law_991 hsc hSC rfl (by omega) (by omega) ?_
  refine v_aload_n (pc := 992) d_Law_law_992 rfl rfl ?_
  refine v_iload (pc := 993) d_Law_law_993 rfl ?_
  refine v_iconst (pc := 995) (v := nI 2) d_Law_law_995 rfl ?_
  refine v_iadd (pc := 996) d_Law_law_996 ?_
  refine v_re (nI_add (6 * j) 2) ?_
  refine v_sld (pc := 997) (k := (6 * j) + 2) d_Law_law_997 hsc hSC rfl (by omega) (by omega) ?_
  refine v_aload_n (pc := 998) d_Law_law_998 rfl rfl ?_
  refine v_csWE (pc := 999) (A := [.ref Z, .int (sf (6 * j + 1)), .int (sf (6 * j + 2)), .ref (Z + 146)]) (rest := []) d_Law_law_999 lk_Law_123 me_Law_times st_Law_times rfl rfl hw (Nat.le_of_ble_eq_true rfl) r3 r4 (Nat.le_of_ble_eq_true rfl) (fun w1 sz1 hs1 hf1 hC1 ho1 => ?_)
  obtain ⟨fo, ho1, hov⟩ := ho1
  have hsc1 := (hf1 scr (by omega)).trans hsc
  have hMo1 := (hf1 (Z + 127) (by omega)).trans hMo
  refine v_istore (pc := 1002) (L' := [(5, .int (nI code)), (4, .int (nI (6 * j))), (3, .ref (Z + 146)), (2, .ref (Z + 127)), (1, .ref Z), (0, .ref scr)]) d_Law_law_1002 (by decide) rfl ?_
  refine v_aload_n (pc := 1004) d_Law_law_1004 rfl rfl ?_
  refine v_aload_n (pc := 1005) d_Law_law_1005 rfl rfl ?_
  refine v_iload (pc := 1006) d_Law_law_1006 rfl ?_
  refine v_iconst (pc := 1008) (v := nI 1) d_Law_law_1008 rfl ?_
  refine v_iadd (pc := 1009) d_Law_law_1009 ?_
  refine v_re (nI_add (6 * j) 1) ?_
  refine v_sld (pc := 1010) (k := (6 * j) + 1) d_Law_law_1010 hsc1 hSC rfl (by omega) (by omega) ?_
  refine v_aload_n (pc := 1011) d_Law_law_1011 rfl rfl ?_
  refine v_iload (pc := 1012) d_Law_law_1012 rfl ?_
  refine v_iconst (pc := 1014) (v := nI 2) d_Law_law_1014 rfl ?_
  refine v_iadd (pc := 1015) d_Law_law_1015 ?_
  refine v_re (nI_add (6 * j) 2) ?_
  refine v_sld (pc := 1016) (k := (6 * j) + 2) d_Law_law_1016 hsc1 hSC rfl (by omega) (by omega) ?_
  refine v_cvRE (pc := 1017) (A := [.int (sf (6 * j + 1)), .int (sf (6 * j + 2))]) (rest := []) (x := .long vM) d_Law_law_1017 lk_Law_125 me_Mo_times im_Mo_times se_Mo_times rfl hMo1 rfl rfl (hr w1 sz1 (fun q h h' => hf1 q (Or.inr ⟨h, h'⟩))) (Nat.le_of_ble_eq_true rfl) r3 r4 (Nat.le_of_ble_eq_true rfl) (fun w2 hf2 hR2 => ?_)
  have hRR2 := hR2
  obtain ⟨sc, ia, la, hM2, hth, hRA2⟩ := hR2
  have ho2 := (hf2 (Z + 146) (by omega)).trans ho1
  refine v_lstore (pc := 1020) (L' := [(6, .long vM), (5, .int (nI code)), (4, .int (nI (6 * j))), (3, .ref (Z + 146)), (2, .ref (Z + 127)), (1, .ref Z), (0, .ref scr)]) d_Law_law_1020 (by decide) rfl ?_
  refine v_aload_n (pc := 1022) d_Law_law_1022 rfl rfl ?_
  refine v_cvR (pc := 1023) (A := []) (rest := []) (x := .int (sc 0)) d_Law_law_1023 lk_Law_79 me_Mo_thrown im_Mo_thrown se_Mo_thrown rfl hM2.o rfl rfl (c_Mo_thrown g hM2) (Nat.le_of_ble_eq_true rfl) r3 r4 (Nat.le_of_ble_eq_true rfl) ?_
  refine v_re hth ?_
  refine v_iload (pc := 1026) d_Law_law_1026 rfl ?_
  refine v_icmp_eq (pc := 1028) (tgt := 1033) d_Law_law_1028 rfl (fun hc => ?_) (fun hc => ?_)
  · skip
    rw [nI_eq (by omega) (by omega)] at hc
    refine v_iload (pc := 1033) d_Law_law_1033 rfl ?_
    refine v_if_ne (pc := 1035) (tgt := 1049) d_Law_law_1035 rfl (fun hc => ?_) (fun hc => ?_)
    · skip
      refine v_goto (pc := 1049) (tgt := 1211) d_Law_law_1049 rfl ?_
      refine v_sub (L' := [(4, .int (nI (6 * j))), (3, .ref (Z + 146)), (2, .ref (Z + 127)), (1, .ref Z), (0, .ref scr)]) (by simp) ?_
      exact K w2 sz1 hs1 (fun q hq => (hf2 q (by omega)).trans (hf1 q (Or.inl hq))) (hC1.off hst12 (fun q hq => hf2 q (by omega))) hRR2 ⟨fo, ho2⟩
    · skip
      have hc0 : code = 0 := by rw [show (0 : Int32) = nI 0 from rfl, nI_eq (by omega) (by decide)] at hc; exact hc
      refine v_aload_n (pc := 1038) d_Law_law_1038 rfl rfl ?_
      refine v_iconst (pc := 1039) (v := nI 0) d_Law_law_1039 rfl ?_
      have h0c : code = 0 := hc0
      have hlv : fo 0 = vM := (hov h0c).trans (by rw [hval h0c])
      refine v_laldN (pc := 1040) (k := 0) (f := fo) d_Law_law_1040 ho2 rfl (by omega) (by decide) ?_
      refine v_lload (pc := 1041) d_Law_law_1041 rfl ?_
      refine v_lcmp (pc := 1043) d_Law_law_1043 ?_
      refine v_if_eq (pc := 1044) (tgt := 1049) d_Law_law_1044 rfl (fun hc => ?_) (fun hc => ?_)
      · skip
        refine v_goto (pc := 1049) (tgt := 1211) d_Law_law_1049 rfl ?_
        refine v_sub (L' := [(4, .int (nI (6 * j))), (3, .ref (Z + 146)), (2, .ref (Z + 127)), (1, .ref Z), (0, .ref scr)]) (by simp) ?_
        exact K w2 sz1 hs1 (fun q hq => (hf2 q (by omega)).trans (hf1 q (Or.inl hq))) (hC1.off hst12 (fun q hq => hf2 q (by omega))) hRR2 ⟨fo, ho2⟩
      · skip
        exact absurd (lg_cmp_0 hlv) hc
  · skip
    rw [nI_eq (by omega) (by omega)] at hc
    exact absurd rfl hc
set_option maxRecDepth 100000 in
set_option maxHeartbeats 4000000 in
theorem lw_many (g : Gl) {w0 W : Wd} {sz0 mc ms scr N Z sz nc ns j code : Nat} {c : Cell} {sf : Nat → Int32} {st : As} {E : Rs → Wd → Nat → Prop} (hsc : W scr = some (cX c)) (hSC : SC g c N sf) (hj : 6 * j + 6 ≤ N) (hN : N ≤ 3072) (hs0 : scr < Z) {fs : List Value} (hMo : W (Z + 127) = some (cO 11 fs)) (hst12 : st.1 ≤ 12) (r3 : nc + 2 ≤ mc) (r4 : ns + 10 ≤ ms) {x vM : Int64} (hw : CT g 9 2 10 mi_Law_many [.ref Z, .int (sf (6 * j + 1)), .int (sf (6 * j + 2)), .int (sf (6 * j + 3)), .int (sf (6 * j + 4)), .int (sf (6 * j + 5)), .ref (Z + 146)] W sz (WE W Z sz code x st)) (hr : ∀ (w1 : Wd) (sz1 : Nat), (∀ q, Z + 127 ≤ q → q < Z + 146 → w1 q = W q) → CT g 1 0 0 mi_Mo_many [.ref (Z + 127), .int (sf (6 * j + 1)), .int (sf (6 * j + 2)), .int (sf (6 * j + 3)), .int (sf (6 * j + 4)), .int (sf (6 * j + 5))] w1 sz1 (RE w1 (Z + 127) sz1 code (.long vM) st)) (hval : code = 0 → vM = x) (hc3 : code ≤ 3) (K : ∀ w2 sz2, sz ≤ sz2 → (∀ q, q < Z → w2 q = W q) → CRe w2 Z sz2 st → RRa w2 (Z + 127) st (nI code) → (∃ f, w2 (Z + 146) = some (cJ 1 f)) → VV g 10 mc ms mi_Law_law w0 sz0 E 1211 [(4, .int (nI (6 * j))), (3, .ref (Z + 146)), (2, .ref (Z + 127)), (1, .ref Z), (0, .ref scr)] [] w2 sz2 (nc + 2) (ns + 10)) : VV g 10 mc ms mi_Law_law w0 sz0 E 1052 [(4, .int (nI (6 * j))), (3, .ref (Z + 146)), (2, .ref (Z + 127)), (1, .ref Z), (0, .ref scr)] [] W sz nc ns := by
  refine v_aload_n (pc := 1052) d_Law_law_1052 rfl rfl ?_
  refine v_aload_n (pc := 1053) d_Law_law_1053 rfl rfl ?_
  refine v_iload (pc := 1054) d_Law_law_1054 rfl ?_
  refine v_iconst (pc := 1056) (v := nI 1) d_Law_law_1056 rfl ?_
  refine v_iadd (pc := 1057) d_Law_law_1057 ?_
  refine v_re (nI_add (6 * j) 1) ?_
  refine v_sld (pc := 1058) (k := (6 * j) + 1) d_Law_law_1058 hsc hSC rfl (by omega) (by omega) ?_
  refine v_aload_n (pc := 1059) d_Law_law_1059 rfl rfl ?_
  refine v_iload (pc := 1060) d_Law_law_1060 rfl ?_
  refine v_iconst (pc := 1062) (v := nI 2) d_Law_law_1062 rfl ?_
  refine v_iadd (pc := 1063) d_Law_law_1063 ?_
  refine v_re (nI_add (6 * j) 2) ?_
  refine v_sld (pc := 1064) (k := (6 * j) + 2) d_Law_law_1064 hsc hSC rfl (by omega) (by omega) ?_
  refine v_aload_n (pc := 1065) d_Law_law_1065 rfl rfl ?_
  refine v_iload (pc := 1066) d_Law_law_1066 rfl ?_
  refine v_iconst (pc := 1068) (v := nI 3) d_Law_law_1068 rfl ?_
  refine v_iadd (pc := 1069) d_Law_law_1069 ?_
  refine v_re (nI_add (6 * j) 3) ?_
  refine v_sld (pc := 1070) (k := (6 * j) + 3) d_Law_law_1070 hsc hSC rfl (by omega) (by omega) ?_
  refine v_aload_n (pc := 1071) d_Law_law_1071 rfl rfl ?_
  refine v_iload (pc := 1072) d_Law_law_1072 rfl ?_
  refine v_iconst (pc := 1074) (v := nI 4) d_Law_law_1074 rfl ?_
  refine v_iadd (pc := 1075) d_Law_law_1075 ?_
  refine v_re (nI_add (6 * j) 4) ?_
  refine v_sld (pc := 1076) (k := (6 * j) + 4) d_Law_law_1076 hsc hSC rfl (by omega) (by omega) ?_
  refine v_aload_n (pc := 1077) d_Law_law_1077 rfl rfl ?_
  refine v_iload (pc := 1078) d_Law_law_1078 rfl ?_
  refine v_iconst (pc := 1080) (v := nI 5) d_Law_law_1080 rfl ?_
  refine v_iadd (pc := 1081) d_Law_law_1081 ?_
  refine v_re (nI_add (6 * j) 5) ?_
  refine v_sld (pc := 1082) (k := (6 * j) + 5) d_Law_law_1082 hsc hSC rfl (by omega) (by omega) ?_
  refine v_aload_n (pc := 1083) d_Law_law_1083 rfl rfl ?_
  refine v_csWE (pc := 1084) (A := [.ref Z, .int (sf (6 * j + 1)), .int (sf (6 * j + 2)), .int (sf (6 * j + 3)), .int (sf (6 * j + 4)), .int (sf (6 * j + 5)), .ref (Z + 146)]) (rest := []) d_Law_law_1084 lk_Law_126 me_Law_many st_Law_many rfl rfl hw (Nat.le_of_ble_eq_true rfl) r3 r4 (Nat.le_of_ble_eq_true rfl) (fun w1 sz1 hs1 hf1 hC1 ho1 => ?_)
  obtain ⟨fo, ho1, hov⟩ := ho1
  have hsc1 := (hf1 scr (by omega)).trans hsc
  have hMo1 := (hf1 (Z + 127) (by omega)).trans hMo
  refine v_istore (pc := 1087) (L' := [(5, .int (nI code)), (4, .int (nI (6 * j))), (3, .ref (Z + 146)), (2, .ref (Z + 127)), (1, .ref Z), (0, .ref scr)]) d_Law_law_1087 (by decide) rfl ?_
  refine v_aload_n (pc := 1089) d_Law_law_1089 rfl rfl ?_
  refine v_aload_n (pc := 1090) d_Law_law_1090 rfl rfl ?_
  refine v_iload (pc := 1091) d_Law_law_1091 rfl ?_
  refine v_iconst (pc := 1093) (v := nI 1) d_Law_law_1093 rfl ?_
  refine v_iadd (pc := 1094) d_Law_law_1094 ?_
  refine v_re (nI_add (6 * j) 1) ?_
  refine v_sld (pc := 1095) (k := (6 * j) + 1) d_Law_law_1095 hsc1 hSC rfl (by omega) (by omega) ?_
  refine v_aload_n (pc := 1096) d_Law_law_1096 rfl rfl ?_
  refine v_iload (pc := 1097) d_Law_law_1097 rfl ?_
  refine v_iconst (pc := 1099) (v := nI 2) d_Law_law_1099 rfl ?_
  refine v_iadd (pc := 1100) d_Law_law_1100 ?_
  refine v_re (nI_add (6 * j) 2) ?_
  refine v_sld (pc := 1101) (k := (6 * j) + 2) d_Law_law_1101 hsc1 hSC rfl (by omega) (by omega) ?_
  refine v_aload_n (pc := 1102) d_Law_law_1102 rfl rfl ?_
  refine v_iload (pc := 1103) d_Law_law_1103 rfl ?_
  refine v_iconst (pc := 1105) (v := nI 3) d_Law_law_1105 rfl ?_
  refine v_iadd (pc := 1106) d_Law_law_1106 ?_
  refine v_re (nI_add (6 * j) 3) ?_
  refine v_sld (pc := 1107) (k := (6 * j) + 3) d_Law_law_1107 hsc1 hSC rfl (by omega) (by omega) ?_
  refine v_aload_n (pc := 1108) d_Law_law_1108 rfl rfl ?_
  refine v_iload (pc := 1109) d_Law_law_1109 rfl ?_
  refine v_iconst (pc := 1111) (v := nI 4) d_Law_law_1111 rfl ?_
  refine v_iadd (pc := 1112) d_Law_law_1112 ?_
  refine v_re (nI_add (6 * j) 4) ?_
  refine v_sld (pc := 1113) (k := (6 * j) + 4) d_Law_law_1113 hsc1 hSC rfl (by omega) (by omega) ?_
  refine v_aload_n (pc := 1114) d_Law_law_1114 rfl rfl ?_
  refine v_iload (pc := 1115) d_Law_law_1115 rfl ?_
  refine v_iconst (pc := 1117) (v := nI 5) d_Law_law_1117 rfl ?_
  refine v_iadd (pc := 1118) d_Law_law_1118 ?_
  refine v_re (nI_add (6 * j) 5) ?_
  refine v_sld (pc := 1119) (k := (6 * j) + 5) d_Law_law_1119 hsc1 hSC rfl (by omega) (by omega) ?_
  refine v_cvRE (pc := 1120) (A := [.int (sf (6 * j + 1)), .int (sf (6 * j + 2)), .int (sf (6 * j + 3)), .int (sf (6 * j + 4)), .int (sf (6 * j + 5))]) (rest := []) (x := .long vM) d_Law_law_1120 lk_Law_129 me_Mo_many im_Mo_many se_Mo_many rfl hMo1 rfl rfl (hr w1 sz1 (fun q h h' => hf1 q (Or.inr ⟨h, h'⟩))) (Nat.le_of_ble_eq_true rfl) r3 r4 (Nat.le_of_ble_eq_true rfl) (fun w2 hf2 hR2 => ?_)
  have hRR2 := hR2
  obtain ⟨sc, ia, la, hM2, hth, hRA2⟩ := hR2
  have ho2 := (hf2 (Z + 146) (by omega)).trans ho1
  refine v_lstore (pc := 1123) (L' := [(6, .long vM), (5, .int (nI code)), (4, .int (nI (6 * j))), (3, .ref (Z + 146)), (2, .ref (Z + 127)), (1, .ref Z), (0, .ref scr)]) d_Law_law_1123 (by decide) rfl ?_
  refine v_aload_n (pc := 1125) d_Law_law_1125 rfl rfl ?_
  refine v_cvR (pc := 1126) (A := []) (rest := []) (x := .int (sc 0)) d_Law_law_1126 lk_Law_79 me_Mo_thrown im_Mo_thrown se_Mo_thrown rfl hM2.o rfl rfl (c_Mo_thrown g hM2) (Nat.le_of_ble_eq_true rfl) r3 r4 (Nat.le_of_ble_eq_true rfl) ?_
  refine v_re hth ?_
  refine v_iload (pc := 1129) d_Law_law_1129 rfl ?_
  refine v_icmp_eq (pc := 1131) (tgt := 1136) d_Law_law_1131 rfl (fun hc => ?_) (fun hc => ?_)
  · skip
    rw [nI_eq (by omega) (by omega)] at hc
    refine v_iload (pc := 1136) d_Law_law_1136 rfl ?_
    refine v_if_ne (pc := 1138) (tgt := 1152) d_Law_law_1138 rfl (fun hc => ?_) (fun hc => ?_)
    · skip
      refine v_goto (pc := 1152) (tgt := 1211) d_Law_law_1152 rfl ?_
      refine v_sub (L' := [(4, .int (nI (6 * j))), (3, .ref (Z + 146)), (2, .ref (Z + 127)), (1, .ref Z), (0, .ref scr)]) (by simp) ?_
      exact K w2 sz1 hs1 (fun q hq => (hf2 q (by omega)).trans (hf1 q (Or.inl hq))) (hC1.off hst12 (fun q hq => hf2 q (by omega))) hRR2 ⟨fo, ho2⟩
    · skip
      have hc0 : code = 0 := by rw [show (0 : Int32) = nI 0 from rfl, nI_eq (by omega) (by decide)] at hc; exact hc
      refine v_aload_n (pc := 1141) d_Law_law_1141 rfl rfl ?_
      refine v_iconst (pc := 1142) (v := nI 0) d_Law_law_1142 rfl ?_
      have h0c : code = 0 := hc0
      have hlv : fo 0 = vM := (hov h0c).trans (by rw [hval h0c])
      refine v_laldN (pc := 1143) (k := 0) (f := fo) d_Law_law_1143 ho2 rfl (by omega) (by decide) ?_
      refine v_lload (pc := 1144) d_Law_law_1144 rfl ?_
      refine v_lcmp (pc := 1146) d_Law_law_1146 ?_
      refine v_if_eq (pc := 1147) (tgt := 1152) d_Law_law_1147 rfl (fun hc => ?_) (fun hc => ?_)
      · skip
        refine v_goto (pc := 1152) (tgt := 1211) d_Law_law_1152 rfl ?_
        refine v_sub (L' := [(4, .int (nI (6 * j))), (3, .ref (Z + 146)), (2, .ref (Z + 127)), (1, .ref Z), (0, .ref scr)]) (by simp) ?_
        exact K w2 sz1 hs1 (fun q hq => (hf2 q (by omega)).trans (hf1 q (Or.inl hq))) (hC1.off hst12 (fun q hq => hf2 q (by omega))) hRR2 ⟨fo, ho2⟩
      · skip
        exact absurd (lg_cmp_0 hlv) hc
  · skip
    rw [nI_eq (by omega) (by omega)] at hc
    exact absurd rfl hc
set_option maxRecDepth 100000 in
set_option maxHeartbeats 4000000 in
theorem lw_moved (g : Gl) {w0 W : Wd} {sz0 mc ms scr N Z sz nc ns j code : Nat} {c : Cell} {sf : Nat → Int32} {st : As} {E : Rs → Wd → Nat → Prop} (hsc : W scr = some (cX c)) (hSC : SC g c N sf) (hj : 6 * j + 6 ≤ N) (hN : N ≤ 3072) (hs0 : scr < Z) {fs : List Value} (hMo : W (Z + 127) = some (cO 11 fs)) (hst12 : st.1 ≤ 12) (r3 : nc + 2 ≤ mc) (r4 : ns + 10 ≤ ms) {x vM : Int32} (hw : CT g 9 2 10 mi_Law_moved [.ref Z, .int (sf (6 * j + 1)), .ref (Z + 146)] W sz (WE W Z sz code x.toInt64 st)) (hr : ∀ (w1 : Wd) (sz1 : Nat), (∀ q, Z + 127 ≤ q → q < Z + 146 → w1 q = W q) → CT g 1 0 0 mi_Mo_moved [.ref (Z + 127), .int (sf (6 * j + 1))] w1 sz1 (RE w1 (Z + 127) sz1 code (.int vM) st)) (hval : code = 0 → vM = x) (hc3 : code ≤ 3) (K : ∀ w2 sz2, sz ≤ sz2 → (∀ q, q < Z → w2 q = W q) → CRe w2 Z sz2 st → RRa w2 (Z + 127) st (nI code) → (∃ f, w2 (Z + 146) = some (cJ 1 f)) → VV g 10 mc ms mi_Law_law w0 sz0 E 1211 [(4, .int (nI (6 * j))), (3, .ref (Z + 146)), (2, .ref (Z + 127)), (1, .ref Z), (0, .ref scr)] [] w2 sz2 (nc + 2) (ns + 10)) : VV g 10 mc ms mi_Law_law w0 sz0 E 1155 [(4, .int (nI (6 * j))), (3, .ref (Z + 146)), (2, .ref (Z + 127)), (1, .ref Z), (0, .ref scr)] [] W sz nc ns := by
  refine v_aload_n (pc := 1155) d_Law_law_1155 rfl rfl ?_
  refine v_aload_n (pc := 1156) d_Law_law_1156 rfl rfl ?_
  refine v_iload (pc := 1157) d_Law_law_1157 rfl ?_
  refine v_iconst (pc := 1159) (v := nI 1) d_Law_law_1159 rfl ?_
  refine v_iadd (pc := 1160) d_Law_law_1160 ?_
  refine v_re (nI_add (6 * j) 1) ?_
  refine v_sld (pc := 1161) (k := (6 * j) + 1) d_Law_law_1161 hsc hSC rfl (by omega) (by omega) ?_
  refine v_aload_n (pc := 1162) d_Law_law_1162 rfl rfl ?_
  refine v_csWE (pc := 1163) (A := [.ref Z, .int (sf (6 * j + 1)), .ref (Z + 146)]) (rest := []) d_Law_law_1163 lk_Law_130 me_Law_moved st_Law_moved rfl rfl hw (Nat.le_of_ble_eq_true rfl) r3 r4 (Nat.le_of_ble_eq_true rfl) (fun w1 sz1 hs1 hf1 hC1 ho1 => ?_)
  obtain ⟨fo, ho1, hov⟩ := ho1
  have hsc1 := (hf1 scr (by omega)).trans hsc
  have hMo1 := (hf1 (Z + 127) (by omega)).trans hMo
  refine v_istore (pc := 1166) (L' := [(5, .int (nI code)), (4, .int (nI (6 * j))), (3, .ref (Z + 146)), (2, .ref (Z + 127)), (1, .ref Z), (0, .ref scr)]) d_Law_law_1166 (by decide) rfl ?_
  refine v_aload_n (pc := 1168) d_Law_law_1168 rfl rfl ?_
  refine v_aload_n (pc := 1169) d_Law_law_1169 rfl rfl ?_
  refine v_iload (pc := 1170) d_Law_law_1170 rfl ?_
  refine v_iconst (pc := 1172) (v := nI 1) d_Law_law_1172 rfl ?_
  refine v_iadd (pc := 1173) d_Law_law_1173 ?_
  refine v_re (nI_add (6 * j) 1) ?_
  refine v_sld (pc := 1174) (k := (6 * j) + 1) d_Law_law_1174 hsc1 hSC rfl (by omega) (by omega) ?_
  refine v_cvRE (pc := 1175) (A := [.int (sf (6 * j + 1))]) (rest := []) (x := .int vM) d_Law_law_1175 lk_Law_132 me_Mo_moved im_Mo_moved se_Mo_moved rfl hMo1 rfl rfl (hr w1 sz1 (fun q h h' => hf1 q (Or.inr ⟨h, h'⟩))) (Nat.le_of_ble_eq_true rfl) r3 r4 (Nat.le_of_ble_eq_true rfl) (fun w2 hf2 hR2 => ?_)
  have hRR2 := hR2
  obtain ⟨sc, ia, la, hM2, hth, hRA2⟩ := hR2
  have ho2 := (hf2 (Z + 146) (by omega)).trans ho1
  refine v_istore (pc := 1178) (L' := [(6, .int vM), (5, .int (nI code)), (4, .int (nI (6 * j))), (3, .ref (Z + 146)), (2, .ref (Z + 127)), (1, .ref Z), (0, .ref scr)]) d_Law_law_1178 (by decide) rfl ?_
  refine v_aload_n (pc := 1180) d_Law_law_1180 rfl rfl ?_
  refine v_cvR (pc := 1181) (A := []) (rest := []) (x := .int (sc 0)) d_Law_law_1181 lk_Law_79 me_Mo_thrown im_Mo_thrown se_Mo_thrown rfl hM2.o rfl rfl (c_Mo_thrown g hM2) (Nat.le_of_ble_eq_true rfl) r3 r4 (Nat.le_of_ble_eq_true rfl) ?_
  refine v_re hth ?_
  refine v_iload (pc := 1184) d_Law_law_1184 rfl ?_
  refine v_icmp_eq (pc := 1186) (tgt := 1191) d_Law_law_1186 rfl (fun hc => ?_) (fun hc => ?_)
  · skip
    rw [nI_eq (by omega) (by omega)] at hc
    refine v_iload (pc := 1191) d_Law_law_1191 rfl ?_
    refine v_if_ne (pc := 1193) (tgt := 1208) d_Law_law_1193 rfl (fun hc => ?_) (fun hc => ?_)
    · skip
      refine v_goto (pc := 1208) (tgt := 1211) d_Law_law_1208 rfl ?_
      refine v_sub (L' := [(4, .int (nI (6 * j))), (3, .ref (Z + 146)), (2, .ref (Z + 127)), (1, .ref Z), (0, .ref scr)]) (by simp) ?_
      exact K w2 sz1 hs1 (fun q hq => (hf2 q (by omega)).trans (hf1 q (Or.inl hq))) (hC1.off hst12 (fun q hq => hf2 q (by omega))) hRR2 ⟨fo, ho2⟩
    · skip
      have hc0 : code = 0 := by rw [show (0 : Int32) = nI 0 from rfl, nI_eq (by omega) (by decide)] at hc; exact hc
      refine v_aload_n (pc := 1196) d_Law_law_1196 rfl rfl ?_
      refine v_iconst (pc := 1197) (v := nI 0) d_Law_law_1197 rfl ?_
      have h0c : code = 0 := hc0
      have hlv : fo 0 = vM.toInt64 := (hov h0c).trans (by rw [hval h0c])
      refine v_laldN (pc := 1198) (k := 0) (f := fo) d_Law_law_1198 ho2 rfl (by omega) (by decide) ?_
      refine v_iload (pc := 1199) d_Law_law_1199 rfl ?_
      refine v_i2l (pc := 1201) d_Law_law_1201 ?_
      refine v_lcmp (pc := 1202) d_Law_law_1202 ?_
      refine v_if_eq (pc := 1203) (tgt := 1208) d_Law_law_1203 rfl (fun hc => ?_) (fun hc => ?_)
      · skip
        refine v_goto (pc := 1208) (tgt := 1211) d_Law_law_1208 rfl ?_
        refine v_sub (L' := [(4, .int (nI (6 * j))), (3, .ref (Z + 146)), (2, .ref (Z + 127)), (1, .ref Z), (0, .ref scr)]) (by simp) ?_
        exact K w2 sz1 hs1 (fun q hq => (hf2 q (by omega)).trans (hf1 q (Or.inl hq))) (hC1.off hst12 (fun q hq => hf2 q (by omega))) hRR2 ⟨fo, ho2⟩
      · skip
        exact absurd (lg_cmp_0 hlv) hc
  · skip
    rw [nI_eq (by omega) (by omega)] at hc
    exact absurd rfl hc
set_option maxRecDepth 100000 in
set_option maxHeartbeats 4000000 in
theorem lw_cancel (g : Gl) {w0 W : Wd} {sz0 mc ms scr N Z sz nc ns j : Nat} {c : Cell} {sf : Nat → Int32} {st : As} {E : Rs → Wd → Nat → Prop} (hsc : W scr = some (cX c)) (hSC : SC g c N sf) (hj : 6 * j + 6 ≤ N) (hN : N ≤ 3072) (hs0 : scr < Z) {fs : List Value} (hMo : W (Z + 127) = some (cO 11 fs)) (hst12 : st.1 ≤ 12) (r3 : nc + 2 ≤ mc) (r4 : ns + 10 ≤ ms) {x : Int32} {fs' : List Value} {fo : Nat → Int64} (hO : W Z = some (cO 0 fs')) (hout : W (Z + 146) = some (cJ 1 fo)) (hw : CT g 1 0 0 mi_DV_cancel [.ref Z] W sz (CE W Z sz 0 0 (.int x) st)) (hr : ∀ (w1 : Wd) (sz1 : Nat), (∀ q, Z + 127 ≤ q → q < Z + 146 → w1 q = W q) → CT g 0 0 0 mi_Mo_cancel [.ref (Z + 127)] w1 sz1 (RE w1 (Z + 127) sz1 0 (.int x) st)) (K : ∀ w2 sz2, sz ≤ sz2 → (∀ q, q < Z → w2 q = W q) → CRe w2 Z sz2 st → RRa w2 (Z + 127) st (nI 0) → (∃ f, w2 (Z + 146) = some (cJ 1 f)) → VV g 10 mc ms mi_Law_law w0 sz0 E 1211 [(4, .int (nI (6 * j))), (3, .ref (Z + 146)), (2, .ref (Z + 127)), (1, .ref Z), (0, .ref scr)] [] w2 sz2 (nc + 0) (ns + 0)) : VV g 10 mc ms mi_Law_law w0 sz0 E 212 [(4, .int (nI (6 * j))), (3, .ref (Z + 146)), (2, .ref (Z + 127)), (1, .ref Z), (0, .ref scr)] [] W sz nc ns := by
  refine v_aload_n (pc := 212) d_Law_law_212 rfl rfl ?_
  refine v_wr (pc := 213) (A := []) (rest := []) d_Law_law_213 lk_Law_82 me_DV_cancel im_DV_cancel se_DV_cancel rfl hO rfl rfl hw (Nat.le_of_ble_eq_true rfl) (by omega) (by omega) (Nat.le_of_ble_eq_true rfl) (fun w1 sz1 h0 hs1 hf1 hC1 => ?_) (fun w1 sz1 h0 _ _ _ => absurd rfl h0)
  have hMo1 := (hf1 (Z + 127) (by omega)).trans hMo
  refine v_aload_n (pc := 216) d_Law_law_216 rfl rfl ?_
  refine v_cvRE (pc := 217) (A := []) (rest := [.int x]) (x := .int x) d_Law_law_217 lk_Law_85 me_Mo_cancel im_Mo_cancel se_Mo_cancel rfl hMo1 rfl rfl (hr w1 sz1 (fun q h h' => hf1 q (by omega))) (Nat.le_of_ble_eq_true rfl) (by omega) (by omega) (Nat.le_of_ble_eq_true rfl) (fun w2 hf2 hR2 => ?_)
  refine v_icmp_eq (pc := 220) (tgt := 1211) d_Law_law_220 rfl (fun hc => ?_) (fun hc => ?_)
  · skip
    refine v_sub (L' := [(4, .int (nI (6 * j))), (3, .ref (Z + 146)), (2, .ref (Z + 127)), (1, .ref Z), (0, .ref scr)]) (by simp) ?_
    skip
    exact K w2 sz1 hs1 (fun q hq => (hf2 q (by omega)).trans (hf1 q (Or.inl hq))) (hC1.off hst12 (fun q hq => hf2 q (by omega))) hR2 ⟨fo, (hf2 (Z + 146) (by omega)).trans ((hf1 (Z + 146) (by omega)).trans hout)⟩
  · skip
    exact absurd rfl hc
