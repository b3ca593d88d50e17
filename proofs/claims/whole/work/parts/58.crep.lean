/-! How the class holds an abstract state: Z the object; view i at VA Z i, its two bags behind it; sw says which of them is now. -/
def VA (Z i : Nat) : Nat := Z + 7 + 10 * i
def nwA (Z : Nat) (sw : Nat → Bool) (i : Nat) : Nat := VA Z i + (if sw i = true then 6 else 2)
def bfA (Z : Nat) (sw : Nat → Bool) (i : Nat) : Nat := VA Z i + (if sw i = true then 2 else 6)
theorem nwA_c (Z : Nat) (sw : Nat → Bool) (i : Nat) : (nwA Z sw i = Z + 7 + 10 * i + 2 ∧ bfA Z sw i = Z + 7 + 10 * i + 6) ∨ (nwA Z sw i = Z + 7 + 10 * i + 6 ∧ bfA Z sw i = Z + 7 + 10 * i + 2) := by
  unfold nwA bfA VA
  by_cases h : sw i = true
  · rw [if_pos h, if_pos h]; exact Or.inr ⟨rfl, rfl⟩
  · rw [if_neg h, if_neg h]; exact Or.inl ⟨rfl, rfl⟩
def bgN (w : Wd) (h wd : Nat) (B : MaB) : Prop := ∃ f m pd, BGo w h wd B.length f m pd ∧ ar_bag f m wd 0 B.length = B
def bgX (w : Wd) (h : Nat) : Prop := ∃ wd n f m pd, BGo w h wd n f m pd ∧ n ≤ 32 ∧ wd ≤ 4
theorem bgN.mv {w w' : Wd} {h wd : Nat} {B : MaB} (x : bgN w h wd B) (hw : ∀ q, h ≤ q → q < h + 4 → w' q = w q) : bgN w' h wd B := by
  obtain ⟨f, m, pd, h1, h2⟩ := x
  exact ⟨f, m, pd, h1.mv hw, h2⟩
theorem bgX.mv {w w' : Wd} {h : Nat} (x : bgX w h) (hw : ∀ q, h ≤ q → q < h + 4 → w' q = w q) : bgX w' h := by
  obtain ⟨wd, n, f, m, pd, h1, h2⟩ := x
  exact ⟨wd, n, f, m, pd, h1.mv hw, h2⟩
theorem bgN.x {w : Wd} {h wd : Nat} {B : MaB} (x : bgN w h wd B) (hl : B.length ≤ 32) (hw : wd ≤ 4) : bgX w h := by
  obtain ⟨f, m, pd, h1, _⟩ := x
  exact ⟨wd, _, f, m, pd, h1, hl, hw⟩
def OPo (w : Wd) (Z ad wv : Nat) (o : VOp) : Prop :=
  (o.1 = 0 ∧ w ad = some (cO 4 [])) ∨ (o.1 = 1 ∧ w ad = some (cO 5 [.ref (VA Z o.2.1), .int o.2.2.2.1, .int o.2.2.2.2.1, .int o.2.2.2.2.2])) ∨
  (o.1 = 2 ∧ w ad = some (cO 6 [.ref (VA Z o.2.1), .int (nI wv), .int o.2.2.2.1])) ∨ (o.1 = 3 ∧ w ad = some (cO 7 [.ref (VA Z o.2.1), .ref (VA Z o.2.2.1), .int o.2.2.2.1, .int o.2.2.2.2.1])) ∨
  (o.1 = 4 ∧ w ad = some (cO 8 [.ref (VA Z o.2.1), .ref (VA Z o.2.2.1)])) ∨ (o.1 = 8 ∧ w ad = some (cO 10 [.ref (VA Z o.2.1)])) ∨
  (∃ kd, kd ≤ 2 ∧ o.1 = 5 + kd ∧ w ad = some (cO 9 [.ref (VA Z o.2.1), .int (nI kd), .int o.2.2.2.1, .int o.2.2.2.2.1]))
theorem OPo.mv {w w' : Wd} {Z ad wv : Nat} {o : VOp} (x : OPo w Z ad wv o) (h : w' ad = w ad) : OPo w' Z ad wv o := by
  unfold OPo at *
  rw [h]
  exact x
theorem ac_op {g : Gl} {w : Wd} {Z od h sz wv wd : Nat} {o : VOp} {B : MaB} (hO : OPo w Z od wv o) (h0 : o.1 ≠ 0) (hN : bgN w h wd B) (hl : B.length ≤ 32) : AC g w od h sz (decide (B.length ≤ 16)) := by
  obtain ⟨f, m, pd, h1, _⟩ := hN
  have hc : ∀ (oo : Nat), CT g 0 0 0 mi_Oper_allows [.ref oo, .ref h] w sz (rdE (some (.int (if decide (B.length ≤ 16) = true then 1 else 0))) w sz) := fun oo => by
    have h9 := c_Oper_allows g (o := oo) (sz := sz) h1 hl
    by_cases hb : B.length ≤ 16
    · rw [if_pos hb] at h9; rw [if_pos (decide_eq_true hb)]; exact h9
    · rw [if_neg hb] at h9; rw [if_neg (fun h => hb (of_decide_eq_true h))]; exact h9
  rcases hO with ⟨e, _⟩ | ⟨_, e⟩ | ⟨_, e⟩ | ⟨_, e⟩ | ⟨_, e⟩ | ⟨_, e⟩ | ⟨kd, _, _, e⟩
  · exact absurd e h0
  · exact ⟨_, _, _, _, _, _, _, rfl, e, da_Select, me_Oper_allows, im_Oper_allows, Nat.zero_le _, hc od⟩
  · exact ⟨_, _, _, _, _, _, _, rfl, e, da_Project, me_Oper_allows, im_Oper_allows, Nat.zero_le _, hc od⟩
  · exact ⟨_, _, _, _, _, _, _, rfl, e, da_Join, me_Oper_allows, im_Oper_allows, Nat.zero_le _, hc od⟩
  · exact ⟨_, _, _, _, _, _, _, rfl, e, da_Union, me_Oper_allows, im_Oper_allows, Nat.zero_le _, hc od⟩
  · exact ⟨_, _, _, _, _, _, _, rfl, e, da_Distinct, me_Oper_allows, im_Oper_allows, Nat.zero_le _, hc od⟩
  · exact ⟨_, _, _, _, _, _, _, rfl, e, da_Group, me_Oper_allows, im_Oper_allows, Nat.zero_le _, hc od⟩
theorem ac_tbl {g : Gl} {w : Wd} {od h sz wd : Nat} {B : MaB} (hO : w od = some (cO 4 [])) (hN : bgN w h wd B) (hl : B.length ≤ 32) : AC g w od h sz (tb_ok B) := by
  obtain ⟨f, m, pd, h1, h2⟩ := hN
  have h9 := c_Table_allows g (o := od) (sz := sz) h1 hl
  rw [h2] at h9
  exact ⟨_, _, _, _, _, _, _, rfl, hO, da_Table, me_Table_allows, im_Table_allows, by decide, h9⟩
theorem fc_tbl {g : Gl} {w : Wd} {od e h sz wd : Nat} {B : MaB} (hO : w od = some (cO 4 [])) (ho : od < h ∨ h + 4 ≤ od) (hX : bgX w h) (hN : bgN w e wd B) (hd : e + 4 ≤ h ∨ h + 4 ≤ e) (hl : B.length ≤ 32) (hw : wd ≤ 4) : FC g w od e h sz (bg_st w h wd B) := by
  obtain ⟨f, m, pd, h1, h2⟩ := hN
  obtain ⟨wx, nx, fx, mx, px, x1, x2, x3⟩ := hX
  have h9 := c_Table_fill g (bq := 0) (sz := sz) x1 ho h1 hd hl hw
  rw [h2] at h9
  exact ⟨_, _, _, _, _, _, _, rfl, hO, df_Table, me_Table_fill, im_Table_fill, by decide, h9⟩
/-- what fill does for an operation -/
theorem fc_op {g : Gl} {w : Wd} {Z od hb h sz v : Nat} {sw : Nat → Bool} {wd : Nat → Nat} {β : Nat → MaB} {o : VOp} (hO : OPo w Z od (wd v) o) (hW : WO wd v o) (ho : od < h ∨ h + 4 ≤ od) (hX : bgX w h)
    (hS : ∀ u, u < v → bgN w (nwA Z sw u) (wd u) (β u) ∧ (β u).length ≤ 32 ∧ wd u ≤ 4 ∧ (nwA Z sw u + 4 ≤ h ∨ h + 4 ≤ nwA Z sw u) ∧ (VA Z u < h ∨ h + 4 ≤ VA Z u) ∧ ∃ q1 q2 q3, w (VA Z u) = some (cO 1 [q1, .ref (nwA Z sw u), q2, q3])) :
    FC g w od hb h sz (bg_st w h (wd v) (ma_foldC [] (op_adds (wd v) β o))) := by
  obtain ⟨wx, nx, fx, mx, px, x1, x2, x3⟩ := hX
  obtain ⟨k, e, f, P, Q, R⟩ := o
  obtain ⟨hw1, hw4, hh⟩ := hW
  unfold OPo at hO
  dsimp only at hO hh
  rcases hh with ⟨rfl, he, hww, pp, rfl, hp⟩ | ⟨rfl, he, hcc⟩ | ⟨rfl, he, hf, hww, pp, qq, rfl, rfl, hp, hq⟩ | ⟨rfl, he, hf, hww1, hww2⟩ | ⟨rfl, he, hww⟩ | ⟨kd, hkd, rfl, he, hww, pp, qq, rfl, rfl, hp, hq⟩
  · have hO : w od = some (cO 5 [.ref (VA Z e), .int (nI pp), .int Q, .int R]) := by
      rcases hO with ⟨a, _⟩ | ⟨_, b⟩ | ⟨a, _⟩ | ⟨a, _⟩ | ⟨a, _⟩ | ⟨a, _⟩ | ⟨kd, _, a, _⟩
      · omega
      · exact b
      all_goals omega
    obtain ⟨⟨fe, me, pe, hE, hEB⟩, hl, h4, hd, hvo, q1, q2, q3, hV⟩ := hS e he
    have h9 := c_Select_fill g (bq := hb) (sz := sz) x1 ho hE hd hl h4 hV hO hp
    rw [hEB, ← hww] at h9
    rw [oa1, i2n_nI (by omega)]
    exact ⟨_, _, _, _, _, _, _, rfl, hO, df_Select, me_Select_fill, im_Select_fill, by decide, h9⟩
  · have hO : w od = some (cO 6 [.ref (VA Z e), .int (nI (wd v)), .int P]) := by
      rcases hO with ⟨a, _⟩ | ⟨a, _⟩ | ⟨_, b⟩ | ⟨a, _⟩ | ⟨a, _⟩ | ⟨a, _⟩ | ⟨kd, _, a, _⟩
      · omega
      · omega
      · exact b
      all_goals omega
    obtain ⟨⟨fe, me, pe, hE, hEB⟩, hl, h4, hd, hvo, q1, q2, q3, hV⟩ := hS e he
    have h9 := c_Project_fill g (bq := hb) (sz := sz) x1 ho hE hd hl h4 hV hO hw4 hcc
    rw [hEB] at h9
    rw [oa2]
    exact ⟨_, _, _, _, _, _, _, rfl, hO, df_Project, me_Project_fill, im_Project_fill, by decide, h9⟩
  · have hO : w od = some (cO 7 [.ref (VA Z e), .ref (VA Z f), .int (nI pp), .int (nI qq)]) := by
      rcases hO with ⟨a, _⟩ | ⟨a, _⟩ | ⟨a, _⟩ | ⟨_, b⟩ | ⟨a, _⟩ | ⟨a, _⟩ | ⟨kd, _, a, _⟩
      · omega
      · omega
      · omega
      · exact b
      all_goals omega
    obtain ⟨⟨fe, me, pe, hE, hEB⟩, hl, h4, hd, hvo, q1, q2, q3, hV⟩ := hS e he
    obtain ⟨⟨fe2, me2, pe2, hE2, hEB2⟩, hl2, h42, hd2, hvo2, p1, p2, p3, hV2⟩ := hS f hf
    have h9 := c_Join_fill g (bq := hb) (sz := sz) x1 ho hE hd hl h4 hE2 hd2 hl2 hV hV2 hvo hvo2 hO hp hq (by omega)
    rw [hEB, hEB2, ← hww] at h9
    rw [oa3, i2n_nI (by omega), i2n_nI (by omega)]
    exact ⟨_, _, _, _, _, _, _, rfl, hO, df_Join, me_Join_fill, im_Join_fill, by decide, h9⟩
  · have hO : w od = some (cO 8 [.ref (VA Z e), .ref (VA Z f)]) := by
      rcases hO with ⟨a, _⟩ | ⟨a, _⟩ | ⟨a, _⟩ | ⟨a, _⟩ | ⟨_, b⟩ | ⟨a, _⟩ | ⟨kd, _, a, _⟩
      · omega
      · omega
      · omega
      · omega
      · exact b
      all_goals omega
    obtain ⟨⟨fe, me, pe, hE, hEB⟩, hl, h4, hd, hvo, q1, q2, q3, hV⟩ := hS e he
    obtain ⟨⟨fe2, me2, pe2, hE2, hEB2⟩, hl2, h42, hd2, hvo2, p1, p2, p3, hV2⟩ := hS f hf
    rw [hww1] at hE hEB
    rw [hww2] at hE2 hEB2
    have h9 := c_Union_fill g (bq := hb) (sz := sz) x1 ho hE hd hl hw4 hE2 hd2 hl2 hV hV2 hvo hvo2 hO
    rw [hEB, hEB2] at h9
    rw [oa4]
    exact ⟨_, _, _, _, _, _, _, rfl, hO, df_Union, me_Union_fill, im_Union_fill, by decide, h9⟩
  · have hO : w od = some (cO 10 [.ref (VA Z e)]) := by
      rcases hO with ⟨a, _⟩ | ⟨a, _⟩ | ⟨a, _⟩ | ⟨a, _⟩ | ⟨a, _⟩ | ⟨_, b⟩ | ⟨kd, _, a, _⟩
      · omega
      · omega
      · omega
      · omega
      · omega
      · exact b
      · omega
    obtain ⟨⟨fe, me, pe, hE, hEB⟩, hl, h4, hd, hvo, q1, q2, q3, hV⟩ := hS e he
    have h9 := c_Distinct_fill g (bq := hb) (sz := sz) x1 ho hE hd hl h4 hV hO
    rw [hEB, hww] at h9
    rw [oa8]
    exact ⟨_, _, _, _, _, _, _, rfl, hO, df_Distinct, me_Distinct_fill, im_Distinct_fill, by decide, h9⟩
  · have hO : w od = some (cO 9 [.ref (VA Z e), .int (nI kd), .int (nI pp), .int (nI qq)]) := by
      rcases hO with ⟨a, _⟩ | ⟨a, _⟩ | ⟨a, _⟩ | ⟨a, _⟩ | ⟨a, _⟩ | ⟨a, _⟩ | ⟨kd2, _, a, b⟩
      · omega
      · omega
      · omega
      · omega
      · omega
      · omega
      · obtain rfl : kd = kd2 := by omega
        exact b
    obtain ⟨⟨fe, me, pe, hE, hEB⟩, hl, h4, hd, hvo, q1, q2, q3, hV⟩ := hS e he
    have h9 := c_Group_fill g (bq := hb) (sz := sz) x1 ho hE hd hl h4 hV hO hkd hp hq
    rw [hEB] at h9
    rw [oa5 hkd, i2n_nI (by omega), i2n_nI (by omega), hww]
    exact ⟨_, _, _, _, _, _, _, rfl, hO, df_Group, me_Group_fill, im_Group_fill, by decide, h9⟩
