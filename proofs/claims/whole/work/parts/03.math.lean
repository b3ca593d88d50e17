/-! Bags of rows as sorted lists: the mathematics that both programs meet in. -/
def ma_lt : List Int32 → List Int32 → Bool
  | x :: xs, y :: ys => decide (x < y) || (decide (x = y) && ma_lt xs ys)
  | _, _ => false
abbrev MaB : Type := List (List Int32 × Int64)
theorem ma_lt_cons (x y : Int32) (xs ys : List Int32) : ma_lt (x :: xs) (y :: ys) = true ↔ x < y ∨ (x = y ∧ ma_lt xs ys = true) := by
  simp [ma_lt]
theorem ma_lt_irr (r : List Int32) : ma_lt r r = false := by
  induction r with
  | nil => rfl
  | cons x t ih => simp [ma_lt, ih]
theorem ma_lt_trans : ∀ {a b c : List Int32}, ma_lt a b = true → ma_lt b c = true → ma_lt a c = true
  | [], _, _, h, _ => by simp [ma_lt] at h
  | _ :: _, [], _, h, _ => by simp [ma_lt] at h
  | _ :: _, _ :: _, [], _, h => by simp [ma_lt] at h
  | x :: xs, y :: ys, z :: zs, h, g => by
    rw [ma_lt_cons] at h g ⊢
    rcases h with h | ⟨rfl, h⟩
    · rcases g with g | ⟨rfl, g⟩
      · exact Or.inl (Int32.lt_trans h g)
      · exact Or.inl h
    · rcases g with g | ⟨rfl, g⟩
      · exact Or.inl g
      · exact Or.inr ⟨rfl, ma_lt_trans h g⟩
theorem ma_lt_asym {a b : List Int32} (h : ma_lt a b = true) : ma_lt b a = false := by
  cases g : ma_lt b a with
  | false => rfl
  | true =>
    have := ma_lt_trans h g
    rw [ma_lt_irr] at this
    cases this
theorem ma_lt_ne {a b : List Int32} (h : ma_lt a b = true) : a ≠ b := by
  rintro rfl
  rw [ma_lt_irr] at h
  cases h
theorem ma_i32_tri (x y : Int32) : x < y ∨ x = y ∨ y < x := by
  rw [Int32.lt_iff_toInt_lt, Int32.lt_iff_toInt_lt, ← Int32.toInt_inj]
  omega
theorem ma_lt_tri : ∀ {a b : List Int32}, a.length = b.length → ma_lt a b = true ∨ a = b ∨ ma_lt b a = true
  | [], [], _ => Or.inr (Or.inl rfl)
  | [], _ :: _, h => by simp at h
  | _ :: _, [], h => by simp at h
  | x :: xs, y :: ys, h => by
    rw [ma_lt_cons, ma_lt_cons]
    have h' : xs.length = ys.length := by simpa using h
    rcases ma_i32_tri x y with g | rfl | g
    · exact Or.inl (Or.inl g)
    · rcases ma_lt_tri h' with k | rfl | k
      · exact Or.inl (Or.inr ⟨rfl, k⟩)
      · exact Or.inr (Or.inl rfl)
      · exact Or.inr (Or.inr (Or.inr ⟨rfl, k⟩))
    · exact Or.inr (Or.inr (Or.inl g))
/-- a row's multiplicity -/
def ma_look : MaB → List Int32 → Int64
  | [], _ => 0
  | (q, k) :: t, r => if q = r then k else ma_look t r
/-- sorted insertion: the way of the system -/
def ma_add : MaB → List Int32 → Int64 → MaB
  | [], r, m => if m = 0 then [] else [(r, m)]
  | (q, k) :: t, r, m => if ma_lt q r = true then (q, k) :: ma_add t r m else if q = r then (if k + m = 0 then t else (q, k + m) :: t) else if m = 0 then (q, k) :: t else (r, m) :: (q, k) :: t
def ma_srt (b : MaB) : Prop := b.Pairwise (fun x y => ma_lt x.1 y.1 = true)
def ma_ok (n : Nat) (b : MaB) : Prop := ma_srt b ∧ ∀ x ∈ b, x.1.length = n ∧ x.2 ≠ 0
theorem ma_ok_nil (n : Nat) : ma_ok n [] := ⟨List.Pairwise.nil, fun _ h => by cases h⟩
theorem ma_ok_cons {n : Nat} {x : List Int32 × Int64} {t : MaB} : ma_ok n (x :: t) ↔ (x.1.length = n ∧ x.2 ≠ 0 ∧ ∀ y ∈ t, ma_lt x.1 y.1 = true) ∧ ma_ok n t := by
  unfold ma_ok ma_srt
  rw [List.pairwise_cons]
  constructor
  · rintro ⟨⟨h1, h2⟩, h3⟩
    exact ⟨⟨(h3 x List.mem_cons_self).1, (h3 x List.mem_cons_self).2, h1⟩, h2, fun y hy => h3 y (List.mem_cons_of_mem _ hy)⟩
  · rintro ⟨⟨h1, h2, h3⟩, h4, h5⟩
    refine ⟨⟨h3, h4⟩, fun y hy => ?_⟩
    rcases List.mem_cons.mp hy with rfl | hy
    · exact ⟨h1, h2⟩
    · exact h5 y hy
theorem ma_add_mem {b : MaB} {r : List Int32} {m : Int64} {x : List Int32 × Int64} (h : x ∈ ma_add b r m) : x ∈ b ∨ x.1 = r := by
  induction b with
  | nil =>
    simp only [ma_add] at h
    split at h
    · cases h
    · exact Or.inr (by rw [List.mem_singleton.mp h])
  | cons y t ih =>
    obtain ⟨q, k⟩ := y
    simp only [ma_add] at h
    split at h
    · rcases List.mem_cons.mp h with rfl | h
      · exact Or.inl List.mem_cons_self
      · rcases ih h with g | g
        · exact Or.inl (List.mem_cons_of_mem _ g)
        · exact Or.inr g
    · split at h
      · rename_i hq
        split at h
        · exact Or.inl (List.mem_cons_of_mem _ h)
        · rcases List.mem_cons.mp h with rfl | h
          · exact Or.inr hq
          · exact Or.inl (List.mem_cons_of_mem _ h)
      · split at h
        · exact Or.inl h
        · rcases List.mem_cons.mp h with rfl | h
          · exact Or.inr rfl
          · exact Or.inl h
theorem ma_add_ok {n : Nat} {b : MaB} {r : List Int32} {m : Int64} (h : ma_ok n b) (hr : r.length = n) : ma_ok n (ma_add b r m) := by
  induction b with
  | nil =>
    simp only [ma_add]
    split
    · exact ma_ok_nil n
    · rename_i hm
      exact ma_ok_cons.mpr ⟨⟨hr, hm, fun _ h => by cases h⟩, ma_ok_nil n⟩
  | cons y t ih =>
    obtain ⟨q, k⟩ := y
    obtain ⟨⟨h1, h2, h3⟩, h4⟩ := ma_ok_cons.mp h
    simp only [ma_add]
    split
    · rename_i hq
      refine ma_ok_cons.mpr ⟨⟨h1, h2, fun x hx => ?_⟩, ih h4⟩
      rcases ma_add_mem hx with g | g
      · exact h3 x g
      · rw [g]; exact hq
    · rename_i hq
      split
      · split
        · exact h4
        · rename_i hk
          exact ma_ok_cons.mpr ⟨⟨h1, hk, h3⟩, h4⟩
      · rename_i hqr
        split
        · exact h
        · rename_i hm
          have hlt : ma_lt r q = true := by
            rcases ma_lt_tri (a := r) (b := q) (hr.trans h1.symm) with g | g | g
            · exact g
            · exact absurd g.symm hqr
            · exact absurd g hq
          refine ma_ok_cons.mpr ⟨⟨hr, hm, fun x hx => ?_⟩, h⟩
          rcases List.mem_cons.mp hx with rfl | hx
          · exact hlt
          · exact ma_lt_trans hlt (h3 x hx)
theorem ma_look_no {b : MaB} {r : List Int32} (h : ∀ x ∈ b, x.1 ≠ r) : ma_look b r = 0 := by
  induction b with
  | nil => rfl
  | cons y t ih =>
    obtain ⟨q, k⟩ := y
    simp only [ma_look]
    rw [if_neg (h (q, k) List.mem_cons_self)]
    exact ih fun x hx => h x (List.mem_cons_of_mem _ hx)
theorem ma_add_look {n : Nat} {b : MaB} {r : List Int32} {m : Int64} (h : ma_ok n b) (hr : r.length = n) (z : List Int32) : ma_look (ma_add b r m) z = ma_look b z + if r = z then m else 0 := by
  induction b with
  | nil =>
    simp only [ma_add, ma_look]
    by_cases hm : m = 0
    · subst hm
      simp [ma_look]
    · rw [if_neg hm]
      simp [ma_look]
  | cons y t ih =>
    obtain ⟨q, k⟩ := y
    obtain ⟨⟨h1, h2, h3⟩, h4⟩ := ma_ok_cons.mp h
    simp only [ma_add]
    split
    · rename_i hq
      simp only [ma_look]
      split
      · rename_i hz
        subst hz
        rw [if_neg (fun e => ma_lt_ne hq e.symm)]
        simp
      · exact ih h4
    · rename_i hq
      split
      · rename_i hqr
        subst hqr
        have h5 : ∀ x ∈ t, x.1 ≠ q := fun x hx e => ma_lt_ne (h3 x hx) e.symm
        by_cases hz : q = z
        · subst hz
          split
          · rename_i hk
            rw [ma_look_no h5]
            simp [ma_look, hk]
          · simp [ma_look]
        · split
          · simp [ma_look, hz]
          · simp [ma_look, hz]
      · rename_i hqr
        by_cases hm : m = 0
        · subst hm
          simp
        · rw [if_neg hm]
          have hlt : ma_lt r q = true := by
            rcases ma_lt_tri (a := r) (b := q) (hr.trans h1.symm) with g | g | g
            · exact g
            · exact absurd g.symm hqr
            · exact absurd g hq
          have h5 : ∀ x ∈ (q, k) :: t, x.1 ≠ r := by
            intro x hx e
            rcases List.mem_cons.mp hx with rfl | hx
            · exact hqr e
            · exact ma_lt_ne (ma_lt_trans hlt (h3 x hx)) e.symm
          by_cases hz : r = z
          · subst hz
            rw [ma_look_no h5]
            simp [ma_look]
          · simp [ma_look, hz]
/-- gathering: the way of the reference -/
def ma_g : MaB → List Int32 → Int64 → MaB
  | [], r, m => [(r, m)]
  | (q, k) :: t, r, m => if q = r then (q, k + m) :: t else (q, k) :: ma_g t r m
def ma_nd (b : MaB) : Prop := b.Pairwise (fun x y => x.1 ≠ y.1)
theorem ma_g_mem {b : MaB} {r : List Int32} {m : Int64} {x : List Int32 × Int64} (h : x ∈ ma_g b r m) : (∃ y ∈ b, y.1 = x.1) ∨ x.1 = r := by
  induction b with
  | nil => exact Or.inr (by rw [List.mem_singleton.mp h])
  | cons y t ih =>
    obtain ⟨q, k⟩ := y
    simp only [ma_g] at h
    split at h
    · rcases List.mem_cons.mp h with rfl | h
      · exact Or.inl ⟨(q, k), List.mem_cons_self, rfl⟩
      · exact Or.inl ⟨x, List.mem_cons_of_mem _ h, rfl⟩
    · rcases List.mem_cons.mp h with rfl | h
      · exact Or.inl ⟨(q, k), List.mem_cons_self, rfl⟩
      · rcases ih h with ⟨y, hy, e⟩ | e
        · exact Or.inl ⟨y, List.mem_cons_of_mem _ hy, e⟩
        · exact Or.inr e
theorem ma_g_nd {b : MaB} {r : List Int32} {m : Int64} (h : ma_nd b) : ma_nd (ma_g b r m) := by
  induction b with
  | nil => exact List.pairwise_singleton _ _
  | cons y t ih =>
    obtain ⟨q, k⟩ := y
    unfold ma_nd at h ih ⊢
    rw [List.pairwise_cons] at h
    simp only [ma_g]
    split
    · rw [List.pairwise_cons]
      exact ⟨h.1, h.2⟩
    · rename_i hq
      rw [List.pairwise_cons]
      refine ⟨fun x hx => ?_, ih h.2⟩
      rcases ma_g_mem hx with ⟨y, hy, e⟩ | e
      · rw [← e]; exact h.1 y hy
      · rw [e]; exact hq
theorem ma_g_look {b : MaB} {r : List Int32} {m : Int64} (z : List Int32) : ma_look (ma_g b r m) z = ma_look b z + if r = z then m else 0 := by
  induction b with
  | nil => simp [ma_g, ma_look]
  | cons y t ih =>
    obtain ⟨q, k⟩ := y
    simp only [ma_g]
    split
    · rename_i hq
      subst hq
      by_cases hz : q = z
      · subst hz; simp [ma_look]
      · simp [ma_look, hz]
    · rename_i hq
      simp only [ma_look]
      split
      · rename_i hz
        subst hz
        rw [if_neg (fun e => hq e.symm)]
        simp
      · exact ih
theorem ma_look_mem {b : MaB} (h : ma_nd b) {x : List Int32 × Int64} (hx : x ∈ b) : ma_look b x.1 = x.2 := by
  induction b with
  | nil => cases hx
  | cons y t ih =>
    obtain ⟨q, k⟩ := y
    unfold ma_nd at h
    rw [List.pairwise_cons] at h
    simp only [ma_look]
    rcases List.mem_cons.mp hx with rfl | hx
    · simp
    · rw [if_neg (h.1 x hx)]
      exact ih h.2 hx
theorem ma_mem_look {b : MaB} {r : List Int32} (h : ma_look b r ≠ 0) : (r, ma_look b r) ∈ b := by
  induction b with
  | nil => exact absurd rfl h
  | cons y t ih =>
    obtain ⟨q, k⟩ := y
    simp only [ma_look] at h ⊢
    split
    · rename_i hq
      subst hq
      exact List.mem_cons_self
    · rename_i hq
      rw [if_neg hq] at h
      exact List.mem_cons_of_mem _ (ih h)
theorem ma_srt_nd {b : MaB} (h : ma_srt b) : ma_nd b := List.Pairwise.imp (fun {_ _} h => ma_lt_ne h) h
def ma_fold (b A : MaB) : MaB := A.foldl (fun c x => ma_add c x.1 x.2) b
def ma_gf (b A : MaB) : MaB := A.foldl (fun c x => ma_g c x.1 x.2) b
theorem ma_fold_ok {n : Nat} {A : MaB} : ∀ {b : MaB}, ma_ok n b → (∀ x ∈ A, x.1.length = n) → ma_ok n (ma_fold b A) := by
  induction A with
  | nil => intro b h _; exact h
  | cons y t ih => intro b h hA; exact ih (ma_add_ok h (hA y List.mem_cons_self)) (fun x hx => hA x (List.mem_cons_of_mem _ hx))
theorem ma_gf_nd {A : MaB} : ∀ {b : MaB}, ma_nd b → ma_nd (ma_gf b A) := by
  induction A with
  | nil => intro b h; exact h
  | cons y t ih => intro b h; exact ih (ma_g_nd h)
theorem ma_fold_look {n : Nat} {A : MaB} : ∀ {b g : MaB}, ma_ok n b → (∀ x ∈ A, x.1.length = n) → (∀ z, ma_look b z = ma_look g z) → ∀ z, ma_look (ma_fold b A) z = ma_look (ma_gf g A) z := by
  induction A with
  | nil => intro b g _ _ h; exact h
  | cons y t ih =>
    intro b g hb hA h
    refine ih (ma_add_ok hb (hA y List.mem_cons_self)) (fun x hx => hA x (List.mem_cons_of_mem _ hx)) (fun z => ?_)
    rw [ma_add_look hb (hA y List.mem_cons_self), ma_g_look, h]
theorem ma_nd_nodup {b : MaB} (h : ma_nd b) : b.Nodup := List.Pairwise.imp (fun {_ _} h e => h (congrArg Prod.fst e)) h
/-- what is gathered and not nought is, in some order, what sorted insertion gives -/
theorem ma_perm {n : Nat} {A : MaB} (hA : ∀ x ∈ A, x.1.length = n) : ((ma_gf [] A).filter (fun x => decide (x.2 ≠ 0))).Perm (ma_fold [] A) := by
  have h1 : ma_ok n (ma_fold [] A) := ma_fold_ok (ma_ok_nil n) hA
  have h2 : ma_nd (ma_gf [] A) := ma_gf_nd List.Pairwise.nil
  have h3 := ma_fold_look (b := []) (g := []) (ma_ok_nil n) hA (fun _ => rfl)
  refine (List.perm_ext_iff_of_nodup ((ma_nd_nodup h2).sublist List.filter_sublist) (ma_nd_nodup (ma_srt_nd h1.1))).mpr fun x => ?_
  rw [List.mem_filter]
  constructor
  · rintro ⟨hx, hz⟩
    have e := ma_look_mem h2 hx
    have hz : x.2 ≠ 0 := of_decide_eq_true hz
    have e2 : ma_look (ma_fold [] A) x.1 = x.2 := (h3 x.1).trans e
    have := ma_mem_look (b := ma_fold [] A) (r := x.1) (by rw [e2]; exact hz)
    rw [e2] at this
    exact this
  · intro hx
    have e := ma_look_mem (ma_srt_nd h1.1) hx
    have hz := (h1.2 x hx).2
    have e2 : ma_look (ma_gf [] A) x.1 = x.2 := (h3 x.1).symm.trans e
    have := ma_mem_look (b := ma_gf [] A) (r := x.1) (by rw [e2]; exact hz)
    rw [e2] at this
    exact ⟨this, decide_eq_true hz⟩
/-- in a sorted bag the place of a row is the number of those before it -/
theorem ma_rank {n : Nat} {b : MaB} (h : ma_ok n b) : ∀ {i : Nat} (hi : i < b.length), b.countP (fun x => ma_lt x.1 (b[i]).1) = i := by
  induction b with
  | nil => intro i hi; simp at hi
  | cons y t ih =>
    intro i hi
    obtain ⟨⟨h1, h2, h3⟩, h4⟩ := ma_ok_cons.mp h
    cases i with
    | zero =>
      rw [List.countP_eq_zero]
      intro x hx
      rcases List.mem_cons.mp hx with rfl | hx
      · simp [ma_lt_irr]
      · simp [ma_lt_asym (h3 x hx)]
    | succ j =>
      have hj : j < t.length := by simpa using hi
      have hy := h3 (t[j]) (List.getElem_mem hj)
      rw [List.countP_cons_of_pos (by simpa using hy)]
      have := ih h4 hj
      simp only [List.getElem_cons_succ]
      omega
/-! The system's room of 32 rows. -/
def ma_addC (b : MaB) (r : List Int32) (m : Int64) : MaB := if 32 ≤ b.length ∧ b.all (fun x => decide (x.1 ≠ r)) = true then b else ma_add b r m
def ma_foldC (b A : MaB) : MaB := A.foldl (fun c x => ma_addC c x.1 x.2) b
theorem ma_add_len (b : MaB) (r : List Int32) (m : Int64) : (ma_add b r m).length ≤ b.length + 1 := by
  induction b with
  | nil =>
    simp only [ma_add]
    split <;> simp
  | cons y t ih =>
    obtain ⟨q, k⟩ := y
    simp only [ma_add]
    split
    · simp only [List.length_cons]; omega
    · split
      · split
        · simp only [List.length_cons]; omega
        · simp only [List.length_cons]; omega
      · split
        · simp only [List.length_cons]; omega
        · simp only [List.length_cons]; omega
theorem ma_foldC_small {A : MaB} : ∀ {b : MaB}, b.length + A.length ≤ 32 → ma_foldC b A = ma_fold b A := by
  induction A with
  | nil => intro b _; rfl
  | cons y t ih =>
    intro b h
    simp only [List.length_cons] at h
    have e : ma_addC b y.1 y.2 = ma_add b y.1 y.2 := by
      unfold ma_addC
      rw [if_neg]
      rintro ⟨g, -⟩
      omega
    show ma_foldC (ma_addC b y.1 y.2) t = ma_fold (ma_add b y.1 y.2) t
    rw [e]
    have := ma_add_len b y.1 y.2
    exact ih (by omega)
theorem ma_add_new {n : Nat} {b : MaB} {r : List Int32} {m : Int64} (h : ma_ok n b) (hn : ∀ x ∈ b, x.1 ≠ r) : (m = 0 → ma_add b r m = b) ∧ (m ≠ 0 → (ma_add b r m).length = b.length + 1) := by
  induction b with
  | nil => simp only [ma_add]; exact ⟨fun e => by rw [if_pos e], fun e => by rw [if_neg e]; rfl⟩
  | cons y t ih =>
    obtain ⟨q, k⟩ := y
    obtain ⟨-, h4⟩ := ma_ok_cons.mp h
    have hq : ¬ q = r := hn (q, k) List.mem_cons_self
    obtain ⟨i1, i2⟩ := ih h4 (fun x hx => hn x (List.mem_cons_of_mem _ hx))
    simp only [ma_add]
    constructor
    · intro e
      split
      · rw [i1 e]
      · rfl
    · intro e
      split
      · simp only [List.length_cons]; rw [i2 e]
      · rfl
theorem ma_fold_new {n : Nat} {A : MaB} : ∀ {b : MaB}, ma_ok n b → (∀ x ∈ A, x.1.length = n) → ma_nd A → (∀ x ∈ A, ∀ y ∈ b, y.1 ≠ x.1) → (ma_fold b A).length = b.length + A.countP (fun x => decide (x.2 ≠ 0)) := by
  induction A with
  | nil => intro b _ _ _ _; rfl
  | cons y t ih =>
    intro b hb hA hd hn
    unfold ma_nd at hd
    rw [List.pairwise_cons] at hd
    obtain ⟨i1, i2⟩ := ma_add_new (m := y.2) hb (hn y List.mem_cons_self)
    have hn2 : ∀ x ∈ t, ∀ z ∈ ma_add b y.1 y.2, z.1 ≠ x.1 := by
      intro x hx z hz
      rcases ma_add_mem hz with g | g
      · exact hn x (List.mem_cons_of_mem _ hx) z g
      · rw [g]; exact hd.1 x hx
    have := ih (ma_add_ok hb (hA y List.mem_cons_self)) (fun x hx => hA x (List.mem_cons_of_mem _ hx)) hd.2 hn2
    show (ma_fold (ma_add b y.1 y.2) t).length = _
    rw [this]
    by_cases hz : y.2 = 0
    · rw [i1 hz, List.countP_cons_of_neg (by simp [hz])]
    · rw [i2 hz, List.countP_cons_of_pos (by simp [hz])]
      omega
theorem ma_foldC_new {n : Nat} {A : MaB} : ∀ {b : MaB}, ma_ok n b → b.length ≤ 32 → (∀ x ∈ A, x.1.length = n) → ma_nd A → (∀ x ∈ A, ∀ y ∈ b, y.1 ≠ x.1) →
    (b.length + A.countP (fun x => decide (x.2 ≠ 0)) ≤ 32 → ma_foldC b A = ma_fold b A) ∧ (32 ≤ b.length + A.countP (fun x => decide (x.2 ≠ 0)) → (ma_foldC b A).length = 32) := by
  induction A with
  | nil => intro b _ h1 _ _ _; exact ⟨fun _ => rfl, fun h => by simp at h; show b.length = 32; omega⟩
  | cons y t ih =>
    intro b hb h1 hA hd hn
    unfold ma_nd at hd
    rw [List.pairwise_cons] at hd
    obtain ⟨i1, i2⟩ := ma_add_new (m := y.2) hb (hn y List.mem_cons_self)
    have hn2 : ∀ x ∈ t, ∀ z ∈ ma_add b y.1 y.2, z.1 ≠ x.1 := by
      intro x hx z hz
      rcases ma_add_mem hz with g | g
      · exact hn x (List.mem_cons_of_mem _ hx) z g
      · rw [g]; exact hd.1 x hx
    have hA2 : ∀ x ∈ t, x.1.length = n := fun x hx => hA x (List.mem_cons_of_mem _ hx)
    show (_ → ma_foldC (ma_addC b y.1 y.2) t = ma_fold (ma_add b y.1 y.2) t) ∧ (_ → (ma_foldC (ma_addC b y.1 y.2) t).length = 32)
    by_cases hz : y.2 = 0
    · have e2 : ma_add b y.1 y.2 = b := i1 hz
      have e : ma_addC b y.1 y.2 = b := by
        unfold ma_addC
        split
        · rfl
        · exact e2
      rw [e, e2, List.countP_cons_of_neg (by simp [hz])]
      exact ih hb h1 hA2 hd.2 (fun x hx => hn x (List.mem_cons_of_mem _ hx))
    · rw [List.countP_cons_of_pos (by simp [hz])]
      by_cases hl : b.length < 32
      · have e : ma_addC b y.1 y.2 = ma_add b y.1 y.2 := by
          unfold ma_addC
          rw [if_neg]
          rintro ⟨g, -⟩
          omega
        rw [e]
        have e3 := i2 hz
        obtain ⟨j1, j2⟩ := ih (ma_add_ok hb (hA y List.mem_cons_self)) (by omega) hA2 hd.2 hn2
        exact ⟨fun h => j1 (by omega), fun h => j2 (by omega)⟩
      · have e : ma_addC b y.1 y.2 = b := by
          unfold ma_addC
          rw [if_pos]
          refine ⟨by omega, List.all_eq_true.mpr fun x hx => decide_eq_true (hn y List.mem_cons_self x hx)⟩
        rw [e]
        obtain ⟨-, j2⟩ := ih hb h1 hA2 hd.2 (fun x hx => hn x (List.mem_cons_of_mem _ hx))
        exact ⟨fun h => by omega, fun _ => j2 (by omega)⟩
/-! In how many rows two bags differ: by merging, and by two counts. -/
def ma_mv : MaB → MaB → Nat
  | [], y => y.length
  | x :: xs, [] => (x :: xs).length
  | (q, k) :: xs, (r, m) :: ys => if ma_lt q r = true then 1 + ma_mv xs ((r, m) :: ys) else if q = r then (if k = m then 0 else 1) + ma_mv xs ys else 1 + ma_mv ((q, k) :: xs) ys
  termination_by x y => x.length + y.length
def ma_mv2 (x y : MaB) : Nat := y.countP (fun e => decide (ma_look x e.1 ≠ e.2)) + x.countP (fun e => decide (ma_look y e.1 = 0))
theorem ma_mv_eq {n : Nat} : ∀ (N : Nat) (x y : MaB), x.length + y.length ≤ N → ma_ok n x → ma_ok n y → ma_mv x y = ma_mv2 x y := by
  intro N
  induction N with
  | zero =>
    intro x y h _ _
    have hx : x = [] := List.length_eq_zero_iff.mp (by omega)
    have hy : y = [] := List.length_eq_zero_iff.mp (by omega)
    subst hx; subst hy
    simp [ma_mv, ma_mv2]
  | succ N ih =>
    intro x y h hx hy
    match x, y with
    | [], y =>
      rw [ma_mv]
      unfold ma_mv2
      rw [List.countP_nil, List.countP_eq_length.mpr]
      · rfl
      · intro e he
        have := (hy.2 e he).2
        simp [ma_look, Ne.symm this]
    | a :: xs, [] =>
      rw [ma_mv]
      unfold ma_mv2
      rw [List.countP_nil, List.countP_eq_length.mpr]
      · omega
      · intro e _
        simp [ma_look]
    | (q, k) :: xs, (r, m) :: ys =>
      obtain ⟨⟨a1, a2, a3⟩, a4⟩ := ma_ok_cons.mp hx
      obtain ⟨⟨b1, b2, b3⟩, b4⟩ := ma_ok_cons.mp hy
      simp only [List.length_cons] at h
      dsimp only at a1 a2 a3 b1 b2 b3
      rw [ma_mv]
      rcases ma_lt_tri (a := q) (b := r) (a1.trans b1.symm) with g | g | g
      · rw [if_pos g, ih xs ((r, m) :: ys) (by simp only [List.length_cons]; omega) a4 hy]
        have hno : ∀ e ∈ (r, m) :: ys, q ≠ e.1 := by
          intro e he
          rcases List.mem_cons.mp he with rfl | he
          · exact ma_lt_ne g
          · exact ma_lt_ne (ma_lt_trans g (b3 e he))
        unfold ma_mv2
        rw [List.countP_cons_of_pos (a := (q, k)) (l := xs) (by simp [ma_look_no (b := (r, m) :: ys) (r := q) (fun e he => (hno e he).symm)])]
        rw [List.countP_congr (l := (r, m) :: ys) (p := fun e => decide (ma_look ((q, k) :: xs) e.1 ≠ e.2)) (q := fun e => decide (ma_look xs e.1 ≠ e.2)) (fun e he => by simp [ma_look, hno e he])]
        omega
      · subst g
        rw [if_neg (by rw [ma_lt_irr]; decide), if_pos rfl, ih xs ys (by omega) a4 b4]
        have hx2 : ∀ e ∈ ys, q ≠ e.1 := fun e he => ma_lt_ne (b3 e he)
        have hy2 : ∀ e ∈ xs, q ≠ e.1 := fun e he => ma_lt_ne (a3 e he)
        unfold ma_mv2
        rw [List.countP_cons_of_neg (a := (q, k)) (l := xs) (by simp [ma_look, b2])]
        rw [List.countP_cons (a := (q, m)) (l := ys)]
        rw [List.countP_congr (l := ys) (p := fun e => decide (ma_look ((q, k) :: xs) e.1 ≠ e.2)) (q := fun e => decide (ma_look xs e.1 ≠ e.2)) (fun e he => by simp [ma_look, hx2 e he])]
        rw [List.countP_congr (l := xs) (p := fun e => decide (ma_look ((q, m) :: ys) e.1 = 0)) (q := fun e => decide (ma_look ys e.1 = 0)) (fun e he => by simp [ma_look, hy2 e he])]
        by_cases hk : k = m
        · simp [ma_look, hk]
        · simp [ma_look, hk]; omega
      · have g' : ¬ ma_lt q r = true := by rw [ma_lt_asym g]; decide
        rw [if_neg g', if_neg (fun e => ma_lt_ne g e.symm), ih ((q, k) :: xs) ys (by simp only [List.length_cons]; omega) hx b4]
        have hno : ∀ e ∈ (q, k) :: xs, r ≠ e.1 := by
          intro e he
          rcases List.mem_cons.mp he with rfl | he
          · exact ma_lt_ne g
          · exact ma_lt_ne (ma_lt_trans g (a3 e he))
        unfold ma_mv2
        rw [List.countP_cons_of_pos (a := (r, m)) (l := ys) (by simp [ma_look_no (b := (q, k) :: xs) (r := r) (fun e he => (hno e he).symm), Ne.symm b2])]
        rw [List.countP_congr (l := (q, k) :: xs) (p := fun e => decide (ma_look ((r, m) :: ys) e.1 = 0)) (q := fun e => decide (ma_look ys e.1 = 0)) (fun e he => by simp [ma_look, hno e he])]
        omega
