/-! Rows and bags as they lie in arrays. -/
def ar_row (f : Nat → Int32) (n a : Nat) : List Int32 := (List.range n).map (fun c => f (a + c))
theorem ar_row_len (f : Nat → Int32) (n a : Nat) : (ar_row f n a).length = n := by simp [ar_row]
theorem ar_row_0 (f : Nat → Int32) (a : Nat) : ar_row f 0 a = [] := rfl
theorem ar_row_cons (f : Nat → Int32) (n a : Nat) : ar_row f (n + 1) a = f a :: ar_row f n (a + 1) := by
  unfold ar_row
  rw [List.range_succ_eq_map, List.map_cons, List.map_map]
  congr 1
  apply List.map_congr_left
  intro c _
  show f (a + (c + 1)) = f (a + 1 + c)
  congr 1
  omega
theorem ar_row_snoc (f : Nat → Int32) (n a : Nat) : ar_row f (n + 1) a = ar_row f n a ++ [f (a + n)] := by
  simp [ar_row, List.range_succ]
theorem ar_row_congr {f g : Nat → Int32} {n a b : Nat} (h : ∀ c, c < n → f (a + c) = g (b + c)) : ar_row f n a = ar_row g n b := by
  unfold ar_row
  apply List.map_congr_left
  intro c hc
  exact h c (List.mem_range.mp hc)
theorem ar_row_get {f : Nat → Int32} {n a c : Nat} (h : c < n) : (ar_row f n a)[c]? = some (f (a + c)) := by
  simp [ar_row, h]
theorem ar_row_inj {f g : Nat → Int32} {n a b : Nat} (h : ar_row f n a = ar_row g n b) : ∀ c, c < n → f (a + c) = g (b + c) := by
  intro c hc
  have h1 := ar_row_get (f := f) (a := a) hc
  rw [h, ar_row_get hc] at h1
  exact (Option.some.inj h1).symm
theorem ar_row_lt {f g : Nat → Int32} : ∀ {n a b c : Nat}, c < n → f (a + c) < g (b + c) → (∀ j, j < c → f (a + j) = g (b + j)) → ma_lt (ar_row f n a) (ar_row g n b) = true
  | 0, _, _, _, h, _, _ => absurd h (Nat.not_lt_zero _)
  | n + 1, a, b, 0, _, h2, _ => by
    rw [ar_row_cons, ar_row_cons, ma_lt_cons]
    exact Or.inl h2
  | n + 1, a, b, c + 1, h1, h2, h3 => by
    rw [ar_row_cons, ar_row_cons, ma_lt_cons]
    refine Or.inr ⟨h3 0 (by omega), ar_row_lt (c := c) (by omega) ?_ (fun j hj => ?_)⟩
    · have e1 : a + 1 + c = a + (c + 1) := by omega
      have e2 : b + 1 + c = b + (c + 1) := by omega
      rw [e1, e2]; exact h2
    · have e1 : a + 1 + j = a + (j + 1) := by omega
      have e2 : b + 1 + j = b + (j + 1) := by omega
      rw [e1, e2]; exact h3 (j + 1) (by omega)
/-- n rows, row r at 4 * (o + r), its number at o + r -/
def ar_bag (f : Nat → Int32) (m : Nat → Int64) (w o n : Nat) : MaB := (List.range n).map (fun r => (ar_row f w (4 * (o + r)), m (o + r)))
theorem ar_bag_len (f : Nat → Int32) (m : Nat → Int64) (w o n : Nat) : (ar_bag f m w o n).length = n := by simp [ar_bag]
theorem ar_bag_get {f : Nat → Int32} {m : Nat → Int64} {w o n r : Nat} (h : r < n) : (ar_bag f m w o n)[r]? = some (ar_row f w (4 * (o + r)), m (o + r)) := by
  simp [ar_bag, h]
theorem ar_bag_snoc (f : Nat → Int32) (m : Nat → Int64) (w o n : Nat) : ar_bag f m w o (n + 1) = ar_bag f m w o n ++ [(ar_row f w (4 * (o + n)), m (o + n))] := by
  simp [ar_bag, List.range_succ]
theorem ar_bag_congr {f g : Nat → Int32} {m k : Nat → Int64} {w o p n : Nat} (h1 : ∀ r, r < n → ∀ c, c < w → f (4 * (o + r) + c) = g (4 * (p + r) + c)) (h2 : ∀ r, r < n → m (o + r) = k (p + r)) : ar_bag f m w o n = ar_bag g k w p n := by
  unfold ar_bag
  apply List.map_congr_left
  intro r hr
  have hr := List.mem_range.mp hr
  rw [h2 r hr, ar_row_congr (h1 r hr)]
theorem ar_ext {b : MaB} {f : Nat → Int32} {m : Nat → Int64} {w o n : Nat} (hl : b.length = n) (h : ∀ r, r < n → b[r]? = some (ar_row f w (4 * (o + r)), m (o + r))) : b = ar_bag f m w o n := by
  apply List.ext_getElem?
  intro i
  by_cases hi : i < n
  · rw [h i hi, ar_bag_get hi]
  · rw [List.getElem?_eq_none (by omega), List.getElem?_eq_none (by rw [ar_bag_len]; omega)]
theorem ar_bag_mem {f : Nat → Int32} {m : Nat → Int64} {w o n : Nat} {x : List Int32 × Int64} (h : x ∈ ar_bag f m w o n) : ∃ r, r < n ∧ x = (ar_row f w (4 * (o + r)), m (o + r)) := by
  obtain ⟨r, hr, rfl⟩ := List.mem_map.mp h
  exact ⟨r, List.mem_range.mp hr, rfl⟩
/-! numbers -/
theorem ix_inc (k : Nat) : nI k + Int32.ofInt 1 = nI (k + 1) := (nI_succ k).symm
theorem ix_4a (r c : Nat) : nI r * 4 + nI c = nI (4 * r + c) := by
  show nI r * nI 4 + nI c = _
  rw [pk_mul, nI_add, Nat.mul_comm]
theorem ix_4b (r c : Nat) : 4 * nI r + nI c = nI (4 * r + c) := by
  show nI 4 * nI r + nI c = _
  rw [pk_mul, nI_add]
theorem ix_16 (b r : Nat) : 16 * nI b + nI r = nI (16 * b + r) := by
  show nI 16 * nI b + nI r = _
  rw [pk_mul, nI_add]
theorem ix_64 (b r : Nat) : 64 * nI b + nI r = nI (64 * b + r) := by
  show nI 64 * nI b + nI r = _
  rw [pk_mul, nI_add]
theorem ix_m4 (r : Nat) : nI r * 4 = nI (4 * r) := by
  show nI r * nI 4 = _
  rw [pk_mul, Nat.mul_comm]
