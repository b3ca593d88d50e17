/-! making a view -/
theorem CR.beg {w w' : Wd} {Z sz o2 : Nat} {a : As} {sw : Nat → Bool} {od : Nat → Nat} (h : CR w Z sz a sw od) (hn : a.1 < 12) (hq : ∀ q, q ≠ VA Z a.1 → (q < nwA Z sw a.1 ∨ nwA Z sw a.1 + 4 ≤ q) → w' q = w q) (hv : w' (VA Z a.1) = some (cO 1 [.ref o2, .ref (nwA Z sw a.1), .ref (bfA Z sw a.1), .int (nI 0)])) (hx : bgX w' (nwA Z sw a.1)) (ho : Z + 147 ≤ o2) (ho2 : o2 < sz) : CR w' Z sz a sw (va_up od a.1 o2) := by
  obtain ⟨h1, ⟨fV, h2, h2'⟩, ⟨x, y, z, u, h3, h3'⟩, h4, h5, h6, h7⟩ := h
  have hva : VA Z a.1 = Z + 7 + 10 * a.1 := rfl
  have hc := nwA_c Z sw a.1
  refine ⟨(hq _ (by omega) (by omega)).trans h1, ⟨fV, (hq _ (by omega) (by omega)).trans h2, h2'⟩, ⟨x, y, z, u, h3.mv (fun q h h' => hq q (by omega) (by omega)), h3'⟩, fun i hi => ?_, fun i hi => ?_, h6, h7⟩
  · obtain ⟨⟨mx, c1, c2⟩, c3, c4, c5, c6⟩ := h4 i hi
    by_cases e : i = a.1
    · subst e
      rw [va_up_self]
      exact ⟨⟨_, hv, fun h => absurd h (Nat.lt_irrefl _)⟩, hx, c4.mv (fun q h h' => hq q (by omega) (by omega)), Or.inr ho, ho2⟩
    · rw [va_up_ne _ _ e]
      have hvi : VA Z i = Z + 7 + 10 * i := rfl
      have hci := nwA_c Z sw i
      exact ⟨⟨mx, (hq _ (by omega) (by omega)).trans c1, c2⟩, c3.mv (fun q h h' => hq q (by omega) (by omega)), c4.mv (fun q h h' => hq q (by omega) (by omega)), c5, c6⟩
  · obtain ⟨c1, c2⟩ := h5 i hi
    have e : i ≠ a.1 := Nat.ne_of_lt hi
    have hvi : VA Z i = Z + 7 + 10 * i := rfl
    have hci := nwA_c Z sw i
    have hoi := (h4 i (by omega)).2.2.2.1
    rw [va_up_ne _ _ e]
    exact ⟨c1.mv (fun q h h' => hq q (by omega) (by omega)), c2.mv (hq _ (by omega) (by omega))⟩
theorem CR.inc {w w' : Wd} {Z sz wv : Nat} {a : As} {o : VOp} {sw : Nat → Bool} {od : Nat → Nat} (h : CR w Z sz a sw od) (hn3 : 3 ≤ a.1) (hn : a.1 < 12) (hz : w' Z = some (cO 0 [.ref (Z + 1), .int (nI (a.1 + 1)), .ref (Z + 2)])) (hq : ∀ q, q ≠ Z → w' q = w q) (hv : w (VA Z a.1) = some (cO 1 [.ref (od a.1), .ref (nwA Z sw a.1), .ref (bfA Z sw a.1), .int (nI 0)])) (hN : bgN w (nwA Z sw a.1) wv (vnew a o wv)) (hO : OPo w Z (od a.1) wv o) : CR w' Z sz (mkv a o wv) sw od := by
  obtain ⟨h1, ⟨fV, h2, h2'⟩, ⟨x, y, z, u, h3, h3'⟩, h4, h5, h6, h7⟩ := h
  refine ⟨hz, ⟨fV, (hq _ (by omega)).trans h2, h2'⟩, ⟨x, y, z, u, h3.mv (fun q h _ => hq q (by omega)), h3'⟩, fun i hi => ?_, fun i hi => ?_, fun i hi => ?_, h7⟩
  · obtain ⟨⟨mx, c1, c2⟩, c3, c4, c5, c6⟩ := h4 i hi
    have hvi : VA Z i = Z + 7 + 10 * i := rfl
    have hci := nwA_c Z sw i
    refine ⟨?_, c3.mv (fun q h _ => hq q (by omega)), c4.mv (fun q h _ => hq q (by omega)), c5, c6⟩
    by_cases e : i = a.1
    · subst e
      refine ⟨nI 0, (hq _ (by omega)).trans hv, fun _ => ?_⟩
      show nI 0 = nI (va_up a.2.2.2.2.1 a.1 0 a.1)
      rw [va_up_self]
    · refine ⟨mx, (hq _ (by omega)).trans c1, fun h => ?_⟩
      show mx = nI (va_up a.2.2.2.2.1 a.1 0 i)
      rw [va_up_ne _ _ e]
      have h : i < a.1 + 1 := h
      exact c2 (by omega)
  · have hi : i < a.1 + 1 := hi
    have hvi : VA Z i = Z + 7 + 10 * i := rfl
    have hci := nwA_c Z sw i
    have hoi := (h4 i (by omega)).2.2.2.1
    show bgN w' (nwA Z sw i) (va_up a.2.1 a.1 wv i) (va_up a.2.2.2.1 a.1 (vnew a o wv) i) ∧ OPo w' Z (od i) (va_up a.2.1 a.1 wv i) (va_up a.2.2.1 a.1 o i)
    by_cases e : i = a.1
    · subst e
      rw [va_up_self, va_up_self, va_up_self]
      exact ⟨hN.mv (fun q h _ => hq q (by omega)), hO.mv (hq _ (by omega))⟩
    · rw [va_up_ne _ _ e, va_up_ne _ _ e, va_up_ne _ _ e]
      obtain ⟨c1, c2⟩ := h5 i (by omega)
      exact ⟨c1.mv (fun q h _ => hq q (by omega)), c2.mv (hq _ (by omega))⟩
  · show (va_up a.2.2.1 a.1 o i).1 = 0
    rw [va_up_ne _ _ (by omega)]
    exact h6 i hi
