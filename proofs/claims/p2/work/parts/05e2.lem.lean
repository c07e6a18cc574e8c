def LAp (q : Nat → Int64) (t : Int) (r : Int32) : Prop := (r.toInt = -1 ∧ ¬ ((q 1).toInt - (q 5).toInt ≤ t ∧ t ≤ (q 1).toInt - 1)) ∨ ((q 1).toInt - (q 5).toInt ≤ t ∧ t ≤ (q 1).toInt - 1 ∧ ∃ l : Nat, r = nI (522 + 3 * l) ∧ (l : Int) < (q 5).toInt)
theorem la_or {q : Nat → Int64} {t : Int} {r : Int32} (h : LAp q t r) (h5 : (q 5).toInt ≤ 128) : r.toInt = -1 ∨ 522 ≤ r.toInt := by
  rcases h with h | ⟨_, _, l, e, hl⟩
  · exact Or.inl h.1
  · right; rw [e, nI_toInt (by omega)]; omega
theorem la_in {q : Nat → Int64} {t : Int} {r : Int32} (h : LAp q t r) : r.toInt = -1 ∨ ((q 1).toInt - (q 5).toInt ≤ t ∧ t ≤ (q 1).toInt - 1) := by
  rcases h with h | ⟨a, b, _⟩
  · exact Or.inl h.1
  · exact Or.inr ⟨a, b⟩
theorem la_get {q : Nat → Int64} {t : Int} {r : Int32} (h : LAp q t r) (h1 : (q 1).toInt - (q 5).toInt ≤ t) (h2 : t ≤ (q 1).toInt - 1) : ∃ l : Nat, r = nI (522 + 3 * l) ∧ (l : Int) < (q 5).toInt := by
  rcases h with h | ⟨_, _, h⟩
  · exact absurd ⟨h1, h2⟩ h.2
  · exact h
theorem la_ne {q : Nat → Int64} {t : Int} {r : Int32} (h : LAp q t r) (h1 : r.toInt ≠ -1) : ∃ l : Nat, r = nI (522 + 3 * l) ∧ (l : Int) < (q 5).toInt := by
  rcases h with h | ⟨_, _, h⟩
  · exact absurd h.1 h1
  · exact h
