def q_g (w : Cond) : Prop := w ∈ lw_tbl ∧ ((w.onTables && w.keeps) = true ∨ ∃ ty, w = .arrayClass ty)
theorem q_nil : ∀ w ∈ ([] : List Cond), q_g w := fun _ h => absurd h List.not_mem_nil
theorem q_cons {c : Cond} {a : List Cond} (hc : q_g c) (ha : ∀ w ∈ a, q_g w) : ∀ w ∈ c :: a, q_g w := fun w h => (List.mem_cons.mp h).elim (fun e => by rw [e]; exact hc) (ha w)
theorem q_app {a b : List Cond} (ha : ∀ w ∈ a, q_g w) (hb : ∀ w ∈ b, q_g w) : ∀ w ∈ a ++ b, q_g w := fun w h => (List.mem_append.mp h).elim (ha w) (hb w)
theorem gi_V {big : List Cond} {own : String} {idx : Nat} {C : String} {y : MethodName} {ws : List Cond} (h : GoodIn big ws) (h1 : .methodLink own idx y ∈ big) (h2 : .instanceMethod y ∈ big) (h3 : .selects C y y ∈ big) (h4 : .initialized C ∈ big) : GoodIn big (wsV own idx C y ws) := by
  intro w hw
  unfold wsV at hw
  rcases List.mem_append.mp hw with q | q
  · simp only [List.mem_cons, List.not_mem_nil, or_false] at q
    rcases q with rfl | rfl | rfl | rfl
    · exact ⟨h1, good_of_word (by rfl)⟩
    · exact ⟨h2, good_of_word (by rfl)⟩
    · exact ⟨h3, good_of_word (by rfl)⟩
    · exact ⟨h4, good_of_word (by rfl)⟩
  · exact h w q
theorem gi_S {big : List Cond} {own : String} {idx : Nat} {y : MethodName} {ws : List Cond} (h : GoodIn big ws) (h1 : .methodLink own idx y ∈ big) (h2 : .static y ∈ big) (h3 : .initialized y.cls ∈ big) : GoodIn big (va_wsS own idx y ws) := by
  intro w hw
  unfold va_wsS at hw
  rcases List.mem_append.mp hw with q | q
  · simp only [List.mem_cons, List.not_mem_nil, or_false] at q
    rcases q with rfl | rfl | rfl
    · exact ⟨h1, good_of_word (by rfl)⟩
    · exact ⟨h2, good_of_word (by rfl)⟩
    · exact ⟨h3, good_of_word (by rfl)⟩
  · exact h w q

