def TkOK (q : Nat → Int64) (t : Nat) : Prop :=
  (0 ≤ (q (6 + 43 * t)).toInt ∧ (q (6 + 43 * t)).toInt ≤ 8 ∧ ((t : Int) < (q 0).toInt → 1 ≤ (q (6 + 43 * t)).toInt)) ∧ (0 ≤ (q (6 + 43 * t + 12)).toInt ∧ (q (6 + 43 * t + 12)).toInt ≤ 96) ∧ (0 ≤ (q (6 + 43 * t + 13)).toInt ∧ (q (6 + 43 * t + 13)).toInt ≤ 8) ∧ (0 ≤ (q (6 + 43 * t + 14)).toInt ∧ (q (6 + 43 * t + 14)).toInt ≤ 7) ∧ (0 < (q (6 + 43 * t + 41)).toInt → 0 < (q (6 + 43 * t + 42)).toInt) ∧
  (∀ k : Nat, k < 8 → (0 ≤ (q (6 + 43 * t + 16 + k)).toInt ∧ (q (6 + 43 * t + 16 + k)).toInt ≤ 4) ∧ ((k : Int) < (q (6 + 43 * t + 13)).toInt → 1 ≤ (q (6 + 43 * t + 24 + k)).toInt ∧ (q (6 + 43 * t + 24 + k)).toInt ≤ 99 ∧ ((q (6 + 43 * t + 16 + k)).toInt = 2 → (q (6 + 43 * t + 24 + k)).toInt ≤ 8) ∧ 0 ≤ (q (6 + 43 * t + 32 + k)).toInt ∧ (q (6 + 43 * t + 32 + k)).toInt ≤ 99))
def RowOK (q : Nat → Int64) : Prop :=
  (0 ≤ (q 0).toInt ∧ (q 0).toInt ≤ 12) ∧ (0 ≤ (q 1).toInt ∧ (q 1).toInt ≤ 9999) ∧ (-1 ≤ (q 3).toInt ∧ (q 3).toInt ≤ 11) ∧ (-1 ≤ (q 4).toInt ∧ (q 4).toInt < (q 0).toInt) ∧ (0 ≤ (q 5).toInt ∧ (q 5).toInt ≤ 128) ∧
  (∀ t : Nat, t < 12 → TkOK q t) ∧ (∀ l : Nat, (l : Int) < (q 5).toInt → (q (522 + 3 * l + 2)).toInt ≠ 0 → 1 ≤ (q (522 + 3 * l + 1)).toInt)
/-- what a write asks -/
def RW (q : Nat → Int64) (i : Nat) (v : Int) : Prop :=
  (i ≠ 0 ∧ i ≠ 5 ∧ (i = 1 → 0 ≤ v ∧ v ≤ 9999) ∧ (i = 3 → -1 ≤ v ∧ v ≤ 11) ∧ (i = 4 → -1 ≤ v ∧ v < (q 0).toInt)) ∧
  (∀ t : Nat, t < 12 → (i = 6 + 43 * t → 1 ≤ v ∧ v ≤ 8) ∧ (i = 6 + 43 * t + 12 → 0 ≤ v ∧ v ≤ 96) ∧ (i = 6 + 43 * t + 13 → v = 0) ∧ (i = 6 + 43 * t + 14 → 0 ≤ v ∧ v ≤ 7) ∧ (i = 6 + 43 * t + 41 → v ≤ 0) ∧ (i = 6 + 43 * t + 42 → 0 < v)) ∧
  (∀ t k : Nat, t < 12 → k < 8 → i ≠ 6 + 43 * t + 16 + k ∧ i ≠ 6 + 43 * t + 24 + k ∧ (i = 6 + 43 * t + 32 + k → 0 ≤ v ∧ v ≤ 99)) ∧ ((i : Int) < 522 ∨ 522 + 3 * (q 5).toInt ≤ (i : Int))
theorem up_or (q : Nat → Int64) (i j : Nat) (v : Int64) : (vp_updL q i v j = v ∧ i = j) ∨ (vp_updL q i v j = q j ∧ i ≠ j) := by
  by_cases h : i = j
  · left; subst h; exact ⟨pk_uLs, rfl⟩
  · right; exact ⟨pk_uLn (fun e => h e.symm), h⟩
theorem rk_upd {q : Nat → Int64} {i : Nat} {v : Int64} (h : RowOK q) (w : RW q i v.toInt) : RowOK (vp_updL q i v) := by
  obtain ⟨h0, h1, h3, h4, h5, ht, hl⟩ := h
  obtain ⟨⟨w0, w5, w1, w3, w4⟩, wt, wk, wl⟩ := w
  have e0 : vp_updL q i v 0 = q 0 := pk_uLn (fun e => w0 e.symm)
  have e5 : vp_updL q i v 5 = q 5 := pk_uLn (fun e => w5 e.symm)
  refine ⟨by rw [e0]; exact h0, ?_, ?_, ?_, ?_, ?_, ?_⟩
  · rcases up_or q i 1 v with ⟨e, g⟩ | ⟨e, g⟩ <;> rw [e]
    · have := w1 g; omega
    · exact h1
  · rcases up_or q i 3 v with ⟨e, g⟩ | ⟨e, g⟩ <;> rw [e]
    · exact w3 g
    · exact h3
  · rw [e0]
    rcases up_or q i 4 v with ⟨e, g⟩ | ⟨e, g⟩ <;> rw [e]
    · exact w4 g
    · exact h4
  · rw [e5]; exact h5
  · intro t ht'
    obtain ⟨a1, a2, a3, a4, a5, a6⟩ := ht t ht'
    obtain ⟨b1, b2, b3, b4, b5, b6⟩ := wt t ht'
    refine ⟨?_, ?_, ?_, ?_, ?_, ?_⟩
    · rw [e0]
      rcases up_or q i (6 + 43 * t) v with ⟨e, g⟩ | ⟨e, g⟩ <;> rw [e]
      · have := b1 g; omega
      · exact a1
    · rcases up_or q i (6 + 43 * t + 12) v with ⟨e, g⟩ | ⟨e, g⟩ <;> rw [e]
      · exact b2 g
      · exact a2
    · rcases up_or q i (6 + 43 * t + 13) v with ⟨e, g⟩ | ⟨e, g⟩ <;> rw [e]
      · have := b3 g; omega
      · exact a3
    · rcases up_or q i (6 + 43 * t + 14) v with ⟨e, g⟩ | ⟨e, g⟩ <;> rw [e]
      · exact b4 g
      · exact a4
    · rcases up_or q i (6 + 43 * t + 41) v with ⟨e, g⟩ | ⟨e, g⟩ <;> rw [e] <;> rcases up_or q i (6 + 43 * t + 42) v with ⟨e', g'⟩ | ⟨e', g'⟩ <;> rw [e'] <;> omega
    · intro k hk
      obtain ⟨c1, c2⟩ := a6 k hk
      obtain ⟨d1, d2, d3⟩ := wk t k ht' hk
      have f1 : vp_updL q i v (6 + 43 * t + 16 + k) = q (6 + 43 * t + 16 + k) := pk_uLn (fun e => d1 e.symm)
      have f2 : vp_updL q i v (6 + 43 * t + 24 + k) = q (6 + 43 * t + 24 + k) := pk_uLn (fun e => d2 e.symm)
      rw [f1, f2]
      refine ⟨c1, fun hn => ?_⟩
      rcases up_or q i (6 + 43 * t + 13) v with ⟨e, g⟩ | ⟨e, g⟩ <;> rw [e] at hn
      · have := b3 g; omega
      · obtain ⟨m1, m2, m3, m4, m5⟩ := c2 hn
        refine ⟨m1, m2, m3, ?_⟩
        rcases up_or q i (6 + 43 * t + 32 + k) v with ⟨e', g'⟩ | ⟨e', g'⟩ <;> rw [e']
        · exact d3 g'
        · exact ⟨m4, m5⟩
  · intro l hl' hb
    rw [e5] at hl'
    have f1 : vp_updL q i v (522 + 3 * l + 1) = q (522 + 3 * l + 1) := pk_uLn (by omega)
    have f2 : vp_updL q i v (522 + 3 * l + 2) = q (522 + 3 * l + 2) := pk_uLn (by omega)
    rw [f1]; rw [f2] at hb
    exact hl l hl' hb
/-- the head's numbers -/
theorem rk_hd {q : Nat → Int64} (h : RowOK q) : 0 ≤ (q 0).toInt ∧ (q 0).toInt ≤ 12 ∧ 0 ≤ (q 1).toInt ∧ (q 1).toInt ≤ 9999 ∧ -1 ≤ (q 3).toInt ∧ (q 3).toInt ≤ 11 ∧ -1 ≤ (q 4).toInt ∧ (q 4).toInt < (q 0).toInt ∧ 0 ≤ (q 5).toInt ∧ (q 5).toInt ≤ 128 := ⟨h.1.1, h.1.2, h.2.1.1, h.2.1.2, h.2.2.1.1, h.2.2.1.2, h.2.2.2.1.1, h.2.2.2.1.2, h.2.2.2.2.1.1, h.2.2.2.2.1.2⟩
theorem rk_t {q : Nat → Int64} (h : RowOK q) {t : Nat} (ht : t < 12) : TkOK q t := h.2.2.2.2.2.1 t ht
theorem rk_0 {q : Nat → Int64} (h : RowOK q) {t : Nat} (ht : t < 12) : 0 ≤ (q (6 + 43 * t)).toInt ∧ (q (6 + 43 * t)).toInt ≤ 8 ∧ ((t : Int) < (q 0).toInt → 1 ≤ (q (6 + 43 * t)).toInt) := (rk_t h ht).1
theorem rk_12 {q : Nat → Int64} (h : RowOK q) {t : Nat} (ht : t < 12) : 0 ≤ (q (6 + 43 * t + 12)).toInt ∧ (q (6 + 43 * t + 12)).toInt ≤ 96 := (rk_t h ht).2.1
theorem rk_13 {q : Nat → Int64} (h : RowOK q) {t : Nat} (ht : t < 12) : 0 ≤ (q (6 + 43 * t + 13)).toInt ∧ (q (6 + 43 * t + 13)).toInt ≤ 8 := (rk_t h ht).2.2.1
theorem rk_14 {q : Nat → Int64} (h : RowOK q) {t : Nat} (ht : t < 12) : 0 ≤ (q (6 + 43 * t + 14)).toInt ∧ (q (6 + 43 * t + 14)).toInt ≤ 7 := (rk_t h ht).2.2.2.1
theorem rk_41 {q : Nat → Int64} (h : RowOK q) {t : Nat} (ht : t < 12) : 0 < (q (6 + 43 * t + 41)).toInt → 0 < (q (6 + 43 * t + 42)).toInt := (rk_t h ht).2.2.2.2.1
theorem rk_k {q : Nat → Int64} (h : RowOK q) {t k : Nat} (ht : t < 12) (hk : k < 8) : (0 ≤ (q (6 + 43 * t + 16 + k)).toInt ∧ (q (6 + 43 * t + 16 + k)).toInt ≤ 4) ∧ ((k : Int) < (q (6 + 43 * t + 13)).toInt → 1 ≤ (q (6 + 43 * t + 24 + k)).toInt ∧ (q (6 + 43 * t + 24 + k)).toInt ≤ 99 ∧ ((q (6 + 43 * t + 16 + k)).toInt = 2 → (q (6 + 43 * t + 24 + k)).toInt ≤ 8) ∧ 0 ≤ (q (6 + 43 * t + 32 + k)).toInt ∧ (q (6 + 43 * t + 32 + k)).toInt ≤ 99) := (rk_t h ht).2.2.2.2.2 k hk
theorem rk_log {q : Nat → Int64} (h : RowOK q) {l : Nat} (hl : (l : Int) < (q 5).toInt) (hb : (q (522 + 3 * l + 2)).toInt ≠ 0) : 1 ≤ (q (522 + 3 * l + 1)).toInt := h.2.2.2.2.2.2 l hl hb
theorem rk_congr {q q1 : Nat → Int64} (h : RowOK q) (e : ∀ i : Nat, i < 906 → q1 i = q i) : RowOK q1 := by
  obtain ⟨h0, h1, h3, h4, h5, ht, hl⟩ := h
  refine ⟨by rw [e 0 (by omega)]; exact h0, by rw [e 1 (by omega)]; exact h1, by rw [e 3 (by omega)]; exact h3, by rw [e 4 (by omega), e 0 (by omega)]; exact h4, by rw [e 5 (by omega)]; exact h5, fun t ht' => ?_, fun l hl' hb => ?_⟩
  · obtain ⟨a1, a2, a3, a4, a5, a6⟩ := ht t ht'
    refine ⟨by rw [e _ (by omega), e 0 (by omega)]; exact a1, by rw [e _ (by omega)]; exact a2, by rw [e _ (by omega)]; exact a3, by rw [e _ (by omega)]; exact a4, by rw [e (6 + 43 * t + 41) (by omega), e (6 + 43 * t + 42) (by omega)]; exact a5, fun k hk => ?_⟩
    rw [e (6 + 43 * t + 16 + k) (by omega), e (6 + 43 * t + 13) (by omega), e (6 + 43 * t + 24 + k) (by omega), e (6 + 43 * t + 32 + k) (by omega)]
    exact a6 k hk
  · rw [e 5 (by omega)] at hl'
    rw [e (522 + 3 * l + 2) (by omega)] at hb
    rw [e (522 + 3 * l + 1) (by omega)]
    exact hl l hl' hb
theorem at_nat (t : Nat) : (6 : Int32) + 43 * nI t = nI (6 + 43 * t) := by
  rw [show (43 : Int32) = nI 43 from rfl, show (6 : Int32) = nI 6 from rfl, pk_mul, nI_add]
theorem k_nat {x : Int32} (h : 0 ≤ x.toInt) : ∃ n : Nat, x = nI n ∧ (n : Int) = x.toInt := by
  obtain ⟨j, hj, e⟩ := nI_of (x := x) (fun q => by have := (fa_lt _ _).mp q; rw [show (0 : Int32).toInt = 0 from by decide] at this; omega)
  exact ⟨j, e, by rw [e, nI_toInt hj]⟩
theorem l_nat {x : Int64} (h : 0 ≤ x.toInt) : ∃ n : Nat, x = lN n ∧ (n : Int) = x.toInt := by
  obtain ⟨j, hj, e⟩ := pk_lOf (x := x) (fun q => by have := (fa_lt64 _ _).mp q; rw [show (0 : Int64).toInt = 0 from by decide] at this; omega)
  exact ⟨j, e, by rw [e, pk_lT hj]⟩
theorem l_ad (x y : Int64) : (x + y).toInt = x.toInt + y.toInt ∨ x.toInt + y.toInt < -9223372036854775808 ∨ 9223372036854775807 < x.toInt + y.toInt := by
  have h1 := Int64.le_toInt x
  have h2 := Int64.toInt_lt x
  have h3 := Int64.le_toInt y
  have h4 := Int64.toInt_lt y
  rw [Int64.toInt_add, Int.bmod_def]
  split <;> omega
theorem l_sb (x y : Int64) : (x - y).toInt = x.toInt - y.toInt ∨ x.toInt - y.toInt < -9223372036854775808 ∨ 9223372036854775807 < x.toInt - y.toInt := by
  have h1 := Int64.le_toInt x
  have h2 := Int64.toInt_lt x
  have h3 := Int64.le_toInt y
  have h4 := Int64.toInt_lt y
  rw [Int64.toInt_sub, Int.bmod_def]
  split <;> omega
theorem l_ml {x y : Int64} {a b : Int} (hx : 0 ≤ x.toInt) (hx2 : x.toInt ≤ a) (hy : 0 ≤ y.toInt) (hy2 : y.toInt ≤ b) (hab : a * b < 9223372036854775808) : (x * y).toInt = x.toInt * y.toInt ∧ 0 ≤ x.toInt * y.toInt := by
  have h1 : x.toInt * y.toInt ≤ a * b := Int.mul_le_mul hx2 hy2 hy (Int.le_trans hx hx2)
  have h2 : 0 ≤ x.toInt * y.toInt := Int.mul_nonneg hx hy
  refine ⟨?_, h2⟩
  rw [Int64.toInt_mul, Int.bmod_def]
  split <;> omega
theorem l_ml1 {x y : Int64} {a b : Int} (hx : 1 ≤ x.toInt) (hx2 : x.toInt ≤ a) (hy : 1 ≤ y.toInt) (hy2 : y.toInt ≤ b) (hab : a * b < 9223372036854775808) : 1 ≤ (x * y).toInt ∧ (x * y).toInt ≤ a * b := by
  have h := l_ml (x := x) (y := y) (by omega) hx2 (by omega) hy2 hab
  have h1 : x.toInt * y.toInt ≤ a * b := Int.mul_le_mul hx2 hy2 (by omega) (by omega)
  have h2 : 1 * 1 ≤ x.toInt * y.toInt := Int.mul_le_mul hx hy (by omega) (by omega)
  omega
theorem nb01 {r : Int32} (h : r.toInt = 0 ∨ r.toInt = 1) : narrow .boolean (.int r) = .int r := by
  rcases h with h | h
  · rw [show r = 0 from Int32.toInt_inj.mp (by rw [h]; decide)]; rfl
  · rw [show r = 1 from Int32.toInt_inj.mp (by rw [h]; decide)]; rfl
theorem k_ng (x : Int32) : (-x).toInt = -x.toInt ∨ x.toInt = -2147483648 := by
  have h1 := Int32.le_toInt x
  have h2 := Int32.toInt_lt x
  rw [Int32.toInt_neg, Int.bmod_def]
  split <;> omega
/-- the number of rows in the log changes; nothing else -/
theorem rk_len {q : Nat → Int64} {v : Int64} (h : RowOK q) (h0 : 0 ≤ v.toInt) (h1 : v.toInt ≤ 128) (hl : ∀ l : Nat, (q 5).toInt ≤ (l : Int) → (l : Int) < v.toInt → (q (522 + 3 * l + 2)).toInt ≠ 0 → 1 ≤ (q (522 + 3 * l + 1)).toInt) : RowOK (vp_updL q 5 v) := by
  have e : ∀ j : Nat, j ≠ 5 → vp_updL q 5 v j = q j := fun j hj => pk_uLn hj
  have e5 : vp_updL q 5 v 5 = v := pk_uLs
  obtain ⟨a0, a1, a3, a4, a5, at', al⟩ := h
  refine ⟨by rw [e 0 (by omega)]; exact a0, by rw [e 1 (by omega)]; exact a1, by rw [e 3 (by omega)]; exact a3, by rw [e 4 (by omega), e 0 (by omega)]; exact a4, by rw [e5]; exact ⟨h0, h1⟩, fun t ht' => ?_, fun l hl' hb => ?_⟩
  · obtain ⟨a1, a2, a3, a4, a5, a6⟩ := at' t ht'
    refine ⟨by rw [e _ (by omega), e 0 (by omega)]; exact a1, by rw [e _ (by omega)]; exact a2, by rw [e _ (by omega)]; exact a3, by rw [e _ (by omega)]; exact a4, by rw [e (6 + 43 * t + 41) (by omega), e (6 + 43 * t + 42) (by omega)]; exact a5, fun k hk => ?_⟩
    rw [e (6 + 43 * t + 16 + k) (by omega), e (6 + 43 * t + 13) (by omega), e (6 + 43 * t + 24 + k) (by omega), e (6 + 43 * t + 32 + k) (by omega)]
    exact a6 k hk
  · rw [e5] at hl'
    rw [e (522 + 3 * l + 2) (by omega)] at hb
    rw [e (522 + 3 * l + 1) (by omega)]
    by_cases hh : (l : Int) < (q 5).toInt
    · exact al l hh hb
    · exact hl l (by omega) hl' hb
theorem k_l2i (x : Int64) : x.toInt32.toInt = x.toInt ∨ x.toInt < -2147483648 ∨ 2147483647 < x.toInt := by
  rw [Int64.toInt_toInt32, Int.bmod_def]
  split <;> omega
theorem k_m1 {p : Nat} (h : 0 < p) : nI p + Int32.ofInt (-1) = nI (p - 1) := by rw [show Int32.ofInt (-1) = -1 from rfl]; exact sb_m1 h
/-- how far a script may still go: the next AGAIN, its turns, the way to it -/
def agR (p : Nat → Bool) : Nat → Nat → Nat
  | 0, k => k
  | m + 1, k => if p k = true then k else agR p m (k + 1)
theorem agR_eq (p : Nat → Bool) : ∀ (m k r : Nat), k ≤ r → r ≤ k + m → (∀ j : Nat, k ≤ j → j < r → p j = false) → (r < k + m → p r = true) → agR p m k = r := by
  intro m
  induction m with
  | zero => intro k r h1 h2 _ _; unfold agR; omega
  | succ m ih =>
    intro k r h1 h2 h3 h4
    unfold agR
    by_cases hk : p k = true
    · rw [if_pos hk]
      by_cases hr : k = r
      · exact hr
      · have := h3 k (Nat.le_refl _) (by omega); rw [this] at hk; exact absurd hk (by decide)
    · rw [if_neg hk]
      by_cases hr : k = r
      · subst hr; exact absurd (h4 (by omega)) hk
      · exact ih (k + 1) r (by omega) (by omega) (fun j a b => h3 j (by omega) b) (fun a => h4 (by omega))
theorem agR_spec (p : Nat → Bool) : ∀ m k : Nat, k ≤ agR p m k ∧ agR p m k ≤ k + m ∧ (∀ j : Nat, k ≤ j → j < agR p m k → p j = false) ∧ (agR p m k < k + m → p (agR p m k) = true) := by
  intro m
  induction m with
  | zero => intro k; unfold agR; exact ⟨Nat.le_refl _, Nat.le_refl _, fun j a b => by omega, fun h => by omega⟩
  | succ m ih =>
    intro k
    unfold agR
    by_cases hk : p k = true
    · rw [if_pos hk]; exact ⟨Nat.le_refl _, by omega, fun j a b => by omega, fun _ => hk⟩
    · rw [if_neg hk]
      obtain ⟨a, b, c, d⟩ := ih (k + 1)
      refine ⟨by omega, by omega, fun j h1 h2 => ?_, fun h => d (by omega)⟩
      by_cases hj : j = k
      · subst hj; cases h : p j with
        | true => exact absurd h hk
        | false => rfl
      · exact c j (by omega) h2
def isAg (q : Nat → Int64) (a k : Nat) : Bool := decide ((q (a + 16 + k)).toInt = 4)
def nSt (q : Nat → Int64) (a : Nat) : Nat := (q (a + 13)).toInt.toNat
def nxA (q : Nat → Int64) (a k : Nat) : Nat := agR (isAg q a) (nSt q a - k) k
def tuA (q : Nat → Int64) (a k : Nat) : Nat := (q (a + 32 + nxA q a k)).toInt.toNat
def mu (q : Nat → Int64) (a k : Nat) : Nat := (8 - nxA q a k) * 1000 + (if nxA q a k < nSt q a then tuA q a k * 9 else 0) + (nxA q a k - k)
theorem mu_next {q q' : Nat → Int64} {a k : Nat} (hn : (q (a + 13)).toInt ≤ 8) (hk : (k : Int) < (q (a + 13)).toInt) (hna : (q (a + 16 + k)).toInt ≠ 4) (hs : ∀ j : Nat, 13 ≤ j → j < 43 → j ≠ 14 → q' (a + j) = q (a + j)) : mu q' a (k + 1) < mu q a k := by
  have e13 : nSt q' a = nSt q a := by unfold nSt; rw [hs 13 (by omega) (by omega) (by omega)]
  have hN : nSt q a ≤ 8 := by unfold nSt; omega
  have hkN : k < nSt q a := by unfold nSt; omega
  have hag : ∀ j : Nat, j < 8 → isAg q' a j = isAg q a j := fun j hj => by unfold isAg; rw [show a + 16 + j = a + (16 + j) by omega, hs (16 + j) (by omega) (by omega) (by omega)]
  obtain ⟨a1, a2, a3, a4⟩ := agR_spec (isAg q a) (nSt q a - k) k
  have hA : nxA q' a (k + 1) = nxA q a k := by
    unfold nxA; rw [e13]
    refine agR_eq _ _ _ _ ?_ ?_ ?_ ?_
    · have : agR (isAg q a) (nSt q a - k) k ≠ k := fun e => by
        have h := a4 (by omega)
        rw [e] at h; unfold isAg at h; exact hna (of_decide_eq_true h)
      omega
    · omega
    · intro j h1 h2; rw [hag j (by omega)]; exact a3 j (by omega) h2
    · intro h; rw [hag _ (by omega)]; exact a4 (by omega)
  have hAk : nxA q a k ≠ k := fun e => by
    have h := a4 (by unfold nxA at e; omega)
    unfold nxA at e; rw [e] at h; unfold isAg at h; exact hna (of_decide_eq_true h)
  have hge : k ≤ nxA q a k := a1
  have hle : nxA q a k ≤ nSt q a := by unfold nxA; omega
  have hT : nxA q a k < nSt q a → tuA q' a (k + 1) = tuA q a k := fun h => by
    unfold tuA; rw [hA, show a + 32 + nxA q a k = a + (32 + nxA q a k) by omega, hs _ (by omega) (by omega) (by omega)]
  unfold mu; rw [hA, e13]
  by_cases h : nxA q a k < nSt q a
  · rw [if_pos h, if_pos h, hT h]; omega
  · rw [if_neg h, if_neg h]; omega
theorem mu_turn {q q' : Nat → Int64} {a k k1 : Nat} (hn : (q (a + 13)).toInt ≤ 8) (hk : (k : Int) < (q (a + 13)).toInt) (hag4 : (q (a + 16 + k)).toInt = 4) (ht : 0 < (q (a + 32 + k)).toInt) (hs : ∀ j : Nat, 13 ≤ j → j < 43 → j ≠ 14 → j ≠ 32 + k → q' (a + j) = q (a + j)) (hv : (q' (a + 32 + k)).toInt = (q (a + 32 + k)).toInt - 1) (hk1 : k1 ≤ k) (hno : ∀ j : Nat, k1 ≤ j → j < k → (q (a + 16 + j)).toInt ≠ 4) : mu q' a k1 < mu q a k := by
  have hN : nSt q a ≤ 8 := by unfold nSt; omega
  have hkN : k < nSt q a := by unfold nSt; omega
  have e13 : nSt q' a = nSt q a := by unfold nSt; rw [hs 13 (by omega) (by omega) (by omega) (by omega)]
  have hag : ∀ j : Nat, j < 8 → isAg q' a j = isAg q a j := fun j hj => by unfold isAg; rw [show a + 16 + j = a + (16 + j) by omega, hs (16 + j) (by omega) (by omega) (by omega) (by omega)]
  have hp : isAg q a k = true := by unfold isAg; exact decide_eq_true hag4
  have hA : nxA q a k = k := by
    unfold nxA
    exact agR_eq _ _ _ _ (Nat.le_refl _) (by omega) (fun j h1 h2 => by omega) (fun _ => hp)
  have hA' : nxA q' a k1 = k := by
    unfold nxA; rw [e13]
    refine agR_eq _ _ _ _ hk1 (by omega) (fun j h1 h2 => ?_) (fun _ => by rw [hag k (by omega)]; exact hp)
    rw [hag j (by omega)]; unfold isAg; exact decide_eq_false (hno j h1 h2)
  have hT : tuA q' a k1 + 1 = tuA q a k := by unfold tuA; rw [hA, hA']; omega
  unfold mu; rw [hA, hA', e13, if_pos hkN, if_pos hkN]; omega
theorem mu_pass {q q' : Nat → Int64} {a k : Nat} (hn : (q (a + 13)).toInt ≤ 8) (hk : (k : Int) < (q (a + 13)).toInt) (hag4 : (q (a + 16 + k)).toInt = 4) (hs : ∀ j : Nat, 13 ≤ j → j < 43 → j ≠ 14 → j ≠ 32 + k → q' (a + j) = q (a + j)) (hb : ∀ j : Nat, j < 8 → (j : Int) < (q' (a + 13)).toInt → (q' (a + 32 + j)).toInt ≤ 99) : mu q' a (k + 1) < mu q a k := by
  have hN : nSt q a ≤ 8 := by unfold nSt; omega
  have hkN : k < nSt q a := by unfold nSt; omega
  have e13 : nSt q' a = nSt q a := by unfold nSt; rw [hs 13 (by omega) (by omega) (by omega) (by omega)]
  have hp : isAg q a k = true := by unfold isAg; exact decide_eq_true hag4
  have hA : nxA q a k = k := by
    unfold nxA
    exact agR_eq _ _ _ _ (Nat.le_refl _) (by omega) (fun j h1 h2 => by omega) (fun _ => hp)
  obtain ⟨a1, a2, a3, a4⟩ := agR_spec (isAg q' a) (nSt q' a - (k + 1)) (k + 1)
  have hge : k + 1 ≤ nxA q' a (k + 1) := a1
  have hle : nxA q' a (k + 1) ≤ nSt q a := by unfold nxA; omega
  have hT : nxA q' a (k + 1) < nSt q a → tuA q' a (k + 1) ≤ 99 := fun h => by
    have hx := hb (nxA q' a (k + 1)) (by omega) (by rw [← e13] at h; unfold nSt at h; omega)
    unfold tuA; omega
  unfold mu; rw [hA, e13, if_pos hkN]
  by_cases h : nxA q' a (k + 1) < nSt q a
  · rw [if_pos h]; have := hT h; omega
  · rw [if_neg h]; omega
theorem l_or0 (x y : Int64) : (x ||| y).toInt ≠ 0 → x.toInt ≠ 0 ∨ y.toInt ≠ 0 := by
  intro h
  by_cases hx : x.toInt = 0
  · by_cases hy : y.toInt = 0
    · have ex : x = 0 := Int64.toInt_inj.mp (hx.trans (by decide))
      have ey : y = 0 := Int64.toInt_inj.mp (hy.trans (by decide))
      subst ex; subst ey
      exact absurd (by decide) h
    · exact Or.inr hy
  · exact Or.inl hx
theorem l_sh0 (x s : Int64) (h : x.toInt = 0) : ((x >>> s) &&& 15).toInt = 0 := by
  have ex : x = 0 := Int64.toInt_inj.mp (h.trans (by decide))
  subst ex
  rw [show ((0 : Int64) >>> s) = 0 from Int64.toBitVec_inj.mp (by simp)]
  decide
theorem rk_shift {q0 q1 : Nat → Int64} {v : Int64} (h : RowOK q0) (h5 : (q0 5).toInt = 128) (f1 : ∀ j : Nat, 522 ≤ j → j < 903 → q1 j = q0 (j + 3)) (f2 : ∀ j : Nat, (j < 522 ∨ 903 ≤ j) → q1 j = q0 j) (hv : v.toInt = 127) : RowOK (vp_updL q1 5 v) := by
  have e : ∀ j : Nat, j < 522 → j ≠ 5 → vp_updL q1 5 v j = q0 j := fun j hj h5' => (pk_uLn h5').trans (f2 j (Or.inl hj))
  have e5 : vp_updL q1 5 v 5 = v := pk_uLs
  obtain ⟨a0, a1, a3, a4, a5, at', al⟩ := h
  refine ⟨by rw [e 0 (by omega) (by omega)]; exact a0, by rw [e 1 (by omega) (by omega)]; exact a1, by rw [e 3 (by omega) (by omega)]; exact a3, by rw [e 4 (by omega) (by omega), e 0 (by omega) (by omega)]; exact a4, by rw [e5]; omega, fun t ht' => ?_, fun l hl' hb => ?_⟩
  · obtain ⟨a1, a2, a3, a4, a5, a6⟩ := at' t ht'
    refine ⟨by rw [e _ (by omega) (by omega), e 0 (by omega) (by omega)]; exact a1, by rw [e _ (by omega) (by omega)]; exact a2, by rw [e _ (by omega) (by omega)]; exact a3, by rw [e _ (by omega) (by omega)]; exact a4, by rw [e (6 + 43 * t + 41) (by omega) (by omega), e (6 + 43 * t + 42) (by omega) (by omega)]; exact a5, fun k hk => ?_⟩
    rw [e (6 + 43 * t + 16 + k) (by omega) (by omega), e (6 + 43 * t + 13) (by omega) (by omega), e (6 + 43 * t + 24 + k) (by omega) (by omega), e (6 + 43 * t + 32 + k) (by omega) (by omega)]
    exact a6 k hk
  · rw [e5] at hl'
    rw [pk_uLn (by omega), f1 (522 + 3 * l + 2) (by omega) (by omega), show 522 + 3 * l + 2 + 3 = 522 + 3 * (l + 1) + 2 by omega] at hb
    rw [pk_uLn (by omega), f1 (522 + 3 * l + 1) (by omega) (by omega), show 522 + 3 * l + 1 + 3 = 522 + 3 * (l + 1) + 1 by omega]
    exact al (l + 1) (by omega) hb
def UIq (n : Int32) (u im : Nat → Int64) (ik : Nat → Int32) : Prop := (∀ j : Nat, (j : Int) < n.toInt → RowOK (fun i => u (906 * j + i))) ∧ (∀ k : Nat, k < 2 → (ik k).toInt ≠ 0 → RowOK (fun i => im (906 * k + i)))
theorem ui_push {n n1 : Int32} {u u1 im q : Nat → Int64} {ik : Nat → Int32} {m : Nat} (h : UIq n u im ik) (hq : RowOK q) (hm : (m : Int) = n.toInt) (f1 : ∀ j : Nat, j < 906 → u1 (906 * m + j) = q j) (f2 : ∀ j : Nat, j < 906 * m → u1 j = u j) (hn : n1.toInt = n.toInt + 1) : UIq n1 u1 im ik := by
  refine ⟨fun j hj => ?_, h.2⟩
  by_cases hjm : j = m
  · subst hjm; exact rk_congr hq (fun i hi => f1 i hi)
  · exact rk_congr (h.1 j (by omega)) (fun i hi => f2 _ (by omega))
theorem ui_shift {n n1 : Int32} {u u1 im : Nat → Int64} {ik : Nat → Int32} (h : UIq n u im ik) (hn : n.toInt = 10) (f1 : ∀ j : Nat, j < 8154 → u1 j = u (j + 906)) (hn1 : n1.toInt = 9) : UIq n1 u1 im ik := by
  refine ⟨fun j hj => ?_, h.2⟩
  refine rk_congr (h.1 (j + 1) (by omega)) (fun i hi => ?_)
  show u1 (906 * j + i) = u (906 * (j + 1) + i)
  rw [f1 _ (by omega)]
  congr 1; omega
theorem ui_less {n n1 : Int32} {u im : Nat → Int64} {ik : Nat → Int32} (h : UIq n u im ik) (hn : n1.toInt ≤ n.toInt) : UIq n1 u im ik := ⟨fun j hj => h.1 j (by omega), h.2⟩
theorem ui_image {n : Int32} {u im im1 q : Nat → Int64} {ik ik1 : Nat → Int32} {m : Nat} (h : UIq n u im ik) (hq : RowOK q) (f1 : ∀ j : Nat, j < 906 → im1 (906 * m + j) = q j) (f2 : ∀ j : Nat, (j < 906 * m ∨ 906 * m + 906 ≤ j) → im1 j = im j) (hk : ∀ k : Nat, k ≠ m → ik1 k = ik k) : UIq n u im1 ik1 := by
  refine ⟨h.1, fun k hk2 hne => ?_⟩
  by_cases hkm : k = m
  · subst hkm; exact rk_congr hq (fun i hi => f1 i hi)
  · rw [hk k hkm] at hne
    exact rk_congr (h.2 k hk2 hne) (fun i hi => f2 _ (by omega))
def NBq (n : Int32) (kq nq : Nat → Int32) : Prop := ∀ k : Nat, (k : Int) < n.toInt → 1 ≤ (nq k).toInt ∧ (nq k).toInt ≤ 99 ∧ ((kq k).toInt = 2 → (nq k).toInt ≤ 8)
def NBi (b n : Int32) (kq nq : Nat → Int32) : Prop := b.toInt = 0 → NBq n kq nq
theorem k_c0 : Int32.toInt 0 = 0 := by decide
theorem k_c1 : Int32.toInt 1 = 1 := by decide
theorem k_cm1 : Int32.toInt (-1) = -1 := by decide
theorem ap_41 {dC : Nat → ClassId} {dI : Nat → Nat → Nat} {g : kG} {A : Nat → Prop} {f : Nat → va_E} {H : Heap} {a : Nat} {q : Nat → Int32} (hI : Iv dC dI g A f H) (ha : ik g 41 a) (he : f a = .inl (gc g 0, 8, .inl q)) : ∀ i : Nat, i < 8 → 0 ≤ (q i).toInt ∧ (q i).toInt ≤ 4 := by
  obtain ⟨q', e, hp⟩ := op_41 hI ha
  rw [he] at e
  cases e
  exact hp
theorem l_s0 (x : Int64) : x >>> ((0 : Int32).toInt64 &&& 63) = x := by
  rw [show ((0 : Int32).toInt64 &&& 63) = (0 : Int64) from by decide]
  first | exact Int64.shiftRight_zero | simp
theorem rk_zero {q : Nat → Int64} {t j : Nat} (h : RowOK q) (ht : t < 12) (hn : (q 0).toInt ≤ (t : Int)) (hj : j < 43) (hz : ∀ i : Nat, i < j → q (6 + 43 * t + i) = 0) : RowOK (vp_updL q (6 + 43 * t + j) 0) := by
  have z0 : Int64.toInt 0 = 0 := by decide
  have e : ∀ i : Nat, i ≠ 6 + 43 * t + j → vp_updL q (6 + 43 * t + j) 0 i = q i := fun i hi => pk_uLn hi
  obtain ⟨a0, a1, a3, a4, a5, at', al⟩ := h
  refine ⟨by rw [e 0 (by omega)]; exact a0, by rw [e 1 (by omega)]; exact a1, by rw [e 3 (by omega)]; exact a3, by rw [e 4 (by omega), e 0 (by omega)]; exact a4, by rw [e 5 (by omega)]; exact a5, fun s hs => ?_, fun l hl hb => ?_⟩
  · obtain ⟨b1, b2, b3, b4, b5, b6⟩ := at' s hs
    by_cases hst : s = t
    · subst hst
      refine ⟨?_, ?_, ?_, ?_, ?_, fun k hk => ?_⟩
      · rw [e 0 (by omega)]
        rcases up_or q (6 + 43 * s + j) (6 + 43 * s) 0 with ⟨g, _⟩ | ⟨g, _⟩ <;> rw [g]
        · rw [z0]; omega
        · omega
      · rcases up_or q (6 + 43 * s + j) (6 + 43 * s + 12) 0 with ⟨g, _⟩ | ⟨g, _⟩ <;> rw [g]
        · rw [z0]; omega
        · exact b2
      · rcases up_or q (6 + 43 * s + j) (6 + 43 * s + 13) 0 with ⟨g, _⟩ | ⟨g, _⟩ <;> rw [g]
        · rw [z0]; omega
        · exact b3
      · rcases up_or q (6 + 43 * s + j) (6 + 43 * s + 14) 0 with ⟨g, _⟩ | ⟨g, _⟩ <;> rw [g]
        · rw [z0]; omega
        · exact b4
      · rcases up_or q (6 + 43 * s + j) (6 + 43 * s + 41) 0 with ⟨g, _⟩ | ⟨g, _⟩ <;> rw [g]
        · rw [z0]; omega
        · rcases up_or q (6 + 43 * s + j) (6 + 43 * s + 42) 0 with ⟨g2, g3⟩ | ⟨g2, _⟩ <;> rw [g2]
          · rw [hz 41 (by omega), z0]; omega
          · exact b5
      · obtain ⟨c1, c2⟩ := b6 k hk
        refine ⟨?_, fun hn2 => ?_⟩
        · rcases up_or q (6 + 43 * s + j) (6 + 43 * s + 16 + k) 0 with ⟨g, _⟩ | ⟨g, _⟩ <;> rw [g]
          · rw [z0]; omega
          · exact c1
        · rcases up_or q (6 + 43 * s + j) (6 + 43 * s + 13) 0 with ⟨g, _⟩ | ⟨g, g1⟩ <;> rw [g] at hn2
          · rw [z0] at hn2; omega
          · by_cases hj13 : 13 < j
            · rw [hz 13 hj13, z0] at hn2; omega
            · rw [e (6 + 43 * s + 16 + k) (by omega), e (6 + 43 * s + 24 + k) (by omega), e (6 + 43 * s + 32 + k) (by omega)]
              exact c2 hn2
    · refine ⟨by rw [e _ (by omega), e 0 (by omega)]; exact b1, by rw [e _ (by omega)]; exact b2, by rw [e _ (by omega)]; exact b3, by rw [e _ (by omega)]; exact b4, by rw [e (6 + 43 * s + 41) (by omega), e (6 + 43 * s + 42) (by omega)]; exact b5, fun k hk => ?_⟩
      rw [e (6 + 43 * s + 16 + k) (by omega), e (6 + 43 * s + 13) (by omega), e (6 + 43 * s + 24 + k) (by omega), e (6 + 43 * s + 32 + k) (by omega)]
      exact b6 k hk
  · rw [e 5 (by omega)] at hl
    rw [e (522 + 3 * l + 2) (by omega)] at hb
    rw [e (522 + 3 * l + 1) (by omega)]
    exact al l hl hb
theorem rk_n {q : Nat → Int64} {v : Int64} {t : Nat} (h : RowOK q) (ht : (t : Int) = (q 0).toInt) (h12 : t < 12) (hv : v.toInt = (q 0).toInt + 1) (hw : 1 ≤ (q (6 + 43 * t)).toInt) : RowOK (vp_updL q 0 v) := by
  have e : ∀ i : Nat, i ≠ 0 → vp_updL q 0 v i = q i := fun i hi => pk_uLn hi
  have e0 : vp_updL q 0 v 0 = v := pk_uLs
  obtain ⟨a0, a1, a3, a4, a5, at', al⟩ := h
  refine ⟨by rw [e0]; omega, by rw [e 1 (by omega)]; exact a1, by rw [e 3 (by omega)]; exact a3, by rw [e 4 (by omega), e0]; omega, by rw [e 5 (by omega)]; exact a5, fun s hs => ?_, fun l hl hb => ?_⟩
  · obtain ⟨b1, b2, b3, b4, b5, b6⟩ := at' s hs
    refine ⟨?_, by rw [e _ (by omega)]; exact b2, by rw [e _ (by omega)]; exact b3, by rw [e _ (by omega)]; exact b4, by rw [e (6 + 43 * s + 41) (by omega), e (6 + 43 * s + 42) (by omega)]; exact b5, fun k hk => ?_⟩
    · rw [e _ (by omega), e0]
      refine ⟨b1.1, b1.2.1, fun hs2 => ?_⟩
      by_cases hst : s = t
      · subst hst; exact hw
      · exact b1.2.2 (by omega)
    · rw [e (6 + 43 * s + 16 + k) (by omega), e (6 + 43 * s + 13) (by omega), e (6 + 43 * s + 24 + k) (by omega), e (6 + 43 * s + 32 + k) (by omega)]
      exact b6 k hk
  · rw [e 5 (by omega)] at hl
    rw [e (522 + 3 * l + 2) (by omega)] at hb
    rw [e (522 + 3 * l + 1) (by omega)]
    exact al l hl hb
theorem rk_quota {q : Nat → Int64} {n v : Int64} {t : Nat} (h : RowOK q) (ht : t < 12) (hp : 0 < n.toInt → 0 < v.toInt) : RowOK (vp_updL (vp_updL q (6 + 43 * t + 41) n) (6 + 43 * t + 42) v) := by
  have e : ∀ i : Nat, i ≠ 6 + 43 * t + 41 → i ≠ 6 + 43 * t + 42 → vp_updL (vp_updL q (6 + 43 * t + 41) n) (6 + 43 * t + 42) v i = q i := fun i h1 h2 => (pk_uLn h2).trans (pk_uLn h1)
  obtain ⟨a0, a1, a3, a4, a5, at', al⟩ := h
  refine ⟨by rw [e 0 (by omega) (by omega)]; exact a0, by rw [e 1 (by omega) (by omega)]; exact a1, by rw [e 3 (by omega) (by omega)]; exact a3, by rw [e 4 (by omega) (by omega), e 0 (by omega) (by omega)]; exact a4, by rw [e 5 (by omega) (by omega)]; exact a5, fun s hs => ?_, fun l hl hb => ?_⟩
  · obtain ⟨b1, b2, b3, b4, b5, b6⟩ := at' s hs
    refine ⟨by rw [e _ (by omega) (by omega), e 0 (by omega) (by omega)]; exact b1, by rw [e _ (by omega) (by omega)]; exact b2, by rw [e _ (by omega) (by omega)]; exact b3, by rw [e _ (by omega) (by omega)]; exact b4, ?_, fun k hk => ?_⟩
    · by_cases hst : s = t
      · subst hst
        rw [pk_uLs, pk_uLn (by omega), pk_uLs]; exact hp
      · rw [e (6 + 43 * s + 41) (by omega) (by omega), e (6 + 43 * s + 42) (by omega) (by omega)]; exact b5
    · rw [e (6 + 43 * s + 16 + k) (by omega) (by omega), e (6 + 43 * s + 13) (by omega) (by omega), e (6 + 43 * s + 24 + k) (by omega) (by omega), e (6 + 43 * s + 32 + k) (by omega) (by omega)]
      exact b6 k hk
  · rw [e 5 (by omega) (by omega)] at hl
    rw [e (522 + 3 * l + 2) (by omega) (by omega)] at hb
    rw [e (522 + 3 * l + 1) (by omega) (by omega)]
    exact al l hl hb
/-- a script's steps are being written: all but the steps of one task -/
def RowX (q : Nat → Int64) (t : Nat) : Prop := ∃ q0 : Nat → Int64, RowOK q0 ∧ ∀ i : Nat, (i < 6 + 43 * t + 16 ∨ 6 + 43 * t + 40 ≤ i) → q i = q0 i
theorem rx_upd {q : Nat → Int64} {t i : Nat} {v : Int64} (h : RowX q t) (h1 : 6 + 43 * t + 16 ≤ i) (h2 : i < 6 + 43 * t + 40) : RowX (vp_updL q i v) t := by
  obtain ⟨q0, a, b⟩ := h
  exact ⟨q0, a, fun j hj => (pk_uLn (by omega)).trans (b j hj)⟩
theorem rx_to {q : Nat → Int64} {t : Nat} {v : Int64} (h : RowX q t) (ht : t < 12) (h0 : 0 ≤ v.toInt) (h8 : v.toInt ≤ 8) (hk : ∀ k : Nat, k < 8 → (0 ≤ (q (6 + 43 * t + 16 + k)).toInt ∧ (q (6 + 43 * t + 16 + k)).toInt ≤ 4) ∧ ((k : Int) < v.toInt → 1 ≤ (q (6 + 43 * t + 24 + k)).toInt ∧ (q (6 + 43 * t + 24 + k)).toInt ≤ 99 ∧ ((q (6 + 43 * t + 16 + k)).toInt = 2 → (q (6 + 43 * t + 24 + k)).toInt ≤ 8) ∧ 0 ≤ (q (6 + 43 * t + 32 + k)).toInt ∧ (q (6 + 43 * t + 32 + k)).toInt ≤ 99)) : RowOK (vp_updL q (6 + 43 * t + 13) v) := by
  obtain ⟨q0, a, b⟩ := h
  have e : ∀ i : Nat, (i < 6 + 43 * t + 13 ∨ (6 + 43 * t + 13 < i ∧ i < 6 + 43 * t + 16) ∨ 6 + 43 * t + 40 ≤ i) → vp_updL q (6 + 43 * t + 13) v i = q0 i := fun i hi => (pk_uLn (by omega)).trans (b i (by omega))
  have e13 : vp_updL q (6 + 43 * t + 13) v (6 + 43 * t + 13) = v := pk_uLs
  have ek : ∀ i : Nat, 6 + 43 * t + 16 ≤ i → vp_updL q (6 + 43 * t + 13) v i = q i := fun i hi => pk_uLn (by omega)
  obtain ⟨a0, a1, a3, a4, a5, at', al⟩ := a
  refine ⟨by rw [e 0 (by omega)]; exact a0, by rw [e 1 (by omega)]; exact a1, by rw [e 3 (by omega)]; exact a3, by rw [e 4 (by omega), e 0 (by omega)]; exact a4, by rw [e 5 (by omega)]; exact a5, fun s hs => ?_, fun l hl hb => ?_⟩
  · obtain ⟨b1, b2, b3, b4, b5, b6⟩ := at' s hs
    by_cases hst : s = t
    · subst hst
      refine ⟨by rw [e _ (by omega), e 0 (by omega)]; exact b1, by rw [e _ (by omega)]; exact b2, by rw [e13]; omega, by rw [e _ (by omega)]; exact b4, by rw [e (6 + 43 * s + 41) (by omega), e (6 + 43 * s + 42) (by omega)]; exact b5, fun k hk2 => ?_⟩
      rw [ek (6 + 43 * s + 16 + k) (by omega), e13, ek (6 + 43 * s + 24 + k) (by omega), ek (6 + 43 * s + 32 + k) (by omega)]
      exact hk k hk2
    · refine ⟨by rw [e _ (by omega), e 0 (by omega)]; exact b1, by rw [e _ (by omega)]; exact b2, by rw [e _ (by omega)]; exact b3, by rw [e _ (by omega)]; exact b4, by rw [e (6 + 43 * s + 41) (by omega), e (6 + 43 * s + 42) (by omega)]; exact b5, fun k hk2 => ?_⟩
      rw [e (6 + 43 * s + 16 + k) (by omega), e (6 + 43 * s + 13) (by omega), e (6 + 43 * s + 24 + k) (by omega), e (6 + 43 * s + 32 + k) (by omega)]
      exact b6 k hk2
  · rw [e 5 (by omega)] at hl
    rw [e (522 + 3 * l + 2) (by omega)] at hb
    rw [e (522 + 3 * l + 1) (by omega)]
    exact al l hl hb

