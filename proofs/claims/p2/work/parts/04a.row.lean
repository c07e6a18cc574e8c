def TkOK (q : Nat → Int64) (t : Nat) : Prop :=
  (0 ≤ (q (6 + 43 * t)).toInt ∧ (q (6 + 43 * t)).toInt ≤ 8 ∧ ((t : Int) < (q 0).toInt → 1 ≤ (q (6 + 43 * t)).toInt)) ∧ (0 ≤ (q (6 + 43 * t + 12)).toInt ∧ (q (6 + 43 * t + 12)).toInt ≤ 96) ∧ (0 ≤ (q (6 + 43 * t + 13)).toInt ∧ (q (6 + 43 * t + 13)).toInt ≤ 8) ∧ (0 ≤ (q (6 + 43 * t + 14)).toInt ∧ (q (6 + 43 * t + 14)).toInt ≤ 7) ∧ (0 < (q (6 + 43 * t + 41)).toInt → 0 < (q (6 + 43 * t + 42)).toInt) ∧
  (∀ k : Nat, k < 8 → (0 ≤ (q (6 + 43 * t + 16 + k)).toInt ∧ (q (6 + 43 * t + 16 + k)).toInt ≤ 4) ∧ ((k : Int) < (q (6 + 43 * t + 13)).toInt → 1 ≤ (q (6 + 43 * t + 24 + k)).toInt ∧ (q (6 + 43 * t + 24 + k)).toInt ≤ 99 ∧ ((q (6 + 43 * t + 16 + k)).toInt = 2 → (q (6 + 43 * t + 24 + k)).toInt ≤ 8) ∧ 0 ≤ (q (6 + 43 * t + 32 + k)).toInt ∧ (q (6 + 43 * t + 32 + k)).toInt ≤ 99))
def RowOK (q : Nat → Int64) : Prop :=
  (0 ≤ (q 0).toInt ∧ (q 0).toInt ≤ 12) ∧ (0 ≤ (q 1).toInt ∧ (q 1).toInt ≤ 9999) ∧ (-1 ≤ (q 3).toInt ∧ (q 3).toInt ≤ 11) ∧ (-1 ≤ (q 4).toInt ∧ (q 4).toInt < (q 0).toInt) ∧ (0 ≤ (q 5).toInt ∧ (q 5).toInt ≤ 128) ∧
  (∀ t : Nat, t < 12 → TkOK q t) ∧ (∀ l : Nat, (l : Int) < (q 5).toInt → (q (522 + 3 * l + 2)).toInt ≠ 0 → 1 ≤ (q (522 + 3 * l + 1)).toInt)
/-- what a write asks -/
def RW (q : Nat → Int64) (i : Nat) (v : Int) : Prop :=
  (i ≠ 0 ∧ i ≠ 5 ∧ (i = 1 → 0 ≤ v ∧ v ≤ 9999) ∧ (i = 3 → -1 ≤ v ∧ v ≤ 11) ∧ (i = 4 → -1 ≤ v ∧ v < (q 0).toInt)) ∧
  (∀ t : Nat, t < 12 → (i = 6 + 43 * t → 1 ≤ v ∧ v ≤ 8) ∧ (i = 6 + 43 * t + 12 → 0 ≤ v ∧ v ≤ 96) ∧ (i = 6 + 43 * t + 13 → v = 0) ∧ (i = 6 + 43 * t + 14 → 0 ≤ v ∧ v ≤ 7) ∧ (i = 6 + 43 * t + 41 → v ≤ 0) ∧ (i = 6 + 43 * t + 42 → 0 < v)) ∧
  (∀ t k : Nat, t < 12 → k < 8 → i ≠ 6 + 43 * t + 16 + k ∧ i ≠ 6 + 43 * t + 24 + k ∧ (i = 6 + 43 * t + 32 + k → 0 ≤ v ∧ v ≤ 99)) ∧ ((i : Int) < 522 ∨ 522 + 3 * (q 5).toInt ≤ (i : Int))
theorem up_or (q : Nat → Int64) (i j : Nat) (v : Int64) : (vp_updL q i v j = v ∧ i = j) ∨ (vp_updL q i v j = q j ∧ i ≠ j) := by
  by_cases h : i = j
  · left; subst h; exact ⟨pk_uLs, rfl⟩
  · right; exact ⟨pk_uLn (fun e => h e.symm), h⟩
theorem rk_upd {q : Nat → Int64} {i : Nat} {v : Int64} (h : RowOK q) (w : RW q i v.toInt) : RowOK (vp_updL q i v) := by
  obtain ⟨h0, h1, h3, h4, h5, ht, hl⟩ := h
  obtain ⟨⟨w0, w5, w1, w3, w4⟩, wt, wk, wl⟩ := w
  have e0 : vp_updL q i v 0 = q 0 := pk_uLn (fun e => w0 e.symm)
  have e5 : vp_updL q i v 5 = q 5 := pk_uLn (fun e => w5 e.symm)
  refine ⟨by rw [e0]; exact h0, ?_, ?_, ?_, ?_, ?_, ?_⟩
  · rcases up_or q i 1 v with ⟨e, g⟩ | ⟨e, g⟩ <;> rw [e]
    · have := w1 g; omega
    · exact h1
  · rcases up_or q i 3 v with ⟨e, g⟩ | ⟨e, g⟩ <;> rw [e]
    · exact w3 g
    · exact h3
  · rw [e0]
    rcases up_or q i 4 v with ⟨e, g⟩ | ⟨e, g⟩ <;> rw [e]
    · exact w4 g
    · exact h4
  · rw [e5]; exact h5
  · intro t ht'
    obtain ⟨a1, a2, a3, a4, a5, a6⟩ := ht t ht'
    obtain ⟨b1, b2, b3, b4, b5, b6⟩ := wt t ht'
    refine ⟨?_, ?_, ?_, ?_, ?_, ?_⟩
    · rw [e0]
      rcases up_or q i (6 + 43 * t) v with ⟨e, g⟩ | ⟨e, g⟩ <;> rw [e]
      · have := b1 g; omega
      · exact a1
    · rcases up_or q i (6 + 43 * t + 12) v with ⟨e, g⟩ | ⟨e, g⟩ <;> rw [e]
      · exact b2 g
      · exact a2
    · rcases up_or q i (6 + 43 * t + 13) v with ⟨e, g⟩ | ⟨e, g⟩ <;> rw [e]
      · have := b3 g; omega
      · exact a3
    · rcases up_or q i (6 + 43 * t + 14) v with ⟨e, g⟩ | ⟨e, g⟩ <;> rw [e]
      · exact b4 g
      · exact a4
    · rcases up_or q i (6 + 43 * t + 41) v with ⟨e, g⟩ | ⟨e, g⟩ <;> rw [e] <;> rcases up_or q i (6 + 43 * t + 42) v with ⟨e', g'⟩ | ⟨e', g'⟩ <;> rw [e'] <;> omega
    · intro k hk
      obtain ⟨c1, c2⟩ := a6 k hk
      obtain ⟨d1, d2, d3⟩ := wk t k ht' hk
      have f1 : vp_updL q i v (6 + 43 * t + 16 + k) = q (6 + 43 * t + 16 + k) := pk_uLn (fun e => d1 e.symm)
      have f2 : vp_updL q i v (6 + 43 * t + 24 + k) = q (6 + 43 * t + 24 + k) := pk_uLn (fun e => d2 e.symm)
      rw [f1, f2]
      refine ⟨c1, fun hn => ?_⟩
      rcases up_or q i (6 + 43 * t + 13) v with ⟨e, g⟩ | ⟨e, g⟩ <;> rw [e] at hn
      · have := b3 g; omega
      · obtain ⟨m1, m2, m3, m4, m5⟩ := c2 hn
        refine ⟨m1, m2, m3, ?_⟩
        rcases up_or q i (6 + 43 * t + 32 + k) v with ⟨e', g'⟩ | ⟨e', g'⟩ <;> rw [e']
        · exact d3 g'
        · exact ⟨m4, m5⟩
  · intro l hl' hb
    rw [e5] at hl'
    have f1 : vp_updL q i v (522 + 3 * l + 1) = q (522 + 3 * l + 1) := pk_uLn (by omega)
    have f2 : vp_updL q i v (522 + 3 * l + 2) = q (522 + 3 * l + 2) := pk_uLn (by omega)
    rw [f1]; rw [f2] at hb
    exact hl l hl' hb
/-- the head's numbers -/
theorem rk_hd {q : Nat → Int64} (h : RowOK q) : 0 ≤ (q 0).toInt ∧ (q 0).toInt ≤ 12 ∧ 0 ≤ (q 1).toInt ∧ (q 1).toInt ≤ 9999 ∧ -1 ≤ (q 3).toInt ∧ (q 3).toInt ≤ 11 ∧ -1 ≤ (q 4).toInt ∧ (q 4).toInt < (q 0).toInt ∧ 0 ≤ (q 5).toInt ∧ (q 5).toInt ≤ 128 := ⟨h.1.1, h.1.2, h.2.1.1, h.2.1.2, h.2.2.1.1, h.2.2.1.2, h.2.2.2.1.1, h.2.2.2.1.2, h.2.2.2.2.1.1, h.2.2.2.2.1.2⟩
theorem rk_t {q : Nat → Int64} (h : RowOK q) {t : Nat} (ht : t < 12) : TkOK q t := h.2.2.2.2.2.1 t ht
theorem rk_0 {q : Nat → Int64} (h : RowOK q) {t : Nat} (ht : t < 12) : 0 ≤ (q (6 + 43 * t)).toInt ∧ (q (6 + 43 * t)).toInt ≤ 8 ∧ ((t : Int) < (q 0).toInt → 1 ≤ (q (6 + 43 * t)).toInt) := (rk_t h ht).1
theorem rk_12 {q : Nat → Int64} (h : RowOK q) {t : Nat} (ht : t < 12) : 0 ≤ (q (6 + 43 * t + 12)).toInt ∧ (q (6 + 43 * t + 12)).toInt ≤ 96 := (rk_t h ht).2.1
theorem rk_13 {q : Nat → Int64} (h : RowOK q) {t : Nat} (ht : t < 12) : 0 ≤ (q (6 + 43 * t + 13)).toInt ∧ (q (6 + 43 * t + 13)).toInt ≤ 8 := (rk_t h ht).2.2.1
theorem rk_14 {q : Nat → Int64} (h : RowOK q) {t : Nat} (ht : t < 12) : 0 ≤ (q (6 + 43 * t + 14)).toInt ∧ (q (6 + 43 * t + 14)).toInt ≤ 7 := (rk_t h ht).2.2.2.1
theorem rk_41 {q : Nat → Int64} (h : RowOK q) {t : Nat} (ht : t < 12) : 0 < (q (6 + 43 * t + 41)).toInt → 0 < (q (6 + 43 * t + 42)).toInt := (rk_t h ht).2.2.2.2.1
theorem rk_k {q : Nat → Int64} (h : RowOK q) {t k : Nat} (ht : t < 12) (hk : k < 8) : (0 ≤ (q (6 + 43 * t + 16 + k)).toInt ∧ (q (6 + 43 * t + 16 + k)).toInt ≤ 4) ∧ ((k : Int) < (q (6 + 43 * t + 13)).toInt → 1 ≤ (q (6 + 43 * t + 24 + k)).toInt ∧ (q (6 + 43 * t + 24 + k)).toInt ≤ 99 ∧ ((q (6 + 43 * t + 16 + k)).toInt = 2 → (q (6 + 43 * t + 24 + k)).toInt ≤ 8) ∧ 0 ≤ (q (6 + 43 * t + 32 + k)).toInt ∧ (q (6 + 43 * t + 32 + k)).toInt ≤ 99) := (rk_t h ht).2.2.2.2.2 k hk
theorem rk_log {q : Nat → Int64} (h : RowOK q) {l : Nat} (hl : (l : Int) < (q 5).toInt) (hb : (q (522 + 3 * l + 2)).toInt ≠ 0) : 1 ≤ (q (522 + 3 * l + 1)).toInt := h.2.2.2.2.2.2 l hl hb
theorem rk_congr {q q1 : Nat → Int64} (h : RowOK q) (e : ∀ i : Nat, i < 906 → q1 i = q i) : RowOK q1 := by
  obtain ⟨h0, h1, h3, h4, h5, ht, hl⟩ := h
  refine ⟨by rw [e 0 (by omega)]; exact h0, by rw [e 1 (by omega)]; exact h1, by rw [e 3 (by omega)]; exact h3, by rw [e 4 (by omega), e 0 (by omega)]; exact h4, by rw [e 5 (by omega)]; exact h5, fun t ht' => ?_, fun l hl' hb => ?_⟩
  · obtain ⟨a1, a2, a3, a4, a5, a6⟩ := ht t ht'
    refine ⟨by rw [e _ (by omega), e 0 (by omega)]; exact a1, by rw [e _ (by omega)]; exact a2, by rw [e _ (by omega)]; exact a3, by rw [e _ (by omega)]; exact a4, by rw [e (6 + 43 * t + 41) (by omega), e (6 + 43 * t + 42) (by omega)]; exact a5, fun k hk => ?_⟩
    rw [e (6 + 43 * t + 16 + k) (by omega), e (6 + 43 * t + 13) (by omega), e (6 + 43 * t + 24 + k) (by omega), e (6 + 43 * t + 32 + k) (by omega)]
    exact a6 k hk
  · rw [e 5 (by omega)] at hl'
    rw [e (522 + 3 * l + 2) (by omega)] at hb
    rw [e (522 + 3 * l + 1) (by omega)]
    exact hl l hl' hb
theorem at_nat (t : Nat) : (6 : Int32) + 43 * nI t = nI (6 + 43 * t) := by
  rw [show (43 : Int32) = nI 43 from rfl, show (6 : Int32) = nI 6 from rfl, pk_mul, nI_add]
theorem k_nat {x : Int32} (h : 0 ≤ x.toInt) : ∃ n : Nat, x = nI n ∧ (n : Int) = x.toInt := by
  obtain ⟨j, hj, e⟩ := nI_of (x := x) (fun q => by have := (fa_lt _ _).mp q; rw [show (0 : Int32).toInt = 0 from by decide] at this; omega)
  exact ⟨j, e, by rw [e, nI_toInt hj]⟩
theorem l_nat {x : Int64} (h : 0 ≤ x.toInt) : ∃ n : Nat, x = lN n ∧ (n : Int) = x.toInt := by
  obtain ⟨j, hj, e⟩ := pk_lOf (x := x) (fun q => by have := (fa_lt64 _ _).mp q; rw [show (0 : Int64).toInt = 0 from by decide] at this; omega)
  exact ⟨j, e, by rw [e, pk_lT hj]⟩
theorem l_ad (x y : Int64) : (x + y).toInt = x.toInt + y.toInt ∨ x.toInt + y.toInt < -9223372036854775808 ∨ 9223372036854775807 < x.toInt + y.toInt := by
  have h1 := Int64.le_toInt x
  have h2 := Int64.toInt_lt x
  have h3 := Int64.le_toInt y
  have h4 := Int64.toInt_lt y
  rw [Int64.toInt_add, Int.bmod_def]
  split <;> omega
theorem l_sb (x y : Int64) : (x - y).toInt = x.toInt - y.toInt ∨ x.toInt - y.toInt < -9223372036854775808 ∨ 9223372036854775807 < x.toInt - y.toInt := by
  have h1 := Int64.le_toInt x
  have h2 := Int64.toInt_lt x
  have h3 := Int64.le_toInt y
  have h4 := Int64.toInt_lt y
  rw [Int64.toInt_sub, Int.bmod_def]
  split <;> omega
theorem l_ml {x y : Int64} {a b : Int} (hx : 0 ≤ x.toInt) (hx2 : x.toInt ≤ a) (hy : 0 ≤ y.toInt) (hy2 : y.toInt ≤ b) (hab : a * b < 9223372036854775808) : (x * y).toInt = x.toInt * y.toInt ∧ 0 ≤ x.toInt * y.toInt := by
  have h1 : x.toInt * y.toInt ≤ a * b := Int.mul_le_mul hx2 hy2 hy (Int.le_trans hx hx2)
  have h2 : 0 ≤ x.toInt * y.toInt := Int.mul_nonneg hx hy
  refine ⟨?_, h2⟩
  rw [Int64.toInt_mul, Int.bmod_def]
  split <;> omega
theorem l_ml1 {x y : Int64} {a b : Int} (hx : 1 ≤ x.toInt) (hx2 : x.toInt ≤ a) (hy : 1 ≤ y.toInt) (hy2 : y.toInt ≤ b) (hab : a * b < 9223372036854775808) : 1 ≤ (x * y).toInt ∧ (x * y).toInt ≤ a * b := by
  have h := l_ml (x := x) (y := y) (by omega) hx2 (by omega) hy2 hab
  have h1 : x.toInt * y.toInt ≤ a * b := Int.mul_le_mul hx2 hy2 (by omega) (by omega)
  have h2 : 1 * 1 ≤ x.toInt * y.toInt := Int.mul_le_mul hx hy (by omega) (by omega)
  omega
theorem nb01 {r : Int32} (h : r.toInt = 0 ∨ r.toInt = 1) : narrow .boolean (.int r) = .int r := by
  rcases h with h | h
  · rw [show r = 0 from Int32.toInt_inj.mp (by rw [h]; decide)]; rfl
  · rw [show r = 1 from Int32.toInt_inj.mp (by rw [h]; decide)]; rfl
theorem k_ng (x : Int32) : (-x).toInt = -x.toInt ∨ x.toInt = -2147483648 := by
  have h1 := Int32.le_toInt x
  have h2 := Int32.toInt_lt x
  rw [Int32.toInt_neg, Int.bmod_def]
  split <;> omega
/-- the number of rows in the log changes; nothing else -/
theorem rk_len {q : Nat → Int64} {v : Int64} (h : RowOK q) (h0 : 0 ≤ v.toInt) (h1 : v.toInt ≤ 128) (hl : ∀ l : Nat, (q 5).toInt ≤ (l : Int) → (l : Int) < v.toInt → (q (522 + 3 * l + 2)).toInt ≠ 0 → 1 ≤ (q (522 + 3 * l + 1)).toInt) : RowOK (vp_updL q 5 v) := by
  have e : ∀ j : Nat, j ≠ 5 → vp_updL q 5 v j = q j := fun j hj => pk_uLn hj
  have e5 : vp_updL q 5 v 5 = v := pk_uLs
  obtain ⟨a0, a1, a3, a4, a5, at', al⟩ := h
  refine ⟨by rw [e 0 (by omega)]; exact a0, by rw [e 1 (by omega)]; exact a1, by rw [e 3 (by omega)]; exact a3, by rw [e 4 (by omega), e 0 (by omega)]; exact a4, by rw [e5]; exact ⟨h0, h1⟩, fun t ht' => ?_, fun l hl' hb => ?_⟩
  · obtain ⟨a1, a2, a3, a4, a5, a6⟩ := at' t ht'
    refine ⟨by rw [e _ (by omega), e 0 (by omega)]; exact a1, by rw [e _ (by omega)]; exact a2, by rw [e _ (by omega)]; exact a3, by rw [e _ (by omega)]; exact a4, by rw [e (6 + 43 * t + 41) (by omega), e (6 + 43 * t + 42) (by omega)]; exact a5, fun k hk => ?_⟩
    rw [e (6 + 43 * t + 16 + k) (by omega), e (6 + 43 * t + 13) (by omega), e (6 + 43 * t + 24 + k) (by omega), e (6 + 43 * t + 32 + k) (by omega)]
    exact a6 k hk
  · rw [e5] at hl'
    rw [e (522 + 3 * l + 2) (by omega)] at hb
    rw [e (522 + 3 * l + 1) (by omega)]
    by_cases hh : (l : Int) < (q 5).toInt
    · exact al l hh hb
    · exact hl l (by omega) hl' hb
theorem k_l2i (x : Int64) : x.toInt32.toInt = x.toInt ∨ x.toInt < -2147483648 ∨ 2147483647 < x.toInt := by
  rw [Int64.toInt_toInt32, Int.bmod_def]
  split <;> omega
theorem k_m1 {p : Nat} (h : 0 < p) : nI p + Int32.ofInt (-1) = nI (p - 1) := by rw [show Int32.ofInt (-1) = -1 from rfl]; exact sb_m1 h
/-- how far a script may still go: the next AGAIN, its turns, the way to it -/
def agR (p : Nat → Bool) : Nat → Nat → Nat
  | 0, k => k
  | m + 1, k => if p k = true then k else agR p m (k + 1)
theorem agR_eq (p : Nat → Bool) : ∀ (m k r : Nat), k ≤ r → r ≤ k + m → (∀ j : Nat, k ≤ j → j < r → p j = false) → (r < k + m → p r = true) → agR p m k = r := by
  intro m
  induction m with
  | zero => intro k r h1 h2 _ _; unfold agR; omega
  | succ m ih =>
    intro k r h1 h2 h3 h4
    unfold agR
    by_cases hk : p k = true
    · rw [if_pos hk]
      by_cases hr : k = r
      · exact hr
      · have := h3 k (Nat.le_refl _) (by omega); rw [this] at hk; exact absurd hk (by decide)
    · rw [if_neg hk]
      by_cases hr : k = r
      · subst hr; exact absurd (h4 (by omega)) hk
      · exact ih (k + 1) r (by omega) (by omega) (fun j a b => h3 j (by omega) b) (fun a => h4 (by omega))
theorem agR_spec (p : Nat → Bool) : ∀ m k : Nat, k ≤ agR p m k ∧ agR p m k ≤ k + m ∧ (∀ j : Nat, k ≤ j → j < agR p m k → p j = false) ∧ (agR p m k < k + m → p (agR p m k) = true) := by
  intro m
  induction m with
  | zero => intro k; unfold agR; exact ⟨Nat.le_refl _, Nat.le_refl _, fun j a b => by omega, fun h => by omega⟩
  | succ m ih =>
    intro k
    unfold agR
    by_cases hk : p k = true
    · rw [if_pos hk]; exact ⟨Nat.le_refl _, by omega, fun j a b => by omega, fun _ => hk⟩
    · rw [if_neg hk]
      obtain ⟨a, b, c, d⟩ := ih (k + 1)
      refine ⟨by omega, by omega, fun j h1 h2 => ?_, fun h => d (by omega)⟩
      by_cases hj : j = k
      · subst hj; cases h : p j with
        | true => exact absurd h hk
        | false => rfl
      · exact c j (by omega) h2
def isAg (q : Nat → Int64) (a k : Nat) : Bool := decide ((q (a + 16 + k)).toInt = 4)
def nSt (q : Nat → Int64) (a : Nat) : Nat := (q (a + 13)).toInt.toNat
def nxA (q : Nat → Int64) (a k : Nat) : Nat := agR (isAg q a) (nSt q a - k) k
def tuA (q : Nat → Int64) (a k : Nat) : Nat := (q (a + 32 + nxA q a k)).toInt.toNat
def mu (q : Nat → Int64) (a k : Nat) : Nat := (8 - nxA q a k) * 1000 + (if nxA q a k < nSt q a then tuA q a k * 9 else 0) + (nxA q a k - k)
theorem mu_next {q q' : Nat → Int64} {a k : Nat} (hn : (q (a + 13)).toInt ≤ 8) (hk : (k : Int) < (q (a + 13)).toInt) (hna : (q (a + 16 + k)).toInt ≠ 4) (hs : ∀ j : Nat, 13 ≤ j → j < 43 → j ≠ 14 → q' (a + j) = q (a + j)) : mu q' a (k + 1) < mu q a k := by
  have e13 : nSt q' a = nSt q a := by unfold nSt; rw [hs 13 (by omega) (by omega) (by omega)]
  have hN : nSt q a ≤ 8 := by unfold nSt; omega
  have hkN : k < nSt q a := by unfold nSt; omega
  have hag : ∀ j : Nat, j < 8 → isAg q' a j = isAg q a j := fun j hj => by unfold isAg; rw [show a + 16 + j = a + (16 + j) by omega, hs (16 + j) (by omega) (by omega) (by omega)]
  obtain ⟨a1, a2, a3, a4⟩ := agR_spec (isAg q a) (nSt q a - k) k
  have hA : nxA q' a (k + 1) = nxA q a k := by
    unfold nxA; rw [e13]
    refine agR_eq _ _ _ _ ?_ ?_ ?_ ?_
    · have : agR (isAg q a) (nSt q a - k) k ≠ k := fun e => by
        have h := a4 (by omega)
        rw [e] at h; unfold isAg at h; exact hna (of_decide_eq_true h)
      omega
    · omega
    · intro j h1 h2; rw [hag j (by omega)]; exact a3 j (by omega) h2
    · intro h; rw [hag _ (by omega)]; exact a4 (by omega)
  have hAk : nxA q a k ≠ k := fun e => by
    have h := a4 (by unfold nxA at e; omega)
    unfold nxA at e; rw [e] at h; unfold isAg at h; exact hna (of_decide_eq_true h)
  have hge : k ≤ nxA q a k := a1
  have hle : nxA q a k ≤ nSt q a := by unfold nxA; omega
  have hT : nxA q a k < nSt q a → tuA q' a (k + 1) = tuA q a k := fun h => by
    unfold tuA; rw [hA, show a + 32 + nxA q a k = a + (32 + nxA q a k) by omega, hs _ (by omega) (by omega) (by omega)]
  unfold mu; rw [hA, e13]
  by_cases h : nxA q a k < nSt q a
  · rw [if_pos h, if_pos h, hT h]; omega
  · rw [if_neg h, if_neg h]; omega
theorem mu_turn {q q' : Nat → Int64} {a k k1 : Nat} (hn : (q (a + 13)).toInt ≤ 8) (hk : (k : Int) < (q (a + 13)).toInt) (hag4 : (q (a + 16 + k)).toInt = 4) (ht : 0 < (q (a + 32 + k)).toInt) (hs : ∀ j : Nat, 13 ≤ j → j < 43 → j ≠ 14 → j ≠ 32 + k → q' (a + j) = q (a + j)) (hv : (q' (a + 32 + k)).toInt = (q (a + 32 + k)).toInt - 1) (hk1 : k1 ≤ k) (hno : ∀ j : Nat, k1 ≤ j → j < k → (q (a + 16 + j)).toInt ≠ 4) : mu q' a k1 < mu q a k := by
  have hN : nSt q a ≤ 8 := by unfold nSt; omega
  have hkN : k < nSt q a := by unfold nSt; omega
  have e13 : nSt q' a = nSt q a := by unfold nSt; rw [hs 13 (by omega) (by omega) (by omega) (by omega)]
  have hag : ∀ j : Nat, j < 8 → isAg q' a j = isAg q a j := fun j hj => by unfold isAg; rw [show a + 16 + j = a + (16 + j) by omega, hs (16 + j) (by omega) (by omega) (by omega) (by omega)]
  have hp : isAg q a k = true := by unfold isAg; exact decide_eq_true hag4
  have hA : nxA q a k = k := by
    unfold nxA
    exact agR_eq _ _ _ _ (Nat.le_refl _) (by omega) (fun j h1 h2 => by omega) (fun _ => hp)
  have hA' : nxA q' a k1 = k := by
    unfold nxA; rw [e13]
    refine agR_eq _ _ _ _ hk1 (by omega) (fun j h1 h2 => ?_) (fun _ => by rw [hag k (by omega)]; exact hp)
    rw [hag j (by omega)]; unfold isAg; exact decide_eq_false (hno j h1 h2)
  have hT : tuA q' a k1 + 1 = tuA q a k := by unfold tuA; rw [hA, hA']; omega
  unfold mu; rw [hA, hA', e13, if_pos hkN, if_pos hkN]; omega
theorem mu_pass {q q' : Nat → Int64} {a k : Nat} (hn : (q (a + 13)).toInt ≤ 8) (hk : (k : Int) < (q (a + 13)).toInt) (hag4 : (q (a + 16 + k)).toInt = 4) (hs : ∀ j : Nat, 13 ≤ j → j < 43 → j ≠ 14 → j ≠ 32 + k → q' (a + j) = q (a + j)) (hb : ∀ j : Nat, j < 8 → (j : Int) < (q' (a + 13)).toInt → (q' (a + 32 + j)).toInt ≤ 99) : mu q' a (k + 1) < mu q a k := by
  have hN : nSt q a ≤ 8 := by unfold nSt; omega
  have hkN : k < nSt q a := by unfold nSt; omega
  have e13 : nSt q' a = nSt q a := by unfold nSt; rw [hs 13 (by omega) (by omega) (by omega) (by omega)]
  have hp : isAg q a k = true := by unfold isAg; exact decide_eq_true hag4
  have hA : nxA q a k = k := by
    unfold nxA
    exact agR_eq _ _ _ _ (Nat.le_refl _) (by omega) (fun j h1 h2 => by omega) (fun _ => hp)
  obtain ⟨a1, a2, a3, a4⟩ := agR_spec (isAg q' a) (nSt q' a - (k + 1)) (k + 1)
  have hge : k + 1 ≤ nxA q' a (k + 1) := a1
  have hle : nxA q' a (k + 1) ≤ nSt q a := by unfold nxA; omega
  have hT : nxA q' a (k + 1) < nSt q a → tuA q' a (k + 1) ≤ 99 := fun h => by
    have hx := hb (nxA q' a (k + 1)) (by omega) (by rw [← e13] at h; unfold nSt at h; omega)
    unfold tuA; omega
  unfold mu; rw [hA, e13, if_pos hkN]
  by_cases h : nxA q' a (k + 1) < nSt q a
  · rw [if_pos h]; have := hT h; omega
  · rw [if_neg h]; omega
def UIq (n : Int32) (u im : Nat → Int64) (ik : Nat → Int32) : Prop := (∀ j : Nat, (j : Int) < n.toInt → RowOK (fun i => u (906 * j + i))) ∧ (∀ k : Nat, k < 2 → (ik k).toInt ≠ 0 → RowOK (fun i => im (906 * k + i)))

