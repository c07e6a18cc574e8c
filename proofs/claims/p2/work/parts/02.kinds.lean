theorem fa_lt (a b : Int32) : a < b ↔ a.toInt < b.toInt := Int32.lt_iff_toInt_lt
theorem fa_le (a b : Int32) : a ≤ b ↔ a.toInt ≤ b.toInt := Int32.le_iff_toInt_le
theorem fa_eq (a b : Int32) : a = b ↔ a.toInt = b.toInt := Int32.toInt_inj.symm
theorem fa_lt64 (a b : Int64) : a < b ↔ a.toInt < b.toInt := Int64.lt_iff_toInt_lt
theorem fa_le64 (a b : Int64) : a ≤ b ↔ a.toInt ≤ b.toInt := Int64.le_iff_toInt_le
theorem fa_eq64 (a b : Int64) : a = b ↔ a.toInt = b.toInt := Int64.toInt_inj.symm
theorem k_topi {p : Program} {l : Launch} {e : Env} {R : Room} {s : State} {m : MethodId} {args : Array Value} {below : List Frame} {meth : Method} {c : Code} {H : Heap} {locs : List Loc} {cells slots : Nat} {Q : State → Prop} {pc : Nat} {ls : Array Slot} {rest : List Value} {x y : Int32} (h : x = y) (k : W p l e R s m args below meth c H locs cells slots Q (F0 m pc ls (.int y :: rest))) : W p l e R s m args below meth c H locs cells slots Q (F0 m pc ls (.int x :: rest)) := h ▸ k
theorem k_topl {p : Program} {l : Launch} {e : Env} {R : Room} {s : State} {m : MethodId} {args : Array Value} {below : List Frame} {meth : Method} {c : Code} {H : Heap} {locs : List Loc} {cells slots : Nat} {Q : State → Prop} {pc : Nat} {ls : Array Slot} {rest : List Value} {x y : Int64} (h : x = y) (k : W p l e R s m args below meth c H locs cells slots Q (F0 m pc ls (.long y :: rest))) : W p l e R s m args below meth c H locs cells slots Q (F0 m pc ls (.long x :: rest)) := h ▸ k
theorem k_upI_eq {f : Nat → Int32} {a b : Nat} {x : Int32} (h : b = a) : upd f a x b = x := by subst h; exact pk_us
theorem k_upI_ne {f : Nat → Int32} {a b : Nat} {x : Int32} (h : b ≠ a) : upd f a x b = f b := pk_un h
theorem k_upL_eq {f : Nat → Int64} {a b : Nat} {x : Int64} (h : b = a) : vp_updL f a x b = x := by subst h; exact pk_uLs
theorem k_upL_ne {f : Nat → Int64} {a b : Nat} {x : Int64} (h : b ≠ a) : vp_updL f a x b = f b := pk_uLn h
theorem k_upQ_eq {f : Nat → Option Nat} {a b : Nat} {x : Option Nat} (h : b = a) : va_up f a x b = x := by subst h; exact va_up_self _ _ _
theorem k_upQ_ne {f : Nat → Option Nat} {a b : Nat} {x : Option Nat} (h : b ≠ a) : va_up f a x b = f b := va_up_ne _ _ h
def sp_r (x : Int32) (lo hi : Int) : Int32 := if lo ≤ x.toInt ∧ x.toInt ≤ hi then 1 else 0
theorem sp_r0 (x : Int32) (lo hi : Int) : sp_r x lo hi = 0 ↔ ¬ (lo ≤ x.toInt ∧ x.toInt ≤ hi) := by
  unfold sp_r; split
  · rename_i h; exact ⟨fun q => absurd q (by decide), fun q => absurd h q⟩
  · rename_i h; exact ⟨fun _ => h, fun _ => rfl⟩
theorem sp_r1 (x : Int32) (lo hi : Int) : (¬ sp_r x lo hi = 0) ↔ (lo ≤ x.toInt ∧ x.toInt ≤ hi) := by rw [sp_r0]; exact Classical.not_not
def sp_in (v lo hi : Int64) : Int32 := if lo ≤ v ∧ v ≤ hi then 1 else 0
theorem sp_in_r (x : Int32) (lo hi : Int64) {a b : Int} (ha : lo.toInt = a) (hb : hi.toInt = b) : sp_in x.toInt64 lo hi = sp_r x a b := by
  unfold sp_in sp_r; simp only [fa_le64, Int32.toInt_toInt64, ha, hb]
theorem sp_in0 (v lo hi : Int64) : sp_in v lo hi = 0 ↔ ¬ (lo.toInt ≤ v.toInt ∧ v.toInt ≤ hi.toInt) := by
  unfold sp_in; simp only [fa_le64]; split
  · rename_i h; exact ⟨fun q => absurd q (by decide), fun q => absurd h q⟩
  · rename_i h; exact ⟨fun _ => h, fun _ => rfl⟩
theorem sp_in1 (v lo hi : Int64) : (¬ sp_in v lo hi = 0) ↔ (lo.toInt ≤ v.toInt ∧ v.toInt ≤ hi.toInt) := by rw [sp_in0]; exact Classical.not_not
theorem k_add1 (x : Int32) : (x.toInt64 + 1).toInt = x.toInt + 1 := by
  have h1 := Int32.le_toInt x
  have h2 := Int32.toInt_lt x
  rw [Int64.toInt_add, Int32.toInt_toInt64, show (1 : Int64).toInt = 1 from by decide, Int.bmod_def]
  split <;> omega
theorem k_cmp_ne (x y : Int64) : (¬ lg_cmp x y = 0) ↔ ¬ x = y := not_congr (lg_cmp_eq x y)

abbrev kG : Type := List Nat × (Nat → Nat) × (Nat → Nat → Nat) × Nat × (Nat → ClassId) × (Nat → Nat) × (Nat → Nat)
def gL (g : kG) : List Nat := g.1
def gk (g : kG) : Nat → Nat := g.2.1
def gr (g : kG) : Nat → Nat → Nat := g.2.2.1
def gt (g : kG) : Nat := g.2.2.2.1
def gc (g : kG) : Nat → ClassId := g.2.2.2.2.1
def gK (g : kG) : Nat → Nat := g.2.2.2.2.2.1
def gV (g : kG) : Nat → Nat := g.2.2.2.2.2.2
def ik (g : kG) (k a : Nat) : Prop := a ∈ gL g ∧ gk g a = k
def gty (g : kG) : List (ClassId × FieldType) := [(gc g 0, .int), (gc g 1, .long), (gc g 2, .byte), (gc g 3, .boolean), (gc g 4, .object "DeadlineShare$Task"), (gc g 5, .object "DeadlineShare$State")]
def ok (g : kG) (a : Nat) (e : va_E) : Prop := match gk g a with
  | 0 => ∃ (x1 : Int32) (x2 : Int64), e = .inr (0, [.ref (gr g a 0), .int x1, .long x2])
  | 1 => ∃ (x2 : Int32) (x3 : Int32), e = .inr (1, [.ref (gr g a 0), .ref (gr g a 1), .int x2, .int x3])
  | 2 => e = .inr (2, [.ref (gr g a 0)])
  | 3 => ∃ (x1 : Int32), e = .inr (3, [.ref (gr g a 0), .int x1])
  | 4 => ∃ (x1 : Int32), e = .inr (4, [.ref (gr g a 0), .int x1])
  | 5 => ∃ (x1 : Int32) (x2 : Int32) (x3 : Int32) (x4 : Int32), e = .inr (5, [.ref (gr g a 0), .int x1, .int x2, .int x3, .int x4]) ∧ 0 ≤ x1.toInt ∧ x1.toInt ≤ 8
  | 6 => ∃ (x5 : Int32) (x6 : Int32) (x7 : Int64) (x8 : Int32) (x9 : Int32), e = .inr (6, [.ref (gr g a 0), .ref (gr g a 1), .ref (gr g a 2), .ref (gr g a 3), .ref (gr g a 4), .int x5, .int x6, .long x7, .int x8, .int x9]) ∧ 0 ≤ x5.toInt ∧ x5.toInt ≤ 12
  | 7 => ∃ (x1 : Int32), e = .inr (7, [.ref (gr g a 0), .int x1])
  | 8 => ∃ (x0 : Int32) (x2 : Int32) (x3 : Int32) (x4 : Int32) (x5 : Int64) (x6 : Int32) (x8 : Int32) (x9 : Int32) (x10 : Int32) (x11 : Int32) (x12 : Int32) (x13 : Int32) (x14 : Int32) (x15 : Int32) (x16 : Int32) (x17 : Int32), e = .inr (8, [.int x0, .ref (gr g a 1), .int x2, .int x3, .int x4, .long x5, .int x6, .ref (gr g a 7), .int x8, .int x9, .int x10, .int x11, .int x12, .int x13, .int x14, .int x15, .int x16, .int x17])
  | 9 => ∃ (x0 : Int32) (x1 : Int32) (x2 : Int32), e = .inr (9, [.int x0, .int x1, .int x2])
  | 10 => ∃ (x0 : Int64) (x1 : Int64), e = .inr (10, [.long x0, .long x1])
  | 11 => ∃ (x11 : Int32), e = .inr (11, [.ref (gr g a 0), .ref (gr g a 1), .ref (gr g a 2), .ref (gr g a 3), .ref (gr g a 4), .ref (gr g a 5), .ref (gr g a 6), .ref (gr g a 7), .ref (gr g a 8), .ref (gr g a 9), .ref (gr g a 10), .int x11])
  | 12 => ∃ (x0 : Int32) (x1 : Int32) (x10 : Int32) (x12 : Int32) (x13 : Int32) (x14 : Int32) (x15 : Int32) (x16 : Int64) (x17 : Int32) (x18 : Int32) (x23 : Int32) (x24 : Int64) (x25 : Int64) (x26 : Int64), e = .inr (12, [.int x0, .int x1, .ref (gr g a 2), .ref (gr g a 3), .ref (gr g a 4), .ref (gr g a 5), .ref (gr g a 6), .ref (gr g a 7), .ref (gr g a 8), .ref (gr g a 9), .int x10, .ref (gr g a 11), .int x12, .int x13, .int x14, .int x15, .long x16, .int x17, .int x18, .ref (gr g a 19), .ref (gr g a 20), .ref (gr g a 21), .ref (gr g a 22), .int x23, .long x24, .long x25, .long x26]) ∧ 0 ≤ x10.toInt ∧ x10.toInt ≤ 10 ∧ 0 ≤ x12.toInt ∧ x12.toInt ≤ 200 ∧ 0 ≤ x23.toInt ∧ x23.toInt ≤ 8
  | 20 => ∃ q : Nat → Option Nat, e = .inl (gc g 4, 12, .inr (.inr (.inr (.inr q)))) ∧ ∀ i : Nat, i < 12 → q i = some (gr g a i)
  | 21 => ∃ q : Nat → Option Nat, e = .inl (gc g 5, 2, .inr (.inr (.inr (.inr q)))) ∧ ∀ i : Nat, i < 2 → q i = some (gr g a i)
  | 22 => ∃ q : Nat → Option Nat, e = .inl (gc g 5, 10, .inr (.inr (.inr (.inr q)))) ∧ ∀ i : Nat, i < 10 → q i = some (gr g a i)
  | 23 => ∃ q : Nat → Int64, e = .inl (gc g 1, 128, .inr (.inl q))
  | 24 => ∃ q : Nat → Int32, e = .inl (gc g 0, 8, .inl q)
  | 25 => ∃ q : Nat → Int32, e = .inl (gc g 2, 200, .inl q)
  | 26 => ∃ q : Nat → Int32, e = .inl (gc g 3, 2, .inl q)
  | 27 => ∃ q : Nat → Int32, e = .inl (gc g 0, 10, .inl q)
  | 28 => ∃ q : Nat → Int32, e = .inl (gc g 0, 5, .inl q)
  | 30 => ∃ q : Nat → Int32, e = .inl (gc g 0, 7, .inl q)
  | 31 => ∃ q : Nat → Int32, e = .inl (gc g 0, 3, .inl q)
  | 32 => ∃ q : Nat → Int64, e = .inl (gc g 1, 906, .inr (.inl q))
  | 33 => ∃ q : Nat → Int64, e = .inl (gc g 1, 9060, .inr (.inl q))
  | 34 => ∃ q : Nat → Int64, e = .inl (gc g 1, 906, .inr (.inl q))
  | 35 => ∃ q : Nat → Int64, e = .inl (gc g 1, 1812, .inr (.inl q))
  | 36 => ∃ q : Nat → Int32, e = .inl (gc g 3, 2, .inl q)
  | 37 => ∃ q : Nat → Int32, e = .inl (gc g 0, 10, .inl q)
  | 38 => ∃ q : Nat → Int32, e = .inl (gc g 0, 200, .inl q)
  | 39 => ∃ q : Nat → Int64, e = .inl (gc g 1, 5, .inr (.inl q)) ∧ ∀ i : Nat, i < 5 → 1 ≤ (q i).toInt
  | 40 => ∃ q : Nat → Int32, e = .inl (gc g 0, 5, .inl q) ∧ ∀ i : Nat, i < 5 → (q i).toInt ≤ 99 ∧ (i = 2 → (q i).toInt ≤ 8)
  | 41 => ∃ q : Nat → Int32, e = .inl (gc g 0, 8, .inl q) ∧ ∀ i : Nat, i < 8 → 0 ≤ (q i).toInt ∧ (q i).toInt ≤ 4
  | 42 => ∃ q : Nat → Int32, e = .inl (gc g 0, 8, .inl q)
  | _ => True
def kWf (g : kG) : Prop := (∀ a : Nat, ik g 0 a → ik g 9 (gr g a 0)) ∧ (∀ a : Nat, ik g 1 a → ik g 22 (gr g a 0) ∧ ik g 27 (gr g a 1)) ∧ (∀ a : Nat, ik g 2 a → ik g 23 (gr g a 0)) ∧ (∀ a : Nat, ik g 3 a → ik g 5 (gr g a 0)) ∧ (∀ a : Nat, ik g 4 a → ik g 28 (gr g a 0)) ∧ (∀ a : Nat, ik g 5 a → ik g 24 (gr g a 0)) ∧ (∀ a : Nat, ik g 6 a → ik g 9 (gr g a 0) ∧ ik g 20 (gr g a 1) ∧ ik g 2 (gr g a 2) ∧ ik g 10 (gr g a 3) ∧ ik g 10 (gr g a 4)) ∧ (∀ a : Nat, ik g 7 a → ik g 25 (gr g a 0)) ∧ (∀ a : Nat, ik g 8 a → ik g 5 (gr g a 1) ∧ ik g 10 (gr g a 7)) ∧ (∀ a : Nat, ik g 11 a → ik g 9 (gr g a 0) ∧ ik g 7 (gr g a 1) ∧ ik g 3 (gr g a 2) ∧ ik g 6 (gr g a 3) ∧ ik g 6 (gr g a 4) ∧ ik g 0 (gr g a 5) ∧ ik g 0 (gr g a 6) ∧ ik g 21 (gr g a 7) ∧ ik g 26 (gr g a 8) ∧ ik g 1 (gr g a 9) ∧ ik g 4 (gr g a 10)) ∧ (∀ a : Nat, ik g 12 a → ik g 30 (gr g a 2) ∧ ik g 31 (gr g a 3) ∧ ik g 32 (gr g a 4) ∧ ik g 33 (gr g a 5) ∧ ik g 34 (gr g a 6) ∧ ik g 35 (gr g a 7) ∧ ik g 36 (gr g a 8) ∧ ik g 37 (gr g a 9) ∧ ik g 38 (gr g a 11) ∧ ik g 39 (gr g a 19) ∧ ik g 40 (gr g a 20) ∧ ik g 41 (gr g a 21) ∧ ik g 42 (gr g a 22)) ∧ (∀ a i : Nat, ik g 20 a → i < 12 → ik g 8 (gr g a i)) ∧ (∀ a i : Nat, ik g 21 a → i < 2 → ik g 6 (gr g a i)) ∧ (∀ a i : Nat, ik g 22 a → i < 10 → ik g 6 (gr g a i))
theorem kw_0_0 {g : kG} {a : Nat} (h : kWf g) (ha : ik g 0 a) : ik g 9 (gr g a 0) := (h.1 a ha)
theorem kw_1_0 {g : kG} {a : Nat} (h : kWf g) (ha : ik g 1 a) : ik g 22 (gr g a 0) := (h.2.1 a ha).1
theorem kw_1_1 {g : kG} {a : Nat} (h : kWf g) (ha : ik g 1 a) : ik g 27 (gr g a 1) := (h.2.1 a ha).2
theorem kw_2_0 {g : kG} {a : Nat} (h : kWf g) (ha : ik g 2 a) : ik g 23 (gr g a 0) := (h.2.2.1 a ha)
theorem kw_3_0 {g : kG} {a : Nat} (h : kWf g) (ha : ik g 3 a) : ik g 5 (gr g a 0) := (h.2.2.2.1 a ha)
theorem kw_4_0 {g : kG} {a : Nat} (h : kWf g) (ha : ik g 4 a) : ik g 28 (gr g a 0) := (h.2.2.2.2.1 a ha)
theorem kw_5_0 {g : kG} {a : Nat} (h : kWf g) (ha : ik g 5 a) : ik g 24 (gr g a 0) := (h.2.2.2.2.2.1 a ha)
theorem kw_6_0 {g : kG} {a : Nat} (h : kWf g) (ha : ik g 6 a) : ik g 9 (gr g a 0) := (h.2.2.2.2.2.2.1 a ha).1
theorem kw_6_1 {g : kG} {a : Nat} (h : kWf g) (ha : ik g 6 a) : ik g 20 (gr g a 1) := (h.2.2.2.2.2.2.1 a ha).2.1
theorem kw_6_2 {g : kG} {a : Nat} (h : kWf g) (ha : ik g 6 a) : ik g 2 (gr g a 2) := (h.2.2.2.2.2.2.1 a ha).2.2.1
theorem kw_6_3 {g : kG} {a : Nat} (h : kWf g) (ha : ik g 6 a) : ik g 10 (gr g a 3) := (h.2.2.2.2.2.2.1 a ha).2.2.2.1
theorem kw_6_4 {g : kG} {a : Nat} (h : kWf g) (ha : ik g 6 a) : ik g 10 (gr g a 4) := (h.2.2.2.2.2.2.1 a ha).2.2.2.2
theorem kw_7_0 {g : kG} {a : Nat} (h : kWf g) (ha : ik g 7 a) : ik g 25 (gr g a 0) := (h.2.2.2.2.2.2.2.1 a ha)
theorem kw_8_1 {g : kG} {a : Nat} (h : kWf g) (ha : ik g 8 a) : ik g 5 (gr g a 1) := (h.2.2.2.2.2.2.2.2.1 a ha).1
theorem kw_8_7 {g : kG} {a : Nat} (h : kWf g) (ha : ik g 8 a) : ik g 10 (gr g a 7) := (h.2.2.2.2.2.2.2.2.1 a ha).2
theorem kw_11_0 {g : kG} {a : Nat} (h : kWf g) (ha : ik g 11 a) : ik g 9 (gr g a 0) := (h.2.2.2.2.2.2.2.2.2.1 a ha).1
theorem kw_11_1 {g : kG} {a : Nat} (h : kWf g) (ha : ik g 11 a) : ik g 7 (gr g a 1) := (h.2.2.2.2.2.2.2.2.2.1 a ha).2.1
theorem kw_11_2 {g : kG} {a : Nat} (h : kWf g) (ha : ik g 11 a) : ik g 3 (gr g a 2) := (h.2.2.2.2.2.2.2.2.2.1 a ha).2.2.1
theorem kw_11_3 {g : kG} {a : Nat} (h : kWf g) (ha : ik g 11 a) : ik g 6 (gr g a 3) := (h.2.2.2.2.2.2.2.2.2.1 a ha).2.2.2.1
theorem kw_11_4 {g : kG} {a : Nat} (h : kWf g) (ha : ik g 11 a) : ik g 6 (gr g a 4) := (h.2.2.2.2.2.2.2.2.2.1 a ha).2.2.2.2.1
theorem kw_11_5 {g : kG} {a : Nat} (h : kWf g) (ha : ik g 11 a) : ik g 0 (gr g a 5) := (h.2.2.2.2.2.2.2.2.2.1 a ha).2.2.2.2.2.1
theorem kw_11_6 {g : kG} {a : Nat} (h : kWf g) (ha : ik g 11 a) : ik g 0 (gr g a 6) := (h.2.2.2.2.2.2.2.2.2.1 a ha).2.2.2.2.2.2.1
theorem kw_11_7 {g : kG} {a : Nat} (h : kWf g) (ha : ik g 11 a) : ik g 21 (gr g a 7) := (h.2.2.2.2.2.2.2.2.2.1 a ha).2.2.2.2.2.2.2.1
theorem kw_11_8 {g : kG} {a : Nat} (h : kWf g) (ha : ik g 11 a) : ik g 26 (gr g a 8) := (h.2.2.2.2.2.2.2.2.2.1 a ha).2.2.2.2.2.2.2.2.1
theorem kw_11_9 {g : kG} {a : Nat} (h : kWf g) (ha : ik g 11 a) : ik g 1 (gr g a 9) := (h.2.2.2.2.2.2.2.2.2.1 a ha).2.2.2.2.2.2.2.2.2.1
theorem kw_11_10 {g : kG} {a : Nat} (h : kWf g) (ha : ik g 11 a) : ik g 4 (gr g a 10) := (h.2.2.2.2.2.2.2.2.2.1 a ha).2.2.2.2.2.2.2.2.2.2
theorem kw_12_2 {g : kG} {a : Nat} (h : kWf g) (ha : ik g 12 a) : ik g 30 (gr g a 2) := (h.2.2.2.2.2.2.2.2.2.2.1 a ha).1
theorem kw_12_3 {g : kG} {a : Nat} (h : kWf g) (ha : ik g 12 a) : ik g 31 (gr g a 3) := (h.2.2.2.2.2.2.2.2.2.2.1 a ha).2.1
theorem kw_12_4 {g : kG} {a : Nat} (h : kWf g) (ha : ik g 12 a) : ik g 32 (gr g a 4) := (h.2.2.2.2.2.2.2.2.2.2.1 a ha).2.2.1
theorem kw_12_5 {g : kG} {a : Nat} (h : kWf g) (ha : ik g 12 a) : ik g 33 (gr g a 5) := (h.2.2.2.2.2.2.2.2.2.2.1 a ha).2.2.2.1
theorem kw_12_6 {g : kG} {a : Nat} (h : kWf g) (ha : ik g 12 a) : ik g 34 (gr g a 6) := (h.2.2.2.2.2.2.2.2.2.2.1 a ha).2.2.2.2.1
theorem kw_12_7 {g : kG} {a : Nat} (h : kWf g) (ha : ik g 12 a) : ik g 35 (gr g a 7) := (h.2.2.2.2.2.2.2.2.2.2.1 a ha).2.2.2.2.2.1
theorem kw_12_8 {g : kG} {a : Nat} (h : kWf g) (ha : ik g 12 a) : ik g 36 (gr g a 8) := (h.2.2.2.2.2.2.2.2.2.2.1 a ha).2.2.2.2.2.2.1
theorem kw_12_9 {g : kG} {a : Nat} (h : kWf g) (ha : ik g 12 a) : ik g 37 (gr g a 9) := (h.2.2.2.2.2.2.2.2.2.2.1 a ha).2.2.2.2.2.2.2.1
theorem kw_12_11 {g : kG} {a : Nat} (h : kWf g) (ha : ik g 12 a) : ik g 38 (gr g a 11) := (h.2.2.2.2.2.2.2.2.2.2.1 a ha).2.2.2.2.2.2.2.2.1
theorem kw_12_19 {g : kG} {a : Nat} (h : kWf g) (ha : ik g 12 a) : ik g 39 (gr g a 19) := (h.2.2.2.2.2.2.2.2.2.2.1 a ha).2.2.2.2.2.2.2.2.2.1
theorem kw_12_20 {g : kG} {a : Nat} (h : kWf g) (ha : ik g 12 a) : ik g 40 (gr g a 20) := (h.2.2.2.2.2.2.2.2.2.2.1 a ha).2.2.2.2.2.2.2.2.2.2.1
theorem kw_12_21 {g : kG} {a : Nat} (h : kWf g) (ha : ik g 12 a) : ik g 41 (gr g a 21) := (h.2.2.2.2.2.2.2.2.2.2.1 a ha).2.2.2.2.2.2.2.2.2.2.2.1
theorem kw_12_22 {g : kG} {a : Nat} (h : kWf g) (ha : ik g 12 a) : ik g 42 (gr g a 22) := (h.2.2.2.2.2.2.2.2.2.2.1 a ha).2.2.2.2.2.2.2.2.2.2.2.2
theorem kw_20 {g : kG} {a i : Nat} (h : kWf g) (ha : ik g 20 a) (hi : i < 12) : ik g 8 (gr g a i) := h.2.2.2.2.2.2.2.2.2.2.2.1 a i ha hi
theorem kw_21 {g : kG} {a i : Nat} (h : kWf g) (ha : ik g 21 a) (hi : i < 2) : ik g 6 (gr g a i) := h.2.2.2.2.2.2.2.2.2.2.2.2.1 a i ha hi
theorem kw_22 {g : kG} {a i : Nat} (h : kWf g) (ha : ik g 22 a) (hi : i < 10) : ik g 6 (gr g a i) := h.2.2.2.2.2.2.2.2.2.2.2.2.2 a i ha hi
def Iv (dC : Nat → ClassId) (dI : Nat → Nat → Nat) (g : kG) (A : Nat → Prop) (f : Nat → va_E) (H : Heap) : Prop := va_P (dC, dI) vwCl (va_pl (gL g) f) H ∧ va_D A (va_pl (gL g) f) ∧ ∀ a ∈ gL g, ok g a (f a)
def Kp (g : kG) (ks : List Nat) (f f1 : Nat → va_E) : Prop := ∀ a : Nat, gk g a ∉ ks → f1 a = f a
theorem Kp.rf {g : kG} {ks : List Nat} {f : Nat → va_E} : Kp g ks f f := fun _ _ => rfl
theorem Kp.put {g : kG} {ks : List Nat} {f f1 f2 : Nat → va_E} {a k : Nat} {e : va_E} (h : Kp g ks f f1) (ha : ik g k a) (hk : k ∈ ks) (he : f2 = va_up f1 a e) : Kp g ks f f2 := fun b hb => by
  rw [he, va_up_ne _ _ (fun q => hb (by rw [q, ha.2]; exact hk))]
  exact h b hb
theorem Kp.call {g : kG} {ks kt : List Nat} {f f1 f2 : Nat → va_E} (h : Kp g ks f f1) (h1 : Kp g kt f1 f2) (hk : ∀ k ∈ kt, k ∈ ks) : Kp g ks f f2 := fun b hb => (h1 b (fun q => hb (hk _ q))).trans (h b hb)
theorem Kp.at {g : kG} {ks : List Nat} {f f1 : Nat → va_E} {a k : Nat} {e : va_E} (h : Kp g ks f f1) (ha : ik g k a) (hk : k ∉ ks) (he : f a = e) : f1 a = e := (h a (by rw [ha.2]; exact hk)).trans he
theorem ik_ne {g : kG} {k j a b : Nat} (ha : ik g k a) (hb : ik g j b) (h : k ≠ j) : a ≠ b := fun q => h (by rw [← ha.2, ← hb.2, q])
theorem k_at {dC : Nat → ClassId} {dI : Nat → Nat → Nat} {g : kG} {A : Nat → Prop} {f : Nat → va_E} {H : Heap} {a : Nat} {e : va_E} (hI : Iv dC dI g A f H) (ha : a ∈ gL g) (he : f a = e) : ∃ q : Nat, (va_pl (gL g) f)[q]? = some (a, e) := by
  obtain ⟨q, hq⟩ := va_pl_get (X := []) (f := f) ha
  exact ⟨q, by rw [← he]; exact hq⟩
theorem k_up {dC : Nat → ClassId} {dI : Nat → Nat → Nat} {g : kG} {A : Nat → Prop} {f : Nat → va_E} {H H1 : Heap} {a q : Nat} {e0 e : va_E} (hI : Iv dC dI g A f H) (ha : a ∈ gL g) (he : f a = e0) (hq : (va_pl (gL g) f)[q]? = some (a, e0)) (hok : ok g a e) (hP : va_P (dC, dI) vwCl ((va_pl (gL g) f).set q (a, e)) H1) (hD : va_D A ((va_pl (gL g) f).set q (a, e))) : Iv dC dI g A (va_up f a e) H1 := by
  have hs : (va_pl (gL g) f).set q (a, e) = va_pl (gL g) (va_up f a e) := va_pl_set (X := []) (e := e) hI.2.1 ha (by rw [he]; exact hq)
  rw [hs] at hP hD
  refine ⟨hP, hD, fun b hb => ?_⟩
  by_cases hba : b = a
  · subst hba; rw [va_up_self]; exact hok
  · rw [va_up_ne _ _ hba]; exact hI.2.2 b hb
theorem op_0 {dC : Nat → ClassId} {dI : Nat → Nat → Nat} {g : kG} {A : Nat → Prop} {f : Nat → va_E} {H : Heap} {a : Nat} (hI : Iv dC dI g A f H) (ha : ik g 0 a) : ∃ (x1 : Int32) (x2 : Int64), f a = .inr (0, [.ref (gr g a 0), .int x1, .long x2]) := by
  have h := hI.2.2 a ha.1
  unfold ok at h
  rw [ha.2] at h
  exact h
theorem cl_0 {g : kG} {a : Nat} (ha : ik g 0 a) {x1 : Int32} {x2 : Int64} : ok g a (.inr (0, [.ref (gr g a 0), .int x1, .long x2])) := by
  unfold ok
  rw [ha.2]
  exact ⟨_, _, rfl⟩
theorem op_1 {dC : Nat → ClassId} {dI : Nat → Nat → Nat} {g : kG} {A : Nat → Prop} {f : Nat → va_E} {H : Heap} {a : Nat} (hI : Iv dC dI g A f H) (ha : ik g 1 a) : ∃ (x2 : Int32) (x3 : Int32), f a = .inr (1, [.ref (gr g a 0), .ref (gr g a 1), .int x2, .int x3]) := by
  have h := hI.2.2 a ha.1
  unfold ok at h
  rw [ha.2] at h
  exact h
theorem cl_1 {g : kG} {a : Nat} (ha : ik g 1 a) {x2 : Int32} {x3 : Int32} : ok g a (.inr (1, [.ref (gr g a 0), .ref (gr g a 1), .int x2, .int x3])) := by
  unfold ok
  rw [ha.2]
  exact ⟨_, _, rfl⟩
theorem op_2 {dC : Nat → ClassId} {dI : Nat → Nat → Nat} {g : kG} {A : Nat → Prop} {f : Nat → va_E} {H : Heap} {a : Nat} (hI : Iv dC dI g A f H) (ha : ik g 2 a) : f a = .inr (2, [.ref (gr g a 0)]) := by
  have h := hI.2.2 a ha.1
  unfold ok at h
  rw [ha.2] at h
  exact h
theorem cl_2 {g : kG} {a : Nat} (ha : ik g 2 a) : ok g a (.inr (2, [.ref (gr g a 0)])) := by
  unfold ok
  rw [ha.2]
  exact rfl
theorem op_3 {dC : Nat → ClassId} {dI : Nat → Nat → Nat} {g : kG} {A : Nat → Prop} {f : Nat → va_E} {H : Heap} {a : Nat} (hI : Iv dC dI g A f H) (ha : ik g 3 a) : ∃ (x1 : Int32), f a = .inr (3, [.ref (gr g a 0), .int x1]) := by
  have h := hI.2.2 a ha.1
  unfold ok at h
  rw [ha.2] at h
  exact h
theorem cl_3 {g : kG} {a : Nat} (ha : ik g 3 a) {x1 : Int32} : ok g a (.inr (3, [.ref (gr g a 0), .int x1])) := by
  unfold ok
  rw [ha.2]
  exact ⟨_, rfl⟩
theorem op_4 {dC : Nat → ClassId} {dI : Nat → Nat → Nat} {g : kG} {A : Nat → Prop} {f : Nat → va_E} {H : Heap} {a : Nat} (hI : Iv dC dI g A f H) (ha : ik g 4 a) : ∃ (x1 : Int32), f a = .inr (4, [.ref (gr g a 0), .int x1]) := by
  have h := hI.2.2 a ha.1
  unfold ok at h
  rw [ha.2] at h
  exact h
theorem cl_4 {g : kG} {a : Nat} (ha : ik g 4 a) {x1 : Int32} : ok g a (.inr (4, [.ref (gr g a 0), .int x1])) := by
  unfold ok
  rw [ha.2]
  exact ⟨_, rfl⟩
theorem op_5 {dC : Nat → ClassId} {dI : Nat → Nat → Nat} {g : kG} {A : Nat → Prop} {f : Nat → va_E} {H : Heap} {a : Nat} (hI : Iv dC dI g A f H) (ha : ik g 5 a) : ∃ (x1 : Int32) (x2 : Int32) (x3 : Int32) (x4 : Int32), f a = .inr (5, [.ref (gr g a 0), .int x1, .int x2, .int x3, .int x4]) ∧ 0 ≤ x1.toInt ∧ x1.toInt ≤ 8 := by
  have h := hI.2.2 a ha.1
  unfold ok at h
  rw [ha.2] at h
  exact h
theorem cl_5 {g : kG} {a : Nat} (ha : ik g 5 a) {x1 : Int32} {x2 : Int32} {x3 : Int32} {x4 : Int32} (hb0 : 0 ≤ x1.toInt ∧ x1.toInt ≤ 8) : ok g a (.inr (5, [.ref (gr g a 0), .int x1, .int x2, .int x3, .int x4])) := by
  unfold ok
  rw [ha.2]
  exact ⟨_, _, _, _, rfl, hb0.1, hb0.2⟩
theorem op_6 {dC : Nat → ClassId} {dI : Nat → Nat → Nat} {g : kG} {A : Nat → Prop} {f : Nat → va_E} {H : Heap} {a : Nat} (hI : Iv dC dI g A f H) (ha : ik g 6 a) : ∃ (x5 : Int32) (x6 : Int32) (x7 : Int64) (x8 : Int32) (x9 : Int32), f a = .inr (6, [.ref (gr g a 0), .ref (gr g a 1), .ref (gr g a 2), .ref (gr g a 3), .ref (gr g a 4), .int x5, .int x6, .long x7, .int x8, .int x9]) ∧ 0 ≤ x5.toInt ∧ x5.toInt ≤ 12 := by
  have h := hI.2.2 a ha.1
  unfold ok at h
  rw [ha.2] at h
  exact h
theorem cl_6 {g : kG} {a : Nat} (ha : ik g 6 a) {x5 : Int32} {x6 : Int32} {x7 : Int64} {x8 : Int32} {x9 : Int32} (hb0 : 0 ≤ x5.toInt ∧ x5.toInt ≤ 12) : ok g a (.inr (6, [.ref (gr g a 0), .ref (gr g a 1), .ref (gr g a 2), .ref (gr g a 3), .ref (gr g a 4), .int x5, .int x6, .long x7, .int x8, .int x9])) := by
  unfold ok
  rw [ha.2]
  exact ⟨_, _, _, _, _, rfl, hb0.1, hb0.2⟩
theorem op_7 {dC : Nat → ClassId} {dI : Nat → Nat → Nat} {g : kG} {A : Nat → Prop} {f : Nat → va_E} {H : Heap} {a : Nat} (hI : Iv dC dI g A f H) (ha : ik g 7 a) : ∃ (x1 : Int32), f a = .inr (7, [.ref (gr g a 0), .int x1]) := by
  have h := hI.2.2 a ha.1
  unfold ok at h
  rw [ha.2] at h
  exact h
theorem cl_7 {g : kG} {a : Nat} (ha : ik g 7 a) {x1 : Int32} : ok g a (.inr (7, [.ref (gr g a 0), .int x1])) := by
  unfold ok
  rw [ha.2]
  exact ⟨_, rfl⟩
theorem op_8 {dC : Nat → ClassId} {dI : Nat → Nat → Nat} {g : kG} {A : Nat → Prop} {f : Nat → va_E} {H : Heap} {a : Nat} (hI : Iv dC dI g A f H) (ha : ik g 8 a) : ∃ (x0 : Int32) (x2 : Int32) (x3 : Int32) (x4 : Int32) (x5 : Int64) (x6 : Int32) (x8 : Int32) (x9 : Int32) (x10 : Int32) (x11 : Int32) (x12 : Int32) (x13 : Int32) (x14 : Int32) (x15 : Int32) (x16 : Int32) (x17 : Int32), f a = .inr (8, [.int x0, .ref (gr g a 1), .int x2, .int x3, .int x4, .long x5, .int x6, .ref (gr g a 7), .int x8, .int x9, .int x10, .int x11, .int x12, .int x13, .int x14, .int x15, .int x16, .int x17]) := by
  have h := hI.2.2 a ha.1
  unfold ok at h
  rw [ha.2] at h
  exact h
theorem cl_8 {g : kG} {a : Nat} (ha : ik g 8 a) {x0 : Int32} {x2 : Int32} {x3 : Int32} {x4 : Int32} {x5 : Int64} {x6 : Int32} {x8 : Int32} {x9 : Int32} {x10 : Int32} {x11 : Int32} {x12 : Int32} {x13 : Int32} {x14 : Int32} {x15 : Int32} {x16 : Int32} {x17 : Int32} : ok g a (.inr (8, [.int x0, .ref (gr g a 1), .int x2, .int x3, .int x4, .long x5, .int x6, .ref (gr g a 7), .int x8, .int x9, .int x10, .int x11, .int x12, .int x13, .int x14, .int x15, .int x16, .int x17])) := by
  unfold ok
  rw [ha.2]
  exact ⟨_, _, _, _, _, _, _, _, _, _, _, _, _, _, _, _, rfl⟩
theorem op_9 {dC : Nat → ClassId} {dI : Nat → Nat → Nat} {g : kG} {A : Nat → Prop} {f : Nat → va_E} {H : Heap} {a : Nat} (hI : Iv dC dI g A f H) (ha : ik g 9 a) : ∃ (x0 : Int32) (x1 : Int32) (x2 : Int32), f a = .inr (9, [.int x0, .int x1, .int x2]) := by
  have h := hI.2.2 a ha.1
  unfold ok at h
  rw [ha.2] at h
  exact h
theorem cl_9 {g : kG} {a : Nat} (ha : ik g 9 a) {x0 : Int32} {x1 : Int32} {x2 : Int32} : ok g a (.inr (9, [.int x0, .int x1, .int x2])) := by
  unfold ok
  rw [ha.2]
  exact ⟨_, _, _, rfl⟩
theorem op_10 {dC : Nat → ClassId} {dI : Nat → Nat → Nat} {g : kG} {A : Nat → Prop} {f : Nat → va_E} {H : Heap} {a : Nat} (hI : Iv dC dI g A f H) (ha : ik g 10 a) : ∃ (x0 : Int64) (x1 : Int64), f a = .inr (10, [.long x0, .long x1]) := by
  have h := hI.2.2 a ha.1
  unfold ok at h
  rw [ha.2] at h
  exact h
theorem cl_10 {g : kG} {a : Nat} (ha : ik g 10 a) {x0 : Int64} {x1 : Int64} : ok g a (.inr (10, [.long x0, .long x1])) := by
  unfold ok
  rw [ha.2]
  exact ⟨_, _, rfl⟩
theorem op_11 {dC : Nat → ClassId} {dI : Nat → Nat → Nat} {g : kG} {A : Nat → Prop} {f : Nat → va_E} {H : Heap} {a : Nat} (hI : Iv dC dI g A f H) (ha : ik g 11 a) : ∃ (x11 : Int32), f a = .inr (11, [.ref (gr g a 0), .ref (gr g a 1), .ref (gr g a 2), .ref (gr g a 3), .ref (gr g a 4), .ref (gr g a 5), .ref (gr g a 6), .ref (gr g a 7), .ref (gr g a 8), .ref (gr g a 9), .ref (gr g a 10), .int x11]) := by
  have h := hI.2.2 a ha.1
  unfold ok at h
  rw [ha.2] at h
  exact h
theorem cl_11 {g : kG} {a : Nat} (ha : ik g 11 a) {x11 : Int32} : ok g a (.inr (11, [.ref (gr g a 0), .ref (gr g a 1), .ref (gr g a 2), .ref (gr g a 3), .ref (gr g a 4), .ref (gr g a 5), .ref (gr g a 6), .ref (gr g a 7), .ref (gr g a 8), .ref (gr g a 9), .ref (gr g a 10), .int x11])) := by
  unfold ok
  rw [ha.2]
  exact ⟨_, rfl⟩
theorem op_12 {dC : Nat → ClassId} {dI : Nat → Nat → Nat} {g : kG} {A : Nat → Prop} {f : Nat → va_E} {H : Heap} {a : Nat} (hI : Iv dC dI g A f H) (ha : ik g 12 a) : ∃ (x0 : Int32) (x1 : Int32) (x10 : Int32) (x12 : Int32) (x13 : Int32) (x14 : Int32) (x15 : Int32) (x16 : Int64) (x17 : Int32) (x18 : Int32) (x23 : Int32) (x24 : Int64) (x25 : Int64) (x26 : Int64), f a = .inr (12, [.int x0, .int x1, .ref (gr g a 2), .ref (gr g a 3), .ref (gr g a 4), .ref (gr g a 5), .ref (gr g a 6), .ref (gr g a 7), .ref (gr g a 8), .ref (gr g a 9), .int x10, .ref (gr g a 11), .int x12, .int x13, .int x14, .int x15, .long x16, .int x17, .int x18, .ref (gr g a 19), .ref (gr g a 20), .ref (gr g a 21), .ref (gr g a 22), .int x23, .long x24, .long x25, .long x26]) ∧ 0 ≤ x10.toInt ∧ x10.toInt ≤ 10 ∧ 0 ≤ x12.toInt ∧ x12.toInt ≤ 200 ∧ 0 ≤ x23.toInt ∧ x23.toInt ≤ 8 := by
  have h := hI.2.2 a ha.1
  unfold ok at h
  rw [ha.2] at h
  exact h
theorem cl_12 {g : kG} {a : Nat} (ha : ik g 12 a) {x0 : Int32} {x1 : Int32} {x10 : Int32} {x12 : Int32} {x13 : Int32} {x14 : Int32} {x15 : Int32} {x16 : Int64} {x17 : Int32} {x18 : Int32} {x23 : Int32} {x24 : Int64} {x25 : Int64} {x26 : Int64} (hb0 : 0 ≤ x10.toInt ∧ x10.toInt ≤ 10) (hb1 : 0 ≤ x12.toInt ∧ x12.toInt ≤ 200) (hb2 : 0 ≤ x23.toInt ∧ x23.toInt ≤ 8) : ok g a (.inr (12, [.int x0, .int x1, .ref (gr g a 2), .ref (gr g a 3), .ref (gr g a 4), .ref (gr g a 5), .ref (gr g a 6), .ref (gr g a 7), .ref (gr g a 8), .ref (gr g a 9), .int x10, .ref (gr g a 11), .int x12, .int x13, .int x14, .int x15, .long x16, .int x17, .int x18, .ref (gr g a 19), .ref (gr g a 20), .ref (gr g a 21), .ref (gr g a 22), .int x23, .long x24, .long x25, .long x26])) := by
  unfold ok
  rw [ha.2]
  exact ⟨_, _, _, _, _, _, _, _, _, _, _, _, _, _, rfl, hb0.1, hb0.2, hb1.1, hb1.2, hb2.1, hb2.2⟩
theorem op_20 {dC : Nat → ClassId} {dI : Nat → Nat → Nat} {g : kG} {A : Nat → Prop} {f : Nat → va_E} {H : Heap} {a : Nat} (hI : Iv dC dI g A f H) (ha : ik g 20 a) : ∃ q : Nat → Option Nat, f a = .inl (gc g 4, 12, .inr (.inr (.inr (.inr q)))) ∧ ∀ i : Nat, i < 12 → q i = some (gr g a i) := by
  have h := hI.2.2 a ha.1
  unfold ok at h
  rw [ha.2] at h
  exact h
theorem op_21 {dC : Nat → ClassId} {dI : Nat → Nat → Nat} {g : kG} {A : Nat → Prop} {f : Nat → va_E} {H : Heap} {a : Nat} (hI : Iv dC dI g A f H) (ha : ik g 21 a) : ∃ q : Nat → Option Nat, f a = .inl (gc g 5, 2, .inr (.inr (.inr (.inr q)))) ∧ ∀ i : Nat, i < 2 → q i = some (gr g a i) := by
  have h := hI.2.2 a ha.1
  unfold ok at h
  rw [ha.2] at h
  exact h
theorem op_22 {dC : Nat → ClassId} {dI : Nat → Nat → Nat} {g : kG} {A : Nat → Prop} {f : Nat → va_E} {H : Heap} {a : Nat} (hI : Iv dC dI g A f H) (ha : ik g 22 a) : ∃ q : Nat → Option Nat, f a = .inl (gc g 5, 10, .inr (.inr (.inr (.inr q)))) ∧ ∀ i : Nat, i < 10 → q i = some (gr g a i) := by
  have h := hI.2.2 a ha.1
  unfold ok at h
  rw [ha.2] at h
  exact h
theorem op_23 {dC : Nat → ClassId} {dI : Nat → Nat → Nat} {g : kG} {A : Nat → Prop} {f : Nat → va_E} {H : Heap} {a : Nat} (hI : Iv dC dI g A f H) (ha : ik g 23 a) : ∃ q : Nat → Int64, f a = .inl (gc g 1, 128, .inr (.inl q)) := by
  have h := hI.2.2 a ha.1
  unfold ok at h
  rw [ha.2] at h
  exact h
theorem cl_23 {g : kG} {a : Nat} (ha : ik g 23 a) {q : Nat → Int64} : ok g a (.inl (gc g 1, 128, .inr (.inl q))) := by
  unfold ok
  rw [ha.2]
  exact ⟨_, rfl⟩
theorem op_24 {dC : Nat → ClassId} {dI : Nat → Nat → Nat} {g : kG} {A : Nat → Prop} {f : Nat → va_E} {H : Heap} {a : Nat} (hI : Iv dC dI g A f H) (ha : ik g 24 a) : ∃ q : Nat → Int32, f a = .inl (gc g 0, 8, .inl q) := by
  have h := hI.2.2 a ha.1
  unfold ok at h
  rw [ha.2] at h
  exact h
theorem cl_24 {g : kG} {a : Nat} (ha : ik g 24 a) {q : Nat → Int32} : ok g a (.inl (gc g 0, 8, .inl q)) := by
  unfold ok
  rw [ha.2]
  exact ⟨_, rfl⟩
theorem op_25 {dC : Nat → ClassId} {dI : Nat → Nat → Nat} {g : kG} {A : Nat → Prop} {f : Nat → va_E} {H : Heap} {a : Nat} (hI : Iv dC dI g A f H) (ha : ik g 25 a) : ∃ q : Nat → Int32, f a = .inl (gc g 2, 200, .inl q) := by
  have h := hI.2.2 a ha.1
  unfold ok at h
  rw [ha.2] at h
  exact h
theorem cl_25 {g : kG} {a : Nat} (ha : ik g 25 a) {q : Nat → Int32} : ok g a (.inl (gc g 2, 200, .inl q)) := by
  unfold ok
  rw [ha.2]
  exact ⟨_, rfl⟩
theorem op_26 {dC : Nat → ClassId} {dI : Nat → Nat → Nat} {g : kG} {A : Nat → Prop} {f : Nat → va_E} {H : Heap} {a : Nat} (hI : Iv dC dI g A f H) (ha : ik g 26 a) : ∃ q : Nat → Int32, f a = .inl (gc g 3, 2, .inl q) := by
  have h := hI.2.2 a ha.1
  unfold ok at h
  rw [ha.2] at h
  exact h
theorem cl_26 {g : kG} {a : Nat} (ha : ik g 26 a) {q : Nat → Int32} : ok g a (.inl (gc g 3, 2, .inl q)) := by
  unfold ok
  rw [ha.2]
  exact ⟨_, rfl⟩
theorem op_27 {dC : Nat → ClassId} {dI : Nat → Nat → Nat} {g : kG} {A : Nat → Prop} {f : Nat → va_E} {H : Heap} {a : Nat} (hI : Iv dC dI g A f H) (ha : ik g 27 a) : ∃ q : Nat → Int32, f a = .inl (gc g 0, 10, .inl q) := by
  have h := hI.2.2 a ha.1
  unfold ok at h
  rw [ha.2] at h
  exact h
theorem cl_27 {g : kG} {a : Nat} (ha : ik g 27 a) {q : Nat → Int32} : ok g a (.inl (gc g 0, 10, .inl q)) := by
  unfold ok
  rw [ha.2]
  exact ⟨_, rfl⟩
theorem op_28 {dC : Nat → ClassId} {dI : Nat → Nat → Nat} {g : kG} {A : Nat → Prop} {f : Nat → va_E} {H : Heap} {a : Nat} (hI : Iv dC dI g A f H) (ha : ik g 28 a) : ∃ q : Nat → Int32, f a = .inl (gc g 0, 5, .inl q) := by
  have h := hI.2.2 a ha.1
  unfold ok at h
  rw [ha.2] at h
  exact h
theorem cl_28 {g : kG} {a : Nat} (ha : ik g 28 a) {q : Nat → Int32} : ok g a (.inl (gc g 0, 5, .inl q)) := by
  unfold ok
  rw [ha.2]
  exact ⟨_, rfl⟩
theorem op_30 {dC : Nat → ClassId} {dI : Nat → Nat → Nat} {g : kG} {A : Nat → Prop} {f : Nat → va_E} {H : Heap} {a : Nat} (hI : Iv dC dI g A f H) (ha : ik g 30 a) : ∃ q : Nat → Int32, f a = .inl (gc g 0, 7, .inl q) := by
  have h := hI.2.2 a ha.1
  unfold ok at h
  rw [ha.2] at h
  exact h
theorem cl_30 {g : kG} {a : Nat} (ha : ik g 30 a) {q : Nat → Int32} : ok g a (.inl (gc g 0, 7, .inl q)) := by
  unfold ok
  rw [ha.2]
  exact ⟨_, rfl⟩
theorem op_31 {dC : Nat → ClassId} {dI : Nat → Nat → Nat} {g : kG} {A : Nat → Prop} {f : Nat → va_E} {H : Heap} {a : Nat} (hI : Iv dC dI g A f H) (ha : ik g 31 a) : ∃ q : Nat → Int32, f a = .inl (gc g 0, 3, .inl q) := by
  have h := hI.2.2 a ha.1
  unfold ok at h
  rw [ha.2] at h
  exact h
theorem cl_31 {g : kG} {a : Nat} (ha : ik g 31 a) {q : Nat → Int32} : ok g a (.inl (gc g 0, 3, .inl q)) := by
  unfold ok
  rw [ha.2]
  exact ⟨_, rfl⟩
theorem op_32 {dC : Nat → ClassId} {dI : Nat → Nat → Nat} {g : kG} {A : Nat → Prop} {f : Nat → va_E} {H : Heap} {a : Nat} (hI : Iv dC dI g A f H) (ha : ik g 32 a) : ∃ q : Nat → Int64, f a = .inl (gc g 1, 906, .inr (.inl q)) := by
  have h := hI.2.2 a ha.1
  unfold ok at h
  rw [ha.2] at h
  exact h
theorem cl_32 {g : kG} {a : Nat} (ha : ik g 32 a) {q : Nat → Int64} : ok g a (.inl (gc g 1, 906, .inr (.inl q))) := by
  unfold ok
  rw [ha.2]
  exact ⟨_, rfl⟩
theorem op_33 {dC : Nat → ClassId} {dI : Nat → Nat → Nat} {g : kG} {A : Nat → Prop} {f : Nat → va_E} {H : Heap} {a : Nat} (hI : Iv dC dI g A f H) (ha : ik g 33 a) : ∃ q : Nat → Int64, f a = .inl (gc g 1, 9060, .inr (.inl q)) := by
  have h := hI.2.2 a ha.1
  unfold ok at h
  rw [ha.2] at h
  exact h
theorem cl_33 {g : kG} {a : Nat} (ha : ik g 33 a) {q : Nat → Int64} : ok g a (.inl (gc g 1, 9060, .inr (.inl q))) := by
  unfold ok
  rw [ha.2]
  exact ⟨_, rfl⟩
theorem op_34 {dC : Nat → ClassId} {dI : Nat → Nat → Nat} {g : kG} {A : Nat → Prop} {f : Nat → va_E} {H : Heap} {a : Nat} (hI : Iv dC dI g A f H) (ha : ik g 34 a) : ∃ q : Nat → Int64, f a = .inl (gc g 1, 906, .inr (.inl q)) := by
  have h := hI.2.2 a ha.1
  unfold ok at h
  rw [ha.2] at h
  exact h
theorem cl_34 {g : kG} {a : Nat} (ha : ik g 34 a) {q : Nat → Int64} : ok g a (.inl (gc g 1, 906, .inr (.inl q))) := by
  unfold ok
  rw [ha.2]
  exact ⟨_, rfl⟩
theorem op_35 {dC : Nat → ClassId} {dI : Nat → Nat → Nat} {g : kG} {A : Nat → Prop} {f : Nat → va_E} {H : Heap} {a : Nat} (hI : Iv dC dI g A f H) (ha : ik g 35 a) : ∃ q : Nat → Int64, f a = .inl (gc g 1, 1812, .inr (.inl q)) := by
  have h := hI.2.2 a ha.1
  unfold ok at h
  rw [ha.2] at h
  exact h
theorem cl_35 {g : kG} {a : Nat} (ha : ik g 35 a) {q : Nat → Int64} : ok g a (.inl (gc g 1, 1812, .inr (.inl q))) := by
  unfold ok
  rw [ha.2]
  exact ⟨_, rfl⟩
theorem op_36 {dC : Nat → ClassId} {dI : Nat → Nat → Nat} {g : kG} {A : Nat → Prop} {f : Nat → va_E} {H : Heap} {a : Nat} (hI : Iv dC dI g A f H) (ha : ik g 36 a) : ∃ q : Nat → Int32, f a = .inl (gc g 3, 2, .inl q) := by
  have h := hI.2.2 a ha.1
  unfold ok at h
  rw [ha.2] at h
  exact h
theorem cl_36 {g : kG} {a : Nat} (ha : ik g 36 a) {q : Nat → Int32} : ok g a (.inl (gc g 3, 2, .inl q)) := by
  unfold ok
  rw [ha.2]
  exact ⟨_, rfl⟩
theorem op_37 {dC : Nat → ClassId} {dI : Nat → Nat → Nat} {g : kG} {A : Nat → Prop} {f : Nat → va_E} {H : Heap} {a : Nat} (hI : Iv dC dI g A f H) (ha : ik g 37 a) : ∃ q : Nat → Int32, f a = .inl (gc g 0, 10, .inl q) := by
  have h := hI.2.2 a ha.1
  unfold ok at h
  rw [ha.2] at h
  exact h
theorem cl_37 {g : kG} {a : Nat} (ha : ik g 37 a) {q : Nat → Int32} : ok g a (.inl (gc g 0, 10, .inl q)) := by
  unfold ok
  rw [ha.2]
  exact ⟨_, rfl⟩
theorem op_38 {dC : Nat → ClassId} {dI : Nat → Nat → Nat} {g : kG} {A : Nat → Prop} {f : Nat → va_E} {H : Heap} {a : Nat} (hI : Iv dC dI g A f H) (ha : ik g 38 a) : ∃ q : Nat → Int32, f a = .inl (gc g 0, 200, .inl q) := by
  have h := hI.2.2 a ha.1
  unfold ok at h
  rw [ha.2] at h
  exact h
theorem cl_38 {g : kG} {a : Nat} (ha : ik g 38 a) {q : Nat → Int32} : ok g a (.inl (gc g 0, 200, .inl q)) := by
  unfold ok
  rw [ha.2]
  exact ⟨_, rfl⟩
theorem op_39 {dC : Nat → ClassId} {dI : Nat → Nat → Nat} {g : kG} {A : Nat → Prop} {f : Nat → va_E} {H : Heap} {a : Nat} (hI : Iv dC dI g A f H) (ha : ik g 39 a) : ∃ q : Nat → Int64, f a = .inl (gc g 1, 5, .inr (.inl q)) ∧ ∀ i : Nat, i < 5 → 1 ≤ (q i).toInt := by
  have h := hI.2.2 a ha.1
  unfold ok at h
  rw [ha.2] at h
  exact h
theorem cl_39 {g : kG} {a : Nat} (ha : ik g 39 a) {q : Nat → Int64} (hp : ∀ i : Nat, i < 5 → 1 ≤ (q i).toInt) : ok g a (.inl (gc g 1, 5, .inr (.inl q))) := by
  unfold ok
  rw [ha.2]
  exact ⟨_, rfl, hp⟩
theorem op_40 {dC : Nat → ClassId} {dI : Nat → Nat → Nat} {g : kG} {A : Nat → Prop} {f : Nat → va_E} {H : Heap} {a : Nat} (hI : Iv dC dI g A f H) (ha : ik g 40 a) : ∃ q : Nat → Int32, f a = .inl (gc g 0, 5, .inl q) ∧ ∀ i : Nat, i < 5 → (q i).toInt ≤ 99 ∧ (i = 2 → (q i).toInt ≤ 8) := by
  have h := hI.2.2 a ha.1
  unfold ok at h
  rw [ha.2] at h
  exact h
theorem cl_40 {g : kG} {a : Nat} (ha : ik g 40 a) {q : Nat → Int32} (hp : ∀ i : Nat, i < 5 → (q i).toInt ≤ 99 ∧ (i = 2 → (q i).toInt ≤ 8)) : ok g a (.inl (gc g 0, 5, .inl q)) := by
  unfold ok
  rw [ha.2]
  exact ⟨_, rfl, hp⟩
theorem op_41 {dC : Nat → ClassId} {dI : Nat → Nat → Nat} {g : kG} {A : Nat → Prop} {f : Nat → va_E} {H : Heap} {a : Nat} (hI : Iv dC dI g A f H) (ha : ik g 41 a) : ∃ q : Nat → Int32, f a = .inl (gc g 0, 8, .inl q) ∧ ∀ i : Nat, i < 8 → 0 ≤ (q i).toInt ∧ (q i).toInt ≤ 4 := by
  have h := hI.2.2 a ha.1
  unfold ok at h
  rw [ha.2] at h
  exact h
theorem cl_41 {g : kG} {a : Nat} (ha : ik g 41 a) {q : Nat → Int32} (hp : ∀ i : Nat, i < 8 → 0 ≤ (q i).toInt ∧ (q i).toInt ≤ 4) : ok g a (.inl (gc g 0, 8, .inl q)) := by
  unfold ok
  rw [ha.2]
  exact ⟨_, rfl, hp⟩
theorem op_42 {dC : Nat → ClassId} {dI : Nat → Nat → Nat} {g : kG} {A : Nat → Prop} {f : Nat → va_E} {H : Heap} {a : Nat} (hI : Iv dC dI g A f H) (ha : ik g 42 a) : ∃ q : Nat → Int32, f a = .inl (gc g 0, 8, .inl q) := by
  have h := hI.2.2 a ha.1
  unfold ok at h
  rw [ha.2] at h
  exact h
theorem cl_42 {g : kG} {a : Nat} (ha : ik g 42 a) {q : Nat → Int32} : ok g a (.inl (gc g 0, 8, .inl q)) := by
  unfold ok
  rw [ha.2]
  exact ⟨_, rfl⟩
def kLen : List Nat := [3, 3, 5, 5, 5]
def kByt : List (List Int32) := [[114, 117, 110], [110, 97, 112], [119, 101, 105, 103, 104], [115, 108, 105, 99, 101], [97, 103, 97, 105, 110]]
def kMost (j : Nat) : Int32 := ([99, 99, 8, 20, 9] : List Int32).getD j 0
def kl (i : Nat) : Nat := kLen.getD i 0
theorem kl_lt (i : Nat) : kl i < 2 ^ 31 := by
  unfold kl kLen
  match i with
  | 0 => decide
  | 1 => decide
  | 2 => decide
  | 3 => decide
  | 4 => decide
  | i + 5 => simp
def kE (g : kG) (A : Nat → Prop) (U : State) : Prop := va_Nw (.methodLinkNest RX8 93 yX11_unitBy "DeadlineShare") U ∧ va_Nw (.methodLinkNest RX6 246 yX11_unitBy "DeadlineShare") U ∧ va_Nw (.methodLinkNest RX2 25 yX11_unitBy "DeadlineShare") U ∧ va_Z "java/lang/String" "COMPACT_STRINGS" "Z" (.int 1) A U U.heap ∧ va_Zq "jdk/internal/util/Preconditions" "SIOOBE_FORMATTER" "Ljava/util/function/BiFunction;" A U U.heap ∧ (∃ tm : Nat, va_Z "DeadlineShare$Script" "MOST_OF_KIND" "[I" (.ref tm) A U U.heap ∧ va_T .int tm 5 (fun j => .int (kMost j)) A U U.heap) ∧ vk_S 5 kLen kByt (gK g) (gV g) A U U.heap ∧ vk_R RX5 15 "run" (gK g 0) U ∧ vk_R RX5 17 "nap" (gK g 1) U ∧ vk_R RX5 19 "weigh" (gK g 2) U ∧ vk_R RX5 21 "slice" (gK g 3) U ∧ vk_R RX5 23 "again" (gK g 4) U
theorem kE.same {g : kG} {A : Nat → Prop} {u U : State} (h : kE g A u) (hv : U.vm = u.vm) (hh : U.heap = u.heap) : kE g A U := by
  have hA : u.vm.Alike U.vm := by rw [hv]; exact Vm.Alike.refl u.vm
  exact ⟨va_Nw.same (u := u) rfl hv.symm h.1, va_Nw.same (u := u) rfl hv.symm h.2.1, va_Nw.same (u := u) rfl hv.symm h.2.2.1, by rw [hh]; exact va_Z.moved (u := u) hA h.2.2.2.1, by rw [hh]; exact va_Zq.moved (u := u) hA h.2.2.2.2.1, by obtain ⟨tm, h1, h2⟩ := h.2.2.2.2.2.1; rw [hh]; exact ⟨tm, va_Z.moved (u := u) hA h1, va_T.moved (u := u) hA h2⟩, by rw [hh]; exact vk_S.moved (u := u) hA h.2.2.2.2.2.2.1, vk_R.same (u := u) hv h.2.2.2.2.2.2.2.1, vk_R.same (u := u) hv h.2.2.2.2.2.2.2.2.1, vk_R.same (u := u) hv h.2.2.2.2.2.2.2.2.2.1, vk_R.same (u := u) hv h.2.2.2.2.2.2.2.2.2.2.1, vk_R.same (u := u) hv h.2.2.2.2.2.2.2.2.2.2.2⟩
theorem kE.call {g : kG} {A : Nat → Prop} {s U : State} {H : Heap} {locs : List Loc} (h : kE g A s) (hS : va_S A s.heap H locs) (hU : U.heap = H) (hW : s.WarmedH U.vm) : kE g A U := ⟨va_Nw.warmM hW h.1, va_Nw.warmM hW h.2.1, va_Nw.warmM hW h.2.2.1, by rw [hU]; exact (va_Z.moved hW.alike h.2.2.2.1).kept hS.2.1, by rw [hU]; exact (va_Zq.moved hW.alike h.2.2.2.2.1).kept hS.2.1, by obtain ⟨tm, h1, h2⟩ := h.2.2.2.2.2.1; rw [hU]; exact ⟨tm, (va_Z.moved hW.alike h1).kept hS.2.1, (va_T.moved hW.alike h2).kept hS.2.1⟩, by rw [hU]; exact (vk_S.moved hW.alike h.2.2.2.2.2.2.1).kept hS.2.1, vk_R.warm hW h.2.2.2.2.2.2.2.1, vk_R.warm hW h.2.2.2.2.2.2.2.2.1, vk_R.warm hW h.2.2.2.2.2.2.2.2.2.1, vk_R.warm hW h.2.2.2.2.2.2.2.2.2.2.1, vk_R.warm hW h.2.2.2.2.2.2.2.2.2.2.2⟩
def kIn (dC : Nat → ClassId) (dI : Nat → Nat → Nat) (g : kG) (A : Nat → Prop) (f : Nat → va_E) (U : State) : Prop := Iv dC dI g A f U.heap ∧ va_K (dC, dI) vwCl (gty g) U ∧ kE g A U
theorem kIn.calling {dC : Nat → ClassId} {dI : Nat → Nat → Nat} {g : kG} {A : Nat → Prop} {f : Nat → va_E} {U V : State} (h : kIn dC dI g A f U) (hv : V.vm = U.vm) (hh : V.heap = U.heap) : kIn dC dI g A f V := ⟨by rw [hh]; exact h.1, va_K.moved (u := U) (by rw [hv]; exact Vm.Alike.refl U.vm) h.2.1, h.2.2.same hv hh⟩
theorem kIn.of {dC : Nat → ClassId} {dI : Nat → Nat → Nat} {g : kG} {A : Nat → Prop} {f : Nat → va_E} {s U : State} {H : Heap} {locs : List Loc} (hI : Iv dC dI g A f H) (hK : va_K (dC, dI) vwCl (gty g) s) (hE : kE g A s) (hS : va_S A s.heap H locs) (hU : U.heap = H) (hW : s.WarmedH U.vm) : kIn dC dI g A f U := ⟨by rw [hU]; exact hI, va_K.moved hW.alike hK, hE.call hS hU hW⟩
theorem k_recv {dC : Nat → ClassId} {dI : Nat → Nat → Nat} {g : kG} {A : Nat → Prop} {f : Nat → va_E} {s : State} {H : Heap} {a ci : Nat} {q : vw_C} {fs : List Value} (hK : va_K (dC, dI) vwCl (gty g) s) (hI : Iv dC dI g A f H) (ha : a ∈ gL g) (he : f a = .inr (ci, fs)) (hc : vwCl[ci]? = some q) : ∃ cell : Cell, H[a]? = some cell ∧ cell.vm.isStatics = false ∧ s.vm.findClass q.1 = some cell.cls := by
  obtain ⟨k, hk⟩ := k_at hI ha he
  exact va_recv hK hI.1 hc hk
section KS
variable {p : Program} {l : Launch} {e : Env} {R : Room} {s : State} {m : MethodId} {args : Array Value} {below : List Frame} {meth : Method} {c : Code} {H : Heap} {locs : List Loc} {cells slots : Nat} {Q : State → Prop}
variable {cc : ByteArray} {pc : Nat} {ls : Array Slot} {rest : List Value} {A : Nat → Prop} {a : Nat} {H0 : Heap} {dC : Nat → ClassId} {dI : Nat → Nat → Nat} {g : kG} {f : Nat → va_E}
theorem k_get (hexec : p.tables.exec = Jvm.exec) (hb : c.code = cc) {own ref C : String} {T : u_T} {N ci index : Nat} {Ts : List Cond} (hts : ∀ w ∈ Ts, w.before args s = true) (hin : ∀ w ∈ u_ws C T N, w ∈ Ts) (hown : s.vm.findClass own = some m.cls) (hK : va_K (dC, dI) vwCl (gty g) s) (hI : Iv dC dI g A f H) (ha : a ∈ gL g) {fs : List Value} (he : f a = .inr (ci, fs)) (hc : vwCl[ci]? = some (C, T, N)) (k : Nat) (hk : k < N) (hlink : (Cond.fieldLink own index ref (T k).2.1 (T k).2.2.1).before args s = true) (hsame : ∀ x, s.fieldFound? (T k).1 (T k).2.1 (T k).2.2.1 = some x → s.fieldFound? ref (T k).2.1 (T k).2.2.1 = some x) {v : Value} (hv : fs[k]? = some v) (hdg : decode cc pc = .ok (.getfield index, 3))
    (kk : W p l e R s m args below meth c H locs cells slots Q (F0 m (pc + 3) ls (v :: rest))) : W p l e R s m args below meth c H locs cells slots Q (F0 m pc ls (.ref a :: rest)) := by
  obtain ⟨q, hq⟩ := k_at hI ha he
  exact va_get hexec hb hts hin hown hK hI.1 q hq hc k hk hlink hsame hv hdg kk
theorem k_put (hexec : p.tables.exec = Jvm.exec) (hb : c.code = cc) {own ref C : String} {T : u_T} {N ci index : Nat} {Ts : List Cond} (hts : ∀ w ∈ Ts, w.before args s = true) (hin : ∀ w ∈ u_ws C T N, w ∈ Ts) (ty0 : Nat → FieldType) (hty : ∀ k, k < N → parseFieldDescriptor (T k).2.2.1 = some (ty0 k)) (hnm : ∀ a, a < N → ∀ b, b < N → a ≠ b → (T a).2.1 ≠ (T b).2.1) (hown : s.vm.findClass own = some m.cls) (hK : va_K (dC, dI) vwCl (gty g) s) (hI : Iv dC dI g A f H) (hS0 : va_S A H0 H locs) (ha : a ∈ gL g) {fs : List Value} (he : f a = .inr (ci, fs)) (hc : vwCl[ci]? = some (C, T, N)) (k : Nat) (hk : k < N) (hlink : (Cond.fieldLink own index ref (T k).2.1 (T k).2.2.1).before args s = true) (hsame : ∀ x, s.fieldFound? (T k).1 (T k).2.1 (T k).2.2.1 = some x → s.fieldFound? ref (T k).2.1 (T k).2.2.1 = some x) (hfin : (T k).2.2.2 = false) {ty : FieldType} {v : Value} (hd : parseFieldDescriptor (T k).2.2.1 = some ty) (hn : narrow ty v = v) (hfit : fits ty v = true) (hl : k < fs.length) {fs1 : List Value} (hfs : fs.set k v = fs1) (hok : ok g a (.inr (ci, fs1)))
    (hdg : decode cc pc = .ok (.putfield index, 3)) (kk : ∀ (f1 : Nat → va_E) (H1 : Heap) (locs1 : List Loc), f1 = va_up f a (.inr (ci, fs1)) → Iv dC dI g A f1 H1 → va_S A H0 H1 locs1 → W p l e R s m args below meth c H1 locs1 cells slots Q (F0 m (pc + 3) ls rest)) : W p l e R s m args below meth c H locs cells slots Q (F0 m pc ls (v :: .ref a :: rest)) := by
  obtain ⟨q, hq⟩ := k_at hI ha he
  subst hfs
  exact va_put hexec hb hts hin ty0 hty hnm hown hK hI.1 hI.2.1 hS0 q hq hc k hk hlink hsame hfin hd hn hfit hl hdg (fun H1 locs1 h1 h2 h3 => kk _ H1 locs1 rfl (k_up hI ha he hq hok h1 h2) h3)
theorem k_iald (hexec : p.tables.exec = Jvm.exec) (hb : c.code = cc) (hK : va_K (dC, dI) vwCl (gty g) s) (hI : Iv dC dI g A f H) (ha : a ∈ gL g) (t0 : Nat) {cA : ClassId} {n : Nat} {q : Nat → Int32} (he : f a = .inl (cA, n, .inl q)) (ht : (gty g)[t0]? = some (cA, .int)) {i : Int32} (hin : vp_in i n) (hdg : decode cc pc = .ok (.iaload, 1))
    (kk : W p l e R s m args below meth c H locs cells slots Q (F0 m (pc + 1) ls (.int (q i.toNatClampNeg) :: rest))) : W p l e R s m args below meth c H locs cells slots Q (F0 m pc ls (.int i :: .ref a :: rest)) := by
  obtain ⟨k, hk⟩ := k_at hI ha he
  exact va_iald hexec hb hK hI.1 k t0 hk ht hin hdg kk
theorem k_bald (hexec : p.tables.exec = Jvm.exec) (hb : c.code = cc) (hK : va_K (dC, dI) vwCl (gty g) s) (hI : Iv dC dI g A f H) (ha : a ∈ gL g) (t0 : Nat) {cA : ClassId} {n : Nat} {q : Nat → Int32} (he : f a = .inl (cA, n, .inl q)) (ht : (gty g)[t0]? = some (cA, .byte)) {i : Int32} (hin : vp_in i n) (hdg : decode cc pc = .ok (.baload, 1))
    (kk : W p l e R s m args below meth c H locs cells slots Q (F0 m (pc + 1) ls (.int (q i.toNatClampNeg) :: rest))) : W p l e R s m args below meth c H locs cells slots Q (F0 m pc ls (.int i :: .ref a :: rest)) := by
  obtain ⟨k, hk⟩ := k_at hI ha he
  exact va_bald hexec hb hK hI.1 k t0 hk ht hin hdg kk
theorem k_zald (hexec : p.tables.exec = Jvm.exec) (hb : c.code = cc) (hK : va_K (dC, dI) vwCl (gty g) s) (hI : Iv dC dI g A f H) (ha : a ∈ gL g) (t0 : Nat) {cA : ClassId} {n : Nat} {q : Nat → Int32} (he : f a = .inl (cA, n, .inl q)) (ht : (gty g)[t0]? = some (cA, .boolean)) {i : Int32} (hin : vp_in i n) (hdg : decode cc pc = .ok (.baload, 1))
    (kk : W p l e R s m args below meth c H locs cells slots Q (F0 m (pc + 1) ls (.int (q i.toNatClampNeg) :: rest))) : W p l e R s m args below meth c H locs cells slots Q (F0 m pc ls (.int i :: .ref a :: rest)) := by
  obtain ⟨k, hk⟩ := k_at hI ha he
  exact va_zald hexec hb hK hI.1 k t0 hk ht hin hdg kk
theorem k_lald (hexec : p.tables.exec = Jvm.exec) (hb : c.code = cc) (hK : va_K (dC, dI) vwCl (gty g) s) (hI : Iv dC dI g A f H) (ha : a ∈ gL g) (t0 : Nat) {cA : ClassId} {n : Nat} {q : Nat → Int64} (he : f a = .inl (cA, n, .inr (.inl q))) (ht : (gty g)[t0]? = some (cA, .long)) {i : Int32} (hin : vp_in i n) (hdg : decode cc pc = .ok (.laload, 1))
    (kk : W p l e R s m args below meth c H locs cells slots Q (F0 m (pc + 1) ls (.long (q i.toNatClampNeg) :: rest))) : W p l e R s m args below meth c H locs cells slots Q (F0 m pc ls (.int i :: .ref a :: rest)) := by
  obtain ⟨k, hk⟩ := k_at hI ha he
  exact va_lald hexec hb hK hI.1 k t0 hk ht hin hdg kk
theorem k_aald (hexec : p.tables.exec = Jvm.exec) (hb : c.code = cc) (hK : va_K (dC, dI) vwCl (gty g) s) (hI : Iv dC dI g A f H) (ha : a ∈ gL g) (t0 : Nat) {cA : ClassId} {n : Nat} {C : String} {q : Nat → Option Nat} (he : f a = .inl (cA, n, .inr (.inr (.inr (.inr q))))) (ht : (gty g)[t0]? = some (cA, .object C)) {i : Int32} (hin : vp_in i n) (hq : ∀ j : Nat, j < n → q j = some (gr g a j)) {k : Nat} (hk : ∀ j : Nat, j < n → ik g k (gr g a j)) (hdg : decode cc pc = .ok (.aaload, 1))
    (kk : ∀ b : Nat, ik g k b → W p l e R s m args below meth c H locs cells slots Q (F0 m (pc + 1) ls (.ref b :: rest))) : W p l e R s m args below meth c H locs cells slots Q (F0 m pc ls (.int i :: .ref a :: rest)) := by
  obtain ⟨j, hj⟩ := k_at hI ha he
  have hlt : i.toNatClampNeg < n := Nat.not_le.mp fun z => hin (Or.inr z)
  refine va_aldq hexec hb hK hI.1 j t0 hj ht hin hdg ?_
  rw [hq _ hlt]
  exact kk _ (hk _ hlt)
theorem k_iast (hexec : p.tables.exec = Jvm.exec) (hb : c.code = cc) (hK : va_K (dC, dI) vwCl (gty g) s) (hI : Iv dC dI g A f H) (hS0 : va_S A H0 H locs) (ha : a ∈ gL g) (t0 : Nat) {cA : ClassId} {n : Nat} {q : Nat → Int32} (he : f a = .inl (cA, n, .inl q)) (ht : (gty g)[t0]? = some (cA, .int)) {i : Int32} {x : Int32} (hin : vp_in i n) (hok : ok g a (.inl (cA, n, .inl (upd q i.toNatClampNeg x)))) (hdg : decode cc pc = .ok (.iastore, 1))
    (kk : ∀ (f1 : Nat → va_E) (H1 : Heap) (locs1 : List Loc), f1 = va_up f a (.inl (cA, n, .inl (upd q i.toNatClampNeg x))) → Iv dC dI g A f1 H1 → va_S A H0 H1 locs1 → W p l e R s m args below meth c H1 locs1 cells slots Q (F0 m (pc + 1) ls rest)) : W p l e R s m args below meth c H locs cells slots Q (F0 m pc ls (.int x :: .int i :: .ref a :: rest)) := by
  obtain ⟨k, hk⟩ := k_at hI ha he
  exact va_iast hexec hb hK hI.1 hI.2.1 hS0 k t0 hk ht hin hdg (fun H1 locs1 h1 h2 h3 => kk _ H1 locs1 rfl (k_up hI ha he hk hok h1 h2) h3)
theorem k_bast (hexec : p.tables.exec = Jvm.exec) (hb : c.code = cc) (hK : va_K (dC, dI) vwCl (gty g) s) (hI : Iv dC dI g A f H) (hS0 : va_S A H0 H locs) (ha : a ∈ gL g) (t0 : Nat) {cA : ClassId} {n : Nat} {q : Nat → Int32} (he : f a = .inl (cA, n, .inl q)) (ht : (gty g)[t0]? = some (cA, .byte)) {i : Int32} {x : Int32} (hin : vp_in i n) (hok : ok g a (.inl (cA, n, .inl (upd q i.toNatClampNeg (vp_nar .byte x))))) (hdg : decode cc pc = .ok (.bastore, 1))
    (kk : ∀ (f1 : Nat → va_E) (H1 : Heap) (locs1 : List Loc), f1 = va_up f a (.inl (cA, n, .inl (upd q i.toNatClampNeg (vp_nar .byte x)))) → Iv dC dI g A f1 H1 → va_S A H0 H1 locs1 → W p l e R s m args below meth c H1 locs1 cells slots Q (F0 m (pc + 1) ls rest)) : W p l e R s m args below meth c H locs cells slots Q (F0 m pc ls (.int x :: .int i :: .ref a :: rest)) := by
  obtain ⟨k, hk⟩ := k_at hI ha he
  exact va_bast hexec hb hK hI.1 hI.2.1 hS0 k t0 hk ht hin hdg (fun H1 locs1 h1 h2 h3 => kk _ H1 locs1 rfl (k_up hI ha he hk hok h1 h2) h3)
theorem k_zast (hexec : p.tables.exec = Jvm.exec) (hb : c.code = cc) (hK : va_K (dC, dI) vwCl (gty g) s) (hI : Iv dC dI g A f H) (hS0 : va_S A H0 H locs) (ha : a ∈ gL g) (t0 : Nat) {cA : ClassId} {n : Nat} {q : Nat → Int32} (he : f a = .inl (cA, n, .inl q)) (ht : (gty g)[t0]? = some (cA, .boolean)) {i : Int32} {x : Int32} (hin : vp_in i n) (hok : ok g a (.inl (cA, n, .inl (upd q i.toNatClampNeg (vp_nar .boolean x))))) (hdg : decode cc pc = .ok (.bastore, 1))
    (kk : ∀ (f1 : Nat → va_E) (H1 : Heap) (locs1 : List Loc), f1 = va_up f a (.inl (cA, n, .inl (upd q i.toNatClampNeg (vp_nar .boolean x)))) → Iv dC dI g A f1 H1 → va_S A H0 H1 locs1 → W p l e R s m args below meth c H1 locs1 cells slots Q (F0 m (pc + 1) ls rest)) : W p l e R s m args below meth c H locs cells slots Q (F0 m pc ls (.int x :: .int i :: .ref a :: rest)) := by
  obtain ⟨k, hk⟩ := k_at hI ha he
  exact va_zast hexec hb hK hI.1 hI.2.1 hS0 k t0 hk ht hin hdg (fun H1 locs1 h1 h2 h3 => kk _ H1 locs1 rfl (k_up hI ha he hk hok h1 h2) h3)
theorem k_last (hexec : p.tables.exec = Jvm.exec) (hb : c.code = cc) (hK : va_K (dC, dI) vwCl (gty g) s) (hI : Iv dC dI g A f H) (hS0 : va_S A H0 H locs) (ha : a ∈ gL g) (t0 : Nat) {cA : ClassId} {n : Nat} {q : Nat → Int64} (he : f a = .inl (cA, n, .inr (.inl q))) (ht : (gty g)[t0]? = some (cA, .long)) {i : Int32} {x : Int64} (hin : vp_in i n) (hok : ok g a (.inl (cA, n, .inr (.inl (vp_updL q i.toNatClampNeg x))))) (hdg : decode cc pc = .ok (.lastore, 1))
    (kk : ∀ (f1 : Nat → va_E) (H1 : Heap) (locs1 : List Loc), f1 = va_up f a (.inl (cA, n, .inr (.inl (vp_updL q i.toNatClampNeg x)))) → Iv dC dI g A f1 H1 → va_S A H0 H1 locs1 → W p l e R s m args below meth c H1 locs1 cells slots Q (F0 m (pc + 1) ls rest)) : W p l e R s m args below meth c H locs cells slots Q (F0 m pc ls (.long x :: .int i :: .ref a :: rest)) := by
  obtain ⟨k, hk⟩ := k_at hI ha he
  exact va_last hexec hb hK hI.1 hI.2.1 hS0 k t0 hk ht hin hdg (fun H1 locs1 h1 h2 h3 => kk _ H1 locs1 rfl (k_up hI ha he hk hok h1 h2) h3)
theorem k_copyi (hexec : p.tables.exec = Jvm.exec) (hb : c.code = cc) (hml : c.maxLocals = ls.size) {own : String} {index : Nat} (hown : s.vm.findClass own = some m.cls) (hlink : (Cond.methodLink own index arraycopyName).before args s = true) (hnat : (Cond.native arraycopyName).before args s = true) (hstat : (Cond.static arraycopyName).before args s = true) (hini : (Cond.initialized "java/lang/System").before args s = true)
    (hK : va_K (dC, dI) vwCl (gty g) s) (hI : Iv dC dI g A f H) (hS0 : va_S A H0 H locs) {a0 : Nat} (ha0 : a0 ∈ gL g) (ha : a ∈ gL g) (t0 : Nat) {cA : ClassId} {n0 : Nat} {q0 q1 : Nat → Int32} {ty : FieldType} (he0 : f a0 = .inl (cA, n0, .inl q0)) (he1 : f a = .inl (cA, n0, .inl q1)) (ht0 : (gty g)[t0]? = some (cA, ty)) (hprim : refKind ty = false)
    {sp dp n : Int32} (h1 : ¬ sp < 0) (h2 : ¬ dp < 0) (h3 : ¬ n < 0) (h4 : sp.toNatClampNeg + n.toNatClampNeg ≤ n0) (h5 : dp.toNatClampNeg + n.toNatClampNeg ≤ n0) (hfit : ∀ i, i < n.toNatClampNeg → fits ty (.int (q0 (sp.toNatClampNeg + i))) = true)
    (hframes : 1 ≤ R.frames) (hlocals : (rest.map fun v => v.category).sum + (nativeFrameWords "java/lang/System" "arraycopy" 5 + 11) ≤ R.locals) (hok : ok g a (.inl (cA, n0, .inl (va_cpy q0 q1 sp.toNatClampNeg dp.toNatClampNeg n.toNatClampNeg)))) (hdg : decode cc pc = .ok (.invokestatic index, 3))
    (kk : ∀ (f1 : Nat → va_E) (H1 : Heap) (locs1 : List Loc), f1 = va_up f a (.inl (cA, n0, .inl (va_cpy q0 q1 sp.toNatClampNeg dp.toNatClampNeg n.toNatClampNeg))) → Iv dC dI g A f1 H1 → va_S A H0 H1 locs1 → W p l e R s m args below meth c H1 locs1 cells slots Q (F0 m (pc + 3) ls rest)) : W p l e R s m args below meth c H locs cells slots Q (F0 m pc ls (.int n :: .int dp :: .ref a :: .int sp :: .ref a0 :: rest)) := by
  obtain ⟨k0, hk0⟩ := k_at hI ha0 he0
  obtain ⟨k1, hk1⟩ := k_at hI ha he1
  exact va_copyi hexec hb hml hown hlink hnat hstat hini hK hI.1 hI.2.1 hS0 k0 k1 t0 t0 hk0 hk1 ht0 ht0 hprim h1 h2 h3 h4 h5 hfit hframes hlocals hdg (fun H1 locs1 g1 g2 g3 => kk _ H1 locs1 rfl (k_up hI ha he1 hk1 hok g1 g2) g3)
theorem k_copyl (hexec : p.tables.exec = Jvm.exec) (hb : c.code = cc) (hml : c.maxLocals = ls.size) {own : String} {index : Nat} (hown : s.vm.findClass own = some m.cls) (hlink : (Cond.methodLink own index arraycopyName).before args s = true) (hnat : (Cond.native arraycopyName).before args s = true) (hstat : (Cond.static arraycopyName).before args s = true) (hini : (Cond.initialized "java/lang/System").before args s = true)
    (hK : va_K (dC, dI) vwCl (gty g) s) (hI : Iv dC dI g A f H) (hS0 : va_S A H0 H locs) {a0 : Nat} (ha0 : a0 ∈ gL g) (ha : a ∈ gL g) (t0 : Nat) {cA : ClassId} {n0 : Nat} {q0 q1 : Nat → Int64} {ty : FieldType} (he0 : f a0 = .inl (cA, n0, .inr (.inl q0))) (he1 : f a = .inl (cA, n0, .inr (.inl q1))) (ht0 : (gty g)[t0]? = some (cA, ty)) (hprim : refKind ty = false)
    {sp dp n : Int32} (h1 : ¬ sp < 0) (h2 : ¬ dp < 0) (h3 : ¬ n < 0) (h4 : sp.toNatClampNeg + n.toNatClampNeg ≤ n0) (h5 : dp.toNatClampNeg + n.toNatClampNeg ≤ n0) (hfit : ∀ i, i < n.toNatClampNeg → fits ty (.long (q0 (sp.toNatClampNeg + i))) = true)
    (hframes : 1 ≤ R.frames) (hlocals : (rest.map fun v => v.category).sum + (nativeFrameWords "java/lang/System" "arraycopy" 5 + 11) ≤ R.locals) (hok : ok g a (.inl (cA, n0, .inr (.inl (va_cpy q0 q1 sp.toNatClampNeg dp.toNatClampNeg n.toNatClampNeg))))) (hdg : decode cc pc = .ok (.invokestatic index, 3))
    (kk : ∀ (f1 : Nat → va_E) (H1 : Heap) (locs1 : List Loc), f1 = va_up f a (.inl (cA, n0, .inr (.inl (va_cpy q0 q1 sp.toNatClampNeg dp.toNatClampNeg n.toNatClampNeg)))) → Iv dC dI g A f1 H1 → va_S A H0 H1 locs1 → W p l e R s m args below meth c H1 locs1 cells slots Q (F0 m (pc + 3) ls rest)) : W p l e R s m args below meth c H locs cells slots Q (F0 m pc ls (.int n :: .int dp :: .ref a :: .int sp :: .ref a0 :: rest)) := by
  obtain ⟨k0, hk0⟩ := k_at hI ha0 he0
  obtain ⟨k1, hk1⟩ := k_at hI ha he1
  exact va_copyl hexec hb hml hown hlink hnat hstat hini hK hI.1 hI.2.1 hS0 k0 k1 t0 t0 hk0 hk1 ht0 ht0 hprim h1 h2 h3 h4 h5 hfit hframes hlocals hdg (fun H1 locs1 g1 g2 g3 => kk _ H1 locs1 rfl (k_up hI ha he1 hk1 hok g1 g2) g3)
end KS
def tAl (w v : Int) : Prop := (w = 0 ∧ 0 ≤ v ∧ v ≤ 1) ∨ (w = 1 ∧ 0 ≤ v ∧ v ≤ 3) ∨ (w = 2 ∧ 0 ≤ v ∧ v ≤ 1000000)
def tGet (w a b c r : Int) : Prop := (w = 0 ∧ r = a) ∨ (w = 1 ∧ r = b) ∨ (w ≠ 0 ∧ w ≠ 1 ∧ r = c)
def tSet (w v a b c a1 b1 c1 : Int) : Prop := (w = 0 ∧ a1 = v ∧ b1 = b ∧ c1 = c) ∨ (w = 1 ∧ a1 = a ∧ b1 = v ∧ c1 = c) ∨ (w ≠ 0 ∧ w ≠ 1 ∧ a1 = a ∧ b1 = b ∧ c1 = v)
theorem tal1 {r : Int} {P : Prop} (h : (r = 1 ∧ P) ∨ (r = 0 ∧ ¬ P)) (hr : r ≠ 0) : P := h.elim (fun q => q.2) (fun q => absurd q.1 hr)
theorem tal0 {r : Int} {P : Prop} (h : (r = 1 ∧ P) ∨ (r = 0 ∧ ¬ P)) (hr : r = 0) : ¬ P := h.elim (fun q => absurd (q.1.symm.trans hr) (by decide)) (fun q => q.2)
theorem k_ret {dC : Nat → ClassId} {dI : Nat → Nat → Nat} {g : kG} {A : Nat → Prop} {f : Nat → va_E} {t : State} {H : Heap} (ht : t.heap = H) (hI : Iv dC dI g A f H) : Iv dC dI g A f t.heap := by rw [ht]; exact hI
theorem k_inc (x : Int32) : (x + Int32.ofInt 1).toInt = x.toInt + 1 ∨ x.toInt = 2147483647 := by
  have h1 := Int32.le_toInt x
  have h2 := Int32.toInt_lt x
  rw [Int32.toInt_add, show (Int32.ofInt 1).toInt = 1 from by decide, Int.bmod_def]
  split <;> omega
theorem k_dec (x : Int32) : (x + Int32.ofInt (-1)).toInt = x.toInt - 1 ∨ x.toInt = -2147483648 := by
  have h1 := Int32.le_toInt x
  have h2 := Int32.toInt_lt x
  rw [Int32.toInt_add, show (Int32.ofInt (-1)).toInt = -1 from by decide, Int.bmod_def]
  split <;> omega
theorem k_ad (x y : Int32) : (x + y).toInt = x.toInt + y.toInt ∨ x.toInt + y.toInt < -2147483648 ∨ 2147483647 < x.toInt + y.toInt := by
  have h1 := Int32.le_toInt x
  have h2 := Int32.toInt_lt x
  have h3 := Int32.le_toInt y
  have h4 := Int32.toInt_lt y
  rw [Int32.toInt_add, Int.bmod_def]
  split <;> omega
theorem k_sb (x y : Int32) : (x - y).toInt = x.toInt - y.toInt ∨ x.toInt - y.toInt < -2147483648 ∨ 2147483647 < x.toInt - y.toInt := by
  have h1 := Int32.le_toInt x
  have h2 := Int32.toInt_lt x
  have h3 := Int32.le_toInt y
  have h4 := Int32.toInt_lt y
  rw [Int32.toInt_sub, Int.bmod_def]
  split <;> omega
theorem k_ne0 {x : Int32} (h : x.toInt ≠ 0) : ¬ x = 0 := fun q => h (by rw [q]; decide)
theorem k_ne0L {x : Int64} (h : x.toInt ≠ 0) : ¬ x = 0 := fun q => h (by rw [q]; decide)
theorem kc_lt {x y : Int32} {a b : Int} (ha : x.toInt = a) (hb : y.toInt = b) (h : x < y) : a < b := by rw [← ha, ← hb]; exact (fa_lt _ _).mp h
theorem kc_le {x y : Int32} {a b : Int} (ha : x.toInt = a) (hb : y.toInt = b) (h : x ≤ y) : a ≤ b := by rw [← ha, ← hb]; exact (fa_le _ _).mp h
theorem kc_eq {x y : Int32} {a b : Int} (ha : x.toInt = a) (hb : y.toInt = b) (h : x = y) : a = b := by rw [← ha, ← hb, h]
theorem kn_lt {x y : Int32} {a b : Int} (ha : x.toInt = a) (hb : y.toInt = b) (h : ¬ x < y) : b ≤ a := by rw [← ha, ← hb]; exact Int.not_lt.mp fun q => h ((fa_lt _ _).mpr q)
theorem kn_le {x y : Int32} {a b : Int} (ha : x.toInt = a) (hb : y.toInt = b) (h : ¬ x ≤ y) : b < a := by rw [← ha, ← hb]; exact Int.not_le.mp fun q => h ((fa_le _ _).mpr q)
theorem kn_eq {x y : Int32} {a b : Int} (ha : x.toInt = a) (hb : y.toInt = b) (h : ¬ x = y) : a ≠ b := by rw [← ha, ← hb]; exact fun q => h ((fa_eq _ _).mpr q)
theorem lc_lt {x y : Int64} {a b : Int} (ha : x.toInt = a) (hb : y.toInt = b) (h : x < y) : a < b := by rw [← ha, ← hb]; exact (fa_lt64 _ _).mp h
theorem lc_le {x y : Int64} {a b : Int} (ha : x.toInt = a) (hb : y.toInt = b) (h : x ≤ y) : a ≤ b := by rw [← ha, ← hb]; exact (fa_le64 _ _).mp h
theorem lc_eq {x y : Int64} {a b : Int} (ha : x.toInt = a) (hb : y.toInt = b) (h : x = y) : a = b := by rw [← ha, ← hb, h]
theorem ln_lt {x y : Int64} {a b : Int} (ha : x.toInt = a) (hb : y.toInt = b) (h : ¬ x < y) : b ≤ a := by rw [← ha, ← hb]; exact Int.not_lt.mp fun q => h ((fa_lt64 _ _).mpr q)
theorem ln_le {x y : Int64} {a b : Int} (ha : x.toInt = a) (hb : y.toInt = b) (h : ¬ x ≤ y) : b < a := by rw [← ha, ← hb]; exact Int.not_le.mp fun q => h ((fa_le64 _ _).mpr q)
theorem ln_eq {x y : Int64} {a b : Int} (ha : x.toInt = a) (hb : y.toInt = b) (h : ¬ x = y) : a ≠ b := by rw [← ha, ← hb]; exact fun q => h ((fa_eq64 _ _).mpr q)
theorem lg_ge' (x y : Int64) : 0 ≤ lg_cmp x y ↔ y ≤ x := lg_cmp_ge x y

