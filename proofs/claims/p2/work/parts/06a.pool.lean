def KA (U : State) (c : ClassId) (ty : FieldType) : Prop := ArrOfT U c ty ∧ va_RA U c ty
theorem KA.moved {u U : State} {c : ClassId} {ty : FieldType} (hvm : u.vm.Alike U.vm) (h : KA u c ty) : KA U c ty := ⟨arrOfT_moved hvm h.1, h.2.moved hvm⟩
theorem KA_inj0 {U : State} {c d : ClassId} (h : KA U c .int) (h1 : KA U d .int) : c = d := Option.some.inj (h.2.symm.trans h1.2)
theorem KA_inj1 {U : State} {c d : ClassId} (h : KA U c .long) (h1 : KA U d .long) : c = d := Option.some.inj (h.2.symm.trans h1.2)
theorem KA_inj2 {U : State} {c d : ClassId} (h : KA U c .byte) (h1 : KA U d .byte) : c = d := Option.some.inj (h.2.symm.trans h1.2)
theorem KA_inj3 {U : State} {c d : ClassId} (h : KA U c .boolean) (h1 : KA U d .boolean) : c = d := Option.some.inj (h.2.symm.trans h1.2)
theorem KA_inj4 {U : State} {c d : ClassId} (h : KA U c (.object "DeadlineShare$Task")) (h1 : KA U d (.object "DeadlineShare$Task")) : c = d := by
  obtain ⟨_, _, _, _, _, e⟩ := h.2
  obtain ⟨_, _, _, _, _, e1⟩ := h1.2
  exact Option.some.inj (e.symm.trans e1)
theorem KA_inj5 {U : State} {c d : ClassId} (h : KA U c (.object "DeadlineShare$State")) (h1 : KA U d (.object "DeadlineShare$State")) : c = d := by
  obtain ⟨_, _, _, _, _, e⟩ := h.2
  obtain ⟨_, _, _, _, _, e1⟩ := h1.2
  exact Option.some.inj (e.symm.trans e1)
def okc (U : State) (te : Nat) (L : List Nat) (k : Nat → Nat) (f : Nat → va_E) (a : Nat) : Prop := match k a with
  | 0 => ∃ (x1 : Int32) (x2 : Int64), f a = .inr (0, [.ref te, .int x1, .long x2])
  | 1 => ∃ (r0 : Nat) (r1 : Nat) (x2 : Int32) (x3 : Int32), f a = .inr (1, [.ref r0, .ref r1, .int x2, .int x3]) ∧ (r0 ∈ L ∧ k r0 = 22) ∧ (r1 ∈ L ∧ k r1 = 27)
  | 2 => ∃ (r0 : Nat), f a = .inr (2, [.ref r0]) ∧ (r0 ∈ L ∧ k r0 = 23)
  | 3 => ∃ (r0 : Nat) (x1 : Int32), f a = .inr (3, [.ref r0, .int x1]) ∧ (r0 ∈ L ∧ k r0 = 5)
  | 4 => ∃ (r0 : Nat) (x1 : Int32), f a = .inr (4, [.ref r0, .int x1]) ∧ (r0 ∈ L ∧ k r0 = 28)
  | 5 => ∃ (r0 : Nat) (x1 : Int32) (x2 : Int32) (x3 : Int32) (x4 : Int32), f a = .inr (5, [.ref r0, .int x1, .int x2, .int x3, .int x4]) ∧ (r0 ∈ L ∧ k r0 = 24) ∧ (0 ≤ x1.toInt ∧ x1.toInt ≤ 8)
  | 6 => ∃ (r1 : Nat) (r2 : Nat) (r3 : Nat) (r4 : Nat) (x5 : Int32) (x6 : Int32) (x7 : Int64) (x8 : Int32) (x9 : Int32), f a = .inr (6, [.ref te, .ref r1, .ref r2, .ref r3, .ref r4, .int x5, .int x6, .long x7, .int x8, .int x9]) ∧ (r1 ∈ L ∧ k r1 = 20) ∧ (r2 ∈ L ∧ k r2 = 2) ∧ (r3 ∈ L ∧ k r3 = 10) ∧ (r4 ∈ L ∧ k r4 = 10) ∧ (0 ≤ x5.toInt ∧ x5.toInt ≤ 12)
  | 7 => ∃ (r0 : Nat) (x1 : Int32), f a = .inr (7, [.ref r0, .int x1]) ∧ (r0 ∈ L ∧ k r0 = 25)
  | 8 => ∃ (x0 : Int32) (r1 : Nat) (x2 : Int32) (x3 : Int32) (x4 : Int32) (x5 : Int64) (x6 : Int32) (r7 : Nat) (x8 : Int32) (x9 : Int32) (x10 : Int32) (x11 : Int32) (x12 : Int32) (x13 : Int32) (x14 : Int32) (x15 : Int32) (x16 : Int32) (x17 : Int32), f a = .inr (8, [.int x0, .ref r1, .int x2, .int x3, .int x4, .long x5, .int x6, .ref r7, .int x8, .int x9, .int x10, .int x11, .int x12, .int x13, .int x14, .int x15, .int x16, .int x17]) ∧ (r1 ∈ L ∧ k r1 = 5) ∧ (r7 ∈ L ∧ k r7 = 10)
  | 9 => ∃ (x0 : Int32) (x1 : Int32) (x2 : Int32), f a = .inr (9, [.int x0, .int x1, .int x2])
  | 10 => ∃ (x0 : Int64) (x1 : Int64), f a = .inr (10, [.long x0, .long x1])
  | 11 => ∃ (r1 : Nat) (r2 : Nat) (r3 : Nat) (r4 : Nat) (r5 : Nat) (r6 : Nat) (r7 : Nat) (r8 : Nat) (r9 : Nat) (r10 : Nat) (x11 : Int32), f a = .inr (11, [.ref te, .ref r1, .ref r2, .ref r3, .ref r4, .ref r5, .ref r6, .ref r7, .ref r8, .ref r9, .ref r10, .int x11]) ∧ (r1 ∈ L ∧ k r1 = 7) ∧ (r2 ∈ L ∧ k r2 = 3) ∧ (r3 ∈ L ∧ k r3 = 6) ∧ (r4 ∈ L ∧ k r4 = 6) ∧ (r5 ∈ L ∧ k r5 = 0) ∧ (r6 ∈ L ∧ k r6 = 0) ∧ (r7 ∈ L ∧ k r7 = 21) ∧ (r8 ∈ L ∧ k r8 = 26) ∧ (r9 ∈ L ∧ k r9 = 1) ∧ (r10 ∈ L ∧ k r10 = 4)
  | 12 => ∃ (x0 : Int32) (x1 : Int32) (r2 : Nat) (r3 : Nat) (r4 : Nat) (r5 : Nat) (r6 : Nat) (r7 : Nat) (r8 : Nat) (r9 : Nat) (x10 : Int32) (r11 : Nat) (x12 : Int32) (x13 : Int32) (x14 : Int32) (x15 : Int32) (x16 : Int64) (x17 : Int32) (x18 : Int32) (r19 : Nat) (r20 : Nat) (r21 : Nat) (r22 : Nat) (x23 : Int32) (x24 : Int64) (x25 : Int64) (x26 : Int64), f a = .inr (12, [.int x0, .int x1, .ref r2, .ref r3, .ref r4, .ref r5, .ref r6, .ref r7, .ref r8, .ref r9, .int x10, .ref r11, .int x12, .int x13, .int x14, .int x15, .long x16, .int x17, .int x18, .ref r19, .ref r20, .ref r21, .ref r22, .int x23, .long x24, .long x25, .long x26]) ∧ (r2 ∈ L ∧ k r2 = 30) ∧ (r3 ∈ L ∧ k r3 = 31) ∧ (r4 ∈ L ∧ k r4 = 32) ∧ (r5 ∈ L ∧ k r5 = 33) ∧ (r6 ∈ L ∧ k r6 = 34) ∧ (r7 ∈ L ∧ k r7 = 35) ∧ (r8 ∈ L ∧ k r8 = 36) ∧ (r9 ∈ L ∧ k r9 = 37) ∧ (r11 ∈ L ∧ k r11 = 38) ∧ (r19 ∈ L ∧ k r19 = 39) ∧ (r20 ∈ L ∧ k r20 = 40) ∧ (r21 ∈ L ∧ k r21 = 41) ∧ (r22 ∈ L ∧ k r22 = 42) ∧ (0 ≤ x10.toInt ∧ x10.toInt ≤ 10) ∧ (0 ≤ x12.toInt ∧ x12.toInt ≤ 200) ∧ (0 ≤ x23.toInt ∧ x23.toInt ≤ 8)
  | 20 => ∃ (c : ClassId) (q : Nat → Option Nat), f a = .inl (c, 12, .inr (.inr (.inr (.inr q)))) ∧ KA U c (.object "DeadlineShare$Task") ∧ (∀ i : Nat, i < 12 → ∃ r : Nat, q i = some r ∧ r ∈ L ∧ k r = 8)
  | 21 => ∃ (c : ClassId) (q : Nat → Option Nat), f a = .inl (c, 2, .inr (.inr (.inr (.inr q)))) ∧ KA U c (.object "DeadlineShare$State") ∧ (∀ i : Nat, i < 2 → ∃ r : Nat, q i = some r ∧ r ∈ L ∧ k r = 6)
  | 22 => ∃ (c : ClassId) (q : Nat → Option Nat), f a = .inl (c, 10, .inr (.inr (.inr (.inr q)))) ∧ KA U c (.object "DeadlineShare$State") ∧ (∀ i : Nat, i < 10 → ∃ r : Nat, q i = some r ∧ r ∈ L ∧ k r = 6)
  | 23 => ∃ (c : ClassId) (q : Nat → Int64), f a = .inl (c, 128, .inr (.inl q)) ∧ KA U c .long
  | 24 => ∃ (c : ClassId) (q : Nat → Int32), f a = .inl (c, 8, .inl q) ∧ KA U c .int
  | 25 => ∃ (c : ClassId) (q : Nat → Int32), f a = .inl (c, 200, .inl q) ∧ KA U c .byte
  | 26 => ∃ (c : ClassId) (q : Nat → Int32), f a = .inl (c, 2, .inl q) ∧ KA U c .boolean
  | 27 => ∃ (c : ClassId) (q : Nat → Int32), f a = .inl (c, 10, .inl q) ∧ KA U c .int
  | 28 => ∃ (c : ClassId) (q : Nat → Int32), f a = .inl (c, 5, .inl q) ∧ KA U c .int
  | 30 => ∃ (c : ClassId) (q : Nat → Int32), f a = .inl (c, 7, .inl q) ∧ KA U c .int
  | 31 => ∃ (c : ClassId) (q : Nat → Int32), f a = .inl (c, 3, .inl q) ∧ KA U c .int
  | 32 => ∃ (c : ClassId) (q : Nat → Int64), f a = .inl (c, 906, .inr (.inl q)) ∧ KA U c .long
  | 33 => ∃ (c : ClassId) (q : Nat → Int64), f a = .inl (c, 9060, .inr (.inl q)) ∧ KA U c .long
  | 34 => ∃ (c : ClassId) (q : Nat → Int64), f a = .inl (c, 906, .inr (.inl q)) ∧ KA U c .long
  | 35 => ∃ (c : ClassId) (q : Nat → Int64), f a = .inl (c, 1812, .inr (.inl q)) ∧ KA U c .long
  | 36 => ∃ (c : ClassId) (q : Nat → Int32), f a = .inl (c, 2, .inl q) ∧ KA U c .boolean
  | 37 => ∃ (c : ClassId) (q : Nat → Int32), f a = .inl (c, 10, .inl q) ∧ KA U c .int
  | 38 => ∃ (c : ClassId) (q : Nat → Int32), f a = .inl (c, 200, .inl q) ∧ KA U c .int
  | 39 => ∃ (c : ClassId) (q : Nat → Int64), f a = .inl (c, 5, .inr (.inl q)) ∧ KA U c .long ∧ (∀ i : Nat, i < 5 → 1 ≤ (q i).toInt)
  | 40 => ∃ (c : ClassId) (q : Nat → Int32), f a = .inl (c, 5, .inl q) ∧ KA U c .int ∧ (∀ i : Nat, i < 5 → (q i).toInt ≤ 99 ∧ (i = 2 → (q i).toInt ≤ 8))
  | 41 => ∃ (c : ClassId) (q : Nat → Int32), f a = .inl (c, 8, .inl q) ∧ KA U c .int ∧ (∀ i : Nat, i < 8 → 0 ≤ (q i).toInt ∧ (q i).toInt ≤ 4)
  | 42 => ∃ (c : ClassId) (q : Nat → Int32), f a = .inl (c, 8, .inl q) ∧ KA U c .int
  | _ => False
theorem oc_0 {U : State} {te : Nat} {L : List Nat} {k : Nat → Nat} {f : Nat → va_E} {a : Nat} (hk : k a = 0) (h : okc U te L k f a) : ∃ (x1 : Int32) (x2 : Int64), f a = .inr (0, [.ref te, .int x1, .long x2]) := by
  unfold okc at h; rw [hk] at h; exact h
theorem pko_0 {U : State} {te : Nat} {L : List Nat} {k : Nat → Nat} {f : Nat → va_E} {a : Nat} (hk : k a = 0) (h : ∃ (x1 : Int32) (x2 : Int64), f a = .inr (0, [.ref te, .int x1, .long x2])) : okc U te L k f a := by
  unfold okc; rw [hk]; exact h
theorem oc_1 {U : State} {te : Nat} {L : List Nat} {k : Nat → Nat} {f : Nat → va_E} {a : Nat} (hk : k a = 1) (h : okc U te L k f a) : ∃ (r0 : Nat) (r1 : Nat) (x2 : Int32) (x3 : Int32), f a = .inr (1, [.ref r0, .ref r1, .int x2, .int x3]) ∧ (r0 ∈ L ∧ k r0 = 22) ∧ (r1 ∈ L ∧ k r1 = 27) := by
  unfold okc at h; rw [hk] at h; exact h
theorem pko_1 {U : State} {te : Nat} {L : List Nat} {k : Nat → Nat} {f : Nat → va_E} {a : Nat} (hk : k a = 1) (h : ∃ (r0 : Nat) (r1 : Nat) (x2 : Int32) (x3 : Int32), f a = .inr (1, [.ref r0, .ref r1, .int x2, .int x3]) ∧ (r0 ∈ L ∧ k r0 = 22) ∧ (r1 ∈ L ∧ k r1 = 27)) : okc U te L k f a := by
  unfold okc; rw [hk]; exact h
theorem oc_2 {U : State} {te : Nat} {L : List Nat} {k : Nat → Nat} {f : Nat → va_E} {a : Nat} (hk : k a = 2) (h : okc U te L k f a) : ∃ (r0 : Nat), f a = .inr (2, [.ref r0]) ∧ (r0 ∈ L ∧ k r0 = 23) := by
  unfold okc at h; rw [hk] at h; exact h
theorem pko_2 {U : State} {te : Nat} {L : List Nat} {k : Nat → Nat} {f : Nat → va_E} {a : Nat} (hk : k a = 2) (h : ∃ (r0 : Nat), f a = .inr (2, [.ref r0]) ∧ (r0 ∈ L ∧ k r0 = 23)) : okc U te L k f a := by
  unfold okc; rw [hk]; exact h
theorem oc_3 {U : State} {te : Nat} {L : List Nat} {k : Nat → Nat} {f : Nat → va_E} {a : Nat} (hk : k a = 3) (h : okc U te L k f a) : ∃ (r0 : Nat) (x1 : Int32), f a = .inr (3, [.ref r0, .int x1]) ∧ (r0 ∈ L ∧ k r0 = 5) := by
  unfold okc at h; rw [hk] at h; exact h
theorem pko_3 {U : State} {te : Nat} {L : List Nat} {k : Nat → Nat} {f : Nat → va_E} {a : Nat} (hk : k a = 3) (h : ∃ (r0 : Nat) (x1 : Int32), f a = .inr (3, [.ref r0, .int x1]) ∧ (r0 ∈ L ∧ k r0 = 5)) : okc U te L k f a := by
  unfold okc; rw [hk]; exact h
theorem oc_4 {U : State} {te : Nat} {L : List Nat} {k : Nat → Nat} {f : Nat → va_E} {a : Nat} (hk : k a = 4) (h : okc U te L k f a) : ∃ (r0 : Nat) (x1 : Int32), f a = .inr (4, [.ref r0, .int x1]) ∧ (r0 ∈ L ∧ k r0 = 28) := by
  unfold okc at h; rw [hk] at h; exact h
theorem pko_4 {U : State} {te : Nat} {L : List Nat} {k : Nat → Nat} {f : Nat → va_E} {a : Nat} (hk : k a = 4) (h : ∃ (r0 : Nat) (x1 : Int32), f a = .inr (4, [.ref r0, .int x1]) ∧ (r0 ∈ L ∧ k r0 = 28)) : okc U te L k f a := by
  unfold okc; rw [hk]; exact h
theorem oc_5 {U : State} {te : Nat} {L : List Nat} {k : Nat → Nat} {f : Nat → va_E} {a : Nat} (hk : k a = 5) (h : okc U te L k f a) : ∃ (r0 : Nat) (x1 : Int32) (x2 : Int32) (x3 : Int32) (x4 : Int32), f a = .inr (5, [.ref r0, .int x1, .int x2, .int x3, .int x4]) ∧ (r0 ∈ L ∧ k r0 = 24) ∧ (0 ≤ x1.toInt ∧ x1.toInt ≤ 8) := by
  unfold okc at h; rw [hk] at h; exact h
theorem pko_5 {U : State} {te : Nat} {L : List Nat} {k : Nat → Nat} {f : Nat → va_E} {a : Nat} (hk : k a = 5) (h : ∃ (r0 : Nat) (x1 : Int32) (x2 : Int32) (x3 : Int32) (x4 : Int32), f a = .inr (5, [.ref r0, .int x1, .int x2, .int x3, .int x4]) ∧ (r0 ∈ L ∧ k r0 = 24) ∧ (0 ≤ x1.toInt ∧ x1.toInt ≤ 8)) : okc U te L k f a := by
  unfold okc; rw [hk]; exact h
theorem oc_6 {U : State} {te : Nat} {L : List Nat} {k : Nat → Nat} {f : Nat → va_E} {a : Nat} (hk : k a = 6) (h : okc U te L k f a) : ∃ (r1 : Nat) (r2 : Nat) (r3 : Nat) (r4 : Nat) (x5 : Int32) (x6 : Int32) (x7 : Int64) (x8 : Int32) (x9 : Int32), f a = .inr (6, [.ref te, .ref r1, .ref r2, .ref r3, .ref r4, .int x5, .int x6, .long x7, .int x8, .int x9]) ∧ (r1 ∈ L ∧ k r1 = 20) ∧ (r2 ∈ L ∧ k r2 = 2) ∧ (r3 ∈ L ∧ k r3 = 10) ∧ (r4 ∈ L ∧ k r4 = 10) ∧ (0 ≤ x5.toInt ∧ x5.toInt ≤ 12) := by
  unfold okc at h; rw [hk] at h; exact h
theorem pko_6 {U : State} {te : Nat} {L : List Nat} {k : Nat → Nat} {f : Nat → va_E} {a : Nat} (hk : k a = 6) (h : ∃ (r1 : Nat) (r2 : Nat) (r3 : Nat) (r4 : Nat) (x5 : Int32) (x6 : Int32) (x7 : Int64) (x8 : Int32) (x9 : Int32), f a = .inr (6, [.ref te, .ref r1, .ref r2, .ref r3, .ref r4, .int x5, .int x6, .long x7, .int x8, .int x9]) ∧ (r1 ∈ L ∧ k r1 = 20) ∧ (r2 ∈ L ∧ k r2 = 2) ∧ (r3 ∈ L ∧ k r3 = 10) ∧ (r4 ∈ L ∧ k r4 = 10) ∧ (0 ≤ x5.toInt ∧ x5.toInt ≤ 12)) : okc U te L k f a := by
  unfold okc; rw [hk]; exact h
theorem oc_7 {U : State} {te : Nat} {L : List Nat} {k : Nat → Nat} {f : Nat → va_E} {a : Nat} (hk : k a = 7) (h : okc U te L k f a) : ∃ (r0 : Nat) (x1 : Int32), f a = .inr (7, [.ref r0, .int x1]) ∧ (r0 ∈ L ∧ k r0 = 25) := by
  unfold okc at h; rw [hk] at h; exact h
theorem pko_7 {U : State} {te : Nat} {L : List Nat} {k : Nat → Nat} {f : Nat → va_E} {a : Nat} (hk : k a = 7) (h : ∃ (r0 : Nat) (x1 : Int32), f a = .inr (7, [.ref r0, .int x1]) ∧ (r0 ∈ L ∧ k r0 = 25)) : okc U te L k f a := by
  unfold okc; rw [hk]; exact h
theorem oc_8 {U : State} {te : Nat} {L : List Nat} {k : Nat → Nat} {f : Nat → va_E} {a : Nat} (hk : k a = 8) (h : okc U te L k f a) : ∃ (x0 : Int32) (r1 : Nat) (x2 : Int32) (x3 : Int32) (x4 : Int32) (x5 : Int64) (x6 : Int32) (r7 : Nat) (x8 : Int32) (x9 : Int32) (x10 : Int32) (x11 : Int32) (x12 : Int32) (x13 : Int32) (x14 : Int32) (x15 : Int32) (x16 : Int32) (x17 : Int32), f a = .inr (8, [.int x0, .ref r1, .int x2, .int x3, .int x4, .long x5, .int x6, .ref r7, .int x8, .int x9, .int x10, .int x11, .int x12, .int x13, .int x14, .int x15, .int x16, .int x17]) ∧ (r1 ∈ L ∧ k r1 = 5) ∧ (r7 ∈ L ∧ k r7 = 10) := by
  unfold okc at h; rw [hk] at h; exact h
theorem pko_8 {U : State} {te : Nat} {L : List Nat} {k : Nat → Nat} {f : Nat → va_E} {a : Nat} (hk : k a = 8) (h : ∃ (x0 : Int32) (r1 : Nat) (x2 : Int32) (x3 : Int32) (x4 : Int32) (x5 : Int64) (x6 : Int32) (r7 : Nat) (x8 : Int32) (x9 : Int32) (x10 : Int32) (x11 : Int32) (x12 : Int32) (x13 : Int32) (x14 : Int32) (x15 : Int32) (x16 : Int32) (x17 : Int32), f a = .inr (8, [.int x0, .ref r1, .int x2, .int x3, .int x4, .long x5, .int x6, .ref r7, .int x8, .int x9, .int x10, .int x11, .int x12, .int x13, .int x14, .int x15, .int x16, .int x17]) ∧ (r1 ∈ L ∧ k r1 = 5) ∧ (r7 ∈ L ∧ k r7 = 10)) : okc U te L k f a := by
  unfold okc; rw [hk]; exact h
theorem oc_9 {U : State} {te : Nat} {L : List Nat} {k : Nat → Nat} {f : Nat → va_E} {a : Nat} (hk : k a = 9) (h : okc U te L k f a) : ∃ (x0 : Int32) (x1 : Int32) (x2 : Int32), f a = .inr (9, [.int x0, .int x1, .int x2]) := by
  unfold okc at h; rw [hk] at h; exact h
theorem pko_9 {U : State} {te : Nat} {L : List Nat} {k : Nat → Nat} {f : Nat → va_E} {a : Nat} (hk : k a = 9) (h : ∃ (x0 : Int32) (x1 : Int32) (x2 : Int32), f a = .inr (9, [.int x0, .int x1, .int x2])) : okc U te L k f a := by
  unfold okc; rw [hk]; exact h
theorem oc_10 {U : State} {te : Nat} {L : List Nat} {k : Nat → Nat} {f : Nat → va_E} {a : Nat} (hk : k a = 10) (h : okc U te L k f a) : ∃ (x0 : Int64) (x1 : Int64), f a = .inr (10, [.long x0, .long x1]) := by
  unfold okc at h; rw [hk] at h; exact h
theorem pko_10 {U : State} {te : Nat} {L : List Nat} {k : Nat → Nat} {f : Nat → va_E} {a : Nat} (hk : k a = 10) (h : ∃ (x0 : Int64) (x1 : Int64), f a = .inr (10, [.long x0, .long x1])) : okc U te L k f a := by
  unfold okc; rw [hk]; exact h
theorem oc_11 {U : State} {te : Nat} {L : List Nat} {k : Nat → Nat} {f : Nat → va_E} {a : Nat} (hk : k a = 11) (h : okc U te L k f a) : ∃ (r1 : Nat) (r2 : Nat) (r3 : Nat) (r4 : Nat) (r5 : Nat) (r6 : Nat) (r7 : Nat) (r8 : Nat) (r9 : Nat) (r10 : Nat) (x11 : Int32), f a = .inr (11, [.ref te, .ref r1, .ref r2, .ref r3, .ref r4, .ref r5, .ref r6, .ref r7, .ref r8, .ref r9, .ref r10, .int x11]) ∧ (r1 ∈ L ∧ k r1 = 7) ∧ (r2 ∈ L ∧ k r2 = 3) ∧ (r3 ∈ L ∧ k r3 = 6) ∧ (r4 ∈ L ∧ k r4 = 6) ∧ (r5 ∈ L ∧ k r5 = 0) ∧ (r6 ∈ L ∧ k r6 = 0) ∧ (r7 ∈ L ∧ k r7 = 21) ∧ (r8 ∈ L ∧ k r8 = 26) ∧ (r9 ∈ L ∧ k r9 = 1) ∧ (r10 ∈ L ∧ k r10 = 4) := by
  unfold okc at h; rw [hk] at h; exact h
theorem pko_11 {U : State} {te : Nat} {L : List Nat} {k : Nat → Nat} {f : Nat → va_E} {a : Nat} (hk : k a = 11) (h : ∃ (r1 : Nat) (r2 : Nat) (r3 : Nat) (r4 : Nat) (r5 : Nat) (r6 : Nat) (r7 : Nat) (r8 : Nat) (r9 : Nat) (r10 : Nat) (x11 : Int32), f a = .inr (11, [.ref te, .ref r1, .ref r2, .ref r3, .ref r4, .ref r5, .ref r6, .ref r7, .ref r8, .ref r9, .ref r10, .int x11]) ∧ (r1 ∈ L ∧ k r1 = 7) ∧ (r2 ∈ L ∧ k r2 = 3) ∧ (r3 ∈ L ∧ k r3 = 6) ∧ (r4 ∈ L ∧ k r4 = 6) ∧ (r5 ∈ L ∧ k r5 = 0) ∧ (r6 ∈ L ∧ k r6 = 0) ∧ (r7 ∈ L ∧ k r7 = 21) ∧ (r8 ∈ L ∧ k r8 = 26) ∧ (r9 ∈ L ∧ k r9 = 1) ∧ (r10 ∈ L ∧ k r10 = 4)) : okc U te L k f a := by
  unfold okc; rw [hk]; exact h
theorem oc_12 {U : State} {te : Nat} {L : List Nat} {k : Nat → Nat} {f : Nat → va_E} {a : Nat} (hk : k a = 12) (h : okc U te L k f a) : ∃ (x0 : Int32) (x1 : Int32) (r2 : Nat) (r3 : Nat) (r4 : Nat) (r5 : Nat) (r6 : Nat) (r7 : Nat) (r8 : Nat) (r9 : Nat) (x10 : Int32) (r11 : Nat) (x12 : Int32) (x13 : Int32) (x14 : Int32) (x15 : Int32) (x16 : Int64) (x17 : Int32) (x18 : Int32) (r19 : Nat) (r20 : Nat) (r21 : Nat) (r22 : Nat) (x23 : Int32) (x24 : Int64) (x25 : Int64) (x26 : Int64), f a = .inr (12, [.int x0, .int x1, .ref r2, .ref r3, .ref r4, .ref r5, .ref r6, .ref r7, .ref r8, .ref r9, .int x10, .ref r11, .int x12, .int x13, .int x14, .int x15, .long x16, .int x17, .int x18, .ref r19, .ref r20, .ref r21, .ref r22, .int x23, .long x24, .long x25, .long x26]) ∧ (r2 ∈ L ∧ k r2 = 30) ∧ (r3 ∈ L ∧ k r3 = 31) ∧ (r4 ∈ L ∧ k r4 = 32) ∧ (r5 ∈ L ∧ k r5 = 33) ∧ (r6 ∈ L ∧ k r6 = 34) ∧ (r7 ∈ L ∧ k r7 = 35) ∧ (r8 ∈ L ∧ k r8 = 36) ∧ (r9 ∈ L ∧ k r9 = 37) ∧ (r11 ∈ L ∧ k r11 = 38) ∧ (r19 ∈ L ∧ k r19 = 39) ∧ (r20 ∈ L ∧ k r20 = 40) ∧ (r21 ∈ L ∧ k r21 = 41) ∧ (r22 ∈ L ∧ k r22 = 42) ∧ (0 ≤ x10.toInt ∧ x10.toInt ≤ 10) ∧ (0 ≤ x12.toInt ∧ x12.toInt ≤ 200) ∧ (0 ≤ x23.toInt ∧ x23.toInt ≤ 8) := by
  unfold okc at h; rw [hk] at h; exact h
theorem pko_12 {U : State} {te : Nat} {L : List Nat} {k : Nat → Nat} {f : Nat → va_E} {a : Nat} (hk : k a = 12) (h : ∃ (x0 : Int32) (x1 : Int32) (r2 : Nat) (r3 : Nat) (r4 : Nat) (r5 : Nat) (r6 : Nat) (r7 : Nat) (r8 : Nat) (r9 : Nat) (x10 : Int32) (r11 : Nat) (x12 : Int32) (x13 : Int32) (x14 : Int32) (x15 : Int32) (x16 : Int64) (x17 : Int32) (x18 : Int32) (r19 : Nat) (r20 : Nat) (r21 : Nat) (r22 : Nat) (x23 : Int32) (x24 : Int64) (x25 : Int64) (x26 : Int64), f a = .inr (12, [.int x0, .int x1, .ref r2, .ref r3, .ref r4, .ref r5, .ref r6, .ref r7, .ref r8, .ref r9, .int x10, .ref r11, .int x12, .int x13, .int x14, .int x15, .long x16, .int x17, .int x18, .ref r19, .ref r20, .ref r21, .ref r22, .int x23, .long x24, .long x25, .long x26]) ∧ (r2 ∈ L ∧ k r2 = 30) ∧ (r3 ∈ L ∧ k r3 = 31) ∧ (r4 ∈ L ∧ k r4 = 32) ∧ (r5 ∈ L ∧ k r5 = 33) ∧ (r6 ∈ L ∧ k r6 = 34) ∧ (r7 ∈ L ∧ k r7 = 35) ∧ (r8 ∈ L ∧ k r8 = 36) ∧ (r9 ∈ L ∧ k r9 = 37) ∧ (r11 ∈ L ∧ k r11 = 38) ∧ (r19 ∈ L ∧ k r19 = 39) ∧ (r20 ∈ L ∧ k r20 = 40) ∧ (r21 ∈ L ∧ k r21 = 41) ∧ (r22 ∈ L ∧ k r22 = 42) ∧ (0 ≤ x10.toInt ∧ x10.toInt ≤ 10) ∧ (0 ≤ x12.toInt ∧ x12.toInt ≤ 200) ∧ (0 ≤ x23.toInt ∧ x23.toInt ≤ 8)) : okc U te L k f a := by
  unfold okc; rw [hk]; exact h
theorem oc_20 {U : State} {te : Nat} {L : List Nat} {k : Nat → Nat} {f : Nat → va_E} {a : Nat} (hk : k a = 20) (h : okc U te L k f a) : ∃ (c : ClassId) (q : Nat → Option Nat), f a = .inl (c, 12, .inr (.inr (.inr (.inr q)))) ∧ KA U c (.object "DeadlineShare$Task") ∧ (∀ i : Nat, i < 12 → ∃ r : Nat, q i = some r ∧ r ∈ L ∧ k r = 8) := by
  unfold okc at h; rw [hk] at h; exact h
theorem pko_20 {U : State} {te : Nat} {L : List Nat} {k : Nat → Nat} {f : Nat → va_E} {a : Nat} (hk : k a = 20) (h : ∃ (c : ClassId) (q : Nat → Option Nat), f a = .inl (c, 12, .inr (.inr (.inr (.inr q)))) ∧ KA U c (.object "DeadlineShare$Task") ∧ (∀ i : Nat, i < 12 → ∃ r : Nat, q i = some r ∧ r ∈ L ∧ k r = 8)) : okc U te L k f a := by
  unfold okc; rw [hk]; exact h
theorem oc_21 {U : State} {te : Nat} {L : List Nat} {k : Nat → Nat} {f : Nat → va_E} {a : Nat} (hk : k a = 21) (h : okc U te L k f a) : ∃ (c : ClassId) (q : Nat → Option Nat), f a = .inl (c, 2, .inr (.inr (.inr (.inr q)))) ∧ KA U c (.object "DeadlineShare$State") ∧ (∀ i : Nat, i < 2 → ∃ r : Nat, q i = some r ∧ r ∈ L ∧ k r = 6) := by
  unfold okc at h; rw [hk] at h; exact h
theorem pko_21 {U : State} {te : Nat} {L : List Nat} {k : Nat → Nat} {f : Nat → va_E} {a : Nat} (hk : k a = 21) (h : ∃ (c : ClassId) (q : Nat → Option Nat), f a = .inl (c, 2, .inr (.inr (.inr (.inr q)))) ∧ KA U c (.object "DeadlineShare$State") ∧ (∀ i : Nat, i < 2 → ∃ r : Nat, q i = some r ∧ r ∈ L ∧ k r = 6)) : okc U te L k f a := by
  unfold okc; rw [hk]; exact h
theorem oc_22 {U : State} {te : Nat} {L : List Nat} {k : Nat → Nat} {f : Nat → va_E} {a : Nat} (hk : k a = 22) (h : okc U te L k f a) : ∃ (c : ClassId) (q : Nat → Option Nat), f a = .inl (c, 10, .inr (.inr (.inr (.inr q)))) ∧ KA U c (.object "DeadlineShare$State") ∧ (∀ i : Nat, i < 10 → ∃ r : Nat, q i = some r ∧ r ∈ L ∧ k r = 6) := by
  unfold okc at h; rw [hk] at h; exact h
theorem pko_22 {U : State} {te : Nat} {L : List Nat} {k : Nat → Nat} {f : Nat → va_E} {a : Nat} (hk : k a = 22) (h : ∃ (c : ClassId) (q : Nat → Option Nat), f a = .inl (c, 10, .inr (.inr (.inr (.inr q)))) ∧ KA U c (.object "DeadlineShare$State") ∧ (∀ i : Nat, i < 10 → ∃ r : Nat, q i = some r ∧ r ∈ L ∧ k r = 6)) : okc U te L k f a := by
  unfold okc; rw [hk]; exact h
theorem oc_23 {U : State} {te : Nat} {L : List Nat} {k : Nat → Nat} {f : Nat → va_E} {a : Nat} (hk : k a = 23) (h : okc U te L k f a) : ∃ (c : ClassId) (q : Nat → Int64), f a = .inl (c, 128, .inr (.inl q)) ∧ KA U c .long := by
  unfold okc at h; rw [hk] at h; exact h
theorem pko_23 {U : State} {te : Nat} {L : List Nat} {k : Nat → Nat} {f : Nat → va_E} {a : Nat} (hk : k a = 23) (h : ∃ (c : ClassId) (q : Nat → Int64), f a = .inl (c, 128, .inr (.inl q)) ∧ KA U c .long) : okc U te L k f a := by
  unfold okc; rw [hk]; exact h
theorem oc_24 {U : State} {te : Nat} {L : List Nat} {k : Nat → Nat} {f : Nat → va_E} {a : Nat} (hk : k a = 24) (h : okc U te L k f a) : ∃ (c : ClassId) (q : Nat → Int32), f a = .inl (c, 8, .inl q) ∧ KA U c .int := by
  unfold okc at h; rw [hk] at h; exact h
theorem pko_24 {U : State} {te : Nat} {L : List Nat} {k : Nat → Nat} {f : Nat → va_E} {a : Nat} (hk : k a = 24) (h : ∃ (c : ClassId) (q : Nat → Int32), f a = .inl (c, 8, .inl q) ∧ KA U c .int) : okc U te L k f a := by
  unfold okc; rw [hk]; exact h
theorem oc_25 {U : State} {te : Nat} {L : List Nat} {k : Nat → Nat} {f : Nat → va_E} {a : Nat} (hk : k a = 25) (h : okc U te L k f a) : ∃ (c : ClassId) (q : Nat → Int32), f a = .inl (c, 200, .inl q) ∧ KA U c .byte := by
  unfold okc at h; rw [hk] at h; exact h
theorem pko_25 {U : State} {te : Nat} {L : List Nat} {k : Nat → Nat} {f : Nat → va_E} {a : Nat} (hk : k a = 25) (h : ∃ (c : ClassId) (q : Nat → Int32), f a = .inl (c, 200, .inl q) ∧ KA U c .byte) : okc U te L k f a := by
  unfold okc; rw [hk]; exact h
theorem oc_26 {U : State} {te : Nat} {L : List Nat} {k : Nat → Nat} {f : Nat → va_E} {a : Nat} (hk : k a = 26) (h : okc U te L k f a) : ∃ (c : ClassId) (q : Nat → Int32), f a = .inl (c, 2, .inl q) ∧ KA U c .boolean := by
  unfold okc at h; rw [hk] at h; exact h
theorem pko_26 {U : State} {te : Nat} {L : List Nat} {k : Nat → Nat} {f : Nat → va_E} {a : Nat} (hk : k a = 26) (h : ∃ (c : ClassId) (q : Nat → Int32), f a = .inl (c, 2, .inl q) ∧ KA U c .boolean) : okc U te L k f a := by
  unfold okc; rw [hk]; exact h
theorem oc_27 {U : State} {te : Nat} {L : List Nat} {k : Nat → Nat} {f : Nat → va_E} {a : Nat} (hk : k a = 27) (h : okc U te L k f a) : ∃ (c : ClassId) (q : Nat → Int32), f a = .inl (c, 10, .inl q) ∧ KA U c .int := by
  unfold okc at h; rw [hk] at h; exact h
theorem pko_27 {U : State} {te : Nat} {L : List Nat} {k : Nat → Nat} {f : Nat → va_E} {a : Nat} (hk : k a = 27) (h : ∃ (c : ClassId) (q : Nat → Int32), f a = .inl (c, 10, .inl q) ∧ KA U c .int) : okc U te L k f a := by
  unfold okc; rw [hk]; exact h
theorem oc_28 {U : State} {te : Nat} {L : List Nat} {k : Nat → Nat} {f : Nat → va_E} {a : Nat} (hk : k a = 28) (h : okc U te L k f a) : ∃ (c : ClassId) (q : Nat → Int32), f a = .inl (c, 5, .inl q) ∧ KA U c .int := by
  unfold okc at h; rw [hk] at h; exact h
theorem pko_28 {U : State} {te : Nat} {L : List Nat} {k : Nat → Nat} {f : Nat → va_E} {a : Nat} (hk : k a = 28) (h : ∃ (c : ClassId) (q : Nat → Int32), f a = .inl (c, 5, .inl q) ∧ KA U c .int) : okc U te L k f a := by
  unfold okc; rw [hk]; exact h
theorem oc_30 {U : State} {te : Nat} {L : List Nat} {k : Nat → Nat} {f : Nat → va_E} {a : Nat} (hk : k a = 30) (h : okc U te L k f a) : ∃ (c : ClassId) (q : Nat → Int32), f a = .inl (c, 7, .inl q) ∧ KA U c .int := by
  unfold okc at h; rw [hk] at h; exact h
theorem pko_30 {U : State} {te : Nat} {L : List Nat} {k : Nat → Nat} {f : Nat → va_E} {a : Nat} (hk : k a = 30) (h : ∃ (c : ClassId) (q : Nat → Int32), f a = .inl (c, 7, .inl q) ∧ KA U c .int) : okc U te L k f a := by
  unfold okc; rw [hk]; exact h
theorem oc_31 {U : State} {te : Nat} {L : List Nat} {k : Nat → Nat} {f : Nat → va_E} {a : Nat} (hk : k a = 31) (h : okc U te L k f a) : ∃ (c : ClassId) (q : Nat → Int32), f a = .inl (c, 3, .inl q) ∧ KA U c .int := by
  unfold okc at h; rw [hk] at h; exact h
theorem pko_31 {U : State} {te : Nat} {L : List Nat} {k : Nat → Nat} {f : Nat → va_E} {a : Nat} (hk : k a = 31) (h : ∃ (c : ClassId) (q : Nat → Int32), f a = .inl (c, 3, .inl q) ∧ KA U c .int) : okc U te L k f a := by
  unfold okc; rw [hk]; exact h
theorem oc_32 {U : State} {te : Nat} {L : List Nat} {k : Nat → Nat} {f : Nat → va_E} {a : Nat} (hk : k a = 32) (h : okc U te L k f a) : ∃ (c : ClassId) (q : Nat → Int64), f a = .inl (c, 906, .inr (.inl q)) ∧ KA U c .long := by
  unfold okc at h; rw [hk] at h; exact h
theorem pko_32 {U : State} {te : Nat} {L : List Nat} {k : Nat → Nat} {f : Nat → va_E} {a : Nat} (hk : k a = 32) (h : ∃ (c : ClassId) (q : Nat → Int64), f a = .inl (c, 906, .inr (.inl q)) ∧ KA U c .long) : okc U te L k f a := by
  unfold okc; rw [hk]; exact h
theorem oc_33 {U : State} {te : Nat} {L : List Nat} {k : Nat → Nat} {f : Nat → va_E} {a : Nat} (hk : k a = 33) (h : okc U te L k f a) : ∃ (c : ClassId) (q : Nat → Int64), f a = .inl (c, 9060, .inr (.inl q)) ∧ KA U c .long := by
  unfold okc at h; rw [hk] at h; exact h
theorem pko_33 {U : State} {te : Nat} {L : List Nat} {k : Nat → Nat} {f : Nat → va_E} {a : Nat} (hk : k a = 33) (h : ∃ (c : ClassId) (q : Nat → Int64), f a = .inl (c, 9060, .inr (.inl q)) ∧ KA U c .long) : okc U te L k f a := by
  unfold okc; rw [hk]; exact h
theorem oc_34 {U : State} {te : Nat} {L : List Nat} {k : Nat → Nat} {f : Nat → va_E} {a : Nat} (hk : k a = 34) (h : okc U te L k f a) : ∃ (c : ClassId) (q : Nat → Int64), f a = .inl (c, 906, .inr (.inl q)) ∧ KA U c .long := by
  unfold okc at h; rw [hk] at h; exact h
theorem pko_34 {U : State} {te : Nat} {L : List Nat} {k : Nat → Nat} {f : Nat → va_E} {a : Nat} (hk : k a = 34) (h : ∃ (c : ClassId) (q : Nat → Int64), f a = .inl (c, 906, .inr (.inl q)) ∧ KA U c .long) : okc U te L k f a := by
  unfold okc; rw [hk]; exact h
theorem oc_35 {U : State} {te : Nat} {L : List Nat} {k : Nat → Nat} {f : Nat → va_E} {a : Nat} (hk : k a = 35) (h : okc U te L k f a) : ∃ (c : ClassId) (q : Nat → Int64), f a = .inl (c, 1812, .inr (.inl q)) ∧ KA U c .long := by
  unfold okc at h; rw [hk] at h; exact h
theorem pko_35 {U : State} {te : Nat} {L : List Nat} {k : Nat → Nat} {f : Nat → va_E} {a : Nat} (hk : k a = 35) (h : ∃ (c : ClassId) (q : Nat → Int64), f a = .inl (c, 1812, .inr (.inl q)) ∧ KA U c .long) : okc U te L k f a := by
  unfold okc; rw [hk]; exact h
theorem oc_36 {U : State} {te : Nat} {L : List Nat} {k : Nat → Nat} {f : Nat → va_E} {a : Nat} (hk : k a = 36) (h : okc U te L k f a) : ∃ (c : ClassId) (q : Nat → Int32), f a = .inl (c, 2, .inl q) ∧ KA U c .boolean := by
  unfold okc at h; rw [hk] at h; exact h
theorem pko_36 {U : State} {te : Nat} {L : List Nat} {k : Nat → Nat} {f : Nat → va_E} {a : Nat} (hk : k a = 36) (h : ∃ (c : ClassId) (q : Nat → Int32), f a = .inl (c, 2, .inl q) ∧ KA U c .boolean) : okc U te L k f a := by
  unfold okc; rw [hk]; exact h
theorem oc_37 {U : State} {te : Nat} {L : List Nat} {k : Nat → Nat} {f : Nat → va_E} {a : Nat} (hk : k a = 37) (h : okc U te L k f a) : ∃ (c : ClassId) (q : Nat → Int32), f a = .inl (c, 10, .inl q) ∧ KA U c .int := by
  unfold okc at h; rw [hk] at h; exact h
theorem pko_37 {U : State} {te : Nat} {L : List Nat} {k : Nat → Nat} {f : Nat → va_E} {a : Nat} (hk : k a = 37) (h : ∃ (c : ClassId) (q : Nat → Int32), f a = .inl (c, 10, .inl q) ∧ KA U c .int) : okc U te L k f a := by
  unfold okc; rw [hk]; exact h
theorem oc_38 {U : State} {te : Nat} {L : List Nat} {k : Nat → Nat} {f : Nat → va_E} {a : Nat} (hk : k a = 38) (h : okc U te L k f a) : ∃ (c : ClassId) (q : Nat → Int32), f a = .inl (c, 200, .inl q) ∧ KA U c .int := by
  unfold okc at h; rw [hk] at h; exact h
theorem pko_38 {U : State} {te : Nat} {L : List Nat} {k : Nat → Nat} {f : Nat → va_E} {a : Nat} (hk : k a = 38) (h : ∃ (c : ClassId) (q : Nat → Int32), f a = .inl (c, 200, .inl q) ∧ KA U c .int) : okc U te L k f a := by
  unfold okc; rw [hk]; exact h
theorem oc_39 {U : State} {te : Nat} {L : List Nat} {k : Nat → Nat} {f : Nat → va_E} {a : Nat} (hk : k a = 39) (h : okc U te L k f a) : ∃ (c : ClassId) (q : Nat → Int64), f a = .inl (c, 5, .inr (.inl q)) ∧ KA U c .long ∧ (∀ i : Nat, i < 5 → 1 ≤ (q i).toInt) := by
  unfold okc at h; rw [hk] at h; exact h
theorem pko_39 {U : State} {te : Nat} {L : List Nat} {k : Nat → Nat} {f : Nat → va_E} {a : Nat} (hk : k a = 39) (h : ∃ (c : ClassId) (q : Nat → Int64), f a = .inl (c, 5, .inr (.inl q)) ∧ KA U c .long ∧ (∀ i : Nat, i < 5 → 1 ≤ (q i).toInt)) : okc U te L k f a := by
  unfold okc; rw [hk]; exact h
theorem oc_40 {U : State} {te : Nat} {L : List Nat} {k : Nat → Nat} {f : Nat → va_E} {a : Nat} (hk : k a = 40) (h : okc U te L k f a) : ∃ (c : ClassId) (q : Nat → Int32), f a = .inl (c, 5, .inl q) ∧ KA U c .int ∧ (∀ i : Nat, i < 5 → (q i).toInt ≤ 99 ∧ (i = 2 → (q i).toInt ≤ 8)) := by
  unfold okc at h; rw [hk] at h; exact h
theorem pko_40 {U : State} {te : Nat} {L : List Nat} {k : Nat → Nat} {f : Nat → va_E} {a : Nat} (hk : k a = 40) (h : ∃ (c : ClassId) (q : Nat → Int32), f a = .inl (c, 5, .inl q) ∧ KA U c .int ∧ (∀ i : Nat, i < 5 → (q i).toInt ≤ 99 ∧ (i = 2 → (q i).toInt ≤ 8))) : okc U te L k f a := by
  unfold okc; rw [hk]; exact h
theorem oc_41 {U : State} {te : Nat} {L : List Nat} {k : Nat → Nat} {f : Nat → va_E} {a : Nat} (hk : k a = 41) (h : okc U te L k f a) : ∃ (c : ClassId) (q : Nat → Int32), f a = .inl (c, 8, .inl q) ∧ KA U c .int ∧ (∀ i : Nat, i < 8 → 0 ≤ (q i).toInt ∧ (q i).toInt ≤ 4) := by
  unfold okc at h; rw [hk] at h; exact h
theorem pko_41 {U : State} {te : Nat} {L : List Nat} {k : Nat → Nat} {f : Nat → va_E} {a : Nat} (hk : k a = 41) (h : ∃ (c : ClassId) (q : Nat → Int32), f a = .inl (c, 8, .inl q) ∧ KA U c .int ∧ (∀ i : Nat, i < 8 → 0 ≤ (q i).toInt ∧ (q i).toInt ≤ 4)) : okc U te L k f a := by
  unfold okc; rw [hk]; exact h
theorem oc_42 {U : State} {te : Nat} {L : List Nat} {k : Nat → Nat} {f : Nat → va_E} {a : Nat} (hk : k a = 42) (h : okc U te L k f a) : ∃ (c : ClassId) (q : Nat → Int32), f a = .inl (c, 8, .inl q) ∧ KA U c .int := by
  unfold okc at h; rw [hk] at h; exact h
theorem pko_42 {U : State} {te : Nat} {L : List Nat} {k : Nat → Nat} {f : Nat → va_E} {a : Nat} (hk : k a = 42) (h : ∃ (c : ClassId) (q : Nat → Int32), f a = .inl (c, 8, .inl q) ∧ KA U c .int) : okc U te L k f a := by
  unfold okc; rw [hk]; exact h
theorem okc_mono {U : State} {te : Nat} {L L1 : List Nat} {k k1 : Nat → Nat} {f f1 : Nat → va_E} {a : Nat} (hk : k1 a = k a) (hf : f1 a = f a) (hr : ∀ r : Nat, r ∈ L → r ∈ L1 ∧ k1 r = k r) (h : okc U te L k f a) : okc U te L1 k1 f1 a := by
  have hk9 : k a = 0 ∨ k a = 1 ∨ k a = 2 ∨ k a = 3 ∨ k a = 4 ∨ k a = 5 ∨ k a = 6 ∨ k a = 7 ∨ k a = 8 ∨ k a = 9 ∨ k a = 10 ∨ k a = 11 ∨ k a = 12 ∨ k a = 20 ∨ k a = 21 ∨ k a = 22 ∨ k a = 23 ∨ k a = 24 ∨ k a = 25 ∨ k a = 26 ∨ k a = 27 ∨ k a = 28 ∨ k a = 30 ∨ k a = 31 ∨ k a = 32 ∨ k a = 33 ∨ k a = 34 ∨ k a = 35 ∨ k a = 36 ∨ k a = 37 ∨ k a = 38 ∨ k a = 39 ∨ k a = 40 ∨ k a = 41 ∨ k a = 42 := by
    unfold okc at h
    split at h <;> first | exact False.elim h | (rename_i h9; rw [h9]; decide)
  rcases hk9 with hk9 | hk9 | hk9 | hk9 | hk9 | hk9 | hk9 | hk9 | hk9 | hk9 | hk9 | hk9 | hk9 | hk9 | hk9 | hk9 | hk9 | hk9 | hk9 | hk9 | hk9 | hk9 | hk9 | hk9 | hk9 | hk9 | hk9 | hk9 | hk9 | hk9 | hk9 | hk9 | hk9 | hk9 | hk9
  · obtain ⟨x1, x2, hf9⟩ := oc_0 hk9 h
    exact pko_0 (hk.trans hk9) ⟨x1, x2, hf.trans hf9⟩
  · obtain ⟨r0, r1, x2, x3, hf9, s0, s1⟩ := oc_1 hk9 h
    exact pko_1 (hk.trans hk9) ⟨r0, r1, x2, x3, hf.trans hf9, ⟨(hr r0 s0.1).1, (hr r0 s0.1).2.trans s0.2⟩, ⟨(hr r1 s1.1).1, (hr r1 s1.1).2.trans s1.2⟩⟩
  · obtain ⟨r0, hf9, s0⟩ := oc_2 hk9 h
    exact pko_2 (hk.trans hk9) ⟨r0, hf.trans hf9, ⟨(hr r0 s0.1).1, (hr r0 s0.1).2.trans s0.2⟩⟩
  · obtain ⟨r0, x1, hf9, s0⟩ := oc_3 hk9 h
    exact pko_3 (hk.trans hk9) ⟨r0, x1, hf.trans hf9, ⟨(hr r0 s0.1).1, (hr r0 s0.1).2.trans s0.2⟩⟩
  · obtain ⟨r0, x1, hf9, s0⟩ := oc_4 hk9 h
    exact pko_4 (hk.trans hk9) ⟨r0, x1, hf.trans hf9, ⟨(hr r0 s0.1).1, (hr r0 s0.1).2.trans s0.2⟩⟩
  · obtain ⟨r0, x1, x2, x3, x4, hf9, s0, s1⟩ := oc_5 hk9 h
    exact pko_5 (hk.trans hk9) ⟨r0, x1, x2, x3, x4, hf.trans hf9, ⟨(hr r0 s0.1).1, (hr r0 s0.1).2.trans s0.2⟩, s1⟩
  · obtain ⟨r1, r2, r3, r4, x5, x6, x7, x8, x9, hf9, s0, s1, s2, s3, s4⟩ := oc_6 hk9 h
    exact pko_6 (hk.trans hk9) ⟨r1, r2, r3, r4, x5, x6, x7, x8, x9, hf.trans hf9, ⟨(hr r1 s0.1).1, (hr r1 s0.1).2.trans s0.2⟩, ⟨(hr r2 s1.1).1, (hr r2 s1.1).2.trans s1.2⟩, ⟨(hr r3 s2.1).1, (hr r3 s2.1).2.trans s2.2⟩, ⟨(hr r4 s3.1).1, (hr r4 s3.1).2.trans s3.2⟩, s4⟩
  · obtain ⟨r0, x1, hf9, s0⟩ := oc_7 hk9 h
    exact pko_7 (hk.trans hk9) ⟨r0, x1, hf.trans hf9, ⟨(hr r0 s0.1).1, (hr r0 s0.1).2.trans s0.2⟩⟩
  · obtain ⟨x0, r1, x2, x3, x4, x5, x6, r7, x8, x9, x10, x11, x12, x13, x14, x15, x16, x17, hf9, s0, s1⟩ := oc_8 hk9 h
    exact pko_8 (hk.trans hk9) ⟨x0, r1, x2, x3, x4, x5, x6, r7, x8, x9, x10, x11, x12, x13, x14, x15, x16, x17, hf.trans hf9, ⟨(hr r1 s0.1).1, (hr r1 s0.1).2.trans s0.2⟩, ⟨(hr r7 s1.1).1, (hr r7 s1.1).2.trans s1.2⟩⟩
  · obtain ⟨x0, x1, x2, hf9⟩ := oc_9 hk9 h
    exact pko_9 (hk.trans hk9) ⟨x0, x1, x2, hf.trans hf9⟩
  · obtain ⟨x0, x1, hf9⟩ := oc_10 hk9 h
    exact pko_10 (hk.trans hk9) ⟨x0, x1, hf.trans hf9⟩
  · obtain ⟨r1, r2, r3, r4, r5, r6, r7, r8, r9, r10, x11, hf9, s0, s1, s2, s3, s4, s5, s6, s7, s8, s9⟩ := oc_11 hk9 h
    exact pko_11 (hk.trans hk9) ⟨r1, r2, r3, r4, r5, r6, r7, r8, r9, r10, x11, hf.trans hf9, ⟨(hr r1 s0.1).1, (hr r1 s0.1).2.trans s0.2⟩, ⟨(hr r2 s1.1).1, (hr r2 s1.1).2.trans s1.2⟩, ⟨(hr r3 s2.1).1, (hr r3 s2.1).2.trans s2.2⟩, ⟨(hr r4 s3.1).1, (hr r4 s3.1).2.trans s3.2⟩, ⟨(hr r5 s4.1).1, (hr r5 s4.1).2.trans s4.2⟩, ⟨(hr r6 s5.1).1, (hr r6 s5.1).2.trans s5.2⟩, ⟨(hr r7 s6.1).1, (hr r7 s6.1).2.trans s6.2⟩, ⟨(hr r8 s7.1).1, (hr r8 s7.1).2.trans s7.2⟩, ⟨(hr r9 s8.1).1, (hr r9 s8.1).2.trans s8.2⟩, ⟨(hr r10 s9.1).1, (hr r10 s9.1).2.trans s9.2⟩⟩
  · obtain ⟨x0, x1, r2, r3, r4, r5, r6, r7, r8, r9, x10, r11, x12, x13, x14, x15, x16, x17, x18, r19, r20, r21, r22, x23, x24, x25, x26, hf9, s0, s1, s2, s3, s4, s5, s6, s7, s8, s9, s10, s11, s12, s13, s14, s15⟩ := oc_12 hk9 h
    exact pko_12 (hk.trans hk9) ⟨x0, x1, r2, r3, r4, r5, r6, r7, r8, r9, x10, r11, x12, x13, x14, x15, x16, x17, x18, r19, r20, r21, r22, x23, x24, x25, x26, hf.trans hf9, ⟨(hr r2 s0.1).1, (hr r2 s0.1).2.trans s0.2⟩, ⟨(hr r3 s1.1).1, (hr r3 s1.1).2.trans s1.2⟩, ⟨(hr r4 s2.1).1, (hr r4 s2.1).2.trans s2.2⟩, ⟨(hr r5 s3.1).1, (hr r5 s3.1).2.trans s3.2⟩, ⟨(hr r6 s4.1).1, (hr r6 s4.1).2.trans s4.2⟩, ⟨(hr r7 s5.1).1, (hr r7 s5.1).2.trans s5.2⟩, ⟨(hr r8 s6.1).1, (hr r8 s6.1).2.trans s6.2⟩, ⟨(hr r9 s7.1).1, (hr r9 s7.1).2.trans s7.2⟩, ⟨(hr r11 s8.1).1, (hr r11 s8.1).2.trans s8.2⟩, ⟨(hr r19 s9.1).1, (hr r19 s9.1).2.trans s9.2⟩, ⟨(hr r20 s10.1).1, (hr r20 s10.1).2.trans s10.2⟩, ⟨(hr r21 s11.1).1, (hr r21 s11.1).2.trans s11.2⟩, ⟨(hr r22 s12.1).1, (hr r22 s12.1).2.trans s12.2⟩, s13, s14, s15⟩
  · obtain ⟨c, q, hf9, s0, s1⟩ := oc_20 hk9 h
    exact pko_20 (hk.trans hk9) ⟨c, q, hf.trans hf9, s0, fun i hi => (s1 i hi).elim fun r hr9 => ⟨r, hr9.1, (hr r hr9.2.1).1, (hr r hr9.2.1).2.trans hr9.2.2⟩⟩
  · obtain ⟨c, q, hf9, s0, s1⟩ := oc_21 hk9 h
    exact pko_21 (hk.trans hk9) ⟨c, q, hf.trans hf9, s0, fun i hi => (s1 i hi).elim fun r hr9 => ⟨r, hr9.1, (hr r hr9.2.1).1, (hr r hr9.2.1).2.trans hr9.2.2⟩⟩
  · obtain ⟨c, q, hf9, s0, s1⟩ := oc_22 hk9 h
    exact pko_22 (hk.trans hk9) ⟨c, q, hf.trans hf9, s0, fun i hi => (s1 i hi).elim fun r hr9 => ⟨r, hr9.1, (hr r hr9.2.1).1, (hr r hr9.2.1).2.trans hr9.2.2⟩⟩
  · obtain ⟨c, q, hf9, s0⟩ := oc_23 hk9 h
    exact pko_23 (hk.trans hk9) ⟨c, q, hf.trans hf9, s0⟩
  · obtain ⟨c, q, hf9, s0⟩ := oc_24 hk9 h
    exact pko_24 (hk.trans hk9) ⟨c, q, hf.trans hf9, s0⟩
  · obtain ⟨c, q, hf9, s0⟩ := oc_25 hk9 h
    exact pko_25 (hk.trans hk9) ⟨c, q, hf.trans hf9, s0⟩
  · obtain ⟨c, q, hf9, s0⟩ := oc_26 hk9 h
    exact pko_26 (hk.trans hk9) ⟨c, q, hf.trans hf9, s0⟩
  · obtain ⟨c, q, hf9, s0⟩ := oc_27 hk9 h
    exact pko_27 (hk.trans hk9) ⟨c, q, hf.trans hf9, s0⟩
  · obtain ⟨c, q, hf9, s0⟩ := oc_28 hk9 h
    exact pko_28 (hk.trans hk9) ⟨c, q, hf.trans hf9, s0⟩
  · obtain ⟨c, q, hf9, s0⟩ := oc_30 hk9 h
    exact pko_30 (hk.trans hk9) ⟨c, q, hf.trans hf9, s0⟩
  · obtain ⟨c, q, hf9, s0⟩ := oc_31 hk9 h
    exact pko_31 (hk.trans hk9) ⟨c, q, hf.trans hf9, s0⟩
  · obtain ⟨c, q, hf9, s0⟩ := oc_32 hk9 h
    exact pko_32 (hk.trans hk9) ⟨c, q, hf.trans hf9, s0⟩
  · obtain ⟨c, q, hf9, s0⟩ := oc_33 hk9 h
    exact pko_33 (hk.trans hk9) ⟨c, q, hf.trans hf9, s0⟩
  · obtain ⟨c, q, hf9, s0⟩ := oc_34 hk9 h
    exact pko_34 (hk.trans hk9) ⟨c, q, hf.trans hf9, s0⟩
  · obtain ⟨c, q, hf9, s0⟩ := oc_35 hk9 h
    exact pko_35 (hk.trans hk9) ⟨c, q, hf.trans hf9, s0⟩
  · obtain ⟨c, q, hf9, s0⟩ := oc_36 hk9 h
    exact pko_36 (hk.trans hk9) ⟨c, q, hf.trans hf9, s0⟩
  · obtain ⟨c, q, hf9, s0⟩ := oc_37 hk9 h
    exact pko_37 (hk.trans hk9) ⟨c, q, hf.trans hf9, s0⟩
  · obtain ⟨c, q, hf9, s0⟩ := oc_38 hk9 h
    exact pko_38 (hk.trans hk9) ⟨c, q, hf.trans hf9, s0⟩
  · obtain ⟨c, q, hf9, s0, s1⟩ := oc_39 hk9 h
    exact pko_39 (hk.trans hk9) ⟨c, q, hf.trans hf9, s0, s1⟩
  · obtain ⟨c, q, hf9, s0, s1⟩ := oc_40 hk9 h
    exact pko_40 (hk.trans hk9) ⟨c, q, hf.trans hf9, s0, s1⟩
  · obtain ⟨c, q, hf9, s0, s1⟩ := oc_41 hk9 h
    exact pko_41 (hk.trans hk9) ⟨c, q, hf.trans hf9, s0, s1⟩
  · obtain ⟨c, q, hf9, s0⟩ := oc_42 hk9 h
    exact pko_42 (hk.trans hk9) ⟨c, q, hf.trans hf9, s0⟩
theorem okc_moved {u U : State} {te : Nat} {L : List Nat} {k : Nat → Nat} {f : Nat → va_E} {a : Nat} (hvm : u.vm.Alike U.vm) (h : okc u te L k f a) : okc U te L k f a := by
  have hk9 : k a = 0 ∨ k a = 1 ∨ k a = 2 ∨ k a = 3 ∨ k a = 4 ∨ k a = 5 ∨ k a = 6 ∨ k a = 7 ∨ k a = 8 ∨ k a = 9 ∨ k a = 10 ∨ k a = 11 ∨ k a = 12 ∨ k a = 20 ∨ k a = 21 ∨ k a = 22 ∨ k a = 23 ∨ k a = 24 ∨ k a = 25 ∨ k a = 26 ∨ k a = 27 ∨ k a = 28 ∨ k a = 30 ∨ k a = 31 ∨ k a = 32 ∨ k a = 33 ∨ k a = 34 ∨ k a = 35 ∨ k a = 36 ∨ k a = 37 ∨ k a = 38 ∨ k a = 39 ∨ k a = 40 ∨ k a = 41 ∨ k a = 42 := by
    unfold okc at h
    split at h <;> first | exact False.elim h | (rename_i h9; rw [h9]; decide)
  rcases hk9 with hk9 | hk9 | hk9 | hk9 | hk9 | hk9 | hk9 | hk9 | hk9 | hk9 | hk9 | hk9 | hk9 | hk9 | hk9 | hk9 | hk9 | hk9 | hk9 | hk9 | hk9 | hk9 | hk9 | hk9 | hk9 | hk9 | hk9 | hk9 | hk9 | hk9 | hk9 | hk9 | hk9 | hk9 | hk9
  · obtain ⟨x1, x2, hf9⟩ := oc_0 hk9 h
    exact pko_0 hk9 ⟨x1, x2, hf9⟩
  · obtain ⟨r0, r1, x2, x3, hf9, s0, s1⟩ := oc_1 hk9 h
    exact pko_1 hk9 ⟨r0, r1, x2, x3, hf9, s0, s1⟩
  · obtain ⟨r0, hf9, s0⟩ := oc_2 hk9 h
    exact pko_2 hk9 ⟨r0, hf9, s0⟩
  · obtain ⟨r0, x1, hf9, s0⟩ := oc_3 hk9 h
    exact pko_3 hk9 ⟨r0, x1, hf9, s0⟩
  · obtain ⟨r0, x1, hf9, s0⟩ := oc_4 hk9 h
    exact pko_4 hk9 ⟨r0, x1, hf9, s0⟩
  · obtain ⟨r0, x1, x2, x3, x4, hf9, s0, s1⟩ := oc_5 hk9 h
    exact pko_5 hk9 ⟨r0, x1, x2, x3, x4, hf9, s0, s1⟩
  · obtain ⟨r1, r2, r3, r4, x5, x6, x7, x8, x9, hf9, s0, s1, s2, s3, s4⟩ := oc_6 hk9 h
    exact pko_6 hk9 ⟨r1, r2, r3, r4, x5, x6, x7, x8, x9, hf9, s0, s1, s2, s3, s4⟩
  · obtain ⟨r0, x1, hf9, s0⟩ := oc_7 hk9 h
    exact pko_7 hk9 ⟨r0, x1, hf9, s0⟩
  · obtain ⟨x0, r1, x2, x3, x4, x5, x6, r7, x8, x9, x10, x11, x12, x13, x14, x15, x16, x17, hf9, s0, s1⟩ := oc_8 hk9 h
    exact pko_8 hk9 ⟨x0, r1, x2, x3, x4, x5, x6, r7, x8, x9, x10, x11, x12, x13, x14, x15, x16, x17, hf9, s0, s1⟩
  · obtain ⟨x0, x1, x2, hf9⟩ := oc_9 hk9 h
    exact pko_9 hk9 ⟨x0, x1, x2, hf9⟩
  · obtain ⟨x0, x1, hf9⟩ := oc_10 hk9 h
    exact pko_10 hk9 ⟨x0, x1, hf9⟩
  · obtain ⟨r1, r2, r3, r4, r5, r6, r7, r8, r9, r10, x11, hf9, s0, s1, s2, s3, s4, s5, s6, s7, s8, s9⟩ := oc_11 hk9 h
    exact pko_11 hk9 ⟨r1, r2, r3, r4, r5, r6, r7, r8, r9, r10, x11, hf9, s0, s1, s2, s3, s4, s5, s6, s7, s8, s9⟩
  · obtain ⟨x0, x1, r2, r3, r4, r5, r6, r7, r8, r9, x10, r11, x12, x13, x14, x15, x16, x17, x18, r19, r20, r21, r22, x23, x24, x25, x26, hf9, s0, s1, s2, s3, s4, s5, s6, s7, s8, s9, s10, s11, s12, s13, s14, s15⟩ := oc_12 hk9 h
    exact pko_12 hk9 ⟨x0, x1, r2, r3, r4, r5, r6, r7, r8, r9, x10, r11, x12, x13, x14, x15, x16, x17, x18, r19, r20, r21, r22, x23, x24, x25, x26, hf9, s0, s1, s2, s3, s4, s5, s6, s7, s8, s9, s10, s11, s12, s13, s14, s15⟩
  · obtain ⟨c, q, hf9, s0, s1⟩ := oc_20 hk9 h
    exact pko_20 hk9 ⟨c, q, hf9, KA.moved hvm s0, s1⟩
  · obtain ⟨c, q, hf9, s0, s1⟩ := oc_21 hk9 h
    exact pko_21 hk9 ⟨c, q, hf9, KA.moved hvm s0, s1⟩
  · obtain ⟨c, q, hf9, s0, s1⟩ := oc_22 hk9 h
    exact pko_22 hk9 ⟨c, q, hf9, KA.moved hvm s0, s1⟩
  · obtain ⟨c, q, hf9, s0⟩ := oc_23 hk9 h
    exact pko_23 hk9 ⟨c, q, hf9, KA.moved hvm s0⟩
  · obtain ⟨c, q, hf9, s0⟩ := oc_24 hk9 h
    exact pko_24 hk9 ⟨c, q, hf9, KA.moved hvm s0⟩
  · obtain ⟨c, q, hf9, s0⟩ := oc_25 hk9 h
    exact pko_25 hk9 ⟨c, q, hf9, KA.moved hvm s0⟩
  · obtain ⟨c, q, hf9, s0⟩ := oc_26 hk9 h
    exact pko_26 hk9 ⟨c, q, hf9, KA.moved hvm s0⟩
  · obtain ⟨c, q, hf9, s0⟩ := oc_27 hk9 h
    exact pko_27 hk9 ⟨c, q, hf9, KA.moved hvm s0⟩
  · obtain ⟨c, q, hf9, s0⟩ := oc_28 hk9 h
    exact pko_28 hk9 ⟨c, q, hf9, KA.moved hvm s0⟩
  · obtain ⟨c, q, hf9, s0⟩ := oc_30 hk9 h
    exact pko_30 hk9 ⟨c, q, hf9, KA.moved hvm s0⟩
  · obtain ⟨c, q, hf9, s0⟩ := oc_31 hk9 h
    exact pko_31 hk9 ⟨c, q, hf9, KA.moved hvm s0⟩
  · obtain ⟨c, q, hf9, s0⟩ := oc_32 hk9 h
    exact pko_32 hk9 ⟨c, q, hf9, KA.moved hvm s0⟩
  · obtain ⟨c, q, hf9, s0⟩ := oc_33 hk9 h
    exact pko_33 hk9 ⟨c, q, hf9, KA.moved hvm s0⟩
  · obtain ⟨c, q, hf9, s0⟩ := oc_34 hk9 h
    exact pko_34 hk9 ⟨c, q, hf9, KA.moved hvm s0⟩
  · obtain ⟨c, q, hf9, s0⟩ := oc_35 hk9 h
    exact pko_35 hk9 ⟨c, q, hf9, KA.moved hvm s0⟩
  · obtain ⟨c, q, hf9, s0⟩ := oc_36 hk9 h
    exact pko_36 hk9 ⟨c, q, hf9, KA.moved hvm s0⟩
  · obtain ⟨c, q, hf9, s0⟩ := oc_37 hk9 h
    exact pko_37 hk9 ⟨c, q, hf9, KA.moved hvm s0⟩
  · obtain ⟨c, q, hf9, s0⟩ := oc_38 hk9 h
    exact pko_38 hk9 ⟨c, q, hf9, KA.moved hvm s0⟩
  · obtain ⟨c, q, hf9, s0, s1⟩ := oc_39 hk9 h
    exact pko_39 hk9 ⟨c, q, hf9, KA.moved hvm s0, s1⟩
  · obtain ⟨c, q, hf9, s0, s1⟩ := oc_40 hk9 h
    exact pko_40 hk9 ⟨c, q, hf9, KA.moved hvm s0, s1⟩
  · obtain ⟨c, q, hf9, s0, s1⟩ := oc_41 hk9 h
    exact pko_41 hk9 ⟨c, q, hf9, KA.moved hvm s0, s1⟩
  · obtain ⟨c, q, hf9, s0⟩ := oc_42 hk9 h
    exact pko_42 hk9 ⟨c, q, hf9, KA.moved hvm s0⟩
def PT (U : State) (te : Nat) (L : List Nat) (k : Nat → Nat) (f : Nat → va_E) : Prop := ∀ a ∈ L, okc U te L k f a
theorem PT.moved {u U : State} {te : Nat} {L : List Nat} {k : Nat → Nat} {f : Nat → va_E} (hvm : u.vm.Alike U.vm) (h : PT u te L k f) : PT U te L k f := fun a ha => okc_moved hvm (h a ha)
def mrg {α : Type} (L : List Nat) (f g : Nat → α) : Nat → α := fun a => if a ∈ L then f a else g a
theorem mrg_l {α : Type} {L : List Nat} {f g : Nat → α} {a : Nat} (h : a ∈ L) : mrg L f g a = f a := if_pos h
theorem mrg_r {α : Type} {L : List Nat} {f g : Nat → α} {a : Nat} (h : a ∉ L) : mrg L f g a = g a := if_neg h
theorem PT.app {U : State} {te : Nat} {L1 L2 : List Nat} {k1 k2 : Nat → Nat} {f1 f2 : Nat → va_E} (h1 : PT U te L1 k1 f1) (h2 : PT U te L2 k2 f2) (hd : ∀ a ∈ L2, a ∉ L1) : PT U te (L1 ++ L2) (mrg L1 k1 k2) (mrg L1 f1 f2) := by
  intro a ha
  rcases List.mem_append.mp ha with h | h
  · exact okc_mono (mrg_l h) (mrg_l h) (fun r hr => ⟨List.mem_append_left _ hr, mrg_l hr⟩) (h1 a h)
  · exact okc_mono (mrg_r (hd a h)) (mrg_r (hd a h)) (fun r hr => ⟨List.mem_append_right _ hr, mrg_r (hd r hr)⟩) (h2 a h)
theorem pl_app {L1 L2 : List Nat} {f1 f2 : Nat → va_E} (hd : ∀ a ∈ L2, a ∉ L1) : va_pl L1 f1 ++ va_pl L2 f2 = va_pl (L1 ++ L2) (mrg L1 f1 f2) := by
  unfold va_pl
  rw [List.map_append]
  congr 1
  · exact List.map_congr_left (fun a ha => by rw [mrg_l ha])
  · exact List.map_congr_left (fun a ha => by rw [mrg_r (hd a ha)])
/-- a list of cells, its kinds beside it, as a pool -/
def lkE : va_W → Nat → va_E
  | [], _ => .inr (0, [])
  | q :: ws, a => if a = q.1 then q.2 else lkE ws a
def lkK : va_W → List Nat → Nat → Nat
  | q :: ws, n :: ks, a => if a = q.1 then n else lkK ws ks a
  | _, _, _ => 99
theorem lkE_at : ∀ {ws : va_W} {A : Nat → Prop}, va_D A ws → ∀ {i : Nat} {a : Nat} {e : va_E}, ws[i]? = some (a, e) → lkE ws a = e := by
  intro ws
  induction ws with
  | nil => intro A _ i a e h; simp at h
  | cons q ws ih =>
    intro A hD i a e h
    unfold lkE
    by_cases hq : a = q.1
    · rw [if_pos hq]
      have := hD.1 i 0 (a, e) q h rfl hq
      subst this
      cases h; rfl
    · rw [if_neg hq]
      cases i with
      | zero => cases h; exact absurd rfl hq
      | succ i =>
        refine ih (A := A) ⟨fun x y p r hx hy e9 => ?_, fun x r hx => hD.2 (x + 1) r hx⟩ (i := i) h
        have := hD.1 (x + 1) (y + 1) p r hx hy e9
        omega
theorem lkK_at : ∀ {ws : va_W} {ks : List Nat} {A : Nat → Prop}, va_D A ws → ∀ {i n : Nat} {a : Nat} {e : va_E}, ws[i]? = some (a, e) → ks[i]? = some n → lkK ws ks a = n := by
  intro ws
  induction ws with
  | nil => intro ks A _ i n a e h; simp at h
  | cons q ws ih =>
    intro ks A hD i n a e h hn
    cases ks with
    | nil => simp at hn
    | cons m ks =>
      unfold lkK
      by_cases hq : a = q.1
      · rw [if_pos hq]
        have := hD.1 i 0 (a, e) q h rfl hq
        subst this
        cases hn; rfl
      · rw [if_neg hq]
        cases i with
        | zero => cases h; exact absurd rfl hq
        | succ i =>
          refine ih (A := A) ⟨fun x y p r hx hy e9 => ?_, fun x r hx => hD.2 (x + 1) r hx⟩ (i := i) h hn
          have := hD.1 (x + 1) (y + 1) p r hx hy e9
          omega
theorem lk_pl {ws : va_W} {A : Nat → Prop} (hD : va_D A ws) : va_pl (ws.map (fun q => q.1)) (lkE ws) = ws := by
  unfold va_pl
  rw [List.map_map]
  apply List.ext_getElem?
  intro i
  rw [List.getElem?_map]
  cases h : ws[i]? with
  | none => rfl
  | some q =>
    obtain ⟨a, e⟩ := q
    show some (a, lkE ws a) = some (a, e)
    rw [lkE_at hD h]
def rfc (e : va_E) (j : Nat) : Nat := match e with
  | .inr (_, fs) => (match fs[j]? with
    | some (.ref b) => b
    | _ => 0)
  | .inl (_, _, .inr (.inr (.inr (.inr q)))) => (q j).getD 0
  | _ => 0
theorem pool_wf {U : State} {te : Nat} {L : List Nat} {k : Nat → Nat} {f : Nat → va_E} {ca : Nat → ClassId} {adK adV : Nat → Nat} (hT : PT U te L k f) (hte : te ∈ L ∧ k te = 9) : kWf (L, k, (fun a j => rfc (f a) j), te, ca, adK, adV) := by
  refine ⟨?_, ?_, ?_, ?_, ?_, ?_, ?_, ?_, ?_, ?_, ?_, ?_, ?_, ?_⟩
  · intro a ha
    obtain ⟨x1, x2, hf9⟩ := oc_0 ha.2 (hT a ha.1)
    exact (by show rfc (f a) 0 ∈ L ∧ k (rfc (f a) 0) = 9; rw [hf9]; exact hte)
  · intro a ha
    obtain ⟨r0, r1, x2, x3, hf9, s0, s1⟩ := oc_1 ha.2 (hT a ha.1)
    exact ⟨(by show rfc (f a) 0 ∈ L ∧ k (rfc (f a) 0) = 22; rw [hf9]; exact s0), (by show rfc (f a) 1 ∈ L ∧ k (rfc (f a) 1) = 27; rw [hf9]; exact s1)⟩
  · intro a ha
    obtain ⟨r0, hf9, s0⟩ := oc_2 ha.2 (hT a ha.1)
    exact (by show rfc (f a) 0 ∈ L ∧ k (rfc (f a) 0) = 23; rw [hf9]; exact s0)
  · intro a ha
    obtain ⟨r0, x1, hf9, s0⟩ := oc_3 ha.2 (hT a ha.1)
    exact (by show rfc (f a) 0 ∈ L ∧ k (rfc (f a) 0) = 5; rw [hf9]; exact s0)
  · intro a ha
    obtain ⟨r0, x1, hf9, s0⟩ := oc_4 ha.2 (hT a ha.1)
    exact (by show rfc (f a) 0 ∈ L ∧ k (rfc (f a) 0) = 28; rw [hf9]; exact s0)
  · intro a ha
    obtain ⟨r0, x1, x2, x3, x4, hf9, s0, s1⟩ := oc_5 ha.2 (hT a ha.1)
    exact (by show rfc (f a) 0 ∈ L ∧ k (rfc (f a) 0) = 24; rw [hf9]; exact s0)
  · intro a ha
    obtain ⟨r1, r2, r3, r4, x5, x6, x7, x8, x9, hf9, s0, s1, s2, s3, s4⟩ := oc_6 ha.2 (hT a ha.1)
    exact ⟨(by show rfc (f a) 0 ∈ L ∧ k (rfc (f a) 0) = 9; rw [hf9]; exact hte), (by show rfc (f a) 1 ∈ L ∧ k (rfc (f a) 1) = 20; rw [hf9]; exact s0), (by show rfc (f a) 2 ∈ L ∧ k (rfc (f a) 2) = 2; rw [hf9]; exact s1), (by show rfc (f a) 3 ∈ L ∧ k (rfc (f a) 3) = 10; rw [hf9]; exact s2), (by show rfc (f a) 4 ∈ L ∧ k (rfc (f a) 4) = 10; rw [hf9]; exact s3)⟩
  · intro a ha
    obtain ⟨r0, x1, hf9, s0⟩ := oc_7 ha.2 (hT a ha.1)
    exact (by show rfc (f a) 0 ∈ L ∧ k (rfc (f a) 0) = 25; rw [hf9]; exact s0)
  · intro a ha
    obtain ⟨x0, r1, x2, x3, x4, x5, x6, r7, x8, x9, x10, x11, x12, x13, x14, x15, x16, x17, hf9, s0, s1⟩ := oc_8 ha.2 (hT a ha.1)
    exact ⟨(by show rfc (f a) 1 ∈ L ∧ k (rfc (f a) 1) = 5; rw [hf9]; exact s0), (by show rfc (f a) 7 ∈ L ∧ k (rfc (f a) 7) = 10; rw [hf9]; exact s1)⟩
  · intro a ha
    obtain ⟨r1, r2, r3, r4, r5, r6, r7, r8, r9, r10, x11, hf9, s0, s1, s2, s3, s4, s5, s6, s7, s8, s9⟩ := oc_11 ha.2 (hT a ha.1)
    exact ⟨(by show rfc (f a) 0 ∈ L ∧ k (rfc (f a) 0) = 9; rw [hf9]; exact hte), (by show rfc (f a) 1 ∈ L ∧ k (rfc (f a) 1) = 7; rw [hf9]; exact s0), (by show rfc (f a) 2 ∈ L ∧ k (rfc (f a) 2) = 3; rw [hf9]; exact s1), (by show rfc (f a) 3 ∈ L ∧ k (rfc (f a) 3) = 6; rw [hf9]; exact s2), (by show rfc (f a) 4 ∈ L ∧ k (rfc (f a) 4) = 6; rw [hf9]; exact s3), (by show rfc (f a) 5 ∈ L ∧ k (rfc (f a) 5) = 0; rw [hf9]; exact s4), (by show rfc (f a) 6 ∈ L ∧ k (rfc (f a) 6) = 0; rw [hf9]; exact s5), (by show rfc (f a) 7 ∈ L ∧ k (rfc (f a) 7) = 21; rw [hf9]; exact s6), (by show rfc (f a) 8 ∈ L ∧ k (rfc (f a) 8) = 26; rw [hf9]; exact s7), (by show rfc (f a) 9 ∈ L ∧ k (rfc (f a) 9) = 1; rw [hf9]; exact s8), (by show rfc (f a) 10 ∈ L ∧ k (rfc (f a) 10) = 4; rw [hf9]; exact s9)⟩
  · intro a ha
    obtain ⟨x0, x1, r2, r3, r4, r5, r6, r7, r8, r9, x10, r11, x12, x13, x14, x15, x16, x17, x18, r19, r20, r21, r22, x23, x24, x25, x26, hf9, s0, s1, s2, s3, s4, s5, s6, s7, s8, s9, s10, s11, s12, s13, s14, s15⟩ := oc_12 ha.2 (hT a ha.1)
    exact ⟨(by show rfc (f a) 2 ∈ L ∧ k (rfc (f a) 2) = 30; rw [hf9]; exact s0), (by show rfc (f a) 3 ∈ L ∧ k (rfc (f a) 3) = 31; rw [hf9]; exact s1), (by show rfc (f a) 4 ∈ L ∧ k (rfc (f a) 4) = 32; rw [hf9]; exact s2), (by show rfc (f a) 5 ∈ L ∧ k (rfc (f a) 5) = 33; rw [hf9]; exact s3), (by show rfc (f a) 6 ∈ L ∧ k (rfc (f a) 6) = 34; rw [hf9]; exact s4), (by show rfc (f a) 7 ∈ L ∧ k (rfc (f a) 7) = 35; rw [hf9]; exact s5), (by show rfc (f a) 8 ∈ L ∧ k (rfc (f a) 8) = 36; rw [hf9]; exact s6), (by show rfc (f a) 9 ∈ L ∧ k (rfc (f a) 9) = 37; rw [hf9]; exact s7), (by show rfc (f a) 11 ∈ L ∧ k (rfc (f a) 11) = 38; rw [hf9]; exact s8), (by show rfc (f a) 19 ∈ L ∧ k (rfc (f a) 19) = 39; rw [hf9]; exact s9), (by show rfc (f a) 20 ∈ L ∧ k (rfc (f a) 20) = 40; rw [hf9]; exact s10), (by show rfc (f a) 21 ∈ L ∧ k (rfc (f a) 21) = 41; rw [hf9]; exact s11), (by show rfc (f a) 22 ∈ L ∧ k (rfc (f a) 22) = 42; rw [hf9]; exact s12)⟩
  · intro a i ha hi
    obtain ⟨c, q, hf9, s0, s1⟩ := oc_20 ha.2 (hT a ha.1)
    obtain ⟨r, e1, e2, e3⟩ := s1 i hi
    show rfc (f a) i ∈ L ∧ k (rfc (f a) i) = 8
    rw [hf9]
    show (q i).getD 0 ∈ L ∧ k ((q i).getD 0) = 8
    rw [e1]
    exact ⟨e2, e3⟩
  · intro a i ha hi
    obtain ⟨c, q, hf9, s0, s1⟩ := oc_21 ha.2 (hT a ha.1)
    obtain ⟨r, e1, e2, e3⟩ := s1 i hi
    show rfc (f a) i ∈ L ∧ k (rfc (f a) i) = 6
    rw [hf9]
    show (q i).getD 0 ∈ L ∧ k ((q i).getD 0) = 6
    rw [e1]
    exact ⟨e2, e3⟩
  · intro a i ha hi
    obtain ⟨c, q, hf9, s0, s1⟩ := oc_22 ha.2 (hT a ha.1)
    obtain ⟨r, e1, e2, e3⟩ := s1 i hi
    show rfc (f a) i ∈ L ∧ k (rfc (f a) i) = 6
    rw [hf9]
    show (q i).getD 0 ∈ L ∧ k ((q i).getD 0) = 6
    rw [e1]
    exact ⟨e2, e3⟩
theorem pool_ok1 {U : State} {te : Nat} {L : List Nat} {k : Nat → Nat} {f : Nat → va_E} {ca : Nat → ClassId} {adK adV : Nat → Nat} {a : Nat} (hc0 : KA U (ca 0) .int) (hc1 : KA U (ca 1) .long) (hc2 : KA U (ca 2) .byte) (hc3 : KA U (ca 3) .boolean) (hc4 : KA U (ca 4) (.object "DeadlineShare$Task")) (hc5 : KA U (ca 5) (.object "DeadlineShare$State")) (h : okc U te L k f a) : ok (L, k, (fun a j => rfc (f a) j), te, ca, adK, adV) a (f a) := by
  have hk9 : k a = 0 ∨ k a = 1 ∨ k a = 2 ∨ k a = 3 ∨ k a = 4 ∨ k a = 5 ∨ k a = 6 ∨ k a = 7 ∨ k a = 8 ∨ k a = 9 ∨ k a = 10 ∨ k a = 11 ∨ k a = 12 ∨ k a = 20 ∨ k a = 21 ∨ k a = 22 ∨ k a = 23 ∨ k a = 24 ∨ k a = 25 ∨ k a = 26 ∨ k a = 27 ∨ k a = 28 ∨ k a = 30 ∨ k a = 31 ∨ k a = 32 ∨ k a = 33 ∨ k a = 34 ∨ k a = 35 ∨ k a = 36 ∨ k a = 37 ∨ k a = 38 ∨ k a = 39 ∨ k a = 40 ∨ k a = 41 ∨ k a = 42 := by
    unfold okc at h
    split at h <;> first | exact False.elim h | (rename_i h9; rw [h9]; decide)
  rcases hk9 with hk9 | hk9 | hk9 | hk9 | hk9 | hk9 | hk9 | hk9 | hk9 | hk9 | hk9 | hk9 | hk9 | hk9 | hk9 | hk9 | hk9 | hk9 | hk9 | hk9 | hk9 | hk9 | hk9 | hk9 | hk9 | hk9 | hk9 | hk9 | hk9 | hk9 | hk9 | hk9 | hk9 | hk9 | hk9
  · obtain ⟨x1, x2, hf9⟩ := oc_0 hk9 h
    unfold ok
    rw [show gk (L, k, (fun a j => rfc (f a) j), te, ca, adK, adV) a = 0 from hk9]
    have e0 : gr (L, k, (fun a j => rfc (f a) j), te, ca, adK, adV) a 0 = te := by show rfc (f a) 0 = _; rw [hf9]; rfl
    exact ⟨x1, x2, (by rw [e0]; exact hf9)⟩
  · obtain ⟨r0, r1, x2, x3, hf9, s0, s1⟩ := oc_1 hk9 h
    unfold ok
    rw [show gk (L, k, (fun a j => rfc (f a) j), te, ca, adK, adV) a = 1 from hk9]
    have e0 : gr (L, k, (fun a j => rfc (f a) j), te, ca, adK, adV) a 0 = r0 := by show rfc (f a) 0 = _; rw [hf9]; rfl
    have e1 : gr (L, k, (fun a j => rfc (f a) j), te, ca, adK, adV) a 1 = r1 := by show rfc (f a) 1 = _; rw [hf9]; rfl
    exact ⟨x2, x3, (by rw [e0, e1]; exact hf9)⟩
  · obtain ⟨r0, hf9, s0⟩ := oc_2 hk9 h
    unfold ok
    rw [show gk (L, k, (fun a j => rfc (f a) j), te, ca, adK, adV) a = 2 from hk9]
    have e0 : gr (L, k, (fun a j => rfc (f a) j), te, ca, adK, adV) a 0 = r0 := by show rfc (f a) 0 = _; rw [hf9]; rfl
    exact (show f a = .inr (2, [.ref (gr (L, k, (fun a j => rfc (f a) j), te, ca, adK, adV) a 0)]) from (by rw [e0]; exact hf9))
  · obtain ⟨r0, x1, hf9, s0⟩ := oc_3 hk9 h
    unfold ok
    rw [show gk (L, k, (fun a j => rfc (f a) j), te, ca, adK, adV) a = 3 from hk9]
    have e0 : gr (L, k, (fun a j => rfc (f a) j), te, ca, adK, adV) a 0 = r0 := by show rfc (f a) 0 = _; rw [hf9]; rfl
    exact ⟨x1, (by rw [e0]; exact hf9)⟩
  · obtain ⟨r0, x1, hf9, s0⟩ := oc_4 hk9 h
    unfold ok
    rw [show gk (L, k, (fun a j => rfc (f a) j), te, ca, adK, adV) a = 4 from hk9]
    have e0 : gr (L, k, (fun a j => rfc (f a) j), te, ca, adK, adV) a 0 = r0 := by show rfc (f a) 0 = _; rw [hf9]; rfl
    exact ⟨x1, (by rw [e0]; exact hf9)⟩
  · obtain ⟨r0, x1, x2, x3, x4, hf9, s0, s1⟩ := oc_5 hk9 h
    unfold ok
    rw [show gk (L, k, (fun a j => rfc (f a) j), te, ca, adK, adV) a = 5 from hk9]
    have e0 : gr (L, k, (fun a j => rfc (f a) j), te, ca, adK, adV) a 0 = r0 := by show rfc (f a) 0 = _; rw [hf9]; rfl
    exact ⟨x1, x2, x3, x4, (by rw [e0]; exact hf9), s1.1, s1.2⟩
  · obtain ⟨r1, r2, r3, r4, x5, x6, x7, x8, x9, hf9, s0, s1, s2, s3, s4⟩ := oc_6 hk9 h
    unfold ok
    rw [show gk (L, k, (fun a j => rfc (f a) j), te, ca, adK, adV) a = 6 from hk9]
    have e0 : gr (L, k, (fun a j => rfc (f a) j), te, ca, adK, adV) a 0 = te := by show rfc (f a) 0 = _; rw [hf9]; rfl
    have e1 : gr (L, k, (fun a j => rfc (f a) j), te, ca, adK, adV) a 1 = r1 := by show rfc (f a) 1 = _; rw [hf9]; rfl
    have e2 : gr (L, k, (fun a j => rfc (f a) j), te, ca, adK, adV) a 2 = r2 := by show rfc (f a) 2 = _; rw [hf9]; rfl
    have e3 : gr (L, k, (fun a j => rfc (f a) j), te, ca, adK, adV) a 3 = r3 := by show rfc (f a) 3 = _; rw [hf9]; rfl
    have e4 : gr (L, k, (fun a j => rfc (f a) j), te, ca, adK, adV) a 4 = r4 := by show rfc (f a) 4 = _; rw [hf9]; rfl
    exact ⟨x5, x6, x7, x8, x9, (by rw [e0, e1, e2, e3, e4]; exact hf9), s4.1, s4.2⟩
  · obtain ⟨r0, x1, hf9, s0⟩ := oc_7 hk9 h
    unfold ok
    rw [show gk (L, k, (fun a j => rfc (f a) j), te, ca, adK, adV) a = 7 from hk9]
    have e0 : gr (L, k, (fun a j => rfc (f a) j), te, ca, adK, adV) a 0 = r0 := by show rfc (f a) 0 = _; rw [hf9]; rfl
    exact ⟨x1, (by rw [e0]; exact hf9)⟩
  · obtain ⟨x0, r1, x2, x3, x4, x5, x6, r7, x8, x9, x10, x11, x12, x13, x14, x15, x16, x17, hf9, s0, s1⟩ := oc_8 hk9 h
    unfold ok
    rw [show gk (L, k, (fun a j => rfc (f a) j), te, ca, adK, adV) a = 8 from hk9]
    have e1 : gr (L, k, (fun a j => rfc (f a) j), te, ca, adK, adV) a 1 = r1 := by show rfc (f a) 1 = _; rw [hf9]; rfl
    have e7 : gr (L, k, (fun a j => rfc (f a) j), te, ca, adK, adV) a 7 = r7 := by show rfc (f a) 7 = _; rw [hf9]; rfl
    exact ⟨x0, x2, x3, x4, x5, x6, x8, x9, x10, x11, x12, x13, x14, x15, x16, x17, (by rw [e1, e7]; exact hf9)⟩
  · obtain ⟨x0, x1, x2, hf9⟩ := oc_9 hk9 h
    unfold ok
    rw [show gk (L, k, (fun a j => rfc (f a) j), te, ca, adK, adV) a = 9 from hk9]
    exact ⟨x0, x1, x2, hf9⟩
  · obtain ⟨x0, x1, hf9⟩ := oc_10 hk9 h
    unfold ok
    rw [show gk (L, k, (fun a j => rfc (f a) j), te, ca, adK, adV) a = 10 from hk9]
    exact ⟨x0, x1, hf9⟩
  · obtain ⟨r1, r2, r3, r4, r5, r6, r7, r8, r9, r10, x11, hf9, s0, s1, s2, s3, s4, s5, s6, s7, s8, s9⟩ := oc_11 hk9 h
    unfold ok
    rw [show gk (L, k, (fun a j => rfc (f a) j), te, ca, adK, adV) a = 11 from hk9]
    have e0 : gr (L, k, (fun a j => rfc (f a) j), te, ca, adK, adV) a 0 = te := by show rfc (f a) 0 = _; rw [hf9]; rfl
    have e1 : gr (L, k, (fun a j => rfc (f a) j), te, ca, adK, adV) a 1 = r1 := by show rfc (f a) 1 = _; rw [hf9]; rfl
    have e2 : gr (L, k, (fun a j => rfc (f a) j), te, ca, adK, adV) a 2 = r2 := by show rfc (f a) 2 = _; rw [hf9]; rfl
    have e3 : gr (L, k, (fun a j => rfc (f a) j), te, ca, adK, adV) a 3 = r3 := by show rfc (f a) 3 = _; rw [hf9]; rfl
    have e4 : gr (L, k, (fun a j => rfc (f a) j), te, ca, adK, adV) a 4 = r4 := by show rfc (f a) 4 = _; rw [hf9]; rfl
    have e5 : gr (L, k, (fun a j => rfc (f a) j), te, ca, adK, adV) a 5 = r5 := by show rfc (f a) 5 = _; rw [hf9]; rfl
    have e6 : gr (L, k, (fun a j => rfc (f a) j), te, ca, adK, adV) a 6 = r6 := by show rfc (f a) 6 = _; rw [hf9]; rfl
    have e7 : gr (L, k, (fun a j => rfc (f a) j), te, ca, adK, adV) a 7 = r7 := by show rfc (f a) 7 = _; rw [hf9]; rfl
    have e8 : gr (L, k, (fun a j => rfc (f a) j), te, ca, adK, adV) a 8 = r8 := by show rfc (f a) 8 = _; rw [hf9]; rfl
    have e9 : gr (L, k, (fun a j => rfc (f a) j), te, ca, adK, adV) a 9 = r9 := by show rfc (f a) 9 = _; rw [hf9]; rfl
    have e10 : gr (L, k, (fun a j => rfc (f a) j), te, ca, adK, adV) a 10 = r10 := by show rfc (f a) 10 = _; rw [hf9]; rfl
    exact ⟨x11, (by rw [e0, e1, e2, e3, e4, e5, e6, e7, e8, e9, e10]; exact hf9)⟩
  · obtain ⟨x0, x1, r2, r3, r4, r5, r6, r7, r8, r9, x10, r11, x12, x13, x14, x15, x16, x17, x18, r19, r20, r21, r22, x23, x24, x25, x26, hf9, s0, s1, s2, s3, s4, s5, s6, s7, s8, s9, s10, s11, s12, s13, s14, s15⟩ := oc_12 hk9 h
    unfold ok
    rw [show gk (L, k, (fun a j => rfc (f a) j), te, ca, adK, adV) a = 12 from hk9]
    have e2 : gr (L, k, (fun a j => rfc (f a) j), te, ca, adK, adV) a 2 = r2 := by show rfc (f a) 2 = _; rw [hf9]; rfl
    have e3 : gr (L, k, (fun a j => rfc (f a) j), te, ca, adK, adV) a 3 = r3 := by show rfc (f a) 3 = _; rw [hf9]; rfl
    have e4 : gr (L, k, (fun a j => rfc (f a) j), te, ca, adK, adV) a 4 = r4 := by show rfc (f a) 4 = _; rw [hf9]; rfl
    have e5 : gr (L, k, (fun a j => rfc (f a) j), te, ca, adK, adV) a 5 = r5 := by show rfc (f a) 5 = _; rw [hf9]; rfl
    have e6 : gr (L, k, (fun a j => rfc (f a) j), te, ca, adK, adV) a 6 = r6 := by show rfc (f a) 6 = _; rw [hf9]; rfl
    have e7 : gr (L, k, (fun a j => rfc (f a) j), te, ca, adK, adV) a 7 = r7 := by show rfc (f a) 7 = _; rw [hf9]; rfl
    have e8 : gr (L, k, (fun a j => rfc (f a) j), te, ca, adK, adV) a 8 = r8 := by show rfc (f a) 8 = _; rw [hf9]; rfl
    have e9 : gr (L, k, (fun a j => rfc (f a) j), te, ca, adK, adV) a 9 = r9 := by show rfc (f a) 9 = _; rw [hf9]; rfl
    have e11 : gr (L, k, (fun a j => rfc (f a) j), te, ca, adK, adV) a 11 = r11 := by show rfc (f a) 11 = _; rw [hf9]; rfl
    have e19 : gr (L, k, (fun a j => rfc (f a) j), te, ca, adK, adV) a 19 = r19 := by show rfc (f a) 19 = _; rw [hf9]; rfl
    have e20 : gr (L, k, (fun a j => rfc (f a) j), te, ca, adK, adV) a 20 = r20 := by show rfc (f a) 20 = _; rw [hf9]; rfl
    have e21 : gr (L, k, (fun a j => rfc (f a) j), te, ca, adK, adV) a 21 = r21 := by show rfc (f a) 21 = _; rw [hf9]; rfl
    have e22 : gr (L, k, (fun a j => rfc (f a) j), te, ca, adK, adV) a 22 = r22 := by show rfc (f a) 22 = _; rw [hf9]; rfl
    exact ⟨x0, x1, x10, x12, x13, x14, x15, x16, x17, x18, x23, x24, x25, x26, (by rw [e2, e3, e4, e5, e6, e7, e8, e9, e11, e19, e20, e21, e22]; exact hf9), s13.1, s13.2, s14.1, s14.2, s15.1, s15.2⟩
  · obtain ⟨c, q, hf9, s0, s1⟩ := oc_20 hk9 h
    unfold ok
    rw [show gk (L, k, (fun a j => rfc (f a) j), te, ca, adK, adV) a = 20 from hk9]
    have ec : c = ca 4 := KA_inj4 s0 hc4
    subst ec
    exact ⟨q, hf9, fun i hi => by obtain ⟨r, e1, _⟩ := s1 i hi; rw [e1]; show some r = some (rfc (f a) i); rw [hf9]; show some r = some ((q i).getD 0); rw [e1]; rfl⟩
  · obtain ⟨c, q, hf9, s0, s1⟩ := oc_21 hk9 h
    unfold ok
    rw [show gk (L, k, (fun a j => rfc (f a) j), te, ca, adK, adV) a = 21 from hk9]
    have ec : c = ca 5 := KA_inj5 s0 hc5
    subst ec
    exact ⟨q, hf9, fun i hi => by obtain ⟨r, e1, _⟩ := s1 i hi; rw [e1]; show some r = some (rfc (f a) i); rw [hf9]; show some r = some ((q i).getD 0); rw [e1]; rfl⟩
  · obtain ⟨c, q, hf9, s0, s1⟩ := oc_22 hk9 h
    unfold ok
    rw [show gk (L, k, (fun a j => rfc (f a) j), te, ca, adK, adV) a = 22 from hk9]
    have ec : c = ca 5 := KA_inj5 s0 hc5
    subst ec
    exact ⟨q, hf9, fun i hi => by obtain ⟨r, e1, _⟩ := s1 i hi; rw [e1]; show some r = some (rfc (f a) i); rw [hf9]; show some r = some ((q i).getD 0); rw [e1]; rfl⟩
  · obtain ⟨c, q, hf9, s0⟩ := oc_23 hk9 h
    unfold ok
    rw [show gk (L, k, (fun a j => rfc (f a) j), te, ca, adK, adV) a = 23 from hk9]
    have ec : c = ca 1 := KA_inj1 s0 hc1
    subst ec
    exact ⟨q, hf9⟩
  · obtain ⟨c, q, hf9, s0⟩ := oc_24 hk9 h
    unfold ok
    rw [show gk (L, k, (fun a j => rfc (f a) j), te, ca, adK, adV) a = 24 from hk9]
    have ec : c = ca 0 := KA_inj0 s0 hc0
    subst ec
    exact ⟨q, hf9⟩
  · obtain ⟨c, q, hf9, s0⟩ := oc_25 hk9 h
    unfold ok
    rw [show gk (L, k, (fun a j => rfc (f a) j), te, ca, adK, adV) a = 25 from hk9]
    have ec : c = ca 2 := KA_inj2 s0 hc2
    subst ec
    exact ⟨q, hf9⟩
  · obtain ⟨c, q, hf9, s0⟩ := oc_26 hk9 h
    unfold ok
    rw [show gk (L, k, (fun a j => rfc (f a) j), te, ca, adK, adV) a = 26 from hk9]
    have ec : c = ca 3 := KA_inj3 s0 hc3
    subst ec
    exact ⟨q, hf9⟩
  · obtain ⟨c, q, hf9, s0⟩ := oc_27 hk9 h
    unfold ok
    rw [show gk (L, k, (fun a j => rfc (f a) j), te, ca, adK, adV) a = 27 from hk9]
    have ec : c = ca 0 := KA_inj0 s0 hc0
    subst ec
    exact ⟨q, hf9⟩
  · obtain ⟨c, q, hf9, s0⟩ := oc_28 hk9 h
    unfold ok
    rw [show gk (L, k, (fun a j => rfc (f a) j), te, ca, adK, adV) a = 28 from hk9]
    have ec : c = ca 0 := KA_inj0 s0 hc0
    subst ec
    exact ⟨q, hf9⟩
  · obtain ⟨c, q, hf9, s0⟩ := oc_30 hk9 h
    unfold ok
    rw [show gk (L, k, (fun a j => rfc (f a) j), te, ca, adK, adV) a = 30 from hk9]
    have ec : c = ca 0 := KA_inj0 s0 hc0
    subst ec
    exact ⟨q, hf9⟩
  · obtain ⟨c, q, hf9, s0⟩ := oc_31 hk9 h
    unfold ok
    rw [show gk (L, k, (fun a j => rfc (f a) j), te, ca, adK, adV) a = 31 from hk9]
    have ec : c = ca 0 := KA_inj0 s0 hc0
    subst ec
    exact ⟨q, hf9⟩
  · obtain ⟨c, q, hf9, s0⟩ := oc_32 hk9 h
    unfold ok
    rw [show gk (L, k, (fun a j => rfc (f a) j), te, ca, adK, adV) a = 32 from hk9]
    have ec : c = ca 1 := KA_inj1 s0 hc1
    subst ec
    exact ⟨q, hf9⟩
  · obtain ⟨c, q, hf9, s0⟩ := oc_33 hk9 h
    unfold ok
    rw [show gk (L, k, (fun a j => rfc (f a) j), te, ca, adK, adV) a = 33 from hk9]
    have ec : c = ca 1 := KA_inj1 s0 hc1
    subst ec
    exact ⟨q, hf9⟩
  · obtain ⟨c, q, hf9, s0⟩ := oc_34 hk9 h
    unfold ok
    rw [show gk (L, k, (fun a j => rfc (f a) j), te, ca, adK, adV) a = 34 from hk9]
    have ec : c = ca 1 := KA_inj1 s0 hc1
    subst ec
    exact ⟨q, hf9⟩
  · obtain ⟨c, q, hf9, s0⟩ := oc_35 hk9 h
    unfold ok
    rw [show gk (L, k, (fun a j => rfc (f a) j), te, ca, adK, adV) a = 35 from hk9]
    have ec : c = ca 1 := KA_inj1 s0 hc1
    subst ec
    exact ⟨q, hf9⟩
  · obtain ⟨c, q, hf9, s0⟩ := oc_36 hk9 h
    unfold ok
    rw [show gk (L, k, (fun a j => rfc (f a) j), te, ca, adK, adV) a = 36 from hk9]
    have ec : c = ca 3 := KA_inj3 s0 hc3
    subst ec
    exact ⟨q, hf9⟩
  · obtain ⟨c, q, hf9, s0⟩ := oc_37 hk9 h
    unfold ok
    rw [show gk (L, k, (fun a j => rfc (f a) j), te, ca, adK, adV) a = 37 from hk9]
    have ec : c = ca 0 := KA_inj0 s0 hc0
    subst ec
    exact ⟨q, hf9⟩
  · obtain ⟨c, q, hf9, s0⟩ := oc_38 hk9 h
    unfold ok
    rw [show gk (L, k, (fun a j => rfc (f a) j), te, ca, adK, adV) a = 38 from hk9]
    have ec : c = ca 0 := KA_inj0 s0 hc0
    subst ec
    exact ⟨q, hf9⟩
  · obtain ⟨c, q, hf9, s0, s1⟩ := oc_39 hk9 h
    unfold ok
    rw [show gk (L, k, (fun a j => rfc (f a) j), te, ca, adK, adV) a = 39 from hk9]
    have ec : c = ca 1 := KA_inj1 s0 hc1
    subst ec
    exact ⟨q, hf9, s1⟩
  · obtain ⟨c, q, hf9, s0, s1⟩ := oc_40 hk9 h
    unfold ok
    rw [show gk (L, k, (fun a j => rfc (f a) j), te, ca, adK, adV) a = 40 from hk9]
    have ec : c = ca 0 := KA_inj0 s0 hc0
    subst ec
    exact ⟨q, hf9, s1⟩
  · obtain ⟨c, q, hf9, s0, s1⟩ := oc_41 hk9 h
    unfold ok
    rw [show gk (L, k, (fun a j => rfc (f a) j), te, ca, adK, adV) a = 41 from hk9]
    have ec : c = ca 0 := KA_inj0 s0 hc0
    subst ec
    exact ⟨q, hf9, s1⟩
  · obtain ⟨c, q, hf9, s0⟩ := oc_42 hk9 h
    unfold ok
    rw [show gk (L, k, (fun a j => rfc (f a) j), te, ca, adK, adV) a = 42 from hk9]
    have ec : c = ca 0 := KA_inj0 s0 hc0
    subst ec
    exact ⟨q, hf9⟩
theorem mem_ix {ws : va_W} {a : Nat} (h : a ∈ ws.map (fun q => q.1)) : ∃ (i : Nat) (e : va_E), ws[i]? = some (a, e) := by
  obtain ⟨q, hq, e⟩ := List.mem_map.mp h
  obtain ⟨i, hi⟩ := List.getElem?_of_mem hq
  exact ⟨i, q.2, by rw [hi, ← e]⟩
theorem pl_ix {L : List Nat} {f : Nat → va_E} {a : Nat} (h : a ∈ L) : ∃ i : Nat, (va_pl L f)[i]? = some (a, f a) := va_pl_get (X := []) (f := f) h
theorem dis_of {A : Nat → Prop} {wr w1 : va_W} {L : List Nat} {f : Nat → va_E} (hD : va_D A ((wr ++ w1) ++ va_pl L f)) : ∀ a ∈ L, a ∉ w1.map (fun q => q.1) := by
  intro a ha hb
  obtain ⟨i, e, hi⟩ := mem_ix hb
  obtain ⟨j, hj⟩ := pl_ix (f := f) ha
  have li : i < w1.length := (List.getElem?_eq_some_iff.mp hi).1
  have h1 : ((wr ++ w1) ++ va_pl L f)[wr.length + i]? = some (a, e) := by
    rw [List.getElem?_append_left (by rw [List.length_append]; omega), List.getElem?_append_right (by omega), show wr.length + i - wr.length = i by omega]
    exact hi
  have h2 : ((wr ++ w1) ++ va_pl L f)[(wr ++ w1).length + j]? = some (a, f a) := by
    rw [List.getElem?_append_right (by omega), show (wr ++ w1).length + j - (wr ++ w1).length = j by omega]
    exact hj
  have := hD.1 _ _ _ _ h1 h2 rfl
  rw [List.length_append] at this
  omega
/-- cells that refer to the pool and to each other -/
theorem absorb3 {D : va_G} {cl : List vw_C} {A : Nat → Prop} {H : Heap} {U : State} {te : Nat} {w1 : va_W} {L : List Nat} {k : Nat → Nat} {f : Nat → va_E} (ks : List Nat) (hP : va_P D cl (w1 ++ va_pl L f) H) (hD : va_D A (w1 ++ va_pl L f)) (hD1 : va_D A w1) (hT : PT U te L k f) (hT1 : ∀ (L1 : List Nat) (k1 : Nat → Nat) (f1 : Nat → va_E), (∀ a n : Nat, a ∈ L ∧ k a = n → a ∈ L1 ∧ k1 a = n) → (∀ (i a n : Nat) (e : va_E), w1[i]? = some (a, e) → ks[i]? = some n → (a ∈ L1 ∧ k1 a = n) ∧ f1 a = e) → ∀ a ∈ w1.map (fun q => q.1), okc U te L1 k1 f1 a) : ∃ (L1 : List Nat) (k1 : Nat → Nat) (f1 : Nat → va_E), va_P D cl (va_pl L1 f1) H ∧ va_D A (va_pl L1 f1) ∧ PT U te L1 k1 f1 ∧ (∀ a n : Nat, a ∈ L ∧ k a = n → a ∈ L1 ∧ k1 a = n) ∧ (∀ (i a n : Nat) (e : va_E), w1[i]? = some (a, e) → ks[i]? = some n → (a ∈ L1 ∧ k1 a = n) ∧ f1 a = e) ∧ ∀ a ∈ L, f1 a = f a := by
  have hd : ∀ a ∈ L, a ∉ w1.map (fun q => q.1) := dis_of (wr := []) (w1 := w1) hD
  have e1 : w1 ++ va_pl L f = va_pl (w1.map (fun q => q.1) ++ L) (mrg (w1.map (fun q => q.1)) (lkE w1) f) := by
    rw [← pl_app hd, lk_pl hD1]
  rw [e1] at hP hD
  have up : ∀ a n : Nat, a ∈ L ∧ k a = n → a ∈ w1.map (fun q => q.1) ++ L ∧ mrg (w1.map (fun q => q.1)) (lkK w1 ks) k a = n := fun a n h => ⟨List.mem_append_right _ h.1, (mrg_r (hd a h.1)).trans h.2⟩
  have inn : ∀ (i a n : Nat) (e : va_E), w1[i]? = some (a, e) → ks[i]? = some n → (a ∈ w1.map (fun q => q.1) ++ L ∧ mrg (w1.map (fun q => q.1)) (lkK w1 ks) k a = n) ∧ mrg (w1.map (fun q => q.1)) (lkE w1) f a = e := fun i a n e hi hn => by
    have hm : a ∈ w1.map (fun q => q.1) := List.mem_map.mpr ⟨(a, e), List.mem_of_getElem? hi, rfl⟩
    exact ⟨⟨List.mem_append_left _ hm, (mrg_l hm).trans (lkK_at hD1 hi hn)⟩, (mrg_l hm).trans (lkE_at hD1 hi)⟩
  refine ⟨_, _, _, hP, hD, fun a ha => ?_, up, inn, fun a ha => mrg_r (hd a ha)⟩
  rcases List.mem_append.mp ha with h | h
  · exact hT1 _ _ _ up inn a h
  · exact okc_mono (mrg_r (hd a h)) (mrg_r (hd a h)) (fun r hr => ⟨List.mem_append_right _ hr, mrg_r (hd r hr)⟩) (hT a h)
/-- a callee's pool beside mine -/
theorem joinpool {D : va_G} {cl : List vw_C} {A : Nat → Prop} {H : Heap} {U : State} {te : Nat} {wr : va_W} {L L2 : List Nat} {k k2 : Nat → Nat} {f f2 : Nat → va_E} (hP : va_P D cl ((wr ++ va_pl L2 f2) ++ va_pl L f) H) (hD : va_D A ((wr ++ va_pl L2 f2) ++ va_pl L f)) (hT : PT U te L k f) (hT2 : PT U te L2 k2 f2) : ∃ (L1 : List Nat) (k1 : Nat → Nat) (f1 : Nat → va_E), va_P D cl (wr ++ va_pl L1 f1) H ∧ va_D A (wr ++ va_pl L1 f1) ∧ PT U te L1 k1 f1 ∧ (∀ a n : Nat, a ∈ L ∧ k a = n → a ∈ L1 ∧ k1 a = n) ∧ ∀ a n : Nat, a ∈ L2 ∧ k2 a = n → a ∈ L1 ∧ k1 a = n := by
  have hd : ∀ a ∈ L, a ∉ L2 := fun a ha hb => by
    refine dis_of hD a ha ?_
    rw [show (va_pl L2 f2).map (fun q => q.1) = L2 by unfold va_pl; rw [List.map_map]; exact List.map_id _]
    exact hb
  have e1 : (wr ++ va_pl L2 f2) ++ va_pl L f = wr ++ va_pl (L2 ++ L) (mrg L2 f2 f) := by
    rw [List.append_assoc, pl_app hd]
  rw [e1] at hP hD
  exact ⟨_, _, _, hP, hD, PT.app hT2 hT hd, fun a n h => ⟨List.mem_append_right _ h.1, (mrg_r (hd a h.1)).trans h.2⟩, fun a n h => ⟨List.mem_append_left _ h.1, (mrg_l h.1).trans h.2⟩⟩
theorem pl_obj_8 {U : State} {te : Nat} {X : va_W} {L : List Nat} {k : Nat → Nat} {f : Nat → va_E} {a : Nat} (hT : PT U te L k f) (hm : a ∈ L ∧ k a = 8) : ∃ (i : Nat) (fs : List Value), (X ++ va_pl L f)[i]? = some (a, .inr (8, fs)) := by
  obtain ⟨i, hi⟩ := va_pl_get (X := X) (f := f) hm.1
  have h := oc_8 hm.2 (hT a hm.1)
  obtain ⟨x0, r1, x2, x3, x4, x5, x6, r7, x8, x9, x10, x11, x12, x13, x14, x15, x16, x17, hf9, s0, s1⟩ := h
  rw [hf9] at hi
  exact ⟨i, _, hi⟩
theorem pl_obj_6 {U : State} {te : Nat} {X : va_W} {L : List Nat} {k : Nat → Nat} {f : Nat → va_E} {a : Nat} (hT : PT U te L k f) (hm : a ∈ L ∧ k a = 6) : ∃ (i : Nat) (fs : List Value), (X ++ va_pl L f)[i]? = some (a, .inr (6, fs)) := by
  obtain ⟨i, hi⟩ := va_pl_get (X := X) (f := f) hm.1
  have h := oc_6 hm.2 (hT a hm.1)
  obtain ⟨r1, r2, r3, r4, x5, x6, x7, x8, x9, hf9, s0, s1, s2, s3, s4⟩ := h
  rw [hf9] at hi
  exact ⟨i, _, hi⟩
theorem nopool {U : State} {te : Nat} : ∃ (L : List Nat) (k : Nat → Nat) (f : Nat → va_E), PT U te L k f ∧ va_pl L f = [] := ⟨[], fun _ => 0, fun _ => .inr (0, []), fun a h => absurd h List.not_mem_nil, rfl⟩
theorem rk_new : RowOK (vp_updL (vp_updL (fun _ => 0) (Int32.toNatClampNeg 3) (-1)) (Int32.toNatClampNeg 4) (-1)) := by
  rw [show Int32.toNatClampNeg 3 = 3 by decide, show Int32.toNatClampNeg 4 = 4 by decide]
  have e : ∀ i : Nat, i ≠ 3 → i ≠ 4 → vp_updL (vp_updL (fun _ => 0) 3 (-1)) 4 (-1) i = 0 := fun i h3 h4 => (pk_uLn h4).trans (pk_uLn h3)
  have z : Int64.toInt 0 = 0 := by decide
  have m : Int64.toInt (-1) = -1 := by decide
  refine ⟨by rw [e 0 (by omega) (by omega), z]; omega, by rw [e 1 (by omega) (by omega), z]; omega, by rw [pk_uLn (by omega), pk_uLs, m]; omega, by rw [pk_uLs, m, e 0 (by omega) (by omega), z]; omega, by rw [e 5 (by omega) (by omega), z]; omega, fun t ht => ?_, fun l hl => ?_⟩
  · refine ⟨by rw [e _ (by omega) (by omega), e 0 (by omega) (by omega), z]; omega, by rw [e _ (by omega) (by omega), z]; omega, by rw [e _ (by omega) (by omega), z]; omega, by rw [e _ (by omega) (by omega), z]; omega, by rw [e (6 + 43 * t + 41) (by omega) (by omega), z]; omega, fun k hk => ?_⟩
    rw [e (6 + 43 * t + 16 + k) (by omega) (by omega), e (6 + 43 * t + 13) (by omega) (by omega), z]
    omega
  · rw [e 5 (by omega) (by omega), z] at hl
    omega
