theorem iw_X10_set_X10 : ∀ w ∈ u_ws RX10 TX10 2, w ∈ wsX10_set := by decide +kernel
set_option maxHeartbeats 4000000 in
set_option maxRecDepth 100000 in
theorem c_X10_set0 (l : Launch) (dC : Nat → ClassId) (dI : Nat → Nat → Nat) (h0 : Nat) (sz : Nat) : Met l yX10_set wsX10_set ({ frames := 0, cells := 0, slots := 0, locals := 0 } : Room) (va_Pc [.ref h0, .long 0] (fun U => U.heap.size = sz ∧ va_P (dC, dI) vwCl [(h0, .inr (10, [.long 0, .long 0]))] U.heap ∧ va_K (dC, dI) vwCl [] U ∧ va_D (fun _ => True) [(h0, .inr (10, [.long 0, .long 0]))])) (va_Qv (fun (_ : Unit) => True) (fun (_ : Unit) t => va_P (dC, dI) vwCl [(h0, .inr (10, [.long 0, .long 0]))] t.heap ∧ va_K (dC, dI) vwCl [] t ∧ va_D (va_A [(h0, .inr (10, [.long 0, .long 0]))] sz) [(h0, .inr (10, [.long 0, .long 0]))]) (va_A [(h0, .inr (10, [.long 0, .long 0]))] sz)) 0 0 (va_A [(h0, .inr (10, [.long 0, .long 0]))] sz) := by
  refine Met.ofW (cc := cX10_set) (maxL := 3) (ret := none) (by decide) rfl ?_
  intro p e s m args below meth c s₁ B hml hv
  obtain ⟨rfl, hsz, hP, hK, hD0⟩ := hv
  have hx := B.exec
  have hb := B.bytes
  have hr := B.returns
  have hts := atoms_spec (ws := wsX10_set) B.pre
  have hown : s.vm.findClass RX10 = some m.cls := findClass_of_methodNamed B.named
  have hlocks := B.notSynchronized
  subst hsz
  have hD := hD0.self (sz := s.heap.size)
  obtain ⟨A, hAe⟩ : ∃ A, A = va_A [(h0, .inr (10, [.long 0, .long 0]))] s.heap.size := ⟨_, rfl⟩
  rw [← hAe] at hD ⊢
  have hA : ∀ q : Nat, s.heap.size ≤ q → A q := fun q h => by rw [hAe]; exact Or.inr h
  have hS : va_S A s.heap s.heap [] := va_S.rf
  have hP : va_P (dC, dI) vwCl [(h0, .inr (10, [.long 0, .long 0]))] s.heap := hP
  have hl := lv_entry ([.ref h0, .long 0]) (n := 3) (Nat.le_of_ble_eq_true rfl)
  rw [lg_entry_eq]
  generalize (lg_sl ([.ref h0, .long 0]) ++ List.replicate (3 - (lg_sl ([.ref h0, .long 0])).length) Slot.unset).toArray = ls at hl ⊢
  have hl : lv_has ls 3 [(0, .ref h0), (1, .long 0)] := hl
  refine lv_aload_n hx hb dX10_set_0 rfl (lv_at hl 0 rfl) ?_
  refine lv_lload_n hx hb dX10_set_1 rfl (lv_at hl 1 rfl) ?_
  refine lv_bipush (v := 32) hx hb dX10_set_2 (by decide) ?_
  refine lv_lshr hx hb dX10_set_4 rfl ?_
  refine k_topl (y := 0) (by decide) ?_
  refine va_put (D := (dC, dI)) (ci := 10) (v := .long 0) (ty := .long) (C := RX10) (T := TX10) (N := 2) hx hb hts iw_X10_set_X10 tyX10 tyX10_ok nmX10 hown hK hP hD hS 0 rfl rfl 0 (by decide) (hts (.fieldLink RX10 9 "DeadlineShare$Wide" "high" "J") (by decide +kernel)) (fun _ h9 => h9) rfl (by decide +kernel) rfl rfl (Nat.le_of_ble_eq_true rfl) dX10_set_5 (fun H locs hP hD hS => ?_)
  have hP : va_P (dC, dI) vwCl [(h0, .inr (10, [.long 0, .long 0]))] H := hP
  have hD : va_D A [(h0, .inr (10, [.long 0, .long 0]))] := hD
  refine lv_aload_n hx hb dX10_set_8 rfl (lv_at hl 0 rfl) ?_
  refine lv_lload_n hx hb dX10_set_9 rfl (lv_at hl 1 rfl) ?_
  refine lv_ldc2 hx hb hown (hts (.constantLong RX10 13 (4294967295)) (by decide +kernel)) dX10_set_10 ?_
  refine lv_land hx hb dX10_set_13 ?_
  refine k_topl (y := 0) (by decide) ?_
  refine va_put (D := (dC, dI)) (ci := 10) (v := .long 0) (ty := .long) (C := RX10) (T := TX10) (N := 2) hx hb hts iw_X10_set_X10 tyX10 tyX10_ok nmX10 hown hK hP hD hS 0 rfl rfl 1 (by decide) (hts (.fieldLink RX10 15 "DeadlineShare$Wide" "low" "J") (by decide +kernel)) (fun _ h9 => h9) rfl (by decide +kernel) rfl rfl (Nat.le_of_ble_eq_true rfl) dX10_set_14 (fun H locs hP hD hS => ?_)
  have hP : va_P (dC, dI) vwCl [(h0, .inr (10, [.long 0, .long 0]))] H := hP
  have hD : va_D A [(h0, .inr (10, [.long 0, .long 0]))] := hD
  have hP9 := hP.sub (ws' := [(h0, .inr (10, [.long 0, .long 0]))]) [0] rfl
  have hD9 := hD.sub (ws' := [(h0, .inr (10, [.long 0, .long 0]))]) [0] (by decide) rfl
  have hK9 := hK.sub (tys' := []) [] rfl
  refine W.widen (k := 0) (n := 0) (Nat.le_of_ble_eq_true rfl) (Nat.le_of_ble_eq_true rfl) ?_
  exact W.vret hx hb hr (fun t ht hW => ⟨⟨(), rfl, trivial, by rw [ht]; exact hP9, va_K.moved hW.alike hK9, hD9⟩, hS.F ht⟩) hS.2.2 dX10_set_17
theorem iw_X10_asLong_X10 : ∀ w ∈ u_ws RX10 TX10 2, w ∈ wsX10_asLong := by decide +kernel
set_option maxHeartbeats 4000000 in
set_option maxRecDepth 100000 in
theorem c_X10_asLong0 (l : Launch) (dC : Nat → ClassId) (dI : Nat → Nat → Nat) (h0 : Nat) (sz : Nat) : Met l yX10_asLong wsX10_asLong ({ frames := 0, cells := 0, slots := 0, locals := 0 } : Room) (va_Pc [.ref h0] (fun U => U.heap.size = sz ∧ va_P (dC, dI) vwCl [(h0, .inr (10, [.long 0, .long 0]))] U.heap ∧ va_K (dC, dI) vwCl [] U ∧ va_D (fun _ => True) [(h0, .inr (10, [.long 0, .long 0]))])) (va_Ql (fun (r : Int64) (_ : Unit) => r = 0) (fun (_ : Unit) t => va_P (dC, dI) vwCl [(h0, .inr (10, [.long 0, .long 0]))] t.heap ∧ va_K (dC, dI) vwCl [] t ∧ va_D (va_A [(h0, .inr (10, [.long 0, .long 0]))] sz) [(h0, .inr (10, [.long 0, .long 0]))]) (va_A [(h0, .inr (10, [.long 0, .long 0]))] sz)) 0 0 (va_A [(h0, .inr (10, [.long 0, .long 0]))] sz) := by
  refine Met.ofW (cc := cX10_asLong) (maxL := 1) (ret := (some .long)) (by decide) rfl ?_
  intro p e s m args below meth c s₁ B hml hv
  obtain ⟨rfl, hsz, hP, hK, hD0⟩ := hv
  have hx := B.exec
  have hb := B.bytes
  have hr := B.returns
  have hts := atoms_spec (ws := wsX10_asLong) B.pre
  have hown : s.vm.findClass RX10 = some m.cls := findClass_of_methodNamed B.named
  have hlocks := B.notSynchronized
  subst hsz
  have hD := hD0.self (sz := s.heap.size)
  obtain ⟨A, hAe⟩ : ∃ A, A = va_A [(h0, .inr (10, [.long 0, .long 0]))] s.heap.size := ⟨_, rfl⟩
  rw [← hAe] at hD ⊢
  have hA : ∀ q : Nat, s.heap.size ≤ q → A q := fun q h => by rw [hAe]; exact Or.inr h
  have hS : va_S A s.heap s.heap [] := va_S.rf
  have hP : va_P (dC, dI) vwCl [(h0, .inr (10, [.long 0, .long 0]))] s.heap := hP
  have hl := lv_entry ([.ref h0]) (n := 1) (Nat.le_of_ble_eq_true rfl)
  rw [lg_entry_eq]
  generalize (lg_sl ([.ref h0]) ++ List.replicate (1 - (lg_sl ([.ref h0])).length) Slot.unset).toArray = ls at hl ⊢
  have hl : lv_has ls 1 [(0, .ref h0)] := hl
  refine lv_aload_n hx hb dX10_asLong_0 rfl (lv_at hl 0 rfl) ?_
  refine va_get (D := (dC, dI)) (ci := 10) (v := .long 0) (C := RX10) (T := TX10) (N := 2) hx hb hts iw_X10_asLong_X10 hown hK hP 0 rfl rfl 0 (by decide) (hts (.fieldLink RX10 9 "DeadlineShare$Wide" "high" "J") (by decide +kernel)) (fun _ h9 => h9) rfl dX10_asLong_1 ?_
  refine lv_bipush (v := 32) hx hb dX10_asLong_4 (by decide) ?_
  refine lv_lshl hx hb dX10_asLong_6 rfl ?_
  refine k_topl (y := 0) (by decide) ?_
  refine lv_aload_n hx hb dX10_asLong_7 rfl (lv_at hl 0 rfl) ?_
  refine va_get (D := (dC, dI)) (ci := 10) (v := .long 0) (C := RX10) (T := TX10) (N := 2) hx hb hts iw_X10_asLong_X10 hown hK hP 0 rfl rfl 1 (by decide) (hts (.fieldLink RX10 15 "DeadlineShare$Wide" "low" "J") (by decide +kernel)) (fun _ h9 => h9) rfl dX10_asLong_8 ?_
  refine lv_lor hx hb dX10_asLong_11 ?_
  refine k_topl (y := 0) (by decide) ?_
  have hP9 := hP.sub (ws' := [(h0, .inr (10, [.long 0, .long 0]))]) [0] rfl
  have hD9 := hD.sub (ws' := [(h0, .inr (10, [.long 0, .long 0]))]) [0] (by decide) rfl
  have hK9 := hK.sub (tys' := []) [] rfl
  refine W.widen (k := 0) (n := 0) (Nat.le_of_ble_eq_true rfl) (Nat.le_of_ble_eq_true rfl) ?_
  exact W.lret (v := 0) hx hb hr (fun t ht hW => ⟨⟨0, (), rfl, rfl, by rw [ht]; exact hP9, va_K.moved hW.alike hK9, hD9⟩, hS.F ht⟩) hS.2.2 dX10_asLong_12
set_option maxHeartbeats 4000000 in
set_option maxRecDepth 100000 in
theorem c_J9_floorMod (l : Launch) (dC : Nat → ClassId) (dI : Nat → Nat → Nat) (sz : Nat) : Met l yJ9_floorMod_f86c9 wsJ9_floorMod_f86c9 ({ frames := 0, cells := 0, slots := 0, locals := 0 } : Room) (va_Pc [.long 0, .long 1] (fun U => U.heap.size = sz ∧ va_P (dC, dI) vwCl [] U.heap ∧ va_K (dC, dI) vwCl [] U ∧ va_D (fun _ => True) [])) (va_Ql (fun (r : Int64) (_ : Unit) => r = 0) (fun (_ : Unit) t => va_P (dC, dI) vwCl [] t.heap ∧ va_K (dC, dI) vwCl [] t ∧ va_D (va_A [] sz) []) (va_A [] sz)) 0 0 (va_A [] sz) := by
  refine Met.ofW (cc := cJ9_floorMod_f86c9) (maxL := 6) (ret := (some .long)) (by decide) rfl ?_
  intro p e s m args below meth c s₁ B hml hv
  obtain ⟨rfl, hsz, hP, hK, hD0⟩ := hv
  have hx := B.exec
  have hb := B.bytes
  have hr := B.returns
  have hts := atoms_spec (ws := wsJ9_floorMod_f86c9) B.pre
  have hown : s.vm.findClass RJ9 = some m.cls := findClass_of_methodNamed B.named
  have hlocks := B.notSynchronized
  subst hsz
  have hD := hD0.self (sz := s.heap.size)
  obtain ⟨A, hAe⟩ : ∃ A, A = va_A [] s.heap.size := ⟨_, rfl⟩
  rw [← hAe] at hD ⊢
  have hA : ∀ q : Nat, s.heap.size ≤ q → A q := fun q h => by rw [hAe]; exact Or.inr h
  have hS : va_S A s.heap s.heap [] := va_S.rf
  have hP : va_P (dC, dI) vwCl [] s.heap := hP
  have hl := lv_entry ([.long 0, .long 1]) (n := 6) (Nat.le_of_ble_eq_true rfl)
  rw [lg_entry_eq]
  generalize (lg_sl ([.long 0, .long 1]) ++ List.replicate (6 - (lg_sl ([.long 0, .long 1])).length) Slot.unset).toArray = ls at hl ⊢
  have hl : lv_has ls 6 [(0, .long 0), (2, .long 1)] := hl
  refine lv_lload_n hx hb dJ9_floorMod_f86c9_0 rfl (lv_at hl 0 rfl) ?_
  refine lv_lload_n hx hb dJ9_floorMod_f86c9_1 rfl (lv_at hl 1 rfl) ?_
  refine lv_lrem hx hb dJ9_floorMod_f86c9_2 (by decide) ?_
  refine k_topl (y := 0) (by decide) ?_
  refine lv_lstore (lv' := [(4, .long 0), (0, .long 0), (2, .long 1)]) hx hb dJ9_floorMod_f86c9_3 hl (by decide) rfl (fun ls hl => ?_)
  refine lv_lload_n hx hb dJ9_floorMod_f86c9_5 rfl (lv_at hl 1 rfl) ?_
  refine lv_lload_n hx hb dJ9_floorMod_f86c9_6 rfl (lv_at hl 2 rfl) ?_
  refine lv_lxor hx hb dJ9_floorMod_f86c9_7 ?_
  refine k_topl (y := 1) (by decide) ?_
  refine lv_lconst (v := 0) hx hb dJ9_floorMod_f86c9_8 (by decide) ?_
  refine W.lcmp hx hb dJ9_floorMod_f86c9_9 ?_
  refine k_topi (y := 1) (by decide) ?_
  refine lv_if_ge (tgt := 25) hx hb dJ9_floorMod_f86c9_10 (by decide) (fun _ => ?_) (fun c => absurd (by decide) c)
  refine lv_lload hx hb dJ9_floorMod_f86c9_25 (lv_at hl 0 rfl) ?_
  have hP9 := hP.sub (ws' := []) [] rfl
  have hD9 := hD.sub (ws' := []) [] (by decide) rfl
  have hK9 := hK.sub (tys' := []) [] rfl
  refine W.widen (k := 0) (n := 0) (Nat.le_of_ble_eq_true rfl) (Nat.le_of_ble_eq_true rfl) ?_
  exact W.lret (v := 0) hx hb hr (fun t ht hW => ⟨⟨0, (), rfl, rfl, by rw [ht]; exact hP9, va_K.moved hW.alike hK9, hD9⟩, hS.F ht⟩) hS.2.2 dJ9_floorMod_f86c9_27
set_option maxHeartbeats 4000000 in
set_option maxRecDepth 100000 in
theorem c_J9_floorDiv (l : Launch) (dC : Nat → ClassId) (dI : Nat → Nat → Nat) (sz : Nat) : Met l yJ9_floorDiv_f86c9 wsJ9_floorDiv_f86c9 ({ frames := 0, cells := 0, slots := 0, locals := 0 } : Room) (va_Pc [.long 0, .long 1] (fun U => U.heap.size = sz ∧ va_P (dC, dI) vwCl [] U.heap ∧ va_K (dC, dI) vwCl [] U ∧ va_D (fun _ => True) [])) (va_Ql (fun (r : Int64) (_ : Unit) => r = 0) (fun (_ : Unit) t => va_P (dC, dI) vwCl [] t.heap ∧ va_K (dC, dI) vwCl [] t ∧ va_D (va_A [] sz) []) (va_A [] sz)) 0 0 (va_A [] sz) := by
  refine Met.ofW (cc := cJ9_floorDiv_f86c9) (maxL := 6) (ret := (some .long)) (by decide) rfl ?_
  intro p e s m args below meth c s₁ B hml hv
  obtain ⟨rfl, hsz, hP, hK, hD0⟩ := hv
  have hx := B.exec
  have hb := B.bytes
  have hr := B.returns
  have hts := atoms_spec (ws := wsJ9_floorDiv_f86c9) B.pre
  have hown : s.vm.findClass RJ9 = some m.cls := findClass_of_methodNamed B.named
  have hlocks := B.notSynchronized
  subst hsz
  have hD := hD0.self (sz := s.heap.size)
  obtain ⟨A, hAe⟩ : ∃ A, A = va_A [] s.heap.size := ⟨_, rfl⟩
  rw [← hAe] at hD ⊢
  have hA : ∀ q : Nat, s.heap.size ≤ q → A q := fun q h => by rw [hAe]; exact Or.inr h
  have hS : va_S A s.heap s.heap [] := va_S.rf
  have hP : va_P (dC, dI) vwCl [] s.heap := hP
  have hl := lv_entry ([.long 0, .long 1]) (n := 6) (Nat.le_of_ble_eq_true rfl)
  rw [lg_entry_eq]
  generalize (lg_sl ([.long 0, .long 1]) ++ List.replicate (6 - (lg_sl ([.long 0, .long 1])).length) Slot.unset).toArray = ls at hl ⊢
  have hl : lv_has ls 6 [(0, .long 0), (2, .long 1)] := hl
  refine lv_lload_n hx hb dJ9_floorDiv_f86c9_0 rfl (lv_at hl 0 rfl) ?_
  refine lv_lload_n hx hb dJ9_floorDiv_f86c9_1 rfl (lv_at hl 1 rfl) ?_
  refine lv_ldiv hx hb dJ9_floorDiv_f86c9_2 (by decide) ?_
  refine k_topl (y := 0) (by decide) ?_
  refine lv_lstore (lv' := [(4, .long 0), (0, .long 0), (2, .long 1)]) hx hb dJ9_floorDiv_f86c9_3 hl (by decide) rfl (fun ls hl => ?_)
  refine lv_lload_n hx hb dJ9_floorDiv_f86c9_5 rfl (lv_at hl 1 rfl) ?_
  refine lv_lload_n hx hb dJ9_floorDiv_f86c9_6 rfl (lv_at hl 2 rfl) ?_
  refine lv_lxor hx hb dJ9_floorDiv_f86c9_7 ?_
  refine k_topl (y := 1) (by decide) ?_
  refine lv_lconst (v := 0) hx hb dJ9_floorDiv_f86c9_8 (by decide) ?_
  refine W.lcmp hx hb dJ9_floorDiv_f86c9_9 ?_
  refine k_topi (y := 1) (by decide) ?_
  refine lv_if_ge (tgt := 27) hx hb dJ9_floorDiv_f86c9_10 (by decide) (fun _ => ?_) (fun c => absurd (by decide) c)
  refine lv_lload hx hb dJ9_floorDiv_f86c9_27 (lv_at hl 0 rfl) ?_
  have hP9 := hP.sub (ws' := []) [] rfl
  have hD9 := hD.sub (ws' := []) [] (by decide) rfl
  have hK9 := hK.sub (tys' := []) [] rfl
  refine W.widen (k := 0) (n := 0) (Nat.le_of_ble_eq_true rfl) (Nat.le_of_ble_eq_true rfl) ?_
  exact W.lret (v := 0) hx hb hr (fun t ht hW => ⟨⟨0, (), rfl, rfl, by rw [ht]; exact hP9, va_K.moved hW.alike hK9, hD9⟩, hS.F ht⟩) hS.2.2 dJ9_floorDiv_f86c9_29
theorem iw_X10_divide_X10 : ∀ w ∈ u_ws RX10 TX10 2, w ∈ wsX10_divide := by decide +kernel
set_option maxHeartbeats 4000000 in
set_option maxRecDepth 100000 in
theorem c_X10_divide1 (l : Launch) (dC : Nat → ClassId) (dI : Nat → Nat → Nat) (h0 : Nat) (sz : Nat) : Met l yX10_divide wsX10_divide ({ frames := 1, cells := 0, slots := 0, locals := 25 } : Room) (va_Pc [.ref h0, .long 1] (fun U => U.heap.size = sz ∧ va_P (dC, dI) vwCl [(h0, .inr (10, [.long 0, .long 0]))] U.heap ∧ va_K (dC, dI) vwCl [] U ∧ va_D (fun _ => True) [(h0, .inr (10, [.long 0, .long 0]))])) (va_Qv (fun (_ : Unit) => True) (fun (_ : Unit) t => va_P (dC, dI) vwCl [(h0, .inr (10, [.long 0, .long 0]))] t.heap ∧ va_K (dC, dI) vwCl [] t ∧ va_D (va_A [(h0, .inr (10, [.long 0, .long 0]))] sz) [(h0, .inr (10, [.long 0, .long 0]))]) (va_A [(h0, .inr (10, [.long 0, .long 0]))] sz)) 0 0 (va_A [(h0, .inr (10, [.long 0, .long 0]))] sz) := by
  refine Met.ofW (cc := cX10_divide) (maxL := 3) (ret := none) (by decide) rfl ?_
  intro p e s m args below meth c s₁ B hml hv
  obtain ⟨rfl, hsz, hP, hK, hD0⟩ := hv
  have hx := B.exec
  have hb := B.bytes
  have hr := B.returns
  have hts := atoms_spec (ws := wsX10_divide) B.pre
  have hown : s.vm.findClass RX10 = some m.cls := findClass_of_methodNamed B.named
  have hlocks := B.notSynchronized
  subst hsz
  have hD := hD0.self (sz := s.heap.size)
  obtain ⟨A, hAe⟩ : ∃ A, A = va_A [(h0, .inr (10, [.long 0, .long 0]))] s.heap.size := ⟨_, rfl⟩
  rw [← hAe] at hD ⊢
  have hA : ∀ q : Nat, s.heap.size ≤ q → A q := fun q h => by rw [hAe]; exact Or.inr h
  have hS : va_S A s.heap s.heap [] := va_S.rf
  have hP : va_P (dC, dI) vwCl [(h0, .inr (10, [.long 0, .long 0]))] s.heap := hP
  have hl := lv_entry ([.ref h0, .long 1]) (n := 3) (Nat.le_of_ble_eq_true rfl)
  rw [lg_entry_eq]
  generalize (lg_sl ([.ref h0, .long 1]) ++ List.replicate (3 - (lg_sl ([.ref h0, .long 1])).length) Slot.unset).toArray = ls at hl ⊢
  have hl : lv_has ls 3 [(0, .ref h0), (1, .long 1)] := hl
  refine lv_lload_n hx hb dX10_divide_0 rfl (lv_at hl 1 rfl) ?_
  refine lv_lconst (v := 0) hx hb dX10_divide_1 (by decide) ?_
  refine W.lcmp hx hb dX10_divide_2 ?_
  refine k_topi (y := 1) (by decide) ?_
  refine lv_if_le (tgt := 40) hx hb dX10_divide_3 (by decide) (fun c => absurd c (by decide)) (fun _ => ?_)
  refine lv_aload_n hx hb dX10_divide_6 rfl (lv_at hl 0 rfl) ?_
  refine lv_aload_n hx hb dX10_divide_7 rfl (lv_at hl 0 rfl) ?_
  refine va_get (D := (dC, dI)) (ci := 10) (v := .long 0) (C := RX10) (T := TX10) (N := 2) hx hb hts iw_X10_divide_X10 hown hK hP 0 rfl rfl 0 (by decide) (hts (.fieldLink RX10 9 "DeadlineShare$Wide" "high" "J") (by decide +kernel)) (fun _ h9 => h9) rfl dX10_divide_8 ?_
  refine lv_lload_n hx hb dX10_divide_11 rfl (lv_at hl 1 rfl) ?_
  have hPc := hP.sub (ws' := []) [] rfl
  have hDc := hD.sub (ws' := []) [] (by decide) rfl
  have hKc := hK.sub (tys' := []) [] rfl
  have hFc := va_free (wc := []) hD hS hA [] rfl
  refine va_calll (va_runS (As := [.long 0, .long 1]) (rest := [.ref h0]) ⟨hx, hb, hml, hown, hts⟩ (c_J9_floorMod l dC dI s.heap.size) (va_cwS 2 hts gX10_divide_J9_floorMod_f86c9 rfl rfl rfl (by decide +kernel) ⟨Nat.le_of_ble_eq_true rfl, Nat.le_of_ble_eq_true rfl⟩) ⟨fun a U g mk q => by obtain ⟨q0, q1, qP, qK, qD⟩ := q; exact ⟨q0, q1, qP, va_K.moved (u := U) (U := U.calling g mk a) (Vm.Alike.refl U.vm) qK, qD⟩, fun U hU hW => ⟨rfl, by rw [hU], by rw [hU]; exact hPc, va_K.moved hW.alike hKc, hDc.weaken (fun _ _ _ _ => trivial)⟩⟩ rfl rfl hl.1 rfl (lv_room (Nat.le_of_ble_eq_true rfl)) dX10_divide_12 ⟨Nat.le_of_ble_eq_true rfl, Nat.le_of_ble_eq_true rfl⟩) hS (fun q _ h => hFc q h) hFc (fun r_1 u t H1 locs ht hvm hw hB hz1 hk1 hS => ?_)
  obtain ⟨hP1, hK1, hD1⟩ := hB
  rw [ht] at hP1
  have hK1 := va_K.moved hvm.symm hK1
  obtain ⟨hP, hD⟩ := va_join (wr := [(h0, .inr (10, [.long 0, .long 0]))]) (w1 := []) hP hD [] [0] rfl rfl (by decide) (by decide) hk1 hFc hP1 hD1
  generalize H1 = H at hP hS ⊢
  have hP : va_P (dC, dI) vwCl [(h0, .inr (10, [.long 0, .long 0]))] H := hP
  have hD : va_D A [(h0, .inr (10, [.long 0, .long 0]))] := hD
  refine W.widen (k := 0) (n := 0) (Nat.le_of_ble_eq_true rfl) (Nat.le_of_ble_eq_true rfl) ?_
  have hw : r_1 = 0 := hw
  subst hw
  refine lv_bipush (v := 32) hx hb dX10_divide_15 (by decide) ?_
  refine lv_lshl hx hb dX10_divide_17 rfl ?_
  refine k_topl (y := 0) (by decide) ?_
  refine lv_aload_n hx hb dX10_divide_18 rfl (lv_at hl 0 rfl) ?_
  refine va_get (D := (dC, dI)) (ci := 10) (v := .long 0) (C := RX10) (T := TX10) (N := 2) hx hb hts iw_X10_divide_X10 hown hK hP 0 rfl rfl 1 (by decide) (hts (.fieldLink RX10 15 "DeadlineShare$Wide" "low" "J") (by decide +kernel)) (fun _ h9 => h9) rfl dX10_divide_19 ?_
  refine lv_lor hx hb dX10_divide_22 ?_
  refine k_topl (y := 0) (by decide) ?_
  refine lv_lload_n hx hb dX10_divide_23 rfl (lv_at hl 1 rfl) ?_
  refine lv_ldiv hx hb dX10_divide_24 (by decide) ?_
  refine k_topl (y := 0) (by decide) ?_
  refine va_put (D := (dC, dI)) (ci := 10) (v := .long 0) (ty := .long) (C := RX10) (T := TX10) (N := 2) hx hb hts iw_X10_divide_X10 tyX10 tyX10_ok nmX10 hown hK hP hD hS 0 rfl rfl 1 (by decide) (hts (.fieldLink RX10 15 "DeadlineShare$Wide" "low" "J") (by decide +kernel)) (fun _ h9 => h9) rfl (by decide +kernel) rfl rfl (Nat.le_of_ble_eq_true rfl) dX10_divide_25 (fun H locs hP hD hS => ?_)
  have hP : va_P (dC, dI) vwCl [(h0, .inr (10, [.long 0, .long 0]))] H := hP
  have hD : va_D A [(h0, .inr (10, [.long 0, .long 0]))] := hD
  refine lv_aload_n hx hb dX10_divide_28 rfl (lv_at hl 0 rfl) ?_
  refine lv_aload_n hx hb dX10_divide_29 rfl (lv_at hl 0 rfl) ?_
  refine va_get (D := (dC, dI)) (ci := 10) (v := .long 0) (C := RX10) (T := TX10) (N := 2) hx hb hts iw_X10_divide_X10 hown hK hP 0 rfl rfl 0 (by decide) (hts (.fieldLink RX10 9 "DeadlineShare$Wide" "high" "J") (by decide +kernel)) (fun _ h9 => h9) rfl dX10_divide_30 ?_
  refine lv_lload_n hx hb dX10_divide_33 rfl (lv_at hl 1 rfl) ?_
  have hPc := hP.sub (ws' := []) [] rfl
  have hDc := hD.sub (ws' := []) [] (by decide) rfl
  have hKc := hK.sub (tys' := []) [] rfl
  have hFc := va_free (wc := []) hD hS hA [] rfl
  refine va_calll (va_runS (As := [.long 0, .long 1]) (rest := [.ref h0]) ⟨hx, hb, hml, hown, hts⟩ (c_J9_floorDiv l dC dI H.size) (va_cwS 2 hts gX10_divide_J9_floorDiv_f86c9 rfl rfl rfl (by decide +kernel) ⟨Nat.le_of_ble_eq_true rfl, Nat.le_of_ble_eq_true rfl⟩) ⟨fun a U g mk q => by obtain ⟨q0, q1, qP, qK, qD⟩ := q; exact ⟨q0, q1, qP, va_K.moved (u := U) (U := U.calling g mk a) (Vm.Alike.refl U.vm) qK, qD⟩, fun U hU hW => ⟨rfl, by rw [hU], by rw [hU]; exact hPc, va_K.moved hW.alike hKc, hDc.weaken (fun _ _ _ _ => trivial)⟩⟩ rfl rfl hl.1 rfl (lv_room (Nat.le_of_ble_eq_true rfl)) dX10_divide_34 ⟨Nat.le_of_ble_eq_true rfl, Nat.le_of_ble_eq_true rfl⟩) hS (fun q _ h => hFc q h) hFc (fun r_2 u t H1 locs ht hvm hw hB hz1 hk1 hS => ?_)
  obtain ⟨hP1, hK1, hD1⟩ := hB
  rw [ht] at hP1
  have hK1 := va_K.moved hvm.symm hK1
  obtain ⟨hP, hD⟩ := va_join (wr := [(h0, .inr (10, [.long 0, .long 0]))]) (w1 := []) hP hD [] [0] rfl rfl (by decide) (by decide) hk1 hFc hP1 hD1
  generalize H1 = H at hP hS ⊢
  have hP : va_P (dC, dI) vwCl [(h0, .inr (10, [.long 0, .long 0]))] H := hP
  have hD : va_D A [(h0, .inr (10, [.long 0, .long 0]))] := hD
  refine W.widen (k := 0) (n := 0) (Nat.le_of_ble_eq_true rfl) (Nat.le_of_ble_eq_true rfl) ?_
  have hw : r_2 = 0 := hw
  subst hw
  refine va_put (D := (dC, dI)) (ci := 10) (v := .long 0) (ty := .long) (C := RX10) (T := TX10) (N := 2) hx hb hts iw_X10_divide_X10 tyX10 tyX10_ok nmX10 hown hK hP hD hS 0 rfl rfl 0 (by decide) (hts (.fieldLink RX10 9 "DeadlineShare$Wide" "high" "J") (by decide +kernel)) (fun _ h9 => h9) rfl (by decide +kernel) rfl rfl (Nat.le_of_ble_eq_true rfl) dX10_divide_37 (fun H locs hP hD hS => ?_)
  have hP : va_P (dC, dI) vwCl [(h0, .inr (10, [.long 0, .long 0]))] H := hP
  have hD : va_D A [(h0, .inr (10, [.long 0, .long 0]))] := hD
  have hP9 := hP.sub (ws' := [(h0, .inr (10, [.long 0, .long 0]))]) [0] rfl
  have hD9 := hD.sub (ws' := [(h0, .inr (10, [.long 0, .long 0]))]) [0] (by decide) rfl
  have hK9 := hK.sub (tys' := []) [] rfl
  refine W.widen (k := 0) (n := 0) (Nat.le_of_ble_eq_true rfl) (Nat.le_of_ble_eq_true rfl) ?_
  exact W.vret hx hb hr (fun t ht hW => ⟨⟨(), rfl, trivial, by rw [ht]; exact hP9, va_K.moved hW.alike hK9, hD9⟩, hS.F ht⟩) hS.2.2 dX10_divide_40
theorem iw_X10_modulo_X10 : ∀ w ∈ u_ws RX10 TX10 2, w ∈ wsX10_modulo := by decide +kernel
set_option maxHeartbeats 4000000 in
set_option maxRecDepth 100000 in
theorem c_X10_modulo1 (l : Launch) (dC : Nat → ClassId) (dI : Nat → Nat → Nat) (h0 : Nat) (sz : Nat) : Met l yX10_modulo wsX10_modulo ({ frames := 1, cells := 0, slots := 0, locals := 25 } : Room) (va_Pc [.ref h0, .long 1] (fun U => U.heap.size = sz ∧ va_P (dC, dI) vwCl [(h0, .inr (10, [.long 0, .long 0]))] U.heap ∧ va_K (dC, dI) vwCl [] U ∧ va_D (fun _ => True) [(h0, .inr (10, [.long 0, .long 0]))])) (va_Ql (fun (r : Int64) (_ : Unit) => r = 0) (fun (_ : Unit) t => va_P (dC, dI) vwCl [(h0, .inr (10, [.long 0, .long 0]))] t.heap ∧ va_K (dC, dI) vwCl [] t ∧ va_D (va_A [(h0, .inr (10, [.long 0, .long 0]))] sz) [(h0, .inr (10, [.long 0, .long 0]))]) (va_A [(h0, .inr (10, [.long 0, .long 0]))] sz)) 0 0 (va_A [(h0, .inr (10, [.long 0, .long 0]))] sz) := by
  refine Met.ofW (cc := cX10_modulo) (maxL := 3) (ret := (some .long)) (by decide) rfl ?_
  intro p e s m args below meth c s₁ B hml hv
  obtain ⟨rfl, hsz, hP, hK, hD0⟩ := hv
  have hx := B.exec
  have hb := B.bytes
  have hr := B.returns
  have hts := atoms_spec (ws := wsX10_modulo) B.pre
  have hown : s.vm.findClass RX10 = some m.cls := findClass_of_methodNamed B.named
  have hlocks := B.notSynchronized
  subst hsz
  have hD := hD0.self (sz := s.heap.size)
  obtain ⟨A, hAe⟩ : ∃ A, A = va_A [(h0, .inr (10, [.long 0, .long 0]))] s.heap.size := ⟨_, rfl⟩
  rw [← hAe] at hD ⊢
  have hA : ∀ q : Nat, s.heap.size ≤ q → A q := fun q h => by rw [hAe]; exact Or.inr h
  have hS : va_S A s.heap s.heap [] := va_S.rf
  have hP : va_P (dC, dI) vwCl [(h0, .inr (10, [.long 0, .long 0]))] s.heap := hP
  have hl := lv_entry ([.ref h0, .long 1]) (n := 3) (Nat.le_of_ble_eq_true rfl)
  rw [lg_entry_eq]
  generalize (lg_sl ([.ref h0, .long 1]) ++ List.replicate (3 - (lg_sl ([.ref h0, .long 1])).length) Slot.unset).toArray = ls at hl ⊢
  have hl : lv_has ls 3 [(0, .ref h0), (1, .long 1)] := hl
  refine lv_lload_n hx hb dX10_modulo_0 rfl (lv_at hl 1 rfl) ?_
  refine lv_lconst (v := 0) hx hb dX10_modulo_1 (by decide) ?_
  refine W.lcmp hx hb dX10_modulo_2 ?_
  refine k_topi (y := 1) (by decide) ?_
  refine lv_if_le (tgt := 27) hx hb dX10_modulo_3 (by decide) (fun c => absurd c (by decide)) (fun _ => ?_)
  refine lv_aload_n hx hb dX10_modulo_6 rfl (lv_at hl 0 rfl) ?_
  refine va_get (D := (dC, dI)) (ci := 10) (v := .long 0) (C := RX10) (T := TX10) (N := 2) hx hb hts iw_X10_modulo_X10 hown hK hP 0 rfl rfl 0 (by decide) (hts (.fieldLink RX10 9 "DeadlineShare$Wide" "high" "J") (by decide +kernel)) (fun _ h9 => h9) rfl dX10_modulo_7 ?_
  refine lv_lload_n hx hb dX10_modulo_10 rfl (lv_at hl 1 rfl) ?_
  have hPc := hP.sub (ws' := []) [] rfl
  have hDc := hD.sub (ws' := []) [] (by decide) rfl
  have hKc := hK.sub (tys' := []) [] rfl
  have hFc := va_free (wc := []) hD hS hA [] rfl
  refine va_calll (va_runS (As := [.long 0, .long 1]) (rest := []) ⟨hx, hb, hml, hown, hts⟩ (c_J9_floorMod l dC dI s.heap.size) (va_cwS 2 hts gX10_modulo_J9_floorMod_f86c9 rfl rfl rfl (by decide +kernel) ⟨Nat.le_of_ble_eq_true rfl, Nat.le_of_ble_eq_true rfl⟩) ⟨fun a U g mk q => by obtain ⟨q0, q1, qP, qK, qD⟩ := q; exact ⟨q0, q1, qP, va_K.moved (u := U) (U := U.calling g mk a) (Vm.Alike.refl U.vm) qK, qD⟩, fun U hU hW => ⟨rfl, by rw [hU], by rw [hU]; exact hPc, va_K.moved hW.alike hKc, hDc.weaken (fun _ _ _ _ => trivial)⟩⟩ rfl rfl hl.1 rfl (lv_room (Nat.le_of_ble_eq_true rfl)) dX10_modulo_11 ⟨Nat.le_of_ble_eq_true rfl, Nat.le_of_ble_eq_true rfl⟩) hS (fun q _ h => hFc q h) hFc (fun r_1 u t H1 locs ht hvm hw hB hz1 hk1 hS => ?_)
  obtain ⟨hP1, hK1, hD1⟩ := hB
  rw [ht] at hP1
  have hK1 := va_K.moved hvm.symm hK1
  obtain ⟨hP, hD⟩ := va_join (wr := [(h0, .inr (10, [.long 0, .long 0]))]) (w1 := []) hP hD [] [0] rfl rfl (by decide) (by decide) hk1 hFc hP1 hD1
  generalize H1 = H at hP hS ⊢
  have hP : va_P (dC, dI) vwCl [(h0, .inr (10, [.long 0, .long 0]))] H := hP
  have hD : va_D A [(h0, .inr (10, [.long 0, .long 0]))] := hD
  refine W.widen (k := 0) (n := 0) (Nat.le_of_ble_eq_true rfl) (Nat.le_of_ble_eq_true rfl) ?_
  have hw : r_1 = 0 := hw
  subst hw
  refine lv_bipush (v := 32) hx hb dX10_modulo_14 (by decide) ?_
  refine lv_lshl hx hb dX10_modulo_16 rfl ?_
  refine k_topl (y := 0) (by decide) ?_
  refine lv_aload_n hx hb dX10_modulo_17 rfl (lv_at hl 0 rfl) ?_
  refine va_get (D := (dC, dI)) (ci := 10) (v := .long 0) (C := RX10) (T := TX10) (N := 2) hx hb hts iw_X10_modulo_X10 hown hK hP 0 rfl rfl 1 (by decide) (hts (.fieldLink RX10 15 "DeadlineShare$Wide" "low" "J") (by decide +kernel)) (fun _ h9 => h9) rfl dX10_modulo_18 ?_
  refine lv_lor hx hb dX10_modulo_21 ?_
  refine k_topl (y := 0) (by decide) ?_
  refine lv_lload_n hx hb dX10_modulo_22 rfl (lv_at hl 1 rfl) ?_
  refine lv_lrem hx hb dX10_modulo_23 (by decide) ?_
  refine k_topl (y := 0) (by decide) ?_
  refine lv_goto (tgt := 28) hx hb dX10_modulo_24 (by decide) ?_
  have hP9 := hP.sub (ws' := [(h0, .inr (10, [.long 0, .long 0]))]) [0] rfl
  have hD9 := hD.sub (ws' := [(h0, .inr (10, [.long 0, .long 0]))]) [0] (by decide) rfl
  have hK9 := hK.sub (tys' := []) [] rfl
  refine W.widen (k := 0) (n := 0) (Nat.le_of_ble_eq_true rfl) (Nat.le_of_ble_eq_true rfl) ?_
  exact W.lret (v := 0) hx hb hr (fun t ht hW => ⟨⟨0, (), rfl, rfl, by rw [ht]; exact hP9, va_K.moved hW.alike hK9, hD9⟩, hS.F ht⟩) hS.2.2 dX10_modulo_28
theorem iw_X6_has_X6 : ∀ w ∈ u_ws RX6 TX6 10, w ∈ wsX6_has := by decide +kernel
set_option maxHeartbeats 4000000 in
set_option maxRecDepth 100000 in
theorem c_X6_has (l : Launch) (dC : Nat → ClassId) (dI : Nat → Nat → Nat) (h0 : Nat) (tk : Int32) (te : Nat) (ta : Nat) (lo : Nat) (su : Nat) (pt : Nat) (ti : Int32) (sz : Nat) : Met l yX6_has wsX6_has ({ frames := 0, cells := 0, slots := 0, locals := 0 } : Room) (va_Pc [.ref h0, .int tk] (fun U => U.heap.size = sz ∧ va_P (dC, dI) vwCl [(h0, .inr (6, [.ref te, .ref ta, .ref lo, .ref su, .ref pt, .int 0, .int ti, .long 0, .int (-1), .int (-1)]))] U.heap ∧ va_K (dC, dI) vwCl [] U ∧ va_D (fun _ => True) [(h0, .inr (6, [.ref te, .ref ta, .ref lo, .ref su, .ref pt, .int 0, .int ti, .long 0, .int (-1), .int (-1)]))])) (va_Qi (fun (r : Int32) (_ : Unit) => r = 0) (fun (_ : Unit) t => va_P (dC, dI) vwCl [(h0, .inr (6, [.ref te, .ref ta, .ref lo, .ref su, .ref pt, .int 0, .int ti, .long 0, .int (-1), .int (-1)]))] t.heap ∧ va_K (dC, dI) vwCl [] t ∧ va_D (va_A [(h0, .inr (6, [.ref te, .ref ta, .ref lo, .ref su, .ref pt, .int 0, .int ti, .long 0, .int (-1), .int (-1)]))] sz) [(h0, .inr (6, [.ref te, .ref ta, .ref lo, .ref su, .ref pt, .int 0, .int ti, .long 0, .int (-1), .int (-1)]))]) (va_A [(h0, .inr (6, [.ref te, .ref ta, .ref lo, .ref su, .ref pt, .int 0, .int ti, .long 0, .int (-1), .int (-1)]))] sz)) 0 0 (va_A [(h0, .inr (6, [.ref te, .ref ta, .ref lo, .ref su, .ref pt, .int 0, .int ti, .long 0, .int (-1), .int (-1)]))] sz) := by
  refine Met.ofW (cc := cX6_has) (maxL := 2) (ret := (some .boolean)) (by decide) rfl ?_
  intro p e s m args below meth c s₁ B hml hv
  obtain ⟨rfl, hsz, hP, hK, hD0⟩ := hv
  have hx := B.exec
  have hb := B.bytes
  have hr := B.returns
  have hts := atoms_spec (ws := wsX6_has) B.pre
  have hown : s.vm.findClass RX6 = some m.cls := findClass_of_methodNamed B.named
  have hlocks := B.notSynchronized
  subst hsz
  have hD := hD0.self (sz := s.heap.size)
  obtain ⟨A, hAe⟩ : ∃ A, A = va_A [(h0, .inr (6, [.ref te, .ref ta, .ref lo, .ref su, .ref pt, .int 0, .int ti, .long 0, .int (-1), .int (-1)]))] s.heap.size := ⟨_, rfl⟩
  rw [← hAe] at hD ⊢
  have hA : ∀ q : Nat, s.heap.size ≤ q → A q := fun q h => by rw [hAe]; exact Or.inr h
  have hS : va_S A s.heap s.heap [] := va_S.rf
  have hP : va_P (dC, dI) vwCl [(h0, .inr (6, [.ref te, .ref ta, .ref lo, .ref su, .ref pt, .int 0, .int ti, .long 0, .int (-1), .int (-1)]))] s.heap := hP
  have hl := lv_entry ([.ref h0, .int tk]) (n := 2) (Nat.le_of_ble_eq_true rfl)
  rw [lg_entry_eq]
  generalize (lg_sl ([.ref h0, .int tk]) ++ List.replicate (2 - (lg_sl ([.ref h0, .int tk])).length) Slot.unset).toArray = ls at hl ⊢
  have hl : lv_has ls 2 [(0, .ref h0), (1, .int tk)] := hl
  refine lv_iload_n hx hb dX6_has_0 rfl (lv_at hl 1 rfl) ?_
  refine lv_if_lt (tgt := 16) hx hb dX6_has_1 (by decide) (fun c_1 => ?_) (fun c_1 => ?_)
  · refine lv_iconst (v := 0) hx hb dX6_has_16 (by decide) ?_
    have hP9 := hP.sub (ws' := [(h0, .inr (6, [.ref te, .ref ta, .ref lo, .ref su, .ref pt, .int 0, .int ti, .long 0, .int (-1), .int (-1)]))]) [0] rfl
    have hD9 := hD.sub (ws' := [(h0, .inr (6, [.ref te, .ref ta, .ref lo, .ref su, .ref pt, .int 0, .int ti, .long 0, .int (-1), .int (-1)]))]) [0] (by decide) rfl
    have hK9 := hK.sub (tys' := []) [] rfl
    refine W.widen (k := 0) (n := 0) (Nat.le_of_ble_eq_true rfl) (Nat.le_of_ble_eq_true rfl) ?_
    exact W.zret (v := 0) hx hb hr rfl (fun t ht hW => ⟨⟨0, (), rfl, rfl, by rw [ht]; exact hP9, va_K.moved hW.alike hK9, hD9⟩, hS.F ht⟩) hS.2.2 dX6_has_17
  · refine lv_iload_n hx hb dX6_has_4 rfl (lv_at hl 1 rfl) ?_
    refine lv_aload_n hx hb dX6_has_5 rfl (lv_at hl 0 rfl) ?_
    refine va_get (D := (dC, dI)) (ci := 6) (v := .int 0) (C := RX6) (T := TX6) (N := 10) hx hb hts iw_X6_has_X6 hown hK hP 0 rfl rfl 5 (by decide) (hts (.fieldLink RX6 48 "DeadlineShare$State" "count" "I") (by decide +kernel)) (fun _ h9 => h9) rfl dX6_has_6 ?_
    refine lv_icmp_ge (tgt := 16) hx hb dX6_has_9 (by decide) (fun _ => ?_) (fun c => absurd ((fa_le _ _).mpr (by have z0 := fun h9 => c_1 ((fa_lt _ _).mpr h9); have li0 : Int32.toInt 0 = 0 := by decide; skip; omega)) c)
    refine lv_iconst (v := 0) hx hb dX6_has_16 (by decide) ?_
    have hP9 := hP.sub (ws' := [(h0, .inr (6, [.ref te, .ref ta, .ref lo, .ref su, .ref pt, .int 0, .int ti, .long 0, .int (-1), .int (-1)]))]) [0] rfl
    have hD9 := hD.sub (ws' := [(h0, .inr (6, [.ref te, .ref ta, .ref lo, .ref su, .ref pt, .int 0, .int ti, .long 0, .int (-1), .int (-1)]))]) [0] (by decide) rfl
    have hK9 := hK.sub (tys' := []) [] rfl
    refine W.widen (k := 0) (n := 0) (Nat.le_of_ble_eq_true rfl) (Nat.le_of_ble_eq_true rfl) ?_
    exact W.zret (v := 0) hx hb hr rfl (fun t ht hW => ⟨⟨0, (), rfl, rfl, by rw [ht]; exact hP9, va_K.moved hW.alike hK9, hD9⟩, hS.F ht⟩) hS.2.2 dX6_has_17
theorem iw_X6_weightOfAll_X6 : ∀ w ∈ u_ws RX6 TX6 10, w ∈ wsX6_weightOfAll := by decide +kernel
set_option maxHeartbeats 4000000 in
set_option maxRecDepth 100000 in
theorem c_X6_weightOfAll (l : Launch) (dC : Nat → ClassId) (dI : Nat → Nat → Nat) (h0 : Nat) (te : Nat) (ta : Nat) (lo : Nat) (su : Nat) (pt : Nat) (ti : Int32) (sz : Nat) : Met l yX6_weightOfAll wsX6_weightOfAll ({ frames := 0, cells := 0, slots := 0, locals := 0 } : Room) (va_Pc [.ref h0] (fun U => U.heap.size = sz ∧ va_P (dC, dI) vwCl [(h0, .inr (6, [.ref te, .ref ta, .ref lo, .ref su, .ref pt, .int 0, .int ti, .long 0, .int (-1), .int (-1)]))] U.heap ∧ va_K (dC, dI) vwCl [] U ∧ va_D (fun _ => True) [(h0, .inr (6, [.ref te, .ref ta, .ref lo, .ref su, .ref pt, .int 0, .int ti, .long 0, .int (-1), .int (-1)]))])) (va_Qi (fun (r : Int32) (_ : Unit) => r = 0) (fun (_ : Unit) t => va_P (dC, dI) vwCl [(h0, .inr (6, [.ref te, .ref ta, .ref lo, .ref su, .ref pt, .int 0, .int ti, .long 0, .int (-1), .int (-1)]))] t.heap ∧ va_K (dC, dI) vwCl [] t ∧ va_D (va_A [(h0, .inr (6, [.ref te, .ref ta, .ref lo, .ref su, .ref pt, .int 0, .int ti, .long 0, .int (-1), .int (-1)]))] sz) [(h0, .inr (6, [.ref te, .ref ta, .ref lo, .ref su, .ref pt, .int 0, .int ti, .long 0, .int (-1), .int (-1)]))]) (va_A [(h0, .inr (6, [.ref te, .ref ta, .ref lo, .ref su, .ref pt, .int 0, .int ti, .long 0, .int (-1), .int (-1)]))] sz)) 0 0 (va_A [(h0, .inr (6, [.ref te, .ref ta, .ref lo, .ref su, .ref pt, .int 0, .int ti, .long 0, .int (-1), .int (-1)]))] sz) := by
  refine Met.ofW (cc := cX6_weightOfAll) (maxL := 3) (ret := (some .int)) (by decide) rfl ?_
  intro p e s m args below meth c s₁ B hml hv
  obtain ⟨rfl, hsz, hP, hK, hD0⟩ := hv
  have hx := B.exec
  have hb := B.bytes
  have hr := B.returns
  have hts := atoms_spec (ws := wsX6_weightOfAll) B.pre
  have hown : s.vm.findClass RX6 = some m.cls := findClass_of_methodNamed B.named
  have hlocks := B.notSynchronized
  subst hsz
  have hD := hD0.self (sz := s.heap.size)
  obtain ⟨A, hAe⟩ : ∃ A, A = va_A [(h0, .inr (6, [.ref te, .ref ta, .ref lo, .ref su, .ref pt, .int 0, .int ti, .long 0, .int (-1), .int (-1)]))] s.heap.size := ⟨_, rfl⟩
  rw [← hAe] at hD ⊢
  have hA : ∀ q : Nat, s.heap.size ≤ q → A q := fun q h => by rw [hAe]; exact Or.inr h
  have hS : va_S A s.heap s.heap [] := va_S.rf
  have hP : va_P (dC, dI) vwCl [(h0, .inr (6, [.ref te, .ref ta, .ref lo, .ref su, .ref pt, .int 0, .int ti, .long 0, .int (-1), .int (-1)]))] s.heap := hP
  have hl := lv_entry ([.ref h0]) (n := 3) (Nat.le_of_ble_eq_true rfl)
  rw [lg_entry_eq]
  generalize (lg_sl ([.ref h0]) ++ List.replicate (3 - (lg_sl ([.ref h0])).length) Slot.unset).toArray = ls at hl ⊢
  have hl : lv_has ls 3 [(0, .ref h0)] := hl
  refine lv_iconst (v := 0) hx hb dX6_weightOfAll_0 (by decide) ?_
  refine lv_istore_n (lv' := [(1, .int 0), (0, .ref h0)]) hx hb dX6_weightOfAll_1 rfl hl (by decide) rfl (fun ls hl => ?_)
  refine lv_iconst (v := 0) hx hb dX6_weightOfAll_2 (by decide) ?_
  refine lv_istore_n (lv' := [(2, .int 0), (1, .int 0), (0, .ref h0)]) hx hb dX6_weightOfAll_3 rfl hl (by decide) rfl (fun ls hl => ?_)
  refine lv_iload_n hx hb dX6_weightOfAll_4 rfl (lv_at hl 0 rfl) ?_
  refine lv_aload_n hx hb dX6_weightOfAll_5 rfl (lv_at hl 2 rfl) ?_
  refine va_get (D := (dC, dI)) (ci := 6) (v := .int 0) (C := RX6) (T := TX6) (N := 10) hx hb hts iw_X6_weightOfAll_X6 hown hK hP 0 rfl rfl 5 (by decide) (hts (.fieldLink RX6 48 "DeadlineShare$State" "count" "I") (by decide +kernel)) (fun _ h9 => h9) rfl dX6_weightOfAll_6 ?_
  refine lv_icmp_ge (tgt := 43) hx hb dX6_weightOfAll_9 (by decide) (fun _ => ?_) (fun c => absurd (by decide) c)
  refine lv_iload_n hx hb dX6_weightOfAll_43 rfl (lv_at hl 1 rfl) ?_
  have hP9 := hP.sub (ws' := [(h0, .inr (6, [.ref te, .ref ta, .ref lo, .ref su, .ref pt, .int 0, .int ti, .long 0, .int (-1), .int (-1)]))]) [0] rfl
  have hD9 := hD.sub (ws' := [(h0, .inr (6, [.ref te, .ref ta, .ref lo, .ref su, .ref pt, .int 0, .int ti, .long 0, .int (-1), .int (-1)]))]) [0] (by decide) rfl
  have hK9 := hK.sub (tys' := []) [] rfl
  refine W.widen (k := 0) (n := 0) (Nat.le_of_ble_eq_true rfl) (Nat.le_of_ble_eq_true rfl) ?_
  exact W.iret (v := 0) hx hb hr (fun t ht hW => ⟨⟨0, (), rfl, rfl, by rw [ht]; exact hP9, va_K.moved hW.alike hK9, hD9⟩, hS.F ht⟩) hS.2.2 dX6_weightOfAll_44
theorem iw_X6_sumUp_X6 : ∀ w ∈ u_ws RX6 TX6 10, w ∈ wsX6_sumUp := by decide +kernel
set_option maxHeartbeats 4000000 in
set_option maxRecDepth 100000 in
theorem c_X6_sumUp (l : Launch) (dC : Nat → ClassId) (dI : Nat → Nat → Nat) (h0 : Nat) (te : Nat) (ta : Nat) (lo : Nat) (su : Nat) (pt : Nat) (ti : Int32) (sz : Nat) : Met l yX6_sumUp wsX6_sumUp ({ frames := 1, cells := 0, slots := 0, locals := 22 } : Room) (va_Pc [.ref h0] (fun U => U.heap.size = sz ∧ va_P (dC, dI) vwCl [(h0, .inr (6, [.ref te, .ref ta, .ref lo, .ref su, .ref pt, .int 0, .int ti, .long 0, .int (-1), .int (-1)])), (su, .inr (10, [.long 0, .long 0]))] U.heap ∧ va_K (dC, dI) vwCl [] U ∧ va_D (fun _ => True) [(h0, .inr (6, [.ref te, .ref ta, .ref lo, .ref su, .ref pt, .int 0, .int ti, .long 0, .int (-1), .int (-1)])), (su, .inr (10, [.long 0, .long 0]))])) (va_Qi (fun (r : Int32) (_ : Unit) => r = 1) (fun (_ : Unit) t => va_P (dC, dI) vwCl [(h0, .inr (6, [.ref te, .ref ta, .ref lo, .ref su, .ref pt, .int 0, .int ti, .long 0, .int (-1), .int (-1)])), (su, .inr (10, [.long 0, .long 0]))] t.heap ∧ va_K (dC, dI) vwCl [] t ∧ va_D (va_A [(h0, .inr (6, [.ref te, .ref ta, .ref lo, .ref su, .ref pt, .int 0, .int ti, .long 0, .int (-1), .int (-1)])), (su, .inr (10, [.long 0, .long 0]))] sz) [(h0, .inr (6, [.ref te, .ref ta, .ref lo, .ref su, .ref pt, .int 0, .int ti, .long 0, .int (-1), .int (-1)])), (su, .inr (10, [.long 0, .long 0]))]) (va_A [(h0, .inr (6, [.ref te, .ref ta, .ref lo, .ref su, .ref pt, .int 0, .int ti, .long 0, .int (-1), .int (-1)])), (su, .inr (10, [.long 0, .long 0]))] sz)) 0 0 (va_A [(h0, .inr (6, [.ref te, .ref ta, .ref lo, .ref su, .ref pt, .int 0, .int ti, .long 0, .int (-1), .int (-1)])), (su, .inr (10, [.long 0, .long 0]))] sz) := by
  refine Met.ofW (cc := cX6_sumUp) (maxL := 3) (ret := (some .int)) (by decide) rfl ?_
  intro p e s m args below meth c s₁ B hml hv
  obtain ⟨rfl, hsz, hP, hK, hD0⟩ := hv
  have hx := B.exec
  have hb := B.bytes
  have hr := B.returns
  have hts := atoms_spec (ws := wsX6_sumUp) B.pre
  have hown : s.vm.findClass RX6 = some m.cls := findClass_of_methodNamed B.named
  have hlocks := B.notSynchronized
  subst hsz
  have hD := hD0.self (sz := s.heap.size)
  obtain ⟨A, hAe⟩ : ∃ A, A = va_A [(h0, .inr (6, [.ref te, .ref ta, .ref lo, .ref su, .ref pt, .int 0, .int ti, .long 0, .int (-1), .int (-1)])), (su, .inr (10, [.long 0, .long 0]))] s.heap.size := ⟨_, rfl⟩
  rw [← hAe] at hD ⊢
  have hA : ∀ q : Nat, s.heap.size ≤ q → A q := fun q h => by rw [hAe]; exact Or.inr h
  have hS : va_S A s.heap s.heap [] := va_S.rf
  have hP : va_P (dC, dI) vwCl [(h0, .inr (6, [.ref te, .ref ta, .ref lo, .ref su, .ref pt, .int 0, .int ti, .long 0, .int (-1), .int (-1)])), (su, .inr (10, [.long 0, .long 0]))] s.heap := hP
  have hl := lv_entry ([.ref h0]) (n := 3) (Nat.le_of_ble_eq_true rfl)
  rw [lg_entry_eq]
  generalize (lg_sl ([.ref h0]) ++ List.replicate (3 - (lg_sl ([.ref h0])).length) Slot.unset).toArray = ls at hl ⊢
  have hl : lv_has ls 3 [(0, .ref h0)] := hl
  refine lv_iconst (v := 0) hx hb dX6_sumUp_0 (by decide) ?_
  refine lv_istore_n (lv' := [(1, .int 0), (0, .ref h0)]) hx hb dX6_sumUp_1 rfl hl (by decide) rfl (fun ls hl => ?_)
  refine lv_aload_n hx hb dX6_sumUp_2 rfl (lv_at hl 1 rfl) ?_
  refine va_get (D := (dC, dI)) (ci := 6) (v := .ref su) (C := RX6) (T := TX6) (N := 10) hx hb hts iw_X6_sumUp_X6 hown hK hP 0 rfl rfl 3 (by decide) (hts (.fieldLink RX6 27 "DeadlineShare$State" "sum" "LDeadlineShare$Wide;") (by decide +kernel)) (fun _ h9 => h9) rfl dX6_sumUp_3 ?_
  refine lv_lconst (v := 0) hx hb dX6_sumUp_6 (by decide) ?_
  have hPc := hP.sub (ws' := [(su, .inr (10, [.long 0, .long 0]))]) [1] rfl
  have hDc := hD.sub (ws' := [(su, .inr (10, [.long 0, .long 0]))]) [1] (by decide) rfl
  have hKc := hK.sub (tys' := []) [] rfl
  have hFc := va_free (wc := [(su, .inr (10, [.long 0, .long 0]))]) hD hS hA [1] rfl
  refine va_callv (va_runV (As := [.long 0]) (rest := []) ⟨hx, hb, hml, hown, hts⟩ (c_X10_set0 l dC dI su s.heap.size) (cwV 1 hts gX6_sumUp_X10_set rfl rfl rfl (by decide +kernel) ⟨Nat.le_of_ble_eq_true rfl, Nat.le_of_ble_eq_true rfl⟩) ⟨fun a U g mk q => by obtain ⟨q0, q1, qP, qK, qD⟩ := q; exact ⟨q0, q1, qP, va_K.moved (u := U) (U := U.calling g mk a) (Vm.Alike.refl U.vm) qK, qD⟩, va_recv hKc hPc (ci := 10) (q0 := 0) rfl rfl, fun U hU hW => ⟨rfl, by rw [hU], by rw [hU]; exact hPc, va_K.moved hW.alike hKc, hDc.weaken (fun _ _ _ _ => trivial)⟩⟩ rfl rfl hl.1 rfl (lv_room (Nat.le_of_ble_eq_true rfl)) dX6_sumUp_7 ⟨Nat.le_of_ble_eq_true rfl, Nat.le_of_ble_eq_true rfl⟩) hS (fun q _ h => hFc q h) hFc (fun u t H1 locs ht hvm hw hB hz1 hk1 hS => ?_)
  obtain ⟨hP1, hK1, hD1⟩ := hB
  rw [ht] at hP1
  have hK1 := va_K.moved hvm.symm hK1
  obtain ⟨hP, hD⟩ := va_join (wr := [(h0, .inr (6, [.ref te, .ref ta, .ref lo, .ref su, .ref pt, .int 0, .int ti, .long 0, .int (-1), .int (-1)]))]) (w1 := [(su, .inr (10, [.long 0, .long 0]))]) hP hD [1] [0] rfl rfl (by decide) (by decide) hk1 hFc hP1 hD1
  generalize H1 = H at hP hS ⊢
  have hP : va_P (dC, dI) vwCl [(h0, .inr (6, [.ref te, .ref ta, .ref lo, .ref su, .ref pt, .int 0, .int ti, .long 0, .int (-1), .int (-1)])), (su, .inr (10, [.long 0, .long 0]))] H := hP
  have hD : va_D A [(h0, .inr (6, [.ref te, .ref ta, .ref lo, .ref su, .ref pt, .int 0, .int ti, .long 0, .int (-1), .int (-1)])), (su, .inr (10, [.long 0, .long 0]))] := hD
  refine W.widen (k := 0) (n := 0) (Nat.le_of_ble_eq_true rfl) (Nat.le_of_ble_eq_true rfl) ?_
  refine lv_iconst (v := 0) hx hb dX6_sumUp_10 (by decide) ?_
  refine lv_istore_n (lv' := [(2, .int 0), (1, .int 0), (0, .ref h0)]) hx hb dX6_sumUp_11 rfl hl (by decide) rfl (fun ls hl => ?_)
  refine lv_iload_n hx hb dX6_sumUp_12 rfl (lv_at hl 0 rfl) ?_
  refine lv_aload_n hx hb dX6_sumUp_13 rfl (lv_at hl 2 rfl) ?_
  refine va_get (D := (dC, dI)) (ci := 6) (v := .int 0) (C := RX6) (T := TX6) (N := 10) hx hb hts iw_X6_sumUp_X6 hown hK hP 0 rfl rfl 5 (by decide) (hts (.fieldLink RX6 48 "DeadlineShare$State" "count" "I") (by decide +kernel)) (fun _ h9 => h9) rfl dX6_sumUp_14 ?_
  refine lv_icmp_ge (tgt := 77) hx hb dX6_sumUp_17 (by decide) (fun _ => ?_) (fun c => absurd (by decide) c)
  refine lv_iload_n hx hb dX6_sumUp_77 rfl (lv_at hl 1 rfl) ?_
  refine lv_if_le (tgt := 83) hx hb dX6_sumUp_78 (by decide) (fun _ => ?_) (fun c => absurd (by decide) c)
  refine lv_aload_n hx hb dX6_sumUp_83 rfl (lv_at hl 2 rfl) ?_
  refine va_get (D := (dC, dI)) (ci := 6) (v := .ref su) (C := RX6) (T := TX6) (N := 10) hx hb hts iw_X6_sumUp_X6 hown hK hP 0 rfl rfl 3 (by decide) (hts (.fieldLink RX6 27 "DeadlineShare$State" "sum" "LDeadlineShare$Wide;") (by decide +kernel)) (fun _ h9 => h9) rfl dX6_sumUp_84 ?_
  refine lv_aload_n hx hb dX6_sumUp_87 rfl (lv_at hl 2 rfl) ?_
  refine va_get (D := (dC, dI)) (ci := 6) (v := .long 0) (C := RX6) (T := TX6) (N := 10) hx hb hts iw_X6_sumUp_X6 hown hK hP 0 rfl rfl 7 (by decide) (hts (.fieldLink RX6 61 "DeadlineShare$State" "rest" "J") (by decide +kernel)) (fun _ h9 => h9) rfl dX6_sumUp_88 ?_
  have hPc := hP.sub (ws' := [(su, .inr (10, [.long 0, .long 0]))]) [1] rfl
  have hDc := hD.sub (ws' := [(su, .inr (10, [.long 0, .long 0]))]) [1] (by decide) rfl
  have hKc := hK.sub (tys' := []) [] rfl
  have hFc := va_free (wc := [(su, .inr (10, [.long 0, .long 0]))]) hD hS hA [1] rfl
  refine va_callv (va_runV (As := [.long 0]) (rest := []) ⟨hx, hb, hml, hown, hts⟩ (c_X10_set0 l dC dI su H.size) (cwV 1 hts gX6_sumUp_X10_set rfl rfl rfl (by decide +kernel) ⟨Nat.le_of_ble_eq_true rfl, Nat.le_of_ble_eq_true rfl⟩) ⟨fun a U g mk q => by obtain ⟨q0, q1, qP, qK, qD⟩ := q; exact ⟨q0, q1, qP, va_K.moved (u := U) (U := U.calling g mk a) (Vm.Alike.refl U.vm) qK, qD⟩, va_recv hKc hPc (ci := 10) (q0 := 0) rfl rfl, fun U hU hW => ⟨rfl, by rw [hU], by rw [hU]; exact hPc, va_K.moved hW.alike hKc, hDc.weaken (fun _ _ _ _ => trivial)⟩⟩ rfl rfl hl.1 rfl (lv_room (Nat.le_of_ble_eq_true rfl)) dX6_sumUp_91 ⟨Nat.le_of_ble_eq_true rfl, Nat.le_of_ble_eq_true rfl⟩) hS (fun q _ h => hFc q h) hFc (fun u t H1 locs ht hvm hw hB hz1 hk1 hS => ?_)
  obtain ⟨hP1, hK1, hD1⟩ := hB
  rw [ht] at hP1
  have hK1 := va_K.moved hvm.symm hK1
  obtain ⟨hP, hD⟩ := va_join (wr := [(h0, .inr (6, [.ref te, .ref ta, .ref lo, .ref su, .ref pt, .int 0, .int ti, .long 0, .int (-1), .int (-1)]))]) (w1 := [(su, .inr (10, [.long 0, .long 0]))]) hP hD [1] [0] rfl rfl (by decide) (by decide) hk1 hFc hP1 hD1
  generalize H1 = H at hP hS ⊢
  have hP : va_P (dC, dI) vwCl [(h0, .inr (6, [.ref te, .ref ta, .ref lo, .ref su, .ref pt, .int 0, .int ti, .long 0, .int (-1), .int (-1)])), (su, .inr (10, [.long 0, .long 0]))] H := hP
  have hD : va_D A [(h0, .inr (6, [.ref te, .ref ta, .ref lo, .ref su, .ref pt, .int 0, .int ti, .long 0, .int (-1), .int (-1)])), (su, .inr (10, [.long 0, .long 0]))] := hD
  refine W.widen (k := 0) (n := 0) (Nat.le_of_ble_eq_true rfl) (Nat.le_of_ble_eq_true rfl) ?_
  refine lv_iconst (v := 1) hx hb dX6_sumUp_94 (by decide) ?_
  have hP9 := hP.sub (ws' := [(h0, .inr (6, [.ref te, .ref ta, .ref lo, .ref su, .ref pt, .int 0, .int ti, .long 0, .int (-1), .int (-1)])), (su, .inr (10, [.long 0, .long 0]))]) [0, 1] rfl
  have hD9 := hD.sub (ws' := [(h0, .inr (6, [.ref te, .ref ta, .ref lo, .ref su, .ref pt, .int 0, .int ti, .long 0, .int (-1), .int (-1)])), (su, .inr (10, [.long 0, .long 0]))]) [0, 1] (by decide) rfl
  have hK9 := hK.sub (tys' := []) [] rfl
  refine W.widen (k := 0) (n := 0) (Nat.le_of_ble_eq_true rfl) (Nat.le_of_ble_eq_true rfl) ?_
  exact W.iret (v := 1) hx hb hr (fun t ht hW => ⟨⟨1, (), rfl, rfl, by rw [ht]; exact hP9, va_K.moved hW.alike hK9, hD9⟩, hS.F ht⟩) hS.2.2 dX6_sumUp_95
theorem iw_X6_wholeV_X6 : ∀ w ∈ u_ws RX6 TX6 10, w ∈ wsX6_wholeV := by decide +kernel
set_option maxHeartbeats 4000000 in
set_option maxRecDepth 100000 in
theorem c_X6_wholeV (l : Launch) (dC : Nat → ClassId) (dI : Nat → Nat → Nat) (h0 : Nat) (te : Nat) (ta : Nat) (lo : Nat) (su : Nat) (pt : Nat) (ti : Int32) (sz : Nat) : Met l yX6_wholeV wsX6_wholeV ({ frames := 2, cells := 0, slots := 0, locals := 47 } : Room) (va_Pc [.ref h0] (fun U => U.heap.size = sz ∧ va_P (dC, dI) vwCl [(h0, .inr (6, [.ref te, .ref ta, .ref lo, .ref su, .ref pt, .int 0, .int ti, .long 0, .int (-1), .int (-1)])), (su, .inr (10, [.long 0, .long 0]))] U.heap ∧ va_K (dC, dI) vwCl [] U ∧ va_D (fun _ => True) [(h0, .inr (6, [.ref te, .ref ta, .ref lo, .ref su, .ref pt, .int 0, .int ti, .long 0, .int (-1), .int (-1)])), (su, .inr (10, [.long 0, .long 0]))])) (va_Ql (fun (r : Int64) (_ : Unit) => r = 0) (fun (_ : Unit) t => va_P (dC, dI) vwCl [(h0, .inr (6, [.ref te, .ref ta, .ref lo, .ref su, .ref pt, .int 0, .int ti, .long 0, .int (-1), .int (-1)])), (su, .inr (10, [.long 0, .long 0]))] t.heap ∧ va_K (dC, dI) vwCl [] t ∧ va_D (va_A [(h0, .inr (6, [.ref te, .ref ta, .ref lo, .ref su, .ref pt, .int 0, .int ti, .long 0, .int (-1), .int (-1)])), (su, .inr (10, [.long 0, .long 0]))] sz) [(h0, .inr (6, [.ref te, .ref ta, .ref lo, .ref su, .ref pt, .int 0, .int ti, .long 0, .int (-1), .int (-1)])), (su, .inr (10, [.long 0, .long 0]))]) (va_A [(h0, .inr (6, [.ref te, .ref ta, .ref lo, .ref su, .ref pt, .int 0, .int ti, .long 0, .int (-1), .int (-1)])), (su, .inr (10, [.long 0, .long 0]))] sz)) 0 0 (va_A [(h0, .inr (6, [.ref te, .ref ta, .ref lo, .ref su, .ref pt, .int 0, .int ti, .long 0, .int (-1), .int (-1)])), (su, .inr (10, [.long 0, .long 0]))] sz) := by
  refine Met.ofW (cc := cX6_wholeV) (maxL := 2) (ret := (some .long)) (by decide) rfl ?_
  intro p e s m args below meth c s₁ B hml hv
  obtain ⟨rfl, hsz, hP, hK, hD0⟩ := hv
  have hx := B.exec
  have hb := B.bytes
  have hr := B.returns
  have hts := atoms_spec (ws := wsX6_wholeV) B.pre
  have hown : s.vm.findClass RX6 = some m.cls := findClass_of_methodNamed B.named
  have hlocks := B.notSynchronized
  subst hsz
  have hD := hD0.self (sz := s.heap.size)
  obtain ⟨A, hAe⟩ : ∃ A, A = va_A [(h0, .inr (6, [.ref te, .ref ta, .ref lo, .ref su, .ref pt, .int 0, .int ti, .long 0, .int (-1), .int (-1)])), (su, .inr (10, [.long 0, .long 0]))] s.heap.size := ⟨_, rfl⟩
  rw [← hAe] at hD ⊢
  have hA : ∀ q : Nat, s.heap.size ≤ q → A q := fun q h => by rw [hAe]; exact Or.inr h
  have hS : va_S A s.heap s.heap [] := va_S.rf
  have hP : va_P (dC, dI) vwCl [(h0, .inr (6, [.ref te, .ref ta, .ref lo, .ref su, .ref pt, .int 0, .int ti, .long 0, .int (-1), .int (-1)])), (su, .inr (10, [.long 0, .long 0]))] s.heap := hP
  have hl := lv_entry ([.ref h0]) (n := 2) (Nat.le_of_ble_eq_true rfl)
  rw [lg_entry_eq]
  generalize (lg_sl ([.ref h0]) ++ List.replicate (2 - (lg_sl ([.ref h0])).length) Slot.unset).toArray = ls at hl ⊢
  have hl : lv_has ls 2 [(0, .ref h0)] := hl
  refine lv_aload_n hx hb dX6_wholeV_0 rfl (lv_at hl 0 rfl) ?_
  have hPc := hP.sub (ws' := [(h0, .inr (6, [.ref te, .ref ta, .ref lo, .ref su, .ref pt, .int 0, .int ti, .long 0, .int (-1), .int (-1)])), (su, .inr (10, [.long 0, .long 0]))]) [0, 1] rfl
  have hDc := hD.sub (ws' := [(h0, .inr (6, [.ref te, .ref ta, .ref lo, .ref su, .ref pt, .int 0, .int ti, .long 0, .int (-1), .int (-1)])), (su, .inr (10, [.long 0, .long 0]))]) [0, 1] (by decide) rfl
  have hKc := hK.sub (tys' := []) [] rfl
  have hFc := va_free (wc := [(h0, .inr (6, [.ref te, .ref ta, .ref lo, .ref su, .ref pt, .int 0, .int ti, .long 0, .int (-1), .int (-1)])), (su, .inr (10, [.long 0, .long 0]))]) hD hS hA [0, 1] rfl
  refine va_calli (va_runV (As := []) (rest := []) ⟨hx, hb, hml, hown, hts⟩ (c_X6_sumUp l dC dI h0 te ta lo su pt ti s.heap.size) (cwV 0 hts gX6_wholeV_X6_sumUp rfl rfl rfl (by decide +kernel) ⟨Nat.le_of_ble_eq_true rfl, Nat.le_of_ble_eq_true rfl⟩) ⟨fun a U g mk q => by obtain ⟨q0, q1, qP, qK, qD⟩ := q; exact ⟨q0, q1, qP, va_K.moved (u := U) (U := U.calling g mk a) (Vm.Alike.refl U.vm) qK, qD⟩, va_recv hKc hPc (ci := 6) (q0 := 0) rfl rfl, fun U hU hW => ⟨rfl, by rw [hU], by rw [hU]; exact hPc, va_K.moved hW.alike hKc, hDc.weaken (fun _ _ _ _ => trivial)⟩⟩ rfl rfl hl.1 rfl (lv_room (Nat.le_of_ble_eq_true rfl)) dX6_wholeV_1 ⟨Nat.le_of_ble_eq_true rfl, Nat.le_of_ble_eq_true rfl⟩) hS (fun q _ h => hFc q h) hFc (fun r_1 u t H1 locs ht hvm hw hB hz1 hk1 hS => ?_)
  obtain ⟨hP1, hK1, hD1⟩ := hB
  rw [ht] at hP1
  have hK1 := va_K.moved hvm.symm hK1
  obtain ⟨hP, hD⟩ := va_join (wr := []) (w1 := [(h0, .inr (6, [.ref te, .ref ta, .ref lo, .ref su, .ref pt, .int 0, .int ti, .long 0, .int (-1), .int (-1)])), (su, .inr (10, [.long 0, .long 0]))]) hP hD [0, 1] [] rfl rfl (by decide) (by decide) hk1 hFc hP1 hD1
  generalize H1 = H at hP hS ⊢
  have hP : va_P (dC, dI) vwCl [(h0, .inr (6, [.ref te, .ref ta, .ref lo, .ref su, .ref pt, .int 0, .int ti, .long 0, .int (-1), .int (-1)])), (su, .inr (10, [.long 0, .long 0]))] H := hP
  have hD : va_D A [(h0, .inr (6, [.ref te, .ref ta, .ref lo, .ref su, .ref pt, .int 0, .int ti, .long 0, .int (-1), .int (-1)])), (su, .inr (10, [.long 0, .long 0]))] := hD
  refine W.widen (k := 0) (n := 0) (Nat.le_of_ble_eq_true rfl) (Nat.le_of_ble_eq_true rfl) ?_
  have hw : r_1 = 1 := hw
  subst hw
  refine lv_istore_n (lv' := [(1, .int 1), (0, .ref h0)]) hx hb dX6_wholeV_4 rfl hl (by decide) rfl (fun ls hl => ?_)
  refine lv_aload_n hx hb dX6_wholeV_5 rfl (lv_at hl 1 rfl) ?_
  refine va_get (D := (dC, dI)) (ci := 6) (v := .ref su) (C := RX6) (T := TX6) (N := 10) hx hb hts iw_X6_wholeV_X6 hown hK hP 0 rfl rfl 3 (by decide) (hts (.fieldLink RX6 27 "DeadlineShare$State" "sum" "LDeadlineShare$Wide;") (by decide +kernel)) (fun _ h9 => h9) rfl dX6_wholeV_6 ?_
  refine lv_iload_n hx hb dX6_wholeV_9 rfl (lv_at hl 0 rfl) ?_
  refine lv_i2l (v := 1) hx hb dX6_wholeV_10 (by decide) ?_
  have hPc := hP.sub (ws' := [(su, .inr (10, [.long 0, .long 0]))]) [1] rfl
  have hDc := hD.sub (ws' := [(su, .inr (10, [.long 0, .long 0]))]) [1] (by decide) rfl
  have hKc := hK.sub (tys' := []) [] rfl
  have hFc := va_free (wc := [(su, .inr (10, [.long 0, .long 0]))]) hD hS hA [1] rfl
  refine va_callv (va_runV (As := [.long 1]) (rest := []) ⟨hx, hb, hml, hown, hts⟩ (c_X10_divide1 l dC dI su H.size) (cwV 1 hts gX6_wholeV_X10_divide rfl rfl rfl (by decide +kernel) ⟨Nat.le_of_ble_eq_true rfl, Nat.le_of_ble_eq_true rfl⟩) ⟨fun a U g mk q => by obtain ⟨q0, q1, qP, qK, qD⟩ := q; exact ⟨q0, q1, qP, va_K.moved (u := U) (U := U.calling g mk a) (Vm.Alike.refl U.vm) qK, qD⟩, va_recv hKc hPc (ci := 10) (q0 := 0) rfl rfl, fun U hU hW => ⟨rfl, by rw [hU], by rw [hU]; exact hPc, va_K.moved hW.alike hKc, hDc.weaken (fun _ _ _ _ => trivial)⟩⟩ rfl rfl hl.1 rfl (lv_room (Nat.le_of_ble_eq_true rfl)) dX6_wholeV_11 ⟨Nat.le_of_ble_eq_true rfl, Nat.le_of_ble_eq_true rfl⟩) hS (fun q _ h => hFc q h) hFc (fun u t H1 locs ht hvm hw hB hz1 hk1 hS => ?_)
  obtain ⟨hP1, hK1, hD1⟩ := hB
  rw [ht] at hP1
  have hK1 := va_K.moved hvm.symm hK1
  obtain ⟨hP, hD⟩ := va_join (wr := [(h0, .inr (6, [.ref te, .ref ta, .ref lo, .ref su, .ref pt, .int 0, .int ti, .long 0, .int (-1), .int (-1)]))]) (w1 := [(su, .inr (10, [.long 0, .long 0]))]) hP hD [1] [0] rfl rfl (by decide) (by decide) hk1 hFc hP1 hD1
  generalize H1 = H at hP hS ⊢
  have hP : va_P (dC, dI) vwCl [(h0, .inr (6, [.ref te, .ref ta, .ref lo, .ref su, .ref pt, .int 0, .int ti, .long 0, .int (-1), .int (-1)])), (su, .inr (10, [.long 0, .long 0]))] H := hP
  have hD : va_D A [(h0, .inr (6, [.ref te, .ref ta, .ref lo, .ref su, .ref pt, .int 0, .int ti, .long 0, .int (-1), .int (-1)])), (su, .inr (10, [.long 0, .long 0]))] := hD
  refine W.widen (k := 0) (n := 0) (Nat.le_of_ble_eq_true rfl) (Nat.le_of_ble_eq_true rfl) ?_
  refine lv_aload_n hx hb dX6_wholeV_14 rfl (lv_at hl 1 rfl) ?_
  refine va_get (D := (dC, dI)) (ci := 6) (v := .ref su) (C := RX6) (T := TX6) (N := 10) hx hb hts iw_X6_wholeV_X6 hown hK hP 0 rfl rfl 3 (by decide) (hts (.fieldLink RX6 27 "DeadlineShare$State" "sum" "LDeadlineShare$Wide;") (by decide +kernel)) (fun _ h9 => h9) rfl dX6_wholeV_15 ?_
  have hPc := hP.sub (ws' := [(su, .inr (10, [.long 0, .long 0]))]) [1] rfl
  have hDc := hD.sub (ws' := [(su, .inr (10, [.long 0, .long 0]))]) [1] (by decide) rfl
  have hKc := hK.sub (tys' := []) [] rfl
  have hFc := va_free (wc := [(su, .inr (10, [.long 0, .long 0]))]) hD hS hA [1] rfl
  refine va_calll (va_runV (As := []) (rest := []) ⟨hx, hb, hml, hown, hts⟩ (c_X10_asLong0 l dC dI su H.size) (cwV 0 hts gX6_wholeV_X10_asLong rfl rfl rfl (by decide +kernel) ⟨Nat.le_of_ble_eq_true rfl, Nat.le_of_ble_eq_true rfl⟩) ⟨fun a U g mk q => by obtain ⟨q0, q1, qP, qK, qD⟩ := q; exact ⟨q0, q1, qP, va_K.moved (u := U) (U := U.calling g mk a) (Vm.Alike.refl U.vm) qK, qD⟩, va_recv hKc hPc (ci := 10) (q0 := 0) rfl rfl, fun U hU hW => ⟨rfl, by rw [hU], by rw [hU]; exact hPc, va_K.moved hW.alike hKc, hDc.weaken (fun _ _ _ _ => trivial)⟩⟩ rfl rfl hl.1 rfl (lv_room (Nat.le_of_ble_eq_true rfl)) dX6_wholeV_18 ⟨Nat.le_of_ble_eq_true rfl, Nat.le_of_ble_eq_true rfl⟩) hS (fun q _ h => hFc q h) hFc (fun r_2 u t H1 locs ht hvm hw hB hz1 hk1 hS => ?_)
  obtain ⟨hP1, hK1, hD1⟩ := hB
  rw [ht] at hP1
  have hK1 := va_K.moved hvm.symm hK1
  obtain ⟨hP, hD⟩ := va_join (wr := [(h0, .inr (6, [.ref te, .ref ta, .ref lo, .ref su, .ref pt, .int 0, .int ti, .long 0, .int (-1), .int (-1)]))]) (w1 := [(su, .inr (10, [.long 0, .long 0]))]) hP hD [1] [0] rfl rfl (by decide) (by decide) hk1 hFc hP1 hD1
  generalize H1 = H at hP hS ⊢
  have hP : va_P (dC, dI) vwCl [(h0, .inr (6, [.ref te, .ref ta, .ref lo, .ref su, .ref pt, .int 0, .int ti, .long 0, .int (-1), .int (-1)])), (su, .inr (10, [.long 0, .long 0]))] H := hP
  have hD : va_D A [(h0, .inr (6, [.ref te, .ref ta, .ref lo, .ref su, .ref pt, .int 0, .int ti, .long 0, .int (-1), .int (-1)])), (su, .inr (10, [.long 0, .long 0]))] := hD
  refine W.widen (k := 0) (n := 0) (Nat.le_of_ble_eq_true rfl) (Nat.le_of_ble_eq_true rfl) ?_
  have hw : r_2 = 0 := hw
  subst hw
  have hP9 := hP.sub (ws' := [(h0, .inr (6, [.ref te, .ref ta, .ref lo, .ref su, .ref pt, .int 0, .int ti, .long 0, .int (-1), .int (-1)])), (su, .inr (10, [.long 0, .long 0]))]) [0, 1] rfl
  have hD9 := hD.sub (ws' := [(h0, .inr (6, [.ref te, .ref ta, .ref lo, .ref su, .ref pt, .int 0, .int ti, .long 0, .int (-1), .int (-1)])), (su, .inr (10, [.long 0, .long 0]))]) [0, 1] (by decide) rfl
  have hK9 := hK.sub (tys' := []) [] rfl
  refine W.widen (k := 0) (n := 0) (Nat.le_of_ble_eq_true rfl) (Nat.le_of_ble_eq_true rfl) ?_
  exact W.lret (v := 0) hx hb hr (fun t ht hW => ⟨⟨0, (), rfl, rfl, by rw [ht]; exact hP9, va_K.moved hW.alike hK9, hD9⟩, hS.F ht⟩) hS.2.2 dX6_wholeV_21
theorem iw_X6_restOfV_X6 : ∀ w ∈ u_ws RX6 TX6 10, w ∈ wsX6_restOfV := by decide +kernel
set_option maxHeartbeats 4000000 in
set_option maxRecDepth 100000 in
theorem c_X6_restOfV (l : Launch) (dC : Nat → ClassId) (dI : Nat → Nat → Nat) (h0 : Nat) (te : Nat) (ta : Nat) (lo : Nat) (su : Nat) (pt : Nat) (ti : Int32) (sz : Nat) : Met l yX6_restOfV wsX6_restOfV ({ frames := 2, cells := 0, slots := 0, locals := 47 } : Room) (va_Pc [.ref h0] (fun U => U.heap.size = sz ∧ va_P (dC, dI) vwCl [(h0, .inr (6, [.ref te, .ref ta, .ref lo, .ref su, .ref pt, .int 0, .int ti, .long 0, .int (-1), .int (-1)])), (su, .inr (10, [.long 0, .long 0]))] U.heap ∧ va_K (dC, dI) vwCl [] U ∧ va_D (fun _ => True) [(h0, .inr (6, [.ref te, .ref ta, .ref lo, .ref su, .ref pt, .int 0, .int ti, .long 0, .int (-1), .int (-1)])), (su, .inr (10, [.long 0, .long 0]))])) (va_Ql (fun (r : Int64) (_ : Unit) => r = 0) (fun (_ : Unit) t => va_P (dC, dI) vwCl [(h0, .inr (6, [.ref te, .ref ta, .ref lo, .ref su, .ref pt, .int 0, .int ti, .long 0, .int (-1), .int (-1)])), (su, .inr (10, [.long 0, .long 0]))] t.heap ∧ va_K (dC, dI) vwCl [] t ∧ va_D (va_A [(h0, .inr (6, [.ref te, .ref ta, .ref lo, .ref su, .ref pt, .int 0, .int ti, .long 0, .int (-1), .int (-1)])), (su, .inr (10, [.long 0, .long 0]))] sz) [(h0, .inr (6, [.ref te, .ref ta, .ref lo, .ref su, .ref pt, .int 0, .int ti, .long 0, .int (-1), .int (-1)])), (su, .inr (10, [.long 0, .long 0]))]) (va_A [(h0, .inr (6, [.ref te, .ref ta, .ref lo, .ref su, .ref pt, .int 0, .int ti, .long 0, .int (-1), .int (-1)])), (su, .inr (10, [.long 0, .long 0]))] sz)) 0 0 (va_A [(h0, .inr (6, [.ref te, .ref ta, .ref lo, .ref su, .ref pt, .int 0, .int ti, .long 0, .int (-1), .int (-1)])), (su, .inr (10, [.long 0, .long 0]))] sz) := by
  refine Met.ofW (cc := cX6_restOfV) (maxL := 2) (ret := (some .long)) (by decide) rfl ?_
  intro p e s m args below meth c s₁ B hml hv
  obtain ⟨rfl, hsz, hP, hK, hD0⟩ := hv
  have hx := B.exec
  have hb := B.bytes
  have hr := B.returns
  have hts := atoms_spec (ws := wsX6_restOfV) B.pre
  have hown : s.vm.findClass RX6 = some m.cls := findClass_of_methodNamed B.named
  have hlocks := B.notSynchronized
  subst hsz
  have hD := hD0.self (sz := s.heap.size)
  obtain ⟨A, hAe⟩ : ∃ A, A = va_A [(h0, .inr (6, [.ref te, .ref ta, .ref lo, .ref su, .ref pt, .int 0, .int ti, .long 0, .int (-1), .int (-1)])), (su, .inr (10, [.long 0, .long 0]))] s.heap.size := ⟨_, rfl⟩
  rw [← hAe] at hD ⊢
  have hA : ∀ q : Nat, s.heap.size ≤ q → A q := fun q h => by rw [hAe]; exact Or.inr h
  have hS : va_S A s.heap s.heap [] := va_S.rf
  have hP : va_P (dC, dI) vwCl [(h0, .inr (6, [.ref te, .ref ta, .ref lo, .ref su, .ref pt, .int 0, .int ti, .long 0, .int (-1), .int (-1)])), (su, .inr (10, [.long 0, .long 0]))] s.heap := hP
  have hl := lv_entry ([.ref h0]) (n := 2) (Nat.le_of_ble_eq_true rfl)
  rw [lg_entry_eq]
  generalize (lg_sl ([.ref h0]) ++ List.replicate (2 - (lg_sl ([.ref h0])).length) Slot.unset).toArray = ls at hl ⊢
  have hl : lv_has ls 2 [(0, .ref h0)] := hl
  refine lv_aload_n hx hb dX6_restOfV_0 rfl (lv_at hl 0 rfl) ?_
  have hPc := hP.sub (ws' := [(h0, .inr (6, [.ref te, .ref ta, .ref lo, .ref su, .ref pt, .int 0, .int ti, .long 0, .int (-1), .int (-1)])), (su, .inr (10, [.long 0, .long 0]))]) [0, 1] rfl
  have hDc := hD.sub (ws' := [(h0, .inr (6, [.ref te, .ref ta, .ref lo, .ref su, .ref pt, .int 0, .int ti, .long 0, .int (-1), .int (-1)])), (su, .inr (10, [.long 0, .long 0]))]) [0, 1] (by decide) rfl
  have hKc := hK.sub (tys' := []) [] rfl
  have hFc := va_free (wc := [(h0, .inr (6, [.ref te, .ref ta, .ref lo, .ref su, .ref pt, .int 0, .int ti, .long 0, .int (-1), .int (-1)])), (su, .inr (10, [.long 0, .long 0]))]) hD hS hA [0, 1] rfl
  refine va_calli (va_runV (As := []) (rest := []) ⟨hx, hb, hml, hown, hts⟩ (c_X6_sumUp l dC dI h0 te ta lo su pt ti s.heap.size) (cwV 0 hts gX6_restOfV_X6_sumUp rfl rfl rfl (by decide +kernel) ⟨Nat.le_of_ble_eq_true rfl, Nat.le_of_ble_eq_true rfl⟩) ⟨fun a U g mk q => by obtain ⟨q0, q1, qP, qK, qD⟩ := q; exact ⟨q0, q1, qP, va_K.moved (u := U) (U := U.calling g mk a) (Vm.Alike.refl U.vm) qK, qD⟩, va_recv hKc hPc (ci := 6) (q0 := 0) rfl rfl, fun U hU hW => ⟨rfl, by rw [hU], by rw [hU]; exact hPc, va_K.moved hW.alike hKc, hDc.weaken (fun _ _ _ _ => trivial)⟩⟩ rfl rfl hl.1 rfl (lv_room (Nat.le_of_ble_eq_true rfl)) dX6_restOfV_1 ⟨Nat.le_of_ble_eq_true rfl, Nat.le_of_ble_eq_true rfl⟩) hS (fun q _ h => hFc q h) hFc (fun r_1 u t H1 locs ht hvm hw hB hz1 hk1 hS => ?_)
  obtain ⟨hP1, hK1, hD1⟩ := hB
  rw [ht] at hP1
  have hK1 := va_K.moved hvm.symm hK1
  obtain ⟨hP, hD⟩ := va_join (wr := []) (w1 := [(h0, .inr (6, [.ref te, .ref ta, .ref lo, .ref su, .ref pt, .int 0, .int ti, .long 0, .int (-1), .int (-1)])), (su, .inr (10, [.long 0, .long 0]))]) hP hD [0, 1] [] rfl rfl (by decide) (by decide) hk1 hFc hP1 hD1
  generalize H1 = H at hP hS ⊢
  have hP : va_P (dC, dI) vwCl [(h0, .inr (6, [.ref te, .ref ta, .ref lo, .ref su, .ref pt, .int 0, .int ti, .long 0, .int (-1), .int (-1)])), (su, .inr (10, [.long 0, .long 0]))] H := hP
  have hD : va_D A [(h0, .inr (6, [.ref te, .ref ta, .ref lo, .ref su, .ref pt, .int 0, .int ti, .long 0, .int (-1), .int (-1)])), (su, .inr (10, [.long 0, .long 0]))] := hD
  refine W.widen (k := 0) (n := 0) (Nat.le_of_ble_eq_true rfl) (Nat.le_of_ble_eq_true rfl) ?_
  have hw : r_1 = 1 := hw
  subst hw
  refine lv_istore_n (lv' := [(1, .int 1), (0, .ref h0)]) hx hb dX6_restOfV_4 rfl hl (by decide) rfl (fun ls hl => ?_)
  refine lv_aload_n hx hb dX6_restOfV_5 rfl (lv_at hl 1 rfl) ?_
  refine va_get (D := (dC, dI)) (ci := 6) (v := .ref su) (C := RX6) (T := TX6) (N := 10) hx hb hts iw_X6_restOfV_X6 hown hK hP 0 rfl rfl 3 (by decide) (hts (.fieldLink RX6 27 "DeadlineShare$State" "sum" "LDeadlineShare$Wide;") (by decide +kernel)) (fun _ h9 => h9) rfl dX6_restOfV_6 ?_
  refine lv_iload_n hx hb dX6_restOfV_9 rfl (lv_at hl 0 rfl) ?_
  refine lv_i2l (v := 1) hx hb dX6_restOfV_10 (by decide) ?_
  have hPc := hP.sub (ws' := [(su, .inr (10, [.long 0, .long 0]))]) [1] rfl
  have hDc := hD.sub (ws' := [(su, .inr (10, [.long 0, .long 0]))]) [1] (by decide) rfl
  have hKc := hK.sub (tys' := []) [] rfl
  have hFc := va_free (wc := [(su, .inr (10, [.long 0, .long 0]))]) hD hS hA [1] rfl
  refine va_calll (va_runV (As := [.long 1]) (rest := []) ⟨hx, hb, hml, hown, hts⟩ (c_X10_modulo1 l dC dI su H.size) (cwV 1 hts gX6_restOfV_X10_modulo rfl rfl rfl (by decide +kernel) ⟨Nat.le_of_ble_eq_true rfl, Nat.le_of_ble_eq_true rfl⟩) ⟨fun a U g mk q => by obtain ⟨q0, q1, qP, qK, qD⟩ := q; exact ⟨q0, q1, qP, va_K.moved (u := U) (U := U.calling g mk a) (Vm.Alike.refl U.vm) qK, qD⟩, va_recv hKc hPc (ci := 10) (q0 := 0) rfl rfl, fun U hU hW => ⟨rfl, by rw [hU], by rw [hU]; exact hPc, va_K.moved hW.alike hKc, hDc.weaken (fun _ _ _ _ => trivial)⟩⟩ rfl rfl hl.1 rfl (lv_room (Nat.le_of_ble_eq_true rfl)) dX6_restOfV_11 ⟨Nat.le_of_ble_eq_true rfl, Nat.le_of_ble_eq_true rfl⟩) hS (fun q _ h => hFc q h) hFc (fun r_2 u t H1 locs ht hvm hw hB hz1 hk1 hS => ?_)
  obtain ⟨hP1, hK1, hD1⟩ := hB
  rw [ht] at hP1
  have hK1 := va_K.moved hvm.symm hK1
  obtain ⟨hP, hD⟩ := va_join (wr := [(h0, .inr (6, [.ref te, .ref ta, .ref lo, .ref su, .ref pt, .int 0, .int ti, .long 0, .int (-1), .int (-1)]))]) (w1 := [(su, .inr (10, [.long 0, .long 0]))]) hP hD [1] [0] rfl rfl (by decide) (by decide) hk1 hFc hP1 hD1
  generalize H1 = H at hP hS ⊢
  have hP : va_P (dC, dI) vwCl [(h0, .inr (6, [.ref te, .ref ta, .ref lo, .ref su, .ref pt, .int 0, .int ti, .long 0, .int (-1), .int (-1)])), (su, .inr (10, [.long 0, .long 0]))] H := hP
  have hD : va_D A [(h0, .inr (6, [.ref te, .ref ta, .ref lo, .ref su, .ref pt, .int 0, .int ti, .long 0, .int (-1), .int (-1)])), (su, .inr (10, [.long 0, .long 0]))] := hD
  refine W.widen (k := 0) (n := 0) (Nat.le_of_ble_eq_true rfl) (Nat.le_of_ble_eq_true rfl) ?_
  have hw : r_2 = 0 := hw
  subst hw
  have hP9 := hP.sub (ws' := [(h0, .inr (6, [.ref te, .ref ta, .ref lo, .ref su, .ref pt, .int 0, .int ti, .long 0, .int (-1), .int (-1)])), (su, .inr (10, [.long 0, .long 0]))]) [0, 1] rfl
  have hD9 := hD.sub (ws' := [(h0, .inr (6, [.ref te, .ref ta, .ref lo, .ref su, .ref pt, .int 0, .int ti, .long 0, .int (-1), .int (-1)])), (su, .inr (10, [.long 0, .long 0]))]) [0, 1] (by decide) rfl
  have hK9 := hK.sub (tys' := []) [] rfl
  refine W.widen (k := 0) (n := 0) (Nat.le_of_ble_eq_true rfl) (Nat.le_of_ble_eq_true rfl) ?_
  exact W.lret (v := 0) hx hb hr (fun t ht hW => ⟨⟨0, (), rfl, rfl, by rw [ht]; exact hP9, va_K.moved hW.alike hK9, hD9⟩, hS.F ht⟩) hS.2.2 dX6_restOfV_14
theorem iw_X6_howManyAre_X6 : ∀ w ∈ u_ws RX6 TX6 10, w ∈ wsX6_howManyAre := by decide +kernel
set_option maxHeartbeats 4000000 in
set_option maxRecDepth 100000 in
theorem c_X6_howManyAre (l : Launch) (dC : Nat → ClassId) (dI : Nat → Nat → Nat) (h0 : Nat) (kd : Int32) (te : Nat) (ta : Nat) (lo : Nat) (su : Nat) (pt : Nat) (ti : Int32) (sz : Nat) : Met l yX6_howManyAre wsX6_howManyAre ({ frames := 0, cells := 0, slots := 0, locals := 0 } : Room) (va_Pc [.ref h0, .int kd] (fun U => U.heap.size = sz ∧ va_P (dC, dI) vwCl [(h0, .inr (6, [.ref te, .ref ta, .ref lo, .ref su, .ref pt, .int 0, .int ti, .long 0, .int (-1), .int (-1)]))] U.heap ∧ va_K (dC, dI) vwCl [] U ∧ va_D (fun _ => True) [(h0, .inr (6, [.ref te, .ref ta, .ref lo, .ref su, .ref pt, .int 0, .int ti, .long 0, .int (-1), .int (-1)]))])) (va_Qi (fun (r : Int32) (_ : Unit) => r = 0) (fun (_ : Unit) t => va_P (dC, dI) vwCl [(h0, .inr (6, [.ref te, .ref ta, .ref lo, .ref su, .ref pt, .int 0, .int ti, .long 0, .int (-1), .int (-1)]))] t.heap ∧ va_K (dC, dI) vwCl [] t ∧ va_D (va_A [(h0, .inr (6, [.ref te, .ref ta, .ref lo, .ref su, .ref pt, .int 0, .int ti, .long 0, .int (-1), .int (-1)]))] sz) [(h0, .inr (6, [.ref te, .ref ta, .ref lo, .ref su, .ref pt, .int 0, .int ti, .long 0, .int (-1), .int (-1)]))]) (va_A [(h0, .inr (6, [.ref te, .ref ta, .ref lo, .ref su, .ref pt, .int 0, .int ti, .long 0, .int (-1), .int (-1)]))] sz)) 0 0 (va_A [(h0, .inr (6, [.ref te, .ref ta, .ref lo, .ref su, .ref pt, .int 0, .int ti, .long 0, .int (-1), .int (-1)]))] sz) := by
  refine Met.ofW (cc := cX6_howManyAre) (maxL := 4) (ret := (some .int)) (by decide) rfl ?_
  intro p e s m args below meth c s₁ B hml hv
  obtain ⟨rfl, hsz, hP, hK, hD0⟩ := hv
  have hx := B.exec
  have hb := B.bytes
  have hr := B.returns
  have hts := atoms_spec (ws := wsX6_howManyAre) B.pre
  have hown : s.vm.findClass RX6 = some m.cls := findClass_of_methodNamed B.named
  have hlocks := B.notSynchronized
  subst hsz
  have hD := hD0.self (sz := s.heap.size)
  obtain ⟨A, hAe⟩ : ∃ A, A = va_A [(h0, .inr (6, [.ref te, .ref ta, .ref lo, .ref su, .ref pt, .int 0, .int ti, .long 0, .int (-1), .int (-1)]))] s.heap.size := ⟨_, rfl⟩
  rw [← hAe] at hD ⊢
  have hA : ∀ q : Nat, s.heap.size ≤ q → A q := fun q h => by rw [hAe]; exact Or.inr h
  have hS : va_S A s.heap s.heap [] := va_S.rf
  have hP : va_P (dC, dI) vwCl [(h0, .inr (6, [.ref te, .ref ta, .ref lo, .ref su, .ref pt, .int 0, .int ti, .long 0, .int (-1), .int (-1)]))] s.heap := hP
  have hl := lv_entry ([.ref h0, .int kd]) (n := 4) (Nat.le_of_ble_eq_true rfl)
  rw [lg_entry_eq]
  generalize (lg_sl ([.ref h0, .int kd]) ++ List.replicate (4 - (lg_sl ([.ref h0, .int kd])).length) Slot.unset).toArray = ls at hl ⊢
  have hl : lv_has ls 4 [(0, .ref h0), (1, .int kd)] := hl
  refine lv_iconst (v := 0) hx hb dX6_howManyAre_0 (by decide) ?_
  refine lv_istore_n (lv' := [(2, .int 0), (0, .ref h0), (1, .int kd)]) hx hb dX6_howManyAre_1 rfl hl (by decide) rfl (fun ls hl => ?_)
  refine lv_iconst (v := 0) hx hb dX6_howManyAre_2 (by decide) ?_
  refine lv_istore_n (lv' := [(3, .int 0), (2, .int 0), (0, .ref h0), (1, .int kd)]) hx hb dX6_howManyAre_3 rfl hl (by decide) rfl (fun ls hl => ?_)
  refine lv_iload_n hx hb dX6_howManyAre_4 rfl (lv_at hl 0 rfl) ?_
  refine lv_aload_n hx hb dX6_howManyAre_5 rfl (lv_at hl 2 rfl) ?_
  refine va_get (D := (dC, dI)) (ci := 6) (v := .int 0) (C := RX6) (T := TX6) (N := 10) hx hb hts iw_X6_howManyAre_X6 hown hK hP 0 rfl rfl 5 (by decide) (hts (.fieldLink RX6 48 "DeadlineShare$State" "count" "I") (by decide +kernel)) (fun _ h9 => h9) rfl dX6_howManyAre_6 ?_
  refine lv_icmp_ge (tgt := 34) hx hb dX6_howManyAre_9 (by decide) (fun _ => ?_) (fun c => absurd (by decide) c)
  refine lv_iload_n hx hb dX6_howManyAre_34 rfl (lv_at hl 1 rfl) ?_
  have hP9 := hP.sub (ws' := [(h0, .inr (6, [.ref te, .ref ta, .ref lo, .ref su, .ref pt, .int 0, .int ti, .long 0, .int (-1), .int (-1)]))]) [0] rfl
  have hD9 := hD.sub (ws' := [(h0, .inr (6, [.ref te, .ref ta, .ref lo, .ref su, .ref pt, .int 0, .int ti, .long 0, .int (-1), .int (-1)]))]) [0] (by decide) rfl
  have hK9 := hK.sub (tys' := []) [] rfl
  refine W.widen (k := 0) (n := 0) (Nat.le_of_ble_eq_true rfl) (Nat.le_of_ble_eq_true rfl) ?_
  exact W.iret (v := 0) hx hb hr (fun t ht hW => ⟨⟨0, (), rfl, rfl, by rw [ht]; exact hP9, va_K.moved hW.alike hK9, hD9⟩, hS.F ht⟩) hS.2.2 dX6_howManyAre_35
theorem iw_X6_howManyHaveScripts_X6 : ∀ w ∈ u_ws RX6 TX6 10, w ∈ wsX6_howManyHaveScripts := by decide +kernel
set_option maxHeartbeats 4000000 in
set_option maxRecDepth 100000 in
theorem c_X6_howManyHaveScripts (l : Launch) (dC : Nat → ClassId) (dI : Nat → Nat → Nat) (h0 : Nat) (te : Nat) (ta : Nat) (lo : Nat) (su : Nat) (pt : Nat) (ti : Int32) (sz : Nat) : Met l yX6_howManyHaveScripts wsX6_howManyHaveScripts ({ frames := 0, cells := 0, slots := 0, locals := 0 } : Room) (va_Pc [.ref h0] (fun U => U.heap.size = sz ∧ va_P (dC, dI) vwCl [(h0, .inr (6, [.ref te, .ref ta, .ref lo, .ref su, .ref pt, .int 0, .int ti, .long 0, .int (-1), .int (-1)]))] U.heap ∧ va_K (dC, dI) vwCl [] U ∧ va_D (fun _ => True) [(h0, .inr (6, [.ref te, .ref ta, .ref lo, .ref su, .ref pt, .int 0, .int ti, .long 0, .int (-1), .int (-1)]))])) (va_Qi (fun (r : Int32) (_ : Unit) => r = 0) (fun (_ : Unit) t => va_P (dC, dI) vwCl [(h0, .inr (6, [.ref te, .ref ta, .ref lo, .ref su, .ref pt, .int 0, .int ti, .long 0, .int (-1), .int (-1)]))] t.heap ∧ va_K (dC, dI) vwCl [] t ∧ va_D (va_A [(h0, .inr (6, [.ref te, .ref ta, .ref lo, .ref su, .ref pt, .int 0, .int ti, .long 0, .int (-1), .int (-1)]))] sz) [(h0, .inr (6, [.ref te, .ref ta, .ref lo, .ref su, .ref pt, .int 0, .int ti, .long 0, .int (-1), .int (-1)]))]) (va_A [(h0, .inr (6, [.ref te, .ref ta, .ref lo, .ref su, .ref pt, .int 0, .int ti, .long 0, .int (-1), .int (-1)]))] sz)) 0 0 (va_A [(h0, .inr (6, [.ref te, .ref ta, .ref lo, .ref su, .ref pt, .int 0, .int ti, .long 0, .int (-1), .int (-1)]))] sz) := by
  refine Met.ofW (cc := cX6_howManyHaveScripts) (maxL := 3) (ret := (some .int)) (by decide) rfl ?_
  intro p e s m args below meth c s₁ B hml hv
  obtain ⟨rfl, hsz, hP, hK, hD0⟩ := hv
  have hx := B.exec
  have hb := B.bytes
  have hr := B.returns
  have hts := atoms_spec (ws := wsX6_howManyHaveScripts) B.pre
  have hown : s.vm.findClass RX6 = some m.cls := findClass_of_methodNamed B.named
  have hlocks := B.notSynchronized
  subst hsz
  have hD := hD0.self (sz := s.heap.size)
  obtain ⟨A, hAe⟩ : ∃ A, A = va_A [(h0, .inr (6, [.ref te, .ref ta, .ref lo, .ref su, .ref pt, .int 0, .int ti, .long 0, .int (-1), .int (-1)]))] s.heap.size := ⟨_, rfl⟩
  rw [← hAe] at hD ⊢
  have hA : ∀ q : Nat, s.heap.size ≤ q → A q := fun q h => by rw [hAe]; exact Or.inr h
  have hS : va_S A s.heap s.heap [] := va_S.rf
  have hP : va_P (dC, dI) vwCl [(h0, .inr (6, [.ref te, .ref ta, .ref lo, .ref su, .ref pt, .int 0, .int ti, .long 0, .int (-1), .int (-1)]))] s.heap := hP
  have hl := lv_entry ([.ref h0]) (n := 3) (Nat.le_of_ble_eq_true rfl)
  rw [lg_entry_eq]
  generalize (lg_sl ([.ref h0]) ++ List.replicate (3 - (lg_sl ([.ref h0])).length) Slot.unset).toArray = ls at hl ⊢
  have hl : lv_has ls 3 [(0, .ref h0)] := hl
  refine lv_iconst (v := 0) hx hb dX6_howManyHaveScripts_0 (by decide) ?_
  refine lv_istore_n (lv' := [(1, .int 0), (0, .ref h0)]) hx hb dX6_howManyHaveScripts_1 rfl hl (by decide) rfl (fun ls hl => ?_)
  refine lv_iconst (v := 0) hx hb dX6_howManyHaveScripts_2 (by decide) ?_
  refine lv_istore_n (lv' := [(2, .int 0), (1, .int 0), (0, .ref h0)]) hx hb dX6_howManyHaveScripts_3 rfl hl (by decide) rfl (fun ls hl => ?_)
  refine lv_iload_n hx hb dX6_howManyHaveScripts_4 rfl (lv_at hl 0 rfl) ?_
  refine lv_aload_n hx hb dX6_howManyHaveScripts_5 rfl (lv_at hl 2 rfl) ?_
  refine va_get (D := (dC, dI)) (ci := 6) (v := .int 0) (C := RX6) (T := TX6) (N := 10) hx hb hts iw_X6_howManyHaveScripts_X6 hown hK hP 0 rfl rfl 5 (by decide) (hts (.fieldLink RX6 48 "DeadlineShare$State" "count" "I") (by decide +kernel)) (fun _ h9 => h9) rfl dX6_howManyHaveScripts_6 ?_
  refine lv_icmp_ge (tgt := 36) hx hb dX6_howManyHaveScripts_9 (by decide) (fun _ => ?_) (fun c => absurd (by decide) c)
  refine lv_iload_n hx hb dX6_howManyHaveScripts_36 rfl (lv_at hl 1 rfl) ?_
  have hP9 := hP.sub (ws' := [(h0, .inr (6, [.ref te, .ref ta, .ref lo, .ref su, .ref pt, .int 0, .int ti, .long 0, .int (-1), .int (-1)]))]) [0] rfl
  have hD9 := hD.sub (ws' := [(h0, .inr (6, [.ref te, .ref ta, .ref lo, .ref su, .ref pt, .int 0, .int ti, .long 0, .int (-1), .int (-1)]))]) [0] (by decide) rfl
  have hK9 := hK.sub (tys' := []) [] rfl
  refine W.widen (k := 0) (n := 0) (Nat.le_of_ble_eq_true rfl) (Nat.le_of_ble_eq_true rfl) ?_
  exact W.iret (v := 0) hx hb hr (fun t ht hW => ⟨⟨0, (), rfl, rfl, by rw [ht]; exact hP9, va_K.moved hW.alike hK9, hD9⟩, hS.F ht⟩) hS.2.2 dX6_howManyHaveScripts_37
theorem iw_X6_eligibleBits_X6 : ∀ w ∈ u_ws RX6 TX6 10, w ∈ wsX6_eligibleBits := by decide +kernel
set_option maxHeartbeats 4000000 in
set_option maxRecDepth 100000 in
theorem c_X6_eligibleBits (l : Launch) (dC : Nat → ClassId) (dI : Nat → Nat → Nat) (h0 : Nat) (te : Nat) (ta : Nat) (lo : Nat) (su : Nat) (pt : Nat) (ti : Int32) (sz : Nat) : Met l yX6_eligibleBits wsX6_eligibleBits ({ frames := 3, cells := 0, slots := 0, locals := 68 } : Room) (va_Pc [.ref h0] (fun U => U.heap.size = sz ∧ va_P (dC, dI) vwCl [(h0, .inr (6, [.ref te, .ref ta, .ref lo, .ref su, .ref pt, .int 0, .int ti, .long 0, .int (-1), .int (-1)])), (su, .inr (10, [.long 0, .long 0]))] U.heap ∧ va_K (dC, dI) vwCl [] U ∧ va_D (fun _ => True) [(h0, .inr (6, [.ref te, .ref ta, .ref lo, .ref su, .ref pt, .int 0, .int ti, .long 0, .int (-1), .int (-1)])), (su, .inr (10, [.long 0, .long 0]))])) (va_Qi (fun (r : Int32) (_ : Unit) => r = 0) (fun (_ : Unit) t => va_P (dC, dI) vwCl [(h0, .inr (6, [.ref te, .ref ta, .ref lo, .ref su, .ref pt, .int 0, .int ti, .long 0, .int (-1), .int (-1)])), (su, .inr (10, [.long 0, .long 0]))] t.heap ∧ va_K (dC, dI) vwCl [] t ∧ va_D (va_A [(h0, .inr (6, [.ref te, .ref ta, .ref lo, .ref su, .ref pt, .int 0, .int ti, .long 0, .int (-1), .int (-1)])), (su, .inr (10, [.long 0, .long 0]))] sz) [(h0, .inr (6, [.ref te, .ref ta, .ref lo, .ref su, .ref pt, .int 0, .int ti, .long 0, .int (-1), .int (-1)])), (su, .inr (10, [.long 0, .long 0]))]) (va_A [(h0, .inr (6, [.ref te, .ref ta, .ref lo, .ref su, .ref pt, .int 0, .int ti, .long 0, .int (-1), .int (-1)])), (su, .inr (10, [.long 0, .long 0]))] sz)) 0 0 (va_A [(h0, .inr (6, [.ref te, .ref ta, .ref lo, .ref su, .ref pt, .int 0, .int ti, .long 0, .int (-1), .int (-1)])), (su, .inr (10, [.long 0, .long 0]))] sz) := by
  refine Met.ofW (cc := cX6_eligibleBits) (maxL := 5) (ret := (some .int)) (by decide) rfl ?_
  intro p e s m args below meth c s₁ B hml hv
  obtain ⟨rfl, hsz, hP, hK, hD0⟩ := hv
  have hx := B.exec
  have hb := B.bytes
  have hr := B.returns
  have hts := atoms_spec (ws := wsX6_eligibleBits) B.pre
  have hown : s.vm.findClass RX6 = some m.cls := findClass_of_methodNamed B.named
  have hlocks := B.notSynchronized
  subst hsz
  have hD := hD0.self (sz := s.heap.size)
  obtain ⟨A, hAe⟩ : ∃ A, A = va_A [(h0, .inr (6, [.ref te, .ref ta, .ref lo, .ref su, .ref pt, .int 0, .int ti, .long 0, .int (-1), .int (-1)])), (su, .inr (10, [.long 0, .long 0]))] s.heap.size := ⟨_, rfl⟩
  rw [← hAe] at hD ⊢
  have hA : ∀ q : Nat, s.heap.size ≤ q → A q := fun q h => by rw [hAe]; exact Or.inr h
  have hS : va_S A s.heap s.heap [] := va_S.rf
  have hP : va_P (dC, dI) vwCl [(h0, .inr (6, [.ref te, .ref ta, .ref lo, .ref su, .ref pt, .int 0, .int ti, .long 0, .int (-1), .int (-1)])), (su, .inr (10, [.long 0, .long 0]))] s.heap := hP
  have hl := lv_entry ([.ref h0]) (n := 5) (Nat.le_of_ble_eq_true rfl)
  rw [lg_entry_eq]
  generalize (lg_sl ([.ref h0]) ++ List.replicate (5 - (lg_sl ([.ref h0])).length) Slot.unset).toArray = ls at hl ⊢
  have hl : lv_has ls 5 [(0, .ref h0)] := hl
  refine lv_aload_n hx hb dX6_eligibleBits_0 rfl (lv_at hl 0 rfl) ?_
  have hPc := hP.sub (ws' := [(h0, .inr (6, [.ref te, .ref ta, .ref lo, .ref su, .ref pt, .int 0, .int ti, .long 0, .int (-1), .int (-1)])), (su, .inr (10, [.long 0, .long 0]))]) [0, 1] rfl
  have hDc := hD.sub (ws' := [(h0, .inr (6, [.ref te, .ref ta, .ref lo, .ref su, .ref pt, .int 0, .int ti, .long 0, .int (-1), .int (-1)])), (su, .inr (10, [.long 0, .long 0]))]) [0, 1] (by decide) rfl
  have hKc := hK.sub (tys' := []) [] rfl
  have hFc := va_free (wc := [(h0, .inr (6, [.ref te, .ref ta, .ref lo, .ref su, .ref pt, .int 0, .int ti, .long 0, .int (-1), .int (-1)])), (su, .inr (10, [.long 0, .long 0]))]) hD hS hA [0, 1] rfl
  refine va_calll (va_runV (As := []) (rest := []) ⟨hx, hb, hml, hown, hts⟩ (c_X6_wholeV l dC dI h0 te ta lo su pt ti s.heap.size) (cwV 0 hts gX6_eligibleBits_X6_wholeV rfl rfl rfl (by decide +kernel) ⟨Nat.le_of_ble_eq_true rfl, Nat.le_of_ble_eq_true rfl⟩) ⟨fun a U g mk q => by obtain ⟨q0, q1, qP, qK, qD⟩ := q; exact ⟨q0, q1, qP, va_K.moved (u := U) (U := U.calling g mk a) (Vm.Alike.refl U.vm) qK, qD⟩, va_recv hKc hPc (ci := 6) (q0 := 0) rfl rfl, fun U hU hW => ⟨rfl, by rw [hU], by rw [hU]; exact hPc, va_K.moved hW.alike hKc, hDc.weaken (fun _ _ _ _ => trivial)⟩⟩ rfl rfl hl.1 rfl (lv_room (Nat.le_of_ble_eq_true rfl)) dX6_eligibleBits_1 ⟨Nat.le_of_ble_eq_true rfl, Nat.le_of_ble_eq_true rfl⟩) hS (fun q _ h => hFc q h) hFc (fun r_1 u t H1 locs ht hvm hw hB hz1 hk1 hS => ?_)
  obtain ⟨hP1, hK1, hD1⟩ := hB
  rw [ht] at hP1
  have hK1 := va_K.moved hvm.symm hK1
  obtain ⟨hP, hD⟩ := va_join (wr := []) (w1 := [(h0, .inr (6, [.ref te, .ref ta, .ref lo, .ref su, .ref pt, .int 0, .int ti, .long 0, .int (-1), .int (-1)])), (su, .inr (10, [.long 0, .long 0]))]) hP hD [0, 1] [] rfl rfl (by decide) (by decide) hk1 hFc hP1 hD1
  generalize H1 = H at hP hS ⊢
  have hP : va_P (dC, dI) vwCl [(h0, .inr (6, [.ref te, .ref ta, .ref lo, .ref su, .ref pt, .int 0, .int ti, .long 0, .int (-1), .int (-1)])), (su, .inr (10, [.long 0, .long 0]))] H := hP
  have hD : va_D A [(h0, .inr (6, [.ref te, .ref ta, .ref lo, .ref su, .ref pt, .int 0, .int ti, .long 0, .int (-1), .int (-1)])), (su, .inr (10, [.long 0, .long 0]))] := hD
  refine W.widen (k := 0) (n := 0) (Nat.le_of_ble_eq_true rfl) (Nat.le_of_ble_eq_true rfl) ?_
  have hw : r_1 = 0 := hw
  subst hw
  refine lv_lstore_n (lv' := [(1, .long 0), (0, .ref h0)]) hx hb dX6_eligibleBits_4 rfl hl (by decide) rfl (fun ls hl => ?_)
  refine lv_iconst (v := 0) hx hb dX6_eligibleBits_5 (by decide) ?_
  refine lv_istore_n (lv' := [(3, .int 0), (1, .long 0), (0, .ref h0)]) hx hb dX6_eligibleBits_6 rfl hl (by decide) rfl (fun ls hl => ?_)
  refine lv_iconst (v := 0) hx hb dX6_eligibleBits_7 (by decide) ?_
  refine lv_istore (lv' := [(4, .int 0), (3, .int 0), (1, .long 0), (0, .ref h0)]) hx hb dX6_eligibleBits_8 hl (by decide) rfl (fun ls hl => ?_)
  refine lv_iload hx hb dX6_eligibleBits_10 (lv_at hl 0 rfl) ?_
  refine lv_aload_n hx hb dX6_eligibleBits_12 rfl (lv_at hl 3 rfl) ?_
  refine va_get (D := (dC, dI)) (ci := 6) (v := .int 0) (C := RX6) (T := TX6) (N := 10) hx hb hts iw_X6_eligibleBits_X6 hown hK hP 0 rfl rfl 5 (by decide) (hts (.fieldLink RX6 48 "DeadlineShare$State" "count" "I") (by decide +kernel)) (fun _ h9 => h9) rfl dX6_eligibleBits_13 ?_
  refine lv_icmp_ge (tgt := 60) hx hb dX6_eligibleBits_16 (by decide) (fun _ => ?_) (fun c => absurd (by decide) c)
  refine lv_iload_n hx hb dX6_eligibleBits_60 rfl (lv_at hl 1 rfl) ?_
  have hP9 := hP.sub (ws' := [(h0, .inr (6, [.ref te, .ref ta, .ref lo, .ref su, .ref pt, .int 0, .int ti, .long 0, .int (-1), .int (-1)])), (su, .inr (10, [.long 0, .long 0]))]) [0, 1] rfl
  have hD9 := hD.sub (ws' := [(h0, .inr (6, [.ref te, .ref ta, .ref lo, .ref su, .ref pt, .int 0, .int ti, .long 0, .int (-1), .int (-1)])), (su, .inr (10, [.long 0, .long 0]))]) [0, 1] (by decide) rfl
  have hK9 := hK.sub (tys' := []) [] rfl
  refine W.widen (k := 0) (n := 0) (Nat.le_of_ble_eq_true rfl) (Nat.le_of_ble_eq_true rfl) ?_
  exact W.iret (v := 0) hx hb hr (fun t ht hW => ⟨⟨0, (), rfl, rfl, by rw [ht]; exact hP9, va_K.moved hW.alike hK9, hD9⟩, hS.F ht⟩) hS.2.2 dX6_eligibleBits_61
theorem iw_X6_eligibleAt_X6 : ∀ w ∈ u_ws RX6 TX6 10, w ∈ wsX6_eligibleAt := by decide +kernel
set_option maxHeartbeats 4000000 in
set_option maxRecDepth 100000 in
theorem c_X6_eligibleAt (l : Launch) (dC : Nat → ClassId) (dI : Nat → Nat → Nat) (h0 : Nat) (kd : Int32) (te : Nat) (ta : Nat) (lo : Nat) (su : Nat) (pt : Nat) (ti : Int32) (sz : Nat) : Met l yX6_eligibleAt wsX6_eligibleAt ({ frames := 4, cells := 0, slots := 0, locals := 92 } : Room) (va_Pc [.ref h0, .int kd] (fun U => U.heap.size = sz ∧ va_P (dC, dI) vwCl [(h0, .inr (6, [.ref te, .ref ta, .ref lo, .ref su, .ref pt, .int 0, .int ti, .long 0, .int (-1), .int (-1)])), (su, .inr (10, [.long 0, .long 0]))] U.heap ∧ va_K (dC, dI) vwCl [] U ∧ va_D (fun _ => True) [(h0, .inr (6, [.ref te, .ref ta, .ref lo, .ref su, .ref pt, .int 0, .int ti, .long 0, .int (-1), .int (-1)])), (su, .inr (10, [.long 0, .long 0]))])) (va_Qi (fun (r : Int32) (_ : Unit) => r = (-1)) (fun (_ : Unit) t => va_P (dC, dI) vwCl [(h0, .inr (6, [.ref te, .ref ta, .ref lo, .ref su, .ref pt, .int 0, .int ti, .long 0, .int (-1), .int (-1)])), (su, .inr (10, [.long 0, .long 0]))] t.heap ∧ va_K (dC, dI) vwCl [] t ∧ va_D (va_A [(h0, .inr (6, [.ref te, .ref ta, .ref lo, .ref su, .ref pt, .int 0, .int ti, .long 0, .int (-1), .int (-1)])), (su, .inr (10, [.long 0, .long 0]))] sz) [(h0, .inr (6, [.ref te, .ref ta, .ref lo, .ref su, .ref pt, .int 0, .int ti, .long 0, .int (-1), .int (-1)])), (su, .inr (10, [.long 0, .long 0]))]) (va_A [(h0, .inr (6, [.ref te, .ref ta, .ref lo, .ref su, .ref pt, .int 0, .int ti, .long 0, .int (-1), .int (-1)])), (su, .inr (10, [.long 0, .long 0]))] sz)) 0 0 (va_A [(h0, .inr (6, [.ref te, .ref ta, .ref lo, .ref su, .ref pt, .int 0, .int ti, .long 0, .int (-1), .int (-1)])), (su, .inr (10, [.long 0, .long 0]))] sz) := by
  refine Met.ofW (cc := cX6_eligibleAt) (maxL := 4) (ret := (some .int)) (by decide) rfl ?_
  intro p e s m args below meth c s₁ B hml hv
  obtain ⟨rfl, hsz, hP, hK, hD0⟩ := hv
  have hx := B.exec
  have hb := B.bytes
  have hr := B.returns
  have hts := atoms_spec (ws := wsX6_eligibleAt) B.pre
  have hown : s.vm.findClass RX6 = some m.cls := findClass_of_methodNamed B.named
  have hlocks := B.notSynchronized
  subst hsz
  have hD := hD0.self (sz := s.heap.size)
  obtain ⟨A, hAe⟩ : ∃ A, A = va_A [(h0, .inr (6, [.ref te, .ref ta, .ref lo, .ref su, .ref pt, .int 0, .int ti, .long 0, .int (-1), .int (-1)])), (su, .inr (10, [.long 0, .long 0]))] s.heap.size := ⟨_, rfl⟩
  rw [← hAe] at hD ⊢
  have hA : ∀ q : Nat, s.heap.size ≤ q → A q := fun q h => by rw [hAe]; exact Or.inr h
  have hS : va_S A s.heap s.heap [] := va_S.rf
  have hP : va_P (dC, dI) vwCl [(h0, .inr (6, [.ref te, .ref ta, .ref lo, .ref su, .ref pt, .int 0, .int ti, .long 0, .int (-1), .int (-1)])), (su, .inr (10, [.long 0, .long 0]))] s.heap := hP
  have hl := lv_entry ([.ref h0, .int kd]) (n := 4) (Nat.le_of_ble_eq_true rfl)
  rw [lg_entry_eq]
  generalize (lg_sl ([.ref h0, .int kd]) ++ List.replicate (4 - (lg_sl ([.ref h0, .int kd])).length) Slot.unset).toArray = ls at hl ⊢
  have hl : lv_has ls 4 [(0, .ref h0), (1, .int kd)] := hl
  refine lv_aload_n hx hb dX6_eligibleAt_0 rfl (lv_at hl 0 rfl) ?_
  have hPc := hP.sub (ws' := [(h0, .inr (6, [.ref te, .ref ta, .ref lo, .ref su, .ref pt, .int 0, .int ti, .long 0, .int (-1), .int (-1)])), (su, .inr (10, [.long 0, .long 0]))]) [0, 1] rfl
  have hDc := hD.sub (ws' := [(h0, .inr (6, [.ref te, .ref ta, .ref lo, .ref su, .ref pt, .int 0, .int ti, .long 0, .int (-1), .int (-1)])), (su, .inr (10, [.long 0, .long 0]))]) [0, 1] (by decide) rfl
  have hKc := hK.sub (tys' := []) [] rfl
  have hFc := va_free (wc := [(h0, .inr (6, [.ref te, .ref ta, .ref lo, .ref su, .ref pt, .int 0, .int ti, .long 0, .int (-1), .int (-1)])), (su, .inr (10, [.long 0, .long 0]))]) hD hS hA [0, 1] rfl
  refine va_calli (va_runV (As := []) (rest := []) ⟨hx, hb, hml, hown, hts⟩ (c_X6_eligibleBits l dC dI h0 te ta lo su pt ti s.heap.size) (cwV 0 hts gX6_eligibleAt_X6_eligibleBits rfl rfl rfl (by decide +kernel) ⟨Nat.le_of_ble_eq_true rfl, Nat.le_of_ble_eq_true rfl⟩) ⟨fun a U g mk q => by obtain ⟨q0, q1, qP, qK, qD⟩ := q; exact ⟨q0, q1, qP, va_K.moved (u := U) (U := U.calling g mk a) (Vm.Alike.refl U.vm) qK, qD⟩, va_recv hKc hPc (ci := 6) (q0 := 0) rfl rfl, fun U hU hW => ⟨rfl, by rw [hU], by rw [hU]; exact hPc, va_K.moved hW.alike hKc, hDc.weaken (fun _ _ _ _ => trivial)⟩⟩ rfl rfl hl.1 rfl (lv_room (Nat.le_of_ble_eq_true rfl)) dX6_eligibleAt_1 ⟨Nat.le_of_ble_eq_true rfl, Nat.le_of_ble_eq_true rfl⟩) hS (fun q _ h => hFc q h) hFc (fun r_1 u t H1 locs ht hvm hw hB hz1 hk1 hS => ?_)
  obtain ⟨hP1, hK1, hD1⟩ := hB
  rw [ht] at hP1
  have hK1 := va_K.moved hvm.symm hK1
  obtain ⟨hP, hD⟩ := va_join (wr := []) (w1 := [(h0, .inr (6, [.ref te, .ref ta, .ref lo, .ref su, .ref pt, .int 0, .int ti, .long 0, .int (-1), .int (-1)])), (su, .inr (10, [.long 0, .long 0]))]) hP hD [0, 1] [] rfl rfl (by decide) (by decide) hk1 hFc hP1 hD1
  generalize H1 = H at hP hS ⊢
  have hP : va_P (dC, dI) vwCl [(h0, .inr (6, [.ref te, .ref ta, .ref lo, .ref su, .ref pt, .int 0, .int ti, .long 0, .int (-1), .int (-1)])), (su, .inr (10, [.long 0, .long 0]))] H := hP
  have hD : va_D A [(h0, .inr (6, [.ref te, .ref ta, .ref lo, .ref su, .ref pt, .int 0, .int ti, .long 0, .int (-1), .int (-1)])), (su, .inr (10, [.long 0, .long 0]))] := hD
  refine W.widen (k := 0) (n := 0) (Nat.le_of_ble_eq_true rfl) (Nat.le_of_ble_eq_true rfl) ?_
  have hw : r_1 = 0 := hw
  subst hw
  refine lv_istore_n (lv' := [(2, .int 0), (0, .ref h0), (1, .int kd)]) hx hb dX6_eligibleAt_4 rfl hl (by decide) rfl (fun ls hl => ?_)
  refine lv_iconst (v := 0) hx hb dX6_eligibleAt_5 (by decide) ?_
  refine lv_istore_n (lv' := [(3, .int 0), (2, .int 0), (0, .ref h0), (1, .int kd)]) hx hb dX6_eligibleAt_6 rfl hl (by decide) rfl (fun ls hl => ?_)
  refine lv_iload_n hx hb dX6_eligibleAt_7 rfl (lv_at hl 0 rfl) ?_
  refine lv_aload_n hx hb dX6_eligibleAt_8 rfl (lv_at hl 2 rfl) ?_
  refine va_get (D := (dC, dI)) (ci := 6) (v := .int 0) (C := RX6) (T := TX6) (N := 10) hx hb hts iw_X6_eligibleAt_X6 hown hK hP 0 rfl rfl 5 (by decide) (hts (.fieldLink RX6 48 "DeadlineShare$State" "count" "I") (by decide +kernel)) (fun _ h9 => h9) rfl dX6_eligibleAt_9 ?_
  refine lv_icmp_ge (tgt := 47) hx hb dX6_eligibleAt_12 (by decide) (fun _ => ?_) (fun c => absurd (by decide) c)
  refine lv_iconst (v := (-1)) hx hb dX6_eligibleAt_47 (by decide) ?_
  have hP9 := hP.sub (ws' := [(h0, .inr (6, [.ref te, .ref ta, .ref lo, .ref su, .ref pt, .int 0, .int ti, .long 0, .int (-1), .int (-1)])), (su, .inr (10, [.long 0, .long 0]))]) [0, 1] rfl
  have hD9 := hD.sub (ws' := [(h0, .inr (6, [.ref te, .ref ta, .ref lo, .ref su, .ref pt, .int 0, .int ti, .long 0, .int (-1), .int (-1)])), (su, .inr (10, [.long 0, .long 0]))]) [0, 1] (by decide) rfl
  have hK9 := hK.sub (tys' := []) [] rfl
  refine W.widen (k := 0) (n := 0) (Nat.le_of_ble_eq_true rfl) (Nat.le_of_ble_eq_true rfl) ?_
  exact W.iret (v := (-1)) hx hb hr (fun t ht hW => ⟨⟨(-1), (), rfl, rfl, by rw [ht]; exact hP9, va_K.moved hW.alike hK9, hD9⟩, hS.F ht⟩) hS.2.2 dX6_eligibleAt_48
theorem iw_X6_firstDeadline_X6 : ∀ w ∈ u_ws RX6 TX6 10, w ∈ wsX6_firstDeadline := by decide +kernel
set_option maxHeartbeats 4000000 in
set_option maxRecDepth 100000 in
theorem c_X6_firstDeadline1 (l : Launch) (dC : Nat → ClassId) (dI : Nat → Nat → Nat) (h0 : Nat) (te : Nat) (ta : Nat) (lo : Nat) (su : Nat) (pt : Nat) (ti : Int32) (sz : Nat) : Met l yX6_firstDeadline wsX6_firstDeadline ({ frames := 3, cells := 0, slots := 0, locals := 68 } : Room) (va_Pc [.ref h0, .int 1] (fun U => U.heap.size = sz ∧ va_P (dC, dI) vwCl [(h0, .inr (6, [.ref te, .ref ta, .ref lo, .ref su, .ref pt, .int 0, .int ti, .long 0, .int (-1), .int (-1)])), (su, .inr (10, [.long 0, .long 0]))] U.heap ∧ va_K (dC, dI) vwCl [] U ∧ va_D (fun _ => True) [(h0, .inr (6, [.ref te, .ref ta, .ref lo, .ref su, .ref pt, .int 0, .int ti, .long 0, .int (-1), .int (-1)])), (su, .inr (10, [.long 0, .long 0]))])) (va_Qi (fun (r : Int32) (_ : Unit) => r = (-1)) (fun (_ : Unit) t => va_P (dC, dI) vwCl [(h0, .inr (6, [.ref te, .ref ta, .ref lo, .ref su, .ref pt, .int 0, .int ti, .long 0, .int (-1), .int (-1)])), (su, .inr (10, [.long 0, .long 0]))] t.heap ∧ va_K (dC, dI) vwCl [] t ∧ va_D (va_A [(h0, .inr (6, [.ref te, .ref ta, .ref lo, .ref su, .ref pt, .int 0, .int ti, .long 0, .int (-1), .int (-1)])), (su, .inr (10, [.long 0, .long 0]))] sz) [(h0, .inr (6, [.ref te, .ref ta, .ref lo, .ref su, .ref pt, .int 0, .int ti, .long 0, .int (-1), .int (-1)])), (su, .inr (10, [.long 0, .long 0]))]) (va_A [(h0, .inr (6, [.ref te, .ref ta, .ref lo, .ref su, .ref pt, .int 0, .int ti, .long 0, .int (-1), .int (-1)])), (su, .inr (10, [.long 0, .long 0]))] sz)) 0 0 (va_A [(h0, .inr (6, [.ref te, .ref ta, .ref lo, .ref su, .ref pt, .int 0, .int ti, .long 0, .int (-1), .int (-1)])), (su, .inr (10, [.long 0, .long 0]))] sz) := by
  refine Met.ofW (cc := cX6_firstDeadline) (maxL := 7) (ret := (some .int)) (by decide) rfl ?_
  intro p e s m args below meth c s₁ B hml hv
  obtain ⟨rfl, hsz, hP, hK, hD0⟩ := hv
  have hx := B.exec
  have hb := B.bytes
  have hr := B.returns
  have hts := atoms_spec (ws := wsX6_firstDeadline) B.pre
  have hown : s.vm.findClass RX6 = some m.cls := findClass_of_methodNamed B.named
  have hlocks := B.notSynchronized
  subst hsz
  have hD := hD0.self (sz := s.heap.size)
  obtain ⟨A, hAe⟩ : ∃ A, A = va_A [(h0, .inr (6, [.ref te, .ref ta, .ref lo, .ref su, .ref pt, .int 0, .int ti, .long 0, .int (-1), .int (-1)])), (su, .inr (10, [.long 0, .long 0]))] s.heap.size := ⟨_, rfl⟩
  rw [← hAe] at hD ⊢
  have hA : ∀ q : Nat, s.heap.size ≤ q → A q := fun q h => by rw [hAe]; exact Or.inr h
  have hS : va_S A s.heap s.heap [] := va_S.rf
  have hP : va_P (dC, dI) vwCl [(h0, .inr (6, [.ref te, .ref ta, .ref lo, .ref su, .ref pt, .int 0, .int ti, .long 0, .int (-1), .int (-1)])), (su, .inr (10, [.long 0, .long 0]))] s.heap := hP
  have hl := lv_entry ([.ref h0, .int 1]) (n := 7) (Nat.le_of_ble_eq_true rfl)
  rw [lg_entry_eq]
  generalize (lg_sl ([.ref h0, .int 1]) ++ List.replicate (7 - (lg_sl ([.ref h0, .int 1])).length) Slot.unset).toArray = ls at hl ⊢
  have hl : lv_has ls 7 [(0, .ref h0), (1, .int 1)] := hl
  refine lv_iload_n hx hb dX6_firstDeadline_0 rfl (lv_at hl 1 rfl) ?_
  refine lv_if_eq (tgt := 11) hx hb dX6_firstDeadline_1 (by decide) (fun c => absurd c (by decide)) (fun _ => ?_)
  refine lv_aload_n hx hb dX6_firstDeadline_4 rfl (lv_at hl 0 rfl) ?_
  have hPc := hP.sub (ws' := [(h0, .inr (6, [.ref te, .ref ta, .ref lo, .ref su, .ref pt, .int 0, .int ti, .long 0, .int (-1), .int (-1)])), (su, .inr (10, [.long 0, .long 0]))]) [0, 1] rfl
  have hDc := hD.sub (ws' := [(h0, .inr (6, [.ref te, .ref ta, .ref lo, .ref su, .ref pt, .int 0, .int ti, .long 0, .int (-1), .int (-1)])), (su, .inr (10, [.long 0, .long 0]))]) [0, 1] (by decide) rfl
  have hKc := hK.sub (tys' := []) [] rfl
  have hFc := va_free (wc := [(h0, .inr (6, [.ref te, .ref ta, .ref lo, .ref su, .ref pt, .int 0, .int ti, .long 0, .int (-1), .int (-1)])), (su, .inr (10, [.long 0, .long 0]))]) hD hS hA [0, 1] rfl
  refine va_calll (va_runV (As := []) (rest := []) ⟨hx, hb, hml, hown, hts⟩ (c_X6_wholeV l dC dI h0 te ta lo su pt ti s.heap.size) (cwV 0 hts gX6_firstDeadline_X6_wholeV rfl rfl rfl (by decide +kernel) ⟨Nat.le_of_ble_eq_true rfl, Nat.le_of_ble_eq_true rfl⟩) ⟨fun a U g mk q => by obtain ⟨q0, q1, qP, qK, qD⟩ := q; exact ⟨q0, q1, qP, va_K.moved (u := U) (U := U.calling g mk a) (Vm.Alike.refl U.vm) qK, qD⟩, va_recv hKc hPc (ci := 6) (q0 := 0) rfl rfl, fun U hU hW => ⟨rfl, by rw [hU], by rw [hU]; exact hPc, va_K.moved hW.alike hKc, hDc.weaken (fun _ _ _ _ => trivial)⟩⟩ rfl rfl hl.1 rfl (lv_room (Nat.le_of_ble_eq_true rfl)) dX6_firstDeadline_5 ⟨Nat.le_of_ble_eq_true rfl, Nat.le_of_ble_eq_true rfl⟩) hS (fun q _ h => hFc q h) hFc (fun r_1 u t H1 locs ht hvm hw hB hz1 hk1 hS => ?_)
  obtain ⟨hP1, hK1, hD1⟩ := hB
  rw [ht] at hP1
  have hK1 := va_K.moved hvm.symm hK1
  obtain ⟨hP, hD⟩ := va_join (wr := []) (w1 := [(h0, .inr (6, [.ref te, .ref ta, .ref lo, .ref su, .ref pt, .int 0, .int ti, .long 0, .int (-1), .int (-1)])), (su, .inr (10, [.long 0, .long 0]))]) hP hD [0, 1] [] rfl rfl (by decide) (by decide) hk1 hFc hP1 hD1
  generalize H1 = H at hP hS ⊢
  have hP : va_P (dC, dI) vwCl [(h0, .inr (6, [.ref te, .ref ta, .ref lo, .ref su, .ref pt, .int 0, .int ti, .long 0, .int (-1), .int (-1)])), (su, .inr (10, [.long 0, .long 0]))] H := hP
  have hD : va_D A [(h0, .inr (6, [.ref te, .ref ta, .ref lo, .ref su, .ref pt, .int 0, .int ti, .long 0, .int (-1), .int (-1)])), (su, .inr (10, [.long 0, .long 0]))] := hD
  refine W.widen (k := 0) (n := 0) (Nat.le_of_ble_eq_true rfl) (Nat.le_of_ble_eq_true rfl) ?_
  have hw : r_1 = 0 := hw
  subst hw
  refine lv_goto (tgt := 14) hx hb dX6_firstDeadline_8 (by decide) ?_
  refine lv_lstore_n (lv' := [(2, .long 0), (0, .ref h0), (1, .int 1)]) hx hb dX6_firstDeadline_14 rfl hl (by decide) rfl (fun ls hl => ?_)
  refine lv_iconst (v := (-1)) hx hb dX6_firstDeadline_15 (by decide) ?_
  refine lv_istore (lv' := [(4, .int (-1)), (2, .long 0), (0, .ref h0), (1, .int 1)]) hx hb dX6_firstDeadline_16 hl (by decide) rfl (fun ls hl => ?_)
  refine lv_iconst (v := 0) hx hb dX6_firstDeadline_18 (by decide) ?_
  refine lv_istore (lv' := [(5, .int 0), (4, .int (-1)), (2, .long 0), (0, .ref h0), (1, .int 1)]) hx hb dX6_firstDeadline_19 hl (by decide) rfl (fun ls hl => ?_)
  refine lv_iload hx hb dX6_firstDeadline_21 (lv_at hl 0 rfl) ?_
  refine lv_aload_n hx hb dX6_firstDeadline_23 rfl (lv_at hl 3 rfl) ?_
  refine va_get (D := (dC, dI)) (ci := 6) (v := .int 0) (C := RX6) (T := TX6) (N := 10) hx hb hts iw_X6_firstDeadline_X6 hown hK hP 0 rfl rfl 5 (by decide) (hts (.fieldLink RX6 48 "DeadlineShare$State" "count" "I") (by decide +kernel)) (fun _ h9 => h9) rfl dX6_firstDeadline_24 ?_
  refine lv_icmp_ge (tgt := 91) hx hb dX6_firstDeadline_27 (by decide) (fun _ => ?_) (fun c => absurd (by decide) c)
  refine lv_iload hx hb dX6_firstDeadline_91 (lv_at hl 1 rfl) ?_
  have hP9 := hP.sub (ws' := [(h0, .inr (6, [.ref te, .ref ta, .ref lo, .ref su, .ref pt, .int 0, .int ti, .long 0, .int (-1), .int (-1)])), (su, .inr (10, [.long 0, .long 0]))]) [0, 1] rfl
  have hD9 := hD.sub (ws' := [(h0, .inr (6, [.ref te, .ref ta, .ref lo, .ref su, .ref pt, .int 0, .int ti, .long 0, .int (-1), .int (-1)])), (su, .inr (10, [.long 0, .long 0]))]) [0, 1] (by decide) rfl
  have hK9 := hK.sub (tys' := []) [] rfl
  refine W.widen (k := 0) (n := 0) (Nat.le_of_ble_eq_true rfl) (Nat.le_of_ble_eq_true rfl) ?_
  exact W.iret (v := (-1)) hx hb hr (fun t ht hW => ⟨⟨(-1), (), rfl, rfl, by rw [ht]; exact hP9, va_K.moved hW.alike hK9, hD9⟩, hS.F ht⟩) hS.2.2 dX6_firstDeadline_93
set_option maxHeartbeats 4000000 in
set_option maxRecDepth 100000 in
theorem c_X6_firstDeadline0 (l : Launch) (dC : Nat → ClassId) (dI : Nat → Nat → Nat) (h0 : Nat) (te : Nat) (ta : Nat) (lo : Nat) (su : Nat) (pt : Nat) (ti : Int32) (sz : Nat) : Met l yX6_firstDeadline wsX6_firstDeadline ({ frames := 0, cells := 0, slots := 0, locals := 0 } : Room) (va_Pc [.ref h0, .int 0] (fun U => U.heap.size = sz ∧ va_P (dC, dI) vwCl [(h0, .inr (6, [.ref te, .ref ta, .ref lo, .ref su, .ref pt, .int 0, .int ti, .long 0, .int (-1), .int (-1)]))] U.heap ∧ va_K (dC, dI) vwCl [] U ∧ va_D (fun _ => True) [(h0, .inr (6, [.ref te, .ref ta, .ref lo, .ref su, .ref pt, .int 0, .int ti, .long 0, .int (-1), .int (-1)]))])) (va_Qi (fun (r : Int32) (_ : Unit) => r = (-1)) (fun (_ : Unit) t => va_P (dC, dI) vwCl [(h0, .inr (6, [.ref te, .ref ta, .ref lo, .ref su, .ref pt, .int 0, .int ti, .long 0, .int (-1), .int (-1)]))] t.heap ∧ va_K (dC, dI) vwCl [] t ∧ va_D (va_A [(h0, .inr (6, [.ref te, .ref ta, .ref lo, .ref su, .ref pt, .int 0, .int ti, .long 0, .int (-1), .int (-1)]))] sz) [(h0, .inr (6, [.ref te, .ref ta, .ref lo, .ref su, .ref pt, .int 0, .int ti, .long 0, .int (-1), .int (-1)]))]) (va_A [(h0, .inr (6, [.ref te, .ref ta, .ref lo, .ref su, .ref pt, .int 0, .int ti, .long 0, .int (-1), .int (-1)]))] sz)) 0 0 (va_A [(h0, .inr (6, [.ref te, .ref ta, .ref lo, .ref su, .ref pt, .int 0, .int ti, .long 0, .int (-1), .int (-1)]))] sz) := by
  refine Met.ofW (cc := cX6_firstDeadline) (maxL := 7) (ret := (some .int)) (by decide) rfl ?_
  intro p e s m args below meth c s₁ B hml hv
  obtain ⟨rfl, hsz, hP, hK, hD0⟩ := hv
  have hx := B.exec
  have hb := B.bytes
  have hr := B.returns
  have hts := atoms_spec (ws := wsX6_firstDeadline) B.pre
  have hown : s.vm.findClass RX6 = some m.cls := findClass_of_methodNamed B.named
  have hlocks := B.notSynchronized
  subst hsz
  have hD := hD0.self (sz := s.heap.size)
  obtain ⟨A, hAe⟩ : ∃ A, A = va_A [(h0, .inr (6, [.ref te, .ref ta, .ref lo, .ref su, .ref pt, .int 0, .int ti, .long 0, .int (-1), .int (-1)]))] s.heap.size := ⟨_, rfl⟩
  rw [← hAe] at hD ⊢
  have hA : ∀ q : Nat, s.heap.size ≤ q → A q := fun q h => by rw [hAe]; exact Or.inr h
  have hS : va_S A s.heap s.heap [] := va_S.rf
  have hP : va_P (dC, dI) vwCl [(h0, .inr (6, [.ref te, .ref ta, .ref lo, .ref su, .ref pt, .int 0, .int ti, .long 0, .int (-1), .int (-1)]))] s.heap := hP
  have hl := lv_entry ([.ref h0, .int 0]) (n := 7) (Nat.le_of_ble_eq_true rfl)
  rw [lg_entry_eq]
  generalize (lg_sl ([.ref h0, .int 0]) ++ List.replicate (7 - (lg_sl ([.ref h0, .int 0])).length) Slot.unset).toArray = ls at hl ⊢
  have hl : lv_has ls 7 [(0, .ref h0), (1, .int 0)] := hl
  refine lv_iload_n hx hb dX6_firstDeadline_0 rfl (lv_at hl 1 rfl) ?_
  refine lv_if_eq (tgt := 11) hx hb dX6_firstDeadline_1 (by decide) (fun _ => ?_) (fun c => absurd (by decide) c)
  refine lv_ldc2 hx hb hown (hts (.constantLong RX6 192 (9223372036854775807)) (by decide +kernel)) dX6_firstDeadline_11 ?_
  refine lv_lstore_n (lv' := [(2, .long 9223372036854775807), (0, .ref h0), (1, .int 0)]) hx hb dX6_firstDeadline_14 rfl hl (by decide) rfl (fun ls hl => ?_)
  refine lv_iconst (v := (-1)) hx hb dX6_firstDeadline_15 (by decide) ?_
  refine lv_istore (lv' := [(4, .int (-1)), (2, .long 9223372036854775807), (0, .ref h0), (1, .int 0)]) hx hb dX6_firstDeadline_16 hl (by decide) rfl (fun ls hl => ?_)
  refine lv_iconst (v := 0) hx hb dX6_firstDeadline_18 (by decide) ?_
  refine lv_istore (lv' := [(5, .int 0), (4, .int (-1)), (2, .long 9223372036854775807), (0, .ref h0), (1, .int 0)]) hx hb dX6_firstDeadline_19 hl (by decide) rfl (fun ls hl => ?_)
  refine lv_iload hx hb dX6_firstDeadline_21 (lv_at hl 0 rfl) ?_
  refine lv_aload_n hx hb dX6_firstDeadline_23 rfl (lv_at hl 3 rfl) ?_
  refine va_get (D := (dC, dI)) (ci := 6) (v := .int 0) (C := RX6) (T := TX6) (N := 10) hx hb hts iw_X6_firstDeadline_X6 hown hK hP 0 rfl rfl 5 (by decide) (hts (.fieldLink RX6 48 "DeadlineShare$State" "count" "I") (by decide +kernel)) (fun _ h9 => h9) rfl dX6_firstDeadline_24 ?_
  refine lv_icmp_ge (tgt := 91) hx hb dX6_firstDeadline_27 (by decide) (fun _ => ?_) (fun c => absurd (by decide) c)
  refine lv_iload hx hb dX6_firstDeadline_91 (lv_at hl 1 rfl) ?_
  have hP9 := hP.sub (ws' := [(h0, .inr (6, [.ref te, .ref ta, .ref lo, .ref su, .ref pt, .int 0, .int ti, .long 0, .int (-1), .int (-1)]))]) [0] rfl
  have hD9 := hD.sub (ws' := [(h0, .inr (6, [.ref te, .ref ta, .ref lo, .ref su, .ref pt, .int 0, .int ti, .long 0, .int (-1), .int (-1)]))]) [0] (by decide) rfl
  have hK9 := hK.sub (tys' := []) [] rfl
  refine W.widen (k := 0) (n := 0) (Nat.le_of_ble_eq_true rfl) (Nat.le_of_ble_eq_true rfl) ?_
  exact W.iret (v := (-1)) hx hb hr (fun t ht hW => ⟨⟨(-1), (), rfl, rfl, by rw [ht]; exact hP9, va_K.moved hW.alike hK9, hD9⟩, hS.F ht⟩) hS.2.2 dX6_firstDeadline_93
theorem iw_X6_leastV_X6 : ∀ w ∈ u_ws RX6 TX6 10, w ∈ wsX6_leastV := by decide +kernel
set_option maxHeartbeats 4000000 in
set_option maxRecDepth 100000 in
theorem c_X6_leastV (l : Launch) (dC : Nat → ClassId) (dI : Nat → Nat → Nat) (h0 : Nat) (te : Nat) (ta : Nat) (lo : Nat) (su : Nat) (pt : Nat) (ti : Int32) (sz : Nat) : Met l yX6_leastV wsX6_leastV ({ frames := 0, cells := 0, slots := 0, locals := 0 } : Room) (va_Pc [.ref h0] (fun U => U.heap.size = sz ∧ va_P (dC, dI) vwCl [(h0, .inr (6, [.ref te, .ref ta, .ref lo, .ref su, .ref pt, .int 0, .int ti, .long 0, .int (-1), .int (-1)]))] U.heap ∧ va_K (dC, dI) vwCl [] U ∧ va_D (fun _ => True) [(h0, .inr (6, [.ref te, .ref ta, .ref lo, .ref su, .ref pt, .int 0, .int ti, .long 0, .int (-1), .int (-1)]))])) (va_Qi (fun (r : Int32) (_ : Unit) => r = (-1)) (fun (_ : Unit) t => va_P (dC, dI) vwCl [(h0, .inr (6, [.ref te, .ref ta, .ref lo, .ref su, .ref pt, .int 0, .int ti, .long 0, .int (-1), .int (-1)]))] t.heap ∧ va_K (dC, dI) vwCl [] t ∧ va_D (va_A [(h0, .inr (6, [.ref te, .ref ta, .ref lo, .ref su, .ref pt, .int 0, .int ti, .long 0, .int (-1), .int (-1)]))] sz) [(h0, .inr (6, [.ref te, .ref ta, .ref lo, .ref su, .ref pt, .int 0, .int ti, .long 0, .int (-1), .int (-1)]))]) (va_A [(h0, .inr (6, [.ref te, .ref ta, .ref lo, .ref su, .ref pt, .int 0, .int ti, .long 0, .int (-1), .int (-1)]))] sz)) 0 0 (va_A [(h0, .inr (6, [.ref te, .ref ta, .ref lo, .ref su, .ref pt, .int 0, .int ti, .long 0, .int (-1), .int (-1)]))] sz) := by
  refine Met.ofW (cc := cX6_leastV) (maxL := 5) (ret := (some .int)) (by decide) rfl ?_
  intro p e s m args below meth c s₁ B hml hv
  obtain ⟨rfl, hsz, hP, hK, hD0⟩ := hv
  have hx := B.exec
  have hb := B.bytes
  have hr := B.returns
  have hts := atoms_spec (ws := wsX6_leastV) B.pre
  have hown : s.vm.findClass RX6 = some m.cls := findClass_of_methodNamed B.named
  have hlocks := B.notSynchronized
  subst hsz
  have hD := hD0.self (sz := s.heap.size)
  obtain ⟨A, hAe⟩ : ∃ A, A = va_A [(h0, .inr (6, [.ref te, .ref ta, .ref lo, .ref su, .ref pt, .int 0, .int ti, .long 0, .int (-1), .int (-1)]))] s.heap.size := ⟨_, rfl⟩
  rw [← hAe] at hD ⊢
  have hA : ∀ q : Nat, s.heap.size ≤ q → A q := fun q h => by rw [hAe]; exact Or.inr h
  have hS : va_S A s.heap s.heap [] := va_S.rf
  have hP : va_P (dC, dI) vwCl [(h0, .inr (6, [.ref te, .ref ta, .ref lo, .ref su, .ref pt, .int 0, .int ti, .long 0, .int (-1), .int (-1)]))] s.heap := hP
  have hl := lv_entry ([.ref h0]) (n := 5) (Nat.le_of_ble_eq_true rfl)
  rw [lg_entry_eq]
  generalize (lg_sl ([.ref h0]) ++ List.replicate (5 - (lg_sl ([.ref h0])).length) Slot.unset).toArray = ls at hl ⊢
  have hl : lv_has ls 5 [(0, .ref h0)] := hl
  refine lv_iconst (v := (-1)) hx hb dX6_leastV_0 (by decide) ?_
  refine lv_istore_n (lv' := [(1, .int (-1)), (0, .ref h0)]) hx hb dX6_leastV_1 rfl hl (by decide) rfl (fun ls hl => ?_)
  refine lv_lconst (v := 0) hx hb dX6_leastV_2 (by decide) ?_
  refine lv_lstore_n (lv' := [(2, .long 0), (1, .int (-1)), (0, .ref h0)]) hx hb dX6_leastV_3 rfl hl (by decide) rfl (fun ls hl => ?_)
  refine lv_iconst (v := 0) hx hb dX6_leastV_4 (by decide) ?_
  refine lv_istore (lv' := [(4, .int 0), (2, .long 0), (1, .int (-1)), (0, .ref h0)]) hx hb dX6_leastV_5 hl (by decide) rfl (fun ls hl => ?_)
  refine lv_iload hx hb dX6_leastV_7 (lv_at hl 0 rfl) ?_
  refine lv_aload_n hx hb dX6_leastV_9 rfl (lv_at hl 3 rfl) ?_
  refine va_get (D := (dC, dI)) (ci := 6) (v := .int 0) (C := RX6) (T := TX6) (N := 10) hx hb hts iw_X6_leastV_X6 hown hK hP 0 rfl rfl 5 (by decide) (hts (.fieldLink RX6 48 "DeadlineShare$State" "count" "I") (by decide +kernel)) (fun _ h9 => h9) rfl dX6_leastV_10 ?_
  refine lv_icmp_ge (tgt := 69) hx hb dX6_leastV_13 (by decide) (fun _ => ?_) (fun c => absurd (by decide) c)
  refine lv_iload_n hx hb dX6_leastV_69 rfl (lv_at hl 2 rfl) ?_
  have hP9 := hP.sub (ws' := [(h0, .inr (6, [.ref te, .ref ta, .ref lo, .ref su, .ref pt, .int 0, .int ti, .long 0, .int (-1), .int (-1)]))]) [0] rfl
  have hD9 := hD.sub (ws' := [(h0, .inr (6, [.ref te, .ref ta, .ref lo, .ref su, .ref pt, .int 0, .int ti, .long 0, .int (-1), .int (-1)]))]) [0] (by decide) rfl
  have hK9 := hK.sub (tys' := []) [] rfl
  refine W.widen (k := 0) (n := 0) (Nat.le_of_ble_eq_true rfl) (Nat.le_of_ble_eq_true rfl) ?_
  exact W.iret (v := (-1)) hx hb hr (fun t ht hW => ⟨⟨(-1), (), rfl, rfl, by rw [ht]; exact hP9, va_K.moved hW.alike hK9, hD9⟩, hS.F ht⟩) hS.2.2 dX6_leastV_70
theorem iw_X6_nextInTurn_X6 : ∀ w ∈ u_ws RX6 TX6 10, w ∈ wsX6_nextInTurn := by decide +kernel
set_option maxHeartbeats 4000000 in
set_option maxRecDepth 100000 in
theorem c_X6_nextInTurn (l : Launch) (dC : Nat → ClassId) (dI : Nat → Nat → Nat) (h0 : Nat) (te : Nat) (ta : Nat) (lo : Nat) (su : Nat) (pt : Nat) (ti : Int32) (sz : Nat) : Met l yX6_nextInTurn wsX6_nextInTurn ({ frames := 0, cells := 0, slots := 0, locals := 0 } : Room) (va_Pc [.ref h0] (fun U => U.heap.size = sz ∧ va_P (dC, dI) vwCl [(h0, .inr (6, [.ref te, .ref ta, .ref lo, .ref su, .ref pt, .int 0, .int ti, .long 0, .int (-1), .int (-1)]))] U.heap ∧ va_K (dC, dI) vwCl [] U ∧ va_D (fun _ => True) [(h0, .inr (6, [.ref te, .ref ta, .ref lo, .ref su, .ref pt, .int 0, .int ti, .long 0, .int (-1), .int (-1)]))])) (va_Qi (fun (r : Int32) (_ : Unit) => r = (-1)) (fun (_ : Unit) t => va_P (dC, dI) vwCl [(h0, .inr (6, [.ref te, .ref ta, .ref lo, .ref su, .ref pt, .int 0, .int ti, .long 0, .int (-1), .int (-1)]))] t.heap ∧ va_K (dC, dI) vwCl [] t ∧ va_D (va_A [(h0, .inr (6, [.ref te, .ref ta, .ref lo, .ref su, .ref pt, .int 0, .int ti, .long 0, .int (-1), .int (-1)]))] sz) [(h0, .inr (6, [.ref te, .ref ta, .ref lo, .ref su, .ref pt, .int 0, .int ti, .long 0, .int (-1), .int (-1)]))]) (va_A [(h0, .inr (6, [.ref te, .ref ta, .ref lo, .ref su, .ref pt, .int 0, .int ti, .long 0, .int (-1), .int (-1)]))] sz)) 0 0 (va_A [(h0, .inr (6, [.ref te, .ref ta, .ref lo, .ref su, .ref pt, .int 0, .int ti, .long 0, .int (-1), .int (-1)]))] sz) := by
  refine Met.ofW (cc := cX6_nextInTurn) (maxL := 3) (ret := (some .int)) (by decide) rfl ?_
  intro p e s m args below meth c s₁ B hml hv
  obtain ⟨rfl, hsz, hP, hK, hD0⟩ := hv
  have hx := B.exec
  have hb := B.bytes
  have hr := B.returns
  have hts := atoms_spec (ws := wsX6_nextInTurn) B.pre
  have hown : s.vm.findClass RX6 = some m.cls := findClass_of_methodNamed B.named
  have hlocks := B.notSynchronized
  subst hsz
  have hD := hD0.self (sz := s.heap.size)
  obtain ⟨A, hAe⟩ : ∃ A, A = va_A [(h0, .inr (6, [.ref te, .ref ta, .ref lo, .ref su, .ref pt, .int 0, .int ti, .long 0, .int (-1), .int (-1)]))] s.heap.size := ⟨_, rfl⟩
  rw [← hAe] at hD ⊢
  have hA : ∀ q : Nat, s.heap.size ≤ q → A q := fun q h => by rw [hAe]; exact Or.inr h
  have hS : va_S A s.heap s.heap [] := va_S.rf
  have hP : va_P (dC, dI) vwCl [(h0, .inr (6, [.ref te, .ref ta, .ref lo, .ref su, .ref pt, .int 0, .int ti, .long 0, .int (-1), .int (-1)]))] s.heap := hP
  have hl := lv_entry ([.ref h0]) (n := 3) (Nat.le_of_ble_eq_true rfl)
  rw [lg_entry_eq]
  generalize (lg_sl ([.ref h0]) ++ List.replicate (3 - (lg_sl ([.ref h0])).length) Slot.unset).toArray = ls at hl ⊢
  have hl : lv_has ls 3 [(0, .ref h0)] := hl
  refine lv_iconst (v := 1) hx hb dX6_nextInTurn_0 (by decide) ?_
  refine lv_istore_n (lv' := [(1, .int 1), (0, .ref h0)]) hx hb dX6_nextInTurn_1 rfl hl (by decide) rfl (fun ls hl => ?_)
  refine lv_iload_n hx hb dX6_nextInTurn_2 rfl (lv_at hl 0 rfl) ?_
  refine lv_aload_n hx hb dX6_nextInTurn_3 rfl (lv_at hl 1 rfl) ?_
  refine va_get (D := (dC, dI)) (ci := 6) (v := .int 0) (C := RX6) (T := TX6) (N := 10) hx hb hts iw_X6_nextInTurn_X6 hown hK hP 0 rfl rfl 5 (by decide) (hts (.fieldLink RX6 48 "DeadlineShare$State" "count" "I") (by decide +kernel)) (fun _ h9 => h9) rfl dX6_nextInTurn_4 ?_
  refine lv_icmp_gt (tgt := 50) hx hb dX6_nextInTurn_7 (by decide) (fun _ => ?_) (fun c => absurd (by decide) c)
  refine lv_iconst (v := (-1)) hx hb dX6_nextInTurn_50 (by decide) ?_
  have hP9 := hP.sub (ws' := [(h0, .inr (6, [.ref te, .ref ta, .ref lo, .ref su, .ref pt, .int 0, .int ti, .long 0, .int (-1), .int (-1)]))]) [0] rfl
  have hD9 := hD.sub (ws' := [(h0, .inr (6, [.ref te, .ref ta, .ref lo, .ref su, .ref pt, .int 0, .int ti, .long 0, .int (-1), .int (-1)]))]) [0] (by decide) rfl
  have hK9 := hK.sub (tys' := []) [] rfl
  refine W.widen (k := 0) (n := 0) (Nat.le_of_ble_eq_true rfl) (Nat.le_of_ble_eq_true rfl) ?_
  exact W.iret (v := (-1)) hx hb hr (fun t ht hW => ⟨⟨(-1), (), rfl, rfl, by rw [ht]; exact hP9, va_K.moved hW.alike hK9, hD9⟩, hS.F ht⟩) hS.2.2 dX6_nextInTurn_51
theorem iw_X6_weightsAsBits_X6 : ∀ w ∈ u_ws RX6 TX6 10, w ∈ wsX6_weightsAsBits := by decide +kernel
set_option maxHeartbeats 4000000 in
set_option maxRecDepth 100000 in
theorem c_X6_weightsAsBits (l : Launch) (dC : Nat → ClassId) (dI : Nat → Nat → Nat) (h0 : Nat) (te : Nat) (ta : Nat) (lo : Nat) (su : Nat) (pt : Nat) (ti : Int32) (sz : Nat) : Met l yX6_weightsAsBits wsX6_weightsAsBits ({ frames := 0, cells := 0, slots := 0, locals := 0 } : Room) (va_Pc [.ref h0] (fun U => U.heap.size = sz ∧ va_P (dC, dI) vwCl [(h0, .inr (6, [.ref te, .ref ta, .ref lo, .ref su, .ref pt, .int 0, .int ti, .long 0, .int (-1), .int (-1)]))] U.heap ∧ va_K (dC, dI) vwCl [] U ∧ va_D (fun _ => True) [(h0, .inr (6, [.ref te, .ref ta, .ref lo, .ref su, .ref pt, .int 0, .int ti, .long 0, .int (-1), .int (-1)]))])) (va_Ql (fun (r : Int64) (_ : Unit) => r = 0) (fun (_ : Unit) t => va_P (dC, dI) vwCl [(h0, .inr (6, [.ref te, .ref ta, .ref lo, .ref su, .ref pt, .int 0, .int ti, .long 0, .int (-1), .int (-1)]))] t.heap ∧ va_K (dC, dI) vwCl [] t ∧ va_D (va_A [(h0, .inr (6, [.ref te, .ref ta, .ref lo, .ref su, .ref pt, .int 0, .int ti, .long 0, .int (-1), .int (-1)]))] sz) [(h0, .inr (6, [.ref te, .ref ta, .ref lo, .ref su, .ref pt, .int 0, .int ti, .long 0, .int (-1), .int (-1)]))]) (va_A [(h0, .inr (6, [.ref te, .ref ta, .ref lo, .ref su, .ref pt, .int 0, .int ti, .long 0, .int (-1), .int (-1)]))] sz)) 0 0 (va_A [(h0, .inr (6, [.ref te, .ref ta, .ref lo, .ref su, .ref pt, .int 0, .int ti, .long 0, .int (-1), .int (-1)]))] sz) := by
  refine Met.ofW (cc := cX6_weightsAsBits) (maxL := 4) (ret := (some .long)) (by decide) rfl ?_
  intro p e s m args below meth c s₁ B hml hv
  obtain ⟨rfl, hsz, hP, hK, hD0⟩ := hv
  have hx := B.exec
  have hb := B.bytes
  have hr := B.returns
  have hts := atoms_spec (ws := wsX6_weightsAsBits) B.pre
  have hown : s.vm.findClass RX6 = some m.cls := findClass_of_methodNamed B.named
  have hlocks := B.notSynchronized
  subst hsz
  have hD := hD0.self (sz := s.heap.size)
  obtain ⟨A, hAe⟩ : ∃ A, A = va_A [(h0, .inr (6, [.ref te, .ref ta, .ref lo, .ref su, .ref pt, .int 0, .int ti, .long 0, .int (-1), .int (-1)]))] s.heap.size := ⟨_, rfl⟩
  rw [← hAe] at hD ⊢
  have hA : ∀ q : Nat, s.heap.size ≤ q → A q := fun q h => by rw [hAe]; exact Or.inr h
  have hS : va_S A s.heap s.heap [] := va_S.rf
  have hP : va_P (dC, dI) vwCl [(h0, .inr (6, [.ref te, .ref ta, .ref lo, .ref su, .ref pt, .int 0, .int ti, .long 0, .int (-1), .int (-1)]))] s.heap := hP
  have hl := lv_entry ([.ref h0]) (n := 4) (Nat.le_of_ble_eq_true rfl)
  rw [lg_entry_eq]
  generalize (lg_sl ([.ref h0]) ++ List.replicate (4 - (lg_sl ([.ref h0])).length) Slot.unset).toArray = ls at hl ⊢
  have hl : lv_has ls 4 [(0, .ref h0)] := hl
  refine lv_lconst (v := 0) hx hb dX6_weightsAsBits_0 (by decide) ?_
  refine lv_lstore_n (lv' := [(1, .long 0), (0, .ref h0)]) hx hb dX6_weightsAsBits_1 rfl hl (by decide) rfl (fun ls hl => ?_)
  refine lv_iconst (v := 0) hx hb dX6_weightsAsBits_2 (by decide) ?_
  refine lv_istore_n (lv' := [(3, .int 0), (1, .long 0), (0, .ref h0)]) hx hb dX6_weightsAsBits_3 rfl hl (by decide) rfl (fun ls hl => ?_)
  refine lv_iload_n hx hb dX6_weightsAsBits_4 rfl (lv_at hl 0 rfl) ?_
  refine lv_aload_n hx hb dX6_weightsAsBits_5 rfl (lv_at hl 2 rfl) ?_
  refine va_get (D := (dC, dI)) (ci := 6) (v := .int 0) (C := RX6) (T := TX6) (N := 10) hx hb hts iw_X6_weightsAsBits_X6 hown hK hP 0 rfl rfl 5 (by decide) (hts (.fieldLink RX6 48 "DeadlineShare$State" "count" "I") (by decide +kernel)) (fun _ h9 => h9) rfl dX6_weightsAsBits_6 ?_
  refine lv_icmp_ge (tgt := 46) hx hb dX6_weightsAsBits_9 (by decide) (fun _ => ?_) (fun c => absurd (by decide) c)
  refine lv_lload_n hx hb dX6_weightsAsBits_46 rfl (lv_at hl 1 rfl) ?_
  have hP9 := hP.sub (ws' := [(h0, .inr (6, [.ref te, .ref ta, .ref lo, .ref su, .ref pt, .int 0, .int ti, .long 0, .int (-1), .int (-1)]))]) [0] rfl
  have hD9 := hD.sub (ws' := [(h0, .inr (6, [.ref te, .ref ta, .ref lo, .ref su, .ref pt, .int 0, .int ti, .long 0, .int (-1), .int (-1)]))]) [0] (by decide) rfl
  have hK9 := hK.sub (tys' := []) [] rfl
  refine W.widen (k := 0) (n := 0) (Nat.le_of_ble_eq_true rfl) (Nat.le_of_ble_eq_true rfl) ?_
  exact W.lret (v := 0) hx hb hr (fun t ht hW => ⟨⟨0, (), rfl, rfl, by rw [ht]; exact hP9, va_K.moved hW.alike hK9, hD9⟩, hS.F ht⟩) hS.2.2 dX6_weightsAsBits_47
theorem iw_X6_firstInLog_X6 : ∀ w ∈ u_ws RX6 TX6 10, w ∈ wsX6_firstInLog := by decide +kernel
set_option maxHeartbeats 4000000 in
set_option maxRecDepth 100000 in
theorem c_X6_firstInLog0 (l : Launch) (dC : Nat → ClassId) (dI : Nat → Nat → Nat) (h0 : Nat) (te : Nat) (ta : Nat) (lo : Nat) (su : Nat) (pt : Nat) (sz : Nat) : Met l yX6_firstInLog wsX6_firstInLog ({ frames := 1, cells := 0, slots := 0, locals := 15 } : Room) (va_Pc [.ref h0] (fun U => U.heap.size = sz ∧ va_P (dC, dI) vwCl [(h0, .inr (6, [.ref te, .ref ta, .ref lo, .ref su, .ref pt, .int 0, .int 0, .long 0, .int (-1), .int (-1)]))] U.heap ∧ va_K (dC, dI) vwCl [] U ∧ va_D (fun _ => True) [(h0, .inr (6, [.ref te, .ref ta, .ref lo, .ref su, .ref pt, .int 0, .int 0, .long 0, .int (-1), .int (-1)]))])) (va_Qi (fun (r : Int32) (_ : Unit) => r = 0) (fun (_ : Unit) t => va_P (dC, dI) vwCl [(h0, .inr (6, [.ref te, .ref ta, .ref lo, .ref su, .ref pt, .int 0, .int 0, .long 0, .int (-1), .int (-1)]))] t.heap ∧ va_K (dC, dI) vwCl [] t ∧ va_D (va_A [(h0, .inr (6, [.ref te, .ref ta, .ref lo, .ref su, .ref pt, .int 0, .int 0, .long 0, .int (-1), .int (-1)]))] sz) [(h0, .inr (6, [.ref te, .ref ta, .ref lo, .ref su, .ref pt, .int 0, .int 0, .long 0, .int (-1), .int (-1)]))]) (va_A [(h0, .inr (6, [.ref te, .ref ta, .ref lo, .ref su, .ref pt, .int 0, .int 0, .long 0, .int (-1), .int (-1)]))] sz)) 0 0 (va_A [(h0, .inr (6, [.ref te, .ref ta, .ref lo, .ref su, .ref pt, .int 0, .int 0, .long 0, .int (-1), .int (-1)]))] sz) := by
  refine Met.ofW (cc := cX6_firstInLog) (maxL := 1) (ret := (some .int)) (by decide) rfl ?_
  intro p e s m args below meth c s₁ B hml hv
  obtain ⟨rfl, hsz, hP, hK, hD0⟩ := hv
  have hx := B.exec
  have hb := B.bytes
  have hr := B.returns
  have hts := atoms_spec (ws := wsX6_firstInLog) B.pre
  have hown : s.vm.findClass RX6 = some m.cls := findClass_of_methodNamed B.named
  have hlocks := B.notSynchronized
  subst hsz
  have hD := hD0.self (sz := s.heap.size)
  obtain ⟨A, hAe⟩ : ∃ A, A = va_A [(h0, .inr (6, [.ref te, .ref ta, .ref lo, .ref su, .ref pt, .int 0, .int 0, .long 0, .int (-1), .int (-1)]))] s.heap.size := ⟨_, rfl⟩
  rw [← hAe] at hD ⊢
  have hA : ∀ q : Nat, s.heap.size ≤ q → A q := fun q h => by rw [hAe]; exact Or.inr h
  have hS : va_S A s.heap s.heap [] := va_S.rf
  have hP : va_P (dC, dI) vwCl [(h0, .inr (6, [.ref te, .ref ta, .ref lo, .ref su, .ref pt, .int 0, .int 0, .long 0, .int (-1), .int (-1)]))] s.heap := hP
  have hl := lv_entry ([.ref h0]) (n := 1) (Nat.le_of_ble_eq_true rfl)
  rw [lg_entry_eq]
  generalize (lg_sl ([.ref h0]) ++ List.replicate (1 - (lg_sl ([.ref h0])).length) Slot.unset).toArray = ls at hl ⊢
  have hl : lv_has ls 1 [(0, .ref h0)] := hl
  refine lv_iconst (v := 0) hx hb dX6_firstInLog_0 (by decide) ?_
  refine lv_aload_n hx hb dX6_firstInLog_1 rfl (lv_at hl 0 rfl) ?_
  refine va_get (D := (dC, dI)) (ci := 6) (v := .int 0) (C := RX6) (T := TX6) (N := 10) hx hb hts iw_X6_firstInLog_X6 hown hK hP 0 rfl rfl 6 (by decide) (hts (.fieldLink RX6 58 "DeadlineShare$State" "time" "I") (by decide +kernel)) (fun _ h9 => h9) rfl dX6_firstInLog_2 ?_
  refine lv_sipush (v := 128) hx hb dX6_firstInLog_5 (by decide) ?_
  refine lv_isub hx hb dX6_firstInLog_8 ?_
  refine k_topi (y := (-128)) (by decide) ?_
  refine va_mmax hx hb (by rw [hml]; exact hl.1.symm) hown (hts (.methodLink RX6 174 Lib.Math.max.name) (by decide +kernel)) (hts (.static Lib.Math.max.name) (by decide +kernel)) (hts (.initialized "java/lang/Math") (by decide +kernel)) (hts (.code Lib.Math.max.name Lib.Math.max.code 2 (some .int)) (by decide +kernel)) (Nat.le_of_ble_eq_true rfl) (Nat.le_of_ble_eq_true rfl) (Nat.le_of_ble_eq_true rfl) (Nat.le_of_ble_eq_true rfl) dX6_firstInLog_9 ?_
  refine k_topi (y := 0) (by decide) ?_
  have hP9 := hP.sub (ws' := [(h0, .inr (6, [.ref te, .ref ta, .ref lo, .ref su, .ref pt, .int 0, .int 0, .long 0, .int (-1), .int (-1)]))]) [0] rfl
  have hD9 := hD.sub (ws' := [(h0, .inr (6, [.ref te, .ref ta, .ref lo, .ref su, .ref pt, .int 0, .int 0, .long 0, .int (-1), .int (-1)]))]) [0] (by decide) rfl
  have hK9 := hK.sub (tys' := []) [] rfl
  refine W.widen (k := 0) (n := 0) (Nat.le_of_ble_eq_true rfl) (Nat.le_of_ble_eq_true rfl) ?_
  exact W.iret (v := 0) hx hb hr (fun t ht hW => ⟨⟨0, (), rfl, rfl, by rw [ht]; exact hP9, va_K.moved hW.alike hK9, hD9⟩, hS.F ht⟩) hS.2.2 dX6_firstInLog_12
theorem iw_X6_logHolds_X6 : ∀ w ∈ u_ws RX6 TX6 10, w ∈ wsX6_logHolds := by decide +kernel
set_option maxHeartbeats 4000000 in
set_option maxRecDepth 100000 in
theorem c_X6_logHolds0 (l : Launch) (dC : Nat → ClassId) (dI : Nat → Nat → Nat) (h0 : Nat) (wh : Int32) (te : Nat) (ta : Nat) (lo : Nat) (su : Nat) (pt : Nat) (sz : Nat) : Met l yX6_logHolds wsX6_logHolds ({ frames := 2, cells := 0, slots := 0, locals := 35 } : Room) (va_Pc [.ref h0, .int wh] (fun U => U.heap.size = sz ∧ va_P (dC, dI) vwCl [(h0, .inr (6, [.ref te, .ref ta, .ref lo, .ref su, .ref pt, .int 0, .int 0, .long 0, .int (-1), .int (-1)]))] U.heap ∧ va_K (dC, dI) vwCl [] U ∧ va_D (fun _ => True) [(h0, .inr (6, [.ref te, .ref ta, .ref lo, .ref su, .ref pt, .int 0, .int 0, .long 0, .int (-1), .int (-1)]))])) (va_Qi (fun (r : Int32) (_ : Unit) => r = 0) (fun (_ : Unit) t => va_P (dC, dI) vwCl [(h0, .inr (6, [.ref te, .ref ta, .ref lo, .ref su, .ref pt, .int 0, .int 0, .long 0, .int (-1), .int (-1)]))] t.heap ∧ va_K (dC, dI) vwCl [] t ∧ va_D (va_A [(h0, .inr (6, [.ref te, .ref ta, .ref lo, .ref su, .ref pt, .int 0, .int 0, .long 0, .int (-1), .int (-1)]))] sz) [(h0, .inr (6, [.ref te, .ref ta, .ref lo, .ref su, .ref pt, .int 0, .int 0, .long 0, .int (-1), .int (-1)]))]) (va_A [(h0, .inr (6, [.ref te, .ref ta, .ref lo, .ref su, .ref pt, .int 0, .int 0, .long 0, .int (-1), .int (-1)]))] sz)) 0 0 (va_A [(h0, .inr (6, [.ref te, .ref ta, .ref lo, .ref su, .ref pt, .int 0, .int 0, .long 0, .int (-1), .int (-1)]))] sz) := by
  refine Met.ofW (cc := cX6_logHolds) (maxL := 2) (ret := (some .boolean)) (by decide) rfl ?_
  intro p e s m args below meth c s₁ B hml hv
  obtain ⟨rfl, hsz, hP, hK, hD0⟩ := hv
  have hx := B.exec
  have hb := B.bytes
  have hr := B.returns
  have hts := atoms_spec (ws := wsX6_logHolds) B.pre
  have hown : s.vm.findClass RX6 = some m.cls := findClass_of_methodNamed B.named
  have hlocks := B.notSynchronized
  subst hsz
  have hD := hD0.self (sz := s.heap.size)
  obtain ⟨A, hAe⟩ : ∃ A, A = va_A [(h0, .inr (6, [.ref te, .ref ta, .ref lo, .ref su, .ref pt, .int 0, .int 0, .long 0, .int (-1), .int (-1)]))] s.heap.size := ⟨_, rfl⟩
  rw [← hAe] at hD ⊢
  have hA : ∀ q : Nat, s.heap.size ≤ q → A q := fun q h => by rw [hAe]; exact Or.inr h
  have hS : va_S A s.heap s.heap [] := va_S.rf
  have hP : va_P (dC, dI) vwCl [(h0, .inr (6, [.ref te, .ref ta, .ref lo, .ref su, .ref pt, .int 0, .int 0, .long 0, .int (-1), .int (-1)]))] s.heap := hP
  have hl := lv_entry ([.ref h0, .int wh]) (n := 2) (Nat.le_of_ble_eq_true rfl)
  rw [lg_entry_eq]
  generalize (lg_sl ([.ref h0, .int wh]) ++ List.replicate (2 - (lg_sl ([.ref h0, .int wh])).length) Slot.unset).toArray = ls at hl ⊢
  have hl : lv_has ls 2 [(0, .ref h0), (1, .int wh)] := hl
  refine lv_iload_n hx hb dX6_logHolds_0 rfl (lv_at hl 1 rfl) ?_
  refine lv_aload_n hx hb dX6_logHolds_1 rfl (lv_at hl 0 rfl) ?_
  have hPc := hP.sub (ws' := [(h0, .inr (6, [.ref te, .ref ta, .ref lo, .ref su, .ref pt, .int 0, .int 0, .long 0, .int (-1), .int (-1)]))]) [0] rfl
  have hDc := hD.sub (ws' := [(h0, .inr (6, [.ref te, .ref ta, .ref lo, .ref su, .ref pt, .int 0, .int 0, .long 0, .int (-1), .int (-1)]))]) [0] (by decide) rfl
  have hKc := hK.sub (tys' := []) [] rfl
  have hFc := va_free (wc := [(h0, .inr (6, [.ref te, .ref ta, .ref lo, .ref su, .ref pt, .int 0, .int 0, .long 0, .int (-1), .int (-1)]))]) hD hS hA [0] rfl
  refine va_calli (va_runV (As := []) (rest := [.int wh]) ⟨hx, hb, hml, hown, hts⟩ (c_X6_firstInLog0 l dC dI h0 te ta lo su pt s.heap.size) (cwV 0 hts gX6_logHolds_X6_firstInLog rfl rfl rfl (by decide +kernel) ⟨Nat.le_of_ble_eq_true rfl, Nat.le_of_ble_eq_true rfl⟩) ⟨fun a U g mk q => by obtain ⟨q0, q1, qP, qK, qD⟩ := q; exact ⟨q0, q1, qP, va_K.moved (u := U) (U := U.calling g mk a) (Vm.Alike.refl U.vm) qK, qD⟩, va_recv hKc hPc (ci := 6) (q0 := 0) rfl rfl, fun U hU hW => ⟨rfl, by rw [hU], by rw [hU]; exact hPc, va_K.moved hW.alike hKc, hDc.weaken (fun _ _ _ _ => trivial)⟩⟩ rfl rfl hl.1 rfl (lv_room (Nat.le_of_ble_eq_true rfl)) dX6_logHolds_2 ⟨Nat.le_of_ble_eq_true rfl, Nat.le_of_ble_eq_true rfl⟩) hS (fun q _ h => hFc q h) hFc (fun r_1 u t H1 locs ht hvm hw hB hz1 hk1 hS => ?_)
  obtain ⟨hP1, hK1, hD1⟩ := hB
  rw [ht] at hP1
  have hK1 := va_K.moved hvm.symm hK1
  obtain ⟨hP, hD⟩ := va_join (wr := []) (w1 := [(h0, .inr (6, [.ref te, .ref ta, .ref lo, .ref su, .ref pt, .int 0, .int 0, .long 0, .int (-1), .int (-1)]))]) hP hD [0] [] rfl rfl (by decide) (by decide) hk1 hFc hP1 hD1
  generalize H1 = H at hP hS ⊢
  have hP : va_P (dC, dI) vwCl [(h0, .inr (6, [.ref te, .ref ta, .ref lo, .ref su, .ref pt, .int 0, .int 0, .long 0, .int (-1), .int (-1)]))] H := hP
  have hD : va_D A [(h0, .inr (6, [.ref te, .ref ta, .ref lo, .ref su, .ref pt, .int 0, .int 0, .long 0, .int (-1), .int (-1)]))] := hD
  refine W.widen (k := 0) (n := 0) (Nat.le_of_ble_eq_true rfl) (Nat.le_of_ble_eq_true rfl) ?_
  have hw : r_1 = 0 := hw
  subst hw
  refine lv_icmp_lt (tgt := 20) hx hb dX6_logHolds_5 (by decide) (fun c_2 => ?_) (fun c_2 => ?_)
  · refine lv_iconst (v := 0) hx hb dX6_logHolds_20 (by decide) ?_
    have hP9 := hP.sub (ws' := [(h0, .inr (6, [.ref te, .ref ta, .ref lo, .ref su, .ref pt, .int 0, .int 0, .long 0, .int (-1), .int (-1)]))]) [0] rfl
    have hD9 := hD.sub (ws' := [(h0, .inr (6, [.ref te, .ref ta, .ref lo, .ref su, .ref pt, .int 0, .int 0, .long 0, .int (-1), .int (-1)]))]) [0] (by decide) rfl
    have hK9 := hK.sub (tys' := []) [] rfl
    refine W.widen (k := 0) (n := 0) (Nat.le_of_ble_eq_true rfl) (Nat.le_of_ble_eq_true rfl) ?_
    exact W.zret (v := 0) hx hb hr rfl (fun t ht hW => ⟨⟨0, (), rfl, rfl, by rw [ht]; exact hP9, va_K.moved hW.alike hK9, hD9⟩, hS.F ht⟩) hS.2.2 dX6_logHolds_21
  · refine lv_iload_n hx hb dX6_logHolds_8 rfl (lv_at hl 1 rfl) ?_
    refine lv_aload_n hx hb dX6_logHolds_9 rfl (lv_at hl 0 rfl) ?_
    refine va_get (D := (dC, dI)) (ci := 6) (v := .int 0) (C := RX6) (T := TX6) (N := 10) hx hb hts iw_X6_logHolds_X6 hown hK hP 0 rfl rfl 6 (by decide) (hts (.fieldLink RX6 58 "DeadlineShare$State" "time" "I") (by decide +kernel)) (fun _ h9 => h9) rfl dX6_logHolds_10 ?_
    refine lv_icmp_ge (tgt := 20) hx hb dX6_logHolds_13 (by decide) (fun _ => ?_) (fun c => absurd ((fa_le _ _).mpr (by have z0 := fun h9 => c_2 ((fa_lt _ _).mpr h9); have li0 : Int32.toInt 0 = 0 := by decide; skip; omega)) c)
    refine lv_iconst (v := 0) hx hb dX6_logHolds_20 (by decide) ?_
    have hP9 := hP.sub (ws' := [(h0, .inr (6, [.ref te, .ref ta, .ref lo, .ref su, .ref pt, .int 0, .int 0, .long 0, .int (-1), .int (-1)]))]) [0] rfl
    have hD9 := hD.sub (ws' := [(h0, .inr (6, [.ref te, .ref ta, .ref lo, .ref su, .ref pt, .int 0, .int 0, .long 0, .int (-1), .int (-1)]))]) [0] (by decide) rfl
    have hK9 := hK.sub (tys' := []) [] rfl
    refine W.widen (k := 0) (n := 0) (Nat.le_of_ble_eq_true rfl) (Nat.le_of_ble_eq_true rfl) ?_
    exact W.zret (v := 0) hx hb hr rfl (fun t ht hW => ⟨⟨0, (), rfl, rfl, by rw [ht]; exact hP9, va_K.moved hW.alike hK9, hD9⟩, hS.F ht⟩) hS.2.2 dX6_logHolds_21
theorem iw_X6_lagEdge_X6 : ∀ w ∈ u_ws RX6 TX6 10, w ∈ wsX6_lagEdge := by decide +kernel
set_option maxHeartbeats 4000000 in
set_option maxRecDepth 100000 in
theorem c_X6_lagEdge (l : Launch) (dC : Nat → ClassId) (dI : Nat → Nat → Nat) (h0 : Nat) (sf : Int64) (gr : Int32) (te : Nat) (ta : Nat) (lo : Nat) (su : Nat) (pt : Nat) (ti : Int32) (sz : Nat) : Met l yX6_lagEdge wsX6_lagEdge ({ frames := 1, cells := 0, slots := 0, locals := 22 } : Room) (va_Pc [.ref h0, .long sf, .int gr] (fun U => U.heap.size = sz ∧ va_P (dC, dI) vwCl [(h0, .inr (6, [.ref te, .ref ta, .ref lo, .ref su, .ref pt, .int 0, .int ti, .long 0, .int (-1), .int (-1)]))] U.heap ∧ va_K (dC, dI) vwCl [] U ∧ va_D (fun _ => True) [(h0, .inr (6, [.ref te, .ref ta, .ref lo, .ref su, .ref pt, .int 0, .int ti, .long 0, .int (-1), .int (-1)]))])) (va_Ql (fun (r : Int64) (_ : Unit) => r = sf) (fun (_ : Unit) t => va_P (dC, dI) vwCl [(h0, .inr (6, [.ref te, .ref ta, .ref lo, .ref su, .ref pt, .int 0, .int ti, .long 0, .int (-1), .int (-1)]))] t.heap ∧ va_K (dC, dI) vwCl [] t ∧ va_D (va_A [(h0, .inr (6, [.ref te, .ref ta, .ref lo, .ref su, .ref pt, .int 0, .int ti, .long 0, .int (-1), .int (-1)]))] sz) [(h0, .inr (6, [.ref te, .ref ta, .ref lo, .ref su, .ref pt, .int 0, .int ti, .long 0, .int (-1), .int (-1)]))]) (va_A [(h0, .inr (6, [.ref te, .ref ta, .ref lo, .ref su, .ref pt, .int 0, .int ti, .long 0, .int (-1), .int (-1)]))] sz)) 0 0 (va_A [(h0, .inr (6, [.ref te, .ref ta, .ref lo, .ref su, .ref pt, .int 0, .int ti, .long 0, .int (-1), .int (-1)]))] sz) := by
  refine Met.ofW (cc := cX6_lagEdge) (maxL := 8) (ret := (some .long)) (by decide) rfl ?_
  intro p e s m args below meth c s₁ B hml hv
  obtain ⟨rfl, hsz, hP, hK, hD0⟩ := hv
  have hx := B.exec
  have hb := B.bytes
  have hr := B.returns
  have hts := atoms_spec (ws := wsX6_lagEdge) B.pre
  have hown : s.vm.findClass RX6 = some m.cls := findClass_of_methodNamed B.named
  have hlocks := B.notSynchronized
  subst hsz
  have hD := hD0.self (sz := s.heap.size)
  obtain ⟨A, hAe⟩ : ∃ A, A = va_A [(h0, .inr (6, [.ref te, .ref ta, .ref lo, .ref su, .ref pt, .int 0, .int ti, .long 0, .int (-1), .int (-1)]))] s.heap.size := ⟨_, rfl⟩
  rw [← hAe] at hD ⊢
  have hA : ∀ q : Nat, s.heap.size ≤ q → A q := fun q h => by rw [hAe]; exact Or.inr h
  have hS : va_S A s.heap s.heap [] := va_S.rf
  have hP : va_P (dC, dI) vwCl [(h0, .inr (6, [.ref te, .ref ta, .ref lo, .ref su, .ref pt, .int 0, .int ti, .long 0, .int (-1), .int (-1)]))] s.heap := hP
  have hl := lv_entry ([.ref h0, .long sf, .int gr]) (n := 8) (Nat.le_of_ble_eq_true rfl)
  rw [lg_entry_eq]
  generalize (lg_sl ([.ref h0, .long sf, .int gr]) ++ List.replicate (8 - (lg_sl ([.ref h0, .long sf, .int gr])).length) Slot.unset).toArray = ls at hl ⊢
  have hl : lv_has ls 8 [(0, .ref h0), (1, .long sf), (3, .int gr)] := hl
  refine lv_aload_n hx hb dX6_lagEdge_0 rfl (lv_at hl 0 rfl) ?_
  have hPc := hP.sub (ws' := [(h0, .inr (6, [.ref te, .ref ta, .ref lo, .ref su, .ref pt, .int 0, .int ti, .long 0, .int (-1), .int (-1)]))]) [0] rfl
  have hDc := hD.sub (ws' := [(h0, .inr (6, [.ref te, .ref ta, .ref lo, .ref su, .ref pt, .int 0, .int ti, .long 0, .int (-1), .int (-1)]))]) [0] (by decide) rfl
  have hKc := hK.sub (tys' := []) [] rfl
  have hFc := va_free (wc := [(h0, .inr (6, [.ref te, .ref ta, .ref lo, .ref su, .ref pt, .int 0, .int ti, .long 0, .int (-1), .int (-1)]))]) hD hS hA [0] rfl
  refine va_calli (va_runV (As := []) (rest := []) ⟨hx, hb, hml, hown, hts⟩ (c_X6_weightOfAll l dC dI h0 te ta lo su pt ti s.heap.size) (cwV 0 hts gX6_lagEdge_X6_weightOfAll rfl rfl rfl (by decide +kernel) ⟨Nat.le_of_ble_eq_true rfl, Nat.le_of_ble_eq_true rfl⟩) ⟨fun a U g mk q => by obtain ⟨q0, q1, qP, qK, qD⟩ := q; exact ⟨q0, q1, qP, va_K.moved (u := U) (U := U.calling g mk a) (Vm.Alike.refl U.vm) qK, qD⟩, va_recv hKc hPc (ci := 6) (q0 := 0) rfl rfl, fun U hU hW => ⟨rfl, by rw [hU], by rw [hU]; exact hPc, va_K.moved hW.alike hKc, hDc.weaken (fun _ _ _ _ => trivial)⟩⟩ rfl rfl hl.1 rfl (lv_room (Nat.le_of_ble_eq_true rfl)) dX6_lagEdge_1 ⟨Nat.le_of_ble_eq_true rfl, Nat.le_of_ble_eq_true rfl⟩) hS (fun q _ h => hFc q h) hFc (fun r_1 u t H1 locs ht hvm hw hB hz1 hk1 hS => ?_)
  obtain ⟨hP1, hK1, hD1⟩ := hB
  rw [ht] at hP1
  have hK1 := va_K.moved hvm.symm hK1
  obtain ⟨hP, hD⟩ := va_join (wr := []) (w1 := [(h0, .inr (6, [.ref te, .ref ta, .ref lo, .ref su, .ref pt, .int 0, .int ti, .long 0, .int (-1), .int (-1)]))]) hP hD [0] [] rfl rfl (by decide) (by decide) hk1 hFc hP1 hD1
  generalize H1 = H at hP hS ⊢
  have hP : va_P (dC, dI) vwCl [(h0, .inr (6, [.ref te, .ref ta, .ref lo, .ref su, .ref pt, .int 0, .int ti, .long 0, .int (-1), .int (-1)]))] H := hP
  have hD : va_D A [(h0, .inr (6, [.ref te, .ref ta, .ref lo, .ref su, .ref pt, .int 0, .int ti, .long 0, .int (-1), .int (-1)]))] := hD
  refine W.widen (k := 0) (n := 0) (Nat.le_of_ble_eq_true rfl) (Nat.le_of_ble_eq_true rfl) ?_
  have hw : r_1 = 0 := hw
  subst hw
  refine lv_istore (lv' := [(4, .int 0), (0, .ref h0), (1, .long sf), (3, .int gr)]) hx hb dX6_lagEdge_4 hl (by decide) rfl (fun ls hl => ?_)
  refine lv_lload_n hx hb dX6_lagEdge_6 rfl (lv_at hl 2 rfl) ?_
  refine lv_lstore (lv' := [(5, .long sf), (4, .int 0), (0, .ref h0), (1, .long sf), (3, .int gr)]) hx hb dX6_lagEdge_7 hl (by decide) rfl (fun ls hl => ?_)
  refine lv_iconst (v := 0) hx hb dX6_lagEdge_9 (by decide) ?_
  refine lv_istore (lv' := [(7, .int 0), (5, .long sf), (4, .int 0), (0, .ref h0), (1, .long sf), (3, .int gr)]) hx hb dX6_lagEdge_10 hl (by decide) rfl (fun ls hl => ?_)
  refine lv_iload hx hb dX6_lagEdge_12 (lv_at hl 0 rfl) ?_
  refine lv_aload_n hx hb dX6_lagEdge_14 rfl (lv_at hl 3 rfl) ?_
  refine va_get (D := (dC, dI)) (ci := 6) (v := .int 0) (C := RX6) (T := TX6) (N := 10) hx hb hts iw_X6_lagEdge_X6 hown hK hP 0 rfl rfl 5 (by decide) (hts (.fieldLink RX6 48 "DeadlineShare$State" "count" "I") (by decide +kernel)) (fun _ h9 => h9) rfl dX6_lagEdge_15 ?_
  refine lv_icmp_ge (tgt := 118) hx hb dX6_lagEdge_18 (by decide) (fun _ => ?_) (fun c => absurd (by decide) c)
  refine lv_lload hx hb dX6_lagEdge_118 (lv_at hl 1 rfl) ?_
  have hP9 := hP.sub (ws' := [(h0, .inr (6, [.ref te, .ref ta, .ref lo, .ref su, .ref pt, .int 0, .int ti, .long 0, .int (-1), .int (-1)]))]) [0] rfl
  have hD9 := hD.sub (ws' := [(h0, .inr (6, [.ref te, .ref ta, .ref lo, .ref su, .ref pt, .int 0, .int ti, .long 0, .int (-1), .int (-1)]))]) [0] (by decide) rfl
  have hK9 := hK.sub (tys' := []) [] rfl
  refine W.widen (k := 0) (n := 0) (Nat.le_of_ble_eq_true rfl) (Nat.le_of_ble_eq_true rfl) ?_
  exact W.lret (v := sf) hx hb hr (fun t ht hW => ⟨⟨sf, (), rfl, rfl, by rw [ht]; exact hP9, va_K.moved hW.alike hK9, hD9⟩, hS.F ht⟩) hS.2.2 dX6_lagEdge_120
set_option maxHeartbeats 4000000 in
set_option maxRecDepth 100000 in
theorem c_X0_byDraw (l : Launch) (dC : Nat → ClassId) (dI : Nat → Nat → Nat) (h1 : Nat) (h0 : Nat) (te : Nat) (wy : Int32) (dr : Int64) (ta : Nat) (lo : Nat) (su : Nat) (pt : Nat) (ti : Int32) (sz : Nat) : Met l yX0_byDraw wsX0_byDraw ({ frames := 1, cells := 0, slots := 0, locals := 22 } : Room) (va_Pc [.ref h1, .ref h0] (fun U => U.heap.size = sz ∧ va_P (dC, dI) vwCl [(h1, .inr (0, [.ref te, .int wy, .long dr])), (h0, .inr (6, [.ref te, .ref ta, .ref lo, .ref su, .ref pt, .int 0, .int ti, .long 0, .int (-1), .int (-1)]))] U.heap ∧ va_K (dC, dI) vwCl [] U ∧ va_D (fun _ => True) [(h1, .inr (0, [.ref te, .int wy, .long dr])), (h0, .inr (6, [.ref te, .ref ta, .ref lo, .ref su, .ref pt, .int 0, .int ti, .long 0, .int (-1), .int (-1)]))])) (va_Qi (fun (r : Int32) (_ : Unit) => r = (-1)) (fun (_ : Unit) t => va_P (dC, dI) vwCl [(h1, .inr (0, [.ref te, .int wy, .long dr])), (h0, .inr (6, [.ref te, .ref ta, .ref lo, .ref su, .ref pt, .int 0, .int ti, .long 0, .int (-1), .int (-1)]))] t.heap ∧ va_K (dC, dI) vwCl [] t ∧ va_D (va_A [(h1, .inr (0, [.ref te, .int wy, .long dr])), (h0, .inr (6, [.ref te, .ref ta, .ref lo, .ref su, .ref pt, .int 0, .int ti, .long 0, .int (-1), .int (-1)]))] sz) [(h1, .inr (0, [.ref te, .int wy, .long dr])), (h0, .inr (6, [.ref te, .ref ta, .ref lo, .ref su, .ref pt, .int 0, .int ti, .long 0, .int (-1), .int (-1)]))]) (va_A [(h1, .inr (0, [.ref te, .int wy, .long dr])), (h0, .inr (6, [.ref te, .ref ta, .ref lo, .ref su, .ref pt, .int 0, .int ti, .long 0, .int (-1), .int (-1)]))] sz)) 0 0 (va_A [(h1, .inr (0, [.ref te, .int wy, .long dr])), (h0, .inr (6, [.ref te, .ref ta, .ref lo, .ref su, .ref pt, .int 0, .int ti, .long 0, .int (-1), .int (-1)]))] sz) := by
  refine Met.ofW (cc := cX0_byDraw) (maxL := 3) (ret := (some .int)) (by decide) rfl ?_
  intro p e s m args below meth c s₁ B hml hv
  obtain ⟨rfl, hsz, hP, hK, hD0⟩ := hv
  have hx := B.exec
  have hb := B.bytes
  have hr := B.returns
  have hts := atoms_spec (ws := wsX0_byDraw) B.pre
  have hown : s.vm.findClass RX0 = some m.cls := findClass_of_methodNamed B.named
  have hlocks := B.notSynchronized
  subst hsz
  have hD := hD0.self (sz := s.heap.size)
  obtain ⟨A, hAe⟩ : ∃ A, A = va_A [(h1, .inr (0, [.ref te, .int wy, .long dr])), (h0, .inr (6, [.ref te, .ref ta, .ref lo, .ref su, .ref pt, .int 0, .int ti, .long 0, .int (-1), .int (-1)]))] s.heap.size := ⟨_, rfl⟩
  rw [← hAe] at hD ⊢
  have hA : ∀ q : Nat, s.heap.size ≤ q → A q := fun q h => by rw [hAe]; exact Or.inr h
  have hS : va_S A s.heap s.heap [] := va_S.rf
  have hP : va_P (dC, dI) vwCl [(h1, .inr (0, [.ref te, .int wy, .long dr])), (h0, .inr (6, [.ref te, .ref ta, .ref lo, .ref su, .ref pt, .int 0, .int ti, .long 0, .int (-1), .int (-1)]))] s.heap := hP
  have hl := lv_entry ([.ref h1, .ref h0]) (n := 3) (Nat.le_of_ble_eq_true rfl)
  rw [lg_entry_eq]
  generalize (lg_sl ([.ref h1, .ref h0]) ++ List.replicate (3 - (lg_sl ([.ref h1, .ref h0])).length) Slot.unset).toArray = ls at hl ⊢
  have hl : lv_has ls 3 [(0, .ref h1), (1, .ref h0)] := hl
  refine lv_aload_n hx hb dX0_byDraw_0 rfl (lv_at hl 1 rfl) ?_
  have hPc := hP.sub (ws' := [(h0, .inr (6, [.ref te, .ref ta, .ref lo, .ref su, .ref pt, .int 0, .int ti, .long 0, .int (-1), .int (-1)]))]) [1] rfl
  have hDc := hD.sub (ws' := [(h0, .inr (6, [.ref te, .ref ta, .ref lo, .ref su, .ref pt, .int 0, .int ti, .long 0, .int (-1), .int (-1)]))]) [1] (by decide) rfl
  have hKc := hK.sub (tys' := []) [] rfl
  have hFc := va_free (wc := [(h0, .inr (6, [.ref te, .ref ta, .ref lo, .ref su, .ref pt, .int 0, .int ti, .long 0, .int (-1), .int (-1)]))]) hD hS hA [1] rfl
  refine va_calli (va_runV (As := []) (rest := []) ⟨hx, hb, hml, hown, hts⟩ (c_X6_weightOfAll l dC dI h0 te ta lo su pt ti s.heap.size) (cwV 0 hts gX0_byDraw_X6_weightOfAll rfl rfl rfl (by decide +kernel) ⟨Nat.le_of_ble_eq_true rfl, Nat.le_of_ble_eq_true rfl⟩) ⟨fun a U g mk q => by obtain ⟨q0, q1, qP, qK, qD⟩ := q; exact ⟨q0, q1, qP, va_K.moved (u := U) (U := U.calling g mk a) (Vm.Alike.refl U.vm) qK, qD⟩, va_recv hKc hPc (ci := 6) (q0 := 0) rfl rfl, fun U hU hW => ⟨rfl, by rw [hU], by rw [hU]; exact hPc, va_K.moved hW.alike hKc, hDc.weaken (fun _ _ _ _ => trivial)⟩⟩ rfl rfl hl.1 rfl (lv_room (Nat.le_of_ble_eq_true rfl)) dX0_byDraw_1 ⟨Nat.le_of_ble_eq_true rfl, Nat.le_of_ble_eq_true rfl⟩) hS (fun q _ h => hFc q h) hFc (fun r_1 u t H1 locs ht hvm hw hB hz1 hk1 hS => ?_)
  obtain ⟨hP1, hK1, hD1⟩ := hB
  rw [ht] at hP1
  have hK1 := va_K.moved hvm.symm hK1
  obtain ⟨hP, hD⟩ := va_join (wr := [(h1, .inr (0, [.ref te, .int wy, .long dr]))]) (w1 := [(h0, .inr (6, [.ref te, .ref ta, .ref lo, .ref su, .ref pt, .int 0, .int ti, .long 0, .int (-1), .int (-1)]))]) hP hD [1] [0] rfl rfl (by decide) (by decide) hk1 hFc hP1 hD1
  generalize H1 = H at hP hS ⊢
  have hP : va_P (dC, dI) vwCl [(h1, .inr (0, [.ref te, .int wy, .long dr])), (h0, .inr (6, [.ref te, .ref ta, .ref lo, .ref su, .ref pt, .int 0, .int ti, .long 0, .int (-1), .int (-1)]))] H := hP
  have hD : va_D A [(h1, .inr (0, [.ref te, .int wy, .long dr])), (h0, .inr (6, [.ref te, .ref ta, .ref lo, .ref su, .ref pt, .int 0, .int ti, .long 0, .int (-1), .int (-1)]))] := hD
  refine W.widen (k := 0) (n := 0) (Nat.le_of_ble_eq_true rfl) (Nat.le_of_ble_eq_true rfl) ?_
  have hw : r_1 = 0 := hw
  subst hw
  refine lv_istore_n (lv' := [(2, .int 0), (0, .ref h1), (1, .ref h0)]) hx hb dX0_byDraw_4 rfl hl (by decide) rfl (fun ls hl => ?_)
  refine lv_iload_n hx hb dX0_byDraw_5 rfl (lv_at hl 0 rfl) ?_
  refine lv_if_gt (tgt := 11) hx hb dX0_byDraw_6 (by decide) (fun c => absurd c (by decide)) (fun _ => ?_)
  refine lv_iconst (v := (-1)) hx hb dX0_byDraw_9 (by decide) ?_
  have hP9 := hP.sub (ws' := [(h1, .inr (0, [.ref te, .int wy, .long dr])), (h0, .inr (6, [.ref te, .ref ta, .ref lo, .ref su, .ref pt, .int 0, .int ti, .long 0, .int (-1), .int (-1)]))]) [0, 1] rfl
  have hD9 := hD.sub (ws' := [(h1, .inr (0, [.ref te, .int wy, .long dr])), (h0, .inr (6, [.ref te, .ref ta, .ref lo, .ref su, .ref pt, .int 0, .int ti, .long 0, .int (-1), .int (-1)]))]) [0, 1] (by decide) rfl
  have hK9 := hK.sub (tys' := []) [] rfl
  refine W.widen (k := 0) (n := 0) (Nat.le_of_ble_eq_true rfl) (Nat.le_of_ble_eq_true rfl) ?_
  exact W.iret (v := (-1)) hx hb hr (fun t ht hW => ⟨⟨(-1), (), rfl, rfl, by rw [ht]; exact hP9, va_K.moved hW.alike hK9, hD9⟩, hS.F ht⟩) hS.2.2 dX0_byDraw_10
theorem iw_X0_pick_X0 : ∀ w ∈ u_ws RX0 TX0 3, w ∈ wsX0_pick := by decide +kernel
theorem iw_X0_pick_X9 : ∀ w ∈ u_ws RX9 TX9 3, w ∈ wsX0_pick := by decide +kernel
set_option maxHeartbeats 4000000 in
set_option maxRecDepth 100000 in
theorem c_X0_pick (l : Launch) (dC : Nat → ClassId) (dI : Nat → Nat → Nat) (h1 : Nat) (h0 : Nat) (te : Nat) (wy : Int32) (dr : Int64) (ca : Int32) (se : Int32) (ta : Nat) (lo : Nat) (su : Nat) (pt : Nat) (ti : Int32) (sz : Nat) : Met l yX0_pick wsX0_pick ({ frames := 4, cells := 0, slots := 0, locals := 94 } : Room) (va_Pc [.ref h1, .ref h0] (fun U => U.heap.size = sz ∧ va_P (dC, dI) vwCl [(h1, .inr (0, [.ref te, .int wy, .long dr])), (te, .inr (9, [.int 0, .int ca, .int se])), (h0, .inr (6, [.ref te, .ref ta, .ref lo, .ref su, .ref pt, .int 0, .int ti, .long 0, .int (-1), .int (-1)])), (su, .inr (10, [.long 0, .long 0]))] U.heap ∧ va_K (dC, dI) vwCl [] U ∧ va_D (fun _ => True) [(h1, .inr (0, [.ref te, .int wy, .long dr])), (te, .inr (9, [.int 0, .int ca, .int se])), (h0, .inr (6, [.ref te, .ref ta, .ref lo, .ref su, .ref pt, .int 0, .int ti, .long 0, .int (-1), .int (-1)])), (su, .inr (10, [.long 0, .long 0]))])) (va_Qi (fun (r : Int32) (_ : Unit) => r = (-1)) (fun (_ : Unit) t => va_P (dC, dI) vwCl [(h1, .inr (0, [.ref te, .int wy, .long dr])), (te, .inr (9, [.int 0, .int ca, .int se])), (h0, .inr (6, [.ref te, .ref ta, .ref lo, .ref su, .ref pt, .int 0, .int ti, .long 0, .int (-1), .int (-1)])), (su, .inr (10, [.long 0, .long 0]))] t.heap ∧ va_K (dC, dI) vwCl [] t ∧ va_D (va_A [(h1, .inr (0, [.ref te, .int wy, .long dr])), (te, .inr (9, [.int 0, .int ca, .int se])), (h0, .inr (6, [.ref te, .ref ta, .ref lo, .ref su, .ref pt, .int 0, .int ti, .long 0, .int (-1), .int (-1)])), (su, .inr (10, [.long 0, .long 0]))] sz) [(h1, .inr (0, [.ref te, .int wy, .long dr])), (te, .inr (9, [.int 0, .int ca, .int se])), (h0, .inr (6, [.ref te, .ref ta, .ref lo, .ref su, .ref pt, .int 0, .int ti, .long 0, .int (-1), .int (-1)])), (su, .inr (10, [.long 0, .long 0]))]) (va_A [(h1, .inr (0, [.ref te, .int wy, .long dr])), (te, .inr (9, [.int 0, .int ca, .int se])), (h0, .inr (6, [.ref te, .ref ta, .ref lo, .ref su, .ref pt, .int 0, .int ti, .long 0, .int (-1), .int (-1)])), (su, .inr (10, [.long 0, .long 0]))] sz)) 0 0 (va_A [(h1, .inr (0, [.ref te, .int wy, .long dr])), (te, .inr (9, [.int 0, .int ca, .int se])), (h0, .inr (6, [.ref te, .ref ta, .ref lo, .ref su, .ref pt, .int 0, .int ti, .long 0, .int (-1), .int (-1)])), (su, .inr (10, [.long 0, .long 0]))] sz) := by
  refine Met.ofW (cc := cX0_pick) (maxL := 2) (ret := (some .int)) (by decide) rfl ?_
  intro p e s m args below meth c s₁ B hml hv
  obtain ⟨rfl, hsz, hP, hK, hD0⟩ := hv
  have hx := B.exec
  have hb := B.bytes
  have hr := B.returns
  have hts := atoms_spec (ws := wsX0_pick) B.pre
  have hown : s.vm.findClass RX0 = some m.cls := findClass_of_methodNamed B.named
  have hlocks := B.notSynchronized
  subst hsz
  have hD := hD0.self (sz := s.heap.size)
  obtain ⟨A, hAe⟩ : ∃ A, A = va_A [(h1, .inr (0, [.ref te, .int wy, .long dr])), (te, .inr (9, [.int 0, .int ca, .int se])), (h0, .inr (6, [.ref te, .ref ta, .ref lo, .ref su, .ref pt, .int 0, .int ti, .long 0, .int (-1), .int (-1)])), (su, .inr (10, [.long 0, .long 0]))] s.heap.size := ⟨_, rfl⟩
  rw [← hAe] at hD ⊢
  have hA : ∀ q : Nat, s.heap.size ≤ q → A q := fun q h => by rw [hAe]; exact Or.inr h
  have hS : va_S A s.heap s.heap [] := va_S.rf
  have hP : va_P (dC, dI) vwCl [(h1, .inr (0, [.ref te, .int wy, .long dr])), (te, .inr (9, [.int 0, .int ca, .int se])), (h0, .inr (6, [.ref te, .ref ta, .ref lo, .ref su, .ref pt, .int 0, .int ti, .long 0, .int (-1), .int (-1)])), (su, .inr (10, [.long 0, .long 0]))] s.heap := hP
  have hl := lv_entry ([.ref h1, .ref h0]) (n := 2) (Nat.le_of_ble_eq_true rfl)
  rw [lg_entry_eq]
  generalize (lg_sl ([.ref h1, .ref h0]) ++ List.replicate (2 - (lg_sl ([.ref h1, .ref h0])).length) Slot.unset).toArray = ls at hl ⊢
  have hl : lv_has ls 2 [(0, .ref h1), (1, .ref h0)] := hl
  refine lv_aload_n hx hb dX0_pick_0 rfl (lv_at hl 0 rfl) ?_
  refine va_get (D := (dC, dI)) (ci := 0) (v := .int wy) (C := RX0) (T := TX0) (N := 3) hx hb hts iw_X0_pick_X0 hown hK hP 0 rfl rfl 1 (by decide) (hts (.fieldLink RX0 15 "DeadlineShare$Chooser" "way" "I") (by decide +kernel)) (fun _ h9 => h9) rfl dX0_pick_1 ?_
  by_cases h_1 : wy = 1
  · subst h_1
    refine lv_tableIn (tgt := 36) hx hb dX0_pick_4 (by decide) (by decide) rfl (by decide) ?_
    refine lv_aload_n hx hb dX0_pick_36 rfl (lv_at hl 1 rfl) ?_
    have hPc := hP.sub (ws' := [(h0, .inr (6, [.ref te, .ref ta, .ref lo, .ref su, .ref pt, .int 0, .int ti, .long 0, .int (-1), .int (-1)]))]) [2] rfl
    have hDc := hD.sub (ws' := [(h0, .inr (6, [.ref te, .ref ta, .ref lo, .ref su, .ref pt, .int 0, .int ti, .long 0, .int (-1), .int (-1)]))]) [2] (by decide) rfl
    have hKc := hK.sub (tys' := []) [] rfl
    have hFc := va_free (wc := [(h0, .inr (6, [.ref te, .ref ta, .ref lo, .ref su, .ref pt, .int 0, .int ti, .long 0, .int (-1), .int (-1)]))]) hD hS hA [2] rfl
    refine va_calli (va_runV (As := []) (rest := []) ⟨hx, hb, hml, hown, hts⟩ (c_X6_leastV l dC dI h0 te ta lo su pt ti s.heap.size) (cwV 0 hts gX0_pick_X6_leastV rfl rfl rfl (by decide +kernel) ⟨Nat.le_of_ble_eq_true rfl, Nat.le_of_ble_eq_true rfl⟩) ⟨fun a U g mk q => by obtain ⟨q0, q1, qP, qK, qD⟩ := q; exact ⟨q0, q1, qP, va_K.moved (u := U) (U := U.calling g mk a) (Vm.Alike.refl U.vm) qK, qD⟩, va_recv hKc hPc (ci := 6) (q0 := 0) rfl rfl, fun U hU hW => ⟨rfl, by rw [hU], by rw [hU]; exact hPc, va_K.moved hW.alike hKc, hDc.weaken (fun _ _ _ _ => trivial)⟩⟩ rfl rfl hl.1 rfl (lv_room (Nat.le_of_ble_eq_true rfl)) dX0_pick_37 ⟨Nat.le_of_ble_eq_true rfl, Nat.le_of_ble_eq_true rfl⟩) hS (fun q _ h => hFc q h) hFc (fun r_2 u t H1 locs ht hvm hw hB hz1 hk1 hS => ?_)
    obtain ⟨hP1, hK1, hD1⟩ := hB
    rw [ht] at hP1
    have hK1 := va_K.moved hvm.symm hK1
    obtain ⟨hP, hD⟩ := va_join (wr := [(h1, .inr (0, [.ref te, .int 1, .long dr])), (te, .inr (9, [.int 0, .int ca, .int se])), (su, .inr (10, [.long 0, .long 0]))]) (w1 := [(h0, .inr (6, [.ref te, .ref ta, .ref lo, .ref su, .ref pt, .int 0, .int ti, .long 0, .int (-1), .int (-1)]))]) hP hD [2] [0, 1, 3] rfl rfl (by decide) (by decide) hk1 hFc hP1 hD1
    generalize H1 = H at hP hS ⊢
    have hP : va_P (dC, dI) vwCl [(h1, .inr (0, [.ref te, .int 1, .long dr])), (te, .inr (9, [.int 0, .int ca, .int se])), (su, .inr (10, [.long 0, .long 0])), (h0, .inr (6, [.ref te, .ref ta, .ref lo, .ref su, .ref pt, .int 0, .int ti, .long 0, .int (-1), .int (-1)]))] H := hP
    have hD : va_D A [(h1, .inr (0, [.ref te, .int 1, .long dr])), (te, .inr (9, [.int 0, .int ca, .int se])), (su, .inr (10, [.long 0, .long 0])), (h0, .inr (6, [.ref te, .ref ta, .ref lo, .ref su, .ref pt, .int 0, .int ti, .long 0, .int (-1), .int (-1)]))] := hD
    refine W.widen (k := 0) (n := 0) (Nat.le_of_ble_eq_true rfl) (Nat.le_of_ble_eq_true rfl) ?_
    have hw : r_2 = (-1) := hw
    subst hw
    have hP9 := hP.sub (ws' := [(h1, .inr (0, [.ref te, .int 1, .long dr])), (te, .inr (9, [.int 0, .int ca, .int se])), (h0, .inr (6, [.ref te, .ref ta, .ref lo, .ref su, .ref pt, .int 0, .int ti, .long 0, .int (-1), .int (-1)])), (su, .inr (10, [.long 0, .long 0]))]) [0, 1, 3, 2] rfl
    have hD9 := hD.sub (ws' := [(h1, .inr (0, [.ref te, .int 1, .long dr])), (te, .inr (9, [.int 0, .int ca, .int se])), (h0, .inr (6, [.ref te, .ref ta, .ref lo, .ref su, .ref pt, .int 0, .int ti, .long 0, .int (-1), .int (-1)])), (su, .inr (10, [.long 0, .long 0]))]) [0, 1, 3, 2] (by decide) rfl
    have hK9 := hK.sub (tys' := []) [] rfl
    refine W.widen (k := 0) (n := 0) (Nat.le_of_ble_eq_true rfl) (Nat.le_of_ble_eq_true rfl) ?_
    exact W.iret (v := (-1)) hx hb hr (fun t ht hW => ⟨⟨(-1), (), rfl, rfl, by rw [ht]; exact hP9, va_K.moved hW.alike hK9, hD9⟩, hS.F ht⟩) hS.2.2 dX0_pick_40
  by_cases h_3 : wy = 2
  · subst h_3
    refine lv_tableIn (tgt := 41) hx hb dX0_pick_4 (by decide) (by decide) rfl (by decide) ?_
    refine lv_aload_n hx hb dX0_pick_41 rfl (lv_at hl 1 rfl) ?_
    refine lv_iconst (v := 0) hx hb dX0_pick_42 (by decide) ?_
    have hPc := hP.sub (ws' := [(h0, .inr (6, [.ref te, .ref ta, .ref lo, .ref su, .ref pt, .int 0, .int ti, .long 0, .int (-1), .int (-1)]))]) [2] rfl
    have hDc := hD.sub (ws' := [(h0, .inr (6, [.ref te, .ref ta, .ref lo, .ref su, .ref pt, .int 0, .int ti, .long 0, .int (-1), .int (-1)]))]) [2] (by decide) rfl
    have hKc := hK.sub (tys' := []) [] rfl
    have hFc := va_free (wc := [(h0, .inr (6, [.ref te, .ref ta, .ref lo, .ref su, .ref pt, .int 0, .int ti, .long 0, .int (-1), .int (-1)]))]) hD hS hA [2] rfl
    refine va_calli (va_runV (As := [.int 0]) (rest := []) ⟨hx, hb, hml, hown, hts⟩ (c_X6_firstDeadline0 l dC dI h0 te ta lo su pt ti s.heap.size) (cwV 1 hts gX0_pick_X6_firstDeadline rfl rfl rfl (by decide +kernel) ⟨Nat.le_of_ble_eq_true rfl, Nat.le_of_ble_eq_true rfl⟩) ⟨fun a U g mk q => by obtain ⟨q0, q1, qP, qK, qD⟩ := q; exact ⟨q0, q1, qP, va_K.moved (u := U) (U := U.calling g mk a) (Vm.Alike.refl U.vm) qK, qD⟩, va_recv hKc hPc (ci := 6) (q0 := 0) rfl rfl, fun U hU hW => ⟨rfl, by rw [hU], by rw [hU]; exact hPc, va_K.moved hW.alike hKc, hDc.weaken (fun _ _ _ _ => trivial)⟩⟩ rfl rfl hl.1 rfl (lv_room (Nat.le_of_ble_eq_true rfl)) dX0_pick_43 ⟨Nat.le_of_ble_eq_true rfl, Nat.le_of_ble_eq_true rfl⟩) hS (fun q _ h => hFc q h) hFc (fun r_4 u t H1 locs ht hvm hw hB hz1 hk1 hS => ?_)
    obtain ⟨hP1, hK1, hD1⟩ := hB
    rw [ht] at hP1
    have hK1 := va_K.moved hvm.symm hK1
    obtain ⟨hP, hD⟩ := va_join (wr := [(h1, .inr (0, [.ref te, .int 2, .long dr])), (te, .inr (9, [.int 0, .int ca, .int se])), (su, .inr (10, [.long 0, .long 0]))]) (w1 := [(h0, .inr (6, [.ref te, .ref ta, .ref lo, .ref su, .ref pt, .int 0, .int ti, .long 0, .int (-1), .int (-1)]))]) hP hD [2] [0, 1, 3] rfl rfl (by decide) (by decide) hk1 hFc hP1 hD1
    generalize H1 = H at hP hS ⊢
    have hP : va_P (dC, dI) vwCl [(h1, .inr (0, [.ref te, .int 2, .long dr])), (te, .inr (9, [.int 0, .int ca, .int se])), (su, .inr (10, [.long 0, .long 0])), (h0, .inr (6, [.ref te, .ref ta, .ref lo, .ref su, .ref pt, .int 0, .int ti, .long 0, .int (-1), .int (-1)]))] H := hP
    have hD : va_D A [(h1, .inr (0, [.ref te, .int 2, .long dr])), (te, .inr (9, [.int 0, .int ca, .int se])), (su, .inr (10, [.long 0, .long 0])), (h0, .inr (6, [.ref te, .ref ta, .ref lo, .ref su, .ref pt, .int 0, .int ti, .long 0, .int (-1), .int (-1)]))] := hD
    refine W.widen (k := 0) (n := 0) (Nat.le_of_ble_eq_true rfl) (Nat.le_of_ble_eq_true rfl) ?_
    have hw : r_4 = (-1) := hw
    subst hw
    have hP9 := hP.sub (ws' := [(h1, .inr (0, [.ref te, .int 2, .long dr])), (te, .inr (9, [.int 0, .int ca, .int se])), (h0, .inr (6, [.ref te, .ref ta, .ref lo, .ref su, .ref pt, .int 0, .int ti, .long 0, .int (-1), .int (-1)])), (su, .inr (10, [.long 0, .long 0]))]) [0, 1, 3, 2] rfl
    have hD9 := hD.sub (ws' := [(h1, .inr (0, [.ref te, .int 2, .long dr])), (te, .inr (9, [.int 0, .int ca, .int se])), (h0, .inr (6, [.ref te, .ref ta, .ref lo, .ref su, .ref pt, .int 0, .int ti, .long 0, .int (-1), .int (-1)])), (su, .inr (10, [.long 0, .long 0]))]) [0, 1, 3, 2] (by decide) rfl
    have hK9 := hK.sub (tys' := []) [] rfl
    refine W.widen (k := 0) (n := 0) (Nat.le_of_ble_eq_true rfl) (Nat.le_of_ble_eq_true rfl) ?_
    exact W.iret (v := (-1)) hx hb hr (fun t ht hW => ⟨⟨(-1), (), rfl, rfl, by rw [ht]; exact hP9, va_K.moved hW.alike hK9, hD9⟩, hS.F ht⟩) hS.2.2 dX0_pick_46
  by_cases h_5 : wy = 3
  · subst h_5
    refine lv_tableIn (tgt := 47) hx hb dX0_pick_4 (by decide) (by decide) rfl (by decide) ?_
    refine lv_aload_n hx hb dX0_pick_47 rfl (lv_at hl 1 rfl) ?_
    have hPc := hP.sub (ws' := [(h0, .inr (6, [.ref te, .ref ta, .ref lo, .ref su, .ref pt, .int 0, .int ti, .long 0, .int (-1), .int (-1)]))]) [2] rfl
    have hDc := hD.sub (ws' := [(h0, .inr (6, [.ref te, .ref ta, .ref lo, .ref su, .ref pt, .int 0, .int ti, .long 0, .int (-1), .int (-1)]))]) [2] (by decide) rfl
    have hKc := hK.sub (tys' := []) [] rfl
    have hFc := va_free (wc := [(h0, .inr (6, [.ref te, .ref ta, .ref lo, .ref su, .ref pt, .int 0, .int ti, .long 0, .int (-1), .int (-1)]))]) hD hS hA [2] rfl
    refine va_calli (va_runV (As := []) (rest := []) ⟨hx, hb, hml, hown, hts⟩ (c_X6_nextInTurn l dC dI h0 te ta lo su pt ti s.heap.size) (cwV 0 hts gX0_pick_X6_nextInTurn rfl rfl rfl (by decide +kernel) ⟨Nat.le_of_ble_eq_true rfl, Nat.le_of_ble_eq_true rfl⟩) ⟨fun a U g mk q => by obtain ⟨q0, q1, qP, qK, qD⟩ := q; exact ⟨q0, q1, qP, va_K.moved (u := U) (U := U.calling g mk a) (Vm.Alike.refl U.vm) qK, qD⟩, va_recv hKc hPc (ci := 6) (q0 := 0) rfl rfl, fun U hU hW => ⟨rfl, by rw [hU], by rw [hU]; exact hPc, va_K.moved hW.alike hKc, hDc.weaken (fun _ _ _ _ => trivial)⟩⟩ rfl rfl hl.1 rfl (lv_room (Nat.le_of_ble_eq_true rfl)) dX0_pick_48 ⟨Nat.le_of_ble_eq_true rfl, Nat.le_of_ble_eq_true rfl⟩) hS (fun q _ h => hFc q h) hFc (fun r_6 u t H1 locs ht hvm hw hB hz1 hk1 hS => ?_)
    obtain ⟨hP1, hK1, hD1⟩ := hB
    rw [ht] at hP1
    have hK1 := va_K.moved hvm.symm hK1
    obtain ⟨hP, hD⟩ := va_join (wr := [(h1, .inr (0, [.ref te, .int 3, .long dr])), (te, .inr (9, [.int 0, .int ca, .int se])), (su, .inr (10, [.long 0, .long 0]))]) (w1 := [(h0, .inr (6, [.ref te, .ref ta, .ref lo, .ref su, .ref pt, .int 0, .int ti, .long 0, .int (-1), .int (-1)]))]) hP hD [2] [0, 1, 3] rfl rfl (by decide) (by decide) hk1 hFc hP1 hD1
    generalize H1 = H at hP hS ⊢
    have hP : va_P (dC, dI) vwCl [(h1, .inr (0, [.ref te, .int 3, .long dr])), (te, .inr (9, [.int 0, .int ca, .int se])), (su, .inr (10, [.long 0, .long 0])), (h0, .inr (6, [.ref te, .ref ta, .ref lo, .ref su, .ref pt, .int 0, .int ti, .long 0, .int (-1), .int (-1)]))] H := hP
    have hD : va_D A [(h1, .inr (0, [.ref te, .int 3, .long dr])), (te, .inr (9, [.int 0, .int ca, .int se])), (su, .inr (10, [.long 0, .long 0])), (h0, .inr (6, [.ref te, .ref ta, .ref lo, .ref su, .ref pt, .int 0, .int ti, .long 0, .int (-1), .int (-1)]))] := hD
    refine W.widen (k := 0) (n := 0) (Nat.le_of_ble_eq_true rfl) (Nat.le_of_ble_eq_true rfl) ?_
    have hw : r_6 = (-1) := hw
    subst hw
    have hP9 := hP.sub (ws' := [(h1, .inr (0, [.ref te, .int 3, .long dr])), (te, .inr (9, [.int 0, .int ca, .int se])), (h0, .inr (6, [.ref te, .ref ta, .ref lo, .ref su, .ref pt, .int 0, .int ti, .long 0, .int (-1), .int (-1)])), (su, .inr (10, [.long 0, .long 0]))]) [0, 1, 3, 2] rfl
    have hD9 := hD.sub (ws' := [(h1, .inr (0, [.ref te, .int 3, .long dr])), (te, .inr (9, [.int 0, .int ca, .int se])), (h0, .inr (6, [.ref te, .ref ta, .ref lo, .ref su, .ref pt, .int 0, .int ti, .long 0, .int (-1), .int (-1)])), (su, .inr (10, [.long 0, .long 0]))]) [0, 1, 3, 2] (by decide) rfl
    have hK9 := hK.sub (tys' := []) [] rfl
    refine W.widen (k := 0) (n := 0) (Nat.le_of_ble_eq_true rfl) (Nat.le_of_ble_eq_true rfl) ?_
    exact W.iret (v := (-1)) hx hb hr (fun t ht hW => ⟨⟨(-1), (), rfl, rfl, by rw [ht]; exact hP9, va_K.moved hW.alike hK9, hD9⟩, hS.F ht⟩) hS.2.2 dX0_pick_51
  by_cases h_7 : wy = 4
  · subst h_7
    refine lv_tableIn (tgt := 52) hx hb dX0_pick_4 (by decide) (by decide) rfl (by decide) ?_
    refine lv_aload_n hx hb dX0_pick_52 rfl (lv_at hl 0 rfl) ?_
    refine lv_aload_n hx hb dX0_pick_53 rfl (lv_at hl 1 rfl) ?_
    have hPc := hP.sub (ws' := [(h1, .inr (0, [.ref te, .int 4, .long dr])), (h0, .inr (6, [.ref te, .ref ta, .ref lo, .ref su, .ref pt, .int 0, .int ti, .long 0, .int (-1), .int (-1)]))]) [0, 2] rfl
    have hDc := hD.sub (ws' := [(h1, .inr (0, [.ref te, .int 4, .long dr])), (h0, .inr (6, [.ref te, .ref ta, .ref lo, .ref su, .ref pt, .int 0, .int ti, .long 0, .int (-1), .int (-1)]))]) [0, 2] (by decide) rfl
    have hKc := hK.sub (tys' := []) [] rfl
    have hFc := va_free (wc := [(h1, .inr (0, [.ref te, .int 4, .long dr])), (h0, .inr (6, [.ref te, .ref ta, .ref lo, .ref su, .ref pt, .int 0, .int ti, .long 0, .int (-1), .int (-1)]))]) hD hS hA [0, 2] rfl
    refine va_calli (va_runV (As := [.ref h0]) (rest := []) ⟨hx, hb, hml, hown, hts⟩ (c_X0_byDraw l dC dI h1 h0 te 4 dr ta lo su pt ti s.heap.size) (cwV 1 hts gX0_pick_X0_byDraw rfl rfl rfl (by decide +kernel) ⟨Nat.le_of_ble_eq_true rfl, Nat.le_of_ble_eq_true rfl⟩) ⟨fun a U g mk q => by obtain ⟨q0, q1, qP, qK, qD⟩ := q; exact ⟨q0, q1, qP, va_K.moved (u := U) (U := U.calling g mk a) (Vm.Alike.refl U.vm) qK, qD⟩, va_recv hKc hPc (ci := 0) (q0 := 0) rfl rfl, fun U hU hW => ⟨rfl, by rw [hU], by rw [hU]; exact hPc, va_K.moved hW.alike hKc, hDc.weaken (fun _ _ _ _ => trivial)⟩⟩ rfl rfl hl.1 rfl (lv_room (Nat.le_of_ble_eq_true rfl)) dX0_pick_54 ⟨Nat.le_of_ble_eq_true rfl, Nat.le_of_ble_eq_true rfl⟩) hS (fun q _ h => hFc q h) hFc (fun r_8 u t H1 locs ht hvm hw hB hz1 hk1 hS => ?_)
    obtain ⟨hP1, hK1, hD1⟩ := hB
    rw [ht] at hP1
    have hK1 := va_K.moved hvm.symm hK1
    obtain ⟨hP, hD⟩ := va_join (wr := [(te, .inr (9, [.int 0, .int ca, .int se])), (su, .inr (10, [.long 0, .long 0]))]) (w1 := [(h1, .inr (0, [.ref te, .int 4, .long dr])), (h0, .inr (6, [.ref te, .ref ta, .ref lo, .ref su, .ref pt, .int 0, .int ti, .long 0, .int (-1), .int (-1)]))]) hP hD [0, 2] [1, 3] rfl rfl (by decide) (by decide) hk1 hFc hP1 hD1
    generalize H1 = H at hP hS ⊢
    have hP : va_P (dC, dI) vwCl [(te, .inr (9, [.int 0, .int ca, .int se])), (su, .inr (10, [.long 0, .long 0])), (h1, .inr (0, [.ref te, .int 4, .long dr])), (h0, .inr (6, [.ref te, .ref ta, .ref lo, .ref su, .ref pt, .int 0, .int ti, .long 0, .int (-1), .int (-1)]))] H := hP
    have hD : va_D A [(te, .inr (9, [.int 0, .int ca, .int se])), (su, .inr (10, [.long 0, .long 0])), (h1, .inr (0, [.ref te, .int 4, .long dr])), (h0, .inr (6, [.ref te, .ref ta, .ref lo, .ref su, .ref pt, .int 0, .int ti, .long 0, .int (-1), .int (-1)]))] := hD
    refine W.widen (k := 0) (n := 0) (Nat.le_of_ble_eq_true rfl) (Nat.le_of_ble_eq_true rfl) ?_
    have hw : r_8 = (-1) := hw
    subst hw
    have hP9 := hP.sub (ws' := [(h1, .inr (0, [.ref te, .int 4, .long dr])), (te, .inr (9, [.int 0, .int ca, .int se])), (h0, .inr (6, [.ref te, .ref ta, .ref lo, .ref su, .ref pt, .int 0, .int ti, .long 0, .int (-1), .int (-1)])), (su, .inr (10, [.long 0, .long 0]))]) [2, 0, 3, 1] rfl
    have hD9 := hD.sub (ws' := [(h1, .inr (0, [.ref te, .int 4, .long dr])), (te, .inr (9, [.int 0, .int ca, .int se])), (h0, .inr (6, [.ref te, .ref ta, .ref lo, .ref su, .ref pt, .int 0, .int ti, .long 0, .int (-1), .int (-1)])), (su, .inr (10, [.long 0, .long 0]))]) [2, 0, 3, 1] (by decide) rfl
    have hK9 := hK.sub (tys' := []) [] rfl
    refine W.widen (k := 0) (n := 0) (Nat.le_of_ble_eq_true rfl) (Nat.le_of_ble_eq_true rfl) ?_
    exact W.iret (v := (-1)) hx hb hr (fun t ht hW => ⟨⟨(-1), (), rfl, rfl, by rw [ht]; exact hP9, va_K.moved hW.alike hK9, hD9⟩, hS.F ht⟩) hS.2.2 dX0_pick_57
  have z_9 := lv_neT (a := 1) h_1 (by decide)
  have z_10 := lv_neT (a := 2) h_3 (by decide)
  have z_11 := lv_neT (a := 3) h_5 (by decide)
  have z_12 := lv_neT (a := 4) h_7 (by decide)
  refine lv_tableOut (tgt := 58) hx hb dX0_pick_4 (by omega) (by decide) ?_
  refine lv_aload_n hx hb dX0_pick_58 rfl (lv_at hl 0 rfl) ?_
  refine va_get (D := (dC, dI)) (ci := 0) (v := .ref te) (C := RX0) (T := TX0) (N := 3) hx hb hts iw_X0_pick_X0 hown hK hP 0 rfl rfl 0 (by decide) (hts (.fieldLink RX0 9 "DeadlineShare$Chooser" "terms" "LDeadlineShare$Terms;") (by decide +kernel)) (fun _ h9 => h9) rfl dX0_pick_59 ?_
  refine va_get (D := (dC, dI)) (ci := 9) (v := .int 0) (C := RX9) (T := TX9) (N := 3) hx hb hts iw_X0_pick_X9 hown hK hP 1 rfl rfl 0 (by decide) (hts (.fieldLink RX0 45 "DeadlineShare$Terms" "mode" "I") (by decide +kernel)) (fun _ h9 => h9) rfl dX0_pick_62 ?_
  refine lv_iconst (v := 1) hx hb dX0_pick_65 (by decide) ?_
  refine lv_icmp_ne (tgt := 84) hx hb dX0_pick_66 (by decide) (fun _ => ?_) (fun c => absurd (by decide) c)
  refine lv_aload_n hx hb dX0_pick_84 rfl (lv_at hl 1 rfl) ?_
  refine lv_iconst (v := 1) hx hb dX0_pick_85 (by decide) ?_
  have hPc := hP.sub (ws' := [(h0, .inr (6, [.ref te, .ref ta, .ref lo, .ref su, .ref pt, .int 0, .int ti, .long 0, .int (-1), .int (-1)])), (su, .inr (10, [.long 0, .long 0]))]) [2, 3] rfl
  have hDc := hD.sub (ws' := [(h0, .inr (6, [.ref te, .ref ta, .ref lo, .ref su, .ref pt, .int 0, .int ti, .long 0, .int (-1), .int (-1)])), (su, .inr (10, [.long 0, .long 0]))]) [2, 3] (by decide) rfl
  have hKc := hK.sub (tys' := []) [] rfl
  have hFc := va_free (wc := [(h0, .inr (6, [.ref te, .ref ta, .ref lo, .ref su, .ref pt, .int 0, .int ti, .long 0, .int (-1), .int (-1)])), (su, .inr (10, [.long 0, .long 0]))]) hD hS hA [2, 3] rfl
  refine va_calli (va_runV (As := [.int 1]) (rest := []) ⟨hx, hb, hml, hown, hts⟩ (c_X6_firstDeadline1 l dC dI h0 te ta lo su pt ti s.heap.size) (cwV 1 hts gX0_pick_X6_firstDeadline rfl rfl rfl (by decide +kernel) ⟨Nat.le_of_ble_eq_true rfl, Nat.le_of_ble_eq_true rfl⟩) ⟨fun a U g mk q => by obtain ⟨q0, q1, qP, qK, qD⟩ := q; exact ⟨q0, q1, qP, va_K.moved (u := U) (U := U.calling g mk a) (Vm.Alike.refl U.vm) qK, qD⟩, va_recv hKc hPc (ci := 6) (q0 := 0) rfl rfl, fun U hU hW => ⟨rfl, by rw [hU], by rw [hU]; exact hPc, va_K.moved hW.alike hKc, hDc.weaken (fun _ _ _ _ => trivial)⟩⟩ rfl rfl hl.1 rfl (lv_room (Nat.le_of_ble_eq_true rfl)) dX0_pick_86 ⟨Nat.le_of_ble_eq_true rfl, Nat.le_of_ble_eq_true rfl⟩) hS (fun q _ h => hFc q h) hFc (fun r_13 u t H1 locs ht hvm hw hB hz1 hk1 hS => ?_)
  obtain ⟨hP1, hK1, hD1⟩ := hB
  rw [ht] at hP1
  have hK1 := va_K.moved hvm.symm hK1
  obtain ⟨hP, hD⟩ := va_join (wr := [(h1, .inr (0, [.ref te, .int wy, .long dr])), (te, .inr (9, [.int 0, .int ca, .int se]))]) (w1 := [(h0, .inr (6, [.ref te, .ref ta, .ref lo, .ref su, .ref pt, .int 0, .int ti, .long 0, .int (-1), .int (-1)])), (su, .inr (10, [.long 0, .long 0]))]) hP hD [2, 3] [0, 1] rfl rfl (by decide) (by decide) hk1 hFc hP1 hD1
  generalize H1 = H at hP hS ⊢
  have hP : va_P (dC, dI) vwCl [(h1, .inr (0, [.ref te, .int wy, .long dr])), (te, .inr (9, [.int 0, .int ca, .int se])), (h0, .inr (6, [.ref te, .ref ta, .ref lo, .ref su, .ref pt, .int 0, .int ti, .long 0, .int (-1), .int (-1)])), (su, .inr (10, [.long 0, .long 0]))] H := hP
  have hD : va_D A [(h1, .inr (0, [.ref te, .int wy, .long dr])), (te, .inr (9, [.int 0, .int ca, .int se])), (h0, .inr (6, [.ref te, .ref ta, .ref lo, .ref su, .ref pt, .int 0, .int ti, .long 0, .int (-1), .int (-1)])), (su, .inr (10, [.long 0, .long 0]))] := hD
  refine W.widen (k := 0) (n := 0) (Nat.le_of_ble_eq_true rfl) (Nat.le_of_ble_eq_true rfl) ?_
  have hw : r_13 = (-1) := hw
  subst hw
  have hP9 := hP.sub (ws' := [(h1, .inr (0, [.ref te, .int wy, .long dr])), (te, .inr (9, [.int 0, .int ca, .int se])), (h0, .inr (6, [.ref te, .ref ta, .ref lo, .ref su, .ref pt, .int 0, .int ti, .long 0, .int (-1), .int (-1)])), (su, .inr (10, [.long 0, .long 0]))]) [0, 1, 2, 3] rfl
  have hD9 := hD.sub (ws' := [(h1, .inr (0, [.ref te, .int wy, .long dr])), (te, .inr (9, [.int 0, .int ca, .int se])), (h0, .inr (6, [.ref te, .ref ta, .ref lo, .ref su, .ref pt, .int 0, .int ti, .long 0, .int (-1), .int (-1)])), (su, .inr (10, [.long 0, .long 0]))]) [0, 1, 2, 3] (by decide) rfl
  have hK9 := hK.sub (tys' := []) [] rfl
  refine W.widen (k := 0) (n := 0) (Nat.le_of_ble_eq_true rfl) (Nat.le_of_ble_eq_true rfl) ?_
  exact W.iret (v := (-1)) hx hb hr (fun t ht hW => ⟨⟨(-1), (), rfl, rfl, by rw [ht]; exact hP9, va_K.moved hW.alike hK9, hD9⟩, hS.F ht⟩) hS.2.2 dX0_pick_89
theorem iw_X2_put_X2 : ∀ w ∈ u_ws RX2 TX2 1, w ∈ wsX2_put := by decide +kernel
set_option maxHeartbeats 4000000 in
set_option maxRecDepth 100000 in
theorem c_X2_put (l : Launch) (dC : Nat → ClassId) (dI : Nat → Nat → Nat) (lo : Nat) (ti : Int32) (lr : Nat) (cl : ClassId) (fr : Nat → Int64) (sz : Nat) : Met l yX2_put wsX2_put ({ frames := 0, cells := 0, slots := 0, locals := 0 } : Room) (va_Pc [.ref lo, .int ti, .int (-1), .int 0, .long 0] (fun U => U.heap.size = sz ∧ va_P (dC, dI) vwCl [(lo, .inr (2, [.ref lr])), (lr, .inl (cl, 128, .inr (.inl fr)))] U.heap ∧ va_K (dC, dI) vwCl [(cl, .long)] U ∧ va_D (fun _ => True) [(lo, .inr (2, [.ref lr])), (lr, .inl (cl, 128, .inr (.inl fr)))])) (va_Qv (fun (_ : Unit) => True) (fun (_ : Unit) t => ∃ (f2 : Nat → Int64), va_P (dC, dI) vwCl [(lo, .inr (2, [.ref lr])), (lr, .inl (cl, 128, .inr (.inl f2)))] t.heap ∧ va_K (dC, dI) vwCl [(cl, .long)] t ∧ va_D (va_A [(lo, .inr (2, [.ref lr])), (lr, .inl (cl, 128, .inr (.inl fr)))] sz) [(lo, .inr (2, [.ref lr])), (lr, .inl (cl, 128, .inr (.inl f2)))]) (va_A [(lo, .inr (2, [.ref lr])), (lr, .inl (cl, 128, .inr (.inl fr)))] sz)) 0 0 (va_A [(lo, .inr (2, [.ref lr])), (lr, .inl (cl, 128, .inr (.inl fr)))] sz) := by
  refine Met.ofW (cc := cX2_put) (maxL := 6) (ret := none) (by decide) rfl ?_
  intro p e s m args below meth c s₁ B hml hv
  obtain ⟨rfl, hsz, hP, hK, hD0⟩ := hv
  have hx := B.exec
  have hb := B.bytes
  have hr := B.returns
  have hts := atoms_spec (ws := wsX2_put) B.pre
  have hown : s.vm.findClass RX2 = some m.cls := findClass_of_methodNamed B.named
  have hlocks := B.notSynchronized
  subst hsz
  have hD := hD0.self (sz := s.heap.size)
  obtain ⟨A, hAe⟩ : ∃ A, A = va_A [(lo, .inr (2, [.ref lr])), (lr, .inl (cl, 128, .inr (.inl fr)))] s.heap.size := ⟨_, rfl⟩
  rw [← hAe] at hD ⊢
  have hA : ∀ q : Nat, s.heap.size ≤ q → A q := fun q h => by rw [hAe]; exact Or.inr h
  have hS : va_S A s.heap s.heap [] := va_S.rf
  have hP : va_P (dC, dI) vwCl [(lo, .inr (2, [.ref lr])), (lr, .inl (cl, 128, .inr (.inl fr)))] s.heap := hP
  have hl := lv_entry ([.ref lo, .int ti, .int (-1), .int 0, .long 0]) (n := 6) (Nat.le_of_ble_eq_true rfl)
  rw [lg_entry_eq]
  generalize (lg_sl ([.ref lo, .int ti, .int (-1), .int 0, .long 0]) ++ List.replicate (6 - (lg_sl ([.ref lo, .int ti, .int (-1), .int 0, .long 0])).length) Slot.unset).toArray = ls at hl ⊢
  have hl : lv_has ls 6 [(0, .ref lo), (1, .int ti), (2, .int (-1)), (3, .int 0), (4, .long 0)] := hl
  refine lv_aload_n hx hb dX2_put_0 rfl (lv_at hl 0 rfl) ?_
  refine va_get (D := (dC, dI)) (ci := 2) (v := .ref lr) (C := RX2) (T := TX2) (N := 1) hx hb hts iw_X2_put_X2 hown hK hP 0 rfl rfl 0 (by decide) (hts (.fieldLink RX2 11 "DeadlineShare$Log" "rows" "[J") (by decide +kernel)) (fun _ h9 => h9) rfl dX2_put_1 ?_
  refine lv_iload_n hx hb dX2_put_4 rfl (lv_at hl 1 rfl) ?_
  refine lv_bipush (v := 127) hx hb dX2_put_5 (by decide) ?_
  refine lv_iand hx hb dX2_put_7 ?_
  refine lv_topi (fun v_1 ev_1 => ?_)
  refine lv_lload hx hb dX2_put_8 (lv_at hl 4 rfl) ?_
  refine lv_iload_n hx hb dX2_put_10 rfl (lv_at hl 3 rfl) ?_
  refine lv_i2l (v := 0) hx hb dX2_put_11 (by decide) ?_
  refine lv_bipush (v := 48) hx hb dX2_put_12 (by decide) ?_
  refine lv_lshl hx hb dX2_put_14 rfl ?_
  refine k_topl (y := 0) (by decide) ?_
  refine lv_lor hx hb dX2_put_15 ?_
  refine k_topl (y := 0) (by decide) ?_
  refine lv_iload_n hx hb dX2_put_16 rfl (lv_at hl 2 rfl) ?_
  refine lv_i2l (v := (-1)) hx hb dX2_put_17 (by decide) ?_
  refine lv_lconst (v := 1) hx hb dX2_put_18 (by decide) ?_
  refine lv_ladd hx hb dX2_put_19 ?_
  refine k_topl (y := 0) (by decide) ?_
  refine lv_bipush (v := 53) hx hb dX2_put_20 (by decide) ?_
  refine lv_lshl hx hb dX2_put_22 rfl ?_
  refine k_topl (y := 0) (by decide) ?_
  refine lv_lor hx hb dX2_put_23 ?_
  refine k_topl (y := 0) (by decide) ?_
  refine va_last hx hb hK hP hD hS 1 0 rfl rfl (by rw [ev_1]; exact pk_andIn _ 7 (by decide) (by decide)) dX2_put_24 (fun H locs hP hD hS => ?_)
  have hP : va_P (dC, dI) vwCl [(lo, .inr (2, [.ref lr])), (lr, .inl (cl, 128, .inr (.inl (vp_updL fr (Int32.toNatClampNeg v_1) 0))))] H := hP
  have hD : va_D A [(lo, .inr (2, [.ref lr])), (lr, .inl (cl, 128, .inr (.inl (vp_updL fr (Int32.toNatClampNeg v_1) 0))))] := hD
  generalize ef_2 : vp_updL fr (Int32.toNatClampNeg v_1) 0 = f_2 at hP hD
  have hP9 := hP.sub (ws' := [(lo, .inr (2, [.ref lr])), (lr, .inl (cl, 128, .inr (.inl f_2)))]) [0, 1] rfl
  have hD9 := hD.sub (ws' := [(lo, .inr (2, [.ref lr])), (lr, .inl (cl, 128, .inr (.inl f_2)))]) [0, 1] (by decide) rfl
  have hK9 := hK.sub (tys' := [(cl, .long)]) [0] rfl
  refine W.widen (k := 0) (n := 0) (Nat.le_of_ble_eq_true rfl) (Nat.le_of_ble_eq_true rfl) ?_
  exact W.vret hx hb hr (fun t ht hW => ⟨⟨(), rfl, trivial, f_2, by rw [ht]; exact hP9, va_K.moved hW.alike hK9, hD9⟩, hS.F ht⟩) hS.2.2 dX2_put_25
theorem iw_X6_tick_X6 : ∀ w ∈ u_ws RX6 TX6 10, w ∈ wsX6_tick := by decide +kernel
set_option maxHeartbeats 4000000 in
set_option maxRecDepth 100000 in
theorem c_X6_tick (l : Launch) (dC : Nat → ClassId) (dI : Nat → Nat → Nat) (h0 : Nat) (h1 : Nat) (te : Nat) (ta : Nat) (lo : Nat) (su : Nat) (pt : Nat) (ti : Int32) (wy : Int32) (dr : Int64) (ca : Int32) (se : Int32) (lr : Nat) (cl : ClassId) (fr : Nat → Int64) (sz : Nat) : Met l yX6_tick wsX6_tick ({ frames := 5, cells := 0, slots := 0, locals := 115 } : Room) (va_Pc [.ref h0, .ref h1] (fun U => U.heap.size = sz ∧ va_P (dC, dI) vwCl [(h0, .inr (6, [.ref te, .ref ta, .ref lo, .ref su, .ref pt, .int 0, .int ti, .long 0, .int (-1), .int (-1)])), (h1, .inr (0, [.ref te, .int wy, .long dr])), (te, .inr (9, [.int 0, .int ca, .int se])), (su, .inr (10, [.long 0, .long 0])), (lo, .inr (2, [.ref lr])), (lr, .inl (cl, 128, .inr (.inl fr)))] U.heap ∧ va_K (dC, dI) vwCl [(cl, .long)] U ∧ va_D (fun _ => True) [(h0, .inr (6, [.ref te, .ref ta, .ref lo, .ref su, .ref pt, .int 0, .int ti, .long 0, .int (-1), .int (-1)])), (h1, .inr (0, [.ref te, .int wy, .long dr])), (te, .inr (9, [.int 0, .int ca, .int se])), (su, .inr (10, [.long 0, .long 0])), (lo, .inr (2, [.ref lr])), (lr, .inl (cl, 128, .inr (.inl fr)))])) (va_Qi (fun (r : Int32) (_ : Unit) => r = (-1)) (fun (_ : Unit) t => ∃ (t2 : Int32), ∃ (f2 : Nat → Int64), va_P (dC, dI) vwCl [(h0, .inr (6, [.ref te, .ref ta, .ref lo, .ref su, .ref pt, .int 0, .int t2, .long 0, .int (-1), .int (-1)])), (h1, .inr (0, [.ref te, .int wy, .long dr])), (te, .inr (9, [.int 0, .int ca, .int se])), (su, .inr (10, [.long 0, .long 0])), (lo, .inr (2, [.ref lr])), (lr, .inl (cl, 128, .inr (.inl f2)))] t.heap ∧ va_K (dC, dI) vwCl [(cl, .long)] t ∧ va_D (va_A [(h0, .inr (6, [.ref te, .ref ta, .ref lo, .ref su, .ref pt, .int 0, .int ti, .long 0, .int (-1), .int (-1)])), (h1, .inr (0, [.ref te, .int wy, .long dr])), (te, .inr (9, [.int 0, .int ca, .int se])), (su, .inr (10, [.long 0, .long 0])), (lo, .inr (2, [.ref lr])), (lr, .inl (cl, 128, .inr (.inl fr)))] sz) [(h0, .inr (6, [.ref te, .ref ta, .ref lo, .ref su, .ref pt, .int 0, .int t2, .long 0, .int (-1), .int (-1)])), (h1, .inr (0, [.ref te, .int wy, .long dr])), (te, .inr (9, [.int 0, .int ca, .int se])), (su, .inr (10, [.long 0, .long 0])), (lo, .inr (2, [.ref lr])), (lr, .inl (cl, 128, .inr (.inl f2)))]) (va_A [(h0, .inr (6, [.ref te, .ref ta, .ref lo, .ref su, .ref pt, .int 0, .int ti, .long 0, .int (-1), .int (-1)])), (h1, .inr (0, [.ref te, .int wy, .long dr])), (te, .inr (9, [.int 0, .int ca, .int se])), (su, .inr (10, [.long 0, .long 0])), (lo, .inr (2, [.ref lr])), (lr, .inl (cl, 128, .inr (.inl fr)))] sz)) 0 0 (va_A [(h0, .inr (6, [.ref te, .ref ta, .ref lo, .ref su, .ref pt, .int 0, .int ti, .long 0, .int (-1), .int (-1)])), (h1, .inr (0, [.ref te, .int wy, .long dr])), (te, .inr (9, [.int 0, .int ca, .int se])), (su, .inr (10, [.long 0, .long 0])), (lo, .inr (2, [.ref lr])), (lr, .inl (cl, 128, .inr (.inl fr)))] sz) := by
  refine Met.ofW (cc := cX6_tick) (maxL := 3) (ret := (some .int)) (by decide) rfl ?_
  intro p e s m args below meth c s₁ B hml hv
  obtain ⟨rfl, hsz, hP, hK, hD0⟩ := hv
  have hx := B.exec
  have hb := B.bytes
  have hr := B.returns
  have hts := atoms_spec (ws := wsX6_tick) B.pre
  have hown : s.vm.findClass RX6 = some m.cls := findClass_of_methodNamed B.named
  have hlocks := B.notSynchronized
  subst hsz
  have hD := hD0.self (sz := s.heap.size)
  obtain ⟨A, hAe⟩ : ∃ A, A = va_A [(h0, .inr (6, [.ref te, .ref ta, .ref lo, .ref su, .ref pt, .int 0, .int ti, .long 0, .int (-1), .int (-1)])), (h1, .inr (0, [.ref te, .int wy, .long dr])), (te, .inr (9, [.int 0, .int ca, .int se])), (su, .inr (10, [.long 0, .long 0])), (lo, .inr (2, [.ref lr])), (lr, .inl (cl, 128, .inr (.inl fr)))] s.heap.size := ⟨_, rfl⟩
  rw [← hAe] at hD ⊢
  have hA : ∀ q : Nat, s.heap.size ≤ q → A q := fun q h => by rw [hAe]; exact Or.inr h
  have hS : va_S A s.heap s.heap [] := va_S.rf
  have hP : va_P (dC, dI) vwCl [(h0, .inr (6, [.ref te, .ref ta, .ref lo, .ref su, .ref pt, .int 0, .int ti, .long 0, .int (-1), .int (-1)])), (h1, .inr (0, [.ref te, .int wy, .long dr])), (te, .inr (9, [.int 0, .int ca, .int se])), (su, .inr (10, [.long 0, .long 0])), (lo, .inr (2, [.ref lr])), (lr, .inl (cl, 128, .inr (.inl fr)))] s.heap := hP
  have hl := lv_entry ([.ref h0, .ref h1]) (n := 3) (Nat.le_of_ble_eq_true rfl)
  rw [lg_entry_eq]
  generalize (lg_sl ([.ref h0, .ref h1]) ++ List.replicate (3 - (lg_sl ([.ref h0, .ref h1])).length) Slot.unset).toArray = ls at hl ⊢
  have hl : lv_has ls 3 [(0, .ref h0), (1, .ref h1)] := hl
  refine lv_iconst (v := 0) hx hb dX6_tick_0 (by decide) ?_
  refine lv_istore_n (lv' := [(2, .int 0), (0, .ref h0), (1, .ref h1)]) hx hb dX6_tick_1 rfl hl (by decide) rfl (fun ls hl => ?_)
  refine lv_iload_n hx hb dX6_tick_2 rfl (lv_at hl 0 rfl) ?_
  refine lv_aload_n hx hb dX6_tick_3 rfl (lv_at hl 1 rfl) ?_
  refine va_get (D := (dC, dI)) (ci := 6) (v := .int 0) (C := RX6) (T := TX6) (N := 10) hx hb hts iw_X6_tick_X6 hown hK hP 0 rfl rfl 5 (by decide) (hts (.fieldLink RX6 48 "DeadlineShare$State" "count" "I") (by decide +kernel)) (fun _ h9 => h9) rfl dX6_tick_4 ?_
  refine lv_icmp_ge (tgt := 29) hx hb dX6_tick_7 (by decide) (fun _ => ?_) (fun c => absurd (by decide) c)
  refine lv_iconst (v := 0) hx hb dX6_tick_29 (by decide) ?_
  refine lv_istore_n (lv' := [(2, .int 0), (0, .ref h0), (1, .ref h1)]) hx hb dX6_tick_30 rfl hl (by decide) rfl (fun ls hl => ?_)
  refine lv_iload_n hx hb dX6_tick_31 rfl (lv_at hl 0 rfl) ?_
  refine lv_aload_n hx hb dX6_tick_32 rfl (lv_at hl 1 rfl) ?_
  refine va_get (D := (dC, dI)) (ci := 6) (v := .int 0) (C := RX6) (T := TX6) (N := 10) hx hb hts iw_X6_tick_X6 hown hK hP 0 rfl rfl 5 (by decide) (hts (.fieldLink RX6 48 "DeadlineShare$State" "count" "I") (by decide +kernel)) (fun _ h9 => h9) rfl dX6_tick_33 ?_
  refine lv_icmp_ge (tgt := 55) hx hb dX6_tick_36 (by decide) (fun _ => ?_) (fun c => absurd (by decide) c)
  refine lv_aload_n hx hb dX6_tick_55 rfl (lv_at hl 2 rfl) ?_
  refine lv_aload_n hx hb dX6_tick_56 rfl (lv_at hl 1 rfl) ?_
  have hPc := hP.sub (ws' := [(h1, .inr (0, [.ref te, .int wy, .long dr])), (te, .inr (9, [.int 0, .int ca, .int se])), (h0, .inr (6, [.ref te, .ref ta, .ref lo, .ref su, .ref pt, .int 0, .int ti, .long 0, .int (-1), .int (-1)])), (su, .inr (10, [.long 0, .long 0]))]) [1, 2, 0, 3] rfl
  have hDc := hD.sub (ws' := [(h1, .inr (0, [.ref te, .int wy, .long dr])), (te, .inr (9, [.int 0, .int ca, .int se])), (h0, .inr (6, [.ref te, .ref ta, .ref lo, .ref su, .ref pt, .int 0, .int ti, .long 0, .int (-1), .int (-1)])), (su, .inr (10, [.long 0, .long 0]))]) [1, 2, 0, 3] (by decide) rfl
  have hKc := hK.sub (tys' := []) [] rfl
  have hFc := va_free (wc := [(h1, .inr (0, [.ref te, .int wy, .long dr])), (te, .inr (9, [.int 0, .int ca, .int se])), (h0, .inr (6, [.ref te, .ref ta, .ref lo, .ref su, .ref pt, .int 0, .int ti, .long 0, .int (-1), .int (-1)])), (su, .inr (10, [.long 0, .long 0]))]) hD hS hA [1, 2, 0, 3] rfl
  refine va_calli (va_runV (As := [.ref h0]) (rest := []) ⟨hx, hb, hml, hown, hts⟩ (c_X0_pick l dC dI h1 h0 te wy dr ca se ta lo su pt ti s.heap.size) (cwV 1 hts gX6_tick_X0_pick rfl rfl rfl (by decide +kernel) ⟨Nat.le_of_ble_eq_true rfl, Nat.le_of_ble_eq_true rfl⟩) ⟨fun a U g mk q => by obtain ⟨q0, q1, qP, qK, qD⟩ := q; exact ⟨q0, q1, qP, va_K.moved (u := U) (U := U.calling g mk a) (Vm.Alike.refl U.vm) qK, qD⟩, va_recv hKc hPc (ci := 0) (q0 := 0) rfl rfl, fun U hU hW => ⟨rfl, by rw [hU], by rw [hU]; exact hPc, va_K.moved hW.alike hKc, hDc.weaken (fun _ _ _ _ => trivial)⟩⟩ rfl rfl hl.1 rfl (lv_room (Nat.le_of_ble_eq_true rfl)) dX6_tick_57 ⟨Nat.le_of_ble_eq_true rfl, Nat.le_of_ble_eq_true rfl⟩) hS (fun q _ h => hFc q h) hFc (fun r_1 u t H1 locs ht hvm hw hB hz1 hk1 hS => ?_)
  obtain ⟨hP1, hK1, hD1⟩ := hB
  rw [ht] at hP1
  have hK1 := va_K.moved hvm.symm hK1
  obtain ⟨hP, hD⟩ := va_join (wr := [(lo, .inr (2, [.ref lr])), (lr, .inl (cl, 128, .inr (.inl fr)))]) (w1 := [(h1, .inr (0, [.ref te, .int wy, .long dr])), (te, .inr (9, [.int 0, .int ca, .int se])), (h0, .inr (6, [.ref te, .ref ta, .ref lo, .ref su, .ref pt, .int 0, .int ti, .long 0, .int (-1), .int (-1)])), (su, .inr (10, [.long 0, .long 0]))]) hP hD [1, 2, 0, 3] [4, 5] rfl rfl (by decide) (by decide) hk1 hFc hP1 hD1
  generalize H1 = H at hP hS ⊢
  have hP : va_P (dC, dI) vwCl [(lo, .inr (2, [.ref lr])), (lr, .inl (cl, 128, .inr (.inl fr))), (h1, .inr (0, [.ref te, .int wy, .long dr])), (te, .inr (9, [.int 0, .int ca, .int se])), (h0, .inr (6, [.ref te, .ref ta, .ref lo, .ref su, .ref pt, .int 0, .int ti, .long 0, .int (-1), .int (-1)])), (su, .inr (10, [.long 0, .long 0]))] H := hP
  have hD : va_D A [(lo, .inr (2, [.ref lr])), (lr, .inl (cl, 128, .inr (.inl fr))), (h1, .inr (0, [.ref te, .int wy, .long dr])), (te, .inr (9, [.int 0, .int ca, .int se])), (h0, .inr (6, [.ref te, .ref ta, .ref lo, .ref su, .ref pt, .int 0, .int ti, .long 0, .int (-1), .int (-1)])), (su, .inr (10, [.long 0, .long 0]))] := hD
  refine W.widen (k := 0) (n := 0) (Nat.le_of_ble_eq_true rfl) (Nat.le_of_ble_eq_true rfl) ?_
  have hw : r_1 = (-1) := hw
  subst hw
  refine lv_istore_n (lv' := [(2, .int (-1)), (0, .ref h0), (1, .ref h1)]) hx hb dX6_tick_60 rfl hl (by decide) rfl (fun ls hl => ?_)
  refine lv_aload_n hx hb dX6_tick_61 rfl (lv_at hl 1 rfl) ?_
  refine va_get (D := (dC, dI)) (ci := 6) (v := .ref lo) (C := RX6) (T := TX6) (N := 10) hx hb hts iw_X6_tick_X6 hown hK hP 4 rfl rfl 2 (by decide) (hts (.fieldLink RX6 20 "DeadlineShare$State" "log" "LDeadlineShare$Log;") (by decide +kernel)) (fun _ h9 => h9) rfl dX6_tick_62 ?_
  refine lv_aload_n hx hb dX6_tick_65 rfl (lv_at hl 1 rfl) ?_
  refine va_get (D := (dC, dI)) (ci := 6) (v := .int ti) (C := RX6) (T := TX6) (N := 10) hx hb hts iw_X6_tick_X6 hown hK hP 4 rfl rfl 6 (by decide) (hts (.fieldLink RX6 58 "DeadlineShare$State" "time" "I") (by decide +kernel)) (fun _ h9 => h9) rfl dX6_tick_66 ?_
  refine lv_iload_n hx hb dX6_tick_69 rfl (lv_at hl 0 rfl) ?_
  refine lv_aload_n hx hb dX6_tick_70 rfl (lv_at hl 1 rfl) ?_
  have hPc := hP.sub (ws' := [(h0, .inr (6, [.ref te, .ref ta, .ref lo, .ref su, .ref pt, .int 0, .int ti, .long 0, .int (-1), .int (-1)]))]) [4] rfl
  have hDc := hD.sub (ws' := [(h0, .inr (6, [.ref te, .ref ta, .ref lo, .ref su, .ref pt, .int 0, .int ti, .long 0, .int (-1), .int (-1)]))]) [4] (by decide) rfl
  have hKc := hK.sub (tys' := []) [] rfl
  have hFc := va_free (wc := [(h0, .inr (6, [.ref te, .ref ta, .ref lo, .ref su, .ref pt, .int 0, .int ti, .long 0, .int (-1), .int (-1)]))]) hD hS hA [4] rfl
  refine va_calli (va_runV (As := []) (rest := [.int (-1), .int ti, .ref lo]) ⟨hx, hb, hml, hown, hts⟩ (c_X6_weightOfAll l dC dI h0 te ta lo su pt ti H.size) (cwV 0 hts gX6_tick_X6_weightOfAll rfl rfl rfl (by decide +kernel) ⟨Nat.le_of_ble_eq_true rfl, Nat.le_of_ble_eq_true rfl⟩) ⟨fun a U g mk q => by obtain ⟨q0, q1, qP, qK, qD⟩ := q; exact ⟨q0, q1, qP, va_K.moved (u := U) (U := U.calling g mk a) (Vm.Alike.refl U.vm) qK, qD⟩, va_recv hKc hPc (ci := 6) (q0 := 0) rfl rfl, fun U hU hW => ⟨rfl, by rw [hU], by rw [hU]; exact hPc, va_K.moved hW.alike hKc, hDc.weaken (fun _ _ _ _ => trivial)⟩⟩ rfl rfl hl.1 rfl (lv_room (Nat.le_of_ble_eq_true rfl)) dX6_tick_71 ⟨Nat.le_of_ble_eq_true rfl, Nat.le_of_ble_eq_true rfl⟩) hS (fun q _ h => hFc q h) hFc (fun r_2 u t H1 locs ht hvm hw hB hz1 hk1 hS => ?_)
  obtain ⟨hP1, hK1, hD1⟩ := hB
  rw [ht] at hP1
  have hK1 := va_K.moved hvm.symm hK1
  obtain ⟨hP, hD⟩ := va_join (wr := [(lo, .inr (2, [.ref lr])), (lr, .inl (cl, 128, .inr (.inl fr))), (h1, .inr (0, [.ref te, .int wy, .long dr])), (te, .inr (9, [.int 0, .int ca, .int se])), (su, .inr (10, [.long 0, .long 0]))]) (w1 := [(h0, .inr (6, [.ref te, .ref ta, .ref lo, .ref su, .ref pt, .int 0, .int ti, .long 0, .int (-1), .int (-1)]))]) hP hD [4] [0, 1, 2, 3, 5] rfl rfl (by decide) (by decide) hk1 hFc hP1 hD1
  generalize H1 = H at hP hS ⊢
  have hP : va_P (dC, dI) vwCl [(lo, .inr (2, [.ref lr])), (lr, .inl (cl, 128, .inr (.inl fr))), (h1, .inr (0, [.ref te, .int wy, .long dr])), (te, .inr (9, [.int 0, .int ca, .int se])), (su, .inr (10, [.long 0, .long 0])), (h0, .inr (6, [.ref te, .ref ta, .ref lo, .ref su, .ref pt, .int 0, .int ti, .long 0, .int (-1), .int (-1)]))] H := hP
  have hD : va_D A [(lo, .inr (2, [.ref lr])), (lr, .inl (cl, 128, .inr (.inl fr))), (h1, .inr (0, [.ref te, .int wy, .long dr])), (te, .inr (9, [.int 0, .int ca, .int se])), (su, .inr (10, [.long 0, .long 0])), (h0, .inr (6, [.ref te, .ref ta, .ref lo, .ref su, .ref pt, .int 0, .int ti, .long 0, .int (-1), .int (-1)]))] := hD
  refine W.widen (k := 0) (n := 0) (Nat.le_of_ble_eq_true rfl) (Nat.le_of_ble_eq_true rfl) ?_
  have hw : r_2 = 0 := hw
  subst hw
  refine lv_aload_n hx hb dX6_tick_74 rfl (lv_at hl 1 rfl) ?_
  have hPc := hP.sub (ws' := [(h0, .inr (6, [.ref te, .ref ta, .ref lo, .ref su, .ref pt, .int 0, .int ti, .long 0, .int (-1), .int (-1)]))]) [5] rfl
  have hDc := hD.sub (ws' := [(h0, .inr (6, [.ref te, .ref ta, .ref lo, .ref su, .ref pt, .int 0, .int ti, .long 0, .int (-1), .int (-1)]))]) [5] (by decide) rfl
  have hKc := hK.sub (tys' := []) [] rfl
  have hFc := va_free (wc := [(h0, .inr (6, [.ref te, .ref ta, .ref lo, .ref su, .ref pt, .int 0, .int ti, .long 0, .int (-1), .int (-1)]))]) hD hS hA [5] rfl
  refine va_calll (va_runV (As := []) (rest := [.int 0, .int (-1), .int ti, .ref lo]) ⟨hx, hb, hml, hown, hts⟩ (c_X6_weightsAsBits l dC dI h0 te ta lo su pt ti H.size) (cwV 0 hts gX6_tick_X6_weightsAsBits rfl rfl rfl (by decide +kernel) ⟨Nat.le_of_ble_eq_true rfl, Nat.le_of_ble_eq_true rfl⟩) ⟨fun a U g mk q => by obtain ⟨q0, q1, qP, qK, qD⟩ := q; exact ⟨q0, q1, qP, va_K.moved (u := U) (U := U.calling g mk a) (Vm.Alike.refl U.vm) qK, qD⟩, va_recv hKc hPc (ci := 6) (q0 := 0) rfl rfl, fun U hU hW => ⟨rfl, by rw [hU], by rw [hU]; exact hPc, va_K.moved hW.alike hKc, hDc.weaken (fun _ _ _ _ => trivial)⟩⟩ rfl rfl hl.1 rfl (lv_room (Nat.le_of_ble_eq_true rfl)) dX6_tick_75 ⟨Nat.le_of_ble_eq_true rfl, Nat.le_of_ble_eq_true rfl⟩) hS (fun q _ h => hFc q h) hFc (fun r_3 u t H1 locs ht hvm hw hB hz1 hk1 hS => ?_)
  obtain ⟨hP1, hK1, hD1⟩ := hB
  rw [ht] at hP1
  have hK1 := va_K.moved hvm.symm hK1
  obtain ⟨hP, hD⟩ := va_join (wr := [(lo, .inr (2, [.ref lr])), (lr, .inl (cl, 128, .inr (.inl fr))), (h1, .inr (0, [.ref te, .int wy, .long dr])), (te, .inr (9, [.int 0, .int ca, .int se])), (su, .inr (10, [.long 0, .long 0]))]) (w1 := [(h0, .inr (6, [.ref te, .ref ta, .ref lo, .ref su, .ref pt, .int 0, .int ti, .long 0, .int (-1), .int (-1)]))]) hP hD [5] [0, 1, 2, 3, 4] rfl rfl (by decide) (by decide) hk1 hFc hP1 hD1
  generalize H1 = H at hP hS ⊢
  have hP : va_P (dC, dI) vwCl [(lo, .inr (2, [.ref lr])), (lr, .inl (cl, 128, .inr (.inl fr))), (h1, .inr (0, [.ref te, .int wy, .long dr])), (te, .inr (9, [.int 0, .int ca, .int se])), (su, .inr (10, [.long 0, .long 0])), (h0, .inr (6, [.ref te, .ref ta, .ref lo, .ref su, .ref pt, .int 0, .int ti, .long 0, .int (-1), .int (-1)]))] H := hP
  have hD : va_D A [(lo, .inr (2, [.ref lr])), (lr, .inl (cl, 128, .inr (.inl fr))), (h1, .inr (0, [.ref te, .int wy, .long dr])), (te, .inr (9, [.int 0, .int ca, .int se])), (su, .inr (10, [.long 0, .long 0])), (h0, .inr (6, [.ref te, .ref ta, .ref lo, .ref su, .ref pt, .int 0, .int ti, .long 0, .int (-1), .int (-1)]))] := hD
  refine W.widen (k := 0) (n := 0) (Nat.le_of_ble_eq_true rfl) (Nat.le_of_ble_eq_true rfl) ?_
  have hw : r_3 = 0 := hw
  subst hw
  have hPc := hP.sub (ws' := [(lo, .inr (2, [.ref lr])), (lr, .inl (cl, 128, .inr (.inl fr)))]) [0, 1] rfl
  have hDc := hD.sub (ws' := [(lo, .inr (2, [.ref lr])), (lr, .inl (cl, 128, .inr (.inl fr)))]) [0, 1] (by decide) rfl
  have hKc := hK.sub (tys' := [(cl, .long)]) [0] rfl
  have hFc := va_free (wc := [(lo, .inr (2, [.ref lr])), (lr, .inl (cl, 128, .inr (.inl fr)))]) hD hS hA [0, 1] rfl
  refine va_callv (va_runV (As := [.int ti, .int (-1), .int 0, .long 0]) (rest := []) ⟨hx, hb, hml, hown, hts⟩ (c_X2_put l dC dI lo ti lr cl fr H.size) (cwV 4 hts gX6_tick_X2_put rfl rfl rfl (by decide +kernel) ⟨Nat.le_of_ble_eq_true rfl, Nat.le_of_ble_eq_true rfl⟩) ⟨fun a U g mk q => by obtain ⟨q0, q1, qP, qK, qD⟩ := q; exact ⟨q0, q1, qP, va_K.moved (u := U) (U := U.calling g mk a) (Vm.Alike.refl U.vm) qK, qD⟩, va_recv hKc hPc (ci := 2) (q0 := 0) rfl rfl, fun U hU hW => ⟨rfl, by rw [hU], by rw [hU]; exact hPc, va_K.moved hW.alike hKc, hDc.weaken (fun _ _ _ _ => trivial)⟩⟩ rfl rfl hl.1 rfl (lv_room (Nat.le_of_ble_eq_true rfl)) dX6_tick_78 ⟨Nat.le_of_ble_eq_true rfl, Nat.le_of_ble_eq_true rfl⟩) hS (fun q _ h => hFc q h) hFc (fun u t H1 locs ht hvm hw hB hz1 hk1 hS => ?_)
  obtain ⟨f_4, hP1, hK1, hD1⟩ := hB
  rw [ht] at hP1
  have hK1 := va_K.moved hvm.symm hK1
  obtain ⟨hP, hD⟩ := va_join (wr := [(h1, .inr (0, [.ref te, .int wy, .long dr])), (te, .inr (9, [.int 0, .int ca, .int se])), (su, .inr (10, [.long 0, .long 0])), (h0, .inr (6, [.ref te, .ref ta, .ref lo, .ref su, .ref pt, .int 0, .int ti, .long 0, .int (-1), .int (-1)]))]) (w1 := [(lo, .inr (2, [.ref lr])), (lr, .inl (cl, 128, .inr (.inl f_4)))]) hP hD [0, 1] [2, 3, 4, 5] rfl rfl (by decide) (by decide) hk1 hFc hP1 hD1
  generalize H1 = H at hP hS ⊢
  have hP : va_P (dC, dI) vwCl [(h1, .inr (0, [.ref te, .int wy, .long dr])), (te, .inr (9, [.int 0, .int ca, .int se])), (su, .inr (10, [.long 0, .long 0])), (h0, .inr (6, [.ref te, .ref ta, .ref lo, .ref su, .ref pt, .int 0, .int ti, .long 0, .int (-1), .int (-1)])), (lo, .inr (2, [.ref lr])), (lr, .inl (cl, 128, .inr (.inl f_4)))] H := hP
  have hD : va_D A [(h1, .inr (0, [.ref te, .int wy, .long dr])), (te, .inr (9, [.int 0, .int ca, .int se])), (su, .inr (10, [.long 0, .long 0])), (h0, .inr (6, [.ref te, .ref ta, .ref lo, .ref su, .ref pt, .int 0, .int ti, .long 0, .int (-1), .int (-1)])), (lo, .inr (2, [.ref lr])), (lr, .inl (cl, 128, .inr (.inl f_4)))] := hD
  refine W.widen (k := 0) (n := 0) (Nat.le_of_ble_eq_true rfl) (Nat.le_of_ble_eq_true rfl) ?_
  refine lv_aload_n hx hb dX6_tick_81 rfl (lv_at hl 1 rfl) ?_
  refine lv_iload_n hx hb dX6_tick_82 rfl (lv_at hl 0 rfl) ?_
  have hPc := hP.sub (ws' := [(h0, .inr (6, [.ref te, .ref ta, .ref lo, .ref su, .ref pt, .int 0, .int ti, .long 0, .int (-1), .int (-1)]))]) [3] rfl
  have hDc := hD.sub (ws' := [(h0, .inr (6, [.ref te, .ref ta, .ref lo, .ref su, .ref pt, .int 0, .int ti, .long 0, .int (-1), .int (-1)]))]) [3] (by decide) rfl
  have hKc := hK.sub (tys' := []) [] rfl
  have hFc := va_free (wc := [(h0, .inr (6, [.ref te, .ref ta, .ref lo, .ref su, .ref pt, .int 0, .int ti, .long 0, .int (-1), .int (-1)]))]) hD hS hA [3] rfl
  refine va_calli (va_runV (As := [.int (-1)]) (rest := []) ⟨hx, hb, hml, hown, hts⟩ (c_X6_has l dC dI h0 (-1) te ta lo su pt ti H.size) (cwV 1 hts gX6_tick_X6_has rfl rfl rfl (by decide +kernel) ⟨Nat.le_of_ble_eq_true rfl, Nat.le_of_ble_eq_true rfl⟩) ⟨fun a U g mk q => by obtain ⟨q0, q1, qP, qK, qD⟩ := q; exact ⟨q0, q1, qP, va_K.moved (u := U) (U := U.calling g mk a) (Vm.Alike.refl U.vm) qK, qD⟩, va_recv hKc hPc (ci := 6) (q0 := 0) rfl rfl, fun U hU hW => ⟨rfl, by rw [hU], by rw [hU]; exact hPc, va_K.moved hW.alike hKc, hDc.weaken (fun _ _ _ _ => trivial)⟩⟩ rfl rfl hl.1 rfl (lv_room (Nat.le_of_ble_eq_true rfl)) dX6_tick_83 ⟨Nat.le_of_ble_eq_true rfl, Nat.le_of_ble_eq_true rfl⟩) hS (fun q _ h => hFc q h) hFc (fun r_5 u t H1 locs ht hvm hw hB hz1 hk1 hS => ?_)
  obtain ⟨hP1, hK1, hD1⟩ := hB
  rw [ht] at hP1
  have hK1 := va_K.moved hvm.symm hK1
  obtain ⟨hP, hD⟩ := va_join (wr := [(h1, .inr (0, [.ref te, .int wy, .long dr])), (te, .inr (9, [.int 0, .int ca, .int se])), (su, .inr (10, [.long 0, .long 0])), (lo, .inr (2, [.ref lr])), (lr, .inl (cl, 128, .inr (.inl f_4)))]) (w1 := [(h0, .inr (6, [.ref te, .ref ta, .ref lo, .ref su, .ref pt, .int 0, .int ti, .long 0, .int (-1), .int (-1)]))]) hP hD [3] [0, 1, 2, 4, 5] rfl rfl (by decide) (by decide) hk1 hFc hP1 hD1
  generalize H1 = H at hP hS ⊢
  have hP : va_P (dC, dI) vwCl [(h1, .inr (0, [.ref te, .int wy, .long dr])), (te, .inr (9, [.int 0, .int ca, .int se])), (su, .inr (10, [.long 0, .long 0])), (lo, .inr (2, [.ref lr])), (lr, .inl (cl, 128, .inr (.inl f_4))), (h0, .inr (6, [.ref te, .ref ta, .ref lo, .ref su, .ref pt, .int 0, .int ti, .long 0, .int (-1), .int (-1)]))] H := hP
  have hD : va_D A [(h1, .inr (0, [.ref te, .int wy, .long dr])), (te, .inr (9, [.int 0, .int ca, .int se])), (su, .inr (10, [.long 0, .long 0])), (lo, .inr (2, [.ref lr])), (lr, .inl (cl, 128, .inr (.inl f_4))), (h0, .inr (6, [.ref te, .ref ta, .ref lo, .ref su, .ref pt, .int 0, .int ti, .long 0, .int (-1), .int (-1)]))] := hD
  refine W.widen (k := 0) (n := 0) (Nat.le_of_ble_eq_true rfl) (Nat.le_of_ble_eq_true rfl) ?_
  have hw : r_5 = 0 := hw
  subst hw
  refine lv_if_eq (tgt := 112) hx hb dX6_tick_86 (by decide) (fun _ => ?_) (fun c => absurd (by decide) c)
  refine lv_aload_n hx hb dX6_tick_112 rfl (lv_at hl 1 rfl) ?_
  refine lv_iconst (v := (-1)) hx hb dX6_tick_113 (by decide) ?_
  refine va_put (D := (dC, dI)) (ci := 6) (v := .int (-1)) (ty := .int) (C := RX6) (T := TX6) (N := 10) hx hb hts iw_X6_tick_X6 tyX6 tyX6_ok nmX6 hown hK hP hD hS 5 rfl rfl 9 (by decide) (hts (.fieldLink RX6 38 "DeadlineShare$State" "holder" "I") (by decide +kernel)) (fun _ h9 => h9) rfl (by decide +kernel) rfl rfl (Nat.le_of_ble_eq_true rfl) dX6_tick_114 (fun H locs hP hD hS => ?_)
  have hP : va_P (dC, dI) vwCl [(h1, .inr (0, [.ref te, .int wy, .long dr])), (te, .inr (9, [.int 0, .int ca, .int se])), (su, .inr (10, [.long 0, .long 0])), (lo, .inr (2, [.ref lr])), (lr, .inl (cl, 128, .inr (.inl f_4))), (h0, .inr (6, [.ref te, .ref ta, .ref lo, .ref su, .ref pt, .int 0, .int ti, .long 0, .int (-1), .int (-1)]))] H := hP
  have hD : va_D A [(h1, .inr (0, [.ref te, .int wy, .long dr])), (te, .inr (9, [.int 0, .int ca, .int se])), (su, .inr (10, [.long 0, .long 0])), (lo, .inr (2, [.ref lr])), (lr, .inl (cl, 128, .inr (.inl f_4))), (h0, .inr (6, [.ref te, .ref ta, .ref lo, .ref su, .ref pt, .int 0, .int ti, .long 0, .int (-1), .int (-1)]))] := hD
  refine lv_aload_n hx hb dX6_tick_117 rfl (lv_at hl 1 rfl) ?_
  refine lv_dup hx hb dX6_tick_118 rfl ?_
  refine va_get (D := (dC, dI)) (ci := 6) (v := .int ti) (C := RX6) (T := TX6) (N := 10) hx hb hts iw_X6_tick_X6 hown hK hP 5 rfl rfl 6 (by decide) (hts (.fieldLink RX6 58 "DeadlineShare$State" "time" "I") (by decide +kernel)) (fun _ h9 => h9) rfl dX6_tick_119 ?_
  refine lv_iconst (v := 1) hx hb dX6_tick_122 (by decide) ?_
  refine lv_iadd hx hb dX6_tick_123 ?_
  refine lv_topi (fun v_6 ev_6 => ?_)
  refine va_put (D := (dC, dI)) (ci := 6) (v := .int v_6) (ty := .int) (C := RX6) (T := TX6) (N := 10) hx hb hts iw_X6_tick_X6 tyX6 tyX6_ok nmX6 hown hK hP hD hS 5 rfl rfl 6 (by decide) (hts (.fieldLink RX6 58 "DeadlineShare$State" "time" "I") (by decide +kernel)) (fun _ h9 => h9) rfl (by decide +kernel) rfl rfl (Nat.le_of_ble_eq_true rfl) dX6_tick_124 (fun H locs hP hD hS => ?_)
  have hP : va_P (dC, dI) vwCl [(h1, .inr (0, [.ref te, .int wy, .long dr])), (te, .inr (9, [.int 0, .int ca, .int se])), (su, .inr (10, [.long 0, .long 0])), (lo, .inr (2, [.ref lr])), (lr, .inl (cl, 128, .inr (.inl f_4))), (h0, .inr (6, [.ref te, .ref ta, .ref lo, .ref su, .ref pt, .int 0, .int v_6, .long 0, .int (-1), .int (-1)]))] H := hP
  have hD : va_D A [(h1, .inr (0, [.ref te, .int wy, .long dr])), (te, .inr (9, [.int 0, .int ca, .int se])), (su, .inr (10, [.long 0, .long 0])), (lo, .inr (2, [.ref lr])), (lr, .inl (cl, 128, .inr (.inl f_4))), (h0, .inr (6, [.ref te, .ref ta, .ref lo, .ref su, .ref pt, .int 0, .int v_6, .long 0, .int (-1), .int (-1)]))] := hD
  refine lv_iload_n hx hb dX6_tick_127 rfl (lv_at hl 0 rfl) ?_
  have hP9 := hP.sub (ws' := [(h0, .inr (6, [.ref te, .ref ta, .ref lo, .ref su, .ref pt, .int 0, .int v_6, .long 0, .int (-1), .int (-1)])), (h1, .inr (0, [.ref te, .int wy, .long dr])), (te, .inr (9, [.int 0, .int ca, .int se])), (su, .inr (10, [.long 0, .long 0])), (lo, .inr (2, [.ref lr])), (lr, .inl (cl, 128, .inr (.inl f_4)))]) [5, 0, 1, 2, 3, 4] rfl
  have hD9 := hD.sub (ws' := [(h0, .inr (6, [.ref te, .ref ta, .ref lo, .ref su, .ref pt, .int 0, .int v_6, .long 0, .int (-1), .int (-1)])), (h1, .inr (0, [.ref te, .int wy, .long dr])), (te, .inr (9, [.int 0, .int ca, .int se])), (su, .inr (10, [.long 0, .long 0])), (lo, .inr (2, [.ref lr])), (lr, .inl (cl, 128, .inr (.inl f_4)))]) [5, 0, 1, 2, 3, 4] (by decide) rfl
  have hK9 := hK.sub (tys' := [(cl, .long)]) [0] rfl
  refine W.widen (k := 0) (n := 0) (Nat.le_of_ble_eq_true rfl) (Nat.le_of_ble_eq_true rfl) ?_
  exact W.iret (v := (-1)) hx hb hr (fun t ht hW => ⟨⟨(-1), (), rfl, rfl, v_6, f_4, by rw [ht]; exact hP9, va_K.moved hW.alike hK9, hD9⟩, hS.F ht⟩) hS.2.2 dX6_tick_128
theorem iw_X2_copy_X2 : ∀ w ∈ u_ws RX2 TX2 1, w ∈ wsX2_copy := by decide +kernel
set_option maxHeartbeats 4000000 in
set_option maxRecDepth 100000 in
theorem c_X2_copy (l : Launch) (dC : Nat → ClassId) (dI : Nat → Nat → Nat) (h0 : Nat) (h1 : Nat) (r0 : Nat) (c0 : ClassId) (f0 : Nat → Int64) (r1 : Nat) (c1 : ClassId) (f1 : Nat → Int64) (sz : Nat) : Met l yX2_copy wsX2_copy ({ frames := 1, cells := 0, slots := 0, locals := 40 } : Room) (va_Pc [.ref h0, .ref h1] (fun U => U.heap.size = sz ∧ va_P (dC, dI) vwCl [(h0, .inr (2, [.ref r0])), (r0, .inl (c0, 128, .inr (.inl f0))), (h1, .inr (2, [.ref r1])), (r1, .inl (c1, 128, .inr (.inl f1)))] U.heap ∧ va_K (dC, dI) vwCl [(c0, .long), (c1, .long)] U ∧ va_D (fun _ => True) [(h0, .inr (2, [.ref r0])), (r0, .inl (c0, 128, .inr (.inl f0))), (h1, .inr (2, [.ref r1])), (r1, .inl (c1, 128, .inr (.inl f1)))])) (va_Qv (fun (_ : Unit) => True) (fun (_ : Unit) t => ∃ (f2 : Nat → Int64), va_P (dC, dI) vwCl [(h0, .inr (2, [.ref r0])), (r0, .inl (c0, 128, .inr (.inl f2))), (h1, .inr (2, [.ref r1])), (r1, .inl (c1, 128, .inr (.inl f1)))] t.heap ∧ va_K (dC, dI) vwCl [(c0, .long), (c1, .long)] t ∧ va_D (va_A [(h0, .inr (2, [.ref r0])), (r0, .inl (c0, 128, .inr (.inl f0))), (h1, .inr (2, [.ref r1])), (r1, .inl (c1, 128, .inr (.inl f1)))] sz) [(h0, .inr (2, [.ref r0])), (r0, .inl (c0, 128, .inr (.inl f2))), (h1, .inr (2, [.ref r1])), (r1, .inl (c1, 128, .inr (.inl f1)))]) (va_A [(h0, .inr (2, [.ref r0])), (r0, .inl (c0, 128, .inr (.inl f0))), (h1, .inr (2, [.ref r1])), (r1, .inl (c1, 128, .inr (.inl f1)))] sz)) 0 0 (va_A [(h0, .inr (2, [.ref r0])), (r0, .inl (c0, 128, .inr (.inl f0))), (h1, .inr (2, [.ref r1])), (r1, .inl (c1, 128, .inr (.inl f1)))] sz) := by
  refine Met.ofW (cc := cX2_copy) (maxL := 2) (ret := none) (by decide) rfl ?_
  intro p e s m args below meth c s₁ B hml hv
  obtain ⟨rfl, hsz, hP, hK, hD0⟩ := hv
  have hx := B.exec
  have hb := B.bytes
  have hr := B.returns
  have hts := atoms_spec (ws := wsX2_copy) B.pre
  have hown : s.vm.findClass RX2 = some m.cls := findClass_of_methodNamed B.named
  have hlocks := B.notSynchronized
  subst hsz
  have hD := hD0.self (sz := s.heap.size)
  obtain ⟨A, hAe⟩ : ∃ A, A = va_A [(h0, .inr (2, [.ref r0])), (r0, .inl (c0, 128, .inr (.inl f0))), (h1, .inr (2, [.ref r1])), (r1, .inl (c1, 128, .inr (.inl f1)))] s.heap.size := ⟨_, rfl⟩
  rw [← hAe] at hD ⊢
  have hA : ∀ q : Nat, s.heap.size ≤ q → A q := fun q h => by rw [hAe]; exact Or.inr h
  have hS : va_S A s.heap s.heap [] := va_S.rf
  have hP : va_P (dC, dI) vwCl [(h0, .inr (2, [.ref r0])), (r0, .inl (c0, 128, .inr (.inl f0))), (h1, .inr (2, [.ref r1])), (r1, .inl (c1, 128, .inr (.inl f1)))] s.heap := hP
  have hl := lv_entry ([.ref h0, .ref h1]) (n := 2) (Nat.le_of_ble_eq_true rfl)
  rw [lg_entry_eq]
  generalize (lg_sl ([.ref h0, .ref h1]) ++ List.replicate (2 - (lg_sl ([.ref h0, .ref h1])).length) Slot.unset).toArray = ls at hl ⊢
  have hl : lv_has ls 2 [(0, .ref h0), (1, .ref h1)] := hl
  refine lv_aload_n hx hb dX2_copy_0 rfl (lv_at hl 1 rfl) ?_
  refine va_get (D := (dC, dI)) (ci := 2) (v := .ref r1) (C := RX2) (T := TX2) (N := 1) hx hb hts iw_X2_copy_X2 hown hK hP 2 rfl rfl 0 (by decide) (hts (.fieldLink RX2 11 "DeadlineShare$Log" "rows" "[J") (by decide +kernel)) (fun _ h9 => h9) rfl dX2_copy_1 ?_
  refine lv_iconst (v := 0) hx hb dX2_copy_4 (by decide) ?_
  refine lv_aload_n hx hb dX2_copy_5 rfl (lv_at hl 0 rfl) ?_
  refine va_get (D := (dC, dI)) (ci := 2) (v := .ref r0) (C := RX2) (T := TX2) (N := 1) hx hb hts iw_X2_copy_X2 hown hK hP 0 rfl rfl 0 (by decide) (hts (.fieldLink RX2 11 "DeadlineShare$Log" "rows" "[J") (by decide +kernel)) (fun _ h9 => h9) rfl dX2_copy_6 ?_
  refine lv_iconst (v := 0) hx hb dX2_copy_9 (by decide) ?_
  refine lv_sipush (v := 128) hx hb dX2_copy_10 (by decide) ?_
  refine va_copyl hx hb (by rw [hml]; exact hl.1.symm) hown (hts (.methodLink RX2 15 arraycopyName) (by decide +kernel)) (hts (.native arraycopyName) (by decide +kernel)) (hts (.static arraycopyName) (by decide +kernel)) (hts (.initialized "java/lang/System") (by decide +kernel)) hK hP hD hS 3 1 1 0 rfl rfl rfl rfl rfl (by decide) (by decide) (by decide) (by decide) (by decide) (fun _ _ => rfl) (Nat.le_of_ble_eq_true rfl) (Nat.le_of_ble_eq_true rfl) dX2_copy_13 (fun H locs hP hD hS => ?_)
  have hP : va_P (dC, dI) vwCl [(h0, .inr (2, [.ref r0])), (r0, .inl (c0, 128, .inr (.inl (va_cpy f1 f0 (Int32.toNatClampNeg 0) (Int32.toNatClampNeg 0) (Int32.toNatClampNeg 128))))), (h1, .inr (2, [.ref r1])), (r1, .inl (c1, 128, .inr (.inl f1)))] H := hP
  have hD : va_D A [(h0, .inr (2, [.ref r0])), (r0, .inl (c0, 128, .inr (.inl (va_cpy f1 f0 (Int32.toNatClampNeg 0) (Int32.toNatClampNeg 0) (Int32.toNatClampNeg 128))))), (h1, .inr (2, [.ref r1])), (r1, .inl (c1, 128, .inr (.inl f1)))] := hD
  generalize ef_1 : va_cpy f1 f0 (Int32.toNatClampNeg 0) (Int32.toNatClampNeg 0) (Int32.toNatClampNeg 128) = f_1 at hP hD
  have hP9 := hP.sub (ws' := [(h0, .inr (2, [.ref r0])), (r0, .inl (c0, 128, .inr (.inl f_1))), (h1, .inr (2, [.ref r1])), (r1, .inl (c1, 128, .inr (.inl f1)))]) [0, 1, 2, 3] rfl
  have hD9 := hD.sub (ws' := [(h0, .inr (2, [.ref r0])), (r0, .inl (c0, 128, .inr (.inl f_1))), (h1, .inr (2, [.ref r1])), (r1, .inl (c1, 128, .inr (.inl f1)))]) [0, 1, 2, 3] (by decide) rfl
  have hK9 := hK.sub (tys' := [(c0, .long), (c1, .long)]) [0, 1] rfl
  refine W.widen (k := 0) (n := 0) (Nat.le_of_ble_eq_true rfl) (Nat.le_of_ble_eq_true rfl) ?_
  exact W.vret hx hb hr (fun t ht hW => ⟨⟨(), rfl, trivial, f_1, by rw [ht]; exact hP9, va_K.moved hW.alike hK9, hD9⟩, hS.F ht⟩) hS.2.2 dX2_copy_16
theorem iw_X6_copy_X6 : ∀ w ∈ u_ws RX6 TX6 10, w ∈ wsX6_copy := by decide +kernel
set_option maxHeartbeats 4000000 in
set_option maxRecDepth 100000 in
theorem c_X6_copy (l : Launch) (dC : Nat → ClassId) (dI : Nat → Nat → Nat) (h0 : Nat) (h1 : Nat) (te : Nat) (ta : Nat) (lo : Nat) (su : Nat) (pt : Nat) (ti : Int32) (te1 : Nat) (ta1 : Nat) (lo1 : Nat) (su1 : Nat) (pt1 : Nat) (ti1 : Int32) (r0 : Nat) (c0 : ClassId) (f0 : Nat → Int64) (r1 : Nat) (c1 : ClassId) (f1 : Nat → Int64) (sz : Nat) : Met l yX6_copy wsX6_copy ({ frames := 2, cells := 0, slots := 0, locals := 61 } : Room) (va_Pc [.ref h0, .ref h1] (fun U => U.heap.size = sz ∧ va_P (dC, dI) vwCl [(h0, .inr (6, [.ref te, .ref ta, .ref lo, .ref su, .ref pt, .int 0, .int ti, .long 0, .int (-1), .int (-1)])), (h1, .inr (6, [.ref te1, .ref ta1, .ref lo1, .ref su1, .ref pt1, .int 0, .int ti1, .long 0, .int (-1), .int (-1)])), (lo, .inr (2, [.ref r0])), (r0, .inl (c0, 128, .inr (.inl f0))), (lo1, .inr (2, [.ref r1])), (r1, .inl (c1, 128, .inr (.inl f1)))] U.heap ∧ va_K (dC, dI) vwCl [(c0, .long), (c1, .long)] U ∧ va_D (fun _ => True) [(h0, .inr (6, [.ref te, .ref ta, .ref lo, .ref su, .ref pt, .int 0, .int ti, .long 0, .int (-1), .int (-1)])), (h1, .inr (6, [.ref te1, .ref ta1, .ref lo1, .ref su1, .ref pt1, .int 0, .int ti1, .long 0, .int (-1), .int (-1)])), (lo, .inr (2, [.ref r0])), (r0, .inl (c0, 128, .inr (.inl f0))), (lo1, .inr (2, [.ref r1])), (r1, .inl (c1, 128, .inr (.inl f1)))])) (va_Qv (fun (_ : Unit) => True) (fun (_ : Unit) t => ∃ (f2 : Nat → Int64), va_P (dC, dI) vwCl [(h0, .inr (6, [.ref te, .ref ta, .ref lo, .ref su, .ref pt, .int 0, .int ti1, .long 0, .int (-1), .int (-1)])), (h1, .inr (6, [.ref te1, .ref ta1, .ref lo1, .ref su1, .ref pt1, .int 0, .int ti1, .long 0, .int (-1), .int (-1)])), (lo, .inr (2, [.ref r0])), (r0, .inl (c0, 128, .inr (.inl f2))), (lo1, .inr (2, [.ref r1])), (r1, .inl (c1, 128, .inr (.inl f1)))] t.heap ∧ va_K (dC, dI) vwCl [(c0, .long), (c1, .long)] t ∧ va_D (va_A [(h0, .inr (6, [.ref te, .ref ta, .ref lo, .ref su, .ref pt, .int 0, .int ti, .long 0, .int (-1), .int (-1)])), (h1, .inr (6, [.ref te1, .ref ta1, .ref lo1, .ref su1, .ref pt1, .int 0, .int ti1, .long 0, .int (-1), .int (-1)])), (lo, .inr (2, [.ref r0])), (r0, .inl (c0, 128, .inr (.inl f0))), (lo1, .inr (2, [.ref r1])), (r1, .inl (c1, 128, .inr (.inl f1)))] sz) [(h0, .inr (6, [.ref te, .ref ta, .ref lo, .ref su, .ref pt, .int 0, .int ti1, .long 0, .int (-1), .int (-1)])), (h1, .inr (6, [.ref te1, .ref ta1, .ref lo1, .ref su1, .ref pt1, .int 0, .int ti1, .long 0, .int (-1), .int (-1)])), (lo, .inr (2, [.ref r0])), (r0, .inl (c0, 128, .inr (.inl f2))), (lo1, .inr (2, [.ref r1])), (r1, .inl (c1, 128, .inr (.inl f1)))]) (va_A [(h0, .inr (6, [.ref te, .ref ta, .ref lo, .ref su, .ref pt, .int 0, .int ti, .long 0, .int (-1), .int (-1)])), (h1, .inr (6, [.ref te1, .ref ta1, .ref lo1, .ref su1, .ref pt1, .int 0, .int ti1, .long 0, .int (-1), .int (-1)])), (lo, .inr (2, [.ref r0])), (r0, .inl (c0, 128, .inr (.inl f0))), (lo1, .inr (2, [.ref r1])), (r1, .inl (c1, 128, .inr (.inl f1)))] sz)) 0 0 (va_A [(h0, .inr (6, [.ref te, .ref ta, .ref lo, .ref su, .ref pt, .int 0, .int ti, .long 0, .int (-1), .int (-1)])), (h1, .inr (6, [.ref te1, .ref ta1, .ref lo1, .ref su1, .ref pt1, .int 0, .int ti1, .long 0, .int (-1), .int (-1)])), (lo, .inr (2, [.ref r0])), (r0, .inl (c0, 128, .inr (.inl f0))), (lo1, .inr (2, [.ref r1])), (r1, .inl (c1, 128, .inr (.inl f1)))] sz) := by
  refine Met.ofW (cc := cX6_copy) (maxL := 3) (ret := none) (by decide) rfl ?_
  intro p e s m args below meth c s₁ B hml hv
  obtain ⟨rfl, hsz, hP, hK, hD0⟩ := hv
  have hx := B.exec
  have hb := B.bytes
  have hr := B.returns
  have hts := atoms_spec (ws := wsX6_copy) B.pre
  have hown : s.vm.findClass RX6 = some m.cls := findClass_of_methodNamed B.named
  have hlocks := B.notSynchronized
  subst hsz
  have hD := hD0.self (sz := s.heap.size)
  obtain ⟨A, hAe⟩ : ∃ A, A = va_A [(h0, .inr (6, [.ref te, .ref ta, .ref lo, .ref su, .ref pt, .int 0, .int ti, .long 0, .int (-1), .int (-1)])), (h1, .inr (6, [.ref te1, .ref ta1, .ref lo1, .ref su1, .ref pt1, .int 0, .int ti1, .long 0, .int (-1), .int (-1)])), (lo, .inr (2, [.ref r0])), (r0, .inl (c0, 128, .inr (.inl f0))), (lo1, .inr (2, [.ref r1])), (r1, .inl (c1, 128, .inr (.inl f1)))] s.heap.size := ⟨_, rfl⟩
  rw [← hAe] at hD ⊢
  have hA : ∀ q : Nat, s.heap.size ≤ q → A q := fun q h => by rw [hAe]; exact Or.inr h
  have hS : va_S A s.heap s.heap [] := va_S.rf
  have hP : va_P (dC, dI) vwCl [(h0, .inr (6, [.ref te, .ref ta, .ref lo, .ref su, .ref pt, .int 0, .int ti, .long 0, .int (-1), .int (-1)])), (h1, .inr (6, [.ref te1, .ref ta1, .ref lo1, .ref su1, .ref pt1, .int 0, .int ti1, .long 0, .int (-1), .int (-1)])), (lo, .inr (2, [.ref r0])), (r0, .inl (c0, 128, .inr (.inl f0))), (lo1, .inr (2, [.ref r1])), (r1, .inl (c1, 128, .inr (.inl f1)))] s.heap := hP
  have hl := lv_entry ([.ref h0, .ref h1]) (n := 3) (Nat.le_of_ble_eq_true rfl)
  rw [lg_entry_eq]
  generalize (lg_sl ([.ref h0, .ref h1]) ++ List.replicate (3 - (lg_sl ([.ref h0, .ref h1])).length) Slot.unset).toArray = ls at hl ⊢
  have hl : lv_has ls 3 [(0, .ref h0), (1, .ref h1)] := hl
  refine lv_iconst (v := 0) hx hb dX6_copy_0 (by decide) ?_
  refine lv_istore_n (lv' := [(2, .int 0), (0, .ref h0), (1, .ref h1)]) hx hb dX6_copy_1 rfl hl (by decide) rfl (fun ls hl => ?_)
  refine lv_iload_n hx hb dX6_copy_2 rfl (lv_at hl 0 rfl) ?_
  refine lv_aload_n hx hb dX6_copy_3 rfl (lv_at hl 2 rfl) ?_
  refine va_get (D := (dC, dI)) (ci := 6) (v := .int 0) (C := RX6) (T := TX6) (N := 10) hx hb hts iw_X6_copy_X6 hown hK hP 1 rfl rfl 5 (by decide) (hts (.fieldLink RX6 48 "DeadlineShare$State" "count" "I") (by decide +kernel)) (fun _ h9 => h9) rfl dX6_copy_4 ?_
  refine lv_icmp_ge (tgt := 31) hx hb dX6_copy_7 (by decide) (fun _ => ?_) (fun c => absurd (by decide) c)
  refine lv_aload_n hx hb dX6_copy_31 rfl (lv_at hl 1 rfl) ?_
  refine va_get (D := (dC, dI)) (ci := 6) (v := .ref lo) (C := RX6) (T := TX6) (N := 10) hx hb hts iw_X6_copy_X6 hown hK hP 0 rfl rfl 2 (by decide) (hts (.fieldLink RX6 20 "DeadlineShare$State" "log" "LDeadlineShare$Log;") (by decide +kernel)) (fun _ h9 => h9) rfl dX6_copy_32 ?_
  refine lv_aload_n hx hb dX6_copy_35 rfl (lv_at hl 2 rfl) ?_
  refine va_get (D := (dC, dI)) (ci := 6) (v := .ref lo1) (C := RX6) (T := TX6) (N := 10) hx hb hts iw_X6_copy_X6 hown hK hP 1 rfl rfl 2 (by decide) (hts (.fieldLink RX6 20 "DeadlineShare$State" "log" "LDeadlineShare$Log;") (by decide +kernel)) (fun _ h9 => h9) rfl dX6_copy_36 ?_
  have hPc := hP.sub (ws' := [(lo, .inr (2, [.ref r0])), (r0, .inl (c0, 128, .inr (.inl f0))), (lo1, .inr (2, [.ref r1])), (r1, .inl (c1, 128, .inr (.inl f1)))]) [2, 3, 4, 5] rfl
  have hDc := hD.sub (ws' := [(lo, .inr (2, [.ref r0])), (r0, .inl (c0, 128, .inr (.inl f0))), (lo1, .inr (2, [.ref r1])), (r1, .inl (c1, 128, .inr (.inl f1)))]) [2, 3, 4, 5] (by decide) rfl
  have hKc := hK.sub (tys' := [(c0, .long), (c1, .long)]) [0, 1] rfl
  have hFc := va_free (wc := [(lo, .inr (2, [.ref r0])), (r0, .inl (c0, 128, .inr (.inl f0))), (lo1, .inr (2, [.ref r1])), (r1, .inl (c1, 128, .inr (.inl f1)))]) hD hS hA [2, 3, 4, 5] rfl
  refine va_callv (va_runV (As := [.ref lo1]) (rest := []) ⟨hx, hb, hml, hown, hts⟩ (c_X2_copy l dC dI lo lo1 r0 c0 f0 r1 c1 f1 s.heap.size) (cwV 1 hts gX6_copy_X2_copy rfl rfl rfl (by decide +kernel) ⟨Nat.le_of_ble_eq_true rfl, Nat.le_of_ble_eq_true rfl⟩) ⟨fun a U g mk q => by obtain ⟨q0, q1, qP, qK, qD⟩ := q; exact ⟨q0, q1, qP, va_K.moved (u := U) (U := U.calling g mk a) (Vm.Alike.refl U.vm) qK, qD⟩, va_recv hKc hPc (ci := 2) (q0 := 0) rfl rfl, fun U hU hW => ⟨rfl, by rw [hU], by rw [hU]; exact hPc, va_K.moved hW.alike hKc, hDc.weaken (fun _ _ _ _ => trivial)⟩⟩ rfl rfl hl.1 rfl (lv_room (Nat.le_of_ble_eq_true rfl)) dX6_copy_39 ⟨Nat.le_of_ble_eq_true rfl, Nat.le_of_ble_eq_true rfl⟩) hS (fun q _ h => hFc q h) hFc (fun u t H1 locs ht hvm hw hB hz1 hk1 hS => ?_)
  obtain ⟨f_1, hP1, hK1, hD1⟩ := hB
  rw [ht] at hP1
  have hK1 := va_K.moved hvm.symm hK1
  obtain ⟨hP, hD⟩ := va_join (wr := [(h0, .inr (6, [.ref te, .ref ta, .ref lo, .ref su, .ref pt, .int 0, .int ti, .long 0, .int (-1), .int (-1)])), (h1, .inr (6, [.ref te1, .ref ta1, .ref lo1, .ref su1, .ref pt1, .int 0, .int ti1, .long 0, .int (-1), .int (-1)]))]) (w1 := [(lo, .inr (2, [.ref r0])), (r0, .inl (c0, 128, .inr (.inl f_1))), (lo1, .inr (2, [.ref r1])), (r1, .inl (c1, 128, .inr (.inl f1)))]) hP hD [2, 3, 4, 5] [0, 1] rfl rfl (by decide) (by decide) hk1 hFc hP1 hD1
  generalize H1 = H at hP hS ⊢
  have hP : va_P (dC, dI) vwCl [(h0, .inr (6, [.ref te, .ref ta, .ref lo, .ref su, .ref pt, .int 0, .int ti, .long 0, .int (-1), .int (-1)])), (h1, .inr (6, [.ref te1, .ref ta1, .ref lo1, .ref su1, .ref pt1, .int 0, .int ti1, .long 0, .int (-1), .int (-1)])), (lo, .inr (2, [.ref r0])), (r0, .inl (c0, 128, .inr (.inl f_1))), (lo1, .inr (2, [.ref r1])), (r1, .inl (c1, 128, .inr (.inl f1)))] H := hP
  have hD : va_D A [(h0, .inr (6, [.ref te, .ref ta, .ref lo, .ref su, .ref pt, .int 0, .int ti, .long 0, .int (-1), .int (-1)])), (h1, .inr (6, [.ref te1, .ref ta1, .ref lo1, .ref su1, .ref pt1, .int 0, .int ti1, .long 0, .int (-1), .int (-1)])), (lo, .inr (2, [.ref r0])), (r0, .inl (c0, 128, .inr (.inl f_1))), (lo1, .inr (2, [.ref r1])), (r1, .inl (c1, 128, .inr (.inl f1)))] := hD
  refine W.widen (k := 0) (n := 0) (Nat.le_of_ble_eq_true rfl) (Nat.le_of_ble_eq_true rfl) ?_
  refine lv_aload_n hx hb dX6_copy_42 rfl (lv_at hl 1 rfl) ?_
  refine lv_aload_n hx hb dX6_copy_43 rfl (lv_at hl 2 rfl) ?_
  refine va_get (D := (dC, dI)) (ci := 6) (v := .int 0) (C := RX6) (T := TX6) (N := 10) hx hb hts iw_X6_copy_X6 hown hK hP 1 rfl rfl 5 (by decide) (hts (.fieldLink RX6 48 "DeadlineShare$State" "count" "I") (by decide +kernel)) (fun _ h9 => h9) rfl dX6_copy_44 ?_
  refine va_put (D := (dC, dI)) (ci := 6) (v := .int 0) (ty := .int) (C := RX6) (T := TX6) (N := 10) hx hb hts iw_X6_copy_X6 tyX6 tyX6_ok nmX6 hown hK hP hD hS 0 rfl rfl 5 (by decide) (hts (.fieldLink RX6 48 "DeadlineShare$State" "count" "I") (by decide +kernel)) (fun _ h9 => h9) rfl (by decide +kernel) rfl rfl (Nat.le_of_ble_eq_true rfl) dX6_copy_47 (fun H locs hP hD hS => ?_)
  have hP : va_P (dC, dI) vwCl [(h0, .inr (6, [.ref te, .ref ta, .ref lo, .ref su, .ref pt, .int 0, .int ti, .long 0, .int (-1), .int (-1)])), (h1, .inr (6, [.ref te1, .ref ta1, .ref lo1, .ref su1, .ref pt1, .int 0, .int ti1, .long 0, .int (-1), .int (-1)])), (lo, .inr (2, [.ref r0])), (r0, .inl (c0, 128, .inr (.inl f_1))), (lo1, .inr (2, [.ref r1])), (r1, .inl (c1, 128, .inr (.inl f1)))] H := hP
  have hD : va_D A [(h0, .inr (6, [.ref te, .ref ta, .ref lo, .ref su, .ref pt, .int 0, .int ti, .long 0, .int (-1), .int (-1)])), (h1, .inr (6, [.ref te1, .ref ta1, .ref lo1, .ref su1, .ref pt1, .int 0, .int ti1, .long 0, .int (-1), .int (-1)])), (lo, .inr (2, [.ref r0])), (r0, .inl (c0, 128, .inr (.inl f_1))), (lo1, .inr (2, [.ref r1])), (r1, .inl (c1, 128, .inr (.inl f1)))] := hD
  refine lv_aload_n hx hb dX6_copy_50 rfl (lv_at hl 1 rfl) ?_
  refine lv_aload_n hx hb dX6_copy_51 rfl (lv_at hl 2 rfl) ?_
  refine va_get (D := (dC, dI)) (ci := 6) (v := .int ti1) (C := RX6) (T := TX6) (N := 10) hx hb hts iw_X6_copy_X6 hown hK hP 1 rfl rfl 6 (by decide) (hts (.fieldLink RX6 58 "DeadlineShare$State" "time" "I") (by decide +kernel)) (fun _ h9 => h9) rfl dX6_copy_52 ?_
  refine va_put (D := (dC, dI)) (ci := 6) (v := .int ti1) (ty := .int) (C := RX6) (T := TX6) (N := 10) hx hb hts iw_X6_copy_X6 tyX6 tyX6_ok nmX6 hown hK hP hD hS 0 rfl rfl 6 (by decide) (hts (.fieldLink RX6 58 "DeadlineShare$State" "time" "I") (by decide +kernel)) (fun _ h9 => h9) rfl (by decide +kernel) rfl rfl (Nat.le_of_ble_eq_true rfl) dX6_copy_55 (fun H locs hP hD hS => ?_)
  have hP : va_P (dC, dI) vwCl [(h0, .inr (6, [.ref te, .ref ta, .ref lo, .ref su, .ref pt, .int 0, .int ti1, .long 0, .int (-1), .int (-1)])), (h1, .inr (6, [.ref te1, .ref ta1, .ref lo1, .ref su1, .ref pt1, .int 0, .int ti1, .long 0, .int (-1), .int (-1)])), (lo, .inr (2, [.ref r0])), (r0, .inl (c0, 128, .inr (.inl f_1))), (lo1, .inr (2, [.ref r1])), (r1, .inl (c1, 128, .inr (.inl f1)))] H := hP
  have hD : va_D A [(h0, .inr (6, [.ref te, .ref ta, .ref lo, .ref su, .ref pt, .int 0, .int ti1, .long 0, .int (-1), .int (-1)])), (h1, .inr (6, [.ref te1, .ref ta1, .ref lo1, .ref su1, .ref pt1, .int 0, .int ti1, .long 0, .int (-1), .int (-1)])), (lo, .inr (2, [.ref r0])), (r0, .inl (c0, 128, .inr (.inl f_1))), (lo1, .inr (2, [.ref r1])), (r1, .inl (c1, 128, .inr (.inl f1)))] := hD
  refine lv_aload_n hx hb dX6_copy_58 rfl (lv_at hl 1 rfl) ?_
  refine lv_aload_n hx hb dX6_copy_59 rfl (lv_at hl 2 rfl) ?_
  refine va_get (D := (dC, dI)) (ci := 6) (v := .long 0) (C := RX6) (T := TX6) (N := 10) hx hb hts iw_X6_copy_X6 hown hK hP 1 rfl rfl 7 (by decide) (hts (.fieldLink RX6 61 "DeadlineShare$State" "rest" "J") (by decide +kernel)) (fun _ h9 => h9) rfl dX6_copy_60 ?_
  refine va_put (D := (dC, dI)) (ci := 6) (v := .long 0) (ty := .long) (C := RX6) (T := TX6) (N := 10) hx hb hts iw_X6_copy_X6 tyX6 tyX6_ok nmX6 hown hK hP hD hS 0 rfl rfl 7 (by decide) (hts (.fieldLink RX6 61 "DeadlineShare$State" "rest" "J") (by decide +kernel)) (fun _ h9 => h9) rfl (by decide +kernel) rfl rfl (Nat.le_of_ble_eq_true rfl) dX6_copy_63 (fun H locs hP hD hS => ?_)
  have hP : va_P (dC, dI) vwCl [(h0, .inr (6, [.ref te, .ref ta, .ref lo, .ref su, .ref pt, .int 0, .int ti1, .long 0, .int (-1), .int (-1)])), (h1, .inr (6, [.ref te1, .ref ta1, .ref lo1, .ref su1, .ref pt1, .int 0, .int ti1, .long 0, .int (-1), .int (-1)])), (lo, .inr (2, [.ref r0])), (r0, .inl (c0, 128, .inr (.inl f_1))), (lo1, .inr (2, [.ref r1])), (r1, .inl (c1, 128, .inr (.inl f1)))] H := hP
  have hD : va_D A [(h0, .inr (6, [.ref te, .ref ta, .ref lo, .ref su, .ref pt, .int 0, .int ti1, .long 0, .int (-1), .int (-1)])), (h1, .inr (6, [.ref te1, .ref ta1, .ref lo1, .ref su1, .ref pt1, .int 0, .int ti1, .long 0, .int (-1), .int (-1)])), (lo, .inr (2, [.ref r0])), (r0, .inl (c0, 128, .inr (.inl f_1))), (lo1, .inr (2, [.ref r1])), (r1, .inl (c1, 128, .inr (.inl f1)))] := hD
  refine lv_aload_n hx hb dX6_copy_66 rfl (lv_at hl 1 rfl) ?_
  refine lv_aload_n hx hb dX6_copy_67 rfl (lv_at hl 2 rfl) ?_
  refine va_get (D := (dC, dI)) (ci := 6) (v := .int (-1)) (C := RX6) (T := TX6) (N := 10) hx hb hts iw_X6_copy_X6 hown hK hP 1 rfl rfl 8 (by decide) (hts (.fieldLink RX6 34 "DeadlineShare$State" "last" "I") (by decide +kernel)) (fun _ h9 => h9) rfl dX6_copy_68 ?_
  refine va_put (D := (dC, dI)) (ci := 6) (v := .int (-1)) (ty := .int) (C := RX6) (T := TX6) (N := 10) hx hb hts iw_X6_copy_X6 tyX6 tyX6_ok nmX6 hown hK hP hD hS 0 rfl rfl 8 (by decide) (hts (.fieldLink RX6 34 "DeadlineShare$State" "last" "I") (by decide +kernel)) (fun _ h9 => h9) rfl (by decide +kernel) rfl rfl (Nat.le_of_ble_eq_true rfl) dX6_copy_71 (fun H locs hP hD hS => ?_)
  have hP : va_P (dC, dI) vwCl [(h0, .inr (6, [.ref te, .ref ta, .ref lo, .ref su, .ref pt, .int 0, .int ti1, .long 0, .int (-1), .int (-1)])), (h1, .inr (6, [.ref te1, .ref ta1, .ref lo1, .ref su1, .ref pt1, .int 0, .int ti1, .long 0, .int (-1), .int (-1)])), (lo, .inr (2, [.ref r0])), (r0, .inl (c0, 128, .inr (.inl f_1))), (lo1, .inr (2, [.ref r1])), (r1, .inl (c1, 128, .inr (.inl f1)))] H := hP
  have hD : va_D A [(h0, .inr (6, [.ref te, .ref ta, .ref lo, .ref su, .ref pt, .int 0, .int ti1, .long 0, .int (-1), .int (-1)])), (h1, .inr (6, [.ref te1, .ref ta1, .ref lo1, .ref su1, .ref pt1, .int 0, .int ti1, .long 0, .int (-1), .int (-1)])), (lo, .inr (2, [.ref r0])), (r0, .inl (c0, 128, .inr (.inl f_1))), (lo1, .inr (2, [.ref r1])), (r1, .inl (c1, 128, .inr (.inl f1)))] := hD
  refine lv_aload_n hx hb dX6_copy_74 rfl (lv_at hl 1 rfl) ?_
  refine lv_aload_n hx hb dX6_copy_75 rfl (lv_at hl 2 rfl) ?_
  refine va_get (D := (dC, dI)) (ci := 6) (v := .int (-1)) (C := RX6) (T := TX6) (N := 10) hx hb hts iw_X6_copy_X6 hown hK hP 1 rfl rfl 9 (by decide) (hts (.fieldLink RX6 38 "DeadlineShare$State" "holder" "I") (by decide +kernel)) (fun _ h9 => h9) rfl dX6_copy_76 ?_
  refine va_put (D := (dC, dI)) (ci := 6) (v := .int (-1)) (ty := .int) (C := RX6) (T := TX6) (N := 10) hx hb hts iw_X6_copy_X6 tyX6 tyX6_ok nmX6 hown hK hP hD hS 0 rfl rfl 9 (by decide) (hts (.fieldLink RX6 38 "DeadlineShare$State" "holder" "I") (by decide +kernel)) (fun _ h9 => h9) rfl (by decide +kernel) rfl rfl (Nat.le_of_ble_eq_true rfl) dX6_copy_79 (fun H locs hP hD hS => ?_)
  have hP : va_P (dC, dI) vwCl [(h0, .inr (6, [.ref te, .ref ta, .ref lo, .ref su, .ref pt, .int 0, .int ti1, .long 0, .int (-1), .int (-1)])), (h1, .inr (6, [.ref te1, .ref ta1, .ref lo1, .ref su1, .ref pt1, .int 0, .int ti1, .long 0, .int (-1), .int (-1)])), (lo, .inr (2, [.ref r0])), (r0, .inl (c0, 128, .inr (.inl f_1))), (lo1, .inr (2, [.ref r1])), (r1, .inl (c1, 128, .inr (.inl f1)))] H := hP
  have hD : va_D A [(h0, .inr (6, [.ref te, .ref ta, .ref lo, .ref su, .ref pt, .int 0, .int ti1, .long 0, .int (-1), .int (-1)])), (h1, .inr (6, [.ref te1, .ref ta1, .ref lo1, .ref su1, .ref pt1, .int 0, .int ti1, .long 0, .int (-1), .int (-1)])), (lo, .inr (2, [.ref r0])), (r0, .inl (c0, 128, .inr (.inl f_1))), (lo1, .inr (2, [.ref r1])), (r1, .inl (c1, 128, .inr (.inl f1)))] := hD
  have hP9 := hP.sub (ws' := [(h0, .inr (6, [.ref te, .ref ta, .ref lo, .ref su, .ref pt, .int 0, .int ti1, .long 0, .int (-1), .int (-1)])), (h1, .inr (6, [.ref te1, .ref ta1, .ref lo1, .ref su1, .ref pt1, .int 0, .int ti1, .long 0, .int (-1), .int (-1)])), (lo, .inr (2, [.ref r0])), (r0, .inl (c0, 128, .inr (.inl f_1))), (lo1, .inr (2, [.ref r1])), (r1, .inl (c1, 128, .inr (.inl f1)))]) [0, 1, 2, 3, 4, 5] rfl
  have hD9 := hD.sub (ws' := [(h0, .inr (6, [.ref te, .ref ta, .ref lo, .ref su, .ref pt, .int 0, .int ti1, .long 0, .int (-1), .int (-1)])), (h1, .inr (6, [.ref te1, .ref ta1, .ref lo1, .ref su1, .ref pt1, .int 0, .int ti1, .long 0, .int (-1), .int (-1)])), (lo, .inr (2, [.ref r0])), (r0, .inl (c0, 128, .inr (.inl f_1))), (lo1, .inr (2, [.ref r1])), (r1, .inl (c1, 128, .inr (.inl f1)))]) [0, 1, 2, 3, 4, 5] (by decide) rfl
  have hK9 := hK.sub (tys' := [(c0, .long), (c1, .long)]) [0, 1] rfl
  refine W.widen (k := 0) (n := 0) (Nat.le_of_ble_eq_true rfl) (Nat.le_of_ble_eq_true rfl) ?_
  exact W.vret hx hb hr (fun t ht hW => ⟨⟨(), rfl, trivial, f_1, by rw [ht]; exact hP9, va_K.moved hW.alike hK9, hD9⟩, hS.F ht⟩) hS.2.2 dX6_copy_82
theorem iw_X1_keep_X1 : ∀ w ∈ u_ws RX1 TX1 4, w ∈ wsX1_keep := by decide +kernel
set_option maxHeartbeats 4000000 in
set_option maxRecDepth 100000 in
theorem c_X1_keep (l : Launch) (dC : Nat → ClassId) (dI : Nat → Nat → Nat) (h9 : Nat) (h1 : Nat) (act : Int32) (hbf : Nat) (hac : Nat) (cs2 : ClassId) (fb : Nat → Option Nat) (ci1 : ClassId) (h0 : Nat) (te : Nat) (ta : Nat) (lo : Nat) (su : Nat) (pt : Nat) (ti : Int32) (te1 : Nat) (ta1 : Nat) (lo1 : Nat) (su1 : Nat) (pt1 : Nat) (ti1 : Int32) (r0 : Nat) (c0 : ClassId) (f0 : Nat → Int64) (r1 : Nat) (c1 : ClassId) (f1 : Nat → Int64) (sz : Nat) (hfb : fb 0 = some h0) : Met l yX1_keep wsX1_keep ({ frames := 3, cells := 0, slots := 0, locals := 83 } : Room) (va_Pc [.ref h9, .ref h1, .int act] (fun U => U.heap.size = sz ∧ va_P (dC, dI) vwCl [(h9, .inr (1, [.ref hbf, .ref hac, .int 0, .int 0])), (hbf, .inl (cs2, 10, .inr (.inr (.inr (.inr fb))))), (hac, .inl (ci1, 10, .inl (fun _ => 0))), (h0, .inr (6, [.ref te, .ref ta, .ref lo, .ref su, .ref pt, .int 0, .int ti, .long 0, .int (-1), .int (-1)])), (h1, .inr (6, [.ref te1, .ref ta1, .ref lo1, .ref su1, .ref pt1, .int 0, .int ti1, .long 0, .int (-1), .int (-1)])), (lo, .inr (2, [.ref r0])), (r0, .inl (c0, 128, .inr (.inl f0))), (lo1, .inr (2, [.ref r1])), (r1, .inl (c1, 128, .inr (.inl f1)))] U.heap ∧ va_K (dC, dI) vwCl [(cs2, .object "DeadlineShare$State"), (ci1, .int), (c0, .long), (c1, .long)] U ∧ va_D (fun _ => True) [(h9, .inr (1, [.ref hbf, .ref hac, .int 0, .int 0])), (hbf, .inl (cs2, 10, .inr (.inr (.inr (.inr fb))))), (hac, .inl (ci1, 10, .inl (fun _ => 0))), (h0, .inr (6, [.ref te, .ref ta, .ref lo, .ref su, .ref pt, .int 0, .int ti, .long 0, .int (-1), .int (-1)])), (h1, .inr (6, [.ref te1, .ref ta1, .ref lo1, .ref su1, .ref pt1, .int 0, .int ti1, .long 0, .int (-1), .int (-1)])), (lo, .inr (2, [.ref r0])), (r0, .inl (c0, 128, .inr (.inl f0))), (lo1, .inr (2, [.ref r1])), (r1, .inl (c1, 128, .inr (.inl f1)))])) (va_Qv (fun (_ : Unit) => True) (fun (_ : Unit) t => va_P (dC, dI) vwCl [(h1, .inr (6, [.ref te1, .ref ta1, .ref lo1, .ref su1, .ref pt1, .int 0, .int ti1, .long 0, .int (-1), .int (-1)])), (lo1, .inr (2, [.ref r1])), (r1, .inl (c1, 128, .inr (.inl f1)))] t.heap ∧ va_K (dC, dI) vwCl [(c1, .long)] t ∧ va_D (va_A [(h9, .inr (1, [.ref hbf, .ref hac, .int 0, .int 0])), (hbf, .inl (cs2, 10, .inr (.inr (.inr (.inr fb))))), (hac, .inl (ci1, 10, .inl (fun _ => 0))), (h0, .inr (6, [.ref te, .ref ta, .ref lo, .ref su, .ref pt, .int 0, .int ti, .long 0, .int (-1), .int (-1)])), (h1, .inr (6, [.ref te1, .ref ta1, .ref lo1, .ref su1, .ref pt1, .int 0, .int ti1, .long 0, .int (-1), .int (-1)])), (lo, .inr (2, [.ref r0])), (r0, .inl (c0, 128, .inr (.inl f0))), (lo1, .inr (2, [.ref r1])), (r1, .inl (c1, 128, .inr (.inl f1)))] sz) [(h1, .inr (6, [.ref te1, .ref ta1, .ref lo1, .ref su1, .ref pt1, .int 0, .int ti1, .long 0, .int (-1), .int (-1)])), (lo1, .inr (2, [.ref r1])), (r1, .inl (c1, 128, .inr (.inl f1)))]) (va_A [(h9, .inr (1, [.ref hbf, .ref hac, .int 0, .int 0])), (hbf, .inl (cs2, 10, .inr (.inr (.inr (.inr fb))))), (hac, .inl (ci1, 10, .inl (fun _ => 0))), (h0, .inr (6, [.ref te, .ref ta, .ref lo, .ref su, .ref pt, .int 0, .int ti, .long 0, .int (-1), .int (-1)])), (h1, .inr (6, [.ref te1, .ref ta1, .ref lo1, .ref su1, .ref pt1, .int 0, .int ti1, .long 0, .int (-1), .int (-1)])), (lo, .inr (2, [.ref r0])), (r0, .inl (c0, 128, .inr (.inl f0))), (lo1, .inr (2, [.ref r1])), (r1, .inl (c1, 128, .inr (.inl f1)))] sz)) 0 0 (va_A [(h9, .inr (1, [.ref hbf, .ref hac, .int 0, .int 0])), (hbf, .inl (cs2, 10, .inr (.inr (.inr (.inr fb))))), (hac, .inl (ci1, 10, .inl (fun _ => 0))), (h0, .inr (6, [.ref te, .ref ta, .ref lo, .ref su, .ref pt, .int 0, .int ti, .long 0, .int (-1), .int (-1)])), (h1, .inr (6, [.ref te1, .ref ta1, .ref lo1, .ref su1, .ref pt1, .int 0, .int ti1, .long 0, .int (-1), .int (-1)])), (lo, .inr (2, [.ref r0])), (r0, .inl (c0, 128, .inr (.inl f0))), (lo1, .inr (2, [.ref r1])), (r1, .inl (c1, 128, .inr (.inl f1)))] sz) := by
  refine Met.ofW (cc := cX1_keep) (maxL := 3) (ret := none) (by decide) rfl ?_
  intro p e s m args below meth c s₁ B hml hv
  obtain ⟨rfl, hsz, hP, hK, hD0⟩ := hv
  have hx := B.exec
  have hb := B.bytes
  have hr := B.returns
  have hts := atoms_spec (ws := wsX1_keep) B.pre
  have hown : s.vm.findClass RX1 = some m.cls := findClass_of_methodNamed B.named
  have hlocks := B.notSynchronized
  subst hsz
  have hD := hD0.self (sz := s.heap.size)
  obtain ⟨A, hAe⟩ : ∃ A, A = va_A [(h9, .inr (1, [.ref hbf, .ref hac, .int 0, .int 0])), (hbf, .inl (cs2, 10, .inr (.inr (.inr (.inr fb))))), (hac, .inl (ci1, 10, .inl (fun _ => 0))), (h0, .inr (6, [.ref te, .ref ta, .ref lo, .ref su, .ref pt, .int 0, .int ti, .long 0, .int (-1), .int (-1)])), (h1, .inr (6, [.ref te1, .ref ta1, .ref lo1, .ref su1, .ref pt1, .int 0, .int ti1, .long 0, .int (-1), .int (-1)])), (lo, .inr (2, [.ref r0])), (r0, .inl (c0, 128, .inr (.inl f0))), (lo1, .inr (2, [.ref r1])), (r1, .inl (c1, 128, .inr (.inl f1)))] s.heap.size := ⟨_, rfl⟩
  rw [← hAe] at hD ⊢
  have hA : ∀ q : Nat, s.heap.size ≤ q → A q := fun q h => by rw [hAe]; exact Or.inr h
  have hS : va_S A s.heap s.heap [] := va_S.rf
  have hP : va_P (dC, dI) vwCl [(h9, .inr (1, [.ref hbf, .ref hac, .int 0, .int 0])), (hbf, .inl (cs2, 10, .inr (.inr (.inr (.inr fb))))), (hac, .inl (ci1, 10, .inl (fun _ => 0))), (h0, .inr (6, [.ref te, .ref ta, .ref lo, .ref su, .ref pt, .int 0, .int ti, .long 0, .int (-1), .int (-1)])), (h1, .inr (6, [.ref te1, .ref ta1, .ref lo1, .ref su1, .ref pt1, .int 0, .int ti1, .long 0, .int (-1), .int (-1)])), (lo, .inr (2, [.ref r0])), (r0, .inl (c0, 128, .inr (.inl f0))), (lo1, .inr (2, [.ref r1])), (r1, .inl (c1, 128, .inr (.inl f1)))] s.heap := hP
  have hl := lv_entry ([.ref h9, .ref h1, .int act]) (n := 3) (Nat.le_of_ble_eq_true rfl)
  rw [lg_entry_eq]
  generalize (lg_sl ([.ref h9, .ref h1, .int act]) ++ List.replicate (3 - (lg_sl ([.ref h9, .ref h1, .int act])).length) Slot.unset).toArray = ls at hl ⊢
  have hl : lv_has ls 3 [(0, .ref h9), (1, .ref h1), (2, .int act)] := hl
  refine lv_aload_n hx hb dX1_keep_0 rfl (lv_at hl 0 rfl) ?_
  refine va_get (D := (dC, dI)) (ci := 1) (v := .int 0) (C := RX1) (T := TX1) (N := 4) hx hb hts iw_X1_keep_X1 hown hK hP 0 rfl rfl 2 (by decide) (hts (.fieldLink RX1 24 "DeadlineShare$History" "next" "I") (by decide +kernel)) (fun _ h9 => h9) rfl dX1_keep_1 ?_
  refine lv_if_lt (tgt := 16) hx hb dX1_keep_4 (by decide) (fun c => absurd c (by decide)) (fun _ => ?_)
  refine lv_aload_n hx hb dX1_keep_7 rfl (lv_at hl 0 rfl) ?_
  refine va_get (D := (dC, dI)) (ci := 1) (v := .int 0) (C := RX1) (T := TX1) (N := 4) hx hb hts iw_X1_keep_X1 hown hK hP 0 rfl rfl 2 (by decide) (hts (.fieldLink RX1 24 "DeadlineShare$History" "next" "I") (by decide +kernel)) (fun _ h9 => h9) rfl dX1_keep_8 ?_
  refine lv_bipush (v := 10) hx hb dX1_keep_11 (by decide) ?_
  refine lv_icmp_lt (tgt := 17) hx hb dX1_keep_13 (by decide) (fun _ => ?_) (fun c => absurd (by decide) c)
  refine lv_aload_n hx hb dX1_keep_17 rfl (lv_at hl 0 rfl) ?_
  refine va_get (D := (dC, dI)) (ci := 1) (v := .ref hbf) (C := RX1) (T := TX1) (N := 4) hx hb hts iw_X1_keep_X1 hown hK hP 0 rfl rfl 0 (by decide) (hts (.fieldLink RX1 11 "DeadlineShare$History" "before" "[LDeadlineShare$State;") (by decide +kernel)) (fun _ h9 => h9) rfl dX1_keep_18 ?_
  refine lv_aload_n hx hb dX1_keep_21 rfl (lv_at hl 0 rfl) ?_
  refine va_get (D := (dC, dI)) (ci := 1) (v := .int 0) (C := RX1) (T := TX1) (N := 4) hx hb hts iw_X1_keep_X1 hown hK hP 0 rfl rfl 2 (by decide) (hts (.fieldLink RX1 24 "DeadlineShare$History" "next" "I") (by decide +kernel)) (fun _ h9 => h9) rfl dX1_keep_22 ?_
  refine va_aldq hx hb hK hP 1 0 rfl rfl (by unfold vp_in; decide) dX1_keep_25 ?_
  rw [show va_rf (fb (Int32.toNatClampNeg 0)) = .ref h0 from congrArg va_rf ((congrArg fb (show Int32.toNatClampNeg 0 = 0 by decide)).trans hfb)]
  refine lv_aload_n hx hb dX1_keep_26 rfl (lv_at hl 1 rfl) ?_
  have hPc := hP.sub (ws' := [(h0, .inr (6, [.ref te, .ref ta, .ref lo, .ref su, .ref pt, .int 0, .int ti, .long 0, .int (-1), .int (-1)])), (h1, .inr (6, [.ref te1, .ref ta1, .ref lo1, .ref su1, .ref pt1, .int 0, .int ti1, .long 0, .int (-1), .int (-1)])), (lo, .inr (2, [.ref r0])), (r0, .inl (c0, 128, .inr (.inl f0))), (lo1, .inr (2, [.ref r1])), (r1, .inl (c1, 128, .inr (.inl f1)))]) [3, 4, 5, 6, 7, 8] rfl
  have hDc := hD.sub (ws' := [(h0, .inr (6, [.ref te, .ref ta, .ref lo, .ref su, .ref pt, .int 0, .int ti, .long 0, .int (-1), .int (-1)])), (h1, .inr (6, [.ref te1, .ref ta1, .ref lo1, .ref su1, .ref pt1, .int 0, .int ti1, .long 0, .int (-1), .int (-1)])), (lo, .inr (2, [.ref r0])), (r0, .inl (c0, 128, .inr (.inl f0))), (lo1, .inr (2, [.ref r1])), (r1, .inl (c1, 128, .inr (.inl f1)))]) [3, 4, 5, 6, 7, 8] (by decide) rfl
  have hKc := hK.sub (tys' := [(c0, .long), (c1, .long)]) [2, 3] rfl
  have hFc := va_free (wc := [(h0, .inr (6, [.ref te, .ref ta, .ref lo, .ref su, .ref pt, .int 0, .int ti, .long 0, .int (-1), .int (-1)])), (h1, .inr (6, [.ref te1, .ref ta1, .ref lo1, .ref su1, .ref pt1, .int 0, .int ti1, .long 0, .int (-1), .int (-1)])), (lo, .inr (2, [.ref r0])), (r0, .inl (c0, 128, .inr (.inl f0))), (lo1, .inr (2, [.ref r1])), (r1, .inl (c1, 128, .inr (.inl f1)))]) hD hS hA [3, 4, 5, 6, 7, 8] rfl
  refine va_callv (va_runV (As := [.ref h1]) (rest := []) ⟨hx, hb, hml, hown, hts⟩ (c_X6_copy l dC dI h0 h1 te ta lo su pt ti te1 ta1 lo1 su1 pt1 ti1 r0 c0 f0 r1 c1 f1 s.heap.size) (cwV 1 hts gX1_keep_X6_copy rfl rfl rfl (by decide +kernel) ⟨Nat.le_of_ble_eq_true rfl, Nat.le_of_ble_eq_true rfl⟩) ⟨fun a U g mk q => by obtain ⟨q0, q1, qP, qK, qD⟩ := q; exact ⟨q0, q1, qP, va_K.moved (u := U) (U := U.calling g mk a) (Vm.Alike.refl U.vm) qK, qD⟩, va_recv hKc hPc (ci := 6) (q0 := 0) rfl rfl, fun U hU hW => ⟨rfl, by rw [hU], by rw [hU]; exact hPc, va_K.moved hW.alike hKc, hDc.weaken (fun _ _ _ _ => trivial)⟩⟩ rfl rfl hl.1 rfl (lv_room (Nat.le_of_ble_eq_true rfl)) dX1_keep_27 ⟨Nat.le_of_ble_eq_true rfl, Nat.le_of_ble_eq_true rfl⟩) hS (fun q _ h => hFc q h) hFc (fun u t H1 locs ht hvm hw hB hz1 hk1 hS => ?_)
  obtain ⟨f_1, hP1, hK1, hD1⟩ := hB
  rw [ht] at hP1
  have hK1 := va_K.moved hvm.symm hK1
  obtain ⟨hP, hD⟩ := va_join (wr := [(h9, .inr (1, [.ref hbf, .ref hac, .int 0, .int 0])), (hbf, .inl (cs2, 10, .inr (.inr (.inr (.inr fb))))), (hac, .inl (ci1, 10, .inl (fun _ => 0)))]) (w1 := [(h0, .inr (6, [.ref te, .ref ta, .ref lo, .ref su, .ref pt, .int 0, .int ti1, .long 0, .int (-1), .int (-1)])), (h1, .inr (6, [.ref te1, .ref ta1, .ref lo1, .ref su1, .ref pt1, .int 0, .int ti1, .long 0, .int (-1), .int (-1)])), (lo, .inr (2, [.ref r0])), (r0, .inl (c0, 128, .inr (.inl f_1))), (lo1, .inr (2, [.ref r1])), (r1, .inl (c1, 128, .inr (.inl f1)))]) hP hD [3, 4, 5, 6, 7, 8] [0, 1, 2] rfl rfl (by decide) (by decide) hk1 hFc hP1 hD1
  generalize H1 = H at hP hS ⊢
  have hP : va_P (dC, dI) vwCl [(h9, .inr (1, [.ref hbf, .ref hac, .int 0, .int 0])), (hbf, .inl (cs2, 10, .inr (.inr (.inr (.inr fb))))), (hac, .inl (ci1, 10, .inl (fun _ => 0))), (h0, .inr (6, [.ref te, .ref ta, .ref lo, .ref su, .ref pt, .int 0, .int ti1, .long 0, .int (-1), .int (-1)])), (h1, .inr (6, [.ref te1, .ref ta1, .ref lo1, .ref su1, .ref pt1, .int 0, .int ti1, .long 0, .int (-1), .int (-1)])), (lo, .inr (2, [.ref r0])), (r0, .inl (c0, 128, .inr (.inl f_1))), (lo1, .inr (2, [.ref r1])), (r1, .inl (c1, 128, .inr (.inl f1)))] H := hP
  have hD : va_D A [(h9, .inr (1, [.ref hbf, .ref hac, .int 0, .int 0])), (hbf, .inl (cs2, 10, .inr (.inr (.inr (.inr fb))))), (hac, .inl (ci1, 10, .inl (fun _ => 0))), (h0, .inr (6, [.ref te, .ref ta, .ref lo, .ref su, .ref pt, .int 0, .int ti1, .long 0, .int (-1), .int (-1)])), (h1, .inr (6, [.ref te1, .ref ta1, .ref lo1, .ref su1, .ref pt1, .int 0, .int ti1, .long 0, .int (-1), .int (-1)])), (lo, .inr (2, [.ref r0])), (r0, .inl (c0, 128, .inr (.inl f_1))), (lo1, .inr (2, [.ref r1])), (r1, .inl (c1, 128, .inr (.inl f1)))] := hD
  refine W.widen (k := 0) (n := 0) (Nat.le_of_ble_eq_true rfl) (Nat.le_of_ble_eq_true rfl) ?_
  refine lv_aload_n hx hb dX1_keep_30 rfl (lv_at hl 0 rfl) ?_
  refine va_get (D := (dC, dI)) (ci := 1) (v := .ref hac) (C := RX1) (T := TX1) (N := 4) hx hb hts iw_X1_keep_X1 hown hK hP 0 rfl rfl 1 (by decide) (hts (.fieldLink RX1 17 "DeadlineShare$History" "acts" "[I") (by decide +kernel)) (fun _ h9 => h9) rfl dX1_keep_31 ?_
  refine lv_aload_n hx hb dX1_keep_34 rfl (lv_at hl 0 rfl) ?_
  refine va_get (D := (dC, dI)) (ci := 1) (v := .int 0) (C := RX1) (T := TX1) (N := 4) hx hb hts iw_X1_keep_X1 hown hK hP 0 rfl rfl 2 (by decide) (hts (.fieldLink RX1 24 "DeadlineShare$History" "next" "I") (by decide +kernel)) (fun _ h9 => h9) rfl dX1_keep_35 ?_
  refine lv_iload_n hx hb dX1_keep_38 rfl (lv_at hl 2 rfl) ?_
  refine va_iast hx hb hK hP hD hS 2 1 rfl rfl (by unfold vp_in; decide) dX1_keep_39 (fun H locs hP hD hS => ?_)
  have hP : va_P (dC, dI) vwCl [(h9, .inr (1, [.ref hbf, .ref hac, .int 0, .int 0])), (hbf, .inl (cs2, 10, .inr (.inr (.inr (.inr fb))))), (hac, .inl (ci1, 10, .inl (upd (fun _ => 0) (Int32.toNatClampNeg 0) act))), (h0, .inr (6, [.ref te, .ref ta, .ref lo, .ref su, .ref pt, .int 0, .int ti1, .long 0, .int (-1), .int (-1)])), (h1, .inr (6, [.ref te1, .ref ta1, .ref lo1, .ref su1, .ref pt1, .int 0, .int ti1, .long 0, .int (-1), .int (-1)])), (lo, .inr (2, [.ref r0])), (r0, .inl (c0, 128, .inr (.inl f_1))), (lo1, .inr (2, [.ref r1])), (r1, .inl (c1, 128, .inr (.inl f1)))] H := hP
  have hD : va_D A [(h9, .inr (1, [.ref hbf, .ref hac, .int 0, .int 0])), (hbf, .inl (cs2, 10, .inr (.inr (.inr (.inr fb))))), (hac, .inl (ci1, 10, .inl (upd (fun _ => 0) (Int32.toNatClampNeg 0) act))), (h0, .inr (6, [.ref te, .ref ta, .ref lo, .ref su, .ref pt, .int 0, .int ti1, .long 0, .int (-1), .int (-1)])), (h1, .inr (6, [.ref te1, .ref ta1, .ref lo1, .ref su1, .ref pt1, .int 0, .int ti1, .long 0, .int (-1), .int (-1)])), (lo, .inr (2, [.ref r0])), (r0, .inl (c0, 128, .inr (.inl f_1))), (lo1, .inr (2, [.ref r1])), (r1, .inl (c1, 128, .inr (.inl f1)))] := hD
  generalize ef_2 : upd (fun _ => 0) (Int32.toNatClampNeg 0) act = f_2 at hP hD
  have k_3 : f_2 0 = act := by rw [← ef_2]; exact k_upI_eq (by decide)
  refine lv_aload_n hx hb dX1_keep_40 rfl (lv_at hl 0 rfl) ?_
  refine lv_aload_n hx hb dX1_keep_41 rfl (lv_at hl 0 rfl) ?_
  refine va_get (D := (dC, dI)) (ci := 1) (v := .int 0) (C := RX1) (T := TX1) (N := 4) hx hb hts iw_X1_keep_X1 hown hK hP 0 rfl rfl 2 (by decide) (hts (.fieldLink RX1 24 "DeadlineShare$History" "next" "I") (by decide +kernel)) (fun _ h9 => h9) rfl dX1_keep_42 ?_
  refine lv_iconst (v := 1) hx hb dX1_keep_45 (by decide) ?_
  refine lv_iadd hx hb dX1_keep_46 ?_
  refine k_topi (y := 1) (by decide) ?_
  refine lv_bipush (v := 10) hx hb dX1_keep_47 (by decide) ?_
  refine lv_irem hx hb dX1_keep_49 (by decide) ?_
  refine k_topi (y := 1) (by decide) ?_
  refine va_put (D := (dC, dI)) (ci := 1) (v := .int 1) (ty := .int) (C := RX1) (T := TX1) (N := 4) hx hb hts iw_X1_keep_X1 tyX1 tyX1_ok nmX1 hown hK hP hD hS 0 rfl rfl 2 (by decide) (hts (.fieldLink RX1 24 "DeadlineShare$History" "next" "I") (by decide +kernel)) (fun _ h9 => h9) rfl (by decide +kernel) rfl rfl (Nat.le_of_ble_eq_true rfl) dX1_keep_50 (fun H locs hP hD hS => ?_)
  have hP : va_P (dC, dI) vwCl [(h9, .inr (1, [.ref hbf, .ref hac, .int 1, .int 0])), (hbf, .inl (cs2, 10, .inr (.inr (.inr (.inr fb))))), (hac, .inl (ci1, 10, .inl f_2)), (h0, .inr (6, [.ref te, .ref ta, .ref lo, .ref su, .ref pt, .int 0, .int ti1, .long 0, .int (-1), .int (-1)])), (h1, .inr (6, [.ref te1, .ref ta1, .ref lo1, .ref su1, .ref pt1, .int 0, .int ti1, .long 0, .int (-1), .int (-1)])), (lo, .inr (2, [.ref r0])), (r0, .inl (c0, 128, .inr (.inl f_1))), (lo1, .inr (2, [.ref r1])), (r1, .inl (c1, 128, .inr (.inl f1)))] H := hP
  have hD : va_D A [(h9, .inr (1, [.ref hbf, .ref hac, .int 1, .int 0])), (hbf, .inl (cs2, 10, .inr (.inr (.inr (.inr fb))))), (hac, .inl (ci1, 10, .inl f_2)), (h0, .inr (6, [.ref te, .ref ta, .ref lo, .ref su, .ref pt, .int 0, .int ti1, .long 0, .int (-1), .int (-1)])), (h1, .inr (6, [.ref te1, .ref ta1, .ref lo1, .ref su1, .ref pt1, .int 0, .int ti1, .long 0, .int (-1), .int (-1)])), (lo, .inr (2, [.ref r0])), (r0, .inl (c0, 128, .inr (.inl f_1))), (lo1, .inr (2, [.ref r1])), (r1, .inl (c1, 128, .inr (.inl f1)))] := hD
  refine lv_aload_n hx hb dX1_keep_53 rfl (lv_at hl 0 rfl) ?_
  refine lv_bipush (v := 10) hx hb dX1_keep_54 (by decide) ?_
  refine lv_aload_n hx hb dX1_keep_56 rfl (lv_at hl 0 rfl) ?_
  refine va_get (D := (dC, dI)) (ci := 1) (v := .int 0) (C := RX1) (T := TX1) (N := 4) hx hb hts iw_X1_keep_X1 hown hK hP 0 rfl rfl 3 (by decide) (hts (.fieldLink RX1 32 "DeadlineShare$History" "size" "I") (by decide +kernel)) (fun _ h9 => h9) rfl dX1_keep_57 ?_
  refine lv_iconst (v := 1) hx hb dX1_keep_60 (by decide) ?_
  refine lv_iadd hx hb dX1_keep_61 ?_
  refine k_topi (y := 1) (by decide) ?_
  refine va_mmin hx hb (by rw [hml]; exact hl.1.symm) hown (hts (.methodLink RX1 35 Lib.Math.min.name) (by decide +kernel)) (hts (.static Lib.Math.min.name) (by decide +kernel)) (hts (.initialized "java/lang/Math") (by decide +kernel)) (hts (.code Lib.Math.min.name Lib.Math.min.code 2 (some .int)) (by decide +kernel)) (Nat.le_of_ble_eq_true rfl) (Nat.le_of_ble_eq_true rfl) (Nat.le_of_ble_eq_true rfl) (Nat.le_of_ble_eq_true rfl) dX1_keep_62 ?_
  refine k_topi (y := 1) (by decide) ?_
  refine va_put (D := (dC, dI)) (ci := 1) (v := .int 1) (ty := .int) (C := RX1) (T := TX1) (N := 4) hx hb hts iw_X1_keep_X1 tyX1 tyX1_ok nmX1 hown hK hP hD hS 0 rfl rfl 3 (by decide) (hts (.fieldLink RX1 32 "DeadlineShare$History" "size" "I") (by decide +kernel)) (fun _ h9 => h9) rfl (by decide +kernel) rfl rfl (Nat.le_of_ble_eq_true rfl) dX1_keep_65 (fun H locs hP hD hS => ?_)
  have hP : va_P (dC, dI) vwCl [(h9, .inr (1, [.ref hbf, .ref hac, .int 1, .int 1])), (hbf, .inl (cs2, 10, .inr (.inr (.inr (.inr fb))))), (hac, .inl (ci1, 10, .inl f_2)), (h0, .inr (6, [.ref te, .ref ta, .ref lo, .ref su, .ref pt, .int 0, .int ti1, .long 0, .int (-1), .int (-1)])), (h1, .inr (6, [.ref te1, .ref ta1, .ref lo1, .ref su1, .ref pt1, .int 0, .int ti1, .long 0, .int (-1), .int (-1)])), (lo, .inr (2, [.ref r0])), (r0, .inl (c0, 128, .inr (.inl f_1))), (lo1, .inr (2, [.ref r1])), (r1, .inl (c1, 128, .inr (.inl f1)))] H := hP
  have hD : va_D A [(h9, .inr (1, [.ref hbf, .ref hac, .int 1, .int 1])), (hbf, .inl (cs2, 10, .inr (.inr (.inr (.inr fb))))), (hac, .inl (ci1, 10, .inl f_2)), (h0, .inr (6, [.ref te, .ref ta, .ref lo, .ref su, .ref pt, .int 0, .int ti1, .long 0, .int (-1), .int (-1)])), (h1, .inr (6, [.ref te1, .ref ta1, .ref lo1, .ref su1, .ref pt1, .int 0, .int ti1, .long 0, .int (-1), .int (-1)])), (lo, .inr (2, [.ref r0])), (r0, .inl (c0, 128, .inr (.inl f_1))), (lo1, .inr (2, [.ref r1])), (r1, .inl (c1, 128, .inr (.inl f1)))] := hD
  have hP9 := hP.sub (ws' := [(h1, .inr (6, [.ref te1, .ref ta1, .ref lo1, .ref su1, .ref pt1, .int 0, .int ti1, .long 0, .int (-1), .int (-1)])), (lo1, .inr (2, [.ref r1])), (r1, .inl (c1, 128, .inr (.inl f1)))]) [4, 7, 8] rfl
  have hD9 := hD.sub (ws' := [(h1, .inr (6, [.ref te1, .ref ta1, .ref lo1, .ref su1, .ref pt1, .int 0, .int ti1, .long 0, .int (-1), .int (-1)])), (lo1, .inr (2, [.ref r1])), (r1, .inl (c1, 128, .inr (.inl f1)))]) [4, 7, 8] (by decide) rfl
  have hK9 := hK.sub (tys' := [(c1, .long)]) [3] rfl
  refine W.widen (k := 0) (n := 0) (Nat.le_of_ble_eq_true rfl) (Nat.le_of_ble_eq_true rfl) ?_
  exact W.vret hx hb hr (fun t ht hW => ⟨⟨(), rfl, trivial, by rw [ht]; exact hP9, va_K.moved hW.alike hK9, hD9⟩, hS.F ht⟩) hS.2.2 dX1_keep_68
