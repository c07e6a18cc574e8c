def ow_c_X10_set0 : List Cond := [.fieldLink RX10 9 "DeadlineShare$Wide" "high" "J", .constantLong RX10 13 (4294967295), .fieldLink RX10 15 "DeadlineShare$Wide" "low" "J"]
def wq_c_X10_set0 : List Cond := .code yX10_set cX10_set 3 none :: (ow_c_X10_set0 ++ (u_ws RX10 TX10 2 ++ ([] : List Cond)))
theorem tb_c_X10_set0 : ∀ w ∈ wq_c_X10_set0, q_g w := by
  unfold wq_c_X10_set0 ow_c_X10_set0
  exact q_cons tw_124 (q_app (q_cons tw_123 (q_cons tw_122 (q_cons tw_121 q_nil))) (q_app tu_X10 q_nil))
set_option maxHeartbeats 4000000 in
set_option maxRecDepth 100000 in
theorem c_X10_set0 (l : Launch) (dC : Nat → ClassId) (dI : Nat → Nat → Nat) (h0 : Nat) (sz : Nat) : Met l yX10_set wq_c_X10_set0 ({ frames := 0, cells := 0, slots := 0, locals := 0 } : Room) (va_Pc [.ref h0, .long 0] (fun U => U.heap.size = sz ∧ va_P (dC, dI) vwCl [(h0, .inr (10, [.long 0, .long 0]))] U.heap ∧ va_K (dC, dI) vwCl [] U ∧ va_D (fun _ => True) [(h0, .inr (10, [.long 0, .long 0]))])) (va_Qv (fun (_ : Unit) => True) (fun (_ : Unit) t => va_P (dC, dI) vwCl [(h0, .inr (10, [.long 0, .long 0]))] t.heap ∧ va_K (dC, dI) vwCl [] t ∧ va_D (va_A [(h0, .inr (10, [.long 0, .long 0]))] sz) [(h0, .inr (10, [.long 0, .long 0]))]) (va_A [(h0, .inr (10, [.long 0, .long 0]))] sz)) 0 0 (va_A [(h0, .inr (10, [.long 0, .long 0]))] sz) := by
  refine Met.ofW (cc := cX10_set) (maxL := 3) (ret := none) (by decide) rfl ?_
  intro p e s m args below meth c s₁ B hml hv
  obtain ⟨rfl, hsz, hP, hK, hD0⟩ := hv
  have hx := B.exec
  have hb := B.bytes
  have hr := B.returns
  have hts := atoms_spec (ws := wq_c_X10_set0) B.pre
  have hown : s.vm.findClass RX10 = some m.cls := findClass_of_methodNamed B.named
  have hlocks := B.notSynchronized
  subst hsz
  have hD := hD0.self (sz := s.heap.size)
  obtain ⟨A, hAe⟩ : ∃ A, A = va_A [(h0, .inr (10, [.long 0, .long 0]))] s.heap.size := ⟨_, rfl⟩
  rw [← hAe] at hD ⊢
  have hA : ∀ q : Nat, s.heap.size ≤ q → A q := fun q h => by rw [hAe]; exact Or.inr h
  have hS : va_S A s.heap s.heap [] := va_S.rf
  have hP : va_P (dC, dI) vwCl [(h0, .inr (10, [.long 0, .long 0]))] s.heap := hP
  have hl := lv_entry ([.ref h0, .long 0]) (n := 3) (Nat.le_of_ble_eq_true rfl)
  rw [lg_entry_eq]
  generalize (lg_sl ([.ref h0, .long 0]) ++ List.replicate (3 - (lg_sl ([.ref h0, .long 0])).length) Slot.unset).toArray = ls at hl ⊢
  have hl : lv_has ls 3 [(0, .ref h0), (1, .long 0)] := hl
  refine lv_aload_n hx hb dX10_set_0 rfl (lv_at hl 0 rfl) ?_
  refine lv_lload_n hx hb dX10_set_1 rfl (lv_at hl 1 rfl) ?_
  refine lv_bipush (v := 32) hx hb dX10_set_2 (by decide) ?_
  refine lv_lshr hx hb dX10_set_4 rfl ?_
  refine k_topl (y := 0) (by decide) ?_
  refine va_put (D := (dC, dI)) (ci := 10) (v := .long 0) (ty := .long) (C := RX10) (T := TX10) (N := 2) hx hb hts (fun _ h0_ => List.mem_cons_of_mem _ (List.mem_append_right _ (List.mem_append_left _ h0_))) tyX10 tyX10_ok nmX10 hown hK hP hD hS 0 rfl rfl 0 (by decide) (hts (.fieldLink RX10 9 "DeadlineShare$Wide" "high" "J") (List.mem_cons_of_mem _ (List.mem_append_left _ (List.mem_of_getElem? (i := 0) rfl)))) (fun _ h9 => h9) rfl (by decide +kernel) rfl rfl (Nat.le_of_ble_eq_true rfl) dX10_set_5 (fun H locs hP hD hS => ?_)
  have hP : va_P (dC, dI) vwCl [(h0, .inr (10, [.long 0, .long 0]))] H := hP
  have hD : va_D A [(h0, .inr (10, [.long 0, .long 0]))] := hD
  refine lv_aload_n hx hb dX10_set_8 rfl (lv_at hl 0 rfl) ?_
  refine lv_lload_n hx hb dX10_set_9 rfl (lv_at hl 1 rfl) ?_
  refine lv_ldc2 hx hb hown (hts (.constantLong RX10 13 (4294967295)) (List.mem_cons_of_mem _ (List.mem_append_left _ (List.mem_of_getElem? (i := 1) rfl)))) dX10_set_10 ?_
  refine lv_land hx hb dX10_set_13 ?_
  refine k_topl (y := 0) (by decide) ?_
  refine va_put (D := (dC, dI)) (ci := 10) (v := .long 0) (ty := .long) (C := RX10) (T := TX10) (N := 2) hx hb hts (fun _ h0_ => List.mem_cons_of_mem _ (List.mem_append_right _ (List.mem_append_left _ h0_))) tyX10 tyX10_ok nmX10 hown hK hP hD hS 0 rfl rfl 1 (by decide) (hts (.fieldLink RX10 15 "DeadlineShare$Wide" "low" "J") (List.mem_cons_of_mem _ (List.mem_append_left _ (List.mem_of_getElem? (i := 2) rfl)))) (fun _ h9 => h9) rfl (by decide +kernel) rfl rfl (Nat.le_of_ble_eq_true rfl) dX10_set_14 (fun H locs hP hD hS => ?_)
  have hP : va_P (dC, dI) vwCl [(h0, .inr (10, [.long 0, .long 0]))] H := hP
  have hD : va_D A [(h0, .inr (10, [.long 0, .long 0]))] := hD
  have hP9 := hP.sub (ws' := [(h0, .inr (10, [.long 0, .long 0]))]) [0] rfl
  have hD9 := hD.sub (ws' := [(h0, .inr (10, [.long 0, .long 0]))]) [0] (by decide) rfl
  have hK9 := hK.sub (tys' := []) [] rfl
  refine W.widen (k := 0) (n := 0) (Nat.le_of_ble_eq_true rfl) (Nat.le_of_ble_eq_true rfl) ?_
  exact W.vret hx hb hr (fun t ht hW => ⟨⟨(), rfl, trivial, by rw [ht]; exact hP9, va_K.moved hW.alike hK9, hD9⟩, hS.F ht⟩) hS.2.2 dX10_set_17
def ow_c_X10_asLong0 : List Cond := [.fieldLink RX10 9 "DeadlineShare$Wide" "high" "J", .fieldLink RX10 15 "DeadlineShare$Wide" "low" "J"]
def wq_c_X10_asLong0 : List Cond := .code yX10_asLong cX10_asLong 1 (some .long) :: (ow_c_X10_asLong0 ++ (u_ws RX10 TX10 2 ++ ([] : List Cond)))
theorem tb_c_X10_asLong0 : ∀ w ∈ wq_c_X10_asLong0, q_g w := by
  unfold wq_c_X10_asLong0 ow_c_X10_asLong0
  exact q_cons tw_125 (q_app (q_cons tw_123 (q_cons tw_121 q_nil)) (q_app tu_X10 q_nil))
set_option maxHeartbeats 4000000 in
set_option maxRecDepth 100000 in
theorem c_X10_asLong0 (l : Launch) (dC : Nat → ClassId) (dI : Nat → Nat → Nat) (h0 : Nat) (sz : Nat) : Met l yX10_asLong wq_c_X10_asLong0 ({ frames := 0, cells := 0, slots := 0, locals := 0 } : Room) (va_Pc [.ref h0] (fun U => U.heap.size = sz ∧ va_P (dC, dI) vwCl [(h0, .inr (10, [.long 0, .long 0]))] U.heap ∧ va_K (dC, dI) vwCl [] U ∧ va_D (fun _ => True) [(h0, .inr (10, [.long 0, .long 0]))])) (va_Ql (fun (r : Int64) (_ : Unit) => r = 0) (fun (_ : Unit) t => va_P (dC, dI) vwCl [(h0, .inr (10, [.long 0, .long 0]))] t.heap ∧ va_K (dC, dI) vwCl [] t ∧ va_D (va_A [(h0, .inr (10, [.long 0, .long 0]))] sz) [(h0, .inr (10, [.long 0, .long 0]))]) (va_A [(h0, .inr (10, [.long 0, .long 0]))] sz)) 0 0 (va_A [(h0, .inr (10, [.long 0, .long 0]))] sz) := by
  refine Met.ofW (cc := cX10_asLong) (maxL := 1) (ret := (some .long)) (by decide) rfl ?_
  intro p e s m args below meth c s₁ B hml hv
  obtain ⟨rfl, hsz, hP, hK, hD0⟩ := hv
  have hx := B.exec
  have hb := B.bytes
  have hr := B.returns
  have hts := atoms_spec (ws := wq_c_X10_asLong0) B.pre
  have hown : s.vm.findClass RX10 = some m.cls := findClass_of_methodNamed B.named
  have hlocks := B.notSynchronized
  subst hsz
  have hD := hD0.self (sz := s.heap.size)
  obtain ⟨A, hAe⟩ : ∃ A, A = va_A [(h0, .inr (10, [.long 0, .long 0]))] s.heap.size := ⟨_, rfl⟩
  rw [← hAe] at hD ⊢
  have hA : ∀ q : Nat, s.heap.size ≤ q → A q := fun q h => by rw [hAe]; exact Or.inr h
  have hS : va_S A s.heap s.heap [] := va_S.rf
  have hP : va_P (dC, dI) vwCl [(h0, .inr (10, [.long 0, .long 0]))] s.heap := hP
  have hl := lv_entry ([.ref h0]) (n := 1) (Nat.le_of_ble_eq_true rfl)
  rw [lg_entry_eq]
  generalize (lg_sl ([.ref h0]) ++ List.replicate (1 - (lg_sl ([.ref h0])).length) Slot.unset).toArray = ls at hl ⊢
  have hl : lv_has ls 1 [(0, .ref h0)] := hl
  refine lv_aload_n hx hb dX10_asLong_0 rfl (lv_at hl 0 rfl) ?_
  refine va_get (D := (dC, dI)) (ci := 10) (v := .long 0) (C := RX10) (T := TX10) (N := 2) hx hb hts (fun _ h0_ => List.mem_cons_of_mem _ (List.mem_append_right _ (List.mem_append_left _ h0_))) hown hK hP 0 rfl rfl 0 (by decide) (hts (.fieldLink RX10 9 "DeadlineShare$Wide" "high" "J") (List.mem_cons_of_mem _ (List.mem_append_left _ (List.mem_of_getElem? (i := 0) rfl)))) (fun _ h9 => h9) rfl dX10_asLong_1 ?_
  refine lv_bipush (v := 32) hx hb dX10_asLong_4 (by decide) ?_
  refine lv_lshl hx hb dX10_asLong_6 rfl ?_
  refine k_topl (y := 0) (by decide) ?_
  refine lv_aload_n hx hb dX10_asLong_7 rfl (lv_at hl 0 rfl) ?_
  refine va_get (D := (dC, dI)) (ci := 10) (v := .long 0) (C := RX10) (T := TX10) (N := 2) hx hb hts (fun _ h0_ => List.mem_cons_of_mem _ (List.mem_append_right _ (List.mem_append_left _ h0_))) hown hK hP 0 rfl rfl 1 (by decide) (hts (.fieldLink RX10 15 "DeadlineShare$Wide" "low" "J") (List.mem_cons_of_mem _ (List.mem_append_left _ (List.mem_of_getElem? (i := 1) rfl)))) (fun _ h9 => h9) rfl dX10_asLong_8 ?_
  refine lv_lor hx hb dX10_asLong_11 ?_
  refine k_topl (y := 0) (by decide) ?_
  have hP9 := hP.sub (ws' := [(h0, .inr (10, [.long 0, .long 0]))]) [0] rfl
  have hD9 := hD.sub (ws' := [(h0, .inr (10, [.long 0, .long 0]))]) [0] (by decide) rfl
  have hK9 := hK.sub (tys' := []) [] rfl
  refine W.widen (k := 0) (n := 0) (Nat.le_of_ble_eq_true rfl) (Nat.le_of_ble_eq_true rfl) ?_
  exact W.lret (v := 0) hx hb hr (fun t ht hW => ⟨⟨0, (), rfl, rfl, by rw [ht]; exact hP9, va_K.moved hW.alike hK9, hD9⟩, hS.F ht⟩) hS.2.2 dX10_asLong_12
def ow_c_J9_floorMod : List Cond := []
def wq_c_J9_floorMod : List Cond := .code yJ9_floorMod_f86c9 cJ9_floorMod_f86c9 6 (some .long) :: (ow_c_J9_floorMod ++ ([] : List Cond))
theorem tb_c_J9_floorMod : ∀ w ∈ wq_c_J9_floorMod, q_g w := by
  unfold wq_c_J9_floorMod ow_c_J9_floorMod
  exact q_cons tw_126 (q_app q_nil q_nil)
set_option maxHeartbeats 4000000 in
set_option maxRecDepth 100000 in
theorem c_J9_floorMod (l : Launch) (dC : Nat → ClassId) (dI : Nat → Nat → Nat) (sz : Nat) : Met l yJ9_floorMod_f86c9 wq_c_J9_floorMod ({ frames := 0, cells := 0, slots := 0, locals := 0 } : Room) (va_Pc [.long 0, .long 1] (fun U => U.heap.size = sz ∧ va_P (dC, dI) vwCl [] U.heap ∧ va_K (dC, dI) vwCl [] U ∧ va_D (fun _ => True) [])) (va_Ql (fun (r : Int64) (_ : Unit) => r = 0) (fun (_ : Unit) t => va_P (dC, dI) vwCl [] t.heap ∧ va_K (dC, dI) vwCl [] t ∧ va_D (va_A [] sz) []) (va_A [] sz)) 0 0 (va_A [] sz) := by
  refine va_MetF (cc := cJ9_floorMod_f86c9) (maxL := 6) (ret := (some .long)) (by decide +kernel) rfl ?_
  intro p e s m args below meth c s₁ B hml hv
  obtain ⟨rfl, hsz, hP, hK, hD0⟩ := hv
  have hx := B.exec
  have hb := B.bytes
  have hr := B.returns
  have hts := atoms_spec (ws := wq_c_J9_floorMod) B.pre
  have hown : s.vm.findClass RJ9 = some m.cls := findClass_of_methodNamed B.named
  have hlocks := B.notSynchronized
  subst hsz
  have hD := hD0.self (sz := s.heap.size)
  obtain ⟨A, hAe⟩ : ∃ A, A = va_A [] s.heap.size := ⟨_, rfl⟩
  rw [← hAe] at hD ⊢
  have hA : ∀ q : Nat, s.heap.size ≤ q → A q := fun q h => by rw [hAe]; exact Or.inr h
  have hS : va_S A s.heap s.heap [] := va_S.rf
  have hP : va_P (dC, dI) vwCl [] s.heap := hP
  have hl := lv_entry ([.long 0, .long 1]) (n := 6) (Nat.le_of_ble_eq_true rfl)
  rw [lg_entry_eq]
  generalize (lg_sl ([.long 0, .long 1]) ++ List.replicate (6 - (lg_sl ([.long 0, .long 1])).length) Slot.unset).toArray = ls at hl ⊢
  have hl : lv_has ls 6 [(0, .long 0), (2, .long 1)] := hl
  refine lv_lload_n hx hb dJ9_floorMod_f86c9_0 rfl (lv_at hl 0 rfl) ?_
  refine lv_lload_n hx hb dJ9_floorMod_f86c9_1 rfl (lv_at hl 1 rfl) ?_
  refine lv_lrem hx hb dJ9_floorMod_f86c9_2 (by decide) ?_
  refine k_topl (y := 0) (by decide) ?_
  refine lv_lstore (lv' := [(4, .long 0), (0, .long 0), (2, .long 1)]) hx hb dJ9_floorMod_f86c9_3 hl (by decide) rfl (fun ls hl => ?_)
  refine lv_lload_n hx hb dJ9_floorMod_f86c9_5 rfl (lv_at hl 1 rfl) ?_
  refine lv_lload_n hx hb dJ9_floorMod_f86c9_6 rfl (lv_at hl 2 rfl) ?_
  refine lv_lxor hx hb dJ9_floorMod_f86c9_7 ?_
  refine k_topl (y := 1) (by decide) ?_
  refine lv_lconst (v := 0) hx hb dJ9_floorMod_f86c9_8 (by decide) ?_
  refine W.lcmp hx hb dJ9_floorMod_f86c9_9 ?_
  refine k_topi (y := 1) (by decide) ?_
  refine lv_if_ge (tgt := 25) hx hb dJ9_floorMod_f86c9_10 (by decide) (fun _ => ?_) (fun c => absurd (by decide) c)
  refine lv_lload hx hb dJ9_floorMod_f86c9_25 (lv_at hl 0 rfl) ?_
  have hP9 := hP.sub (ws' := []) [] rfl
  have hD9 := hD.sub (ws' := []) [] (by decide) rfl
  have hK9 := hK.sub (tys' := []) [] rfl
  refine W.widen (k := 0) (n := 0) (Nat.le_of_ble_eq_true rfl) (Nat.le_of_ble_eq_true rfl) ?_
  exact W.lret (v := 0) hx hb hr (fun t ht hW => ⟨⟨0, (), rfl, rfl, by rw [ht]; exact hP9, va_K.moved hW.alike hK9, hD9⟩, hS.F ht⟩) hS.2.2 dJ9_floorMod_f86c9_27
def ow_c_J9_floorDiv : List Cond := []
def wq_c_J9_floorDiv : List Cond := .code yJ9_floorDiv_f86c9 cJ9_floorDiv_f86c9 6 (some .long) :: (ow_c_J9_floorDiv ++ ([] : List Cond))
theorem tb_c_J9_floorDiv : ∀ w ∈ wq_c_J9_floorDiv, q_g w := by
  unfold wq_c_J9_floorDiv ow_c_J9_floorDiv
  exact q_cons tw_127 (q_app q_nil q_nil)
set_option maxHeartbeats 4000000 in
set_option maxRecDepth 100000 in
theorem c_J9_floorDiv (l : Launch) (dC : Nat → ClassId) (dI : Nat → Nat → Nat) (sz : Nat) : Met l yJ9_floorDiv_f86c9 wq_c_J9_floorDiv ({ frames := 0, cells := 0, slots := 0, locals := 0 } : Room) (va_Pc [.long 0, .long 1] (fun U => U.heap.size = sz ∧ va_P (dC, dI) vwCl [] U.heap ∧ va_K (dC, dI) vwCl [] U ∧ va_D (fun _ => True) [])) (va_Ql (fun (r : Int64) (_ : Unit) => r = 0) (fun (_ : Unit) t => va_P (dC, dI) vwCl [] t.heap ∧ va_K (dC, dI) vwCl [] t ∧ va_D (va_A [] sz) []) (va_A [] sz)) 0 0 (va_A [] sz) := by
  refine va_MetF (cc := cJ9_floorDiv_f86c9) (maxL := 6) (ret := (some .long)) (by decide +kernel) rfl ?_
  intro p e s m args below meth c s₁ B hml hv
  obtain ⟨rfl, hsz, hP, hK, hD0⟩ := hv
  have hx := B.exec
  have hb := B.bytes
  have hr := B.returns
  have hts := atoms_spec (ws := wq_c_J9_floorDiv) B.pre
  have hown : s.vm.findClass RJ9 = some m.cls := findClass_of_methodNamed B.named
  have hlocks := B.notSynchronized
  subst hsz
  have hD := hD0.self (sz := s.heap.size)
  obtain ⟨A, hAe⟩ : ∃ A, A = va_A [] s.heap.size := ⟨_, rfl⟩
  rw [← hAe] at hD ⊢
  have hA : ∀ q : Nat, s.heap.size ≤ q → A q := fun q h => by rw [hAe]; exact Or.inr h
  have hS : va_S A s.heap s.heap [] := va_S.rf
  have hP : va_P (dC, dI) vwCl [] s.heap := hP
  have hl := lv_entry ([.long 0, .long 1]) (n := 6) (Nat.le_of_ble_eq_true rfl)
  rw [lg_entry_eq]
  generalize (lg_sl ([.long 0, .long 1]) ++ List.replicate (6 - (lg_sl ([.long 0, .long 1])).length) Slot.unset).toArray = ls at hl ⊢
  have hl : lv_has ls 6 [(0, .long 0), (2, .long 1)] := hl
  refine lv_lload_n hx hb dJ9_floorDiv_f86c9_0 rfl (lv_at hl 0 rfl) ?_
  refine lv_lload_n hx hb dJ9_floorDiv_f86c9_1 rfl (lv_at hl 1 rfl) ?_
  refine lv_ldiv hx hb dJ9_floorDiv_f86c9_2 (by decide) ?_
  refine k_topl (y := 0) (by decide) ?_
  refine lv_lstore (lv' := [(4, .long 0), (0, .long 0), (2, .long 1)]) hx hb dJ9_floorDiv_f86c9_3 hl (by decide) rfl (fun ls hl => ?_)
  refine lv_lload_n hx hb dJ9_floorDiv_f86c9_5 rfl (lv_at hl 1 rfl) ?_
  refine lv_lload_n hx hb dJ9_floorDiv_f86c9_6 rfl (lv_at hl 2 rfl) ?_
  refine lv_lxor hx hb dJ9_floorDiv_f86c9_7 ?_
  refine k_topl (y := 1) (by decide) ?_
  refine lv_lconst (v := 0) hx hb dJ9_floorDiv_f86c9_8 (by decide) ?_
  refine W.lcmp hx hb dJ9_floorDiv_f86c9_9 ?_
  refine k_topi (y := 1) (by decide) ?_
  refine lv_if_ge (tgt := 27) hx hb dJ9_floorDiv_f86c9_10 (by decide) (fun _ => ?_) (fun c => absurd (by decide) c)
  refine lv_lload hx hb dJ9_floorDiv_f86c9_27 (lv_at hl 0 rfl) ?_
  have hP9 := hP.sub (ws' := []) [] rfl
  have hD9 := hD.sub (ws' := []) [] (by decide) rfl
  have hK9 := hK.sub (tys' := []) [] rfl
  refine W.widen (k := 0) (n := 0) (Nat.le_of_ble_eq_true rfl) (Nat.le_of_ble_eq_true rfl) ?_
  exact W.lret (v := 0) hx hb hr (fun t ht hW => ⟨⟨0, (), rfl, rfl, by rw [ht]; exact hP9, va_K.moved hW.alike hK9, hD9⟩, hS.F ht⟩) hS.2.2 dJ9_floorDiv_f86c9_29
def ow_c_X10_divide1 : List Cond := [.fieldLink RX10 9 "DeadlineShare$Wide" "high" "J", .methodLink RX10 18 yJ9_floorMod_f86c9, .static yJ9_floorMod_f86c9, .initialized RJ9, .fieldLink RX10 15 "DeadlineShare$Wide" "low" "J", .methodLink RX10 24 yJ9_floorDiv_f86c9, .static yJ9_floorDiv_f86c9]
def wq_c_X10_divide1 : List Cond := .code yX10_divide cX10_divide 3 none :: (ow_c_X10_divide1 ++ (u_ws RX10 TX10 2 ++ (wq_c_J9_floorMod ++ (wq_c_J9_floorDiv ++ ([] : List Cond)))))
theorem tb_c_X10_divide1 : ∀ w ∈ wq_c_X10_divide1, q_g w := by
  unfold wq_c_X10_divide1 ow_c_X10_divide1
  exact q_cons tw_133 (q_app (q_cons tw_123 (q_cons tw_132 (q_cons tw_131 (q_cons tw_130 (q_cons tw_121 (q_cons tw_129 (q_cons tw_128 q_nil))))))) (q_app tu_X10 (q_app tb_c_J9_floorMod (q_app tb_c_J9_floorDiv q_nil))))
set_option maxHeartbeats 4000000 in
set_option maxRecDepth 100000 in
theorem c_X10_divide1 (l : Launch) (dC : Nat → ClassId) (dI : Nat → Nat → Nat) (h0 : Nat) (sz : Nat) : Met l yX10_divide wq_c_X10_divide1 ({ frames := 1, cells := 0, slots := 0, locals := 25 } : Room) (va_Pc [.ref h0, .long 1] (fun U => U.heap.size = sz ∧ va_P (dC, dI) vwCl [(h0, .inr (10, [.long 0, .long 0]))] U.heap ∧ va_K (dC, dI) vwCl [] U ∧ va_D (fun _ => True) [(h0, .inr (10, [.long 0, .long 0]))])) (va_Qv (fun (_ : Unit) => True) (fun (_ : Unit) t => va_P (dC, dI) vwCl [(h0, .inr (10, [.long 0, .long 0]))] t.heap ∧ va_K (dC, dI) vwCl [] t ∧ va_D (va_A [(h0, .inr (10, [.long 0, .long 0]))] sz) [(h0, .inr (10, [.long 0, .long 0]))]) (va_A [(h0, .inr (10, [.long 0, .long 0]))] sz)) 0 0 (va_A [(h0, .inr (10, [.long 0, .long 0]))] sz) := by
  refine Met.ofW (cc := cX10_divide) (maxL := 3) (ret := none) (by decide) rfl ?_
  intro p e s m args below meth c s₁ B hml hv
  obtain ⟨rfl, hsz, hP, hK, hD0⟩ := hv
  have hx := B.exec
  have hb := B.bytes
  have hr := B.returns
  have hts := atoms_spec (ws := wq_c_X10_divide1) B.pre
  have hown : s.vm.findClass RX10 = some m.cls := findClass_of_methodNamed B.named
  have hlocks := B.notSynchronized
  subst hsz
  have hD := hD0.self (sz := s.heap.size)
  obtain ⟨A, hAe⟩ : ∃ A, A = va_A [(h0, .inr (10, [.long 0, .long 0]))] s.heap.size := ⟨_, rfl⟩
  rw [← hAe] at hD ⊢
  have hA : ∀ q : Nat, s.heap.size ≤ q → A q := fun q h => by rw [hAe]; exact Or.inr h
  have hS : va_S A s.heap s.heap [] := va_S.rf
  have hP : va_P (dC, dI) vwCl [(h0, .inr (10, [.long 0, .long 0]))] s.heap := hP
  have hl := lv_entry ([.ref h0, .long 1]) (n := 3) (Nat.le_of_ble_eq_true rfl)
  rw [lg_entry_eq]
  generalize (lg_sl ([.ref h0, .long 1]) ++ List.replicate (3 - (lg_sl ([.ref h0, .long 1])).length) Slot.unset).toArray = ls at hl ⊢
  have hl : lv_has ls 3 [(0, .ref h0), (1, .long 1)] := hl
  refine lv_lload_n hx hb dX10_divide_0 rfl (lv_at hl 1 rfl) ?_
  refine lv_lconst (v := 0) hx hb dX10_divide_1 (by decide) ?_
  refine W.lcmp hx hb dX10_divide_2 ?_
  refine k_topi (y := 1) (by decide) ?_
  refine lv_if_le (tgt := 40) hx hb dX10_divide_3 (by decide) (fun c => absurd c (by decide)) (fun _ => ?_)
  refine lv_aload_n hx hb dX10_divide_6 rfl (lv_at hl 0 rfl) ?_
  refine lv_aload_n hx hb dX10_divide_7 rfl (lv_at hl 0 rfl) ?_
  refine va_get (D := (dC, dI)) (ci := 10) (v := .long 0) (C := RX10) (T := TX10) (N := 2) hx hb hts (fun _ h0_ => List.mem_cons_of_mem _ (List.mem_append_right _ (List.mem_append_left _ h0_))) hown hK hP 0 rfl rfl 0 (by decide) (hts (.fieldLink RX10 9 "DeadlineShare$Wide" "high" "J") (List.mem_cons_of_mem _ (List.mem_append_left _ (List.mem_of_getElem? (i := 0) rfl)))) (fun _ h9 => h9) rfl dX10_divide_8 ?_
  refine lv_lload_n hx hb dX10_divide_11 rfl (lv_at hl 1 rfl) ?_
  have hPc := hP.sub (ws' := []) [] rfl
  have hDc := hD.sub (ws' := []) [] (by decide) rfl
  have hKc := hK.sub (tys' := []) [] rfl
  have hFc := va_free (wc := []) hD hS hA [] rfl
  refine va_calll (va_runS (As := [.long 0, .long 1]) (rest := [.ref h0]) ⟨hx, hb, hml, hown, hts⟩ (c_J9_floorMod l dC dI s.heap.size) (va_cwS 2 hts (gi_S (fun w_ h0_ => ⟨List.mem_cons_of_mem _ (List.mem_append_right _ (List.mem_append_right _ (List.mem_append_left _ h0_))), (tb_c_J9_floorMod w_ h0_).2⟩) (List.mem_cons_of_mem _ (List.mem_append_left _ (List.mem_of_getElem? (i := 1) rfl))) (List.mem_cons_of_mem _ (List.mem_append_left _ (List.mem_of_getElem? (i := 2) rfl))) (List.mem_cons_of_mem _ (List.mem_append_left _ (List.mem_of_getElem? (i := 3) rfl)))) rfl rfl rfl (by decide +kernel) ⟨Nat.le_of_ble_eq_true rfl, Nat.le_of_ble_eq_true rfl⟩) ⟨fun a U g mk q => by obtain ⟨q0, q1, qP, qK, qD⟩ := q; exact ⟨q0, q1, qP, va_K.moved (u := U) (U := U.calling g mk a) (Vm.Alike.refl U.vm) qK, qD⟩, fun U hU hW => ⟨rfl, by rw [hU], by rw [hU]; exact hPc, va_K.moved hW.alike hKc, hDc.weaken (fun _ _ _ _ => trivial)⟩⟩ rfl rfl hl.1 rfl (lv_room (Nat.le_of_ble_eq_true rfl)) dX10_divide_12 ⟨Nat.le_of_ble_eq_true rfl, Nat.le_of_ble_eq_true rfl⟩) hS (fun q _ h => hFc q h) hFc (fun r_1 u t H1 locs ht hvm hw hB hz1 hk1 hS => ?_)
  obtain ⟨hP1, hK1, hD1⟩ := hB
  rw [ht] at hP1
  have hK1 := va_K.moved hvm.symm hK1
  obtain ⟨hP, hD⟩ := va_join (wr := [(h0, .inr (10, [.long 0, .long 0]))]) (w1 := []) hP hD [] [0] rfl rfl (by decide) (by decide) hk1 hFc hP1 hD1
  generalize H1 = H at hP hS ⊢
  have hP : va_P (dC, dI) vwCl [(h0, .inr (10, [.long 0, .long 0]))] H := hP
  have hD : va_D A [(h0, .inr (10, [.long 0, .long 0]))] := hD
  refine W.widen (k := 0) (n := 0) (Nat.le_of_ble_eq_true rfl) (Nat.le_of_ble_eq_true rfl) ?_
  have hw : r_1 = 0 := hw
  subst hw
  refine lv_bipush (v := 32) hx hb dX10_divide_15 (by decide) ?_
  refine lv_lshl hx hb dX10_divide_17 rfl ?_
  refine k_topl (y := 0) (by decide) ?_
  refine lv_aload_n hx hb dX10_divide_18 rfl (lv_at hl 0 rfl) ?_
  refine va_get (D := (dC, dI)) (ci := 10) (v := .long 0) (C := RX10) (T := TX10) (N := 2) hx hb hts (fun _ h0_ => List.mem_cons_of_mem _ (List.mem_append_right _ (List.mem_append_left _ h0_))) hown hK hP 0 rfl rfl 1 (by decide) (hts (.fieldLink RX10 15 "DeadlineShare$Wide" "low" "J") (List.mem_cons_of_mem _ (List.mem_append_left _ (List.mem_of_getElem? (i := 4) rfl)))) (fun _ h9 => h9) rfl dX10_divide_19 ?_
  refine lv_lor hx hb dX10_divide_22 ?_
  refine k_topl (y := 0) (by decide) ?_
  refine lv_lload_n hx hb dX10_divide_23 rfl (lv_at hl 1 rfl) ?_
  refine lv_ldiv hx hb dX10_divide_24 (by decide) ?_
  refine k_topl (y := 0) (by decide) ?_
  refine va_put (D := (dC, dI)) (ci := 10) (v := .long 0) (ty := .long) (C := RX10) (T := TX10) (N := 2) hx hb hts (fun _ h0_ => List.mem_cons_of_mem _ (List.mem_append_right _ (List.mem_append_left _ h0_))) tyX10 tyX10_ok nmX10 hown hK hP hD hS 0 rfl rfl 1 (by decide) (hts (.fieldLink RX10 15 "DeadlineShare$Wide" "low" "J") (List.mem_cons_of_mem _ (List.mem_append_left _ (List.mem_of_getElem? (i := 4) rfl)))) (fun _ h9 => h9) rfl (by decide +kernel) rfl rfl (Nat.le_of_ble_eq_true rfl) dX10_divide_25 (fun H locs hP hD hS => ?_)
  have hP : va_P (dC, dI) vwCl [(h0, .inr (10, [.long 0, .long 0]))] H := hP
  have hD : va_D A [(h0, .inr (10, [.long 0, .long 0]))] := hD
  refine lv_aload_n hx hb dX10_divide_28 rfl (lv_at hl 0 rfl) ?_
  refine lv_aload_n hx hb dX10_divide_29 rfl (lv_at hl 0 rfl) ?_
  refine va_get (D := (dC, dI)) (ci := 10) (v := .long 0) (C := RX10) (T := TX10) (N := 2) hx hb hts (fun _ h0_ => List.mem_cons_of_mem _ (List.mem_append_right _ (List.mem_append_left _ h0_))) hown hK hP 0 rfl rfl 0 (by decide) (hts (.fieldLink RX10 9 "DeadlineShare$Wide" "high" "J") (List.mem_cons_of_mem _ (List.mem_append_left _ (List.mem_of_getElem? (i := 0) rfl)))) (fun _ h9 => h9) rfl dX10_divide_30 ?_
  refine lv_lload_n hx hb dX10_divide_33 rfl (lv_at hl 1 rfl) ?_
  have hPc := hP.sub (ws' := []) [] rfl
  have hDc := hD.sub (ws' := []) [] (by decide) rfl
  have hKc := hK.sub (tys' := []) [] rfl
  have hFc := va_free (wc := []) hD hS hA [] rfl
  refine va_calll (va_runS (As := [.long 0, .long 1]) (rest := [.ref h0]) ⟨hx, hb, hml, hown, hts⟩ (c_J9_floorDiv l dC dI H.size) (va_cwS 2 hts (gi_S (fun w_ h0_ => ⟨List.mem_cons_of_mem _ (List.mem_append_right _ (List.mem_append_right _ (List.mem_append_right _ (List.mem_append_left _ h0_)))), (tb_c_J9_floorDiv w_ h0_).2⟩) (List.mem_cons_of_mem _ (List.mem_append_left _ (List.mem_of_getElem? (i := 5) rfl))) (List.mem_cons_of_mem _ (List.mem_append_left _ (List.mem_of_getElem? (i := 6) rfl))) (List.mem_cons_of_mem _ (List.mem_append_left _ (List.mem_of_getElem? (i := 3) rfl)))) rfl rfl rfl (by decide +kernel) ⟨Nat.le_of_ble_eq_true rfl, Nat.le_of_ble_eq_true rfl⟩) ⟨fun a U g mk q => by obtain ⟨q0, q1, qP, qK, qD⟩ := q; exact ⟨q0, q1, qP, va_K.moved (u := U) (U := U.calling g mk a) (Vm.Alike.refl U.vm) qK, qD⟩, fun U hU hW => ⟨rfl, by rw [hU], by rw [hU]; exact hPc, va_K.moved hW.alike hKc, hDc.weaken (fun _ _ _ _ => trivial)⟩⟩ rfl rfl hl.1 rfl (lv_room (Nat.le_of_ble_eq_true rfl)) dX10_divide_34 ⟨Nat.le_of_ble_eq_true rfl, Nat.le_of_ble_eq_true rfl⟩) hS (fun q _ h => hFc q h) hFc (fun r_2 u t H1 locs ht hvm hw hB hz1 hk1 hS => ?_)
  obtain ⟨hP1, hK1, hD1⟩ := hB
  rw [ht] at hP1
  have hK1 := va_K.moved hvm.symm hK1
  obtain ⟨hP, hD⟩ := va_join (wr := [(h0, .inr (10, [.long 0, .long 0]))]) (w1 := []) hP hD [] [0] rfl rfl (by decide) (by decide) hk1 hFc hP1 hD1
  generalize H1 = H at hP hS ⊢
  have hP : va_P (dC, dI) vwCl [(h0, .inr (10, [.long 0, .long 0]))] H := hP
  have hD : va_D A [(h0, .inr (10, [.long 0, .long 0]))] := hD
  refine W.widen (k := 0) (n := 0) (Nat.le_of_ble_eq_true rfl) (Nat.le_of_ble_eq_true rfl) ?_
  have hw : r_2 = 0 := hw
  subst hw
  refine va_put (D := (dC, dI)) (ci := 10) (v := .long 0) (ty := .long) (C := RX10) (T := TX10) (N := 2) hx hb hts (fun _ h0_ => List.mem_cons_of_mem _ (List.mem_append_right _ (List.mem_append_left _ h0_))) tyX10 tyX10_ok nmX10 hown hK hP hD hS 0 rfl rfl 0 (by decide) (hts (.fieldLink RX10 9 "DeadlineShare$Wide" "high" "J") (List.mem_cons_of_mem _ (List.mem_append_left _ (List.mem_of_getElem? (i := 0) rfl)))) (fun _ h9 => h9) rfl (by decide +kernel) rfl rfl (Nat.le_of_ble_eq_true rfl) dX10_divide_37 (fun H locs hP hD hS => ?_)
  have hP : va_P (dC, dI) vwCl [(h0, .inr (10, [.long 0, .long 0]))] H := hP
  have hD : va_D A [(h0, .inr (10, [.long 0, .long 0]))] := hD
  have hP9 := hP.sub (ws' := [(h0, .inr (10, [.long 0, .long 0]))]) [0] rfl
  have hD9 := hD.sub (ws' := [(h0, .inr (10, [.long 0, .long 0]))]) [0] (by decide) rfl
  have hK9 := hK.sub (tys' := []) [] rfl
  refine W.widen (k := 0) (n := 0) (Nat.le_of_ble_eq_true rfl) (Nat.le_of_ble_eq_true rfl) ?_
  exact W.vret hx hb hr (fun t ht hW => ⟨⟨(), rfl, trivial, by rw [ht]; exact hP9, va_K.moved hW.alike hK9, hD9⟩, hS.F ht⟩) hS.2.2 dX10_divide_40
def ow_c_X10_modulo1 : List Cond := [.fieldLink RX10 9 "DeadlineShare$Wide" "high" "J", .methodLink RX10 18 yJ9_floorMod_f86c9, .static yJ9_floorMod_f86c9, .initialized RJ9, .fieldLink RX10 15 "DeadlineShare$Wide" "low" "J"]
def wq_c_X10_modulo1 : List Cond := .code yX10_modulo cX10_modulo 3 (some .long) :: (ow_c_X10_modulo1 ++ (u_ws RX10 TX10 2 ++ (wq_c_J9_floorMod ++ ([] : List Cond))))
theorem tb_c_X10_modulo1 : ∀ w ∈ wq_c_X10_modulo1, q_g w := by
  unfold wq_c_X10_modulo1 ow_c_X10_modulo1
  exact q_cons tw_134 (q_app (q_cons tw_123 (q_cons tw_132 (q_cons tw_131 (q_cons tw_130 (q_cons tw_121 q_nil))))) (q_app tu_X10 (q_app tb_c_J9_floorMod q_nil)))
set_option maxHeartbeats 4000000 in
set_option maxRecDepth 100000 in
theorem c_X10_modulo1 (l : Launch) (dC : Nat → ClassId) (dI : Nat → Nat → Nat) (h0 : Nat) (sz : Nat) : Met l yX10_modulo wq_c_X10_modulo1 ({ frames := 1, cells := 0, slots := 0, locals := 25 } : Room) (va_Pc [.ref h0, .long 1] (fun U => U.heap.size = sz ∧ va_P (dC, dI) vwCl [(h0, .inr (10, [.long 0, .long 0]))] U.heap ∧ va_K (dC, dI) vwCl [] U ∧ va_D (fun _ => True) [(h0, .inr (10, [.long 0, .long 0]))])) (va_Ql (fun (r : Int64) (_ : Unit) => r = 0) (fun (_ : Unit) t => va_P (dC, dI) vwCl [(h0, .inr (10, [.long 0, .long 0]))] t.heap ∧ va_K (dC, dI) vwCl [] t ∧ va_D (va_A [(h0, .inr (10, [.long 0, .long 0]))] sz) [(h0, .inr (10, [.long 0, .long 0]))]) (va_A [(h0, .inr (10, [.long 0, .long 0]))] sz)) 0 0 (va_A [(h0, .inr (10, [.long 0, .long 0]))] sz) := by
  refine Met.ofW (cc := cX10_modulo) (maxL := 3) (ret := (some .long)) (by decide) rfl ?_
  intro p e s m args below meth c s₁ B hml hv
  obtain ⟨rfl, hsz, hP, hK, hD0⟩ := hv
  have hx := B.exec
  have hb := B.bytes
  have hr := B.returns
  have hts := atoms_spec (ws := wq_c_X10_modulo1) B.pre
  have hown : s.vm.findClass RX10 = some m.cls := findClass_of_methodNamed B.named
  have hlocks := B.notSynchronized
  subst hsz
  have hD := hD0.self (sz := s.heap.size)
  obtain ⟨A, hAe⟩ : ∃ A, A = va_A [(h0, .inr (10, [.long 0, .long 0]))] s.heap.size := ⟨_, rfl⟩
  rw [← hAe] at hD ⊢
  have hA : ∀ q : Nat, s.heap.size ≤ q → A q := fun q h => by rw [hAe]; exact Or.inr h
  have hS : va_S A s.heap s.heap [] := va_S.rf
  have hP : va_P (dC, dI) vwCl [(h0, .inr (10, [.long 0, .long 0]))] s.heap := hP
  have hl := lv_entry ([.ref h0, .long 1]) (n := 3) (Nat.le_of_ble_eq_true rfl)
  rw [lg_entry_eq]
  generalize (lg_sl ([.ref h0, .long 1]) ++ List.replicate (3 - (lg_sl ([.ref h0, .long 1])).length) Slot.unset).toArray = ls at hl ⊢
  have hl : lv_has ls 3 [(0, .ref h0), (1, .long 1)] := hl
  refine lv_lload_n hx hb dX10_modulo_0 rfl (lv_at hl 1 rfl) ?_
  refine lv_lconst (v := 0) hx hb dX10_modulo_1 (by decide) ?_
  refine W.lcmp hx hb dX10_modulo_2 ?_
  refine k_topi (y := 1) (by decide) ?_
  refine lv_if_le (tgt := 27) hx hb dX10_modulo_3 (by decide) (fun c => absurd c (by decide)) (fun _ => ?_)
  refine lv_aload_n hx hb dX10_modulo_6 rfl (lv_at hl 0 rfl) ?_
  refine va_get (D := (dC, dI)) (ci := 10) (v := .long 0) (C := RX10) (T := TX10) (N := 2) hx hb hts (fun _ h0_ => List.mem_cons_of_mem _ (List.mem_append_right _ (List.mem_append_left _ h0_))) hown hK hP 0 rfl rfl 0 (by decide) (hts (.fieldLink RX10 9 "DeadlineShare$Wide" "high" "J") (List.mem_cons_of_mem _ (List.mem_append_left _ (List.mem_of_getElem? (i := 0) rfl)))) (fun _ h9 => h9) rfl dX10_modulo_7 ?_
  refine lv_lload_n hx hb dX10_modulo_10 rfl (lv_at hl 1 rfl) ?_
  have hPc := hP.sub (ws' := []) [] rfl
  have hDc := hD.sub (ws' := []) [] (by decide) rfl
  have hKc := hK.sub (tys' := []) [] rfl
  have hFc := va_free (wc := []) hD hS hA [] rfl
  refine va_calll (va_runS (As := [.long 0, .long 1]) (rest := []) ⟨hx, hb, hml, hown, hts⟩ (c_J9_floorMod l dC dI s.heap.size) (va_cwS 2 hts (gi_S (fun w_ h0_ => ⟨List.mem_cons_of_mem _ (List.mem_append_right _ (List.mem_append_right _ (List.mem_append_left _ h0_))), (tb_c_J9_floorMod w_ h0_).2⟩) (List.mem_cons_of_mem _ (List.mem_append_left _ (List.mem_of_getElem? (i := 1) rfl))) (List.mem_cons_of_mem _ (List.mem_append_left _ (List.mem_of_getElem? (i := 2) rfl))) (List.mem_cons_of_mem _ (List.mem_append_left _ (List.mem_of_getElem? (i := 3) rfl)))) rfl rfl rfl (by decide +kernel) ⟨Nat.le_of_ble_eq_true rfl, Nat.le_of_ble_eq_true rfl⟩) ⟨fun a U g mk q => by obtain ⟨q0, q1, qP, qK, qD⟩ := q; exact ⟨q0, q1, qP, va_K.moved (u := U) (U := U.calling g mk a) (Vm.Alike.refl U.vm) qK, qD⟩, fun U hU hW => ⟨rfl, by rw [hU], by rw [hU]; exact hPc, va_K.moved hW.alike hKc, hDc.weaken (fun _ _ _ _ => trivial)⟩⟩ rfl rfl hl.1 rfl (lv_room (Nat.le_of_ble_eq_true rfl)) dX10_modulo_11 ⟨Nat.le_of_ble_eq_true rfl, Nat.le_of_ble_eq_true rfl⟩) hS (fun q _ h => hFc q h) hFc (fun r_1 u t H1 locs ht hvm hw hB hz1 hk1 hS => ?_)
  obtain ⟨hP1, hK1, hD1⟩ := hB
  rw [ht] at hP1
  have hK1 := va_K.moved hvm.symm hK1
  obtain ⟨hP, hD⟩ := va_join (wr := [(h0, .inr (10, [.long 0, .long 0]))]) (w1 := []) hP hD [] [0] rfl rfl (by decide) (by decide) hk1 hFc hP1 hD1
  generalize H1 = H at hP hS ⊢
  have hP : va_P (dC, dI) vwCl [(h0, .inr (10, [.long 0, .long 0]))] H := hP
  have hD : va_D A [(h0, .inr (10, [.long 0, .long 0]))] := hD
  refine W.widen (k := 0) (n := 0) (Nat.le_of_ble_eq_true rfl) (Nat.le_of_ble_eq_true rfl) ?_
  have hw : r_1 = 0 := hw
  subst hw
  refine lv_bipush (v := 32) hx hb dX10_modulo_14 (by decide) ?_
  refine lv_lshl hx hb dX10_modulo_16 rfl ?_
  refine k_topl (y := 0) (by decide) ?_
  refine lv_aload_n hx hb dX10_modulo_17 rfl (lv_at hl 0 rfl) ?_
  refine va_get (D := (dC, dI)) (ci := 10) (v := .long 0) (C := RX10) (T := TX10) (N := 2) hx hb hts (fun _ h0_ => List.mem_cons_of_mem _ (List.mem_append_right _ (List.mem_append_left _ h0_))) hown hK hP 0 rfl rfl 1 (by decide) (hts (.fieldLink RX10 15 "DeadlineShare$Wide" "low" "J") (List.mem_cons_of_mem _ (List.mem_append_left _ (List.mem_of_getElem? (i := 4) rfl)))) (fun _ h9 => h9) rfl dX10_modulo_18 ?_
  refine lv_lor hx hb dX10_modulo_21 ?_
  refine k_topl (y := 0) (by decide) ?_
  refine lv_lload_n hx hb dX10_modulo_22 rfl (lv_at hl 1 rfl) ?_
  refine lv_lrem hx hb dX10_modulo_23 (by decide) ?_
  refine k_topl (y := 0) (by decide) ?_
  refine lv_goto (tgt := 28) hx hb dX10_modulo_24 (by decide) ?_
  have hP9 := hP.sub (ws' := [(h0, .inr (10, [.long 0, .long 0]))]) [0] rfl
  have hD9 := hD.sub (ws' := [(h0, .inr (10, [.long 0, .long 0]))]) [0] (by decide) rfl
  have hK9 := hK.sub (tys' := []) [] rfl
  refine W.widen (k := 0) (n := 0) (Nat.le_of_ble_eq_true rfl) (Nat.le_of_ble_eq_true rfl) ?_
  exact W.lret (v := 0) hx hb hr (fun t ht hW => ⟨⟨0, (), rfl, rfl, by rw [ht]; exact hP9, va_K.moved hW.alike hK9, hD9⟩, hS.F ht⟩) hS.2.2 dX10_modulo_28
def ow_c_X6_has : List Cond := [.fieldLink RX6 48 "DeadlineShare$State" "count" "I"]
def wq_c_X6_has : List Cond := .code yX6_has cX6_has 2 (some .boolean) :: (ow_c_X6_has ++ (u_ws RX6 TX6 10 ++ ([] : List Cond)))
theorem tb_c_X6_has : ∀ w ∈ wq_c_X6_has, q_g w := by
  unfold wq_c_X6_has ow_c_X6_has
  exact q_cons tw_136 (q_app (q_cons tw_135 q_nil) (q_app tu_X6 q_nil))
set_option maxHeartbeats 4000000 in
set_option maxRecDepth 100000 in
theorem c_X6_has (l : Launch) (dC : Nat → ClassId) (dI : Nat → Nat → Nat) (h0 : Nat) (tk : Int32) (te : Nat) (ta : Nat) (lo : Nat) (su : Nat) (pt : Nat) (ti : Int32) (sz : Nat) : Met l yX6_has wq_c_X6_has ({ frames := 0, cells := 0, slots := 0, locals := 0 } : Room) (va_Pc [.ref h0, .int tk] (fun U => U.heap.size = sz ∧ va_P (dC, dI) vwCl [(h0, .inr (6, [.ref te, .ref ta, .ref lo, .ref su, .ref pt, .int 0, .int ti, .long 0, .int (-1), .int (-1)]))] U.heap ∧ va_K (dC, dI) vwCl [] U ∧ va_D (fun _ => True) [(h0, .inr (6, [.ref te, .ref ta, .ref lo, .ref su, .ref pt, .int 0, .int ti, .long 0, .int (-1), .int (-1)]))])) (va_Qi (fun (r : Int32) (_ : Unit) => r = 0) (fun (_ : Unit) t => va_P (dC, dI) vwCl [(h0, .inr (6, [.ref te, .ref ta, .ref lo, .ref su, .ref pt, .int 0, .int ti, .long 0, .int (-1), .int (-1)]))] t.heap ∧ va_K (dC, dI) vwCl [] t ∧ va_D (va_A [(h0, .inr (6, [.ref te, .ref ta, .ref lo, .ref su, .ref pt, .int 0, .int ti, .long 0, .int (-1), .int (-1)]))] sz) [(h0, .inr (6, [.ref te, .ref ta, .ref lo, .ref su, .ref pt, .int 0, .int ti, .long 0, .int (-1), .int (-1)]))]) (va_A [(h0, .inr (6, [.ref te, .ref ta, .ref lo, .ref su, .ref pt, .int 0, .int ti, .long 0, .int (-1), .int (-1)]))] sz)) 0 0 (va_A [(h0, .inr (6, [.ref te, .ref ta, .ref lo, .ref su, .ref pt, .int 0, .int ti, .long 0, .int (-1), .int (-1)]))] sz) := by
  refine Met.ofW (cc := cX6_has) (maxL := 2) (ret := (some .boolean)) (by decide) rfl ?_
  intro p e s m args below meth c s₁ B hml hv
  obtain ⟨rfl, hsz, hP, hK, hD0⟩ := hv
  have hx := B.exec
  have hb := B.bytes
  have hr := B.returns
  have hts := atoms_spec (ws := wq_c_X6_has) B.pre
  have hown : s.vm.findClass RX6 = some m.cls := findClass_of_methodNamed B.named
  have hlocks := B.notSynchronized
  subst hsz
  have hD := hD0.self (sz := s.heap.size)
  obtain ⟨A, hAe⟩ : ∃ A, A = va_A [(h0, .inr (6, [.ref te, .ref ta, .ref lo, .ref su, .ref pt, .int 0, .int ti, .long 0, .int (-1), .int (-1)]))] s.heap.size := ⟨_, rfl⟩
  rw [← hAe] at hD ⊢
  have hA : ∀ q : Nat, s.heap.size ≤ q → A q := fun q h => by rw [hAe]; exact Or.inr h
  have hS : va_S A s.heap s.heap [] := va_S.rf
  have hP : va_P (dC, dI) vwCl [(h0, .inr (6, [.ref te, .ref ta, .ref lo, .ref su, .ref pt, .int 0, .int ti, .long 0, .int (-1), .int (-1)]))] s.heap := hP
  have hl := lv_entry ([.ref h0, .int tk]) (n := 2) (Nat.le_of_ble_eq_true rfl)
  rw [lg_entry_eq]
  generalize (lg_sl ([.ref h0, .int tk]) ++ List.replicate (2 - (lg_sl ([.ref h0, .int tk])).length) Slot.unset).toArray = ls at hl ⊢
  have hl : lv_has ls 2 [(0, .ref h0), (1, .int tk)] := hl
  refine lv_iload_n hx hb dX6_has_0 rfl (lv_at hl 1 rfl) ?_
  refine lv_if_lt (tgt := 16) hx hb dX6_has_1 (by decide) (fun c_1 => ?_) (fun c_1 => ?_)
  · refine lv_iconst (v := 0) hx hb dX6_has_16 (by decide) ?_
    have hP9 := hP.sub (ws' := [(h0, .inr (6, [.ref te, .ref ta, .ref lo, .ref su, .ref pt, .int 0, .int ti, .long 0, .int (-1), .int (-1)]))]) [0] rfl
    have hD9 := hD.sub (ws' := [(h0, .inr (6, [.ref te, .ref ta, .ref lo, .ref su, .ref pt, .int 0, .int ti, .long 0, .int (-1), .int (-1)]))]) [0] (by decide) rfl
    have hK9 := hK.sub (tys' := []) [] rfl
    refine W.widen (k := 0) (n := 0) (Nat.le_of_ble_eq_true rfl) (Nat.le_of_ble_eq_true rfl) ?_
    exact W.zret (v := 0) hx hb hr rfl (fun t ht hW => ⟨⟨0, (), rfl, rfl, by rw [ht]; exact hP9, va_K.moved hW.alike hK9, hD9⟩, hS.F ht⟩) hS.2.2 dX6_has_17
  · refine lv_iload_n hx hb dX6_has_4 rfl (lv_at hl 1 rfl) ?_
    refine lv_aload_n hx hb dX6_has_5 rfl (lv_at hl 0 rfl) ?_
    refine va_get (D := (dC, dI)) (ci := 6) (v := .int 0) (C := RX6) (T := TX6) (N := 10) hx hb hts (fun _ h0_ => List.mem_cons_of_mem _ (List.mem_append_right _ (List.mem_append_left _ h0_))) hown hK hP 0 rfl rfl 5 (by decide) (hts (.fieldLink RX6 48 "DeadlineShare$State" "count" "I") (List.mem_cons_of_mem _ (List.mem_append_left _ (List.mem_of_getElem? (i := 0) rfl)))) (fun _ h9 => h9) rfl dX6_has_6 ?_
    refine lv_icmp_ge (tgt := 16) hx hb dX6_has_9 (by decide) (fun _ => ?_) (fun c => absurd ((fa_le _ _).mpr (by have z0 : ¬ _ := fun h9 => c_1 ((fa_lt _ _).mpr h9); have li0 : Int32.toInt 0 = 0 := (by decide); skip; omega)) c)
    refine lv_iconst (v := 0) hx hb dX6_has_16 (by decide) ?_
    have hP9 := hP.sub (ws' := [(h0, .inr (6, [.ref te, .ref ta, .ref lo, .ref su, .ref pt, .int 0, .int ti, .long 0, .int (-1), .int (-1)]))]) [0] rfl
    have hD9 := hD.sub (ws' := [(h0, .inr (6, [.ref te, .ref ta, .ref lo, .ref su, .ref pt, .int 0, .int ti, .long 0, .int (-1), .int (-1)]))]) [0] (by decide) rfl
    have hK9 := hK.sub (tys' := []) [] rfl
    refine W.widen (k := 0) (n := 0) (Nat.le_of_ble_eq_true rfl) (Nat.le_of_ble_eq_true rfl) ?_
    exact W.zret (v := 0) hx hb hr rfl (fun t ht hW => ⟨⟨0, (), rfl, rfl, by rw [ht]; exact hP9, va_K.moved hW.alike hK9, hD9⟩, hS.F ht⟩) hS.2.2 dX6_has_17
def ow_c_X6_weightOfAll : List Cond := [.fieldLink RX6 48 "DeadlineShare$State" "count" "I"]
def wq_c_X6_weightOfAll : List Cond := .code yX6_weightOfAll cX6_weightOfAll 3 (some .int) :: (ow_c_X6_weightOfAll ++ (u_ws RX6 TX6 10 ++ ([] : List Cond)))
theorem tb_c_X6_weightOfAll : ∀ w ∈ wq_c_X6_weightOfAll, q_g w := by
  unfold wq_c_X6_weightOfAll ow_c_X6_weightOfAll
  exact q_cons tw_137 (q_app (q_cons tw_135 q_nil) (q_app tu_X6 q_nil))
set_option maxHeartbeats 4000000 in
set_option maxRecDepth 100000 in
theorem c_X6_weightOfAll (l : Launch) (dC : Nat → ClassId) (dI : Nat → Nat → Nat) (h0 : Nat) (te : Nat) (ta : Nat) (lo : Nat) (su : Nat) (pt : Nat) (ti : Int32) (sz : Nat) : Met l yX6_weightOfAll wq_c_X6_weightOfAll ({ frames := 0, cells := 0, slots := 0, locals := 0 } : Room) (va_Pc [.ref h0] (fun U => U.heap.size = sz ∧ va_P (dC, dI) vwCl [(h0, .inr (6, [.ref te, .ref ta, .ref lo, .ref su, .ref pt, .int 0, .int ti, .long 0, .int (-1), .int (-1)]))] U.heap ∧ va_K (dC, dI) vwCl [] U ∧ va_D (fun _ => True) [(h0, .inr (6, [.ref te, .ref ta, .ref lo, .ref su, .ref pt, .int 0, .int ti, .long 0, .int (-1), .int (-1)]))])) (va_Qi (fun (r : Int32) (_ : Unit) => r = 0) (fun (_ : Unit) t => va_P (dC, dI) vwCl [(h0, .inr (6, [.ref te, .ref ta, .ref lo, .ref su, .ref pt, .int 0, .int ti, .long 0, .int (-1), .int (-1)]))] t.heap ∧ va_K (dC, dI) vwCl [] t ∧ va_D (va_A [(h0, .inr (6, [.ref te, .ref ta, .ref lo, .ref su, .ref pt, .int 0, .int ti, .long 0, .int (-1), .int (-1)]))] sz) [(h0, .inr (6, [.ref te, .ref ta, .ref lo, .ref su, .ref pt, .int 0, .int ti, .long 0, .int (-1), .int (-1)]))]) (va_A [(h0, .inr (6, [.ref te, .ref ta, .ref lo, .ref su, .ref pt, .int 0, .int ti, .long 0, .int (-1), .int (-1)]))] sz)) 0 0 (va_A [(h0, .inr (6, [.ref te, .ref ta, .ref lo, .ref su, .ref pt, .int 0, .int ti, .long 0, .int (-1), .int (-1)]))] sz) := by
  refine Met.ofW (cc := cX6_weightOfAll) (maxL := 3) (ret := (some .int)) (by decide) rfl ?_
  intro p e s m args below meth c s₁ B hml hv
  obtain ⟨rfl, hsz, hP, hK, hD0⟩ := hv
  have hx := B.exec
  have hb := B.bytes
  have hr := B.returns
  have hts := atoms_spec (ws := wq_c_X6_weightOfAll) B.pre
  have hown : s.vm.findClass RX6 = some m.cls := findClass_of_methodNamed B.named
  have hlocks := B.notSynchronized
  subst hsz
  have hD := hD0.self (sz := s.heap.size)
  obtain ⟨A, hAe⟩ : ∃ A, A = va_A [(h0, .inr (6, [.ref te, .ref ta, .ref lo, .ref su, .ref pt, .int 0, .int ti, .long 0, .int (-1), .int (-1)]))] s.heap.size := ⟨_, rfl⟩
  rw [← hAe] at hD ⊢
  have hA : ∀ q : Nat, s.heap.size ≤ q → A q := fun q h => by rw [hAe]; exact Or.inr h
  have hS : va_S A s.heap s.heap [] := va_S.rf
  have hP : va_P (dC, dI) vwCl [(h0, .inr (6, [.ref te, .ref ta, .ref lo, .ref su, .ref pt, .int 0, .int ti, .long 0, .int (-1), .int (-1)]))] s.heap := hP
  have hl := lv_entry ([.ref h0]) (n := 3) (Nat.le_of_ble_eq_true rfl)
  rw [lg_entry_eq]
  generalize (lg_sl ([.ref h0]) ++ List.replicate (3 - (lg_sl ([.ref h0])).length) Slot.unset).toArray = ls at hl ⊢
  have hl : lv_has ls 3 [(0, .ref h0)] := hl
  refine lv_iconst (v := 0) hx hb dX6_weightOfAll_0 (by decide) ?_
  refine lv_istore_n (lv' := [(1, .int 0), (0, .ref h0)]) hx hb dX6_weightOfAll_1 rfl hl (by decide) rfl (fun ls hl => ?_)
  refine lv_iconst (v := 0) hx hb dX6_weightOfAll_2 (by decide) ?_
  refine lv_istore_n (lv' := [(2, .int 0), (1, .int 0), (0, .ref h0)]) hx hb dX6_weightOfAll_3 rfl hl (by decide) rfl (fun ls hl => ?_)
  refine lv_iload_n hx hb dX6_weightOfAll_4 rfl (lv_at hl 0 rfl) ?_
  refine lv_aload_n hx hb dX6_weightOfAll_5 rfl (lv_at hl 2 rfl) ?_
  refine va_get (D := (dC, dI)) (ci := 6) (v := .int 0) (C := RX6) (T := TX6) (N := 10) hx hb hts (fun _ h0_ => List.mem_cons_of_mem _ (List.mem_append_right _ (List.mem_append_left _ h0_))) hown hK hP 0 rfl rfl 5 (by decide) (hts (.fieldLink RX6 48 "DeadlineShare$State" "count" "I") (List.mem_cons_of_mem _ (List.mem_append_left _ (List.mem_of_getElem? (i := 0) rfl)))) (fun _ h9 => h9) rfl dX6_weightOfAll_6 ?_
  refine lv_icmp_ge (tgt := 43) hx hb dX6_weightOfAll_9 (by decide) (fun _ => ?_) (fun c => absurd (by decide) c)
  refine lv_iload_n hx hb dX6_weightOfAll_43 rfl (lv_at hl 1 rfl) ?_
  have hP9 := hP.sub (ws' := [(h0, .inr (6, [.ref te, .ref ta, .ref lo, .ref su, .ref pt, .int 0, .int ti, .long 0, .int (-1), .int (-1)]))]) [0] rfl
  have hD9 := hD.sub (ws' := [(h0, .inr (6, [.ref te, .ref ta, .ref lo, .ref su, .ref pt, .int 0, .int ti, .long 0, .int (-1), .int (-1)]))]) [0] (by decide) rfl
  have hK9 := hK.sub (tys' := []) [] rfl
  refine W.widen (k := 0) (n := 0) (Nat.le_of_ble_eq_true rfl) (Nat.le_of_ble_eq_true rfl) ?_
  exact W.iret (v := 0) hx hb hr (fun t ht hW => ⟨⟨0, (), rfl, rfl, by rw [ht]; exact hP9, va_K.moved hW.alike hK9, hD9⟩, hS.F ht⟩) hS.2.2 dX6_weightOfAll_44
def ow_c_X6_sumUp : List Cond := [.fieldLink RX6 27 "DeadlineShare$State" "sum" "LDeadlineShare$Wide;", .methodLink RX6 75 yX10_set, .instanceMethod yX10_set, .selects RX10 yX10_set yX10_set, .initialized RX10, .fieldLink RX6 48 "DeadlineShare$State" "count" "I", .fieldLink RX6 61 "DeadlineShare$State" "rest" "J"]
def wq_c_X6_sumUp : List Cond := .code yX6_sumUp cX6_sumUp 3 (some .int) :: (ow_c_X6_sumUp ++ (u_ws RX6 TX6 10 ++ (wq_c_X10_set0 ++ ([] : List Cond))))
theorem tb_c_X6_sumUp : ∀ w ∈ wq_c_X6_sumUp, q_g w := by
  unfold wq_c_X6_sumUp ow_c_X6_sumUp
  exact q_cons tw_142 (q_app (q_cons tw_59 (q_cons tw_141 (q_cons tw_140 (q_cons tw_139 (q_cons tw_44 (q_cons tw_135 (q_cons tw_138 q_nil))))))) (q_app tu_X6 (q_app tb_c_X10_set0 q_nil)))
set_option maxHeartbeats 4000000 in
set_option maxRecDepth 100000 in
theorem c_X6_sumUp (l : Launch) (dC : Nat → ClassId) (dI : Nat → Nat → Nat) (h0 : Nat) (te : Nat) (ta : Nat) (lo : Nat) (su : Nat) (pt : Nat) (ti : Int32) (sz : Nat) : Met l yX6_sumUp wq_c_X6_sumUp ({ frames := 1, cells := 0, slots := 0, locals := 22 } : Room) (va_Pc [.ref h0] (fun U => U.heap.size = sz ∧ va_P (dC, dI) vwCl [(h0, .inr (6, [.ref te, .ref ta, .ref lo, .ref su, .ref pt, .int 0, .int ti, .long 0, .int (-1), .int (-1)])), (su, .inr (10, [.long 0, .long 0]))] U.heap ∧ va_K (dC, dI) vwCl [] U ∧ va_D (fun _ => True) [(h0, .inr (6, [.ref te, .ref ta, .ref lo, .ref su, .ref pt, .int 0, .int ti, .long 0, .int (-1), .int (-1)])), (su, .inr (10, [.long 0, .long 0]))])) (va_Qi (fun (r : Int32) (_ : Unit) => r = 1) (fun (_ : Unit) t => va_P (dC, dI) vwCl [(h0, .inr (6, [.ref te, .ref ta, .ref lo, .ref su, .ref pt, .int 0, .int ti, .long 0, .int (-1), .int (-1)])), (su, .inr (10, [.long 0, .long 0]))] t.heap ∧ va_K (dC, dI) vwCl [] t ∧ va_D (va_A [(h0, .inr (6, [.ref te, .ref ta, .ref lo, .ref su, .ref pt, .int 0, .int ti, .long 0, .int (-1), .int (-1)])), (su, .inr (10, [.long 0, .long 0]))] sz) [(h0, .inr (6, [.ref te, .ref ta, .ref lo, .ref su, .ref pt, .int 0, .int ti, .long 0, .int (-1), .int (-1)])), (su, .inr (10, [.long 0, .long 0]))]) (va_A [(h0, .inr (6, [.ref te, .ref ta, .ref lo, .ref su, .ref pt, .int 0, .int ti, .long 0, .int (-1), .int (-1)])), (su, .inr (10, [.long 0, .long 0]))] sz)) 0 0 (va_A [(h0, .inr (6, [.ref te, .ref ta, .ref lo, .ref su, .ref pt, .int 0, .int ti, .long 0, .int (-1), .int (-1)])), (su, .inr (10, [.long 0, .long 0]))] sz) := by
  refine Met.ofW (cc := cX6_sumUp) (maxL := 3) (ret := (some .int)) (by decide) rfl ?_
  intro p e s m args below meth c s₁ B hml hv
  obtain ⟨rfl, hsz, hP, hK, hD0⟩ := hv
  have hx := B.exec
  have hb := B.bytes
  have hr := B.returns
  have hts := atoms_spec (ws := wq_c_X6_sumUp) B.pre
  have hown : s.vm.findClass RX6 = some m.cls := findClass_of_methodNamed B.named
  have hlocks := B.notSynchronized
  subst hsz
  have hD := hD0.self (sz := s.heap.size)
  obtain ⟨A, hAe⟩ : ∃ A, A = va_A [(h0, .inr (6, [.ref te, .ref ta, .ref lo, .ref su, .ref pt, .int 0, .int ti, .long 0, .int (-1), .int (-1)])), (su, .inr (10, [.long 0, .long 0]))] s.heap.size := ⟨_, rfl⟩
  rw [← hAe] at hD ⊢
  have hA : ∀ q : Nat, s.heap.size ≤ q → A q := fun q h => by rw [hAe]; exact Or.inr h
  have hS : va_S A s.heap s.heap [] := va_S.rf
  have hP : va_P (dC, dI) vwCl [(h0, .inr (6, [.ref te, .ref ta, .ref lo, .ref su, .ref pt, .int 0, .int ti, .long 0, .int (-1), .int (-1)])), (su, .inr (10, [.long 0, .long 0]))] s.heap := hP
  have hl := lv_entry ([.ref h0]) (n := 3) (Nat.le_of_ble_eq_true rfl)
  rw [lg_entry_eq]
  generalize (lg_sl ([.ref h0]) ++ List.replicate (3 - (lg_sl ([.ref h0])).length) Slot.unset).toArray = ls at hl ⊢
  have hl : lv_has ls 3 [(0, .ref h0)] := hl
  refine lv_iconst (v := 0) hx hb dX6_sumUp_0 (by decide) ?_
  refine lv_istore_n (lv' := [(1, .int 0), (0, .ref h0)]) hx hb dX6_sumUp_1 rfl hl (by decide) rfl (fun ls hl => ?_)
  refine lv_aload_n hx hb dX6_sumUp_2 rfl (lv_at hl 1 rfl) ?_
  refine va_get (D := (dC, dI)) (ci := 6) (v := .ref su) (C := RX6) (T := TX6) (N := 10) hx hb hts (fun _ h0_ => List.mem_cons_of_mem _ (List.mem_append_right _ (List.mem_append_left _ h0_))) hown hK hP 0 rfl rfl 3 (by decide) (hts (.fieldLink RX6 27 "DeadlineShare$State" "sum" "LDeadlineShare$Wide;") (List.mem_cons_of_mem _ (List.mem_append_left _ (List.mem_of_getElem? (i := 0) rfl)))) (fun _ h9 => h9) rfl dX6_sumUp_3 ?_
  refine lv_lconst (v := 0) hx hb dX6_sumUp_6 (by decide) ?_
  have hPc := hP.sub (ws' := [(su, .inr (10, [.long 0, .long 0]))]) [1] rfl
  have hDc := hD.sub (ws' := [(su, .inr (10, [.long 0, .long 0]))]) [1] (by decide) rfl
  have hKc := hK.sub (tys' := []) [] rfl
  have hFc := va_free (wc := [(su, .inr (10, [.long 0, .long 0]))]) hD hS hA [1] rfl
  refine va_callv (va_runV (As := [.long 0]) (rest := []) ⟨hx, hb, hml, hown, hts⟩ (c_X10_set0 l dC dI su s.heap.size) (cwV 1 hts (gi_V (fun w_ h0_ => ⟨List.mem_cons_of_mem _ (List.mem_append_right _ (List.mem_append_right _ (List.mem_append_left _ h0_))), (tb_c_X10_set0 w_ h0_).2⟩) (List.mem_cons_of_mem _ (List.mem_append_left _ (List.mem_of_getElem? (i := 1) rfl))) (List.mem_cons_of_mem _ (List.mem_append_left _ (List.mem_of_getElem? (i := 2) rfl))) (List.mem_cons_of_mem _ (List.mem_append_left _ (List.mem_of_getElem? (i := 3) rfl))) (List.mem_cons_of_mem _ (List.mem_append_left _ (List.mem_of_getElem? (i := 4) rfl)))) rfl rfl rfl (by decide +kernel) ⟨Nat.le_of_ble_eq_true rfl, Nat.le_of_ble_eq_true rfl⟩) ⟨fun a U g mk q => by obtain ⟨q0, q1, qP, qK, qD⟩ := q; exact ⟨q0, q1, qP, va_K.moved (u := U) (U := U.calling g mk a) (Vm.Alike.refl U.vm) qK, qD⟩, va_recv hKc hPc (ci := 10) (q0 := 0) rfl rfl, fun U hU hW => ⟨rfl, by rw [hU], by rw [hU]; exact hPc, va_K.moved hW.alike hKc, hDc.weaken (fun _ _ _ _ => trivial)⟩⟩ rfl rfl hl.1 rfl (lv_room (Nat.le_of_ble_eq_true rfl)) dX6_sumUp_7 ⟨Nat.le_of_ble_eq_true rfl, Nat.le_of_ble_eq_true rfl⟩) hS (fun q _ h => hFc q h) hFc (fun u t H1 locs ht hvm hw hB hz1 hk1 hS => ?_)
  obtain ⟨hP1, hK1, hD1⟩ := hB
  rw [ht] at hP1
  have hK1 := va_K.moved hvm.symm hK1
  obtain ⟨hP, hD⟩ := va_join (wr := [(h0, .inr (6, [.ref te, .ref ta, .ref lo, .ref su, .ref pt, .int 0, .int ti, .long 0, .int (-1), .int (-1)]))]) (w1 := [(su, .inr (10, [.long 0, .long 0]))]) hP hD [1] [0] rfl rfl (by decide) (by decide) hk1 hFc hP1 hD1
  generalize H1 = H at hP hS ⊢
  have hP : va_P (dC, dI) vwCl [(h0, .inr (6, [.ref te, .ref ta, .ref lo, .ref su, .ref pt, .int 0, .int ti, .long 0, .int (-1), .int (-1)])), (su, .inr (10, [.long 0, .long 0]))] H := hP
  have hD : va_D A [(h0, .inr (6, [.ref te, .ref ta, .ref lo, .ref su, .ref pt, .int 0, .int ti, .long 0, .int (-1), .int (-1)])), (su, .inr (10, [.long 0, .long 0]))] := hD
  refine W.widen (k := 0) (n := 0) (Nat.le_of_ble_eq_true rfl) (Nat.le_of_ble_eq_true rfl) ?_
  refine lv_iconst (v := 0) hx hb dX6_sumUp_10 (by decide) ?_
  refine lv_istore_n (lv' := [(2, .int 0), (1, .int 0), (0, .ref h0)]) hx hb dX6_sumUp_11 rfl hl (by decide) rfl (fun ls hl => ?_)
  refine lv_iload_n hx hb dX6_sumUp_12 rfl (lv_at hl 0 rfl) ?_
  refine lv_aload_n hx hb dX6_sumUp_13 rfl (lv_at hl 2 rfl) ?_
  refine va_get (D := (dC, dI)) (ci := 6) (v := .int 0) (C := RX6) (T := TX6) (N := 10) hx hb hts (fun _ h0_ => List.mem_cons_of_mem _ (List.mem_append_right _ (List.mem_append_left _ h0_))) hown hK hP 0 rfl rfl 5 (by decide) (hts (.fieldLink RX6 48 "DeadlineShare$State" "count" "I") (List.mem_cons_of_mem _ (List.mem_append_left _ (List.mem_of_getElem? (i := 5) rfl)))) (fun _ h9 => h9) rfl dX6_sumUp_14 ?_
  refine lv_icmp_ge (tgt := 77) hx hb dX6_sumUp_17 (by decide) (fun _ => ?_) (fun c => absurd (by decide) c)
  refine lv_iload_n hx hb dX6_sumUp_77 rfl (lv_at hl 1 rfl) ?_
  refine lv_if_le (tgt := 83) hx hb dX6_sumUp_78 (by decide) (fun _ => ?_) (fun c => absurd (by decide) c)
  refine lv_aload_n hx hb dX6_sumUp_83 rfl (lv_at hl 2 rfl) ?_
  refine va_get (D := (dC, dI)) (ci := 6) (v := .ref su) (C := RX6) (T := TX6) (N := 10) hx hb hts (fun _ h0_ => List.mem_cons_of_mem _ (List.mem_append_right _ (List.mem_append_left _ h0_))) hown hK hP 0 rfl rfl 3 (by decide) (hts (.fieldLink RX6 27 "DeadlineShare$State" "sum" "LDeadlineShare$Wide;") (List.mem_cons_of_mem _ (List.mem_append_left _ (List.mem_of_getElem? (i := 0) rfl)))) (fun _ h9 => h9) rfl dX6_sumUp_84 ?_
  refine lv_aload_n hx hb dX6_sumUp_87 rfl (lv_at hl 2 rfl) ?_
  refine va_get (D := (dC, dI)) (ci := 6) (v := .long 0) (C := RX6) (T := TX6) (N := 10) hx hb hts (fun _ h0_ => List.mem_cons_of_mem _ (List.mem_append_right _ (List.mem_append_left _ h0_))) hown hK hP 0 rfl rfl 7 (by decide) (hts (.fieldLink RX6 61 "DeadlineShare$State" "rest" "J") (List.mem_cons_of_mem _ (List.mem_append_left _ (List.mem_of_getElem? (i := 6) rfl)))) (fun _ h9 => h9) rfl dX6_sumUp_88 ?_
  have hPc := hP.sub (ws' := [(su, .inr (10, [.long 0, .long 0]))]) [1] rfl
  have hDc := hD.sub (ws' := [(su, .inr (10, [.long 0, .long 0]))]) [1] (by decide) rfl
  have hKc := hK.sub (tys' := []) [] rfl
  have hFc := va_free (wc := [(su, .inr (10, [.long 0, .long 0]))]) hD hS hA [1] rfl
  refine va_callv (va_runV (As := [.long 0]) (rest := []) ⟨hx, hb, hml, hown, hts⟩ (c_X10_set0 l dC dI su H.size) (cwV 1 hts (gi_V (fun w_ h0_ => ⟨List.mem_cons_of_mem _ (List.mem_append_right _ (List.mem_append_right _ (List.mem_append_left _ h0_))), (tb_c_X10_set0 w_ h0_).2⟩) (List.mem_cons_of_mem _ (List.mem_append_left _ (List.mem_of_getElem? (i := 1) rfl))) (List.mem_cons_of_mem _ (List.mem_append_left _ (List.mem_of_getElem? (i := 2) rfl))) (List.mem_cons_of_mem _ (List.mem_append_left _ (List.mem_of_getElem? (i := 3) rfl))) (List.mem_cons_of_mem _ (List.mem_append_left _ (List.mem_of_getElem? (i := 4) rfl)))) rfl rfl rfl (by decide +kernel) ⟨Nat.le_of_ble_eq_true rfl, Nat.le_of_ble_eq_true rfl⟩) ⟨fun a U g mk q => by obtain ⟨q0, q1, qP, qK, qD⟩ := q; exact ⟨q0, q1, qP, va_K.moved (u := U) (U := U.calling g mk a) (Vm.Alike.refl U.vm) qK, qD⟩, va_recv hKc hPc (ci := 10) (q0 := 0) rfl rfl, fun U hU hW => ⟨rfl, by rw [hU], by rw [hU]; exact hPc, va_K.moved hW.alike hKc, hDc.weaken (fun _ _ _ _ => trivial)⟩⟩ rfl rfl hl.1 rfl (lv_room (Nat.le_of_ble_eq_true rfl)) dX6_sumUp_91 ⟨Nat.le_of_ble_eq_true rfl, Nat.le_of_ble_eq_true rfl⟩) hS (fun q _ h => hFc q h) hFc (fun u t H1 locs ht hvm hw hB hz1 hk1 hS => ?_)
  obtain ⟨hP1, hK1, hD1⟩ := hB
  rw [ht] at hP1
  have hK1 := va_K.moved hvm.symm hK1
  obtain ⟨hP, hD⟩ := va_join (wr := [(h0, .inr (6, [.ref te, .ref ta, .ref lo, .ref su, .ref pt, .int 0, .int ti, .long 0, .int (-1), .int (-1)]))]) (w1 := [(su, .inr (10, [.long 0, .long 0]))]) hP hD [1] [0] rfl rfl (by decide) (by decide) hk1 hFc hP1 hD1
  generalize H1 = H at hP hS ⊢
  have hP : va_P (dC, dI) vwCl [(h0, .inr (6, [.ref te, .ref ta, .ref lo, .ref su, .ref pt, .int 0, .int ti, .long 0, .int (-1), .int (-1)])), (su, .inr (10, [.long 0, .long 0]))] H := hP
  have hD : va_D A [(h0, .inr (6, [.ref te, .ref ta, .ref lo, .ref su, .ref pt, .int 0, .int ti, .long 0, .int (-1), .int (-1)])), (su, .inr (10, [.long 0, .long 0]))] := hD
  refine W.widen (k := 0) (n := 0) (Nat.le_of_ble_eq_true rfl) (Nat.le_of_ble_eq_true rfl) ?_
  refine lv_iconst (v := 1) hx hb dX6_sumUp_94 (by decide) ?_
  have hP9 := hP.sub (ws' := [(h0, .inr (6, [.ref te, .ref ta, .ref lo, .ref su, .ref pt, .int 0, .int ti, .long 0, .int (-1), .int (-1)])), (su, .inr (10, [.long 0, .long 0]))]) [0, 1] rfl
  have hD9 := hD.sub (ws' := [(h0, .inr (6, [.ref te, .ref ta, .ref lo, .ref su, .ref pt, .int 0, .int ti, .long 0, .int (-1), .int (-1)])), (su, .inr (10, [.long 0, .long 0]))]) [0, 1] (by decide) rfl
  have hK9 := hK.sub (tys' := []) [] rfl
  refine W.widen (k := 0) (n := 0) (Nat.le_of_ble_eq_true rfl) (Nat.le_of_ble_eq_true rfl) ?_
  exact W.iret (v := 1) hx hb hr (fun t ht hW => ⟨⟨1, (), rfl, rfl, by rw [ht]; exact hP9, va_K.moved hW.alike hK9, hD9⟩, hS.F ht⟩) hS.2.2 dX6_sumUp_95
def ow_c_X6_wholeV : List Cond := [.methodLink RX6 86 yX6_sumUp, .instanceMethod yX6_sumUp, .selects RX6 yX6_sumUp yX6_sumUp, .initialized RX6, .fieldLink RX6 27 "DeadlineShare$State" "sum" "LDeadlineShare$Wide;", .methodLink RX6 90 yX10_divide, .instanceMethod yX10_divide, .selects RX10 yX10_divide yX10_divide, .initialized RX10, .methodLink RX6 93 yX10_asLong, .instanceMethod yX10_asLong, .selects RX10 yX10_asLong yX10_asLong]
def wq_c_X6_wholeV : List Cond := .code yX6_wholeV cX6_wholeV 2 (some .long) :: (ow_c_X6_wholeV ++ (wq_c_X6_sumUp ++ (u_ws RX6 TX6 10 ++ (wq_c_X10_divide1 ++ (wq_c_X10_asLong0 ++ ([] : List Cond))))))
theorem tb_c_X6_wholeV : ∀ w ∈ wq_c_X6_wholeV, q_g w := by
  unfold wq_c_X6_wholeV ow_c_X6_wholeV
  exact q_cons tw_152 (q_app (q_cons tw_151 (q_cons tw_150 (q_cons tw_149 (q_cons tw_72 (q_cons tw_59 (q_cons tw_148 (q_cons tw_147 (q_cons tw_146 (q_cons tw_44 (q_cons tw_145 (q_cons tw_144 (q_cons tw_143 q_nil)))))))))))) (q_app tb_c_X6_sumUp (q_app tu_X6 (q_app tb_c_X10_divide1 (q_app tb_c_X10_asLong0 q_nil)))))
set_option maxHeartbeats 4000000 in
set_option maxRecDepth 100000 in
theorem c_X6_wholeV (l : Launch) (dC : Nat → ClassId) (dI : Nat → Nat → Nat) (h0 : Nat) (te : Nat) (ta : Nat) (lo : Nat) (su : Nat) (pt : Nat) (ti : Int32) (sz : Nat) : Met l yX6_wholeV wq_c_X6_wholeV ({ frames := 2, cells := 0, slots := 0, locals := 47 } : Room) (va_Pc [.ref h0] (fun U => U.heap.size = sz ∧ va_P (dC, dI) vwCl [(h0, .inr (6, [.ref te, .ref ta, .ref lo, .ref su, .ref pt, .int 0, .int ti, .long 0, .int (-1), .int (-1)])), (su, .inr (10, [.long 0, .long 0]))] U.heap ∧ va_K (dC, dI) vwCl [] U ∧ va_D (fun _ => True) [(h0, .inr (6, [.ref te, .ref ta, .ref lo, .ref su, .ref pt, .int 0, .int ti, .long 0, .int (-1), .int (-1)])), (su, .inr (10, [.long 0, .long 0]))])) (va_Ql (fun (r : Int64) (_ : Unit) => r = 0) (fun (_ : Unit) t => va_P (dC, dI) vwCl [(h0, .inr (6, [.ref te, .ref ta, .ref lo, .ref su, .ref pt, .int 0, .int ti, .long 0, .int (-1), .int (-1)])), (su, .inr (10, [.long 0, .long 0]))] t.heap ∧ va_K (dC, dI) vwCl [] t ∧ va_D (va_A [(h0, .inr (6, [.ref te, .ref ta, .ref lo, .ref su, .ref pt, .int 0, .int ti, .long 0, .int (-1), .int (-1)])), (su, .inr (10, [.long 0, .long 0]))] sz) [(h0, .inr (6, [.ref te, .ref ta, .ref lo, .ref su, .ref pt, .int 0, .int ti, .long 0, .int (-1), .int (-1)])), (su, .inr (10, [.long 0, .long 0]))]) (va_A [(h0, .inr (6, [.ref te, .ref ta, .ref lo, .ref su, .ref pt, .int 0, .int ti, .long 0, .int (-1), .int (-1)])), (su, .inr (10, [.long 0, .long 0]))] sz)) 0 0 (va_A [(h0, .inr (6, [.ref te, .ref ta, .ref lo, .ref su, .ref pt, .int 0, .int ti, .long 0, .int (-1), .int (-1)])), (su, .inr (10, [.long 0, .long 0]))] sz) := by
  refine Met.ofW (cc := cX6_wholeV) (maxL := 2) (ret := (some .long)) (by decide) rfl ?_
  intro p e s m args below meth c s₁ B hml hv
  obtain ⟨rfl, hsz, hP, hK, hD0⟩ := hv
  have hx := B.exec
  have hb := B.bytes
  have hr := B.returns
  have hts := atoms_spec (ws := wq_c_X6_wholeV) B.pre
  have hown : s.vm.findClass RX6 = some m.cls := findClass_of_methodNamed B.named
  have hlocks := B.notSynchronized
  subst hsz
  have hD := hD0.self (sz := s.heap.size)
  obtain ⟨A, hAe⟩ : ∃ A, A = va_A [(h0, .inr (6, [.ref te, .ref ta, .ref lo, .ref su, .ref pt, .int 0, .int ti, .long 0, .int (-1), .int (-1)])), (su, .inr (10, [.long 0, .long 0]))] s.heap.size := ⟨_, rfl⟩
  rw [← hAe] at hD ⊢
  have hA : ∀ q : Nat, s.heap.size ≤ q → A q := fun q h => by rw [hAe]; exact Or.inr h
  have hS : va_S A s.heap s.heap [] := va_S.rf
  have hP : va_P (dC, dI) vwCl [(h0, .inr (6, [.ref te, .ref ta, .ref lo, .ref su, .ref pt, .int 0, .int ti, .long 0, .int (-1), .int (-1)])), (su, .inr (10, [.long 0, .long 0]))] s.heap := hP
  have hl := lv_entry ([.ref h0]) (n := 2) (Nat.le_of_ble_eq_true rfl)
  rw [lg_entry_eq]
  generalize (lg_sl ([.ref h0]) ++ List.replicate (2 - (lg_sl ([.ref h0])).length) Slot.unset).toArray = ls at hl ⊢
  have hl : lv_has ls 2 [(0, .ref h0)] := hl
  refine lv_aload_n hx hb dX6_wholeV_0 rfl (lv_at hl 0 rfl) ?_
  have hPc := hP.sub (ws' := [(h0, .inr (6, [.ref te, .ref ta, .ref lo, .ref su, .ref pt, .int 0, .int ti, .long 0, .int (-1), .int (-1)])), (su, .inr (10, [.long 0, .long 0]))]) [0, 1] rfl
  have hDc := hD.sub (ws' := [(h0, .inr (6, [.ref te, .ref ta, .ref lo, .ref su, .ref pt, .int 0, .int ti, .long 0, .int (-1), .int (-1)])), (su, .inr (10, [.long 0, .long 0]))]) [0, 1] (by decide) rfl
  have hKc := hK.sub (tys' := []) [] rfl
  have hFc := va_free (wc := [(h0, .inr (6, [.ref te, .ref ta, .ref lo, .ref su, .ref pt, .int 0, .int ti, .long 0, .int (-1), .int (-1)])), (su, .inr (10, [.long 0, .long 0]))]) hD hS hA [0, 1] rfl
  refine va_calli (va_runV (As := []) (rest := []) ⟨hx, hb, hml, hown, hts⟩ (c_X6_sumUp l dC dI h0 te ta lo su pt ti s.heap.size) (cwV 0 hts (gi_V (fun w_ h0_ => ⟨List.mem_cons_of_mem _ (List.mem_append_right _ (List.mem_append_left _ h0_)), (tb_c_X6_sumUp w_ h0_).2⟩) (List.mem_cons_of_mem _ (List.mem_append_left _ (List.mem_of_getElem? (i := 0) rfl))) (List.mem_cons_of_mem _ (List.mem_append_left _ (List.mem_of_getElem? (i := 1) rfl))) (List.mem_cons_of_mem _ (List.mem_append_left _ (List.mem_of_getElem? (i := 2) rfl))) (List.mem_cons_of_mem _ (List.mem_append_left _ (List.mem_of_getElem? (i := 3) rfl)))) rfl rfl rfl (by decide +kernel) ⟨Nat.le_of_ble_eq_true rfl, Nat.le_of_ble_eq_true rfl⟩) ⟨fun a U g mk q => by obtain ⟨q0, q1, qP, qK, qD⟩ := q; exact ⟨q0, q1, qP, va_K.moved (u := U) (U := U.calling g mk a) (Vm.Alike.refl U.vm) qK, qD⟩, va_recv hKc hPc (ci := 6) (q0 := 0) rfl rfl, fun U hU hW => ⟨rfl, by rw [hU], by rw [hU]; exact hPc, va_K.moved hW.alike hKc, hDc.weaken (fun _ _ _ _ => trivial)⟩⟩ rfl rfl hl.1 rfl (lv_room (Nat.le_of_ble_eq_true rfl)) dX6_wholeV_1 ⟨Nat.le_of_ble_eq_true rfl, Nat.le_of_ble_eq_true rfl⟩) hS (fun q _ h => hFc q h) hFc (fun r_1 u t H1 locs ht hvm hw hB hz1 hk1 hS => ?_)
  obtain ⟨hP1, hK1, hD1⟩ := hB
  rw [ht] at hP1
  have hK1 := va_K.moved hvm.symm hK1
  obtain ⟨hP, hD⟩ := va_join (wr := []) (w1 := [(h0, .inr (6, [.ref te, .ref ta, .ref lo, .ref su, .ref pt, .int 0, .int ti, .long 0, .int (-1), .int (-1)])), (su, .inr (10, [.long 0, .long 0]))]) hP hD [0, 1] [] rfl rfl (by decide) (by decide) hk1 hFc hP1 hD1
  generalize H1 = H at hP hS ⊢
  have hP : va_P (dC, dI) vwCl [(h0, .inr (6, [.ref te, .ref ta, .ref lo, .ref su, .ref pt, .int 0, .int ti, .long 0, .int (-1), .int (-1)])), (su, .inr (10, [.long 0, .long 0]))] H := hP
  have hD : va_D A [(h0, .inr (6, [.ref te, .ref ta, .ref lo, .ref su, .ref pt, .int 0, .int ti, .long 0, .int (-1), .int (-1)])), (su, .inr (10, [.long 0, .long 0]))] := hD
  refine W.widen (k := 0) (n := 0) (Nat.le_of_ble_eq_true rfl) (Nat.le_of_ble_eq_true rfl) ?_
  have hw : r_1 = 1 := hw
  subst hw
  refine lv_istore_n (lv' := [(1, .int 1), (0, .ref h0)]) hx hb dX6_wholeV_4 rfl hl (by decide) rfl (fun ls hl => ?_)
  refine lv_aload_n hx hb dX6_wholeV_5 rfl (lv_at hl 1 rfl) ?_
  refine va_get (D := (dC, dI)) (ci := 6) (v := .ref su) (C := RX6) (T := TX6) (N := 10) hx hb hts (fun _ h0_ => List.mem_cons_of_mem _ (List.mem_append_right _ (List.mem_append_right _ (List.mem_append_left _ h0_)))) hown hK hP 0 rfl rfl 3 (by decide) (hts (.fieldLink RX6 27 "DeadlineShare$State" "sum" "LDeadlineShare$Wide;") (List.mem_cons_of_mem _ (List.mem_append_left _ (List.mem_of_getElem? (i := 4) rfl)))) (fun _ h9 => h9) rfl dX6_wholeV_6 ?_
  refine lv_iload_n hx hb dX6_wholeV_9 rfl (lv_at hl 0 rfl) ?_
  refine lv_i2l (v := 1) hx hb dX6_wholeV_10 (by decide) ?_
  have hPc := hP.sub (ws' := [(su, .inr (10, [.long 0, .long 0]))]) [1] rfl
  have hDc := hD.sub (ws' := [(su, .inr (10, [.long 0, .long 0]))]) [1] (by decide) rfl
  have hKc := hK.sub (tys' := []) [] rfl
  have hFc := va_free (wc := [(su, .inr (10, [.long 0, .long 0]))]) hD hS hA [1] rfl
  refine va_callv (va_runV (As := [.long 1]) (rest := []) ⟨hx, hb, hml, hown, hts⟩ (c_X10_divide1 l dC dI su H.size) (cwV 1 hts (gi_V (fun w_ h0_ => ⟨List.mem_cons_of_mem _ (List.mem_append_right _ (List.mem_append_right _ (List.mem_append_right _ (List.mem_append_left _ h0_)))), (tb_c_X10_divide1 w_ h0_).2⟩) (List.mem_cons_of_mem _ (List.mem_append_left _ (List.mem_of_getElem? (i := 5) rfl))) (List.mem_cons_of_mem _ (List.mem_append_left _ (List.mem_of_getElem? (i := 6) rfl))) (List.mem_cons_of_mem _ (List.mem_append_left _ (List.mem_of_getElem? (i := 7) rfl))) (List.mem_cons_of_mem _ (List.mem_append_left _ (List.mem_of_getElem? (i := 8) rfl)))) rfl rfl rfl (by decide +kernel) ⟨Nat.le_of_ble_eq_true rfl, Nat.le_of_ble_eq_true rfl⟩) ⟨fun a U g mk q => by obtain ⟨q0, q1, qP, qK, qD⟩ := q; exact ⟨q0, q1, qP, va_K.moved (u := U) (U := U.calling g mk a) (Vm.Alike.refl U.vm) qK, qD⟩, va_recv hKc hPc (ci := 10) (q0 := 0) rfl rfl, fun U hU hW => ⟨rfl, by rw [hU], by rw [hU]; exact hPc, va_K.moved hW.alike hKc, hDc.weaken (fun _ _ _ _ => trivial)⟩⟩ rfl rfl hl.1 rfl (lv_room (Nat.le_of_ble_eq_true rfl)) dX6_wholeV_11 ⟨Nat.le_of_ble_eq_true rfl, Nat.le_of_ble_eq_true rfl⟩) hS (fun q _ h => hFc q h) hFc (fun u t H1 locs ht hvm hw hB hz1 hk1 hS => ?_)
  obtain ⟨hP1, hK1, hD1⟩ := hB
  rw [ht] at hP1
  have hK1 := va_K.moved hvm.symm hK1
  obtain ⟨hP, hD⟩ := va_join (wr := [(h0, .inr (6, [.ref te, .ref ta, .ref lo, .ref su, .ref pt, .int 0, .int ti, .long 0, .int (-1), .int (-1)]))]) (w1 := [(su, .inr (10, [.long 0, .long 0]))]) hP hD [1] [0] rfl rfl (by decide) (by decide) hk1 hFc hP1 hD1
  generalize H1 = H at hP hS ⊢
  have hP : va_P (dC, dI) vwCl [(h0, .inr (6, [.ref te, .ref ta, .ref lo, .ref su, .ref pt, .int 0, .int ti, .long 0, .int (-1), .int (-1)])), (su, .inr (10, [.long 0, .long 0]))] H := hP
  have hD : va_D A [(h0, .inr (6, [.ref te, .ref ta, .ref lo, .ref su, .ref pt, .int 0, .int ti, .long 0, .int (-1), .int (-1)])), (su, .inr (10, [.long 0, .long 0]))] := hD
  refine W.widen (k := 0) (n := 0) (Nat.le_of_ble_eq_true rfl) (Nat.le_of_ble_eq_true rfl) ?_
  refine lv_aload_n hx hb dX6_wholeV_14 rfl (lv_at hl 1 rfl) ?_
  refine va_get (D := (dC, dI)) (ci := 6) (v := .ref su) (C := RX6) (T := TX6) (N := 10) hx hb hts (fun _ h0_ => List.mem_cons_of_mem _ (List.mem_append_right _ (List.mem_append_right _ (List.mem_append_left _ h0_)))) hown hK hP 0 rfl rfl 3 (by decide) (hts (.fieldLink RX6 27 "DeadlineShare$State" "sum" "LDeadlineShare$Wide;") (List.mem_cons_of_mem _ (List.mem_append_left _ (List.mem_of_getElem? (i := 4) rfl)))) (fun _ h9 => h9) rfl dX6_wholeV_15 ?_
  have hPc := hP.sub (ws' := [(su, .inr (10, [.long 0, .long 0]))]) [1] rfl
  have hDc := hD.sub (ws' := [(su, .inr (10, [.long 0, .long 0]))]) [1] (by decide) rfl
  have hKc := hK.sub (tys' := []) [] rfl
  have hFc := va_free (wc := [(su, .inr (10, [.long 0, .long 0]))]) hD hS hA [1] rfl
  refine va_calll (va_runV (As := []) (rest := []) ⟨hx, hb, hml, hown, hts⟩ (c_X10_asLong0 l dC dI su H.size) (cwV 0 hts (gi_V (fun w_ h0_ => ⟨List.mem_cons_of_mem _ (List.mem_append_right _ (List.mem_append_right _ (List.mem_append_right _ (List.mem_append_right _ (List.mem_append_left _ h0_))))), (tb_c_X10_asLong0 w_ h0_).2⟩) (List.mem_cons_of_mem _ (List.mem_append_left _ (List.mem_of_getElem? (i := 9) rfl))) (List.mem_cons_of_mem _ (List.mem_append_left _ (List.mem_of_getElem? (i := 10) rfl))) (List.mem_cons_of_mem _ (List.mem_append_left _ (List.mem_of_getElem? (i := 11) rfl))) (List.mem_cons_of_mem _ (List.mem_append_left _ (List.mem_of_getElem? (i := 8) rfl)))) rfl rfl rfl (by decide +kernel) ⟨Nat.le_of_ble_eq_true rfl, Nat.le_of_ble_eq_true rfl⟩) ⟨fun a U g mk q => by obtain ⟨q0, q1, qP, qK, qD⟩ := q; exact ⟨q0, q1, qP, va_K.moved (u := U) (U := U.calling g mk a) (Vm.Alike.refl U.vm) qK, qD⟩, va_recv hKc hPc (ci := 10) (q0 := 0) rfl rfl, fun U hU hW => ⟨rfl, by rw [hU], by rw [hU]; exact hPc, va_K.moved hW.alike hKc, hDc.weaken (fun _ _ _ _ => trivial)⟩⟩ rfl rfl hl.1 rfl (lv_room (Nat.le_of_ble_eq_true rfl)) dX6_wholeV_18 ⟨Nat.le_of_ble_eq_true rfl, Nat.le_of_ble_eq_true rfl⟩) hS (fun q _ h => hFc q h) hFc (fun r_2 u t H1 locs ht hvm hw hB hz1 hk1 hS => ?_)
  obtain ⟨hP1, hK1, hD1⟩ := hB
  rw [ht] at hP1
  have hK1 := va_K.moved hvm.symm hK1
  obtain ⟨hP, hD⟩ := va_join (wr := [(h0, .inr (6, [.ref te, .ref ta, .ref lo, .ref su, .ref pt, .int 0, .int ti, .long 0, .int (-1), .int (-1)]))]) (w1 := [(su, .inr (10, [.long 0, .long 0]))]) hP hD [1] [0] rfl rfl (by decide) (by decide) hk1 hFc hP1 hD1
  generalize H1 = H at hP hS ⊢
  have hP : va_P (dC, dI) vwCl [(h0, .inr (6, [.ref te, .ref ta, .ref lo, .ref su, .ref pt, .int 0, .int ti, .long 0, .int (-1), .int (-1)])), (su, .inr (10, [.long 0, .long 0]))] H := hP
  have hD : va_D A [(h0, .inr (6, [.ref te, .ref ta, .ref lo, .ref su, .ref pt, .int 0, .int ti, .long 0, .int (-1), .int (-1)])), (su, .inr (10, [.long 0, .long 0]))] := hD
  refine W.widen (k := 0) (n := 0) (Nat.le_of_ble_eq_true rfl) (Nat.le_of_ble_eq_true rfl) ?_
  have hw : r_2 = 0 := hw
  subst hw
  have hP9 := hP.sub (ws' := [(h0, .inr (6, [.ref te, .ref ta, .ref lo, .ref su, .ref pt, .int 0, .int ti, .long 0, .int (-1), .int (-1)])), (su, .inr (10, [.long 0, .long 0]))]) [0, 1] rfl
  have hD9 := hD.sub (ws' := [(h0, .inr (6, [.ref te, .ref ta, .ref lo, .ref su, .ref pt, .int 0, .int ti, .long 0, .int (-1), .int (-1)])), (su, .inr (10, [.long 0, .long 0]))]) [0, 1] (by decide) rfl
  have hK9 := hK.sub (tys' := []) [] rfl
  refine W.widen (k := 0) (n := 0) (Nat.le_of_ble_eq_true rfl) (Nat.le_of_ble_eq_true rfl) ?_
  exact W.lret (v := 0) hx hb hr (fun t ht hW => ⟨⟨0, (), rfl, rfl, by rw [ht]; exact hP9, va_K.moved hW.alike hK9, hD9⟩, hS.F ht⟩) hS.2.2 dX6_wholeV_21
def ow_c_X6_restOfV : List Cond := [.methodLink RX6 86 yX6_sumUp, .instanceMethod yX6_sumUp, .selects RX6 yX6_sumUp yX6_sumUp, .initialized RX6, .fieldLink RX6 27 "DeadlineShare$State" "sum" "LDeadlineShare$Wide;", .methodLink RX6 97 yX10_modulo, .instanceMethod yX10_modulo, .selects RX10 yX10_modulo yX10_modulo, .initialized RX10]
def wq_c_X6_restOfV : List Cond := .code yX6_restOfV cX6_restOfV 2 (some .long) :: (ow_c_X6_restOfV ++ (wq_c_X6_sumUp ++ (u_ws RX6 TX6 10 ++ (wq_c_X10_modulo1 ++ ([] : List Cond)))))
theorem tb_c_X6_restOfV : ∀ w ∈ wq_c_X6_restOfV, q_g w := by
  unfold wq_c_X6_restOfV ow_c_X6_restOfV
  exact q_cons tw_156 (q_app (q_cons tw_151 (q_cons tw_150 (q_cons tw_149 (q_cons tw_72 (q_cons tw_59 (q_cons tw_155 (q_cons tw_154 (q_cons tw_153 (q_cons tw_44 q_nil))))))))) (q_app tb_c_X6_sumUp (q_app tu_X6 (q_app tb_c_X10_modulo1 q_nil))))
set_option maxHeartbeats 4000000 in
set_option maxRecDepth 100000 in
theorem c_X6_restOfV (l : Launch) (dC : Nat → ClassId) (dI : Nat → Nat → Nat) (h0 : Nat) (te : Nat) (ta : Nat) (lo : Nat) (su : Nat) (pt : Nat) (ti : Int32) (sz : Nat) : Met l yX6_restOfV wq_c_X6_restOfV ({ frames := 2, cells := 0, slots := 0, locals := 47 } : Room) (va_Pc [.ref h0] (fun U => U.heap.size = sz ∧ va_P (dC, dI) vwCl [(h0, .inr (6, [.ref te, .ref ta, .ref lo, .ref su, .ref pt, .int 0, .int ti, .long 0, .int (-1), .int (-1)])), (su, .inr (10, [.long 0, .long 0]))] U.heap ∧ va_K (dC, dI) vwCl [] U ∧ va_D (fun _ => True) [(h0, .inr (6, [.ref te, .ref ta, .ref lo, .ref su, .ref pt, .int 0, .int ti, .long 0, .int (-1), .int (-1)])), (su, .inr (10, [.long 0, .long 0]))])) (va_Ql (fun (r : Int64) (_ : Unit) => r = 0) (fun (_ : Unit) t => va_P (dC, dI) vwCl [(h0, .inr (6, [.ref te, .ref ta, .ref lo, .ref su, .ref pt, .int 0, .int ti, .long 0, .int (-1), .int (-1)])), (su, .inr (10, [.long 0, .long 0]))] t.heap ∧ va_K (dC, dI) vwCl [] t ∧ va_D (va_A [(h0, .inr (6, [.ref te, .ref ta, .ref lo, .ref su, .ref pt, .int 0, .int ti, .long 0, .int (-1), .int (-1)])), (su, .inr (10, [.long 0, .long 0]))] sz) [(h0, .inr (6, [.ref te, .ref ta, .ref lo, .ref su, .ref pt, .int 0, .int ti, .long 0, .int (-1), .int (-1)])), (su, .inr (10, [.long 0, .long 0]))]) (va_A [(h0, .inr (6, [.ref te, .ref ta, .ref lo, .ref su, .ref pt, .int 0, .int ti, .long 0, .int (-1), .int (-1)])), (su, .inr (10, [.long 0, .long 0]))] sz)) 0 0 (va_A [(h0, .inr (6, [.ref te, .ref ta, .ref lo, .ref su, .ref pt, .int 0, .int ti, .long 0, .int (-1), .int (-1)])), (su, .inr (10, [.long 0, .long 0]))] sz) := by
  refine Met.ofW (cc := cX6_restOfV) (maxL := 2) (ret := (some .long)) (by decide) rfl ?_
  intro p e s m args below meth c s₁ B hml hv
  obtain ⟨rfl, hsz, hP, hK, hD0⟩ := hv
  have hx := B.exec
  have hb := B.bytes
  have hr := B.returns
  have hts := atoms_spec (ws := wq_c_X6_restOfV) B.pre
  have hown : s.vm.findClass RX6 = some m.cls := findClass_of_methodNamed B.named
  have hlocks := B.notSynchronized
  subst hsz
  have hD := hD0.self (sz := s.heap.size)
  obtain ⟨A, hAe⟩ : ∃ A, A = va_A [(h0, .inr (6, [.ref te, .ref ta, .ref lo, .ref su, .ref pt, .int 0, .int ti, .long 0, .int (-1), .int (-1)])), (su, .inr (10, [.long 0, .long 0]))] s.heap.size := ⟨_, rfl⟩
  rw [← hAe] at hD ⊢
  have hA : ∀ q : Nat, s.heap.size ≤ q → A q := fun q h => by rw [hAe]; exact Or.inr h
  have hS : va_S A s.heap s.heap [] := va_S.rf
  have hP : va_P (dC, dI) vwCl [(h0, .inr (6, [.ref te, .ref ta, .ref lo, .ref su, .ref pt, .int 0, .int ti, .long 0, .int (-1), .int (-1)])), (su, .inr (10, [.long 0, .long 0]))] s.heap := hP
  have hl := lv_entry ([.ref h0]) (n := 2) (Nat.le_of_ble_eq_true rfl)
  rw [lg_entry_eq]
  generalize (lg_sl ([.ref h0]) ++ List.replicate (2 - (lg_sl ([.ref h0])).length) Slot.unset).toArray = ls at hl ⊢
  have hl : lv_has ls 2 [(0, .ref h0)] := hl
  refine lv_aload_n hx hb dX6_restOfV_0 rfl (lv_at hl 0 rfl) ?_
  have hPc := hP.sub (ws' := [(h0, .inr (6, [.ref te, .ref ta, .ref lo, .ref su, .ref pt, .int 0, .int ti, .long 0, .int (-1), .int (-1)])), (su, .inr (10, [.long 0, .long 0]))]) [0, 1] rfl
  have hDc := hD.sub (ws' := [(h0, .inr (6, [.ref te, .ref ta, .ref lo, .ref su, .ref pt, .int 0, .int ti, .long 0, .int (-1), .int (-1)])), (su, .inr (10, [.long 0, .long 0]))]) [0, 1] (by decide) rfl
  have hKc := hK.sub (tys' := []) [] rfl
  have hFc := va_free (wc := [(h0, .inr (6, [.ref te, .ref ta, .ref lo, .ref su, .ref pt, .int 0, .int ti, .long 0, .int (-1), .int (-1)])), (su, .inr (10, [.long 0, .long 0]))]) hD hS hA [0, 1] rfl
  refine va_calli (va_runV (As := []) (rest := []) ⟨hx, hb, hml, hown, hts⟩ (c_X6_sumUp l dC dI h0 te ta lo su pt ti s.heap.size) (cwV 0 hts (gi_V (fun w_ h0_ => ⟨List.mem_cons_of_mem _ (List.mem_append_right _ (List.mem_append_left _ h0_)), (tb_c_X6_sumUp w_ h0_).2⟩) (List.mem_cons_of_mem _ (List.mem_append_left _ (List.mem_of_getElem? (i := 0) rfl))) (List.mem_cons_of_mem _ (List.mem_append_left _ (List.mem_of_getElem? (i := 1) rfl))) (List.mem_cons_of_mem _ (List.mem_append_left _ (List.mem_of_getElem? (i := 2) rfl))) (List.mem_cons_of_mem _ (List.mem_append_left _ (List.mem_of_getElem? (i := 3) rfl)))) rfl rfl rfl (by decide +kernel) ⟨Nat.le_of_ble_eq_true rfl, Nat.le_of_ble_eq_true rfl⟩) ⟨fun a U g mk q => by obtain ⟨q0, q1, qP, qK, qD⟩ := q; exact ⟨q0, q1, qP, va_K.moved (u := U) (U := U.calling g mk a) (Vm.Alike.refl U.vm) qK, qD⟩, va_recv hKc hPc (ci := 6) (q0 := 0) rfl rfl, fun U hU hW => ⟨rfl, by rw [hU], by rw [hU]; exact hPc, va_K.moved hW.alike hKc, hDc.weaken (fun _ _ _ _ => trivial)⟩⟩ rfl rfl hl.1 rfl (lv_room (Nat.le_of_ble_eq_true rfl)) dX6_restOfV_1 ⟨Nat.le_of_ble_eq_true rfl, Nat.le_of_ble_eq_true rfl⟩) hS (fun q _ h => hFc q h) hFc (fun r_1 u t H1 locs ht hvm hw hB hz1 hk1 hS => ?_)
  obtain ⟨hP1, hK1, hD1⟩ := hB
  rw [ht] at hP1
  have hK1 := va_K.moved hvm.symm hK1
  obtain ⟨hP, hD⟩ := va_join (wr := []) (w1 := [(h0, .inr (6, [.ref te, .ref ta, .ref lo, .ref su, .ref pt, .int 0, .int ti, .long 0, .int (-1), .int (-1)])), (su, .inr (10, [.long 0, .long 0]))]) hP hD [0, 1] [] rfl rfl (by decide) (by decide) hk1 hFc hP1 hD1
  generalize H1 = H at hP hS ⊢
  have hP : va_P (dC, dI) vwCl [(h0, .inr (6, [.ref te, .ref ta, .ref lo, .ref su, .ref pt, .int 0, .int ti, .long 0, .int (-1), .int (-1)])), (su, .inr (10, [.long 0, .long 0]))] H := hP
  have hD : va_D A [(h0, .inr (6, [.ref te, .ref ta, .ref lo, .ref su, .ref pt, .int 0, .int ti, .long 0, .int (-1), .int (-1)])), (su, .inr (10, [.long 0, .long 0]))] := hD
  refine W.widen (k := 0) (n := 0) (Nat.le_of_ble_eq_true rfl) (Nat.le_of_ble_eq_true rfl) ?_
  have hw : r_1 = 1 := hw
  subst hw
  refine lv_istore_n (lv' := [(1, .int 1), (0, .ref h0)]) hx hb dX6_restOfV_4 rfl hl (by decide) rfl (fun ls hl => ?_)
  refine lv_aload_n hx hb dX6_restOfV_5 rfl (lv_at hl 1 rfl) ?_
  refine va_get (D := (dC, dI)) (ci := 6) (v := .ref su) (C := RX6) (T := TX6) (N := 10) hx hb hts (fun _ h0_ => List.mem_cons_of_mem _ (List.mem_append_right _ (List.mem_append_right _ (List.mem_append_left _ h0_)))) hown hK hP 0 rfl rfl 3 (by decide) (hts (.fieldLink RX6 27 "DeadlineShare$State" "sum" "LDeadlineShare$Wide;") (List.mem_cons_of_mem _ (List.mem_append_left _ (List.mem_of_getElem? (i := 4) rfl)))) (fun _ h9 => h9) rfl dX6_restOfV_6 ?_
  refine lv_iload_n hx hb dX6_restOfV_9 rfl (lv_at hl 0 rfl) ?_
  refine lv_i2l (v := 1) hx hb dX6_restOfV_10 (by decide) ?_
  have hPc := hP.sub (ws' := [(su, .inr (10, [.long 0, .long 0]))]) [1] rfl
  have hDc := hD.sub (ws' := [(su, .inr (10, [.long 0, .long 0]))]) [1] (by decide) rfl
  have hKc := hK.sub (tys' := []) [] rfl
  have hFc := va_free (wc := [(su, .inr (10, [.long 0, .long 0]))]) hD hS hA [1] rfl
  refine va_calll (va_runV (As := [.long 1]) (rest := []) ⟨hx, hb, hml, hown, hts⟩ (c_X10_modulo1 l dC dI su H.size) (cwV 1 hts (gi_V (fun w_ h0_ => ⟨List.mem_cons_of_mem _ (List.mem_append_right _ (List.mem_append_right _ (List.mem_append_right _ (List.mem_append_left _ h0_)))), (tb_c_X10_modulo1 w_ h0_).2⟩) (List.mem_cons_of_mem _ (List.mem_append_left _ (List.mem_of_getElem? (i := 5) rfl))) (List.mem_cons_of_mem _ (List.mem_append_left _ (List.mem_of_getElem? (i := 6) rfl))) (List.mem_cons_of_mem _ (List.mem_append_left _ (List.mem_of_getElem? (i := 7) rfl))) (List.mem_cons_of_mem _ (List.mem_append_left _ (List.mem_of_getElem? (i := 8) rfl)))) rfl rfl rfl (by decide +kernel) ⟨Nat.le_of_ble_eq_true rfl, Nat.le_of_ble_eq_true rfl⟩) ⟨fun a U g mk q => by obtain ⟨q0, q1, qP, qK, qD⟩ := q; exact ⟨q0, q1, qP, va_K.moved (u := U) (U := U.calling g mk a) (Vm.Alike.refl U.vm) qK, qD⟩, va_recv hKc hPc (ci := 10) (q0 := 0) rfl rfl, fun U hU hW => ⟨rfl, by rw [hU], by rw [hU]; exact hPc, va_K.moved hW.alike hKc, hDc.weaken (fun _ _ _ _ => trivial)⟩⟩ rfl rfl hl.1 rfl (lv_room (Nat.le_of_ble_eq_true rfl)) dX6_restOfV_11 ⟨Nat.le_of_ble_eq_true rfl, Nat.le_of_ble_eq_true rfl⟩) hS (fun q _ h => hFc q h) hFc (fun r_2 u t H1 locs ht hvm hw hB hz1 hk1 hS => ?_)
  obtain ⟨hP1, hK1, hD1⟩ := hB
  rw [ht] at hP1
  have hK1 := va_K.moved hvm.symm hK1
  obtain ⟨hP, hD⟩ := va_join (wr := [(h0, .inr (6, [.ref te, .ref ta, .ref lo, .ref su, .ref pt, .int 0, .int ti, .long 0, .int (-1), .int (-1)]))]) (w1 := [(su, .inr (10, [.long 0, .long 0]))]) hP hD [1] [0] rfl rfl (by decide) (by decide) hk1 hFc hP1 hD1
  generalize H1 = H at hP hS ⊢
  have hP : va_P (dC, dI) vwCl [(h0, .inr (6, [.ref te, .ref ta, .ref lo, .ref su, .ref pt, .int 0, .int ti, .long 0, .int (-1), .int (-1)])), (su, .inr (10, [.long 0, .long 0]))] H := hP
  have hD : va_D A [(h0, .inr (6, [.ref te, .ref ta, .ref lo, .ref su, .ref pt, .int 0, .int ti, .long 0, .int (-1), .int (-1)])), (su, .inr (10, [.long 0, .long 0]))] := hD
  refine W.widen (k := 0) (n := 0) (Nat.le_of_ble_eq_true rfl) (Nat.le_of_ble_eq_true rfl) ?_
  have hw : r_2 = 0 := hw
  subst hw
  have hP9 := hP.sub (ws' := [(h0, .inr (6, [.ref te, .ref ta, .ref lo, .ref su, .ref pt, .int 0, .int ti, .long 0, .int (-1), .int (-1)])), (su, .inr (10, [.long 0, .long 0]))]) [0, 1] rfl
  have hD9 := hD.sub (ws' := [(h0, .inr (6, [.ref te, .ref ta, .ref lo, .ref su, .ref pt, .int 0, .int ti, .long 0, .int (-1), .int (-1)])), (su, .inr (10, [.long 0, .long 0]))]) [0, 1] (by decide) rfl
  have hK9 := hK.sub (tys' := []) [] rfl
  refine W.widen (k := 0) (n := 0) (Nat.le_of_ble_eq_true rfl) (Nat.le_of_ble_eq_true rfl) ?_
  exact W.lret (v := 0) hx hb hr (fun t ht hW => ⟨⟨0, (), rfl, rfl, by rw [ht]; exact hP9, va_K.moved hW.alike hK9, hD9⟩, hS.F ht⟩) hS.2.2 dX6_restOfV_14
def ow_c_X6_howManyAre : List Cond := [.fieldLink RX6 48 "DeadlineShare$State" "count" "I"]
def wq_c_X6_howManyAre : List Cond := .code yX6_howManyAre cX6_howManyAre 4 (some .int) :: (ow_c_X6_howManyAre ++ (u_ws RX6 TX6 10 ++ ([] : List Cond)))
theorem tb_c_X6_howManyAre : ∀ w ∈ wq_c_X6_howManyAre, q_g w := by
  unfold wq_c_X6_howManyAre ow_c_X6_howManyAre
  exact q_cons tw_157 (q_app (q_cons tw_135 q_nil) (q_app tu_X6 q_nil))
set_option maxHeartbeats 4000000 in
set_option maxRecDepth 100000 in
theorem c_X6_howManyAre (l : Launch) (dC : Nat → ClassId) (dI : Nat → Nat → Nat) (h0 : Nat) (kd : Int32) (te : Nat) (ta : Nat) (lo : Nat) (su : Nat) (pt : Nat) (ti : Int32) (sz : Nat) : Met l yX6_howManyAre wq_c_X6_howManyAre ({ frames := 0, cells := 0, slots := 0, locals := 0 } : Room) (va_Pc [.ref h0, .int kd] (fun U => U.heap.size = sz ∧ va_P (dC, dI) vwCl [(h0, .inr (6, [.ref te, .ref ta, .ref lo, .ref su, .ref pt, .int 0, .int ti, .long 0, .int (-1), .int (-1)]))] U.heap ∧ va_K (dC, dI) vwCl [] U ∧ va_D (fun _ => True) [(h0, .inr (6, [.ref te, .ref ta, .ref lo, .ref su, .ref pt, .int 0, .int ti, .long 0, .int (-1), .int (-1)]))])) (va_Qi (fun (r : Int32) (_ : Unit) => r = 0) (fun (_ : Unit) t => va_P (dC, dI) vwCl [(h0, .inr (6, [.ref te, .ref ta, .ref lo, .ref su, .ref pt, .int 0, .int ti, .long 0, .int (-1), .int (-1)]))] t.heap ∧ va_K (dC, dI) vwCl [] t ∧ va_D (va_A [(h0, .inr (6, [.ref te, .ref ta, .ref lo, .ref su, .ref pt, .int 0, .int ti, .long 0, .int (-1), .int (-1)]))] sz) [(h0, .inr (6, [.ref te, .ref ta, .ref lo, .ref su, .ref pt, .int 0, .int ti, .long 0, .int (-1), .int (-1)]))]) (va_A [(h0, .inr (6, [.ref te, .ref ta, .ref lo, .ref su, .ref pt, .int 0, .int ti, .long 0, .int (-1), .int (-1)]))] sz)) 0 0 (va_A [(h0, .inr (6, [.ref te, .ref ta, .ref lo, .ref su, .ref pt, .int 0, .int ti, .long 0, .int (-1), .int (-1)]))] sz) := by
  refine Met.ofW (cc := cX6_howManyAre) (maxL := 4) (ret := (some .int)) (by decide) rfl ?_
  intro p e s m args below meth c s₁ B hml hv
  obtain ⟨rfl, hsz, hP, hK, hD0⟩ := hv
  have hx := B.exec
  have hb := B.bytes
  have hr := B.returns
  have hts := atoms_spec (ws := wq_c_X6_howManyAre) B.pre
  have hown : s.vm.findClass RX6 = some m.cls := findClass_of_methodNamed B.named
  have hlocks := B.notSynchronized
  subst hsz
  have hD := hD0.self (sz := s.heap.size)
  obtain ⟨A, hAe⟩ : ∃ A, A = va_A [(h0, .inr (6, [.ref te, .ref ta, .ref lo, .ref su, .ref pt, .int 0, .int ti, .long 0, .int (-1), .int (-1)]))] s.heap.size := ⟨_, rfl⟩
  rw [← hAe] at hD ⊢
  have hA : ∀ q : Nat, s.heap.size ≤ q → A q := fun q h => by rw [hAe]; exact Or.inr h
  have hS : va_S A s.heap s.heap [] := va_S.rf
  have hP : va_P (dC, dI) vwCl [(h0, .inr (6, [.ref te, .ref ta, .ref lo, .ref su, .ref pt, .int 0, .int ti, .long 0, .int (-1), .int (-1)]))] s.heap := hP
  have hl := lv_entry ([.ref h0, .int kd]) (n := 4) (Nat.le_of_ble_eq_true rfl)
  rw [lg_entry_eq]
  generalize (lg_sl ([.ref h0, .int kd]) ++ List.replicate (4 - (lg_sl ([.ref h0, .int kd])).length) Slot.unset).toArray = ls at hl ⊢
  have hl : lv_has ls 4 [(0, .ref h0), (1, .int kd)] := hl
  refine lv_iconst (v := 0) hx hb dX6_howManyAre_0 (by decide) ?_
  refine lv_istore_n (lv' := [(2, .int 0), (0, .ref h0), (1, .int kd)]) hx hb dX6_howManyAre_1 rfl hl (by decide) rfl (fun ls hl => ?_)
  refine lv_iconst (v := 0) hx hb dX6_howManyAre_2 (by decide) ?_
  refine lv_istore_n (lv' := [(3, .int 0), (2, .int 0), (0, .ref h0), (1, .int kd)]) hx hb dX6_howManyAre_3 rfl hl (by decide) rfl (fun ls hl => ?_)
  refine lv_iload_n hx hb dX6_howManyAre_4 rfl (lv_at hl 0 rfl) ?_
  refine lv_aload_n hx hb dX6_howManyAre_5 rfl (lv_at hl 2 rfl) ?_
  refine va_get (D := (dC, dI)) (ci := 6) (v := .int 0) (C := RX6) (T := TX6) (N := 10) hx hb hts (fun _ h0_ => List.mem_cons_of_mem _ (List.mem_append_right _ (List.mem_append_left _ h0_))) hown hK hP 0 rfl rfl 5 (by decide) (hts (.fieldLink RX6 48 "DeadlineShare$State" "count" "I") (List.mem_cons_of_mem _ (List.mem_append_left _ (List.mem_of_getElem? (i := 0) rfl)))) (fun _ h9 => h9) rfl dX6_howManyAre_6 ?_
  refine lv_icmp_ge (tgt := 34) hx hb dX6_howManyAre_9 (by decide) (fun _ => ?_) (fun c => absurd (by decide) c)
  refine lv_iload_n hx hb dX6_howManyAre_34 rfl (lv_at hl 1 rfl) ?_
  have hP9 := hP.sub (ws' := [(h0, .inr (6, [.ref te, .ref ta, .ref lo, .ref su, .ref pt, .int 0, .int ti, .long 0, .int (-1), .int (-1)]))]) [0] rfl
  have hD9 := hD.sub (ws' := [(h0, .inr (6, [.ref te, .ref ta, .ref lo, .ref su, .ref pt, .int 0, .int ti, .long 0, .int (-1), .int (-1)]))]) [0] (by decide) rfl
  have hK9 := hK.sub (tys' := []) [] rfl
  refine W.widen (k := 0) (n := 0) (Nat.le_of_ble_eq_true rfl) (Nat.le_of_ble_eq_true rfl) ?_
  exact W.iret (v := 0) hx hb hr (fun t ht hW => ⟨⟨0, (), rfl, rfl, by rw [ht]; exact hP9, va_K.moved hW.alike hK9, hD9⟩, hS.F ht⟩) hS.2.2 dX6_howManyAre_35
def ow_c_X6_howManyHaveScripts : List Cond := [.fieldLink RX6 48 "DeadlineShare$State" "count" "I"]
def wq_c_X6_howManyHaveScripts : List Cond := .code yX6_howManyHaveScripts cX6_howManyHaveScripts 3 (some .int) :: (ow_c_X6_howManyHaveScripts ++ (u_ws RX6 TX6 10 ++ ([] : List Cond)))
theorem tb_c_X6_howManyHaveScripts : ∀ w ∈ wq_c_X6_howManyHaveScripts, q_g w := by
  unfold wq_c_X6_howManyHaveScripts ow_c_X6_howManyHaveScripts
  exact q_cons tw_158 (q_app (q_cons tw_135 q_nil) (q_app tu_X6 q_nil))
set_option maxHeartbeats 4000000 in
set_option maxRecDepth 100000 in
theorem c_X6_howManyHaveScripts (l : Launch) (dC : Nat → ClassId) (dI : Nat → Nat → Nat) (h0 : Nat) (te : Nat) (ta : Nat) (lo : Nat) (su : Nat) (pt : Nat) (ti : Int32) (sz : Nat) : Met l yX6_howManyHaveScripts wq_c_X6_howManyHaveScripts ({ frames := 0, cells := 0, slots := 0, locals := 0 } : Room) (va_Pc [.ref h0] (fun U => U.heap.size = sz ∧ va_P (dC, dI) vwCl [(h0, .inr (6, [.ref te, .ref ta, .ref lo, .ref su, .ref pt, .int 0, .int ti, .long 0, .int (-1), .int (-1)]))] U.heap ∧ va_K (dC, dI) vwCl [] U ∧ va_D (fun _ => True) [(h0, .inr (6, [.ref te, .ref ta, .ref lo, .ref su, .ref pt, .int 0, .int ti, .long 0, .int (-1), .int (-1)]))])) (va_Qi (fun (r : Int32) (_ : Unit) => r = 0) (fun (_ : Unit) t => va_P (dC, dI) vwCl [(h0, .inr (6, [.ref te, .ref ta, .ref lo, .ref su, .ref pt, .int 0, .int ti, .long 0, .int (-1), .int (-1)]))] t.heap ∧ va_K (dC, dI) vwCl [] t ∧ va_D (va_A [(h0, .inr (6, [.ref te, .ref ta, .ref lo, .ref su, .ref pt, .int 0, .int ti, .long 0, .int (-1), .int (-1)]))] sz) [(h0, .inr (6, [.ref te, .ref ta, .ref lo, .ref su, .ref pt, .int 0, .int ti, .long 0, .int (-1), .int (-1)]))]) (va_A [(h0, .inr (6, [.ref te, .ref ta, .ref lo, .ref su, .ref pt, .int 0, .int ti, .long 0, .int (-1), .int (-1)]))] sz)) 0 0 (va_A [(h0, .inr (6, [.ref te, .ref ta, .ref lo, .ref su, .ref pt, .int 0, .int ti, .long 0, .int (-1), .int (-1)]))] sz) := by
  refine Met.ofW (cc := cX6_howManyHaveScripts) (maxL := 3) (ret := (some .int)) (by decide) rfl ?_
  intro p e s m args below meth c s₁ B hml hv
  obtain ⟨rfl, hsz, hP, hK, hD0⟩ := hv
  have hx := B.exec
  have hb := B.bytes
  have hr := B.returns
  have hts := atoms_spec (ws := wq_c_X6_howManyHaveScripts) B.pre
  have hown : s.vm.findClass RX6 = some m.cls := findClass_of_methodNamed B.named
  have hlocks := B.notSynchronized
  subst hsz
  have hD := hD0.self (sz := s.heap.size)
  obtain ⟨A, hAe⟩ : ∃ A, A = va_A [(h0, .inr (6, [.ref te, .ref ta, .ref lo, .ref su, .ref pt, .int 0, .int ti, .long 0, .int (-1), .int (-1)]))] s.heap.size := ⟨_, rfl⟩
  rw [← hAe] at hD ⊢
  have hA : ∀ q : Nat, s.heap.size ≤ q → A q := fun q h => by rw [hAe]; exact Or.inr h
  have hS : va_S A s.heap s.heap [] := va_S.rf
  have hP : va_P (dC, dI) vwCl [(h0, .inr (6, [.ref te, .ref ta, .ref lo, .ref su, .ref pt, .int 0, .int ti, .long 0, .int (-1), .int (-1)]))] s.heap := hP
  have hl := lv_entry ([.ref h0]) (n := 3) (Nat.le_of_ble_eq_true rfl)
  rw [lg_entry_eq]
  generalize (lg_sl ([.ref h0]) ++ List.replicate (3 - (lg_sl ([.ref h0])).length) Slot.unset).toArray = ls at hl ⊢
  have hl : lv_has ls 3 [(0, .ref h0)] := hl
  refine lv_iconst (v := 0) hx hb dX6_howManyHaveScripts_0 (by decide) ?_
  refine lv_istore_n (lv' := [(1, .int 0), (0, .ref h0)]) hx hb dX6_howManyHaveScripts_1 rfl hl (by decide) rfl (fun ls hl => ?_)
  refine lv_iconst (v := 0) hx hb dX6_howManyHaveScripts_2 (by decide) ?_
  refine lv_istore_n (lv' := [(2, .int 0), (1, .int 0), (0, .ref h0)]) hx hb dX6_howManyHaveScripts_3 rfl hl (by decide) rfl (fun ls hl => ?_)
  refine lv_iload_n hx hb dX6_howManyHaveScripts_4 rfl (lv_at hl 0 rfl) ?_
  refine lv_aload_n hx hb dX6_howManyHaveScripts_5 rfl (lv_at hl 2 rfl) ?_
  refine va_get (D := (dC, dI)) (ci := 6) (v := .int 0) (C := RX6) (T := TX6) (N := 10) hx hb hts (fun _ h0_ => List.mem_cons_of_mem _ (List.mem_append_right _ (List.mem_append_left _ h0_))) hown hK hP 0 rfl rfl 5 (by decide) (hts (.fieldLink RX6 48 "DeadlineShare$State" "count" "I") (List.mem_cons_of_mem _ (List.mem_append_left _ (List.mem_of_getElem? (i := 0) rfl)))) (fun _ h9 => h9) rfl dX6_howManyHaveScripts_6 ?_
  refine lv_icmp_ge (tgt := 36) hx hb dX6_howManyHaveScripts_9 (by decide) (fun _ => ?_) (fun c => absurd (by decide) c)
  refine lv_iload_n hx hb dX6_howManyHaveScripts_36 rfl (lv_at hl 1 rfl) ?_
  have hP9 := hP.sub (ws' := [(h0, .inr (6, [.ref te, .ref ta, .ref lo, .ref su, .ref pt, .int 0, .int ti, .long 0, .int (-1), .int (-1)]))]) [0] rfl
  have hD9 := hD.sub (ws' := [(h0, .inr (6, [.ref te, .ref ta, .ref lo, .ref su, .ref pt, .int 0, .int ti, .long 0, .int (-1), .int (-1)]))]) [0] (by decide) rfl
  have hK9 := hK.sub (tys' := []) [] rfl
  refine W.widen (k := 0) (n := 0) (Nat.le_of_ble_eq_true rfl) (Nat.le_of_ble_eq_true rfl) ?_
  exact W.iret (v := 0) hx hb hr (fun t ht hW => ⟨⟨0, (), rfl, rfl, by rw [ht]; exact hP9, va_K.moved hW.alike hK9, hD9⟩, hS.F ht⟩) hS.2.2 dX6_howManyHaveScripts_37
def ow_c_X6_eligibleBits : List Cond := [.methodLink RX6 176 yX6_wholeV, .instanceMethod yX6_wholeV, .selects RX6 yX6_wholeV yX6_wholeV, .initialized RX6, .fieldLink RX6 48 "DeadlineShare$State" "count" "I"]
def wq_c_X6_eligibleBits : List Cond := .code yX6_eligibleBits cX6_eligibleBits 5 (some .int) :: (ow_c_X6_eligibleBits ++ (wq_c_X6_wholeV ++ (u_ws RX6 TX6 10 ++ ([] : List Cond))))
theorem tb_c_X6_eligibleBits : ∀ w ∈ wq_c_X6_eligibleBits, q_g w := by
  unfold wq_c_X6_eligibleBits ow_c_X6_eligibleBits
  exact q_cons tw_162 (q_app (q_cons tw_161 (q_cons tw_160 (q_cons tw_159 (q_cons tw_72 (q_cons tw_135 q_nil))))) (q_app tb_c_X6_wholeV (q_app tu_X6 q_nil)))
set_option maxHeartbeats 4000000 in
set_option maxRecDepth 100000 in
theorem c_X6_eligibleBits (l : Launch) (dC : Nat → ClassId) (dI : Nat → Nat → Nat) (h0 : Nat) (te : Nat) (ta : Nat) (lo : Nat) (su : Nat) (pt : Nat) (ti : Int32) (sz : Nat) : Met l yX6_eligibleBits wq_c_X6_eligibleBits ({ frames := 3, cells := 0, slots := 0, locals := 68 } : Room) (va_Pc [.ref h0] (fun U => U.heap.size = sz ∧ va_P (dC, dI) vwCl [(h0, .inr (6, [.ref te, .ref ta, .ref lo, .ref su, .ref pt, .int 0, .int ti, .long 0, .int (-1), .int (-1)])), (su, .inr (10, [.long 0, .long 0]))] U.heap ∧ va_K (dC, dI) vwCl [] U ∧ va_D (fun _ => True) [(h0, .inr (6, [.ref te, .ref ta, .ref lo, .ref su, .ref pt, .int 0, .int ti, .long 0, .int (-1), .int (-1)])), (su, .inr (10, [.long 0, .long 0]))])) (va_Qi (fun (r : Int32) (_ : Unit) => r = 0) (fun (_ : Unit) t => va_P (dC, dI) vwCl [(h0, .inr (6, [.ref te, .ref ta, .ref lo, .ref su, .ref pt, .int 0, .int ti, .long 0, .int (-1), .int (-1)])), (su, .inr (10, [.long 0, .long 0]))] t.heap ∧ va_K (dC, dI) vwCl [] t ∧ va_D (va_A [(h0, .inr (6, [.ref te, .ref ta, .ref lo, .ref su, .ref pt, .int 0, .int ti, .long 0, .int (-1), .int (-1)])), (su, .inr (10, [.long 0, .long 0]))] sz) [(h0, .inr (6, [.ref te, .ref ta, .ref lo, .ref su, .ref pt, .int 0, .int ti, .long 0, .int (-1), .int (-1)])), (su, .inr (10, [.long 0, .long 0]))]) (va_A [(h0, .inr (6, [.ref te, .ref ta, .ref lo, .ref su, .ref pt, .int 0, .int ti, .long 0, .int (-1), .int (-1)])), (su, .inr (10, [.long 0, .long 0]))] sz)) 0 0 (va_A [(h0, .inr (6, [.ref te, .ref ta, .ref lo, .ref su, .ref pt, .int 0, .int ti, .long 0, .int (-1), .int (-1)])), (su, .inr (10, [.long 0, .long 0]))] sz) := by
  refine Met.ofW (cc := cX6_eligibleBits) (maxL := 5) (ret := (some .int)) (by decide) rfl ?_
  intro p e s m args below meth c s₁ B hml hv
  obtain ⟨rfl, hsz, hP, hK, hD0⟩ := hv
  have hx := B.exec
  have hb := B.bytes
  have hr := B.returns
  have hts := atoms_spec (ws := wq_c_X6_eligibleBits) B.pre
  have hown : s.vm.findClass RX6 = some m.cls := findClass_of_methodNamed B.named
  have hlocks := B.notSynchronized
  subst hsz
  have hD := hD0.self (sz := s.heap.size)
  obtain ⟨A, hAe⟩ : ∃ A, A = va_A [(h0, .inr (6, [.ref te, .ref ta, .ref lo, .ref su, .ref pt, .int 0, .int ti, .long 0, .int (-1), .int (-1)])), (su, .inr (10, [.long 0, .long 0]))] s.heap.size := ⟨_, rfl⟩
  rw [← hAe] at hD ⊢
  have hA : ∀ q : Nat, s.heap.size ≤ q → A q := fun q h => by rw [hAe]; exact Or.inr h
  have hS : va_S A s.heap s.heap [] := va_S.rf
  have hP : va_P (dC, dI) vwCl [(h0, .inr (6, [.ref te, .ref ta, .ref lo, .ref su, .ref pt, .int 0, .int ti, .long 0, .int (-1), .int (-1)])), (su, .inr (10, [.long 0, .long 0]))] s.heap := hP
  have hl := lv_entry ([.ref h0]) (n := 5) (Nat.le_of_ble_eq_true rfl)
  rw [lg_entry_eq]
  generalize (lg_sl ([.ref h0]) ++ List.replicate (5 - (lg_sl ([.ref h0])).length) Slot.unset).toArray = ls at hl ⊢
  have hl : lv_has ls 5 [(0, .ref h0)] := hl
  refine lv_aload_n hx hb dX6_eligibleBits_0 rfl (lv_at hl 0 rfl) ?_
  have hPc := hP.sub (ws' := [(h0, .inr (6, [.ref te, .ref ta, .ref lo, .ref su, .ref pt, .int 0, .int ti, .long 0, .int (-1), .int (-1)])), (su, .inr (10, [.long 0, .long 0]))]) [0, 1] rfl
  have hDc := hD.sub (ws' := [(h0, .inr (6, [.ref te, .ref ta, .ref lo, .ref su, .ref pt, .int 0, .int ti, .long 0, .int (-1), .int (-1)])), (su, .inr (10, [.long 0, .long 0]))]) [0, 1] (by decide) rfl
  have hKc := hK.sub (tys' := []) [] rfl
  have hFc := va_free (wc := [(h0, .inr (6, [.ref te, .ref ta, .ref lo, .ref su, .ref pt, .int 0, .int ti, .long 0, .int (-1), .int (-1)])), (su, .inr (10, [.long 0, .long 0]))]) hD hS hA [0, 1] rfl
  refine va_calll (va_runV (As := []) (rest := []) ⟨hx, hb, hml, hown, hts⟩ (c_X6_wholeV l dC dI h0 te ta lo su pt ti s.heap.size) (cwV 0 hts (gi_V (fun w_ h0_ => ⟨List.mem_cons_of_mem _ (List.mem_append_right _ (List.mem_append_left _ h0_)), (tb_c_X6_wholeV w_ h0_).2⟩) (List.mem_cons_of_mem _ (List.mem_append_left _ (List.mem_of_getElem? (i := 0) rfl))) (List.mem_cons_of_mem _ (List.mem_append_left _ (List.mem_of_getElem? (i := 1) rfl))) (List.mem_cons_of_mem _ (List.mem_append_left _ (List.mem_of_getElem? (i := 2) rfl))) (List.mem_cons_of_mem _ (List.mem_append_left _ (List.mem_of_getElem? (i := 3) rfl)))) rfl rfl rfl (by decide +kernel) ⟨Nat.le_of_ble_eq_true rfl, Nat.le_of_ble_eq_true rfl⟩) ⟨fun a U g mk q => by obtain ⟨q0, q1, qP, qK, qD⟩ := q; exact ⟨q0, q1, qP, va_K.moved (u := U) (U := U.calling g mk a) (Vm.Alike.refl U.vm) qK, qD⟩, va_recv hKc hPc (ci := 6) (q0 := 0) rfl rfl, fun U hU hW => ⟨rfl, by rw [hU], by rw [hU]; exact hPc, va_K.moved hW.alike hKc, hDc.weaken (fun _ _ _ _ => trivial)⟩⟩ rfl rfl hl.1 rfl (lv_room (Nat.le_of_ble_eq_true rfl)) dX6_eligibleBits_1 ⟨Nat.le_of_ble_eq_true rfl, Nat.le_of_ble_eq_true rfl⟩) hS (fun q _ h => hFc q h) hFc (fun r_1 u t H1 locs ht hvm hw hB hz1 hk1 hS => ?_)
  obtain ⟨hP1, hK1, hD1⟩ := hB
  rw [ht] at hP1
  have hK1 := va_K.moved hvm.symm hK1
  obtain ⟨hP, hD⟩ := va_join (wr := []) (w1 := [(h0, .inr (6, [.ref te, .ref ta, .ref lo, .ref su, .ref pt, .int 0, .int ti, .long 0, .int (-1), .int (-1)])), (su, .inr (10, [.long 0, .long 0]))]) hP hD [0, 1] [] rfl rfl (by decide) (by decide) hk1 hFc hP1 hD1
  generalize H1 = H at hP hS ⊢
  have hP : va_P (dC, dI) vwCl [(h0, .inr (6, [.ref te, .ref ta, .ref lo, .ref su, .ref pt, .int 0, .int ti, .long 0, .int (-1), .int (-1)])), (su, .inr (10, [.long 0, .long 0]))] H := hP
  have hD : va_D A [(h0, .inr (6, [.ref te, .ref ta, .ref lo, .ref su, .ref pt, .int 0, .int ti, .long 0, .int (-1), .int (-1)])), (su, .inr (10, [.long 0, .long 0]))] := hD
  refine W.widen (k := 0) (n := 0) (Nat.le_of_ble_eq_true rfl) (Nat.le_of_ble_eq_true rfl) ?_
  have hw : r_1 = 0 := hw
  subst hw
  refine lv_lstore_n (lv' := [(1, .long 0), (0, .ref h0)]) hx hb dX6_eligibleBits_4 rfl hl (by decide) rfl (fun ls hl => ?_)
  refine lv_iconst (v := 0) hx hb dX6_eligibleBits_5 (by decide) ?_
  refine lv_istore_n (lv' := [(3, .int 0), (1, .long 0), (0, .ref h0)]) hx hb dX6_eligibleBits_6 rfl hl (by decide) rfl (fun ls hl => ?_)
  refine lv_iconst (v := 0) hx hb dX6_eligibleBits_7 (by decide) ?_
  refine lv_istore (lv' := [(4, .int 0), (3, .int 0), (1, .long 0), (0, .ref h0)]) hx hb dX6_eligibleBits_8 hl (by decide) rfl (fun ls hl => ?_)
  refine lv_iload hx hb dX6_eligibleBits_10 (lv_at hl 0 rfl) ?_
  refine lv_aload_n hx hb dX6_eligibleBits_12 rfl (lv_at hl 3 rfl) ?_
  refine va_get (D := (dC, dI)) (ci := 6) (v := .int 0) (C := RX6) (T := TX6) (N := 10) hx hb hts (fun _ h0_ => List.mem_cons_of_mem _ (List.mem_append_right _ (List.mem_append_right _ (List.mem_append_left _ h0_)))) hown hK hP 0 rfl rfl 5 (by decide) (hts (.fieldLink RX6 48 "DeadlineShare$State" "count" "I") (List.mem_cons_of_mem _ (List.mem_append_left _ (List.mem_of_getElem? (i := 4) rfl)))) (fun _ h9 => h9) rfl dX6_eligibleBits_13 ?_
  refine lv_icmp_ge (tgt := 60) hx hb dX6_eligibleBits_16 (by decide) (fun _ => ?_) (fun c => absurd (by decide) c)
  refine lv_iload_n hx hb dX6_eligibleBits_60 rfl (lv_at hl 1 rfl) ?_
  have hP9 := hP.sub (ws' := [(h0, .inr (6, [.ref te, .ref ta, .ref lo, .ref su, .ref pt, .int 0, .int ti, .long 0, .int (-1), .int (-1)])), (su, .inr (10, [.long 0, .long 0]))]) [0, 1] rfl
  have hD9 := hD.sub (ws' := [(h0, .inr (6, [.ref te, .ref ta, .ref lo, .ref su, .ref pt, .int 0, .int ti, .long 0, .int (-1), .int (-1)])), (su, .inr (10, [.long 0, .long 0]))]) [0, 1] (by decide) rfl
  have hK9 := hK.sub (tys' := []) [] rfl
  refine W.widen (k := 0) (n := 0) (Nat.le_of_ble_eq_true rfl) (Nat.le_of_ble_eq_true rfl) ?_
  exact W.iret (v := 0) hx hb hr (fun t ht hW => ⟨⟨0, (), rfl, rfl, by rw [ht]; exact hP9, va_K.moved hW.alike hK9, hD9⟩, hS.F ht⟩) hS.2.2 dX6_eligibleBits_61
def ow_c_X6_eligibleAt : List Cond := [.methodLink RX6 179 yX6_eligibleBits, .instanceMethod yX6_eligibleBits, .selects RX6 yX6_eligibleBits yX6_eligibleBits, .initialized RX6, .fieldLink RX6 48 "DeadlineShare$State" "count" "I"]
def wq_c_X6_eligibleAt : List Cond := .code yX6_eligibleAt cX6_eligibleAt 4 (some .int) :: (ow_c_X6_eligibleAt ++ (wq_c_X6_eligibleBits ++ (u_ws RX6 TX6 10 ++ ([] : List Cond))))
theorem tb_c_X6_eligibleAt : ∀ w ∈ wq_c_X6_eligibleAt, q_g w := by
  unfold wq_c_X6_eligibleAt ow_c_X6_eligibleAt
  exact q_cons tw_166 (q_app (q_cons tw_165 (q_cons tw_164 (q_cons tw_163 (q_cons tw_72 (q_cons tw_135 q_nil))))) (q_app tb_c_X6_eligibleBits (q_app tu_X6 q_nil)))
set_option maxHeartbeats 4000000 in
set_option maxRecDepth 100000 in
theorem c_X6_eligibleAt (l : Launch) (dC : Nat → ClassId) (dI : Nat → Nat → Nat) (h0 : Nat) (kd : Int32) (te : Nat) (ta : Nat) (lo : Nat) (su : Nat) (pt : Nat) (ti : Int32) (sz : Nat) : Met l yX6_eligibleAt wq_c_X6_eligibleAt ({ frames := 4, cells := 0, slots := 0, locals := 92 } : Room) (va_Pc [.ref h0, .int kd] (fun U => U.heap.size = sz ∧ va_P (dC, dI) vwCl [(h0, .inr (6, [.ref te, .ref ta, .ref lo, .ref su, .ref pt, .int 0, .int ti, .long 0, .int (-1), .int (-1)])), (su, .inr (10, [.long 0, .long 0]))] U.heap ∧ va_K (dC, dI) vwCl [] U ∧ va_D (fun _ => True) [(h0, .inr (6, [.ref te, .ref ta, .ref lo, .ref su, .ref pt, .int 0, .int ti, .long 0, .int (-1), .int (-1)])), (su, .inr (10, [.long 0, .long 0]))])) (va_Qi (fun (r : Int32) (_ : Unit) => r = (-1)) (fun (_ : Unit) t => va_P (dC, dI) vwCl [(h0, .inr (6, [.ref te, .ref ta, .ref lo, .ref su, .ref pt, .int 0, .int ti, .long 0, .int (-1), .int (-1)])), (su, .inr (10, [.long 0, .long 0]))] t.heap ∧ va_K (dC, dI) vwCl [] t ∧ va_D (va_A [(h0, .inr (6, [.ref te, .ref ta, .ref lo, .ref su, .ref pt, .int 0, .int ti, .long 0, .int (-1), .int (-1)])), (su, .inr (10, [.long 0, .long 0]))] sz) [(h0, .inr (6, [.ref te, .ref ta, .ref lo, .ref su, .ref pt, .int 0, .int ti, .long 0, .int (-1), .int (-1)])), (su, .inr (10, [.long 0, .long 0]))]) (va_A [(h0, .inr (6, [.ref te, .ref ta, .ref lo, .ref su, .ref pt, .int 0, .int ti, .long 0, .int (-1), .int (-1)])), (su, .inr (10, [.long 0, .long 0]))] sz)) 0 0 (va_A [(h0, .inr (6, [.ref te, .ref ta, .ref lo, .ref su, .ref pt, .int 0, .int ti, .long 0, .int (-1), .int (-1)])), (su, .inr (10, [.long 0, .long 0]))] sz) := by
  refine Met.ofW (cc := cX6_eligibleAt) (maxL := 4) (ret := (some .int)) (by decide) rfl ?_
  intro p e s m args below meth c s₁ B hml hv
  obtain ⟨rfl, hsz, hP, hK, hD0⟩ := hv
  have hx := B.exec
  have hb := B.bytes
  have hr := B.returns
  have hts := atoms_spec (ws := wq_c_X6_eligibleAt) B.pre
  have hown : s.vm.findClass RX6 = some m.cls := findClass_of_methodNamed B.named
  have hlocks := B.notSynchronized
  subst hsz
  have hD := hD0.self (sz := s.heap.size)
  obtain ⟨A, hAe⟩ : ∃ A, A = va_A [(h0, .inr (6, [.ref te, .ref ta, .ref lo, .ref su, .ref pt, .int 0, .int ti, .long 0, .int (-1), .int (-1)])), (su, .inr (10, [.long 0, .long 0]))] s.heap.size := ⟨_, rfl⟩
  rw [← hAe] at hD ⊢
  have hA : ∀ q : Nat, s.heap.size ≤ q → A q := fun q h => by rw [hAe]; exact Or.inr h
  have hS : va_S A s.heap s.heap [] := va_S.rf
  have hP : va_P (dC, dI) vwCl [(h0, .inr (6, [.ref te, .ref ta, .ref lo, .ref su, .ref pt, .int 0, .int ti, .long 0, .int (-1), .int (-1)])), (su, .inr (10, [.long 0, .long 0]))] s.heap := hP
  have hl := lv_entry ([.ref h0, .int kd]) (n := 4) (Nat.le_of_ble_eq_true rfl)
  rw [lg_entry_eq]
  generalize (lg_sl ([.ref h0, .int kd]) ++ List.replicate (4 - (lg_sl ([.ref h0, .int kd])).length) Slot.unset).toArray = ls at hl ⊢
  have hl : lv_has ls 4 [(0, .ref h0), (1, .int kd)] := hl
  refine lv_aload_n hx hb dX6_eligibleAt_0 rfl (lv_at hl 0 rfl) ?_
  have hPc := hP.sub (ws' := [(h0, .inr (6, [.ref te, .ref ta, .ref lo, .ref su, .ref pt, .int 0, .int ti, .long 0, .int (-1), .int (-1)])), (su, .inr (10, [.long 0, .long 0]))]) [0, 1] rfl
  have hDc := hD.sub (ws' := [(h0, .inr (6, [.ref te, .ref ta, .ref lo, .ref su, .ref pt, .int 0, .int ti, .long 0, .int (-1), .int (-1)])), (su, .inr (10, [.long 0, .long 0]))]) [0, 1] (by decide) rfl
  have hKc := hK.sub (tys' := []) [] rfl
  have hFc := va_free (wc := [(h0, .inr (6, [.ref te, .ref ta, .ref lo, .ref su, .ref pt, .int 0, .int ti, .long 0, .int (-1), .int (-1)])), (su, .inr (10, [.long 0, .long 0]))]) hD hS hA [0, 1] rfl
  refine va_calli (va_runV (As := []) (rest := []) ⟨hx, hb, hml, hown, hts⟩ (c_X6_eligibleBits l dC dI h0 te ta lo su pt ti s.heap.size) (cwV 0 hts (gi_V (fun w_ h0_ => ⟨List.mem_cons_of_mem _ (List.mem_append_right _ (List.mem_append_left _ h0_)), (tb_c_X6_eligibleBits w_ h0_).2⟩) (List.mem_cons_of_mem _ (List.mem_append_left _ (List.mem_of_getElem? (i := 0) rfl))) (List.mem_cons_of_mem _ (List.mem_append_left _ (List.mem_of_getElem? (i := 1) rfl))) (List.mem_cons_of_mem _ (List.mem_append_left _ (List.mem_of_getElem? (i := 2) rfl))) (List.mem_cons_of_mem _ (List.mem_append_left _ (List.mem_of_getElem? (i := 3) rfl)))) rfl rfl rfl (by decide +kernel) ⟨Nat.le_of_ble_eq_true rfl, Nat.le_of_ble_eq_true rfl⟩) ⟨fun a U g mk q => by obtain ⟨q0, q1, qP, qK, qD⟩ := q; exact ⟨q0, q1, qP, va_K.moved (u := U) (U := U.calling g mk a) (Vm.Alike.refl U.vm) qK, qD⟩, va_recv hKc hPc (ci := 6) (q0 := 0) rfl rfl, fun U hU hW => ⟨rfl, by rw [hU], by rw [hU]; exact hPc, va_K.moved hW.alike hKc, hDc.weaken (fun _ _ _ _ => trivial)⟩⟩ rfl rfl hl.1 rfl (lv_room (Nat.le_of_ble_eq_true rfl)) dX6_eligibleAt_1 ⟨Nat.le_of_ble_eq_true rfl, Nat.le_of_ble_eq_true rfl⟩) hS (fun q _ h => hFc q h) hFc (fun r_1 u t H1 locs ht hvm hw hB hz1 hk1 hS => ?_)
  obtain ⟨hP1, hK1, hD1⟩ := hB
  rw [ht] at hP1
  have hK1 := va_K.moved hvm.symm hK1
  obtain ⟨hP, hD⟩ := va_join (wr := []) (w1 := [(h0, .inr (6, [.ref te, .ref ta, .ref lo, .ref su, .ref pt, .int 0, .int ti, .long 0, .int (-1), .int (-1)])), (su, .inr (10, [.long 0, .long 0]))]) hP hD [0, 1] [] rfl rfl (by decide) (by decide) hk1 hFc hP1 hD1
  generalize H1 = H at hP hS ⊢
  have hP : va_P (dC, dI) vwCl [(h0, .inr (6, [.ref te, .ref ta, .ref lo, .ref su, .ref pt, .int 0, .int ti, .long 0, .int (-1), .int (-1)])), (su, .inr (10, [.long 0, .long 0]))] H := hP
  have hD : va_D A [(h0, .inr (6, [.ref te, .ref ta, .ref lo, .ref su, .ref pt, .int 0, .int ti, .long 0, .int (-1), .int (-1)])), (su, .inr (10, [.long 0, .long 0]))] := hD
  refine W.widen (k := 0) (n := 0) (Nat.le_of_ble_eq_true rfl) (Nat.le_of_ble_eq_true rfl) ?_
  have hw : r_1 = 0 := hw
  subst hw
  refine lv_istore_n (lv' := [(2, .int 0), (0, .ref h0), (1, .int kd)]) hx hb dX6_eligibleAt_4 rfl hl (by decide) rfl (fun ls hl => ?_)
  refine lv_iconst (v := 0) hx hb dX6_eligibleAt_5 (by decide) ?_
  refine lv_istore_n (lv' := [(3, .int 0), (2, .int 0), (0, .ref h0), (1, .int kd)]) hx hb dX6_eligibleAt_6 rfl hl (by decide) rfl (fun ls hl => ?_)
  refine lv_iload_n hx hb dX6_eligibleAt_7 rfl (lv_at hl 0 rfl) ?_
  refine lv_aload_n hx hb dX6_eligibleAt_8 rfl (lv_at hl 2 rfl) ?_
  refine va_get (D := (dC, dI)) (ci := 6) (v := .int 0) (C := RX6) (T := TX6) (N := 10) hx hb hts (fun _ h0_ => List.mem_cons_of_mem _ (List.mem_append_right _ (List.mem_append_right _ (List.mem_append_left _ h0_)))) hown hK hP 0 rfl rfl 5 (by decide) (hts (.fieldLink RX6 48 "DeadlineShare$State" "count" "I") (List.mem_cons_of_mem _ (List.mem_append_left _ (List.mem_of_getElem? (i := 4) rfl)))) (fun _ h9 => h9) rfl dX6_eligibleAt_9 ?_
  refine lv_icmp_ge (tgt := 47) hx hb dX6_eligibleAt_12 (by decide) (fun _ => ?_) (fun c => absurd (by decide) c)
  refine lv_iconst (v := (-1)) hx hb dX6_eligibleAt_47 (by decide) ?_
  have hP9 := hP.sub (ws' := [(h0, .inr (6, [.ref te, .ref ta, .ref lo, .ref su, .ref pt, .int 0, .int ti, .long 0, .int (-1), .int (-1)])), (su, .inr (10, [.long 0, .long 0]))]) [0, 1] rfl
  have hD9 := hD.sub (ws' := [(h0, .inr (6, [.ref te, .ref ta, .ref lo, .ref su, .ref pt, .int 0, .int ti, .long 0, .int (-1), .int (-1)])), (su, .inr (10, [.long 0, .long 0]))]) [0, 1] (by decide) rfl
  have hK9 := hK.sub (tys' := []) [] rfl
  refine W.widen (k := 0) (n := 0) (Nat.le_of_ble_eq_true rfl) (Nat.le_of_ble_eq_true rfl) ?_
  exact W.iret (v := (-1)) hx hb hr (fun t ht hW => ⟨⟨(-1), (), rfl, rfl, by rw [ht]; exact hP9, va_K.moved hW.alike hK9, hD9⟩, hS.F ht⟩) hS.2.2 dX6_eligibleAt_48
def ow_c_X6_firstDeadline1 : List Cond := [.methodLink RX6 176 yX6_wholeV, .instanceMethod yX6_wholeV, .selects RX6 yX6_wholeV yX6_wholeV, .initialized RX6, .fieldLink RX6 48 "DeadlineShare$State" "count" "I"]
def wq_c_X6_firstDeadline1 : List Cond := .code yX6_firstDeadline cX6_firstDeadline 7 (some .int) :: (ow_c_X6_firstDeadline1 ++ (wq_c_X6_wholeV ++ (u_ws RX6 TX6 10 ++ ([] : List Cond))))
theorem tb_c_X6_firstDeadline1 : ∀ w ∈ wq_c_X6_firstDeadline1, q_g w := by
  unfold wq_c_X6_firstDeadline1 ow_c_X6_firstDeadline1
  exact q_cons tw_167 (q_app (q_cons tw_161 (q_cons tw_160 (q_cons tw_159 (q_cons tw_72 (q_cons tw_135 q_nil))))) (q_app tb_c_X6_wholeV (q_app tu_X6 q_nil)))
set_option maxHeartbeats 4000000 in
set_option maxRecDepth 100000 in
theorem c_X6_firstDeadline1 (l : Launch) (dC : Nat → ClassId) (dI : Nat → Nat → Nat) (h0 : Nat) (te : Nat) (ta : Nat) (lo : Nat) (su : Nat) (pt : Nat) (ti : Int32) (sz : Nat) : Met l yX6_firstDeadline wq_c_X6_firstDeadline1 ({ frames := 3, cells := 0, slots := 0, locals := 68 } : Room) (va_Pc [.ref h0, .int 1] (fun U => U.heap.size = sz ∧ va_P (dC, dI) vwCl [(h0, .inr (6, [.ref te, .ref ta, .ref lo, .ref su, .ref pt, .int 0, .int ti, .long 0, .int (-1), .int (-1)])), (su, .inr (10, [.long 0, .long 0]))] U.heap ∧ va_K (dC, dI) vwCl [] U ∧ va_D (fun _ => True) [(h0, .inr (6, [.ref te, .ref ta, .ref lo, .ref su, .ref pt, .int 0, .int ti, .long 0, .int (-1), .int (-1)])), (su, .inr (10, [.long 0, .long 0]))])) (va_Qi (fun (r : Int32) (_ : Unit) => r = (-1)) (fun (_ : Unit) t => va_P (dC, dI) vwCl [(h0, .inr (6, [.ref te, .ref ta, .ref lo, .ref su, .ref pt, .int 0, .int ti, .long 0, .int (-1), .int (-1)])), (su, .inr (10, [.long 0, .long 0]))] t.heap ∧ va_K (dC, dI) vwCl [] t ∧ va_D (va_A [(h0, .inr (6, [.ref te, .ref ta, .ref lo, .ref su, .ref pt, .int 0, .int ti, .long 0, .int (-1), .int (-1)])), (su, .inr (10, [.long 0, .long 0]))] sz) [(h0, .inr (6, [.ref te, .ref ta, .ref lo, .ref su, .ref pt, .int 0, .int ti, .long 0, .int (-1), .int (-1)])), (su, .inr (10, [.long 0, .long 0]))]) (va_A [(h0, .inr (6, [.ref te, .ref ta, .ref lo, .ref su, .ref pt, .int 0, .int ti, .long 0, .int (-1), .int (-1)])), (su, .inr (10, [.long 0, .long 0]))] sz)) 0 0 (va_A [(h0, .inr (6, [.ref te, .ref ta, .ref lo, .ref su, .ref pt, .int 0, .int ti, .long 0, .int (-1), .int (-1)])), (su, .inr (10, [.long 0, .long 0]))] sz) := by
  refine Met.ofW (cc := cX6_firstDeadline) (maxL := 7) (ret := (some .int)) (by decide) rfl ?_
  intro p e s m args below meth c s₁ B hml hv
  obtain ⟨rfl, hsz, hP, hK, hD0⟩ := hv
  have hx := B.exec
  have hb := B.bytes
  have hr := B.returns
  have hts := atoms_spec (ws := wq_c_X6_firstDeadline1) B.pre
  have hown : s.vm.findClass RX6 = some m.cls := findClass_of_methodNamed B.named
  have hlocks := B.notSynchronized
  subst hsz
  have hD := hD0.self (sz := s.heap.size)
  obtain ⟨A, hAe⟩ : ∃ A, A = va_A [(h0, .inr (6, [.ref te, .ref ta, .ref lo, .ref su, .ref pt, .int 0, .int ti, .long 0, .int (-1), .int (-1)])), (su, .inr (10, [.long 0, .long 0]))] s.heap.size := ⟨_, rfl⟩
  rw [← hAe] at hD ⊢
  have hA : ∀ q : Nat, s.heap.size ≤ q → A q := fun q h => by rw [hAe]; exact Or.inr h
  have hS : va_S A s.heap s.heap [] := va_S.rf
  have hP : va_P (dC, dI) vwCl [(h0, .inr (6, [.ref te, .ref ta, .ref lo, .ref su, .ref pt, .int 0, .int ti, .long 0, .int (-1), .int (-1)])), (su, .inr (10, [.long 0, .long 0]))] s.heap := hP
  have hl := lv_entry ([.ref h0, .int 1]) (n := 7) (Nat.le_of_ble_eq_true rfl)
  rw [lg_entry_eq]
  generalize (lg_sl ([.ref h0, .int 1]) ++ List.replicate (7 - (lg_sl ([.ref h0, .int 1])).length) Slot.unset).toArray = ls at hl ⊢
  have hl : lv_has ls 7 [(0, .ref h0), (1, .int 1)] := hl
  refine lv_iload_n hx hb dX6_firstDeadline_0 rfl (lv_at hl 1 rfl) ?_
  refine lv_if_eq (tgt := 11) hx hb dX6_firstDeadline_1 (by decide) (fun c => absurd c (by decide)) (fun _ => ?_)
  refine lv_aload_n hx hb dX6_firstDeadline_4 rfl (lv_at hl 0 rfl) ?_
  have hPc := hP.sub (ws' := [(h0, .inr (6, [.ref te, .ref ta, .ref lo, .ref su, .ref pt, .int 0, .int ti, .long 0, .int (-1), .int (-1)])), (su, .inr (10, [.long 0, .long 0]))]) [0, 1] rfl
  have hDc := hD.sub (ws' := [(h0, .inr (6, [.ref te, .ref ta, .ref lo, .ref su, .ref pt, .int 0, .int ti, .long 0, .int (-1), .int (-1)])), (su, .inr (10, [.long 0, .long 0]))]) [0, 1] (by decide) rfl
  have hKc := hK.sub (tys' := []) [] rfl
  have hFc := va_free (wc := [(h0, .inr (6, [.ref te, .ref ta, .ref lo, .ref su, .ref pt, .int 0, .int ti, .long 0, .int (-1), .int (-1)])), (su, .inr (10, [.long 0, .long 0]))]) hD hS hA [0, 1] rfl
  refine va_calll (va_runV (As := []) (rest := []) ⟨hx, hb, hml, hown, hts⟩ (c_X6_wholeV l dC dI h0 te ta lo su pt ti s.heap.size) (cwV 0 hts (gi_V (fun w_ h0_ => ⟨List.mem_cons_of_mem _ (List.mem_append_right _ (List.mem_append_left _ h0_)), (tb_c_X6_wholeV w_ h0_).2⟩) (List.mem_cons_of_mem _ (List.mem_append_left _ (List.mem_of_getElem? (i := 0) rfl))) (List.mem_cons_of_mem _ (List.mem_append_left _ (List.mem_of_getElem? (i := 1) rfl))) (List.mem_cons_of_mem _ (List.mem_append_left _ (List.mem_of_getElem? (i := 2) rfl))) (List.mem_cons_of_mem _ (List.mem_append_left _ (List.mem_of_getElem? (i := 3) rfl)))) rfl rfl rfl (by decide +kernel) ⟨Nat.le_of_ble_eq_true rfl, Nat.le_of_ble_eq_true rfl⟩) ⟨fun a U g mk q => by obtain ⟨q0, q1, qP, qK, qD⟩ := q; exact ⟨q0, q1, qP, va_K.moved (u := U) (U := U.calling g mk a) (Vm.Alike.refl U.vm) qK, qD⟩, va_recv hKc hPc (ci := 6) (q0 := 0) rfl rfl, fun U hU hW => ⟨rfl, by rw [hU], by rw [hU]; exact hPc, va_K.moved hW.alike hKc, hDc.weaken (fun _ _ _ _ => trivial)⟩⟩ rfl rfl hl.1 rfl (lv_room (Nat.le_of_ble_eq_true rfl)) dX6_firstDeadline_5 ⟨Nat.le_of_ble_eq_true rfl, Nat.le_of_ble_eq_true rfl⟩) hS (fun q _ h => hFc q h) hFc (fun r_1 u t H1 locs ht hvm hw hB hz1 hk1 hS => ?_)
  obtain ⟨hP1, hK1, hD1⟩ := hB
  rw [ht] at hP1
  have hK1 := va_K.moved hvm.symm hK1
  obtain ⟨hP, hD⟩ := va_join (wr := []) (w1 := [(h0, .inr (6, [.ref te, .ref ta, .ref lo, .ref su, .ref pt, .int 0, .int ti, .long 0, .int (-1), .int (-1)])), (su, .inr (10, [.long 0, .long 0]))]) hP hD [0, 1] [] rfl rfl (by decide) (by decide) hk1 hFc hP1 hD1
  generalize H1 = H at hP hS ⊢
  have hP : va_P (dC, dI) vwCl [(h0, .inr (6, [.ref te, .ref ta, .ref lo, .ref su, .ref pt, .int 0, .int ti, .long 0, .int (-1), .int (-1)])), (su, .inr (10, [.long 0, .long 0]))] H := hP
  have hD : va_D A [(h0, .inr (6, [.ref te, .ref ta, .ref lo, .ref su, .ref pt, .int 0, .int ti, .long 0, .int (-1), .int (-1)])), (su, .inr (10, [.long 0, .long 0]))] := hD
  refine W.widen (k := 0) (n := 0) (Nat.le_of_ble_eq_true rfl) (Nat.le_of_ble_eq_true rfl) ?_
  have hw : r_1 = 0 := hw
  subst hw
  refine lv_goto (tgt := 14) hx hb dX6_firstDeadline_8 (by decide) ?_
  refine lv_lstore_n (lv' := [(2, .long 0), (0, .ref h0), (1, .int 1)]) hx hb dX6_firstDeadline_14 rfl hl (by decide) rfl (fun ls hl => ?_)
  refine lv_iconst (v := (-1)) hx hb dX6_firstDeadline_15 (by decide) ?_
  refine lv_istore (lv' := [(4, .int (-1)), (2, .long 0), (0, .ref h0), (1, .int 1)]) hx hb dX6_firstDeadline_16 hl (by decide) rfl (fun ls hl => ?_)
  refine lv_iconst (v := 0) hx hb dX6_firstDeadline_18 (by decide) ?_
  refine lv_istore (lv' := [(5, .int 0), (4, .int (-1)), (2, .long 0), (0, .ref h0), (1, .int 1)]) hx hb dX6_firstDeadline_19 hl (by decide) rfl (fun ls hl => ?_)
  refine lv_iload hx hb dX6_firstDeadline_21 (lv_at hl 0 rfl) ?_
  refine lv_aload_n hx hb dX6_firstDeadline_23 rfl (lv_at hl 3 rfl) ?_
  refine va_get (D := (dC, dI)) (ci := 6) (v := .int 0) (C := RX6) (T := TX6) (N := 10) hx hb hts (fun _ h0_ => List.mem_cons_of_mem _ (List.mem_append_right _ (List.mem_append_right _ (List.mem_append_left _ h0_)))) hown hK hP 0 rfl rfl 5 (by decide) (hts (.fieldLink RX6 48 "DeadlineShare$State" "count" "I") (List.mem_cons_of_mem _ (List.mem_append_left _ (List.mem_of_getElem? (i := 4) rfl)))) (fun _ h9 => h9) rfl dX6_firstDeadline_24 ?_
  refine lv_icmp_ge (tgt := 91) hx hb dX6_firstDeadline_27 (by decide) (fun _ => ?_) (fun c => absurd (by decide) c)
  refine lv_iload hx hb dX6_firstDeadline_91 (lv_at hl 1 rfl) ?_
  have hP9 := hP.sub (ws' := [(h0, .inr (6, [.ref te, .ref ta, .ref lo, .ref su, .ref pt, .int 0, .int ti, .long 0, .int (-1), .int (-1)])), (su, .inr (10, [.long 0, .long 0]))]) [0, 1] rfl
  have hD9 := hD.sub (ws' := [(h0, .inr (6, [.ref te, .ref ta, .ref lo, .ref su, .ref pt, .int 0, .int ti, .long 0, .int (-1), .int (-1)])), (su, .inr (10, [.long 0, .long 0]))]) [0, 1] (by decide) rfl
  have hK9 := hK.sub (tys' := []) [] rfl
  refine W.widen (k := 0) (n := 0) (Nat.le_of_ble_eq_true rfl) (Nat.le_of_ble_eq_true rfl) ?_
  exact W.iret (v := (-1)) hx hb hr (fun t ht hW => ⟨⟨(-1), (), rfl, rfl, by rw [ht]; exact hP9, va_K.moved hW.alike hK9, hD9⟩, hS.F ht⟩) hS.2.2 dX6_firstDeadline_93
def ow_c_X6_firstDeadline0 : List Cond := [.constantLong RX6 192 (9223372036854775807), .fieldLink RX6 48 "DeadlineShare$State" "count" "I"]
def wq_c_X6_firstDeadline0 : List Cond := .code yX6_firstDeadline cX6_firstDeadline 7 (some .int) :: (ow_c_X6_firstDeadline0 ++ (u_ws RX6 TX6 10 ++ ([] : List Cond)))
theorem tb_c_X6_firstDeadline0 : ∀ w ∈ wq_c_X6_firstDeadline0, q_g w := by
  unfold wq_c_X6_firstDeadline0 ow_c_X6_firstDeadline0
  exact q_cons tw_167 (q_app (q_cons tw_168 (q_cons tw_135 q_nil)) (q_app tu_X6 q_nil))
set_option maxHeartbeats 4000000 in
set_option maxRecDepth 100000 in
theorem c_X6_firstDeadline0 (l : Launch) (dC : Nat → ClassId) (dI : Nat → Nat → Nat) (h0 : Nat) (te : Nat) (ta : Nat) (lo : Nat) (su : Nat) (pt : Nat) (ti : Int32) (sz : Nat) : Met l yX6_firstDeadline wq_c_X6_firstDeadline0 ({ frames := 0, cells := 0, slots := 0, locals := 0 } : Room) (va_Pc [.ref h0, .int 0] (fun U => U.heap.size = sz ∧ va_P (dC, dI) vwCl [(h0, .inr (6, [.ref te, .ref ta, .ref lo, .ref su, .ref pt, .int 0, .int ti, .long 0, .int (-1), .int (-1)]))] U.heap ∧ va_K (dC, dI) vwCl [] U ∧ va_D (fun _ => True) [(h0, .inr (6, [.ref te, .ref ta, .ref lo, .ref su, .ref pt, .int 0, .int ti, .long 0, .int (-1), .int (-1)]))])) (va_Qi (fun (r : Int32) (_ : Unit) => r = (-1)) (fun (_ : Unit) t => va_P (dC, dI) vwCl [(h0, .inr (6, [.ref te, .ref ta, .ref lo, .ref su, .ref pt, .int 0, .int ti, .long 0, .int (-1), .int (-1)]))] t.heap ∧ va_K (dC, dI) vwCl [] t ∧ va_D (va_A [(h0, .inr (6, [.ref te, .ref ta, .ref lo, .ref su, .ref pt, .int 0, .int ti, .long 0, .int (-1), .int (-1)]))] sz) [(h0, .inr (6, [.ref te, .ref ta, .ref lo, .ref su, .ref pt, .int 0, .int ti, .long 0, .int (-1), .int (-1)]))]) (va_A [(h0, .inr (6, [.ref te, .ref ta, .ref lo, .ref su, .ref pt, .int 0, .int ti, .long 0, .int (-1), .int (-1)]))] sz)) 0 0 (va_A [(h0, .inr (6, [.ref te, .ref ta, .ref lo, .ref su, .ref pt, .int 0, .int ti, .long 0, .int (-1), .int (-1)]))] sz) := by
  refine Met.ofW (cc := cX6_firstDeadline) (maxL := 7) (ret := (some .int)) (by decide) rfl ?_
  intro p e s m args below meth c s₁ B hml hv
  obtain ⟨rfl, hsz, hP, hK, hD0⟩ := hv
  have hx := B.exec
  have hb := B.bytes
  have hr := B.returns
  have hts := atoms_spec (ws := wq_c_X6_firstDeadline0) B.pre
  have hown : s.vm.findClass RX6 = some m.cls := findClass_of_methodNamed B.named
  have hlocks := B.notSynchronized
  subst hsz
  have hD := hD0.self (sz := s.heap.size)
  obtain ⟨A, hAe⟩ : ∃ A, A = va_A [(h0, .inr (6, [.ref te, .ref ta, .ref lo, .ref su, .ref pt, .int 0, .int ti, .long 0, .int (-1), .int (-1)]))] s.heap.size := ⟨_, rfl⟩
  rw [← hAe] at hD ⊢
  have hA : ∀ q : Nat, s.heap.size ≤ q → A q := fun q h => by rw [hAe]; exact Or.inr h
  have hS : va_S A s.heap s.heap [] := va_S.rf
  have hP : va_P (dC, dI) vwCl [(h0, .inr (6, [.ref te, .ref ta, .ref lo, .ref su, .ref pt, .int 0, .int ti, .long 0, .int (-1), .int (-1)]))] s.heap := hP
  have hl := lv_entry ([.ref h0, .int 0]) (n := 7) (Nat.le_of_ble_eq_true rfl)
  rw [lg_entry_eq]
  generalize (lg_sl ([.ref h0, .int 0]) ++ List.replicate (7 - (lg_sl ([.ref h0, .int 0])).length) Slot.unset).toArray = ls at hl ⊢
  have hl : lv_has ls 7 [(0, .ref h0), (1, .int 0)] := hl
  refine lv_iload_n hx hb dX6_firstDeadline_0 rfl (lv_at hl 1 rfl) ?_
  refine lv_if_eq (tgt := 11) hx hb dX6_firstDeadline_1 (by decide) (fun _ => ?_) (fun c => absurd (by decide) c)
  refine lv_ldc2 hx hb hown (hts (.constantLong RX6 192 (9223372036854775807)) (List.mem_cons_of_mem _ (List.mem_append_left _ (List.mem_of_getElem? (i := 0) rfl)))) dX6_firstDeadline_11 ?_
  refine lv_lstore_n (lv' := [(2, .long 9223372036854775807), (0, .ref h0), (1, .int 0)]) hx hb dX6_firstDeadline_14 rfl hl (by decide) rfl (fun ls hl => ?_)
  refine lv_iconst (v := (-1)) hx hb dX6_firstDeadline_15 (by decide) ?_
  refine lv_istore (lv' := [(4, .int (-1)), (2, .long 9223372036854775807), (0, .ref h0), (1, .int 0)]) hx hb dX6_firstDeadline_16 hl (by decide) rfl (fun ls hl => ?_)
  refine lv_iconst (v := 0) hx hb dX6_firstDeadline_18 (by decide) ?_
  refine lv_istore (lv' := [(5, .int 0), (4, .int (-1)), (2, .long 9223372036854775807), (0, .ref h0), (1, .int 0)]) hx hb dX6_firstDeadline_19 hl (by decide) rfl (fun ls hl => ?_)
  refine lv_iload hx hb dX6_firstDeadline_21 (lv_at hl 0 rfl) ?_
  refine lv_aload_n hx hb dX6_firstDeadline_23 rfl (lv_at hl 3 rfl) ?_
  refine va_get (D := (dC, dI)) (ci := 6) (v := .int 0) (C := RX6) (T := TX6) (N := 10) hx hb hts (fun _ h0_ => List.mem_cons_of_mem _ (List.mem_append_right _ (List.mem_append_left _ h0_))) hown hK hP 0 rfl rfl 5 (by decide) (hts (.fieldLink RX6 48 "DeadlineShare$State" "count" "I") (List.mem_cons_of_mem _ (List.mem_append_left _ (List.mem_of_getElem? (i := 1) rfl)))) (fun _ h9 => h9) rfl dX6_firstDeadline_24 ?_
  refine lv_icmp_ge (tgt := 91) hx hb dX6_firstDeadline_27 (by decide) (fun _ => ?_) (fun c => absurd (by decide) c)
  refine lv_iload hx hb dX6_firstDeadline_91 (lv_at hl 1 rfl) ?_
  have hP9 := hP.sub (ws' := [(h0, .inr (6, [.ref te, .ref ta, .ref lo, .ref su, .ref pt, .int 0, .int ti, .long 0, .int (-1), .int (-1)]))]) [0] rfl
  have hD9 := hD.sub (ws' := [(h0, .inr (6, [.ref te, .ref ta, .ref lo, .ref su, .ref pt, .int 0, .int ti, .long 0, .int (-1), .int (-1)]))]) [0] (by decide) rfl
  have hK9 := hK.sub (tys' := []) [] rfl
  refine W.widen (k := 0) (n := 0) (Nat.le_of_ble_eq_true rfl) (Nat.le_of_ble_eq_true rfl) ?_
  exact W.iret (v := (-1)) hx hb hr (fun t ht hW => ⟨⟨(-1), (), rfl, rfl, by rw [ht]; exact hP9, va_K.moved hW.alike hK9, hD9⟩, hS.F ht⟩) hS.2.2 dX6_firstDeadline_93
def ow_c_X6_leastV : List Cond := [.fieldLink RX6 48 "DeadlineShare$State" "count" "I"]
def wq_c_X6_leastV : List Cond := .code yX6_leastV cX6_leastV 5 (some .int) :: (ow_c_X6_leastV ++ (u_ws RX6 TX6 10 ++ ([] : List Cond)))
theorem tb_c_X6_leastV : ∀ w ∈ wq_c_X6_leastV, q_g w := by
  unfold wq_c_X6_leastV ow_c_X6_leastV
  exact q_cons tw_169 (q_app (q_cons tw_135 q_nil) (q_app tu_X6 q_nil))
set_option maxHeartbeats 4000000 in
set_option maxRecDepth 100000 in
theorem c_X6_leastV (l : Launch) (dC : Nat → ClassId) (dI : Nat → Nat → Nat) (h0 : Nat) (te : Nat) (ta : Nat) (lo : Nat) (su : Nat) (pt : Nat) (ti : Int32) (sz : Nat) : Met l yX6_leastV wq_c_X6_leastV ({ frames := 0, cells := 0, slots := 0, locals := 0 } : Room) (va_Pc [.ref h0] (fun U => U.heap.size = sz ∧ va_P (dC, dI) vwCl [(h0, .inr (6, [.ref te, .ref ta, .ref lo, .ref su, .ref pt, .int 0, .int ti, .long 0, .int (-1), .int (-1)]))] U.heap ∧ va_K (dC, dI) vwCl [] U ∧ va_D (fun _ => True) [(h0, .inr (6, [.ref te, .ref ta, .ref lo, .ref su, .ref pt, .int 0, .int ti, .long 0, .int (-1), .int (-1)]))])) (va_Qi (fun (r : Int32) (_ : Unit) => r = (-1)) (fun (_ : Unit) t => va_P (dC, dI) vwCl [(h0, .inr (6, [.ref te, .ref ta, .ref lo, .ref su, .ref pt, .int 0, .int ti, .long 0, .int (-1), .int (-1)]))] t.heap ∧ va_K (dC, dI) vwCl [] t ∧ va_D (va_A [(h0, .inr (6, [.ref te, .ref ta, .ref lo, .ref su, .ref pt, .int 0, .int ti, .long 0, .int (-1), .int (-1)]))] sz) [(h0, .inr (6, [.ref te, .ref ta, .ref lo, .ref su, .ref pt, .int 0, .int ti, .long 0, .int (-1), .int (-1)]))]) (va_A [(h0, .inr (6, [.ref te, .ref ta, .ref lo, .ref su, .ref pt, .int 0, .int ti, .long 0, .int (-1), .int (-1)]))] sz)) 0 0 (va_A [(h0, .inr (6, [.ref te, .ref ta, .ref lo, .ref su, .ref pt, .int 0, .int ti, .long 0, .int (-1), .int (-1)]))] sz) := by
  refine Met.ofW (cc := cX6_leastV) (maxL := 5) (ret := (some .int)) (by decide) rfl ?_
  intro p e s m args below meth c s₁ B hml hv
  obtain ⟨rfl, hsz, hP, hK, hD0⟩ := hv
  have hx := B.exec
  have hb := B.bytes
  have hr := B.returns
  have hts := atoms_spec (ws := wq_c_X6_leastV) B.pre
  have hown : s.vm.findClass RX6 = some m.cls := findClass_of_methodNamed B.named
  have hlocks := B.notSynchronized
  subst hsz
  have hD := hD0.self (sz := s.heap.size)
  obtain ⟨A, hAe⟩ : ∃ A, A = va_A [(h0, .inr (6, [.ref te, .ref ta, .ref lo, .ref su, .ref pt, .int 0, .int ti, .long 0, .int (-1), .int (-1)]))] s.heap.size := ⟨_, rfl⟩
  rw [← hAe] at hD ⊢
  have hA : ∀ q : Nat, s.heap.size ≤ q → A q := fun q h => by rw [hAe]; exact Or.inr h
  have hS : va_S A s.heap s.heap [] := va_S.rf
  have hP : va_P (dC, dI) vwCl [(h0, .inr (6, [.ref te, .ref ta, .ref lo, .ref su, .ref pt, .int 0, .int ti, .long 0, .int (-1), .int (-1)]))] s.heap := hP
  have hl := lv_entry ([.ref h0]) (n := 5) (Nat.le_of_ble_eq_true rfl)
  rw [lg_entry_eq]
  generalize (lg_sl ([.ref h0]) ++ List.replicate (5 - (lg_sl ([.ref h0])).length) Slot.unset).toArray = ls at hl ⊢
  have hl : lv_has ls 5 [(0, .ref h0)] := hl
  refine lv_iconst (v := (-1)) hx hb dX6_leastV_0 (by decide) ?_
  refine lv_istore_n (lv' := [(1, .int (-1)), (0, .ref h0)]) hx hb dX6_leastV_1 rfl hl (by decide) rfl (fun ls hl => ?_)
  refine lv_lconst (v := 0) hx hb dX6_leastV_2 (by decide) ?_
  refine lv_lstore_n (lv' := [(2, .long 0), (1, .int (-1)), (0, .ref h0)]) hx hb dX6_leastV_3 rfl hl (by decide) rfl (fun ls hl => ?_)
  refine lv_iconst (v := 0) hx hb dX6_leastV_4 (by decide) ?_
  refine lv_istore (lv' := [(4, .int 0), (2, .long 0), (1, .int (-1)), (0, .ref h0)]) hx hb dX6_leastV_5 hl (by decide) rfl (fun ls hl => ?_)
  refine lv_iload hx hb dX6_leastV_7 (lv_at hl 0 rfl) ?_
  refine lv_aload_n hx hb dX6_leastV_9 rfl (lv_at hl 3 rfl) ?_
  refine va_get (D := (dC, dI)) (ci := 6) (v := .int 0) (C := RX6) (T := TX6) (N := 10) hx hb hts (fun _ h0_ => List.mem_cons_of_mem _ (List.mem_append_right _ (List.mem_append_left _ h0_))) hown hK hP 0 rfl rfl 5 (by decide) (hts (.fieldLink RX6 48 "DeadlineShare$State" "count" "I") (List.mem_cons_of_mem _ (List.mem_append_left _ (List.mem_of_getElem? (i := 0) rfl)))) (fun _ h9 => h9) rfl dX6_leastV_10 ?_
  refine lv_icmp_ge (tgt := 69) hx hb dX6_leastV_13 (by decide) (fun _ => ?_) (fun c => absurd (by decide) c)
  refine lv_iload_n hx hb dX6_leastV_69 rfl (lv_at hl 2 rfl) ?_
  have hP9 := hP.sub (ws' := [(h0, .inr (6, [.ref te, .ref ta, .ref lo, .ref su, .ref pt, .int 0, .int ti, .long 0, .int (-1), .int (-1)]))]) [0] rfl
  have hD9 := hD.sub (ws' := [(h0, .inr (6, [.ref te, .ref ta, .ref lo, .ref su, .ref pt, .int 0, .int ti, .long 0, .int (-1), .int (-1)]))]) [0] (by decide) rfl
  have hK9 := hK.sub (tys' := []) [] rfl
  refine W.widen (k := 0) (n := 0) (Nat.le_of_ble_eq_true rfl) (Nat.le_of_ble_eq_true rfl) ?_
  exact W.iret (v := (-1)) hx hb hr (fun t ht hW => ⟨⟨(-1), (), rfl, rfl, by rw [ht]; exact hP9, va_K.moved hW.alike hK9, hD9⟩, hS.F ht⟩) hS.2.2 dX6_leastV_70
def ow_c_X6_nextInTurn : List Cond := [.fieldLink RX6 48 "DeadlineShare$State" "count" "I"]
def wq_c_X6_nextInTurn : List Cond := .code yX6_nextInTurn cX6_nextInTurn 3 (some .int) :: (ow_c_X6_nextInTurn ++ (u_ws RX6 TX6 10 ++ ([] : List Cond)))
theorem tb_c_X6_nextInTurn : ∀ w ∈ wq_c_X6_nextInTurn, q_g w := by
  unfold wq_c_X6_nextInTurn ow_c_X6_nextInTurn
  exact q_cons tw_170 (q_app (q_cons tw_135 q_nil) (q_app tu_X6 q_nil))
set_option maxHeartbeats 4000000 in
set_option maxRecDepth 100000 in
theorem c_X6_nextInTurn (l : Launch) (dC : Nat → ClassId) (dI : Nat → Nat → Nat) (h0 : Nat) (te : Nat) (ta : Nat) (lo : Nat) (su : Nat) (pt : Nat) (ti : Int32) (sz : Nat) : Met l yX6_nextInTurn wq_c_X6_nextInTurn ({ frames := 0, cells := 0, slots := 0, locals := 0 } : Room) (va_Pc [.ref h0] (fun U => U.heap.size = sz ∧ va_P (dC, dI) vwCl [(h0, .inr (6, [.ref te, .ref ta, .ref lo, .ref su, .ref pt, .int 0, .int ti, .long 0, .int (-1), .int (-1)]))] U.heap ∧ va_K (dC, dI) vwCl [] U ∧ va_D (fun _ => True) [(h0, .inr (6, [.ref te, .ref ta, .ref lo, .ref su, .ref pt, .int 0, .int ti, .long 0, .int (-1), .int (-1)]))])) (va_Qi (fun (r : Int32) (_ : Unit) => r = (-1)) (fun (_ : Unit) t => va_P (dC, dI) vwCl [(h0, .inr (6, [.ref te, .ref ta, .ref lo, .ref su, .ref pt, .int 0, .int ti, .long 0, .int (-1), .int (-1)]))] t.heap ∧ va_K (dC, dI) vwCl [] t ∧ va_D (va_A [(h0, .inr (6, [.ref te, .ref ta, .ref lo, .ref su, .ref pt, .int 0, .int ti, .long 0, .int (-1), .int (-1)]))] sz) [(h0, .inr (6, [.ref te, .ref ta, .ref lo, .ref su, .ref pt, .int 0, .int ti, .long 0, .int (-1), .int (-1)]))]) (va_A [(h0, .inr (6, [.ref te, .ref ta, .ref lo, .ref su, .ref pt, .int 0, .int ti, .long 0, .int (-1), .int (-1)]))] sz)) 0 0 (va_A [(h0, .inr (6, [.ref te, .ref ta, .ref lo, .ref su, .ref pt, .int 0, .int ti, .long 0, .int (-1), .int (-1)]))] sz) := by
  refine Met.ofW (cc := cX6_nextInTurn) (maxL := 3) (ret := (some .int)) (by decide) rfl ?_
  intro p e s m args below meth c s₁ B hml hv
  obtain ⟨rfl, hsz, hP, hK, hD0⟩ := hv
  have hx := B.exec
  have hb := B.bytes
  have hr := B.returns
  have hts := atoms_spec (ws := wq_c_X6_nextInTurn) B.pre
  have hown : s.vm.findClass RX6 = some m.cls := findClass_of_methodNamed B.named
  have hlocks := B.notSynchronized
  subst hsz
  have hD := hD0.self (sz := s.heap.size)
  obtain ⟨A, hAe⟩ : ∃ A, A = va_A [(h0, .inr (6, [.ref te, .ref ta, .ref lo, .ref su, .ref pt, .int 0, .int ti, .long 0, .int (-1), .int (-1)]))] s.heap.size := ⟨_, rfl⟩
  rw [← hAe] at hD ⊢
  have hA : ∀ q : Nat, s.heap.size ≤ q → A q := fun q h => by rw [hAe]; exact Or.inr h
  have hS : va_S A s.heap s.heap [] := va_S.rf
  have hP : va_P (dC, dI) vwCl [(h0, .inr (6, [.ref te, .ref ta, .ref lo, .ref su, .ref pt, .int 0, .int ti, .long 0, .int (-1), .int (-1)]))] s.heap := hP
  have hl := lv_entry ([.ref h0]) (n := 3) (Nat.le_of_ble_eq_true rfl)
  rw [lg_entry_eq]
  generalize (lg_sl ([.ref h0]) ++ List.replicate (3 - (lg_sl ([.ref h0])).length) Slot.unset).toArray = ls at hl ⊢
  have hl : lv_has ls 3 [(0, .ref h0)] := hl
  refine lv_iconst (v := 1) hx hb dX6_nextInTurn_0 (by decide) ?_
  refine lv_istore_n (lv' := [(1, .int 1), (0, .ref h0)]) hx hb dX6_nextInTurn_1 rfl hl (by decide) rfl (fun ls hl => ?_)
  refine lv_iload_n hx hb dX6_nextInTurn_2 rfl (lv_at hl 0 rfl) ?_
  refine lv_aload_n hx hb dX6_nextInTurn_3 rfl (lv_at hl 1 rfl) ?_
  refine va_get (D := (dC, dI)) (ci := 6) (v := .int 0) (C := RX6) (T := TX6) (N := 10) hx hb hts (fun _ h0_ => List.mem_cons_of_mem _ (List.mem_append_right _ (List.mem_append_left _ h0_))) hown hK hP 0 rfl rfl 5 (by decide) (hts (.fieldLink RX6 48 "DeadlineShare$State" "count" "I") (List.mem_cons_of_mem _ (List.mem_append_left _ (List.mem_of_getElem? (i := 0) rfl)))) (fun _ h9 => h9) rfl dX6_nextInTurn_4 ?_
  refine lv_icmp_gt (tgt := 50) hx hb dX6_nextInTurn_7 (by decide) (fun _ => ?_) (fun c => absurd (by decide) c)
  refine lv_iconst (v := (-1)) hx hb dX6_nextInTurn_50 (by decide) ?_
  have hP9 := hP.sub (ws' := [(h0, .inr (6, [.ref te, .ref ta, .ref lo, .ref su, .ref pt, .int 0, .int ti, .long 0, .int (-1), .int (-1)]))]) [0] rfl
  have hD9 := hD.sub (ws' := [(h0, .inr (6, [.ref te, .ref ta, .ref lo, .ref su, .ref pt, .int 0, .int ti, .long 0, .int (-1), .int (-1)]))]) [0] (by decide) rfl
  have hK9 := hK.sub (tys' := []) [] rfl
  refine W.widen (k := 0) (n := 0) (Nat.le_of_ble_eq_true rfl) (Nat.le_of_ble_eq_true rfl) ?_
  exact W.iret (v := (-1)) hx hb hr (fun t ht hW => ⟨⟨(-1), (), rfl, rfl, by rw [ht]; exact hP9, va_K.moved hW.alike hK9, hD9⟩, hS.F ht⟩) hS.2.2 dX6_nextInTurn_51
def ow_c_X6_weightsAsBits : List Cond := [.fieldLink RX6 48 "DeadlineShare$State" "count" "I"]
def wq_c_X6_weightsAsBits : List Cond := .code yX6_weightsAsBits cX6_weightsAsBits 4 (some .long) :: (ow_c_X6_weightsAsBits ++ (u_ws RX6 TX6 10 ++ ([] : List Cond)))
theorem tb_c_X6_weightsAsBits : ∀ w ∈ wq_c_X6_weightsAsBits, q_g w := by
  unfold wq_c_X6_weightsAsBits ow_c_X6_weightsAsBits
  exact q_cons tw_171 (q_app (q_cons tw_135 q_nil) (q_app tu_X6 q_nil))
set_option maxHeartbeats 4000000 in
set_option maxRecDepth 100000 in
theorem c_X6_weightsAsBits (l : Launch) (dC : Nat → ClassId) (dI : Nat → Nat → Nat) (h0 : Nat) (te : Nat) (ta : Nat) (lo : Nat) (su : Nat) (pt : Nat) (ti : Int32) (sz : Nat) : Met l yX6_weightsAsBits wq_c_X6_weightsAsBits ({ frames := 0, cells := 0, slots := 0, locals := 0 } : Room) (va_Pc [.ref h0] (fun U => U.heap.size = sz ∧ va_P (dC, dI) vwCl [(h0, .inr (6, [.ref te, .ref ta, .ref lo, .ref su, .ref pt, .int 0, .int ti, .long 0, .int (-1), .int (-1)]))] U.heap ∧ va_K (dC, dI) vwCl [] U ∧ va_D (fun _ => True) [(h0, .inr (6, [.ref te, .ref ta, .ref lo, .ref su, .ref pt, .int 0, .int ti, .long 0, .int (-1), .int (-1)]))])) (va_Ql (fun (r : Int64) (_ : Unit) => r = 0) (fun (_ : Unit) t => va_P (dC, dI) vwCl [(h0, .inr (6, [.ref te, .ref ta, .ref lo, .ref su, .ref pt, .int 0, .int ti, .long 0, .int (-1), .int (-1)]))] t.heap ∧ va_K (dC, dI) vwCl [] t ∧ va_D (va_A [(h0, .inr (6, [.ref te, .ref ta, .ref lo, .ref su, .ref pt, .int 0, .int ti, .long 0, .int (-1), .int (-1)]))] sz) [(h0, .inr (6, [.ref te, .ref ta, .ref lo, .ref su, .ref pt, .int 0, .int ti, .long 0, .int (-1), .int (-1)]))]) (va_A [(h0, .inr (6, [.ref te, .ref ta, .ref lo, .ref su, .ref pt, .int 0, .int ti, .long 0, .int (-1), .int (-1)]))] sz)) 0 0 (va_A [(h0, .inr (6, [.ref te, .ref ta, .ref lo, .ref su, .ref pt, .int 0, .int ti, .long 0, .int (-1), .int (-1)]))] sz) := by
  refine Met.ofW (cc := cX6_weightsAsBits) (maxL := 4) (ret := (some .long)) (by decide) rfl ?_
  intro p e s m args below meth c s₁ B hml hv
  obtain ⟨rfl, hsz, hP, hK, hD0⟩ := hv
  have hx := B.exec
  have hb := B.bytes
  have hr := B.returns
  have hts := atoms_spec (ws := wq_c_X6_weightsAsBits) B.pre
  have hown : s.vm.findClass RX6 = some m.cls := findClass_of_methodNamed B.named
  have hlocks := B.notSynchronized
  subst hsz
  have hD := hD0.self (sz := s.heap.size)
  obtain ⟨A, hAe⟩ : ∃ A, A = va_A [(h0, .inr (6, [.ref te, .ref ta, .ref lo, .ref su, .ref pt, .int 0, .int ti, .long 0, .int (-1), .int (-1)]))] s.heap.size := ⟨_, rfl⟩
  rw [← hAe] at hD ⊢
  have hA : ∀ q : Nat, s.heap.size ≤ q → A q := fun q h => by rw [hAe]; exact Or.inr h
  have hS : va_S A s.heap s.heap [] := va_S.rf
  have hP : va_P (dC, dI) vwCl [(h0, .inr (6, [.ref te, .ref ta, .ref lo, .ref su, .ref pt, .int 0, .int ti, .long 0, .int (-1), .int (-1)]))] s.heap := hP
  have hl := lv_entry ([.ref h0]) (n := 4) (Nat.le_of_ble_eq_true rfl)
  rw [lg_entry_eq]
  generalize (lg_sl ([.ref h0]) ++ List.replicate (4 - (lg_sl ([.ref h0])).length) Slot.unset).toArray = ls at hl ⊢
  have hl : lv_has ls 4 [(0, .ref h0)] := hl
  refine lv_lconst (v := 0) hx hb dX6_weightsAsBits_0 (by decide) ?_
  refine lv_lstore_n (lv' := [(1, .long 0), (0, .ref h0)]) hx hb dX6_weightsAsBits_1 rfl hl (by decide) rfl (fun ls hl => ?_)
  refine lv_iconst (v := 0) hx hb dX6_weightsAsBits_2 (by decide) ?_
  refine lv_istore_n (lv' := [(3, .int 0), (1, .long 0), (0, .ref h0)]) hx hb dX6_weightsAsBits_3 rfl hl (by decide) rfl (fun ls hl => ?_)
  refine lv_iload_n hx hb dX6_weightsAsBits_4 rfl (lv_at hl 0 rfl) ?_
  refine lv_aload_n hx hb dX6_weightsAsBits_5 rfl (lv_at hl 2 rfl) ?_
  refine va_get (D := (dC, dI)) (ci := 6) (v := .int 0) (C := RX6) (T := TX6) (N := 10) hx hb hts (fun _ h0_ => List.mem_cons_of_mem _ (List.mem_append_right _ (List.mem_append_left _ h0_))) hown hK hP 0 rfl rfl 5 (by decide) (hts (.fieldLink RX6 48 "DeadlineShare$State" "count" "I") (List.mem_cons_of_mem _ (List.mem_append_left _ (List.mem_of_getElem? (i := 0) rfl)))) (fun _ h9 => h9) rfl dX6_weightsAsBits_6 ?_
  refine lv_icmp_ge (tgt := 46) hx hb dX6_weightsAsBits_9 (by decide) (fun _ => ?_) (fun c => absurd (by decide) c)
  refine lv_lload_n hx hb dX6_weightsAsBits_46 rfl (lv_at hl 1 rfl) ?_
  have hP9 := hP.sub (ws' := [(h0, .inr (6, [.ref te, .ref ta, .ref lo, .ref su, .ref pt, .int 0, .int ti, .long 0, .int (-1), .int (-1)]))]) [0] rfl
  have hD9 := hD.sub (ws' := [(h0, .inr (6, [.ref te, .ref ta, .ref lo, .ref su, .ref pt, .int 0, .int ti, .long 0, .int (-1), .int (-1)]))]) [0] (by decide) rfl
  have hK9 := hK.sub (tys' := []) [] rfl
  refine W.widen (k := 0) (n := 0) (Nat.le_of_ble_eq_true rfl) (Nat.le_of_ble_eq_true rfl) ?_
  exact W.lret (v := 0) hx hb hr (fun t ht hW => ⟨⟨0, (), rfl, rfl, by rw [ht]; exact hP9, va_K.moved hW.alike hK9, hD9⟩, hS.F ht⟩) hS.2.2 dX6_weightsAsBits_47
def ow_c_X6_firstInLog0 : List Cond := [.fieldLink RX6 58 "DeadlineShare$State" "time" "I", .methodLink RX6 174 Lib.Math.max.name, .static Lib.Math.max.name, .initialized "java/lang/Math", .code Lib.Math.max.name Lib.Math.max.code 2 (some .int)]
def wq_c_X6_firstInLog0 : List Cond := .code yX6_firstInLog cX6_firstInLog 1 (some .int) :: (ow_c_X6_firstInLog0 ++ (u_ws RX6 TX6 10 ++ ([] : List Cond)))
theorem tb_c_X6_firstInLog0 : ∀ w ∈ wq_c_X6_firstInLog0, q_g w := by
  unfold wq_c_X6_firstInLog0 ow_c_X6_firstInLog0
  exact q_cons tw_177 (q_app (q_cons tw_176 (q_cons tw_175 (q_cons tw_174 (q_cons tw_173 (q_cons tw_172 q_nil))))) (q_app tu_X6 q_nil))
set_option maxHeartbeats 4000000 in
set_option maxRecDepth 100000 in
theorem c_X6_firstInLog0 (l : Launch) (dC : Nat → ClassId) (dI : Nat → Nat → Nat) (h0 : Nat) (te : Nat) (ta : Nat) (lo : Nat) (su : Nat) (pt : Nat) (sz : Nat) : Met l yX6_firstInLog wq_c_X6_firstInLog0 ({ frames := 1, cells := 0, slots := 0, locals := 15 } : Room) (va_Pc [.ref h0] (fun U => U.heap.size = sz ∧ va_P (dC, dI) vwCl [(h0, .inr (6, [.ref te, .ref ta, .ref lo, .ref su, .ref pt, .int 0, .int 0, .long 0, .int (-1), .int (-1)]))] U.heap ∧ va_K (dC, dI) vwCl [] U ∧ va_D (fun _ => True) [(h0, .inr (6, [.ref te, .ref ta, .ref lo, .ref su, .ref pt, .int 0, .int 0, .long 0, .int (-1), .int (-1)]))])) (va_Qi (fun (r : Int32) (_ : Unit) => r = 0) (fun (_ : Unit) t => va_P (dC, dI) vwCl [(h0, .inr (6, [.ref te, .ref ta, .ref lo, .ref su, .ref pt, .int 0, .int 0, .long 0, .int (-1), .int (-1)]))] t.heap ∧ va_K (dC, dI) vwCl [] t ∧ va_D (va_A [(h0, .inr (6, [.ref te, .ref ta, .ref lo, .ref su, .ref pt, .int 0, .int 0, .long 0, .int (-1), .int (-1)]))] sz) [(h0, .inr (6, [.ref te, .ref ta, .ref lo, .ref su, .ref pt, .int 0, .int 0, .long 0, .int (-1), .int (-1)]))]) (va_A [(h0, .inr (6, [.ref te, .ref ta, .ref lo, .ref su, .ref pt, .int 0, .int 0, .long 0, .int (-1), .int (-1)]))] sz)) 0 0 (va_A [(h0, .inr (6, [.ref te, .ref ta, .ref lo, .ref su, .ref pt, .int 0, .int 0, .long 0, .int (-1), .int (-1)]))] sz) := by
  refine Met.ofW (cc := cX6_firstInLog) (maxL := 1) (ret := (some .int)) (by decide) rfl ?_
  intro p e s m args below meth c s₁ B hml hv
  obtain ⟨rfl, hsz, hP, hK, hD0⟩ := hv
  have hx := B.exec
  have hb := B.bytes
  have hr := B.returns
  have hts := atoms_spec (ws := wq_c_X6_firstInLog0) B.pre
  have hown : s.vm.findClass RX6 = some m.cls := findClass_of_methodNamed B.named
  have hlocks := B.notSynchronized
  subst hsz
  have hD := hD0.self (sz := s.heap.size)
  obtain ⟨A, hAe⟩ : ∃ A, A = va_A [(h0, .inr (6, [.ref te, .ref ta, .ref lo, .ref su, .ref pt, .int 0, .int 0, .long 0, .int (-1), .int (-1)]))] s.heap.size := ⟨_, rfl⟩
  rw [← hAe] at hD ⊢
  have hA : ∀ q : Nat, s.heap.size ≤ q → A q := fun q h => by rw [hAe]; exact Or.inr h
  have hS : va_S A s.heap s.heap [] := va_S.rf
  have hP : va_P (dC, dI) vwCl [(h0, .inr (6, [.ref te, .ref ta, .ref lo, .ref su, .ref pt, .int 0, .int 0, .long 0, .int (-1), .int (-1)]))] s.heap := hP
  have hl := lv_entry ([.ref h0]) (n := 1) (Nat.le_of_ble_eq_true rfl)
  rw [lg_entry_eq]
  generalize (lg_sl ([.ref h0]) ++ List.replicate (1 - (lg_sl ([.ref h0])).length) Slot.unset).toArray = ls at hl ⊢
  have hl : lv_has ls 1 [(0, .ref h0)] := hl
  refine lv_iconst (v := 0) hx hb dX6_firstInLog_0 (by decide) ?_
  refine lv_aload_n hx hb dX6_firstInLog_1 rfl (lv_at hl 0 rfl) ?_
  refine va_get (D := (dC, dI)) (ci := 6) (v := .int 0) (C := RX6) (T := TX6) (N := 10) hx hb hts (fun _ h0_ => List.mem_cons_of_mem _ (List.mem_append_right _ (List.mem_append_left _ h0_))) hown hK hP 0 rfl rfl 6 (by decide) (hts (.fieldLink RX6 58 "DeadlineShare$State" "time" "I") (List.mem_cons_of_mem _ (List.mem_append_left _ (List.mem_of_getElem? (i := 0) rfl)))) (fun _ h9 => h9) rfl dX6_firstInLog_2 ?_
  refine lv_sipush (v := 128) hx hb dX6_firstInLog_5 (by decide) ?_
  refine lv_isub hx hb dX6_firstInLog_8 ?_
  refine k_topi (y := (-128)) (by decide) ?_
  refine va_mmax hx hb (by rw [hml]; exact hl.1.symm) hown (hts (.methodLink RX6 174 Lib.Math.max.name) (List.mem_cons_of_mem _ (List.mem_append_left _ (List.mem_of_getElem? (i := 1) rfl)))) (hts (.static Lib.Math.max.name) (List.mem_cons_of_mem _ (List.mem_append_left _ (List.mem_of_getElem? (i := 2) rfl)))) (hts (.initialized "java/lang/Math") (List.mem_cons_of_mem _ (List.mem_append_left _ (List.mem_of_getElem? (i := 3) rfl)))) (hts (.code Lib.Math.max.name Lib.Math.max.code 2 (some .int)) (List.mem_cons_of_mem _ (List.mem_append_left _ (List.mem_of_getElem? (i := 4) rfl)))) (Nat.le_of_ble_eq_true rfl) (Nat.le_of_ble_eq_true rfl) (Nat.le_of_ble_eq_true rfl) (Nat.le_of_ble_eq_true rfl) dX6_firstInLog_9 ?_
  refine k_topi (y := 0) (by decide) ?_
  have hP9 := hP.sub (ws' := [(h0, .inr (6, [.ref te, .ref ta, .ref lo, .ref su, .ref pt, .int 0, .int 0, .long 0, .int (-1), .int (-1)]))]) [0] rfl
  have hD9 := hD.sub (ws' := [(h0, .inr (6, [.ref te, .ref ta, .ref lo, .ref su, .ref pt, .int 0, .int 0, .long 0, .int (-1), .int (-1)]))]) [0] (by decide) rfl
  have hK9 := hK.sub (tys' := []) [] rfl
  refine W.widen (k := 0) (n := 0) (Nat.le_of_ble_eq_true rfl) (Nat.le_of_ble_eq_true rfl) ?_
  exact W.iret (v := 0) hx hb hr (fun t ht hW => ⟨⟨0, (), rfl, rfl, by rw [ht]; exact hP9, va_K.moved hW.alike hK9, hD9⟩, hS.F ht⟩) hS.2.2 dX6_firstInLog_12
def ow_c_X6_logHolds0 : List Cond := [.methodLink RX6 316 yX6_firstInLog, .instanceMethod yX6_firstInLog, .selects RX6 yX6_firstInLog yX6_firstInLog, .initialized RX6, .fieldLink RX6 58 "DeadlineShare$State" "time" "I"]
def wq_c_X6_logHolds0 : List Cond := .code yX6_logHolds cX6_logHolds 2 (some .boolean) :: (ow_c_X6_logHolds0 ++ (wq_c_X6_firstInLog0 ++ (u_ws RX6 TX6 10 ++ ([] : List Cond))))
theorem tb_c_X6_logHolds0 : ∀ w ∈ wq_c_X6_logHolds0, q_g w := by
  unfold wq_c_X6_logHolds0 ow_c_X6_logHolds0
  exact q_cons tw_181 (q_app (q_cons tw_180 (q_cons tw_179 (q_cons tw_178 (q_cons tw_72 (q_cons tw_176 q_nil))))) (q_app tb_c_X6_firstInLog0 (q_app tu_X6 q_nil)))
set_option maxHeartbeats 4000000 in
set_option maxRecDepth 100000 in
theorem c_X6_logHolds0 (l : Launch) (dC : Nat → ClassId) (dI : Nat → Nat → Nat) (h0 : Nat) (wh : Int32) (te : Nat) (ta : Nat) (lo : Nat) (su : Nat) (pt : Nat) (sz : Nat) : Met l yX6_logHolds wq_c_X6_logHolds0 ({ frames := 2, cells := 0, slots := 0, locals := 35 } : Room) (va_Pc [.ref h0, .int wh] (fun U => U.heap.size = sz ∧ va_P (dC, dI) vwCl [(h0, .inr (6, [.ref te, .ref ta, .ref lo, .ref su, .ref pt, .int 0, .int 0, .long 0, .int (-1), .int (-1)]))] U.heap ∧ va_K (dC, dI) vwCl [] U ∧ va_D (fun _ => True) [(h0, .inr (6, [.ref te, .ref ta, .ref lo, .ref su, .ref pt, .int 0, .int 0, .long 0, .int (-1), .int (-1)]))])) (va_Qi (fun (r : Int32) (_ : Unit) => r = 0) (fun (_ : Unit) t => va_P (dC, dI) vwCl [(h0, .inr (6, [.ref te, .ref ta, .ref lo, .ref su, .ref pt, .int 0, .int 0, .long 0, .int (-1), .int (-1)]))] t.heap ∧ va_K (dC, dI) vwCl [] t ∧ va_D (va_A [(h0, .inr (6, [.ref te, .ref ta, .ref lo, .ref su, .ref pt, .int 0, .int 0, .long 0, .int (-1), .int (-1)]))] sz) [(h0, .inr (6, [.ref te, .ref ta, .ref lo, .ref su, .ref pt, .int 0, .int 0, .long 0, .int (-1), .int (-1)]))]) (va_A [(h0, .inr (6, [.ref te, .ref ta, .ref lo, .ref su, .ref pt, .int 0, .int 0, .long 0, .int (-1), .int (-1)]))] sz)) 0 0 (va_A [(h0, .inr (6, [.ref te, .ref ta, .ref lo, .ref su, .ref pt, .int 0, .int 0, .long 0, .int (-1), .int (-1)]))] sz) := by
  refine Met.ofW (cc := cX6_logHolds) (maxL := 2) (ret := (some .boolean)) (by decide) rfl ?_
  intro p e s m args below meth c s₁ B hml hv
  obtain ⟨rfl, hsz, hP, hK, hD0⟩ := hv
  have hx := B.exec
  have hb := B.bytes
  have hr := B.returns
  have hts := atoms_spec (ws := wq_c_X6_logHolds0) B.pre
  have hown : s.vm.findClass RX6 = some m.cls := findClass_of_methodNamed B.named
  have hlocks := B.notSynchronized
  subst hsz
  have hD := hD0.self (sz := s.heap.size)
  obtain ⟨A, hAe⟩ : ∃ A, A = va_A [(h0, .inr (6, [.ref te, .ref ta, .ref lo, .ref su, .ref pt, .int 0, .int 0, .long 0, .int (-1), .int (-1)]))] s.heap.size := ⟨_, rfl⟩
  rw [← hAe] at hD ⊢
  have hA : ∀ q : Nat, s.heap.size ≤ q → A q := fun q h => by rw [hAe]; exact Or.inr h
  have hS : va_S A s.heap s.heap [] := va_S.rf
  have hP : va_P (dC, dI) vwCl [(h0, .inr (6, [.ref te, .ref ta, .ref lo, .ref su, .ref pt, .int 0, .int 0, .long 0, .int (-1), .int (-1)]))] s.heap := hP
  have hl := lv_entry ([.ref h0, .int wh]) (n := 2) (Nat.le_of_ble_eq_true rfl)
  rw [lg_entry_eq]
  generalize (lg_sl ([.ref h0, .int wh]) ++ List.replicate (2 - (lg_sl ([.ref h0, .int wh])).length) Slot.unset).toArray = ls at hl ⊢
  have hl : lv_has ls 2 [(0, .ref h0), (1, .int wh)] := hl
  refine lv_iload_n hx hb dX6_logHolds_0 rfl (lv_at hl 1 rfl) ?_
  refine lv_aload_n hx hb dX6_logHolds_1 rfl (lv_at hl 0 rfl) ?_
  have hPc := hP.sub (ws' := [(h0, .inr (6, [.ref te, .ref ta, .ref lo, .ref su, .ref pt, .int 0, .int 0, .long 0, .int (-1), .int (-1)]))]) [0] rfl
  have hDc := hD.sub (ws' := [(h0, .inr (6, [.ref te, .ref ta, .ref lo, .ref su, .ref pt, .int 0, .int 0, .long 0, .int (-1), .int (-1)]))]) [0] (by decide) rfl
  have hKc := hK.sub (tys' := []) [] rfl
  have hFc := va_free (wc := [(h0, .inr (6, [.ref te, .ref ta, .ref lo, .ref su, .ref pt, .int 0, .int 0, .long 0, .int (-1), .int (-1)]))]) hD hS hA [0] rfl
  refine va_calli (va_runV (As := []) (rest := [.int wh]) ⟨hx, hb, hml, hown, hts⟩ (c_X6_firstInLog0 l dC dI h0 te ta lo su pt s.heap.size) (cwV 0 hts (gi_V (fun w_ h0_ => ⟨List.mem_cons_of_mem _ (List.mem_append_right _ (List.mem_append_left _ h0_)), (tb_c_X6_firstInLog0 w_ h0_).2⟩) (List.mem_cons_of_mem _ (List.mem_append_left _ (List.mem_of_getElem? (i := 0) rfl))) (List.mem_cons_of_mem _ (List.mem_append_left _ (List.mem_of_getElem? (i := 1) rfl))) (List.mem_cons_of_mem _ (List.mem_append_left _ (List.mem_of_getElem? (i := 2) rfl))) (List.mem_cons_of_mem _ (List.mem_append_left _ (List.mem_of_getElem? (i := 3) rfl)))) rfl rfl rfl (by decide +kernel) ⟨Nat.le_of_ble_eq_true rfl, Nat.le_of_ble_eq_true rfl⟩) ⟨fun a U g mk q => by obtain ⟨q0, q1, qP, qK, qD⟩ := q; exact ⟨q0, q1, qP, va_K.moved (u := U) (U := U.calling g mk a) (Vm.Alike.refl U.vm) qK, qD⟩, va_recv hKc hPc (ci := 6) (q0 := 0) rfl rfl, fun U hU hW => ⟨rfl, by rw [hU], by rw [hU]; exact hPc, va_K.moved hW.alike hKc, hDc.weaken (fun _ _ _ _ => trivial)⟩⟩ rfl rfl hl.1 rfl (lv_room (Nat.le_of_ble_eq_true rfl)) dX6_logHolds_2 ⟨Nat.le_of_ble_eq_true rfl, Nat.le_of_ble_eq_true rfl⟩) hS (fun q _ h => hFc q h) hFc (fun r_1 u t H1 locs ht hvm hw hB hz1 hk1 hS => ?_)
  obtain ⟨hP1, hK1, hD1⟩ := hB
  rw [ht] at hP1
  have hK1 := va_K.moved hvm.symm hK1
  obtain ⟨hP, hD⟩ := va_join (wr := []) (w1 := [(h0, .inr (6, [.ref te, .ref ta, .ref lo, .ref su, .ref pt, .int 0, .int 0, .long 0, .int (-1), .int (-1)]))]) hP hD [0] [] rfl rfl (by decide) (by decide) hk1 hFc hP1 hD1
  generalize H1 = H at hP hS ⊢
  have hP : va_P (dC, dI) vwCl [(h0, .inr (6, [.ref te, .ref ta, .ref lo, .ref su, .ref pt, .int 0, .int 0, .long 0, .int (-1), .int (-1)]))] H := hP
  have hD : va_D A [(h0, .inr (6, [.ref te, .ref ta, .ref lo, .ref su, .ref pt, .int 0, .int 0, .long 0, .int (-1), .int (-1)]))] := hD
  refine W.widen (k := 0) (n := 0) (Nat.le_of_ble_eq_true rfl) (Nat.le_of_ble_eq_true rfl) ?_
  have hw : r_1 = 0 := hw
  subst hw
  refine lv_icmp_lt (tgt := 20) hx hb dX6_logHolds_5 (by decide) (fun c_2 => ?_) (fun c_2 => ?_)
  · refine lv_iconst (v := 0) hx hb dX6_logHolds_20 (by decide) ?_
    have hP9 := hP.sub (ws' := [(h0, .inr (6, [.ref te, .ref ta, .ref lo, .ref su, .ref pt, .int 0, .int 0, .long 0, .int (-1), .int (-1)]))]) [0] rfl
    have hD9 := hD.sub (ws' := [(h0, .inr (6, [.ref te, .ref ta, .ref lo, .ref su, .ref pt, .int 0, .int 0, .long 0, .int (-1), .int (-1)]))]) [0] (by decide) rfl
    have hK9 := hK.sub (tys' := []) [] rfl
    refine W.widen (k := 0) (n := 0) (Nat.le_of_ble_eq_true rfl) (Nat.le_of_ble_eq_true rfl) ?_
    exact W.zret (v := 0) hx hb hr rfl (fun t ht hW => ⟨⟨0, (), rfl, rfl, by rw [ht]; exact hP9, va_K.moved hW.alike hK9, hD9⟩, hS.F ht⟩) hS.2.2 dX6_logHolds_21
  · refine lv_iload_n hx hb dX6_logHolds_8 rfl (lv_at hl 1 rfl) ?_
    refine lv_aload_n hx hb dX6_logHolds_9 rfl (lv_at hl 0 rfl) ?_
    refine va_get (D := (dC, dI)) (ci := 6) (v := .int 0) (C := RX6) (T := TX6) (N := 10) hx hb hts (fun _ h0_ => List.mem_cons_of_mem _ (List.mem_append_right _ (List.mem_append_right _ (List.mem_append_left _ h0_)))) hown hK hP 0 rfl rfl 6 (by decide) (hts (.fieldLink RX6 58 "DeadlineShare$State" "time" "I") (List.mem_cons_of_mem _ (List.mem_append_left _ (List.mem_of_getElem? (i := 4) rfl)))) (fun _ h9 => h9) rfl dX6_logHolds_10 ?_
    refine lv_icmp_ge (tgt := 20) hx hb dX6_logHolds_13 (by decide) (fun _ => ?_) (fun c => absurd ((fa_le _ _).mpr (by have z0 : ¬ _ := fun h9 => c_2 ((fa_lt _ _).mpr h9); have li0 : Int32.toInt 0 = 0 := (by decide); skip; omega)) c)
    refine lv_iconst (v := 0) hx hb dX6_logHolds_20 (by decide) ?_
    have hP9 := hP.sub (ws' := [(h0, .inr (6, [.ref te, .ref ta, .ref lo, .ref su, .ref pt, .int 0, .int 0, .long 0, .int (-1), .int (-1)]))]) [0] rfl
    have hD9 := hD.sub (ws' := [(h0, .inr (6, [.ref te, .ref ta, .ref lo, .ref su, .ref pt, .int 0, .int 0, .long 0, .int (-1), .int (-1)]))]) [0] (by decide) rfl
    have hK9 := hK.sub (tys' := []) [] rfl
    refine W.widen (k := 0) (n := 0) (Nat.le_of_ble_eq_true rfl) (Nat.le_of_ble_eq_true rfl) ?_
    exact W.zret (v := 0) hx hb hr rfl (fun t ht hW => ⟨⟨0, (), rfl, rfl, by rw [ht]; exact hP9, va_K.moved hW.alike hK9, hD9⟩, hS.F ht⟩) hS.2.2 dX6_logHolds_21
def ow_c_X6_lagEdge : List Cond := [.methodLink RX6 108 yX6_weightOfAll, .instanceMethod yX6_weightOfAll, .selects RX6 yX6_weightOfAll yX6_weightOfAll, .initialized RX6, .fieldLink RX6 48 "DeadlineShare$State" "count" "I"]
def wq_c_X6_lagEdge : List Cond := .code yX6_lagEdge cX6_lagEdge 8 (some .long) :: (ow_c_X6_lagEdge ++ (wq_c_X6_weightOfAll ++ (u_ws RX6 TX6 10 ++ ([] : List Cond))))
theorem tb_c_X6_lagEdge : ∀ w ∈ wq_c_X6_lagEdge, q_g w := by
  unfold wq_c_X6_lagEdge ow_c_X6_lagEdge
  exact q_cons tw_185 (q_app (q_cons tw_184 (q_cons tw_183 (q_cons tw_182 (q_cons tw_72 (q_cons tw_135 q_nil))))) (q_app tb_c_X6_weightOfAll (q_app tu_X6 q_nil)))
set_option maxHeartbeats 4000000 in
set_option maxRecDepth 100000 in
theorem c_X6_lagEdge (l : Launch) (dC : Nat → ClassId) (dI : Nat → Nat → Nat) (h0 : Nat) (sf : Int64) (gr : Int32) (te : Nat) (ta : Nat) (lo : Nat) (su : Nat) (pt : Nat) (ti : Int32) (sz : Nat) : Met l yX6_lagEdge wq_c_X6_lagEdge ({ frames := 1, cells := 0, slots := 0, locals := 22 } : Room) (va_Pc [.ref h0, .long sf, .int gr] (fun U => U.heap.size = sz ∧ va_P (dC, dI) vwCl [(h0, .inr (6, [.ref te, .ref ta, .ref lo, .ref su, .ref pt, .int 0, .int ti, .long 0, .int (-1), .int (-1)]))] U.heap ∧ va_K (dC, dI) vwCl [] U ∧ va_D (fun _ => True) [(h0, .inr (6, [.ref te, .ref ta, .ref lo, .ref su, .ref pt, .int 0, .int ti, .long 0, .int (-1), .int (-1)]))])) (va_Ql (fun (r : Int64) (_ : Unit) => r = sf) (fun (_ : Unit) t => va_P (dC, dI) vwCl [(h0, .inr (6, [.ref te, .ref ta, .ref lo, .ref su, .ref pt, .int 0, .int ti, .long 0, .int (-1), .int (-1)]))] t.heap ∧ va_K (dC, dI) vwCl [] t ∧ va_D (va_A [(h0, .inr (6, [.ref te, .ref ta, .ref lo, .ref su, .ref pt, .int 0, .int ti, .long 0, .int (-1), .int (-1)]))] sz) [(h0, .inr (6, [.ref te, .ref ta, .ref lo, .ref su, .ref pt, .int 0, .int ti, .long 0, .int (-1), .int (-1)]))]) (va_A [(h0, .inr (6, [.ref te, .ref ta, .ref lo, .ref su, .ref pt, .int 0, .int ti, .long 0, .int (-1), .int (-1)]))] sz)) 0 0 (va_A [(h0, .inr (6, [.ref te, .ref ta, .ref lo, .ref su, .ref pt, .int 0, .int ti, .long 0, .int (-1), .int (-1)]))] sz) := by
  refine Met.ofW (cc := cX6_lagEdge) (maxL := 8) (ret := (some .long)) (by decide) rfl ?_
  intro p e s m args below meth c s₁ B hml hv
  obtain ⟨rfl, hsz, hP, hK, hD0⟩ := hv
  have hx := B.exec
  have hb := B.bytes
  have hr := B.returns
  have hts := atoms_spec (ws := wq_c_X6_lagEdge) B.pre
  have hown : s.vm.findClass RX6 = some m.cls := findClass_of_methodNamed B.named
  have hlocks := B.notSynchronized
  subst hsz
  have hD := hD0.self (sz := s.heap.size)
  obtain ⟨A, hAe⟩ : ∃ A, A = va_A [(h0, .inr (6, [.ref te, .ref ta, .ref lo, .ref su, .ref pt, .int 0, .int ti, .long 0, .int (-1), .int (-1)]))] s.heap.size := ⟨_, rfl⟩
  rw [← hAe] at hD ⊢
  have hA : ∀ q : Nat, s.heap.size ≤ q → A q := fun q h => by rw [hAe]; exact Or.inr h
  have hS : va_S A s.heap s.heap [] := va_S.rf
  have hP : va_P (dC, dI) vwCl [(h0, .inr (6, [.ref te, .ref ta, .ref lo, .ref su, .ref pt, .int 0, .int ti, .long 0, .int (-1), .int (-1)]))] s.heap := hP
  have hl := lv_entry ([.ref h0, .long sf, .int gr]) (n := 8) (Nat.le_of_ble_eq_true rfl)
  rw [lg_entry_eq]
  generalize (lg_sl ([.ref h0, .long sf, .int gr]) ++ List.replicate (8 - (lg_sl ([.ref h0, .long sf, .int gr])).length) Slot.unset).toArray = ls at hl ⊢
  have hl : lv_has ls 8 [(0, .ref h0), (1, .long sf), (3, .int gr)] := hl
  refine lv_aload_n hx hb dX6_lagEdge_0 rfl (lv_at hl 0 rfl) ?_
  have hPc := hP.sub (ws' := [(h0, .inr (6, [.ref te, .ref ta, .ref lo, .ref su, .ref pt, .int 0, .int ti, .long 0, .int (-1), .int (-1)]))]) [0] rfl
  have hDc := hD.sub (ws' := [(h0, .inr (6, [.ref te, .ref ta, .ref lo, .ref su, .ref pt, .int 0, .int ti, .long 0, .int (-1), .int (-1)]))]) [0] (by decide) rfl
  have hKc := hK.sub (tys' := []) [] rfl
  have hFc := va_free (wc := [(h0, .inr (6, [.ref te, .ref ta, .ref lo, .ref su, .ref pt, .int 0, .int ti, .long 0, .int (-1), .int (-1)]))]) hD hS hA [0] rfl
  refine va_calli (va_runV (As := []) (rest := []) ⟨hx, hb, hml, hown, hts⟩ (c_X6_weightOfAll l dC dI h0 te ta lo su pt ti s.heap.size) (cwV 0 hts (gi_V (fun w_ h0_ => ⟨List.mem_cons_of_mem _ (List.mem_append_right _ (List.mem_append_left _ h0_)), (tb_c_X6_weightOfAll w_ h0_).2⟩) (List.mem_cons_of_mem _ (List.mem_append_left _ (List.mem_of_getElem? (i := 0) rfl))) (List.mem_cons_of_mem _ (List.mem_append_left _ (List.mem_of_getElem? (i := 1) rfl))) (List.mem_cons_of_mem _ (List.mem_append_left _ (List.mem_of_getElem? (i := 2) rfl))) (List.mem_cons_of_mem _ (List.mem_append_left _ (List.mem_of_getElem? (i := 3) rfl)))) rfl rfl rfl (by decide +kernel) ⟨Nat.le_of_ble_eq_true rfl, Nat.le_of_ble_eq_true rfl⟩) ⟨fun a U g mk q => by obtain ⟨q0, q1, qP, qK, qD⟩ := q; exact ⟨q0, q1, qP, va_K.moved (u := U) (U := U.calling g mk a) (Vm.Alike.refl U.vm) qK, qD⟩, va_recv hKc hPc (ci := 6) (q0 := 0) rfl rfl, fun U hU hW => ⟨rfl, by rw [hU], by rw [hU]; exact hPc, va_K.moved hW.alike hKc, hDc.weaken (fun _ _ _ _ => trivial)⟩⟩ rfl rfl hl.1 rfl (lv_room (Nat.le_of_ble_eq_true rfl)) dX6_lagEdge_1 ⟨Nat.le_of_ble_eq_true rfl, Nat.le_of_ble_eq_true rfl⟩) hS (fun q _ h => hFc q h) hFc (fun r_1 u t H1 locs ht hvm hw hB hz1 hk1 hS => ?_)
  obtain ⟨hP1, hK1, hD1⟩ := hB
  rw [ht] at hP1
  have hK1 := va_K.moved hvm.symm hK1
  obtain ⟨hP, hD⟩ := va_join (wr := []) (w1 := [(h0, .inr (6, [.ref te, .ref ta, .ref lo, .ref su, .ref pt, .int 0, .int ti, .long 0, .int (-1), .int (-1)]))]) hP hD [0] [] rfl rfl (by decide) (by decide) hk1 hFc hP1 hD1
  generalize H1 = H at hP hS ⊢
  have hP : va_P (dC, dI) vwCl [(h0, .inr (6, [.ref te, .ref ta, .ref lo, .ref su, .ref pt, .int 0, .int ti, .long 0, .int (-1), .int (-1)]))] H := hP
  have hD : va_D A [(h0, .inr (6, [.ref te, .ref ta, .ref lo, .ref su, .ref pt, .int 0, .int ti, .long 0, .int (-1), .int (-1)]))] := hD
  refine W.widen (k := 0) (n := 0) (Nat.le_of_ble_eq_true rfl) (Nat.le_of_ble_eq_true rfl) ?_
  have hw : r_1 = 0 := hw
  subst hw
  refine lv_istore (lv' := [(4, .int 0), (0, .ref h0), (1, .long sf), (3, .int gr)]) hx hb dX6_lagEdge_4 hl (by decide) rfl (fun ls hl => ?_)
  refine lv_lload_n hx hb dX6_lagEdge_6 rfl (lv_at hl 2 rfl) ?_
  refine lv_lstore (lv' := [(5, .long sf), (4, .int 0), (0, .ref h0), (1, .long sf), (3, .int gr)]) hx hb dX6_lagEdge_7 hl (by decide) rfl (fun ls hl => ?_)
  refine lv_iconst (v := 0) hx hb dX6_lagEdge_9 (by decide) ?_
  refine lv_istore (lv' := [(7, .int 0), (5, .long sf), (4, .int 0), (0, .ref h0), (1, .long sf), (3, .int gr)]) hx hb dX6_lagEdge_10 hl (by decide) rfl (fun ls hl => ?_)
  refine lv_iload hx hb dX6_lagEdge_12 (lv_at hl 0 rfl) ?_
  refine lv_aload_n hx hb dX6_lagEdge_14 rfl (lv_at hl 3 rfl) ?_
  refine va_get (D := (dC, dI)) (ci := 6) (v := .int 0) (C := RX6) (T := TX6) (N := 10) hx hb hts (fun _ h0_ => List.mem_cons_of_mem _ (List.mem_append_right _ (List.mem_append_right _ (List.mem_append_left _ h0_)))) hown hK hP 0 rfl rfl 5 (by decide) (hts (.fieldLink RX6 48 "DeadlineShare$State" "count" "I") (List.mem_cons_of_mem _ (List.mem_append_left _ (List.mem_of_getElem? (i := 4) rfl)))) (fun _ h9 => h9) rfl dX6_lagEdge_15 ?_
  refine lv_icmp_ge (tgt := 118) hx hb dX6_lagEdge_18 (by decide) (fun _ => ?_) (fun c => absurd (by decide) c)
  refine lv_lload hx hb dX6_lagEdge_118 (lv_at hl 1 rfl) ?_
  have hP9 := hP.sub (ws' := [(h0, .inr (6, [.ref te, .ref ta, .ref lo, .ref su, .ref pt, .int 0, .int ti, .long 0, .int (-1), .int (-1)]))]) [0] rfl
  have hD9 := hD.sub (ws' := [(h0, .inr (6, [.ref te, .ref ta, .ref lo, .ref su, .ref pt, .int 0, .int ti, .long 0, .int (-1), .int (-1)]))]) [0] (by decide) rfl
  have hK9 := hK.sub (tys' := []) [] rfl
  refine W.widen (k := 0) (n := 0) (Nat.le_of_ble_eq_true rfl) (Nat.le_of_ble_eq_true rfl) ?_
  exact W.lret (v := sf) hx hb hr (fun t ht hW => ⟨⟨sf, (), rfl, rfl, by rw [ht]; exact hP9, va_K.moved hW.alike hK9, hD9⟩, hS.F ht⟩) hS.2.2 dX6_lagEdge_120
def ow_c_X0_byDraw : List Cond := [.methodLink RX0 51 yX6_weightOfAll, .instanceMethod yX6_weightOfAll, .selects RX6 yX6_weightOfAll yX6_weightOfAll, .initialized RX6]
def wq_c_X0_byDraw : List Cond := .code yX0_byDraw cX0_byDraw 3 (some .int) :: (ow_c_X0_byDraw ++ (wq_c_X6_weightOfAll ++ ([] : List Cond)))
theorem tb_c_X0_byDraw : ∀ w ∈ wq_c_X0_byDraw, q_g w := by
  unfold wq_c_X0_byDraw ow_c_X0_byDraw
  exact q_cons tw_187 (q_app (q_cons tw_186 (q_cons tw_183 (q_cons tw_182 (q_cons tw_72 q_nil)))) (q_app tb_c_X6_weightOfAll q_nil))
set_option maxHeartbeats 4000000 in
set_option maxRecDepth 100000 in
theorem c_X0_byDraw (l : Launch) (dC : Nat → ClassId) (dI : Nat → Nat → Nat) (h1 : Nat) (h0 : Nat) (te : Nat) (wy : Int32) (dr : Int64) (ta : Nat) (lo : Nat) (su : Nat) (pt : Nat) (ti : Int32) (sz : Nat) : Met l yX0_byDraw wq_c_X0_byDraw ({ frames := 1, cells := 0, slots := 0, locals := 22 } : Room) (va_Pc [.ref h1, .ref h0] (fun U => U.heap.size = sz ∧ va_P (dC, dI) vwCl [(h1, .inr (0, [.ref te, .int wy, .long dr])), (h0, .inr (6, [.ref te, .ref ta, .ref lo, .ref su, .ref pt, .int 0, .int ti, .long 0, .int (-1), .int (-1)]))] U.heap ∧ va_K (dC, dI) vwCl [] U ∧ va_D (fun _ => True) [(h1, .inr (0, [.ref te, .int wy, .long dr])), (h0, .inr (6, [.ref te, .ref ta, .ref lo, .ref su, .ref pt, .int 0, .int ti, .long 0, .int (-1), .int (-1)]))])) (va_Qi (fun (r : Int32) (_ : Unit) => r = (-1)) (fun (_ : Unit) t => va_P (dC, dI) vwCl [(h1, .inr (0, [.ref te, .int wy, .long dr])), (h0, .inr (6, [.ref te, .ref ta, .ref lo, .ref su, .ref pt, .int 0, .int ti, .long 0, .int (-1), .int (-1)]))] t.heap ∧ va_K (dC, dI) vwCl [] t ∧ va_D (va_A [(h1, .inr (0, [.ref te, .int wy, .long dr])), (h0, .inr (6, [.ref te, .ref ta, .ref lo, .ref su, .ref pt, .int 0, .int ti, .long 0, .int (-1), .int (-1)]))] sz) [(h1, .inr (0, [.ref te, .int wy, .long dr])), (h0, .inr (6, [.ref te, .ref ta, .ref lo, .ref su, .ref pt, .int 0, .int ti, .long 0, .int (-1), .int (-1)]))]) (va_A [(h1, .inr (0, [.ref te, .int wy, .long dr])), (h0, .inr (6, [.ref te, .ref ta, .ref lo, .ref su, .ref pt, .int 0, .int ti, .long 0, .int (-1), .int (-1)]))] sz)) 0 0 (va_A [(h1, .inr (0, [.ref te, .int wy, .long dr])), (h0, .inr (6, [.ref te, .ref ta, .ref lo, .ref su, .ref pt, .int 0, .int ti, .long 0, .int (-1), .int (-1)]))] sz) := by
  refine Met.ofW (cc := cX0_byDraw) (maxL := 3) (ret := (some .int)) (by decide) rfl ?_
  intro p e s m args below meth c s₁ B hml hv
  obtain ⟨rfl, hsz, hP, hK, hD0⟩ := hv
  have hx := B.exec
  have hb := B.bytes
  have hr := B.returns
  have hts := atoms_spec (ws := wq_c_X0_byDraw) B.pre
  have hown : s.vm.findClass RX0 = some m.cls := findClass_of_methodNamed B.named
  have hlocks := B.notSynchronized
  subst hsz
  have hD := hD0.self (sz := s.heap.size)
  obtain ⟨A, hAe⟩ : ∃ A, A = va_A [(h1, .inr (0, [.ref te, .int wy, .long dr])), (h0, .inr (6, [.ref te, .ref ta, .ref lo, .ref su, .ref pt, .int 0, .int ti, .long 0, .int (-1), .int (-1)]))] s.heap.size := ⟨_, rfl⟩
  rw [← hAe] at hD ⊢
  have hA : ∀ q : Nat, s.heap.size ≤ q → A q := fun q h => by rw [hAe]; exact Or.inr h
  have hS : va_S A s.heap s.heap [] := va_S.rf
  have hP : va_P (dC, dI) vwCl [(h1, .inr (0, [.ref te, .int wy, .long dr])), (h0, .inr (6, [.ref te, .ref ta, .ref lo, .ref su, .ref pt, .int 0, .int ti, .long 0, .int (-1), .int (-1)]))] s.heap := hP
  have hl := lv_entry ([.ref h1, .ref h0]) (n := 3) (Nat.le_of_ble_eq_true rfl)
  rw [lg_entry_eq]
  generalize (lg_sl ([.ref h1, .ref h0]) ++ List.replicate (3 - (lg_sl ([.ref h1, .ref h0])).length) Slot.unset).toArray = ls at hl ⊢
  have hl : lv_has ls 3 [(0, .ref h1), (1, .ref h0)] := hl
  refine lv_aload_n hx hb dX0_byDraw_0 rfl (lv_at hl 1 rfl) ?_
  have hPc := hP.sub (ws' := [(h0, .inr (6, [.ref te, .ref ta, .ref lo, .ref su, .ref pt, .int 0, .int ti, .long 0, .int (-1), .int (-1)]))]) [1] rfl
  have hDc := hD.sub (ws' := [(h0, .inr (6, [.ref te, .ref ta, .ref lo, .ref su, .ref pt, .int 0, .int ti, .long 0, .int (-1), .int (-1)]))]) [1] (by decide) rfl
  have hKc := hK.sub (tys' := []) [] rfl
  have hFc := va_free (wc := [(h0, .inr (6, [.ref te, .ref ta, .ref lo, .ref su, .ref pt, .int 0, .int ti, .long 0, .int (-1), .int (-1)]))]) hD hS hA [1] rfl
  refine va_calli (va_runV (As := []) (rest := []) ⟨hx, hb, hml, hown, hts⟩ (c_X6_weightOfAll l dC dI h0 te ta lo su pt ti s.heap.size) (cwV 0 hts (gi_V (fun w_ h0_ => ⟨List.mem_cons_of_mem _ (List.mem_append_right _ (List.mem_append_left _ h0_)), (tb_c_X6_weightOfAll w_ h0_).2⟩) (List.mem_cons_of_mem _ (List.mem_append_left _ (List.mem_of_getElem? (i := 0) rfl))) (List.mem_cons_of_mem _ (List.mem_append_left _ (List.mem_of_getElem? (i := 1) rfl))) (List.mem_cons_of_mem _ (List.mem_append_left _ (List.mem_of_getElem? (i := 2) rfl))) (List.mem_cons_of_mem _ (List.mem_append_left _ (List.mem_of_getElem? (i := 3) rfl)))) rfl rfl rfl (by decide +kernel) ⟨Nat.le_of_ble_eq_true rfl, Nat.le_of_ble_eq_true rfl⟩) ⟨fun a U g mk q => by obtain ⟨q0, q1, qP, qK, qD⟩ := q; exact ⟨q0, q1, qP, va_K.moved (u := U) (U := U.calling g mk a) (Vm.Alike.refl U.vm) qK, qD⟩, va_recv hKc hPc (ci := 6) (q0 := 0) rfl rfl, fun U hU hW => ⟨rfl, by rw [hU], by rw [hU]; exact hPc, va_K.moved hW.alike hKc, hDc.weaken (fun _ _ _ _ => trivial)⟩⟩ rfl rfl hl.1 rfl (lv_room (Nat.le_of_ble_eq_true rfl)) dX0_byDraw_1 ⟨Nat.le_of_ble_eq_true rfl, Nat.le_of_ble_eq_true rfl⟩) hS (fun q _ h => hFc q h) hFc (fun r_1 u t H1 locs ht hvm hw hB hz1 hk1 hS => ?_)
  obtain ⟨hP1, hK1, hD1⟩ := hB
  rw [ht] at hP1
  have hK1 := va_K.moved hvm.symm hK1
  obtain ⟨hP, hD⟩ := va_join (wr := [(h1, .inr (0, [.ref te, .int wy, .long dr]))]) (w1 := [(h0, .inr (6, [.ref te, .ref ta, .ref lo, .ref su, .ref pt, .int 0, .int ti, .long 0, .int (-1), .int (-1)]))]) hP hD [1] [0] rfl rfl (by decide) (by decide) hk1 hFc hP1 hD1
  generalize H1 = H at hP hS ⊢
  have hP : va_P (dC, dI) vwCl [(h1, .inr (0, [.ref te, .int wy, .long dr])), (h0, .inr (6, [.ref te, .ref ta, .ref lo, .ref su, .ref pt, .int 0, .int ti, .long 0, .int (-1), .int (-1)]))] H := hP
  have hD : va_D A [(h1, .inr (0, [.ref te, .int wy, .long dr])), (h0, .inr (6, [.ref te, .ref ta, .ref lo, .ref su, .ref pt, .int 0, .int ti, .long 0, .int (-1), .int (-1)]))] := hD
  refine W.widen (k := 0) (n := 0) (Nat.le_of_ble_eq_true rfl) (Nat.le_of_ble_eq_true rfl) ?_
  have hw : r_1 = 0 := hw
  subst hw
  refine lv_istore_n (lv' := [(2, .int 0), (0, .ref h1), (1, .ref h0)]) hx hb dX0_byDraw_4 rfl hl (by decide) rfl (fun ls hl => ?_)
  refine lv_iload_n hx hb dX0_byDraw_5 rfl (lv_at hl 0 rfl) ?_
  refine lv_if_gt (tgt := 11) hx hb dX0_byDraw_6 (by decide) (fun c => absurd c (by decide)) (fun _ => ?_)
  refine lv_iconst (v := (-1)) hx hb dX0_byDraw_9 (by decide) ?_
  have hP9 := hP.sub (ws' := [(h1, .inr (0, [.ref te, .int wy, .long dr])), (h0, .inr (6, [.ref te, .ref ta, .ref lo, .ref su, .ref pt, .int 0, .int ti, .long 0, .int (-1), .int (-1)]))]) [0, 1] rfl
  have hD9 := hD.sub (ws' := [(h1, .inr (0, [.ref te, .int wy, .long dr])), (h0, .inr (6, [.ref te, .ref ta, .ref lo, .ref su, .ref pt, .int 0, .int ti, .long 0, .int (-1), .int (-1)]))]) [0, 1] (by decide) rfl
  have hK9 := hK.sub (tys' := []) [] rfl
  refine W.widen (k := 0) (n := 0) (Nat.le_of_ble_eq_true rfl) (Nat.le_of_ble_eq_true rfl) ?_
  exact W.iret (v := (-1)) hx hb hr (fun t ht hW => ⟨⟨(-1), (), rfl, rfl, by rw [ht]; exact hP9, va_K.moved hW.alike hK9, hD9⟩, hS.F ht⟩) hS.2.2 dX0_byDraw_10
def ow_c_X0_pick : List Cond := [.fieldLink RX0 15 "DeadlineShare$Chooser" "way" "I", .methodLink RX0 28 yX6_leastV, .instanceMethod yX6_leastV, .selects RX6 yX6_leastV yX6_leastV, .initialized RX6, .methodLink RX0 34 yX6_firstDeadline, .instanceMethod yX6_firstDeadline, .selects RX6 yX6_firstDeadline yX6_firstDeadline, .methodLink RX0 38 yX6_nextInTurn, .instanceMethod yX6_nextInTurn, .selects RX6 yX6_nextInTurn yX6_nextInTurn, .methodLink RX0 41 yX0_byDraw, .instanceMethod yX0_byDraw, .selects RX0 yX0_byDraw yX0_byDraw, .initialized RX0, .fieldLink RX0 9 "DeadlineShare$Chooser" "terms" "LDeadlineShare$Terms;", .fieldLink RX0 45 "DeadlineShare$Terms" "mode" "I"]
def wq_c_X0_pick : List Cond := .code yX0_pick cX0_pick 2 (some .int) :: (ow_c_X0_pick ++ (u_ws RX0 TX0 3 ++ (wq_c_X6_leastV ++ (wq_c_X6_firstDeadline0 ++ (wq_c_X6_nextInTurn ++ (wq_c_X0_byDraw ++ (u_ws RX9 TX9 3 ++ (wq_c_X6_firstDeadline1 ++ ([] : List Cond)))))))))
theorem tb_c_X0_pick : ∀ w ∈ wq_c_X0_pick, q_g w := by
  unfold wq_c_X0_pick ow_c_X0_pick
  exact q_cons tw_202 (q_app (q_cons tw_201 (q_cons tw_200 (q_cons tw_199 (q_cons tw_198 (q_cons tw_72 (q_cons tw_197 (q_cons tw_196 (q_cons tw_195 (q_cons tw_194 (q_cons tw_193 (q_cons tw_192 (q_cons tw_191 (q_cons tw_190 (q_cons tw_189 (q_cons tw_97 (q_cons tw_31 (q_cons tw_188 q_nil))))))))))))))))) (q_app tu_X0 (q_app tb_c_X6_leastV (q_app tb_c_X6_firstDeadline0 (q_app tb_c_X6_nextInTurn (q_app tb_c_X0_byDraw (q_app tu_X9 (q_app tb_c_X6_firstDeadline1 q_nil))))))))
set_option maxHeartbeats 4000000 in
set_option maxRecDepth 100000 in
theorem c_X0_pick (l : Launch) (dC : Nat → ClassId) (dI : Nat → Nat → Nat) (h1 : Nat) (h0 : Nat) (te : Nat) (wy : Int32) (dr : Int64) (ca : Int32) (se : Int32) (ta : Nat) (lo : Nat) (su : Nat) (pt : Nat) (ti : Int32) (sz : Nat) : Met l yX0_pick wq_c_X0_pick ({ frames := 4, cells := 0, slots := 0, locals := 94 } : Room) (va_Pc [.ref h1, .ref h0] (fun U => U.heap.size = sz ∧ va_P (dC, dI) vwCl [(h1, .inr (0, [.ref te, .int wy, .long dr])), (te, .inr (9, [.int 0, .int ca, .int se])), (h0, .inr (6, [.ref te, .ref ta, .ref lo, .ref su, .ref pt, .int 0, .int ti, .long 0, .int (-1), .int (-1)])), (su, .inr (10, [.long 0, .long 0]))] U.heap ∧ va_K (dC, dI) vwCl [] U ∧ va_D (fun _ => True) [(h1, .inr (0, [.ref te, .int wy, .long dr])), (te, .inr (9, [.int 0, .int ca, .int se])), (h0, .inr (6, [.ref te, .ref ta, .ref lo, .ref su, .ref pt, .int 0, .int ti, .long 0, .int (-1), .int (-1)])), (su, .inr (10, [.long 0, .long 0]))])) (va_Qi (fun (r : Int32) (_ : Unit) => r = (-1)) (fun (_ : Unit) t => va_P (dC, dI) vwCl [(h1, .inr (0, [.ref te, .int wy, .long dr])), (te, .inr (9, [.int 0, .int ca, .int se])), (h0, .inr (6, [.ref te, .ref ta, .ref lo, .ref su, .ref pt, .int 0, .int ti, .long 0, .int (-1), .int (-1)])), (su, .inr (10, [.long 0, .long 0]))] t.heap ∧ va_K (dC, dI) vwCl [] t ∧ va_D (va_A [(h1, .inr (0, [.ref te, .int wy, .long dr])), (te, .inr (9, [.int 0, .int ca, .int se])), (h0, .inr (6, [.ref te, .ref ta, .ref lo, .ref su, .ref pt, .int 0, .int ti, .long 0, .int (-1), .int (-1)])), (su, .inr (10, [.long 0, .long 0]))] sz) [(h1, .inr (0, [.ref te, .int wy, .long dr])), (te, .inr (9, [.int 0, .int ca, .int se])), (h0, .inr (6, [.ref te, .ref ta, .ref lo, .ref su, .ref pt, .int 0, .int ti, .long 0, .int (-1), .int (-1)])), (su, .inr (10, [.long 0, .long 0]))]) (va_A [(h1, .inr (0, [.ref te, .int wy, .long dr])), (te, .inr (9, [.int 0, .int ca, .int se])), (h0, .inr (6, [.ref te, .ref ta, .ref lo, .ref su, .ref pt, .int 0, .int ti, .long 0, .int (-1), .int (-1)])), (su, .inr (10, [.long 0, .long 0]))] sz)) 0 0 (va_A [(h1, .inr (0, [.ref te, .int wy, .long dr])), (te, .inr (9, [.int 0, .int ca, .int se])), (h0, .inr (6, [.ref te, .ref ta, .ref lo, .ref su, .ref pt, .int 0, .int ti, .long 0, .int (-1), .int (-1)])), (su, .inr (10, [.long 0, .long 0]))] sz) := by
  refine Met.ofW (cc := cX0_pick) (maxL := 2) (ret := (some .int)) (by decide) rfl ?_
  intro p e s m args below meth c s₁ B hml hv
  obtain ⟨rfl, hsz, hP, hK, hD0⟩ := hv
  have hx := B.exec
  have hb := B.bytes
  have hr := B.returns
  have hts := atoms_spec (ws := wq_c_X0_pick) B.pre
  have hown : s.vm.findClass RX0 = some m.cls := findClass_of_methodNamed B.named
  have hlocks := B.notSynchronized
  subst hsz
  have hD := hD0.self (sz := s.heap.size)
  obtain ⟨A, hAe⟩ : ∃ A, A = va_A [(h1, .inr (0, [.ref te, .int wy, .long dr])), (te, .inr (9, [.int 0, .int ca, .int se])), (h0, .inr (6, [.ref te, .ref ta, .ref lo, .ref su, .ref pt, .int 0, .int ti, .long 0, .int (-1), .int (-1)])), (su, .inr (10, [.long 0, .long 0]))] s.heap.size := ⟨_, rfl⟩
  rw [← hAe] at hD ⊢
  have hA : ∀ q : Nat, s.heap.size ≤ q → A q := fun q h => by rw [hAe]; exact Or.inr h
  have hS : va_S A s.heap s.heap [] := va_S.rf
  have hP : va_P (dC, dI) vwCl [(h1, .inr (0, [.ref te, .int wy, .long dr])), (te, .inr (9, [.int 0, .int ca, .int se])), (h0, .inr (6, [.ref te, .ref ta, .ref lo, .ref su, .ref pt, .int 0, .int ti, .long 0, .int (-1), .int (-1)])), (su, .inr (10, [.long 0, .long 0]))] s.heap := hP
  have hl := lv_entry ([.ref h1, .ref h0]) (n := 2) (Nat.le_of_ble_eq_true rfl)
  rw [lg_entry_eq]
  generalize (lg_sl ([.ref h1, .ref h0]) ++ List.replicate (2 - (lg_sl ([.ref h1, .ref h0])).length) Slot.unset).toArray = ls at hl ⊢
  have hl : lv_has ls 2 [(0, .ref h1), (1, .ref h0)] := hl
  refine lv_aload_n hx hb dX0_pick_0 rfl (lv_at hl 0 rfl) ?_
  refine va_get (D := (dC, dI)) (ci := 0) (v := .int wy) (C := RX0) (T := TX0) (N := 3) hx hb hts (fun _ h0_ => List.mem_cons_of_mem _ (List.mem_append_right _ (List.mem_append_left _ h0_))) hown hK hP 0 rfl rfl 1 (by decide) (hts (.fieldLink RX0 15 "DeadlineShare$Chooser" "way" "I") (List.mem_cons_of_mem _ (List.mem_append_left _ (List.mem_of_getElem? (i := 0) rfl)))) (fun _ h9 => h9) rfl dX0_pick_1 ?_
  by_cases h_1 : wy = 1
  · subst h_1
    refine lv_tableIn (tgt := 36) hx hb dX0_pick_4 (by decide) (by decide) rfl (by decide) ?_
    refine lv_aload_n hx hb dX0_pick_36 rfl (lv_at hl 1 rfl) ?_
    have hPc := hP.sub (ws' := [(h0, .inr (6, [.ref te, .ref ta, .ref lo, .ref su, .ref pt, .int 0, .int ti, .long 0, .int (-1), .int (-1)]))]) [2] rfl
    have hDc := hD.sub (ws' := [(h0, .inr (6, [.ref te, .ref ta, .ref lo, .ref su, .ref pt, .int 0, .int ti, .long 0, .int (-1), .int (-1)]))]) [2] (by decide) rfl
    have hKc := hK.sub (tys' := []) [] rfl
    have hFc := va_free (wc := [(h0, .inr (6, [.ref te, .ref ta, .ref lo, .ref su, .ref pt, .int 0, .int ti, .long 0, .int (-1), .int (-1)]))]) hD hS hA [2] rfl
    refine va_calli (va_runV (As := []) (rest := []) ⟨hx, hb, hml, hown, hts⟩ (c_X6_leastV l dC dI h0 te ta lo su pt ti s.heap.size) (cwV 0 hts (gi_V (fun w_ h0_ => ⟨List.mem_cons_of_mem _ (List.mem_append_right _ (List.mem_append_right _ (List.mem_append_left _ h0_))), (tb_c_X6_leastV w_ h0_).2⟩) (List.mem_cons_of_mem _ (List.mem_append_left _ (List.mem_of_getElem? (i := 1) rfl))) (List.mem_cons_of_mem _ (List.mem_append_left _ (List.mem_of_getElem? (i := 2) rfl))) (List.mem_cons_of_mem _ (List.mem_append_left _ (List.mem_of_getElem? (i := 3) rfl))) (List.mem_cons_of_mem _ (List.mem_append_left _ (List.mem_of_getElem? (i := 4) rfl)))) rfl rfl rfl (by decide +kernel) ⟨Nat.le_of_ble_eq_true rfl, Nat.le_of_ble_eq_true rfl⟩) ⟨fun a U g mk q => by obtain ⟨q0, q1, qP, qK, qD⟩ := q; exact ⟨q0, q1, qP, va_K.moved (u := U) (U := U.calling g mk a) (Vm.Alike.refl U.vm) qK, qD⟩, va_recv hKc hPc (ci := 6) (q0 := 0) rfl rfl, fun U hU hW => ⟨rfl, by rw [hU], by rw [hU]; exact hPc, va_K.moved hW.alike hKc, hDc.weaken (fun _ _ _ _ => trivial)⟩⟩ rfl rfl hl.1 rfl (lv_room (Nat.le_of_ble_eq_true rfl)) dX0_pick_37 ⟨Nat.le_of_ble_eq_true rfl, Nat.le_of_ble_eq_true rfl⟩) hS (fun q _ h => hFc q h) hFc (fun r_2 u t H1 locs ht hvm hw hB hz1 hk1 hS => ?_)
    obtain ⟨hP1, hK1, hD1⟩ := hB
    rw [ht] at hP1
    have hK1 := va_K.moved hvm.symm hK1
    obtain ⟨hP, hD⟩ := va_join (wr := [(h1, .inr (0, [.ref te, .int 1, .long dr])), (te, .inr (9, [.int 0, .int ca, .int se])), (su, .inr (10, [.long 0, .long 0]))]) (w1 := [(h0, .inr (6, [.ref te, .ref ta, .ref lo, .ref su, .ref pt, .int 0, .int ti, .long 0, .int (-1), .int (-1)]))]) hP hD [2] [0, 1, 3] rfl rfl (by decide) (by decide) hk1 hFc hP1 hD1
    generalize H1 = H at hP hS ⊢
    have hP : va_P (dC, dI) vwCl [(h1, .inr (0, [.ref te, .int 1, .long dr])), (te, .inr (9, [.int 0, .int ca, .int se])), (su, .inr (10, [.long 0, .long 0])), (h0, .inr (6, [.ref te, .ref ta, .ref lo, .ref su, .ref pt, .int 0, .int ti, .long 0, .int (-1), .int (-1)]))] H := hP
    have hD : va_D A [(h1, .inr (0, [.ref te, .int 1, .long dr])), (te, .inr (9, [.int 0, .int ca, .int se])), (su, .inr (10, [.long 0, .long 0])), (h0, .inr (6, [.ref te, .ref ta, .ref lo, .ref su, .ref pt, .int 0, .int ti, .long 0, .int (-1), .int (-1)]))] := hD
    refine W.widen (k := 0) (n := 0) (Nat.le_of_ble_eq_true rfl) (Nat.le_of_ble_eq_true rfl) ?_
    have hw : r_2 = (-1) := hw
    subst hw
    have hP9 := hP.sub (ws' := [(h1, .inr (0, [.ref te, .int 1, .long dr])), (te, .inr (9, [.int 0, .int ca, .int se])), (h0, .inr (6, [.ref te, .ref ta, .ref lo, .ref su, .ref pt, .int 0, .int ti, .long 0, .int (-1), .int (-1)])), (su, .inr (10, [.long 0, .long 0]))]) [0, 1, 3, 2] rfl
    have hD9 := hD.sub (ws' := [(h1, .inr (0, [.ref te, .int 1, .long dr])), (te, .inr (9, [.int 0, .int ca, .int se])), (h0, .inr (6, [.ref te, .ref ta, .ref lo, .ref su, .ref pt, .int 0, .int ti, .long 0, .int (-1), .int (-1)])), (su, .inr (10, [.long 0, .long 0]))]) [0, 1, 3, 2] (by decide) rfl
    have hK9 := hK.sub (tys' := []) [] rfl
    refine W.widen (k := 0) (n := 0) (Nat.le_of_ble_eq_true rfl) (Nat.le_of_ble_eq_true rfl) ?_
    exact W.iret (v := (-1)) hx hb hr (fun t ht hW => ⟨⟨(-1), (), rfl, rfl, by rw [ht]; exact hP9, va_K.moved hW.alike hK9, hD9⟩, hS.F ht⟩) hS.2.2 dX0_pick_40
  by_cases h_3 : wy = 2
  · subst h_3
    refine lv_tableIn (tgt := 41) hx hb dX0_pick_4 (by decide) (by decide) rfl (by decide) ?_
    refine lv_aload_n hx hb dX0_pick_41 rfl (lv_at hl 1 rfl) ?_
    refine lv_iconst (v := 0) hx hb dX0_pick_42 (by decide) ?_
    have hPc := hP.sub (ws' := [(h0, .inr (6, [.ref te, .ref ta, .ref lo, .ref su, .ref pt, .int 0, .int ti, .long 0, .int (-1), .int (-1)]))]) [2] rfl
    have hDc := hD.sub (ws' := [(h0, .inr (6, [.ref te, .ref ta, .ref lo, .ref su, .ref pt, .int 0, .int ti, .long 0, .int (-1), .int (-1)]))]) [2] (by decide) rfl
    have hKc := hK.sub (tys' := []) [] rfl
    have hFc := va_free (wc := [(h0, .inr (6, [.ref te, .ref ta, .ref lo, .ref su, .ref pt, .int 0, .int ti, .long 0, .int (-1), .int (-1)]))]) hD hS hA [2] rfl
    refine va_calli (va_runV (As := [.int 0]) (rest := []) ⟨hx, hb, hml, hown, hts⟩ (c_X6_firstDeadline0 l dC dI h0 te ta lo su pt ti s.heap.size) (cwV 1 hts (gi_V (fun w_ h0_ => ⟨List.mem_cons_of_mem _ (List.mem_append_right _ (List.mem_append_right _ (List.mem_append_right _ (List.mem_append_left _ h0_)))), (tb_c_X6_firstDeadline0 w_ h0_).2⟩) (List.mem_cons_of_mem _ (List.mem_append_left _ (List.mem_of_getElem? (i := 5) rfl))) (List.mem_cons_of_mem _ (List.mem_append_left _ (List.mem_of_getElem? (i := 6) rfl))) (List.mem_cons_of_mem _ (List.mem_append_left _ (List.mem_of_getElem? (i := 7) rfl))) (List.mem_cons_of_mem _ (List.mem_append_left _ (List.mem_of_getElem? (i := 4) rfl)))) rfl rfl rfl (by decide +kernel) ⟨Nat.le_of_ble_eq_true rfl, Nat.le_of_ble_eq_true rfl⟩) ⟨fun a U g mk q => by obtain ⟨q0, q1, qP, qK, qD⟩ := q; exact ⟨q0, q1, qP, va_K.moved (u := U) (U := U.calling g mk a) (Vm.Alike.refl U.vm) qK, qD⟩, va_recv hKc hPc (ci := 6) (q0 := 0) rfl rfl, fun U hU hW => ⟨rfl, by rw [hU], by rw [hU]; exact hPc, va_K.moved hW.alike hKc, hDc.weaken (fun _ _ _ _ => trivial)⟩⟩ rfl rfl hl.1 rfl (lv_room (Nat.le_of_ble_eq_true rfl)) dX0_pick_43 ⟨Nat.le_of_ble_eq_true rfl, Nat.le_of_ble_eq_true rfl⟩) hS (fun q _ h => hFc q h) hFc (fun r_4 u t H1 locs ht hvm hw hB hz1 hk1 hS => ?_)
    obtain ⟨hP1, hK1, hD1⟩ := hB
    rw [ht] at hP1
    have hK1 := va_K.moved hvm.symm hK1
    obtain ⟨hP, hD⟩ := va_join (wr := [(h1, .inr (0, [.ref te, .int 2, .long dr])), (te, .inr (9, [.int 0, .int ca, .int se])), (su, .inr (10, [.long 0, .long 0]))]) (w1 := [(h0, .inr (6, [.ref te, .ref ta, .ref lo, .ref su, .ref pt, .int 0, .int ti, .long 0, .int (-1), .int (-1)]))]) hP hD [2] [0, 1, 3] rfl rfl (by decide) (by decide) hk1 hFc hP1 hD1
    generalize H1 = H at hP hS ⊢
    have hP : va_P (dC, dI) vwCl [(h1, .inr (0, [.ref te, .int 2, .long dr])), (te, .inr (9, [.int 0, .int ca, .int se])), (su, .inr (10, [.long 0, .long 0])), (h0, .inr (6, [.ref te, .ref ta, .ref lo, .ref su, .ref pt, .int 0, .int ti, .long 0, .int (-1), .int (-1)]))] H := hP
    have hD : va_D A [(h1, .inr (0, [.ref te, .int 2, .long dr])), (te, .inr (9, [.int 0, .int ca, .int se])), (su, .inr (10, [.long 0, .long 0])), (h0, .inr (6, [.ref te, .ref ta, .ref lo, .ref su, .ref pt, .int 0, .int ti, .long 0, .int (-1), .int (-1)]))] := hD
    refine W.widen (k := 0) (n := 0) (Nat.le_of_ble_eq_true rfl) (Nat.le_of_ble_eq_true rfl) ?_
    have hw : r_4 = (-1) := hw
    subst hw
    have hP9 := hP.sub (ws' := [(h1, .inr (0, [.ref te, .int 2, .long dr])), (te, .inr (9, [.int 0, .int ca, .int se])), (h0, .inr (6, [.ref te, .ref ta, .ref lo, .ref su, .ref pt, .int 0, .int ti, .long 0, .int (-1), .int (-1)])), (su, .inr (10, [.long 0, .long 0]))]) [0, 1, 3, 2] rfl
    have hD9 := hD.sub (ws' := [(h1, .inr (0, [.ref te, .int 2, .long dr])), (te, .inr (9, [.int 0, .int ca, .int se])), (h0, .inr (6, [.ref te, .ref ta, .ref lo, .ref su, .ref pt, .int 0, .int ti, .long 0, .int (-1), .int (-1)])), (su, .inr (10, [.long 0, .long 0]))]) [0, 1, 3, 2] (by decide) rfl
    have hK9 := hK.sub (tys' := []) [] rfl
    refine W.widen (k := 0) (n := 0) (Nat.le_of_ble_eq_true rfl) (Nat.le_of_ble_eq_true rfl) ?_
    exact W.iret (v := (-1)) hx hb hr (fun t ht hW => ⟨⟨(-1), (), rfl, rfl, by rw [ht]; exact hP9, va_K.moved hW.alike hK9, hD9⟩, hS.F ht⟩) hS.2.2 dX0_pick_46
  by_cases h_5 : wy = 3
  · subst h_5
    refine lv_tableIn (tgt := 47) hx hb dX0_pick_4 (by decide) (by decide) rfl (by decide) ?_
    refine lv_aload_n hx hb dX0_pick_47 rfl (lv_at hl 1 rfl) ?_
    have hPc := hP.sub (ws' := [(h0, .inr (6, [.ref te, .ref ta, .ref lo, .ref su, .ref pt, .int 0, .int ti, .long 0, .int (-1), .int (-1)]))]) [2] rfl
    have hDc := hD.sub (ws' := [(h0, .inr (6, [.ref te, .ref ta, .ref lo, .ref su, .ref pt, .int 0, .int ti, .long 0, .int (-1), .int (-1)]))]) [2] (by decide) rfl
    have hKc := hK.sub (tys' := []) [] rfl
    have hFc := va_free (wc := [(h0, .inr (6, [.ref te, .ref ta, .ref lo, .ref su, .ref pt, .int 0, .int ti, .long 0, .int (-1), .int (-1)]))]) hD hS hA [2] rfl
    refine va_calli (va_runV (As := []) (rest := []) ⟨hx, hb, hml, hown, hts⟩ (c_X6_nextInTurn l dC dI h0 te ta lo su pt ti s.heap.size) (cwV 0 hts (gi_V (fun w_ h0_ => ⟨List.mem_cons_of_mem _ (List.mem_append_right _ (List.mem_append_right _ (List.mem_append_right _ (List.mem_append_right _ (List.mem_append_left _ h0_))))), (tb_c_X6_nextInTurn w_ h0_).2⟩) (List.mem_cons_of_mem _ (List.mem_append_left _ (List.mem_of_getElem? (i := 8) rfl))) (List.mem_cons_of_mem _ (List.mem_append_left _ (List.mem_of_getElem? (i := 9) rfl))) (List.mem_cons_of_mem _ (List.mem_append_left _ (List.mem_of_getElem? (i := 10) rfl))) (List.mem_cons_of_mem _ (List.mem_append_left _ (List.mem_of_getElem? (i := 4) rfl)))) rfl rfl rfl (by decide +kernel) ⟨Nat.le_of_ble_eq_true rfl, Nat.le_of_ble_eq_true rfl⟩) ⟨fun a U g mk q => by obtain ⟨q0, q1, qP, qK, qD⟩ := q; exact ⟨q0, q1, qP, va_K.moved (u := U) (U := U.calling g mk a) (Vm.Alike.refl U.vm) qK, qD⟩, va_recv hKc hPc (ci := 6) (q0 := 0) rfl rfl, fun U hU hW => ⟨rfl, by rw [hU], by rw [hU]; exact hPc, va_K.moved hW.alike hKc, hDc.weaken (fun _ _ _ _ => trivial)⟩⟩ rfl rfl hl.1 rfl (lv_room (Nat.le_of_ble_eq_true rfl)) dX0_pick_48 ⟨Nat.le_of_ble_eq_true rfl, Nat.le_of_ble_eq_true rfl⟩) hS (fun q _ h => hFc q h) hFc (fun r_6 u t H1 locs ht hvm hw hB hz1 hk1 hS => ?_)
    obtain ⟨hP1, hK1, hD1⟩ := hB
    rw [ht] at hP1
    have hK1 := va_K.moved hvm.symm hK1
    obtain ⟨hP, hD⟩ := va_join (wr := [(h1, .inr (0, [.ref te, .int 3, .long dr])), (te, .inr (9, [.int 0, .int ca, .int se])), (su, .inr (10, [.long 0, .long 0]))]) (w1 := [(h0, .inr (6, [.ref te, .ref ta, .ref lo, .ref su, .ref pt, .int 0, .int ti, .long 0, .int (-1), .int (-1)]))]) hP hD [2] [0, 1, 3] rfl rfl (by decide) (by decide) hk1 hFc hP1 hD1
    generalize H1 = H at hP hS ⊢
    have hP : va_P (dC, dI) vwCl [(h1, .inr (0, [.ref te, .int 3, .long dr])), (te, .inr (9, [.int 0, .int ca, .int se])), (su, .inr (10, [.long 0, .long 0])), (h0, .inr (6, [.ref te, .ref ta, .ref lo, .ref su, .ref pt, .int 0, .int ti, .long 0, .int (-1), .int (-1)]))] H := hP
    have hD : va_D A [(h1, .inr (0, [.ref te, .int 3, .long dr])), (te, .inr (9, [.int 0, .int ca, .int se])), (su, .inr (10, [.long 0, .long 0])), (h0, .inr (6, [.ref te, .ref ta, .ref lo, .ref su, .ref pt, .int 0, .int ti, .long 0, .int (-1), .int (-1)]))] := hD
    refine W.widen (k := 0) (n := 0) (Nat.le_of_ble_eq_true rfl) (Nat.le_of_ble_eq_true rfl) ?_
    have hw : r_6 = (-1) := hw
    subst hw
    have hP9 := hP.sub (ws' := [(h1, .inr (0, [.ref te, .int 3, .long dr])), (te, .inr (9, [.int 0, .int ca, .int se])), (h0, .inr (6, [.ref te, .ref ta, .ref lo, .ref su, .ref pt, .int 0, .int ti, .long 0, .int (-1), .int (-1)])), (su, .inr (10, [.long 0, .long 0]))]) [0, 1, 3, 2] rfl
    have hD9 := hD.sub (ws' := [(h1, .inr (0, [.ref te, .int 3, .long dr])), (te, .inr (9, [.int 0, .int ca, .int se])), (h0, .inr (6, [.ref te, .ref ta, .ref lo, .ref su, .ref pt, .int 0, .int ti, .long 0, .int (-1), .int (-1)])), (su, .inr (10, [.long 0, .long 0]))]) [0, 1, 3, 2] (by decide) rfl
    have hK9 := hK.sub (tys' := []) [] rfl
    refine W.widen (k := 0) (n := 0) (Nat.le_of_ble_eq_true rfl) (Nat.le_of_ble_eq_true rfl) ?_
    exact W.iret (v := (-1)) hx hb hr (fun t ht hW => ⟨⟨(-1), (), rfl, rfl, by rw [ht]; exact hP9, va_K.moved hW.alike hK9, hD9⟩, hS.F ht⟩) hS.2.2 dX0_pick_51
  by_cases h_7 : wy = 4
  · subst h_7
    refine lv_tableIn (tgt := 52) hx hb dX0_pick_4 (by decide) (by decide) rfl (by decide) ?_
    refine lv_aload_n hx hb dX0_pick_52 rfl (lv_at hl 0 rfl) ?_
    refine lv_aload_n hx hb dX0_pick_53 rfl (lv_at hl 1 rfl) ?_
    have hPc := hP.sub (ws' := [(h1, .inr (0, [.ref te, .int 4, .long dr])), (h0, .inr (6, [.ref te, .ref ta, .ref lo, .ref su, .ref pt, .int 0, .int ti, .long 0, .int (-1), .int (-1)]))]) [0, 2] rfl
    have hDc := hD.sub (ws' := [(h1, .inr (0, [.ref te, .int 4, .long dr])), (h0, .inr (6, [.ref te, .ref ta, .ref lo, .ref su, .ref pt, .int 0, .int ti, .long 0, .int (-1), .int (-1)]))]) [0, 2] (by decide) rfl
    have hKc := hK.sub (tys' := []) [] rfl
    have hFc := va_free (wc := [(h1, .inr (0, [.ref te, .int 4, .long dr])), (h0, .inr (6, [.ref te, .ref ta, .ref lo, .ref su, .ref pt, .int 0, .int ti, .long 0, .int (-1), .int (-1)]))]) hD hS hA [0, 2] rfl
    refine va_calli (va_runV (As := [.ref h0]) (rest := []) ⟨hx, hb, hml, hown, hts⟩ (c_X0_byDraw l dC dI h1 h0 te 4 dr ta lo su pt ti s.heap.size) (cwV 1 hts (gi_V (fun w_ h0_ => ⟨List.mem_cons_of_mem _ (List.mem_append_right _ (List.mem_append_right _ (List.mem_append_right _ (List.mem_append_right _ (List.mem_append_right _ (List.mem_append_left _ h0_)))))), (tb_c_X0_byDraw w_ h0_).2⟩) (List.mem_cons_of_mem _ (List.mem_append_left _ (List.mem_of_getElem? (i := 11) rfl))) (List.mem_cons_of_mem _ (List.mem_append_left _ (List.mem_of_getElem? (i := 12) rfl))) (List.mem_cons_of_mem _ (List.mem_append_left _ (List.mem_of_getElem? (i := 13) rfl))) (List.mem_cons_of_mem _ (List.mem_append_left _ (List.mem_of_getElem? (i := 14) rfl)))) rfl rfl rfl (by decide +kernel) ⟨Nat.le_of_ble_eq_true rfl, Nat.le_of_ble_eq_true rfl⟩) ⟨fun a U g mk q => by obtain ⟨q0, q1, qP, qK, qD⟩ := q; exact ⟨q0, q1, qP, va_K.moved (u := U) (U := U.calling g mk a) (Vm.Alike.refl U.vm) qK, qD⟩, va_recv hKc hPc (ci := 0) (q0 := 0) rfl rfl, fun U hU hW => ⟨rfl, by rw [hU], by rw [hU]; exact hPc, va_K.moved hW.alike hKc, hDc.weaken (fun _ _ _ _ => trivial)⟩⟩ rfl rfl hl.1 rfl (lv_room (Nat.le_of_ble_eq_true rfl)) dX0_pick_54 ⟨Nat.le_of_ble_eq_true rfl, Nat.le_of_ble_eq_true rfl⟩) hS (fun q _ h => hFc q h) hFc (fun r_8 u t H1 locs ht hvm hw hB hz1 hk1 hS => ?_)
    obtain ⟨hP1, hK1, hD1⟩ := hB
    rw [ht] at hP1
    have hK1 := va_K.moved hvm.symm hK1
    obtain ⟨hP, hD⟩ := va_join (wr := [(te, .inr (9, [.int 0, .int ca, .int se])), (su, .inr (10, [.long 0, .long 0]))]) (w1 := [(h1, .inr (0, [.ref te, .int 4, .long dr])), (h0, .inr (6, [.ref te, .ref ta, .ref lo, .ref su, .ref pt, .int 0, .int ti, .long 0, .int (-1), .int (-1)]))]) hP hD [0, 2] [1, 3] rfl rfl (by decide) (by decide) hk1 hFc hP1 hD1
    generalize H1 = H at hP hS ⊢
    have hP : va_P (dC, dI) vwCl [(te, .inr (9, [.int 0, .int ca, .int se])), (su, .inr (10, [.long 0, .long 0])), (h1, .inr (0, [.ref te, .int 4, .long dr])), (h0, .inr (6, [.ref te, .ref ta, .ref lo, .ref su, .ref pt, .int 0, .int ti, .long 0, .int (-1), .int (-1)]))] H := hP
    have hD : va_D A [(te, .inr (9, [.int 0, .int ca, .int se])), (su, .inr (10, [.long 0, .long 0])), (h1, .inr (0, [.ref te, .int 4, .long dr])), (h0, .inr (6, [.ref te, .ref ta, .ref lo, .ref su, .ref pt, .int 0, .int ti, .long 0, .int (-1), .int (-1)]))] := hD
    refine W.widen (k := 0) (n := 0) (Nat.le_of_ble_eq_true rfl) (Nat.le_of_ble_eq_true rfl) ?_
    have hw : r_8 = (-1) := hw
    subst hw
    have hP9 := hP.sub (ws' := [(h1, .inr (0, [.ref te, .int 4, .long dr])), (te, .inr (9, [.int 0, .int ca, .int se])), (h0, .inr (6, [.ref te, .ref ta, .ref lo, .ref su, .ref pt, .int 0, .int ti, .long 0, .int (-1), .int (-1)])), (su, .inr (10, [.long 0, .long 0]))]) [2, 0, 3, 1] rfl
    have hD9 := hD.sub (ws' := [(h1, .inr (0, [.ref te, .int 4, .long dr])), (te, .inr (9, [.int 0, .int ca, .int se])), (h0, .inr (6, [.ref te, .ref ta, .ref lo, .ref su, .ref pt, .int 0, .int ti, .long 0, .int (-1), .int (-1)])), (su, .inr (10, [.long 0, .long 0]))]) [2, 0, 3, 1] (by decide) rfl
    have hK9 := hK.sub (tys' := []) [] rfl
    refine W.widen (k := 0) (n := 0) (Nat.le_of_ble_eq_true rfl) (Nat.le_of_ble_eq_true rfl) ?_
    exact W.iret (v := (-1)) hx hb hr (fun t ht hW => ⟨⟨(-1), (), rfl, rfl, by rw [ht]; exact hP9, va_K.moved hW.alike hK9, hD9⟩, hS.F ht⟩) hS.2.2 dX0_pick_57
  have z_9 := lv_neT (a := 1) h_1 (by decide)
  have z_10 := lv_neT (a := 2) h_3 (by decide)
  have z_11 := lv_neT (a := 3) h_5 (by decide)
  have z_12 := lv_neT (a := 4) h_7 (by decide)
  refine lv_tableOut (tgt := 58) hx hb dX0_pick_4 (by omega) (by decide) ?_
  refine lv_aload_n hx hb dX0_pick_58 rfl (lv_at hl 0 rfl) ?_
  refine va_get (D := (dC, dI)) (ci := 0) (v := .ref te) (C := RX0) (T := TX0) (N := 3) hx hb hts (fun _ h0_ => List.mem_cons_of_mem _ (List.mem_append_right _ (List.mem_append_left _ h0_))) hown hK hP 0 rfl rfl 0 (by decide) (hts (.fieldLink RX0 9 "DeadlineShare$Chooser" "terms" "LDeadlineShare$Terms;") (List.mem_cons_of_mem _ (List.mem_append_left _ (List.mem_of_getElem? (i := 15) rfl)))) (fun _ h9 => h9) rfl dX0_pick_59 ?_
  refine va_get (D := (dC, dI)) (ci := 9) (v := .int 0) (C := RX9) (T := TX9) (N := 3) hx hb hts (fun _ h0_ => List.mem_cons_of_mem _ (List.mem_append_right _ (List.mem_append_right _ (List.mem_append_right _ (List.mem_append_right _ (List.mem_append_right _ (List.mem_append_right _ (List.mem_append_left _ h0_)))))))) hown hK hP 1 rfl rfl 0 (by decide) (hts (.fieldLink RX0 45 "DeadlineShare$Terms" "mode" "I") (List.mem_cons_of_mem _ (List.mem_append_left _ (List.mem_of_getElem? (i := 16) rfl)))) (fun _ h9 => h9) rfl dX0_pick_62 ?_
  refine lv_iconst (v := 1) hx hb dX0_pick_65 (by decide) ?_
  refine lv_icmp_ne (tgt := 84) hx hb dX0_pick_66 (by decide) (fun _ => ?_) (fun c => absurd c (by decide))
  refine lv_aload_n hx hb dX0_pick_84 rfl (lv_at hl 1 rfl) ?_
  refine lv_iconst (v := 1) hx hb dX0_pick_85 (by decide) ?_
  have hPc := hP.sub (ws' := [(h0, .inr (6, [.ref te, .ref ta, .ref lo, .ref su, .ref pt, .int 0, .int ti, .long 0, .int (-1), .int (-1)])), (su, .inr (10, [.long 0, .long 0]))]) [2, 3] rfl
  have hDc := hD.sub (ws' := [(h0, .inr (6, [.ref te, .ref ta, .ref lo, .ref su, .ref pt, .int 0, .int ti, .long 0, .int (-1), .int (-1)])), (su, .inr (10, [.long 0, .long 0]))]) [2, 3] (by decide) rfl
  have hKc := hK.sub (tys' := []) [] rfl
  have hFc := va_free (wc := [(h0, .inr (6, [.ref te, .ref ta, .ref lo, .ref su, .ref pt, .int 0, .int ti, .long 0, .int (-1), .int (-1)])), (su, .inr (10, [.long 0, .long 0]))]) hD hS hA [2, 3] rfl
  refine va_calli (va_runV (As := [.int 1]) (rest := []) ⟨hx, hb, hml, hown, hts⟩ (c_X6_firstDeadline1 l dC dI h0 te ta lo su pt ti s.heap.size) (cwV 1 hts (gi_V (fun w_ h0_ => ⟨List.mem_cons_of_mem _ (List.mem_append_right _ (List.mem_append_right _ (List.mem_append_right _ (List.mem_append_right _ (List.mem_append_right _ (List.mem_append_right _ (List.mem_append_right _ (List.mem_append_left _ h0_)))))))), (tb_c_X6_firstDeadline1 w_ h0_).2⟩) (List.mem_cons_of_mem _ (List.mem_append_left _ (List.mem_of_getElem? (i := 5) rfl))) (List.mem_cons_of_mem _ (List.mem_append_left _ (List.mem_of_getElem? (i := 6) rfl))) (List.mem_cons_of_mem _ (List.mem_append_left _ (List.mem_of_getElem? (i := 7) rfl))) (List.mem_cons_of_mem _ (List.mem_append_left _ (List.mem_of_getElem? (i := 4) rfl)))) rfl rfl rfl (by decide +kernel) ⟨Nat.le_of_ble_eq_true rfl, Nat.le_of_ble_eq_true rfl⟩) ⟨fun a U g mk q => by obtain ⟨q0, q1, qP, qK, qD⟩ := q; exact ⟨q0, q1, qP, va_K.moved (u := U) (U := U.calling g mk a) (Vm.Alike.refl U.vm) qK, qD⟩, va_recv hKc hPc (ci := 6) (q0 := 0) rfl rfl, fun U hU hW => ⟨rfl, by rw [hU], by rw [hU]; exact hPc, va_K.moved hW.alike hKc, hDc.weaken (fun _ _ _ _ => trivial)⟩⟩ rfl rfl hl.1 rfl (lv_room (Nat.le_of_ble_eq_true rfl)) dX0_pick_86 ⟨Nat.le_of_ble_eq_true rfl, Nat.le_of_ble_eq_true rfl⟩) hS (fun q _ h => hFc q h) hFc (fun r_13 u t H1 locs ht hvm hw hB hz1 hk1 hS => ?_)
  obtain ⟨hP1, hK1, hD1⟩ := hB
  rw [ht] at hP1
  have hK1 := va_K.moved hvm.symm hK1
  obtain ⟨hP, hD⟩ := va_join (wr := [(h1, .inr (0, [.ref te, .int wy, .long dr])), (te, .inr (9, [.int 0, .int ca, .int se]))]) (w1 := [(h0, .inr (6, [.ref te, .ref ta, .ref lo, .ref su, .ref pt, .int 0, .int ti, .long 0, .int (-1), .int (-1)])), (su, .inr (10, [.long 0, .long 0]))]) hP hD [2, 3] [0, 1] rfl rfl (by decide) (by decide) hk1 hFc hP1 hD1
  generalize H1 = H at hP hS ⊢
  have hP : va_P (dC, dI) vwCl [(h1, .inr (0, [.ref te, .int wy, .long dr])), (te, .inr (9, [.int 0, .int ca, .int se])), (h0, .inr (6, [.ref te, .ref ta, .ref lo, .ref su, .ref pt, .int 0, .int ti, .long 0, .int (-1), .int (-1)])), (su, .inr (10, [.long 0, .long 0]))] H := hP
  have hD : va_D A [(h1, .inr (0, [.ref te, .int wy, .long dr])), (te, .inr (9, [.int 0, .int ca, .int se])), (h0, .inr (6, [.ref te, .ref ta, .ref lo, .ref su, .ref pt, .int 0, .int ti, .long 0, .int (-1), .int (-1)])), (su, .inr (10, [.long 0, .long 0]))] := hD
  refine W.widen (k := 0) (n := 0) (Nat.le_of_ble_eq_true rfl) (Nat.le_of_ble_eq_true rfl) ?_
  have hw : r_13 = (-1) := hw
  subst hw
  have hP9 := hP.sub (ws' := [(h1, .inr (0, [.ref te, .int wy, .long dr])), (te, .inr (9, [.int 0, .int ca, .int se])), (h0, .inr (6, [.ref te, .ref ta, .ref lo, .ref su, .ref pt, .int 0, .int ti, .long 0, .int (-1), .int (-1)])), (su, .inr (10, [.long 0, .long 0]))]) [0, 1, 2, 3] rfl
  have hD9 := hD.sub (ws' := [(h1, .inr (0, [.ref te, .int wy, .long dr])), (te, .inr (9, [.int 0, .int ca, .int se])), (h0, .inr (6, [.ref te, .ref ta, .ref lo, .ref su, .ref pt, .int 0, .int ti, .long 0, .int (-1), .int (-1)])), (su, .inr (10, [.long 0, .long 0]))]) [0, 1, 2, 3] (by decide) rfl
  have hK9 := hK.sub (tys' := []) [] rfl
  refine W.widen (k := 0) (n := 0) (Nat.le_of_ble_eq_true rfl) (Nat.le_of_ble_eq_true rfl) ?_
  exact W.iret (v := (-1)) hx hb hr (fun t ht hW => ⟨⟨(-1), (), rfl, rfl, by rw [ht]; exact hP9, va_K.moved hW.alike hK9, hD9⟩, hS.F ht⟩) hS.2.2 dX0_pick_89
def ow_c_X2_put : List Cond := [.fieldLink RX2 11 "DeadlineShare$Log" "rows" "[J"]
def wq_c_X2_put : List Cond := .code yX2_put cX2_put 6 none :: (ow_c_X2_put ++ (u_ws RX2 TX2 1 ++ ([] : List Cond)))
theorem tb_c_X2_put : ∀ w ∈ wq_c_X2_put, q_g w := by
  unfold wq_c_X2_put ow_c_X2_put
  exact q_cons tw_203 (q_app (q_cons tw_27 q_nil) (q_app tu_X2 q_nil))
set_option maxHeartbeats 4000000 in
set_option maxRecDepth 100000 in
theorem c_X2_put (l : Launch) (dC : Nat → ClassId) (dI : Nat → Nat → Nat) (lo : Nat) (ti : Int32) (lr : Nat) (cl : ClassId) (fr : Nat → Int64) (sz : Nat) : Met l yX2_put wq_c_X2_put ({ frames := 0, cells := 0, slots := 0, locals := 0 } : Room) (va_Pc [.ref lo, .int ti, .int (-1), .int 0, .long 0] (fun U => U.heap.size = sz ∧ va_P (dC, dI) vwCl [(lo, .inr (2, [.ref lr])), (lr, .inl (cl, 128, .inr (.inl fr)))] U.heap ∧ va_K (dC, dI) vwCl [(cl, .long)] U ∧ va_D (fun _ => True) [(lo, .inr (2, [.ref lr])), (lr, .inl (cl, 128, .inr (.inl fr)))])) (va_Qv (fun (_ : Unit) => True) (fun (_ : Unit) t => ∃ (f2 : Nat → Int64), va_P (dC, dI) vwCl [(lo, .inr (2, [.ref lr])), (lr, .inl (cl, 128, .inr (.inl f2)))] t.heap ∧ va_K (dC, dI) vwCl [(cl, .long)] t ∧ va_D (va_A [(lo, .inr (2, [.ref lr])), (lr, .inl (cl, 128, .inr (.inl fr)))] sz) [(lo, .inr (2, [.ref lr])), (lr, .inl (cl, 128, .inr (.inl f2)))]) (va_A [(lo, .inr (2, [.ref lr])), (lr, .inl (cl, 128, .inr (.inl fr)))] sz)) 0 0 (va_A [(lo, .inr (2, [.ref lr])), (lr, .inl (cl, 128, .inr (.inl fr)))] sz) := by
  refine Met.ofW (cc := cX2_put) (maxL := 6) (ret := none) (by decide) rfl ?_
  intro p e s m args below meth c s₁ B hml hv
  obtain ⟨rfl, hsz, hP, hK, hD0⟩ := hv
  have hx := B.exec
  have hb := B.bytes
  have hr := B.returns
  have hts := atoms_spec (ws := wq_c_X2_put) B.pre
  have hown : s.vm.findClass RX2 = some m.cls := findClass_of_methodNamed B.named
  have hlocks := B.notSynchronized
  subst hsz
  have hD := hD0.self (sz := s.heap.size)
  obtain ⟨A, hAe⟩ : ∃ A, A = va_A [(lo, .inr (2, [.ref lr])), (lr, .inl (cl, 128, .inr (.inl fr)))] s.heap.size := ⟨_, rfl⟩
  rw [← hAe] at hD ⊢
  have hA : ∀ q : Nat, s.heap.size ≤ q → A q := fun q h => by rw [hAe]; exact Or.inr h
  have hS : va_S A s.heap s.heap [] := va_S.rf
  have hP : va_P (dC, dI) vwCl [(lo, .inr (2, [.ref lr])), (lr, .inl (cl, 128, .inr (.inl fr)))] s.heap := hP
  have hl := lv_entry ([.ref lo, .int ti, .int (-1), .int 0, .long 0]) (n := 6) (Nat.le_of_ble_eq_true rfl)
  rw [lg_entry_eq]
  generalize (lg_sl ([.ref lo, .int ti, .int (-1), .int 0, .long 0]) ++ List.replicate (6 - (lg_sl ([.ref lo, .int ti, .int (-1), .int 0, .long 0])).length) Slot.unset).toArray = ls at hl ⊢
  have hl : lv_has ls 6 [(0, .ref lo), (1, .int ti), (2, .int (-1)), (3, .int 0), (4, .long 0)] := hl
  refine lv_aload_n hx hb dX2_put_0 rfl (lv_at hl 0 rfl) ?_
  refine va_get (D := (dC, dI)) (ci := 2) (v := .ref lr) (C := RX2) (T := TX2) (N := 1) hx hb hts (fun _ h0_ => List.mem_cons_of_mem _ (List.mem_append_right _ (List.mem_append_left _ h0_))) hown hK hP 0 rfl rfl 0 (by decide) (hts (.fieldLink RX2 11 "DeadlineShare$Log" "rows" "[J") (List.mem_cons_of_mem _ (List.mem_append_left _ (List.mem_of_getElem? (i := 0) rfl)))) (fun _ h9 => h9) rfl dX2_put_1 ?_
  refine lv_iload_n hx hb dX2_put_4 rfl (lv_at hl 1 rfl) ?_
  refine lv_bipush (v := 127) hx hb dX2_put_5 (by decide) ?_
  refine lv_iand hx hb dX2_put_7 ?_
  refine lv_topi (fun v_1 ev_1 => ?_)
  refine lv_lload hx hb dX2_put_8 (lv_at hl 4 rfl) ?_
  refine lv_iload_n hx hb dX2_put_10 rfl (lv_at hl 3 rfl) ?_
  refine lv_i2l (v := 0) hx hb dX2_put_11 (by decide) ?_
  refine lv_bipush (v := 48) hx hb dX2_put_12 (by decide) ?_
  refine lv_lshl hx hb dX2_put_14 rfl ?_
  refine k_topl (y := 0) (by decide) ?_
  refine lv_lor hx hb dX2_put_15 ?_
  refine k_topl (y := 0) (by decide) ?_
  refine lv_iload_n hx hb dX2_put_16 rfl (lv_at hl 2 rfl) ?_
  refine lv_i2l (v := (-1)) hx hb dX2_put_17 (by decide) ?_
  refine lv_lconst (v := 1) hx hb dX2_put_18 (by decide) ?_
  refine lv_ladd hx hb dX2_put_19 ?_
  refine k_topl (y := 0) (by decide) ?_
  refine lv_bipush (v := 53) hx hb dX2_put_20 (by decide) ?_
  refine lv_lshl hx hb dX2_put_22 rfl ?_
  refine k_topl (y := 0) (by decide) ?_
  refine lv_lor hx hb dX2_put_23 ?_
  refine k_topl (y := 0) (by decide) ?_
  refine va_last hx hb hK hP hD hS 1 0 rfl rfl (by rw [ev_1]; exact pk_andIn _ 7 (by decide) (by decide)) dX2_put_24 (fun H locs hP hD hS => ?_)
  have hP : va_P (dC, dI) vwCl [(lo, .inr (2, [.ref lr])), (lr, .inl (cl, 128, .inr (.inl (vp_updL fr (Int32.toNatClampNeg v_1) 0))))] H := hP
  have hD : va_D A [(lo, .inr (2, [.ref lr])), (lr, .inl (cl, 128, .inr (.inl (vp_updL fr (Int32.toNatClampNeg v_1) 0))))] := hD
  generalize ef_2 : vp_updL fr (Int32.toNatClampNeg v_1) 0 = f_2 at hP hD
  have hP9 := hP.sub (ws' := [(lo, .inr (2, [.ref lr])), (lr, .inl (cl, 128, .inr (.inl f_2)))]) [0, 1] rfl
  have hD9 := hD.sub (ws' := [(lo, .inr (2, [.ref lr])), (lr, .inl (cl, 128, .inr (.inl f_2)))]) [0, 1] (by decide) rfl
  have hK9 := hK.sub (tys' := [(cl, .long)]) [0] rfl
  refine W.widen (k := 0) (n := 0) (Nat.le_of_ble_eq_true rfl) (Nat.le_of_ble_eq_true rfl) ?_
  exact W.vret hx hb hr (fun t ht hW => ⟨⟨(), rfl, trivial, f_2, by rw [ht]; exact hP9, va_K.moved hW.alike hK9, hD9⟩, hS.F ht⟩) hS.2.2 dX2_put_25
def ow_c_X6_tick : List Cond := [.fieldLink RX6 48 "DeadlineShare$State" "count" "I", .methodLink RX6 204 yX0_pick, .instanceMethod yX0_pick, .selects RX0 yX0_pick yX0_pick, .initialized RX0, .fieldLink RX6 20 "DeadlineShare$State" "log" "LDeadlineShare$Log;", .fieldLink RX6 58 "DeadlineShare$State" "time" "I", .methodLink RX6 108 yX6_weightOfAll, .instanceMethod yX6_weightOfAll, .selects RX6 yX6_weightOfAll yX6_weightOfAll, .initialized RX6, .methodLink RX6 210 yX6_weightsAsBits, .instanceMethod yX6_weightsAsBits, .selects RX6 yX6_weightsAsBits yX6_weightsAsBits, .methodLink RX6 213 yX2_put, .instanceMethod yX2_put, .selects RX2 yX2_put yX2_put, .initialized RX2, .methodLink RX6 194 yX6_has, .instanceMethod yX6_has, .selects RX6 yX6_has yX6_has, .fieldLink RX6 38 "DeadlineShare$State" "holder" "I"]
def wq_c_X6_tick : List Cond := .code yX6_tick cX6_tick 3 (some .int) :: (ow_c_X6_tick ++ (u_ws RX6 TX6 10 ++ (wq_c_X0_pick ++ (wq_c_X6_weightOfAll ++ (wq_c_X6_weightsAsBits ++ (wq_c_X2_put ++ (wq_c_X6_has ++ ([] : List Cond))))))))
theorem tb_c_X6_tick : ∀ w ∈ wq_c_X6_tick, q_g w := by
  unfold wq_c_X6_tick ow_c_X6_tick
  exact q_cons tw_216 (q_app (q_cons tw_135 (q_cons tw_215 (q_cons tw_214 (q_cons tw_213 (q_cons tw_97 (q_cons tw_61 (q_cons tw_176 (q_cons tw_184 (q_cons tw_183 (q_cons tw_182 (q_cons tw_72 (q_cons tw_212 (q_cons tw_211 (q_cons tw_210 (q_cons tw_209 (q_cons tw_208 (q_cons tw_207 (q_cons tw_63 (q_cons tw_206 (q_cons tw_205 (q_cons tw_204 (q_cons tw_56 q_nil)))))))))))))))))))))) (q_app tu_X6 (q_app tb_c_X0_pick (q_app tb_c_X6_weightOfAll (q_app tb_c_X6_weightsAsBits (q_app tb_c_X2_put (q_app tb_c_X6_has q_nil)))))))
set_option maxHeartbeats 4000000 in
set_option maxRecDepth 100000 in
theorem c_X6_tick (l : Launch) (dC : Nat → ClassId) (dI : Nat → Nat → Nat) (h0 : Nat) (h1 : Nat) (te : Nat) (ta : Nat) (lo : Nat) (su : Nat) (pt : Nat) (ti : Int32) (wy : Int32) (dr : Int64) (ca : Int32) (se : Int32) (lr : Nat) (cl : ClassId) (fr : Nat → Int64) (sz : Nat) : Met l yX6_tick wq_c_X6_tick ({ frames := 5, cells := 0, slots := 0, locals := 115 } : Room) (va_Pc [.ref h0, .ref h1] (fun U => U.heap.size = sz ∧ va_P (dC, dI) vwCl [(h0, .inr (6, [.ref te, .ref ta, .ref lo, .ref su, .ref pt, .int 0, .int ti, .long 0, .int (-1), .int (-1)])), (h1, .inr (0, [.ref te, .int wy, .long dr])), (te, .inr (9, [.int 0, .int ca, .int se])), (su, .inr (10, [.long 0, .long 0])), (lo, .inr (2, [.ref lr])), (lr, .inl (cl, 128, .inr (.inl fr)))] U.heap ∧ va_K (dC, dI) vwCl [(cl, .long)] U ∧ va_D (fun _ => True) [(h0, .inr (6, [.ref te, .ref ta, .ref lo, .ref su, .ref pt, .int 0, .int ti, .long 0, .int (-1), .int (-1)])), (h1, .inr (0, [.ref te, .int wy, .long dr])), (te, .inr (9, [.int 0, .int ca, .int se])), (su, .inr (10, [.long 0, .long 0])), (lo, .inr (2, [.ref lr])), (lr, .inl (cl, 128, .inr (.inl fr)))])) (va_Qi (fun (r : Int32) (_ : Unit) => r = (-1)) (fun (_ : Unit) t => ∃ (t2 : Int32), ∃ (f2 : Nat → Int64), va_P (dC, dI) vwCl [(h0, .inr (6, [.ref te, .ref ta, .ref lo, .ref su, .ref pt, .int 0, .int t2, .long 0, .int (-1), .int (-1)])), (h1, .inr (0, [.ref te, .int wy, .long dr])), (te, .inr (9, [.int 0, .int ca, .int se])), (su, .inr (10, [.long 0, .long 0])), (lo, .inr (2, [.ref lr])), (lr, .inl (cl, 128, .inr (.inl f2)))] t.heap ∧ va_K (dC, dI) vwCl [(cl, .long)] t ∧ va_D (va_A [(h0, .inr (6, [.ref te, .ref ta, .ref lo, .ref su, .ref pt, .int 0, .int ti, .long 0, .int (-1), .int (-1)])), (h1, .inr (0, [.ref te, .int wy, .long dr])), (te, .inr (9, [.int 0, .int ca, .int se])), (su, .inr (10, [.long 0, .long 0])), (lo, .inr (2, [.ref lr])), (lr, .inl (cl, 128, .inr (.inl fr)))] sz) [(h0, .inr (6, [.ref te, .ref ta, .ref lo, .ref su, .ref pt, .int 0, .int t2, .long 0, .int (-1), .int (-1)])), (h1, .inr (0, [.ref te, .int wy, .long dr])), (te, .inr (9, [.int 0, .int ca, .int se])), (su, .inr (10, [.long 0, .long 0])), (lo, .inr (2, [.ref lr])), (lr, .inl (cl, 128, .inr (.inl f2)))]) (va_A [(h0, .inr (6, [.ref te, .ref ta, .ref lo, .ref su, .ref pt, .int 0, .int ti, .long 0, .int (-1), .int (-1)])), (h1, .inr (0, [.ref te, .int wy, .long dr])), (te, .inr (9, [.int 0, .int ca, .int se])), (su, .inr (10, [.long 0, .long 0])), (lo, .inr (2, [.ref lr])), (lr, .inl (cl, 128, .inr (.inl fr)))] sz)) 0 0 (va_A [(h0, .inr (6, [.ref te, .ref ta, .ref lo, .ref su, .ref pt, .int 0, .int ti, .long 0, .int (-1), .int (-1)])), (h1, .inr (0, [.ref te, .int wy, .long dr])), (te, .inr (9, [.int 0, .int ca, .int se])), (su, .inr (10, [.long 0, .long 0])), (lo, .inr (2, [.ref lr])), (lr, .inl (cl, 128, .inr (.inl fr)))] sz) := by
  refine Met.ofW (cc := cX6_tick) (maxL := 3) (ret := (some .int)) (by decide) rfl ?_
  intro p e s m args below meth c s₁ B hml hv
  obtain ⟨rfl, hsz, hP, hK, hD0⟩ := hv
  have hx := B.exec
  have hb := B.bytes
  have hr := B.returns
  have hts := atoms_spec (ws := wq_c_X6_tick) B.pre
  have hown : s.vm.findClass RX6 = some m.cls := findClass_of_methodNamed B.named
  have hlocks := B.notSynchronized
  subst hsz
  have hD := hD0.self (sz := s.heap.size)
  obtain ⟨A, hAe⟩ : ∃ A, A = va_A [(h0, .inr (6, [.ref te, .ref ta, .ref lo, .ref su, .ref pt, .int 0, .int ti, .long 0, .int (-1), .int (-1)])), (h1, .inr (0, [.ref te, .int wy, .long dr])), (te, .inr (9, [.int 0, .int ca, .int se])), (su, .inr (10, [.long 0, .long 0])), (lo, .inr (2, [.ref lr])), (lr, .inl (cl, 128, .inr (.inl fr)))] s.heap.size := ⟨_, rfl⟩
  rw [← hAe] at hD ⊢
  have hA : ∀ q : Nat, s.heap.size ≤ q → A q := fun q h => by rw [hAe]; exact Or.inr h
  have hS : va_S A s.heap s.heap [] := va_S.rf
  have hP : va_P (dC, dI) vwCl [(h0, .inr (6, [.ref te, .ref ta, .ref lo, .ref su, .ref pt, .int 0, .int ti, .long 0, .int (-1), .int (-1)])), (h1, .inr (0, [.ref te, .int wy, .long dr])), (te, .inr (9, [.int 0, .int ca, .int se])), (su, .inr (10, [.long 0, .long 0])), (lo, .inr (2, [.ref lr])), (lr, .inl (cl, 128, .inr (.inl fr)))] s.heap := hP
  have hl := lv_entry ([.ref h0, .ref h1]) (n := 3) (Nat.le_of_ble_eq_true rfl)
  rw [lg_entry_eq]
  generalize (lg_sl ([.ref h0, .ref h1]) ++ List.replicate (3 - (lg_sl ([.ref h0, .ref h1])).length) Slot.unset).toArray = ls at hl ⊢
  have hl : lv_has ls 3 [(0, .ref h0), (1, .ref h1)] := hl
  refine lv_iconst (v := 0) hx hb dX6_tick_0 (by decide) ?_
  refine lv_istore_n (lv' := [(2, .int 0), (0, .ref h0), (1, .ref h1)]) hx hb dX6_tick_1 rfl hl (by decide) rfl (fun ls hl => ?_)
  refine lv_iload_n hx hb dX6_tick_2 rfl (lv_at hl 0 rfl) ?_
  refine lv_aload_n hx hb dX6_tick_3 rfl (lv_at hl 1 rfl) ?_
  refine va_get (D := (dC, dI)) (ci := 6) (v := .int 0) (C := RX6) (T := TX6) (N := 10) hx hb hts (fun _ h0_ => List.mem_cons_of_mem _ (List.mem_append_right _ (List.mem_append_left _ h0_))) hown hK hP 0 rfl rfl 5 (by decide) (hts (.fieldLink RX6 48 "DeadlineShare$State" "count" "I") (List.mem_cons_of_mem _ (List.mem_append_left _ (List.mem_of_getElem? (i := 0) rfl)))) (fun _ h9 => h9) rfl dX6_tick_4 ?_
  refine lv_icmp_ge (tgt := 29) hx hb dX6_tick_7 (by decide) (fun _ => ?_) (fun c => absurd (by decide) c)
  refine lv_iconst (v := 0) hx hb dX6_tick_29 (by decide) ?_
  refine lv_istore_n (lv' := [(2, .int 0), (0, .ref h0), (1, .ref h1)]) hx hb dX6_tick_30 rfl hl (by decide) rfl (fun ls hl => ?_)
  refine lv_iload_n hx hb dX6_tick_31 rfl (lv_at hl 0 rfl) ?_
  refine lv_aload_n hx hb dX6_tick_32 rfl (lv_at hl 1 rfl) ?_
  refine va_get (D := (dC, dI)) (ci := 6) (v := .int 0) (C := RX6) (T := TX6) (N := 10) hx hb hts (fun _ h0_ => List.mem_cons_of_mem _ (List.mem_append_right _ (List.mem_append_left _ h0_))) hown hK hP 0 rfl rfl 5 (by decide) (hts (.fieldLink RX6 48 "DeadlineShare$State" "count" "I") (List.mem_cons_of_mem _ (List.mem_append_left _ (List.mem_of_getElem? (i := 0) rfl)))) (fun _ h9 => h9) rfl dX6_tick_33 ?_
  refine lv_icmp_ge (tgt := 55) hx hb dX6_tick_36 (by decide) (fun _ => ?_) (fun c => absurd (by decide) c)
  refine lv_aload_n hx hb dX6_tick_55 rfl (lv_at hl 2 rfl) ?_
  refine lv_aload_n hx hb dX6_tick_56 rfl (lv_at hl 1 rfl) ?_
  have hPc := hP.sub (ws' := [(h1, .inr (0, [.ref te, .int wy, .long dr])), (te, .inr (9, [.int 0, .int ca, .int se])), (h0, .inr (6, [.ref te, .ref ta, .ref lo, .ref su, .ref pt, .int 0, .int ti, .long 0, .int (-1), .int (-1)])), (su, .inr (10, [.long 0, .long 0]))]) [1, 2, 0, 3] rfl
  have hDc := hD.sub (ws' := [(h1, .inr (0, [.ref te, .int wy, .long dr])), (te, .inr (9, [.int 0, .int ca, .int se])), (h0, .inr (6, [.ref te, .ref ta, .ref lo, .ref su, .ref pt, .int 0, .int ti, .long 0, .int (-1), .int (-1)])), (su, .inr (10, [.long 0, .long 0]))]) [1, 2, 0, 3] (by decide) rfl
  have hKc := hK.sub (tys' := []) [] rfl
  have hFc := va_free (wc := [(h1, .inr (0, [.ref te, .int wy, .long dr])), (te, .inr (9, [.int 0, .int ca, .int se])), (h0, .inr (6, [.ref te, .ref ta, .ref lo, .ref su, .ref pt, .int 0, .int ti, .long 0, .int (-1), .int (-1)])), (su, .inr (10, [.long 0, .long 0]))]) hD hS hA [1, 2, 0, 3] rfl
  refine va_calli (va_runV (As := [.ref h0]) (rest := []) ⟨hx, hb, hml, hown, hts⟩ (c_X0_pick l dC dI h1 h0 te wy dr ca se ta lo su pt ti s.heap.size) (cwV 1 hts (gi_V (fun w_ h0_ => ⟨List.mem_cons_of_mem _ (List.mem_append_right _ (List.mem_append_right _ (List.mem_append_left _ h0_))), (tb_c_X0_pick w_ h0_).2⟩) (List.mem_cons_of_mem _ (List.mem_append_left _ (List.mem_of_getElem? (i := 1) rfl))) (List.mem_cons_of_mem _ (List.mem_append_left _ (List.mem_of_getElem? (i := 2) rfl))) (List.mem_cons_of_mem _ (List.mem_append_left _ (List.mem_of_getElem? (i := 3) rfl))) (List.mem_cons_of_mem _ (List.mem_append_left _ (List.mem_of_getElem? (i := 4) rfl)))) rfl rfl rfl (by decide +kernel) ⟨Nat.le_of_ble_eq_true rfl, Nat.le_of_ble_eq_true rfl⟩) ⟨fun a U g mk q => by obtain ⟨q0, q1, qP, qK, qD⟩ := q; exact ⟨q0, q1, qP, va_K.moved (u := U) (U := U.calling g mk a) (Vm.Alike.refl U.vm) qK, qD⟩, va_recv hKc hPc (ci := 0) (q0 := 0) rfl rfl, fun U hU hW => ⟨rfl, by rw [hU], by rw [hU]; exact hPc, va_K.moved hW.alike hKc, hDc.weaken (fun _ _ _ _ => trivial)⟩⟩ rfl rfl hl.1 rfl (lv_room (Nat.le_of_ble_eq_true rfl)) dX6_tick_57 ⟨Nat.le_of_ble_eq_true rfl, Nat.le_of_ble_eq_true rfl⟩) hS (fun q _ h => hFc q h) hFc (fun r_1 u t H1 locs ht hvm hw hB hz1 hk1 hS => ?_)
  obtain ⟨hP1, hK1, hD1⟩ := hB
  rw [ht] at hP1
  have hK1 := va_K.moved hvm.symm hK1
  obtain ⟨hP, hD⟩ := va_join (wr := [(lo, .inr (2, [.ref lr])), (lr, .inl (cl, 128, .inr (.inl fr)))]) (w1 := [(h1, .inr (0, [.ref te, .int wy, .long dr])), (te, .inr (9, [.int 0, .int ca, .int se])), (h0, .inr (6, [.ref te, .ref ta, .ref lo, .ref su, .ref pt, .int 0, .int ti, .long 0, .int (-1), .int (-1)])), (su, .inr (10, [.long 0, .long 0]))]) hP hD [1, 2, 0, 3] [4, 5] rfl rfl (by decide) (by decide) hk1 hFc hP1 hD1
  generalize H1 = H at hP hS ⊢
  have hP : va_P (dC, dI) vwCl [(lo, .inr (2, [.ref lr])), (lr, .inl (cl, 128, .inr (.inl fr))), (h1, .inr (0, [.ref te, .int wy, .long dr])), (te, .inr (9, [.int 0, .int ca, .int se])), (h0, .inr (6, [.ref te, .ref ta, .ref lo, .ref su, .ref pt, .int 0, .int ti, .long 0, .int (-1), .int (-1)])), (su, .inr (10, [.long 0, .long 0]))] H := hP
  have hD : va_D A [(lo, .inr (2, [.ref lr])), (lr, .inl (cl, 128, .inr (.inl fr))), (h1, .inr (0, [.ref te, .int wy, .long dr])), (te, .inr (9, [.int 0, .int ca, .int se])), (h0, .inr (6, [.ref te, .ref ta, .ref lo, .ref su, .ref pt, .int 0, .int ti, .long 0, .int (-1), .int (-1)])), (su, .inr (10, [.long 0, .long 0]))] := hD
  refine W.widen (k := 0) (n := 0) (Nat.le_of_ble_eq_true rfl) (Nat.le_of_ble_eq_true rfl) ?_
  have hw : r_1 = (-1) := hw
  subst hw
  refine lv_istore_n (lv' := [(2, .int (-1)), (0, .ref h0), (1, .ref h1)]) hx hb dX6_tick_60 rfl hl (by decide) rfl (fun ls hl => ?_)
  refine lv_aload_n hx hb dX6_tick_61 rfl (lv_at hl 1 rfl) ?_
  refine va_get (D := (dC, dI)) (ci := 6) (v := .ref lo) (C := RX6) (T := TX6) (N := 10) hx hb hts (fun _ h0_ => List.mem_cons_of_mem _ (List.mem_append_right _ (List.mem_append_left _ h0_))) hown hK hP 4 rfl rfl 2 (by decide) (hts (.fieldLink RX6 20 "DeadlineShare$State" "log" "LDeadlineShare$Log;") (List.mem_cons_of_mem _ (List.mem_append_left _ (List.mem_of_getElem? (i := 5) rfl)))) (fun _ h9 => h9) rfl dX6_tick_62 ?_
  refine lv_aload_n hx hb dX6_tick_65 rfl (lv_at hl 1 rfl) ?_
  refine va_get (D := (dC, dI)) (ci := 6) (v := .int ti) (C := RX6) (T := TX6) (N := 10) hx hb hts (fun _ h0_ => List.mem_cons_of_mem _ (List.mem_append_right _ (List.mem_append_left _ h0_))) hown hK hP 4 rfl rfl 6 (by decide) (hts (.fieldLink RX6 58 "DeadlineShare$State" "time" "I") (List.mem_cons_of_mem _ (List.mem_append_left _ (List.mem_of_getElem? (i := 6) rfl)))) (fun _ h9 => h9) rfl dX6_tick_66 ?_
  refine lv_iload_n hx hb dX6_tick_69 rfl (lv_at hl 0 rfl) ?_
  refine lv_aload_n hx hb dX6_tick_70 rfl (lv_at hl 1 rfl) ?_
  have hPc := hP.sub (ws' := [(h0, .inr (6, [.ref te, .ref ta, .ref lo, .ref su, .ref pt, .int 0, .int ti, .long 0, .int (-1), .int (-1)]))]) [4] rfl
  have hDc := hD.sub (ws' := [(h0, .inr (6, [.ref te, .ref ta, .ref lo, .ref su, .ref pt, .int 0, .int ti, .long 0, .int (-1), .int (-1)]))]) [4] (by decide) rfl
  have hKc := hK.sub (tys' := []) [] rfl
  have hFc := va_free (wc := [(h0, .inr (6, [.ref te, .ref ta, .ref lo, .ref su, .ref pt, .int 0, .int ti, .long 0, .int (-1), .int (-1)]))]) hD hS hA [4] rfl
  refine va_calli (va_runV (As := []) (rest := [.int (-1), .int ti, .ref lo]) ⟨hx, hb, hml, hown, hts⟩ (c_X6_weightOfAll l dC dI h0 te ta lo su pt ti H.size) (cwV 0 hts (gi_V (fun w_ h0_ => ⟨List.mem_cons_of_mem _ (List.mem_append_right _ (List.mem_append_right _ (List.mem_append_right _ (List.mem_append_left _ h0_)))), (tb_c_X6_weightOfAll w_ h0_).2⟩) (List.mem_cons_of_mem _ (List.mem_append_left _ (List.mem_of_getElem? (i := 7) rfl))) (List.mem_cons_of_mem _ (List.mem_append_left _ (List.mem_of_getElem? (i := 8) rfl))) (List.mem_cons_of_mem _ (List.mem_append_left _ (List.mem_of_getElem? (i := 9) rfl))) (List.mem_cons_of_mem _ (List.mem_append_left _ (List.mem_of_getElem? (i := 10) rfl)))) rfl rfl rfl (by decide +kernel) ⟨Nat.le_of_ble_eq_true rfl, Nat.le_of_ble_eq_true rfl⟩) ⟨fun a U g mk q => by obtain ⟨q0, q1, qP, qK, qD⟩ := q; exact ⟨q0, q1, qP, va_K.moved (u := U) (U := U.calling g mk a) (Vm.Alike.refl U.vm) qK, qD⟩, va_recv hKc hPc (ci := 6) (q0 := 0) rfl rfl, fun U hU hW => ⟨rfl, by rw [hU], by rw [hU]; exact hPc, va_K.moved hW.alike hKc, hDc.weaken (fun _ _ _ _ => trivial)⟩⟩ rfl rfl hl.1 rfl (lv_room (Nat.le_of_ble_eq_true rfl)) dX6_tick_71 ⟨Nat.le_of_ble_eq_true rfl, Nat.le_of_ble_eq_true rfl⟩) hS (fun q _ h => hFc q h) hFc (fun r_2 u t H1 locs ht hvm hw hB hz1 hk1 hS => ?_)
  obtain ⟨hP1, hK1, hD1⟩ := hB
  rw [ht] at hP1
  have hK1 := va_K.moved hvm.symm hK1
  obtain ⟨hP, hD⟩ := va_join (wr := [(lo, .inr (2, [.ref lr])), (lr, .inl (cl, 128, .inr (.inl fr))), (h1, .inr (0, [.ref te, .int wy, .long dr])), (te, .inr (9, [.int 0, .int ca, .int se])), (su, .inr (10, [.long 0, .long 0]))]) (w1 := [(h0, .inr (6, [.ref te, .ref ta, .ref lo, .ref su, .ref pt, .int 0, .int ti, .long 0, .int (-1), .int (-1)]))]) hP hD [4] [0, 1, 2, 3, 5] rfl rfl (by decide) (by decide) hk1 hFc hP1 hD1
  generalize H1 = H at hP hS ⊢
  have hP : va_P (dC, dI) vwCl [(lo, .inr (2, [.ref lr])), (lr, .inl (cl, 128, .inr (.inl fr))), (h1, .inr (0, [.ref te, .int wy, .long dr])), (te, .inr (9, [.int 0, .int ca, .int se])), (su, .inr (10, [.long 0, .long 0])), (h0, .inr (6, [.ref te, .ref ta, .ref lo, .ref su, .ref pt, .int 0, .int ti, .long 0, .int (-1), .int (-1)]))] H := hP
  have hD : va_D A [(lo, .inr (2, [.ref lr])), (lr, .inl (cl, 128, .inr (.inl fr))), (h1, .inr (0, [.ref te, .int wy, .long dr])), (te, .inr (9, [.int 0, .int ca, .int se])), (su, .inr (10, [.long 0, .long 0])), (h0, .inr (6, [.ref te, .ref ta, .ref lo, .ref su, .ref pt, .int 0, .int ti, .long 0, .int (-1), .int (-1)]))] := hD
  refine W.widen (k := 0) (n := 0) (Nat.le_of_ble_eq_true rfl) (Nat.le_of_ble_eq_true rfl) ?_
  have hw : r_2 = 0 := hw
  subst hw
  refine lv_aload_n hx hb dX6_tick_74 rfl (lv_at hl 1 rfl) ?_
  have hPc := hP.sub (ws' := [(h0, .inr (6, [.ref te, .ref ta, .ref lo, .ref su, .ref pt, .int 0, .int ti, .long 0, .int (-1), .int (-1)]))]) [5] rfl
  have hDc := hD.sub (ws' := [(h0, .inr (6, [.ref te, .ref ta, .ref lo, .ref su, .ref pt, .int 0, .int ti, .long 0, .int (-1), .int (-1)]))]) [5] (by decide) rfl
  have hKc := hK.sub (tys' := []) [] rfl
  have hFc := va_free (wc := [(h0, .inr (6, [.ref te, .ref ta, .ref lo, .ref su, .ref pt, .int 0, .int ti, .long 0, .int (-1), .int (-1)]))]) hD hS hA [5] rfl
  refine va_calll (va_runV (As := []) (rest := [.int 0, .int (-1), .int ti, .ref lo]) ⟨hx, hb, hml, hown, hts⟩ (c_X6_weightsAsBits l dC dI h0 te ta lo su pt ti H.size) (cwV 0 hts (gi_V (fun w_ h0_ => ⟨List.mem_cons_of_mem _ (List.mem_append_right _ (List.mem_append_right _ (List.mem_append_right _ (List.mem_append_right _ (List.mem_append_left _ h0_))))), (tb_c_X6_weightsAsBits w_ h0_).2⟩) (List.mem_cons_of_mem _ (List.mem_append_left _ (List.mem_of_getElem? (i := 11) rfl))) (List.mem_cons_of_mem _ (List.mem_append_left _ (List.mem_of_getElem? (i := 12) rfl))) (List.mem_cons_of_mem _ (List.mem_append_left _ (List.mem_of_getElem? (i := 13) rfl))) (List.mem_cons_of_mem _ (List.mem_append_left _ (List.mem_of_getElem? (i := 10) rfl)))) rfl rfl rfl (by decide +kernel) ⟨Nat.le_of_ble_eq_true rfl, Nat.le_of_ble_eq_true rfl⟩) ⟨fun a U g mk q => by obtain ⟨q0, q1, qP, qK, qD⟩ := q; exact ⟨q0, q1, qP, va_K.moved (u := U) (U := U.calling g mk a) (Vm.Alike.refl U.vm) qK, qD⟩, va_recv hKc hPc (ci := 6) (q0 := 0) rfl rfl, fun U hU hW => ⟨rfl, by rw [hU], by rw [hU]; exact hPc, va_K.moved hW.alike hKc, hDc.weaken (fun _ _ _ _ => trivial)⟩⟩ rfl rfl hl.1 rfl (lv_room (Nat.le_of_ble_eq_true rfl)) dX6_tick_75 ⟨Nat.le_of_ble_eq_true rfl, Nat.le_of_ble_eq_true rfl⟩) hS (fun q _ h => hFc q h) hFc (fun r_3 u t H1 locs ht hvm hw hB hz1 hk1 hS => ?_)
  obtain ⟨hP1, hK1, hD1⟩ := hB
  rw [ht] at hP1
  have hK1 := va_K.moved hvm.symm hK1
  obtain ⟨hP, hD⟩ := va_join (wr := [(lo, .inr (2, [.ref lr])), (lr, .inl (cl, 128, .inr (.inl fr))), (h1, .inr (0, [.ref te, .int wy, .long dr])), (te, .inr (9, [.int 0, .int ca, .int se])), (su, .inr (10, [.long 0, .long 0]))]) (w1 := [(h0, .inr (6, [.ref te, .ref ta, .ref lo, .ref su, .ref pt, .int 0, .int ti, .long 0, .int (-1), .int (-1)]))]) hP hD [5] [0, 1, 2, 3, 4] rfl rfl (by decide) (by decide) hk1 hFc hP1 hD1
  generalize H1 = H at hP hS ⊢
  have hP : va_P (dC, dI) vwCl [(lo, .inr (2, [.ref lr])), (lr, .inl (cl, 128, .inr (.inl fr))), (h1, .inr (0, [.ref te, .int wy, .long dr])), (te, .inr (9, [.int 0, .int ca, .int se])), (su, .inr (10, [.long 0, .long 0])), (h0, .inr (6, [.ref te, .ref ta, .ref lo, .ref su, .ref pt, .int 0, .int ti, .long 0, .int (-1), .int (-1)]))] H := hP
  have hD : va_D A [(lo, .inr (2, [.ref lr])), (lr, .inl (cl, 128, .inr (.inl fr))), (h1, .inr (0, [.ref te, .int wy, .long dr])), (te, .inr (9, [.int 0, .int ca, .int se])), (su, .inr (10, [.long 0, .long 0])), (h0, .inr (6, [.ref te, .ref ta, .ref lo, .ref su, .ref pt, .int 0, .int ti, .long 0, .int (-1), .int (-1)]))] := hD
  refine W.widen (k := 0) (n := 0) (Nat.le_of_ble_eq_true rfl) (Nat.le_of_ble_eq_true rfl) ?_
  have hw : r_3 = 0 := hw
  subst hw
  have hPc := hP.sub (ws' := [(lo, .inr (2, [.ref lr])), (lr, .inl (cl, 128, .inr (.inl fr)))]) [0, 1] rfl
  have hDc := hD.sub (ws' := [(lo, .inr (2, [.ref lr])), (lr, .inl (cl, 128, .inr (.inl fr)))]) [0, 1] (by decide) rfl
  have hKc := hK.sub (tys' := [(cl, .long)]) [0] rfl
  have hFc := va_free (wc := [(lo, .inr (2, [.ref lr])), (lr, .inl (cl, 128, .inr (.inl fr)))]) hD hS hA [0, 1] rfl
  refine va_callv (va_runV (As := [.int ti, .int (-1), .int 0, .long 0]) (rest := []) ⟨hx, hb, hml, hown, hts⟩ (c_X2_put l dC dI lo ti lr cl fr H.size) (cwV 4 hts (gi_V (fun w_ h0_ => ⟨List.mem_cons_of_mem _ (List.mem_append_right _ (List.mem_append_right _ (List.mem_append_right _ (List.mem_append_right _ (List.mem_append_right _ (List.mem_append_left _ h0_)))))), (tb_c_X2_put w_ h0_).2⟩) (List.mem_cons_of_mem _ (List.mem_append_left _ (List.mem_of_getElem? (i := 14) rfl))) (List.mem_cons_of_mem _ (List.mem_append_left _ (List.mem_of_getElem? (i := 15) rfl))) (List.mem_cons_of_mem _ (List.mem_append_left _ (List.mem_of_getElem? (i := 16) rfl))) (List.mem_cons_of_mem _ (List.mem_append_left _ (List.mem_of_getElem? (i := 17) rfl)))) rfl rfl rfl (by decide +kernel) ⟨Nat.le_of_ble_eq_true rfl, Nat.le_of_ble_eq_true rfl⟩) ⟨fun a U g mk q => by obtain ⟨q0, q1, qP, qK, qD⟩ := q; exact ⟨q0, q1, qP, va_K.moved (u := U) (U := U.calling g mk a) (Vm.Alike.refl U.vm) qK, qD⟩, va_recv hKc hPc (ci := 2) (q0 := 0) rfl rfl, fun U hU hW => ⟨rfl, by rw [hU], by rw [hU]; exact hPc, va_K.moved hW.alike hKc, hDc.weaken (fun _ _ _ _ => trivial)⟩⟩ rfl rfl hl.1 rfl (lv_room (Nat.le_of_ble_eq_true rfl)) dX6_tick_78 ⟨Nat.le_of_ble_eq_true rfl, Nat.le_of_ble_eq_true rfl⟩) hS (fun q _ h => hFc q h) hFc (fun u t H1 locs ht hvm hw hB hz1 hk1 hS => ?_)
  obtain ⟨f_4, hP1, hK1, hD1⟩ := hB
  rw [ht] at hP1
  have hK1 := va_K.moved hvm.symm hK1
  obtain ⟨hP, hD⟩ := va_join (wr := [(h1, .inr (0, [.ref te, .int wy, .long dr])), (te, .inr (9, [.int 0, .int ca, .int se])), (su, .inr (10, [.long 0, .long 0])), (h0, .inr (6, [.ref te, .ref ta, .ref lo, .ref su, .ref pt, .int 0, .int ti, .long 0, .int (-1), .int (-1)]))]) (w1 := [(lo, .inr (2, [.ref lr])), (lr, .inl (cl, 128, .inr (.inl f_4)))]) hP hD [0, 1] [2, 3, 4, 5] rfl rfl (by decide) (by decide) hk1 hFc hP1 hD1
  generalize H1 = H at hP hS ⊢
  have hP : va_P (dC, dI) vwCl [(h1, .inr (0, [.ref te, .int wy, .long dr])), (te, .inr (9, [.int 0, .int ca, .int se])), (su, .inr (10, [.long 0, .long 0])), (h0, .inr (6, [.ref te, .ref ta, .ref lo, .ref su, .ref pt, .int 0, .int ti, .long 0, .int (-1), .int (-1)])), (lo, .inr (2, [.ref lr])), (lr, .inl (cl, 128, .inr (.inl f_4)))] H := hP
  have hD : va_D A [(h1, .inr (0, [.ref te, .int wy, .long dr])), (te, .inr (9, [.int 0, .int ca, .int se])), (su, .inr (10, [.long 0, .long 0])), (h0, .inr (6, [.ref te, .ref ta, .ref lo, .ref su, .ref pt, .int 0, .int ti, .long 0, .int (-1), .int (-1)])), (lo, .inr (2, [.ref lr])), (lr, .inl (cl, 128, .inr (.inl f_4)))] := hD
  refine W.widen (k := 0) (n := 0) (Nat.le_of_ble_eq_true rfl) (Nat.le_of_ble_eq_true rfl) ?_
  refine lv_aload_n hx hb dX6_tick_81 rfl (lv_at hl 1 rfl) ?_
  refine lv_iload_n hx hb dX6_tick_82 rfl (lv_at hl 0 rfl) ?_
  have hPc := hP.sub (ws' := [(h0, .inr (6, [.ref te, .ref ta, .ref lo, .ref su, .ref pt, .int 0, .int ti, .long 0, .int (-1), .int (-1)]))]) [3] rfl
  have hDc := hD.sub (ws' := [(h0, .inr (6, [.ref te, .ref ta, .ref lo, .ref su, .ref pt, .int 0, .int ti, .long 0, .int (-1), .int (-1)]))]) [3] (by decide) rfl
  have hKc := hK.sub (tys' := []) [] rfl
  have hFc := va_free (wc := [(h0, .inr (6, [.ref te, .ref ta, .ref lo, .ref su, .ref pt, .int 0, .int ti, .long 0, .int (-1), .int (-1)]))]) hD hS hA [3] rfl
  refine va_calli (va_runV (As := [.int (-1)]) (rest := []) ⟨hx, hb, hml, hown, hts⟩ (c_X6_has l dC dI h0 (-1) te ta lo su pt ti H.size) (cwV 1 hts (gi_V (fun w_ h0_ => ⟨List.mem_cons_of_mem _ (List.mem_append_right _ (List.mem_append_right _ (List.mem_append_right _ (List.mem_append_right _ (List.mem_append_right _ (List.mem_append_right _ (List.mem_append_left _ h0_))))))), (tb_c_X6_has w_ h0_).2⟩) (List.mem_cons_of_mem _ (List.mem_append_left _ (List.mem_of_getElem? (i := 18) rfl))) (List.mem_cons_of_mem _ (List.mem_append_left _ (List.mem_of_getElem? (i := 19) rfl))) (List.mem_cons_of_mem _ (List.mem_append_left _ (List.mem_of_getElem? (i := 20) rfl))) (List.mem_cons_of_mem _ (List.mem_append_left _ (List.mem_of_getElem? (i := 10) rfl)))) rfl rfl rfl (by decide +kernel) ⟨Nat.le_of_ble_eq_true rfl, Nat.le_of_ble_eq_true rfl⟩) ⟨fun a U g mk q => by obtain ⟨q0, q1, qP, qK, qD⟩ := q; exact ⟨q0, q1, qP, va_K.moved (u := U) (U := U.calling g mk a) (Vm.Alike.refl U.vm) qK, qD⟩, va_recv hKc hPc (ci := 6) (q0 := 0) rfl rfl, fun U hU hW => ⟨rfl, by rw [hU], by rw [hU]; exact hPc, va_K.moved hW.alike hKc, hDc.weaken (fun _ _ _ _ => trivial)⟩⟩ rfl rfl hl.1 rfl (lv_room (Nat.le_of_ble_eq_true rfl)) dX6_tick_83 ⟨Nat.le_of_ble_eq_true rfl, Nat.le_of_ble_eq_true rfl⟩) hS (fun q _ h => hFc q h) hFc (fun r_5 u t H1 locs ht hvm hw hB hz1 hk1 hS => ?_)
  obtain ⟨hP1, hK1, hD1⟩ := hB
  rw [ht] at hP1
  have hK1 := va_K.moved hvm.symm hK1
  obtain ⟨hP, hD⟩ := va_join (wr := [(h1, .inr (0, [.ref te, .int wy, .long dr])), (te, .inr (9, [.int 0, .int ca, .int se])), (su, .inr (10, [.long 0, .long 0])), (lo, .inr (2, [.ref lr])), (lr, .inl (cl, 128, .inr (.inl f_4)))]) (w1 := [(h0, .inr (6, [.ref te, .ref ta, .ref lo, .ref su, .ref pt, .int 0, .int ti, .long 0, .int (-1), .int (-1)]))]) hP hD [3] [0, 1, 2, 4, 5] rfl rfl (by decide) (by decide) hk1 hFc hP1 hD1
  generalize H1 = H at hP hS ⊢
  have hP : va_P (dC, dI) vwCl [(h1, .inr (0, [.ref te, .int wy, .long dr])), (te, .inr (9, [.int 0, .int ca, .int se])), (su, .inr (10, [.long 0, .long 0])), (lo, .inr (2, [.ref lr])), (lr, .inl (cl, 128, .inr (.inl f_4))), (h0, .inr (6, [.ref te, .ref ta, .ref lo, .ref su, .ref pt, .int 0, .int ti, .long 0, .int (-1), .int (-1)]))] H := hP
  have hD : va_D A [(h1, .inr (0, [.ref te, .int wy, .long dr])), (te, .inr (9, [.int 0, .int ca, .int se])), (su, .inr (10, [.long 0, .long 0])), (lo, .inr (2, [.ref lr])), (lr, .inl (cl, 128, .inr (.inl f_4))), (h0, .inr (6, [.ref te, .ref ta, .ref lo, .ref su, .ref pt, .int 0, .int ti, .long 0, .int (-1), .int (-1)]))] := hD
  refine W.widen (k := 0) (n := 0) (Nat.le_of_ble_eq_true rfl) (Nat.le_of_ble_eq_true rfl) ?_
  have hw : r_5 = 0 := hw
  subst hw
  refine lv_if_eq (tgt := 112) hx hb dX6_tick_86 (by decide) (fun _ => ?_) (fun c => absurd (by decide) c)
  refine lv_aload_n hx hb dX6_tick_112 rfl (lv_at hl 1 rfl) ?_
  refine lv_iconst (v := (-1)) hx hb dX6_tick_113 (by decide) ?_
  refine va_put (D := (dC, dI)) (ci := 6) (v := .int (-1)) (ty := .int) (C := RX6) (T := TX6) (N := 10) hx hb hts (fun _ h0_ => List.mem_cons_of_mem _ (List.mem_append_right _ (List.mem_append_left _ h0_))) tyX6 tyX6_ok nmX6 hown hK hP hD hS 5 rfl rfl 9 (by decide) (hts (.fieldLink RX6 38 "DeadlineShare$State" "holder" "I") (List.mem_cons_of_mem _ (List.mem_append_left _ (List.mem_of_getElem? (i := 21) rfl)))) (fun _ h9 => h9) rfl (by decide +kernel) rfl rfl (Nat.le_of_ble_eq_true rfl) dX6_tick_114 (fun H locs hP hD hS => ?_)
  have hP : va_P (dC, dI) vwCl [(h1, .inr (0, [.ref te, .int wy, .long dr])), (te, .inr (9, [.int 0, .int ca, .int se])), (su, .inr (10, [.long 0, .long 0])), (lo, .inr (2, [.ref lr])), (lr, .inl (cl, 128, .inr (.inl f_4))), (h0, .inr (6, [.ref te, .ref ta, .ref lo, .ref su, .ref pt, .int 0, .int ti, .long 0, .int (-1), .int (-1)]))] H := hP
  have hD : va_D A [(h1, .inr (0, [.ref te, .int wy, .long dr])), (te, .inr (9, [.int 0, .int ca, .int se])), (su, .inr (10, [.long 0, .long 0])), (lo, .inr (2, [.ref lr])), (lr, .inl (cl, 128, .inr (.inl f_4))), (h0, .inr (6, [.ref te, .ref ta, .ref lo, .ref su, .ref pt, .int 0, .int ti, .long 0, .int (-1), .int (-1)]))] := hD
  refine lv_aload_n hx hb dX6_tick_117 rfl (lv_at hl 1 rfl) ?_
  refine lv_dup hx hb dX6_tick_118 rfl ?_
  refine va_get (D := (dC, dI)) (ci := 6) (v := .int ti) (C := RX6) (T := TX6) (N := 10) hx hb hts (fun _ h0_ => List.mem_cons_of_mem _ (List.mem_append_right _ (List.mem_append_left _ h0_))) hown hK hP 5 rfl rfl 6 (by decide) (hts (.fieldLink RX6 58 "DeadlineShare$State" "time" "I") (List.mem_cons_of_mem _ (List.mem_append_left _ (List.mem_of_getElem? (i := 6) rfl)))) (fun _ h9 => h9) rfl dX6_tick_119 ?_
  refine lv_iconst (v := 1) hx hb dX6_tick_122 (by decide) ?_
  refine lv_iadd hx hb dX6_tick_123 ?_
  refine lv_topi (fun v_6 ev_6 => ?_)
  refine va_put (D := (dC, dI)) (ci := 6) (v := .int v_6) (ty := .int) (C := RX6) (T := TX6) (N := 10) hx hb hts (fun _ h0_ => List.mem_cons_of_mem _ (List.mem_append_right _ (List.mem_append_left _ h0_))) tyX6 tyX6_ok nmX6 hown hK hP hD hS 5 rfl rfl 6 (by decide) (hts (.fieldLink RX6 58 "DeadlineShare$State" "time" "I") (List.mem_cons_of_mem _ (List.mem_append_left _ (List.mem_of_getElem? (i := 6) rfl)))) (fun _ h9 => h9) rfl (by decide +kernel) rfl rfl (Nat.le_of_ble_eq_true rfl) dX6_tick_124 (fun H locs hP hD hS => ?_)
  have hP : va_P (dC, dI) vwCl [(h1, .inr (0, [.ref te, .int wy, .long dr])), (te, .inr (9, [.int 0, .int ca, .int se])), (su, .inr (10, [.long 0, .long 0])), (lo, .inr (2, [.ref lr])), (lr, .inl (cl, 128, .inr (.inl f_4))), (h0, .inr (6, [.ref te, .ref ta, .ref lo, .ref su, .ref pt, .int 0, .int v_6, .long 0, .int (-1), .int (-1)]))] H := hP
  have hD : va_D A [(h1, .inr (0, [.ref te, .int wy, .long dr])), (te, .inr (9, [.int 0, .int ca, .int se])), (su, .inr (10, [.long 0, .long 0])), (lo, .inr (2, [.ref lr])), (lr, .inl (cl, 128, .inr (.inl f_4))), (h0, .inr (6, [.ref te, .ref ta, .ref lo, .ref su, .ref pt, .int 0, .int v_6, .long 0, .int (-1), .int (-1)]))] := hD
  refine lv_iload_n hx hb dX6_tick_127 rfl (lv_at hl 0 rfl) ?_
  have hP9 := hP.sub (ws' := [(h0, .inr (6, [.ref te, .ref ta, .ref lo, .ref su, .ref pt, .int 0, .int v_6, .long 0, .int (-1), .int (-1)])), (h1, .inr (0, [.ref te, .int wy, .long dr])), (te, .inr (9, [.int 0, .int ca, .int se])), (su, .inr (10, [.long 0, .long 0])), (lo, .inr (2, [.ref lr])), (lr, .inl (cl, 128, .inr (.inl f_4)))]) [5, 0, 1, 2, 3, 4] rfl
  have hD9 := hD.sub (ws' := [(h0, .inr (6, [.ref te, .ref ta, .ref lo, .ref su, .ref pt, .int 0, .int v_6, .long 0, .int (-1), .int (-1)])), (h1, .inr (0, [.ref te, .int wy, .long dr])), (te, .inr (9, [.int 0, .int ca, .int se])), (su, .inr (10, [.long 0, .long 0])), (lo, .inr (2, [.ref lr])), (lr, .inl (cl, 128, .inr (.inl f_4)))]) [5, 0, 1, 2, 3, 4] (by decide) rfl
  have hK9 := hK.sub (tys' := [(cl, .long)]) [0] rfl
  refine W.widen (k := 0) (n := 0) (Nat.le_of_ble_eq_true rfl) (Nat.le_of_ble_eq_true rfl) ?_
  exact W.iret (v := (-1)) hx hb hr (fun t ht hW => ⟨⟨(-1), (), rfl, rfl, v_6, f_4, by rw [ht]; exact hP9, va_K.moved hW.alike hK9, hD9⟩, hS.F ht⟩) hS.2.2 dX6_tick_128
def ow_c_X2_copy : List Cond := [.fieldLink RX2 11 "DeadlineShare$Log" "rows" "[J", .methodLink RX2 15 arraycopyName, .native arraycopyName, .static arraycopyName, .initialized "java/lang/System"]
def wq_c_X2_copy : List Cond := .code yX2_copy cX2_copy 2 none :: (ow_c_X2_copy ++ (u_ws RX2 TX2 1 ++ ([] : List Cond)))
theorem tb_c_X2_copy : ∀ w ∈ wq_c_X2_copy, q_g w := by
  unfold wq_c_X2_copy ow_c_X2_copy
  exact q_cons tw_221 (q_app (q_cons tw_27 (q_cons tw_220 (q_cons tw_219 (q_cons tw_218 (q_cons tw_217 q_nil))))) (q_app tu_X2 q_nil))
set_option maxHeartbeats 4000000 in
set_option maxRecDepth 100000 in
theorem c_X2_copy (l : Launch) (dC : Nat → ClassId) (dI : Nat → Nat → Nat) (h0 : Nat) (h1 : Nat) (r0 : Nat) (c0 : ClassId) (f0 : Nat → Int64) (r1 : Nat) (c1 : ClassId) (f1 : Nat → Int64) (sz : Nat) : Met l yX2_copy wq_c_X2_copy ({ frames := 1, cells := 0, slots := 0, locals := 40 } : Room) (va_Pc [.ref h0, .ref h1] (fun U => U.heap.size = sz ∧ va_P (dC, dI) vwCl [(h0, .inr (2, [.ref r0])), (r0, .inl (c0, 128, .inr (.inl f0))), (h1, .inr (2, [.ref r1])), (r1, .inl (c1, 128, .inr (.inl f1)))] U.heap ∧ va_K (dC, dI) vwCl [(c0, .long), (c1, .long)] U ∧ va_D (fun _ => True) [(h0, .inr (2, [.ref r0])), (r0, .inl (c0, 128, .inr (.inl f0))), (h1, .inr (2, [.ref r1])), (r1, .inl (c1, 128, .inr (.inl f1)))])) (va_Qv (fun (_ : Unit) => True) (fun (_ : Unit) t => ∃ (f2 : Nat → Int64), va_P (dC, dI) vwCl [(h0, .inr (2, [.ref r0])), (r0, .inl (c0, 128, .inr (.inl f2))), (h1, .inr (2, [.ref r1])), (r1, .inl (c1, 128, .inr (.inl f1)))] t.heap ∧ va_K (dC, dI) vwCl [(c0, .long), (c1, .long)] t ∧ va_D (va_A [(h0, .inr (2, [.ref r0])), (r0, .inl (c0, 128, .inr (.inl f0))), (h1, .inr (2, [.ref r1])), (r1, .inl (c1, 128, .inr (.inl f1)))] sz) [(h0, .inr (2, [.ref r0])), (r0, .inl (c0, 128, .inr (.inl f2))), (h1, .inr (2, [.ref r1])), (r1, .inl (c1, 128, .inr (.inl f1)))]) (va_A [(h0, .inr (2, [.ref r0])), (r0, .inl (c0, 128, .inr (.inl f0))), (h1, .inr (2, [.ref r1])), (r1, .inl (c1, 128, .inr (.inl f1)))] sz)) 0 0 (va_A [(h0, .inr (2, [.ref r0])), (r0, .inl (c0, 128, .inr (.inl f0))), (h1, .inr (2, [.ref r1])), (r1, .inl (c1, 128, .inr (.inl f1)))] sz) := by
  refine Met.ofW (cc := cX2_copy) (maxL := 2) (ret := none) (by decide) rfl ?_
  intro p e s m args below meth c s₁ B hml hv
  obtain ⟨rfl, hsz, hP, hK, hD0⟩ := hv
  have hx := B.exec
  have hb := B.bytes
  have hr := B.returns
  have hts := atoms_spec (ws := wq_c_X2_copy) B.pre
  have hown : s.vm.findClass RX2 = some m.cls := findClass_of_methodNamed B.named
  have hlocks := B.notSynchronized
  subst hsz
  have hD := hD0.self (sz := s.heap.size)
  obtain ⟨A, hAe⟩ : ∃ A, A = va_A [(h0, .inr (2, [.ref r0])), (r0, .inl (c0, 128, .inr (.inl f0))), (h1, .inr (2, [.ref r1])), (r1, .inl (c1, 128, .inr (.inl f1)))] s.heap.size := ⟨_, rfl⟩
  rw [← hAe] at hD ⊢
  have hA : ∀ q : Nat, s.heap.size ≤ q → A q := fun q h => by rw [hAe]; exact Or.inr h
  have hS : va_S A s.heap s.heap [] := va_S.rf
  have hP : va_P (dC, dI) vwCl [(h0, .inr (2, [.ref r0])), (r0, .inl (c0, 128, .inr (.inl f0))), (h1, .inr (2, [.ref r1])), (r1, .inl (c1, 128, .inr (.inl f1)))] s.heap := hP
  have hl := lv_entry ([.ref h0, .ref h1]) (n := 2) (Nat.le_of_ble_eq_true rfl)
  rw [lg_entry_eq]
  generalize (lg_sl ([.ref h0, .ref h1]) ++ List.replicate (2 - (lg_sl ([.ref h0, .ref h1])).length) Slot.unset).toArray = ls at hl ⊢
  have hl : lv_has ls 2 [(0, .ref h0), (1, .ref h1)] := hl
  refine lv_aload_n hx hb dX2_copy_0 rfl (lv_at hl 1 rfl) ?_
  refine va_get (D := (dC, dI)) (ci := 2) (v := .ref r1) (C := RX2) (T := TX2) (N := 1) hx hb hts (fun _ h0_ => List.mem_cons_of_mem _ (List.mem_append_right _ (List.mem_append_left _ h0_))) hown hK hP 2 rfl rfl 0 (by decide) (hts (.fieldLink RX2 11 "DeadlineShare$Log" "rows" "[J") (List.mem_cons_of_mem _ (List.mem_append_left _ (List.mem_of_getElem? (i := 0) rfl)))) (fun _ h9 => h9) rfl dX2_copy_1 ?_
  refine lv_iconst (v := 0) hx hb dX2_copy_4 (by decide) ?_
  refine lv_aload_n hx hb dX2_copy_5 rfl (lv_at hl 0 rfl) ?_
  refine va_get (D := (dC, dI)) (ci := 2) (v := .ref r0) (C := RX2) (T := TX2) (N := 1) hx hb hts (fun _ h0_ => List.mem_cons_of_mem _ (List.mem_append_right _ (List.mem_append_left _ h0_))) hown hK hP 0 rfl rfl 0 (by decide) (hts (.fieldLink RX2 11 "DeadlineShare$Log" "rows" "[J") (List.mem_cons_of_mem _ (List.mem_append_left _ (List.mem_of_getElem? (i := 0) rfl)))) (fun _ h9 => h9) rfl dX2_copy_6 ?_
  refine lv_iconst (v := 0) hx hb dX2_copy_9 (by decide) ?_
  refine lv_sipush (v := 128) hx hb dX2_copy_10 (by decide) ?_
  refine va_copyl hx hb (by rw [hml]; exact hl.1.symm) hown (hts (.methodLink RX2 15 arraycopyName) (List.mem_cons_of_mem _ (List.mem_append_left _ (List.mem_of_getElem? (i := 1) rfl)))) (hts (.native arraycopyName) (List.mem_cons_of_mem _ (List.mem_append_left _ (List.mem_of_getElem? (i := 2) rfl)))) (hts (.static arraycopyName) (List.mem_cons_of_mem _ (List.mem_append_left _ (List.mem_of_getElem? (i := 3) rfl)))) (hts (.initialized "java/lang/System") (List.mem_cons_of_mem _ (List.mem_append_left _ (List.mem_of_getElem? (i := 4) rfl)))) hK hP hD hS 3 1 1 0 rfl rfl rfl rfl rfl (by decide) (by decide) (by decide) (by decide) (by decide) (fun _ _ => rfl) (Nat.le_of_ble_eq_true rfl) (Nat.le_of_ble_eq_true rfl) dX2_copy_13 (fun H locs hP hD hS => ?_)
  have hP : va_P (dC, dI) vwCl [(h0, .inr (2, [.ref r0])), (r0, .inl (c0, 128, .inr (.inl (va_cpy f1 f0 (Int32.toNatClampNeg 0) (Int32.toNatClampNeg 0) (Int32.toNatClampNeg 128))))), (h1, .inr (2, [.ref r1])), (r1, .inl (c1, 128, .inr (.inl f1)))] H := hP
  have hD : va_D A [(h0, .inr (2, [.ref r0])), (r0, .inl (c0, 128, .inr (.inl (va_cpy f1 f0 (Int32.toNatClampNeg 0) (Int32.toNatClampNeg 0) (Int32.toNatClampNeg 128))))), (h1, .inr (2, [.ref r1])), (r1, .inl (c1, 128, .inr (.inl f1)))] := hD
  generalize ef_1 : va_cpy f1 f0 (Int32.toNatClampNeg 0) (Int32.toNatClampNeg 0) (Int32.toNatClampNeg 128) = f_1 at hP hD
  have hP9 := hP.sub (ws' := [(h0, .inr (2, [.ref r0])), (r0, .inl (c0, 128, .inr (.inl f_1))), (h1, .inr (2, [.ref r1])), (r1, .inl (c1, 128, .inr (.inl f1)))]) [0, 1, 2, 3] rfl
  have hD9 := hD.sub (ws' := [(h0, .inr (2, [.ref r0])), (r0, .inl (c0, 128, .inr (.inl f_1))), (h1, .inr (2, [.ref r1])), (r1, .inl (c1, 128, .inr (.inl f1)))]) [0, 1, 2, 3] (by decide) rfl
  have hK9 := hK.sub (tys' := [(c0, .long), (c1, .long)]) [0, 1] rfl
  refine W.widen (k := 0) (n := 0) (Nat.le_of_ble_eq_true rfl) (Nat.le_of_ble_eq_true rfl) ?_
  exact W.vret hx hb hr (fun t ht hW => ⟨⟨(), rfl, trivial, f_1, by rw [ht]; exact hP9, va_K.moved hW.alike hK9, hD9⟩, hS.F ht⟩) hS.2.2 dX2_copy_16
def ow_c_X6_copy : List Cond := [.fieldLink RX6 48 "DeadlineShare$State" "count" "I", .fieldLink RX6 20 "DeadlineShare$State" "log" "LDeadlineShare$Log;", .methodLink RX6 55 yX2_copy, .instanceMethod yX2_copy, .selects RX2 yX2_copy yX2_copy, .initialized RX2, .fieldLink RX6 58 "DeadlineShare$State" "time" "I", .fieldLink RX6 61 "DeadlineShare$State" "rest" "J", .fieldLink RX6 34 "DeadlineShare$State" "last" "I", .fieldLink RX6 38 "DeadlineShare$State" "holder" "I"]
def wq_c_X6_copy : List Cond := .code yX6_copy cX6_copy 3 none :: (ow_c_X6_copy ++ (u_ws RX6 TX6 10 ++ (wq_c_X2_copy ++ ([] : List Cond))))
theorem tb_c_X6_copy : ∀ w ∈ wq_c_X6_copy, q_g w := by
  unfold wq_c_X6_copy ow_c_X6_copy
  exact q_cons tw_225 (q_app (q_cons tw_135 (q_cons tw_61 (q_cons tw_224 (q_cons tw_223 (q_cons tw_222 (q_cons tw_63 (q_cons tw_176 (q_cons tw_138 (q_cons tw_57 (q_cons tw_56 q_nil)))))))))) (q_app tu_X6 (q_app tb_c_X2_copy q_nil)))
set_option maxHeartbeats 4000000 in
set_option maxRecDepth 100000 in
theorem c_X6_copy (l : Launch) (dC : Nat → ClassId) (dI : Nat → Nat → Nat) (h0 : Nat) (h1 : Nat) (te : Nat) (ta : Nat) (lo : Nat) (su : Nat) (pt : Nat) (ti : Int32) (te1 : Nat) (ta1 : Nat) (lo1 : Nat) (su1 : Nat) (pt1 : Nat) (ti1 : Int32) (r0 : Nat) (c0 : ClassId) (f0 : Nat → Int64) (r1 : Nat) (c1 : ClassId) (f1 : Nat → Int64) (sz : Nat) : Met l yX6_copy wq_c_X6_copy ({ frames := 2, cells := 0, slots := 0, locals := 61 } : Room) (va_Pc [.ref h0, .ref h1] (fun U => U.heap.size = sz ∧ va_P (dC, dI) vwCl [(h0, .inr (6, [.ref te, .ref ta, .ref lo, .ref su, .ref pt, .int 0, .int ti, .long 0, .int (-1), .int (-1)])), (h1, .inr (6, [.ref te1, .ref ta1, .ref lo1, .ref su1, .ref pt1, .int 0, .int ti1, .long 0, .int (-1), .int (-1)])), (lo, .inr (2, [.ref r0])), (r0, .inl (c0, 128, .inr (.inl f0))), (lo1, .inr (2, [.ref r1])), (r1, .inl (c1, 128, .inr (.inl f1)))] U.heap ∧ va_K (dC, dI) vwCl [(c0, .long), (c1, .long)] U ∧ va_D (fun _ => True) [(h0, .inr (6, [.ref te, .ref ta, .ref lo, .ref su, .ref pt, .int 0, .int ti, .long 0, .int (-1), .int (-1)])), (h1, .inr (6, [.ref te1, .ref ta1, .ref lo1, .ref su1, .ref pt1, .int 0, .int ti1, .long 0, .int (-1), .int (-1)])), (lo, .inr (2, [.ref r0])), (r0, .inl (c0, 128, .inr (.inl f0))), (lo1, .inr (2, [.ref r1])), (r1, .inl (c1, 128, .inr (.inl f1)))])) (va_Qv (fun (_ : Unit) => True) (fun (_ : Unit) t => ∃ (f2 : Nat → Int64), va_P (dC, dI) vwCl [(h0, .inr (6, [.ref te, .ref ta, .ref lo, .ref su, .ref pt, .int 0, .int ti1, .long 0, .int (-1), .int (-1)])), (h1, .inr (6, [.ref te1, .ref ta1, .ref lo1, .ref su1, .ref pt1, .int 0, .int ti1, .long 0, .int (-1), .int (-1)])), (lo, .inr (2, [.ref r0])), (r0, .inl (c0, 128, .inr (.inl f2))), (lo1, .inr (2, [.ref r1])), (r1, .inl (c1, 128, .inr (.inl f1)))] t.heap ∧ va_K (dC, dI) vwCl [(c0, .long), (c1, .long)] t ∧ va_D (va_A [(h0, .inr (6, [.ref te, .ref ta, .ref lo, .ref su, .ref pt, .int 0, .int ti, .long 0, .int (-1), .int (-1)])), (h1, .inr (6, [.ref te1, .ref ta1, .ref lo1, .ref su1, .ref pt1, .int 0, .int ti1, .long 0, .int (-1), .int (-1)])), (lo, .inr (2, [.ref r0])), (r0, .inl (c0, 128, .inr (.inl f0))), (lo1, .inr (2, [.ref r1])), (r1, .inl (c1, 128, .inr (.inl f1)))] sz) [(h0, .inr (6, [.ref te, .ref ta, .ref lo, .ref su, .ref pt, .int 0, .int ti1, .long 0, .int (-1), .int (-1)])), (h1, .inr (6, [.ref te1, .ref ta1, .ref lo1, .ref su1, .ref pt1, .int 0, .int ti1, .long 0, .int (-1), .int (-1)])), (lo, .inr (2, [.ref r0])), (r0, .inl (c0, 128, .inr (.inl f2))), (lo1, .inr (2, [.ref r1])), (r1, .inl (c1, 128, .inr (.inl f1)))]) (va_A [(h0, .inr (6, [.ref te, .ref ta, .ref lo, .ref su, .ref pt, .int 0, .int ti, .long 0, .int (-1), .int (-1)])), (h1, .inr (6, [.ref te1, .ref ta1, .ref lo1, .ref su1, .ref pt1, .int 0, .int ti1, .long 0, .int (-1), .int (-1)])), (lo, .inr (2, [.ref r0])), (r0, .inl (c0, 128, .inr (.inl f0))), (lo1, .inr (2, [.ref r1])), (r1, .inl (c1, 128, .inr (.inl f1)))] sz)) 0 0 (va_A [(h0, .inr (6, [.ref te, .ref ta, .ref lo, .ref su, .ref pt, .int 0, .int ti, .long 0, .int (-1), .int (-1)])), (h1, .inr (6, [.ref te1, .ref ta1, .ref lo1, .ref su1, .ref pt1, .int 0, .int ti1, .long 0, .int (-1), .int (-1)])), (lo, .inr (2, [.ref r0])), (r0, .inl (c0, 128, .inr (.inl f0))), (lo1, .inr (2, [.ref r1])), (r1, .inl (c1, 128, .inr (.inl f1)))] sz) := by
  refine Met.ofW (cc := cX6_copy) (maxL := 3) (ret := none) (by decide) rfl ?_
  intro p e s m args below meth c s₁ B hml hv
  obtain ⟨rfl, hsz, hP, hK, hD0⟩ := hv
  have hx := B.exec
  have hb := B.bytes
  have hr := B.returns
  have hts := atoms_spec (ws := wq_c_X6_copy) B.pre
  have hown : s.vm.findClass RX6 = some m.cls := findClass_of_methodNamed B.named
  have hlocks := B.notSynchronized
  subst hsz
  have hD := hD0.self (sz := s.heap.size)
  obtain ⟨A, hAe⟩ : ∃ A, A = va_A [(h0, .inr (6, [.ref te, .ref ta, .ref lo, .ref su, .ref pt, .int 0, .int ti, .long 0, .int (-1), .int (-1)])), (h1, .inr (6, [.ref te1, .ref ta1, .ref lo1, .ref su1, .ref pt1, .int 0, .int ti1, .long 0, .int (-1), .int (-1)])), (lo, .inr (2, [.ref r0])), (r0, .inl (c0, 128, .inr (.inl f0))), (lo1, .inr (2, [.ref r1])), (r1, .inl (c1, 128, .inr (.inl f1)))] s.heap.size := ⟨_, rfl⟩
  rw [← hAe] at hD ⊢
  have hA : ∀ q : Nat, s.heap.size ≤ q → A q := fun q h => by rw [hAe]; exact Or.inr h
  have hS : va_S A s.heap s.heap [] := va_S.rf
  have hP : va_P (dC, dI) vwCl [(h0, .inr (6, [.ref te, .ref ta, .ref lo, .ref su, .ref pt, .int 0, .int ti, .long 0, .int (-1), .int (-1)])), (h1, .inr (6, [.ref te1, .ref ta1, .ref lo1, .ref su1, .ref pt1, .int 0, .int ti1, .long 0, .int (-1), .int (-1)])), (lo, .inr (2, [.ref r0])), (r0, .inl (c0, 128, .inr (.inl f0))), (lo1, .inr (2, [.ref r1])), (r1, .inl (c1, 128, .inr (.inl f1)))] s.heap := hP
  have hl := lv_entry ([.ref h0, .ref h1]) (n := 3) (Nat.le_of_ble_eq_true rfl)
  rw [lg_entry_eq]
  generalize (lg_sl ([.ref h0, .ref h1]) ++ List.replicate (3 - (lg_sl ([.ref h0, .ref h1])).length) Slot.unset).toArray = ls at hl ⊢
  have hl : lv_has ls 3 [(0, .ref h0), (1, .ref h1)] := hl
  refine lv_iconst (v := 0) hx hb dX6_copy_0 (by decide) ?_
  refine lv_istore_n (lv' := [(2, .int 0), (0, .ref h0), (1, .ref h1)]) hx hb dX6_copy_1 rfl hl (by decide) rfl (fun ls hl => ?_)
  refine lv_iload_n hx hb dX6_copy_2 rfl (lv_at hl 0 rfl) ?_
  refine lv_aload_n hx hb dX6_copy_3 rfl (lv_at hl 2 rfl) ?_
  refine va_get (D := (dC, dI)) (ci := 6) (v := .int 0) (C := RX6) (T := TX6) (N := 10) hx hb hts (fun _ h0_ => List.mem_cons_of_mem _ (List.mem_append_right _ (List.mem_append_left _ h0_))) hown hK hP 1 rfl rfl 5 (by decide) (hts (.fieldLink RX6 48 "DeadlineShare$State" "count" "I") (List.mem_cons_of_mem _ (List.mem_append_left _ (List.mem_of_getElem? (i := 0) rfl)))) (fun _ h9 => h9) rfl dX6_copy_4 ?_
  refine lv_icmp_ge (tgt := 31) hx hb dX6_copy_7 (by decide) (fun _ => ?_) (fun c => absurd (by decide) c)
  refine lv_aload_n hx hb dX6_copy_31 rfl (lv_at hl 1 rfl) ?_
  refine va_get (D := (dC, dI)) (ci := 6) (v := .ref lo) (C := RX6) (T := TX6) (N := 10) hx hb hts (fun _ h0_ => List.mem_cons_of_mem _ (List.mem_append_right _ (List.mem_append_left _ h0_))) hown hK hP 0 rfl rfl 2 (by decide) (hts (.fieldLink RX6 20 "DeadlineShare$State" "log" "LDeadlineShare$Log;") (List.mem_cons_of_mem _ (List.mem_append_left _ (List.mem_of_getElem? (i := 1) rfl)))) (fun _ h9 => h9) rfl dX6_copy_32 ?_
  refine lv_aload_n hx hb dX6_copy_35 rfl (lv_at hl 2 rfl) ?_
  refine va_get (D := (dC, dI)) (ci := 6) (v := .ref lo1) (C := RX6) (T := TX6) (N := 10) hx hb hts (fun _ h0_ => List.mem_cons_of_mem _ (List.mem_append_right _ (List.mem_append_left _ h0_))) hown hK hP 1 rfl rfl 2 (by decide) (hts (.fieldLink RX6 20 "DeadlineShare$State" "log" "LDeadlineShare$Log;") (List.mem_cons_of_mem _ (List.mem_append_left _ (List.mem_of_getElem? (i := 1) rfl)))) (fun _ h9 => h9) rfl dX6_copy_36 ?_
  have hPc := hP.sub (ws' := [(lo, .inr (2, [.ref r0])), (r0, .inl (c0, 128, .inr (.inl f0))), (lo1, .inr (2, [.ref r1])), (r1, .inl (c1, 128, .inr (.inl f1)))]) [2, 3, 4, 5] rfl
  have hDc := hD.sub (ws' := [(lo, .inr (2, [.ref r0])), (r0, .inl (c0, 128, .inr (.inl f0))), (lo1, .inr (2, [.ref r1])), (r1, .inl (c1, 128, .inr (.inl f1)))]) [2, 3, 4, 5] (by decide) rfl
  have hKc := hK.sub (tys' := [(c0, .long), (c1, .long)]) [0, 1] rfl
  have hFc := va_free (wc := [(lo, .inr (2, [.ref r0])), (r0, .inl (c0, 128, .inr (.inl f0))), (lo1, .inr (2, [.ref r1])), (r1, .inl (c1, 128, .inr (.inl f1)))]) hD hS hA [2, 3, 4, 5] rfl
  refine va_callv (va_runV (As := [.ref lo1]) (rest := []) ⟨hx, hb, hml, hown, hts⟩ (c_X2_copy l dC dI lo lo1 r0 c0 f0 r1 c1 f1 s.heap.size) (cwV 1 hts (gi_V (fun w_ h0_ => ⟨List.mem_cons_of_mem _ (List.mem_append_right _ (List.mem_append_right _ (List.mem_append_left _ h0_))), (tb_c_X2_copy w_ h0_).2⟩) (List.mem_cons_of_mem _ (List.mem_append_left _ (List.mem_of_getElem? (i := 2) rfl))) (List.mem_cons_of_mem _ (List.mem_append_left _ (List.mem_of_getElem? (i := 3) rfl))) (List.mem_cons_of_mem _ (List.mem_append_left _ (List.mem_of_getElem? (i := 4) rfl))) (List.mem_cons_of_mem _ (List.mem_append_left _ (List.mem_of_getElem? (i := 5) rfl)))) rfl rfl rfl (by decide +kernel) ⟨Nat.le_of_ble_eq_true rfl, Nat.le_of_ble_eq_true rfl⟩) ⟨fun a U g mk q => by obtain ⟨q0, q1, qP, qK, qD⟩ := q; exact ⟨q0, q1, qP, va_K.moved (u := U) (U := U.calling g mk a) (Vm.Alike.refl U.vm) qK, qD⟩, va_recv hKc hPc (ci := 2) (q0 := 0) rfl rfl, fun U hU hW => ⟨rfl, by rw [hU], by rw [hU]; exact hPc, va_K.moved hW.alike hKc, hDc.weaken (fun _ _ _ _ => trivial)⟩⟩ rfl rfl hl.1 rfl (lv_room (Nat.le_of_ble_eq_true rfl)) dX6_copy_39 ⟨Nat.le_of_ble_eq_true rfl, Nat.le_of_ble_eq_true rfl⟩) hS (fun q _ h => hFc q h) hFc (fun u t H1 locs ht hvm hw hB hz1 hk1 hS => ?_)
  obtain ⟨f_1, hP1, hK1, hD1⟩ := hB
  rw [ht] at hP1
  have hK1 := va_K.moved hvm.symm hK1
  obtain ⟨hP, hD⟩ := va_join (wr := [(h0, .inr (6, [.ref te, .ref ta, .ref lo, .ref su, .ref pt, .int 0, .int ti, .long 0, .int (-1), .int (-1)])), (h1, .inr (6, [.ref te1, .ref ta1, .ref lo1, .ref su1, .ref pt1, .int 0, .int ti1, .long 0, .int (-1), .int (-1)]))]) (w1 := [(lo, .inr (2, [.ref r0])), (r0, .inl (c0, 128, .inr (.inl f_1))), (lo1, .inr (2, [.ref r1])), (r1, .inl (c1, 128, .inr (.inl f1)))]) hP hD [2, 3, 4, 5] [0, 1] rfl rfl (by decide) (by decide) hk1 hFc hP1 hD1
  generalize H1 = H at hP hS ⊢
  have hP : va_P (dC, dI) vwCl [(h0, .inr (6, [.ref te, .ref ta, .ref lo, .ref su, .ref pt, .int 0, .int ti, .long 0, .int (-1), .int (-1)])), (h1, .inr (6, [.ref te1, .ref ta1, .ref lo1, .ref su1, .ref pt1, .int 0, .int ti1, .long 0, .int (-1), .int (-1)])), (lo, .inr (2, [.ref r0])), (r0, .inl (c0, 128, .inr (.inl f_1))), (lo1, .inr (2, [.ref r1])), (r1, .inl (c1, 128, .inr (.inl f1)))] H := hP
  have hD : va_D A [(h0, .inr (6, [.ref te, .ref ta, .ref lo, .ref su, .ref pt, .int 0, .int ti, .long 0, .int (-1), .int (-1)])), (h1, .inr (6, [.ref te1, .ref ta1, .ref lo1, .ref su1, .ref pt1, .int 0, .int ti1, .long 0, .int (-1), .int (-1)])), (lo, .inr (2, [.ref r0])), (r0, .inl (c0, 128, .inr (.inl f_1))), (lo1, .inr (2, [.ref r1])), (r1, .inl (c1, 128, .inr (.inl f1)))] := hD
  refine W.widen (k := 0) (n := 0) (Nat.le_of_ble_eq_true rfl) (Nat.le_of_ble_eq_true rfl) ?_
  refine lv_aload_n hx hb dX6_copy_42 rfl (lv_at hl 1 rfl) ?_
  refine lv_aload_n hx hb dX6_copy_43 rfl (lv_at hl 2 rfl) ?_
  refine va_get (D := (dC, dI)) (ci := 6) (v := .int 0) (C := RX6) (T := TX6) (N := 10) hx hb hts (fun _ h0_ => List.mem_cons_of_mem _ (List.mem_append_right _ (List.mem_append_left _ h0_))) hown hK hP 1 rfl rfl 5 (by decide) (hts (.fieldLink RX6 48 "DeadlineShare$State" "count" "I") (List.mem_cons_of_mem _ (List.mem_append_left _ (List.mem_of_getElem? (i := 0) rfl)))) (fun _ h9 => h9) rfl dX6_copy_44 ?_
  refine va_put (D := (dC, dI)) (ci := 6) (v := .int 0) (ty := .int) (C := RX6) (T := TX6) (N := 10) hx hb hts (fun _ h0_ => List.mem_cons_of_mem _ (List.mem_append_right _ (List.mem_append_left _ h0_))) tyX6 tyX6_ok nmX6 hown hK hP hD hS 0 rfl rfl 5 (by decide) (hts (.fieldLink RX6 48 "DeadlineShare$State" "count" "I") (List.mem_cons_of_mem _ (List.mem_append_left _ (List.mem_of_getElem? (i := 0) rfl)))) (fun _ h9 => h9) rfl (by decide +kernel) rfl rfl (Nat.le_of_ble_eq_true rfl) dX6_copy_47 (fun H locs hP hD hS => ?_)
  have hP : va_P (dC, dI) vwCl [(h0, .inr (6, [.ref te, .ref ta, .ref lo, .ref su, .ref pt, .int 0, .int ti, .long 0, .int (-1), .int (-1)])), (h1, .inr (6, [.ref te1, .ref ta1, .ref lo1, .ref su1, .ref pt1, .int 0, .int ti1, .long 0, .int (-1), .int (-1)])), (lo, .inr (2, [.ref r0])), (r0, .inl (c0, 128, .inr (.inl f_1))), (lo1, .inr (2, [.ref r1])), (r1, .inl (c1, 128, .inr (.inl f1)))] H := hP
  have hD : va_D A [(h0, .inr (6, [.ref te, .ref ta, .ref lo, .ref su, .ref pt, .int 0, .int ti, .long 0, .int (-1), .int (-1)])), (h1, .inr (6, [.ref te1, .ref ta1, .ref lo1, .ref su1, .ref pt1, .int 0, .int ti1, .long 0, .int (-1), .int (-1)])), (lo, .inr (2, [.ref r0])), (r0, .inl (c0, 128, .inr (.inl f_1))), (lo1, .inr (2, [.ref r1])), (r1, .inl (c1, 128, .inr (.inl f1)))] := hD
  refine lv_aload_n hx hb dX6_copy_50 rfl (lv_at hl 1 rfl) ?_
  refine lv_aload_n hx hb dX6_copy_51 rfl (lv_at hl 2 rfl) ?_
  refine va_get (D := (dC, dI)) (ci := 6) (v := .int ti1) (C := RX6) (T := TX6) (N := 10) hx hb hts (fun _ h0_ => List.mem_cons_of_mem _ (List.mem_append_right _ (List.mem_append_left _ h0_))) hown hK hP 1 rfl rfl 6 (by decide) (hts (.fieldLink RX6 58 "DeadlineShare$State" "time" "I") (List.mem_cons_of_mem _ (List.mem_append_left _ (List.mem_of_getElem? (i := 6) rfl)))) (fun _ h9 => h9) rfl dX6_copy_52 ?_
  refine va_put (D := (dC, dI)) (ci := 6) (v := .int ti1) (ty := .int) (C := RX6) (T := TX6) (N := 10) hx hb hts (fun _ h0_ => List.mem_cons_of_mem _ (List.mem_append_right _ (List.mem_append_left _ h0_))) tyX6 tyX6_ok nmX6 hown hK hP hD hS 0 rfl rfl 6 (by decide) (hts (.fieldLink RX6 58 "DeadlineShare$State" "time" "I") (List.mem_cons_of_mem _ (List.mem_append_left _ (List.mem_of_getElem? (i := 6) rfl)))) (fun _ h9 => h9) rfl (by decide +kernel) rfl rfl (Nat.le_of_ble_eq_true rfl) dX6_copy_55 (fun H locs hP hD hS => ?_)
  have hP : va_P (dC, dI) vwCl [(h0, .inr (6, [.ref te, .ref ta, .ref lo, .ref su, .ref pt, .int 0, .int ti1, .long 0, .int (-1), .int (-1)])), (h1, .inr (6, [.ref te1, .ref ta1, .ref lo1, .ref su1, .ref pt1, .int 0, .int ti1, .long 0, .int (-1), .int (-1)])), (lo, .inr (2, [.ref r0])), (r0, .inl (c0, 128, .inr (.inl f_1))), (lo1, .inr (2, [.ref r1])), (r1, .inl (c1, 128, .inr (.inl f1)))] H := hP
  have hD : va_D A [(h0, .inr (6, [.ref te, .ref ta, .ref lo, .ref su, .ref pt, .int 0, .int ti1, .long 0, .int (-1), .int (-1)])), (h1, .inr (6, [.ref te1, .ref ta1, .ref lo1, .ref su1, .ref pt1, .int 0, .int ti1, .long 0, .int (-1), .int (-1)])), (lo, .inr (2, [.ref r0])), (r0, .inl (c0, 128, .inr (.inl f_1))), (lo1, .inr (2, [.ref r1])), (r1, .inl (c1, 128, .inr (.inl f1)))] := hD
  refine lv_aload_n hx hb dX6_copy_58 rfl (lv_at hl 1 rfl) ?_
  refine lv_aload_n hx hb dX6_copy_59 rfl (lv_at hl 2 rfl) ?_
  refine va_get (D := (dC, dI)) (ci := 6) (v := .long 0) (C := RX6) (T := TX6) (N := 10) hx hb hts (fun _ h0_ => List.mem_cons_of_mem _ (List.mem_append_right _ (List.mem_append_left _ h0_))) hown hK hP 1 rfl rfl 7 (by decide) (hts (.fieldLink RX6 61 "DeadlineShare$State" "rest" "J") (List.mem_cons_of_mem _ (List.mem_append_left _ (List.mem_of_getElem? (i := 7) rfl)))) (fun _ h9 => h9) rfl dX6_copy_60 ?_
  refine va_put (D := (dC, dI)) (ci := 6) (v := .long 0) (ty := .long) (C := RX6) (T := TX6) (N := 10) hx hb hts (fun _ h0_ => List.mem_cons_of_mem _ (List.mem_append_right _ (List.mem_append_left _ h0_))) tyX6 tyX6_ok nmX6 hown hK hP hD hS 0 rfl rfl 7 (by decide) (hts (.fieldLink RX6 61 "DeadlineShare$State" "rest" "J") (List.mem_cons_of_mem _ (List.mem_append_left _ (List.mem_of_getElem? (i := 7) rfl)))) (fun _ h9 => h9) rfl (by decide +kernel) rfl rfl (Nat.le_of_ble_eq_true rfl) dX6_copy_63 (fun H locs hP hD hS => ?_)
  have hP : va_P (dC, dI) vwCl [(h0, .inr (6, [.ref te, .ref ta, .ref lo, .ref su, .ref pt, .int 0, .int ti1, .long 0, .int (-1), .int (-1)])), (h1, .inr (6, [.ref te1, .ref ta1, .ref lo1, .ref su1, .ref pt1, .int 0, .int ti1, .long 0, .int (-1), .int (-1)])), (lo, .inr (2, [.ref r0])), (r0, .inl (c0, 128, .inr (.inl f_1))), (lo1, .inr (2, [.ref r1])), (r1, .inl (c1, 128, .inr (.inl f1)))] H := hP
  have hD : va_D A [(h0, .inr (6, [.ref te, .ref ta, .ref lo, .ref su, .ref pt, .int 0, .int ti1, .long 0, .int (-1), .int (-1)])), (h1, .inr (6, [.ref te1, .ref ta1, .ref lo1, .ref su1, .ref pt1, .int 0, .int ti1, .long 0, .int (-1), .int (-1)])), (lo, .inr (2, [.ref r0])), (r0, .inl (c0, 128, .inr (.inl f_1))), (lo1, .inr (2, [.ref r1])), (r1, .inl (c1, 128, .inr (.inl f1)))] := hD
  refine lv_aload_n hx hb dX6_copy_66 rfl (lv_at hl 1 rfl) ?_
  refine lv_aload_n hx hb dX6_copy_67 rfl (lv_at hl 2 rfl) ?_
  refine va_get (D := (dC, dI)) (ci := 6) (v := .int (-1)) (C := RX6) (T := TX6) (N := 10) hx hb hts (fun _ h0_ => List.mem_cons_of_mem _ (List.mem_append_right _ (List.mem_append_left _ h0_))) hown hK hP 1 rfl rfl 8 (by decide) (hts (.fieldLink RX6 34 "DeadlineShare$State" "last" "I") (List.mem_cons_of_mem _ (List.mem_append_left _ (List.mem_of_getElem? (i := 8) rfl)))) (fun _ h9 => h9) rfl dX6_copy_68 ?_
  refine va_put (D := (dC, dI)) (ci := 6) (v := .int (-1)) (ty := .int) (C := RX6) (T := TX6) (N := 10) hx hb hts (fun _ h0_ => List.mem_cons_of_mem _ (List.mem_append_right _ (List.mem_append_left _ h0_))) tyX6 tyX6_ok nmX6 hown hK hP hD hS 0 rfl rfl 8 (by decide) (hts (.fieldLink RX6 34 "DeadlineShare$State" "last" "I") (List.mem_cons_of_mem _ (List.mem_append_left _ (List.mem_of_getElem? (i := 8) rfl)))) (fun _ h9 => h9) rfl (by decide +kernel) rfl rfl (Nat.le_of_ble_eq_true rfl) dX6_copy_71 (fun H locs hP hD hS => ?_)
  have hP : va_P (dC, dI) vwCl [(h0, .inr (6, [.ref te, .ref ta, .ref lo, .ref su, .ref pt, .int 0, .int ti1, .long 0, .int (-1), .int (-1)])), (h1, .inr (6, [.ref te1, .ref ta1, .ref lo1, .ref su1, .ref pt1, .int 0, .int ti1, .long 0, .int (-1), .int (-1)])), (lo, .inr (2, [.ref r0])), (r0, .inl (c0, 128, .inr (.inl f_1))), (lo1, .inr (2, [.ref r1])), (r1, .inl (c1, 128, .inr (.inl f1)))] H := hP
  have hD : va_D A [(h0, .inr (6, [.ref te, .ref ta, .ref lo, .ref su, .ref pt, .int 0, .int ti1, .long 0, .int (-1), .int (-1)])), (h1, .inr (6, [.ref te1, .ref ta1, .ref lo1, .ref su1, .ref pt1, .int 0, .int ti1, .long 0, .int (-1), .int (-1)])), (lo, .inr (2, [.ref r0])), (r0, .inl (c0, 128, .inr (.inl f_1))), (lo1, .inr (2, [.ref r1])), (r1, .inl (c1, 128, .inr (.inl f1)))] := hD
  refine lv_aload_n hx hb dX6_copy_74 rfl (lv_at hl 1 rfl) ?_
  refine lv_aload_n hx hb dX6_copy_75 rfl (lv_at hl 2 rfl) ?_
  refine va_get (D := (dC, dI)) (ci := 6) (v := .int (-1)) (C := RX6) (T := TX6) (N := 10) hx hb hts (fun _ h0_ => List.mem_cons_of_mem _ (List.mem_append_right _ (List.mem_append_left _ h0_))) hown hK hP 1 rfl rfl 9 (by decide) (hts (.fieldLink RX6 38 "DeadlineShare$State" "holder" "I") (List.mem_cons_of_mem _ (List.mem_append_left _ (List.mem_of_getElem? (i := 9) rfl)))) (fun _ h9 => h9) rfl dX6_copy_76 ?_
  refine va_put (D := (dC, dI)) (ci := 6) (v := .int (-1)) (ty := .int) (C := RX6) (T := TX6) (N := 10) hx hb hts (fun _ h0_ => List.mem_cons_of_mem _ (List.mem_append_right _ (List.mem_append_left _ h0_))) tyX6 tyX6_ok nmX6 hown hK hP hD hS 0 rfl rfl 9 (by decide) (hts (.fieldLink RX6 38 "DeadlineShare$State" "holder" "I") (List.mem_cons_of_mem _ (List.mem_append_left _ (List.mem_of_getElem? (i := 9) rfl)))) (fun _ h9 => h9) rfl (by decide +kernel) rfl rfl (Nat.le_of_ble_eq_true rfl) dX6_copy_79 (fun H locs hP hD hS => ?_)
  have hP : va_P (dC, dI) vwCl [(h0, .inr (6, [.ref te, .ref ta, .ref lo, .ref su, .ref pt, .int 0, .int ti1, .long 0, .int (-1), .int (-1)])), (h1, .inr (6, [.ref te1, .ref ta1, .ref lo1, .ref su1, .ref pt1, .int 0, .int ti1, .long 0, .int (-1), .int (-1)])), (lo, .inr (2, [.ref r0])), (r0, .inl (c0, 128, .inr (.inl f_1))), (lo1, .inr (2, [.ref r1])), (r1, .inl (c1, 128, .inr (.inl f1)))] H := hP
  have hD : va_D A [(h0, .inr (6, [.ref te, .ref ta, .ref lo, .ref su, .ref pt, .int 0, .int ti1, .long 0, .int (-1), .int (-1)])), (h1, .inr (6, [.ref te1, .ref ta1, .ref lo1, .ref su1, .ref pt1, .int 0, .int ti1, .long 0, .int (-1), .int (-1)])), (lo, .inr (2, [.ref r0])), (r0, .inl (c0, 128, .inr (.inl f_1))), (lo1, .inr (2, [.ref r1])), (r1, .inl (c1, 128, .inr (.inl f1)))] := hD
  have hP9 := hP.sub (ws' := [(h0, .inr (6, [.ref te, .ref ta, .ref lo, .ref su, .ref pt, .int 0, .int ti1, .long 0, .int (-1), .int (-1)])), (h1, .inr (6, [.ref te1, .ref ta1, .ref lo1, .ref su1, .ref pt1, .int 0, .int ti1, .long 0, .int (-1), .int (-1)])), (lo, .inr (2, [.ref r0])), (r0, .inl (c0, 128, .inr (.inl f_1))), (lo1, .inr (2, [.ref r1])), (r1, .inl (c1, 128, .inr (.inl f1)))]) [0, 1, 2, 3, 4, 5] rfl
  have hD9 := hD.sub (ws' := [(h0, .inr (6, [.ref te, .ref ta, .ref lo, .ref su, .ref pt, .int 0, .int ti1, .long 0, .int (-1), .int (-1)])), (h1, .inr (6, [.ref te1, .ref ta1, .ref lo1, .ref su1, .ref pt1, .int 0, .int ti1, .long 0, .int (-1), .int (-1)])), (lo, .inr (2, [.ref r0])), (r0, .inl (c0, 128, .inr (.inl f_1))), (lo1, .inr (2, [.ref r1])), (r1, .inl (c1, 128, .inr (.inl f1)))]) [0, 1, 2, 3, 4, 5] (by decide) rfl
  have hK9 := hK.sub (tys' := [(c0, .long), (c1, .long)]) [0, 1] rfl
  refine W.widen (k := 0) (n := 0) (Nat.le_of_ble_eq_true rfl) (Nat.le_of_ble_eq_true rfl) ?_
  exact W.vret hx hb hr (fun t ht hW => ⟨⟨(), rfl, trivial, f_1, by rw [ht]; exact hP9, va_K.moved hW.alike hK9, hD9⟩, hS.F ht⟩) hS.2.2 dX6_copy_82
def ow_c_X1_keep : List Cond := [.fieldLink RX1 24 "DeadlineShare$History" "next" "I", .fieldLink RX1 11 "DeadlineShare$History" "before" "[LDeadlineShare$State;", .methodLink RX1 28 yX6_copy, .instanceMethod yX6_copy, .selects RX6 yX6_copy yX6_copy, .initialized RX6, .fieldLink RX1 17 "DeadlineShare$History" "acts" "[I", .fieldLink RX1 32 "DeadlineShare$History" "size" "I", .methodLink RX1 35 Lib.Math.min.name, .static Lib.Math.min.name, .initialized "java/lang/Math", .code Lib.Math.min.name Lib.Math.min.code 2 (some .int)]
def wq_c_X1_keep : List Cond := .code yX1_keep cX1_keep 3 none :: (ow_c_X1_keep ++ (u_ws RX1 TX1 4 ++ (wq_c_X6_copy ++ ([] : List Cond))))
theorem tb_c_X1_keep : ∀ w ∈ wq_c_X1_keep, q_g w := by
  unfold wq_c_X1_keep ow_c_X1_keep
  exact q_cons tw_234 (q_app (q_cons tw_233 (q_cons tw_75 (q_cons tw_232 (q_cons tw_231 (q_cons tw_230 (q_cons tw_72 (q_cons tw_74 (q_cons tw_229 (q_cons tw_228 (q_cons tw_227 (q_cons tw_173 (q_cons tw_226 q_nil)))))))))))) (q_app tu_X1 (q_app tb_c_X6_copy q_nil)))
set_option maxHeartbeats 4000000 in
set_option maxRecDepth 100000 in
theorem c_X1_keep (l : Launch) (dC : Nat → ClassId) (dI : Nat → Nat → Nat) (h9 : Nat) (h1 : Nat) (act : Int32) (hbf : Nat) (hac : Nat) (cs2 : ClassId) (fb : Nat → Option Nat) (ci1 : ClassId) (h0 : Nat) (te : Nat) (ta : Nat) (lo : Nat) (su : Nat) (pt : Nat) (ti : Int32) (te1 : Nat) (ta1 : Nat) (lo1 : Nat) (su1 : Nat) (pt1 : Nat) (ti1 : Int32) (r0 : Nat) (c0 : ClassId) (f0 : Nat → Int64) (r1 : Nat) (c1 : ClassId) (f1 : Nat → Int64) (sz : Nat) (hfb : fb 0 = some h0) : Met l yX1_keep wq_c_X1_keep ({ frames := 3, cells := 0, slots := 0, locals := 83 } : Room) (va_Pc [.ref h9, .ref h1, .int act] (fun U => U.heap.size = sz ∧ va_P (dC, dI) vwCl [(h9, .inr (1, [.ref hbf, .ref hac, .int 0, .int 0])), (hbf, .inl (cs2, 10, .inr (.inr (.inr (.inr fb))))), (hac, .inl (ci1, 10, .inl (fun _ => 0))), (h0, .inr (6, [.ref te, .ref ta, .ref lo, .ref su, .ref pt, .int 0, .int ti, .long 0, .int (-1), .int (-1)])), (h1, .inr (6, [.ref te1, .ref ta1, .ref lo1, .ref su1, .ref pt1, .int 0, .int ti1, .long 0, .int (-1), .int (-1)])), (lo, .inr (2, [.ref r0])), (r0, .inl (c0, 128, .inr (.inl f0))), (lo1, .inr (2, [.ref r1])), (r1, .inl (c1, 128, .inr (.inl f1)))] U.heap ∧ va_K (dC, dI) vwCl [(cs2, .object "DeadlineShare$State"), (ci1, .int), (c0, .long), (c1, .long)] U ∧ va_D (fun _ => True) [(h9, .inr (1, [.ref hbf, .ref hac, .int 0, .int 0])), (hbf, .inl (cs2, 10, .inr (.inr (.inr (.inr fb))))), (hac, .inl (ci1, 10, .inl (fun _ => 0))), (h0, .inr (6, [.ref te, .ref ta, .ref lo, .ref su, .ref pt, .int 0, .int ti, .long 0, .int (-1), .int (-1)])), (h1, .inr (6, [.ref te1, .ref ta1, .ref lo1, .ref su1, .ref pt1, .int 0, .int ti1, .long 0, .int (-1), .int (-1)])), (lo, .inr (2, [.ref r0])), (r0, .inl (c0, 128, .inr (.inl f0))), (lo1, .inr (2, [.ref r1])), (r1, .inl (c1, 128, .inr (.inl f1)))])) (va_Qv (fun (_ : Unit) => True) (fun (_ : Unit) t => va_P (dC, dI) vwCl [(h1, .inr (6, [.ref te1, .ref ta1, .ref lo1, .ref su1, .ref pt1, .int 0, .int ti1, .long 0, .int (-1), .int (-1)])), (lo1, .inr (2, [.ref r1])), (r1, .inl (c1, 128, .inr (.inl f1)))] t.heap ∧ va_K (dC, dI) vwCl [(c1, .long)] t ∧ va_D (va_A [(h9, .inr (1, [.ref hbf, .ref hac, .int 0, .int 0])), (hbf, .inl (cs2, 10, .inr (.inr (.inr (.inr fb))))), (hac, .inl (ci1, 10, .inl (fun _ => 0))), (h0, .inr (6, [.ref te, .ref ta, .ref lo, .ref su, .ref pt, .int 0, .int ti, .long 0, .int (-1), .int (-1)])), (h1, .inr (6, [.ref te1, .ref ta1, .ref lo1, .ref su1, .ref pt1, .int 0, .int ti1, .long 0, .int (-1), .int (-1)])), (lo, .inr (2, [.ref r0])), (r0, .inl (c0, 128, .inr (.inl f0))), (lo1, .inr (2, [.ref r1])), (r1, .inl (c1, 128, .inr (.inl f1)))] sz) [(h1, .inr (6, [.ref te1, .ref ta1, .ref lo1, .ref su1, .ref pt1, .int 0, .int ti1, .long 0, .int (-1), .int (-1)])), (lo1, .inr (2, [.ref r1])), (r1, .inl (c1, 128, .inr (.inl f1)))]) (va_A [(h9, .inr (1, [.ref hbf, .ref hac, .int 0, .int 0])), (hbf, .inl (cs2, 10, .inr (.inr (.inr (.inr fb))))), (hac, .inl (ci1, 10, .inl (fun _ => 0))), (h0, .inr (6, [.ref te, .ref ta, .ref lo, .ref su, .ref pt, .int 0, .int ti, .long 0, .int (-1), .int (-1)])), (h1, .inr (6, [.ref te1, .ref ta1, .ref lo1, .ref su1, .ref pt1, .int 0, .int ti1, .long 0, .int (-1), .int (-1)])), (lo, .inr (2, [.ref r0])), (r0, .inl (c0, 128, .inr (.inl f0))), (lo1, .inr (2, [.ref r1])), (r1, .inl (c1, 128, .inr (.inl f1)))] sz)) 0 0 (va_A [(h9, .inr (1, [.ref hbf, .ref hac, .int 0, .int 0])), (hbf, .inl (cs2, 10, .inr (.inr (.inr (.inr fb))))), (hac, .inl (ci1, 10, .inl (fun _ => 0))), (h0, .inr (6, [.ref te, .ref ta, .ref lo, .ref su, .ref pt, .int 0, .int ti, .long 0, .int (-1), .int (-1)])), (h1, .inr (6, [.ref te1, .ref ta1, .ref lo1, .ref su1, .ref pt1, .int 0, .int ti1, .long 0, .int (-1), .int (-1)])), (lo, .inr (2, [.ref r0])), (r0, .inl (c0, 128, .inr (.inl f0))), (lo1, .inr (2, [.ref r1])), (r1, .inl (c1, 128, .inr (.inl f1)))] sz) := by
  refine Met.ofW (cc := cX1_keep) (maxL := 3) (ret := none) (by decide) rfl ?_
  intro p e s m args below meth c s₁ B hml hv
  obtain ⟨rfl, hsz, hP, hK, hD0⟩ := hv
  have hx := B.exec
  have hb := B.bytes
  have hr := B.returns
  have hts := atoms_spec (ws := wq_c_X1_keep) B.pre
  have hown : s.vm.findClass RX1 = some m.cls := findClass_of_methodNamed B.named
  have hlocks := B.notSynchronized
  subst hsz
  have hD := hD0.self (sz := s.heap.size)
  obtain ⟨A, hAe⟩ : ∃ A, A = va_A [(h9, .inr (1, [.ref hbf, .ref hac, .int 0, .int 0])), (hbf, .inl (cs2, 10, .inr (.inr (.inr (.inr fb))))), (hac, .inl (ci1, 10, .inl (fun _ => 0))), (h0, .inr (6, [.ref te, .ref ta, .ref lo, .ref su, .ref pt, .int 0, .int ti, .long 0, .int (-1), .int (-1)])), (h1, .inr (6, [.ref te1, .ref ta1, .ref lo1, .ref su1, .ref pt1, .int 0, .int ti1, .long 0, .int (-1), .int (-1)])), (lo, .inr (2, [.ref r0])), (r0, .inl (c0, 128, .inr (.inl f0))), (lo1, .inr (2, [.ref r1])), (r1, .inl (c1, 128, .inr (.inl f1)))] s.heap.size := ⟨_, rfl⟩
  rw [← hAe] at hD ⊢
  have hA : ∀ q : Nat, s.heap.size ≤ q → A q := fun q h => by rw [hAe]; exact Or.inr h
  have hS : va_S A s.heap s.heap [] := va_S.rf
  have hP : va_P (dC, dI) vwCl [(h9, .inr (1, [.ref hbf, .ref hac, .int 0, .int 0])), (hbf, .inl (cs2, 10, .inr (.inr (.inr (.inr fb))))), (hac, .inl (ci1, 10, .inl (fun _ => 0))), (h0, .inr (6, [.ref te, .ref ta, .ref lo, .ref su, .ref pt, .int 0, .int ti, .long 0, .int (-1), .int (-1)])), (h1, .inr (6, [.ref te1, .ref ta1, .ref lo1, .ref su1, .ref pt1, .int 0, .int ti1, .long 0, .int (-1), .int (-1)])), (lo, .inr (2, [.ref r0])), (r0, .inl (c0, 128, .inr (.inl f0))), (lo1, .inr (2, [.ref r1])), (r1, .inl (c1, 128, .inr (.inl f1)))] s.heap := hP
  have hl := lv_entry ([.ref h9, .ref h1, .int act]) (n := 3) (Nat.le_of_ble_eq_true rfl)
  rw [lg_entry_eq]
  generalize (lg_sl ([.ref h9, .ref h1, .int act]) ++ List.replicate (3 - (lg_sl ([.ref h9, .ref h1, .int act])).length) Slot.unset).toArray = ls at hl ⊢
  have hl : lv_has ls 3 [(0, .ref h9), (1, .ref h1), (2, .int act)] := hl
  refine lv_aload_n hx hb dX1_keep_0 rfl (lv_at hl 0 rfl) ?_
  refine va_get (D := (dC, dI)) (ci := 1) (v := .int 0) (C := RX1) (T := TX1) (N := 4) hx hb hts (fun _ h0_ => List.mem_cons_of_mem _ (List.mem_append_right _ (List.mem_append_left _ h0_))) hown hK hP 0 rfl rfl 2 (by decide) (hts (.fieldLink RX1 24 "DeadlineShare$History" "next" "I") (List.mem_cons_of_mem _ (List.mem_append_left _ (List.mem_of_getElem? (i := 0) rfl)))) (fun _ h9 => h9) rfl dX1_keep_1 ?_
  refine lv_if_lt (tgt := 16) hx hb dX1_keep_4 (by decide) (fun c => absurd c (by decide)) (fun _ => ?_)
  refine lv_aload_n hx hb dX1_keep_7 rfl (lv_at hl 0 rfl) ?_
  refine va_get (D := (dC, dI)) (ci := 1) (v := .int 0) (C := RX1) (T := TX1) (N := 4) hx hb hts (fun _ h0_ => List.mem_cons_of_mem _ (List.mem_append_right _ (List.mem_append_left _ h0_))) hown hK hP 0 rfl rfl 2 (by decide) (hts (.fieldLink RX1 24 "DeadlineShare$History" "next" "I") (List.mem_cons_of_mem _ (List.mem_append_left _ (List.mem_of_getElem? (i := 0) rfl)))) (fun _ h9 => h9) rfl dX1_keep_8 ?_
  refine lv_bipush (v := 10) hx hb dX1_keep_11 (by decide) ?_
  refine lv_icmp_lt (tgt := 17) hx hb dX1_keep_13 (by decide) (fun _ => ?_) (fun c => absurd (by decide) c)
  refine lv_aload_n hx hb dX1_keep_17 rfl (lv_at hl 0 rfl) ?_
  refine va_get (D := (dC, dI)) (ci := 1) (v := .ref hbf) (C := RX1) (T := TX1) (N := 4) hx hb hts (fun _ h0_ => List.mem_cons_of_mem _ (List.mem_append_right _ (List.mem_append_left _ h0_))) hown hK hP 0 rfl rfl 0 (by decide) (hts (.fieldLink RX1 11 "DeadlineShare$History" "before" "[LDeadlineShare$State;") (List.mem_cons_of_mem _ (List.mem_append_left _ (List.mem_of_getElem? (i := 1) rfl)))) (fun _ h9 => h9) rfl dX1_keep_18 ?_
  refine lv_aload_n hx hb dX1_keep_21 rfl (lv_at hl 0 rfl) ?_
  refine va_get (D := (dC, dI)) (ci := 1) (v := .int 0) (C := RX1) (T := TX1) (N := 4) hx hb hts (fun _ h0_ => List.mem_cons_of_mem _ (List.mem_append_right _ (List.mem_append_left _ h0_))) hown hK hP 0 rfl rfl 2 (by decide) (hts (.fieldLink RX1 24 "DeadlineShare$History" "next" "I") (List.mem_cons_of_mem _ (List.mem_append_left _ (List.mem_of_getElem? (i := 0) rfl)))) (fun _ h9 => h9) rfl dX1_keep_22 ?_
  refine va_aldq hx hb hK hP 1 0 rfl rfl (by unfold vp_in; decide) dX1_keep_25 ?_
  rw [show va_rf (fb (Int32.toNatClampNeg 0)) = .ref h0 from congrArg va_rf ((congrArg fb (show Int32.toNatClampNeg 0 = 0 by decide)).trans hfb)]
  refine lv_aload_n hx hb dX1_keep_26 rfl (lv_at hl 1 rfl) ?_
  have hPc := hP.sub (ws' := [(h0, .inr (6, [.ref te, .ref ta, .ref lo, .ref su, .ref pt, .int 0, .int ti, .long 0, .int (-1), .int (-1)])), (h1, .inr (6, [.ref te1, .ref ta1, .ref lo1, .ref su1, .ref pt1, .int 0, .int ti1, .long 0, .int (-1), .int (-1)])), (lo, .inr (2, [.ref r0])), (r0, .inl (c0, 128, .inr (.inl f0))), (lo1, .inr (2, [.ref r1])), (r1, .inl (c1, 128, .inr (.inl f1)))]) [3, 4, 5, 6, 7, 8] rfl
  have hDc := hD.sub (ws' := [(h0, .inr (6, [.ref te, .ref ta, .ref lo, .ref su, .ref pt, .int 0, .int ti, .long 0, .int (-1), .int (-1)])), (h1, .inr (6, [.ref te1, .ref ta1, .ref lo1, .ref su1, .ref pt1, .int 0, .int ti1, .long 0, .int (-1), .int (-1)])), (lo, .inr (2, [.ref r0])), (r0, .inl (c0, 128, .inr (.inl f0))), (lo1, .inr (2, [.ref r1])), (r1, .inl (c1, 128, .inr (.inl f1)))]) [3, 4, 5, 6, 7, 8] (by decide) rfl
  have hKc := hK.sub (tys' := [(c0, .long), (c1, .long)]) [2, 3] rfl
  have hFc := va_free (wc := [(h0, .inr (6, [.ref te, .ref ta, .ref lo, .ref su, .ref pt, .int 0, .int ti, .long 0, .int (-1), .int (-1)])), (h1, .inr (6, [.ref te1, .ref ta1, .ref lo1, .ref su1, .ref pt1, .int 0, .int ti1, .long 0, .int (-1), .int (-1)])), (lo, .inr (2, [.ref r0])), (r0, .inl (c0, 128, .inr (.inl f0))), (lo1, .inr (2, [.ref r1])), (r1, .inl (c1, 128, .inr (.inl f1)))]) hD hS hA [3, 4, 5, 6, 7, 8] rfl
  refine va_callv (va_runV (As := [.ref h1]) (rest := []) ⟨hx, hb, hml, hown, hts⟩ (c_X6_copy l dC dI h0 h1 te ta lo su pt ti te1 ta1 lo1 su1 pt1 ti1 r0 c0 f0 r1 c1 f1 s.heap.size) (cwV 1 hts (gi_V (fun w_ h0_ => ⟨List.mem_cons_of_mem _ (List.mem_append_right _ (List.mem_append_right _ (List.mem_append_left _ h0_))), (tb_c_X6_copy w_ h0_).2⟩) (List.mem_cons_of_mem _ (List.mem_append_left _ (List.mem_of_getElem? (i := 2) rfl))) (List.mem_cons_of_mem _ (List.mem_append_left _ (List.mem_of_getElem? (i := 3) rfl))) (List.mem_cons_of_mem _ (List.mem_append_left _ (List.mem_of_getElem? (i := 4) rfl))) (List.mem_cons_of_mem _ (List.mem_append_left _ (List.mem_of_getElem? (i := 5) rfl)))) rfl rfl rfl (by decide +kernel) ⟨Nat.le_of_ble_eq_true rfl, Nat.le_of_ble_eq_true rfl⟩) ⟨fun a U g mk q => by obtain ⟨q0, q1, qP, qK, qD⟩ := q; exact ⟨q0, q1, qP, va_K.moved (u := U) (U := U.calling g mk a) (Vm.Alike.refl U.vm) qK, qD⟩, va_recv hKc hPc (ci := 6) (q0 := 0) rfl rfl, fun U hU hW => ⟨rfl, by rw [hU], by rw [hU]; exact hPc, va_K.moved hW.alike hKc, hDc.weaken (fun _ _ _ _ => trivial)⟩⟩ rfl rfl hl.1 rfl (lv_room (Nat.le_of_ble_eq_true rfl)) dX1_keep_27 ⟨Nat.le_of_ble_eq_true rfl, Nat.le_of_ble_eq_true rfl⟩) hS (fun q _ h => hFc q h) hFc (fun u t H1 locs ht hvm hw hB hz1 hk1 hS => ?_)
  obtain ⟨f_1, hP1, hK1, hD1⟩ := hB
  rw [ht] at hP1
  have hK1 := va_K.moved hvm.symm hK1
  obtain ⟨hP, hD⟩ := va_join (wr := [(h9, .inr (1, [.ref hbf, .ref hac, .int 0, .int 0])), (hbf, .inl (cs2, 10, .inr (.inr (.inr (.inr fb))))), (hac, .inl (ci1, 10, .inl (fun _ => 0)))]) (w1 := [(h0, .inr (6, [.ref te, .ref ta, .ref lo, .ref su, .ref pt, .int 0, .int ti1, .long 0, .int (-1), .int (-1)])), (h1, .inr (6, [.ref te1, .ref ta1, .ref lo1, .ref su1, .ref pt1, .int 0, .int ti1, .long 0, .int (-1), .int (-1)])), (lo, .inr (2, [.ref r0])), (r0, .inl (c0, 128, .inr (.inl f_1))), (lo1, .inr (2, [.ref r1])), (r1, .inl (c1, 128, .inr (.inl f1)))]) hP hD [3, 4, 5, 6, 7, 8] [0, 1, 2] rfl rfl (by decide) (by decide) hk1 hFc hP1 hD1
  generalize H1 = H at hP hS ⊢
  have hP : va_P (dC, dI) vwCl [(h9, .inr (1, [.ref hbf, .ref hac, .int 0, .int 0])), (hbf, .inl (cs2, 10, .inr (.inr (.inr (.inr fb))))), (hac, .inl (ci1, 10, .inl (fun _ => 0))), (h0, .inr (6, [.ref te, .ref ta, .ref lo, .ref su, .ref pt, .int 0, .int ti1, .long 0, .int (-1), .int (-1)])), (h1, .inr (6, [.ref te1, .ref ta1, .ref lo1, .ref su1, .ref pt1, .int 0, .int ti1, .long 0, .int (-1), .int (-1)])), (lo, .inr (2, [.ref r0])), (r0, .inl (c0, 128, .inr (.inl f_1))), (lo1, .inr (2, [.ref r1])), (r1, .inl (c1, 128, .inr (.inl f1)))] H := hP
  have hD : va_D A [(h9, .inr (1, [.ref hbf, .ref hac, .int 0, .int 0])), (hbf, .inl (cs2, 10, .inr (.inr (.inr (.inr fb))))), (hac, .inl (ci1, 10, .inl (fun _ => 0))), (h0, .inr (6, [.ref te, .ref ta, .ref lo, .ref su, .ref pt, .int 0, .int ti1, .long 0, .int (-1), .int (-1)])), (h1, .inr (6, [.ref te1, .ref ta1, .ref lo1, .ref su1, .ref pt1, .int 0, .int ti1, .long 0, .int (-1), .int (-1)])), (lo, .inr (2, [.ref r0])), (r0, .inl (c0, 128, .inr (.inl f_1))), (lo1, .inr (2, [.ref r1])), (r1, .inl (c1, 128, .inr (.inl f1)))] := hD
  refine W.widen (k := 0) (n := 0) (Nat.le_of_ble_eq_true rfl) (Nat.le_of_ble_eq_true rfl) ?_
  refine lv_aload_n hx hb dX1_keep_30 rfl (lv_at hl 0 rfl) ?_
  refine va_get (D := (dC, dI)) (ci := 1) (v := .ref hac) (C := RX1) (T := TX1) (N := 4) hx hb hts (fun _ h0_ => List.mem_cons_of_mem _ (List.mem_append_right _ (List.mem_append_left _ h0_))) hown hK hP 0 rfl rfl 1 (by decide) (hts (.fieldLink RX1 17 "DeadlineShare$History" "acts" "[I") (List.mem_cons_of_mem _ (List.mem_append_left _ (List.mem_of_getElem? (i := 6) rfl)))) (fun _ h9 => h9) rfl dX1_keep_31 ?_
  refine lv_aload_n hx hb dX1_keep_34 rfl (lv_at hl 0 rfl) ?_
  refine va_get (D := (dC, dI)) (ci := 1) (v := .int 0) (C := RX1) (T := TX1) (N := 4) hx hb hts (fun _ h0_ => List.mem_cons_of_mem _ (List.mem_append_right _ (List.mem_append_left _ h0_))) hown hK hP 0 rfl rfl 2 (by decide) (hts (.fieldLink RX1 24 "DeadlineShare$History" "next" "I") (List.mem_cons_of_mem _ (List.mem_append_left _ (List.mem_of_getElem? (i := 0) rfl)))) (fun _ h9 => h9) rfl dX1_keep_35 ?_
  refine lv_iload_n hx hb dX1_keep_38 rfl (lv_at hl 2 rfl) ?_
  refine va_iast hx hb hK hP hD hS 2 1 rfl rfl (by unfold vp_in; decide) dX1_keep_39 (fun H locs hP hD hS => ?_)
  have hP : va_P (dC, dI) vwCl [(h9, .inr (1, [.ref hbf, .ref hac, .int 0, .int 0])), (hbf, .inl (cs2, 10, .inr (.inr (.inr (.inr fb))))), (hac, .inl (ci1, 10, .inl (upd (fun _ => 0) (Int32.toNatClampNeg 0) act))), (h0, .inr (6, [.ref te, .ref ta, .ref lo, .ref su, .ref pt, .int 0, .int ti1, .long 0, .int (-1), .int (-1)])), (h1, .inr (6, [.ref te1, .ref ta1, .ref lo1, .ref su1, .ref pt1, .int 0, .int ti1, .long 0, .int (-1), .int (-1)])), (lo, .inr (2, [.ref r0])), (r0, .inl (c0, 128, .inr (.inl f_1))), (lo1, .inr (2, [.ref r1])), (r1, .inl (c1, 128, .inr (.inl f1)))] H := hP
  have hD : va_D A [(h9, .inr (1, [.ref hbf, .ref hac, .int 0, .int 0])), (hbf, .inl (cs2, 10, .inr (.inr (.inr (.inr fb))))), (hac, .inl (ci1, 10, .inl (upd (fun _ => 0) (Int32.toNatClampNeg 0) act))), (h0, .inr (6, [.ref te, .ref ta, .ref lo, .ref su, .ref pt, .int 0, .int ti1, .long 0, .int (-1), .int (-1)])), (h1, .inr (6, [.ref te1, .ref ta1, .ref lo1, .ref su1, .ref pt1, .int 0, .int ti1, .long 0, .int (-1), .int (-1)])), (lo, .inr (2, [.ref r0])), (r0, .inl (c0, 128, .inr (.inl f_1))), (lo1, .inr (2, [.ref r1])), (r1, .inl (c1, 128, .inr (.inl f1)))] := hD
  generalize ef_2 : upd (fun _ => 0) (Int32.toNatClampNeg 0) act = f_2 at hP hD
  have k_3 : f_2 0 = act := by rw [← ef_2]; exact k_upI_eq (by decide)
  refine lv_aload_n hx hb dX1_keep_40 rfl (lv_at hl 0 rfl) ?_
  refine lv_aload_n hx hb dX1_keep_41 rfl (lv_at hl 0 rfl) ?_
  refine va_get (D := (dC, dI)) (ci := 1) (v := .int 0) (C := RX1) (T := TX1) (N := 4) hx hb hts (fun _ h0_ => List.mem_cons_of_mem _ (List.mem_append_right _ (List.mem_append_left _ h0_))) hown hK hP 0 rfl rfl 2 (by decide) (hts (.fieldLink RX1 24 "DeadlineShare$History" "next" "I") (List.mem_cons_of_mem _ (List.mem_append_left _ (List.mem_of_getElem? (i := 0) rfl)))) (fun _ h9 => h9) rfl dX1_keep_42 ?_
  refine lv_iconst (v := 1) hx hb dX1_keep_45 (by decide) ?_
  refine lv_iadd hx hb dX1_keep_46 ?_
  refine k_topi (y := 1) (by decide) ?_
  refine lv_bipush (v := 10) hx hb dX1_keep_47 (by decide) ?_
  refine lv_irem hx hb dX1_keep_49 (by decide) ?_
  refine k_topi (y := 1) (by decide) ?_
  refine va_put (D := (dC, dI)) (ci := 1) (v := .int 1) (ty := .int) (C := RX1) (T := TX1) (N := 4) hx hb hts (fun _ h0_ => List.mem_cons_of_mem _ (List.mem_append_right _ (List.mem_append_left _ h0_))) tyX1 tyX1_ok nmX1 hown hK hP hD hS 0 rfl rfl 2 (by decide) (hts (.fieldLink RX1 24 "DeadlineShare$History" "next" "I") (List.mem_cons_of_mem _ (List.mem_append_left _ (List.mem_of_getElem? (i := 0) rfl)))) (fun _ h9 => h9) rfl (by decide +kernel) rfl rfl (Nat.le_of_ble_eq_true rfl) dX1_keep_50 (fun H locs hP hD hS => ?_)
  have hP : va_P (dC, dI) vwCl [(h9, .inr (1, [.ref hbf, .ref hac, .int 1, .int 0])), (hbf, .inl (cs2, 10, .inr (.inr (.inr (.inr fb))))), (hac, .inl (ci1, 10, .inl f_2)), (h0, .inr (6, [.ref te, .ref ta, .ref lo, .ref su, .ref pt, .int 0, .int ti1, .long 0, .int (-1), .int (-1)])), (h1, .inr (6, [.ref te1, .ref ta1, .ref lo1, .ref su1, .ref pt1, .int 0, .int ti1, .long 0, .int (-1), .int (-1)])), (lo, .inr (2, [.ref r0])), (r0, .inl (c0, 128, .inr (.inl f_1))), (lo1, .inr (2, [.ref r1])), (r1, .inl (c1, 128, .inr (.inl f1)))] H := hP
  have hD : va_D A [(h9, .inr (1, [.ref hbf, .ref hac, .int 1, .int 0])), (hbf, .inl (cs2, 10, .inr (.inr (.inr (.inr fb))))), (hac, .inl (ci1, 10, .inl f_2)), (h0, .inr (6, [.ref te, .ref ta, .ref lo, .ref su, .ref pt, .int 0, .int ti1, .long 0, .int (-1), .int (-1)])), (h1, .inr (6, [.ref te1, .ref ta1, .ref lo1, .ref su1, .ref pt1, .int 0, .int ti1, .long 0, .int (-1), .int (-1)])), (lo, .inr (2, [.ref r0])), (r0, .inl (c0, 128, .inr (.inl f_1))), (lo1, .inr (2, [.ref r1])), (r1, .inl (c1, 128, .inr (.inl f1)))] := hD
  refine lv_aload_n hx hb dX1_keep_53 rfl (lv_at hl 0 rfl) ?_
  refine lv_bipush (v := 10) hx hb dX1_keep_54 (by decide) ?_
  refine lv_aload_n hx hb dX1_keep_56 rfl (lv_at hl 0 rfl) ?_
  refine va_get (D := (dC, dI)) (ci := 1) (v := .int 0) (C := RX1) (T := TX1) (N := 4) hx hb hts (fun _ h0_ => List.mem_cons_of_mem _ (List.mem_append_right _ (List.mem_append_left _ h0_))) hown hK hP 0 rfl rfl 3 (by decide) (hts (.fieldLink RX1 32 "DeadlineShare$History" "size" "I") (List.mem_cons_of_mem _ (List.mem_append_left _ (List.mem_of_getElem? (i := 7) rfl)))) (fun _ h9 => h9) rfl dX1_keep_57 ?_
  refine lv_iconst (v := 1) hx hb dX1_keep_60 (by decide) ?_
  refine lv_iadd hx hb dX1_keep_61 ?_
  refine k_topi (y := 1) (by decide) ?_
  refine va_mmin hx hb (by rw [hml]; exact hl.1.symm) hown (hts (.methodLink RX1 35 Lib.Math.min.name) (List.mem_cons_of_mem _ (List.mem_append_left _ (List.mem_of_getElem? (i := 8) rfl)))) (hts (.static Lib.Math.min.name) (List.mem_cons_of_mem _ (List.mem_append_left _ (List.mem_of_getElem? (i := 9) rfl)))) (hts (.initialized "java/lang/Math") (List.mem_cons_of_mem _ (List.mem_append_left _ (List.mem_of_getElem? (i := 10) rfl)))) (hts (.code Lib.Math.min.name Lib.Math.min.code 2 (some .int)) (List.mem_cons_of_mem _ (List.mem_append_left _ (List.mem_of_getElem? (i := 11) rfl)))) (Nat.le_of_ble_eq_true rfl) (Nat.le_of_ble_eq_true rfl) (Nat.le_of_ble_eq_true rfl) (Nat.le_of_ble_eq_true rfl) dX1_keep_62 ?_
  refine k_topi (y := 1) (by decide) ?_
  refine va_put (D := (dC, dI)) (ci := 1) (v := .int 1) (ty := .int) (C := RX1) (T := TX1) (N := 4) hx hb hts (fun _ h0_ => List.mem_cons_of_mem _ (List.mem_append_right _ (List.mem_append_left _ h0_))) tyX1 tyX1_ok nmX1 hown hK hP hD hS 0 rfl rfl 3 (by decide) (hts (.fieldLink RX1 32 "DeadlineShare$History" "size" "I") (List.mem_cons_of_mem _ (List.mem_append_left _ (List.mem_of_getElem? (i := 7) rfl)))) (fun _ h9 => h9) rfl (by decide +kernel) rfl rfl (Nat.le_of_ble_eq_true rfl) dX1_keep_65 (fun H locs hP hD hS => ?_)
  have hP : va_P (dC, dI) vwCl [(h9, .inr (1, [.ref hbf, .ref hac, .int 1, .int 1])), (hbf, .inl (cs2, 10, .inr (.inr (.inr (.inr fb))))), (hac, .inl (ci1, 10, .inl f_2)), (h0, .inr (6, [.ref te, .ref ta, .ref lo, .ref su, .ref pt, .int 0, .int ti1, .long 0, .int (-1), .int (-1)])), (h1, .inr (6, [.ref te1, .ref ta1, .ref lo1, .ref su1, .ref pt1, .int 0, .int ti1, .long 0, .int (-1), .int (-1)])), (lo, .inr (2, [.ref r0])), (r0, .inl (c0, 128, .inr (.inl f_1))), (lo1, .inr (2, [.ref r1])), (r1, .inl (c1, 128, .inr (.inl f1)))] H := hP
  have hD : va_D A [(h9, .inr (1, [.ref hbf, .ref hac, .int 1, .int 1])), (hbf, .inl (cs2, 10, .inr (.inr (.inr (.inr fb))))), (hac, .inl (ci1, 10, .inl f_2)), (h0, .inr (6, [.ref te, .ref ta, .ref lo, .ref su, .ref pt, .int 0, .int ti1, .long 0, .int (-1), .int (-1)])), (h1, .inr (6, [.ref te1, .ref ta1, .ref lo1, .ref su1, .ref pt1, .int 0, .int ti1, .long 0, .int (-1), .int (-1)])), (lo, .inr (2, [.ref r0])), (r0, .inl (c0, 128, .inr (.inl f_1))), (lo1, .inr (2, [.ref r1])), (r1, .inl (c1, 128, .inr (.inl f1)))] := hD
  have hP9 := hP.sub (ws' := [(h1, .inr (6, [.ref te1, .ref ta1, .ref lo1, .ref su1, .ref pt1, .int 0, .int ti1, .long 0, .int (-1), .int (-1)])), (lo1, .inr (2, [.ref r1])), (r1, .inl (c1, 128, .inr (.inl f1)))]) [4, 7, 8] rfl
  have hD9 := hD.sub (ws' := [(h1, .inr (6, [.ref te1, .ref ta1, .ref lo1, .ref su1, .ref pt1, .int 0, .int ti1, .long 0, .int (-1), .int (-1)])), (lo1, .inr (2, [.ref r1])), (r1, .inl (c1, 128, .inr (.inl f1)))]) [4, 7, 8] (by decide) rfl
  have hK9 := hK.sub (tys' := [(c1, .long)]) [3] rfl
  refine W.widen (k := 0) (n := 0) (Nat.le_of_ble_eq_true rfl) (Nat.le_of_ble_eq_true rfl) ?_
  exact W.vret hx hb hr (fun t ht hW => ⟨⟨(), rfl, trivial, by rw [ht]; exact hP9, va_K.moved hW.alike hK9, hD9⟩, hS.F ht⟩) hS.2.2 dX1_keep_68
